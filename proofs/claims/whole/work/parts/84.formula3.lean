/-! ===== Formula: what may begin ===== -/
section FC
variable {S : xS} {H H1 H2 H3 : xH} {k p q i j l m n c t v r sz st y : Nat} {s : uTk} {T : uTx} {w : Int64} {ws : List (Nat × Nat)} {hs : List Nat} {o b : Nat} {cd : Nat → Nat}
abbrev fmR : Type := (Nat × Nat) ⊕ (Nat × Nat × fmT)
def mrV (r : fmR) : Nat := match r with | .inl _ => 3 | .inr q => q.1
def mrQ (H H' : xH) (t : Nat) (s : uTk) (r : fmR) : Prop := Off (fun q => q = 2 ∨ (8 ≤ q ∧ q < 16) ∨ (t ≤ q ∧ q < t + 21)) H H' ∧ match r with
  | .inl (c, m) => hI H' 2 7 = nI c ∧ hI H' 2 8 = zI (kP s m) ∧ hI H' 2 6 = hI H 2 6
  | .inr (_, m, x) => TrP H' s m ∧ hI H' 2 7 = hI H 2 7 ∧ hI H' 2 8 = hI H 2 8 ∧ FmP H' t x
def hldX (k p : Nat) (x : fmT) : fmT := ((k, p) :: fmW x, fmH x, fmO x, fmX x, fmB x, fmN x)
def begX (x : fmT) : fmT := (fmW x, fmH x, fmO x, fmX x, fmB x + 1, fmN x)
def opnX (v : Nat) (x : fmT) : fmT := (fmW x, fmH x, v, fmX x, fmB x, fmN x)
def nedX (v : Int64) (x : fmT) : fmT := (fmW x, fmH x, fmO x, fmX x, fmB x, v)
def kpsX (k a c : Nat) (x : fmT) : fmT := (fmW x, tNk (fmX x) :: fmH x, fmO x, knT (fmX x) k a c, fmB x, oB (fmN x) (tNk (fmX x)))
def eitS (k st n : Nat) (x : fmT) : fmR := if k = 13 ∧ st ≠ 1 then (if 64 ≤ fmB x then .inl (2, n) else .inr (0, n + 1, hldX 13 0 (begX x))) else if k ≠ 41 then .inl (1, n) else if 8 ≤ fmO x then .inl (2, n) else .inr (0, n + 1, hldX 41 0 (opnX (fmO x + 1) x))
def knP (s : uTk) (n : Nat) (x : fmT) : Int := knoZ s n (tPn (fmX x)) (tNp (fmX x))
def knC (s : uTk) (n : Nat) (x : fmT) : Int := knoZ s n (tCn (fmX x)) (tNc (fmX x))
def knA (s : uTk) (n : Nat) (x : fmT) : Int := knoZ s n (tFn (fmX x)) (tNf (fmX x))
def knwS (s : uTk) (n : Nat) (x : fmT) : fmR := if knP s (n + 1) x = -1 then .inl (knoF s (n + 1), n + 1) else .inr (1, n + 2, hldX 16 (knP s (n + 1) x).toNat x)
def hatS (s : uTk) (n : Nat) (x : fmT) : fmR := if knP s (n + 1) x = -1 then .inl (knoF s (n + 1), n + 1) else if knC s (n + 2) x = -1 then .inl (knoF s (n + 2), n + 2) else .inr (2, n + 3, kpsX 14 (knP s (n + 1) x).toNat (knC s (n + 2) x).toNat x)
def ownS (s : uTk) (n : Nat) (x : fmT) : fmR := if knP s (n + 1) x = -1 then .inl (knoF s (n + 1), n + 1) else .inr (2, n + 2, kpsX 15 (knP s (n + 1) x).toNat 0 x)
def mnyS (s : uTk) (n : Nat) (x : fmT) : fmR := if knC s (n + 1) x = -1 then .inl (knoF s (n + 1), n + 1) else if numB s (n + 2) 6 = false then .inl (numF s (n + 2), n + 2) else .inr (2, n + 3, kpsX 19 (knC s (n + 1) x).toNat (kV s (n + 2)) x)
def asS (s : uTk) (n : Nat) (x : fmT) : fmR := if knA s (n + 1) x = -1 then .inl (knoF s (n + 1), n + 1) else .inr (2, n + 2, kpsX 20 (knA s (n + 1) x).toNat (tRo (fmX x) (knA s (n + 1) x).toNat) (nedX (fmN x ||| tNe (fmX x) (knA s (n + 1) x).toNat) x))
def leaS (s : uTk) (k n : Nat) (x : fmT) : fmR := if k = 14 then hatS s n x else if k = 15 then ownS s n x else if k = 19 then mnyS s n x else asS s n x
def facS (s : uTk) (st n : Nat) (x : fmT) : fmR := if kK s n = 14 ∨ kK s n = 15 ∨ kK s n = 19 ∨ kK s n = 20 then (if 64 ≤ fmB x then .inl (2, n) else leaS s (kK s n) n (begX x)) else if kK s n = 16 then (if 64 ≤ fmB x then .inl (2, n) else knwS s n (begX x)) else if kK s n = 17 ∨ kK s n = 18 then (if 64 ≤ fmB x then .inl (2, n) else .inr (1, n + 1, hldX (kK s n) 0 (begX x))) else eitS (kK s n) st n x
def valS (s : uTk) (st n : Nat) (x : fmT) : fmR := if kK s n ≠ 38 ∧ ¬ (21 ≤ kK s n ∧ kK s n ≤ 27) then eitS (kK s n) st n x else if kK s n = 38 ∧ numB s n 9999 = false then .inl (numF s n, n) else if 64 ≤ fmB x then .inl (2, n) else .inr (2, n + 1, kpsX (kK s n) (if kK s n = 38 then kV s n else 0) 0 (begX x))
theorem FI.a (h : FI (ws, hs, o, T, b, w)) : tNk T + nop ws = b ∧ b ≤ 64 ∧ hs.length ≤ tNk T ∧ ws.length = nop ws + o ∧ o ≤ 8 := ⟨h.1, h.2.1, h.2.2.1, h.2.2.2.1, h.2.2.2.2.1⟩
theorem c_readEither (hF : gFx S) (ht : gTx S t) (ht24 : 24 ≤ t) (ht45 : t ≤ 45) (hs1 : TrP H s n) (hk : TrOk s) (hn : n ≤ 790) (hf : FmP H t (ws, hs, o, T, b, w)) (hi : FI (ws, hs, o, T, b, w)) (hk44 : k ≤ 44) (hst : st ≤ 3) : Hv mX1_readEither 2 [.ref 8, vN k, vN st] S H vN (fun x H' => x = mrV (eitS k st n (ws, hs, o, T, b, w)) ∧ mrQ H H' t s (eitS k st n (ws, hs, o, T, b, w))) := by
  have hia := hi.a
  obtain ⟨i1, i2, i3, i4, i5⟩ := hia
  refine vq_intro (by decide) (by exact Nat.le_of_ble_eq_true rfl) rfl ?_
  refine xq_iload_n dX1_readEither_0 rfl rfl ?_
  refine xq_bipush dX1_readEither_1 bp13 ?_
  refine xq_icmp_neN dX1_readEither_3 rfl (by omega) (by omega) ⟨fun h3 => ?_, fun h3 => ?_⟩
  · skip
    refine xq_iload_n dX1_readEither_31 rfl rfl ?_
    refine xq_bipush dX1_readEither_32 bp41 ?_
    refine xq_icmp_eqN dX1_readEither_34 rfl (by omega) (by omega) ⟨fun h34 => ?_, fun h34 => ?_⟩
    · skip
      refine xq_aload_n dX1_readEither_43 rfl rfl ?_
      refine xq_getIE (v := nI o) clX1 (by decide) rfl fl_RX1_42 dX1_readEither_44 (Fx.s8 hF) hf.op ?_
      refine xq_bipush dX1_readEither_47 bp8 ?_
      refine xq_icmp_ltN dX1_readEither_49 rfl (by omega) (by omega) ⟨fun h49 => ?_, fun h49 => ?_⟩
      · skip
        refine xq_aload_n dX1_readEither_58 rfl rfl ?_
        refine xq_dup dX1_readEither_59 rfl ?_
        refine xq_getIE (v := nI o) clX1 (by decide) rfl fl_RX1_42 dX1_readEither_60 (Fx.s8 hF) hf.op ?_
        refine xq_iconst dX1_readEither_63 ic1 ?_
        refine xq_iaddN dX1_readEither_64 ?_
        refine xq_putI clX1 (by decide) rfl fl_RX1_42 (Or.inl rfl) dX1_readEither_65 ⟨rfl, rfl⟩ (Fx.s8 hF) ?_
        refine xq_aload_n dX1_readEither_68 rfl rfl ?_
        refine xq_bipush dX1_readEither_69 bp41 ?_
        refine xq_iconst dX1_readEither_71 ic0 ?_
        refine xq_iconst dX1_readEither_72 ic0 ?_
        refine xq_callV3H clX1 gd_X1_hold dX1_readEither_73 ml_RX1_89 im_X1_hold se_X1_hold rfl (Fx.s8 hF) (by exact Nat.le_of_ble_eq_true rfl) (by decide) (c_hold (sz := ws.length) hF (hs1.pI (a := 8) (by omega) 6 (nI (o + 1))) hk (by omega) (hf.opn ht24).wz (by omega)) ?_
        intro x73 H73 p73
        obtain ⟨rfl, rfl⟩ := p73
        refine xq_iret dX1_readEither_76 rfl ?_
        have n1 : ¬ (k = 13 ∧ st ≠ 1) := by omega
        have e : eitS k st n (ws, hs, o, T, b, w) = .inr (0, n + 1, hldX 41 0 (opnX (o + 1) (ws, hs, o, T, b, w))) := (if_neg n1).trans ((if_neg (by omega)).trans (if_neg (show ¬ 8 ≤ o by omega)))
        rw [e]
        exact ⟨0, _, ⟨rfl, (Off.pI (A := (fun q => q = 2 ∨ (8 ≤ q ∧ q < 16) ∨ (t ≤ q ∧ q < t + 21))) (Off.pI (A := (fun q => q = 2 ∨ (8 ≤ q ∧ q < 16) ∨ (t ≤ q ∧ q < t + 21))) (Off.pI (A := (fun q => q = 2 ∨ (8 ≤ q ∧ q < 16) ∨ (t ≤ q ∧ q < t + 21))) (Off.pI (A := (fun q => q = 2 ∨ (8 ≤ q ∧ q < 16) ∨ (t ≤ q ∧ q < t + 21))) (Off.pI (A := (fun q => q = 2 ∨ (8 ≤ q ∧ q < 16) ∨ (t ≤ q ∧ q < t + 21))) Off.rf (by omega) _ _) (by omega) _ _) (by omega) _ _) (by omega) _ _) (by omega) _ _), ((((hs1.pI (a := 8) (by omega) 6 (nI (o + 1))).pI (by omega) _ _).pI (by omega) _ _).pI (by omega) _ _).st (n + 1), by (repeat rw [hI_sI, if_neg (by omega)]), by (repeat rw [hI_sI, if_neg (by omega)]), ((hf.opn ht24).hld ht24).st2 ht24⟩, rfl⟩
      · skip
        refine xq_aload_n dX1_readEither_52 rfl rfl ?_
        refine xq_iconst dX1_readEither_53 ic2 ?_
        refine xq_callV1H clX1 gd_X1_wrong dX1_readEither_54 ml_RX1_112 im_X1_wrong se_X1_wrong rfl (Fx.s8 hF) (by exact Nat.le_of_ble_eq_true rfl) (by decide) (c_wrong hF hs1 hk (by omega) (c := 2) (by decide)) ?_
        intro x54 H54 p54
        obtain ⟨rfl, q54⟩ := p54
        refine xq_iret dX1_readEither_57 rfl ?_
        have n1 : ¬ (k = 13 ∧ st ≠ 1) := by omega
        have e : eitS k st n (ws, hs, o, T, b, w) = .inl (2, n) := (if_neg n1).trans ((if_neg (by omega)).trans (if_pos (show 8 ≤ o by omega)))
        rw [e]
        exact ⟨3, H54, ⟨rfl, Off.tr Off.rf (q54.2.2.2.mo (fun q h => Or.inl h)), q54.1, q54.2.1, (q54.2.2.1 6 (by decide) (by decide)).trans rfl⟩, rfl⟩
    · skip
      refine xq_aload_n dX1_readEither_37 rfl rfl ?_
      refine xq_iconst dX1_readEither_38 ic1 ?_
      refine xq_callV1H clX1 gd_X1_wrong dX1_readEither_39 ml_RX1_112 im_X1_wrong se_X1_wrong rfl (Fx.s8 hF) (by exact Nat.le_of_ble_eq_true rfl) (by decide) (c_wrong hF hs1 hk (by omega) (c := 1) (by decide)) ?_
      intro x39 H39 p39
      obtain ⟨rfl, q39⟩ := p39
      refine xq_iret dX1_readEither_42 rfl ?_
      have n1 : ¬ (k = 13 ∧ st ≠ 1) := by omega
      have e : eitS k st n (ws, hs, o, T, b, w) = .inl (1, n) := (if_neg n1).trans (if_pos (by omega))
      rw [e]
      exact ⟨3, H39, ⟨rfl, Off.tr Off.rf (q39.2.2.2.mo (fun q h => Or.inl h)), q39.1, q39.2.1, (q39.2.2.1 6 (by decide) (by decide)).trans rfl⟩, rfl⟩
  · skip
    refine xq_iload_n dX1_readEither_6 rfl rfl ?_
    refine xq_iconst dX1_readEither_7 ic1 ?_
    refine xq_icmp_eqN dX1_readEither_8 rfl (by omega) (by omega) ⟨fun h8 => ?_, fun h8 => ?_⟩
    · skip
      refine xq_iload_n dX1_readEither_31 rfl rfl ?_
      refine xq_bipush dX1_readEither_32 bp41 ?_
      refine xq_icmp_eqN dX1_readEither_34 rfl (by omega) (by omega) ⟨fun h34 => ?_, fun h34 => ?_⟩
      · skip
        refine xq_aload_n dX1_readEither_43 rfl rfl ?_
        refine xq_getIE (v := nI o) clX1 (by decide) rfl fl_RX1_42 dX1_readEither_44 (Fx.s8 hF) hf.op ?_
        refine xq_bipush dX1_readEither_47 bp8 ?_
        refine xq_icmp_ltN dX1_readEither_49 rfl (by omega) (by omega) ⟨fun h49 => ?_, fun h49 => ?_⟩
        · skip
          refine xq_aload_n dX1_readEither_58 rfl rfl ?_
          refine xq_dup dX1_readEither_59 rfl ?_
          refine xq_getIE (v := nI o) clX1 (by decide) rfl fl_RX1_42 dX1_readEither_60 (Fx.s8 hF) hf.op ?_
          refine xq_iconst dX1_readEither_63 ic1 ?_
          refine xq_iaddN dX1_readEither_64 ?_
          refine xq_putI clX1 (by decide) rfl fl_RX1_42 (Or.inl rfl) dX1_readEither_65 ⟨rfl, rfl⟩ (Fx.s8 hF) ?_
          refine xq_aload_n dX1_readEither_68 rfl rfl ?_
          refine xq_bipush dX1_readEither_69 bp41 ?_
          refine xq_iconst dX1_readEither_71 ic0 ?_
          refine xq_iconst dX1_readEither_72 ic0 ?_
          refine xq_callV3H clX1 gd_X1_hold dX1_readEither_73 ml_RX1_89 im_X1_hold se_X1_hold rfl (Fx.s8 hF) (by exact Nat.le_of_ble_eq_true rfl) (by decide) (c_hold (sz := ws.length) hF (hs1.pI (a := 8) (by omega) 6 (nI (o + 1))) hk (by omega) (hf.opn ht24).wz (by omega)) ?_
          intro x73 H73 p73
          obtain ⟨rfl, rfl⟩ := p73
          refine xq_iret dX1_readEither_76 rfl ?_
          have n1 : ¬ (k = 13 ∧ st ≠ 1) := by omega
          have e : eitS k st n (ws, hs, o, T, b, w) = .inr (0, n + 1, hldX 41 0 (opnX (o + 1) (ws, hs, o, T, b, w))) := (if_neg n1).trans ((if_neg (by omega)).trans (if_neg (show ¬ 8 ≤ o by omega)))
          rw [e]
          exact ⟨0, _, ⟨rfl, (Off.pI (A := (fun q => q = 2 ∨ (8 ≤ q ∧ q < 16) ∨ (t ≤ q ∧ q < t + 21))) (Off.pI (A := (fun q => q = 2 ∨ (8 ≤ q ∧ q < 16) ∨ (t ≤ q ∧ q < t + 21))) (Off.pI (A := (fun q => q = 2 ∨ (8 ≤ q ∧ q < 16) ∨ (t ≤ q ∧ q < t + 21))) (Off.pI (A := (fun q => q = 2 ∨ (8 ≤ q ∧ q < 16) ∨ (t ≤ q ∧ q < t + 21))) (Off.pI (A := (fun q => q = 2 ∨ (8 ≤ q ∧ q < 16) ∨ (t ≤ q ∧ q < t + 21))) Off.rf (by omega) _ _) (by omega) _ _) (by omega) _ _) (by omega) _ _) (by omega) _ _), ((((hs1.pI (a := 8) (by omega) 6 (nI (o + 1))).pI (by omega) _ _).pI (by omega) _ _).pI (by omega) _ _).st (n + 1), by (repeat rw [hI_sI, if_neg (by omega)]), by (repeat rw [hI_sI, if_neg (by omega)]), ((hf.opn ht24).hld ht24).st2 ht24⟩, rfl⟩
        · skip
          refine xq_aload_n dX1_readEither_52 rfl rfl ?_
          refine xq_iconst dX1_readEither_53 ic2 ?_
          refine xq_callV1H clX1 gd_X1_wrong dX1_readEither_54 ml_RX1_112 im_X1_wrong se_X1_wrong rfl (Fx.s8 hF) (by exact Nat.le_of_ble_eq_true rfl) (by decide) (c_wrong hF hs1 hk (by omega) (c := 2) (by decide)) ?_
          intro x54 H54 p54
          obtain ⟨rfl, q54⟩ := p54
          refine xq_iret dX1_readEither_57 rfl ?_
          have n1 : ¬ (k = 13 ∧ st ≠ 1) := by omega
          have e : eitS k st n (ws, hs, o, T, b, w) = .inl (2, n) := (if_neg n1).trans ((if_neg (by omega)).trans (if_pos (show 8 ≤ o by omega)))
          rw [e]
          exact ⟨3, H54, ⟨rfl, Off.tr Off.rf (q54.2.2.2.mo (fun q h => Or.inl h)), q54.1, q54.2.1, (q54.2.2.1 6 (by decide) (by decide)).trans rfl⟩, rfl⟩
      · skip
        refine xq_aload_n dX1_readEither_37 rfl rfl ?_
        refine xq_iconst dX1_readEither_38 ic1 ?_
        refine xq_callV1H clX1 gd_X1_wrong dX1_readEither_39 ml_RX1_112 im_X1_wrong se_X1_wrong rfl (Fx.s8 hF) (by exact Nat.le_of_ble_eq_true rfl) (by decide) (c_wrong hF hs1 hk (by omega) (c := 1) (by decide)) ?_
        intro x39 H39 p39
        obtain ⟨rfl, q39⟩ := p39
        refine xq_iret dX1_readEither_42 rfl ?_
        have n1 : ¬ (k = 13 ∧ st ≠ 1) := by omega
        have e : eitS k st n (ws, hs, o, T, b, w) = .inl (1, n) := (if_neg n1).trans (if_pos (by omega))
        rw [e]
        exact ⟨3, H39, ⟨rfl, Off.tr Off.rf (q39.2.2.2.mo (fun q h => Or.inl h)), q39.1, q39.2.1, (q39.2.2.1 6 (by decide) (by decide)).trans rfl⟩, rfl⟩
    · skip
      refine xq_aload_n dX1_readEither_11 rfl rfl ?_
      refine xq_callV0H clX1 gd_X1_mayBegin dX1_readEither_12 ml_RX1_78 im_X1_mayBegin se_X1_mayBegin rfl (Fx.s8 hF) (by exact Nat.le_of_ble_eq_true rfl) (by decide) (c_mayBegin (b := b) hF ht hs1 hk (by omega) hf.kn hf.bg (by omega)) ?_
      intro x12 H12 p12
      obtain ⟨e12, q12, r12⟩ := p12
      refine xq_if_eqB dX1_readEither_15 rfl ⟨fun h15 => ?_, fun h15 => ?_⟩
      · skip
        refine xq_iconst dX1_readEither_29 ic3 ?_
        refine xq_iret dX1_readEither_30 rfl ?_
        have hb0 : ¬ b < 64 := of_decide_eq_false (e12.symm.trans (by simpa using h15))
        have q := r12 hb0
        have e : eitS k st n (ws, hs, o, T, b, w) = .inl (2, n) := (if_pos ⟨by omega, by omega⟩).trans (if_pos (show 64 ≤ b by omega))
        rw [e]
        exact ⟨3, H12, ⟨rfl, Off.tr Off.rf (q.2.2.2.mo (fun q h => Or.inl h)), q.1, q.2.1, (q.2.2.1 6 (by decide) (by decide)).trans rfl⟩, rfl⟩
      · skip
        have hb1 : b < 64 := of_decide_eq_true (e12.symm.trans (by simpa using h15))
        have ee := q12 hb1
        subst ee
        have hfb := hf.beg (v := b + 1) ht24
        have hsb : TrP (sI H (t + 7) 4 (nI (b + 1))) s n := hs1.pI (by omega) _ _
        refine xq_aload_n dX1_readEither_18 rfl rfl ?_
        refine xq_bipush dX1_readEither_19 bp13 ?_
        refine xq_iconst dX1_readEither_21 ic0 ?_
        refine xq_iconst dX1_readEither_22 ic0 ?_
        refine xq_callV3H clX1 gd_X1_hold dX1_readEither_23 ml_RX1_89 im_X1_hold se_X1_hold rfl (Fx.s8 hF) (by exact Nat.le_of_ble_eq_true rfl) (by decide) (c_hold (sz := ws.length) hF hsb hk (by omega) hfb.wz (by omega)) ?_
        intro x23 H23 p23
        obtain ⟨rfl, rfl⟩ := p23
        refine xq_goto dX1_readEither_26 rfl ?_
        refine xq_iret dX1_readEither_30 rfl ?_
        have e : eitS k st n (ws, hs, o, T, b, w) = .inr (0, n + 1, hldX 13 0 (begX (ws, hs, o, T, b, w))) := (if_pos ⟨by omega, by omega⟩).trans (if_neg (show ¬ 64 ≤ b by omega))
        rw [e]
        exact ⟨0, _, ⟨rfl, (Off.pI (A := (fun q => q = 2 ∨ (8 ≤ q ∧ q < 16) ∨ (t ≤ q ∧ q < t + 21))) (Off.pI (A := (fun q => q = 2 ∨ (8 ≤ q ∧ q < 16) ∨ (t ≤ q ∧ q < t + 21))) (Off.pI (A := (fun q => q = 2 ∨ (8 ≤ q ∧ q < 16) ∨ (t ≤ q ∧ q < t + 21))) (Off.pI (A := (fun q => q = 2 ∨ (8 ≤ q ∧ q < 16) ∨ (t ≤ q ∧ q < t + 21))) (Off.pI (A := (fun q => q = 2 ∨ (8 ≤ q ∧ q < 16) ∨ (t ≤ q ∧ q < t + 21))) Off.rf (by omega) _ _) (by omega) _ _) (by omega) _ _) (by omega) _ _) (by omega) _ _), ((((hsb.pI (by omega) _ _).pI (by omega) _ _).pI (by omega) _ _).st (n + 1)), by (repeat rw [hI_sI, if_neg (by omega)]), by (repeat rw [hI_sI, if_neg (by omega)]), (hfb.hld ht24).st2 ht24⟩, rfl⟩
theorem c_readKnows0 (hF : gFx S) (ht : gTx S t) (ht24 : 24 ≤ t) (ht45 : t ≤ 45) (hs1 : TrP H s n) (hk : TrOk s) (hn : n ≤ 790) (hf : FmP H t (ws, hs, o, T, b, w)) (hnp : tNp T ≤ 6) (hnc : tNc T ≤ 3) (hnf : tNf T ≤ 8) (hz : knP s (n + 1) (ws, hs, o, T, b, w) = -1) : Hv mX1_readKnows 2 [.ref 8, .ref t] S H vN (fun x H' => x = mrV (knwS s n (ws, hs, o, T, b, w)) ∧ mrQ H H' t s (knwS s n (ws, hs, o, T, b, w))) := by
  have hs2 := hs1.st (n + 1)
  have hs3 := hs2.st (n + 2)
  have hf2 := hf.st2 (v := n + 1) ht24
  have hf3 := hf2.st2 (v := n + 2) ht24
  have hk0 := hk.1
  refine vq_intro (by decide) (by exact Nat.le_of_ble_eq_true rfl) rfl ?_
  refine xq_aload_n dX1_readKnows_0 rfl rfl ?_
  refine xq_getF clX1 (by decide) rfl fl_RX1_28 dX1_readKnows_1 (Fx.s8 hF) (Fx.r8_0 hF) ?_
  refine xq_callV0N clX9 gd_X9_step dX1_readKnows_4 ml_RX1_109 im_X9_step se_X9_step rfl (Fx.s2 hF) (by exact Nat.le_of_ble_eq_true rfl) (by decide) (c_step hF hs1 hk (by omega)) ?_
  intro H4 p4
  subst p4
  refine xq_aload_n dX1_readKnows_7 rfl rfl ?_
  refine xq_getF clX1 (by decide) rfl fl_RX1_28 dX1_readKnows_8 (Fx.s8 hF) (Fx.r8_0 hF) ?_
  refine xq_aload_n dX1_readKnows_11 rfl rfl ?_
  refine xq_getF clX8 (by decide) rfl fl_RX1_115 dX1_readKnows_12 (Tx.s0 ht) (Tx.r1 ht) ?_
  refine xq_callV1H clX9 gd_X9_known dX1_readKnows_15 ml_RX1_119 im_X9_known se_X9_known rfl (Fx.s2 hF) (by exact Nat.le_of_ble_eq_true rfl) (by decide) (c_known0 hF hs2 hk (by omega) (Tx.n3 ht) hf2.tx.nmp (show tNp T ≤ 6 by omega) (by decide) hz) ?_
  intro x15 H15 p15
  obtain ⟨rfl, q15⟩ := p15
  refine xq_istore_n dX1_readKnows_18 rfl rfl ?_
  refine xq_iload_n dX1_readKnows_19 rfl rfl ?_
  refine xq_if_ge dX1_readKnows_20 rfl ⟨fun h20 => ?_, fun h20 => ?_⟩
  · skip
    exact absurd h20 (by decide)
  · skip
    refine xq_iconst dX1_readKnows_23 ic3 ?_
    refine xq_iret dX1_readKnows_24 rfl ?_
    have e : knwS s n (ws, hs, o, T, b, w) = .inl (knoF s (n + 1), n + 1) := if_pos hz
    rw [e]
    exact ⟨3, H15, ⟨rfl, Off.tr (Off.pI (A := (fun q => q = 2 ∨ (8 ≤ q ∧ q < 16) ∨ (t ≤ q ∧ q < t + 21))) Off.rf (by omega) _ _) (q15.2.2.2.mo (fun q h => Or.inl h)), q15.1, q15.2.1, (q15.2.2.1 6 (by decide) (by decide)).trans (by repeat rw [hI_sI, if_neg (by omega)])⟩, rfl⟩
theorem c_readKnows1 (hF : gFx S) (ht : gTx S t) (ht24 : 24 ≤ t) (ht45 : t ≤ 45) (hs1 : TrP H s n) (hk : TrOk s) (hn : n ≤ 790) (hf : FmP H t (ws, hs, o, T, b, w)) (hnp : tNp T ≤ 6) (hnc : tNc T ≤ 3) (hnf : tNf T ≤ 8) (hz : knP s (n + 1) (ws, hs, o, T, b, w) = (p : Nat)) (hp : p < tNp T) (hws : ws.length < 72) : Hv mX1_readKnows 2 [.ref 8, .ref t] S H vN (fun x H' => x = mrV (knwS s n (ws, hs, o, T, b, w)) ∧ mrQ H H' t s (knwS s n (ws, hs, o, T, b, w))) := by
  have hs2 := hs1.st (n + 1)
  have hs3 := hs2.st (n + 2)
  have hf2 := hf.st2 (v := n + 1) ht24
  have hf3 := hf2.st2 (v := n + 2) ht24
  have hk0 := hk.1
  refine vq_intro (by decide) (by exact Nat.le_of_ble_eq_true rfl) rfl ?_
  refine xq_aload_n dX1_readKnows_0 rfl rfl ?_
  refine xq_getF clX1 (by decide) rfl fl_RX1_28 dX1_readKnows_1 (Fx.s8 hF) (Fx.r8_0 hF) ?_
  refine xq_callV0N clX9 gd_X9_step dX1_readKnows_4 ml_RX1_109 im_X9_step se_X9_step rfl (Fx.s2 hF) (by exact Nat.le_of_ble_eq_true rfl) (by decide) (c_step hF hs1 hk (by omega)) ?_
  intro H4 p4
  subst p4
  refine xq_aload_n dX1_readKnows_7 rfl rfl ?_
  refine xq_getF clX1 (by decide) rfl fl_RX1_28 dX1_readKnows_8 (Fx.s8 hF) (Fx.r8_0 hF) ?_
  refine xq_aload_n dX1_readKnows_11 rfl rfl ?_
  refine xq_getF clX8 (by decide) rfl fl_RX1_115 dX1_readKnows_12 (Tx.s0 ht) (Tx.r1 ht) ?_
  refine xq_callV1P clX9 gd_X9_known dX1_readKnows_15 ml_RX1_119 im_X9_known se_X9_known rfl (Fx.s2 hF) (by exact Nat.le_of_ble_eq_true rfl) (by decide) (c_known1 hF hs2 hk (by omega) (Tx.n3 ht) hf2.tx.nmp (show tNp T ≤ 6 by omega) (by decide) hz) ?_
  refine xq_istore_n dX1_readKnows_18 rfl rfl ?_
  refine xq_iload_n dX1_readKnows_19 rfl rfl ?_
  refine xq_if_geN dX1_readKnows_20 rfl (by omega) ?_
  refine xq_aload_n dX1_readKnows_25 rfl rfl ?_
  refine xq_bipush dX1_readKnows_26 bp16 ?_
  refine xq_iload_n dX1_readKnows_28 rfl rfl ?_
  refine xq_iconst dX1_readKnows_29 ic1 ?_
  refine xq_callV3H clX1 gd_X1_hold dX1_readKnows_30 ml_RX1_89 im_X1_hold se_X1_hold rfl (Fx.s8 hF) (by exact Nat.le_of_ble_eq_true rfl) (by decide) (c_hold (sz := ws.length) hF hs2 hk (by omega) hf2.wz hws) ?_
  intro x30 H30 p30
  obtain ⟨rfl, rfl⟩ := p30
  refine xq_iret dX1_readKnows_33 rfl ?_
  have nz : ¬ knP s (n + 1) (ws, hs, o, T, b, w) = -1 := by rw [hz]; omega
  have ez : (knP s (n + 1) (ws, hs, o, T, b, w)).toNat = p := by rw [hz]; rfl
  have e : knwS s n (ws, hs, o, T, b, w) = .inr (1, n + 2, hldX 16 p (ws, hs, o, T, b, w)) := (if_neg nz).trans (by rw [ez])
  rw [e]
  exact ⟨1, _, ⟨rfl, (Off.pI (A := (fun q => q = 2 ∨ (8 ≤ q ∧ q < 16) ∨ (t ≤ q ∧ q < t + 21))) (Off.pI (A := (fun q => q = 2 ∨ (8 ≤ q ∧ q < 16) ∨ (t ≤ q ∧ q < t + 21))) (Off.pI (A := (fun q => q = 2 ∨ (8 ≤ q ∧ q < 16) ∨ (t ≤ q ∧ q < t + 21))) (Off.pI (A := (fun q => q = 2 ∨ (8 ≤ q ∧ q < 16) ∨ (t ≤ q ∧ q < t + 21))) (Off.pI (A := (fun q => q = 2 ∨ (8 ≤ q ∧ q < 16) ∨ (t ≤ q ∧ q < t + 21))) Off.rf (by omega) _ _) (by omega) _ _) (by omega) _ _) (by omega) _ _) (by omega) _ _), ((((hs2.pI (by omega) _ _).pI (by omega) _ _).pI (by omega) _ _).st (n + 2)), by (repeat rw [hI_sI, if_neg (by omega)]), by (repeat rw [hI_sI, if_neg (by omega)]), (hf2.hld ht24).st2 ht24⟩, rfl⟩
theorem c_readKnows (hF : gFx S) (ht : gTx S t) (ht24 : 24 ≤ t) (ht45 : t ≤ 45) (hs1 : TrP H s n) (hk : TrOk s) (hn : n ≤ 790) (hf : FmP H t (ws, hs, o, T, b, w)) (hnp : tNp T ≤ 6) (hnc : tNc T ≤ 3) (hnf : tNf T ≤ 8) (hws : ws.length < 72) : Hv mX1_readKnows 2 [.ref 8, .ref t] S H vN (fun x H' => x = mrV (knwS s n (ws, hs, o, T, b, w)) ∧ mrQ H H' t s (knwS s n (ws, hs, o, T, b, w))) := by
  rcases knoZ_r s (n + 1) (tPn T) (tNp T) with hz | ⟨p, hp, -, hz⟩
  · exact c_readKnows0 hF ht ht24 ht45 hs1 hk hn hf hnp hnc hnf hz
  · exact c_readKnows1 hF ht ht24 ht45 hs1 hk hn hf hnp hnc hnf hz hp hws
theorem c_leaf14_0 (hF : gFx S) (ht : gTx S t) (ht24 : 24 ≤ t) (ht45 : t ≤ 45) (hs1 : TrP H s n) (hk : TrOk s) (hn : n ≤ 790) (hf : FmP H t (ws, hs, o, T, b, w)) (hnp : tNp T ≤ 6) (hnc : tNc T ≤ 3) (hnf : tNf T ≤ 8) (hnk : tNk T < 64) (hhs : hs.length < 64) (hz : knP s (n + 1) (ws, hs, o, T, b, w) = -1) : Hv mX1_readLeaf 2 [.ref 8, .ref t, vN 14] S H vN (fun x H' => x = mrV (hatS s n (ws, hs, o, T, b, w)) ∧ mrQ H H' t s (hatS s n (ws, hs, o, T, b, w))) := by
  have hs2 := hs1.st (n + 1)
  have hs3 := hs2.st (n + 2)
  have hf2 := hf.st2 (v := n + 1) ht24
  have hf3 := hf2.st2 (v := n + 2) ht24
  have hk0 := hk.1
  refine vq_intro (by decide) (by exact Nat.le_of_ble_eq_true rfl) rfl ?_
  refine xq_aload_n dX1_readLeaf_0 rfl rfl ?_
  refine xq_getF clX1 (by decide) rfl fl_RX1_28 dX1_readLeaf_1 (Fx.s8 hF) (Fx.r8_0 hF) ?_
  refine xq_callV0N clX9 gd_X9_step dX1_readLeaf_4 ml_RX1_109 im_X9_step se_X9_step rfl (Fx.s2 hF) (by exact Nat.le_of_ble_eq_true rfl) (by decide) (c_step hF hs1 hk (by omega)) ?_
  intro H4 p4
  subst p4
  refine xq_iload_n dX1_readLeaf_7 rfl rfl ?_
  refine xq_bipush dX1_readLeaf_8 bp19 ?_
  refine xq_icmp_neN dX1_readLeaf_10 rfl (by omega) (by omega) ⟨fun h10 => ?_, fun h10 => ?_⟩
  · skip
    refine xq_iload_n dX1_readLeaf_20 rfl rfl ?_
    refine xq_bipush dX1_readLeaf_21 bp20 ?_
    refine xq_icmp_neN dX1_readLeaf_23 rfl (by omega) (by omega) ⟨fun h23 => ?_, fun h23 => ?_⟩
    · skip
      refine xq_aload_n dX1_readLeaf_33 rfl rfl ?_
      refine xq_getF clX8 (by decide) rfl fl_RX1_115 dX1_readLeaf_34 (Tx.s0 ht) (Tx.r1 ht) ?_
      refine xq_astore_n dX1_readLeaf_37 rfl rfl ?_
      refine xq_aload_n dX1_readLeaf_38 rfl rfl ?_
      refine xq_getF clX1 (by decide) rfl fl_RX1_28 dX1_readLeaf_39 (Fx.s8 hF) (Fx.r8_0 hF) ?_
      refine xq_aload_n dX1_readLeaf_42 rfl rfl ?_
      refine xq_callV1H clX9 gd_X9_known dX1_readLeaf_43 ml_RX1_119 im_X9_known se_X9_known rfl (Fx.s2 hF) (by exact Nat.le_of_ble_eq_true rfl) (by decide) (c_known0 hF hs2 hk (by omega) (Tx.n3 ht) hf2.tx.nmp (show tNp T ≤ 6 by omega) (by decide) hz) ?_
      intro x43 H43 p43
      obtain ⟨rfl, q43⟩ := p43
      refine xq_istore dX1_readLeaf_46 rfl ?_
      refine xq_iload dX1_readLeaf_48 rfl ?_
      refine xq_if_ge dX1_readLeaf_50 rfl ⟨fun h50 => ?_, fun h50 => ?_⟩
      · skip
        exact absurd h50 (by decide)
      · skip
        refine xq_iconst dX1_readLeaf_53 ic3 ?_
        refine xq_iret dX1_readLeaf_54 rfl ?_
        have e : hatS s n (ws, hs, o, T, b, w) = .inl (knoF s (n + 1), n + 1) := if_pos hz
        rw [e]
        exact ⟨3, H43, ⟨rfl, Off.tr (Off.pI (A := (fun q => q = 2 ∨ (8 ≤ q ∧ q < 16) ∨ (t ≤ q ∧ q < t + 21))) Off.rf (by omega) _ _) (q43.2.2.2.mo (fun q h => Or.inl h)), q43.1, q43.2.1, (q43.2.2.1 6 (by decide) (by decide)).trans (by repeat rw [hI_sI, if_neg (by omega)])⟩, rfl⟩
    · skip
      first | exact absurd h23 (by decide) | exact absurd rfl h23
  · skip
    first | exact absurd h10 (by decide) | exact absurd rfl h10
theorem c_leaf14_1 (hF : gFx S) (ht : gTx S t) (ht24 : 24 ≤ t) (ht45 : t ≤ 45) (hs1 : TrP H s n) (hk : TrOk s) (hn : n ≤ 790) (hf : FmP H t (ws, hs, o, T, b, w)) (hnp : tNp T ≤ 6) (hnc : tNc T ≤ 3) (hnf : tNf T ≤ 8) (hnk : tNk T < 64) (hhs : hs.length < 64) (hz : knP s (n + 1) (ws, hs, o, T, b, w) = (p : Nat)) (hp : p < tNp T) (hy : knC s (n + 2) (ws, hs, o, T, b, w) = -1) : Hv mX1_readLeaf 2 [.ref 8, .ref t, vN 14] S H vN (fun x H' => x = mrV (hatS s n (ws, hs, o, T, b, w)) ∧ mrQ H H' t s (hatS s n (ws, hs, o, T, b, w))) := by
  have hs2 := hs1.st (n + 1)
  have hs3 := hs2.st (n + 2)
  have hf2 := hf.st2 (v := n + 1) ht24
  have hf3 := hf2.st2 (v := n + 2) ht24
  have hk0 := hk.1
  refine vq_intro (by decide) (by exact Nat.le_of_ble_eq_true rfl) rfl ?_
  refine xq_aload_n dX1_readLeaf_0 rfl rfl ?_
  refine xq_getF clX1 (by decide) rfl fl_RX1_28 dX1_readLeaf_1 (Fx.s8 hF) (Fx.r8_0 hF) ?_
  refine xq_callV0N clX9 gd_X9_step dX1_readLeaf_4 ml_RX1_109 im_X9_step se_X9_step rfl (Fx.s2 hF) (by exact Nat.le_of_ble_eq_true rfl) (by decide) (c_step hF hs1 hk (by omega)) ?_
  intro H4 p4
  subst p4
  refine xq_iload_n dX1_readLeaf_7 rfl rfl ?_
  refine xq_bipush dX1_readLeaf_8 bp19 ?_
  refine xq_icmp_neN dX1_readLeaf_10 rfl (by omega) (by omega) ⟨fun h10 => ?_, fun h10 => ?_⟩
  · skip
    refine xq_iload_n dX1_readLeaf_20 rfl rfl ?_
    refine xq_bipush dX1_readLeaf_21 bp20 ?_
    refine xq_icmp_neN dX1_readLeaf_23 rfl (by omega) (by omega) ⟨fun h23 => ?_, fun h23 => ?_⟩
    · skip
      refine xq_aload_n dX1_readLeaf_33 rfl rfl ?_
      refine xq_getF clX8 (by decide) rfl fl_RX1_115 dX1_readLeaf_34 (Tx.s0 ht) (Tx.r1 ht) ?_
      refine xq_astore_n dX1_readLeaf_37 rfl rfl ?_
      refine xq_aload_n dX1_readLeaf_38 rfl rfl ?_
      refine xq_getF clX1 (by decide) rfl fl_RX1_28 dX1_readLeaf_39 (Fx.s8 hF) (Fx.r8_0 hF) ?_
      refine xq_aload_n dX1_readLeaf_42 rfl rfl ?_
      refine xq_callV1P clX9 gd_X9_known dX1_readLeaf_43 ml_RX1_119 im_X9_known se_X9_known rfl (Fx.s2 hF) (by exact Nat.le_of_ble_eq_true rfl) (by decide) (c_known1 hF hs2 hk (by omega) (Tx.n3 ht) hf2.tx.nmp (show tNp T ≤ 6 by omega) (by decide) hz) ?_
      refine xq_istore dX1_readLeaf_46 rfl ?_
      refine xq_iload dX1_readLeaf_48 rfl ?_
      refine xq_if_geN dX1_readLeaf_50 rfl (by omega) ?_
      refine xq_aload_n dX1_readLeaf_55 rfl rfl ?_
      refine xq_getF clX1 (by decide) rfl fl_RX1_28 dX1_readLeaf_56 (Fx.s8 hF) (Fx.r8_0 hF) ?_
      refine xq_callV0N clX9 gd_X9_step dX1_readLeaf_59 ml_RX1_109 im_X9_step se_X9_step rfl (Fx.s2 hF) (by exact Nat.le_of_ble_eq_true rfl) (by decide) (c_step hF hs2 hk (by omega)) ?_
      intro H59 p59
      subst p59
      refine xq_iconst dX1_readLeaf_62 ic0 ?_
      refine xq_istore dX1_readLeaf_63 rfl ?_
      refine xq_iload_n dX1_readLeaf_65 rfl rfl ?_
      refine xq_bipush dX1_readLeaf_66 bp14 ?_
      refine xq_icmp_neN dX1_readLeaf_68 rfl (by omega) (by omega) ⟨fun h68 => ?_, fun h68 => ?_⟩
      · skip
        first | exact absurd h68 (by decide) | exact absurd rfl h68
      · skip
        refine xq_aload_n dX1_readLeaf_71 rfl rfl ?_
        refine xq_getF clX1 (by decide) rfl fl_RX1_28 dX1_readLeaf_72 (Fx.s8 hF) (Fx.r8_0 hF) ?_
        refine xq_aload_n dX1_readLeaf_75 rfl rfl ?_
        refine xq_getF clX8 (by decide) rfl fl_RX1_123 dX1_readLeaf_76 (Tx.s0 ht) (Tx.r0 ht) ?_
        refine xq_callV1H clX9 gd_X9_known dX1_readLeaf_79 ml_RX1_119 im_X9_known se_X9_known rfl (Fx.s2 hF) (by exact Nat.le_of_ble_eq_true rfl) (by decide) (c_known0 hF hs3 hk (by omega) (Tx.n1 ht) hf3.tx.nmc (show tNc T ≤ 3 by omega) (by decide) hy) ?_
        intro x79 H79 p79
        obtain ⟨rfl, q79⟩ := p79
        refine xq_istore dX1_readLeaf_82 rfl ?_
        refine xq_iload dX1_readLeaf_84 rfl ?_
        refine xq_if_ge dX1_readLeaf_86 rfl ⟨fun h86 => ?_, fun h86 => ?_⟩
        · skip
          exact absurd h86 (by decide)
        · skip
          refine xq_iconst dX1_readLeaf_89 ic3 ?_
          refine xq_iret dX1_readLeaf_90 rfl ?_
          have nz : ¬ knP s (n + 1) (ws, hs, o, T, b, w) = -1 := by rw [hz]; omega
          have ez : (knP s (n + 1) (ws, hs, o, T, b, w)).toNat = p := by rw [hz]; rfl
          have e : hatS s n (ws, hs, o, T, b, w) = .inl (knoF s (n + 2), n + 2) := (if_neg nz).trans (if_pos hy)
          rw [e]
          exact ⟨3, H79, ⟨rfl, Off.tr (Off.pI (A := (fun q => q = 2 ∨ (8 ≤ q ∧ q < 16) ∨ (t ≤ q ∧ q < t + 21))) (Off.pI (A := (fun q => q = 2 ∨ (8 ≤ q ∧ q < 16) ∨ (t ≤ q ∧ q < t + 21))) Off.rf (by omega) _ _) (by omega) _ _) (q79.2.2.2.mo (fun q h => Or.inl h)), q79.1, q79.2.1, (q79.2.2.1 6 (by decide) (by decide)).trans (by repeat rw [hI_sI, if_neg (by omega)])⟩, rfl⟩
    · skip
      first | exact absurd h23 (by decide) | exact absurd rfl h23
  · skip
    first | exact absurd h10 (by decide) | exact absurd rfl h10
theorem c_leaf14_2 (hF : gFx S) (ht : gTx S t) (ht24 : 24 ≤ t) (ht45 : t ≤ 45) (hs1 : TrP H s n) (hk : TrOk s) (hn : n ≤ 790) (hf : FmP H t (ws, hs, o, T, b, w)) (hnp : tNp T ≤ 6) (hnc : tNc T ≤ 3) (hnf : tNf T ≤ 8) (hnk : tNk T < 64) (hhs : hs.length < 64) (hz : knP s (n + 1) (ws, hs, o, T, b, w) = (p : Nat)) (hp : p < tNp T) (hy : knC s (n + 2) (ws, hs, o, T, b, w) = (y : Nat)) (hyc : y < tNc T) : Hv mX1_readLeaf 2 [.ref 8, .ref t, vN 14] S H vN (fun x H' => x = mrV (hatS s n (ws, hs, o, T, b, w)) ∧ mrQ H H' t s (hatS s n (ws, hs, o, T, b, w))) := by
  have hs2 := hs1.st (n + 1)
  have hs3 := hs2.st (n + 2)
  have hf2 := hf.st2 (v := n + 1) ht24
  have hf3 := hf2.st2 (v := n + 2) ht24
  have hk0 := hk.1
  have hs4 := hs3.st (n + 3)
  have hf4 := hf3.st2 (v := n + 3) ht24
  refine vq_intro (by decide) (by exact Nat.le_of_ble_eq_true rfl) rfl ?_
  refine xq_aload_n dX1_readLeaf_0 rfl rfl ?_
  refine xq_getF clX1 (by decide) rfl fl_RX1_28 dX1_readLeaf_1 (Fx.s8 hF) (Fx.r8_0 hF) ?_
  refine xq_callV0N clX9 gd_X9_step dX1_readLeaf_4 ml_RX1_109 im_X9_step se_X9_step rfl (Fx.s2 hF) (by exact Nat.le_of_ble_eq_true rfl) (by decide) (c_step hF hs1 hk (by omega)) ?_
  intro H4 p4
  subst p4
  refine xq_iload_n dX1_readLeaf_7 rfl rfl ?_
  refine xq_bipush dX1_readLeaf_8 bp19 ?_
  refine xq_icmp_neN dX1_readLeaf_10 rfl (by omega) (by omega) ⟨fun h10 => ?_, fun h10 => ?_⟩
  · skip
    refine xq_iload_n dX1_readLeaf_20 rfl rfl ?_
    refine xq_bipush dX1_readLeaf_21 bp20 ?_
    refine xq_icmp_neN dX1_readLeaf_23 rfl (by omega) (by omega) ⟨fun h23 => ?_, fun h23 => ?_⟩
    · skip
      refine xq_aload_n dX1_readLeaf_33 rfl rfl ?_
      refine xq_getF clX8 (by decide) rfl fl_RX1_115 dX1_readLeaf_34 (Tx.s0 ht) (Tx.r1 ht) ?_
      refine xq_astore_n dX1_readLeaf_37 rfl rfl ?_
      refine xq_aload_n dX1_readLeaf_38 rfl rfl ?_
      refine xq_getF clX1 (by decide) rfl fl_RX1_28 dX1_readLeaf_39 (Fx.s8 hF) (Fx.r8_0 hF) ?_
      refine xq_aload_n dX1_readLeaf_42 rfl rfl ?_
      refine xq_callV1P clX9 gd_X9_known dX1_readLeaf_43 ml_RX1_119 im_X9_known se_X9_known rfl (Fx.s2 hF) (by exact Nat.le_of_ble_eq_true rfl) (by decide) (c_known1 hF hs2 hk (by omega) (Tx.n3 ht) hf2.tx.nmp (show tNp T ≤ 6 by omega) (by decide) hz) ?_
      refine xq_istore dX1_readLeaf_46 rfl ?_
      refine xq_iload dX1_readLeaf_48 rfl ?_
      refine xq_if_geN dX1_readLeaf_50 rfl (by omega) ?_
      refine xq_aload_n dX1_readLeaf_55 rfl rfl ?_
      refine xq_getF clX1 (by decide) rfl fl_RX1_28 dX1_readLeaf_56 (Fx.s8 hF) (Fx.r8_0 hF) ?_
      refine xq_callV0N clX9 gd_X9_step dX1_readLeaf_59 ml_RX1_109 im_X9_step se_X9_step rfl (Fx.s2 hF) (by exact Nat.le_of_ble_eq_true rfl) (by decide) (c_step hF hs2 hk (by omega)) ?_
      intro H59 p59
      subst p59
      refine xq_iconst dX1_readLeaf_62 ic0 ?_
      refine xq_istore dX1_readLeaf_63 rfl ?_
      refine xq_iload_n dX1_readLeaf_65 rfl rfl ?_
      refine xq_bipush dX1_readLeaf_66 bp14 ?_
      refine xq_icmp_neN dX1_readLeaf_68 rfl (by omega) (by omega) ⟨fun h68 => ?_, fun h68 => ?_⟩
      · skip
        first | exact absurd h68 (by decide) | exact absurd rfl h68
      · skip
        refine xq_aload_n dX1_readLeaf_71 rfl rfl ?_
        refine xq_getF clX1 (by decide) rfl fl_RX1_28 dX1_readLeaf_72 (Fx.s8 hF) (Fx.r8_0 hF) ?_
        refine xq_aload_n dX1_readLeaf_75 rfl rfl ?_
        refine xq_getF clX8 (by decide) rfl fl_RX1_123 dX1_readLeaf_76 (Tx.s0 ht) (Tx.r0 ht) ?_
        refine xq_callV1P clX9 gd_X9_known dX1_readLeaf_79 ml_RX1_119 im_X9_known se_X9_known rfl (Fx.s2 hF) (by exact Nat.le_of_ble_eq_true rfl) (by decide) (c_known1 hF hs3 hk (by omega) (Tx.n1 ht) hf3.tx.nmc (show tNc T ≤ 3 by omega) (by decide) hy) ?_
        refine xq_istore dX1_readLeaf_82 rfl ?_
        refine xq_iload dX1_readLeaf_84 rfl ?_
        refine xq_if_geN dX1_readLeaf_86 rfl (by omega) ?_
        refine xq_aload_n dX1_readLeaf_91 rfl rfl ?_
        refine xq_getF clX1 (by decide) rfl fl_RX1_28 dX1_readLeaf_92 (Fx.s8 hF) (Fx.r8_0 hF) ?_
        refine xq_callV0N clX9 gd_X9_step dX1_readLeaf_95 ml_RX1_109 im_X9_step se_X9_step rfl (Fx.s2 hF) (by exact Nat.le_of_ble_eq_true rfl) (by decide) (c_step hF hs3 hk (by omega)) ?_
        intro H95 p95
        subst p95
        refine xq_goto dX1_readLeaf_98 rfl ?_
        refine xq_aload_n dX1_readLeaf_171 rfl rfl ?_
        refine xq_aload_n dX1_readLeaf_172 rfl rfl ?_
        refine xq_getR clX1 (by decide) rfl fl_RX1_24 dX1_readLeaf_173 (Fx.s8 hF) hf4.kn ?_
        refine xq_iload_n dX1_readLeaf_176 rfl rfl ?_
        refine xq_iload dX1_readLeaf_177 rfl ?_
        refine xq_iload dX1_readLeaf_179 rfl ?_
        refine xq_callV3H clX2 gd_X2_add dX1_readLeaf_181 ml_RX1_103 im_X2_add se_X2_add rfl (Kn.s0 (Tx.n7 ht)) (by exact Nat.le_of_ble_eq_true rfl) (by decide) (c_kadd (Tx.n7 ht) hf4.tx.kt hnk) ?_
        intro x181 H181 p181
        obtain ⟨rfl, kt181, bg181, o181⟩ := p181
        have hf181 := hf4.add ht24 kt181 bg181 o181
        refine xq_callV1N clX1 gd_X1_push dX1_readLeaf_184 ml_RX1_106 im_X1_push se_X1_push rfl (Fx.s8 hF) (by exact Nat.le_of_ble_eq_true rfl) (by decide) (c_push hF hf181.hz hhs hf181.nd) ?_
        intro H184 p184
        subst p184
        refine xq_iconst dX1_readLeaf_187 ic2 ?_
        refine xq_iret dX1_readLeaf_188 rfl ?_
        have nz : ¬ knP s (n + 1) (ws, hs, o, T, b, w) = -1 := by rw [hz]; omega
        have ez : (knP s (n + 1) (ws, hs, o, T, b, w)).toNat = p := by rw [hz]; rfl
        have ny : ¬ knC s (n + 2) (ws, hs, o, T, b, w) = -1 := by rw [hy]; omega
        have ey : (knC s (n + 2) (ws, hs, o, T, b, w)).toNat = y := by rw [hy]; rfl
        have e : hatS s n (ws, hs, o, T, b, w) = .inr (2, n + 3, kpsX 14 p y (ws, hs, o, T, b, w)) := (if_neg nz).trans ((if_neg ny).trans (by rw [ez, ey]))
        rw [e]
        have oZ : Off (fun q => (8 ≤ q ∧ q < 12) ∨ (t + 7 ≤ q ∧ q < t + 11)) _ (psH H181 w hs.length (tNk T)) := psH_o (w := w) (sz := hs.length) (r := tNk T) (by omega) (by omega) (o181.mo (fun q h => by omega))
        exact ⟨2, _, ⟨rfl, Off.tr (Off.pI (A := (fun q => q = 2 ∨ (8 ≤ q ∧ q < 16) ∨ (t ≤ q ∧ q < t + 21))) (Off.pI (A := (fun q => q = 2 ∨ (8 ≤ q ∧ q < 16) ∨ (t ≤ q ∧ q < t + 21))) (Off.pI (A := (fun q => q = 2 ∨ (8 ≤ q ∧ q < 16) ∨ (t ≤ q ∧ q < t + 21))) Off.rf (by omega) _ _) (by omega) _ _) (by omega) _ _) (oZ.mo (fun q h => by omega)), hs4.off oZ (fun q h => by omega), (oZ.I (by omega) 7).trans (by simp [hI_sI, hI_sL]), (oZ.I (by omega) 8).trans (by simp [hI_sI, hI_sL]), hf181.psh ht24⟩, rfl⟩
    · skip
      first | exact absurd h23 (by decide) | exact absurd rfl h23
  · skip
    first | exact absurd h10 (by decide) | exact absurd rfl h10
theorem c_leaf15_0 (hF : gFx S) (ht : gTx S t) (ht24 : 24 ≤ t) (ht45 : t ≤ 45) (hs1 : TrP H s n) (hk : TrOk s) (hn : n ≤ 790) (hf : FmP H t (ws, hs, o, T, b, w)) (hnp : tNp T ≤ 6) (hnc : tNc T ≤ 3) (hnf : tNf T ≤ 8) (hnk : tNk T < 64) (hhs : hs.length < 64) (hz : knP s (n + 1) (ws, hs, o, T, b, w) = -1) : Hv mX1_readLeaf 2 [.ref 8, .ref t, vN 15] S H vN (fun x H' => x = mrV (ownS s n (ws, hs, o, T, b, w)) ∧ mrQ H H' t s (ownS s n (ws, hs, o, T, b, w))) := by
  have hs2 := hs1.st (n + 1)
  have hs3 := hs2.st (n + 2)
  have hf2 := hf.st2 (v := n + 1) ht24
  have hf3 := hf2.st2 (v := n + 2) ht24
  have hk0 := hk.1
  refine vq_intro (by decide) (by exact Nat.le_of_ble_eq_true rfl) rfl ?_
  refine xq_aload_n dX1_readLeaf_0 rfl rfl ?_
  refine xq_getF clX1 (by decide) rfl fl_RX1_28 dX1_readLeaf_1 (Fx.s8 hF) (Fx.r8_0 hF) ?_
  refine xq_callV0N clX9 gd_X9_step dX1_readLeaf_4 ml_RX1_109 im_X9_step se_X9_step rfl (Fx.s2 hF) (by exact Nat.le_of_ble_eq_true rfl) (by decide) (c_step hF hs1 hk (by omega)) ?_
  intro H4 p4
  subst p4
  refine xq_iload_n dX1_readLeaf_7 rfl rfl ?_
  refine xq_bipush dX1_readLeaf_8 bp19 ?_
  refine xq_icmp_neN dX1_readLeaf_10 rfl (by omega) (by omega) ⟨fun h10 => ?_, fun h10 => ?_⟩
  · skip
    refine xq_iload_n dX1_readLeaf_20 rfl rfl ?_
    refine xq_bipush dX1_readLeaf_21 bp20 ?_
    refine xq_icmp_neN dX1_readLeaf_23 rfl (by omega) (by omega) ⟨fun h23 => ?_, fun h23 => ?_⟩
    · skip
      refine xq_aload_n dX1_readLeaf_33 rfl rfl ?_
      refine xq_getF clX8 (by decide) rfl fl_RX1_115 dX1_readLeaf_34 (Tx.s0 ht) (Tx.r1 ht) ?_
      refine xq_astore_n dX1_readLeaf_37 rfl rfl ?_
      refine xq_aload_n dX1_readLeaf_38 rfl rfl ?_
      refine xq_getF clX1 (by decide) rfl fl_RX1_28 dX1_readLeaf_39 (Fx.s8 hF) (Fx.r8_0 hF) ?_
      refine xq_aload_n dX1_readLeaf_42 rfl rfl ?_
      refine xq_callV1H clX9 gd_X9_known dX1_readLeaf_43 ml_RX1_119 im_X9_known se_X9_known rfl (Fx.s2 hF) (by exact Nat.le_of_ble_eq_true rfl) (by decide) (c_known0 hF hs2 hk (by omega) (Tx.n3 ht) hf2.tx.nmp (show tNp T ≤ 6 by omega) (by decide) hz) ?_
      intro x43 H43 p43
      obtain ⟨rfl, q43⟩ := p43
      refine xq_istore dX1_readLeaf_46 rfl ?_
      refine xq_iload dX1_readLeaf_48 rfl ?_
      refine xq_if_ge dX1_readLeaf_50 rfl ⟨fun h50 => ?_, fun h50 => ?_⟩
      · skip
        exact absurd h50 (by decide)
      · skip
        refine xq_iconst dX1_readLeaf_53 ic3 ?_
        refine xq_iret dX1_readLeaf_54 rfl ?_
        have e : ownS s n (ws, hs, o, T, b, w) = .inl (knoF s (n + 1), n + 1) := if_pos hz
        rw [e]
        exact ⟨3, H43, ⟨rfl, Off.tr (Off.pI (A := (fun q => q = 2 ∨ (8 ≤ q ∧ q < 16) ∨ (t ≤ q ∧ q < t + 21))) Off.rf (by omega) _ _) (q43.2.2.2.mo (fun q h => Or.inl h)), q43.1, q43.2.1, (q43.2.2.1 6 (by decide) (by decide)).trans (by repeat rw [hI_sI, if_neg (by omega)])⟩, rfl⟩
    · skip
      first | exact absurd h23 (by decide) | exact absurd rfl h23
  · skip
    first | exact absurd h10 (by decide) | exact absurd rfl h10
theorem c_leaf15_1 (hF : gFx S) (ht : gTx S t) (ht24 : 24 ≤ t) (ht45 : t ≤ 45) (hs1 : TrP H s n) (hk : TrOk s) (hn : n ≤ 790) (hf : FmP H t (ws, hs, o, T, b, w)) (hnp : tNp T ≤ 6) (hnc : tNc T ≤ 3) (hnf : tNf T ≤ 8) (hnk : tNk T < 64) (hhs : hs.length < 64) (hz : knP s (n + 1) (ws, hs, o, T, b, w) = (p : Nat)) (hp : p < tNp T) : Hv mX1_readLeaf 2 [.ref 8, .ref t, vN 15] S H vN (fun x H' => x = mrV (ownS s n (ws, hs, o, T, b, w)) ∧ mrQ H H' t s (ownS s n (ws, hs, o, T, b, w))) := by
  have hs2 := hs1.st (n + 1)
  have hs3 := hs2.st (n + 2)
  have hf2 := hf.st2 (v := n + 1) ht24
  have hf3 := hf2.st2 (v := n + 2) ht24
  have hk0 := hk.1
  refine vq_intro (by decide) (by exact Nat.le_of_ble_eq_true rfl) rfl ?_
  refine xq_aload_n dX1_readLeaf_0 rfl rfl ?_
  refine xq_getF clX1 (by decide) rfl fl_RX1_28 dX1_readLeaf_1 (Fx.s8 hF) (Fx.r8_0 hF) ?_
  refine xq_callV0N clX9 gd_X9_step dX1_readLeaf_4 ml_RX1_109 im_X9_step se_X9_step rfl (Fx.s2 hF) (by exact Nat.le_of_ble_eq_true rfl) (by decide) (c_step hF hs1 hk (by omega)) ?_
  intro H4 p4
  subst p4
  refine xq_iload_n dX1_readLeaf_7 rfl rfl ?_
  refine xq_bipush dX1_readLeaf_8 bp19 ?_
  refine xq_icmp_neN dX1_readLeaf_10 rfl (by omega) (by omega) ⟨fun h10 => ?_, fun h10 => ?_⟩
  · skip
    refine xq_iload_n dX1_readLeaf_20 rfl rfl ?_
    refine xq_bipush dX1_readLeaf_21 bp20 ?_
    refine xq_icmp_neN dX1_readLeaf_23 rfl (by omega) (by omega) ⟨fun h23 => ?_, fun h23 => ?_⟩
    · skip
      refine xq_aload_n dX1_readLeaf_33 rfl rfl ?_
      refine xq_getF clX8 (by decide) rfl fl_RX1_115 dX1_readLeaf_34 (Tx.s0 ht) (Tx.r1 ht) ?_
      refine xq_astore_n dX1_readLeaf_37 rfl rfl ?_
      refine xq_aload_n dX1_readLeaf_38 rfl rfl ?_
      refine xq_getF clX1 (by decide) rfl fl_RX1_28 dX1_readLeaf_39 (Fx.s8 hF) (Fx.r8_0 hF) ?_
      refine xq_aload_n dX1_readLeaf_42 rfl rfl ?_
      refine xq_callV1P clX9 gd_X9_known dX1_readLeaf_43 ml_RX1_119 im_X9_known se_X9_known rfl (Fx.s2 hF) (by exact Nat.le_of_ble_eq_true rfl) (by decide) (c_known1 hF hs2 hk (by omega) (Tx.n3 ht) hf2.tx.nmp (show tNp T ≤ 6 by omega) (by decide) hz) ?_
      refine xq_istore dX1_readLeaf_46 rfl ?_
      refine xq_iload dX1_readLeaf_48 rfl ?_
      refine xq_if_geN dX1_readLeaf_50 rfl (by omega) ?_
      refine xq_aload_n dX1_readLeaf_55 rfl rfl ?_
      refine xq_getF clX1 (by decide) rfl fl_RX1_28 dX1_readLeaf_56 (Fx.s8 hF) (Fx.r8_0 hF) ?_
      refine xq_callV0N clX9 gd_X9_step dX1_readLeaf_59 ml_RX1_109 im_X9_step se_X9_step rfl (Fx.s2 hF) (by exact Nat.le_of_ble_eq_true rfl) (by decide) (c_step hF hs2 hk (by omega)) ?_
      intro H59 p59
      subst p59
      refine xq_iconst dX1_readLeaf_62 ic0 ?_
      refine xq_istore dX1_readLeaf_63 rfl ?_
      refine xq_iload_n dX1_readLeaf_65 rfl rfl ?_
      refine xq_bipush dX1_readLeaf_66 bp14 ?_
      refine xq_icmp_neN dX1_readLeaf_68 rfl (by omega) (by omega) ⟨fun h68 => ?_, fun h68 => ?_⟩
      · skip
        refine xq_iload_n dX1_readLeaf_101 rfl rfl ?_
        refine xq_bipush dX1_readLeaf_102 bp19 ?_
        refine xq_icmp_neN dX1_readLeaf_104 rfl (by omega) (by omega) ⟨fun h104 => ?_, fun h104 => ?_⟩
        · skip
          refine xq_iload_n dX1_readLeaf_140 rfl rfl ?_
          refine xq_bipush dX1_readLeaf_141 bp20 ?_
          refine xq_icmp_neN dX1_readLeaf_143 rfl (by omega) (by omega) ⟨fun h143 => ?_, fun h143 => ?_⟩
          · skip
            refine xq_aload_n dX1_readLeaf_171 rfl rfl ?_
            refine xq_aload_n dX1_readLeaf_172 rfl rfl ?_
            refine xq_getR clX1 (by decide) rfl fl_RX1_24 dX1_readLeaf_173 (Fx.s8 hF) hf3.kn ?_
            refine xq_iload_n dX1_readLeaf_176 rfl rfl ?_
            refine xq_iload dX1_readLeaf_177 rfl ?_
            refine xq_iload dX1_readLeaf_179 rfl ?_
            refine xq_callV3H clX2 gd_X2_add dX1_readLeaf_181 ml_RX1_103 im_X2_add se_X2_add rfl (Kn.s0 (Tx.n7 ht)) (by exact Nat.le_of_ble_eq_true rfl) (by decide) (c_kadd (Tx.n7 ht) hf3.tx.kt hnk) ?_
            intro x181 H181 p181
            obtain ⟨rfl, kt181, bg181, o181⟩ := p181
            have hf181 := hf3.add ht24 kt181 bg181 o181
            refine xq_callV1N clX1 gd_X1_push dX1_readLeaf_184 ml_RX1_106 im_X1_push se_X1_push rfl (Fx.s8 hF) (by exact Nat.le_of_ble_eq_true rfl) (by decide) (c_push hF hf181.hz hhs hf181.nd) ?_
            intro H184 p184
            subst p184
            refine xq_iconst dX1_readLeaf_187 ic2 ?_
            refine xq_iret dX1_readLeaf_188 rfl ?_
            have nz : ¬ knP s (n + 1) (ws, hs, o, T, b, w) = -1 := by rw [hz]; omega
            have ez : (knP s (n + 1) (ws, hs, o, T, b, w)).toNat = p := by rw [hz]; rfl
            have e : ownS s n (ws, hs, o, T, b, w) = .inr (2, n + 2, kpsX 15 p 0 (ws, hs, o, T, b, w)) := (if_neg nz).trans (by rw [ez])
            rw [e]
            have oZ : Off (fun q => (8 ≤ q ∧ q < 12) ∨ (t + 7 ≤ q ∧ q < t + 11)) _ (psH H181 w hs.length (tNk T)) := psH_o (w := w) (sz := hs.length) (r := tNk T) (by omega) (by omega) (o181.mo (fun q h => by omega))
            exact ⟨2, _, ⟨rfl, Off.tr (Off.pI (A := (fun q => q = 2 ∨ (8 ≤ q ∧ q < 16) ∨ (t ≤ q ∧ q < t + 21))) (Off.pI (A := (fun q => q = 2 ∨ (8 ≤ q ∧ q < 16) ∨ (t ≤ q ∧ q < t + 21))) Off.rf (by omega) _ _) (by omega) _ _) (oZ.mo (fun q h => by omega)), hs3.off oZ (fun q h => by omega), (oZ.I (by omega) 7).trans (by simp [hI_sI, hI_sL]), (oZ.I (by omega) 8).trans (by simp [hI_sI, hI_sL]), hf181.psh ht24⟩, rfl⟩
          · skip
            first | exact absurd h143 (by decide) | exact absurd rfl h143
        · skip
          first | exact absurd h104 (by decide) | exact absurd rfl h104
      · skip
        first | exact absurd h68 (by decide) | exact absurd rfl h68
    · skip
      first | exact absurd h23 (by decide) | exact absurd rfl h23
  · skip
    first | exact absurd h10 (by decide) | exact absurd rfl h10
theorem c_leaf19_0 (hF : gFx S) (ht : gTx S t) (ht24 : 24 ≤ t) (ht45 : t ≤ 45) (hs1 : TrP H s n) (hk : TrOk s) (hn : n ≤ 790) (hf : FmP H t (ws, hs, o, T, b, w)) (hnp : tNp T ≤ 6) (hnc : tNc T ≤ 3) (hnf : tNf T ≤ 8) (hnk : tNk T < 64) (hhs : hs.length < 64) (hz : knC s (n + 1) (ws, hs, o, T, b, w) = -1) : Hv mX1_readLeaf 2 [.ref 8, .ref t, vN 19] S H vN (fun x H' => x = mrV (mnyS s n (ws, hs, o, T, b, w)) ∧ mrQ H H' t s (mnyS s n (ws, hs, o, T, b, w))) := by
  have hs2 := hs1.st (n + 1)
  have hs3 := hs2.st (n + 2)
  have hf2 := hf.st2 (v := n + 1) ht24
  have hf3 := hf2.st2 (v := n + 2) ht24
  have hk0 := hk.1
  refine vq_intro (by decide) (by exact Nat.le_of_ble_eq_true rfl) rfl ?_
  refine xq_aload_n dX1_readLeaf_0 rfl rfl ?_
  refine xq_getF clX1 (by decide) rfl fl_RX1_28 dX1_readLeaf_1 (Fx.s8 hF) (Fx.r8_0 hF) ?_
  refine xq_callV0N clX9 gd_X9_step dX1_readLeaf_4 ml_RX1_109 im_X9_step se_X9_step rfl (Fx.s2 hF) (by exact Nat.le_of_ble_eq_true rfl) (by decide) (c_step hF hs1 hk (by omega)) ?_
  intro H4 p4
  subst p4
  refine xq_iload_n dX1_readLeaf_7 rfl rfl ?_
  refine xq_bipush dX1_readLeaf_8 bp19 ?_
  refine xq_icmp_neN dX1_readLeaf_10 rfl (by omega) (by omega) ⟨fun h10 => ?_, fun h10 => ?_⟩
  · skip
    first | exact absurd h10 (by decide) | exact absurd rfl h10
  · skip
    refine xq_aload_n dX1_readLeaf_13 rfl rfl ?_
    refine xq_getF clX8 (by decide) rfl fl_RX1_123 dX1_readLeaf_14 (Tx.s0 ht) (Tx.r0 ht) ?_
    refine xq_goto dX1_readLeaf_17 rfl ?_
    refine xq_astore_n dX1_readLeaf_37 rfl rfl ?_
    refine xq_aload_n dX1_readLeaf_38 rfl rfl ?_
    refine xq_getF clX1 (by decide) rfl fl_RX1_28 dX1_readLeaf_39 (Fx.s8 hF) (Fx.r8_0 hF) ?_
    refine xq_aload_n dX1_readLeaf_42 rfl rfl ?_
    refine xq_callV1H clX9 gd_X9_known dX1_readLeaf_43 ml_RX1_119 im_X9_known se_X9_known rfl (Fx.s2 hF) (by exact Nat.le_of_ble_eq_true rfl) (by decide) (c_known0 hF hs2 hk (by omega) (Tx.n1 ht) hf2.tx.nmc (show tNc T ≤ 3 by omega) (by decide) hz) ?_
    intro x43 H43 p43
    obtain ⟨rfl, q43⟩ := p43
    refine xq_istore dX1_readLeaf_46 rfl ?_
    refine xq_iload dX1_readLeaf_48 rfl ?_
    refine xq_if_ge dX1_readLeaf_50 rfl ⟨fun h50 => ?_, fun h50 => ?_⟩
    · skip
      exact absurd h50 (by decide)
    · skip
      refine xq_iconst dX1_readLeaf_53 ic3 ?_
      refine xq_iret dX1_readLeaf_54 rfl ?_
      have e : mnyS s n (ws, hs, o, T, b, w) = .inl (knoF s (n + 1), n + 1) := if_pos hz
      rw [e]
      exact ⟨3, H43, ⟨rfl, Off.tr (Off.pI (A := (fun q => q = 2 ∨ (8 ≤ q ∧ q < 16) ∨ (t ≤ q ∧ q < t + 21))) Off.rf (by omega) _ _) (q43.2.2.2.mo (fun q h => Or.inl h)), q43.1, q43.2.1, (q43.2.2.1 6 (by decide) (by decide)).trans (by repeat rw [hI_sI, if_neg (by omega)])⟩, rfl⟩
theorem c_leaf19_1 (hF : gFx S) (ht : gTx S t) (ht24 : 24 ≤ t) (ht45 : t ≤ 45) (hs1 : TrP H s n) (hk : TrOk s) (hn : n ≤ 790) (hf : FmP H t (ws, hs, o, T, b, w)) (hnp : tNp T ≤ 6) (hnc : tNc T ≤ 3) (hnf : tNf T ≤ 8) (hnk : tNk T < 64) (hhs : hs.length < 64) (hz : knC s (n + 1) (ws, hs, o, T, b, w) = (p : Nat)) (hp : p < tNc T) : Hv mX1_readLeaf 2 [.ref 8, .ref t, vN 19] S H vN (fun x H' => x = mrV (mnyS s n (ws, hs, o, T, b, w)) ∧ mrQ H H' t s (mnyS s n (ws, hs, o, T, b, w))) := by
  have hs2 := hs1.st (n + 1)
  have hs3 := hs2.st (n + 2)
  have hf2 := hf.st2 (v := n + 1) ht24
  have hf3 := hf2.st2 (v := n + 2) ht24
  have hk0 := hk.1
  refine vq_intro (by decide) (by exact Nat.le_of_ble_eq_true rfl) rfl ?_
  refine xq_aload_n dX1_readLeaf_0 rfl rfl ?_
  refine xq_getF clX1 (by decide) rfl fl_RX1_28 dX1_readLeaf_1 (Fx.s8 hF) (Fx.r8_0 hF) ?_
  refine xq_callV0N clX9 gd_X9_step dX1_readLeaf_4 ml_RX1_109 im_X9_step se_X9_step rfl (Fx.s2 hF) (by exact Nat.le_of_ble_eq_true rfl) (by decide) (c_step hF hs1 hk (by omega)) ?_
  intro H4 p4
  subst p4
  refine xq_iload_n dX1_readLeaf_7 rfl rfl ?_
  refine xq_bipush dX1_readLeaf_8 bp19 ?_
  refine xq_icmp_neN dX1_readLeaf_10 rfl (by omega) (by omega) ⟨fun h10 => ?_, fun h10 => ?_⟩
  · skip
    first | exact absurd h10 (by decide) | exact absurd rfl h10
  · skip
    refine xq_aload_n dX1_readLeaf_13 rfl rfl ?_
    refine xq_getF clX8 (by decide) rfl fl_RX1_123 dX1_readLeaf_14 (Tx.s0 ht) (Tx.r0 ht) ?_
    refine xq_goto dX1_readLeaf_17 rfl ?_
    refine xq_astore_n dX1_readLeaf_37 rfl rfl ?_
    refine xq_aload_n dX1_readLeaf_38 rfl rfl ?_
    refine xq_getF clX1 (by decide) rfl fl_RX1_28 dX1_readLeaf_39 (Fx.s8 hF) (Fx.r8_0 hF) ?_
    refine xq_aload_n dX1_readLeaf_42 rfl rfl ?_
    refine xq_callV1P clX9 gd_X9_known dX1_readLeaf_43 ml_RX1_119 im_X9_known se_X9_known rfl (Fx.s2 hF) (by exact Nat.le_of_ble_eq_true rfl) (by decide) (c_known1 hF hs2 hk (by omega) (Tx.n1 ht) hf2.tx.nmc (show tNc T ≤ 3 by omega) (by decide) hz) ?_
    refine xq_istore dX1_readLeaf_46 rfl ?_
    refine xq_iload dX1_readLeaf_48 rfl ?_
    refine xq_if_geN dX1_readLeaf_50 rfl (by omega) ?_
    refine xq_aload_n dX1_readLeaf_55 rfl rfl ?_
    refine xq_getF clX1 (by decide) rfl fl_RX1_28 dX1_readLeaf_56 (Fx.s8 hF) (Fx.r8_0 hF) ?_
    refine xq_callV0N clX9 gd_X9_step dX1_readLeaf_59 ml_RX1_109 im_X9_step se_X9_step rfl (Fx.s2 hF) (by exact Nat.le_of_ble_eq_true rfl) (by decide) (c_step hF hs2 hk (by omega)) ?_
    intro H59 p59
    subst p59
    refine xq_iconst dX1_readLeaf_62 ic0 ?_
    refine xq_istore dX1_readLeaf_63 rfl ?_
    refine xq_iload_n dX1_readLeaf_65 rfl rfl ?_
    refine xq_bipush dX1_readLeaf_66 bp14 ?_
    refine xq_icmp_neN dX1_readLeaf_68 rfl (by omega) (by omega) ⟨fun h68 => ?_, fun h68 => ?_⟩
    · skip
      refine xq_iload_n dX1_readLeaf_101 rfl rfl ?_
      refine xq_bipush dX1_readLeaf_102 bp19 ?_
      refine xq_icmp_neN dX1_readLeaf_104 rfl (by omega) (by omega) ⟨fun h104 => ?_, fun h104 => ?_⟩
      · skip
        first | exact absurd h104 (by decide) | exact absurd rfl h104
      · skip
        refine xq_aload_n dX1_readLeaf_107 rfl rfl ?_
        refine xq_getF clX1 (by decide) rfl fl_RX1_28 dX1_readLeaf_108 (Fx.s8 hF) (Fx.r8_0 hF) ?_
        refine xq_bipush dX1_readLeaf_111 bp6 ?_
        refine xq_callV1H clX9 gd_X9_isNumber dX1_readLeaf_113 ml_RX1_97 im_X9_isNumber se_X9_isNumber rfl (Fx.s2 hF) (by exact Nat.le_of_ble_eq_true rfl) (by decide) (c_isNumber hF hs3 hk (by omega) (m := 6) (by decide)) ?_
        intro x113 H113 p113
        obtain ⟨e113, q113, r113⟩ := p113
        have hs4 := hs3.st (n + 3)
        have hf4 := hf3.st2 (v := n + 3) ht24
        refine xq_if_neB dX1_readLeaf_116 rfl ⟨fun h116 => ?_, fun h116 => ?_⟩
        · skip
          have ee := q113 h116
          subst ee
          refine xq_aload_n dX1_readLeaf_121 rfl rfl ?_
          refine xq_getF clX1 (by decide) rfl fl_RX1_28 dX1_readLeaf_122 (Fx.s8 hF) (Fx.r8_0 hF) ?_
          refine xq_callV0P clX9 gd_X9_value dX1_readLeaf_125 ml_RX1_100 im_X9_value se_X9_value rfl (Fx.s2 hF) (by exact Nat.le_of_ble_eq_true rfl) (by decide) (c_value hF hs3 hk (by omega)) ?_
          refine xq_istore dX1_readLeaf_128 rfl ?_
          refine xq_aload_n dX1_readLeaf_130 rfl rfl ?_
          refine xq_getF clX1 (by decide) rfl fl_RX1_28 dX1_readLeaf_131 (Fx.s8 hF) (Fx.r8_0 hF) ?_
          refine xq_callV0N clX9 gd_X9_step dX1_readLeaf_134 ml_RX1_109 im_X9_step se_X9_step rfl (Fx.s2 hF) (by exact Nat.le_of_ble_eq_true rfl) (by decide) (c_step hF hs3 hk (by omega)) ?_
          intro H134 p134
          subst p134
          refine xq_goto dX1_readLeaf_137 rfl ?_
          refine xq_aload_n dX1_readLeaf_171 rfl rfl ?_
          refine xq_aload_n dX1_readLeaf_172 rfl rfl ?_
          refine xq_getR clX1 (by decide) rfl fl_RX1_24 dX1_readLeaf_173 (Fx.s8 hF) hf4.kn ?_
          refine xq_iload_n dX1_readLeaf_176 rfl rfl ?_
          refine xq_iload dX1_readLeaf_177 rfl ?_
          refine xq_iload dX1_readLeaf_179 rfl ?_
          refine xq_callV3H clX2 gd_X2_add dX1_readLeaf_181 ml_RX1_103 im_X2_add se_X2_add rfl (Kn.s0 (Tx.n7 ht)) (by exact Nat.le_of_ble_eq_true rfl) (by decide) (c_kadd (Tx.n7 ht) hf4.tx.kt hnk) ?_
          intro x181 H181 p181
          obtain ⟨rfl, kt181, bg181, o181⟩ := p181
          have hf181 := hf4.add ht24 kt181 bg181 o181
          refine xq_callV1N clX1 gd_X1_push dX1_readLeaf_184 ml_RX1_106 im_X1_push se_X1_push rfl (Fx.s8 hF) (by exact Nat.le_of_ble_eq_true rfl) (by decide) (c_push hF hf181.hz hhs hf181.nd) ?_
          intro H184 p184
          subst p184
          refine xq_iconst dX1_readLeaf_187 ic2 ?_
          refine xq_iret dX1_readLeaf_188 rfl ?_
          have nz : ¬ knC s (n + 1) (ws, hs, o, T, b, w) = -1 := by rw [hz]; omega
          have ez : (knC s (n + 1) (ws, hs, o, T, b, w)).toNat = p := by rw [hz]; rfl
          have e : mnyS s n (ws, hs, o, T, b, w) = .inr (2, n + 3, kpsX 19 p (kV s (n + 2)) (ws, hs, o, T, b, w)) := (if_neg nz).trans ((if_neg (by rw [← e113, h116]; decide)).trans (by rw [ez]))
          rw [e]
          have oZ : Off (fun q => (8 ≤ q ∧ q < 12) ∨ (t + 7 ≤ q ∧ q < t + 11)) _ (psH H181 w hs.length (tNk T)) := psH_o (w := w) (sz := hs.length) (r := tNk T) (by omega) (by omega) (o181.mo (fun q h => by omega))
          exact ⟨2, _, ⟨rfl, Off.tr (Off.pI (A := (fun q => q = 2 ∨ (8 ≤ q ∧ q < 16) ∨ (t ≤ q ∧ q < t + 21))) (Off.pI (A := (fun q => q = 2 ∨ (8 ≤ q ∧ q < 16) ∨ (t ≤ q ∧ q < t + 21))) (Off.pI (A := (fun q => q = 2 ∨ (8 ≤ q ∧ q < 16) ∨ (t ≤ q ∧ q < t + 21))) Off.rf (by omega) _ _) (by omega) _ _) (by omega) _ _) (oZ.mo (fun q h => by omega)), hs4.off oZ (fun q h => by omega), (oZ.I (by omega) 7).trans (by simp [hI_sI, hI_sL]), (oZ.I (by omega) 8).trans (by simp [hI_sI, hI_sL]), hf181.psh ht24⟩, rfl⟩
        · skip
          refine xq_iconst dX1_readLeaf_119 ic3 ?_
          refine xq_iret dX1_readLeaf_120 rfl ?_
          have nz : ¬ knC s (n + 1) (ws, hs, o, T, b, w) = -1 := by rw [hz]; omega
          have ez : (knC s (n + 1) (ws, hs, o, T, b, w)).toNat = p := by rw [hz]; rfl
          have hq : x113 = false := by simpa using h116
          have q := r113 hq
          have e : mnyS s n (ws, hs, o, T, b, w) = .inl (numF s (n + 2), n + 2) := (if_neg nz).trans (if_pos (e113.symm.trans hq))
          rw [e]
          exact ⟨3, H113, ⟨rfl, Off.tr (Off.pI (A := (fun q => q = 2 ∨ (8 ≤ q ∧ q < 16) ∨ (t ≤ q ∧ q < t + 21))) (Off.pI (A := (fun q => q = 2 ∨ (8 ≤ q ∧ q < 16) ∨ (t ≤ q ∧ q < t + 21))) Off.rf (by omega) _ _) (by omega) _ _) (q.2.2.2.mo (fun q h => Or.inl h)), q.1, q.2.1, (q.2.2.1 6 (by decide) (by decide)).trans (by repeat rw [hI_sI, if_neg (by omega)])⟩, rfl⟩
    · skip
      first | exact absurd h68 (by decide) | exact absurd rfl h68
theorem c_leaf20_0 (hF : gFx S) (ht : gTx S t) (ht24 : 24 ≤ t) (ht45 : t ≤ 45) (hs1 : TrP H s n) (hk : TrOk s) (hn : n ≤ 790) (hf : FmP H t (ws, hs, o, T, b, w)) (hnp : tNp T ≤ 6) (hnc : tNc T ≤ 3) (hnf : tNf T ≤ 8) (hnk : tNk T < 64) (hhs : hs.length < 64) (hz : knA s (n + 1) (ws, hs, o, T, b, w) = -1) : Hv mX1_readLeaf 2 [.ref 8, .ref t, vN 20] S H vN (fun x H' => x = mrV (asS s n (ws, hs, o, T, b, w)) ∧ mrQ H H' t s (asS s n (ws, hs, o, T, b, w))) := by
  have hs2 := hs1.st (n + 1)
  have hs3 := hs2.st (n + 2)
  have hf2 := hf.st2 (v := n + 1) ht24
  have hf3 := hf2.st2 (v := n + 2) ht24
  have hk0 := hk.1
  refine vq_intro (by decide) (by exact Nat.le_of_ble_eq_true rfl) rfl ?_
  refine xq_aload_n dX1_readLeaf_0 rfl rfl ?_
  refine xq_getF clX1 (by decide) rfl fl_RX1_28 dX1_readLeaf_1 (Fx.s8 hF) (Fx.r8_0 hF) ?_
  refine xq_callV0N clX9 gd_X9_step dX1_readLeaf_4 ml_RX1_109 im_X9_step se_X9_step rfl (Fx.s2 hF) (by exact Nat.le_of_ble_eq_true rfl) (by decide) (c_step hF hs1 hk (by omega)) ?_
  intro H4 p4
  subst p4
  refine xq_iload_n dX1_readLeaf_7 rfl rfl ?_
  refine xq_bipush dX1_readLeaf_8 bp19 ?_
  refine xq_icmp_neN dX1_readLeaf_10 rfl (by omega) (by omega) ⟨fun h10 => ?_, fun h10 => ?_⟩
  · skip
    refine xq_iload_n dX1_readLeaf_20 rfl rfl ?_
    refine xq_bipush dX1_readLeaf_21 bp20 ?_
    refine xq_icmp_neN dX1_readLeaf_23 rfl (by omega) (by omega) ⟨fun h23 => ?_, fun h23 => ?_⟩
    · skip
      first | exact absurd h23 (by decide) | exact absurd rfl h23
    · skip
      refine xq_aload_n dX1_readLeaf_26 rfl rfl ?_
      refine xq_getF clX8 (by decide) rfl fl_RX1_126 dX1_readLeaf_27 (Tx.s0 ht) (Tx.r2 ht) ?_
      refine xq_goto dX1_readLeaf_30 rfl ?_
      refine xq_astore_n dX1_readLeaf_37 rfl rfl ?_
      refine xq_aload_n dX1_readLeaf_38 rfl rfl ?_
      refine xq_getF clX1 (by decide) rfl fl_RX1_28 dX1_readLeaf_39 (Fx.s8 hF) (Fx.r8_0 hF) ?_
      refine xq_aload_n dX1_readLeaf_42 rfl rfl ?_
      refine xq_callV1H clX9 gd_X9_known dX1_readLeaf_43 ml_RX1_119 im_X9_known se_X9_known rfl (Fx.s2 hF) (by exact Nat.le_of_ble_eq_true rfl) (by decide) (c_known0 hF hs2 hk (by omega) (Tx.n5 ht) hf2.tx.nmf (show tNf T ≤ 8 by omega) (by decide) hz) ?_
      intro x43 H43 p43
      obtain ⟨rfl, q43⟩ := p43
      refine xq_istore dX1_readLeaf_46 rfl ?_
      refine xq_iload dX1_readLeaf_48 rfl ?_
      refine xq_if_ge dX1_readLeaf_50 rfl ⟨fun h50 => ?_, fun h50 => ?_⟩
      · skip
        exact absurd h50 (by decide)
      · skip
        refine xq_iconst dX1_readLeaf_53 ic3 ?_
        refine xq_iret dX1_readLeaf_54 rfl ?_
        have e : asS s n (ws, hs, o, T, b, w) = .inl (knoF s (n + 1), n + 1) := if_pos hz
        rw [e]
        exact ⟨3, H43, ⟨rfl, Off.tr (Off.pI (A := (fun q => q = 2 ∨ (8 ≤ q ∧ q < 16) ∨ (t ≤ q ∧ q < t + 21))) Off.rf (by omega) _ _) (q43.2.2.2.mo (fun q h => Or.inl h)), q43.1, q43.2.1, (q43.2.2.1 6 (by decide) (by decide)).trans (by repeat rw [hI_sI, if_neg (by omega)])⟩, rfl⟩
  · skip
    first | exact absurd h10 (by decide) | exact absurd rfl h10
theorem c_leaf20_1 (hF : gFx S) (ht : gTx S t) (ht24 : 24 ≤ t) (ht45 : t ≤ 45) (hs1 : TrP H s n) (hk : TrOk s) (hn : n ≤ 790) (hf : FmP H t (ws, hs, o, T, b, w)) (hnp : tNp T ≤ 6) (hnc : tNc T ≤ 3) (hnf : tNf T ≤ 8) (hnk : tNk T < 64) (hhs : hs.length < 64) (hz : knA s (n + 1) (ws, hs, o, T, b, w) = (p : Nat)) (hp : p < tNf T) : Hv mX1_readLeaf 2 [.ref 8, .ref t, vN 20] S H vN (fun x H' => x = mrV (asS s n (ws, hs, o, T, b, w)) ∧ mrQ H H' t s (asS s n (ws, hs, o, T, b, w))) := by
  have hs2 := hs1.st (n + 1)
  have hs3 := hs2.st (n + 2)
  have hf2 := hf.st2 (v := n + 1) ht24
  have hf3 := hf2.st2 (v := n + 2) ht24
  have hk0 := hk.1
  have hf4 := hf3.ned (w2 := (w ||| tNe T p)) ht24
  have hs4 : TrP (sL (sI (sI H 2 5 (nI (n + 1))) 2 5 (nI (n + 2))) 8 8 (w ||| tNe T p)) s (n + 2) := hs3
  refine vq_intro (by decide) (by exact Nat.le_of_ble_eq_true rfl) rfl ?_
  refine xq_aload_n dX1_readLeaf_0 rfl rfl ?_
  refine xq_getF clX1 (by decide) rfl fl_RX1_28 dX1_readLeaf_1 (Fx.s8 hF) (Fx.r8_0 hF) ?_
  refine xq_callV0N clX9 gd_X9_step dX1_readLeaf_4 ml_RX1_109 im_X9_step se_X9_step rfl (Fx.s2 hF) (by exact Nat.le_of_ble_eq_true rfl) (by decide) (c_step hF hs1 hk (by omega)) ?_
  intro H4 p4
  subst p4
  refine xq_iload_n dX1_readLeaf_7 rfl rfl ?_
  refine xq_bipush dX1_readLeaf_8 bp19 ?_
  refine xq_icmp_neN dX1_readLeaf_10 rfl (by omega) (by omega) ⟨fun h10 => ?_, fun h10 => ?_⟩
  · skip
    refine xq_iload_n dX1_readLeaf_20 rfl rfl ?_
    refine xq_bipush dX1_readLeaf_21 bp20 ?_
    refine xq_icmp_neN dX1_readLeaf_23 rfl (by omega) (by omega) ⟨fun h23 => ?_, fun h23 => ?_⟩
    · skip
      first | exact absurd h23 (by decide) | exact absurd rfl h23
    · skip
      refine xq_aload_n dX1_readLeaf_26 rfl rfl ?_
      refine xq_getF clX8 (by decide) rfl fl_RX1_126 dX1_readLeaf_27 (Tx.s0 ht) (Tx.r2 ht) ?_
      refine xq_goto dX1_readLeaf_30 rfl ?_
      refine xq_astore_n dX1_readLeaf_37 rfl rfl ?_
      refine xq_aload_n dX1_readLeaf_38 rfl rfl ?_
      refine xq_getF clX1 (by decide) rfl fl_RX1_28 dX1_readLeaf_39 (Fx.s8 hF) (Fx.r8_0 hF) ?_
      refine xq_aload_n dX1_readLeaf_42 rfl rfl ?_
      refine xq_callV1P clX9 gd_X9_known dX1_readLeaf_43 ml_RX1_119 im_X9_known se_X9_known rfl (Fx.s2 hF) (by exact Nat.le_of_ble_eq_true rfl) (by decide) (c_known1 hF hs2 hk (by omega) (Tx.n5 ht) hf2.tx.nmf (show tNf T ≤ 8 by omega) (by decide) hz) ?_
      refine xq_istore dX1_readLeaf_46 rfl ?_
      refine xq_iload dX1_readLeaf_48 rfl ?_
      refine xq_if_geN dX1_readLeaf_50 rfl (by omega) ?_
      refine xq_aload_n dX1_readLeaf_55 rfl rfl ?_
      refine xq_getF clX1 (by decide) rfl fl_RX1_28 dX1_readLeaf_56 (Fx.s8 hF) (Fx.r8_0 hF) ?_
      refine xq_callV0N clX9 gd_X9_step dX1_readLeaf_59 ml_RX1_109 im_X9_step se_X9_step rfl (Fx.s2 hF) (by exact Nat.le_of_ble_eq_true rfl) (by decide) (c_step hF hs2 hk (by omega)) ?_
      intro H59 p59
      subst p59
      refine xq_iconst dX1_readLeaf_62 ic0 ?_
      refine xq_istore dX1_readLeaf_63 rfl ?_
      refine xq_iload_n dX1_readLeaf_65 rfl rfl ?_
      refine xq_bipush dX1_readLeaf_66 bp14 ?_
      refine xq_icmp_neN dX1_readLeaf_68 rfl (by omega) (by omega) ⟨fun h68 => ?_, fun h68 => ?_⟩
      · skip
        refine xq_iload_n dX1_readLeaf_101 rfl rfl ?_
        refine xq_bipush dX1_readLeaf_102 bp19 ?_
        refine xq_icmp_neN dX1_readLeaf_104 rfl (by omega) (by omega) ⟨fun h104 => ?_, fun h104 => ?_⟩
        · skip
          refine xq_iload_n dX1_readLeaf_140 rfl rfl ?_
          refine xq_bipush dX1_readLeaf_141 bp20 ?_
          refine xq_icmp_neN dX1_readLeaf_143 rfl (by omega) (by omega) ⟨fun h143 => ?_, fun h143 => ?_⟩
          · skip
            first | exact absurd h143 (by decide) | exact absurd rfl h143
          · skip
            refine xq_aload_n dX1_readLeaf_146 rfl rfl ?_
            refine xq_dup dX1_readLeaf_147 rfl ?_
            refine xq_getLE clX1 (by decide) rfl fl_RX1_45 dX1_readLeaf_148 (Fx.s8 hF) hf3.nd ?_
            refine xq_aload_n dX1_readLeaf_151 rfl rfl ?_
            refine xq_getF clX8 (by decide) rfl fl_RX1_129 dX1_readLeaf_152 (Tx.s0 ht) (Tx.r8 ht) ?_
            refine xq_iload dX1_readLeaf_155 rfl ?_
            refine xq_laldN dX1_readLeaf_157 (Tx.s15 ht) (by omega) (by decide) ((hf3.tx.fa p hp).2.2) ?_
            refine xq_lor dX1_readLeaf_158 ?_
            refine xq_putL clX1 (by decide) rfl fl_RX1_45 (Or.inl rfl) dX1_readLeaf_159 ⟨rfl, rfl⟩ (Fx.s8 hF) ?_
            refine xq_aload_n dX1_readLeaf_162 rfl rfl ?_
            refine xq_getF clX8 (by decide) rfl fl_RX1_132 dX1_readLeaf_163 (Tx.s0 ht) (Tx.r7 ht) ?_
            refine xq_iload dX1_readLeaf_166 rfl ?_
            refine xq_ialdN dX1_readLeaf_168 (Tx.s14 ht) (by omega) (by decide) ((hf4.tx.fa p hp).2.1) ?_
            refine xq_istore dX1_readLeaf_169 rfl ?_
            refine xq_aload_n dX1_readLeaf_171 rfl rfl ?_
            refine xq_aload_n dX1_readLeaf_172 rfl rfl ?_
            refine xq_getR clX1 (by decide) rfl fl_RX1_24 dX1_readLeaf_173 (Fx.s8 hF) hf4.kn ?_
            refine xq_iload_n dX1_readLeaf_176 rfl rfl ?_
            refine xq_iload dX1_readLeaf_177 rfl ?_
            refine xq_iload dX1_readLeaf_179 rfl ?_
            refine xq_callV3H clX2 gd_X2_add dX1_readLeaf_181 ml_RX1_103 im_X2_add se_X2_add rfl (Kn.s0 (Tx.n7 ht)) (by exact Nat.le_of_ble_eq_true rfl) (by decide) (c_kadd (Tx.n7 ht) hf4.tx.kt hnk) ?_
            intro x181 H181 p181
            obtain ⟨rfl, kt181, bg181, o181⟩ := p181
            have hf181 := hf4.add ht24 kt181 bg181 o181
            refine xq_callV1N clX1 gd_X1_push dX1_readLeaf_184 ml_RX1_106 im_X1_push se_X1_push rfl (Fx.s8 hF) (by exact Nat.le_of_ble_eq_true rfl) (by decide) (c_push hF hf181.hz hhs hf181.nd) ?_
            intro H184 p184
            subst p184
            refine xq_iconst dX1_readLeaf_187 ic2 ?_
            refine xq_iret dX1_readLeaf_188 rfl ?_
            have nz : ¬ knA s (n + 1) (ws, hs, o, T, b, w) = -1 := by rw [hz]; omega
            have ez : (knA s (n + 1) (ws, hs, o, T, b, w)).toNat = p := by rw [hz]; rfl
            have e : asS s n (ws, hs, o, T, b, w) = .inr (2, n + 2, kpsX 20 p (tRo T p) (nedX (w ||| tNe T p) (ws, hs, o, T, b, w))) := (if_neg nz).trans (by rw [ez]; rfl)
            rw [e]
            have oZ : Off (fun q => (8 ≤ q ∧ q < 12) ∨ (t + 7 ≤ q ∧ q < t + 11)) _ (psH H181 (w ||| tNe T p) hs.length (tNk T)) := psH_o (w := (w ||| tNe T p)) (sz := hs.length) (r := tNk T) (by omega) (by omega) (o181.mo (fun q h => by omega))
            exact ⟨2, _, ⟨rfl, Off.tr (Off.pL (A := (fun q => q = 2 ∨ (8 ≤ q ∧ q < 16) ∨ (t ≤ q ∧ q < t + 21))) (Off.pI (A := (fun q => q = 2 ∨ (8 ≤ q ∧ q < 16) ∨ (t ≤ q ∧ q < t + 21))) (Off.pI (A := (fun q => q = 2 ∨ (8 ≤ q ∧ q < 16) ∨ (t ≤ q ∧ q < t + 21))) Off.rf (by omega) _ _) (by omega) _ _) (by omega) 8 (w ||| tNe T p)) (oZ.mo (fun q h => by omega)), hs4.off oZ (fun q h => by omega), (oZ.I (by omega) 7).trans (by simp [hI_sI, hI_sL]), (oZ.I (by omega) 8).trans (by simp [hI_sI, hI_sL]), hf181.psh ht24⟩, rfl⟩
        · skip
          first | exact absurd h104 (by decide) | exact absurd rfl h104
      · skip
        first | exact absurd h68 (by decide) | exact absurd rfl h68
  · skip
    first | exact absurd h10 (by decide) | exact absurd rfl h10
theorem c_leaf14 (hF : gFx S) (ht : gTx S t) (ht24 : 24 ≤ t) (ht45 : t ≤ 45) (hs1 : TrP H s n) (hk : TrOk s) (hn : n ≤ 790) (hf : FmP H t (ws, hs, o, T, b, w)) (hnp : tNp T ≤ 6) (hnc : tNc T ≤ 3) (hnf : tNf T ≤ 8) (hnk : tNk T < 64) (hhs : hs.length < 64) : Hv mX1_readLeaf 2 [.ref 8, .ref t, vN 14] S H vN (fun x H' => x = mrV (hatS s n (ws, hs, o, T, b, w)) ∧ mrQ H H' t s (hatS s n (ws, hs, o, T, b, w))) := by
  rcases knoZ_r s (n + 1) (tPn T) (tNp T) with hz | ⟨p, hp, -, hz⟩
  · exact c_leaf14_0 hF ht ht24 ht45 hs1 hk hn hf hnp hnc hnf hnk hhs hz
  · rcases knoZ_r s (n + 2) (tCn T) (tNc T) with hy | ⟨y, hyc, -, hy⟩
    · exact c_leaf14_1 hF ht ht24 ht45 hs1 hk hn hf hnp hnc hnf hnk hhs hz hp hy
    · exact c_leaf14_2 hF ht ht24 ht45 hs1 hk hn hf hnp hnc hnf hnk hhs hz hp hy hyc
theorem c_leaf15 (hF : gFx S) (ht : gTx S t) (ht24 : 24 ≤ t) (ht45 : t ≤ 45) (hs1 : TrP H s n) (hk : TrOk s) (hn : n ≤ 790) (hf : FmP H t (ws, hs, o, T, b, w)) (hnp : tNp T ≤ 6) (hnc : tNc T ≤ 3) (hnf : tNf T ≤ 8) (hnk : tNk T < 64) (hhs : hs.length < 64) : Hv mX1_readLeaf 2 [.ref 8, .ref t, vN 15] S H vN (fun x H' => x = mrV (ownS s n (ws, hs, o, T, b, w)) ∧ mrQ H H' t s (ownS s n (ws, hs, o, T, b, w))) := by
  rcases knoZ_r s (n + 1) (tPn T) (tNp T) with hz | ⟨p, hp, -, hz⟩
  · exact c_leaf15_0 hF ht ht24 ht45 hs1 hk hn hf hnp hnc hnf hnk hhs hz
  · exact c_leaf15_1 hF ht ht24 ht45 hs1 hk hn hf hnp hnc hnf hnk hhs hz hp
theorem c_leaf19 (hF : gFx S) (ht : gTx S t) (ht24 : 24 ≤ t) (ht45 : t ≤ 45) (hs1 : TrP H s n) (hk : TrOk s) (hn : n ≤ 790) (hf : FmP H t (ws, hs, o, T, b, w)) (hnp : tNp T ≤ 6) (hnc : tNc T ≤ 3) (hnf : tNf T ≤ 8) (hnk : tNk T < 64) (hhs : hs.length < 64) : Hv mX1_readLeaf 2 [.ref 8, .ref t, vN 19] S H vN (fun x H' => x = mrV (mnyS s n (ws, hs, o, T, b, w)) ∧ mrQ H H' t s (mnyS s n (ws, hs, o, T, b, w))) := by
  rcases knoZ_r s (n + 1) (tCn T) (tNc T) with hz | ⟨p, hp, -, hz⟩
  · exact c_leaf19_0 hF ht ht24 ht45 hs1 hk hn hf hnp hnc hnf hnk hhs hz
  · exact c_leaf19_1 hF ht ht24 ht45 hs1 hk hn hf hnp hnc hnf hnk hhs hz hp
theorem c_leaf20 (hF : gFx S) (ht : gTx S t) (ht24 : 24 ≤ t) (ht45 : t ≤ 45) (hs1 : TrP H s n) (hk : TrOk s) (hn : n ≤ 790) (hf : FmP H t (ws, hs, o, T, b, w)) (hnp : tNp T ≤ 6) (hnc : tNc T ≤ 3) (hnf : tNf T ≤ 8) (hnk : tNk T < 64) (hhs : hs.length < 64) : Hv mX1_readLeaf 2 [.ref 8, .ref t, vN 20] S H vN (fun x H' => x = mrV (asS s n (ws, hs, o, T, b, w)) ∧ mrQ H H' t s (asS s n (ws, hs, o, T, b, w))) := by
  rcases knoZ_r s (n + 1) (tFn T) (tNf T) with hz | ⟨p, hp, -, hz⟩
  · exact c_leaf20_0 hF ht ht24 ht45 hs1 hk hn hf hnp hnc hnf hnk hhs hz
  · exact c_leaf20_1 hF ht ht24 ht45 hs1 hk hn hf hnp hnc hnf hnk hhs hz hp
end FC
