/-! ===== Reader: a line, all lines ===== -/
section LP
variable {S : xS} {H H1 H2 H3 : xH} {k p q f i j l m n c t v r st D E : Nat} {s : uTk} {T T1 T2 : uTx} {cd : Nat → Nat} {sz : Nat} {w : Int64} {fc : Bool} {x : fmT}
/-- what a text that is being read keeps -/
def TiP (T : uTx) : Prop := tNc T ≤ 3 ∧ tNp T ≤ 6 ∧ tNf T ≤ 8 ∧ tNk T ≤ 64 ∧ tNt T ≤ 12 ∧ tNa T ≤ 12 ∧ tSh T ≤ 101 ∧ tSd T ≤ 100000 ∧ (∀ k, k < tNp T → tHt T k < 3) ∧ (∀ k, k < tNc T → tSt T k ≤ 6) ∧ (∀ k, k < 6 → tSe T k < 64)
def plnR (s : uTk) (n : Nat) (T : uTx) : rLn := if kK s n = 0 then colR s n T else if kK s n = 1 then perR s n T else if kK s n = 2 then seeR s n T else if kK s n = 4 then telR s n T else if kK s n = 5 then askR s n T else if kK s n = 6 then shyR s n T else if kK s n = 7 then sedR s n T else .inl (1, n)
def linR (D : Nat) (s : uTk) (n : Nat) (T : uTx) : rLn := if kK s n = 3 then facR D s n T else if kK s n = 8 then lawR D s n T else plnR s n T
theorem ti0 : TiP tx0 := ⟨by decide, by decide, by decide, by decide, by decide, by decide, by decide, by decide, fun k hk => absurd hk (Nat.not_lt_zero k), fun k hk => absurd hk (Nat.not_lt_zero k), fun k _ => by show 0 < 64; decide⟩
theorem numB_t (h : ¬ numB s n m = false) : kK s n = 38 ∧ kV s n ≤ m := by
  unfold numB at h
  by_cases e : kK s n = 38 ∧ kV s n ≤ m
  · exact e
  · exact absurd (decide_eq_false e) h
theorem mR_64 (hk : TrOk s) : ∀ {d st n : Nat} {x : fmT}, FI x → (st = 2 → fmH x ≠ []) → mR s fc d st n x = .inr (m, T2, w, r) → tNk T2 ≤ 64
  | 0, _, _, _, _, _, e => by cases e
  | d + 1, st, n, x, h, hne, e => by
    by_cases hf : st = 2 ∧ fmO x = 0 ∧ kK s n = 40
    · rw [mR_e hf] at e; cases e
      obtain ⟨ws, hs, o, T, b, w⟩ := x
      have hy := FI.tieF (st := 1) (by omega) h
      exact Nat.le_trans (Nat.le_trans (Nat.le_add_right _ _) (Nat.le_of_eq hy.1)) hy.2.1
    · cases er : stpS s fc st n x with
      | inl z => rw [mR_f hf er] at e; cases e
      | inr z =>
        obtain ⟨st2, n2, x2⟩ := z
        rw [mR_c hf er] at e
        obtain ⟨g1, g2, g3, g4, g5, g6⟩ := stp_ok h hne (kK_le hk) er
        exact mR_64 hk g1 g3 e
/-- a line read: the text keeps what it must, tokens went by -/
def LnK (s : uTk) (n m : Nat) (T2 : uTx) : Prop := TiP T2 ∧ n < m ∧ m ≤ kSz s
theorem ask_ti (h : TiP T) (e : askR s n T = .inr (m, T2)) : LnK s n m T2 := by
  unfold askR at e
  split at e
  · cases e
  · split at e
    · cases e
    · rename_i h1 h2
      obtain ⟨h3, h4⟩ := numB_t h2
      obtain ⟨a1, a2, a3, a4, a5, a6, a7, a8, a9, a10, a11⟩ := h
      cases e
      exact ⟨⟨a1, a2, a3, a4, a5, show tNa T + 1 ≤ 12 by omega, a7, a8, a9, a10, a11⟩, by omega, kK_lt (n := n + 1) (by omega)⟩
theorem shy_ti (h : TiP T) (e : shyR s n T = .inr (m, T2)) : LnK s n m T2 := by
  unfold shyR at e
  split at e
  · cases e
  · split at e
    · cases e
    · rename_i h1 h2
      obtain ⟨h3, h4⟩ := numB_t h2
      obtain ⟨a1, a2, a3, a4, a5, a6, a7, a8, a9, a10, a11⟩ := h
      cases e
      exact ⟨⟨a1, a2, a3, a4, a5, a6, show kV s (n + 1) + 1 ≤ 101 by omega, a8, a9, a10, a11⟩, by omega, kK_lt (n := n + 1) (by omega)⟩
theorem sed_ti (h : TiP T) (e : sedR s n T = .inr (m, T2)) : LnK s n m T2 := by
  unfold sedR at e
  split at e
  · cases e
  · split at e
    · cases e
    · rename_i h1 h2
      obtain ⟨h3, h4⟩ := numB_t h2
      obtain ⟨a1, a2, a3, a4, a5, a6, a7, a8, a9, a10, a11⟩ := h
      cases e
      exact ⟨⟨a1, a2, a3, a4, a5, a6, a7, show kV s (n + 1) + 1 ≤ 100000 by omega, a9, a10, a11⟩, by omega, kK_lt (n := n + 1) (by omega)⟩
theorem tel_ti (h : TiP T) (e : telR s n T = .inr (m, T2)) : LnK s n m T2 := by
  unfold telR at e
  split at e
  · cases e
  · split at e
    · cases e
    · split at e
      · cases e
      · rename_i h1 h2 h3
        obtain ⟨h3, h4⟩ := numB_t h3
        obtain ⟨a1, a2, a3, a4, a5, a6, a7, a8, a9, a10, a11⟩ := h
        cases e
        exact ⟨⟨a1, a2, a3, a4, show tNt T + 1 ≤ 12 by omega, a6, a7, a8, a9, a10, a11⟩, by omega, kK_lt (n := n + 2) (by omega)⟩
theorem col_ti (h : TiP T) (e : colR s n T = .inr (m, T2)) : LnK s n m T2 := by
  unfold colR at e
  split at e
  · cases e
  · split at e
    · cases e
    · split at e
      · cases e
      · rename_i h1 h2 h3
        obtain ⟨h3, h4⟩ := numB_t h3
        obtain ⟨a1, a2, a3, a4, a5, a6, a7, a8, a9, a10, a11⟩ := h
        cases e
        refine ⟨⟨show tNc T + 1 ≤ 3 by omega, a2, a3, a4, a5, a6, a7, a8, a9, fun k hk => ?_, a11⟩, by omega, kK_lt (n := n + 2) (by omega)⟩
        have hk : k < tNc T + 1 := hk
        rw [colT_st]
        split
        · exact h4
        · exact a10 k (by omega)
theorem per_ti (h : TiP T) (e : perR s n T = .inr (m, T2)) : LnK s n m T2 := by
  unfold perR at e
  split at e
  · cases e
  · split at e
    · cases e
    · split at e
      · cases e
      · split at e
        · cases e
        · rename_i h1 h2 h3 h5
          have h6 := knoZ_k h3
          obtain ⟨a1, a2, a3, a4, a5, a6, a7, a8, a9, a10, a11⟩ := h
          rcases knoZ_r s (n + 2) (tCn T) (tNc T) with z | ⟨f, hf, -, z⟩
          · exact absurd z h3
          · rw [z] at e
            cases e
            refine ⟨⟨a1, show tNp T + 1 ≤ 6 by omega, a3, a4, a5, a6, a7, a8, fun k hk => ?_, a10, a11⟩, by omega, kK_lt (n := n + 2) (by omega)⟩
            have hk : k < tNp T + 1 := hk
            rw [perT_ht]
            split
            · show f < 3; omega
            · exact a9 k (by omega)
theorem see_ti0 (hp : p < 6) (h : TiP T) : ∀ {d i n w : Nat}, w < 64 → n ≤ kSz s → seeL s T p d i n w = .inr (m, T2) → TiP T2 ∧ n ≤ m ∧ m ≤ kSz s
  | 0, i, n, w, hw, hn, e => by
    cases e
    obtain ⟨a1, a2, a3, a4, a5, a6, a7, a8, a9, a10, a11⟩ := h
    refine ⟨⟨a1, a2, a3, a4, a5, a6, a7, a8, a9, a10, fun k hk => ?_⟩, Nat.le_refl _, hn⟩
    rw [setT_se]
    split
    · exact hw
    · exact a11 k hk
  | d + 1, i, n, w, hw, hn, e => by
    unfold seeL at e
    split at e
    · cases e
      obtain ⟨a1, a2, a3, a4, a5, a6, a7, a8, a9, a10, a11⟩ := h
      refine ⟨⟨a1, a2, a3, a4, a5, a6, a7, a8, a9, a10, fun k hk => ?_⟩, Nat.le_refl _, hn⟩
      rw [setT_se]
      split
      · exact hw
      · exact a11 k hk
    · split at e
      · cases e
      · rename_i h2
        have h6 := knoZ_k h2
        split at e
        · cases e
        · split at e
          · cases e
          · rcases knoZ_r s n (tPn T) (tNp T) with z | ⟨f, hf, -, z⟩
            · exact absurd z h2
            · rw [z] at e
              have := h.2.1
              obtain ⟨b1, b2, b3⟩ := see_ti0 hp h (or64 hw (shl64 (show f < 6 by omega))) (kK_lt (n := n) (by omega)) e
              exact ⟨b1, by omega, b3⟩
theorem see_ti (h : TiP T) (e : seeR s n T = .inr (m, T2)) : LnK s n m T2 := by
  unfold seeR at e
  split at e
  · cases e
  · split at e
    · cases e
    · rename_i h1 h2
      have h6 := knoZ_k h1
      rcases knoZ_r s (n + 1) (tPn T) (tNp T) with z | ⟨f, hf, -, z⟩
      · exact absurd z h1
      · rw [z] at e
        have := h.2.1
        obtain ⟨b1, b2, b3⟩ := see_ti0 (show f < 6 by omega) h (by decide) (kK_lt (n := n + 1) (by omega)) e
        exact ⟨b1, by omega, b3⟩
theorem TiP.sm (h : TiP T) (hs : SmT T T2) (h64 : tNk T2 ≤ 64) : TiP T2 := by
  obtain ⟨a1, a2, a3, a4, a5, a6, a7, a8, a9, a10, a11⟩ := h
  have e : ∀ a k, a ≠ 1 → a ≠ 2 → a ≠ 3 → (a = 0 → k ≠ 3) → T2.1 a k = T.1 a k := hs.1
  have enp : tNp T2 = tNp T := hs.np
  have enc : tNc T2 = tNc T := hs.nc
  have enf : tNf T2 = tNf T := hs.nf
  refine ⟨by omega, by omega, by omega, h64, ?_, ?_, ?_, ?_, fun k hk => ?_, fun k hk => ?_, fun k hk => ?_⟩
  · rw [show tNt T2 = tNt T from e 0 4 (by decide) (by decide) (by decide) (by decide)]; exact a5
  · rw [show tNa T2 = tNa T from e 0 5 (by decide) (by decide) (by decide) (by decide)]; exact a6
  · rw [show tSh T2 = tSh T from e 0 6 (by decide) (by decide) (by decide) (by decide)]; exact a7
  · rw [show tSd T2 = tSd T from e 0 7 (by decide) (by decide) (by decide) (by decide)]; exact a8
  · rw [show tHt T2 k = tHt T k from e 7 k (by decide) (by decide) (by decide) (fun z => by cases z)]; exact a9 k (by omega)
  · rw [show tSt T2 k = tSt T k from e 5 k (by decide) (by decide) (by decide) (fun z => by cases z)]; exact a10 k (by omega)
  · rw [show tSe T2 k = tSe T k from e 8 k (by decide) (by decide) (by decide) (fun z => by cases z)]; exact a11 k hk
theorem fac_ti (hk : TrOk s) (h : TiP T) (e : facR D s n T = .inr (m, T2)) : LnK s n m T2 := by
  unfold facR at e
  split at e
  · cases e
  · rename_i h1
    split at e
    · cases e
    · cases er : mR s true D 0 (n + 2) (fx0 T) with
      | inl z => rw [er] at e; cases e
      | inr z =>
        obtain ⟨m2, T3, w3, r3⟩ := z
        rw [er] at e
        obtain ⟨sm, b1, b2⟩ := mR_ok hk (fx0_i h.2.2.2.1) (fun z => by cases z) er
        have b3 := mR_64 hk (fx0_i h.2.2.2.1) (fun z => by cases z) er
        have hn : tNf T3 = tNf T := sm.nf
        obtain ⟨a1, a2, a3, a4, a5, a6, a7, a8, a9, a10, a11⟩ := h.sm sm b3
        cases e
        exact ⟨⟨a1, a2, show tNf T3 + 1 ≤ 8 by omega, a4, a5, a6, a7, a8, a9, a10, a11⟩, by omega, Nat.le_of_lt (kK_lt (n := m2) (by rw [b2]; decide))⟩
theorem law_ti (hk : TrOk s) (h : TiP T) (e : lawR D s n T = .inr (m, T2)) : LnK s n m T2 := by
  unfold lawR at e
  split at e
  · cases e
  · split at e
    · cases e
    · cases er : mR s false D 0 (n + 2) (fx0 T) with
      | inl z => rw [er] at e; cases e
      | inr z =>
        obtain ⟨m2, T3, w3, r3⟩ := z
        rw [er] at e
        obtain ⟨sm, b1, b2⟩ := mR_ok hk (fx0_i h.2.2.2.1) (fun z => by cases z) er
        have b3 := mR_64 hk (fx0_i h.2.2.2.1) (fun z => by cases z) er
        obtain ⟨a1, a2, a3, a4, a5, a6, a7, a8, a9, a10, a11⟩ := h.sm sm b3
        cases e
        exact ⟨⟨a1, a2, a3, a4, a5, a6, a7, a8, a9, a10, a11⟩, by omega, Nat.le_of_lt (kK_lt (n := m2) (by rw [b2]; decide))⟩
theorem lin_ti (hk : TrOk s) (h : TiP T) (e : linR D s n T = .inr (m, T2)) : LnK s n m T2 := by
  unfold linR plnR at e
  split at e
  · exact fac_ti hk h e
  split at e
  · exact law_ti hk h e
  split at e
  · exact col_ti h e
  split at e
  · exact per_ti h e
  split at e
  · exact see_ti h e
  split at e
  · exact tel_ti h e
  split at e
  · exact ask_ti h e
  split at e
  · exact shy_ti h e
  split at e
  · exact sed_ti h e
  · cases e
abbrev rrT : Type := (Nat × Nat) ⊕ (Nat × uTx)
def rdL (D : Nat) (s : uTk) : Nat → Nat → Nat → uTx → rrT
  | 0, _, _, _ => .inl (0, 0)
  | d + 1, l, n, T => if kK s n = 44 then .inr (l, T) else match linR D s n T with
    | .inl e => .inl e
    | .inr z => if kK s z.1 = 40 then rdL D s d (l + 1) (z.1 + 1) z.2 else .inl (1, z.1)
def rrV (r : rrT) : Int := match r with | .inl _ => -1 | .inr q => (q.1 : Int)
def rrQ (H H' : xH) (t : Nat) (s : uTk) (r : rrT) : Prop := Off (fun q => q = 2 ∨ (8 ≤ q ∧ q < 16) ∨ (t ≤ q ∧ q < t + 21)) H H' ∧ hI H' 2 6 = hI H 2 6 ∧ match r with
  | .inl (c, m) => hI H' 2 7 = nI c ∧ hI H' 2 8 = zI (kP s m)
  | .inr (_, T') => hI H' 2 7 = hI H 2 7 ∧ hI H' 2 8 = hI H 2 8 ∧ TxP H' t T'
theorem rdL_e {d : Nat} (h : kK s n = 44) : rdL D s (d + 1) l n T = .inr (l, T) := if_pos h
theorem rdL_f {d : Nat} (h : ¬ kK s n = 44) {e : Nat × Nat} (h2 : linR D s n T = .inl e) : rdL D s (d + 1) l n T = .inl e := by
  show (if _ then _ else _) = _
  rw [if_neg h, h2]
theorem rdL_c {d : Nat} (h : ¬ kK s n = 44) (h2 : linR D s n T = .inr (m, T2)) : rdL D s (d + 1) l n T = if kK s m = 40 then rdL D s d (l + 1) (m + 1) T2 else .inl (1, m) := by
  show (if _ then _ else _) = _
  rw [if_neg h, h2]
theorem c_plainLine (hF : gFx S) (ht : gTx S t) (ht24 : 24 ≤ t) (ht45 : t ≤ 45) (hs : TrP H s n) (hk : TrOk s) (hn : n ≤ 790) (hT : TxP H t T) (hbg : hI H (t + 7) 4 = nI (tNk T)) (hti : TiP T) (hkk : kK s n = k) (hkb : k ≤ 44) : Hv mX6_plainLine 3 [.ref 7, .ref t, vN k] S H vB (fun x H' => x = lnB (plnR s n T) ∧ LnQ H H' t s (plnR s n T)) := by
  obtain ⟨a1, a2, a3, a4, a5, a6, a7, a8, a9, a10, a11⟩ := hti
  refine vq_intro (by decide) (by exact Nat.le_of_ble_eq_true rfl) rfl ?_
  refine xq_iload_n dX6_plainLine_0 rfl rfl ?_
  by_cases hs1 : 0 ≤ k ∧ k ≤ 7
  · skip
    have hq1 : k = 0 ∨ k = 1 ∨ k = 2 ∨ k = 3 ∨ k = 4 ∨ k = 5 ∨ k = 6 ∨ k = 7 := by omega
    rcases hq1 with rfl | rfl | rfl | rfl | rfl | rfl | rfl | rfl
    · skip
      refine xq_tableIn dX6_plainLine_1 (by decide) (by decide) rfl rfl ?_
      refine xq_aload_n dX6_plainLine_48 rfl rfl ?_
      refine xq_aload_n dX6_plainLine_49 rfl rfl ?_
      refine xq_callV1H clX6 gd_X6_colourLine dX6_plainLine_50 ml_RX6_50 im_X6_colourLine se_X6_colourLine rfl (Fx.s7 hF) (by exact Nat.le_of_ble_eq_true rfl) (by decide) (c_colourLine hF ht ht24 ht45 hs hk hn hT hbg a1) ?_
      intro x50 H50 p50
      refine xq_zret dX6_plainLine_53 rfl (bI_01 _) ?_
      have e : plnR s n T = colR s n T := (if_pos hkk)
      rw [e]
      exact ⟨x50, H50, p50, rfl⟩
    · skip
      refine xq_tableIn dX6_plainLine_1 (by decide) (by decide) rfl rfl ?_
      refine xq_aload_n dX6_plainLine_54 rfl rfl ?_
      refine xq_aload_n dX6_plainLine_55 rfl rfl ?_
      refine xq_callV1H clX6 gd_X6_personLine dX6_plainLine_56 ml_RX6_53 im_X6_personLine se_X6_personLine rfl (Fx.s7 hF) (by exact Nat.le_of_ble_eq_true rfl) (by decide) (c_personLine hF ht ht24 ht45 hs hk hn hT hbg a2 a1 a9 a10) ?_
      intro x56 H56 p56
      refine xq_zret dX6_plainLine_59 rfl (bI_01 _) ?_
      have e : plnR s n T = perR s n T := ((if_neg (by omega)).trans (if_pos hkk))
      rw [e]
      exact ⟨x56, H56, p56, rfl⟩
    · skip
      refine xq_tableIn dX6_plainLine_1 (by decide) (by decide) rfl rfl ?_
      refine xq_aload_n dX6_plainLine_60 rfl rfl ?_
      refine xq_aload_n dX6_plainLine_61 rfl rfl ?_
      refine xq_callV1H clX6 gd_X6_seesLine dX6_plainLine_62 ml_RX6_56 im_X6_seesLine se_X6_seesLine rfl (Fx.s7 hF) (by exact Nat.le_of_ble_eq_true rfl) (by decide) (c_seesLine hF ht ht24 ht45 hs hk hn hT hbg a2 a11) ?_
      intro x62 H62 p62
      refine xq_zret dX6_plainLine_65 rfl (bI_01 _) ?_
      have e : plnR s n T = seeR s n T := ((if_neg (by omega)).trans ((if_neg (by omega)).trans (if_pos hkk)))
      rw [e]
      exact ⟨x62, H62, p62, rfl⟩
    · skip
      refine xq_tableIn dX6_plainLine_1 (by decide) (by decide) rfl rfl ?_
      refine xq_aload_n dX6_plainLine_90 rfl rfl ?_
      refine xq_getF clX6 (by decide) rfl fl_RX6_9 dX6_plainLine_91 (Fx.s7 hF) (Fx.r7_0 hF) ?_
      refine xq_iconst dX6_plainLine_94 ic1 ?_
      refine xq_callV1H clX9 gd_X9_fail dX6_plainLine_95 ml_RX6_71 im_X9_fail se_X9_fail rfl (Fx.s2 hF) (by exact Nat.le_of_ble_eq_true rfl) (by decide) (c_fail hF hs hk (by omega) (c := 1) (by decide)) ?_
      intro x95 H95 p95
      obtain ⟨rfl, q95⟩ := p95
      refine xq_zret dX6_plainLine_98 rfl (by decide) ?_
      have e : plnR s n T = .inl (1, n) := ((if_neg (by omega)).trans ((if_neg (by omega)).trans ((if_neg (by omega)).trans ((if_neg (by omega)).trans ((if_neg (by omega)).trans ((if_neg (by omega)).trans ((if_neg (by omega)).trans rfl)))))))
      rw [e]
      exact ⟨false, H95, ⟨rfl, q95.2.2.2.mo (fun q h => Or.inl h), q95.1, q95.2.1, q95.2.2.1 6 (by decide) (by decide)⟩, rfl⟩
    · skip
      refine xq_tableIn dX6_plainLine_1 (by decide) (by decide) rfl rfl ?_
      refine xq_aload_n dX6_plainLine_66 rfl rfl ?_
      refine xq_aload_n dX6_plainLine_67 rfl rfl ?_
      refine xq_callV1H clX6 gd_X6_tellLine dX6_plainLine_68 ml_RX6_59 im_X6_tellLine se_X6_tellLine rfl (Fx.s7 hF) (by exact Nat.le_of_ble_eq_true rfl) (by decide) (c_tellLine hF ht ht24 ht45 hs hk hn hT hbg a5 a3) ?_
      intro x68 H68 p68
      refine xq_zret dX6_plainLine_71 rfl (bI_01 _) ?_
      have e : plnR s n T = telR s n T := ((if_neg (by omega)).trans ((if_neg (by omega)).trans ((if_neg (by omega)).trans (if_pos hkk))))
      rw [e]
      exact ⟨x68, H68, p68, rfl⟩
    · skip
      refine xq_tableIn dX6_plainLine_1 (by decide) (by decide) rfl rfl ?_
      refine xq_aload_n dX6_plainLine_72 rfl rfl ?_
      refine xq_aload_n dX6_plainLine_73 rfl rfl ?_
      refine xq_callV1H clX6 gd_X6_askLine dX6_plainLine_74 ml_RX6_62 im_X6_askLine se_X6_askLine rfl (Fx.s7 hF) (by exact Nat.le_of_ble_eq_true rfl) (by decide) (c_askLine hF ht ht24 ht45 hs hk hn hT hbg a6) ?_
      intro x74 H74 p74
      refine xq_zret dX6_plainLine_77 rfl (bI_01 _) ?_
      have e : plnR s n T = askR s n T := ((if_neg (by omega)).trans ((if_neg (by omega)).trans ((if_neg (by omega)).trans ((if_neg (by omega)).trans (if_pos hkk)))))
      rw [e]
      exact ⟨x74, H74, p74, rfl⟩
    · skip
      refine xq_tableIn dX6_plainLine_1 (by decide) (by decide) rfl rfl ?_
      refine xq_aload_n dX6_plainLine_78 rfl rfl ?_
      refine xq_aload_n dX6_plainLine_79 rfl rfl ?_
      refine xq_callV1H clX6 gd_X6_shyLine dX6_plainLine_80 ml_RX6_65 im_X6_shyLine se_X6_shyLine rfl (Fx.s7 hF) (by exact Nat.le_of_ble_eq_true rfl) (by decide) (c_shyLine hF ht ht24 ht45 hs hk hn hT hbg (by omega)) ?_
      intro x80 H80 p80
      refine xq_zret dX6_plainLine_83 rfl (bI_01 _) ?_
      have e : plnR s n T = shyR s n T := ((if_neg (by omega)).trans ((if_neg (by omega)).trans ((if_neg (by omega)).trans ((if_neg (by omega)).trans ((if_neg (by omega)).trans (if_pos hkk))))))
      rw [e]
      exact ⟨x80, H80, p80, rfl⟩
    · skip
      refine xq_tableIn dX6_plainLine_1 (by decide) (by decide) rfl rfl ?_
      refine xq_aload_n dX6_plainLine_84 rfl rfl ?_
      refine xq_aload_n dX6_plainLine_85 rfl rfl ?_
      refine xq_callV1H clX6 gd_X6_seedLine dX6_plainLine_86 ml_RX6_68 im_X6_seedLine se_X6_seedLine rfl (Fx.s7 hF) (by exact Nat.le_of_ble_eq_true rfl) (by decide) (c_seedLine hF ht ht24 ht45 hs hk hn hT hbg a8) ?_
      intro x86 H86 p86
      refine xq_zret dX6_plainLine_89 rfl (bI_01 _) ?_
      have e : plnR s n T = sedR s n T := ((if_neg (by omega)).trans ((if_neg (by omega)).trans ((if_neg (by omega)).trans ((if_neg (by omega)).trans ((if_neg (by omega)).trans ((if_neg (by omega)).trans (if_pos hkk)))))))
      rw [e]
      exact ⟨x86, H86, p86, rfl⟩
  · skip
    refine xq_tableOut dX6_plainLine_1 (swOut 0 7 hs1 (by omega)) rfl ?_
    refine xq_aload_n dX6_plainLine_90 rfl rfl ?_
    refine xq_getF clX6 (by decide) rfl fl_RX6_9 dX6_plainLine_91 (Fx.s7 hF) (Fx.r7_0 hF) ?_
    refine xq_iconst dX6_plainLine_94 ic1 ?_
    refine xq_callV1H clX9 gd_X9_fail dX6_plainLine_95 ml_RX6_71 im_X9_fail se_X9_fail rfl (Fx.s2 hF) (by exact Nat.le_of_ble_eq_true rfl) (by decide) (c_fail hF hs hk (by omega) (c := 1) (by decide)) ?_
    intro x95 H95 p95
    obtain ⟨rfl, q95⟩ := p95
    refine xq_zret dX6_plainLine_98 rfl (by decide) ?_
    have e : plnR s n T = .inl (1, n) := ((if_neg (by omega)).trans ((if_neg (by omega)).trans ((if_neg (by omega)).trans ((if_neg (by omega)).trans ((if_neg (by omega)).trans ((if_neg (by omega)).trans ((if_neg (by omega)).trans rfl)))))))
    rw [e]
    exact ⟨false, H95, ⟨rfl, q95.2.2.2.mo (fun q h => Or.inl h), q95.1, q95.2.1, q95.2.2.1 6 (by decide) (by decide)⟩, rfl⟩
theorem c_rread (hF : gFx S) (ht : gTx S t) (ht24 : 24 ≤ t) (ht45 : t ≤ 45) (hs1 : TrP H s 0) (hk : TrOk s) (hD : 701 ≤ D) (hE : 701 ≤ E) : Hv mX6_read 6 [.ref 7, .ref t] S H vZ (fun z H' => z = rrV (rdL D s E 0 0 tx0) ∧ rrQ H H' t s (rdL D s E 0 0 tx0)) := by
  have hkz := hk.1
  have hs0 := hs1.1.2.1
  have lp : ∀ (fz : Nat) (l : Nat) (n : Nat) (T : uTx) (H1 : xH), 701 - l < fz → 2 * l ≤ n → n ≤ kSz s → TiP T → TrP H1 s n → TxP H1 t T → hI H1 (t + 7) 4 = nI (tNk T) → Off (fun q => q = 2 ∨ (8 ≤ q ∧ q < 16) ∨ (t ≤ q ∧ q < t + 21)) H H1 → hI H1 2 7 = hI H 2 7 → hI H1 2 8 = hI H 2 8 → rdL D s E 0 0 tx0 = rdL D s (E - l) l n T → Xq mX6_read 6 0 0 6 [some (.ref 7), some (.ref t), some (vN l), none, none] [] S H1 (fun R => ∃ x H', ((fun z H' => z = rrV (rdL D s E 0 0 tx0) ∧ rrQ H H' t s (rdL D s E 0 0 tx0))) x H' ∧ R = (some (vZ x), S, H')) := by
    intro fz
    induction fz with
    | zero => intro l  n  T  H1  hfz; exact absurd hfz (by omega)
    | succ fz ih =>
      intro l  n  T  H1  hfz hl2 hnz hti hs hT hbg ho h7 h8 heq
      have hkb : kK s n ≤ 44 := kK_le hk
      have htj := hti
      obtain ⟨a1, a2, a3, a4, a5, a6, a7, a8, a9, a10, a11⟩ := htj
      refine xq_iload_n dX6_read_6 rfl rfl ?_
      refine xq_sipush dX6_read_7 sp700 ?_
      refine xq_icmp_gtN dX6_read_10 rfl (by omega) (by omega) ⟨fun h10 => ?_, fun h10 => ?_⟩
      · skip
        exact absurd h10 (by omega)
      · skip
        refine xq_aload_n dX6_read_13 rfl rfl ?_
        refine xq_getF clX6 (by decide) rfl fl_RX6_9 dX6_read_14 (Fx.s7 hF) (Fx.r7_0 hF) ?_
        refine xq_callV0P clX9 gd_X9_kind dX6_read_17 ml_RX6_29 im_X9_kind se_X9_kind rfl (Fx.s2 hF) (by exact Nat.le_of_ble_eq_true rfl) (by decide) (c_kind hF hs hk (by omega)) ?_
        refine xq_istore_n dX6_read_20 rfl rfl ?_
        refine xq_iload_n dX6_read_21 rfl rfl ?_
        refine xq_bipush dX6_read_22 bp44 ?_
        refine xq_icmp_neN dX6_read_24 rfl (by omega) (by omega) ⟨fun h24 => ?_, fun h24 => ?_⟩
        · skip
          refine xq_iload_n dX6_read_29 rfl rfl ?_
          refine xq_iconst dX6_read_30 ic3 ?_
          refine xq_icmp_neN dX6_read_31 rfl (by omega) (by omega) ⟨fun h31 => ?_, fun h31 => ?_⟩
          · skip
            refine xq_iload_n dX6_read_42 rfl rfl ?_
            refine xq_bipush dX6_read_43 bp8 ?_
            refine xq_icmp_neN dX6_read_45 rfl (by omega) (by omega) ⟨fun h45 => ?_, fun h45 => ?_⟩
            · skip
              refine xq_aload_n dX6_read_56 rfl rfl ?_
              refine xq_aload_n dX6_read_57 rfl rfl ?_
              refine xq_iload_n dX6_read_58 rfl rfl ?_
              refine xq_callV2H clX6 gd_X6_plainLine dX6_read_59 ml_RX6_42 im_X6_plainLine se_X6_plainLine rfl (Fx.s7 hF) (by exact Nat.le_of_ble_eq_true rfl) (by decide) (c_plainLine (k := kK s n) hF ht ht24 ht45 hs hk (by omega) hT hbg hti rfl hkb) ?_
              intro x59 H59 p59
              have eL : linR D s n T = plnR s n T := (if_neg (by omega)).trans (if_neg (by omega))
              rw [← eL] at p59
              obtain ⟨e59, q59⟩ := p59
              subst e59
              have h44 : ¬ kK s n = 44 := by omega
              have hd : E - l = (E - (l + 1)) + 1 := by omega
              cases er : linR D s n T with
              | inl z =>
                have hfin := heq.trans ((congrArg (fun d => rdL D s d l n T) hd).trans (rdL_f h44 er))
                rw [er] at q59
                obtain ⟨c, m⟩ := z
                rw [hfin]
                refine xq_istore dX6_read_62 rfl ?_
                refine xq_iload dX6_read_64 rfl ?_
                refine xq_if_eqB dX6_read_66 rfl ⟨fun h66 => ?_, fun h66 => ?_⟩
                · skip
                  refine xq_iconst dX6_read_79 icm1 ?_
                  refine xq_iret dX6_read_80 rfl ?_
                  exact ⟨-1, H59, ⟨rfl, ho.tr q59.1, q59.2.2.2.trans (hs.1.2.1.trans hs0.symm), q59.2.1, q59.2.2.1⟩, rfl⟩
                · skip
                  exact absurd (show false = true from h66) (by decide)
              | inr z =>
                obtain ⟨m, T2⟩ := z
                have hfin := heq.trans ((congrArg (fun d => rdL D s d l n T) hd).trans (rdL_c h44 er))
                rw [er] at q59
                obtain ⟨g1, g2, g3⟩ := lin_ti hk hti er
                obtain ⟨q1, q2, q3, q4, q5, q6⟩ := q59
                refine xq_istore dX6_read_62 rfl ?_
                refine xq_iload dX6_read_64 rfl ?_
                refine xq_if_eqB dX6_read_66 rfl ⟨fun h66 => ?_, fun h66 => ?_⟩
                · skip
                  exact absurd (show true = false from h66) (by decide)
                · skip
                  refine xq_aload_n dX6_read_69 rfl rfl ?_
                  refine xq_getF clX6 (by decide) rfl fl_RX6_9 dX6_read_70 (Fx.s7 hF) (Fx.r7_0 hF) ?_
                  refine xq_callV0H clX9 gd_X9_endsLine dX6_read_73 ml_RX6_46 im_X9_endsLine se_X9_endsLine rfl (Fx.s2 hF) (by exact Nat.le_of_ble_eq_true rfl) (by decide) (c_endsLine hF q2 hk (by omega)) ?_
                  intro x73 H73 p73
                  obtain ⟨e73, q73, r73⟩ := p73
                  refine xq_if_neB dX6_read_76 rfl ⟨fun h76 => ?_, fun h76 => ?_⟩
                  · skip
                    refine xq_iincN dX6_read_81 ic1 rfl rfl ?_
                    refine xq_goto dX6_read_84 rfl ?_
                    have hq := h76
                    have h40 : kK s m = 40 := of_decide_eq_true (e73.symm.trans hq)
                    have ee := q73 hq
                    subst ee
                    rw [if_pos h40] at hfin
                    exact xq_fgt (ih (l + 1) (m + 1) T2 _ (by omega) (by omega) (kK_lt (n := m) (by omega)) g1 (q2.st (m + 1)) (q5.st2 ht24) (by rw [hI_sI, if_neg (by omega)]; exact q6) (Off.pI (A := (fun q => q = 2 ∨ (8 ≤ q ∧ q < 16) ∨ (t ≤ q ∧ q < t + 21))) (ho.tr q1) (by omega) _ _) (by rw [hI_sI, if_neg (by omega)]; exact q3.trans h7) (by rw [hI_sI, if_neg (by omega)]; exact q4.trans h8) hfin) (by exact And.intro rfl (And.intro rfl (And.intro rfl (trivial))))
                  · skip
                    refine xq_iconst dX6_read_79 icm1 ?_
                    refine xq_iret dX6_read_80 rfl ?_
                    have hq : x73 = false := by simpa using h76
                    have q := r73 hq
                    have h40 : ¬ kK s m = 40 := of_decide_eq_false (e73.symm.trans hq)
                    rw [hfin, if_neg h40]
                    exact ⟨-1, H73, ⟨rfl, Off.tr (ho.tr q1) (q.2.2.2.mo (fun q h => Or.inl h)), (q.2.2.1 6 (by decide) (by decide)).trans (q2.1.2.1.trans hs0.symm), q.1, q.2.1⟩, rfl⟩
            · skip
              refine xq_aload_n dX6_read_48 rfl rfl ?_
              refine xq_aload_n dX6_read_49 rfl rfl ?_
              refine xq_callV1H clX6 gd_X6_lawLine dX6_read_50 ml_RX6_39 im_X6_lawLine se_X6_lawLine rfl (Fx.s7 hF) (by exact Nat.le_of_ble_eq_true rfl) (by decide) (c_lawLine (D := D) hF ht ht24 ht45 hs hk (by omega) hT hbg a2 a1 a3 a4 hD) ?_
              intro x50 H50 p50
              refine xq_goto dX6_read_53 rfl ?_
              have eL : linR D s n T = lawR D s n T := (if_neg (by omega)).trans (if_pos (by omega))
              rw [← eL] at p50
              obtain ⟨e50, q50⟩ := p50
              subst e50
              have h44 : ¬ kK s n = 44 := by omega
              have hd : E - l = (E - (l + 1)) + 1 := by omega
              cases er : linR D s n T with
              | inl z =>
                have hfin := heq.trans ((congrArg (fun d => rdL D s d l n T) hd).trans (rdL_f h44 er))
                rw [er] at q50
                obtain ⟨c, m⟩ := z
                rw [hfin]
                refine xq_istore dX6_read_62 rfl ?_
                refine xq_iload dX6_read_64 rfl ?_
                refine xq_if_eqB dX6_read_66 rfl ⟨fun h66 => ?_, fun h66 => ?_⟩
                · skip
                  refine xq_iconst dX6_read_79 icm1 ?_
                  refine xq_iret dX6_read_80 rfl ?_
                  exact ⟨-1, H50, ⟨rfl, ho.tr q50.1, q50.2.2.2.trans (hs.1.2.1.trans hs0.symm), q50.2.1, q50.2.2.1⟩, rfl⟩
                · skip
                  exact absurd (show false = true from h66) (by decide)
              | inr z =>
                obtain ⟨m, T2⟩ := z
                have hfin := heq.trans ((congrArg (fun d => rdL D s d l n T) hd).trans (rdL_c h44 er))
                rw [er] at q50
                obtain ⟨g1, g2, g3⟩ := lin_ti hk hti er
                obtain ⟨q1, q2, q3, q4, q5, q6⟩ := q50
                refine xq_istore dX6_read_62 rfl ?_
                refine xq_iload dX6_read_64 rfl ?_
                refine xq_if_eqB dX6_read_66 rfl ⟨fun h66 => ?_, fun h66 => ?_⟩
                · skip
                  exact absurd (show true = false from h66) (by decide)
                · skip
                  refine xq_aload_n dX6_read_69 rfl rfl ?_
                  refine xq_getF clX6 (by decide) rfl fl_RX6_9 dX6_read_70 (Fx.s7 hF) (Fx.r7_0 hF) ?_
                  refine xq_callV0H clX9 gd_X9_endsLine dX6_read_73 ml_RX6_46 im_X9_endsLine se_X9_endsLine rfl (Fx.s2 hF) (by exact Nat.le_of_ble_eq_true rfl) (by decide) (c_endsLine hF q2 hk (by omega)) ?_
                  intro x73 H73 p73
                  obtain ⟨e73, q73, r73⟩ := p73
                  refine xq_if_neB dX6_read_76 rfl ⟨fun h76 => ?_, fun h76 => ?_⟩
                  · skip
                    refine xq_iincN dX6_read_81 ic1 rfl rfl ?_
                    refine xq_goto dX6_read_84 rfl ?_
                    have hq := h76
                    have h40 : kK s m = 40 := of_decide_eq_true (e73.symm.trans hq)
                    have ee := q73 hq
                    subst ee
                    rw [if_pos h40] at hfin
                    exact xq_fgt (ih (l + 1) (m + 1) T2 _ (by omega) (by omega) (kK_lt (n := m) (by omega)) g1 (q2.st (m + 1)) (q5.st2 ht24) (by rw [hI_sI, if_neg (by omega)]; exact q6) (Off.pI (A := (fun q => q = 2 ∨ (8 ≤ q ∧ q < 16) ∨ (t ≤ q ∧ q < t + 21))) (ho.tr q1) (by omega) _ _) (by rw [hI_sI, if_neg (by omega)]; exact q3.trans h7) (by rw [hI_sI, if_neg (by omega)]; exact q4.trans h8) hfin) (by exact And.intro rfl (And.intro rfl (And.intro rfl (trivial))))
                  · skip
                    refine xq_iconst dX6_read_79 icm1 ?_
                    refine xq_iret dX6_read_80 rfl ?_
                    have hq : x73 = false := by simpa using h76
                    have q := r73 hq
                    have h40 : ¬ kK s m = 40 := of_decide_eq_false (e73.symm.trans hq)
                    rw [hfin, if_neg h40]
                    exact ⟨-1, H73, ⟨rfl, Off.tr (ho.tr q1) (q.2.2.2.mo (fun q h => Or.inl h)), (q.2.2.1 6 (by decide) (by decide)).trans (q2.1.2.1.trans hs0.symm), q.1, q.2.1⟩, rfl⟩
          · skip
            refine xq_aload_n dX6_read_34 rfl rfl ?_
            refine xq_aload_n dX6_read_35 rfl rfl ?_
            refine xq_callV1H clX6 gd_X6_factLine dX6_read_36 ml_RX6_35 im_X6_factLine se_X6_factLine rfl (Fx.s7 hF) (by exact Nat.le_of_ble_eq_true rfl) (by decide) (c_factLine (D := D) hF ht ht24 ht45 hs hk (by omega) hT hbg a2 a1 a3 a4 hD) ?_
            intro x36 H36 p36
            refine xq_goto dX6_read_39 rfl ?_
            have eL : linR D s n T = facR D s n T := if_pos (by omega)
            rw [← eL] at p36
            obtain ⟨e36, q36⟩ := p36
            subst e36
            have h44 : ¬ kK s n = 44 := by omega
            have hd : E - l = (E - (l + 1)) + 1 := by omega
            cases er : linR D s n T with
            | inl z =>
              have hfin := heq.trans ((congrArg (fun d => rdL D s d l n T) hd).trans (rdL_f h44 er))
              rw [er] at q36
              obtain ⟨c, m⟩ := z
              rw [hfin]
              refine xq_istore dX6_read_62 rfl ?_
              refine xq_iload dX6_read_64 rfl ?_
              refine xq_if_eqB dX6_read_66 rfl ⟨fun h66 => ?_, fun h66 => ?_⟩
              · skip
                refine xq_iconst dX6_read_79 icm1 ?_
                refine xq_iret dX6_read_80 rfl ?_
                exact ⟨-1, H36, ⟨rfl, ho.tr q36.1, q36.2.2.2.trans (hs.1.2.1.trans hs0.symm), q36.2.1, q36.2.2.1⟩, rfl⟩
              · skip
                exact absurd (show false = true from h66) (by decide)
            | inr z =>
              obtain ⟨m, T2⟩ := z
              have hfin := heq.trans ((congrArg (fun d => rdL D s d l n T) hd).trans (rdL_c h44 er))
              rw [er] at q36
              obtain ⟨g1, g2, g3⟩ := lin_ti hk hti er
              obtain ⟨q1, q2, q3, q4, q5, q6⟩ := q36
              refine xq_istore dX6_read_62 rfl ?_
              refine xq_iload dX6_read_64 rfl ?_
              refine xq_if_eqB dX6_read_66 rfl ⟨fun h66 => ?_, fun h66 => ?_⟩
              · skip
                exact absurd (show true = false from h66) (by decide)
              · skip
                refine xq_aload_n dX6_read_69 rfl rfl ?_
                refine xq_getF clX6 (by decide) rfl fl_RX6_9 dX6_read_70 (Fx.s7 hF) (Fx.r7_0 hF) ?_
                refine xq_callV0H clX9 gd_X9_endsLine dX6_read_73 ml_RX6_46 im_X9_endsLine se_X9_endsLine rfl (Fx.s2 hF) (by exact Nat.le_of_ble_eq_true rfl) (by decide) (c_endsLine hF q2 hk (by omega)) ?_
                intro x73 H73 p73
                obtain ⟨e73, q73, r73⟩ := p73
                refine xq_if_neB dX6_read_76 rfl ⟨fun h76 => ?_, fun h76 => ?_⟩
                · skip
                  refine xq_iincN dX6_read_81 ic1 rfl rfl ?_
                  refine xq_goto dX6_read_84 rfl ?_
                  have hq := h76
                  have h40 : kK s m = 40 := of_decide_eq_true (e73.symm.trans hq)
                  have ee := q73 hq
                  subst ee
                  rw [if_pos h40] at hfin
                  exact xq_fgt (ih (l + 1) (m + 1) T2 _ (by omega) (by omega) (kK_lt (n := m) (by omega)) g1 (q2.st (m + 1)) (q5.st2 ht24) (by rw [hI_sI, if_neg (by omega)]; exact q6) (Off.pI (A := (fun q => q = 2 ∨ (8 ≤ q ∧ q < 16) ∨ (t ≤ q ∧ q < t + 21))) (ho.tr q1) (by omega) _ _) (by rw [hI_sI, if_neg (by omega)]; exact q3.trans h7) (by rw [hI_sI, if_neg (by omega)]; exact q4.trans h8) hfin) (by exact And.intro rfl (And.intro rfl (And.intro rfl (trivial))))
                · skip
                  refine xq_iconst dX6_read_79 icm1 ?_
                  refine xq_iret dX6_read_80 rfl ?_
                  have hq : x73 = false := by simpa using h76
                  have q := r73 hq
                  have h40 : ¬ kK s m = 40 := of_decide_eq_false (e73.symm.trans hq)
                  rw [hfin, if_neg h40]
                  exact ⟨-1, H73, ⟨rfl, Off.tr (ho.tr q1) (q.2.2.2.mo (fun q h => Or.inl h)), (q.2.2.1 6 (by decide) (by decide)).trans (q2.1.2.1.trans hs0.symm), q.1, q.2.1⟩, rfl⟩
        · skip
          refine xq_iload_n dX6_read_27 rfl rfl ?_
          refine xq_iret dX6_read_28 rfl ?_
          rw [heq, show E - l = (E - (l + 1)) + 1 by omega, rdL_e h24]
          exact ⟨(l : Int), H1, ⟨rfl, ho, hs.1.2.1.trans hs0.symm, h7, h8, hT⟩, rfl⟩
  refine vq_intro (by decide) (by exact Nat.le_of_ble_eq_true rfl) rfl ?_
  refine xq_aload_n dX6_read_0 rfl rfl ?_
  refine xq_callV0N clX8 gd_X8_clear dX6_read_1 ml_RX6_24 im_X8_clear se_X8_clear rfl (Tx.s0 ht) (by exact Nat.le_of_ble_eq_true rfl) (by decide) (c_clear ht ht24 ht45) ?_
  intro H1 p1
  obtain ⟨q1, q2, q3⟩ := p1
  refine xq_iconst dX6_read_4 ic0 ?_
  refine xq_istore_n dX6_read_5 rfl rfl ?_
  exact xq_fgt (lp 702 0 0 tx0 H1 (by omega) (by omega) (by omega) ti0 (hs1.off q3 (fun q h => by omega)) q1 q2 (q3.mo (fun q h => by omega)) (q3.I (by omega) 7) (q3.I (by omega) 8) rfl) (by exact And.intro rfl (And.intro rfl (And.intro rfl (trivial))))
end LP
