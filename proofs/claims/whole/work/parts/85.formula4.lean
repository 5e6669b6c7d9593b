/-! ===== Formula: readFact, readValue ===== -/
section FD
variable {S : xS} {H H1 H2 H3 : xH} {k p q i j l m n c t v r sz st y : Nat} {s : uTk} {T : uTx} {w : Int64} {ws : List (Nat × Nat)} {hs : List Nat} {o b : Nat} {cd : Nat → Nat}
theorem mrQ.tr {r : fmR} (h : mrQ H1 H2 t s r) (ho : Off (fun q => q = 2 ∨ (8 ≤ q ∧ q < 16) ∨ (t ≤ q ∧ q < t + 21)) H H1) (h6 : hI H1 2 6 = hI H 2 6) (h7 : hI H1 2 7 = hI H 2 7) (h8 : hI H1 2 8 = hI H 2 8) : mrQ H H2 t s r := by
  obtain ⟨h1, h2⟩ := h
  refine ⟨ho.tr h1, ?_⟩
  cases r with
  | inl z => exact ⟨h2.1, h2.2.1, h2.2.2.trans h6⟩
  | inr z => exact ⟨h2.1, h2.2.1.trans h7, h2.2.2.1.trans h8, h2.2.2.2⟩
theorem c_readFact (hF : gFx S) (ht : gTx S t) (ht24 : 24 ≤ t) (ht45 : t ≤ 45) (hs1 : TrP H s n) (hk : TrOk s) (hn : n ≤ 790) (hf : FmP H t (ws, hs, o, T, b, w)) (hnp : tNp T ≤ 6) (hnc : tNc T ≤ 3) (hnf : tNf T ≤ 8) (hi : FI (ws, hs, o, T, b, w)) (hst : st ≤ 3) (hkk : kK s n = k) : Hv mX1_readFact 3 [.ref 8, .ref t, vN st] S H vN (fun x H' => x = mrV (facS s st n (ws, hs, o, T, b, w)) ∧ mrQ H H' t s (facS s st n (ws, hs, o, T, b, w))) := by
  have hia := hi.a
  obtain ⟨i1, i2, i3, i4, i5⟩ := hia
  have hkb : kK s n ≤ 44 := kK_le hk
  rw [hkk] at hkb
  refine vq_intro (by decide) (by exact Nat.le_of_ble_eq_true rfl) rfl ?_
  refine xq_aload_n dX1_readFact_0 rfl rfl ?_
  refine xq_getF clX1 (by decide) rfl fl_RX1_28 dX1_readFact_1 (Fx.s8 hF) (Fx.r8_0 hF) ?_
  refine xq_callV0P clX9 gd_X9_kind dX1_readFact_4 ml_RX1_49 im_X9_kind se_X9_kind rfl (Fx.s2 hF) (by exact Nat.le_of_ble_eq_true rfl) (by decide) (show Pv mX9_kind 0 [.ref 2] S H (vN k) from hkk ▸ c_kind hF hs1 hk (by omega)) ?_
  refine xq_istore_n dX1_readFact_7 rfl rfl ?_
  refine xq_iload_n dX1_readFact_8 rfl rfl ?_
  by_cases hs9 : 14 ≤ k ∧ k ≤ 20
  · skip
    have hq9 : k = 14 ∨ k = 15 ∨ k = 16 ∨ k = 17 ∨ k = 18 ∨ k = 19 ∨ k = 20 := by omega
    rcases hq9 with rfl | rfl | rfl | rfl | rfl | rfl | rfl
    · skip
      refine xq_tableIn dX1_readFact_9 (by decide) (by decide) rfl rfl ?_
      refine xq_aload_n dX1_readFact_52 rfl rfl ?_
      refine xq_callV0H clX1 gd_X1_mayBegin dX1_readFact_53 ml_RX1_78 im_X1_mayBegin se_X1_mayBegin rfl (Fx.s8 hF) (by exact Nat.le_of_ble_eq_true rfl) (by decide) (c_mayBegin (b := b) hF ht hs1 hk (by omega) hf.kn hf.bg (by omega)) ?_
      intro x53 H53 p53
      obtain ⟨e53, q53, r53⟩ := p53
      refine xq_if_eqB dX1_readFact_56 rfl ⟨fun h56 => ?_, fun h56 => ?_⟩
      · skip
        refine xq_iconst dX1_readFact_68 ic3 ?_
        refine xq_iret dX1_readFact_69 rfl ?_
        have hb0 : ¬ b < 64 := of_decide_eq_false (e53.symm.trans (by simpa using h56))
        have q := r53 hb0
        have e : facS s st n (ws, hs, o, T, b, w) = .inl (2, n) := (if_pos (Or.inl hkk)).trans (if_pos (show 64 ≤ b by omega))
        rw [e]
        exact ⟨3, H53, ⟨rfl, Off.tr Off.rf (q.2.2.2.mo (fun q h => Or.inl h)), q.1, q.2.1, (q.2.2.1 6 (by decide) (by decide)).trans rfl⟩, rfl⟩
      · skip
        have hb1 : b < 64 := of_decide_eq_true (e53.symm.trans (by simpa using h56))
        have ee := q53 hb1
        subst ee
        have hfb := hf.beg (v := b + 1) ht24
        have hsb : TrP (sI H (t + 7) 4 (nI (b + 1))) s n := hs1.pI (by omega) _ _
        have oB1 : Off (fun q => q = 2 ∨ (8 ≤ q ∧ q < 16) ∨ (t ≤ q ∧ q < t + 21)) H (sI H (t + 7) 4 (nI (b + 1))) := (Off.pI (A := (fun q => q = 2 ∨ (8 ≤ q ∧ q < 16) ∨ (t ≤ q ∧ q < t + 21))) Off.rf (by omega) _ _)
        refine xq_aload_n dX1_readFact_59 rfl rfl ?_
        refine xq_aload_n dX1_readFact_60 rfl rfl ?_
        refine xq_iload_n dX1_readFact_61 rfl rfl ?_
        refine xq_callV2H clX1 gd_X1_readLeaf dX1_readFact_62 ml_RX1_82 im_X1_readLeaf se_X1_readLeaf rfl (Fx.s8 hF) (by exact Nat.le_of_ble_eq_true rfl) (by decide) (c_leaf14 hF ht ht24 ht45 hsb hk hn hfb hnp hnc hnf (show tNk T < 64 by omega) (show hs.length < 64 by omega)) ?_
        intro x62 H62 p62
        refine xq_goto dX1_readFact_65 rfl ?_
        refine xq_iret dX1_readFact_69 rfl ?_
        have e : facS s st n (ws, hs, o, T, b, w) = hatS s n (begX (ws, hs, o, T, b, w)) := (if_pos (Or.inl hkk)).trans ((if_neg (show ¬ 64 ≤ b by omega)).trans (by rw [hkk]; exact (if_pos rfl)))
        rw [e]
        obtain ⟨e62, q62⟩ := p62
        exact ⟨x62, H62, ⟨e62, q62.tr oB1 (by rw [hI_sI, if_neg (by omega)]) (by rw [hI_sI, if_neg (by omega)]) (by rw [hI_sI, if_neg (by omega)])⟩, rfl⟩
    · skip
      refine xq_tableIn dX1_readFact_9 (by decide) (by decide) rfl rfl ?_
      refine xq_aload_n dX1_readFact_52 rfl rfl ?_
      refine xq_callV0H clX1 gd_X1_mayBegin dX1_readFact_53 ml_RX1_78 im_X1_mayBegin se_X1_mayBegin rfl (Fx.s8 hF) (by exact Nat.le_of_ble_eq_true rfl) (by decide) (c_mayBegin (b := b) hF ht hs1 hk (by omega) hf.kn hf.bg (by omega)) ?_
      intro x53 H53 p53
      obtain ⟨e53, q53, r53⟩ := p53
      refine xq_if_eqB dX1_readFact_56 rfl ⟨fun h56 => ?_, fun h56 => ?_⟩
      · skip
        refine xq_iconst dX1_readFact_68 ic3 ?_
        refine xq_iret dX1_readFact_69 rfl ?_
        have hb0 : ¬ b < 64 := of_decide_eq_false (e53.symm.trans (by simpa using h56))
        have q := r53 hb0
        have e : facS s st n (ws, hs, o, T, b, w) = .inl (2, n) := (if_pos (Or.inr (Or.inl hkk))).trans (if_pos (show 64 ≤ b by omega))
        rw [e]
        exact ⟨3, H53, ⟨rfl, Off.tr Off.rf (q.2.2.2.mo (fun q h => Or.inl h)), q.1, q.2.1, (q.2.2.1 6 (by decide) (by decide)).trans rfl⟩, rfl⟩
      · skip
        have hb1 : b < 64 := of_decide_eq_true (e53.symm.trans (by simpa using h56))
        have ee := q53 hb1
        subst ee
        have hfb := hf.beg (v := b + 1) ht24
        have hsb : TrP (sI H (t + 7) 4 (nI (b + 1))) s n := hs1.pI (by omega) _ _
        have oB1 : Off (fun q => q = 2 ∨ (8 ≤ q ∧ q < 16) ∨ (t ≤ q ∧ q < t + 21)) H (sI H (t + 7) 4 (nI (b + 1))) := (Off.pI (A := (fun q => q = 2 ∨ (8 ≤ q ∧ q < 16) ∨ (t ≤ q ∧ q < t + 21))) Off.rf (by omega) _ _)
        refine xq_aload_n dX1_readFact_59 rfl rfl ?_
        refine xq_aload_n dX1_readFact_60 rfl rfl ?_
        refine xq_iload_n dX1_readFact_61 rfl rfl ?_
        refine xq_callV2H clX1 gd_X1_readLeaf dX1_readFact_62 ml_RX1_82 im_X1_readLeaf se_X1_readLeaf rfl (Fx.s8 hF) (by exact Nat.le_of_ble_eq_true rfl) (by decide) (c_leaf15 hF ht ht24 ht45 hsb hk hn hfb hnp hnc hnf (show tNk T < 64 by omega) (show hs.length < 64 by omega)) ?_
        intro x62 H62 p62
        refine xq_goto dX1_readFact_65 rfl ?_
        refine xq_iret dX1_readFact_69 rfl ?_
        have e : facS s st n (ws, hs, o, T, b, w) = ownS s n (begX (ws, hs, o, T, b, w)) := (if_pos (Or.inr (Or.inl hkk))).trans ((if_neg (show ¬ 64 ≤ b by omega)).trans (by rw [hkk]; exact ((if_neg (by decide)).trans (if_pos rfl))))
        rw [e]
        obtain ⟨e62, q62⟩ := p62
        exact ⟨x62, H62, ⟨e62, q62.tr oB1 (by rw [hI_sI, if_neg (by omega)]) (by rw [hI_sI, if_neg (by omega)]) (by rw [hI_sI, if_neg (by omega)])⟩, rfl⟩
    · skip
      refine xq_tableIn dX1_readFact_9 (by decide) (by decide) rfl rfl ?_
      refine xq_aload_n dX1_readFact_70 rfl rfl ?_
      refine xq_callV0H clX1 gd_X1_mayBegin dX1_readFact_71 ml_RX1_78 im_X1_mayBegin se_X1_mayBegin rfl (Fx.s8 hF) (by exact Nat.le_of_ble_eq_true rfl) (by decide) (c_mayBegin (b := b) hF ht hs1 hk (by omega) hf.kn hf.bg (by omega)) ?_
      intro x71 H71 p71
      obtain ⟨e71, q71, r71⟩ := p71
      refine xq_if_eqB dX1_readFact_74 rfl ⟨fun h74 => ?_, fun h74 => ?_⟩
      · skip
        refine xq_iconst dX1_readFact_85 ic3 ?_
        refine xq_iret dX1_readFact_86 rfl ?_
        have hb0 : ¬ b < 64 := of_decide_eq_false (e71.symm.trans (by simpa using h74))
        have q := r71 hb0
        have e : facS s st n (ws, hs, o, T, b, w) = .inl (2, n) := ((if_neg (by omega)).trans (if_pos hkk)).trans (if_pos (show 64 ≤ b by omega))
        rw [e]
        exact ⟨3, H71, ⟨rfl, Off.tr Off.rf (q.2.2.2.mo (fun q h => Or.inl h)), q.1, q.2.1, (q.2.2.1 6 (by decide) (by decide)).trans rfl⟩, rfl⟩
      · skip
        have hb1 : b < 64 := of_decide_eq_true (e71.symm.trans (by simpa using h74))
        have ee := q71 hb1
        subst ee
        have hfb := hf.beg (v := b + 1) ht24
        have hsb : TrP (sI H (t + 7) 4 (nI (b + 1))) s n := hs1.pI (by omega) _ _
        have oB1 : Off (fun q => q = 2 ∨ (8 ≤ q ∧ q < 16) ∨ (t ≤ q ∧ q < t + 21)) H (sI H (t + 7) 4 (nI (b + 1))) := (Off.pI (A := (fun q => q = 2 ∨ (8 ≤ q ∧ q < 16) ∨ (t ≤ q ∧ q < t + 21))) Off.rf (by omega) _ _)
        refine xq_aload_n dX1_readFact_77 rfl rfl ?_
        refine xq_aload_n dX1_readFact_78 rfl rfl ?_
        refine xq_callV1H clX1 gd_X1_readKnows dX1_readFact_79 ml_RX1_85 im_X1_readKnows se_X1_readKnows rfl (Fx.s8 hF) (by exact Nat.le_of_ble_eq_true rfl) (by decide) (c_readKnows hF ht ht24 ht45 hsb hk hn hfb hnp hnc hnf (show ws.length < 72 by omega)) ?_
        intro x79 H79 p79
        refine xq_goto dX1_readFact_82 rfl ?_
        refine xq_iret dX1_readFact_86 rfl ?_
        have e : facS s st n (ws, hs, o, T, b, w) = knwS s n (begX (ws, hs, o, T, b, w)) := ((if_neg (by omega)).trans (if_pos hkk)).trans (if_neg (show ¬ 64 ≤ b by omega))
        rw [e]
        obtain ⟨e79, q79⟩ := p79
        exact ⟨x79, H79, ⟨e79, q79.tr oB1 (by rw [hI_sI, if_neg (by omega)]) (by rw [hI_sI, if_neg (by omega)]) (by rw [hI_sI, if_neg (by omega)])⟩, rfl⟩
    · skip
      refine xq_tableIn dX1_readFact_9 (by decide) (by decide) rfl rfl ?_
      refine xq_aload_n dX1_readFact_87 rfl rfl ?_
      refine xq_callV0H clX1 gd_X1_mayBegin dX1_readFact_88 ml_RX1_78 im_X1_mayBegin se_X1_mayBegin rfl (Fx.s8 hF) (by exact Nat.le_of_ble_eq_true rfl) (by decide) (c_mayBegin (b := b) hF ht hs1 hk (by omega) hf.kn hf.bg (by omega)) ?_
      intro x88 H88 p88
      obtain ⟨e88, q88, r88⟩ := p88
      refine xq_if_eqB dX1_readFact_91 rfl ⟨fun h91 => ?_, fun h91 => ?_⟩
      · skip
        refine xq_iconst dX1_readFact_104 ic3 ?_
        refine xq_iret dX1_readFact_105 rfl ?_
        have hb0 : ¬ b < 64 := of_decide_eq_false (e88.symm.trans (by simpa using h91))
        have q := r88 hb0
        have e : facS s st n (ws, hs, o, T, b, w) = .inl (2, n) := ((if_neg (by omega)).trans ((if_neg (by omega)).trans (if_pos (Or.inl hkk)))).trans (if_pos (show 64 ≤ b by omega))
        rw [e]
        exact ⟨3, H88, ⟨rfl, Off.tr Off.rf (q.2.2.2.mo (fun q h => Or.inl h)), q.1, q.2.1, (q.2.2.1 6 (by decide) (by decide)).trans rfl⟩, rfl⟩
      · skip
        have hb1 : b < 64 := of_decide_eq_true (e88.symm.trans (by simpa using h91))
        have ee := q88 hb1
        subst ee
        have hfb := hf.beg (v := b + 1) ht24
        have hsb : TrP (sI H (t + 7) 4 (nI (b + 1))) s n := hs1.pI (by omega) _ _
        have oB1 : Off (fun q => q = 2 ∨ (8 ≤ q ∧ q < 16) ∨ (t ≤ q ∧ q < t + 21)) H (sI H (t + 7) 4 (nI (b + 1))) := (Off.pI (A := (fun q => q = 2 ∨ (8 ≤ q ∧ q < 16) ∨ (t ≤ q ∧ q < t + 21))) Off.rf (by omega) _ _)
        refine xq_aload_n dX1_readFact_94 rfl rfl ?_
        refine xq_iload_n dX1_readFact_95 rfl rfl ?_
        refine xq_iconst dX1_readFact_96 ic0 ?_
        refine xq_iconst dX1_readFact_97 ic1 ?_
        refine xq_callV3H clX1 gd_X1_hold dX1_readFact_98 ml_RX1_89 im_X1_hold se_X1_hold rfl (Fx.s8 hF) (by exact Nat.le_of_ble_eq_true rfl) (by decide) (c_hold (sz := ws.length) hF hsb hk (by omega) hfb.wz (by omega)) ?_
        intro x98 H98 p98
        obtain ⟨rfl, rfl⟩ := p98
        refine xq_goto dX1_readFact_101 rfl ?_
        refine xq_iret dX1_readFact_105 rfl ?_
        have e : facS s st n (ws, hs, o, T, b, w) = .inr (1, n + 1, hldX 17 0 (begX (ws, hs, o, T, b, w))) := ((if_neg (by omega)).trans ((if_neg (by omega)).trans (if_pos (Or.inl hkk)))).trans ((if_neg (show ¬ 64 ≤ b by omega)).trans (by rw [hkk]))
        rw [e]
        exact ⟨1, _, ⟨rfl, (Off.pI (A := (fun q => q = 2 ∨ (8 ≤ q ∧ q < 16) ∨ (t ≤ q ∧ q < t + 21))) (Off.pI (A := (fun q => q = 2 ∨ (8 ≤ q ∧ q < 16) ∨ (t ≤ q ∧ q < t + 21))) (Off.pI (A := (fun q => q = 2 ∨ (8 ≤ q ∧ q < 16) ∨ (t ≤ q ∧ q < t + 21))) (Off.pI (A := (fun q => q = 2 ∨ (8 ≤ q ∧ q < 16) ∨ (t ≤ q ∧ q < t + 21))) (Off.pI (A := (fun q => q = 2 ∨ (8 ≤ q ∧ q < 16) ∨ (t ≤ q ∧ q < t + 21))) Off.rf (by omega) _ _) (by omega) _ _) (by omega) _ _) (by omega) _ _) (by omega) _ _), ((((hsb.pI (by omega) _ _).pI (by omega) _ _).pI (by omega) _ _).st (n + 1)), by (repeat rw [hI_sI, if_neg (by omega)]), by (repeat rw [hI_sI, if_neg (by omega)]), (hfb.hld ht24).st2 ht24⟩, rfl⟩
    · skip
      refine xq_tableIn dX1_readFact_9 (by decide) (by decide) rfl rfl ?_
      refine xq_aload_n dX1_readFact_87 rfl rfl ?_
      refine xq_callV0H clX1 gd_X1_mayBegin dX1_readFact_88 ml_RX1_78 im_X1_mayBegin se_X1_mayBegin rfl (Fx.s8 hF) (by exact Nat.le_of_ble_eq_true rfl) (by decide) (c_mayBegin (b := b) hF ht hs1 hk (by omega) hf.kn hf.bg (by omega)) ?_
      intro x88 H88 p88
      obtain ⟨e88, q88, r88⟩ := p88
      refine xq_if_eqB dX1_readFact_91 rfl ⟨fun h91 => ?_, fun h91 => ?_⟩
      · skip
        refine xq_iconst dX1_readFact_104 ic3 ?_
        refine xq_iret dX1_readFact_105 rfl ?_
        have hb0 : ¬ b < 64 := of_decide_eq_false (e88.symm.trans (by simpa using h91))
        have q := r88 hb0
        have e : facS s st n (ws, hs, o, T, b, w) = .inl (2, n) := ((if_neg (by omega)).trans ((if_neg (by omega)).trans (if_pos (Or.inr hkk)))).trans (if_pos (show 64 ≤ b by omega))
        rw [e]
        exact ⟨3, H88, ⟨rfl, Off.tr Off.rf (q.2.2.2.mo (fun q h => Or.inl h)), q.1, q.2.1, (q.2.2.1 6 (by decide) (by decide)).trans rfl⟩, rfl⟩
      · skip
        have hb1 : b < 64 := of_decide_eq_true (e88.symm.trans (by simpa using h91))
        have ee := q88 hb1
        subst ee
        have hfb := hf.beg (v := b + 1) ht24
        have hsb : TrP (sI H (t + 7) 4 (nI (b + 1))) s n := hs1.pI (by omega) _ _
        have oB1 : Off (fun q => q = 2 ∨ (8 ≤ q ∧ q < 16) ∨ (t ≤ q ∧ q < t + 21)) H (sI H (t + 7) 4 (nI (b + 1))) := (Off.pI (A := (fun q => q = 2 ∨ (8 ≤ q ∧ q < 16) ∨ (t ≤ q ∧ q < t + 21))) Off.rf (by omega) _ _)
        refine xq_aload_n dX1_readFact_94 rfl rfl ?_
        refine xq_iload_n dX1_readFact_95 rfl rfl ?_
        refine xq_iconst dX1_readFact_96 ic0 ?_
        refine xq_iconst dX1_readFact_97 ic1 ?_
        refine xq_callV3H clX1 gd_X1_hold dX1_readFact_98 ml_RX1_89 im_X1_hold se_X1_hold rfl (Fx.s8 hF) (by exact Nat.le_of_ble_eq_true rfl) (by decide) (c_hold (sz := ws.length) hF hsb hk (by omega) hfb.wz (by omega)) ?_
        intro x98 H98 p98
        obtain ⟨rfl, rfl⟩ := p98
        refine xq_goto dX1_readFact_101 rfl ?_
        refine xq_iret dX1_readFact_105 rfl ?_
        have e : facS s st n (ws, hs, o, T, b, w) = .inr (1, n + 1, hldX 18 0 (begX (ws, hs, o, T, b, w))) := ((if_neg (by omega)).trans ((if_neg (by omega)).trans (if_pos (Or.inr hkk)))).trans ((if_neg (show ¬ 64 ≤ b by omega)).trans (by rw [hkk]))
        rw [e]
        exact ⟨1, _, ⟨rfl, (Off.pI (A := (fun q => q = 2 ∨ (8 ≤ q ∧ q < 16) ∨ (t ≤ q ∧ q < t + 21))) (Off.pI (A := (fun q => q = 2 ∨ (8 ≤ q ∧ q < 16) ∨ (t ≤ q ∧ q < t + 21))) (Off.pI (A := (fun q => q = 2 ∨ (8 ≤ q ∧ q < 16) ∨ (t ≤ q ∧ q < t + 21))) (Off.pI (A := (fun q => q = 2 ∨ (8 ≤ q ∧ q < 16) ∨ (t ≤ q ∧ q < t + 21))) (Off.pI (A := (fun q => q = 2 ∨ (8 ≤ q ∧ q < 16) ∨ (t ≤ q ∧ q < t + 21))) Off.rf (by omega) _ _) (by omega) _ _) (by omega) _ _) (by omega) _ _) (by omega) _ _), ((((hsb.pI (by omega) _ _).pI (by omega) _ _).pI (by omega) _ _).st (n + 1)), by (repeat rw [hI_sI, if_neg (by omega)]), by (repeat rw [hI_sI, if_neg (by omega)]), (hfb.hld ht24).st2 ht24⟩, rfl⟩
    · skip
      refine xq_tableIn dX1_readFact_9 (by decide) (by decide) rfl rfl ?_
      refine xq_aload_n dX1_readFact_52 rfl rfl ?_
      refine xq_callV0H clX1 gd_X1_mayBegin dX1_readFact_53 ml_RX1_78 im_X1_mayBegin se_X1_mayBegin rfl (Fx.s8 hF) (by exact Nat.le_of_ble_eq_true rfl) (by decide) (c_mayBegin (b := b) hF ht hs1 hk (by omega) hf.kn hf.bg (by omega)) ?_
      intro x53 H53 p53
      obtain ⟨e53, q53, r53⟩ := p53
      refine xq_if_eqB dX1_readFact_56 rfl ⟨fun h56 => ?_, fun h56 => ?_⟩
      · skip
        refine xq_iconst dX1_readFact_68 ic3 ?_
        refine xq_iret dX1_readFact_69 rfl ?_
        have hb0 : ¬ b < 64 := of_decide_eq_false (e53.symm.trans (by simpa using h56))
        have q := r53 hb0
        have e : facS s st n (ws, hs, o, T, b, w) = .inl (2, n) := (if_pos (Or.inr (Or.inr (Or.inl hkk)))).trans (if_pos (show 64 ≤ b by omega))
        rw [e]
        exact ⟨3, H53, ⟨rfl, Off.tr Off.rf (q.2.2.2.mo (fun q h => Or.inl h)), q.1, q.2.1, (q.2.2.1 6 (by decide) (by decide)).trans rfl⟩, rfl⟩
      · skip
        have hb1 : b < 64 := of_decide_eq_true (e53.symm.trans (by simpa using h56))
        have ee := q53 hb1
        subst ee
        have hfb := hf.beg (v := b + 1) ht24
        have hsb : TrP (sI H (t + 7) 4 (nI (b + 1))) s n := hs1.pI (by omega) _ _
        have oB1 : Off (fun q => q = 2 ∨ (8 ≤ q ∧ q < 16) ∨ (t ≤ q ∧ q < t + 21)) H (sI H (t + 7) 4 (nI (b + 1))) := (Off.pI (A := (fun q => q = 2 ∨ (8 ≤ q ∧ q < 16) ∨ (t ≤ q ∧ q < t + 21))) Off.rf (by omega) _ _)
        refine xq_aload_n dX1_readFact_59 rfl rfl ?_
        refine xq_aload_n dX1_readFact_60 rfl rfl ?_
        refine xq_iload_n dX1_readFact_61 rfl rfl ?_
        refine xq_callV2H clX1 gd_X1_readLeaf dX1_readFact_62 ml_RX1_82 im_X1_readLeaf se_X1_readLeaf rfl (Fx.s8 hF) (by exact Nat.le_of_ble_eq_true rfl) (by decide) (c_leaf19 hF ht ht24 ht45 hsb hk hn hfb hnp hnc hnf (show tNk T < 64 by omega) (show hs.length < 64 by omega)) ?_
        intro x62 H62 p62
        refine xq_goto dX1_readFact_65 rfl ?_
        refine xq_iret dX1_readFact_69 rfl ?_
        have e : facS s st n (ws, hs, o, T, b, w) = mnyS s n (begX (ws, hs, o, T, b, w)) := (if_pos (Or.inr (Or.inr (Or.inl hkk)))).trans ((if_neg (show ¬ 64 ≤ b by omega)).trans (by rw [hkk]; exact ((if_neg (by decide)).trans ((if_neg (by decide)).trans (if_pos rfl)))))
        rw [e]
        obtain ⟨e62, q62⟩ := p62
        exact ⟨x62, H62, ⟨e62, q62.tr oB1 (by rw [hI_sI, if_neg (by omega)]) (by rw [hI_sI, if_neg (by omega)]) (by rw [hI_sI, if_neg (by omega)])⟩, rfl⟩
    · skip
      refine xq_tableIn dX1_readFact_9 (by decide) (by decide) rfl rfl ?_
      refine xq_aload_n dX1_readFact_52 rfl rfl ?_
      refine xq_callV0H clX1 gd_X1_mayBegin dX1_readFact_53 ml_RX1_78 im_X1_mayBegin se_X1_mayBegin rfl (Fx.s8 hF) (by exact Nat.le_of_ble_eq_true rfl) (by decide) (c_mayBegin (b := b) hF ht hs1 hk (by omega) hf.kn hf.bg (by omega)) ?_
      intro x53 H53 p53
      obtain ⟨e53, q53, r53⟩ := p53
      refine xq_if_eqB dX1_readFact_56 rfl ⟨fun h56 => ?_, fun h56 => ?_⟩
      · skip
        refine xq_iconst dX1_readFact_68 ic3 ?_
        refine xq_iret dX1_readFact_69 rfl ?_
        have hb0 : ¬ b < 64 := of_decide_eq_false (e53.symm.trans (by simpa using h56))
        have q := r53 hb0
        have e : facS s st n (ws, hs, o, T, b, w) = .inl (2, n) := (if_pos (Or.inr (Or.inr (Or.inr hkk)))).trans (if_pos (show 64 ≤ b by omega))
        rw [e]
        exact ⟨3, H53, ⟨rfl, Off.tr Off.rf (q.2.2.2.mo (fun q h => Or.inl h)), q.1, q.2.1, (q.2.2.1 6 (by decide) (by decide)).trans rfl⟩, rfl⟩
      · skip
        have hb1 : b < 64 := of_decide_eq_true (e53.symm.trans (by simpa using h56))
        have ee := q53 hb1
        subst ee
        have hfb := hf.beg (v := b + 1) ht24
        have hsb : TrP (sI H (t + 7) 4 (nI (b + 1))) s n := hs1.pI (by omega) _ _
        have oB1 : Off (fun q => q = 2 ∨ (8 ≤ q ∧ q < 16) ∨ (t ≤ q ∧ q < t + 21)) H (sI H (t + 7) 4 (nI (b + 1))) := (Off.pI (A := (fun q => q = 2 ∨ (8 ≤ q ∧ q < 16) ∨ (t ≤ q ∧ q < t + 21))) Off.rf (by omega) _ _)
        refine xq_aload_n dX1_readFact_59 rfl rfl ?_
        refine xq_aload_n dX1_readFact_60 rfl rfl ?_
        refine xq_iload_n dX1_readFact_61 rfl rfl ?_
        refine xq_callV2H clX1 gd_X1_readLeaf dX1_readFact_62 ml_RX1_82 im_X1_readLeaf se_X1_readLeaf rfl (Fx.s8 hF) (by exact Nat.le_of_ble_eq_true rfl) (by decide) (c_leaf20 hF ht ht24 ht45 hsb hk hn hfb hnp hnc hnf (show tNk T < 64 by omega) (show hs.length < 64 by omega)) ?_
        intro x62 H62 p62
        refine xq_goto dX1_readFact_65 rfl ?_
        refine xq_iret dX1_readFact_69 rfl ?_
        have e : facS s st n (ws, hs, o, T, b, w) = asS s n (begX (ws, hs, o, T, b, w)) := (if_pos (Or.inr (Or.inr (Or.inr hkk)))).trans ((if_neg (show ¬ 64 ≤ b by omega)).trans (by rw [hkk]; exact ((if_neg (by decide)).trans ((if_neg (by decide)).trans (if_neg (by decide))))))
        rw [e]
        obtain ⟨e62, q62⟩ := p62
        exact ⟨x62, H62, ⟨e62, q62.tr oB1 (by rw [hI_sI, if_neg (by omega)]) (by rw [hI_sI, if_neg (by omega)]) (by rw [hI_sI, if_neg (by omega)])⟩, rfl⟩
  · skip
    refine xq_tableOut dX1_readFact_9 (swOut 14 20 hs9 (by omega)) rfl ?_
    refine xq_aload_n dX1_readFact_106 rfl rfl ?_
    refine xq_iload_n dX1_readFact_107 rfl rfl ?_
    refine xq_iload_n dX1_readFact_108 rfl rfl ?_
    refine xq_callV2H clX1 gd_X1_readEither dX1_readFact_109 ml_RX1_93 im_X1_readEither se_X1_readEither rfl (Fx.s8 hF) (by exact Nat.le_of_ble_eq_true rfl) (by decide) (c_readEither hF ht ht24 ht45 hs1 hk hn hf hi hkb hst) ?_
    intro x109 H109 p109
    refine xq_iret dX1_readFact_112 rfl ?_
    have e : facS s st n (ws, hs, o, T, b, w) = eitS k st n (ws, hs, o, T, b, w) := by
      unfold facS
      rw [hkk, if_neg (by omega), if_neg (by omega), if_neg (by omega)]
    rw [e]
    exact ⟨x109, H109, p109, rfl⟩
theorem c_readValue (hF : gFx S) (ht : gTx S t) (ht24 : 24 ≤ t) (ht45 : t ≤ 45) (hs1 : TrP H s n) (hk : TrOk s) (hn : n ≤ 790) (hf : FmP H t (ws, hs, o, T, b, w)) (hi : FI (ws, hs, o, T, b, w)) (hst : st ≤ 3) : Hv mX1_readValue 3 [.ref 8, vN st] S H vN (fun x H' => x = mrV (valS s st n (ws, hs, o, T, b, w)) ∧ mrQ H H' t s (valS s st n (ws, hs, o, T, b, w))) := by
  have hia := hi.a
  obtain ⟨i1, i2, i3, i4, i5⟩ := hia
  have hkb : kK s n ≤ 44 := kK_le hk
  refine vq_intro (by decide) (by exact Nat.le_of_ble_eq_true rfl) rfl ?_
  refine xq_aload_n dX1_readValue_0 rfl rfl ?_
  refine xq_getF clX1 (by decide) rfl fl_RX1_28 dX1_readValue_1 (Fx.s8 hF) (Fx.r8_0 hF) ?_
  refine xq_callV0P clX9 gd_X9_kind dX1_readValue_4 ml_RX1_49 im_X9_kind se_X9_kind rfl (Fx.s2 hF) (by exact Nat.le_of_ble_eq_true rfl) (by decide) (c_kind hF hs1 hk (by omega)) ?_
  refine xq_istore_n dX1_readValue_7 rfl rfl ?_
  refine xq_iload_n dX1_readValue_8 rfl rfl ?_
  refine xq_bipush dX1_readValue_9 bp38 ?_
  refine xq_icmp_eqN dX1_readValue_11 rfl (by omega) (by omega) ⟨fun h11 => ?_, fun h11 => ?_⟩
  · skip
    refine xq_iload_n dX1_readValue_33 rfl rfl ?_
    refine xq_bipush dX1_readValue_34 bp38 ?_
    refine xq_icmp_neN dX1_readValue_36 rfl (by omega) (by omega) ⟨fun h36 => ?_, fun h36 => ?_⟩
    · skip
      refine xq_aload_n dX1_readValue_52 rfl rfl ?_
      refine xq_callV0H clX1 gd_X1_mayBegin dX1_readValue_53 ml_RX1_78 im_X1_mayBegin se_X1_mayBegin rfl (Fx.s8 hF) (by exact Nat.le_of_ble_eq_true rfl) (by decide) (c_mayBegin (b := b) hF ht hs1 hk (by omega) hf.kn hf.bg (by omega)) ?_
      intro x53 H53 p53
      obtain ⟨e53, q53, r53⟩ := p53
      refine xq_if_neB dX1_readValue_56 rfl ⟨fun h56 => ?_, fun h56 => ?_⟩
      · skip
        have hb1 : b < 64 := of_decide_eq_true (e53.symm.trans (by simpa using h56))
        have ee := q53 hb1
        subst ee
        have hfb := hf.beg (v := b + 1) ht24
        have hsb : TrP (sI H (t + 7) 4 (nI (b + 1))) s n := hs1.pI (by omega) _ _
        have oB1 : Off (fun q => q = 2 ∨ (8 ≤ q ∧ q < 16) ∨ (t ≤ q ∧ q < t + 21)) H (sI H (t + 7) 4 (nI (b + 1))) := (Off.pI (A := (fun q => q = 2 ∨ (8 ≤ q ∧ q < 16) ∨ (t ≤ q ∧ q < t + 21))) Off.rf (by omega) _ _)
        refine xq_aload_n dX1_readValue_61 rfl rfl ?_
        refine xq_aload_n dX1_readValue_62 rfl rfl ?_
        refine xq_getR clX1 (by decide) rfl fl_RX1_24 dX1_readValue_63 (Fx.s8 hF) hfb.kn ?_
        refine xq_iload_n dX1_readValue_66 rfl rfl ?_
        refine xq_iload_n dX1_readValue_67 rfl rfl ?_
        refine xq_bipush dX1_readValue_68 bp38 ?_
        refine xq_icmp_neN dX1_readValue_70 rfl (by omega) (by omega) ⟨fun h70 => ?_, fun h70 => ?_⟩
        · skip
          refine xq_iconst dX1_readValue_83 ic0 ?_
          refine xq_iconst dX1_readValue_84 ic0 ?_
          refine xq_callV3H clX2 gd_X2_add dX1_readValue_85 ml_RX1_103 im_X2_add se_X2_add rfl (Kn.s0 (Tx.n7 ht)) (by exact Nat.le_of_ble_eq_true rfl) (by decide) (c_kadd (Tx.n7 ht) hfb.tx.kt (show tNk T < 64 by omega)) ?_
          intro x85 H85 p85
          obtain ⟨rfl, kt85, bg85, o85⟩ := p85
          have hf85 := hfb.add ht24 kt85 bg85 o85
          refine xq_callV1N clX1 gd_X1_push dX1_readValue_88 ml_RX1_106 im_X1_push se_X1_push rfl (Fx.s8 hF) (by exact Nat.le_of_ble_eq_true rfl) (by decide) (c_push hF hf85.hz (show hs.length < 64 by omega) hf85.nd) ?_
          intro H88 p88
          subst p88
          refine xq_aload_n dX1_readValue_91 rfl rfl ?_
          refine xq_getF clX1 (by decide) rfl fl_RX1_28 dX1_readValue_92 (Fx.s8 hF) (Fx.r8_0 hF) ?_
          refine xq_callV0N clX9 gd_X9_step dX1_readValue_95 ml_RX1_109 im_X9_step se_X9_step rfl (Fx.s2 hF) (by exact Nat.le_of_ble_eq_true rfl) (by decide) (c_step hF (hsb.off (psH_o (A := (fun q => (8 ≤ q ∧ q < 12) ∨ (t + 7 ≤ q ∧ q < t + 11))) (w := w) (sz := hs.length) (r := tNk T) (by omega) (by omega) (o85.mo (fun q h => by omega))) (fun q h => by omega)) hk (by omega)) ?_
          intro H95 p95
          subst p95
          refine xq_iconst dX1_readValue_98 ic2 ?_
          refine xq_iret dX1_readValue_99 rfl ?_
          have n1 : ¬ (kK s n ≠ 38 ∧ ¬ (21 ≤ kK s n ∧ kK s n ≤ 27)) := by omega
          have n2 : ¬ (kK s n = 38 ∧ numB s n 9999 = false) := by omega
          have e : valS s st n (ws, hs, o, T, b, w) = .inr (2, n + 1, kpsX (kK s n) 0 0 (begX (ws, hs, o, T, b, w))) := (if_neg n1).trans ((if_neg n2).trans ((if_neg (show ¬ 64 ≤ b by omega)).trans (by rw [if_neg (by omega)])))
          rw [e]
          have oZ : Off (fun q => (8 ≤ q ∧ q < 12) ∨ (t + 7 ≤ q ∧ q < t + 11)) _ (psH H85 w hs.length (tNk T)) := psH_o (w := w) (sz := hs.length) (r := tNk T) (by omega) (by omega) (o85.mo (fun q h => by omega))
          have hsZ := hsb.off oZ (fun q h => by omega)
          exact ⟨2, _, ⟨rfl, Off.pI (A := (fun q => q = 2 ∨ (8 ≤ q ∧ q < 16) ∨ (t ≤ q ∧ q < t + 21))) (Off.tr oB1 (oZ.mo (fun q h => by omega))) (by omega) _ _, hsZ.st (n + 1), by rw [hI_sI, if_neg (by omega)]; exact (oZ.I (by omega) 7).trans (by rw [hI_sI, if_neg (by omega)]), by rw [hI_sI, if_neg (by omega)]; exact (oZ.I (by omega) 8).trans (by rw [hI_sI, if_neg (by omega)]), (hf85.psh ht24).st2 ht24⟩, rfl⟩
        · skip
          refine xq_aload_n dX1_readValue_73 rfl rfl ?_
          refine xq_getF clX1 (by decide) rfl fl_RX1_28 dX1_readValue_74 (Fx.s8 hF) (Fx.r8_0 hF) ?_
          refine xq_callV0P clX9 gd_X9_value dX1_readValue_77 ml_RX1_100 im_X9_value se_X9_value rfl (Fx.s2 hF) (by exact Nat.le_of_ble_eq_true rfl) (by decide) (c_value hF hsb hk (by omega)) ?_
          refine xq_goto dX1_readValue_80 rfl ?_
          refine xq_iconst dX1_readValue_84 ic0 ?_
          refine xq_callV3H clX2 gd_X2_add dX1_readValue_85 ml_RX1_103 im_X2_add se_X2_add rfl (Kn.s0 (Tx.n7 ht)) (by exact Nat.le_of_ble_eq_true rfl) (by decide) (c_kadd (Tx.n7 ht) hfb.tx.kt (show tNk T < 64 by omega)) ?_
          intro x85 H85 p85
          obtain ⟨rfl, kt85, bg85, o85⟩ := p85
          have hf85 := hfb.add ht24 kt85 bg85 o85
          refine xq_callV1N clX1 gd_X1_push dX1_readValue_88 ml_RX1_106 im_X1_push se_X1_push rfl (Fx.s8 hF) (by exact Nat.le_of_ble_eq_true rfl) (by decide) (c_push hF hf85.hz (show hs.length < 64 by omega) hf85.nd) ?_
          intro H88 p88
          subst p88
          refine xq_aload_n dX1_readValue_91 rfl rfl ?_
          refine xq_getF clX1 (by decide) rfl fl_RX1_28 dX1_readValue_92 (Fx.s8 hF) (Fx.r8_0 hF) ?_
          refine xq_callV0N clX9 gd_X9_step dX1_readValue_95 ml_RX1_109 im_X9_step se_X9_step rfl (Fx.s2 hF) (by exact Nat.le_of_ble_eq_true rfl) (by decide) (c_step hF (hsb.off (psH_o (A := (fun q => (8 ≤ q ∧ q < 12) ∨ (t + 7 ≤ q ∧ q < t + 11))) (w := w) (sz := hs.length) (r := tNk T) (by omega) (by omega) (o85.mo (fun q h => by omega))) (fun q h => by omega)) hk (by omega)) ?_
          intro H95 p95
          subst p95
          refine xq_iconst dX1_readValue_98 ic2 ?_
          refine xq_iret dX1_readValue_99 rfl ?_
          have n1 : ¬ (kK s n ≠ 38 ∧ ¬ (21 ≤ kK s n ∧ kK s n ≤ 27)) := by omega
          have n2 : ¬ (kK s n = 38 ∧ numB s n 9999 = false) := by omega
          have e : valS s st n (ws, hs, o, T, b, w) = .inr (2, n + 1, kpsX (kK s n) (kV s n) 0 (begX (ws, hs, o, T, b, w))) := (if_neg n1).trans ((if_neg n2).trans ((if_neg (show ¬ 64 ≤ b by omega)).trans (by rw [if_pos (by omega)])))
          rw [e]
          have oZ : Off (fun q => (8 ≤ q ∧ q < 12) ∨ (t + 7 ≤ q ∧ q < t + 11)) _ (psH H85 w hs.length (tNk T)) := psH_o (w := w) (sz := hs.length) (r := tNk T) (by omega) (by omega) (o85.mo (fun q h => by omega))
          have hsZ := hsb.off oZ (fun q h => by omega)
          exact ⟨2, _, ⟨rfl, Off.pI (A := (fun q => q = 2 ∨ (8 ≤ q ∧ q < 16) ∨ (t ≤ q ∧ q < t + 21))) (Off.tr oB1 (oZ.mo (fun q h => by omega))) (by omega) _ _, hsZ.st (n + 1), by rw [hI_sI, if_neg (by omega)]; exact (oZ.I (by omega) 7).trans (by rw [hI_sI, if_neg (by omega)]), by rw [hI_sI, if_neg (by omega)]; exact (oZ.I (by omega) 8).trans (by rw [hI_sI, if_neg (by omega)]), (hf85.psh ht24).st2 ht24⟩, rfl⟩
      · skip
        refine xq_iconst dX1_readValue_59 ic3 ?_
        refine xq_iret dX1_readValue_60 rfl ?_
        have n1 : ¬ (kK s n ≠ 38 ∧ ¬ (21 ≤ kK s n ∧ kK s n ≤ 27)) := by omega
        have n2 : ¬ (kK s n = 38 ∧ numB s n 9999 = false) := by omega
        have hb0 : ¬ b < 64 := of_decide_eq_false (e53.symm.trans (by simpa using h56))
        have q := r53 hb0
        have e : valS s st n (ws, hs, o, T, b, w) = .inl (2, n) := (if_neg n1).trans ((if_neg n2).trans (if_pos (show 64 ≤ b by omega)))
        rw [e]
        exact ⟨3, H53, ⟨rfl, Off.tr Off.rf (q.2.2.2.mo (fun q h => Or.inl h)), q.1, q.2.1, (q.2.2.1 6 (by decide) (by decide)).trans rfl⟩, rfl⟩
    · skip
      refine xq_aload_n dX1_readValue_39 rfl rfl ?_
      refine xq_getF clX1 (by decide) rfl fl_RX1_28 dX1_readValue_40 (Fx.s8 hF) (Fx.r8_0 hF) ?_
      refine xq_sipush dX1_readValue_43 sp9999 ?_
      refine xq_callV1H clX9 gd_X9_isNumber dX1_readValue_46 ml_RX1_97 im_X9_isNumber se_X9_isNumber rfl (Fx.s2 hF) (by exact Nat.le_of_ble_eq_true rfl) (by decide) (c_isNumber hF hs1 hk (by omega) (m := 9999) (by decide)) ?_
      intro x46 H46 p46
      obtain ⟨e46, q46, r46⟩ := p46
      refine xq_if_eqB dX1_readValue_49 rfl ⟨fun h49 => ?_, fun h49 => ?_⟩
      · skip
        refine xq_iconst dX1_readValue_59 ic3 ?_
        refine xq_iret dX1_readValue_60 rfl ?_
        have n1 : ¬ (kK s n ≠ 38 ∧ ¬ (21 ≤ kK s n ∧ kK s n ≤ 27)) := by omega
        have hq : x46 = false := by simpa using h49
        have q := r46 hq
        have e : valS s st n (ws, hs, o, T, b, w) = .inl (numF s n, n) := (if_neg n1).trans (if_pos ⟨by omega, e46.symm.trans hq⟩)
        rw [e]
        exact ⟨3, H46, ⟨rfl, Off.tr Off.rf (q.2.2.2.mo (fun q h => Or.inl h)), q.1, q.2.1, (q.2.2.1 6 (by decide) (by decide)).trans rfl⟩, rfl⟩
      · skip
        have ee0 := (q46 h49).symm
        subst ee0
        refine xq_aload_n dX1_readValue_52 rfl rfl ?_
        refine xq_callV0H clX1 gd_X1_mayBegin dX1_readValue_53 ml_RX1_78 im_X1_mayBegin se_X1_mayBegin rfl (Fx.s8 hF) (by exact Nat.le_of_ble_eq_true rfl) (by decide) (c_mayBegin (b := b) hF ht hs1 hk (by omega) hf.kn hf.bg (by omega)) ?_
        intro x53 H53 p53
        obtain ⟨e53, q53, r53⟩ := p53
        refine xq_if_neB dX1_readValue_56 rfl ⟨fun h56 => ?_, fun h56 => ?_⟩
        · skip
          have hb1 : b < 64 := of_decide_eq_true (e53.symm.trans (by simpa using h56))
          have ee := q53 hb1
          subst ee
          have hfb := hf.beg (v := b + 1) ht24
          have hsb : TrP (sI H (t + 7) 4 (nI (b + 1))) s n := hs1.pI (by omega) _ _
          have oB1 : Off (fun q => q = 2 ∨ (8 ≤ q ∧ q < 16) ∨ (t ≤ q ∧ q < t + 21)) H (sI H (t + 7) 4 (nI (b + 1))) := (Off.pI (A := (fun q => q = 2 ∨ (8 ≤ q ∧ q < 16) ∨ (t ≤ q ∧ q < t + 21))) Off.rf (by omega) _ _)
          refine xq_aload_n dX1_readValue_61 rfl rfl ?_
          refine xq_aload_n dX1_readValue_62 rfl rfl ?_
          refine xq_getR clX1 (by decide) rfl fl_RX1_24 dX1_readValue_63 (Fx.s8 hF) hfb.kn ?_
          refine xq_iload_n dX1_readValue_66 rfl rfl ?_
          refine xq_iload_n dX1_readValue_67 rfl rfl ?_
          refine xq_bipush dX1_readValue_68 bp38 ?_
          refine xq_icmp_neN dX1_readValue_70 rfl (by omega) (by omega) ⟨fun h70 => ?_, fun h70 => ?_⟩
          · skip
            refine xq_iconst dX1_readValue_83 ic0 ?_
            refine xq_iconst dX1_readValue_84 ic0 ?_
            refine xq_callV3H clX2 gd_X2_add dX1_readValue_85 ml_RX1_103 im_X2_add se_X2_add rfl (Kn.s0 (Tx.n7 ht)) (by exact Nat.le_of_ble_eq_true rfl) (by decide) (c_kadd (Tx.n7 ht) hfb.tx.kt (show tNk T < 64 by omega)) ?_
            intro x85 H85 p85
            obtain ⟨rfl, kt85, bg85, o85⟩ := p85
            have hf85 := hfb.add ht24 kt85 bg85 o85
            refine xq_callV1N clX1 gd_X1_push dX1_readValue_88 ml_RX1_106 im_X1_push se_X1_push rfl (Fx.s8 hF) (by exact Nat.le_of_ble_eq_true rfl) (by decide) (c_push hF hf85.hz (show hs.length < 64 by omega) hf85.nd) ?_
            intro H88 p88
            subst p88
            refine xq_aload_n dX1_readValue_91 rfl rfl ?_
            refine xq_getF clX1 (by decide) rfl fl_RX1_28 dX1_readValue_92 (Fx.s8 hF) (Fx.r8_0 hF) ?_
            refine xq_callV0N clX9 gd_X9_step dX1_readValue_95 ml_RX1_109 im_X9_step se_X9_step rfl (Fx.s2 hF) (by exact Nat.le_of_ble_eq_true rfl) (by decide) (c_step hF (hsb.off (psH_o (A := (fun q => (8 ≤ q ∧ q < 12) ∨ (t + 7 ≤ q ∧ q < t + 11))) (w := w) (sz := hs.length) (r := tNk T) (by omega) (by omega) (o85.mo (fun q h => by omega))) (fun q h => by omega)) hk (by omega)) ?_
            intro H95 p95
            subst p95
            refine xq_iconst dX1_readValue_98 ic2 ?_
            refine xq_iret dX1_readValue_99 rfl ?_
            have n1 : ¬ (kK s n ≠ 38 ∧ ¬ (21 ≤ kK s n ∧ kK s n ≤ 27)) := by omega
            have n2 : ¬ (kK s n = 38 ∧ numB s n 9999 = false) := fun z => by rw [← e46, h49] at z; exact absurd z.2 (by decide)
            have e : valS s st n (ws, hs, o, T, b, w) = .inr (2, n + 1, kpsX (kK s n) 0 0 (begX (ws, hs, o, T, b, w))) := (if_neg n1).trans ((if_neg n2).trans ((if_neg (show ¬ 64 ≤ b by omega)).trans (by rw [if_neg (by omega)])))
            rw [e]
            have oZ : Off (fun q => (8 ≤ q ∧ q < 12) ∨ (t + 7 ≤ q ∧ q < t + 11)) _ (psH H85 w hs.length (tNk T)) := psH_o (w := w) (sz := hs.length) (r := tNk T) (by omega) (by omega) (o85.mo (fun q h => by omega))
            have hsZ := hsb.off oZ (fun q h => by omega)
            exact ⟨2, _, ⟨rfl, Off.pI (A := (fun q => q = 2 ∨ (8 ≤ q ∧ q < 16) ∨ (t ≤ q ∧ q < t + 21))) (Off.tr oB1 (oZ.mo (fun q h => by omega))) (by omega) _ _, hsZ.st (n + 1), by rw [hI_sI, if_neg (by omega)]; exact (oZ.I (by omega) 7).trans (by rw [hI_sI, if_neg (by omega)]), by rw [hI_sI, if_neg (by omega)]; exact (oZ.I (by omega) 8).trans (by rw [hI_sI, if_neg (by omega)]), (hf85.psh ht24).st2 ht24⟩, rfl⟩
          · skip
            refine xq_aload_n dX1_readValue_73 rfl rfl ?_
            refine xq_getF clX1 (by decide) rfl fl_RX1_28 dX1_readValue_74 (Fx.s8 hF) (Fx.r8_0 hF) ?_
            refine xq_callV0P clX9 gd_X9_value dX1_readValue_77 ml_RX1_100 im_X9_value se_X9_value rfl (Fx.s2 hF) (by exact Nat.le_of_ble_eq_true rfl) (by decide) (c_value hF hsb hk (by omega)) ?_
            refine xq_goto dX1_readValue_80 rfl ?_
            refine xq_iconst dX1_readValue_84 ic0 ?_
            refine xq_callV3H clX2 gd_X2_add dX1_readValue_85 ml_RX1_103 im_X2_add se_X2_add rfl (Kn.s0 (Tx.n7 ht)) (by exact Nat.le_of_ble_eq_true rfl) (by decide) (c_kadd (Tx.n7 ht) hfb.tx.kt (show tNk T < 64 by omega)) ?_
            intro x85 H85 p85
            obtain ⟨rfl, kt85, bg85, o85⟩ := p85
            have hf85 := hfb.add ht24 kt85 bg85 o85
            refine xq_callV1N clX1 gd_X1_push dX1_readValue_88 ml_RX1_106 im_X1_push se_X1_push rfl (Fx.s8 hF) (by exact Nat.le_of_ble_eq_true rfl) (by decide) (c_push hF hf85.hz (show hs.length < 64 by omega) hf85.nd) ?_
            intro H88 p88
            subst p88
            refine xq_aload_n dX1_readValue_91 rfl rfl ?_
            refine xq_getF clX1 (by decide) rfl fl_RX1_28 dX1_readValue_92 (Fx.s8 hF) (Fx.r8_0 hF) ?_
            refine xq_callV0N clX9 gd_X9_step dX1_readValue_95 ml_RX1_109 im_X9_step se_X9_step rfl (Fx.s2 hF) (by exact Nat.le_of_ble_eq_true rfl) (by decide) (c_step hF (hsb.off (psH_o (A := (fun q => (8 ≤ q ∧ q < 12) ∨ (t + 7 ≤ q ∧ q < t + 11))) (w := w) (sz := hs.length) (r := tNk T) (by omega) (by omega) (o85.mo (fun q h => by omega))) (fun q h => by omega)) hk (by omega)) ?_
            intro H95 p95
            subst p95
            refine xq_iconst dX1_readValue_98 ic2 ?_
            refine xq_iret dX1_readValue_99 rfl ?_
            have n1 : ¬ (kK s n ≠ 38 ∧ ¬ (21 ≤ kK s n ∧ kK s n ≤ 27)) := by omega
            have n2 : ¬ (kK s n = 38 ∧ numB s n 9999 = false) := fun z => by rw [← e46, h49] at z; exact absurd z.2 (by decide)
            have e : valS s st n (ws, hs, o, T, b, w) = .inr (2, n + 1, kpsX (kK s n) (kV s n) 0 (begX (ws, hs, o, T, b, w))) := (if_neg n1).trans ((if_neg n2).trans ((if_neg (show ¬ 64 ≤ b by omega)).trans (by rw [if_pos (by omega)])))
            rw [e]
            have oZ : Off (fun q => (8 ≤ q ∧ q < 12) ∨ (t + 7 ≤ q ∧ q < t + 11)) _ (psH H85 w hs.length (tNk T)) := psH_o (w := w) (sz := hs.length) (r := tNk T) (by omega) (by omega) (o85.mo (fun q h => by omega))
            have hsZ := hsb.off oZ (fun q h => by omega)
            exact ⟨2, _, ⟨rfl, Off.pI (A := (fun q => q = 2 ∨ (8 ≤ q ∧ q < 16) ∨ (t ≤ q ∧ q < t + 21))) (Off.tr oB1 (oZ.mo (fun q h => by omega))) (by omega) _ _, hsZ.st (n + 1), by rw [hI_sI, if_neg (by omega)]; exact (oZ.I (by omega) 7).trans (by rw [hI_sI, if_neg (by omega)]), by rw [hI_sI, if_neg (by omega)]; exact (oZ.I (by omega) 8).trans (by rw [hI_sI, if_neg (by omega)]), (hf85.psh ht24).st2 ht24⟩, rfl⟩
        · skip
          refine xq_iconst dX1_readValue_59 ic3 ?_
          refine xq_iret dX1_readValue_60 rfl ?_
          have n1 : ¬ (kK s n ≠ 38 ∧ ¬ (21 ≤ kK s n ∧ kK s n ≤ 27)) := by omega
          have n2 : ¬ (kK s n = 38 ∧ numB s n 9999 = false) := fun z => by rw [← e46, h49] at z; exact absurd z.2 (by decide)
          have hb0 : ¬ b < 64 := of_decide_eq_false (e53.symm.trans (by simpa using h56))
          have q := r53 hb0
          have e : valS s st n (ws, hs, o, T, b, w) = .inl (2, n) := (if_neg n1).trans ((if_neg n2).trans (if_pos (show 64 ≤ b by omega)))
          rw [e]
          exact ⟨3, H53, ⟨rfl, Off.tr Off.rf (q.2.2.2.mo (fun q h => Or.inl h)), q.1, q.2.1, (q.2.2.1 6 (by decide) (by decide)).trans rfl⟩, rfl⟩
  · skip
    refine xq_iload_n dX1_readValue_14 rfl rfl ?_
    refine xq_bipush dX1_readValue_15 bp21 ?_
    refine xq_icmp_ltN dX1_readValue_17 rfl (by omega) (by omega) ⟨fun h17 => ?_, fun h17 => ?_⟩
    · skip
      refine xq_aload_n dX1_readValue_26 rfl rfl ?_
      refine xq_iload_n dX1_readValue_27 rfl rfl ?_
      refine xq_iload_n dX1_readValue_28 rfl rfl ?_
      refine xq_callV2H clX1 gd_X1_readEither dX1_readValue_29 ml_RX1_93 im_X1_readEither se_X1_readEither rfl (Fx.s8 hF) (by exact Nat.le_of_ble_eq_true rfl) (by decide) (c_readEither hF ht ht24 ht45 hs1 hk hn hf hi hkb hst) ?_
      intro x29 H29 p29
      refine xq_iret dX1_readValue_32 rfl ?_
      have e : valS s st n (ws, hs, o, T, b, w) = eitS (kK s n) st n (ws, hs, o, T, b, w) := if_pos (by omega)
      rw [e]
      exact ⟨x29, H29, p29, rfl⟩
    · skip
      refine xq_iload_n dX1_readValue_20 rfl rfl ?_
      refine xq_bipush dX1_readValue_21 bp27 ?_
      refine xq_icmp_leN dX1_readValue_23 rfl (by omega) (by omega) ⟨fun h23 => ?_, fun h23 => ?_⟩
      · skip
        refine xq_iload_n dX1_readValue_33 rfl rfl ?_
        refine xq_bipush dX1_readValue_34 bp38 ?_
        refine xq_icmp_neN dX1_readValue_36 rfl (by omega) (by omega) ⟨fun h36 => ?_, fun h36 => ?_⟩
        · skip
          refine xq_aload_n dX1_readValue_52 rfl rfl ?_
          refine xq_callV0H clX1 gd_X1_mayBegin dX1_readValue_53 ml_RX1_78 im_X1_mayBegin se_X1_mayBegin rfl (Fx.s8 hF) (by exact Nat.le_of_ble_eq_true rfl) (by decide) (c_mayBegin (b := b) hF ht hs1 hk (by omega) hf.kn hf.bg (by omega)) ?_
          intro x53 H53 p53
          obtain ⟨e53, q53, r53⟩ := p53
          refine xq_if_neB dX1_readValue_56 rfl ⟨fun h56 => ?_, fun h56 => ?_⟩
          · skip
            have hb1 : b < 64 := of_decide_eq_true (e53.symm.trans (by simpa using h56))
            have ee := q53 hb1
            subst ee
            have hfb := hf.beg (v := b + 1) ht24
            have hsb : TrP (sI H (t + 7) 4 (nI (b + 1))) s n := hs1.pI (by omega) _ _
            have oB1 : Off (fun q => q = 2 ∨ (8 ≤ q ∧ q < 16) ∨ (t ≤ q ∧ q < t + 21)) H (sI H (t + 7) 4 (nI (b + 1))) := (Off.pI (A := (fun q => q = 2 ∨ (8 ≤ q ∧ q < 16) ∨ (t ≤ q ∧ q < t + 21))) Off.rf (by omega) _ _)
            refine xq_aload_n dX1_readValue_61 rfl rfl ?_
            refine xq_aload_n dX1_readValue_62 rfl rfl ?_
            refine xq_getR clX1 (by decide) rfl fl_RX1_24 dX1_readValue_63 (Fx.s8 hF) hfb.kn ?_
            refine xq_iload_n dX1_readValue_66 rfl rfl ?_
            refine xq_iload_n dX1_readValue_67 rfl rfl ?_
            refine xq_bipush dX1_readValue_68 bp38 ?_
            refine xq_icmp_neN dX1_readValue_70 rfl (by omega) (by omega) ⟨fun h70 => ?_, fun h70 => ?_⟩
            · skip
              refine xq_iconst dX1_readValue_83 ic0 ?_
              refine xq_iconst dX1_readValue_84 ic0 ?_
              refine xq_callV3H clX2 gd_X2_add dX1_readValue_85 ml_RX1_103 im_X2_add se_X2_add rfl (Kn.s0 (Tx.n7 ht)) (by exact Nat.le_of_ble_eq_true rfl) (by decide) (c_kadd (Tx.n7 ht) hfb.tx.kt (show tNk T < 64 by omega)) ?_
              intro x85 H85 p85
              obtain ⟨rfl, kt85, bg85, o85⟩ := p85
              have hf85 := hfb.add ht24 kt85 bg85 o85
              refine xq_callV1N clX1 gd_X1_push dX1_readValue_88 ml_RX1_106 im_X1_push se_X1_push rfl (Fx.s8 hF) (by exact Nat.le_of_ble_eq_true rfl) (by decide) (c_push hF hf85.hz (show hs.length < 64 by omega) hf85.nd) ?_
              intro H88 p88
              subst p88
              refine xq_aload_n dX1_readValue_91 rfl rfl ?_
              refine xq_getF clX1 (by decide) rfl fl_RX1_28 dX1_readValue_92 (Fx.s8 hF) (Fx.r8_0 hF) ?_
              refine xq_callV0N clX9 gd_X9_step dX1_readValue_95 ml_RX1_109 im_X9_step se_X9_step rfl (Fx.s2 hF) (by exact Nat.le_of_ble_eq_true rfl) (by decide) (c_step hF (hsb.off (psH_o (A := (fun q => (8 ≤ q ∧ q < 12) ∨ (t + 7 ≤ q ∧ q < t + 11))) (w := w) (sz := hs.length) (r := tNk T) (by omega) (by omega) (o85.mo (fun q h => by omega))) (fun q h => by omega)) hk (by omega)) ?_
              intro H95 p95
              subst p95
              refine xq_iconst dX1_readValue_98 ic2 ?_
              refine xq_iret dX1_readValue_99 rfl ?_
              have n1 : ¬ (kK s n ≠ 38 ∧ ¬ (21 ≤ kK s n ∧ kK s n ≤ 27)) := by omega
              have n2 : ¬ (kK s n = 38 ∧ numB s n 9999 = false) := by omega
              have e : valS s st n (ws, hs, o, T, b, w) = .inr (2, n + 1, kpsX (kK s n) 0 0 (begX (ws, hs, o, T, b, w))) := (if_neg n1).trans ((if_neg n2).trans ((if_neg (show ¬ 64 ≤ b by omega)).trans (by rw [if_neg (by omega)])))
              rw [e]
              have oZ : Off (fun q => (8 ≤ q ∧ q < 12) ∨ (t + 7 ≤ q ∧ q < t + 11)) _ (psH H85 w hs.length (tNk T)) := psH_o (w := w) (sz := hs.length) (r := tNk T) (by omega) (by omega) (o85.mo (fun q h => by omega))
              have hsZ := hsb.off oZ (fun q h => by omega)
              exact ⟨2, _, ⟨rfl, Off.pI (A := (fun q => q = 2 ∨ (8 ≤ q ∧ q < 16) ∨ (t ≤ q ∧ q < t + 21))) (Off.tr oB1 (oZ.mo (fun q h => by omega))) (by omega) _ _, hsZ.st (n + 1), by rw [hI_sI, if_neg (by omega)]; exact (oZ.I (by omega) 7).trans (by rw [hI_sI, if_neg (by omega)]), by rw [hI_sI, if_neg (by omega)]; exact (oZ.I (by omega) 8).trans (by rw [hI_sI, if_neg (by omega)]), (hf85.psh ht24).st2 ht24⟩, rfl⟩
            · skip
              refine xq_aload_n dX1_readValue_73 rfl rfl ?_
              refine xq_getF clX1 (by decide) rfl fl_RX1_28 dX1_readValue_74 (Fx.s8 hF) (Fx.r8_0 hF) ?_
              refine xq_callV0P clX9 gd_X9_value dX1_readValue_77 ml_RX1_100 im_X9_value se_X9_value rfl (Fx.s2 hF) (by exact Nat.le_of_ble_eq_true rfl) (by decide) (c_value hF hsb hk (by omega)) ?_
              refine xq_goto dX1_readValue_80 rfl ?_
              refine xq_iconst dX1_readValue_84 ic0 ?_
              refine xq_callV3H clX2 gd_X2_add dX1_readValue_85 ml_RX1_103 im_X2_add se_X2_add rfl (Kn.s0 (Tx.n7 ht)) (by exact Nat.le_of_ble_eq_true rfl) (by decide) (c_kadd (Tx.n7 ht) hfb.tx.kt (show tNk T < 64 by omega)) ?_
              intro x85 H85 p85
              obtain ⟨rfl, kt85, bg85, o85⟩ := p85
              have hf85 := hfb.add ht24 kt85 bg85 o85
              refine xq_callV1N clX1 gd_X1_push dX1_readValue_88 ml_RX1_106 im_X1_push se_X1_push rfl (Fx.s8 hF) (by exact Nat.le_of_ble_eq_true rfl) (by decide) (c_push hF hf85.hz (show hs.length < 64 by omega) hf85.nd) ?_
              intro H88 p88
              subst p88
              refine xq_aload_n dX1_readValue_91 rfl rfl ?_
              refine xq_getF clX1 (by decide) rfl fl_RX1_28 dX1_readValue_92 (Fx.s8 hF) (Fx.r8_0 hF) ?_
              refine xq_callV0N clX9 gd_X9_step dX1_readValue_95 ml_RX1_109 im_X9_step se_X9_step rfl (Fx.s2 hF) (by exact Nat.le_of_ble_eq_true rfl) (by decide) (c_step hF (hsb.off (psH_o (A := (fun q => (8 ≤ q ∧ q < 12) ∨ (t + 7 ≤ q ∧ q < t + 11))) (w := w) (sz := hs.length) (r := tNk T) (by omega) (by omega) (o85.mo (fun q h => by omega))) (fun q h => by omega)) hk (by omega)) ?_
              intro H95 p95
              subst p95
              refine xq_iconst dX1_readValue_98 ic2 ?_
              refine xq_iret dX1_readValue_99 rfl ?_
              have n1 : ¬ (kK s n ≠ 38 ∧ ¬ (21 ≤ kK s n ∧ kK s n ≤ 27)) := by omega
              have n2 : ¬ (kK s n = 38 ∧ numB s n 9999 = false) := by omega
              have e : valS s st n (ws, hs, o, T, b, w) = .inr (2, n + 1, kpsX (kK s n) (kV s n) 0 (begX (ws, hs, o, T, b, w))) := (if_neg n1).trans ((if_neg n2).trans ((if_neg (show ¬ 64 ≤ b by omega)).trans (by rw [if_pos (by omega)])))
              rw [e]
              have oZ : Off (fun q => (8 ≤ q ∧ q < 12) ∨ (t + 7 ≤ q ∧ q < t + 11)) _ (psH H85 w hs.length (tNk T)) := psH_o (w := w) (sz := hs.length) (r := tNk T) (by omega) (by omega) (o85.mo (fun q h => by omega))
              have hsZ := hsb.off oZ (fun q h => by omega)
              exact ⟨2, _, ⟨rfl, Off.pI (A := (fun q => q = 2 ∨ (8 ≤ q ∧ q < 16) ∨ (t ≤ q ∧ q < t + 21))) (Off.tr oB1 (oZ.mo (fun q h => by omega))) (by omega) _ _, hsZ.st (n + 1), by rw [hI_sI, if_neg (by omega)]; exact (oZ.I (by omega) 7).trans (by rw [hI_sI, if_neg (by omega)]), by rw [hI_sI, if_neg (by omega)]; exact (oZ.I (by omega) 8).trans (by rw [hI_sI, if_neg (by omega)]), (hf85.psh ht24).st2 ht24⟩, rfl⟩
          · skip
            refine xq_iconst dX1_readValue_59 ic3 ?_
            refine xq_iret dX1_readValue_60 rfl ?_
            have n1 : ¬ (kK s n ≠ 38 ∧ ¬ (21 ≤ kK s n ∧ kK s n ≤ 27)) := by omega
            have n2 : ¬ (kK s n = 38 ∧ numB s n 9999 = false) := by omega
            have hb0 : ¬ b < 64 := of_decide_eq_false (e53.symm.trans (by simpa using h56))
            have q := r53 hb0
            have e : valS s st n (ws, hs, o, T, b, w) = .inl (2, n) := (if_neg n1).trans ((if_neg n2).trans (if_pos (show 64 ≤ b by omega)))
            rw [e]
            exact ⟨3, H53, ⟨rfl, Off.tr Off.rf (q.2.2.2.mo (fun q h => Or.inl h)), q.1, q.2.1, (q.2.2.1 6 (by decide) (by decide)).trans rfl⟩, rfl⟩
        · skip
          refine xq_aload_n dX1_readValue_39 rfl rfl ?_
          refine xq_getF clX1 (by decide) rfl fl_RX1_28 dX1_readValue_40 (Fx.s8 hF) (Fx.r8_0 hF) ?_
          refine xq_sipush dX1_readValue_43 sp9999 ?_
          refine xq_callV1H clX9 gd_X9_isNumber dX1_readValue_46 ml_RX1_97 im_X9_isNumber se_X9_isNumber rfl (Fx.s2 hF) (by exact Nat.le_of_ble_eq_true rfl) (by decide) (c_isNumber hF hs1 hk (by omega) (m := 9999) (by decide)) ?_
          intro x46 H46 p46
          obtain ⟨e46, q46, r46⟩ := p46
          refine xq_if_eqB dX1_readValue_49 rfl ⟨fun h49 => ?_, fun h49 => ?_⟩
          · skip
            refine xq_iconst dX1_readValue_59 ic3 ?_
            refine xq_iret dX1_readValue_60 rfl ?_
            have n1 : ¬ (kK s n ≠ 38 ∧ ¬ (21 ≤ kK s n ∧ kK s n ≤ 27)) := by omega
            have hq : x46 = false := by simpa using h49
            have q := r46 hq
            have e : valS s st n (ws, hs, o, T, b, w) = .inl (numF s n, n) := (if_neg n1).trans (if_pos ⟨by omega, e46.symm.trans hq⟩)
            rw [e]
            exact ⟨3, H46, ⟨rfl, Off.tr Off.rf (q.2.2.2.mo (fun q h => Or.inl h)), q.1, q.2.1, (q.2.2.1 6 (by decide) (by decide)).trans rfl⟩, rfl⟩
          · skip
            have ee0 := (q46 h49).symm
            subst ee0
            refine xq_aload_n dX1_readValue_52 rfl rfl ?_
            refine xq_callV0H clX1 gd_X1_mayBegin dX1_readValue_53 ml_RX1_78 im_X1_mayBegin se_X1_mayBegin rfl (Fx.s8 hF) (by exact Nat.le_of_ble_eq_true rfl) (by decide) (c_mayBegin (b := b) hF ht hs1 hk (by omega) hf.kn hf.bg (by omega)) ?_
            intro x53 H53 p53
            obtain ⟨e53, q53, r53⟩ := p53
            refine xq_if_neB dX1_readValue_56 rfl ⟨fun h56 => ?_, fun h56 => ?_⟩
            · skip
              have hb1 : b < 64 := of_decide_eq_true (e53.symm.trans (by simpa using h56))
              have ee := q53 hb1
              subst ee
              have hfb := hf.beg (v := b + 1) ht24
              have hsb : TrP (sI H (t + 7) 4 (nI (b + 1))) s n := hs1.pI (by omega) _ _
              have oB1 : Off (fun q => q = 2 ∨ (8 ≤ q ∧ q < 16) ∨ (t ≤ q ∧ q < t + 21)) H (sI H (t + 7) 4 (nI (b + 1))) := (Off.pI (A := (fun q => q = 2 ∨ (8 ≤ q ∧ q < 16) ∨ (t ≤ q ∧ q < t + 21))) Off.rf (by omega) _ _)
              refine xq_aload_n dX1_readValue_61 rfl rfl ?_
              refine xq_aload_n dX1_readValue_62 rfl rfl ?_
              refine xq_getR clX1 (by decide) rfl fl_RX1_24 dX1_readValue_63 (Fx.s8 hF) hfb.kn ?_
              refine xq_iload_n dX1_readValue_66 rfl rfl ?_
              refine xq_iload_n dX1_readValue_67 rfl rfl ?_
              refine xq_bipush dX1_readValue_68 bp38 ?_
              refine xq_icmp_neN dX1_readValue_70 rfl (by omega) (by omega) ⟨fun h70 => ?_, fun h70 => ?_⟩
              · skip
                refine xq_iconst dX1_readValue_83 ic0 ?_
                refine xq_iconst dX1_readValue_84 ic0 ?_
                refine xq_callV3H clX2 gd_X2_add dX1_readValue_85 ml_RX1_103 im_X2_add se_X2_add rfl (Kn.s0 (Tx.n7 ht)) (by exact Nat.le_of_ble_eq_true rfl) (by decide) (c_kadd (Tx.n7 ht) hfb.tx.kt (show tNk T < 64 by omega)) ?_
                intro x85 H85 p85
                obtain ⟨rfl, kt85, bg85, o85⟩ := p85
                have hf85 := hfb.add ht24 kt85 bg85 o85
                refine xq_callV1N clX1 gd_X1_push dX1_readValue_88 ml_RX1_106 im_X1_push se_X1_push rfl (Fx.s8 hF) (by exact Nat.le_of_ble_eq_true rfl) (by decide) (c_push hF hf85.hz (show hs.length < 64 by omega) hf85.nd) ?_
                intro H88 p88
                subst p88
                refine xq_aload_n dX1_readValue_91 rfl rfl ?_
                refine xq_getF clX1 (by decide) rfl fl_RX1_28 dX1_readValue_92 (Fx.s8 hF) (Fx.r8_0 hF) ?_
                refine xq_callV0N clX9 gd_X9_step dX1_readValue_95 ml_RX1_109 im_X9_step se_X9_step rfl (Fx.s2 hF) (by exact Nat.le_of_ble_eq_true rfl) (by decide) (c_step hF (hsb.off (psH_o (A := (fun q => (8 ≤ q ∧ q < 12) ∨ (t + 7 ≤ q ∧ q < t + 11))) (w := w) (sz := hs.length) (r := tNk T) (by omega) (by omega) (o85.mo (fun q h => by omega))) (fun q h => by omega)) hk (by omega)) ?_
                intro H95 p95
                subst p95
                refine xq_iconst dX1_readValue_98 ic2 ?_
                refine xq_iret dX1_readValue_99 rfl ?_
                have n1 : ¬ (kK s n ≠ 38 ∧ ¬ (21 ≤ kK s n ∧ kK s n ≤ 27)) := by omega
                have n2 : ¬ (kK s n = 38 ∧ numB s n 9999 = false) := fun z => by rw [← e46, h49] at z; exact absurd z.2 (by decide)
                have e : valS s st n (ws, hs, o, T, b, w) = .inr (2, n + 1, kpsX (kK s n) 0 0 (begX (ws, hs, o, T, b, w))) := (if_neg n1).trans ((if_neg n2).trans ((if_neg (show ¬ 64 ≤ b by omega)).trans (by rw [if_neg (by omega)])))
                rw [e]
                have oZ : Off (fun q => (8 ≤ q ∧ q < 12) ∨ (t + 7 ≤ q ∧ q < t + 11)) _ (psH H85 w hs.length (tNk T)) := psH_o (w := w) (sz := hs.length) (r := tNk T) (by omega) (by omega) (o85.mo (fun q h => by omega))
                have hsZ := hsb.off oZ (fun q h => by omega)
                exact ⟨2, _, ⟨rfl, Off.pI (A := (fun q => q = 2 ∨ (8 ≤ q ∧ q < 16) ∨ (t ≤ q ∧ q < t + 21))) (Off.tr oB1 (oZ.mo (fun q h => by omega))) (by omega) _ _, hsZ.st (n + 1), by rw [hI_sI, if_neg (by omega)]; exact (oZ.I (by omega) 7).trans (by rw [hI_sI, if_neg (by omega)]), by rw [hI_sI, if_neg (by omega)]; exact (oZ.I (by omega) 8).trans (by rw [hI_sI, if_neg (by omega)]), (hf85.psh ht24).st2 ht24⟩, rfl⟩
              · skip
                refine xq_aload_n dX1_readValue_73 rfl rfl ?_
                refine xq_getF clX1 (by decide) rfl fl_RX1_28 dX1_readValue_74 (Fx.s8 hF) (Fx.r8_0 hF) ?_
                refine xq_callV0P clX9 gd_X9_value dX1_readValue_77 ml_RX1_100 im_X9_value se_X9_value rfl (Fx.s2 hF) (by exact Nat.le_of_ble_eq_true rfl) (by decide) (c_value hF hsb hk (by omega)) ?_
                refine xq_goto dX1_readValue_80 rfl ?_
                refine xq_iconst dX1_readValue_84 ic0 ?_
                refine xq_callV3H clX2 gd_X2_add dX1_readValue_85 ml_RX1_103 im_X2_add se_X2_add rfl (Kn.s0 (Tx.n7 ht)) (by exact Nat.le_of_ble_eq_true rfl) (by decide) (c_kadd (Tx.n7 ht) hfb.tx.kt (show tNk T < 64 by omega)) ?_
                intro x85 H85 p85
                obtain ⟨rfl, kt85, bg85, o85⟩ := p85
                have hf85 := hfb.add ht24 kt85 bg85 o85
                refine xq_callV1N clX1 gd_X1_push dX1_readValue_88 ml_RX1_106 im_X1_push se_X1_push rfl (Fx.s8 hF) (by exact Nat.le_of_ble_eq_true rfl) (by decide) (c_push hF hf85.hz (show hs.length < 64 by omega) hf85.nd) ?_
                intro H88 p88
                subst p88
                refine xq_aload_n dX1_readValue_91 rfl rfl ?_
                refine xq_getF clX1 (by decide) rfl fl_RX1_28 dX1_readValue_92 (Fx.s8 hF) (Fx.r8_0 hF) ?_
                refine xq_callV0N clX9 gd_X9_step dX1_readValue_95 ml_RX1_109 im_X9_step se_X9_step rfl (Fx.s2 hF) (by exact Nat.le_of_ble_eq_true rfl) (by decide) (c_step hF (hsb.off (psH_o (A := (fun q => (8 ≤ q ∧ q < 12) ∨ (t + 7 ≤ q ∧ q < t + 11))) (w := w) (sz := hs.length) (r := tNk T) (by omega) (by omega) (o85.mo (fun q h => by omega))) (fun q h => by omega)) hk (by omega)) ?_
                intro H95 p95
                subst p95
                refine xq_iconst dX1_readValue_98 ic2 ?_
                refine xq_iret dX1_readValue_99 rfl ?_
                have n1 : ¬ (kK s n ≠ 38 ∧ ¬ (21 ≤ kK s n ∧ kK s n ≤ 27)) := by omega
                have n2 : ¬ (kK s n = 38 ∧ numB s n 9999 = false) := fun z => by rw [← e46, h49] at z; exact absurd z.2 (by decide)
                have e : valS s st n (ws, hs, o, T, b, w) = .inr (2, n + 1, kpsX (kK s n) (kV s n) 0 (begX (ws, hs, o, T, b, w))) := (if_neg n1).trans ((if_neg n2).trans ((if_neg (show ¬ 64 ≤ b by omega)).trans (by rw [if_pos (by omega)])))
                rw [e]
                have oZ : Off (fun q => (8 ≤ q ∧ q < 12) ∨ (t + 7 ≤ q ∧ q < t + 11)) _ (psH H85 w hs.length (tNk T)) := psH_o (w := w) (sz := hs.length) (r := tNk T) (by omega) (by omega) (o85.mo (fun q h => by omega))
                have hsZ := hsb.off oZ (fun q h => by omega)
                exact ⟨2, _, ⟨rfl, Off.pI (A := (fun q => q = 2 ∨ (8 ≤ q ∧ q < 16) ∨ (t ≤ q ∧ q < t + 21))) (Off.tr oB1 (oZ.mo (fun q h => by omega))) (by omega) _ _, hsZ.st (n + 1), by rw [hI_sI, if_neg (by omega)]; exact (oZ.I (by omega) 7).trans (by rw [hI_sI, if_neg (by omega)]), by rw [hI_sI, if_neg (by omega)]; exact (oZ.I (by omega) 8).trans (by rw [hI_sI, if_neg (by omega)]), (hf85.psh ht24).st2 ht24⟩, rfl⟩
            · skip
              refine xq_iconst dX1_readValue_59 ic3 ?_
              refine xq_iret dX1_readValue_60 rfl ?_
              have n1 : ¬ (kK s n ≠ 38 ∧ ¬ (21 ≤ kK s n ∧ kK s n ≤ 27)) := by omega
              have n2 : ¬ (kK s n = 38 ∧ numB s n 9999 = false) := fun z => by rw [← e46, h49] at z; exact absurd z.2 (by decide)
              have hb0 : ¬ b < 64 := of_decide_eq_false (e53.symm.trans (by simpa using h56))
              have q := r53 hb0
              have e : valS s st n (ws, hs, o, T, b, w) = .inl (2, n) := (if_neg n1).trans ((if_neg n2).trans (if_pos (show 64 ≤ b by omega)))
              rw [e]
              exact ⟨3, H53, ⟨rfl, Off.tr Off.rf (q.2.2.2.mo (fun q h => Or.inl h)), q.1, q.2.1, (q.2.2.1 6 (by decide) (by decide)).trans rfl⟩, rfl⟩
      · skip
        refine xq_aload_n dX1_readValue_26 rfl rfl ?_
        refine xq_iload_n dX1_readValue_27 rfl rfl ?_
        refine xq_iload_n dX1_readValue_28 rfl rfl ?_
        refine xq_callV2H clX1 gd_X1_readEither dX1_readValue_29 ml_RX1_93 im_X1_readEither se_X1_readEither rfl (Fx.s8 hF) (by exact Nat.le_of_ble_eq_true rfl) (by decide) (c_readEither hF ht ht24 ht45 hs1 hk hn hf hi hkb hst) ?_
        intro x29 H29 p29
        refine xq_iret dX1_readValue_32 rfl ?_
        have e : valS s st n (ws, hs, o, T, b, w) = eitS (kK s n) st n (ws, hs, o, T, b, w) := if_pos (by omega)
        rw [e]
        exact ⟨x29, H29, p29, rfl⟩
end FD
