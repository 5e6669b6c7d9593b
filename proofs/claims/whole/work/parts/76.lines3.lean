/-! ===== Reader: colour ===== -/
section LK
variable {S : xS} {H H1 H2 H3 : xH} {k p q f i j l m n c t v : Nat} {s : uTk} {T : uTx} {cd : Nat → Nat} {sz : Nat}
def colT (T : uTx) (code v : Nat) : uTx := setT (setT (setT T 4 (tNc T) code) 5 (tNc T) v) 0 0 (tNc T + 1)
def colR (s : uTk) (n : Nat) (T : uTx) : rLn := if 3 ≤ tNc T then .inl (2, n) else if freB s (n + 1) (tCn T) (tNc T) = false then .inl (freF s (n + 1), n + 1) else if numB s (n + 2) 6 = false then .inl (numF s (n + 2), n + 2) else .inr (n + 3, colT T (kV s (n + 1)) (kV s (n + 2)))
theorem colT_cn (k : Nat) : tCn (colT T i v) k = if k = tNc T then i else tCn T k := by
  show (if 4 = 0 ∧ k = 0 then tNc T + 1 else if 4 = 5 ∧ k = tNc T then v else if 4 = 4 ∧ k = tNc T then i else tCn T k) = _
  rw [if_neg (by omega), if_neg (by omega)]
  by_cases e : k = tNc T
  · rw [if_pos ⟨rfl, e⟩, if_pos e]
  · rw [if_neg (fun z => e z.2), if_neg e]
theorem colT_st (k : Nat) : tSt (colT T i v) k = if k = tNc T then v else tSt T k := by
  show (if 5 = 0 ∧ k = 0 then tNc T + 1 else if 5 = 5 ∧ k = tNc T then v else if 5 = 4 ∧ k = tNc T then i else tSt T k) = _
  rw [if_neg (by omega)]
  by_cases e : k = tNc T
  · rw [if_pos ⟨rfl, e⟩, if_pos e]
  · rw [if_neg (fun z => e z.2), if_neg (by omega), if_neg e]
theorem TxP.col (h : TxP H t T) (ht24 : 24 ≤ t) (hn : NmP H3 (t + 1) (tNc T + 1) (fun j => if j = tNc T then i else tCn T j)) (ho : Off (fun q => q = t + 1 ∨ q = t + 1 + 1) (sI H (t + 11) (tNc T) (nI v)) H3) : TxP H3 t (colT T i v) := by
  obtain ⟨h1, h2, h3, h4, h5, h6, h7, h8, h9, h10, h11, h12, h13, h14, h15, h16, h17⟩ := h
  exact ⟨(hn.1), ((ho.I (by omega) _).trans (by rw [hI_sI, if_neg (by omega)]; exact h2)), ((ho.I (by omega) _).trans (by rw [hI_sI, if_neg (by omega)]; exact h3)), ((ho.I (by omega) _).trans (by rw [hI_sI, if_neg (by omega)]; exact h4)), (fun k hk => ⟨(ho.I (by omega) _).trans (by rw [hI_sI, if_neg (by omega)]; exact (h5 k hk).1), (ho.I (by omega) _).trans (by rw [hI_sI, if_neg (by omega)]; exact (h5 k hk).2.1), (ho.I (by omega) _).trans (by rw [hI_sI, if_neg (by omega)]; exact (h5 k hk).2.2)⟩), (fun k hk => by
    have hk : k < tNc T + 1 := hk
    rw [colT_cn, colT_st]
    refine ⟨hn.2 k hk, (ho.I (by omega) _).trans ?_⟩
    rw [hI_sI]
    by_cases e : k = tNc T
    · rw [if_pos ⟨rfl, e⟩, if_pos e]
    · rw [if_neg (fun z => e z.2), if_neg e]; exact (h6 k (by omega)).2), (fun k hk => ⟨(ho.I (by omega) _).trans (by rw [hI_sI, if_neg (by omega)]; exact (h7 k hk).1), (ho.I (by omega) _).trans (by rw [hI_sI, if_neg (by omega)]; exact (h7 k hk).2)⟩), (fun k hk => (ho.I (by omega) _).trans (by rw [hI_sI, if_neg (by omega)]; exact (h8 k hk))), (fun k hk => ⟨(ho.I (by omega) _).trans (by rw [hI_sI, if_neg (by omega)]; exact (h9 k hk).1), (ho.I (by omega) _).trans (by rw [hI_sI, if_neg (by omega)]; exact (h9 k hk).2.1), (ho.L (by omega) _).trans (h9 k hk).2.2⟩), ((ho.I (by omega) _).trans (by rw [hI_sI, if_neg (by omega)]; exact h10)), (fun k hk => ⟨(ho.I (by omega) _).trans (by rw [hI_sI, if_neg (by omega)]; exact (h11 k hk).1), (ho.I (by omega) _).trans (by rw [hI_sI, if_neg (by omega)]; exact (h11 k hk).2)⟩), ((ho.I (by omega) _).trans (by rw [hI_sI, if_neg (by omega)]; exact h12)), (fun k hk => (ho.I (by omega) _).trans (by rw [hI_sI, if_neg (by omega)]; exact (h13 k hk))), (fun k hk => ⟨(ho.L (by omega) _).trans (h14 k hk).1, fun e => (ho.I (by omega) _).trans (by rw [hI_sI, if_neg (by omega)]; exact ((h14 k hk).2 e))⟩), ((ho.I (by omega) _).trans (by rw [hI_sI, if_neg (by omega)]; exact h15)), ((ho.I (by omega) _).trans (by rw [hI_sI, if_neg (by omega)]; exact h16)), ((ho.I (by omega) _).trans (by rw [hI_sI, if_neg (by omega)]; exact h17))⟩
theorem TrP.off {A : Nat → Prop} (h : TrP H s n) (ho : Off A H H1) (h0 : ∀ q, q = 2 ∨ q = 4 ∨ q = 5 ∨ q = 6 → ¬ A q) : TrP H1 s n := ⟨⟨(ho.I (h0 2 (by omega)) 4).trans h.1.1, (ho.I (h0 2 (by omega)) 6).trans h.1.2.1, fun j hj => by rw [ho.I (h0 4 (by omega)), ho.I (h0 5 (by omega)), ho.I (h0 6 (by omega))]; exact h.1.2.2 j hj⟩, (ho.I (h0 2 (by omega)) 5).trans h.2⟩
theorem c_colourLine (hF : gFx S) (ht : gTx S t) (ht24 : 24 ≤ t) (ht45 : t ≤ 45) (hs : TrP H s n) (hk : TrOk s) (hn : n ≤ 790) (hT : TxP H t T) (hbg : hI H (t + 7) 4 = nI (tNk T)) (hnc : tNc T ≤ 3) : Hv mX6_colourLine 2 [.ref 7, .ref t] S H vB (fun x H' => x = lnB (colR s n T) ∧ LnQ H H' t s (colR s n T)) := by
  have hk0 := hk.1
  have hkv := kV_le (n := n + 2) hk
  have hkv1 := kV_le (n := n + 1) hk
  have hs2 := hs.st (n + 1)
  have hs3 := hs2.st (n + 2)
  have hT2 : TxP (sI H 2 5 (nI (n + 1))) t T := hT.st2 ht24
  have hT3 : TxP (sI (sI H 2 5 (nI (n + 1))) 2 5 (nI (n + 2))) t T := hT2.st2 ht24
  refine vq_intro (by decide) (by exact Nat.le_of_ble_eq_true rfl) rfl ?_
  refine xq_aload_n dX6_colourLine_0 rfl rfl ?_
  refine xq_getF clX8 (by decide) rfl fl_RX6_75 dX6_colourLine_1 (Tx.s0 ht) (Tx.r0 ht) ?_
  refine xq_callV0P clX5 gd_X5_isFull dX6_colourLine_4 ml_RX6_79 im_X5_isFull se_X5_isFull rfl (Nm.s0 (Tx.n1 ht)) (by exact Nat.le_of_ble_eq_true rfl) (by decide) (c_isFull (Tx.n1 ht) hT.nmc (by decide) (by omega)) ?_
  refine xq_if_eqB dX6_colourLine_7 rfl ⟨fun h7 => ?_, fun h7 => ?_⟩
  · skip
    refine xq_aload_n dX6_colourLine_19 rfl rfl ?_
    refine xq_getF clX6 (by decide) rfl fl_RX6_9 dX6_colourLine_20 (Fx.s7 hF) (Fx.r7_0 hF) ?_
    refine xq_callV0N clX9 gd_X9_step dX6_colourLine_23 ml_RX6_84 im_X9_step se_X9_step rfl (Fx.s2 hF) (by exact Nat.le_of_ble_eq_true rfl) (by decide) (c_step hF hs hk (by omega)) ?_
    intro H23 p23
    subst p23
    refine xq_aload_n dX6_colourLine_26 rfl rfl ?_
    refine xq_getF clX6 (by decide) rfl fl_RX6_9 dX6_colourLine_27 (Fx.s7 hF) (Fx.r7_0 hF) ?_
    refine xq_aload_n dX6_colourLine_30 rfl rfl ?_
    refine xq_getF clX8 (by decide) rfl fl_RX6_75 dX6_colourLine_31 (Tx.s0 ht) (Tx.r0 ht) ?_
    refine xq_callV1H clX9 gd_X9_isFresh dX6_colourLine_34 ml_RX6_87 im_X9_isFresh se_X9_isFresh rfl (Fx.s2 hF) (by exact Nat.le_of_ble_eq_true rfl) (by decide) (c_isFresh hF hs2 hk (by omega) (Tx.n1 ht) hT2.nmc (by omega) (by decide)) ?_
    intro x34 H34 p34
    obtain ⟨e34, q34, r34⟩ := p34
    refine xq_if_neB dX6_colourLine_37 rfl ⟨fun h37 => ?_, fun h37 => ?_⟩
    · skip
      have ee := q34 h37
      subst ee
      refine xq_aload_n dX6_colourLine_42 rfl rfl ?_
      refine xq_getF clX6 (by decide) rfl fl_RX6_9 dX6_colourLine_43 (Fx.s7 hF) (Fx.r7_0 hF) ?_
      refine xq_callV0P clX9 gd_X9_value dX6_colourLine_46 ml_RX6_91 im_X9_value se_X9_value rfl (Fx.s2 hF) (by exact Nat.le_of_ble_eq_true rfl) (by decide) (c_value hF hs2 hk (by omega)) ?_
      refine xq_istore_n dX6_colourLine_49 rfl rfl ?_
      refine xq_aload_n dX6_colourLine_50 rfl rfl ?_
      refine xq_getF clX6 (by decide) rfl fl_RX6_9 dX6_colourLine_51 (Fx.s7 hF) (Fx.r7_0 hF) ?_
      refine xq_callV0N clX9 gd_X9_step dX6_colourLine_54 ml_RX6_84 im_X9_step se_X9_step rfl (Fx.s2 hF) (by exact Nat.le_of_ble_eq_true rfl) (by decide) (c_step hF hs2 hk (by omega)) ?_
      intro H54 p54
      subst p54
      refine xq_aload_n dX6_colourLine_57 rfl rfl ?_
      refine xq_getF clX6 (by decide) rfl fl_RX6_9 dX6_colourLine_58 (Fx.s7 hF) (Fx.r7_0 hF) ?_
      refine xq_bipush dX6_colourLine_61 bp6 ?_
      refine xq_callV1H clX9 gd_X9_isNumber dX6_colourLine_63 ml_RX6_94 im_X9_isNumber se_X9_isNumber rfl (Fx.s2 hF) (by exact Nat.le_of_ble_eq_true rfl) (by decide) (c_isNumber hF hs3 hk (by omega) (m := 6) (by decide)) ?_
      intro x63 H63 p63
      obtain ⟨e63, q63, r63⟩ := p63
      refine xq_if_neB dX6_colourLine_66 rfl ⟨fun h66 => ?_, fun h66 => ?_⟩
      · skip
        have ee := q63 h66
        subst ee
        have hc0 : ¬ 3 ≤ tNc T := of_decide_eq_false h7
        refine xq_aload_n dX6_colourLine_71 rfl rfl ?_
        refine xq_getF clX8 (by decide) rfl fl_RX6_97 dX6_colourLine_72 (Tx.s0 ht) (Tx.r4 ht) ?_
        refine xq_aload_n dX6_colourLine_75 rfl rfl ?_
        refine xq_getF clX8 (by decide) rfl fl_RX6_75 dX6_colourLine_76 (Tx.s0 ht) (Tx.r0 ht) ?_
        refine xq_getIE clX5 (by decide) rfl fl_RX6_101 dX6_colourLine_79 (Nm.s0 (Tx.n1 ht)) hT3.nc ?_
        refine xq_aload_n dX6_colourLine_82 rfl rfl ?_
        refine xq_getF clX6 (by decide) rfl fl_RX6_9 dX6_colourLine_83 (Fx.s7 hF) (Fx.r7_0 hF) ?_
        refine xq_callV0P clX9 gd_X9_value dX6_colourLine_86 ml_RX6_91 im_X9_value se_X9_value rfl (Fx.s2 hF) (by exact Nat.le_of_ble_eq_true rfl) (by decide) (c_value hF hs3 hk (by omega)) ?_
        refine xq_iastN dX6_colourLine_89 (Tx.s11 ht) (by omega) (by decide) ?_
        refine xq_aload_n dX6_colourLine_90 rfl rfl ?_
        refine xq_getF clX8 (by decide) rfl fl_RX6_75 dX6_colourLine_91 (Tx.s0 ht) (Tx.r0 ht) ?_
        refine xq_iload_n dX6_colourLine_94 rfl rfl ?_
        refine xq_callV1N clX5 gd_X5_add dX6_colourLine_95 ml_RX6_105 im_X5_add se_X5_add rfl (Nm.s0 (Tx.n1 ht)) (by exact Nat.le_of_ble_eq_true rfl) (by decide) (c_add (Tx.n1 ht) (show NmP (sI (sI (sI H 2 5 (nI (n + 1))) 2 5 (nI (n + 2))) (t + 11) (tNc T) (nI (kV s (n + 2)))) (t + 1) (tNc T) (tCn T) from ⟨by rw [hI_sI, if_neg (by omega)]; exact hT3.nc, fun j hj => by rw [hI_sI, if_neg (by omega)]; exact (hT3.co j hj).1⟩) (by omega) (by decide)) ?_
        intro H95 p95
        obtain ⟨n95, o95⟩ := p95
        have hs95 : TrP H95 s (n + 2) := (hs3.pI (a := t + 11) (by omega) (tNc T) (nI (kV s (n + 2)))).off o95 (fun q z => by omega)
        refine xq_aload_n dX6_colourLine_98 rfl rfl ?_
        refine xq_getF clX6 (by decide) rfl fl_RX6_9 dX6_colourLine_99 (Fx.s7 hF) (Fx.r7_0 hF) ?_
        refine xq_callV0N clX9 gd_X9_step dX6_colourLine_102 ml_RX6_84 im_X9_step se_X9_step rfl (Fx.s2 hF) (by exact Nat.le_of_ble_eq_true rfl) (by decide) (c_step hF hs95 hk (by omega)) ?_
        intro H102 p102
        subst p102
        refine xq_iconst dX6_colourLine_105 ic1 ?_
        refine xq_zret dX6_colourLine_106 rfl (by decide) ?_
        have hc : ¬ 3 ≤ tNc T := of_decide_eq_false h7
        have e : colR s n T = .inr (n + 3, colT T (kV s (n + 1)) (kV s (n + 2))) := (if_neg hc).trans ((if_neg (by rw [← e34, h37]; decide)).trans (if_neg (by rw [← e63, h66]; decide)))
        rw [e]
        exact ⟨true, _, ⟨rfl, Off.pI (A := (fun q => q = 2 ∨ (8 ≤ q ∧ q < 16) ∨ (t ≤ q ∧ q < t + 21))) (Off.tr (Off.pI (A := (fun q => q = 2 ∨ (8 ≤ q ∧ q < 16) ∨ (t ≤ q ∧ q < t + 21))) (Off.pI (A := (fun q => q = 2 ∨ (8 ≤ q ∧ q < 16) ∨ (t ≤ q ∧ q < t + 21))) (Off.pI (A := (fun q => q = 2 ∨ (8 ≤ q ∧ q < 16) ∨ (t ≤ q ∧ q < t + 21))) Off.rf (by omega) _ _) (by omega) _ _) (by omega) _ _) (o95.mo (fun q h => by omega))) (by omega) _ _, hs95.st (n + 3), by rw [hI_sI, if_neg (by omega), o95.I (by omega)]; simp [hI_sI]; try omega, by rw [hI_sI, if_neg (by omega), o95.I (by omega)]; simp [hI_sI]; try omega, (TxP.col hT3 ht24 n95 o95).st2 ht24, (by rw [hI_sI, if_neg (by omega), o95.I (by omega)]; (repeat rw [hI_sI, if_neg (by omega)]); exact hbg)⟩, rfl⟩
      · skip
        refine xq_iconst dX6_colourLine_69 ic0 ?_
        refine xq_zret dX6_colourLine_70 rfl (by decide) ?_
        have hc : ¬ 3 ≤ tNc T := of_decide_eq_false h7
        have hf : x63 = false := by simpa using h66
        have q := r63 hf
        have e : colR s n T = .inl (numF s (n + 2), n + 2) := (if_neg hc).trans ((if_neg (by rw [← e34, h37]; decide)).trans (if_pos (e63.symm.trans hf)))
        rw [e]
        exact ⟨false, H63, ⟨rfl, Off.tr (Off.pI (A := (fun q => q = 2 ∨ (8 ≤ q ∧ q < 16) ∨ (t ≤ q ∧ q < t + 21))) (Off.pI (A := (fun q => q = 2 ∨ (8 ≤ q ∧ q < 16) ∨ (t ≤ q ∧ q < t + 21))) Off.rf (by omega) _ _) (by omega) _ _) (q.2.2.2.mo (fun q h => Or.inl h)), q.1, q.2.1, (q.2.2.1 6 (by decide) (by decide)).trans (by simp [hI_sI])⟩, rfl⟩
    · skip
      refine xq_iconst dX6_colourLine_40 ic0 ?_
      refine xq_zret dX6_colourLine_41 rfl (by decide) ?_
      have hc : ¬ 3 ≤ tNc T := of_decide_eq_false h7
      have hf : x34 = false := by simpa using h37
      have q := r34 hf
      have e : colR s n T = .inl (freF s (n + 1), n + 1) := (if_neg hc).trans (if_pos (e34.symm.trans hf))
      rw [e]
      exact ⟨false, H34, ⟨rfl, Off.tr (Off.pI (A := (fun q => q = 2 ∨ (8 ≤ q ∧ q < 16) ∨ (t ≤ q ∧ q < t + 21))) Off.rf (by omega) _ _) (q.2.2.2.mo (fun q h => Or.inl h)), q.1, q.2.1, (q.2.2.1 6 (by decide) (by decide)).trans (by simp [hI_sI])⟩, rfl⟩
  · skip
    refine xq_aload_n dX6_colourLine_10 rfl rfl ?_
    refine xq_getF clX6 (by decide) rfl fl_RX6_9 dX6_colourLine_11 (Fx.s7 hF) (Fx.r7_0 hF) ?_
    refine xq_iconst dX6_colourLine_14 ic2 ?_
    refine xq_callV1H clX9 gd_X9_fail dX6_colourLine_15 ml_RX6_71 im_X9_fail se_X9_fail rfl (Fx.s2 hF) (by exact Nat.le_of_ble_eq_true rfl) (by decide) (c_fail hF hs hk (by omega) (c := 2) (by decide)) ?_
    intro x15 H15 p15
    obtain ⟨rfl, q15⟩ := p15
    refine xq_zret dX6_colourLine_18 rfl (by decide) ?_
    have e : colR s n T = .inl (2, n) := if_pos (of_decide_eq_true h7)
    rw [e]
    exact ⟨false, H15, ⟨rfl, q15.2.2.2.mo (fun q h => Or.inl h), q15.1, q15.2.1, q15.2.2.1 6 (by decide) (by decide)⟩, rfl⟩
end LK
