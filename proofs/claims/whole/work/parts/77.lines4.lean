/-! ===== Reader: person ===== -/
section LL
variable {S : xS} {H H1 H2 H3 : xH} {k p q f i j l m n c t v : Nat} {s : uTk} {T : uTx} {cd : Nat → Nat} {sz : Nat}
def perT (T : uTx) (code c : Nat) : uTx := setT (setT (setT (setT T 6 (tNp T) code) 7 (tNp T) c) 0 8 (tTr T ||| c <<< (10 - 2 * tNp T))) 0 1 (tNp T + 1)
def perR (s : uTk) (n : Nat) (T : uTx) : rLn := if 6 ≤ tNp T then .inl (2, n) else if freB s (n + 1) (tPn T) (tNp T) = false then .inl (freF s (n + 1), n + 1) else if knoZ s (n + 2) (tCn T) (tNc T) = -1 then .inl (knoF s (n + 2), n + 2) else if tSt T (knoZ s (n + 2) (tCn T) (tNc T)).toNat ≤ ct (fun i => tHt T i == (knoZ s (n + 2) (tCn T) (tNc T)).toNat) (tNp T) then .inl (5, n + 2) else .inr (n + 3, perT T (kV s (n + 1)) (knoZ s (n + 2) (tCn T) (tNc T)).toNat)
theorem perT_pn (k : Nat) : tPn (perT T i v) k = if k = tNp T then i else tPn T k := by
  show (if 6 = 0 ∧ k = 1 then tNp T + 1 else if 6 = 0 ∧ k = 8 then tTr T ||| v <<< (10 - 2 * tNp T) else if 6 = 7 ∧ k = tNp T then v else if 6 = 6 ∧ k = tNp T then i else tPn T k) = _
  rw [if_neg (by omega), if_neg (by omega), if_neg (by omega)]
  by_cases e : k = tNp T
  · rw [if_pos ⟨rfl, e⟩, if_pos e]
  · rw [if_neg (fun z => e z.2), if_neg e]
theorem perT_ht (k : Nat) : tHt (perT T i v) k = if k = tNp T then v else tHt T k := by
  show (if 7 = 0 ∧ k = 1 then tNp T + 1 else if 7 = 0 ∧ k = 8 then tTr T ||| v <<< (10 - 2 * tNp T) else if 7 = 7 ∧ k = tNp T then v else if 7 = 6 ∧ k = tNp T then i else tHt T k) = _
  rw [if_neg (by omega), if_neg (by omega)]
  by_cases e : k = tNp T
  · rw [if_pos ⟨rfl, e⟩, if_pos e]
  · rw [if_neg (fun z => e z.2), if_neg (by omega), if_neg e]
theorem TxP.per (h : TxP H t T) (ht24 : 24 ≤ t) (hn : NmP H3 (t + 3) (tNp T + 1) (fun j => if j = tNp T then i else tPn T j)) (ho : Off (fun q => q = t + 3 ∨ q = t + 3 + 1) (sI (sI H (t + 12) (tNp T) (nI v)) t 18 (nI (tTr T ||| v <<< (10 - 2 * tNp T)))) H3) : TxP H3 t (perT T i v) := by
  obtain ⟨h1, h2, h3, h4, h5, h6, h7, h8, h9, h10, h11, h12, h13, h14, h15, h16, h17⟩ := h
  exact ⟨((ho.I (by omega) _).trans (by rw [hI_sI, if_neg (by omega), hI_sI, if_neg (by omega)]; exact h1)), (hn.1), ((ho.I (by omega) _).trans (by rw [hI_sI, if_neg (by omega), hI_sI, if_neg (by omega)]; exact h3)), ((ho.I (by omega) _).trans (by rw [hI_sI, if_neg (by omega), hI_sI, if_neg (by omega)]; exact h4)), (fun k hk => ⟨(ho.I (by omega) _).trans (by rw [hI_sI, if_neg (by omega), hI_sI, if_neg (by omega)]; exact (h5 k hk).1), (ho.I (by omega) _).trans (by rw [hI_sI, if_neg (by omega), hI_sI, if_neg (by omega)]; exact (h5 k hk).2.1), (ho.I (by omega) _).trans (by rw [hI_sI, if_neg (by omega), hI_sI, if_neg (by omega)]; exact (h5 k hk).2.2)⟩), (fun k hk => ⟨(ho.I (by omega) _).trans (by rw [hI_sI, if_neg (by omega), hI_sI, if_neg (by omega)]; exact (h6 k hk).1), (ho.I (by omega) _).trans (by rw [hI_sI, if_neg (by omega), hI_sI, if_neg (by omega)]; exact (h6 k hk).2)⟩), (fun k hk => by
    have hk : k < tNp T + 1 := hk
    rw [perT_pn, perT_ht]
    refine ⟨hn.2 k hk, (ho.I (by omega) _).trans ?_⟩
    rw [hI_sI, if_neg (by omega), hI_sI]
    by_cases e : k = tNp T
    · rw [if_pos ⟨rfl, e⟩, if_pos e]
    · rw [if_neg (fun z => e z.2), if_neg e]; exact (h7 k (by omega)).2), (fun k hk => (ho.I (by omega) _).trans (by rw [hI_sI, if_neg (by omega), hI_sI, if_neg (by omega)]; exact (h8 k hk))), (fun k hk => ⟨(ho.I (by omega) _).trans (by rw [hI_sI, if_neg (by omega), hI_sI, if_neg (by omega)]; exact (h9 k hk).1), (ho.I (by omega) _).trans (by rw [hI_sI, if_neg (by omega), hI_sI, if_neg (by omega)]; exact (h9 k hk).2.1), (ho.L (by omega) _).trans (h9 k hk).2.2⟩), ((ho.I (by omega) _).trans (by rw [hI_sI, if_neg (by omega), hI_sI, if_neg (by omega)]; exact h10)), (fun k hk => ⟨(ho.I (by omega) _).trans (by rw [hI_sI, if_neg (by omega), hI_sI, if_neg (by omega)]; exact (h11 k hk).1), (ho.I (by omega) _).trans (by rw [hI_sI, if_neg (by omega), hI_sI, if_neg (by omega)]; exact (h11 k hk).2)⟩), ((ho.I (by omega) _).trans (by rw [hI_sI, if_neg (by omega), hI_sI, if_neg (by omega)]; exact h12)), (fun k hk => (ho.I (by omega) _).trans (by rw [hI_sI, if_neg (by omega), hI_sI, if_neg (by omega)]; exact (h13 k hk))), (fun k hk => ⟨(ho.L (by omega) _).trans (h14 k hk).1, fun e => (ho.I (by omega) _).trans (by rw [hI_sI, if_neg (by omega), hI_sI, if_neg (by omega)]; exact ((h14 k hk).2 e))⟩), ((ho.I (by omega) _).trans (by rw [hI_sI, if_neg (by omega), hI_sI, if_neg (by omega)]; exact h15)), ((ho.I (by omega) _).trans (by rw [hI_sI, if_neg (by omega), hI_sI, if_neg (by omega)]; exact h16)), ((ho.I (by omega) _).trans (by rw [hI_sI, if_pos ⟨rfl, rfl⟩]; rfl))⟩
theorem c_personLine0 (hF : gFx S) (ht : gTx S t) (ht24 : 24 ≤ t) (ht45 : t ≤ 45) (hs : TrP H s n) (hk : TrOk s) (hn : n ≤ 790) (hT : TxP H t T) (hbg : hI H (t + 7) 4 = nI (tNk T)) (hnp : tNp T ≤ 6) (hnc : tNc T ≤ 3) (hht : ∀ k, k < tNp T → tHt T k < 3) (hst6 : ∀ k, k < tNc T → tSt T k ≤ 6) (hz : knoZ s (n + 2) (tCn T) (tNc T) = -1) : Hv mX6_personLine 2 [.ref 7, .ref t] S H vB (fun x H' => x = lnB (perR s n T) ∧ LnQ H H' t s (perR s n T)) := by
  have hk0 := hk.1
  have hkv1 := kV_le (n := n + 1) hk
  have hs2 := hs.st (n + 1)
  have hs3 := hs2.st (n + 2)
  have hT2 : TxP (sI H 2 5 (nI (n + 1))) t T := hT.st2 ht24
  have hT3 : TxP (sI (sI H 2 5 (nI (n + 1))) 2 5 (nI (n + 2))) t T := hT2.st2 ht24
  refine vq_intro (by decide) (by exact Nat.le_of_ble_eq_true rfl) rfl ?_
  refine xq_aload_n dX6_personLine_0 rfl rfl ?_
  refine xq_getF clX8 (by decide) rfl fl_RX6_109 dX6_personLine_1 (Tx.s0 ht) (Tx.r1 ht) ?_
  refine xq_callV0P clX5 gd_X5_isFull dX6_personLine_4 ml_RX6_79 im_X5_isFull se_X5_isFull rfl (Nm.s0 (Tx.n3 ht)) (by exact Nat.le_of_ble_eq_true rfl) (by decide) (c_isFull (Tx.n3 ht) hT.nmp (by decide) (by omega)) ?_
  refine xq_if_eqB dX6_personLine_7 rfl ⟨fun h7 => ?_, fun h7 => ?_⟩
  · skip
    refine xq_aload_n dX6_personLine_19 rfl rfl ?_
    refine xq_getF clX6 (by decide) rfl fl_RX6_9 dX6_personLine_20 (Fx.s7 hF) (Fx.r7_0 hF) ?_
    refine xq_callV0N clX9 gd_X9_step dX6_personLine_23 ml_RX6_84 im_X9_step se_X9_step rfl (Fx.s2 hF) (by exact Nat.le_of_ble_eq_true rfl) (by decide) (c_step hF hs hk (by omega)) ?_
    intro H23 p23
    subst p23
    refine xq_aload_n dX6_personLine_26 rfl rfl ?_
    refine xq_getF clX6 (by decide) rfl fl_RX6_9 dX6_personLine_27 (Fx.s7 hF) (Fx.r7_0 hF) ?_
    refine xq_aload_n dX6_personLine_30 rfl rfl ?_
    refine xq_getF clX8 (by decide) rfl fl_RX6_109 dX6_personLine_31 (Tx.s0 ht) (Tx.r1 ht) ?_
    refine xq_callV1H clX9 gd_X9_isFresh dX6_personLine_34 ml_RX6_87 im_X9_isFresh se_X9_isFresh rfl (Fx.s2 hF) (by exact Nat.le_of_ble_eq_true rfl) (by decide) (c_isFresh hF hs2 hk (by omega) (Tx.n3 ht) hT2.nmp (by omega) (by decide)) ?_
    intro x34 H34 p34
    obtain ⟨e34, q34, r34⟩ := p34
    refine xq_if_neB dX6_personLine_37 rfl ⟨fun h37 => ?_, fun h37 => ?_⟩
    · skip
      have ee := q34 h37
      subst ee
      refine xq_aload_n dX6_personLine_42 rfl rfl ?_
      refine xq_getF clX6 (by decide) rfl fl_RX6_9 dX6_personLine_43 (Fx.s7 hF) (Fx.r7_0 hF) ?_
      refine xq_callV0P clX9 gd_X9_value dX6_personLine_46 ml_RX6_91 im_X9_value se_X9_value rfl (Fx.s2 hF) (by exact Nat.le_of_ble_eq_true rfl) (by decide) (c_value hF hs2 hk (by omega)) ?_
      refine xq_istore_n dX6_personLine_49 rfl rfl ?_
      refine xq_aload_n dX6_personLine_50 rfl rfl ?_
      refine xq_getF clX6 (by decide) rfl fl_RX6_9 dX6_personLine_51 (Fx.s7 hF) (Fx.r7_0 hF) ?_
      refine xq_callV0N clX9 gd_X9_step dX6_personLine_54 ml_RX6_84 im_X9_step se_X9_step rfl (Fx.s2 hF) (by exact Nat.le_of_ble_eq_true rfl) (by decide) (c_step hF hs2 hk (by omega)) ?_
      intro H54 p54
      subst p54
      refine xq_aload_n dX6_personLine_57 rfl rfl ?_
      refine xq_getF clX6 (by decide) rfl fl_RX6_9 dX6_personLine_58 (Fx.s7 hF) (Fx.r7_0 hF) ?_
      refine xq_aload_n dX6_personLine_61 rfl rfl ?_
      refine xq_getF clX8 (by decide) rfl fl_RX6_75 dX6_personLine_62 (Tx.s0 ht) (Tx.r0 ht) ?_
      refine xq_callV1H clX9 gd_X9_known dX6_personLine_65 ml_RX6_112 im_X9_known se_X9_known rfl (Fx.s2 hF) (by exact Nat.le_of_ble_eq_true rfl) (by decide) (c_known0 hF hs3 hk (by omega) (Tx.n1 ht) hT3.nmc (by omega) (by decide) hz) ?_
      intro x65 H65 p65
      obtain ⟨rfl, q65⟩ := p65
      refine xq_istore_n dX6_personLine_68 rfl rfl ?_
      refine xq_iload_n dX6_personLine_69 rfl rfl ?_
      refine xq_if_ge dX6_personLine_70 rfl ⟨fun h70 => ?_, fun h70 => ?_⟩
      · skip
        exact absurd h70 (by decide)
      · skip
        refine xq_iconst dX6_personLine_73 ic0 ?_
        refine xq_zret dX6_personLine_74 rfl (by decide) ?_
        have hc : ¬ 6 ≤ tNp T := of_decide_eq_false h7
        have hfr : ¬ freB s (n + 1) (tPn T) (tNp T) = false := by rw [← e34, h37]; decide
        have e : perR s n T = .inl (knoF s (n + 2), n + 2) := (if_neg hc).trans ((if_neg hfr).trans (if_pos hz))
        rw [e]
        exact ⟨false, H65, ⟨rfl, Off.tr (Off.pI (A := (fun q => q = 2 ∨ (8 ≤ q ∧ q < 16) ∨ (t ≤ q ∧ q < t + 21))) (Off.pI (A := (fun q => q = 2 ∨ (8 ≤ q ∧ q < 16) ∨ (t ≤ q ∧ q < t + 21))) Off.rf (by omega) _ _) (by omega) _ _) (q65.2.2.2.mo (fun q h => Or.inl h)), q65.1, q65.2.1, (q65.2.2.1 6 (by decide) (by decide)).trans (by simp [hI_sI])⟩, rfl⟩
    · skip
      refine xq_iconst dX6_personLine_40 ic0 ?_
      refine xq_zret dX6_personLine_41 rfl (by decide) ?_
      have hc : ¬ 6 ≤ tNp T := of_decide_eq_false h7
      have hf : x34 = false := by simpa using h37
      have q := r34 hf
      have e : perR s n T = .inl (freF s (n + 1), n + 1) := (if_neg hc).trans (if_pos (e34.symm.trans hf))
      rw [e]
      exact ⟨false, H34, ⟨rfl, Off.tr (Off.pI (A := (fun q => q = 2 ∨ (8 ≤ q ∧ q < 16) ∨ (t ≤ q ∧ q < t + 21))) Off.rf (by omega) _ _) (q.2.2.2.mo (fun q h => Or.inl h)), q.1, q.2.1, (q.2.2.1 6 (by decide) (by decide)).trans (by simp [hI_sI])⟩, rfl⟩
  · skip
    refine xq_aload_n dX6_personLine_10 rfl rfl ?_
    refine xq_getF clX6 (by decide) rfl fl_RX6_9 dX6_personLine_11 (Fx.s7 hF) (Fx.r7_0 hF) ?_
    refine xq_iconst dX6_personLine_14 ic2 ?_
    refine xq_callV1H clX9 gd_X9_fail dX6_personLine_15 ml_RX6_71 im_X9_fail se_X9_fail rfl (Fx.s2 hF) (by exact Nat.le_of_ble_eq_true rfl) (by decide) (c_fail hF hs hk (by omega) (c := 2) (by decide)) ?_
    intro x15 H15 p15
    obtain ⟨rfl, q15⟩ := p15
    refine xq_zret dX6_personLine_18 rfl (by decide) ?_
    have e : perR s n T = .inl (2, n) := if_pos (of_decide_eq_true h7)
    rw [e]
    exact ⟨false, H15, ⟨rfl, q15.2.2.2.mo (fun q h => Or.inl h), q15.1, q15.2.1, q15.2.2.1 6 (by decide) (by decide)⟩, rfl⟩
theorem c_personLine1 (hF : gFx S) (ht : gTx S t) (ht24 : 24 ≤ t) (ht45 : t ≤ 45) (hs : TrP H s n) (hk : TrOk s) (hn : n ≤ 790) (hT : TxP H t T) (hbg : hI H (t + 7) 4 = nI (tNk T)) (hnp : tNp T ≤ 6) (hnc : tNc T ≤ 3) (hht : ∀ k, k < tNp T → tHt T k < 3) (hst6 : ∀ k, k < tNc T → tSt T k ≤ 6) (hz : knoZ s (n + 2) (tCn T) (tNc T) = (f : Nat)) (hf3 : f < tNc T) : Hv mX6_personLine 2 [.ref 7, .ref t] S H vB (fun x H' => x = lnB (perR s n T) ∧ LnQ H H' t s (perR s n T)) := by
  have hk0 := hk.1
  have hkv1 := kV_le (n := n + 1) hk
  have hs2 := hs.st (n + 1)
  have hs3 := hs2.st (n + 2)
  have hT2 : TxP (sI H 2 5 (nI (n + 1))) t T := hT.st2 ht24
  have hT3 : TxP (sI (sI H 2 5 (nI (n + 1))) 2 5 (nI (n + 2))) t T := hT2.st2 ht24
  have hcl := ct_le (fun i => tHt T i == f) (tNp T)
  have hs6f := hst6 f hf3
  refine vq_intro (by decide) (by exact Nat.le_of_ble_eq_true rfl) rfl ?_
  refine xq_aload_n dX6_personLine_0 rfl rfl ?_
  refine xq_getF clX8 (by decide) rfl fl_RX6_109 dX6_personLine_1 (Tx.s0 ht) (Tx.r1 ht) ?_
  refine xq_callV0P clX5 gd_X5_isFull dX6_personLine_4 ml_RX6_79 im_X5_isFull se_X5_isFull rfl (Nm.s0 (Tx.n3 ht)) (by exact Nat.le_of_ble_eq_true rfl) (by decide) (c_isFull (Tx.n3 ht) hT.nmp (by decide) (by omega)) ?_
  refine xq_if_eqB dX6_personLine_7 rfl ⟨fun h7 => ?_, fun h7 => ?_⟩
  · skip
    refine xq_aload_n dX6_personLine_19 rfl rfl ?_
    refine xq_getF clX6 (by decide) rfl fl_RX6_9 dX6_personLine_20 (Fx.s7 hF) (Fx.r7_0 hF) ?_
    refine xq_callV0N clX9 gd_X9_step dX6_personLine_23 ml_RX6_84 im_X9_step se_X9_step rfl (Fx.s2 hF) (by exact Nat.le_of_ble_eq_true rfl) (by decide) (c_step hF hs hk (by omega)) ?_
    intro H23 p23
    subst p23
    refine xq_aload_n dX6_personLine_26 rfl rfl ?_
    refine xq_getF clX6 (by decide) rfl fl_RX6_9 dX6_personLine_27 (Fx.s7 hF) (Fx.r7_0 hF) ?_
    refine xq_aload_n dX6_personLine_30 rfl rfl ?_
    refine xq_getF clX8 (by decide) rfl fl_RX6_109 dX6_personLine_31 (Tx.s0 ht) (Tx.r1 ht) ?_
    refine xq_callV1H clX9 gd_X9_isFresh dX6_personLine_34 ml_RX6_87 im_X9_isFresh se_X9_isFresh rfl (Fx.s2 hF) (by exact Nat.le_of_ble_eq_true rfl) (by decide) (c_isFresh hF hs2 hk (by omega) (Tx.n3 ht) hT2.nmp (by omega) (by decide)) ?_
    intro x34 H34 p34
    obtain ⟨e34, q34, r34⟩ := p34
    refine xq_if_neB dX6_personLine_37 rfl ⟨fun h37 => ?_, fun h37 => ?_⟩
    · skip
      have ee := q34 h37
      subst ee
      refine xq_aload_n dX6_personLine_42 rfl rfl ?_
      refine xq_getF clX6 (by decide) rfl fl_RX6_9 dX6_personLine_43 (Fx.s7 hF) (Fx.r7_0 hF) ?_
      refine xq_callV0P clX9 gd_X9_value dX6_personLine_46 ml_RX6_91 im_X9_value se_X9_value rfl (Fx.s2 hF) (by exact Nat.le_of_ble_eq_true rfl) (by decide) (c_value hF hs2 hk (by omega)) ?_
      refine xq_istore_n dX6_personLine_49 rfl rfl ?_
      refine xq_aload_n dX6_personLine_50 rfl rfl ?_
      refine xq_getF clX6 (by decide) rfl fl_RX6_9 dX6_personLine_51 (Fx.s7 hF) (Fx.r7_0 hF) ?_
      refine xq_callV0N clX9 gd_X9_step dX6_personLine_54 ml_RX6_84 im_X9_step se_X9_step rfl (Fx.s2 hF) (by exact Nat.le_of_ble_eq_true rfl) (by decide) (c_step hF hs2 hk (by omega)) ?_
      intro H54 p54
      subst p54
      refine xq_aload_n dX6_personLine_57 rfl rfl ?_
      refine xq_getF clX6 (by decide) rfl fl_RX6_9 dX6_personLine_58 (Fx.s7 hF) (Fx.r7_0 hF) ?_
      refine xq_aload_n dX6_personLine_61 rfl rfl ?_
      refine xq_getF clX8 (by decide) rfl fl_RX6_75 dX6_personLine_62 (Tx.s0 ht) (Tx.r0 ht) ?_
      refine xq_callV1P clX9 gd_X9_known dX6_personLine_65 ml_RX6_112 im_X9_known se_X9_known rfl (Fx.s2 hF) (by exact Nat.le_of_ble_eq_true rfl) (by decide) (c_known1 hF hs3 hk (by omega) (Tx.n1 ht) hT3.nmc (by omega) (by decide) hz) ?_
      refine xq_istore_n dX6_personLine_68 rfl rfl ?_
      refine xq_iload_n dX6_personLine_69 rfl rfl ?_
      refine xq_if_geN dX6_personLine_70 rfl (by omega) ?_
      refine xq_aload_n dX6_personLine_75 rfl rfl ?_
      refine xq_iload_n dX6_personLine_76 rfl rfl ?_
      refine xq_callV1P clX8 gd_X8_hatsOf dX6_personLine_77 ml_RX6_116 im_X8_hatsOf se_X8_hatsOf rfl (Tx.s0 ht) (by exact Nat.le_of_ble_eq_true rfl) (by decide) (c_hatsOf ht hT3 hnp hht (by omega)) ?_
      refine xq_aload_n dX6_personLine_80 rfl rfl ?_
      refine xq_getF clX8 (by decide) rfl fl_RX6_97 dX6_personLine_81 (Tx.s0 ht) (Tx.r4 ht) ?_
      refine xq_iload_n dX6_personLine_84 rfl rfl ?_
      refine xq_ialdN dX6_personLine_85 (Tx.s11 ht) (by omega) (by decide) ((hT3.co f hf3).2) ?_
      refine xq_icmp_ltN dX6_personLine_86 rfl (by omega) (by omega) ⟨fun h86 => ?_, fun h86 => ?_⟩
      · skip
        have hc0 : ¬ 6 ≤ tNp T := of_decide_eq_false h7
        refine xq_aload_n dX6_personLine_98 rfl rfl ?_
        refine xq_getF clX8 (by decide) rfl fl_RX6_120 dX6_personLine_99 (Tx.s0 ht) (Tx.r5 ht) ?_
        refine xq_aload_n dX6_personLine_102 rfl rfl ?_
        refine xq_getF clX8 (by decide) rfl fl_RX6_109 dX6_personLine_103 (Tx.s0 ht) (Tx.r1 ht) ?_
        refine xq_getIE clX5 (by decide) rfl fl_RX6_101 dX6_personLine_106 (Nm.s0 (Tx.n3 ht)) hT3.np ?_
        refine xq_iload_n dX6_personLine_109 rfl rfl ?_
        refine xq_iastN dX6_personLine_110 (Tx.s12 ht) (by omega) (by decide) ?_
        refine xq_aload_n dX6_personLine_111 rfl rfl ?_
        refine xq_dup dX6_personLine_112 rfl ?_
        refine xq_getIE (v := nI (tTr T)) clX8 (by decide) rfl fl_RX6_123 dX6_personLine_113 (Tx.s0 ht) (by rw [hI_sI, if_neg (by omega)]; exact hT3.tr) ?_
        refine xq_iload_n dX6_personLine_116 rfl rfl ?_
        refine xq_aload_n dX6_personLine_117 rfl rfl ?_
        refine xq_getF clX8 (by decide) rfl fl_RX6_109 dX6_personLine_118 (Tx.s0 ht) (Tx.r1 ht) ?_
        refine xq_getIE (v := nI (tNp T)) clX5 (by decide) rfl fl_RX6_101 dX6_personLine_121 (Nm.s0 (Tx.n3 ht)) (by rw [hI_sI, if_neg (by omega)]; exact hT3.np) ?_
        refine xq_callSN1P gd_X10_shiftOf dX6_personLine_124 nl_RX6_126 im_X10_shiftOf (by exact Nat.le_of_ble_eq_true rfl) (by decide) (c_shiftOf (by omega)) ?_
        refine xq_ishlN dX6_personLine_127 (by omega) ?_
        refine xq_iorN dX6_personLine_128 ?_
        refine xq_putI clX8 (by decide) rfl fl_RX6_123 (Or.inl rfl) dX6_personLine_129 ⟨rfl, rfl⟩ (Tx.s0 ht) ?_
        refine xq_aload_n dX6_personLine_132 rfl rfl ?_
        refine xq_getF clX8 (by decide) rfl fl_RX6_109 dX6_personLine_133 (Tx.s0 ht) (Tx.r1 ht) ?_
        refine xq_iload_n dX6_personLine_136 rfl rfl ?_
        refine xq_callV1N clX5 gd_X5_add dX6_personLine_137 ml_RX6_105 im_X5_add se_X5_add rfl (Nm.s0 (Tx.n3 ht)) (by exact Nat.le_of_ble_eq_true rfl) (by decide) (c_add (Tx.n3 ht) (show NmP (sI (sI (sI (sI H 2 5 (nI (n + 1))) 2 5 (nI (n + 2))) (t + 12) (tNp T) (nI f)) t 18 (nI (tTr T ||| f <<< (10 - 2 * tNp T)))) (t + 3) (tNp T) (tPn T) from ⟨by rw [hI_sI, if_neg (by omega), hI_sI, if_neg (by omega)]; exact hT3.np, fun j hj => by rw [hI_sI, if_neg (by omega), hI_sI, if_neg (by omega)]; exact (hT3.pe j hj).1⟩) (by omega) (by decide)) ?_
        intro H137 p137
        obtain ⟨n137, o137⟩ := p137
        have hs137 : TrP H137 s (n + 2) := ((hs3.pI (a := t + 12) (by omega) (tNp T) (nI f)).pI (a := t) (by omega) 18 (nI (tTr T ||| f <<< (10 - 2 * tNp T)))).off o137 (fun q z => by omega)
        refine xq_aload_n dX6_personLine_140 rfl rfl ?_
        refine xq_getF clX6 (by decide) rfl fl_RX6_9 dX6_personLine_141 (Fx.s7 hF) (Fx.r7_0 hF) ?_
        refine xq_callV0N clX9 gd_X9_step dX6_personLine_144 ml_RX6_84 im_X9_step se_X9_step rfl (Fx.s2 hF) (by exact Nat.le_of_ble_eq_true rfl) (by decide) (c_step hF hs137 hk (by omega)) ?_
        intro H144 p144
        subst p144
        refine xq_iconst dX6_personLine_147 ic1 ?_
        refine xq_zret dX6_personLine_148 rfl (by decide) ?_
        have hc : ¬ 6 ≤ tNp T := of_decide_eq_false h7
        have hfr : ¬ freB s (n + 1) (tPn T) (tNp T) = false := by rw [← e34, h37]; decide
        have hz1 : ¬ knoZ s (n + 2) (tCn T) (tNc T) = -1 := by rw [hz]; omega
        have hz2 : (knoZ s (n + 2) (tCn T) (tNc T)).toNat = f := by rw [hz]; rfl
        have e : perR s n T = .inr (n + 3, perT T (kV s (n + 1)) f) := (if_neg hc).trans ((if_neg hfr).trans ((if_neg hz1).trans ((if_neg (by rw [hz2]; omega)).trans (by rw [hz2]))))
        rw [e]
        exact ⟨true, _, ⟨rfl, Off.pI (A := (fun q => q = 2 ∨ (8 ≤ q ∧ q < 16) ∨ (t ≤ q ∧ q < t + 21))) (Off.tr (Off.pI (A := (fun q => q = 2 ∨ (8 ≤ q ∧ q < 16) ∨ (t ≤ q ∧ q < t + 21))) (Off.pI (A := (fun q => q = 2 ∨ (8 ≤ q ∧ q < 16) ∨ (t ≤ q ∧ q < t + 21))) (Off.pI (A := (fun q => q = 2 ∨ (8 ≤ q ∧ q < 16) ∨ (t ≤ q ∧ q < t + 21))) (Off.pI (A := (fun q => q = 2 ∨ (8 ≤ q ∧ q < 16) ∨ (t ≤ q ∧ q < t + 21))) Off.rf (by omega) _ _) (by omega) _ _) (by omega) _ _) (by omega) _ _) (o137.mo (fun q h => by omega))) (by omega) _ _, hs137.st (n + 3), by rw [hI_sI, if_neg (by omega), o137.I (by omega)]; simp [hI_sI]; try omega, by rw [hI_sI, if_neg (by omega), o137.I (by omega)]; simp [hI_sI]; try omega, (TxP.per hT3 ht24 n137 o137).st2 ht24, (by rw [hI_sI, if_neg (by omega), o137.I (by omega)]; (repeat rw [hI_sI, if_neg (by omega)]); exact hbg)⟩, rfl⟩
      · skip
        refine xq_aload_n dX6_personLine_89 rfl rfl ?_
        refine xq_getF clX6 (by decide) rfl fl_RX6_9 dX6_personLine_90 (Fx.s7 hF) (Fx.r7_0 hF) ?_
        refine xq_iconst dX6_personLine_93 ic5 ?_
        refine xq_callV1H clX9 gd_X9_fail dX6_personLine_94 ml_RX6_71 im_X9_fail se_X9_fail rfl (Fx.s2 hF) (by exact Nat.le_of_ble_eq_true rfl) (by decide) (c_fail hF hs3 hk (by omega) (c := 5) (by decide)) ?_
        intro x94 H94 p94
        obtain ⟨rfl, q94⟩ := p94
        refine xq_zret dX6_personLine_97 rfl (by decide) ?_
        have hc : ¬ 6 ≤ tNp T := of_decide_eq_false h7
        have hfr : ¬ freB s (n + 1) (tPn T) (tNp T) = false := by rw [← e34, h37]; decide
        have hz1 : ¬ knoZ s (n + 2) (tCn T) (tNc T) = -1 := by rw [hz]; omega
        have hz2 : (knoZ s (n + 2) (tCn T) (tNc T)).toNat = f := by rw [hz]; rfl
        have e : perR s n T = .inl (5, n + 2) := (if_neg hc).trans ((if_neg hfr).trans ((if_neg hz1).trans (if_pos (by rw [hz2]; omega))))
        rw [e]
        exact ⟨false, H94, ⟨rfl, Off.tr (Off.pI (A := (fun q => q = 2 ∨ (8 ≤ q ∧ q < 16) ∨ (t ≤ q ∧ q < t + 21))) (Off.pI (A := (fun q => q = 2 ∨ (8 ≤ q ∧ q < 16) ∨ (t ≤ q ∧ q < t + 21))) Off.rf (by omega) _ _) (by omega) _ _) (q94.2.2.2.mo (fun q h => Or.inl h)), q94.1, q94.2.1, (q94.2.2.1 6 (by decide) (by decide)).trans (by simp [hI_sI])⟩, rfl⟩
    · skip
      refine xq_iconst dX6_personLine_40 ic0 ?_
      refine xq_zret dX6_personLine_41 rfl (by decide) ?_
      have hc : ¬ 6 ≤ tNp T := of_decide_eq_false h7
      have hf : x34 = false := by simpa using h37
      have q := r34 hf
      have e : perR s n T = .inl (freF s (n + 1), n + 1) := (if_neg hc).trans (if_pos (e34.symm.trans hf))
      rw [e]
      exact ⟨false, H34, ⟨rfl, Off.tr (Off.pI (A := (fun q => q = 2 ∨ (8 ≤ q ∧ q < 16) ∨ (t ≤ q ∧ q < t + 21))) Off.rf (by omega) _ _) (q.2.2.2.mo (fun q h => Or.inl h)), q.1, q.2.1, (q.2.2.1 6 (by decide) (by decide)).trans (by simp [hI_sI])⟩, rfl⟩
  · skip
    refine xq_aload_n dX6_personLine_10 rfl rfl ?_
    refine xq_getF clX6 (by decide) rfl fl_RX6_9 dX6_personLine_11 (Fx.s7 hF) (Fx.r7_0 hF) ?_
    refine xq_iconst dX6_personLine_14 ic2 ?_
    refine xq_callV1H clX9 gd_X9_fail dX6_personLine_15 ml_RX6_71 im_X9_fail se_X9_fail rfl (Fx.s2 hF) (by exact Nat.le_of_ble_eq_true rfl) (by decide) (c_fail hF hs hk (by omega) (c := 2) (by decide)) ?_
    intro x15 H15 p15
    obtain ⟨rfl, q15⟩ := p15
    refine xq_zret dX6_personLine_18 rfl (by decide) ?_
    have e : perR s n T = .inl (2, n) := if_pos (of_decide_eq_true h7)
    rw [e]
    exact ⟨false, H15, ⟨rfl, q15.2.2.2.mo (fun q h => Or.inl h), q15.1, q15.2.1, q15.2.2.1 6 (by decide) (by decide)⟩, rfl⟩
theorem c_personLine (hF : gFx S) (ht : gTx S t) (ht24 : 24 ≤ t) (ht45 : t ≤ 45) (hs : TrP H s n) (hk : TrOk s) (hn : n ≤ 790) (hT : TxP H t T) (hbg : hI H (t + 7) 4 = nI (tNk T)) (hnp : tNp T ≤ 6) (hnc : tNc T ≤ 3) (hht : ∀ k, k < tNp T → tHt T k < 3) (hst6 : ∀ k, k < tNc T → tSt T k ≤ 6) : Hv mX6_personLine 2 [.ref 7, .ref t] S H vB (fun x H' => x = lnB (perR s n T) ∧ LnQ H H' t s (perR s n T)) := by
  rcases knoZ_r s (n + 2) (tCn T) (tNc T) with hz | ⟨f, hf, -, hz⟩
  · exact c_personLine0 hF ht ht24 ht45 hs hk hn hT hbg hnp hnc hht hst6 hz
  · exact c_personLine1 hF ht ht24 ht45 hs hk hn hT hbg hnp hnc hht hst6 hz hf
end LL
