/-! ===== Reader: tell ===== -/
section LJ
variable {S : xS} {H H1 : xH} {k p q f i j l m n c t v : Nat} {s : uTk} {T : uTx} {cd : Nat → Nat} {sz : Nat}
theorem knoZ_r (s : uTk) (n : Nat) (cd : Nat → Nat) (sz : Nat) : knoZ s n cd sz = -1 ∨ ∃ f, f < sz ∧ kK s n = 39 ∧ knoZ s n cd sz = (f : Nat) := by
  unfold knoZ
  by_cases e : kK s n = 39
  · rw [if_pos e]
    unfold fdz
    by_cases h : fnd (fun j => decide (nI (cd j) = nI (kV s n))) sz < sz
    · rw [if_pos h]; exact Or.inr ⟨_, h, e, rfl⟩
    · rw [if_neg h]; exact Or.inl rfl
  · rw [if_neg e]; exact Or.inl rfl
theorem c_known1 (hF : gFx S) (hs : TrP H s n) (hk : TrOk s) (hn : n ≤ 800) (hg : gNm S m c) (hnm : NmP H m sz cd) (hsz : sz ≤ c) (hc : c ≤ 10) (hz : knoZ s n cd sz = (f : Nat)) : Pv mX9_known 1 [.ref 2, .ref m] S H (vN f) := by
  obtain ⟨R, ⟨x, H', ⟨h1, h2, h3⟩, hR⟩, hE⟩ := c_known hF hs hk hn hg hnm hsz hc
  have hx : x = (f : Int) := h1.trans hz
  have hH := h2 (by omega)
  subst hH
  rw [hR, hx] at hE
  exact hE
theorem c_known0 (hF : gFx S) (hs : TrP H s n) (hk : TrOk s) (hn : n ≤ 800) (hg : gNm S m c) (hnm : NmP H m sz cd) (hsz : sz ≤ c) (hc : c ≤ 10) (hz : knoZ s n cd sz = -1) : Hv mX9_known 1 [.ref 2, .ref m] S H vZ (fun (x : Int) H' => x = -1 ∧ FaQ H H' s n (knoF s n)) := by
  obtain ⟨R, ⟨x, H', ⟨h1, h2, h3⟩, hR⟩, hE⟩ := c_known hF hs hk hn hg hnm hsz hc
  have hx : x = -1 := h1.trans hz
  exact ⟨R, ⟨x, H', ⟨hx, h3 (by omega)⟩, hR⟩, hE⟩
def telT (T : uTx) (f v : Nat) : uTx := setT (setT (setT T 11 (tNt T) f) 12 (tNt T) v) 0 4 (tNt T + 1)
def telR (s : uTk) (n : Nat) (T : uTx) : rLn := if 12 ≤ tNt T then .inl (2, n) else if knoZ s (n + 1) (tFn T) (tNf T) = -1 then .inl (knoF s (n + 1), n + 1) else if numB s (n + 2) 99 = false then .inl (numF s (n + 2), n + 2) else .inr (n + 3, telT T (knoZ s (n + 1) (tFn T) (tNf T)).toNat (kV s (n + 2)))
theorem TxP.tel (h : TxP H t T) (ht24 : 24 ≤ t)  : TxP (sI (sI (sI H (t + 16) (tNt T) (nI f)) (t + 17) (tNt T) (nI v)) t 9 (nI (tNt T + 1))) t (telT T f v) := by
  obtain ⟨h1, h2, h3, h4, h5, h6, h7, h8, h9, h10, h11, h12, h13, h14, h15, h16, h17⟩ := h
  exact ⟨(by rw [hI_sI, if_neg (by omega)]; rw [hI_sI, if_neg (by omega)]; rw [hI_sI, if_neg (by omega)]; exact h1), (by rw [hI_sI, if_neg (by omega)]; rw [hI_sI, if_neg (by omega)]; rw [hI_sI, if_neg (by omega)]; exact h2), (by rw [hI_sI, if_neg (by omega)]; rw [hI_sI, if_neg (by omega)]; rw [hI_sI, if_neg (by omega)]; exact h3), (by rw [hI_sI, if_neg (by omega)]; rw [hI_sI, if_neg (by omega)]; rw [hI_sI, if_neg (by omega)]; exact h4), (fun k hk => ⟨by rw [hI_sI, if_neg (by omega)]; rw [hI_sI, if_neg (by omega)]; rw [hI_sI, if_neg (by omega)]; exact (h5 k hk).1, by rw [hI_sI, if_neg (by omega)]; rw [hI_sI, if_neg (by omega)]; rw [hI_sI, if_neg (by omega)]; exact (h5 k hk).2.1, by rw [hI_sI, if_neg (by omega)]; rw [hI_sI, if_neg (by omega)]; rw [hI_sI, if_neg (by omega)]; exact (h5 k hk).2.2⟩), (fun k hk => ⟨by rw [hI_sI, if_neg (by omega)]; rw [hI_sI, if_neg (by omega)]; rw [hI_sI, if_neg (by omega)]; exact (h6 k hk).1, by rw [hI_sI, if_neg (by omega)]; rw [hI_sI, if_neg (by omega)]; rw [hI_sI, if_neg (by omega)]; exact (h6 k hk).2⟩), (fun k hk => ⟨by rw [hI_sI, if_neg (by omega)]; rw [hI_sI, if_neg (by omega)]; rw [hI_sI, if_neg (by omega)]; exact (h7 k hk).1, by rw [hI_sI, if_neg (by omega)]; rw [hI_sI, if_neg (by omega)]; rw [hI_sI, if_neg (by omega)]; exact (h7 k hk).2⟩), (fun k hk => by rw [hI_sI, if_neg (by omega)]; rw [hI_sI, if_neg (by omega)]; rw [hI_sI, if_neg (by omega)]; exact (h8 k hk)), (fun k hk => ⟨by rw [hI_sI, if_neg (by omega)]; rw [hI_sI, if_neg (by omega)]; rw [hI_sI, if_neg (by omega)]; exact (h9 k hk).1, by rw [hI_sI, if_neg (by omega)]; rw [hI_sI, if_neg (by omega)]; rw [hI_sI, if_neg (by omega)]; exact (h9 k hk).2.1, (h9 k hk).2.2⟩), (by rw [hI_sI, if_pos ⟨rfl, rfl⟩]; rfl), (fun k hk => by
    have hk : k < tNt T + 1 := hk
    have e1 : tTf (telT T f v) k = if k = tNt T then f else tTf T k := by
      show (if 11 = 0 ∧ k = 4 then tNt T + 1 else if 11 = 12 ∧ k = tNt T then v else if 11 = 11 ∧ k = tNt T then f else tTf T k) = _
      rw [if_neg (by omega), if_neg (by omega)]
      by_cases e : k = tNt T
      · rw [if_pos ⟨rfl, e⟩, if_pos e]
      · rw [if_neg (fun z => e z.2), if_neg e]
    have e2 : tTh (telT T f v) k = if k = tNt T then v else tTh T k := by
      show (if 12 = 0 ∧ k = 4 then tNt T + 1 else if 12 = 12 ∧ k = tNt T then v else if 12 = 11 ∧ k = tNt T then f else tTh T k) = _
      rw [if_neg (by omega)]
      by_cases e : k = tNt T
      · rw [if_pos ⟨rfl, e⟩, if_pos e]
      · rw [if_neg (fun z => e z.2), if_neg (by omega), if_neg e]
    refine ⟨?_, ?_⟩
    · rw [e1, hI_sI, if_neg (by omega), hI_sI, if_neg (by omega), hI_sI]
      by_cases e : k = tNt T
      · rw [if_pos ⟨rfl, e⟩, if_pos e]
      · rw [if_neg (fun z => e z.2), if_neg e]; exact (h11 k (by omega)).1
    · rw [e2, hI_sI, if_neg (by omega), hI_sI]
      by_cases e : k = tNt T
      · rw [if_pos ⟨rfl, e⟩, if_pos e]
      · rw [if_neg (fun z => e z.2), if_neg e, hI_sI, if_neg (by omega)]; exact (h11 k (by omega)).2), (by rw [hI_sI, if_neg (by omega)]; rw [hI_sI, if_neg (by omega)]; rw [hI_sI, if_neg (by omega)]; exact h12), (fun k hk => by rw [hI_sI, if_neg (by omega)]; rw [hI_sI, if_neg (by omega)]; rw [hI_sI, if_neg (by omega)]; exact (h13 k hk)), (fun k hk => ⟨(h14 k hk).1, fun e => by rw [hI_sI, if_neg (by omega)]; rw [hI_sI, if_neg (by omega)]; rw [hI_sI, if_neg (by omega)]; exact (h14 k hk).2 e⟩), (by rw [hI_sI, if_neg (by omega)]; rw [hI_sI, if_neg (by omega)]; rw [hI_sI, if_neg (by omega)]; exact h15), (by rw [hI_sI, if_neg (by omega)]; rw [hI_sI, if_neg (by omega)]; rw [hI_sI, if_neg (by omega)]; exact h16), (by rw [hI_sI, if_neg (by omega)]; rw [hI_sI, if_neg (by omega)]; rw [hI_sI, if_neg (by omega)]; exact h17)⟩
theorem c_tellLine0 (hF : gFx S) (ht : gTx S t) (ht24 : 24 ≤ t) (ht45 : t ≤ 45) (hs : TrP H s n) (hk : TrOk s) (hn : n ≤ 790) (hT : TxP H t T) (hbg : hI H (t + 7) 4 = nI (tNk T)) (hnt : tNt T ≤ 12) (hnf : tNf T ≤ 8) (hz : knoZ s (n + 1) (tFn T) (tNf T) = -1) : Hv mX6_tellLine 2 [.ref 7, .ref t] S H vB (fun x H' => x = lnB (telR s n T) ∧ LnQ H H' t s (telR s n T)) := by
  have hk0 := hk.1
  have hkv := kV_le (n := n + 2) hk
  have hs2 := hs.st (n + 1)
  have hs3 := hs2.st (n + 2)
  have hT2 : TxP (sI H 2 5 (nI (n + 1))) t T := hT.st2 ht24
  have hT3 : TxP (sI (sI H 2 5 (nI (n + 1))) 2 5 (nI (n + 2))) t T := hT2.st2 ht24
  refine vq_intro (by decide) (by exact Nat.le_of_ble_eq_true rfl) rfl ?_
  refine xq_aload_n dX6_tellLine_0 rfl rfl ?_
  refine xq_getIE clX8 (by decide) rfl fl_RX6_132 dX6_tellLine_1 (Tx.s0 ht) hT.nt ?_
  refine xq_bipush dX6_tellLine_4 bp12 ?_
  refine xq_icmp_ltN dX6_tellLine_6 rfl (by omega) (by omega) ⟨fun h6 => ?_, fun h6 => ?_⟩
  · skip
    refine xq_aload_n dX6_tellLine_18 rfl rfl ?_
    refine xq_getF clX6 (by decide) rfl fl_RX6_9 dX6_tellLine_19 (Fx.s7 hF) (Fx.r7_0 hF) ?_
    refine xq_callV0N clX9 gd_X9_step dX6_tellLine_22 ml_RX6_84 im_X9_step se_X9_step rfl (Fx.s2 hF) (by exact Nat.le_of_ble_eq_true rfl) (by decide) (c_step hF hs hk (by omega)) ?_
    intro H22 p22
    subst p22
    refine xq_aload_n dX6_tellLine_25 rfl rfl ?_
    refine xq_getF clX6 (by decide) rfl fl_RX6_9 dX6_tellLine_26 (Fx.s7 hF) (Fx.r7_0 hF) ?_
    refine xq_aload_n dX6_tellLine_29 rfl rfl ?_
    refine xq_getF clX8 (by decide) rfl fl_RX6_135 dX6_tellLine_30 (Tx.s0 ht) (Tx.r2 ht) ?_
    refine xq_callV1H clX9 gd_X9_known dX6_tellLine_33 ml_RX6_112 im_X9_known se_X9_known rfl (Fx.s2 hF) (by exact Nat.le_of_ble_eq_true rfl) (by decide) (c_known0 hF hs2 hk (by omega) (Tx.n5 ht) hT2.nmf (by omega) (by decide) hz) ?_
    intro x33 H33 p33
    obtain ⟨rfl, q33⟩ := p33
    refine xq_istore_n dX6_tellLine_36 rfl rfl ?_
    refine xq_iload_n dX6_tellLine_37 rfl rfl ?_
    refine xq_if_ge dX6_tellLine_38 rfl ⟨fun h38 => ?_, fun h38 => ?_⟩
    · skip
      exact absurd h38 (by decide)
    · skip
      refine xq_iconst dX6_tellLine_41 ic0 ?_
      refine xq_zret dX6_tellLine_42 rfl (by decide) ?_
      have e : telR s n T = .inl (knoF s (n + 1), n + 1) := (if_neg (by omega)).trans (if_pos hz)
      rw [e]
      exact ⟨false, H33, ⟨rfl, Off.tr (Off.pI (A := (fun q => q = 2 ∨ (8 ≤ q ∧ q < 16) ∨ (t ≤ q ∧ q < t + 21))) Off.rf (by omega) _ _) (q33.2.2.2.mo (fun q h => Or.inl h)), q33.1, q33.2.1, (q33.2.2.1 6 (by decide) (by decide)).trans (by rw [hI_sI, if_neg (by omega)])⟩, rfl⟩
  · skip
    refine xq_aload_n dX6_tellLine_9 rfl rfl ?_
    refine xq_getF clX6 (by decide) rfl fl_RX6_9 dX6_tellLine_10 (Fx.s7 hF) (Fx.r7_0 hF) ?_
    refine xq_iconst dX6_tellLine_13 ic2 ?_
    refine xq_callV1H clX9 gd_X9_fail dX6_tellLine_14 ml_RX6_71 im_X9_fail se_X9_fail rfl (Fx.s2 hF) (by exact Nat.le_of_ble_eq_true rfl) (by decide) (c_fail hF hs hk (by omega) (c := 2) (by decide)) ?_
    intro x14 H14 p14
    obtain ⟨rfl, q14⟩ := p14
    refine xq_zret dX6_tellLine_17 rfl (by decide) ?_
    have e : telR s n T = .inl (2, n) := if_pos (by omega)
    rw [e]
    exact ⟨false, H14, ⟨rfl, q14.2.2.2.mo (fun q h => Or.inl h), q14.1, q14.2.1, q14.2.2.1 6 (by decide) (by decide)⟩, rfl⟩
theorem c_tellLine1 (hF : gFx S) (ht : gTx S t) (ht24 : 24 ≤ t) (ht45 : t ≤ 45) (hs : TrP H s n) (hk : TrOk s) (hn : n ≤ 790) (hT : TxP H t T) (hbg : hI H (t + 7) 4 = nI (tNk T)) (hnt : tNt T ≤ 12) (hnf : tNf T ≤ 8) (hz : knoZ s (n + 1) (tFn T) (tNf T) = (f : Nat)) (hf8 : f < 8) : Hv mX6_tellLine 2 [.ref 7, .ref t] S H vB (fun x H' => x = lnB (telR s n T) ∧ LnQ H H' t s (telR s n T)) := by
  have hk0 := hk.1
  have hkv := kV_le (n := n + 2) hk
  have hs2 := hs.st (n + 1)
  have hs3 := hs2.st (n + 2)
  have hT2 : TxP (sI H 2 5 (nI (n + 1))) t T := hT.st2 ht24
  have hT3 : TxP (sI (sI H 2 5 (nI (n + 1))) 2 5 (nI (n + 2))) t T := hT2.st2 ht24
  refine vq_intro (by decide) (by exact Nat.le_of_ble_eq_true rfl) rfl ?_
  refine xq_aload_n dX6_tellLine_0 rfl rfl ?_
  refine xq_getIE clX8 (by decide) rfl fl_RX6_132 dX6_tellLine_1 (Tx.s0 ht) hT.nt ?_
  refine xq_bipush dX6_tellLine_4 bp12 ?_
  refine xq_icmp_ltN dX6_tellLine_6 rfl (by omega) (by omega) ⟨fun h6 => ?_, fun h6 => ?_⟩
  · skip
    refine xq_aload_n dX6_tellLine_18 rfl rfl ?_
    refine xq_getF clX6 (by decide) rfl fl_RX6_9 dX6_tellLine_19 (Fx.s7 hF) (Fx.r7_0 hF) ?_
    refine xq_callV0N clX9 gd_X9_step dX6_tellLine_22 ml_RX6_84 im_X9_step se_X9_step rfl (Fx.s2 hF) (by exact Nat.le_of_ble_eq_true rfl) (by decide) (c_step hF hs hk (by omega)) ?_
    intro H22 p22
    subst p22
    refine xq_aload_n dX6_tellLine_25 rfl rfl ?_
    refine xq_getF clX6 (by decide) rfl fl_RX6_9 dX6_tellLine_26 (Fx.s7 hF) (Fx.r7_0 hF) ?_
    refine xq_aload_n dX6_tellLine_29 rfl rfl ?_
    refine xq_getF clX8 (by decide) rfl fl_RX6_135 dX6_tellLine_30 (Tx.s0 ht) (Tx.r2 ht) ?_
    refine xq_callV1P clX9 gd_X9_known dX6_tellLine_33 ml_RX6_112 im_X9_known se_X9_known rfl (Fx.s2 hF) (by exact Nat.le_of_ble_eq_true rfl) (by decide) (c_known1 hF hs2 hk (by omega) (Tx.n5 ht) hT2.nmf (by omega) (by decide) hz) ?_
    refine xq_istore_n dX6_tellLine_36 rfl rfl ?_
    refine xq_iload_n dX6_tellLine_37 rfl rfl ?_
    refine xq_if_geN dX6_tellLine_38 rfl (by omega) ?_
    refine xq_aload_n dX6_tellLine_43 rfl rfl ?_
    refine xq_getF clX6 (by decide) rfl fl_RX6_9 dX6_tellLine_44 (Fx.s7 hF) (Fx.r7_0 hF) ?_
    refine xq_callV0N clX9 gd_X9_step dX6_tellLine_47 ml_RX6_84 im_X9_step se_X9_step rfl (Fx.s2 hF) (by exact Nat.le_of_ble_eq_true rfl) (by decide) (c_step hF hs2 hk (by omega)) ?_
    intro H47 p47
    subst p47
    refine xq_aload_n dX6_tellLine_50 rfl rfl ?_
    refine xq_getF clX6 (by decide) rfl fl_RX6_9 dX6_tellLine_51 (Fx.s7 hF) (Fx.r7_0 hF) ?_
    refine xq_bipush dX6_tellLine_54 bp99 ?_
    refine xq_callV1H clX9 gd_X9_isNumber dX6_tellLine_56 ml_RX6_94 im_X9_isNumber se_X9_isNumber rfl (Fx.s2 hF) (by exact Nat.le_of_ble_eq_true rfl) (by decide) (c_isNumber hF hs3 hk (by omega) (m := 99) (by decide)) ?_
    intro x56 H56 p56
    obtain ⟨e56, q56, r56⟩ := p56
    refine xq_if_neB dX6_tellLine_59 rfl ⟨fun h59 => ?_, fun h59 => ?_⟩
    · skip
      have ee := q56 h59
      subst ee
      refine xq_aload_n dX6_tellLine_64 rfl rfl ?_
      refine xq_getF clX8 (by decide) rfl fl_RX6_138 dX6_tellLine_65 (Tx.s0 ht) (Tx.r10 ht) ?_
      refine xq_aload_n dX6_tellLine_68 rfl rfl ?_
      refine xq_getIE clX8 (by decide) rfl fl_RX6_132 dX6_tellLine_69 (Tx.s0 ht) hT3.nt ?_
      refine xq_iload_n dX6_tellLine_72 rfl rfl ?_
      refine xq_iastN dX6_tellLine_73 (Tx.s16 ht) (by omega) (by decide) ?_
      refine xq_aload_n dX6_tellLine_74 rfl rfl ?_
      refine xq_getF clX8 (by decide) rfl fl_RX6_141 dX6_tellLine_75 (Tx.s0 ht) (Tx.r11 ht) ?_
      refine xq_aload_n dX6_tellLine_78 rfl rfl ?_
      refine xq_getIE (v := nI (tNt T)) clX8 (by decide) rfl fl_RX6_132 dX6_tellLine_79 (Tx.s0 ht) (by rw [hI_sI, if_neg (by omega)]; exact hT3.nt) ?_
      refine xq_aload_n dX6_tellLine_82 rfl rfl ?_
      refine xq_getF clX6 (by decide) rfl fl_RX6_9 dX6_tellLine_83 (Fx.s7 hF) (Fx.r7_0 hF) ?_
      refine xq_callV0P clX9 gd_X9_value dX6_tellLine_86 ml_RX6_91 im_X9_value se_X9_value rfl (Fx.s2 hF) (by exact Nat.le_of_ble_eq_true rfl) (by decide) (c_value hF (hs3.pI (by omega) _ _) hk (by omega)) ?_
      refine xq_iastN dX6_tellLine_89 (Tx.s17 ht) (by omega) (by decide) ?_
      refine xq_aload_n dX6_tellLine_90 rfl rfl ?_
      refine xq_dup dX6_tellLine_91 rfl ?_
      refine xq_getIE (v := nI (tNt T)) clX8 (by decide) rfl fl_RX6_132 dX6_tellLine_92 (Tx.s0 ht) (by rw [hI_sI, if_neg (by omega), hI_sI, if_neg (by omega)]; exact hT3.nt) ?_
      refine xq_iconst dX6_tellLine_95 ic1 ?_
      refine xq_iaddN dX6_tellLine_96 ?_
      refine xq_putI clX8 (by decide) rfl fl_RX6_132 (Or.inl rfl) dX6_tellLine_97 ⟨rfl, rfl⟩ (Tx.s0 ht) ?_
      refine xq_aload_n dX6_tellLine_100 rfl rfl ?_
      refine xq_getF clX6 (by decide) rfl fl_RX6_9 dX6_tellLine_101 (Fx.s7 hF) (Fx.r7_0 hF) ?_
      refine xq_callV0N clX9 gd_X9_step dX6_tellLine_104 ml_RX6_84 im_X9_step se_X9_step rfl (Fx.s2 hF) (by exact Nat.le_of_ble_eq_true rfl) (by decide) (c_step hF (((hs3.pI (by omega) _ _).pI (by omega) _ _).pI (by omega) _ _) hk (by omega)) ?_
      intro H104 p104
      subst p104
      refine xq_iconst dX6_tellLine_107 ic1 ?_
      refine xq_zret dX6_tellLine_108 rfl (by decide) ?_
      have hz1 : ¬ knoZ s (n + 1) (tFn T) (tNf T) = -1 := by rw [hz]; omega
      have e : telR s n T = .inr (n + 3, telT T f (kV s (n + 2))) := (if_neg (by omega)).trans ((if_neg hz1).trans ((if_neg (by rw [← e56, h59]; decide)).trans (by rw [hz]; rfl)))
      rw [e]
      exact ⟨true, _, ⟨rfl, (Off.pI (A := (fun q => q = 2 ∨ (8 ≤ q ∧ q < 16) ∨ (t ≤ q ∧ q < t + 21))) (Off.pI (A := (fun q => q = 2 ∨ (8 ≤ q ∧ q < 16) ∨ (t ≤ q ∧ q < t + 21))) (Off.pI (A := (fun q => q = 2 ∨ (8 ≤ q ∧ q < 16) ∨ (t ≤ q ∧ q < t + 21))) (Off.pI (A := (fun q => q = 2 ∨ (8 ≤ q ∧ q < 16) ∨ (t ≤ q ∧ q < t + 21))) (Off.pI (A := (fun q => q = 2 ∨ (8 ≤ q ∧ q < 16) ∨ (t ≤ q ∧ q < t + 21))) (Off.pI (A := (fun q => q = 2 ∨ (8 ≤ q ∧ q < 16) ∨ (t ≤ q ∧ q < t + 21))) Off.rf (by omega) _ _) (by omega) _ _) (by omega) _ _) (by omega) _ _) (by omega) _ _) (by omega) _ _), (((hs3.pI (by omega) _ _).pI (by omega) _ _).pI (by omega) _ _).st (n + 3), by simp [hI_sI]; try omega, by simp [hI_sI]; try omega, (TxP.tel hT3 ht24).st2 ht24, (by (repeat rw [hI_sI, if_neg (by omega)]); exact hbg)⟩, rfl⟩
    · skip
      refine xq_iconst dX6_tellLine_62 ic0 ?_
      refine xq_zret dX6_tellLine_63 rfl (by decide) ?_
      have hz1 : ¬ knoZ s (n + 1) (tFn T) (tNf T) = -1 := by rw [hz]; omega
      have hf : x56 = false := by simpa using h59
      have q := r56 hf
      have e : telR s n T = .inl (numF s (n + 2), n + 2) := (if_neg (by omega)).trans ((if_neg hz1).trans (if_pos (e56.symm.trans hf)))
      rw [e]
      exact ⟨false, H56, ⟨rfl, Off.tr (Off.pI (A := (fun q => q = 2 ∨ (8 ≤ q ∧ q < 16) ∨ (t ≤ q ∧ q < t + 21))) (Off.pI (A := (fun q => q = 2 ∨ (8 ≤ q ∧ q < 16) ∨ (t ≤ q ∧ q < t + 21))) Off.rf (by omega) _ _) (by omega) _ _) (q.2.2.2.mo (fun q h => Or.inl h)), q.1, q.2.1, (q.2.2.1 6 (by decide) (by decide)).trans (by simp [hI_sI])⟩, rfl⟩
  · skip
    refine xq_aload_n dX6_tellLine_9 rfl rfl ?_
    refine xq_getF clX6 (by decide) rfl fl_RX6_9 dX6_tellLine_10 (Fx.s7 hF) (Fx.r7_0 hF) ?_
    refine xq_iconst dX6_tellLine_13 ic2 ?_
    refine xq_callV1H clX9 gd_X9_fail dX6_tellLine_14 ml_RX6_71 im_X9_fail se_X9_fail rfl (Fx.s2 hF) (by exact Nat.le_of_ble_eq_true rfl) (by decide) (c_fail hF hs hk (by omega) (c := 2) (by decide)) ?_
    intro x14 H14 p14
    obtain ⟨rfl, q14⟩ := p14
    refine xq_zret dX6_tellLine_17 rfl (by decide) ?_
    have e : telR s n T = .inl (2, n) := if_pos (by omega)
    rw [e]
    exact ⟨false, H14, ⟨rfl, q14.2.2.2.mo (fun q h => Or.inl h), q14.1, q14.2.1, q14.2.2.1 6 (by decide) (by decide)⟩, rfl⟩
theorem c_tellLine (hF : gFx S) (ht : gTx S t) (ht24 : 24 ≤ t) (ht45 : t ≤ 45) (hs : TrP H s n) (hk : TrOk s) (hn : n ≤ 790) (hT : TxP H t T) (hbg : hI H (t + 7) 4 = nI (tNk T)) (hnt : tNt T ≤ 12) (hnf : tNf T ≤ 8) : Hv mX6_tellLine 2 [.ref 7, .ref t] S H vB (fun x H' => x = lnB (telR s n T) ∧ LnQ H H' t s (telR s n T)) := by
  rcases knoZ_r s (n + 1) (tFn T) (tNf T) with hz | ⟨f, hf, -, hz⟩
  · exact c_tellLine0 hF ht ht24 ht45 hs hk hn hT hbg hnt hnf hz
  · exact c_tellLine1 hF ht ht24 ht45 hs hk hn hT hbg hnt hnf hz (by omega)
end LJ
