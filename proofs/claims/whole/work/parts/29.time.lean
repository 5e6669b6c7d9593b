/-! ===== HatRoom: keep, back, undo, go, ahead ===== -/
section TI
variable {S : xS} {H H1 : xH} {t z k p q f i j l m n ps pn : Nat} {u ui : uSt} {T : uTx} {w w2 w3 : Int32} {A : Nat → Option Nat} {ow mu : Int}
theorem c_setT (hF : gFx S) : Nv mX0_set 0 [.ref 66, .ref t, vN 1, .int (zI ow), .int (zI mu)] S H (fun H' => CoP H' t true ow mu ∧ Off (fun q => q = 66) H H') := c_set (dr := true) hF
theorem c_setF (hF : gFx S) : Nv mX0_set 0 [.ref 66, .ref t, vN 0, .int (zI ow), .int (zI mu)] S H (fun H' => CoP H' t false ow mu ∧ Off (fun q => q = 66) H H') := c_set (dr := false) hF
theorem c_keep (hr : RdP S H t T u z) : Hv mX10_keep 3 [.ref 0] S H vN (fun x H' => x = uHr u ∧ StP H' 77 u ∧ hI H' 0 12 = bI true ∧ RoF H H' (fun k => k ≠ 12) ∧ Off (fun q => q = 0 ∨ (77 ≤ q ∧ q < 82)) H H') := by
  have hF := hr.fx; have hT := hr.tx; have tk := hr.tk; have hu := hr.st; have ok := hr.ok; have hm := hr.mi; have ht := hr.gt; have ht24 := hr.t24; have ht45 := hr.t45; have hz := ok.n; have hnp := ok.np; have hrl := ok.rl; have hnpe := hr.np; have h67 : 67 ≤ 67 := Nat.le_refl _; have ha := Fx.g67 hF; have hzz := hr.zb
  refine vq_intro (by decide) (by exact Nat.le_of_ble_eq_true rfl) rfl ?_
  refine xq_aload_n dX10_keep_0 rfl rfl ?_
  refine xq_getF clX10 (by decide) rfl fl_RX10_74 dX10_keep_1 (Fx.s0 hF) (Fx.r0_11 hF) ?_
  refine xq_aload_n dX10_keep_4 rfl rfl ?_
  refine xq_getF clX10 (by decide) rfl fl_RX10_67 dX10_keep_5 (Fx.s0 hF) (Fx.r0_9 hF) ?_
  refine xq_callV1N clX7 gd_X7_copy dX10_keep_8 ml_RX10_226 im_X7_copy se_X7_copy rfl (St.s0 (Fx.g77 hF)) (by exact Nat.le_of_ble_eq_true rfl) (by decide) (c_copy (Fx.g77 hF) ha (by omega) hu ok) ?_
  intro H8 p8
  refine xq_aload_n dX10_keep_11 rfl rfl ?_
  refine xq_iconst dX10_keep_12 ic1 ?_
  refine xq_putI clX10 (by decide) rfl fl_RX10_101 (Or.inl rfl) dX10_keep_13 ⟨rfl, rfl⟩ (Fx.s0 hF) ?_
  refine xq_aload_n dX10_keep_16 rfl rfl ?_
  refine xq_getF clX10 (by decide) rfl fl_RX10_67 dX10_keep_17 (Fx.s0 hF) (Fx.r0_9 hF) ?_
  refine xq_getIE (v := nI (uHr u)) clX7 (by decide) rfl fl_RX10_260 dX10_keep_20 (St.s0 (Fx.g67 hF)) (by rw [hI_sI, if_neg (by omega)]; exact (p8.2.I (by omega) 10).trans hu.f10) ?_
  refine xq_iret dX10_keep_23 rfl ?_
  refine ⟨_, _, ⟨rfl, p8.1.off (Off.pI (A := fun q => q = 0) Off.rf rfl _ _) (fun j hj => by omega), by simp [hI_sI]; rfl, ⟨fun k hk => ?_, fun k => (hR_sI _ _ _ _ _ _).trans (p8.2.R (by omega) k)⟩, Off.pI (A := fun q => q = 0 ∨ (77 ≤ q ∧ q < 82)) (p8.2.mo (fun q h => by omega)) (by omega) _ _⟩, rfl⟩
  rw [hI_sI, if_neg (fun e => hk e.2)]; exact p8.2.I (by omega) k
theorem c_back0 (hF : gFx S) (hk : hI H 0 12 = bI false) : Pv mX10_back 3 [.ref 0] S H (vZ (-1)) := by
  refine vq_ev (vq_intro (by decide) (by exact Nat.le_of_ble_eq_true rfl) rfl ?_)
  refine xq_aload_n dX10_back_0 rfl rfl ?_
  refine xq_getIE clX10 (by decide) rfl fl_RX10_101 dX10_back_1 (Fx.s0 hF) hk ?_
  refine xq_if_neB dX10_back_4 rfl ⟨fun h4 => ?_, fun h4 => ?_⟩
  · skip
    cases h4
  · skip
    refine xq_iconst dX10_back_7 icm1 ?_
    refine xq_iret dX10_back_8 rfl ?_
    show _ = _; rw [zm1]
theorem c_back1 (hr : RdP S H t T u z) (hk : hI H 0 12 = bI true) (hi : StP H 77 ui) (oki : StOk ui) : Hv mX10_back 3 [.ref 0] S H vN (fun x H' => x = uHr ui ∧ StP H' 67 ui ∧ hI H' 0 14 = nI 0 ∧ RoF H H' (fun k => k ≠ 14) ∧ Off (fun q => q = 0 ∨ (67 ≤ q ∧ q < 72)) H H') := by
  have hF := hr.fx; have hT := hr.tx; have tk := hr.tk; have hu := hr.st; have ok := hr.ok; have hm := hr.mi; have ht := hr.gt; have ht24 := hr.t24; have ht45 := hr.t45; have hz := ok.n; have hnp := ok.np; have hrl := ok.rl; have hnpe := hr.np; have h67 : 67 ≤ 67 := Nat.le_refl _; have ha := Fx.g67 hF; have hzz := hr.zb
  refine vq_intro (by decide) (by exact Nat.le_of_ble_eq_true rfl) rfl ?_
  refine xq_aload_n dX10_back_0 rfl rfl ?_
  refine xq_getIE clX10 (by decide) rfl fl_RX10_101 dX10_back_1 (Fx.s0 hF) hk ?_
  refine xq_if_neB dX10_back_4 rfl ⟨fun h4 => ?_, fun h4 => ?_⟩
  · skip
    refine xq_aload_n dX10_back_9 rfl rfl ?_
    refine xq_getF clX10 (by decide) rfl fl_RX10_67 dX10_back_10 (Fx.s0 hF) (Fx.r0_9 hF) ?_
    refine xq_aload_n dX10_back_13 rfl rfl ?_
    refine xq_getF clX10 (by decide) rfl fl_RX10_74 dX10_back_14 (Fx.s0 hF) (Fx.r0_11 hF) ?_
    refine xq_callV1N clX7 gd_X7_copy dX10_back_17 ml_RX10_226 im_X7_copy se_X7_copy rfl (St.s0 (Fx.g67 hF)) (by exact Nat.le_of_ble_eq_true rfl) (by decide) (c_copy ha (Fx.g77 hF) (by omega) hi oki) ?_
    intro H17 p17
    refine xq_aload_n dX10_back_20 rfl rfl ?_
    refine xq_iconst dX10_back_21 ic0 ?_
    refine xq_putI clX10 (by decide) rfl fl_RX10_105 (Or.inl rfl) dX10_back_22 ⟨rfl, rfl⟩ (Fx.s0 hF) ?_
    refine xq_aload_n dX10_back_25 rfl rfl ?_
    refine xq_getF clX10 (by decide) rfl fl_RX10_67 dX10_back_26 (Fx.s0 hF) (Fx.r0_9 hF) ?_
    refine xq_getIE (v := nI (uHr ui)) clX7 (by decide) rfl fl_RX10_260 dX10_back_29 (St.s0 (Fx.g67 hF)) (by rw [hI_sI, if_neg (by omega)]; exact p17.1.f10) ?_
    refine xq_iret dX10_back_32 rfl ?_
    refine ⟨_, _, ⟨rfl, p17.1.off (Off.pI (A := fun q => q = 0) Off.rf rfl _ _) (fun j hj => by omega), by simp [hI_sI], ⟨fun k hk => ?_, fun k => (hR_sI _ _ _ _ _ _).trans (p17.2.R (by omega) k)⟩, Off.pI (A := fun q => q = 0 ∨ (67 ≤ q ∧ q < 72)) (p17.2.mo (fun q h => by omega)) (by omega) _ _⟩, rfl⟩
    rw [hI_sI, if_neg (fun e => hk e.2)]; exact p17.2.I (by omega) k
  · skip
    cases h4
theorem c_undo0 (hF : gFx S) (hp : hI H 0 14 = nI 0) : Pv mX10_undo 3 [.ref 0] S H (vZ (-1)) := by
  refine vq_ev (vq_intro (by decide) (by exact Nat.le_of_ble_eq_true rfl) rfl ?_)
  refine xq_aload_n dX10_undo_0 rfl rfl ?_
  refine xq_getIE clX10 (by decide) rfl fl_RX10_105 dX10_undo_1 (Fx.s0 hF) hp ?_
  refine xq_if_gtN dX10_undo_4 rfl (by omega) ⟨fun h4 => ?_, fun h4 => ?_⟩
  · skip
    exact absurd h4 (by omega)
  · skip
    refine xq_iconst dX10_undo_7 icm1 ?_
    refine xq_iret dX10_undo_8 rfl ?_
    show _ = _; rw [zm1]
theorem c_undo1a {b : Nat} (hF : gFx S) (e14 : hI H 0 14 = nI ps) (e15 : hI H 0 15 = nI pn) (hps : 0 < ps) (hps2 : ps ≤ 20) (hpn : pn ≤ 20) (hA : hR H 82 ((pn + 19) % 20) = some b) (hgb : gSt S b) (hb : 119 ≤ b) (hu : StP H b u) (ok : StOk u) (h0 : 0 < pn) : Hv mX10_undo 3 [.ref 0] S H vN (fun x H' => x = ps - 1 ∧ StP H' 67 u ∧ hI H' 0 14 = nI (ps - 1) ∧ hI H' 0 15 = nI ((pn + 19) % 20) ∧ RoF H H' (fun k => k ≠ 14 ∧ k ≠ 15) ∧ Off (fun q => q = 0 ∨ (67 ≤ q ∧ q < 72)) H H') := by
  refine vq_intro (by decide) (by exact Nat.le_of_ble_eq_true rfl) rfl ?_
  refine xq_aload_n dX10_undo_0 rfl rfl ?_
  refine xq_getIE clX10 (by decide) rfl fl_RX10_105 dX10_undo_1 (Fx.s0 hF) e14 ?_
  refine xq_if_gtN dX10_undo_4 rfl (by omega) ⟨fun h4 => ?_, fun h4 => ?_⟩
  · skip
    refine xq_aload_n dX10_undo_9 rfl rfl ?_
    refine xq_aload_n dX10_undo_10 rfl rfl ?_
    refine xq_getIE clX10 (by decide) rfl fl_RX10_252 dX10_undo_11 (Fx.s0 hF) e15 ?_
    refine xq_if_leN dX10_undo_14 rfl (by omega) ⟨fun h14 => ?_, fun h14 => ?_⟩
    · skip
      omega
    · skip
      refine xq_aload_n dX10_undo_17 rfl rfl ?_
      refine xq_getIE clX10 (by decide) rfl fl_RX10_252 dX10_undo_18 (Fx.s0 hF) e15 ?_
      refine xq_iconst dX10_undo_21 ic1 ?_
      refine xq_isubN dX10_undo_22 (by omega) ?_
      refine xq_goto dX10_undo_23 rfl ?_
      refine xq_putI clX10 (by decide) rfl fl_RX10_252 (Or.inl rfl) dX10_undo_28 ⟨rfl, rfl⟩ (Fx.s0 hF) ?_
      refine xq_aload_n dX10_undo_31 rfl rfl ?_
      refine xq_dup dX10_undo_32 rfl ?_
      refine xq_getIE (v := nI ps) clX10 (by decide) rfl fl_RX10_105 dX10_undo_33 (Fx.s0 hF) (by rw [hI_sI, if_neg (by omega)]; exact e14) ?_
      refine xq_iconst dX10_undo_36 ic1 ?_
      refine xq_isubN dX10_undo_37 (by omega) ?_
      refine xq_putI clX10 (by decide) rfl fl_RX10_105 (Or.inl rfl) dX10_undo_38 ⟨rfl, rfl⟩ (Fx.s0 hF) ?_
      refine xq_aload_n dX10_undo_41 rfl rfl ?_
      refine xq_getIE (v := nI (pn - 1)) clX10 (by decide) rfl fl_RX10_252 dX10_undo_42 (Fx.s0 hF) (by rw [hI_sI, if_neg (by omega), hI_sI]; exact if_pos ⟨rfl, rfl⟩) ?_
      refine xq_bipush dX10_undo_45 bp20 ?_
      refine xq_icmp_geN dX10_undo_47 rfl (by omega) (by omega) ⟨fun h47 => ?_, fun h47 => ?_⟩
      · skip
        exact absurd h47 (by omega)
      · skip
        refine xq_aload_n dX10_undo_50 rfl rfl ?_
        refine xq_getF clX10 (by decide) rfl fl_RX10_77 dX10_undo_51 (Fx.s0 hF) (Fx.r0_13 hF) ?_
        refine xq_aload_n dX10_undo_54 rfl rfl ?_
        refine xq_getIE (v := nI (pn - 1)) clX10 (by decide) rfl fl_RX10_252 dX10_undo_55 (Fx.s0 hF) (by rw [hI_sI, if_neg (by omega), hI_sI]; exact if_pos ⟨rfl, rfl⟩) ?_
        refine xq_aaldN (v := some b) dX10_undo_58 (Fx.s82 hF) (by omega) (by decide) (by rw [hR_sI, hR_sI, show pn - 1 = (pn + 19) % 20 by omega]; exact hA) ?_
        skip
        refine xq_ifnull dX10_undo_59 ?_
        refine xq_aload_n dX10_undo_62 rfl rfl ?_
        refine xq_getF clX10 (by decide) rfl fl_RX10_67 dX10_undo_63 (Fx.s0 hF) (Fx.r0_9 hF) ?_
        refine xq_aload_n dX10_undo_66 rfl rfl ?_
        refine xq_getF clX10 (by decide) rfl fl_RX10_77 dX10_undo_67 (Fx.s0 hF) (Fx.r0_13 hF) ?_
        refine xq_aload_n dX10_undo_70 rfl rfl ?_
        refine xq_getIE (v := nI (pn - 1)) clX10 (by decide) rfl fl_RX10_252 dX10_undo_71 (Fx.s0 hF) (by rw [hI_sI, if_neg (by omega), hI_sI]; exact if_pos ⟨rfl, rfl⟩) ?_
        refine xq_aaldN (v := some b) dX10_undo_74 (Fx.s82 hF) (by omega) (by decide) (by rw [hR_sI, hR_sI, show pn - 1 = (pn + 19) % 20 by omega]; exact hA) ?_
        skip
        refine xq_callV1N clX7 gd_X7_copy dX10_undo_75 ml_RX10_226 im_X7_copy se_X7_copy rfl (St.s0 (Fx.g67 hF)) (by exact Nat.le_of_ble_eq_true rfl) (by decide) (c_copy (Fx.g67 hF) hgb (by omega) (hu.off (Off.pI (A := fun q => q = 0) (Off.pI (A := fun q => q = 0) Off.rf rfl _ _) rfl _ _) (fun j hj => by omega)) ok) ?_
        intro H75 p75
        refine xq_aload_n dX10_undo_78 rfl rfl ?_
        refine xq_getIE (v := nI (ps - 1)) clX10 (by decide) rfl fl_RX10_105 dX10_undo_79 (Fx.s0 hF) ((p75.2.I (by omega) 14).trans (by simp [hI_sI])) ?_
        refine xq_iret dX10_undo_82 rfl ?_
        refine ⟨_, _, ⟨rfl, p75.1, (p75.2.I (by omega) 14).trans (by simp [hI_sI]), (p75.2.I (by omega) 15).trans (by rw [hI_sI, if_neg (by omega), hI_sI, if_pos ⟨rfl, rfl⟩]; congr 1; omega), ⟨fun k hk => ?_, fun k => (p75.2.R (by omega) k).trans rfl⟩, (Off.pI (A := fun q => q = 0 ∨ (67 ≤ q ∧ q < 72)) (Off.pI (A := fun q => q = 0 ∨ (67 ≤ q ∧ q < 72)) Off.rf (by omega) _ _) (by omega) _ _).tr (p75.2.mo (fun q h => by omega))⟩, rfl⟩
        rw [p75.2.I (by omega), hI_sI, if_neg (fun e => hk.1 e.2), hI_sI, if_neg (fun e => hk.2 e.2)]
  · skip
    exact absurd h4 (by omega)
theorem c_undo1b {b : Nat} (hF : gFx S) (e14 : hI H 0 14 = nI ps) (e15 : hI H 0 15 = nI pn) (hps : 0 < ps) (hps2 : ps ≤ 20) (hpn : pn ≤ 20) (hA : hR H 82 ((pn + 19) % 20) = some b) (hgb : gSt S b) (hb : 119 ≤ b) (hu : StP H b u) (ok : StOk u) (h0 : pn = 0) : Hv mX10_undo 3 [.ref 0] S H vN (fun x H' => x = ps - 1 ∧ StP H' 67 u ∧ hI H' 0 14 = nI (ps - 1) ∧ hI H' 0 15 = nI ((pn + 19) % 20) ∧ RoF H H' (fun k => k ≠ 14 ∧ k ≠ 15) ∧ Off (fun q => q = 0 ∨ (67 ≤ q ∧ q < 72)) H H') := by
  refine vq_intro (by decide) (by exact Nat.le_of_ble_eq_true rfl) rfl ?_
  refine xq_aload_n dX10_undo_0 rfl rfl ?_
  refine xq_getIE clX10 (by decide) rfl fl_RX10_105 dX10_undo_1 (Fx.s0 hF) e14 ?_
  refine xq_if_gtN dX10_undo_4 rfl (by omega) ⟨fun h4 => ?_, fun h4 => ?_⟩
  · skip
    refine xq_aload_n dX10_undo_9 rfl rfl ?_
    refine xq_aload_n dX10_undo_10 rfl rfl ?_
    refine xq_getIE clX10 (by decide) rfl fl_RX10_252 dX10_undo_11 (Fx.s0 hF) e15 ?_
    refine xq_if_leN dX10_undo_14 rfl (by omega) ⟨fun h14 => ?_, fun h14 => ?_⟩
    · skip
      refine xq_bipush dX10_undo_26 bp19 ?_
      refine xq_putI clX10 (by decide) rfl fl_RX10_252 (Or.inl rfl) dX10_undo_28 ⟨rfl, rfl⟩ (Fx.s0 hF) ?_
      refine xq_aload_n dX10_undo_31 rfl rfl ?_
      refine xq_dup dX10_undo_32 rfl ?_
      refine xq_getIE (v := nI ps) clX10 (by decide) rfl fl_RX10_105 dX10_undo_33 (Fx.s0 hF) (by rw [hI_sI, if_neg (by omega)]; exact e14) ?_
      refine xq_iconst dX10_undo_36 ic1 ?_
      refine xq_isubN dX10_undo_37 (by omega) ?_
      refine xq_putI clX10 (by decide) rfl fl_RX10_105 (Or.inl rfl) dX10_undo_38 ⟨rfl, rfl⟩ (Fx.s0 hF) ?_
      refine xq_aload_n dX10_undo_41 rfl rfl ?_
      refine xq_getIE (v := nI (19)) clX10 (by decide) rfl fl_RX10_252 dX10_undo_42 (Fx.s0 hF) (by rw [hI_sI, if_neg (by omega), hI_sI]; exact if_pos ⟨rfl, rfl⟩) ?_
      refine xq_bipush dX10_undo_45 bp20 ?_
      refine xq_icmp_geN dX10_undo_47 rfl (by omega) (by omega) ⟨fun h47 => ?_, fun h47 => ?_⟩
      · skip
        exact absurd h47 (by omega)
      · skip
        refine xq_aload_n dX10_undo_50 rfl rfl ?_
        refine xq_getF clX10 (by decide) rfl fl_RX10_77 dX10_undo_51 (Fx.s0 hF) (Fx.r0_13 hF) ?_
        refine xq_aload_n dX10_undo_54 rfl rfl ?_
        refine xq_getIE (v := nI (19)) clX10 (by decide) rfl fl_RX10_252 dX10_undo_55 (Fx.s0 hF) (by rw [hI_sI, if_neg (by omega), hI_sI]; exact if_pos ⟨rfl, rfl⟩) ?_
        refine xq_aaldN (v := some b) dX10_undo_58 (Fx.s82 hF) (by omega) (by decide) (by rw [hR_sI, hR_sI, show 19 = (pn + 19) % 20 by omega]; exact hA) ?_
        skip
        refine xq_ifnull dX10_undo_59 ?_
        refine xq_aload_n dX10_undo_62 rfl rfl ?_
        refine xq_getF clX10 (by decide) rfl fl_RX10_67 dX10_undo_63 (Fx.s0 hF) (Fx.r0_9 hF) ?_
        refine xq_aload_n dX10_undo_66 rfl rfl ?_
        refine xq_getF clX10 (by decide) rfl fl_RX10_77 dX10_undo_67 (Fx.s0 hF) (Fx.r0_13 hF) ?_
        refine xq_aload_n dX10_undo_70 rfl rfl ?_
        refine xq_getIE (v := nI (19)) clX10 (by decide) rfl fl_RX10_252 dX10_undo_71 (Fx.s0 hF) (by rw [hI_sI, if_neg (by omega), hI_sI]; exact if_pos ⟨rfl, rfl⟩) ?_
        refine xq_aaldN (v := some b) dX10_undo_74 (Fx.s82 hF) (by omega) (by decide) (by rw [hR_sI, hR_sI, show 19 = (pn + 19) % 20 by omega]; exact hA) ?_
        skip
        refine xq_callV1N clX7 gd_X7_copy dX10_undo_75 ml_RX10_226 im_X7_copy se_X7_copy rfl (St.s0 (Fx.g67 hF)) (by exact Nat.le_of_ble_eq_true rfl) (by decide) (c_copy (Fx.g67 hF) hgb (by omega) (hu.off (Off.pI (A := fun q => q = 0) (Off.pI (A := fun q => q = 0) Off.rf rfl _ _) rfl _ _) (fun j hj => by omega)) ok) ?_
        intro H75 p75
        refine xq_aload_n dX10_undo_78 rfl rfl ?_
        refine xq_getIE (v := nI (ps - 1)) clX10 (by decide) rfl fl_RX10_105 dX10_undo_79 (Fx.s0 hF) ((p75.2.I (by omega) 14).trans (by simp [hI_sI])) ?_
        refine xq_iret dX10_undo_82 rfl ?_
        refine ⟨_, _, ⟨rfl, p75.1, (p75.2.I (by omega) 14).trans (by simp [hI_sI]), (p75.2.I (by omega) 15).trans (by rw [hI_sI, if_neg (by omega), hI_sI, if_pos ⟨rfl, rfl⟩]; congr 1; omega), ⟨fun k hk => ?_, fun k => (p75.2.R (by omega) k).trans rfl⟩, (Off.pI (A := fun q => q = 0 ∨ (67 ≤ q ∧ q < 72)) (Off.pI (A := fun q => q = 0 ∨ (67 ≤ q ∧ q < 72)) Off.rf (by omega) _ _) (by omega) _ _).tr (p75.2.mo (fun q h => by omega))⟩, rfl⟩
        rw [p75.2.I (by omega), hI_sI, if_neg (fun e => hk.1 e.2), hI_sI, if_neg (fun e => hk.2 e.2)]
    · skip
      omega
  · skip
    exact absurd h4 (by omega)
theorem c_go0 (hr : RdP S H t T u z) (hno : w < 0 ∨ nI 200 < w) : Pv mX10_go 7 [.ref 0, .int w] S H (vZ (-1)) := by
  have hF := hr.fx
  refine vq_ev (vq_intro (by decide) (by exact Nat.le_of_ble_eq_true rfl) rfl ?_)
  refine xq_iload_n dX10_go_0 rfl rfl ?_
  refine xq_if_lt dX10_go_1 rfl ⟨fun h1 => ?_, fun h1 => ?_⟩
  · skip
    refine xq_iconst dX10_go_26 icm1 ?_
    refine xq_iret dX10_go_27 rfl ?_
    show _ = _; rw [zm1]
  · skip
    refine xq_iload_n dX10_go_4 rfl rfl ?_
    refine xq_sipush dX10_go_5 sp200 ?_
    refine xq_icmp_gt dX10_go_8 rfl ⟨fun h8 => ?_, fun h8 => ?_⟩
    · skip
      refine xq_iconst dX10_go_26 icm1 ?_
      refine xq_iret dX10_go_27 rfl ?_
      show _ = _; rw [zm1]
    · skip
      rcases hno with e | e
      · exact absurd e h1
      · exact absurd e h8
theorem c_go0b (hr : RdP S H t T u z) (hn : n ≤ 200) (hh : 9800 < uHr u + n) : Pv mX10_go 7 [.ref 0, vN n] S H (vZ (-1)) := by
  have hF := hr.fx; have hT := hr.tx; have tk := hr.tk; have hu := hr.st; have ok := hr.ok; have hm := hr.mi; have ht := hr.gt; have ht24 := hr.t24; have ht45 := hr.t45; have hz := ok.n; have hnp := ok.np; have hrl := ok.rl; have hnpe := hr.np; have h67 : 67 ≤ 67 := Nat.le_refl _; have ha := Fx.g67 hF; have hzz := hr.zb; have hhr := ok.hr
  refine vq_ev (vq_intro (by decide) (by exact Nat.le_of_ble_eq_true rfl) rfl ?_)
  refine xq_iload_n dX10_go_0 rfl rfl ?_
  refine xq_if_ltN dX10_go_1 rfl (by omega) ?_
  refine xq_iload_n dX10_go_4 rfl rfl ?_
  refine xq_sipush dX10_go_5 sp200 ?_
  refine xq_icmp_gtN dX10_go_8 rfl (by omega) (by omega) ⟨fun h8 => ?_, fun h8 => ?_⟩
  · skip
    exact absurd h8 (by omega)
  · skip
    refine xq_aload_n dX10_go_11 rfl rfl ?_
    refine xq_getF clX10 (by decide) rfl fl_RX10_67 dX10_go_12 (Fx.s0 hF) (Fx.r0_9 hF) ?_
    refine xq_getIE clX7 (by decide) rfl fl_RX10_260 dX10_go_15 (St.s0 (Fx.g67 hF)) hu.f10 ?_
    refine xq_iload_n dX10_go_18 rfl rfl ?_
    refine xq_iaddN dX10_go_19 ?_
    refine xq_sipush dX10_go_20 sp9800 ?_
    refine xq_icmp_leN dX10_go_23 rfl (by omega) (by omega) ⟨fun h23 => ?_, fun h23 => ?_⟩
    · skip
      exact absurd h23 (by omega)
    · skip
      refine xq_iconst dX10_go_26 icm1 ?_
      refine xq_iret dX10_go_27 rfl ?_
      show _ = _; rw [zm1]
theorem c_go1 (hr : RdP S H t T u z) (hn : n ≤ 200) (hh : uHr u + n ≤ 9800) (h0 : 0 < n) : Hv mX10_go 7 [.ref 0, vN n] S H vN (fun x H' => x = uHr u + n ∧ StP H' 67 (pas T true (-1) (-1) u n) ∧ Off (fun q => (67 ≤ q ∧ q < 72) ∨ (16 ≤ q ∧ q ≤ 23) ∨ q = 66 ∨ q = 0) H H' ∧ (∃ t2, t2 ≤ z + 5640 ∧ MiP H' t2) ∧ hI H' 0 14 = (if 0 < n then nI 0 else hI H 0 14) ∧ RoF H H' (fun k => k ≠ 14)) := by
  have hF := hr.fx; have hT := hr.tx; have tk := hr.tk; have hu := hr.st; have ok := hr.ok; have hm := hr.mi; have ht := hr.gt; have ht24 := hr.t24; have ht45 := hr.t45; have hz := ok.n; have hnp := ok.np; have hrl := ok.rl; have hnpe := hr.np; have h67 : 67 ≤ 67 := Nat.le_refl _; have ha := Fx.g67 hF; have hzz := hr.zb; have hhr := ok.hr; have hhd := hr.hd; have hli := hr.li
  refine vq_intro (by decide) (by exact Nat.le_of_ble_eq_true rfl) rfl ?_
  refine xq_iload_n dX10_go_0 rfl rfl ?_
  refine xq_if_ltN dX10_go_1 rfl (by omega) ?_
  refine xq_iload_n dX10_go_4 rfl rfl ?_
  refine xq_sipush dX10_go_5 sp200 ?_
  refine xq_icmp_gtN dX10_go_8 rfl (by omega) (by omega) ⟨fun h8 => ?_, fun h8 => ?_⟩
  · skip
    exact absurd h8 (by omega)
  · skip
    refine xq_aload_n dX10_go_11 rfl rfl ?_
    refine xq_getF clX10 (by decide) rfl fl_RX10_67 dX10_go_12 (Fx.s0 hF) (Fx.r0_9 hF) ?_
    refine xq_getIE clX7 (by decide) rfl fl_RX10_260 dX10_go_15 (St.s0 (Fx.g67 hF)) hu.f10 ?_
    refine xq_iload_n dX10_go_18 rfl rfl ?_
    refine xq_iaddN dX10_go_19 ?_
    refine xq_sipush dX10_go_20 sp9800 ?_
    refine xq_icmp_leN dX10_go_23 rfl (by omega) (by omega) ⟨fun h23 => ?_, fun h23 => ?_⟩
    · skip
      refine xq_iload_n dX10_go_28 rfl rfl ?_
      refine xq_if_leN dX10_go_29 rfl (by omega) ⟨fun h29 => ?_, fun h29 => ?_⟩
      · skip
        exact absurd h29 (by omega)
      · skip
        refine xq_aload_n dX10_go_32 rfl rfl ?_
        refine xq_iconst dX10_go_33 ic0 ?_
        refine xq_putI clX10 (by decide) rfl fl_RX10_105 (Or.inl rfl) dX10_go_34 ⟨rfl, rfl⟩ (Fx.s0 hF) ?_
        refine xq_aload_n dX10_go_37 rfl rfl ?_
        refine xq_getF clX10 (by decide) rfl fl_RX10_60 dX10_go_38 (Fx.s0 hF) (Fx.r0_8 hF) ?_
        refine xq_aload_n dX10_go_41 rfl rfl ?_
        refine xq_getR clX10 (by decide) rfl fl_RX10_48 dX10_go_42 (Fx.s0 hF) hr.sc ?_
        refine xq_iconst dX10_go_45 ic1 ?_
        refine xq_iconst dX10_go_46 icm1 ?_
        refine xq_iconst dX10_go_47 icm1 ?_
        rw [zm1]
        refine xq_callV4N clX0 gd_X0_set dX10_go_48 ml_RX10_230 im_X0_set se_X0_set rfl (Fx.s66 hF) (by exact Nat.le_of_ble_eq_true rfl) (by decide) (c_setT hF) ?_
        intro H48 p48
        have oo : Off (fun q => q = 0 ∨ q = 66) H H48 := ((Off.pI (A := fun q => q = 0) Off.rf rfl _ _).mo (fun q h => Or.inl h)).tr (p48.2.mo (fun q h => Or.inr h))
        have hu48 := hu.off oo (fun j hj => by omega); have hT48 := hT.off oo (fun j hj => by omega); have hm48 := hm.off oo (by omega) (by omega)
        refine xq_aload_n dX10_go_51 rfl rfl ?_
        refine xq_getF clX10 (by decide) rfl fl_RX10_60 dX10_go_52 (Fx.s0 hF) (Fx.r0_8 hF) ?_
        refine xq_aload_n dX10_go_55 rfl rfl ?_
        refine xq_getF clX10 (by decide) rfl fl_RX10_67 dX10_go_56 (Fx.s0 hF) (Fx.r0_9 hF) ?_
        refine xq_iload_n dX10_go_59 rfl rfl ?_
        refine xq_callV2N clX0 gd_X0_pass dX10_go_60 ml_RX10_263 im_X0_pass se_X0_pass rfl (Fx.s66 hF) (by exact Nat.le_of_ble_eq_true rfl) (by decide) (c_pass hF ha h67 hu48 ok ht ht24 ht45 hT48 tk p48.1 (by omega) (by omega) hm48 (by omega) hn (by omega) (by omega)) ?_
        intro H60 p60
        refine xq_aload_n dX10_go_63 rfl rfl ?_
        refine xq_getF clX10 (by decide) rfl fl_RX10_67 dX10_go_64 (Fx.s0 hF) (Fx.r0_9 hF) ?_
        refine xq_getIE clX7 (by decide) rfl fl_RX10_260 dX10_go_67 (St.s0 (Fx.g67 hF)) (p60.1.f10) ?_
        refine xq_iret dX10_go_70 rfl ?_
        obtain ⟨q1, q2, t3, b1, b2⟩ := p60
        refine ⟨_, H60, ⟨rfl, q1, ((Off.pI (A := (fun q => (67 ≤ q ∧ q < 72) ∨ (16 ≤ q ∧ q ≤ 23) ∨ q = 66 ∨ q = 0)) Off.rf (by omega) _ _).tr (p48.2.mo (fun q h => by omega))).tr (q2.mo (fun q h => by omega)), ⟨t3, by have := sT_le (h := uHr u) tk n; omega, b2⟩, ?_, ⟨fun k hk => ?_, fun k => ?_⟩⟩, rfl⟩
        · rw [if_pos h29, q2.I (by omega), p48.2.I (by omega)]; simp [hI_sI]
        · rw [q2.I (by omega), p48.2.I (by omega)]; rw [hI_sI, if_neg (fun e => hk e.2)]
        · rw [q2.R (by omega), p48.2.R (by omega)]; rfl
    · skip
      exact absurd h23 (by omega)
theorem c_go2 (hr : RdP S H t T u z) (hn : n ≤ 200) (hh : uHr u + n ≤ 9800) (h0 : n = 0) : Hv mX10_go 7 [.ref 0, vN n] S H vN (fun x H' => x = uHr u + n ∧ StP H' 67 (pas T true (-1) (-1) u n) ∧ Off (fun q => (67 ≤ q ∧ q < 72) ∨ (16 ≤ q ∧ q ≤ 23) ∨ q = 66 ∨ q = 0) H H' ∧ (∃ t2, t2 ≤ z + 5640 ∧ MiP H' t2) ∧ hI H' 0 14 = (if 0 < n then nI 0 else hI H 0 14) ∧ RoF H H' (fun k => k ≠ 14)) := by
  have hF := hr.fx; have hT := hr.tx; have tk := hr.tk; have hu := hr.st; have ok := hr.ok; have hm := hr.mi; have ht := hr.gt; have ht24 := hr.t24; have ht45 := hr.t45; have hz := ok.n; have hnp := ok.np; have hrl := ok.rl; have hnpe := hr.np; have h67 : 67 ≤ 67 := Nat.le_refl _; have ha := Fx.g67 hF; have hzz := hr.zb; have hhr := ok.hr; have hhd := hr.hd; have hli := hr.li
  refine vq_intro (by decide) (by exact Nat.le_of_ble_eq_true rfl) rfl ?_
  refine xq_iload_n dX10_go_0 rfl rfl ?_
  refine xq_if_ltN dX10_go_1 rfl (by omega) ?_
  refine xq_iload_n dX10_go_4 rfl rfl ?_
  refine xq_sipush dX10_go_5 sp200 ?_
  refine xq_icmp_gtN dX10_go_8 rfl (by omega) (by omega) ⟨fun h8 => ?_, fun h8 => ?_⟩
  · skip
    exact absurd h8 (by omega)
  · skip
    refine xq_aload_n dX10_go_11 rfl rfl ?_
    refine xq_getF clX10 (by decide) rfl fl_RX10_67 dX10_go_12 (Fx.s0 hF) (Fx.r0_9 hF) ?_
    refine xq_getIE clX7 (by decide) rfl fl_RX10_260 dX10_go_15 (St.s0 (Fx.g67 hF)) hu.f10 ?_
    refine xq_iload_n dX10_go_18 rfl rfl ?_
    refine xq_iaddN dX10_go_19 ?_
    refine xq_sipush dX10_go_20 sp9800 ?_
    refine xq_icmp_leN dX10_go_23 rfl (by omega) (by omega) ⟨fun h23 => ?_, fun h23 => ?_⟩
    · skip
      refine xq_iload_n dX10_go_28 rfl rfl ?_
      refine xq_if_leN dX10_go_29 rfl (by omega) ⟨fun h29 => ?_, fun h29 => ?_⟩
      · skip
        refine xq_aload_n dX10_go_37 rfl rfl ?_
        refine xq_getF clX10 (by decide) rfl fl_RX10_60 dX10_go_38 (Fx.s0 hF) (Fx.r0_8 hF) ?_
        refine xq_aload_n dX10_go_41 rfl rfl ?_
        refine xq_getR clX10 (by decide) rfl fl_RX10_48 dX10_go_42 (Fx.s0 hF) hr.sc ?_
        refine xq_iconst dX10_go_45 ic1 ?_
        refine xq_iconst dX10_go_46 icm1 ?_
        refine xq_iconst dX10_go_47 icm1 ?_
        rw [zm1]
        refine xq_callV4N clX0 gd_X0_set dX10_go_48 ml_RX10_230 im_X0_set se_X0_set rfl (Fx.s66 hF) (by exact Nat.le_of_ble_eq_true rfl) (by decide) (c_setT hF) ?_
        intro H48 p48
        have oo : Off (fun q => q = 0 ∨ q = 66) H H48 := (Off.rf.mo (fun q h => Or.inl h)).tr (p48.2.mo (fun q h => Or.inr h))
        have hu48 := hu.off oo (fun j hj => by omega); have hT48 := hT.off oo (fun j hj => by omega); have hm48 := hm.off oo (by omega) (by omega)
        refine xq_aload_n dX10_go_51 rfl rfl ?_
        refine xq_getF clX10 (by decide) rfl fl_RX10_60 dX10_go_52 (Fx.s0 hF) (Fx.r0_8 hF) ?_
        refine xq_aload_n dX10_go_55 rfl rfl ?_
        refine xq_getF clX10 (by decide) rfl fl_RX10_67 dX10_go_56 (Fx.s0 hF) (Fx.r0_9 hF) ?_
        refine xq_iload_n dX10_go_59 rfl rfl ?_
        refine xq_callV2N clX0 gd_X0_pass dX10_go_60 ml_RX10_263 im_X0_pass se_X0_pass rfl (Fx.s66 hF) (by exact Nat.le_of_ble_eq_true rfl) (by decide) (c_pass hF ha h67 hu48 ok ht ht24 ht45 hT48 tk p48.1 (by omega) (by omega) hm48 (by omega) hn (by omega) (by omega)) ?_
        intro H60 p60
        refine xq_aload_n dX10_go_63 rfl rfl ?_
        refine xq_getF clX10 (by decide) rfl fl_RX10_67 dX10_go_64 (Fx.s0 hF) (Fx.r0_9 hF) ?_
        refine xq_getIE clX7 (by decide) rfl fl_RX10_260 dX10_go_67 (St.s0 (Fx.g67 hF)) (p60.1.f10) ?_
        refine xq_iret dX10_go_70 rfl ?_
        obtain ⟨q1, q2, t3, b1, b2⟩ := p60
        refine ⟨_, H60, ⟨rfl, q1, (Off.rf.tr (p48.2.mo (fun q h => by omega))).tr (q2.mo (fun q h => by omega)), ⟨t3, by have := sT_le (h := uHr u) tk n; omega, b2⟩, ?_, ⟨fun k hk => ?_, fun k => ?_⟩⟩, rfl⟩
        · rw [if_neg (by omega), q2.I (by omega), p48.2.I (by omega)]
        · rw [q2.I (by omega), p48.2.I (by omega)]
        · rw [q2.R (by omega), p48.2.R (by omega)]
      · skip
        exact absurd h29 (by omega)
    · skip
      exact absurd h23 (by omega)
end TI
