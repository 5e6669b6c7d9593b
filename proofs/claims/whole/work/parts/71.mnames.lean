/-! ===== the reference takes names ===== -/
section MLf
variable {S : xS} {H H1 H2 H3 : xH} {b : Nat → Nat} {n e e2 p q i j k x w m K V a c l v most : Nat} {A F : Nat → Prop} {so va : Int32} {s : uTk} {cd : Nat → Nat}
theorem m_freshF (hF : gFx S) (h26 : hI H 83 26 = nI m) (hm : 0 < m) (hm2 : m < 100) : Pv mX11_fresh 7 [.ref 83, .ref a, vN l, vN k] S H (vN 0) := by
  refine vq_ev (vq_intro (by decide) (by exact Nat.le_of_ble_eq_true rfl) rfl ?_)
  refine xq_aload_n dX11_fresh_0 rfl rfl ?_
  refine xq_getIE (v := nI m) clX11 (by decide) rfl fl_RX11_182 dX11_fresh_1 (Fx.s83 hF) h26 ?_
  refine xq_if_eqN dX11_fresh_4 rfl (by omega) ⟨fun h4 => ?_, fun h4 => ?_⟩
  · skip
    exact absurd h4 (by omega)
  · skip
    refine xq_iconst dX11_fresh_7 ic0 ?_
    refine xq_iret dX11_fresh_8 rfl ?_
    rfl
theorem m_fresh1 (h26 : hI H 83 26 = nI 0) (hm : MtP S H b n s j) (hsa : fS S a = (1, c)) (hc : c ≤ 100) (hbn : l + k ≤ c) (hfn : ∀ i, i < k → hI H a (l + i) = nI (cd i)) (hb : freB s j cd k = true) : Hv mX11_fresh 7 [.ref 83, .ref a, vN l, vN k] S H vN (fun z H' => z = kV s j ∧ MtP S H' b n s (j + 1) ∧ MoF (fun q => q = 83) (fun k => k = 22 ∨ k = 23 ∨ k = 24 ∨ k = 25) H H') := by
  have hF := hm.fx
  have hb2 := of_decide_eq_true hb
  have hk39 := hb2.1
  obtain ⟨hso, hva⟩ := hm.ms.2.1 hk39
  have hz : fdz (fun i => decide (nI (cd i) = nI (kV s j))) k = -1 := if_neg hb2.2
  have hj := kK_in (by rw [hk39]; decide) hm.lx
  refine vq_intro (by decide) (by exact Nat.le_of_ble_eq_true rfl) rfl ?_
  refine xq_aload_n dX11_fresh_0 rfl rfl ?_
  refine xq_getIE (v := nI 0) clX11 (by decide) rfl fl_RX11_182 dX11_fresh_1 (Fx.s83 hF) h26 ?_
  refine xq_if_eqN dX11_fresh_4 rfl (by omega) ⟨fun h4 => ?_, fun h4 => ?_⟩
  · skip
    refine xq_aload_n dX11_fresh_9 rfl rfl ?_
    refine xq_getIE (v := nI 1) clX11 (by decide) rfl fl_RX11_147 dX11_fresh_10 (Fx.s83 hF) hso ?_
    refine xq_iconst dX11_fresh_13 ic1 ?_
    refine xq_icmp_eqN dX11_fresh_14 rfl (by omega) (by omega) ⟨fun h14 => ?_, fun h14 => ?_⟩
    · skip
      refine xq_aload_n dX11_fresh_25 rfl rfl ?_
      refine xq_iload_n dX11_fresh_26 rfl rfl ?_
      refine xq_iload_n dX11_fresh_27 rfl rfl ?_
      refine xq_aload_n dX11_fresh_28 rfl rfl ?_
      refine xq_getIE clX11 (by decide) rfl fl_RX11_157 dX11_fresh_29 (Fx.s83 hF) hva ?_
      refine xq_callS4P gd_X11_found dX11_fresh_32 ml_RX11_194 im_X11_found (by exact Nat.le_of_ble_eq_true rfl) (by decide) (m_found hsa hc hbn hfn) ?_
      refine xq_iconst dX11_fresh_35 icm1 ?_
      refine xq_icmp_eq dX11_fresh_36 rfl ⟨fun h36 => ?_, fun h36 => ?_⟩
      · skip
        refine xq_aload_n dX11_fresh_44 rfl rfl ?_
        refine xq_getIE (v := nI 0) clX11 (by decide) rfl fl_RX11_182 dX11_fresh_45 (Fx.s83 hF) h26 ?_
        refine xq_if_eqN dX11_fresh_48 rfl (by omega) ⟨fun h48 => ?_, fun h48 => ?_⟩
        · skip
          refine xq_aload_n dX11_fresh_53 rfl rfl ?_
          refine xq_getIE clX11 (by decide) rfl fl_RX11_157 dX11_fresh_54 (Fx.s83 hF) hva ?_
          refine xq_istore dX11_fresh_57 rfl ?_
          refine xq_aload_n dX11_fresh_59 rfl rfl ?_
          refine xq_callV0N clX11 gd_X11_token dX11_fresh_60 ml_RX11_188 im_X11_token se_X11_token rfl (Fx.s83 hF) (by exact Nat.le_of_ble_eq_true rfl) (by decide) (m_tok hm hj) ?_
          intro H60 p60
          refine xq_iload dX11_fresh_63 rfl ?_
          refine xq_iret dX11_fresh_65 rfl ?_
          exact ⟨_, H60, ⟨rfl, p60⟩, rfl⟩
        · skip
          exact absurd rfl h48
      · skip
        exact absurd (by rw [hz]; exact zm1.symm) h36
    · skip
      exact absurd rfl h14
  · skip
    exact absurd rfl h4
theorem m_fresh0a (h26 : hI H 83 26 = nI 0) (hm : MtP S H b n s j) (hsa : fS S a = (1, c)) (hb : kK s j ≠ 39) : Hv mX11_fresh 7 [.ref 83, .ref a, vN l, vN k] S H vN (fun z H' => z = 0 ∧ MfQ H H' s j 1) := by
  have hF := hm.fx
  have hkl : kK s j ≤ 44 := kK_le hm.ok
  refine vq_intro (by decide) (by exact Nat.le_of_ble_eq_true rfl) rfl ?_
  refine xq_aload_n dX11_fresh_0 rfl rfl ?_
  refine xq_getIE (v := nI 0) clX11 (by decide) rfl fl_RX11_182 dX11_fresh_1 (Fx.s83 hF) h26 ?_
  refine xq_if_eqN dX11_fresh_4 rfl (by omega) ⟨fun h4 => ?_, fun h4 => ?_⟩
  · skip
    refine xq_aload_n dX11_fresh_9 rfl rfl ?_
    refine xq_getI clX11 (by decide) rfl fl_RX11_147 dX11_fresh_10 (Fx.s83 hF) ?_
    refine xq_iconst dX11_fresh_13 ic1 ?_
    refine xq_icmp_eq dX11_fresh_14 rfl ⟨fun h14 => ?_, fun h14 => ?_⟩
    · skip
      exact absurd (MsV_n hm.ms hkl h14) hb
    · skip
      refine xq_aload_n dX11_fresh_17 rfl rfl ?_
      refine xq_iconst dX11_fresh_18 ic1 ?_
      refine xq_callV1N clX11 gd_X11_wrong dX11_fresh_19 ml_RX11_191 im_X11_wrong se_X11_wrong rfl (Fx.s83 hF) (by exact Nat.le_of_ble_eq_true rfl) (by decide) (m_wrong0 hF h26 hm.pl) ?_
      intro H19 p19
      subst p19
      refine xq_goto dX11_fresh_22 rfl ?_
      refine xq_aload_n dX11_fresh_44 rfl rfl ?_
      refine xq_getIE (v := nI 1) clX11 (by decide) rfl fl_RX11_182 dX11_fresh_45 (Fx.s83 hF) (by rw [hI_sI, if_neg (by omega), hI_sI, if_pos ⟨rfl, rfl⟩]) ?_
      refine xq_if_eqN dX11_fresh_48 rfl (by omega) ⟨fun h48 => ?_, fun h48 => ?_⟩
      · skip
        exact absurd h48 (by decide)
      · skip
        refine xq_iconst dX11_fresh_51 ic0 ?_
        refine xq_iret dX11_fresh_52 rfl ?_
        exact ⟨0, _, ⟨rfl, ⟨by rw [hI_sI, if_neg (by omega), hI_sI, if_pos ⟨rfl, rfl⟩], by rw [hI_sI, if_pos ⟨rfl, rfl⟩], (MoF.pF (A := (fun q => q = 83)) (F := (fun k => k = 26 ∨ k = 27)) (MoF.pF (A := (fun q => q = 83)) (F := (fun k => k = 26 ∨ k = 27)) (H := H) (H2 := H) (k := 26) MoF.rf rfl (by decide) _) rfl (by decide) _)⟩⟩, rfl⟩
  · skip
    exact absurd rfl h4
theorem m_fresh0b (h26 : hI H 83 26 = nI 0) (hm : MtP S H b n s j) (hsa : fS S a = (1, c)) (hc : c ≤ 100) (hbn : l + k ≤ c) (hfn : ∀ i, i < k → hI H a (l + i) = nI (cd i)) (hk39 : kK s j = 39) (hv : fdn cd k (kV s j) < k) : Hv mX11_fresh 7 [.ref 83, .ref a, vN l, vN k] S H vN (fun z H' => z = 0 ∧ MfQ H H' s j 3) := by
  have hF := hm.fx
  obtain ⟨hso, hva⟩ := hm.ms.2.1 hk39
  have hz : fdz (fun i => decide (nI (cd i) = nI (kV s j))) k = (fdn cd k (kV s j) : Nat) := if_pos hv
  refine vq_intro (by decide) (by exact Nat.le_of_ble_eq_true rfl) rfl ?_
  refine xq_aload_n dX11_fresh_0 rfl rfl ?_
  refine xq_getIE (v := nI 0) clX11 (by decide) rfl fl_RX11_182 dX11_fresh_1 (Fx.s83 hF) h26 ?_
  refine xq_if_eqN dX11_fresh_4 rfl (by omega) ⟨fun h4 => ?_, fun h4 => ?_⟩
  · skip
    refine xq_aload_n dX11_fresh_9 rfl rfl ?_
    refine xq_getIE (v := nI 1) clX11 (by decide) rfl fl_RX11_147 dX11_fresh_10 (Fx.s83 hF) hso ?_
    refine xq_iconst dX11_fresh_13 ic1 ?_
    refine xq_icmp_eqN dX11_fresh_14 rfl (by omega) (by omega) ⟨fun h14 => ?_, fun h14 => ?_⟩
    · skip
      refine xq_aload_n dX11_fresh_25 rfl rfl ?_
      refine xq_iload_n dX11_fresh_26 rfl rfl ?_
      refine xq_iload_n dX11_fresh_27 rfl rfl ?_
      refine xq_aload_n dX11_fresh_28 rfl rfl ?_
      refine xq_getIE clX11 (by decide) rfl fl_RX11_157 dX11_fresh_29 (Fx.s83 hF) hva ?_
      refine xq_callS4P gd_X11_found dX11_fresh_32 ml_RX11_194 im_X11_found (by exact Nat.le_of_ble_eq_true rfl) (by decide) (m_found hsa hc hbn hfn) ?_
      refine xq_iconst dX11_fresh_35 icm1 ?_
      refine xq_icmp_eq dX11_fresh_36 rfl ⟨fun h36 => ?_, fun h36 => ?_⟩
      · skip
        rw [hz, zI_n] at h36; exact absurd h36 (nI_n1 (by omega))
      · skip
        refine xq_aload_n dX11_fresh_39 rfl rfl ?_
        refine xq_iconst dX11_fresh_40 ic3 ?_
        refine xq_callV1N clX11 gd_X11_wrong dX11_fresh_41 ml_RX11_191 im_X11_wrong se_X11_wrong rfl (Fx.s83 hF) (by exact Nat.le_of_ble_eq_true rfl) (by decide) (m_wrong0 hF h26 hm.pl) ?_
        intro H41 p41
        subst p41
        refine xq_aload_n dX11_fresh_44 rfl rfl ?_
        refine xq_getIE (v := nI 3) clX11 (by decide) rfl fl_RX11_182 dX11_fresh_45 (Fx.s83 hF) (by rw [hI_sI, if_neg (by omega), hI_sI, if_pos ⟨rfl, rfl⟩]) ?_
        refine xq_if_eqN dX11_fresh_48 rfl (by omega) ⟨fun h48 => ?_, fun h48 => ?_⟩
        · skip
          exact absurd h48 (by decide)
        · skip
          refine xq_iconst dX11_fresh_51 ic0 ?_
          refine xq_iret dX11_fresh_52 rfl ?_
          exact ⟨0, _, ⟨rfl, ⟨by rw [hI_sI, if_neg (by omega), hI_sI, if_pos ⟨rfl, rfl⟩], by rw [hI_sI, if_pos ⟨rfl, rfl⟩], (MoF.pF (A := (fun q => q = 83)) (F := (fun k => k = 26 ∨ k = 27)) (MoF.pF (A := (fun q => q = 83)) (F := (fun k => k = 26 ∨ k = 27)) (H := H) (H2 := H) (k := 26) MoF.rf rfl (by decide) _) rfl (by decide) _)⟩⟩, rfl⟩
    · skip
      exact absurd rfl h14
  · skip
    exact absurd rfl h4
theorem m_fresh0 (h26 : hI H 83 26 = nI 0) (hm : MtP S H b n s j) (hsa : fS S a = (1, c)) (hc : c ≤ 100) (hbn : l + k ≤ c) (hfn : ∀ i, i < k → hI H a (l + i) = nI (cd i)) (hb : freB s j cd k = false) : Hv mX11_fresh 7 [.ref 83, .ref a, vN l, vN k] S H vN (fun z H' => z = 0 ∧ MfQ H H' s j (freF s j)) := by
  have hb2 := of_decide_eq_false hb
  unfold freF
  by_cases e : kK s j = 39
  · rw [if_pos e]; exact m_fresh0b h26 hm hsa hc hbn hfn e (by
      apply Classical.byContradiction
      intro z; exact hb2 ⟨e, z⟩)
  · rw [if_neg e]; exact m_fresh0a h26 hm hsa e
theorem m_atHandF (hF : gFx S) (h26 : hI H 83 26 = nI m) (hm : 0 < m) (hm2 : m < 100) : Pv mX11_atHand 1 [.ref 83, .ref a, vN l, vN k] S H (vN 0) := by
  refine vq_ev (vq_intro (by decide) (by exact Nat.le_of_ble_eq_true rfl) rfl ?_)
  refine xq_aload_n dX11_atHand_0 rfl rfl ?_
  refine xq_getIE (v := nI m) clX11 (by decide) rfl fl_RX11_182 dX11_atHand_1 (Fx.s83 hF) h26 ?_
  refine xq_if_eqN dX11_atHand_4 rfl (by omega) ⟨fun h4 => ?_, fun h4 => ?_⟩
  · skip
    exact absurd h4 (by omega)
  · skip
    refine xq_iconst dX11_atHand_7 ic0 ?_
    refine xq_iret dX11_atHand_8 rfl ?_
    rfl
theorem m_atHand1 (h26 : hI H 83 26 = nI 0) (hm : MtP S H b n s j) (hsa : fS S a = (1, c)) (hc : c ≤ 100) (hbn : l + k ≤ c) (hfn : ∀ i, i < k → hI H a (l + i) = nI (cd i)) (hk39 : kK s j = 39) (hv : fdn cd k (kV s j) < k) : Pv mX11_atHand 1 [.ref 83, .ref a, vN l, vN k] S H (vN (fdn cd k (kV s j))) := by
  have hF := hm.fx
  obtain ⟨hso, hva⟩ := hm.ms.2.1 hk39
  have hz : fdz (fun i => decide (nI (cd i) = nI (kV s j))) k = (fdn cd k (kV s j) : Nat) := if_pos hv
  refine vq_ev (vq_intro (by decide) (by exact Nat.le_of_ble_eq_true rfl) rfl ?_)
  refine xq_aload_n dX11_atHand_0 rfl rfl ?_
  refine xq_getIE (v := nI 0) clX11 (by decide) rfl fl_RX11_182 dX11_atHand_1 (Fx.s83 hF) h26 ?_
  refine xq_if_eqN dX11_atHand_4 rfl (by omega) ⟨fun h4 => ?_, fun h4 => ?_⟩
  · skip
    refine xq_aload_n dX11_atHand_9 rfl rfl ?_
    refine xq_getIE (v := nI 1) clX11 (by decide) rfl fl_RX11_147 dX11_atHand_10 (Fx.s83 hF) hso ?_
    refine xq_iconst dX11_atHand_13 ic1 ?_
    refine xq_icmp_eqN dX11_atHand_14 rfl (by omega) (by omega) ⟨fun h14 => ?_, fun h14 => ?_⟩
    · skip
      refine xq_aload_n dX11_atHand_22 rfl rfl ?_
      refine xq_getIE (v := nI 0) clX11 (by decide) rfl fl_RX11_182 dX11_atHand_23 (Fx.s83 hF) h26 ?_
      refine xq_if_neN dX11_atHand_26 rfl (by omega) ⟨fun h26b => ?_, fun h26b => ?_⟩
      · skip
        exact absurd rfl h26b
      · skip
        refine xq_aload_n dX11_atHand_29 rfl rfl ?_
        refine xq_iload_n dX11_atHand_30 rfl rfl ?_
        refine xq_iload_n dX11_atHand_31 rfl rfl ?_
        refine xq_aload_n dX11_atHand_32 rfl rfl ?_
        refine xq_getIE clX11 (by decide) rfl fl_RX11_157 dX11_atHand_33 (Fx.s83 hF) hva ?_
        refine xq_callS4P gd_X11_found dX11_atHand_36 ml_RX11_194 im_X11_found (by exact Nat.le_of_ble_eq_true rfl) (by decide) (m_found hsa hc hbn hfn) ?_
        refine xq_goto dX11_atHand_39 rfl ?_
        refine xq_istore dX11_atHand_43 rfl ?_
        refine xq_aload_n dX11_atHand_45 rfl rfl ?_
        refine xq_getIE (v := nI 0) clX11 (by decide) rfl fl_RX11_182 dX11_atHand_46 (Fx.s83 hF) h26 ?_
        refine xq_if_neN dX11_atHand_49 rfl (by omega) ⟨fun h49 => ?_, fun h49 => ?_⟩
        · skip
          exact absurd rfl h49
        · skip
          refine xq_iload dX11_atHand_52 rfl ?_
          refine xq_iconst dX11_atHand_54 icm1 ?_
          refine xq_icmp_ne dX11_atHand_55 rfl ⟨fun h55 => ?_, fun h55 => ?_⟩
          · skip
            refine xq_aload_n dX11_atHand_63 rfl rfl ?_
            refine xq_getIE (v := nI 0) clX11 (by decide) rfl fl_RX11_182 dX11_atHand_64 (Fx.s83 hF) h26 ?_
            refine xq_if_eqN dX11_atHand_67 rfl (by omega) ⟨fun h67 => ?_, fun h67 => ?_⟩
            · skip
              refine xq_iload dX11_atHand_74 rfl ?_
              refine xq_iret dX11_atHand_76 rfl ?_
              show _ = _; rw [hz]; rfl
            · skip
              exact absurd rfl h67
          · skip
            rw [hz, zI_n] at h55; exact absurd h55 (nI_n1 (by omega))
    · skip
      exact absurd rfl h14
  · skip
    exact absurd rfl h4
theorem m_atHand0a (h26 : hI H 83 26 = nI 0) (hm : MtP S H b n s j) (hsa : fS S a = (1, c)) (hb : kK s j ≠ 39) : Hv mX11_atHand 1 [.ref 83, .ref a, vN l, vN k] S H vN (fun z H' => z = 0 ∧ MfQ H H' s j 1) := by
  have hF := hm.fx
  have hkl : kK s j ≤ 44 := kK_le hm.ok
  refine vq_intro (by decide) (by exact Nat.le_of_ble_eq_true rfl) rfl ?_
  refine xq_aload_n dX11_atHand_0 rfl rfl ?_
  refine xq_getIE (v := nI 0) clX11 (by decide) rfl fl_RX11_182 dX11_atHand_1 (Fx.s83 hF) h26 ?_
  refine xq_if_eqN dX11_atHand_4 rfl (by omega) ⟨fun h4 => ?_, fun h4 => ?_⟩
  · skip
    refine xq_aload_n dX11_atHand_9 rfl rfl ?_
    refine xq_getI clX11 (by decide) rfl fl_RX11_147 dX11_atHand_10 (Fx.s83 hF) ?_
    refine xq_iconst dX11_atHand_13 ic1 ?_
    refine xq_icmp_eq dX11_atHand_14 rfl ⟨fun h14 => ?_, fun h14 => ?_⟩
    · skip
      exact absurd (MsV_n hm.ms hkl h14) hb
    · skip
      refine xq_aload_n dX11_atHand_17 rfl rfl ?_
      refine xq_iconst dX11_atHand_18 ic1 ?_
      refine xq_callV1N clX11 gd_X11_wrong dX11_atHand_19 ml_RX11_191 im_X11_wrong se_X11_wrong rfl (Fx.s83 hF) (by exact Nat.le_of_ble_eq_true rfl) (by decide) (m_wrong0 hF h26 hm.pl) ?_
      intro H19 p19
      subst p19
      refine xq_aload_n dX11_atHand_22 rfl rfl ?_
      refine xq_getIE (v := nI 1) clX11 (by decide) rfl fl_RX11_182 dX11_atHand_23 (Fx.s83 hF) (by rw [hI_sI, if_neg (by omega), hI_sI, if_pos ⟨rfl, rfl⟩]) ?_
      refine xq_if_neN dX11_atHand_26 rfl (by omega) ⟨fun h26b => ?_, fun h26b => ?_⟩
      · skip
        refine xq_iconst dX11_atHand_42 ic0 ?_
        refine xq_istore dX11_atHand_43 rfl ?_
        refine xq_aload_n dX11_atHand_45 rfl rfl ?_
        refine xq_getIE (v := nI 1) clX11 (by decide) rfl fl_RX11_182 dX11_atHand_46 (Fx.s83 hF) (by rw [hI_sI, if_neg (by omega), hI_sI, if_pos ⟨rfl, rfl⟩]) ?_
        refine xq_if_neN dX11_atHand_49 rfl (by omega) ⟨fun h49 => ?_, fun h49 => ?_⟩
        · skip
          refine xq_aload_n dX11_atHand_63 rfl rfl ?_
          refine xq_getIE (v := nI 1) clX11 (by decide) rfl fl_RX11_182 dX11_atHand_64 (Fx.s83 hF) (by rw [hI_sI, if_neg (by omega), hI_sI, if_pos ⟨rfl, rfl⟩]) ?_
          refine xq_if_eqN dX11_atHand_67 rfl (by omega) ⟨fun h67 => ?_, fun h67 => ?_⟩
          · skip
            exact absurd h67 (by decide)
          · skip
            refine xq_iconst dX11_atHand_70 ic0 ?_
            refine xq_goto dX11_atHand_71 rfl ?_
            refine xq_iret dX11_atHand_76 rfl ?_
            exact ⟨0, _, ⟨rfl, ⟨by rw [hI_sI, if_neg (by omega), hI_sI, if_pos ⟨rfl, rfl⟩], by rw [hI_sI, if_pos ⟨rfl, rfl⟩], (MoF.pF (A := (fun q => q = 83)) (F := (fun k => k = 26 ∨ k = 27)) (MoF.pF (A := (fun q => q = 83)) (F := (fun k => k = 26 ∨ k = 27)) (H := H) (H2 := H) (k := 26) MoF.rf rfl (by decide) _) rfl (by decide) _)⟩⟩, rfl⟩
        · skip
          exact absurd h49 (by decide)
      · skip
        exact absurd h26b (by decide)
  · skip
    exact absurd rfl h4
theorem m_atHand0b (h26 : hI H 83 26 = nI 0) (hm : MtP S H b n s j) (hsa : fS S a = (1, c)) (hc : c ≤ 100) (hbn : l + k ≤ c) (hfn : ∀ i, i < k → hI H a (l + i) = nI (cd i)) (hk39 : kK s j = 39) (hv : ¬ fdn cd k (kV s j) < k) : Hv mX11_atHand 1 [.ref 83, .ref a, vN l, vN k] S H vN (fun z H' => z = 0 ∧ MfQ H H' s j 4) := by
  have hF := hm.fx
  obtain ⟨hso, hva⟩ := hm.ms.2.1 hk39
  have hz : fdz (fun i => decide (nI (cd i) = nI (kV s j))) k = -1 := if_neg hv
  refine vq_intro (by decide) (by exact Nat.le_of_ble_eq_true rfl) rfl ?_
  refine xq_aload_n dX11_atHand_0 rfl rfl ?_
  refine xq_getIE (v := nI 0) clX11 (by decide) rfl fl_RX11_182 dX11_atHand_1 (Fx.s83 hF) h26 ?_
  refine xq_if_eqN dX11_atHand_4 rfl (by omega) ⟨fun h4 => ?_, fun h4 => ?_⟩
  · skip
    refine xq_aload_n dX11_atHand_9 rfl rfl ?_
    refine xq_getIE (v := nI 1) clX11 (by decide) rfl fl_RX11_147 dX11_atHand_10 (Fx.s83 hF) hso ?_
    refine xq_iconst dX11_atHand_13 ic1 ?_
    refine xq_icmp_eqN dX11_atHand_14 rfl (by omega) (by omega) ⟨fun h14 => ?_, fun h14 => ?_⟩
    · skip
      refine xq_aload_n dX11_atHand_22 rfl rfl ?_
      refine xq_getIE (v := nI 0) clX11 (by decide) rfl fl_RX11_182 dX11_atHand_23 (Fx.s83 hF) h26 ?_
      refine xq_if_neN dX11_atHand_26 rfl (by omega) ⟨fun h26b => ?_, fun h26b => ?_⟩
      · skip
        exact absurd rfl h26b
      · skip
        refine xq_aload_n dX11_atHand_29 rfl rfl ?_
        refine xq_iload_n dX11_atHand_30 rfl rfl ?_
        refine xq_iload_n dX11_atHand_31 rfl rfl ?_
        refine xq_aload_n dX11_atHand_32 rfl rfl ?_
        refine xq_getIE clX11 (by decide) rfl fl_RX11_157 dX11_atHand_33 (Fx.s83 hF) hva ?_
        refine xq_callS4P gd_X11_found dX11_atHand_36 ml_RX11_194 im_X11_found (by exact Nat.le_of_ble_eq_true rfl) (by decide) (m_found hsa hc hbn hfn) ?_
        refine xq_goto dX11_atHand_39 rfl ?_
        refine xq_istore dX11_atHand_43 rfl ?_
        refine xq_aload_n dX11_atHand_45 rfl rfl ?_
        refine xq_getIE (v := nI 0) clX11 (by decide) rfl fl_RX11_182 dX11_atHand_46 (Fx.s83 hF) h26 ?_
        refine xq_if_neN dX11_atHand_49 rfl (by omega) ⟨fun h49 => ?_, fun h49 => ?_⟩
        · skip
          exact absurd rfl h49
        · skip
          refine xq_iload dX11_atHand_52 rfl ?_
          refine xq_iconst dX11_atHand_54 icm1 ?_
          refine xq_icmp_ne dX11_atHand_55 rfl ⟨fun h55 => ?_, fun h55 => ?_⟩
          · skip
            exact absurd (by rw [hz]; exact zm1.symm) h55
          · skip
            refine xq_aload_n dX11_atHand_58 rfl rfl ?_
            refine xq_iconst dX11_atHand_59 ic4 ?_
            refine xq_callV1N clX11 gd_X11_wrong dX11_atHand_60 ml_RX11_191 im_X11_wrong se_X11_wrong rfl (Fx.s83 hF) (by exact Nat.le_of_ble_eq_true rfl) (by decide) (m_wrong0 hF h26 hm.pl) ?_
            intro H60 p60
            subst p60
            refine xq_aload_n dX11_atHand_63 rfl rfl ?_
            refine xq_getIE (v := nI 4) clX11 (by decide) rfl fl_RX11_182 dX11_atHand_64 (Fx.s83 hF) (by rw [hI_sI, if_neg (by omega), hI_sI, if_pos ⟨rfl, rfl⟩]) ?_
            refine xq_if_eqN dX11_atHand_67 rfl (by omega) ⟨fun h67 => ?_, fun h67 => ?_⟩
            · skip
              exact absurd h67 (by decide)
            · skip
              refine xq_iconst dX11_atHand_70 ic0 ?_
              refine xq_goto dX11_atHand_71 rfl ?_
              refine xq_iret dX11_atHand_76 rfl ?_
              exact ⟨0, _, ⟨rfl, ⟨by rw [hI_sI, if_neg (by omega), hI_sI, if_pos ⟨rfl, rfl⟩], by rw [hI_sI, if_pos ⟨rfl, rfl⟩], (MoF.pF (A := (fun q => q = 83)) (F := (fun k => k = 26 ∨ k = 27)) (MoF.pF (A := (fun q => q = 83)) (F := (fun k => k = 26 ∨ k = 27)) (H := H) (H2 := H) (k := 26) MoF.rf rfl (by decide) _) rfl (by decide) _)⟩⟩, rfl⟩
    · skip
      exact absurd rfl h14
  · skip
    exact absurd rfl h4
theorem m_atHand0 (h26 : hI H 83 26 = nI 0) (hm : MtP S H b n s j) (hsa : fS S a = (1, c)) (hc : c ≤ 100) (hbn : l + k ≤ c) (hfn : ∀ i, i < k → hI H a (l + i) = nI (cd i)) (hb : knoZ s j cd k = -1) : Hv mX11_atHand 1 [.ref 83, .ref a, vN l, vN k] S H vN (fun z H' => z = 0 ∧ MfQ H H' s j (knoF s j)) := by
  unfold knoZ at hb
  unfold knoF
  by_cases e : kK s j = 39
  · rw [if_pos e] at hb
    rw [if_pos e]
    refine m_atHand0b h26 hm hsa hc hbn hfn e (fun z => ?_)
    have e2 : fdz (fun i => decide (nI (cd i) = nI (kV s j))) k = (fdn cd k (kV s j) : Nat) := if_pos z
    rw [e2] at hb
    omega
  · rw [if_neg e]; exact m_atHand0a h26 hm hsa e
end MLf
