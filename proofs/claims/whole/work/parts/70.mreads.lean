/-! ===== the reference takes tokens ===== -/
section MLe
variable {S : xS} {H H1 H2 H3 : xH} {b : Nat → Nat} {n e e2 p q i j k x w m K V a c l v most : Nat} {A F : Nat → Prop} {so va : Int32} {s : uTk} {cd : Nat → Nat}
/-- a fault x at token j -/
def MfQ (H H2 : xH) (s : uTk) (j x : Nat) : Prop := hI H2 83 26 = nI x ∧ hI H2 83 27 = nI (kPl s j) ∧ MoF (fun q => q = 83) (fun k => k = 26 ∨ k = 27) H H2
theorem MsV_d (h : MsV so va K V) (hK : K ≤ 44) (h0 : so = nI 2) : K = 38 := by
  have hs : ∀ y : Nat, y < 10 → y ≠ 2 → so = nI y → False := fun y h1 h2 h3 => by
    rw [h0] at h3
    have := (nq_eq (x := 2) (y := y) (by decide) (by omega)).mp h3
    omega
  by_cases c0 : K < 28
  · exact absurd (h.1 c0).1 (fun z => hs 0 (by decide) (by decide) z)
  by_cases c1 : K = 39
  · exact absurd (h.2.1 c1).1 (fun z => hs 1 (by decide) (by decide) z)
  by_cases c2 : K = 38
  · exact c2
  by_cases c3 : K = 43
  · exact absurd (h.2.2.2.1 c3) (fun z => hs 5 (by decide) (by decide) z)
  by_cases c4 : K = 44
  · exact absurd (h.2.2.2.2.1 c4) (fun z => hs 4 (by decide) (by decide) z)
  · have : sgc K ≠ 0 := by
      have : ∀ K : Fin 45, ¬ K.val < 28 → K.val ≠ 39 → K.val ≠ 38 → K.val ≠ 43 → K.val ≠ 44 → sgc K.val ≠ 0 := by decide
      exact this ⟨K, by omega⟩ c0 c1 c2 c3 c4
    exact absurd (h.2.2.2.2.2 this).1 (fun z => hs 3 (by decide) (by decide) z)
theorem MsV_n (h : MsV so va K V) (hK : K ≤ 44) (h0 : so = nI 1) : K = 39 := by
  have hs : ∀ y : Nat, y < 10 → y ≠ 1 → so = nI y → False := fun y h1 h2 h3 => by
    rw [h0] at h3
    have := (nq_eq (x := 1) (y := y) (by decide) (by omega)).mp h3
    omega
  by_cases c0 : K < 28
  · exact absurd (h.1 c0).1 (fun z => hs 0 (by decide) (by decide) z)
  by_cases c1 : K = 39
  · exact c1
  by_cases c2 : K = 38
  · exact absurd (h.2.2.1 c2).1 (fun z => hs 2 (by decide) (by decide) z)
  by_cases c3 : K = 43
  · exact absurd (h.2.2.2.1 c3) (fun z => hs 5 (by decide) (by decide) z)
  by_cases c4 : K = 44
  · exact absurd (h.2.2.2.2.1 c4) (fun z => hs 4 (by decide) (by decide) z)
  · have : sgc K ≠ 0 := by
      have : ∀ K : Fin 45, ¬ K.val < 28 → K.val ≠ 39 → K.val ≠ 38 → K.val ≠ 43 → K.val ≠ 44 → sgc K.val ≠ 0 := by decide
      exact this ⟨K, by omega⟩ c0 c1 c2 c3 c4
    exact absurd (h.2.2.2.2.2 this).1 (fun z => hs 3 (by decide) (by decide) z)
theorem MsV_s (h : MsV so va K V) (hK : K ≤ 44) (h0 : so = nI 3) : sgc K ≠ 0 := by
  have hs : ∀ y : Nat, y < 10 → y ≠ 3 → so = nI y → False := fun y h1 h2 h3 => by
    rw [h0] at h3
    have := (nq_eq (x := 3) (y := y) (by decide) (by omega)).mp h3
    omega
  by_cases c0 : K < 28
  · exact absurd (h.1 c0).1 (fun z => hs 0 (by decide) (by decide) z)
  by_cases c1 : K = 39
  · exact absurd (h.2.1 c1).1 (fun z => hs 1 (by decide) (by decide) z)
  by_cases c2 : K = 38
  · exact absurd (h.2.2.1 c2).1 (fun z => hs 2 (by decide) (by decide) z)
  by_cases c3 : K = 43
  · exact absurd (h.2.2.2.1 c3) (fun z => hs 5 (by decide) (by decide) z)
  by_cases c4 : K = 44
  · exact absurd (h.2.2.2.2.1 c4) (fun z => hs 4 (by decide) (by decide) z)
  · have : ∀ K : Fin 45, ¬ K.val < 28 → K.val ≠ 39 → K.val ≠ 38 → K.val ≠ 43 → K.val ≠ 44 → sgc K.val ≠ 0 := by decide
    exact this ⟨K, by omega⟩ c0 c1 c2 c3 c4
theorem sgc_inj {K2 : Nat} (h : K ≤ 44) (h2 : K2 ≤ 44) (h0 : sgc K2 ≠ 0) (he : sgc K = sgc K2) : K = K2 := by
  have : ∀ K K2 : Fin 45, sgc K2.val ≠ 0 → sgc K.val = sgc K2.val → K.val = K2.val := by decide
  exact this ⟨K, by omega⟩ ⟨K2, by omega⟩ h0 he
theorem sgc_lt : sgc K < 1000 := by
  unfold sgc
  repeat' split
  all_goals omega
theorem m_isSign (hF : gFx S) (h26 : hI H 83 26 = nI 0) (hm : MtP S H b n s j) (hK : K ≤ 44) (hK0 : sgc K ≠ 0) : Pv mX11_isSign 0 [.ref 83, vN (sgc K)] S H (vB (decide (kK s j = K))) := by
  have hsl := sgc_lt (K := K)
  have hk : (hI H 83 24 = nI 3 ∧ hI H 83 25 = nI (sgc K)) ↔ kK s j = K := by
    have hms := hm.ms
    have hkl : kK s j ≤ 44 := kK_le hm.ok
    constructor
    · rintro ⟨z1, z2⟩
      have g := MsV_s hms hkl z1
      have g2 := (hms.2.2.2.2.2 g).2
      have hsl2 := sgc_lt (K := kK s j)
      rw [g2, nq_eq (by omega) (by omega)] at z2
      exact sgc_inj hkl hK hK0 z2
    · intro z
      have := hms.2.2.2.2.2 (by rw [z]; exact hK0)
      exact ⟨this.1, by rw [this.2, z]⟩
  refine vq_ev (vq_intro (by decide) (by exact Nat.le_of_ble_eq_true rfl) rfl ?_)
  refine xq_aload_n dX11_isSign_0 rfl rfl ?_
  refine xq_getIE (v := nI 0) clX11 (by decide) rfl fl_RX11_182 dX11_isSign_1 (Fx.s83 hF) h26 ?_
  refine xq_if_neN dX11_isSign_4 rfl (by omega) ⟨fun h4 => ?_, fun h4 => ?_⟩
  · skip
    exact absurd rfl h4
  · skip
    refine xq_aload_n dX11_isSign_7 rfl rfl ?_
    refine xq_getI clX11 (by decide) rfl fl_RX11_147 dX11_isSign_8 (Fx.s83 hF) ?_
    refine xq_iconst dX11_isSign_11 ic3 ?_
    refine xq_icmp_ne dX11_isSign_12 rfl ⟨fun h12 => ?_, fun h12 => ?_⟩
    · skip
      refine xq_iconst dX11_isSign_27 ic0 ?_
      refine xq_zret dX11_isSign_28 rfl (by decide) ?_
      show _ = _
      rw [decide_eq_false (fun z => h12 (hk.mpr z).1)]; rfl
    · skip
      refine xq_aload_n dX11_isSign_15 rfl rfl ?_
      refine xq_getI clX11 (by decide) rfl fl_RX11_157 dX11_isSign_16 (Fx.s83 hF) ?_
      refine xq_iload_n dX11_isSign_19 rfl rfl ?_
      refine xq_icmp_ne dX11_isSign_20 rfl ⟨fun h20 => ?_, fun h20 => ?_⟩
      · skip
        refine xq_iconst dX11_isSign_27 ic0 ?_
        refine xq_zret dX11_isSign_28 rfl (by decide) ?_
        show _ = _
        rw [decide_eq_false (fun z => h20 (hk.mpr z).2)]; rfl
      · skip
        refine xq_iconst dX11_isSign_23 ic1 ?_
        refine xq_goto dX11_isSign_24 rfl ?_
        refine xq_zret dX11_isSign_28 rfl (by decide) ?_
        show _ = _
        rw [decide_eq_true (hk.mp ⟨h12, h20⟩)]; rfl
theorem m_isSign1 (hF : gFx S) (h26 : hI H 83 26 = nI m) (hm : 0 < m) (hm2 : m < 100) : Pv mX11_isSign 0 [.ref 83, vN w] S H (vB false) := by
  refine vq_ev (vq_intro (by decide) (by exact Nat.le_of_ble_eq_true rfl) rfl ?_)
  refine xq_aload_n dX11_isSign_0 rfl rfl ?_
  refine xq_getIE (v := nI m) clX11 (by decide) rfl fl_RX11_182 dX11_isSign_1 (Fx.s83 hF) h26 ?_
  refine xq_if_neN dX11_isSign_4 rfl (by omega) ⟨fun h4 => ?_, fun h4 => ?_⟩
  · skip
    refine xq_iconst dX11_isSign_27 ic0 ?_
    refine xq_zret dX11_isSign_28 rfl (by decide) ?_
    rfl
  · skip
    exact absurd h4 (by omega)
theorem m_isWord1 (hF : gFx S) (h26 : hI H 83 26 = nI m) (hm : 0 < m) (hm2 : m < 100) : Pv mX11_isWord 0 [.ref 83, vN w] S H (vB false) := by
  refine vq_ev (vq_intro (by decide) (by exact Nat.le_of_ble_eq_true rfl) rfl ?_)
  refine xq_aload_n dX11_isWord_0 rfl rfl ?_
  refine xq_getIE (v := nI m) clX11 (by decide) rfl fl_RX11_182 dX11_isWord_1 (Fx.s83 hF) h26 ?_
  refine xq_if_neN dX11_isWord_4 rfl (by omega) ⟨fun h4 => ?_, fun h4 => ?_⟩
  · skip
    refine xq_iconst dX11_isWord_26 ic0 ?_
    refine xq_zret dX11_isWord_27 rfl (by decide) ?_
    rfl
  · skip
    exact absurd h4 (by omega)
theorem m_goOn1 (hF : gFx S) (h26 : hI H 83 26 = nI m) (hm : 0 < m) (hm2 : m < 100) : Nv mX11_goOn 7 [.ref 83] S H (fun H' => H' = H) := by
  refine vq_intro (by decide) (by exact Nat.le_of_ble_eq_true rfl) rfl ?_
  refine xq_aload_n dX11_goOn_0 rfl rfl ?_
  refine xq_getIE (v := nI m) clX11 (by decide) rfl fl_RX11_182 dX11_goOn_1 (Fx.s83 hF) h26 ?_
  refine xq_if_neN dX11_goOn_4 rfl (by omega) ⟨fun h4 => ?_, fun h4 => ?_⟩
  · skip
    refine xq_vret dX11_goOn_11 rfl ?_
    exact ⟨_, rfl, rfl⟩
  · skip
    exact absurd h4 (by omega)
theorem m_goOn (h26 : hI H 83 26 = nI 0) (hm : MtP S H b n s j) (hj : j + 1 < kSz s) : Nv mX11_goOn 7 [.ref 83] S H (fun H' => MtP S H' b n s (j + 1) ∧ MoF (fun q => q = 83) (fun k => k = 22 ∨ k = 23 ∨ k = 24 ∨ k = 25) H H') := by
  have hF := hm.fx
  refine vq_intro (by decide) (by exact Nat.le_of_ble_eq_true rfl) rfl ?_
  refine xq_aload_n dX11_goOn_0 rfl rfl ?_
  refine xq_getIE (v := nI 0) clX11 (by decide) rfl fl_RX11_182 dX11_goOn_1 (Fx.s83 hF) h26 ?_
  refine xq_if_neN dX11_goOn_4 rfl (by omega) ⟨fun h4 => ?_, fun h4 => ?_⟩
  · skip
    exact absurd rfl h4
  · skip
    refine xq_aload_n dX11_goOn_7 rfl rfl ?_
    refine xq_callV0N clX11 gd_X11_token dX11_goOn_8 ml_RX11_188 im_X11_token se_X11_token rfl (Fx.s83 hF) (by exact Nat.le_of_ble_eq_true rfl) (by decide) (m_tok hm hj) ?_
    intro H8 p8
    refine xq_vret dX11_goOn_11 rfl ?_
    exact ⟨_, p8, rfl⟩
theorem m_fresher (hF : gFx S) (hv : hI H 85 (9 + w) = nI v) (hw : w < 9) : Pv mX11_fresher 0 [.ref 83, vN w] S H (vN v) := by
  refine vq_ev (vq_intro (by decide) (by exact Nat.le_of_ble_eq_true rfl) rfl ?_)
  refine xq_aload_n dX11_fresher_0 rfl rfl ?_
  refine xq_getF clX11 (by decide) rfl fl_RX11_13 dX11_fresher_1 (Fx.s83 hF) (Fx.r83_3 hF) ?_
  refine xq_bipush dX11_fresher_4 bp9 ?_
  refine xq_iload_n dX11_fresher_6 rfl rfl ?_
  refine xq_iaddN dX11_fresher_7 ?_
  refine xq_ialdN dX11_fresher_8 (Fx.s85 hF) (by omega) (by decide) hv ?_
  refine xq_iret dX11_fresher_9 rfl ?_
  rfl
theorem m_reads (hF : gFx S) (hw : w < 9) : Nv mX11_reads 0 [.ref 83, vN w, vN v] S H (fun H' => H' = sI H 85 (9 + w) (nI v)) := by
  refine vq_intro (by decide) (by exact Nat.le_of_ble_eq_true rfl) rfl ?_
  refine xq_aload_n dX11_reads_0 rfl rfl ?_
  refine xq_getF clX11 (by decide) rfl fl_RX11_13 dX11_reads_1 (Fx.s83 hF) (Fx.r83_3 hF) ?_
  refine xq_bipush dX11_reads_4 bp9 ?_
  refine xq_iload_n dX11_reads_6 rfl rfl ?_
  refine xq_iaddN dX11_reads_7 ?_
  refine xq_iload_n dX11_reads_8 rfl rfl ?_
  refine xq_iastN dX11_reads_9 (Fx.s85 hF) (by omega) (by decide) ?_
  refine xq_vret dX11_reads_10 rfl ?_
  exact ⟨_, rfl, rfl⟩
theorem m_numeralF (hF : gFx S) (h26 : hI H 83 26 = nI m) (hm : 0 < m) (hm2 : m < 100) : Pv mX11_numeral 7 [.ref 83, vN l, vN most] S H (vN l) := by
  refine vq_ev (vq_intro (by decide) (by exact Nat.le_of_ble_eq_true rfl) rfl ?_)
  refine xq_aload_n dX11_numeral_0 rfl rfl ?_
  refine xq_getIE (v := nI m) clX11 (by decide) rfl fl_RX11_182 dX11_numeral_1 (Fx.s83 hF) h26 ?_
  refine xq_if_eqN dX11_numeral_4 rfl (by omega) ⟨fun h4 => ?_, fun h4 => ?_⟩
  · skip
    exact absurd h4 (by omega)
  · skip
    refine xq_iload_n dX11_numeral_7 rfl rfl ?_
    refine xq_iret dX11_numeral_8 rfl ?_
    rfl
theorem m_numeral1 (h26 : hI H 83 26 = nI 0) (hm : MtP S H b n s j) (hmo : most ≤ 99999) (hb : numB s j most = true) : Hv mX11_numeral 7 [.ref 83, vN 0, vN most] S H vN (fun z H' => z = kV s j ∧ MtP S H' b n s (j + 1) ∧ MoF (fun q => q = 83) (fun k => k = 22 ∨ k = 23 ∨ k = 24 ∨ k = 25) H H') := by
  have hF := hm.fx
  have hb2 := of_decide_eq_true hb
  obtain ⟨hso, x, hva, hx1, hx2⟩ := hm.ms.2.2.1 hb2.1
  have hva : hI H 83 25 = nI (kV s j) := by rw [hva, show x = kV s j by omega]
  have hj := kK_in (by rw [hb2.1]; decide) hm.lx
  refine vq_intro (by decide) (by exact Nat.le_of_ble_eq_true rfl) rfl ?_
  refine xq_aload_n dX11_numeral_0 rfl rfl ?_
  refine xq_getIE (v := nI 0) clX11 (by decide) rfl fl_RX11_182 dX11_numeral_1 (Fx.s83 hF) h26 ?_
  refine xq_if_eqN dX11_numeral_4 rfl (by omega) ⟨fun h4 => ?_, fun h4 => ?_⟩
  · skip
    refine xq_aload_n dX11_numeral_9 rfl rfl ?_
    refine xq_getIE (v := nI 2) clX11 (by decide) rfl fl_RX11_147 dX11_numeral_10 (Fx.s83 hF) hso ?_
    refine xq_iconst dX11_numeral_13 ic2 ?_
    refine xq_icmp_eqN dX11_numeral_14 rfl (by omega) (by omega) ⟨fun h14 => ?_, fun h14 => ?_⟩
    · skip
      refine xq_aload_n dX11_numeral_25 rfl rfl ?_
      refine xq_getIE clX11 (by decide) rfl fl_RX11_157 dX11_numeral_26 (Fx.s83 hF) hva ?_
      refine xq_iload_n dX11_numeral_29 rfl rfl ?_
      refine xq_icmp_ltN dX11_numeral_30 rfl (by omega) (by omega) ⟨fun h30 => ?_, fun h30 => ?_⟩
      · skip
        exact absurd h30 (by omega)
      · skip
        refine xq_aload_n dX11_numeral_33 rfl rfl ?_
        refine xq_getIE clX11 (by decide) rfl fl_RX11_157 dX11_numeral_34 (Fx.s83 hF) hva ?_
        refine xq_iload_n dX11_numeral_37 rfl rfl ?_
        refine xq_icmp_leN dX11_numeral_38 rfl (by omega) (by omega) ⟨fun h38 => ?_, fun h38 => ?_⟩
        · skip
          refine xq_aload_n dX11_numeral_46 rfl rfl ?_
          refine xq_getIE (v := nI 0) clX11 (by decide) rfl fl_RX11_182 dX11_numeral_47 (Fx.s83 hF) h26 ?_
          refine xq_if_eqN dX11_numeral_50 rfl (by omega) ⟨fun h50 => ?_, fun h50 => ?_⟩
          · skip
            refine xq_aload_n dX11_numeral_55 rfl rfl ?_
            refine xq_getIE clX11 (by decide) rfl fl_RX11_157 dX11_numeral_56 (Fx.s83 hF) hva ?_
            refine xq_istore_n dX11_numeral_59 rfl rfl ?_
            refine xq_aload_n dX11_numeral_60 rfl rfl ?_
            refine xq_callV0N clX11 gd_X11_token dX11_numeral_61 ml_RX11_188 im_X11_token se_X11_token rfl (Fx.s83 hF) (by exact Nat.le_of_ble_eq_true rfl) (by decide) (m_tok hm hj) ?_
            intro H61 p61
            refine xq_iload_n dX11_numeral_64 rfl rfl ?_
            refine xq_iret dX11_numeral_65 rfl ?_
            exact ⟨_, H61, ⟨rfl, p61⟩, rfl⟩
          · skip
            exact absurd rfl h50
        · skip
          exact absurd h38 (by omega)
    · skip
      exact absurd rfl h14
  · skip
    exact absurd rfl h4
theorem m_numeral0a (h26 : hI H 83 26 = nI 0) (hm : MtP S H b n s j) (hb : kK s j ≠ 38) : Hv mX11_numeral 7 [.ref 83, vN 0, vN most] S H vN (fun z H' => z = 0 ∧ MfQ H H' s j 1) := by
  have hF := hm.fx
  have hkl : kK s j ≤ 44 := kK_le hm.ok
  refine vq_intro (by decide) (by exact Nat.le_of_ble_eq_true rfl) rfl ?_
  refine xq_aload_n dX11_numeral_0 rfl rfl ?_
  refine xq_getIE (v := nI 0) clX11 (by decide) rfl fl_RX11_182 dX11_numeral_1 (Fx.s83 hF) h26 ?_
  refine xq_if_eqN dX11_numeral_4 rfl (by omega) ⟨fun h4 => ?_, fun h4 => ?_⟩
  · skip
    refine xq_aload_n dX11_numeral_9 rfl rfl ?_
    refine xq_getI clX11 (by decide) rfl fl_RX11_147 dX11_numeral_10 (Fx.s83 hF) ?_
    refine xq_iconst dX11_numeral_13 ic2 ?_
    refine xq_icmp_eq dX11_numeral_14 rfl ⟨fun h14 => ?_, fun h14 => ?_⟩
    · skip
      exact absurd (MsV_d hm.ms hkl h14) hb
    · skip
      refine xq_aload_n dX11_numeral_17 rfl rfl ?_
      refine xq_iconst dX11_numeral_18 ic1 ?_
      refine xq_callV1N clX11 gd_X11_wrong dX11_numeral_19 ml_RX11_191 im_X11_wrong se_X11_wrong rfl (Fx.s83 hF) (by exact Nat.le_of_ble_eq_true rfl) (by decide) (m_wrong0 hF h26 hm.pl) ?_
      intro H19 p19
      subst p19
      refine xq_goto dX11_numeral_22 rfl ?_
      refine xq_aload_n dX11_numeral_46 rfl rfl ?_
      refine xq_getIE (v := nI 1) clX11 (by decide) rfl fl_RX11_182 dX11_numeral_47 (Fx.s83 hF) (by rw [hI_sI, if_neg (by omega), hI_sI, if_pos ⟨rfl, rfl⟩]) ?_
      refine xq_if_eqN dX11_numeral_50 rfl (by omega) ⟨fun h50 => ?_, fun h50 => ?_⟩
      · skip
        exact absurd h50 (by decide)
      · skip
        refine xq_iload_n dX11_numeral_53 rfl rfl ?_
        refine xq_iret dX11_numeral_54 rfl ?_
        exact ⟨0, _, ⟨rfl, ⟨by rw [hI_sI, if_neg (by omega), hI_sI, if_pos ⟨rfl, rfl⟩], by rw [hI_sI, if_pos ⟨rfl, rfl⟩], (MoF.pF (A := (fun q => q = 83)) (F := (fun k => k = 26 ∨ k = 27)) (MoF.pF (A := (fun q => q = 83)) (F := (fun k => k = 26 ∨ k = 27)) (H := H) (H2 := H) (k := 26) MoF.rf rfl (by decide) _) rfl (by decide) _)⟩⟩, rfl⟩
  · skip
    exact absurd rfl h4
theorem m_numeral0b (h26 : hI H 83 26 = nI 0) (hm : MtP S H b n s j) (hmo : most ≤ 99999) (hb : kK s j = 38) (hv : most < kV s j) : Hv mX11_numeral 7 [.ref 83, vN 0, vN most] S H vN (fun z H' => z = 0 ∧ MfQ H H' s j 2) := by
  have hF := hm.fx
  obtain ⟨hso, x, hva, hx1, hx2⟩ := hm.ms.2.2.1 hb
  refine vq_intro (by decide) (by exact Nat.le_of_ble_eq_true rfl) rfl ?_
  refine xq_aload_n dX11_numeral_0 rfl rfl ?_
  refine xq_getIE (v := nI 0) clX11 (by decide) rfl fl_RX11_182 dX11_numeral_1 (Fx.s83 hF) h26 ?_
  refine xq_if_eqN dX11_numeral_4 rfl (by omega) ⟨fun h4 => ?_, fun h4 => ?_⟩
  · skip
    refine xq_aload_n dX11_numeral_9 rfl rfl ?_
    refine xq_getIE (v := nI 2) clX11 (by decide) rfl fl_RX11_147 dX11_numeral_10 (Fx.s83 hF) hso ?_
    refine xq_iconst dX11_numeral_13 ic2 ?_
    refine xq_icmp_eqN dX11_numeral_14 rfl (by omega) (by omega) ⟨fun h14 => ?_, fun h14 => ?_⟩
    · skip
      refine xq_aload_n dX11_numeral_25 rfl rfl ?_
      refine xq_getIE clX11 (by decide) rfl fl_RX11_157 dX11_numeral_26 (Fx.s83 hF) hva ?_
      refine xq_iload_n dX11_numeral_29 rfl rfl ?_
      refine xq_icmp_ltN dX11_numeral_30 rfl (by omega) (by omega) ⟨fun h30 => ?_, fun h30 => ?_⟩
      · skip
        exact absurd h30 (by omega)
      · skip
        refine xq_aload_n dX11_numeral_33 rfl rfl ?_
        refine xq_getIE clX11 (by decide) rfl fl_RX11_157 dX11_numeral_34 (Fx.s83 hF) hva ?_
        refine xq_iload_n dX11_numeral_37 rfl rfl ?_
        refine xq_icmp_leN dX11_numeral_38 rfl (by omega) (by omega) ⟨fun h38 => ?_, fun h38 => ?_⟩
        · skip
          exact absurd h38 (by omega)
        · skip
          refine xq_aload_n dX11_numeral_41 rfl rfl ?_
          refine xq_iconst dX11_numeral_42 ic2 ?_
          refine xq_callV1N clX11 gd_X11_wrong dX11_numeral_43 ml_RX11_191 im_X11_wrong se_X11_wrong rfl (Fx.s83 hF) (by exact Nat.le_of_ble_eq_true rfl) (by decide) (m_wrong0 hF h26 hm.pl) ?_
          intro H43 p43
          subst p43
          refine xq_aload_n dX11_numeral_46 rfl rfl ?_
          refine xq_getIE (v := nI 2) clX11 (by decide) rfl fl_RX11_182 dX11_numeral_47 (Fx.s83 hF) (by rw [hI_sI, if_neg (by omega), hI_sI, if_pos ⟨rfl, rfl⟩]) ?_
          refine xq_if_eqN dX11_numeral_50 rfl (by omega) ⟨fun h50 => ?_, fun h50 => ?_⟩
          · skip
            exact absurd h50 (by decide)
          · skip
            refine xq_iload_n dX11_numeral_53 rfl rfl ?_
            refine xq_iret dX11_numeral_54 rfl ?_
            exact ⟨0, _, ⟨rfl, ⟨by rw [hI_sI, if_neg (by omega), hI_sI, if_pos ⟨rfl, rfl⟩], by rw [hI_sI, if_pos ⟨rfl, rfl⟩], (MoF.pF (A := (fun q => q = 83)) (F := (fun k => k = 26 ∨ k = 27)) (MoF.pF (A := (fun q => q = 83)) (F := (fun k => k = 26 ∨ k = 27)) (H := H) (H2 := H) (k := 26) MoF.rf rfl (by decide) _) rfl (by decide) _)⟩⟩, rfl⟩
    · skip
      exact absurd rfl h14
  · skip
    exact absurd rfl h4
theorem m_numeral0 (h26 : hI H 83 26 = nI 0) (hm : MtP S H b n s j) (hmo : most ≤ 99999) (hb : numB s j most = false) : Hv mX11_numeral 7 [.ref 83, vN 0, vN most] S H vN (fun z H' => z = 0 ∧ MfQ H H' s j (numF s j)) := by
  have hb2 := of_decide_eq_false hb
  unfold numF
  by_cases e : kK s j = 38
  · rw [if_pos e]; exact m_numeral0b h26 hm hmo e (by omega)
  · rw [if_neg e]; exact m_numeral0a h26 hm e
end MLe
