/-! ===== the reference: negation, primary; all of a formula ===== -/
section ML3
variable {S : xS} {H H1 H2 H3 : xH} {bt : Nat → Nat} {ln k p q i j l m n c t d a its v : Nat} {s : uTk} {T T2 : uTx} {N : NLt} {x y z : rxT} {r : rxR} {w1 w2 : Int32}
theorem m_putsW (hF : gFx S) (h26 : hI H 83 26 = nI c) (hc : 0 < c) (hc2 : c < 100) : Nv mX11_puts 1 [.ref 83, .int w1, .int w2] S H (fun H' => H' = H) := by
  refine vq_intro (by decide) (by exact Nat.le_of_ble_eq_true rfl) rfl ?_
  refine xq_aload_n dX11_puts_0 rfl rfl ?_
  refine xq_getIE (v := nI c) clX11 (by decide) rfl fl_RX11_182 dX11_puts_1 (Fx.s83 hF) h26 ?_
  refine xq_if_eqN dX11_puts_4 rfl (by omega) ⟨fun h4 => ?_, fun h4 => ?_⟩
  · skip
    exact absurd h4 (by omega)
  · skip
    refine xq_vret dX11_puts_7 rfl ?_
    exact ⟨_, rfl, rfl⟩
theorem m_negN (hF : gFx S) (IH : MOk S mX11_negation 13 bt ln s N d 8) (K : Nat) (hK : 6 * (8 - rxO x) + (64 - rxB x) + 13 ≤ K) (hr : RxP S H bt ln s N x) (hw : RxW x) (hk : kK s (rxN x) = 13) (hn : NjQ (prf s (rd s d 8) x)) : Nv mX11_negation K [.ref 83] S H (fun H2 => mQ S H H2 bt ln s N (prf s (rd s d 8) x)) := by
  unfold prf at hn ⊢
  by_cases h64 : 64 ≤ rxB x
  · rw [if_pos h64]
    refine vq_intro (by decide) (by exact Nat.le_of_ble_eq_true rfl) rfl ?_
    refine xq_aload_n dX11_negation_0 rfl rfl ?_
    refine xq_bipush dX11_negation_1 bp13 ?_
    refine xq_callV1P clX11 gd_X11_isWord dX11_negation_3 ml_RX11_259 im_X11_isWord se_X11_isWord rfl (Fx.s83 hF) (by exact Nat.le_of_ble_eq_true rfl) (by omega) (m_isWord (w := 13) hF hr.2.2.1 hr.1 (by decide)) ?_
    refine xq_if_eqB dX11_negation_6 rfl ⟨fun h6 => ?_, fun h6 => ?_⟩
    · skip
      exact absurd (of_decide_eq_false h6) (by omega)
    · skip
      refine xq_aload_n dX11_negation_9 rfl rfl ?_
      refine xq_callV0N clX11 gd_X11_knot dX11_negation_10 ml_RX11_262 im_X11_knot se_X11_knot rfl (Fx.s83 hF) (by exact Nat.le_of_ble_eq_true rfl) (by omega) (m_knot0 hF hr.2.2.1 hr.1 hr.2.2.2.2 (by have := hw.2.1; omega)) ?_
      intro H10 p10
      have ft := FtQ.mf p10 (by decide) (by decide) hr.1.js
      have skf := (SmK.rf (H := H)).tr (MfQ.sk p10)
      have fa := ft.1; have fb := ft.2.2.1; have fc := ft.2.2.2.1
      refine xq_aload_n dX11_negation_13 rfl rfl ?_
      refine xq_callV0N clX11 gd_X11_goOn dX11_negation_14 ml_RX11_235 im_X11_goOn se_X11_goOn rfl (Fx.s83 hF) (by exact Nat.le_of_ble_eq_true rfl) (by omega) (m_goOn1 hF fa fb fc) ?_
      intro H14 p14
      subst p14
      refine xq_aload_n dX11_negation_17 rfl rfl ?_
      refine xq_callV0N clX11 gd_X11_negation dX11_negation_18 ml_RX11_286 im_X11_negation se_X11_negation rfl (Fx.s83 hF) (by exact Nat.le_of_ble_eq_true rfl) (by omega) (m_negationF hF fa fb fc) ?_
      intro H18 p18
      subst p18
      refine xq_aload_n dX11_negation_21 rfl rfl ?_
      refine xq_iconst dX11_negation_22 ic2 ?_
      refine xq_sipush dX11_negation_23 sp260 ?_
      refine xq_callV2N clX11 gd_X11_puts dX11_negation_26 ml_RX11_265 im_X11_puts se_X11_puts rfl (Fx.s83 hF) (by exact Nat.le_of_ble_eq_true rfl) (by omega) (m_putsF hF fa fb fc) ?_
      intro H26 p26
      subst p26
      refine xq_vret dX11_negation_29 rfl ?_
      exact ⟨_, ⟨skf, ft⟩, rfl⟩
  · rw [if_neg h64] at hn ⊢
    have hsub : ∀ H3, RxP S H3 bt ln s N (nxB x) → Nv mX11_negation (K - 1) [.ref 83] S H3 (fun H2 => mQ S H3 H2 bt ln s N (rd s d 8 (nxB x))) := fun H3 h3 => IH (nxB x) (K - 1) H3 (by show 6 * (8 - rxO x) + (64 - (rxB x + 1)) + 13 ≤ K - 1; omega) h3 (hw.nx (by omega)) (nj_b1 hn)
    cases er : rd s d 8 (nxB x) with
    | inl f =>
      obtain ⟨c, m⟩ := f
      rw [er] at hsub
      refine vq_intro (by decide) (by exact Nat.le_of_ble_eq_true rfl) rfl ?_
      refine xq_aload_n dX11_negation_0 rfl rfl ?_
      refine xq_bipush dX11_negation_1 bp13 ?_
      refine xq_callV1P clX11 gd_X11_isWord dX11_negation_3 ml_RX11_259 im_X11_isWord se_X11_isWord rfl (Fx.s83 hF) (by exact Nat.le_of_ble_eq_true rfl) (by omega) (m_isWord (w := 13) hF hr.2.2.1 hr.1 (by decide)) ?_
      refine xq_if_eqB dX11_negation_6 rfl ⟨fun h6 => ?_, fun h6 => ?_⟩
      · skip
        exact absurd (of_decide_eq_false h6) (by omega)
      · skip
        refine xq_aload_n dX11_negation_9 rfl rfl ?_
        refine xq_callV0N clX11 gd_X11_knot dX11_negation_10 ml_RX11_262 im_X11_knot se_X11_knot rfl (Fx.s83 hF) (by exact Nat.le_of_ble_eq_true rfl) (by omega) (m_knot1 hF hr.2.2.1 hr.2.2.2.2 (by omega)) ?_
        intro H10 p10
        subst p10
        have hrk := hr.kn (b := rxB x + 1)
        have skk := (SmK.rf (H := H)).pF (k := 31) (by decide) (nI (rxB x + 1))
        refine xq_aload_n dX11_negation_13 rfl rfl ?_
        refine xq_callV0N clX11 gd_X11_goOn dX11_negation_14 ml_RX11_235 im_X11_goOn se_X11_goOn rfl (Fx.s83 hF) (by exact Nat.le_of_ble_eq_true rfl) (by omega) (m_goOn hrk.2.2.1 hrk.1 (kK_in (show kK s (rxN x) ≠ 44 by omega) hr.1.lx)) ?_
        intro H14 p14
        obtain ⟨g1, g2⟩ := p14
        have hrn : RxP S H14 bt ln s N (nxB x) := hrk.tk g1 g2
        have skn := skk.tr (tok_sk g2)
        refine xq_aload_n dX11_negation_17 rfl rfl ?_
        refine xq_callV0N clX11 gd_X11_negation dX11_negation_18 ml_RX11_286 im_X11_negation se_X11_negation rfl (Fx.s83 hF) (by exact Nat.le_of_ble_eq_true rfl) (by omega) (hsub _ hrn) ?_
        intro H18 p18
        obtain ⟨sq, ft⟩ := p18
        have skf := skn.tr sq
        have fa := ft.1; have fb := ft.2.2.1; have fc := ft.2.2.2.1
        refine xq_aload_n dX11_negation_21 rfl rfl ?_
        refine xq_iconst dX11_negation_22 ic2 ?_
        refine xq_sipush dX11_negation_23 sp260 ?_
        refine xq_callV2N clX11 gd_X11_puts dX11_negation_26 ml_RX11_265 im_X11_puts se_X11_puts rfl (Fx.s83 hF) (by exact Nat.le_of_ble_eq_true rfl) (by omega) (m_putsF hF fa fb fc) ?_
        intro H26 p26
        subst p26
        refine xq_vret dX11_negation_29 rfl ?_
        exact ⟨_, ⟨skf, ft⟩, rfl⟩
    | inr z =>
      have hq := rd_q d 8 (nxB x) z (show rxB x + 1 ≤ 64 by omega) er
      have hn64 := hn64_u hw hq
      rw [er] at hsub
      rw [hk]
      refine vq_intro (by decide) (by exact Nat.le_of_ble_eq_true rfl) rfl ?_
      refine xq_aload_n dX11_negation_0 rfl rfl ?_
      refine xq_bipush dX11_negation_1 bp13 ?_
      refine xq_callV1P clX11 gd_X11_isWord dX11_negation_3 ml_RX11_259 im_X11_isWord se_X11_isWord rfl (Fx.s83 hF) (by exact Nat.le_of_ble_eq_true rfl) (by omega) (m_isWord (w := 13) hF hr.2.2.1 hr.1 (by decide)) ?_
      refine xq_if_eqB dX11_negation_6 rfl ⟨fun h6 => ?_, fun h6 => ?_⟩
      · skip
        exact absurd (of_decide_eq_false h6) (by omega)
      · skip
        refine xq_aload_n dX11_negation_9 rfl rfl ?_
        refine xq_callV0N clX11 gd_X11_knot dX11_negation_10 ml_RX11_262 im_X11_knot se_X11_knot rfl (Fx.s83 hF) (by exact Nat.le_of_ble_eq_true rfl) (by omega) (m_knot1 hF hr.2.2.1 hr.2.2.2.2 (by omega)) ?_
        intro H10 p10
        subst p10
        have hrk := hr.kn (b := rxB x + 1)
        have skk := (SmK.rf (H := H)).pF (k := 31) (by decide) (nI (rxB x + 1))
        refine xq_aload_n dX11_negation_13 rfl rfl ?_
        refine xq_callV0N clX11 gd_X11_goOn dX11_negation_14 ml_RX11_235 im_X11_goOn se_X11_goOn rfl (Fx.s83 hF) (by exact Nat.le_of_ble_eq_true rfl) (by omega) (m_goOn hrk.2.2.1 hrk.1 (kK_in (show kK s (rxN x) ≠ 44 by omega) hr.1.lx)) ?_
        intro H14 p14
        obtain ⟨g1, g2⟩ := p14
        have hrn : RxP S H14 bt ln s N (nxB x) := hrk.tk g1 g2
        have skn := skk.tr (tok_sk g2)
        refine xq_aload_n dX11_negation_17 rfl rfl ?_
        refine xq_callV0N clX11 gd_X11_negation dX11_negation_18 ml_RX11_286 im_X11_negation se_X11_negation rfl (Fx.s83 hF) (by exact Nat.le_of_ble_eq_true rfl) (by omega) (hsub _ hrn) ?_
        intro H18 p18
        obtain ⟨sq, rz⟩ := p18
        have skz := skn.tr sq
        refine xq_aload_n dX11_negation_21 rfl rfl ?_
        refine xq_iconst dX11_negation_22 ic2 ?_
        refine xq_sipush dX11_negation_23 sp260 ?_
        refine xq_callV2N clX11 gd_X11_puts dX11_negation_26 ml_RX11_265 im_X11_puts se_X11_puts rfl (Fx.s83 hF) (by exact Nat.le_of_ble_eq_true rfl) (by omega) (m_puts hF rz.2.2.1 rz.nk hn64) ?_
        intro H26 p26
        subst p26
        have hput : RxP S (ptH H18 (tNk (rxX z)) 2 260) bt ln s N (adU 13 0 z) := rz.pt (k := 13) (a := tNk (rxX z) - 1) (b := 0) (w := oB (rxW z) (tNk (rxX z))) hn64
        refine xq_vret dX11_negation_29 rfl ?_
        exact ⟨_, ⟨skz.pt, hput⟩, rfl⟩
theorem sgc_o (h : k ≤ 44) (h0 : sgc k ≠ 0) (hc : ¬ (32 ≤ k ∧ k ≤ 37)) : sgc k < 60 := by
  have : ∀ k : Fin 45, sgc k.val ≠ 0 → ¬ (32 ≤ k.val ∧ k.val ≤ 37) → sgc k.val < 60 := by decide
  exact this ⟨k, by omega⟩ h0 hc
theorem sgc_v (hc : 32 ≤ k ∧ k ≤ 37) : sgc k = 60 ∨ sgc k = 62 ∨ sgc k = 61 ∨ (256 ≤ sgc k ∧ sgc k < 300) := by
  have : ∀ k : Fin 45, 32 ≤ k.val ∧ k.val ≤ 37 → sgc k.val = 60 ∨ sgc k.val = 62 ∨ sgc k.val = 61 ∨ (256 ≤ sgc k.val ∧ sgc k.val < 300) := by decide
  exact this ⟨k, by omega⟩ hc
theorem m_negation (hF : gFx S) (IH8 : MOk S mX11_negation 13 bt ln s N d 8) (IH : MOk S mX11_sum 12 bt ln s N d 9) : MOk S mX11_negation 13 bt ln s N (d + 1) 8 := by
  intro x K H hK hr hw hn
  rw [rd_8] at hn ⊢
  unfold negL at hn ⊢
  by_cases hk : kK s (rxN x) = 13
  · rw [if_pos hk] at hn ⊢
    exact m_negN hF IH8 K hK hr hw hk hn
  rw [if_neg hk] at hn ⊢
  have hsum : ∀ H3, RxP S H3 bt ln s N x → Nv mX11_sum (K - 1) [.ref 83] S H3 (fun H2 => mQ S H3 H2 bt ln s N (rd s d 9 x)) := fun H3 h3 => IH x (K - 1) H3 (by omega) h3 hw (nj_b1 hn)
  cases er : rd s d 9 x with
  | inl f =>
    obtain ⟨c, m⟩ := f
    rw [er] at hsum
    refine vq_intro (by decide) (by exact Nat.le_of_ble_eq_true rfl) rfl ?_
    refine xq_aload_n dX11_negation_0 rfl rfl ?_
    refine xq_bipush dX11_negation_1 bp13 ?_
    refine xq_callV1P clX11 gd_X11_isWord dX11_negation_3 ml_RX11_259 im_X11_isWord se_X11_isWord rfl (Fx.s83 hF) (by exact Nat.le_of_ble_eq_true rfl) (by omega) (m_isWord (w := 13) hF hr.2.2.1 hr.1 (by decide)) ?_
    refine xq_if_eqB dX11_negation_6 rfl ⟨fun h6 => ?_, fun h6 => ?_⟩
    · skip
      refine xq_aload_n dX11_negation_30 rfl rfl ?_
      refine xq_callV0N clX11 gd_X11_sum dX11_negation_31 ml_RX11_289 im_X11_sum se_X11_sum rfl (Fx.s83 hF) (by exact Nat.le_of_ble_eq_true rfl) (by omega) (hsum _ hr) ?_
      intro H31 p31
      obtain ⟨skf, ft⟩ := p31
      have fa := ft.1; have fb := ft.2.2.1; have fc := ft.2.2.2.1
      refine xq_aload_n dX11_negation_34 rfl rfl ?_
      refine xq_getIE (v := nI c) clX11 (by decide) rfl fl_RX11_182 dX11_negation_35 (Fx.s83 hF) ft.1 ?_
      refine xq_if_neN dX11_negation_38 rfl (by omega) ⟨fun h38 => ?_, fun h38 => ?_⟩
      · skip
        refine xq_vret dX11_negation_86 rfl ?_
        exact ⟨_, ⟨skf, ft⟩, rfl⟩
      · skip
        exact absurd h38 (by omega)
    · skip
      exact absurd (of_decide_eq_true h6) hk
  | inr y =>
    have hq := rd_q d 9 x y hw.2.1 er
    have hwy := hw.rq hq
    have eo : rxO y = rxO x := hq.1
    have eb : rxB x ≤ rxB y := Nat.le_trans (Nat.le_add_right _ _) hq.2.1
    rw [er] at hsum hn
    have hn : NjQ (lopG s isC (rd s d 9) .inr y) := hn
    show Nv mX11_negation K [.ref 83] S H (fun H2 => mQ S H H2 bt ln s N (lopG s isC (rd s d 9) .inr y))
    unfold lopG at hn ⊢
    by_cases hg : isC (kK s (rxN y)) = true
    · rw [if_pos hg] at hn ⊢
      have hc := isC_t hg
      by_cases h64b : 64 ≤ rxB y
      · rw [if_pos h64b]
        refine vq_intro (by decide) (by exact Nat.le_of_ble_eq_true rfl) rfl ?_
        refine xq_aload_n dX11_negation_0 rfl rfl ?_
        refine xq_bipush dX11_negation_1 bp13 ?_
        refine xq_callV1P clX11 gd_X11_isWord dX11_negation_3 ml_RX11_259 im_X11_isWord se_X11_isWord rfl (Fx.s83 hF) (by exact Nat.le_of_ble_eq_true rfl) (by omega) (m_isWord (w := 13) hF hr.2.2.1 hr.1 (by decide)) ?_
        refine xq_if_eqB dX11_negation_6 rfl ⟨fun h6 => ?_, fun h6 => ?_⟩
        · skip
          refine xq_aload_n dX11_negation_30 rfl rfl ?_
          refine xq_callV0N clX11 gd_X11_sum dX11_negation_31 ml_RX11_289 im_X11_sum se_X11_sum rfl (Fx.s83 hF) (by exact Nat.le_of_ble_eq_true rfl) (by omega) (hsum _ hr) ?_
          intro H31 p31
          obtain ⟨sq1, ry⟩ := p31
          have hyk := kK_le (n := rxN y) ry.1.ok
          have hms := ry.1.ms.2.2.2.2.2 (sgn_c (k := kK s (rxN y)) (by omega)).2.1
          have hcv := sgc_v hc
          refine xq_aload_n dX11_negation_34 rfl rfl ?_
          refine xq_getIE (v := nI 0) clX11 (by decide) rfl fl_RX11_182 dX11_negation_35 (Fx.s83 hF) ry.2.2.1 ?_
          refine xq_if_neN dX11_negation_38 rfl (by omega) ⟨fun h38 => ?_, fun h38 => ?_⟩
          · skip
            exact absurd rfl h38
          · skip
            refine xq_aload_n dX11_negation_41 rfl rfl ?_
            refine xq_getIE (v := nI 3) clX11 (by decide) rfl fl_RX11_147 dX11_negation_42 (Fx.s83 hF) hms.1 ?_
            refine xq_iconst dX11_negation_45 ic3 ?_
            refine xq_icmp_neN dX11_negation_46 rfl (by omega) (by omega) ⟨fun h46 => ?_, fun h46 => ?_⟩
            · skip
              exact absurd rfl h46
            · skip
              refine xq_aload_n dX11_negation_49 rfl rfl ?_
              refine xq_getIE clX11 (by decide) rfl fl_RX11_157 dX11_negation_50 (Fx.s83 hF) hms.2 ?_
              refine xq_bipush dX11_negation_53 bp60 ?_
              refine xq_icmp_eqN dX11_negation_55 rfl (by omega) (by omega) ⟨fun h55 => ?_, fun h55 => ?_⟩
              · skip
                refine xq_aload_n dX11_negation_87 rfl rfl ?_
                refine xq_getIE (v := nI (sgc (kK s (rxN y)))) clX11 (by decide) rfl fl_RX11_157 dX11_negation_88 (Fx.s83 hF) hms.2 ?_
                refine xq_istore_n dX11_negation_91 rfl rfl ?_
                refine xq_aload_n dX11_negation_92 rfl rfl ?_
                refine xq_callV0N clX11 gd_X11_knot dX11_negation_93 ml_RX11_262 im_X11_knot se_X11_knot rfl (Fx.s83 hF) (by exact Nat.le_of_ble_eq_true rfl) (by omega) (m_knot0 hF ry.2.2.1 ry.1 ry.2.2.2.2 (by have := hwy.2.1; omega)) ?_
                intro H93 p93
                have ft := FtQ.mf p93 (by decide) (by decide) ry.1.js
                have skf := sq1.tr (MfQ.sk p93)
                have fa := ft.1; have fb := ft.2.2.1; have fc := ft.2.2.2.1
                refine xq_aload_n dX11_negation_96 rfl rfl ?_
                refine xq_callV0N clX11 gd_X11_goOn dX11_negation_97 ml_RX11_235 im_X11_goOn se_X11_goOn rfl (Fx.s83 hF) (by exact Nat.le_of_ble_eq_true rfl) (by omega) (m_goOn1 hF fa fb fc) ?_
                intro H97 p97
                subst p97
                refine xq_aload_n dX11_negation_100 rfl rfl ?_
                refine xq_callV0N clX11 gd_X11_sum dX11_negation_101 ml_RX11_289 im_X11_sum se_X11_sum rfl (Fx.s83 hF) (by exact Nat.le_of_ble_eq_true rfl) (by omega) (m_sumF hF fa fb fc) ?_
                intro H101 p101
                subst p101
                refine xq_aload_n dX11_negation_104 rfl rfl ?_
                refine xq_iconst dX11_negation_105 ic2 ?_
                refine xq_iload_n dX11_negation_106 rfl rfl ?_
                refine xq_callV2N clX11 gd_X11_puts dX11_negation_107 ml_RX11_265 im_X11_puts se_X11_puts rfl (Fx.s83 hF) (by exact Nat.le_of_ble_eq_true rfl) (by omega) (m_putsF hF fa fb fc) ?_
                intro H107 p107
                subst p107
                refine xq_vret dX11_negation_110 rfl ?_
                exact ⟨_, ⟨skf, ft⟩, rfl⟩
              · skip
                refine xq_aload_n dX11_negation_58 rfl rfl ?_
                refine xq_getIE clX11 (by decide) rfl fl_RX11_157 dX11_negation_59 (Fx.s83 hF) hms.2 ?_
                refine xq_bipush dX11_negation_62 bp62 ?_
                refine xq_icmp_eqN dX11_negation_64 rfl (by omega) (by omega) ⟨fun h64 => ?_, fun h64 => ?_⟩
                · skip
                  refine xq_aload_n dX11_negation_87 rfl rfl ?_
                  refine xq_getIE (v := nI (sgc (kK s (rxN y)))) clX11 (by decide) rfl fl_RX11_157 dX11_negation_88 (Fx.s83 hF) hms.2 ?_
                  refine xq_istore_n dX11_negation_91 rfl rfl ?_
                  refine xq_aload_n dX11_negation_92 rfl rfl ?_
                  refine xq_callV0N clX11 gd_X11_knot dX11_negation_93 ml_RX11_262 im_X11_knot se_X11_knot rfl (Fx.s83 hF) (by exact Nat.le_of_ble_eq_true rfl) (by omega) (m_knot0 hF ry.2.2.1 ry.1 ry.2.2.2.2 (by have := hwy.2.1; omega)) ?_
                  intro H93 p93
                  have ft := FtQ.mf p93 (by decide) (by decide) ry.1.js
                  have skf := sq1.tr (MfQ.sk p93)
                  have fa := ft.1; have fb := ft.2.2.1; have fc := ft.2.2.2.1
                  refine xq_aload_n dX11_negation_96 rfl rfl ?_
                  refine xq_callV0N clX11 gd_X11_goOn dX11_negation_97 ml_RX11_235 im_X11_goOn se_X11_goOn rfl (Fx.s83 hF) (by exact Nat.le_of_ble_eq_true rfl) (by omega) (m_goOn1 hF fa fb fc) ?_
                  intro H97 p97
                  subst p97
                  refine xq_aload_n dX11_negation_100 rfl rfl ?_
                  refine xq_callV0N clX11 gd_X11_sum dX11_negation_101 ml_RX11_289 im_X11_sum se_X11_sum rfl (Fx.s83 hF) (by exact Nat.le_of_ble_eq_true rfl) (by omega) (m_sumF hF fa fb fc) ?_
                  intro H101 p101
                  subst p101
                  refine xq_aload_n dX11_negation_104 rfl rfl ?_
                  refine xq_iconst dX11_negation_105 ic2 ?_
                  refine xq_iload_n dX11_negation_106 rfl rfl ?_
                  refine xq_callV2N clX11 gd_X11_puts dX11_negation_107 ml_RX11_265 im_X11_puts se_X11_puts rfl (Fx.s83 hF) (by exact Nat.le_of_ble_eq_true rfl) (by omega) (m_putsF hF fa fb fc) ?_
                  intro H107 p107
                  subst p107
                  refine xq_vret dX11_negation_110 rfl ?_
                  exact ⟨_, ⟨skf, ft⟩, rfl⟩
                · skip
                  refine xq_aload_n dX11_negation_67 rfl rfl ?_
                  refine xq_getIE clX11 (by decide) rfl fl_RX11_157 dX11_negation_68 (Fx.s83 hF) hms.2 ?_
                  refine xq_bipush dX11_negation_71 bp61 ?_
                  refine xq_icmp_eqN dX11_negation_73 rfl (by omega) (by omega) ⟨fun h73 => ?_, fun h73 => ?_⟩
                  · skip
                    refine xq_aload_n dX11_negation_87 rfl rfl ?_
                    refine xq_getIE (v := nI (sgc (kK s (rxN y)))) clX11 (by decide) rfl fl_RX11_157 dX11_negation_88 (Fx.s83 hF) hms.2 ?_
                    refine xq_istore_n dX11_negation_91 rfl rfl ?_
                    refine xq_aload_n dX11_negation_92 rfl rfl ?_
                    refine xq_callV0N clX11 gd_X11_knot dX11_negation_93 ml_RX11_262 im_X11_knot se_X11_knot rfl (Fx.s83 hF) (by exact Nat.le_of_ble_eq_true rfl) (by omega) (m_knot0 hF ry.2.2.1 ry.1 ry.2.2.2.2 (by have := hwy.2.1; omega)) ?_
                    intro H93 p93
                    have ft := FtQ.mf p93 (by decide) (by decide) ry.1.js
                    have skf := sq1.tr (MfQ.sk p93)
                    have fa := ft.1; have fb := ft.2.2.1; have fc := ft.2.2.2.1
                    refine xq_aload_n dX11_negation_96 rfl rfl ?_
                    refine xq_callV0N clX11 gd_X11_goOn dX11_negation_97 ml_RX11_235 im_X11_goOn se_X11_goOn rfl (Fx.s83 hF) (by exact Nat.le_of_ble_eq_true rfl) (by omega) (m_goOn1 hF fa fb fc) ?_
                    intro H97 p97
                    subst p97
                    refine xq_aload_n dX11_negation_100 rfl rfl ?_
                    refine xq_callV0N clX11 gd_X11_sum dX11_negation_101 ml_RX11_289 im_X11_sum se_X11_sum rfl (Fx.s83 hF) (by exact Nat.le_of_ble_eq_true rfl) (by omega) (m_sumF hF fa fb fc) ?_
                    intro H101 p101
                    subst p101
                    refine xq_aload_n dX11_negation_104 rfl rfl ?_
                    refine xq_iconst dX11_negation_105 ic2 ?_
                    refine xq_iload_n dX11_negation_106 rfl rfl ?_
                    refine xq_callV2N clX11 gd_X11_puts dX11_negation_107 ml_RX11_265 im_X11_puts se_X11_puts rfl (Fx.s83 hF) (by exact Nat.le_of_ble_eq_true rfl) (by omega) (m_putsF hF fa fb fc) ?_
                    intro H107 p107
                    subst p107
                    refine xq_vret dX11_negation_110 rfl ?_
                    exact ⟨_, ⟨skf, ft⟩, rfl⟩
                  · skip
                    refine xq_aload_n dX11_negation_76 rfl rfl ?_
                    refine xq_getIE clX11 (by decide) rfl fl_RX11_157 dX11_negation_77 (Fx.s83 hF) hms.2 ?_
                    refine xq_sipush dX11_negation_80 sp256 ?_
                    refine xq_icmp_geN dX11_negation_83 rfl (by omega) (by omega) ⟨fun h83 => ?_, fun h83 => ?_⟩
                    · skip
                      refine xq_aload_n dX11_negation_87 rfl rfl ?_
                      refine xq_getIE (v := nI (sgc (kK s (rxN y)))) clX11 (by decide) rfl fl_RX11_157 dX11_negation_88 (Fx.s83 hF) hms.2 ?_
                      refine xq_istore_n dX11_negation_91 rfl rfl ?_
                      refine xq_aload_n dX11_negation_92 rfl rfl ?_
                      refine xq_callV0N clX11 gd_X11_knot dX11_negation_93 ml_RX11_262 im_X11_knot se_X11_knot rfl (Fx.s83 hF) (by exact Nat.le_of_ble_eq_true rfl) (by omega) (m_knot0 hF ry.2.2.1 ry.1 ry.2.2.2.2 (by have := hwy.2.1; omega)) ?_
                      intro H93 p93
                      have ft := FtQ.mf p93 (by decide) (by decide) ry.1.js
                      have skf := sq1.tr (MfQ.sk p93)
                      have fa := ft.1; have fb := ft.2.2.1; have fc := ft.2.2.2.1
                      refine xq_aload_n dX11_negation_96 rfl rfl ?_
                      refine xq_callV0N clX11 gd_X11_goOn dX11_negation_97 ml_RX11_235 im_X11_goOn se_X11_goOn rfl (Fx.s83 hF) (by exact Nat.le_of_ble_eq_true rfl) (by omega) (m_goOn1 hF fa fb fc) ?_
                      intro H97 p97
                      subst p97
                      refine xq_aload_n dX11_negation_100 rfl rfl ?_
                      refine xq_callV0N clX11 gd_X11_sum dX11_negation_101 ml_RX11_289 im_X11_sum se_X11_sum rfl (Fx.s83 hF) (by exact Nat.le_of_ble_eq_true rfl) (by omega) (m_sumF hF fa fb fc) ?_
                      intro H101 p101
                      subst p101
                      refine xq_aload_n dX11_negation_104 rfl rfl ?_
                      refine xq_iconst dX11_negation_105 ic2 ?_
                      refine xq_iload_n dX11_negation_106 rfl rfl ?_
                      refine xq_callV2N clX11 gd_X11_puts dX11_negation_107 ml_RX11_265 im_X11_puts se_X11_puts rfl (Fx.s83 hF) (by exact Nat.le_of_ble_eq_true rfl) (by omega) (m_putsF hF fa fb fc) ?_
                      intro H107 p107
                      subst p107
                      refine xq_vret dX11_negation_110 rfl ?_
                      exact ⟨_, ⟨skf, ft⟩, rfl⟩
                    · skip
                      exact absurd h83 (by omega)
        · skip
          exact absurd (of_decide_eq_true h6) hk
      · rw [if_neg h64b] at hn ⊢
        have hsub : ∀ H3, RxP S H3 bt ln s N (nxB y) → Nv mX11_sum (K - 1) [.ref 83] S H3 (fun H2 => mQ S H3 H2 bt ln s N (rd s d 9 (nxB y))) := fun H3 h3 => IH (nxB y) (K - 1) H3 (by show 6 * (8 - rxO y) + (64 - (rxB y + 1)) + 12 ≤ K - 1; omega) h3 (hwy.nx (by omega)) (nj_b1 hn)
        cases er2 : rd s d 9 (nxB y) with
        | inl f =>
          obtain ⟨c, m⟩ := f
          rw [er2] at hsub
          refine vq_intro (by decide) (by exact Nat.le_of_ble_eq_true rfl) rfl ?_
          refine xq_aload_n dX11_negation_0 rfl rfl ?_
          refine xq_bipush dX11_negation_1 bp13 ?_
          refine xq_callV1P clX11 gd_X11_isWord dX11_negation_3 ml_RX11_259 im_X11_isWord se_X11_isWord rfl (Fx.s83 hF) (by exact Nat.le_of_ble_eq_true rfl) (by omega) (m_isWord (w := 13) hF hr.2.2.1 hr.1 (by decide)) ?_
          refine xq_if_eqB dX11_negation_6 rfl ⟨fun h6 => ?_, fun h6 => ?_⟩
          · skip
            refine xq_aload_n dX11_negation_30 rfl rfl ?_
            refine xq_callV0N clX11 gd_X11_sum dX11_negation_31 ml_RX11_289 im_X11_sum se_X11_sum rfl (Fx.s83 hF) (by exact Nat.le_of_ble_eq_true rfl) (by omega) (hsum _ hr) ?_
            intro H31 p31
            obtain ⟨sq1, ry⟩ := p31
            have hyk := kK_le (n := rxN y) ry.1.ok
            have hms := ry.1.ms.2.2.2.2.2 (sgn_c (k := kK s (rxN y)) (by omega)).2.1
            have hcv := sgc_v hc
            refine xq_aload_n dX11_negation_34 rfl rfl ?_
            refine xq_getIE (v := nI 0) clX11 (by decide) rfl fl_RX11_182 dX11_negation_35 (Fx.s83 hF) ry.2.2.1 ?_
            refine xq_if_neN dX11_negation_38 rfl (by omega) ⟨fun h38 => ?_, fun h38 => ?_⟩
            · skip
              exact absurd rfl h38
            · skip
              refine xq_aload_n dX11_negation_41 rfl rfl ?_
              refine xq_getIE (v := nI 3) clX11 (by decide) rfl fl_RX11_147 dX11_negation_42 (Fx.s83 hF) hms.1 ?_
              refine xq_iconst dX11_negation_45 ic3 ?_
              refine xq_icmp_neN dX11_negation_46 rfl (by omega) (by omega) ⟨fun h46 => ?_, fun h46 => ?_⟩
              · skip
                exact absurd rfl h46
              · skip
                refine xq_aload_n dX11_negation_49 rfl rfl ?_
                refine xq_getIE clX11 (by decide) rfl fl_RX11_157 dX11_negation_50 (Fx.s83 hF) hms.2 ?_
                refine xq_bipush dX11_negation_53 bp60 ?_
                refine xq_icmp_eqN dX11_negation_55 rfl (by omega) (by omega) ⟨fun h55 => ?_, fun h55 => ?_⟩
                · skip
                  refine xq_aload_n dX11_negation_87 rfl rfl ?_
                  refine xq_getIE (v := nI (sgc (kK s (rxN y)))) clX11 (by decide) rfl fl_RX11_157 dX11_negation_88 (Fx.s83 hF) hms.2 ?_
                  refine xq_istore_n dX11_negation_91 rfl rfl ?_
                  refine xq_aload_n dX11_negation_92 rfl rfl ?_
                  refine xq_callV0N clX11 gd_X11_knot dX11_negation_93 ml_RX11_262 im_X11_knot se_X11_knot rfl (Fx.s83 hF) (by exact Nat.le_of_ble_eq_true rfl) (by omega) (m_knot1 hF ry.2.2.1 ry.2.2.2.2 (by omega)) ?_
                  intro H93 p93
                  subst p93
                  have hrk := ry.kn (b := rxB y + 1)
                  have skk := sq1.pF (k := 31) (by decide) (nI (rxB y + 1))
                  refine xq_aload_n dX11_negation_96 rfl rfl ?_
                  refine xq_callV0N clX11 gd_X11_goOn dX11_negation_97 ml_RX11_235 im_X11_goOn se_X11_goOn rfl (Fx.s83 hF) (by exact Nat.le_of_ble_eq_true rfl) (by omega) (m_goOn hrk.2.2.1 hrk.1 (kK_in (show kK s (rxN y) ≠ 44 by omega) ry.1.lx)) ?_
                  intro H97 p97
                  obtain ⟨g1, g2⟩ := p97
                  have hrn : RxP S H97 bt ln s N (nxB y) := hrk.tk g1 g2
                  have skn := skk.tr (tok_sk g2)
                  refine xq_aload_n dX11_negation_100 rfl rfl ?_
                  refine xq_callV0N clX11 gd_X11_sum dX11_negation_101 ml_RX11_289 im_X11_sum se_X11_sum rfl (Fx.s83 hF) (by exact Nat.le_of_ble_eq_true rfl) (by omega) (hsub _ hrn) ?_
                  intro H101 p101
                  obtain ⟨sq, ft⟩ := p101
                  have skf := skn.tr sq
                  have fa := ft.1; have fb := ft.2.2.1; have fc := ft.2.2.2.1
                  refine xq_aload_n dX11_negation_104 rfl rfl ?_
                  refine xq_iconst dX11_negation_105 ic2 ?_
                  refine xq_iload_n dX11_negation_106 rfl rfl ?_
                  refine xq_callV2N clX11 gd_X11_puts dX11_negation_107 ml_RX11_265 im_X11_puts se_X11_puts rfl (Fx.s83 hF) (by exact Nat.le_of_ble_eq_true rfl) (by omega) (m_putsF hF fa fb fc) ?_
                  intro H107 p107
                  subst p107
                  refine xq_vret dX11_negation_110 rfl ?_
                  exact ⟨_, ⟨skf, ft⟩, rfl⟩
                · skip
                  refine xq_aload_n dX11_negation_58 rfl rfl ?_
                  refine xq_getIE clX11 (by decide) rfl fl_RX11_157 dX11_negation_59 (Fx.s83 hF) hms.2 ?_
                  refine xq_bipush dX11_negation_62 bp62 ?_
                  refine xq_icmp_eqN dX11_negation_64 rfl (by omega) (by omega) ⟨fun h64 => ?_, fun h64 => ?_⟩
                  · skip
                    refine xq_aload_n dX11_negation_87 rfl rfl ?_
                    refine xq_getIE (v := nI (sgc (kK s (rxN y)))) clX11 (by decide) rfl fl_RX11_157 dX11_negation_88 (Fx.s83 hF) hms.2 ?_
                    refine xq_istore_n dX11_negation_91 rfl rfl ?_
                    refine xq_aload_n dX11_negation_92 rfl rfl ?_
                    refine xq_callV0N clX11 gd_X11_knot dX11_negation_93 ml_RX11_262 im_X11_knot se_X11_knot rfl (Fx.s83 hF) (by exact Nat.le_of_ble_eq_true rfl) (by omega) (m_knot1 hF ry.2.2.1 ry.2.2.2.2 (by omega)) ?_
                    intro H93 p93
                    subst p93
                    have hrk := ry.kn (b := rxB y + 1)
                    have skk := sq1.pF (k := 31) (by decide) (nI (rxB y + 1))
                    refine xq_aload_n dX11_negation_96 rfl rfl ?_
                    refine xq_callV0N clX11 gd_X11_goOn dX11_negation_97 ml_RX11_235 im_X11_goOn se_X11_goOn rfl (Fx.s83 hF) (by exact Nat.le_of_ble_eq_true rfl) (by omega) (m_goOn hrk.2.2.1 hrk.1 (kK_in (show kK s (rxN y) ≠ 44 by omega) ry.1.lx)) ?_
                    intro H97 p97
                    obtain ⟨g1, g2⟩ := p97
                    have hrn : RxP S H97 bt ln s N (nxB y) := hrk.tk g1 g2
                    have skn := skk.tr (tok_sk g2)
                    refine xq_aload_n dX11_negation_100 rfl rfl ?_
                    refine xq_callV0N clX11 gd_X11_sum dX11_negation_101 ml_RX11_289 im_X11_sum se_X11_sum rfl (Fx.s83 hF) (by exact Nat.le_of_ble_eq_true rfl) (by omega) (hsub _ hrn) ?_
                    intro H101 p101
                    obtain ⟨sq, ft⟩ := p101
                    have skf := skn.tr sq
                    have fa := ft.1; have fb := ft.2.2.1; have fc := ft.2.2.2.1
                    refine xq_aload_n dX11_negation_104 rfl rfl ?_
                    refine xq_iconst dX11_negation_105 ic2 ?_
                    refine xq_iload_n dX11_negation_106 rfl rfl ?_
                    refine xq_callV2N clX11 gd_X11_puts dX11_negation_107 ml_RX11_265 im_X11_puts se_X11_puts rfl (Fx.s83 hF) (by exact Nat.le_of_ble_eq_true rfl) (by omega) (m_putsF hF fa fb fc) ?_
                    intro H107 p107
                    subst p107
                    refine xq_vret dX11_negation_110 rfl ?_
                    exact ⟨_, ⟨skf, ft⟩, rfl⟩
                  · skip
                    refine xq_aload_n dX11_negation_67 rfl rfl ?_
                    refine xq_getIE clX11 (by decide) rfl fl_RX11_157 dX11_negation_68 (Fx.s83 hF) hms.2 ?_
                    refine xq_bipush dX11_negation_71 bp61 ?_
                    refine xq_icmp_eqN dX11_negation_73 rfl (by omega) (by omega) ⟨fun h73 => ?_, fun h73 => ?_⟩
                    · skip
                      refine xq_aload_n dX11_negation_87 rfl rfl ?_
                      refine xq_getIE (v := nI (sgc (kK s (rxN y)))) clX11 (by decide) rfl fl_RX11_157 dX11_negation_88 (Fx.s83 hF) hms.2 ?_
                      refine xq_istore_n dX11_negation_91 rfl rfl ?_
                      refine xq_aload_n dX11_negation_92 rfl rfl ?_
                      refine xq_callV0N clX11 gd_X11_knot dX11_negation_93 ml_RX11_262 im_X11_knot se_X11_knot rfl (Fx.s83 hF) (by exact Nat.le_of_ble_eq_true rfl) (by omega) (m_knot1 hF ry.2.2.1 ry.2.2.2.2 (by omega)) ?_
                      intro H93 p93
                      subst p93
                      have hrk := ry.kn (b := rxB y + 1)
                      have skk := sq1.pF (k := 31) (by decide) (nI (rxB y + 1))
                      refine xq_aload_n dX11_negation_96 rfl rfl ?_
                      refine xq_callV0N clX11 gd_X11_goOn dX11_negation_97 ml_RX11_235 im_X11_goOn se_X11_goOn rfl (Fx.s83 hF) (by exact Nat.le_of_ble_eq_true rfl) (by omega) (m_goOn hrk.2.2.1 hrk.1 (kK_in (show kK s (rxN y) ≠ 44 by omega) ry.1.lx)) ?_
                      intro H97 p97
                      obtain ⟨g1, g2⟩ := p97
                      have hrn : RxP S H97 bt ln s N (nxB y) := hrk.tk g1 g2
                      have skn := skk.tr (tok_sk g2)
                      refine xq_aload_n dX11_negation_100 rfl rfl ?_
                      refine xq_callV0N clX11 gd_X11_sum dX11_negation_101 ml_RX11_289 im_X11_sum se_X11_sum rfl (Fx.s83 hF) (by exact Nat.le_of_ble_eq_true rfl) (by omega) (hsub _ hrn) ?_
                      intro H101 p101
                      obtain ⟨sq, ft⟩ := p101
                      have skf := skn.tr sq
                      have fa := ft.1; have fb := ft.2.2.1; have fc := ft.2.2.2.1
                      refine xq_aload_n dX11_negation_104 rfl rfl ?_
                      refine xq_iconst dX11_negation_105 ic2 ?_
                      refine xq_iload_n dX11_negation_106 rfl rfl ?_
                      refine xq_callV2N clX11 gd_X11_puts dX11_negation_107 ml_RX11_265 im_X11_puts se_X11_puts rfl (Fx.s83 hF) (by exact Nat.le_of_ble_eq_true rfl) (by omega) (m_putsF hF fa fb fc) ?_
                      intro H107 p107
                      subst p107
                      refine xq_vret dX11_negation_110 rfl ?_
                      exact ⟨_, ⟨skf, ft⟩, rfl⟩
                    · skip
                      refine xq_aload_n dX11_negation_76 rfl rfl ?_
                      refine xq_getIE clX11 (by decide) rfl fl_RX11_157 dX11_negation_77 (Fx.s83 hF) hms.2 ?_
                      refine xq_sipush dX11_negation_80 sp256 ?_
                      refine xq_icmp_geN dX11_negation_83 rfl (by omega) (by omega) ⟨fun h83 => ?_, fun h83 => ?_⟩
                      · skip
                        refine xq_aload_n dX11_negation_87 rfl rfl ?_
                        refine xq_getIE (v := nI (sgc (kK s (rxN y)))) clX11 (by decide) rfl fl_RX11_157 dX11_negation_88 (Fx.s83 hF) hms.2 ?_
                        refine xq_istore_n dX11_negation_91 rfl rfl ?_
                        refine xq_aload_n dX11_negation_92 rfl rfl ?_
                        refine xq_callV0N clX11 gd_X11_knot dX11_negation_93 ml_RX11_262 im_X11_knot se_X11_knot rfl (Fx.s83 hF) (by exact Nat.le_of_ble_eq_true rfl) (by omega) (m_knot1 hF ry.2.2.1 ry.2.2.2.2 (by omega)) ?_
                        intro H93 p93
                        subst p93
                        have hrk := ry.kn (b := rxB y + 1)
                        have skk := sq1.pF (k := 31) (by decide) (nI (rxB y + 1))
                        refine xq_aload_n dX11_negation_96 rfl rfl ?_
                        refine xq_callV0N clX11 gd_X11_goOn dX11_negation_97 ml_RX11_235 im_X11_goOn se_X11_goOn rfl (Fx.s83 hF) (by exact Nat.le_of_ble_eq_true rfl) (by omega) (m_goOn hrk.2.2.1 hrk.1 (kK_in (show kK s (rxN y) ≠ 44 by omega) ry.1.lx)) ?_
                        intro H97 p97
                        obtain ⟨g1, g2⟩ := p97
                        have hrn : RxP S H97 bt ln s N (nxB y) := hrk.tk g1 g2
                        have skn := skk.tr (tok_sk g2)
                        refine xq_aload_n dX11_negation_100 rfl rfl ?_
                        refine xq_callV0N clX11 gd_X11_sum dX11_negation_101 ml_RX11_289 im_X11_sum se_X11_sum rfl (Fx.s83 hF) (by exact Nat.le_of_ble_eq_true rfl) (by omega) (hsub _ hrn) ?_
                        intro H101 p101
                        obtain ⟨sq, ft⟩ := p101
                        have skf := skn.tr sq
                        have fa := ft.1; have fb := ft.2.2.1; have fc := ft.2.2.2.1
                        refine xq_aload_n dX11_negation_104 rfl rfl ?_
                        refine xq_iconst dX11_negation_105 ic2 ?_
                        refine xq_iload_n dX11_negation_106 rfl rfl ?_
                        refine xq_callV2N clX11 gd_X11_puts dX11_negation_107 ml_RX11_265 im_X11_puts se_X11_puts rfl (Fx.s83 hF) (by exact Nat.le_of_ble_eq_true rfl) (by omega) (m_putsF hF fa fb fc) ?_
                        intro H107 p107
                        subst p107
                        refine xq_vret dX11_negation_110 rfl ?_
                        exact ⟨_, ⟨skf, ft⟩, rfl⟩
                      · skip
                        exact absurd h83 (by omega)
          · skip
            exact absurd (of_decide_eq_true h6) hk
        | inr z =>
          have hq2 := rd_q d 9 (nxB y) z (show rxB y + 1 ≤ 64 by omega) er2
          have hn64 := hn64_u hwy hq2
          have es := (sgn_c (k := kK s (rxN y)) (by omega)).2.2.1
          have ev := (sgn_c (k := kK s (rxN y)) (by omega)).2.2.2 (tNk (rxX y) - 1) (tNk (rxX z) - 1)
          rw [er2] at hsub
          refine vq_intro (by decide) (by exact Nat.le_of_ble_eq_true rfl) rfl ?_
          refine xq_aload_n dX11_negation_0 rfl rfl ?_
          refine xq_bipush dX11_negation_1 bp13 ?_
          refine xq_callV1P clX11 gd_X11_isWord dX11_negation_3 ml_RX11_259 im_X11_isWord se_X11_isWord rfl (Fx.s83 hF) (by exact Nat.le_of_ble_eq_true rfl) (by omega) (m_isWord (w := 13) hF hr.2.2.1 hr.1 (by decide)) ?_
          refine xq_if_eqB dX11_negation_6 rfl ⟨fun h6 => ?_, fun h6 => ?_⟩
          · skip
            refine xq_aload_n dX11_negation_30 rfl rfl ?_
            refine xq_callV0N clX11 gd_X11_sum dX11_negation_31 ml_RX11_289 im_X11_sum se_X11_sum rfl (Fx.s83 hF) (by exact Nat.le_of_ble_eq_true rfl) (by omega) (hsum _ hr) ?_
            intro H31 p31
            obtain ⟨sq1, ry⟩ := p31
            have hyk := kK_le (n := rxN y) ry.1.ok
            have hms := ry.1.ms.2.2.2.2.2 (sgn_c (k := kK s (rxN y)) (by omega)).2.1
            have hcv := sgc_v hc
            refine xq_aload_n dX11_negation_34 rfl rfl ?_
            refine xq_getIE (v := nI 0) clX11 (by decide) rfl fl_RX11_182 dX11_negation_35 (Fx.s83 hF) ry.2.2.1 ?_
            refine xq_if_neN dX11_negation_38 rfl (by omega) ⟨fun h38 => ?_, fun h38 => ?_⟩
            · skip
              exact absurd rfl h38
            · skip
              refine xq_aload_n dX11_negation_41 rfl rfl ?_
              refine xq_getIE (v := nI 3) clX11 (by decide) rfl fl_RX11_147 dX11_negation_42 (Fx.s83 hF) hms.1 ?_
              refine xq_iconst dX11_negation_45 ic3 ?_
              refine xq_icmp_neN dX11_negation_46 rfl (by omega) (by omega) ⟨fun h46 => ?_, fun h46 => ?_⟩
              · skip
                exact absurd rfl h46
              · skip
                refine xq_aload_n dX11_negation_49 rfl rfl ?_
                refine xq_getIE clX11 (by decide) rfl fl_RX11_157 dX11_negation_50 (Fx.s83 hF) hms.2 ?_
                refine xq_bipush dX11_negation_53 bp60 ?_
                refine xq_icmp_eqN dX11_negation_55 rfl (by omega) (by omega) ⟨fun h55 => ?_, fun h55 => ?_⟩
                · skip
                  refine xq_aload_n dX11_negation_87 rfl rfl ?_
                  refine xq_getIE (v := nI (sgc (kK s (rxN y)))) clX11 (by decide) rfl fl_RX11_157 dX11_negation_88 (Fx.s83 hF) hms.2 ?_
                  refine xq_istore_n dX11_negation_91 rfl rfl ?_
                  refine xq_aload_n dX11_negation_92 rfl rfl ?_
                  refine xq_callV0N clX11 gd_X11_knot dX11_negation_93 ml_RX11_262 im_X11_knot se_X11_knot rfl (Fx.s83 hF) (by exact Nat.le_of_ble_eq_true rfl) (by omega) (m_knot1 hF ry.2.2.1 ry.2.2.2.2 (by omega)) ?_
                  intro H93 p93
                  subst p93
                  have hrk := ry.kn (b := rxB y + 1)
                  have skk := sq1.pF (k := 31) (by decide) (nI (rxB y + 1))
                  refine xq_aload_n dX11_negation_96 rfl rfl ?_
                  refine xq_callV0N clX11 gd_X11_goOn dX11_negation_97 ml_RX11_235 im_X11_goOn se_X11_goOn rfl (Fx.s83 hF) (by exact Nat.le_of_ble_eq_true rfl) (by omega) (m_goOn hrk.2.2.1 hrk.1 (kK_in (show kK s (rxN y) ≠ 44 by omega) ry.1.lx)) ?_
                  intro H97 p97
                  obtain ⟨g1, g2⟩ := p97
                  have hrn : RxP S H97 bt ln s N (nxB y) := hrk.tk g1 g2
                  have skn := skk.tr (tok_sk g2)
                  refine xq_aload_n dX11_negation_100 rfl rfl ?_
                  refine xq_callV0N clX11 gd_X11_sum dX11_negation_101 ml_RX11_289 im_X11_sum se_X11_sum rfl (Fx.s83 hF) (by exact Nat.le_of_ble_eq_true rfl) (by omega) (hsub _ hrn) ?_
                  intro H101 p101
                  obtain ⟨sq, rz⟩ := p101
                  have skz := skn.tr sq
                  refine xq_aload_n dX11_negation_104 rfl rfl ?_
                  refine xq_iconst dX11_negation_105 ic2 ?_
                  refine xq_iload_n dX11_negation_106 rfl rfl ?_
                  refine xq_callV2N clX11 gd_X11_puts dX11_negation_107 ml_RX11_265 im_X11_puts se_X11_puts rfl (Fx.s83 hF) (by exact Nat.le_of_ble_eq_true rfl) (by omega) (m_puts hF rz.2.2.1 rz.nk hn64) ?_
                  intro H107 p107
                  subst p107
                  have hput : RxP S (ptH H101 (tNk (rxX z)) 2 (sgc (kK s (rxN y)))) bt ln s N (adB (kK s (rxN y)) y z) := by
                    have h := rz.pt (k := kK s (rxN y)) (a := tNk (rxX y) - 1) (b := tNk (rxX z) - 1) (w := oB (rxW z) (tNk (rxX z))) hn64
                    rw [es, ev] at h
                    exact h
                  refine xq_vret dX11_negation_110 rfl ?_
                  exact ⟨_, ⟨skz.pt, hput⟩, rfl⟩
                · skip
                  refine xq_aload_n dX11_negation_58 rfl rfl ?_
                  refine xq_getIE clX11 (by decide) rfl fl_RX11_157 dX11_negation_59 (Fx.s83 hF) hms.2 ?_
                  refine xq_bipush dX11_negation_62 bp62 ?_
                  refine xq_icmp_eqN dX11_negation_64 rfl (by omega) (by omega) ⟨fun h64 => ?_, fun h64 => ?_⟩
                  · skip
                    refine xq_aload_n dX11_negation_87 rfl rfl ?_
                    refine xq_getIE (v := nI (sgc (kK s (rxN y)))) clX11 (by decide) rfl fl_RX11_157 dX11_negation_88 (Fx.s83 hF) hms.2 ?_
                    refine xq_istore_n dX11_negation_91 rfl rfl ?_
                    refine xq_aload_n dX11_negation_92 rfl rfl ?_
                    refine xq_callV0N clX11 gd_X11_knot dX11_negation_93 ml_RX11_262 im_X11_knot se_X11_knot rfl (Fx.s83 hF) (by exact Nat.le_of_ble_eq_true rfl) (by omega) (m_knot1 hF ry.2.2.1 ry.2.2.2.2 (by omega)) ?_
                    intro H93 p93
                    subst p93
                    have hrk := ry.kn (b := rxB y + 1)
                    have skk := sq1.pF (k := 31) (by decide) (nI (rxB y + 1))
                    refine xq_aload_n dX11_negation_96 rfl rfl ?_
                    refine xq_callV0N clX11 gd_X11_goOn dX11_negation_97 ml_RX11_235 im_X11_goOn se_X11_goOn rfl (Fx.s83 hF) (by exact Nat.le_of_ble_eq_true rfl) (by omega) (m_goOn hrk.2.2.1 hrk.1 (kK_in (show kK s (rxN y) ≠ 44 by omega) ry.1.lx)) ?_
                    intro H97 p97
                    obtain ⟨g1, g2⟩ := p97
                    have hrn : RxP S H97 bt ln s N (nxB y) := hrk.tk g1 g2
                    have skn := skk.tr (tok_sk g2)
                    refine xq_aload_n dX11_negation_100 rfl rfl ?_
                    refine xq_callV0N clX11 gd_X11_sum dX11_negation_101 ml_RX11_289 im_X11_sum se_X11_sum rfl (Fx.s83 hF) (by exact Nat.le_of_ble_eq_true rfl) (by omega) (hsub _ hrn) ?_
                    intro H101 p101
                    obtain ⟨sq, rz⟩ := p101
                    have skz := skn.tr sq
                    refine xq_aload_n dX11_negation_104 rfl rfl ?_
                    refine xq_iconst dX11_negation_105 ic2 ?_
                    refine xq_iload_n dX11_negation_106 rfl rfl ?_
                    refine xq_callV2N clX11 gd_X11_puts dX11_negation_107 ml_RX11_265 im_X11_puts se_X11_puts rfl (Fx.s83 hF) (by exact Nat.le_of_ble_eq_true rfl) (by omega) (m_puts hF rz.2.2.1 rz.nk hn64) ?_
                    intro H107 p107
                    subst p107
                    have hput : RxP S (ptH H101 (tNk (rxX z)) 2 (sgc (kK s (rxN y)))) bt ln s N (adB (kK s (rxN y)) y z) := by
                      have h := rz.pt (k := kK s (rxN y)) (a := tNk (rxX y) - 1) (b := tNk (rxX z) - 1) (w := oB (rxW z) (tNk (rxX z))) hn64
                      rw [es, ev] at h
                      exact h
                    refine xq_vret dX11_negation_110 rfl ?_
                    exact ⟨_, ⟨skz.pt, hput⟩, rfl⟩
                  · skip
                    refine xq_aload_n dX11_negation_67 rfl rfl ?_
                    refine xq_getIE clX11 (by decide) rfl fl_RX11_157 dX11_negation_68 (Fx.s83 hF) hms.2 ?_
                    refine xq_bipush dX11_negation_71 bp61 ?_
                    refine xq_icmp_eqN dX11_negation_73 rfl (by omega) (by omega) ⟨fun h73 => ?_, fun h73 => ?_⟩
                    · skip
                      refine xq_aload_n dX11_negation_87 rfl rfl ?_
                      refine xq_getIE (v := nI (sgc (kK s (rxN y)))) clX11 (by decide) rfl fl_RX11_157 dX11_negation_88 (Fx.s83 hF) hms.2 ?_
                      refine xq_istore_n dX11_negation_91 rfl rfl ?_
                      refine xq_aload_n dX11_negation_92 rfl rfl ?_
                      refine xq_callV0N clX11 gd_X11_knot dX11_negation_93 ml_RX11_262 im_X11_knot se_X11_knot rfl (Fx.s83 hF) (by exact Nat.le_of_ble_eq_true rfl) (by omega) (m_knot1 hF ry.2.2.1 ry.2.2.2.2 (by omega)) ?_
                      intro H93 p93
                      subst p93
                      have hrk := ry.kn (b := rxB y + 1)
                      have skk := sq1.pF (k := 31) (by decide) (nI (rxB y + 1))
                      refine xq_aload_n dX11_negation_96 rfl rfl ?_
                      refine xq_callV0N clX11 gd_X11_goOn dX11_negation_97 ml_RX11_235 im_X11_goOn se_X11_goOn rfl (Fx.s83 hF) (by exact Nat.le_of_ble_eq_true rfl) (by omega) (m_goOn hrk.2.2.1 hrk.1 (kK_in (show kK s (rxN y) ≠ 44 by omega) ry.1.lx)) ?_
                      intro H97 p97
                      obtain ⟨g1, g2⟩ := p97
                      have hrn : RxP S H97 bt ln s N (nxB y) := hrk.tk g1 g2
                      have skn := skk.tr (tok_sk g2)
                      refine xq_aload_n dX11_negation_100 rfl rfl ?_
                      refine xq_callV0N clX11 gd_X11_sum dX11_negation_101 ml_RX11_289 im_X11_sum se_X11_sum rfl (Fx.s83 hF) (by exact Nat.le_of_ble_eq_true rfl) (by omega) (hsub _ hrn) ?_
                      intro H101 p101
                      obtain ⟨sq, rz⟩ := p101
                      have skz := skn.tr sq
                      refine xq_aload_n dX11_negation_104 rfl rfl ?_
                      refine xq_iconst dX11_negation_105 ic2 ?_
                      refine xq_iload_n dX11_negation_106 rfl rfl ?_
                      refine xq_callV2N clX11 gd_X11_puts dX11_negation_107 ml_RX11_265 im_X11_puts se_X11_puts rfl (Fx.s83 hF) (by exact Nat.le_of_ble_eq_true rfl) (by omega) (m_puts hF rz.2.2.1 rz.nk hn64) ?_
                      intro H107 p107
                      subst p107
                      have hput : RxP S (ptH H101 (tNk (rxX z)) 2 (sgc (kK s (rxN y)))) bt ln s N (adB (kK s (rxN y)) y z) := by
                        have h := rz.pt (k := kK s (rxN y)) (a := tNk (rxX y) - 1) (b := tNk (rxX z) - 1) (w := oB (rxW z) (tNk (rxX z))) hn64
                        rw [es, ev] at h
                        exact h
                      refine xq_vret dX11_negation_110 rfl ?_
                      exact ⟨_, ⟨skz.pt, hput⟩, rfl⟩
                    · skip
                      refine xq_aload_n dX11_negation_76 rfl rfl ?_
                      refine xq_getIE clX11 (by decide) rfl fl_RX11_157 dX11_negation_77 (Fx.s83 hF) hms.2 ?_
                      refine xq_sipush dX11_negation_80 sp256 ?_
                      refine xq_icmp_geN dX11_negation_83 rfl (by omega) (by omega) ⟨fun h83 => ?_, fun h83 => ?_⟩
                      · skip
                        refine xq_aload_n dX11_negation_87 rfl rfl ?_
                        refine xq_getIE (v := nI (sgc (kK s (rxN y)))) clX11 (by decide) rfl fl_RX11_157 dX11_negation_88 (Fx.s83 hF) hms.2 ?_
                        refine xq_istore_n dX11_negation_91 rfl rfl ?_
                        refine xq_aload_n dX11_negation_92 rfl rfl ?_
                        refine xq_callV0N clX11 gd_X11_knot dX11_negation_93 ml_RX11_262 im_X11_knot se_X11_knot rfl (Fx.s83 hF) (by exact Nat.le_of_ble_eq_true rfl) (by omega) (m_knot1 hF ry.2.2.1 ry.2.2.2.2 (by omega)) ?_
                        intro H93 p93
                        subst p93
                        have hrk := ry.kn (b := rxB y + 1)
                        have skk := sq1.pF (k := 31) (by decide) (nI (rxB y + 1))
                        refine xq_aload_n dX11_negation_96 rfl rfl ?_
                        refine xq_callV0N clX11 gd_X11_goOn dX11_negation_97 ml_RX11_235 im_X11_goOn se_X11_goOn rfl (Fx.s83 hF) (by exact Nat.le_of_ble_eq_true rfl) (by omega) (m_goOn hrk.2.2.1 hrk.1 (kK_in (show kK s (rxN y) ≠ 44 by omega) ry.1.lx)) ?_
                        intro H97 p97
                        obtain ⟨g1, g2⟩ := p97
                        have hrn : RxP S H97 bt ln s N (nxB y) := hrk.tk g1 g2
                        have skn := skk.tr (tok_sk g2)
                        refine xq_aload_n dX11_negation_100 rfl rfl ?_
                        refine xq_callV0N clX11 gd_X11_sum dX11_negation_101 ml_RX11_289 im_X11_sum se_X11_sum rfl (Fx.s83 hF) (by exact Nat.le_of_ble_eq_true rfl) (by omega) (hsub _ hrn) ?_
                        intro H101 p101
                        obtain ⟨sq, rz⟩ := p101
                        have skz := skn.tr sq
                        refine xq_aload_n dX11_negation_104 rfl rfl ?_
                        refine xq_iconst dX11_negation_105 ic2 ?_
                        refine xq_iload_n dX11_negation_106 rfl rfl ?_
                        refine xq_callV2N clX11 gd_X11_puts dX11_negation_107 ml_RX11_265 im_X11_puts se_X11_puts rfl (Fx.s83 hF) (by exact Nat.le_of_ble_eq_true rfl) (by omega) (m_puts hF rz.2.2.1 rz.nk hn64) ?_
                        intro H107 p107
                        subst p107
                        have hput : RxP S (ptH H101 (tNk (rxX z)) 2 (sgc (kK s (rxN y)))) bt ln s N (adB (kK s (rxN y)) y z) := by
                          have h := rz.pt (k := kK s (rxN y)) (a := tNk (rxX y) - 1) (b := tNk (rxX z) - 1) (w := oB (rxW z) (tNk (rxX z))) hn64
                          rw [es, ev] at h
                          exact h
                        refine xq_vret dX11_negation_110 rfl ?_
                        exact ⟨_, ⟨skz.pt, hput⟩, rfl⟩
                      · skip
                        exact absurd h83 (by omega)
          · skip
            exact absurd (of_decide_eq_true h6) hk
    · rw [if_neg hg]
      have hc : ¬ (32 ≤ kK s (rxN y) ∧ kK s (rxN y) ≤ 37) := fun z => hg (decide_eq_true z)
      refine vq_intro (by decide) (by exact Nat.le_of_ble_eq_true rfl) rfl ?_
      refine xq_aload_n dX11_negation_0 rfl rfl ?_
      refine xq_bipush dX11_negation_1 bp13 ?_
      refine xq_callV1P clX11 gd_X11_isWord dX11_negation_3 ml_RX11_259 im_X11_isWord se_X11_isWord rfl (Fx.s83 hF) (by exact Nat.le_of_ble_eq_true rfl) (by omega) (m_isWord (w := 13) hF hr.2.2.1 hr.1 (by decide)) ?_
      refine xq_if_eqB dX11_negation_6 rfl ⟨fun h6 => ?_, fun h6 => ?_⟩
      · skip
        refine xq_aload_n dX11_negation_30 rfl rfl ?_
        refine xq_callV0N clX11 gd_X11_sum dX11_negation_31 ml_RX11_289 im_X11_sum se_X11_sum rfl (Fx.s83 hF) (by exact Nat.le_of_ble_eq_true rfl) (by omega) (hsum _ hr) ?_
        intro H31 p31
        obtain ⟨sq1, ry⟩ := p31
        have hyk := kK_le (n := rxN y) ry.1.ok
        refine xq_aload_n dX11_negation_34 rfl rfl ?_
        refine xq_getIE (v := nI 0) clX11 (by decide) rfl fl_RX11_182 dX11_negation_35 (Fx.s83 hF) ry.2.2.1 ?_
        refine xq_if_neN dX11_negation_38 rfl (by omega) ⟨fun h38 => ?_, fun h38 => ?_⟩
        · skip
          exact absurd rfl h38
        · skip
          refine xq_aload_n dX11_negation_41 rfl rfl ?_
          refine xq_getI clX11 (by decide) rfl fl_RX11_147 dX11_negation_42 (Fx.s83 hF) ?_
          refine xq_iconst dX11_negation_45 ic3 ?_
          refine xq_icmp_ne dX11_negation_46 rfl ⟨fun h46 => ?_, fun h46 => ?_⟩
          · skip
            refine xq_vret dX11_negation_86 rfl ?_
            exact ⟨_, ⟨sq1, ry⟩, rfl⟩
          · skip
            have hs0 := MsV_s ry.1.ms hyk (show _ = _ by simpa using h46)
            have hva := (ry.1.ms.2.2.2.2.2 hs0).2
            have hlt := sgc_o hyk hs0 hc
            refine xq_aload_n dX11_negation_49 rfl rfl ?_
            refine xq_getIE clX11 (by decide) rfl fl_RX11_157 dX11_negation_50 (Fx.s83 hF) hva ?_
            refine xq_bipush dX11_negation_53 bp60 ?_
            refine xq_icmp_eqN dX11_negation_55 rfl (by omega) (by omega) ⟨fun h55 => ?_, fun h55 => ?_⟩
            · skip
              exact absurd h55 (by omega)
            · skip
              refine xq_aload_n dX11_negation_58 rfl rfl ?_
              refine xq_getIE clX11 (by decide) rfl fl_RX11_157 dX11_negation_59 (Fx.s83 hF) hva ?_
              refine xq_bipush dX11_negation_62 bp62 ?_
              refine xq_icmp_eqN dX11_negation_64 rfl (by omega) (by omega) ⟨fun h64 => ?_, fun h64 => ?_⟩
              · skip
                exact absurd h64 (by omega)
              · skip
                refine xq_aload_n dX11_negation_67 rfl rfl ?_
                refine xq_getIE clX11 (by decide) rfl fl_RX11_157 dX11_negation_68 (Fx.s83 hF) hva ?_
                refine xq_bipush dX11_negation_71 bp61 ?_
                refine xq_icmp_eqN dX11_negation_73 rfl (by omega) (by omega) ⟨fun h73 => ?_, fun h73 => ?_⟩
                · skip
                  exact absurd h73 (by omega)
                · skip
                  refine xq_aload_n dX11_negation_76 rfl rfl ?_
                  refine xq_getIE clX11 (by decide) rfl fl_RX11_157 dX11_negation_77 (Fx.s83 hF) hva ?_
                  refine xq_sipush dX11_negation_80 sp256 ?_
                  refine xq_icmp_geN dX11_negation_83 rfl (by omega) (by omega) ⟨fun h83 => ?_, fun h83 => ?_⟩
                  · skip
                    exact absurd h83 (by omega)
                  · skip
                    refine xq_vret dX11_negation_86 rfl ?_
                    exact ⟨_, ⟨sq1, ry⟩, rfl⟩
      · skip
        exact absurd (of_decide_eq_true h6) hk
theorem m_primB (hF : gFx S) (IH : MOk S mX11_expression 15 bt ln s N d 6) (K : Nat) (hK : 6 * (8 - rxO x) + (64 - rxB x) + 10 ≤ K) (hr : RxP S H bt ln s N x) (hw : RxW x) (hk : kK s (rxN x) = 41) (hn : NjQ (brk s (rd s d 6) x)) : Nv mX11_primary K [.ref 83] S H (fun H2 => mQ S H H2 bt ln s N (brk s (rd s d 6) x)) := by
  unfold brk at hn ⊢
  have ho8 := hw.2.2.1
  by_cases h8 : 8 ≤ rxO x
  · rw [if_pos h8]
    refine vq_intro (by decide) (by exact Nat.le_of_ble_eq_true rfl) rfl ?_
    refine xq_aload_n dX11_primary_0 rfl rfl ?_
    refine xq_getIE (v := nI 0) clX11 (by decide) rfl fl_RX11_182 dX11_primary_1 (Fx.s83 hF) hr.2.2.1 ?_
    refine xq_if_eqN dX11_primary_4 rfl (by omega) ⟨fun h4 => ?_, fun h4 => ?_⟩
    · skip
      refine xq_aload_n dX11_primary_8 rfl rfl ?_
      refine xq_bipush dX11_primary_9 bp40 ?_
      refine xq_callV1P clX11 gd_X11_isSign dX11_primary_11 ml_RX11_241 im_X11_isSign se_X11_isSign rfl (Fx.s83 hF) (by exact Nat.le_of_ble_eq_true rfl) (by omega) (m_isSign (K := 41) hF hr.2.2.1 hr.1 (by decide) (by decide)) ?_
      refine xq_if_eqB dX11_primary_14 rfl ⟨fun h14 => ?_, fun h14 => ?_⟩
      · skip
        exact absurd (of_decide_eq_false h14) (by omega)
      · skip
        refine xq_aload_n dX11_primary_17 rfl rfl ?_
        refine xq_getIE clX11 (by decide) rfl fl_RX11_274 dX11_primary_18 (Fx.s83 hF) hr.2.2.2.1 ?_
        refine xq_bipush dX11_primary_21 bp8 ?_
        refine xq_icmp_neN dX11_primary_23 rfl (by omega) (by omega) ⟨fun h23 => ?_, fun h23 => ?_⟩
        · skip
          exact absurd h23 (by have := hw.2.2.1; omega)
        · skip
          refine xq_aload_n dX11_primary_26 rfl rfl ?_
          refine xq_iconst dX11_primary_27 ic2 ?_
          refine xq_callV1N clX11 gd_X11_wrong dX11_primary_28 ml_RX11_191 im_X11_wrong se_X11_wrong rfl (Fx.s83 hF) (by exact Nat.le_of_ble_eq_true rfl) (by omega) (m_wrong0 hF hr.2.2.1 hr.1.pl) ?_
          intro H28 p28
          subst p28
          have mf28 := wr_mf (c := 2) hr.1
          have ft := FtQ.mf mf28 (by decide) (by decide) hr.1.js
          have skf := ((SmK.rf (H := H))).tr (MfQ.sk mf28)
          have fa := ft.1; have fb := ft.2.2.1; have fc := ft.2.2.2.1
          refine xq_aload_n dX11_primary_31 rfl rfl ?_
          refine xq_getIE (v := nI 2) clX11 (by decide) rfl fl_RX11_182 dX11_primary_32 (Fx.s83 hF) ft.1 ?_
          refine xq_if_eqN dX11_primary_35 rfl (by omega) ⟨fun h35 => ?_, fun h35 => ?_⟩
          · skip
            exact absurd h35 (by decide)
          · skip
            refine xq_vret dX11_primary_38 rfl ?_
            exact ⟨_, ⟨skf, ft⟩, rfl⟩
    · skip
      exact absurd rfl h4
  · rw [if_neg h8] at hn ⊢
    have hwx : RxW (rxN x + 1, rxX x, rxB x, rxO x + 1, rxW x) := ⟨hw.1, hw.2.1, show rxO x + 1 ≤ 8 by omega, hw.2.2.2⟩
    have hsub : ∀ H3, RxP S H3 bt ln s N (rxN x + 1, rxX x, rxB x, rxO x + 1, rxW x) → Nv mX11_expression (K - 1) [.ref 83] S H3 (fun H2 => mQ S H3 H2 bt ln s N (rd s d 6 (rxN x + 1, rxX x, rxB x, rxO x + 1, rxW x))) := fun H3 h3 => IH (rxN x + 1, rxX x, rxB x, rxO x + 1, rxW x) (K - 1) H3 (by show 6 * (8 - (rxO x + 1)) + (64 - rxB x) + 15 ≤ K - 1; omega) h3 hwx (nj_b1 hn)
    cases er : rd s d 6 (rxN x + 1, rxX x, rxB x, rxO x + 1, rxW x) with
    | inl f =>
      obtain ⟨c, m⟩ := f
      rw [er] at hsub
      refine vq_intro (by decide) (by exact Nat.le_of_ble_eq_true rfl) rfl ?_
      refine xq_aload_n dX11_primary_0 rfl rfl ?_
      refine xq_getIE (v := nI 0) clX11 (by decide) rfl fl_RX11_182 dX11_primary_1 (Fx.s83 hF) hr.2.2.1 ?_
      refine xq_if_eqN dX11_primary_4 rfl (by omega) ⟨fun h4 => ?_, fun h4 => ?_⟩
      · skip
        refine xq_aload_n dX11_primary_8 rfl rfl ?_
        refine xq_bipush dX11_primary_9 bp40 ?_
        refine xq_callV1P clX11 gd_X11_isSign dX11_primary_11 ml_RX11_241 im_X11_isSign se_X11_isSign rfl (Fx.s83 hF) (by exact Nat.le_of_ble_eq_true rfl) (by omega) (m_isSign (K := 41) hF hr.2.2.1 hr.1 (by decide) (by decide)) ?_
        refine xq_if_eqB dX11_primary_14 rfl ⟨fun h14 => ?_, fun h14 => ?_⟩
        · skip
          exact absurd (of_decide_eq_false h14) (by omega)
        · skip
          refine xq_aload_n dX11_primary_17 rfl rfl ?_
          refine xq_getIE clX11 (by decide) rfl fl_RX11_274 dX11_primary_18 (Fx.s83 hF) hr.2.2.2.1 ?_
          refine xq_bipush dX11_primary_21 bp8 ?_
          refine xq_icmp_neN dX11_primary_23 rfl (by omega) (by omega) ⟨fun h23 => ?_, fun h23 => ?_⟩
          · skip
            refine xq_aload_n dX11_primary_31 rfl rfl ?_
            refine xq_getIE (v := nI 0) clX11 (by decide) rfl fl_RX11_182 dX11_primary_32 (Fx.s83 hF) hr.2.2.1 ?_
            refine xq_if_eqN dX11_primary_35 rfl (by omega) ⟨fun h35 => ?_, fun h35 => ?_⟩
            · skip
              refine xq_aload_n dX11_primary_39 rfl rfl ?_
              refine xq_dup dX11_primary_40 rfl ?_
              refine xq_getIE clX11 (by decide) rfl fl_RX11_274 dX11_primary_41 (Fx.s83 hF) hr.2.2.2.1 ?_
              refine xq_iconst dX11_primary_44 ic1 ?_
              refine xq_iaddN dX11_primary_45 ?_
              refine xq_putI clX11 (by decide) rfl fl_RX11_274 (Or.inl rfl) dX11_primary_46 ⟨rfl, rfl⟩ (Fx.s83 hF) ?_
              refine xq_aload_n dX11_primary_49 rfl rfl ?_
              refine xq_callV0N clX11 gd_X11_token dX11_primary_50 ml_RX11_188 im_X11_token se_X11_token rfl (Fx.s83 hF) (by exact Nat.le_of_ble_eq_true rfl) (by omega) (m_tok (hr.op (o := rxO x + 1)).1 (kK_in (show kK s (rxN x) ≠ 44 by omega) hr.1.lx)) ?_
              intro H50 p50
              obtain ⟨g1_50, g2_50⟩ := p50
              have hr50 := (hr.op (o := rxO x + 1)).tk g1_50 g2_50
              have sk50 := ((SmK.rf (H := H)).pF (k := 30) (by decide) (nI (rxO x + 1))).tr (tok_sk g2_50)
              refine xq_aload_n dX11_primary_53 rfl rfl ?_
              refine xq_callV0N clX11 gd_X11_expression dX11_primary_54 ml_RX11_253 im_X11_expression se_X11_expression rfl (Fx.s83 hF) (by exact Nat.le_of_ble_eq_true rfl) (by omega) (hsub _ hr50) ?_
              intro H54 p54
              obtain ⟨sq, ft⟩ := p54
              have skf := sk50.tr sq
              have fa := ft.1; have fb := ft.2.2.1; have fc := ft.2.2.2.1
              refine xq_aload_n dX11_primary_57 rfl rfl ?_
              refine xq_getIE (v := nI c) clX11 (by decide) rfl fl_RX11_182 dX11_primary_58 (Fx.s83 hF) ft.1 ?_
              refine xq_if_neN dX11_primary_61 rfl (by omega) ⟨fun h61 => ?_, fun h61 => ?_⟩
              · skip
                refine xq_aload_n dX11_primary_78 rfl rfl ?_
                refine xq_getIE (v := nI c) clX11 (by decide) rfl fl_RX11_182 dX11_primary_79 (Fx.s83 hF) ft.1 ?_
                refine xq_if_eqN dX11_primary_82 rfl (by omega) ⟨fun h82 => ?_, fun h82 => ?_⟩
                · skip
                  exact absurd h82 (by have := ft.2.2.1; omega)
                · skip
                  refine xq_vret dX11_primary_85 rfl ?_
                  exact ⟨_, ⟨skf, ft⟩, rfl⟩
              · skip
                exact absurd h61 (by have := ft.2.2.1; omega)
            · skip
              exact absurd rfl h35
          · skip
            exact absurd h23 (by omega)
      · skip
        exact absurd rfl h4
    | inr z =>
      have hq := rd_q d 6 (rxN x + 1, rxX x, rxB x, rxO x + 1, rxW x) z hw.2.1 er
      have ho : rxO z = rxO x + 1 := hq.1
      rw [er] at hsub
      show Nv mX11_primary K [.ref 83] S H (fun H2 => mQ S H H2 bt ln s N (if kK s (rxN z) = 42 then .inr (rxN z + 1, rxX z, rxB z, rxO z - 1, rxW z) else .inl (1, rxN z)))
      by_cases h42 : kK s (rxN z) = 42
      · rw [if_pos h42]
        refine vq_intro (by decide) (by exact Nat.le_of_ble_eq_true rfl) rfl ?_
        refine xq_aload_n dX11_primary_0 rfl rfl ?_
        refine xq_getIE (v := nI 0) clX11 (by decide) rfl fl_RX11_182 dX11_primary_1 (Fx.s83 hF) hr.2.2.1 ?_
        refine xq_if_eqN dX11_primary_4 rfl (by omega) ⟨fun h4 => ?_, fun h4 => ?_⟩
        · skip
          refine xq_aload_n dX11_primary_8 rfl rfl ?_
          refine xq_bipush dX11_primary_9 bp40 ?_
          refine xq_callV1P clX11 gd_X11_isSign dX11_primary_11 ml_RX11_241 im_X11_isSign se_X11_isSign rfl (Fx.s83 hF) (by exact Nat.le_of_ble_eq_true rfl) (by omega) (m_isSign (K := 41) hF hr.2.2.1 hr.1 (by decide) (by decide)) ?_
          refine xq_if_eqB dX11_primary_14 rfl ⟨fun h14 => ?_, fun h14 => ?_⟩
          · skip
            exact absurd (of_decide_eq_false h14) (by omega)
          · skip
            refine xq_aload_n dX11_primary_17 rfl rfl ?_
            refine xq_getIE clX11 (by decide) rfl fl_RX11_274 dX11_primary_18 (Fx.s83 hF) hr.2.2.2.1 ?_
            refine xq_bipush dX11_primary_21 bp8 ?_
            refine xq_icmp_neN dX11_primary_23 rfl (by omega) (by omega) ⟨fun h23 => ?_, fun h23 => ?_⟩
            · skip
              refine xq_aload_n dX11_primary_31 rfl rfl ?_
              refine xq_getIE (v := nI 0) clX11 (by decide) rfl fl_RX11_182 dX11_primary_32 (Fx.s83 hF) hr.2.2.1 ?_
              refine xq_if_eqN dX11_primary_35 rfl (by omega) ⟨fun h35 => ?_, fun h35 => ?_⟩
              · skip
                refine xq_aload_n dX11_primary_39 rfl rfl ?_
                refine xq_dup dX11_primary_40 rfl ?_
                refine xq_getIE clX11 (by decide) rfl fl_RX11_274 dX11_primary_41 (Fx.s83 hF) hr.2.2.2.1 ?_
                refine xq_iconst dX11_primary_44 ic1 ?_
                refine xq_iaddN dX11_primary_45 ?_
                refine xq_putI clX11 (by decide) rfl fl_RX11_274 (Or.inl rfl) dX11_primary_46 ⟨rfl, rfl⟩ (Fx.s83 hF) ?_
                refine xq_aload_n dX11_primary_49 rfl rfl ?_
                refine xq_callV0N clX11 gd_X11_token dX11_primary_50 ml_RX11_188 im_X11_token se_X11_token rfl (Fx.s83 hF) (by exact Nat.le_of_ble_eq_true rfl) (by omega) (m_tok (hr.op (o := rxO x + 1)).1 (kK_in (show kK s (rxN x) ≠ 44 by omega) hr.1.lx)) ?_
                intro H50 p50
                obtain ⟨g1_50, g2_50⟩ := p50
                have hr50 := (hr.op (o := rxO x + 1)).tk g1_50 g2_50
                have sk50 := ((SmK.rf (H := H)).pF (k := 30) (by decide) (nI (rxO x + 1))).tr (tok_sk g2_50)
                refine xq_aload_n dX11_primary_53 rfl rfl ?_
                refine xq_callV0N clX11 gd_X11_expression dX11_primary_54 ml_RX11_253 im_X11_expression se_X11_expression rfl (Fx.s83 hF) (by exact Nat.le_of_ble_eq_true rfl) (by omega) (hsub _ hr50) ?_
                intro H54 p54
                obtain ⟨sq, rz⟩ := p54
                have skz := sk50.tr sq
                refine xq_aload_n dX11_primary_57 rfl rfl ?_
                refine xq_getIE (v := nI 0) clX11 (by decide) rfl fl_RX11_182 dX11_primary_58 (Fx.s83 hF) rz.2.2.1 ?_
                refine xq_if_neN dX11_primary_61 rfl (by omega) ⟨fun h61 => ?_, fun h61 => ?_⟩
                · skip
                  exact absurd rfl h61
                · skip
                  refine xq_aload_n dX11_primary_64 rfl rfl ?_
                  refine xq_bipush dX11_primary_65 bp41 ?_
                  refine xq_callV1P clX11 gd_X11_isSign dX11_primary_67 ml_RX11_241 im_X11_isSign se_X11_isSign rfl (Fx.s83 hF) (by exact Nat.le_of_ble_eq_true rfl) (by omega) (m_isSign (K := 42) hF rz.2.2.1 rz.1 (by decide) (by decide)) ?_
                  refine xq_if_neB dX11_primary_70 rfl ⟨fun h70 => ?_, fun h70 => ?_⟩
                  · skip
                    refine xq_aload_n dX11_primary_78 rfl rfl ?_
                    refine xq_getIE (v := nI 0) clX11 (by decide) rfl fl_RX11_182 dX11_primary_79 (Fx.s83 hF) rz.2.2.1 ?_
                    refine xq_if_eqN dX11_primary_82 rfl (by omega) ⟨fun h82 => ?_, fun h82 => ?_⟩
                    · skip
                      refine xq_aload_n dX11_primary_86 rfl rfl ?_
                      refine xq_dup dX11_primary_87 rfl ?_
                      refine xq_getIE clX11 (by decide) rfl fl_RX11_274 dX11_primary_88 (Fx.s83 hF) rz.2.2.2.1 ?_
                      refine xq_iconst dX11_primary_91 ic1 ?_
                      refine xq_isubN dX11_primary_92 (by omega) ?_
                      refine xq_putI clX11 (by decide) rfl fl_RX11_274 (Or.inl rfl) dX11_primary_93 ⟨rfl, rfl⟩ (Fx.s83 hF) ?_
                      refine xq_aload_n dX11_primary_96 rfl rfl ?_
                      refine xq_callV0N clX11 gd_X11_token dX11_primary_97 ml_RX11_188 im_X11_token se_X11_token rfl (Fx.s83 hF) (by exact Nat.le_of_ble_eq_true rfl) (by omega) (m_tok (rz.op (o := rxO z - 1)).1 (kK_in (show kK s (rxN z) ≠ 44 by omega) rz.1.lx)) ?_
                      intro H97 p97
                      obtain ⟨g1_97, g2_97⟩ := p97
                      have hr97 := (rz.op (o := rxO z - 1)).tk g1_97 g2_97
                      have sk97 := (skz.pF (k := 30) (by decide) (nI (rxO z - 1))).tr (tok_sk g2_97)
                      refine xq_vret dX11_primary_100 rfl ?_
                      exact ⟨_, ⟨sk97, hr97⟩, rfl⟩
                    · skip
                      exact absurd rfl h82
                  · skip
                    exact absurd h42 (of_decide_eq_false h70)
              · skip
                exact absurd rfl h35
            · skip
              exact absurd h23 (by omega)
        · skip
          exact absurd rfl h4
      · rw [if_neg h42]
        refine vq_intro (by decide) (by exact Nat.le_of_ble_eq_true rfl) rfl ?_
        refine xq_aload_n dX11_primary_0 rfl rfl ?_
        refine xq_getIE (v := nI 0) clX11 (by decide) rfl fl_RX11_182 dX11_primary_1 (Fx.s83 hF) hr.2.2.1 ?_
        refine xq_if_eqN dX11_primary_4 rfl (by omega) ⟨fun h4 => ?_, fun h4 => ?_⟩
        · skip
          refine xq_aload_n dX11_primary_8 rfl rfl ?_
          refine xq_bipush dX11_primary_9 bp40 ?_
          refine xq_callV1P clX11 gd_X11_isSign dX11_primary_11 ml_RX11_241 im_X11_isSign se_X11_isSign rfl (Fx.s83 hF) (by exact Nat.le_of_ble_eq_true rfl) (by omega) (m_isSign (K := 41) hF hr.2.2.1 hr.1 (by decide) (by decide)) ?_
          refine xq_if_eqB dX11_primary_14 rfl ⟨fun h14 => ?_, fun h14 => ?_⟩
          · skip
            exact absurd (of_decide_eq_false h14) (by omega)
          · skip
            refine xq_aload_n dX11_primary_17 rfl rfl ?_
            refine xq_getIE clX11 (by decide) rfl fl_RX11_274 dX11_primary_18 (Fx.s83 hF) hr.2.2.2.1 ?_
            refine xq_bipush dX11_primary_21 bp8 ?_
            refine xq_icmp_neN dX11_primary_23 rfl (by omega) (by omega) ⟨fun h23 => ?_, fun h23 => ?_⟩
            · skip
              refine xq_aload_n dX11_primary_31 rfl rfl ?_
              refine xq_getIE (v := nI 0) clX11 (by decide) rfl fl_RX11_182 dX11_primary_32 (Fx.s83 hF) hr.2.2.1 ?_
              refine xq_if_eqN dX11_primary_35 rfl (by omega) ⟨fun h35 => ?_, fun h35 => ?_⟩
              · skip
                refine xq_aload_n dX11_primary_39 rfl rfl ?_
                refine xq_dup dX11_primary_40 rfl ?_
                refine xq_getIE clX11 (by decide) rfl fl_RX11_274 dX11_primary_41 (Fx.s83 hF) hr.2.2.2.1 ?_
                refine xq_iconst dX11_primary_44 ic1 ?_
                refine xq_iaddN dX11_primary_45 ?_
                refine xq_putI clX11 (by decide) rfl fl_RX11_274 (Or.inl rfl) dX11_primary_46 ⟨rfl, rfl⟩ (Fx.s83 hF) ?_
                refine xq_aload_n dX11_primary_49 rfl rfl ?_
                refine xq_callV0N clX11 gd_X11_token dX11_primary_50 ml_RX11_188 im_X11_token se_X11_token rfl (Fx.s83 hF) (by exact Nat.le_of_ble_eq_true rfl) (by omega) (m_tok (hr.op (o := rxO x + 1)).1 (kK_in (show kK s (rxN x) ≠ 44 by omega) hr.1.lx)) ?_
                intro H50 p50
                obtain ⟨g1_50, g2_50⟩ := p50
                have hr50 := (hr.op (o := rxO x + 1)).tk g1_50 g2_50
                have sk50 := ((SmK.rf (H := H)).pF (k := 30) (by decide) (nI (rxO x + 1))).tr (tok_sk g2_50)
                refine xq_aload_n dX11_primary_53 rfl rfl ?_
                refine xq_callV0N clX11 gd_X11_expression dX11_primary_54 ml_RX11_253 im_X11_expression se_X11_expression rfl (Fx.s83 hF) (by exact Nat.le_of_ble_eq_true rfl) (by omega) (hsub _ hr50) ?_
                intro H54 p54
                obtain ⟨sq, rz⟩ := p54
                have skz := sk50.tr sq
                refine xq_aload_n dX11_primary_57 rfl rfl ?_
                refine xq_getIE (v := nI 0) clX11 (by decide) rfl fl_RX11_182 dX11_primary_58 (Fx.s83 hF) rz.2.2.1 ?_
                refine xq_if_neN dX11_primary_61 rfl (by omega) ⟨fun h61 => ?_, fun h61 => ?_⟩
                · skip
                  exact absurd rfl h61
                · skip
                  refine xq_aload_n dX11_primary_64 rfl rfl ?_
                  refine xq_bipush dX11_primary_65 bp41 ?_
                  refine xq_callV1P clX11 gd_X11_isSign dX11_primary_67 ml_RX11_241 im_X11_isSign se_X11_isSign rfl (Fx.s83 hF) (by exact Nat.le_of_ble_eq_true rfl) (by omega) (m_isSign (K := 42) hF rz.2.2.1 rz.1 (by decide) (by decide)) ?_
                  refine xq_if_neB dX11_primary_70 rfl ⟨fun h70 => ?_, fun h70 => ?_⟩
                  · skip
                    exact absurd (of_decide_eq_true h70) h42
                  · skip
                    refine xq_aload_n dX11_primary_73 rfl rfl ?_
                    refine xq_iconst dX11_primary_74 ic1 ?_
                    refine xq_callV1N clX11 gd_X11_wrong dX11_primary_75 ml_RX11_191 im_X11_wrong se_X11_wrong rfl (Fx.s83 hF) (by exact Nat.le_of_ble_eq_true rfl) (by omega) (m_wrong0 hF rz.2.2.1 rz.1.pl) ?_
                    intro H75 p75
                    subst p75
                    have mf75 := wr_mf (c := 1) rz.1
                    have ft := FtQ.mf mf75 (by decide) (by decide) rz.1.js
                    have skf := (skz).tr (MfQ.sk mf75)
                    have fa := ft.1; have fb := ft.2.2.1; have fc := ft.2.2.2.1
                    refine xq_aload_n dX11_primary_78 rfl rfl ?_
                    refine xq_getIE (v := nI 1) clX11 (by decide) rfl fl_RX11_182 dX11_primary_79 (Fx.s83 hF) ft.1 ?_
                    refine xq_if_eqN dX11_primary_82 rfl (by omega) ⟨fun h82 => ?_, fun h82 => ?_⟩
                    · skip
                      exact absurd h82 (by decide)
                    · skip
                      refine xq_vret dX11_primary_85 rfl ?_
                      exact ⟨_, ⟨skf, ft⟩, rfl⟩
              · skip
                exact absurd rfl h35
            · skip
              exact absurd h23 (by omega)
        · skip
          exact absurd rfl h4
theorem m_prim38a (hF : gFx S) (K : Nat) (hK : 6 * (8 - rxO x) + (64 - rxB x) + 10 ≤ K) (hr : RxP S H bt ln s N x) (hw : RxW x) (hk : kK s (rxN x) = 38) (hb : numB s (rxN x) 9999 = false) : Nv mX11_primary K [.ref 83] S H (fun H2 => mQ S H H2 bt ln s N (.inl (2, rxN x))) := by
  obtain ⟨hso, e, hva, he, hev⟩ := hr.1.ms.2.2.1 hk
  have hV : ¬ kV s (rxN x) ≤ 9999 := fun z => of_decide_eq_false hb ⟨hk, z⟩
  refine vq_intro (by decide) (by exact Nat.le_of_ble_eq_true rfl) rfl ?_
  refine xq_aload_n dX11_primary_0 rfl rfl ?_
  refine xq_getIE (v := nI 0) clX11 (by decide) rfl fl_RX11_182 dX11_primary_1 (Fx.s83 hF) hr.2.2.1 ?_
  refine xq_if_eqN dX11_primary_4 rfl (by omega) ⟨fun h4 => ?_, fun h4 => ?_⟩
  · skip
    refine xq_aload_n dX11_primary_8 rfl rfl ?_
    refine xq_bipush dX11_primary_9 bp40 ?_
    refine xq_callV1P clX11 gd_X11_isSign dX11_primary_11 ml_RX11_241 im_X11_isSign se_X11_isSign rfl (Fx.s83 hF) (by exact Nat.le_of_ble_eq_true rfl) (by omega) (m_isSign (K := 41) hF hr.2.2.1 hr.1 (by decide) (by decide)) ?_
    refine xq_if_eqB dX11_primary_14 rfl ⟨fun h14 => ?_, fun h14 => ?_⟩
    · skip
      refine xq_aload_n dX11_primary_101 rfl rfl ?_
      refine xq_getIE (v := nI 2) clX11 (by decide) rfl fl_RX11_147 dX11_primary_102 (Fx.s83 hF) hso ?_
      refine xq_iconst dX11_primary_105 ic2 ?_
      refine xq_icmp_neN dX11_primary_106 rfl (by omega) (by omega) ⟨fun h106 => ?_, fun h106 => ?_⟩
      · skip
        exact absurd rfl h106
      · skip
        refine xq_iconst dX11_primary_109 ic1 ?_
        refine xq_goto dX11_primary_110 rfl ?_
        refine xq_istore_n dX11_primary_114 rfl rfl ?_
        refine xq_iload_n dX11_primary_115 rfl rfl ?_
        refine xq_if_eqN dX11_primary_116 rfl (by omega) ⟨fun h116 => ?_, fun h116 => ?_⟩
        · skip
          first | exact absurd h116 (by decide) | exact absurd rfl h116
        · skip
          refine xq_aload_n dX11_primary_119 rfl rfl ?_
          refine xq_getIE (v := nI e) clX11 (by decide) rfl fl_RX11_157 dX11_primary_120 (Fx.s83 hF) hva ?_
          refine xq_sipush dX11_primary_123 sp9999 ?_
          refine xq_icmp_leN dX11_primary_126 rfl (by omega) (by omega) ⟨fun h126 => ?_, fun h126 => ?_⟩
          · skip
            exact absurd h126 (by omega)
          · skip
            refine xq_aload_n dX11_primary_129 rfl rfl ?_
            refine xq_iconst dX11_primary_130 ic2 ?_
            refine xq_callV1N clX11 gd_X11_wrong dX11_primary_131 ml_RX11_191 im_X11_wrong se_X11_wrong rfl (Fx.s83 hF) (by exact Nat.le_of_ble_eq_true rfl) (by omega) (m_wrong0 hF hr.2.2.1 hr.1.pl) ?_
            intro H131 p131
            subst p131
            have mf131 := wr_mf (c := 2) hr.1
            have ft := FtQ.mf mf131 (by decide) (by decide) hr.1.js
            have skf := ((SmK.rf (H := H))).tr (MfQ.sk mf131)
            have fa := ft.1; have fb := ft.2.2.1; have fc := ft.2.2.2.1
            refine xq_goto dX11_primary_134 rfl ?_
            refine xq_aload_n dX11_primary_162 rfl rfl ?_
            refine xq_callV0N clX11 gd_X11_knot dX11_primary_163 ml_RX11_262 im_X11_knot se_X11_knot rfl (Fx.s83 hF) (by exact Nat.le_of_ble_eq_true rfl) (by omega) (m_knotF hF fa fb fc) ?_
            intro H163 p163
            subst p163
            refine xq_aload_n dX11_primary_166 rfl rfl ?_
            refine xq_iload_n dX11_primary_167 rfl rfl ?_
            refine xq_if_eqN dX11_primary_168 rfl (by omega) ⟨fun h168 => ?_, fun h168 => ?_⟩
            · skip
              first | exact absurd h168 (by decide) | exact absurd rfl h168
            · skip
              refine xq_iconst dX11_primary_171 ic0 ?_
              refine xq_goto dX11_primary_172 rfl ?_
              refine xq_iload_n dX11_primary_176 rfl rfl ?_
              refine xq_if_eqN dX11_primary_177 rfl (by omega) ⟨fun h177 => ?_, fun h177 => ?_⟩
              · skip
                first | exact absurd h177 (by decide) | exact absurd rfl h177
              · skip
                refine xq_aload_n dX11_primary_180 rfl rfl ?_
                refine xq_getIE (v := nI e) clX11 (by decide) rfl fl_RX11_157 dX11_primary_181 (Fx.s83 hF) hva ?_
                refine xq_goto dX11_primary_184 rfl ?_
                refine xq_callV2N clX11 gd_X11_puts dX11_primary_194 ml_RX11_265 im_X11_puts se_X11_puts rfl (Fx.s83 hF) (by exact Nat.le_of_ble_eq_true rfl) (by omega) (m_putsF hF fa fb fc) ?_
                intro H194 p194
                subst p194
                refine xq_aload_n dX11_primary_197 rfl rfl ?_
                refine xq_callV0N clX11 gd_X11_goOn dX11_primary_198 ml_RX11_235 im_X11_goOn se_X11_goOn rfl (Fx.s83 hF) (by exact Nat.le_of_ble_eq_true rfl) (by omega) (m_goOn1 hF fa fb fc) ?_
                intro H198 p198
                subst p198
                refine xq_vret dX11_primary_201 rfl ?_
                exact ⟨_, ⟨skf, ft⟩, rfl⟩
    · skip
      exact absurd (of_decide_eq_true h14) (by omega)
  · skip
    exact absurd rfl h4
theorem m_prim38b (hF : gFx S) (K : Nat) (hK : 6 * (8 - rxO x) + (64 - rxB x) + 10 ≤ K) (hr : RxP S H bt ln s N x) (hw : RxW x) (hk : kK s (rxN x) = 38) (hb : ¬ numB s (rxN x) 9999 = false) (h64 : 64 ≤ rxB x) : Nv mX11_primary K [.ref 83] S H (fun H2 => mQ S H H2 bt ln s N (.inl (2, rxN x))) := by
  obtain ⟨hso, e, hva, he, hev⟩ := hr.1.ms.2.2.1 hk
  have hV := (of_decide_eq_true (show numB s (rxN x) 9999 = true by simpa using hb)).2
  have hee : e = kV s (rxN x) := by omega
  refine vq_intro (by decide) (by exact Nat.le_of_ble_eq_true rfl) rfl ?_
  refine xq_aload_n dX11_primary_0 rfl rfl ?_
  refine xq_getIE (v := nI 0) clX11 (by decide) rfl fl_RX11_182 dX11_primary_1 (Fx.s83 hF) hr.2.2.1 ?_
  refine xq_if_eqN dX11_primary_4 rfl (by omega) ⟨fun h4 => ?_, fun h4 => ?_⟩
  · skip
    refine xq_aload_n dX11_primary_8 rfl rfl ?_
    refine xq_bipush dX11_primary_9 bp40 ?_
    refine xq_callV1P clX11 gd_X11_isSign dX11_primary_11 ml_RX11_241 im_X11_isSign se_X11_isSign rfl (Fx.s83 hF) (by exact Nat.le_of_ble_eq_true rfl) (by omega) (m_isSign (K := 41) hF hr.2.2.1 hr.1 (by decide) (by decide)) ?_
    refine xq_if_eqB dX11_primary_14 rfl ⟨fun h14 => ?_, fun h14 => ?_⟩
    · skip
      refine xq_aload_n dX11_primary_101 rfl rfl ?_
      refine xq_getIE (v := nI 2) clX11 (by decide) rfl fl_RX11_147 dX11_primary_102 (Fx.s83 hF) hso ?_
      refine xq_iconst dX11_primary_105 ic2 ?_
      refine xq_icmp_neN dX11_primary_106 rfl (by omega) (by omega) ⟨fun h106 => ?_, fun h106 => ?_⟩
      · skip
        exact absurd rfl h106
      · skip
        refine xq_iconst dX11_primary_109 ic1 ?_
        refine xq_goto dX11_primary_110 rfl ?_
        refine xq_istore_n dX11_primary_114 rfl rfl ?_
        refine xq_iload_n dX11_primary_115 rfl rfl ?_
        refine xq_if_eqN dX11_primary_116 rfl (by omega) ⟨fun h116 => ?_, fun h116 => ?_⟩
        · skip
          first | exact absurd h116 (by decide) | exact absurd rfl h116
        · skip
          refine xq_aload_n dX11_primary_119 rfl rfl ?_
          refine xq_getIE (v := nI e) clX11 (by decide) rfl fl_RX11_157 dX11_primary_120 (Fx.s83 hF) hva ?_
          refine xq_sipush dX11_primary_123 sp9999 ?_
          refine xq_icmp_leN dX11_primary_126 rfl (by omega) (by omega) ⟨fun h126 => ?_, fun h126 => ?_⟩
          · skip
            refine xq_iload_n dX11_primary_137 rfl rfl ?_
            refine xq_if_neN dX11_primary_138 rfl (by omega) ⟨fun h138 => ?_, fun h138 => ?_⟩
            · skip
              refine xq_aload_n dX11_primary_162 rfl rfl ?_
              refine xq_callV0N clX11 gd_X11_knot dX11_primary_163 ml_RX11_262 im_X11_knot se_X11_knot rfl (Fx.s83 hF) (by exact Nat.le_of_ble_eq_true rfl) (by omega) (m_knot0 hF hr.2.2.1 hr.1 hr.2.2.2.2 (by have := hw.2.1; omega)) ?_
              intro H163 p163
              have ft := FtQ.mf p163 (by decide) (by decide) hr.1.js
              have skf := (SmK.rf (H := H)).tr (MfQ.sk p163)
              have fa := ft.1; have fb := ft.2.2.1; have fc := ft.2.2.2.1
              refine xq_aload_n dX11_primary_166 rfl rfl ?_
              refine xq_iload_n dX11_primary_167 rfl rfl ?_
              refine xq_if_eqN dX11_primary_168 rfl (by omega) ⟨fun h168 => ?_, fun h168 => ?_⟩
              · skip
                first | exact absurd h168 (by decide) | exact absurd rfl h168
              · skip
                refine xq_iconst dX11_primary_171 ic0 ?_
                refine xq_goto dX11_primary_172 rfl ?_
                refine xq_iload_n dX11_primary_176 rfl rfl ?_
                refine xq_if_eqN dX11_primary_177 rfl (by omega) ⟨fun h177 => ?_, fun h177 => ?_⟩
                · skip
                  first | exact absurd h177 (by decide) | exact absurd rfl h177
                · skip
                  refine xq_aload_n dX11_primary_180 rfl rfl ?_
                  refine xq_getI clX11 (by decide) rfl fl_RX11_157 dX11_primary_181 (Fx.s83 hF) ?_
                  refine xq_goto dX11_primary_184 rfl ?_
                  refine xq_callV2N clX11 gd_X11_puts dX11_primary_194 ml_RX11_265 im_X11_puts se_X11_puts rfl (Fx.s83 hF) (by exact Nat.le_of_ble_eq_true rfl) (by omega) (m_putsW hF fa fb fc) ?_
                  intro H194 p194
                  subst p194
                  refine xq_aload_n dX11_primary_197 rfl rfl ?_
                  refine xq_callV0N clX11 gd_X11_goOn dX11_primary_198 ml_RX11_235 im_X11_goOn se_X11_goOn rfl (Fx.s83 hF) (by exact Nat.le_of_ble_eq_true rfl) (by omega) (m_goOn1 hF fa fb fc) ?_
                  intro H198 p198
                  subst p198
                  refine xq_vret dX11_primary_201 rfl ?_
                  exact ⟨_, ⟨skf, ft⟩, rfl⟩
            · skip
              first | exact absurd h138 (by decide) | exact absurd rfl h138
          · skip
            exact absurd h126 (by omega)
    · skip
      exact absurd (of_decide_eq_true h14) (by omega)
  · skip
    exact absurd rfl h4
theorem m_prim38c (hF : gFx S) (K : Nat) (hK : 6 * (8 - rxO x) + (64 - rxB x) + 10 ≤ K) (hr : RxP S H bt ln s N x) (hw : RxW x) (hk : kK s (rxN x) = 38) (hb : ¬ numB s (rxN x) 9999 = false) (h64 : ¬ 64 ≤ rxB x) : Nv mX11_primary K [.ref 83] S H (fun H2 => mQ S H H2 bt ln s N (.inr (kpR 38 (kV s (rxN x)) 0 (rxN x + 1) x))) := by
  obtain ⟨hso, e, hva, he, hev⟩ := hr.1.ms.2.2.1 hk
  have hV := (of_decide_eq_true (show numB s (rxN x) 9999 = true by simpa using hb)).2
  have hee : e = kV s (rxN x) := by omega
  rw [← hee]
  refine vq_intro (by decide) (by exact Nat.le_of_ble_eq_true rfl) rfl ?_
  refine xq_aload_n dX11_primary_0 rfl rfl ?_
  refine xq_getIE (v := nI 0) clX11 (by decide) rfl fl_RX11_182 dX11_primary_1 (Fx.s83 hF) hr.2.2.1 ?_
  refine xq_if_eqN dX11_primary_4 rfl (by omega) ⟨fun h4 => ?_, fun h4 => ?_⟩
  · skip
    refine xq_aload_n dX11_primary_8 rfl rfl ?_
    refine xq_bipush dX11_primary_9 bp40 ?_
    refine xq_callV1P clX11 gd_X11_isSign dX11_primary_11 ml_RX11_241 im_X11_isSign se_X11_isSign rfl (Fx.s83 hF) (by exact Nat.le_of_ble_eq_true rfl) (by omega) (m_isSign (K := 41) hF hr.2.2.1 hr.1 (by decide) (by decide)) ?_
    refine xq_if_eqB dX11_primary_14 rfl ⟨fun h14 => ?_, fun h14 => ?_⟩
    · skip
      refine xq_aload_n dX11_primary_101 rfl rfl ?_
      refine xq_getIE (v := nI 2) clX11 (by decide) rfl fl_RX11_147 dX11_primary_102 (Fx.s83 hF) hso ?_
      refine xq_iconst dX11_primary_105 ic2 ?_
      refine xq_icmp_neN dX11_primary_106 rfl (by omega) (by omega) ⟨fun h106 => ?_, fun h106 => ?_⟩
      · skip
        exact absurd rfl h106
      · skip
        refine xq_iconst dX11_primary_109 ic1 ?_
        refine xq_goto dX11_primary_110 rfl ?_
        refine xq_istore_n dX11_primary_114 rfl rfl ?_
        refine xq_iload_n dX11_primary_115 rfl rfl ?_
        refine xq_if_eqN dX11_primary_116 rfl (by omega) ⟨fun h116 => ?_, fun h116 => ?_⟩
        · skip
          first | exact absurd h116 (by decide) | exact absurd rfl h116
        · skip
          refine xq_aload_n dX11_primary_119 rfl rfl ?_
          refine xq_getIE (v := nI e) clX11 (by decide) rfl fl_RX11_157 dX11_primary_120 (Fx.s83 hF) hva ?_
          refine xq_sipush dX11_primary_123 sp9999 ?_
          refine xq_icmp_leN dX11_primary_126 rfl (by omega) (by omega) ⟨fun h126 => ?_, fun h126 => ?_⟩
          · skip
            refine xq_iload_n dX11_primary_137 rfl rfl ?_
            refine xq_if_neN dX11_primary_138 rfl (by omega) ⟨fun h138 => ?_, fun h138 => ?_⟩
            · skip
              refine xq_aload_n dX11_primary_162 rfl rfl ?_
              refine xq_callV0N clX11 gd_X11_knot dX11_primary_163 ml_RX11_262 im_X11_knot se_X11_knot rfl (Fx.s83 hF) (by exact Nat.le_of_ble_eq_true rfl) (by omega) (m_knot1 hF hr.2.2.1 hr.2.2.2.2 (by omega)) ?_
              intro H163 p163
              subst p163
              have hrk := hr.kn (b := rxB x + 1)
              have skk := (SmK.rf (H := H)).pF (k := 31) (by decide) (nI (rxB x + 1))
              refine xq_aload_n dX11_primary_166 rfl rfl ?_
              refine xq_iload_n dX11_primary_167 rfl rfl ?_
              refine xq_if_eqN dX11_primary_168 rfl (by omega) ⟨fun h168 => ?_, fun h168 => ?_⟩
              · skip
                first | exact absurd h168 (by decide) | exact absurd rfl h168
              · skip
                refine xq_iconst dX11_primary_171 ic0 ?_
                refine xq_goto dX11_primary_172 rfl ?_
                refine xq_iload_n dX11_primary_176 rfl rfl ?_
                refine xq_if_eqN dX11_primary_177 rfl (by omega) ⟨fun h177 => ?_, fun h177 => ?_⟩
                · skip
                  first | exact absurd h177 (by decide) | exact absurd rfl h177
                · skip
                  refine xq_aload_n dX11_primary_180 rfl rfl ?_
                  refine xq_getIE (v := nI e) clX11 (by decide) rfl fl_RX11_157 dX11_primary_181 (Fx.s83 hF) (by rw [hI_sI, if_neg (by omega)]; exact hva) ?_
                  refine xq_goto dX11_primary_184 rfl ?_
                  refine xq_callV2N clX11 gd_X11_puts dX11_primary_194 ml_RX11_265 im_X11_puts se_X11_puts rfl (Fx.s83 hF) (by exact Nat.le_of_ble_eq_true rfl) (by omega) (m_puts hF hrk.2.2.1 hrk.nk (show tNk (rxX x) < 64 by have := hw.2.2.2; omega)) ?_
                  intro H194 p194
                  subst p194
                  have hput := hrk.pt (k := 38) (a := e) (b := 0) (w := oB (rxW x) (tNk (rxX x))) (show tNk (rxX x) < 64 by have := hw.2.2.2; omega)
                  have skp := SmK.pt (n := tNk (rxX x)) (its := mks 38) (v := mkv 38 e 0) skk
                  refine xq_aload_n dX11_primary_197 rfl rfl ?_
                  refine xq_callV0N clX11 gd_X11_goOn dX11_primary_198 ml_RX11_235 im_X11_goOn se_X11_goOn rfl (Fx.s83 hF) (by exact Nat.le_of_ble_eq_true rfl) (by omega) (m_goOn hput.2.2.1 hput.1 (kK_in (show kK s (rxN x) ≠ 44 by omega) hr.1.lx)) ?_
                  intro H198 p198
                  obtain ⟨g1, g2⟩ := p198
                  have hrz := hput.tk g1 g2
                  have skz := skp.tr (tok_sk g2)
                  refine xq_vret dX11_primary_201 rfl ?_
                  exact ⟨_, ⟨skz, hrz⟩, rfl⟩
            · skip
              first | exact absurd h138 (by decide) | exact absurd rfl h138
          · skip
            exact absurd h126 (by omega)
    · skip
      exact absurd (of_decide_eq_true h14) (by omega)
  · skip
    exact absurd rfl h4
theorem m_primNa (hF : gFx S) (K : Nat) (hK : 6 * (8 - rxO x) + (64 - rxB x) + 10 ≤ K) (hr : RxP S H bt ln s N x) (hw : RxW x) (hk1 : 21 ≤ kK s (rxN x)) (hk2 : kK s (rxN x) ≤ 27) (h64 : 64 ≤ rxB x) : Nv mX11_primary K [.ref 83] S H (fun H2 => mQ S H H2 bt ln s N (.inl (2, rxN x))) := by
  have hms := hr.1.ms.1 (show kK s (rxN x) < 28 by omega)
  refine vq_intro (by decide) (by exact Nat.le_of_ble_eq_true rfl) rfl ?_
  refine xq_aload_n dX11_primary_0 rfl rfl ?_
  refine xq_getIE (v := nI 0) clX11 (by decide) rfl fl_RX11_182 dX11_primary_1 (Fx.s83 hF) hr.2.2.1 ?_
  refine xq_if_eqN dX11_primary_4 rfl (by omega) ⟨fun h4 => ?_, fun h4 => ?_⟩
  · skip
    refine xq_aload_n dX11_primary_8 rfl rfl ?_
    refine xq_bipush dX11_primary_9 bp40 ?_
    refine xq_callV1P clX11 gd_X11_isSign dX11_primary_11 ml_RX11_241 im_X11_isSign se_X11_isSign rfl (Fx.s83 hF) (by exact Nat.le_of_ble_eq_true rfl) (by omega) (m_isSign (K := 41) hF hr.2.2.1 hr.1 (by decide) (by decide)) ?_
    refine xq_if_eqB dX11_primary_14 rfl ⟨fun h14 => ?_, fun h14 => ?_⟩
    · skip
      refine xq_aload_n dX11_primary_101 rfl rfl ?_
      refine xq_getIE (v := nI 0) clX11 (by decide) rfl fl_RX11_147 dX11_primary_102 (Fx.s83 hF) hms.1 ?_
      refine xq_iconst dX11_primary_105 ic2 ?_
      refine xq_icmp_neN dX11_primary_106 rfl (by omega) (by omega) ⟨fun h106 => ?_, fun h106 => ?_⟩
      · skip
        refine xq_iconst dX11_primary_113 ic0 ?_
        refine xq_istore_n dX11_primary_114 rfl rfl ?_
        refine xq_iload_n dX11_primary_115 rfl rfl ?_
        refine xq_if_eqN dX11_primary_116 rfl (by omega) ⟨fun h116 => ?_, fun h116 => ?_⟩
        · skip
          refine xq_iload_n dX11_primary_137 rfl rfl ?_
          refine xq_if_neN dX11_primary_138 rfl (by omega) ⟨fun h138 => ?_, fun h138 => ?_⟩
          · skip
            first | exact absurd h138 (by decide) | exact absurd rfl h138
          · skip
            refine xq_aload_n dX11_primary_141 rfl rfl ?_
            refine xq_getIE (v := nI 0) clX11 (by decide) rfl fl_RX11_147 dX11_primary_142 (Fx.s83 hF) hms.1 ?_
            refine xq_if_neN dX11_primary_145 rfl (by omega) ⟨fun h145 => ?_, fun h145 => ?_⟩
            · skip
              exact absurd rfl h145
            · skip
              refine xq_aload_n dX11_primary_148 rfl rfl ?_
              refine xq_getIE (v := nI (kK s (rxN x))) clX11 (by decide) rfl fl_RX11_157 dX11_primary_149 (Fx.s83 hF) hms.2 ?_
              refine xq_bipush dX11_primary_152 bp21 ?_
              refine xq_icmp_geN dX11_primary_154 rfl (by omega) (by omega) ⟨fun h154 => ?_, fun h154 => ?_⟩
              · skip
                refine xq_aload_n dX11_primary_162 rfl rfl ?_
                refine xq_callV0N clX11 gd_X11_knot dX11_primary_163 ml_RX11_262 im_X11_knot se_X11_knot rfl (Fx.s83 hF) (by exact Nat.le_of_ble_eq_true rfl) (by omega) (m_knot0 hF hr.2.2.1 hr.1 hr.2.2.2.2 (by have := hw.2.1; omega)) ?_
                intro H163 p163
                have ft := FtQ.mf p163 (by decide) (by decide) hr.1.js
                have skf := (SmK.rf (H := H)).tr (MfQ.sk p163)
                have fa := ft.1; have fb := ft.2.2.1; have fc := ft.2.2.2.1
                refine xq_aload_n dX11_primary_166 rfl rfl ?_
                refine xq_iload_n dX11_primary_167 rfl rfl ?_
                refine xq_if_eqN dX11_primary_168 rfl (by omega) ⟨fun h168 => ?_, fun h168 => ?_⟩
                · skip
                  refine xq_iconst dX11_primary_175 ic1 ?_
                  refine xq_iload_n dX11_primary_176 rfl rfl ?_
                  refine xq_if_eqN dX11_primary_177 rfl (by omega) ⟨fun h177 => ?_, fun h177 => ?_⟩
                  · skip
                    refine xq_aload_n dX11_primary_187 rfl rfl ?_
                    refine xq_getI clX11 (by decide) rfl fl_RX11_157 dX11_primary_188 (Fx.s83 hF) ?_
                    refine xq_bipush dX11_primary_191 bp21 ?_
                    refine xq_isub dX11_primary_193 ?_
                    refine xq_callV2N clX11 gd_X11_puts dX11_primary_194 ml_RX11_265 im_X11_puts se_X11_puts rfl (Fx.s83 hF) (by exact Nat.le_of_ble_eq_true rfl) (by omega) (m_putsW hF fa fb fc) ?_
                    intro H194 p194
                    subst p194
                    refine xq_aload_n dX11_primary_197 rfl rfl ?_
                    refine xq_callV0N clX11 gd_X11_goOn dX11_primary_198 ml_RX11_235 im_X11_goOn se_X11_goOn rfl (Fx.s83 hF) (by exact Nat.le_of_ble_eq_true rfl) (by omega) (m_goOn1 hF fa fb fc) ?_
                    intro H198 p198
                    subst p198
                    refine xq_vret dX11_primary_201 rfl ?_
                    exact ⟨_, ⟨skf, ft⟩, rfl⟩
                  · skip
                    first | exact absurd h177 (by decide) | exact absurd rfl h177
                · skip
                  first | exact absurd h168 (by decide) | exact absurd rfl h168
              · skip
                exact absurd h154 (by omega)
        · skip
          first | exact absurd h116 (by decide) | exact absurd rfl h116
      · skip
        exact absurd h106 (by decide)
    · skip
      exact absurd (of_decide_eq_true h14) (by omega)
  · skip
    exact absurd rfl h4
theorem mks_n (h : 21 ≤ k ∧ k ≤ 27) : mks k = 1 := by
  unfold mks
  rw [if_neg (by omega), if_neg (by omega), if_neg (by omega), if_neg (by omega), if_neg (by omega), if_neg (by omega), if_neg (by omega), if_neg (by omega), if_pos h]
theorem mkv_n (h : 21 ≤ k ∧ k ≤ 27) : mkv k 0 0 = k - 21 := by
  unfold mkv
  rw [if_neg (by omega), if_neg (by omega), if_neg (by omega), if_neg (by omega), if_pos h]
theorem m_primNb (hF : gFx S) (K : Nat) (hK : 6 * (8 - rxO x) + (64 - rxB x) + 10 ≤ K) (hr : RxP S H bt ln s N x) (hw : RxW x) (hk1 : 21 ≤ kK s (rxN x)) (hk2 : kK s (rxN x) ≤ 27) (h64 : ¬ 64 ≤ rxB x) : Nv mX11_primary K [.ref 83] S H (fun H2 => mQ S H H2 bt ln s N (.inr (kpR (kK s (rxN x)) 0 0 (rxN x + 1) x))) := by
  have hms := hr.1.ms.1 (show kK s (rxN x) < 28 by omega)
  refine vq_intro (by decide) (by exact Nat.le_of_ble_eq_true rfl) rfl ?_
  refine xq_aload_n dX11_primary_0 rfl rfl ?_
  refine xq_getIE (v := nI 0) clX11 (by decide) rfl fl_RX11_182 dX11_primary_1 (Fx.s83 hF) hr.2.2.1 ?_
  refine xq_if_eqN dX11_primary_4 rfl (by omega) ⟨fun h4 => ?_, fun h4 => ?_⟩
  · skip
    refine xq_aload_n dX11_primary_8 rfl rfl ?_
    refine xq_bipush dX11_primary_9 bp40 ?_
    refine xq_callV1P clX11 gd_X11_isSign dX11_primary_11 ml_RX11_241 im_X11_isSign se_X11_isSign rfl (Fx.s83 hF) (by exact Nat.le_of_ble_eq_true rfl) (by omega) (m_isSign (K := 41) hF hr.2.2.1 hr.1 (by decide) (by decide)) ?_
    refine xq_if_eqB dX11_primary_14 rfl ⟨fun h14 => ?_, fun h14 => ?_⟩
    · skip
      refine xq_aload_n dX11_primary_101 rfl rfl ?_
      refine xq_getIE (v := nI 0) clX11 (by decide) rfl fl_RX11_147 dX11_primary_102 (Fx.s83 hF) hms.1 ?_
      refine xq_iconst dX11_primary_105 ic2 ?_
      refine xq_icmp_neN dX11_primary_106 rfl (by omega) (by omega) ⟨fun h106 => ?_, fun h106 => ?_⟩
      · skip
        refine xq_iconst dX11_primary_113 ic0 ?_
        refine xq_istore_n dX11_primary_114 rfl rfl ?_
        refine xq_iload_n dX11_primary_115 rfl rfl ?_
        refine xq_if_eqN dX11_primary_116 rfl (by omega) ⟨fun h116 => ?_, fun h116 => ?_⟩
        · skip
          refine xq_iload_n dX11_primary_137 rfl rfl ?_
          refine xq_if_neN dX11_primary_138 rfl (by omega) ⟨fun h138 => ?_, fun h138 => ?_⟩
          · skip
            first | exact absurd h138 (by decide) | exact absurd rfl h138
          · skip
            refine xq_aload_n dX11_primary_141 rfl rfl ?_
            refine xq_getIE (v := nI 0) clX11 (by decide) rfl fl_RX11_147 dX11_primary_142 (Fx.s83 hF) hms.1 ?_
            refine xq_if_neN dX11_primary_145 rfl (by omega) ⟨fun h145 => ?_, fun h145 => ?_⟩
            · skip
              exact absurd rfl h145
            · skip
              refine xq_aload_n dX11_primary_148 rfl rfl ?_
              refine xq_getIE (v := nI (kK s (rxN x))) clX11 (by decide) rfl fl_RX11_157 dX11_primary_149 (Fx.s83 hF) hms.2 ?_
              refine xq_bipush dX11_primary_152 bp21 ?_
              refine xq_icmp_geN dX11_primary_154 rfl (by omega) (by omega) ⟨fun h154 => ?_, fun h154 => ?_⟩
              · skip
                refine xq_aload_n dX11_primary_162 rfl rfl ?_
                refine xq_callV0N clX11 gd_X11_knot dX11_primary_163 ml_RX11_262 im_X11_knot se_X11_knot rfl (Fx.s83 hF) (by exact Nat.le_of_ble_eq_true rfl) (by omega) (m_knot1 hF hr.2.2.1 hr.2.2.2.2 (by omega)) ?_
                intro H163 p163
                subst p163
                have hrk := hr.kn (b := rxB x + 1)
                have skk := (SmK.rf (H := H)).pF (k := 31) (by decide) (nI (rxB x + 1))
                refine xq_aload_n dX11_primary_166 rfl rfl ?_
                refine xq_iload_n dX11_primary_167 rfl rfl ?_
                refine xq_if_eqN dX11_primary_168 rfl (by omega) ⟨fun h168 => ?_, fun h168 => ?_⟩
                · skip
                  refine xq_iconst dX11_primary_175 ic1 ?_
                  refine xq_iload_n dX11_primary_176 rfl rfl ?_
                  refine xq_if_eqN dX11_primary_177 rfl (by omega) ⟨fun h177 => ?_, fun h177 => ?_⟩
                  · skip
                    refine xq_aload_n dX11_primary_187 rfl rfl ?_
                    refine xq_getIE (v := nI (kK s (rxN x))) clX11 (by decide) rfl fl_RX11_157 dX11_primary_188 (Fx.s83 hF) (by rw [hI_sI, if_neg (by omega)]; exact hms.2) ?_
                    refine xq_bipush dX11_primary_191 bp21 ?_
                    refine xq_isubN dX11_primary_193 (by omega) ?_
                    refine xq_callV2N clX11 gd_X11_puts dX11_primary_194 ml_RX11_265 im_X11_puts se_X11_puts rfl (Fx.s83 hF) (by exact Nat.le_of_ble_eq_true rfl) (by omega) (m_puts hF hrk.2.2.1 hrk.nk (show tNk (rxX x) < 64 by have := hw.2.2.2; omega)) ?_
                    intro H194 p194
                    subst p194
                    have eks : mks (kK s (rxN x)) = 1 := mks_n ⟨hk1, hk2⟩
                    have ekv : mkv (kK s (rxN x)) 0 0 = kK s (rxN x) - 21 := mkv_n ⟨hk1, hk2⟩
                    have hput := hrk.pt (k := (kK s (rxN x))) (a := 0) (b := 0) (w := oB (rxW x) (tNk (rxX x))) (show tNk (rxX x) < 64 by have := hw.2.2.2; omega)
                    have skp := SmK.pt (n := tNk (rxX x)) (its := mks (kK s (rxN x))) (v := mkv (kK s (rxN x)) 0 0) skk
                    rw [eks, ekv] at hput skp
                    refine xq_aload_n dX11_primary_197 rfl rfl ?_
                    refine xq_callV0N clX11 gd_X11_goOn dX11_primary_198 ml_RX11_235 im_X11_goOn se_X11_goOn rfl (Fx.s83 hF) (by exact Nat.le_of_ble_eq_true rfl) (by omega) (m_goOn hput.2.2.1 hput.1 (kK_in (show kK s (rxN x) ≠ 44 by omega) hr.1.lx)) ?_
                    intro H198 p198
                    obtain ⟨g1, g2⟩ := p198
                    have hrz := hput.tk g1 g2
                    have skz := skp.tr (tok_sk g2)
                    refine xq_vret dX11_primary_201 rfl ?_
                    exact ⟨_, ⟨skz, hrz⟩, rfl⟩
                  · skip
                    first | exact absurd h177 (by decide) | exact absurd rfl h177
                · skip
                  first | exact absurd h168 (by decide) | exact absurd rfl h168
              · skip
                exact absurd h154 (by omega)
        · skip
          first | exact absurd h116 (by decide) | exact absurd rfl h116
      · skip
        exact absurd h106 (by decide)
    · skip
      exact absurd (of_decide_eq_true h14) (by omega)
  · skip
    exact absurd rfl h4
theorem m_primX (hF : gFx S) (K : Nat) (hK : 6 * (8 - rxO x) + (64 - rxB x) + 10 ≤ K) (hr : RxP S H bt ln s N x) (hw : RxW x) (h41 : kK s (rxN x) ≠ 41) (h38 : kK s (rxN x) ≠ 38) (hk : kK s (rxN x) < 21 ∨ 27 < kK s (rxN x)) : Nv mX11_primary K [.ref 83] S H (fun H2 => mQ S H H2 bt ln s N (.inl (1, rxN x))) := by
  refine vq_intro (by decide) (by exact Nat.le_of_ble_eq_true rfl) rfl ?_
  refine xq_aload_n dX11_primary_0 rfl rfl ?_
  refine xq_getIE (v := nI 0) clX11 (by decide) rfl fl_RX11_182 dX11_primary_1 (Fx.s83 hF) hr.2.2.1 ?_
  refine xq_if_eqN dX11_primary_4 rfl (by omega) ⟨fun h4 => ?_, fun h4 => ?_⟩
  · skip
    refine xq_aload_n dX11_primary_8 rfl rfl ?_
    refine xq_bipush dX11_primary_9 bp40 ?_
    refine xq_callV1P clX11 gd_X11_isSign dX11_primary_11 ml_RX11_241 im_X11_isSign se_X11_isSign rfl (Fx.s83 hF) (by exact Nat.le_of_ble_eq_true rfl) (by omega) (m_isSign (K := 41) hF hr.2.2.1 hr.1 (by decide) (by decide)) ?_
    refine xq_if_eqB dX11_primary_14 rfl ⟨fun h14 => ?_, fun h14 => ?_⟩
    · skip
      refine xq_aload_n dX11_primary_101 rfl rfl ?_
      refine xq_getI clX11 (by decide) rfl fl_RX11_147 dX11_primary_102 (Fx.s83 hF) ?_
      refine xq_iconst dX11_primary_105 ic2 ?_
      refine xq_icmp_ne dX11_primary_106 rfl ⟨fun h106 => ?_, fun h106 => ?_⟩
      · skip
        refine xq_iconst dX11_primary_113 ic0 ?_
        refine xq_istore_n dX11_primary_114 rfl rfl ?_
        refine xq_iload_n dX11_primary_115 rfl rfl ?_
        refine xq_if_eqN dX11_primary_116 rfl (by omega) ⟨fun h116 => ?_, fun h116 => ?_⟩
        · skip
          refine xq_iload_n dX11_primary_137 rfl rfl ?_
          refine xq_if_neN dX11_primary_138 rfl (by omega) ⟨fun h138 => ?_, fun h138 => ?_⟩
          · skip
            first | exact absurd h138 (by decide) | exact absurd rfl h138
          · skip
            refine xq_aload_n dX11_primary_141 rfl rfl ?_
            refine xq_getI clX11 (by decide) rfl fl_RX11_147 dX11_primary_142 (Fx.s83 hF) ?_
            refine xq_if_ne dX11_primary_145 rfl ⟨fun h145 => ?_, fun h145 => ?_⟩
            · skip
              refine xq_aload_n dX11_primary_157 rfl rfl ?_
              refine xq_iconst dX11_primary_158 ic1 ?_
              refine xq_callV1N clX11 gd_X11_wrong dX11_primary_159 ml_RX11_191 im_X11_wrong se_X11_wrong rfl (Fx.s83 hF) (by exact Nat.le_of_ble_eq_true rfl) (by omega) (m_wrong0 hF hr.2.2.1 hr.1.pl) ?_
              intro H159 p159
              subst p159
              have mf159 := wr_mf (c := 1) hr.1
              have ft := FtQ.mf mf159 (by decide) (by decide) hr.1.js
              have skf := ((SmK.rf (H := H))).tr (MfQ.sk mf159)
              have fa := ft.1; have fb := ft.2.2.1; have fc := ft.2.2.2.1
              refine xq_aload_n dX11_primary_162 rfl rfl ?_
              refine xq_callV0N clX11 gd_X11_knot dX11_primary_163 ml_RX11_262 im_X11_knot se_X11_knot rfl (Fx.s83 hF) (by exact Nat.le_of_ble_eq_true rfl) (by omega) (m_knotF hF fa fb fc) ?_
              intro H163 p163
              subst p163
              refine xq_aload_n dX11_primary_166 rfl rfl ?_
              refine xq_iload_n dX11_primary_167 rfl rfl ?_
              refine xq_if_eqN dX11_primary_168 rfl (by omega) ⟨fun h168 => ?_, fun h168 => ?_⟩
              · skip
                refine xq_iconst dX11_primary_175 ic1 ?_
                refine xq_iload_n dX11_primary_176 rfl rfl ?_
                refine xq_if_eqN dX11_primary_177 rfl (by omega) ⟨fun h177 => ?_, fun h177 => ?_⟩
                · skip
                  refine xq_aload_n dX11_primary_187 rfl rfl ?_
                  refine xq_getI clX11 (by decide) rfl fl_RX11_157 dX11_primary_188 (Fx.s83 hF) ?_
                  refine xq_bipush dX11_primary_191 bp21 ?_
                  refine xq_isub dX11_primary_193 ?_
                  refine xq_callV2N clX11 gd_X11_puts dX11_primary_194 ml_RX11_265 im_X11_puts se_X11_puts rfl (Fx.s83 hF) (by exact Nat.le_of_ble_eq_true rfl) (by omega) (m_putsW hF fa fb fc) ?_
                  intro H194 p194
                  subst p194
                  refine xq_aload_n dX11_primary_197 rfl rfl ?_
                  refine xq_callV0N clX11 gd_X11_goOn dX11_primary_198 ml_RX11_235 im_X11_goOn se_X11_goOn rfl (Fx.s83 hF) (by exact Nat.le_of_ble_eq_true rfl) (by omega) (m_goOn1 hF fa fb fc) ?_
                  intro H198 p198
                  subst p198
                  refine xq_vret dX11_primary_201 rfl ?_
                  exact ⟨_, ⟨skf, ft⟩, rfl⟩
                · skip
                  first | exact absurd h177 (by decide) | exact absurd rfl h177
              · skip
                first | exact absurd h168 (by decide) | exact absurd rfl h168
            · skip
              obtain ⟨hk28, hva⟩ := MsV_w hr.1.ms (kK_le hr.1.ok) (show _ = _ by simpa using h145)
              refine xq_aload_n dX11_primary_148 rfl rfl ?_
              refine xq_getIE clX11 (by decide) rfl fl_RX11_157 dX11_primary_149 (Fx.s83 hF) hva ?_
              refine xq_bipush dX11_primary_152 bp21 ?_
              refine xq_icmp_geN dX11_primary_154 rfl (by omega) (by omega) ⟨fun h154 => ?_, fun h154 => ?_⟩
              · skip
                exact absurd hk (by omega)
              · skip
                refine xq_aload_n dX11_primary_157 rfl rfl ?_
                refine xq_iconst dX11_primary_158 ic1 ?_
                refine xq_callV1N clX11 gd_X11_wrong dX11_primary_159 ml_RX11_191 im_X11_wrong se_X11_wrong rfl (Fx.s83 hF) (by exact Nat.le_of_ble_eq_true rfl) (by omega) (m_wrong0 hF hr.2.2.1 hr.1.pl) ?_
                intro H159 p159
                subst p159
                have mf159 := wr_mf (c := 1) hr.1
                have ft := FtQ.mf mf159 (by decide) (by decide) hr.1.js
                have skf := ((SmK.rf (H := H))).tr (MfQ.sk mf159)
                have fa := ft.1; have fb := ft.2.2.1; have fc := ft.2.2.2.1
                refine xq_aload_n dX11_primary_162 rfl rfl ?_
                refine xq_callV0N clX11 gd_X11_knot dX11_primary_163 ml_RX11_262 im_X11_knot se_X11_knot rfl (Fx.s83 hF) (by exact Nat.le_of_ble_eq_true rfl) (by omega) (m_knotF hF fa fb fc) ?_
                intro H163 p163
                subst p163
                refine xq_aload_n dX11_primary_166 rfl rfl ?_
                refine xq_iload_n dX11_primary_167 rfl rfl ?_
                refine xq_if_eqN dX11_primary_168 rfl (by omega) ⟨fun h168 => ?_, fun h168 => ?_⟩
                · skip
                  refine xq_iconst dX11_primary_175 ic1 ?_
                  refine xq_iload_n dX11_primary_176 rfl rfl ?_
                  refine xq_if_eqN dX11_primary_177 rfl (by omega) ⟨fun h177 => ?_, fun h177 => ?_⟩
                  · skip
                    refine xq_aload_n dX11_primary_187 rfl rfl ?_
                    refine xq_getI clX11 (by decide) rfl fl_RX11_157 dX11_primary_188 (Fx.s83 hF) ?_
                    refine xq_bipush dX11_primary_191 bp21 ?_
                    refine xq_isub dX11_primary_193 ?_
                    refine xq_callV2N clX11 gd_X11_puts dX11_primary_194 ml_RX11_265 im_X11_puts se_X11_puts rfl (Fx.s83 hF) (by exact Nat.le_of_ble_eq_true rfl) (by omega) (m_putsW hF fa fb fc) ?_
                    intro H194 p194
                    subst p194
                    refine xq_aload_n dX11_primary_197 rfl rfl ?_
                    refine xq_callV0N clX11 gd_X11_goOn dX11_primary_198 ml_RX11_235 im_X11_goOn se_X11_goOn rfl (Fx.s83 hF) (by exact Nat.le_of_ble_eq_true rfl) (by omega) (m_goOn1 hF fa fb fc) ?_
                    intro H198 p198
                    subst p198
                    refine xq_vret dX11_primary_201 rfl ?_
                    exact ⟨_, ⟨skf, ft⟩, rfl⟩
                  · skip
                    first | exact absurd h177 (by decide) | exact absurd rfl h177
                · skip
                  first | exact absurd h168 (by decide) | exact absurd rfl h168
        · skip
          first | exact absurd h116 (by decide) | exact absurd rfl h116
      · skip
        exact absurd (MsV_d hr.1.ms (kK_le hr.1.ok) h106) h38
    · skip
      exact absurd (of_decide_eq_true h14) (by omega)
  · skip
    exact absurd rfl h4
theorem m_primary (hF : gFx S) (IH : MOk S mX11_expression 15 bt ln s N d 6) : MOk S mX11_primary 10 bt ln s N (d + 1) 11 := by
  intro x K H hK hr hw hn
  rw [rd_11] at hn ⊢
  unfold prmL at hn ⊢
  by_cases h41 : kK s (rxN x) = 41
  · rw [if_pos h41] at hn ⊢
    exact m_primB hF IH K hK hr hw h41 hn
  rw [if_neg h41]
  by_cases h38 : kK s (rxN x) = 38
  · rw [if_pos h38]
    by_cases hb : numB s (rxN x) 9999 = false
    · rw [if_pos hb]; exact m_prim38a hF K hK hr hw h38 hb
    · rw [if_neg hb]
      by_cases h64 : 64 ≤ rxB x
      · rw [if_pos h64]; exact m_prim38b hF K hK hr hw h38 hb h64
      · rw [if_neg h64]; exact m_prim38c hF K hK hr hw h38 hb h64
  rw [if_neg h38]
  by_cases hk : kK s (rxN x) < 21 ∨ 27 < kK s (rxN x)
  · rw [if_pos hk]; exact m_primX hF K hK hr hw h41 h38 hk
  rw [if_neg hk]
  by_cases h64 : 64 ≤ rxB x
  · rw [if_pos h64]; exact m_primNa hF K hK hr hw (by omega) (by omega) h64
  · rw [if_neg h64]; exact m_primNb hF K hK hr hw (by omega) (by omega) h64
def FAll (S : xS) (bt : Nat → Nat) (ln : Nat) (s : uTk) (N : NLt) (d : Nat) : Prop := (MOk S mX11_eithers 13 bt ln s N d 0) ∧ (MOk S mX11_boths 12 bt ln s N d 1) ∧ (MOk S mX11_unless 11 bt ln s N d 2) ∧ (MOk S mX11_plain 10 bt ln s N d 3) ∧ (MOk S mX11_expression 15 bt ln s N d 6) ∧ (MOk S mX11_conjunction 14 bt ln s N d 7) ∧ (MOk S mX11_negation 13 bt ln s N d 8) ∧ (MOk S mX11_sum 12 bt ln s N d 9) ∧ (MOk S mX11_product 11 bt ln s N d 10) ∧ (MOk S mX11_primary 10 bt ln s N d 11)
theorem m_fm (hF : gFx S) : ∀ d, ∀ d2, d2 ≤ d → FAll S bt ln s N d2
  | 0 => fun d2 h => by
    have e : d2 = 0 := by omega
    subst e
    have z : ∀ M c l, MOk S M c bt ln s N 0 l := fun M c l x K H _ _ _ hn => absurd rfl (hn 0)
    exact ⟨z _ _ _, z _ _ _, z _ _ _, z _ _ _, z _ _ _, z _ _ _, z _ _ _, z _ _ _, z _ _ _, z _ _ _⟩
  | d + 1 => fun d2 h => by
    have ih := m_fm hF d
    by_cases e : d2 ≤ d
    · exact ih d2 e
    · have e : d2 = d + 1 := by omega
      subst e
      have g := fun l h => ih l h
      have gd := ih d (Nat.le_refl _)
      obtain ⟨g0, g1, g2, g3, g6, g7, g8, g9, g10, g11⟩ := gd
      exact ⟨m_eithers hF (fun d2 h => (ih d2 h).2.1), m_boths hF (fun d2 h => (ih d2 h).2.2.1), m_unless hF g2 g3, m_plain hF g0 g3, m_expression hF (fun d2 h => (ih d2 h).2.2.2.2.2.1), m_conjunction hF (fun d2 h => (ih d2 h).2.2.2.2.2.2.1), m_negation hF g8 g9, m_sum hF (fun d2 h => (ih d2 h).2.2.2.2.2.2.2.2.1), m_product hF (fun d2 h => (ih d2 h).2.2.2.2.2.2.2.2.2), m_primary hF g6⟩
end ML3
