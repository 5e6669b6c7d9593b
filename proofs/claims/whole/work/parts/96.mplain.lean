/-! ===== the reference: unless, brackets, plain ===== -/
section ML2
variable {S : xS} {H H1 H2 H3 : xH} {bt : Nat → Nat} {ln k p q i j l m n c t d a its v : Nat} {s : uTk} {T T2 : uTx} {N : NLt} {x y z : rxT} {r : rxR}
theorem nj_p {f : rxT → rxR} (h : NjQ (prf s f x)) (h64 : ¬ 64 ≤ rxB x) : NjQ (f (nxB x)) := by
  unfold prf at h
  rw [if_neg h64] at h
  exact nj_b1 h
theorem ne39 (h : kK s n = 39) : kK s n ≠ 44 := by rw [h]; decide
theorem wr_mf {j : Nat} (hm : MtP S H bt ln s j) : MfQ H (sI (sI H 83 26 (nI c)) 83 27 (nI (kPl s j))) s j c := ⟨by rw [hI_sI, if_neg (by omega), hI_sI, if_pos ⟨rfl, rfl⟩], by rw [hI_sI, if_pos ⟨rfl, rfl⟩], MoF.pF (A := fun q => q = 83) (F := fun k => k = 26 ∨ k = 27) (MoF.pF (A := fun q => q = 83) (F := fun k => k = 26 ∨ k = 27) MoF.rf rfl (by decide) _) rfl (by decide) _⟩
theorem hn64_u {e : Nat} (hw : RxW x) (hq : RxQ e (nxB x) y) : tNk (rxX y) < 64 := by
  have q4 : tNk (rxX y) + (rxB x + 1) = tNk (rxX x) + rxB y := hq.2.2.2.1
  have q3 := hq.2.2.1
  have w4 := hw.2.2.2
  omega
theorem m_unlessN (hF : gFx S) (IH : MOk S mX11_unless 11 bt ln s N d 2) (K : Nat) (hK : 6 * (8 - rxO x) + (64 - rxB x) + 11 ≤ K) (hr : RxP S H bt ln s N x) (hw : RxW x) (hk : kK s (rxN x) = 13) (hn : NjQ (prf s (rd s d 2) x)) : Nv mX11_unless K [.ref 83] S H (fun H2 => mQ S H H2 bt ln s N (prf s (rd s d 2) x)) := by
  unfold prf at hn ⊢
  by_cases h64 : 64 ≤ rxB x
  · rw [if_pos h64]
    refine vq_intro (by decide) (by exact Nat.le_of_ble_eq_true rfl) rfl ?_
    refine xq_aload_n dX11_unless_0 rfl rfl ?_
    refine xq_bipush dX11_unless_1 bp13 ?_
    refine xq_callV1P clX11 gd_X11_isWord dX11_unless_3 ml_RX11_259 im_X11_isWord se_X11_isWord rfl (Fx.s83 hF) (by exact Nat.le_of_ble_eq_true rfl) (by omega) (m_isWord (w := 13) hF hr.2.2.1 hr.1 (by decide)) ?_
    refine xq_if_neB dX11_unless_6 rfl ⟨fun h6 => ?_, fun h6 => ?_⟩
    · skip
      refine xq_aload_n dX11_unless_14 rfl rfl ?_
      refine xq_callV0N clX11 gd_X11_knot dX11_unless_15 ml_RX11_262 im_X11_knot se_X11_knot rfl (Fx.s83 hF) (by exact Nat.le_of_ble_eq_true rfl) (by omega) (m_knot0 hF hr.2.2.1 hr.1 hr.2.2.2.2 (by have := hw.2.1; omega)) ?_
      intro H15 p15
      have ft := FtQ.mf p15 (by decide) (by decide) hr.1.js
      have skf := (SmK.rf (H := H)).tr (MfQ.sk p15)
      have fa := ft.1; have fb := ft.2.2.1; have fc := ft.2.2.2.1
      refine xq_aload_n dX11_unless_18 rfl rfl ?_
      refine xq_callV0N clX11 gd_X11_goOn dX11_unless_19 ml_RX11_235 im_X11_goOn se_X11_goOn rfl (Fx.s83 hF) (by exact Nat.le_of_ble_eq_true rfl) (by omega) (m_goOn1 hF fa fb fc) ?_
      intro H19 p19
      subst p19
      refine xq_aload_n dX11_unless_22 rfl rfl ?_
      refine xq_callV0N clX11 gd_X11_unless dX11_unless_23 ml_RX11_268 im_X11_unless se_X11_unless rfl (Fx.s83 hF) (by exact Nat.le_of_ble_eq_true rfl) (by omega) (m_unlessF hF fa fb fc) ?_
      intro H23 p23
      subst p23
      refine xq_aload_n dX11_unless_26 rfl rfl ?_
      refine xq_iconst dX11_unless_27 ic2 ?_
      refine xq_sipush dX11_unless_28 sp260 ?_
      refine xq_callV2N clX11 gd_X11_puts dX11_unless_31 ml_RX11_265 im_X11_puts se_X11_puts rfl (Fx.s83 hF) (by exact Nat.le_of_ble_eq_true rfl) (by omega) (m_putsF hF fa fb fc) ?_
      intro H31 p31
      subst p31
      refine xq_vret dX11_unless_34 rfl ?_
      exact ⟨_, ⟨skf, ft⟩, rfl⟩
    · skip
      exact absurd (of_decide_eq_false h6) (by omega)
  · rw [if_neg h64] at hn ⊢
    have hsub : ∀ H3, RxP S H3 bt ln s N (nxB x) → Nv mX11_unless (K - 1) [.ref 83] S H3 (fun H2 => mQ S H3 H2 bt ln s N (rd s d 2 (nxB x))) := fun H3 h3 => IH (nxB x) (K - 1) H3 (by show 6 * (8 - rxO x) + (64 - (rxB x + 1)) + 11 ≤ K - 1; omega) h3 (hw.nx (by omega)) (nj_b1 hn)
    cases er : rd s d 2 (nxB x) with
    | inl f =>
      obtain ⟨c, m⟩ := f
      rw [er] at hsub
      refine vq_intro (by decide) (by exact Nat.le_of_ble_eq_true rfl) rfl ?_
      refine xq_aload_n dX11_unless_0 rfl rfl ?_
      refine xq_bipush dX11_unless_1 bp13 ?_
      refine xq_callV1P clX11 gd_X11_isWord dX11_unless_3 ml_RX11_259 im_X11_isWord se_X11_isWord rfl (Fx.s83 hF) (by exact Nat.le_of_ble_eq_true rfl) (by omega) (m_isWord (w := 13) hF hr.2.2.1 hr.1 (by decide)) ?_
      refine xq_if_neB dX11_unless_6 rfl ⟨fun h6 => ?_, fun h6 => ?_⟩
      · skip
        refine xq_aload_n dX11_unless_14 rfl rfl ?_
        refine xq_callV0N clX11 gd_X11_knot dX11_unless_15 ml_RX11_262 im_X11_knot se_X11_knot rfl (Fx.s83 hF) (by exact Nat.le_of_ble_eq_true rfl) (by omega) (m_knot1 hF hr.2.2.1 hr.2.2.2.2 (by omega)) ?_
        intro H15 p15
        subst p15
        have hrk := hr.kn (b := rxB x + 1)
        have skk := (SmK.rf (H := H)).pF (k := 31) (by decide) (nI (rxB x + 1))
        refine xq_aload_n dX11_unless_18 rfl rfl ?_
        refine xq_callV0N clX11 gd_X11_goOn dX11_unless_19 ml_RX11_235 im_X11_goOn se_X11_goOn rfl (Fx.s83 hF) (by exact Nat.le_of_ble_eq_true rfl) (by omega) (m_goOn hrk.2.2.1 hrk.1 (kK_in (show kK s (rxN x) ≠ 44 by omega) hr.1.lx)) ?_
        intro H19 p19
        obtain ⟨g1, g2⟩ := p19
        have hrn : RxP S H19 bt ln s N (nxB x) := hrk.tk g1 g2
        have skn := skk.tr (tok_sk g2)
        refine xq_aload_n dX11_unless_22 rfl rfl ?_
        refine xq_callV0N clX11 gd_X11_unless dX11_unless_23 ml_RX11_268 im_X11_unless se_X11_unless rfl (Fx.s83 hF) (by exact Nat.le_of_ble_eq_true rfl) (by omega) (hsub _ hrn) ?_
        intro H23 p23
        obtain ⟨sq, ft⟩ := p23
        have skf := skn.tr sq
        have fa := ft.1; have fb := ft.2.2.1; have fc := ft.2.2.2.1
        refine xq_aload_n dX11_unless_26 rfl rfl ?_
        refine xq_iconst dX11_unless_27 ic2 ?_
        refine xq_sipush dX11_unless_28 sp260 ?_
        refine xq_callV2N clX11 gd_X11_puts dX11_unless_31 ml_RX11_265 im_X11_puts se_X11_puts rfl (Fx.s83 hF) (by exact Nat.le_of_ble_eq_true rfl) (by omega) (m_putsF hF fa fb fc) ?_
        intro H31 p31
        subst p31
        refine xq_vret dX11_unless_34 rfl ?_
        exact ⟨_, ⟨skf, ft⟩, rfl⟩
      · skip
        exact absurd (of_decide_eq_false h6) (by omega)
    | inr z =>
      have hq := rd_q d 2 (nxB x) z (show rxB x + 1 ≤ 64 by omega) er
      have hn64 := hn64_u hw hq
      rw [er] at hsub
      rw [hk]
      refine vq_intro (by decide) (by exact Nat.le_of_ble_eq_true rfl) rfl ?_
      refine xq_aload_n dX11_unless_0 rfl rfl ?_
      refine xq_bipush dX11_unless_1 bp13 ?_
      refine xq_callV1P clX11 gd_X11_isWord dX11_unless_3 ml_RX11_259 im_X11_isWord se_X11_isWord rfl (Fx.s83 hF) (by exact Nat.le_of_ble_eq_true rfl) (by omega) (m_isWord (w := 13) hF hr.2.2.1 hr.1 (by decide)) ?_
      refine xq_if_neB dX11_unless_6 rfl ⟨fun h6 => ?_, fun h6 => ?_⟩
      · skip
        refine xq_aload_n dX11_unless_14 rfl rfl ?_
        refine xq_callV0N clX11 gd_X11_knot dX11_unless_15 ml_RX11_262 im_X11_knot se_X11_knot rfl (Fx.s83 hF) (by exact Nat.le_of_ble_eq_true rfl) (by omega) (m_knot1 hF hr.2.2.1 hr.2.2.2.2 (by omega)) ?_
        intro H15 p15
        subst p15
        have hrk := hr.kn (b := rxB x + 1)
        have skk := (SmK.rf (H := H)).pF (k := 31) (by decide) (nI (rxB x + 1))
        refine xq_aload_n dX11_unless_18 rfl rfl ?_
        refine xq_callV0N clX11 gd_X11_goOn dX11_unless_19 ml_RX11_235 im_X11_goOn se_X11_goOn rfl (Fx.s83 hF) (by exact Nat.le_of_ble_eq_true rfl) (by omega) (m_goOn hrk.2.2.1 hrk.1 (kK_in (show kK s (rxN x) ≠ 44 by omega) hr.1.lx)) ?_
        intro H19 p19
        obtain ⟨g1, g2⟩ := p19
        have hrn : RxP S H19 bt ln s N (nxB x) := hrk.tk g1 g2
        have skn := skk.tr (tok_sk g2)
        refine xq_aload_n dX11_unless_22 rfl rfl ?_
        refine xq_callV0N clX11 gd_X11_unless dX11_unless_23 ml_RX11_268 im_X11_unless se_X11_unless rfl (Fx.s83 hF) (by exact Nat.le_of_ble_eq_true rfl) (by omega) (hsub _ hrn) ?_
        intro H23 p23
        obtain ⟨sq, rz⟩ := p23
        have skz := skn.tr sq
        refine xq_aload_n dX11_unless_26 rfl rfl ?_
        refine xq_iconst dX11_unless_27 ic2 ?_
        refine xq_sipush dX11_unless_28 sp260 ?_
        refine xq_callV2N clX11 gd_X11_puts dX11_unless_31 ml_RX11_265 im_X11_puts se_X11_puts rfl (Fx.s83 hF) (by exact Nat.le_of_ble_eq_true rfl) (by omega) (m_puts hF rz.2.2.1 rz.nk hn64) ?_
        intro H31 p31
        subst p31
        have hput : RxP S (ptH H23 (tNk (rxX z)) 2 260) bt ln s N (adU 13 0 z) := rz.pt (k := 13) (a := tNk (rxX z) - 1) (b := 0) (w := oB (rxW z) (tNk (rxX z))) hn64
        refine xq_vret dX11_unless_34 rfl ?_
        exact ⟨_, ⟨skz.pt, hput⟩, rfl⟩
      · skip
        exact absurd (of_decide_eq_false h6) (by omega)
theorem m_unless (hF : gFx S) (IH : MOk S mX11_unless 11 bt ln s N d 2) (IH3 : MOk S mX11_plain 10 bt ln s N d 3) : MOk S mX11_unless 11 bt ln s N (d + 1) 2 := by
  intro x K H hK hr hw hn
  rw [rd_2] at hn ⊢
  by_cases hk : kK s (rxN x) = 13
  · rw [if_pos hk] at hn ⊢
    exact m_unlessN hF IH K hK hr hw hk hn
  · rw [if_neg hk] at hn ⊢
    refine vq_intro (by decide) (by exact Nat.le_of_ble_eq_true rfl) rfl ?_
    refine xq_aload_n dX11_unless_0 rfl rfl ?_
    refine xq_bipush dX11_unless_1 bp13 ?_
    refine xq_callV1P clX11 gd_X11_isWord dX11_unless_3 ml_RX11_259 im_X11_isWord se_X11_isWord rfl (Fx.s83 hF) (by exact Nat.le_of_ble_eq_true rfl) (by omega) (m_isWord (w := 13) hF hr.2.2.1 hr.1 (by decide)) ?_
    refine xq_if_neB dX11_unless_6 rfl ⟨fun h6 => ?_, fun h6 => ?_⟩
    · skip
      exact absurd (of_decide_eq_true h6) hk
    · skip
      refine xq_aload_n dX11_unless_9 rfl rfl ?_
      refine xq_callV0N clX11 gd_X11_plain dX11_unless_10 ml_RX11_271 im_X11_plain se_X11_plain rfl (Fx.s83 hF) (by exact Nat.le_of_ble_eq_true rfl) (by omega) (IH3 x (K - 1) H (by omega) hr hw hn) ?_
      intro H10 p10
      refine xq_vret dX11_unless_13 rfl ?_
      exact ⟨H10, p10, rfl⟩
theorem m_bracket (hF : gFx S) (IH : MOk S mX11_eithers 13 bt ln s N d 0) (K : Nat) (hK : 6 * (8 - rxO x) + (64 - rxB x) + 8 ≤ K) (hr : RxP S H bt ln s N x) (hw : RxW x) (hk : kK s (rxN x) = 41) (hn : NjQ (brk s (rd s d 0) x)) : Nv mX11_bracket K [.ref 83] S H (fun H2 => mQ S H H2 bt ln s N (brk s (rd s d 0) x)) := by
  unfold brk at hn ⊢
  have ho8 := hw.2.2.1
  by_cases h8 : 8 ≤ rxO x
  · rw [if_pos h8]
    refine vq_intro (by decide) (by exact Nat.le_of_ble_eq_true rfl) rfl ?_
    refine xq_aload_n dX11_bracket_0 rfl rfl ?_
    refine xq_getIE clX11 (by decide) rfl fl_RX11_274 dX11_bracket_1 (Fx.s83 hF) hr.2.2.2.1 ?_
    refine xq_bipush dX11_bracket_4 bp8 ?_
    refine xq_icmp_neN dX11_bracket_6 rfl (by omega) (by omega) ⟨fun h6 => ?_, fun h6 => ?_⟩
    · skip
      exact absurd h6 (by have := hw.2.2.1; omega)
    · skip
      refine xq_aload_n dX11_bracket_9 rfl rfl ?_
      refine xq_iconst dX11_bracket_10 ic2 ?_
      refine xq_callV1N clX11 gd_X11_wrong dX11_bracket_11 ml_RX11_191 im_X11_wrong se_X11_wrong rfl (Fx.s83 hF) (by exact Nat.le_of_ble_eq_true rfl) (by omega) (m_wrong0 hF hr.2.2.1 hr.1.pl) ?_
      intro H11 p11
      subst p11
      have mf11 := wr_mf (c := 2) hr.1
      have ft := FtQ.mf mf11 (by decide) (by decide) hr.1.js
      have skf := ((SmK.rf (H := H))).tr (MfQ.sk mf11)
      have fa := ft.1; have fb := ft.2.2.1; have fc := ft.2.2.2.1
      refine xq_aload_n dX11_bracket_14 rfl rfl ?_
      refine xq_getIE (v := nI 2) clX11 (by decide) rfl fl_RX11_182 dX11_bracket_15 (Fx.s83 hF) ft.1 ?_
      refine xq_if_eqN dX11_bracket_18 rfl (by omega) ⟨fun h18 => ?_, fun h18 => ?_⟩
      · skip
        exact absurd h18 (by decide)
      · skip
        refine xq_vret dX11_bracket_21 rfl ?_
        exact ⟨_, ⟨skf, ft⟩, rfl⟩
  · rw [if_neg h8] at hn ⊢
    have hwx : RxW (rxN x + 1, rxX x, rxB x, rxO x + 1, rxW x) := ⟨hw.1, hw.2.1, show rxO x + 1 ≤ 8 by omega, hw.2.2.2⟩
    have hsub : ∀ H3, RxP S H3 bt ln s N (rxN x + 1, rxX x, rxB x, rxO x + 1, rxW x) → Nv mX11_eithers (K - 1) [.ref 83] S H3 (fun H2 => mQ S H3 H2 bt ln s N (rd s d 0 (rxN x + 1, rxX x, rxB x, rxO x + 1, rxW x))) := fun H3 h3 => IH (rxN x + 1, rxX x, rxB x, rxO x + 1, rxW x) (K - 1) H3 (by show 6 * (8 - (rxO x + 1)) + (64 - rxB x) + 13 ≤ K - 1; omega) h3 hwx (nj_b1 hn)
    cases er : rd s d 0 (rxN x + 1, rxX x, rxB x, rxO x + 1, rxW x) with
    | inl f =>
      obtain ⟨c, m⟩ := f
      rw [er] at hsub
      refine vq_intro (by decide) (by exact Nat.le_of_ble_eq_true rfl) rfl ?_
      refine xq_aload_n dX11_bracket_0 rfl rfl ?_
      refine xq_getIE clX11 (by decide) rfl fl_RX11_274 dX11_bracket_1 (Fx.s83 hF) hr.2.2.2.1 ?_
      refine xq_bipush dX11_bracket_4 bp8 ?_
      refine xq_icmp_neN dX11_bracket_6 rfl (by omega) (by omega) ⟨fun h6 => ?_, fun h6 => ?_⟩
      · skip
        refine xq_aload_n dX11_bracket_14 rfl rfl ?_
        refine xq_getIE (v := nI 0) clX11 (by decide) rfl fl_RX11_182 dX11_bracket_15 (Fx.s83 hF) hr.2.2.1 ?_
        refine xq_if_eqN dX11_bracket_18 rfl (by omega) ⟨fun h18 => ?_, fun h18 => ?_⟩
        · skip
          refine xq_aload_n dX11_bracket_22 rfl rfl ?_
          refine xq_dup dX11_bracket_23 rfl ?_
          refine xq_getIE clX11 (by decide) rfl fl_RX11_274 dX11_bracket_24 (Fx.s83 hF) hr.2.2.2.1 ?_
          refine xq_iconst dX11_bracket_27 ic1 ?_
          refine xq_iaddN dX11_bracket_28 ?_
          refine xq_putI clX11 (by decide) rfl fl_RX11_274 (Or.inl rfl) dX11_bracket_29 ⟨rfl, rfl⟩ (Fx.s83 hF) ?_
          refine xq_aload_n dX11_bracket_32 rfl rfl ?_
          refine xq_callV0N clX11 gd_X11_token dX11_bracket_33 ml_RX11_188 im_X11_token se_X11_token rfl (Fx.s83 hF) (by exact Nat.le_of_ble_eq_true rfl) (by omega) (m_tok (hr.op (o := rxO x + 1)).1 (kK_in (show kK s (rxN x) ≠ 44 by omega) hr.1.lx)) ?_
          intro H33 p33
          obtain ⟨g1_33, g2_33⟩ := p33
          have hr33 := (hr.op (o := rxO x + 1)).tk g1_33 g2_33
          have sk33 := ((SmK.rf (H := H)).pF (k := 30) (by decide) (nI (rxO x + 1))).tr (tok_sk g2_33)
          refine xq_aload_n dX11_bracket_36 rfl rfl ?_
          refine xq_callV0N clX11 gd_X11_eithers dX11_bracket_37 ml_RX11_229 im_X11_eithers se_X11_eithers rfl (Fx.s83 hF) (by exact Nat.le_of_ble_eq_true rfl) (by omega) (hsub _ hr33) ?_
          intro H37 p37
          obtain ⟨sq, ft⟩ := p37
          have skf := sk33.tr sq
          have fa := ft.1; have fb := ft.2.2.1; have fc := ft.2.2.2.1
          refine xq_aload_n dX11_bracket_40 rfl rfl ?_
          refine xq_getIE (v := nI c) clX11 (by decide) rfl fl_RX11_182 dX11_bracket_41 (Fx.s83 hF) ft.1 ?_
          refine xq_if_neN dX11_bracket_44 rfl (by omega) ⟨fun h44 => ?_, fun h44 => ?_⟩
          · skip
            refine xq_aload_n dX11_bracket_61 rfl rfl ?_
            refine xq_getIE (v := nI c) clX11 (by decide) rfl fl_RX11_182 dX11_bracket_62 (Fx.s83 hF) ft.1 ?_
            refine xq_if_eqN dX11_bracket_65 rfl (by omega) ⟨fun h65 => ?_, fun h65 => ?_⟩
            · skip
              exact absurd h65 (by have := ft.2.2.1; omega)
            · skip
              refine xq_vret dX11_bracket_68 rfl ?_
              exact ⟨_, ⟨skf, ft⟩, rfl⟩
          · skip
            exact absurd h44 (by have := ft.2.2.1; omega)
        · skip
          exact absurd rfl h18
      · skip
        exact absurd h6 (by omega)
    | inr z =>
      have hq := rd_q d 0 (rxN x + 1, rxX x, rxB x, rxO x + 1, rxW x) z hw.2.1 er
      have ho : rxO z = rxO x + 1 := hq.1
      rw [er] at hsub
      show Nv mX11_bracket K [.ref 83] S H (fun H2 => mQ S H H2 bt ln s N (if kK s (rxN z) = 42 then .inr (rxN z + 1, rxX z, rxB z, rxO z - 1, rxW z) else .inl (1, rxN z)))
      by_cases h42 : kK s (rxN z) = 42
      · rw [if_pos h42]
        refine vq_intro (by decide) (by exact Nat.le_of_ble_eq_true rfl) rfl ?_
        refine xq_aload_n dX11_bracket_0 rfl rfl ?_
        refine xq_getIE clX11 (by decide) rfl fl_RX11_274 dX11_bracket_1 (Fx.s83 hF) hr.2.2.2.1 ?_
        refine xq_bipush dX11_bracket_4 bp8 ?_
        refine xq_icmp_neN dX11_bracket_6 rfl (by omega) (by omega) ⟨fun h6 => ?_, fun h6 => ?_⟩
        · skip
          refine xq_aload_n dX11_bracket_14 rfl rfl ?_
          refine xq_getIE (v := nI 0) clX11 (by decide) rfl fl_RX11_182 dX11_bracket_15 (Fx.s83 hF) hr.2.2.1 ?_
          refine xq_if_eqN dX11_bracket_18 rfl (by omega) ⟨fun h18 => ?_, fun h18 => ?_⟩
          · skip
            refine xq_aload_n dX11_bracket_22 rfl rfl ?_
            refine xq_dup dX11_bracket_23 rfl ?_
            refine xq_getIE clX11 (by decide) rfl fl_RX11_274 dX11_bracket_24 (Fx.s83 hF) hr.2.2.2.1 ?_
            refine xq_iconst dX11_bracket_27 ic1 ?_
            refine xq_iaddN dX11_bracket_28 ?_
            refine xq_putI clX11 (by decide) rfl fl_RX11_274 (Or.inl rfl) dX11_bracket_29 ⟨rfl, rfl⟩ (Fx.s83 hF) ?_
            refine xq_aload_n dX11_bracket_32 rfl rfl ?_
            refine xq_callV0N clX11 gd_X11_token dX11_bracket_33 ml_RX11_188 im_X11_token se_X11_token rfl (Fx.s83 hF) (by exact Nat.le_of_ble_eq_true rfl) (by omega) (m_tok (hr.op (o := rxO x + 1)).1 (kK_in (show kK s (rxN x) ≠ 44 by omega) hr.1.lx)) ?_
            intro H33 p33
            obtain ⟨g1_33, g2_33⟩ := p33
            have hr33 := (hr.op (o := rxO x + 1)).tk g1_33 g2_33
            have sk33 := ((SmK.rf (H := H)).pF (k := 30) (by decide) (nI (rxO x + 1))).tr (tok_sk g2_33)
            refine xq_aload_n dX11_bracket_36 rfl rfl ?_
            refine xq_callV0N clX11 gd_X11_eithers dX11_bracket_37 ml_RX11_229 im_X11_eithers se_X11_eithers rfl (Fx.s83 hF) (by exact Nat.le_of_ble_eq_true rfl) (by omega) (hsub _ hr33) ?_
            intro H37 p37
            obtain ⟨sq, rz⟩ := p37
            have skz := sk33.tr sq
            refine xq_aload_n dX11_bracket_40 rfl rfl ?_
            refine xq_getIE (v := nI 0) clX11 (by decide) rfl fl_RX11_182 dX11_bracket_41 (Fx.s83 hF) rz.2.2.1 ?_
            refine xq_if_neN dX11_bracket_44 rfl (by omega) ⟨fun h44 => ?_, fun h44 => ?_⟩
            · skip
              exact absurd rfl h44
            · skip
              refine xq_aload_n dX11_bracket_47 rfl rfl ?_
              refine xq_bipush dX11_bracket_48 bp41 ?_
              refine xq_callV1P clX11 gd_X11_isSign dX11_bracket_50 ml_RX11_241 im_X11_isSign se_X11_isSign rfl (Fx.s83 hF) (by exact Nat.le_of_ble_eq_true rfl) (by omega) (m_isSign (K := 42) hF rz.2.2.1 rz.1 (by decide) (by decide)) ?_
              refine xq_if_neB dX11_bracket_53 rfl ⟨fun h53 => ?_, fun h53 => ?_⟩
              · skip
                refine xq_aload_n dX11_bracket_61 rfl rfl ?_
                refine xq_getIE (v := nI 0) clX11 (by decide) rfl fl_RX11_182 dX11_bracket_62 (Fx.s83 hF) rz.2.2.1 ?_
                refine xq_if_eqN dX11_bracket_65 rfl (by omega) ⟨fun h65 => ?_, fun h65 => ?_⟩
                · skip
                  refine xq_aload_n dX11_bracket_69 rfl rfl ?_
                  refine xq_dup dX11_bracket_70 rfl ?_
                  refine xq_getIE clX11 (by decide) rfl fl_RX11_274 dX11_bracket_71 (Fx.s83 hF) rz.2.2.2.1 ?_
                  refine xq_iconst dX11_bracket_74 ic1 ?_
                  refine xq_isubN dX11_bracket_75 (by omega) ?_
                  refine xq_putI clX11 (by decide) rfl fl_RX11_274 (Or.inl rfl) dX11_bracket_76 ⟨rfl, rfl⟩ (Fx.s83 hF) ?_
                  refine xq_aload_n dX11_bracket_79 rfl rfl ?_
                  refine xq_callV0N clX11 gd_X11_token dX11_bracket_80 ml_RX11_188 im_X11_token se_X11_token rfl (Fx.s83 hF) (by exact Nat.le_of_ble_eq_true rfl) (by omega) (m_tok (rz.op (o := rxO z - 1)).1 (kK_in (show kK s (rxN z) ≠ 44 by omega) rz.1.lx)) ?_
                  intro H80 p80
                  obtain ⟨g1_80, g2_80⟩ := p80
                  have hr80 := (rz.op (o := rxO z - 1)).tk g1_80 g2_80
                  have sk80 := (skz.pF (k := 30) (by decide) (nI (rxO z - 1))).tr (tok_sk g2_80)
                  refine xq_vret dX11_bracket_83 rfl ?_
                  exact ⟨_, ⟨sk80, hr80⟩, rfl⟩
                · skip
                  exact absurd rfl h65
              · skip
                exact absurd h42 (of_decide_eq_false h53)
          · skip
            exact absurd rfl h18
        · skip
          exact absurd h6 (by omega)
      · rw [if_neg h42]
        refine vq_intro (by decide) (by exact Nat.le_of_ble_eq_true rfl) rfl ?_
        refine xq_aload_n dX11_bracket_0 rfl rfl ?_
        refine xq_getIE clX11 (by decide) rfl fl_RX11_274 dX11_bracket_1 (Fx.s83 hF) hr.2.2.2.1 ?_
        refine xq_bipush dX11_bracket_4 bp8 ?_
        refine xq_icmp_neN dX11_bracket_6 rfl (by omega) (by omega) ⟨fun h6 => ?_, fun h6 => ?_⟩
        · skip
          refine xq_aload_n dX11_bracket_14 rfl rfl ?_
          refine xq_getIE (v := nI 0) clX11 (by decide) rfl fl_RX11_182 dX11_bracket_15 (Fx.s83 hF) hr.2.2.1 ?_
          refine xq_if_eqN dX11_bracket_18 rfl (by omega) ⟨fun h18 => ?_, fun h18 => ?_⟩
          · skip
            refine xq_aload_n dX11_bracket_22 rfl rfl ?_
            refine xq_dup dX11_bracket_23 rfl ?_
            refine xq_getIE clX11 (by decide) rfl fl_RX11_274 dX11_bracket_24 (Fx.s83 hF) hr.2.2.2.1 ?_
            refine xq_iconst dX11_bracket_27 ic1 ?_
            refine xq_iaddN dX11_bracket_28 ?_
            refine xq_putI clX11 (by decide) rfl fl_RX11_274 (Or.inl rfl) dX11_bracket_29 ⟨rfl, rfl⟩ (Fx.s83 hF) ?_
            refine xq_aload_n dX11_bracket_32 rfl rfl ?_
            refine xq_callV0N clX11 gd_X11_token dX11_bracket_33 ml_RX11_188 im_X11_token se_X11_token rfl (Fx.s83 hF) (by exact Nat.le_of_ble_eq_true rfl) (by omega) (m_tok (hr.op (o := rxO x + 1)).1 (kK_in (show kK s (rxN x) ≠ 44 by omega) hr.1.lx)) ?_
            intro H33 p33
            obtain ⟨g1_33, g2_33⟩ := p33
            have hr33 := (hr.op (o := rxO x + 1)).tk g1_33 g2_33
            have sk33 := ((SmK.rf (H := H)).pF (k := 30) (by decide) (nI (rxO x + 1))).tr (tok_sk g2_33)
            refine xq_aload_n dX11_bracket_36 rfl rfl ?_
            refine xq_callV0N clX11 gd_X11_eithers dX11_bracket_37 ml_RX11_229 im_X11_eithers se_X11_eithers rfl (Fx.s83 hF) (by exact Nat.le_of_ble_eq_true rfl) (by omega) (hsub _ hr33) ?_
            intro H37 p37
            obtain ⟨sq, rz⟩ := p37
            have skz := sk33.tr sq
            refine xq_aload_n dX11_bracket_40 rfl rfl ?_
            refine xq_getIE (v := nI 0) clX11 (by decide) rfl fl_RX11_182 dX11_bracket_41 (Fx.s83 hF) rz.2.2.1 ?_
            refine xq_if_neN dX11_bracket_44 rfl (by omega) ⟨fun h44 => ?_, fun h44 => ?_⟩
            · skip
              exact absurd rfl h44
            · skip
              refine xq_aload_n dX11_bracket_47 rfl rfl ?_
              refine xq_bipush dX11_bracket_48 bp41 ?_
              refine xq_callV1P clX11 gd_X11_isSign dX11_bracket_50 ml_RX11_241 im_X11_isSign se_X11_isSign rfl (Fx.s83 hF) (by exact Nat.le_of_ble_eq_true rfl) (by omega) (m_isSign (K := 42) hF rz.2.2.1 rz.1 (by decide) (by decide)) ?_
              refine xq_if_neB dX11_bracket_53 rfl ⟨fun h53 => ?_, fun h53 => ?_⟩
              · skip
                exact absurd (of_decide_eq_true h53) h42
              · skip
                refine xq_aload_n dX11_bracket_56 rfl rfl ?_
                refine xq_iconst dX11_bracket_57 ic1 ?_
                refine xq_callV1N clX11 gd_X11_wrong dX11_bracket_58 ml_RX11_191 im_X11_wrong se_X11_wrong rfl (Fx.s83 hF) (by exact Nat.le_of_ble_eq_true rfl) (by omega) (m_wrong0 hF rz.2.2.1 rz.1.pl) ?_
                intro H58 p58
                subst p58
                have mf58 := wr_mf (c := 1) rz.1
                have ft := FtQ.mf mf58 (by decide) (by decide) rz.1.js
                have skf := (skz).tr (MfQ.sk mf58)
                have fa := ft.1; have fb := ft.2.2.1; have fc := ft.2.2.2.1
                refine xq_aload_n dX11_bracket_61 rfl rfl ?_
                refine xq_getIE (v := nI 1) clX11 (by decide) rfl fl_RX11_182 dX11_bracket_62 (Fx.s83 hF) ft.1 ?_
                refine xq_if_eqN dX11_bracket_65 rfl (by omega) ⟨fun h65 => ?_, fun h65 => ?_⟩
                · skip
                  exact absurd h65 (by decide)
                · skip
                  refine xq_vret dX11_bracket_68 rfl ?_
                  exact ⟨_, ⟨skf, ft⟩, rfl⟩
          · skip
            exact absurd rfl h18
        · skip
          exact absurd h6 (by omega)
theorem m_plainB (hF : gFx S) (K : Nat) (hK : 6 * (8 - rxO x) + (64 - rxB x) + 10 ≤ K) (hr : RxP S H bt ln s N x) (hw : RxW x) (IH : MOk S mX11_eithers 13 bt ln s N d 0) (hk : kK s (rxN x) = 41) (hn : NjQ (brk s (rd s d 0) x)) : Nv mX11_plain K [.ref 83] S H (fun H2 => mQ S H H2 bt ln s N (brk s (rd s d 0) x)) := by
  refine vq_intro (by decide) (by exact Nat.le_of_ble_eq_true rfl) rfl ?_
  refine xq_aload_n dX11_plain_0 rfl rfl ?_
  refine xq_getIE (v := nI 0) clX11 (by decide) rfl fl_RX11_182 dX11_plain_1 (Fx.s83 hF) hr.2.2.1 ?_
  refine xq_if_eqN dX11_plain_4 rfl (by omega) ⟨fun h4 => ?_, fun h4 => ?_⟩
  · skip
    refine xq_aload_n dX11_plain_8 rfl rfl ?_
    refine xq_bipush dX11_plain_9 bp40 ?_
    refine xq_callV1P clX11 gd_X11_isSign dX11_plain_11 ml_RX11_241 im_X11_isSign se_X11_isSign rfl (Fx.s83 hF) (by exact Nat.le_of_ble_eq_true rfl) (by omega) (m_isSign (K := 41) hF hr.2.2.1 hr.1 (by decide) (by decide)) ?_
    refine xq_if_eqB dX11_plain_14 rfl ⟨fun h14 => ?_, fun h14 => ?_⟩
    · skip
      exact absurd (of_decide_eq_false h14) (by omega)
    · skip
      refine xq_aload_n dX11_plain_17 rfl rfl ?_
      refine xq_callV0N clX11 gd_X11_bracket dX11_plain_18 ml_RX11_277 im_X11_bracket se_X11_bracket rfl (Fx.s83 hF) (by exact Nat.le_of_ble_eq_true rfl) (by omega) (m_bracket hF IH (K - 1) (by omega) hr hw hk hn) ?_
      intro H18 p18
      refine xq_vret dX11_plain_21 rfl ?_
      exact ⟨H18, p18, rfl⟩
  · skip
    exact absurd rfl h4
theorem m_plainX (hF : gFx S) (K : Nat) (hK : 6 * (8 - rxO x) + (64 - rxB x) + 10 ≤ K) (hr : RxP S H bt ln s N x) (hw : RxW x) (h41 : kK s (rxN x) ≠ 41) (hk : kK s (rxN x) < 14 ∨ 20 < kK s (rxN x)) : Nv mX11_plain K [.ref 83] S H (fun H2 => mQ S H H2 bt ln s N (.inl (1, rxN x))) := by
  refine vq_intro (by decide) (by exact Nat.le_of_ble_eq_true rfl) rfl ?_
  refine xq_aload_n dX11_plain_0 rfl rfl ?_
  refine xq_getIE (v := nI 0) clX11 (by decide) rfl fl_RX11_182 dX11_plain_1 (Fx.s83 hF) hr.2.2.1 ?_
  refine xq_if_eqN dX11_plain_4 rfl (by omega) ⟨fun h4 => ?_, fun h4 => ?_⟩
  · skip
    refine xq_aload_n dX11_plain_8 rfl rfl ?_
    refine xq_bipush dX11_plain_9 bp40 ?_
    refine xq_callV1P clX11 gd_X11_isSign dX11_plain_11 ml_RX11_241 im_X11_isSign se_X11_isSign rfl (Fx.s83 hF) (by exact Nat.le_of_ble_eq_true rfl) (by omega) (m_isSign (K := 41) hF hr.2.2.1 hr.1 (by decide) (by decide)) ?_
    refine xq_if_eqB dX11_plain_14 rfl ⟨fun h14 => ?_, fun h14 => ?_⟩
    · skip
      refine xq_aload_n dX11_plain_22 rfl rfl ?_
      refine xq_getI clX11 (by decide) rfl fl_RX11_147 dX11_plain_23 (Fx.s83 hF) ?_
      refine xq_if_ne dX11_plain_26 rfl ⟨fun h26 => ?_, fun h26 => ?_⟩
      · skip
        refine xq_aload_n dX11_plain_47 rfl rfl ?_
        refine xq_iconst dX11_plain_48 ic1 ?_
        refine xq_callV1N clX11 gd_X11_wrong dX11_plain_49 ml_RX11_191 im_X11_wrong se_X11_wrong rfl (Fx.s83 hF) (by exact Nat.le_of_ble_eq_true rfl) (by omega) (m_wrong0 hF hr.2.2.1 hr.1.pl) ?_
        intro H49 p49
        subst p49
        have mf49 := wr_mf (c := 1) hr.1
        have ft := FtQ.mf mf49 (by decide) (by decide) hr.1.js
        have skf := ((SmK.rf (H := H))).tr (MfQ.sk mf49)
        have fa := ft.1; have fb := ft.2.2.1; have fc := ft.2.2.2.1
        refine xq_aload_n dX11_plain_52 rfl rfl ?_
        refine xq_getI clX11 (by decide) rfl fl_RX11_157 dX11_plain_53 (Fx.s83 hF) ?_
        refine xq_istore_n dX11_plain_56 rfl rfl ?_
        refine xq_aload_n dX11_plain_57 rfl rfl ?_
        refine xq_callV0N clX11 gd_X11_knot dX11_plain_58 ml_RX11_262 im_X11_knot se_X11_knot rfl (Fx.s83 hF) (by exact Nat.le_of_ble_eq_true rfl) (by omega) (m_knotF hF fa fb fc) ?_
        intro H58 p58
        subst p58
        refine xq_aload_n dX11_plain_61 rfl rfl ?_
        refine xq_callV0N clX11 gd_X11_goOn dX11_plain_62 ml_RX11_235 im_X11_goOn se_X11_goOn rfl (Fx.s83 hF) (by exact Nat.le_of_ble_eq_true rfl) (by omega) (m_goOn1 hF fa fb fc) ?_
        intro H62 p62
        subst p62
        refine xq_aload_n dX11_plain_65 rfl rfl ?_
        refine xq_getIE (v := nI 1) clX11 (by decide) rfl fl_RX11_182 dX11_plain_66 (Fx.s83 hF) ft.1 ?_
        refine xq_if_eqN dX11_plain_69 rfl (by omega) ⟨fun h69 => ?_, fun h69 => ?_⟩
        · skip
          exact absurd h69 (by decide)
        · skip
          refine xq_vret dX11_plain_72 rfl ?_
          exact ⟨_, ⟨skf, ft⟩, rfl⟩
      · skip
        obtain ⟨hk28, hva⟩ := MsV_w hr.1.ms (kK_le hr.1.ok) (show _ = _ by simpa using h26)
        refine xq_aload_n dX11_plain_29 rfl rfl ?_
        refine xq_getIE clX11 (by decide) rfl fl_RX11_157 dX11_plain_30 (Fx.s83 hF) hva ?_
        refine xq_bipush dX11_plain_33 bp14 ?_
        refine xq_icmp_ltN dX11_plain_35 rfl (by omega) (by omega) ⟨fun h35 => ?_, fun h35 => ?_⟩
        · skip
          refine xq_aload_n dX11_plain_47 rfl rfl ?_
          refine xq_iconst dX11_plain_48 ic1 ?_
          refine xq_callV1N clX11 gd_X11_wrong dX11_plain_49 ml_RX11_191 im_X11_wrong se_X11_wrong rfl (Fx.s83 hF) (by exact Nat.le_of_ble_eq_true rfl) (by omega) (m_wrong0 hF hr.2.2.1 hr.1.pl) ?_
          intro H49 p49
          subst p49
          have mf49 := wr_mf (c := 1) hr.1
          have ft := FtQ.mf mf49 (by decide) (by decide) hr.1.js
          have skf := ((SmK.rf (H := H))).tr (MfQ.sk mf49)
          have fa := ft.1; have fb := ft.2.2.1; have fc := ft.2.2.2.1
          refine xq_aload_n dX11_plain_52 rfl rfl ?_
          refine xq_getI clX11 (by decide) rfl fl_RX11_157 dX11_plain_53 (Fx.s83 hF) ?_
          refine xq_istore_n dX11_plain_56 rfl rfl ?_
          refine xq_aload_n dX11_plain_57 rfl rfl ?_
          refine xq_callV0N clX11 gd_X11_knot dX11_plain_58 ml_RX11_262 im_X11_knot se_X11_knot rfl (Fx.s83 hF) (by exact Nat.le_of_ble_eq_true rfl) (by omega) (m_knotF hF fa fb fc) ?_
          intro H58 p58
          subst p58
          refine xq_aload_n dX11_plain_61 rfl rfl ?_
          refine xq_callV0N clX11 gd_X11_goOn dX11_plain_62 ml_RX11_235 im_X11_goOn se_X11_goOn rfl (Fx.s83 hF) (by exact Nat.le_of_ble_eq_true rfl) (by omega) (m_goOn1 hF fa fb fc) ?_
          intro H62 p62
          subst p62
          refine xq_aload_n dX11_plain_65 rfl rfl ?_
          refine xq_getIE (v := nI 1) clX11 (by decide) rfl fl_RX11_182 dX11_plain_66 (Fx.s83 hF) ft.1 ?_
          refine xq_if_eqN dX11_plain_69 rfl (by omega) ⟨fun h69 => ?_, fun h69 => ?_⟩
          · skip
            exact absurd h69 (by decide)
          · skip
            refine xq_vret dX11_plain_72 rfl ?_
            exact ⟨_, ⟨skf, ft⟩, rfl⟩
        · skip
          refine xq_aload_n dX11_plain_38 rfl rfl ?_
          refine xq_getIE clX11 (by decide) rfl fl_RX11_157 dX11_plain_39 (Fx.s83 hF) hva ?_
          refine xq_bipush dX11_plain_42 bp20 ?_
          refine xq_icmp_leN dX11_plain_44 rfl (by omega) (by omega) ⟨fun h44 => ?_, fun h44 => ?_⟩
          · skip
            exact absurd hk (by omega)
          · skip
            refine xq_aload_n dX11_plain_47 rfl rfl ?_
            refine xq_iconst dX11_plain_48 ic1 ?_
            refine xq_callV1N clX11 gd_X11_wrong dX11_plain_49 ml_RX11_191 im_X11_wrong se_X11_wrong rfl (Fx.s83 hF) (by exact Nat.le_of_ble_eq_true rfl) (by omega) (m_wrong0 hF hr.2.2.1 hr.1.pl) ?_
            intro H49 p49
            subst p49
            have mf49 := wr_mf (c := 1) hr.1
            have ft := FtQ.mf mf49 (by decide) (by decide) hr.1.js
            have skf := ((SmK.rf (H := H))).tr (MfQ.sk mf49)
            have fa := ft.1; have fb := ft.2.2.1; have fc := ft.2.2.2.1
            refine xq_aload_n dX11_plain_52 rfl rfl ?_
            refine xq_getI clX11 (by decide) rfl fl_RX11_157 dX11_plain_53 (Fx.s83 hF) ?_
            refine xq_istore_n dX11_plain_56 rfl rfl ?_
            refine xq_aload_n dX11_plain_57 rfl rfl ?_
            refine xq_callV0N clX11 gd_X11_knot dX11_plain_58 ml_RX11_262 im_X11_knot se_X11_knot rfl (Fx.s83 hF) (by exact Nat.le_of_ble_eq_true rfl) (by omega) (m_knotF hF fa fb fc) ?_
            intro H58 p58
            subst p58
            refine xq_aload_n dX11_plain_61 rfl rfl ?_
            refine xq_callV0N clX11 gd_X11_goOn dX11_plain_62 ml_RX11_235 im_X11_goOn se_X11_goOn rfl (Fx.s83 hF) (by exact Nat.le_of_ble_eq_true rfl) (by omega) (m_goOn1 hF fa fb fc) ?_
            intro H62 p62
            subst p62
            refine xq_aload_n dX11_plain_65 rfl rfl ?_
            refine xq_getIE (v := nI 1) clX11 (by decide) rfl fl_RX11_182 dX11_plain_66 (Fx.s83 hF) ft.1 ?_
            refine xq_if_eqN dX11_plain_69 rfl (by omega) ⟨fun h69 => ?_, fun h69 => ?_⟩
            · skip
              exact absurd h69 (by decide)
            · skip
              refine xq_vret dX11_plain_72 rfl ?_
              exact ⟨_, ⟨skf, ft⟩, rfl⟩
    · skip
      exact absurd (of_decide_eq_true h14) (by omega)
  · skip
    exact absurd rfl h4
theorem m_plain64 (hF : gFx S) (K : Nat) (hK : 6 * (8 - rxO x) + (64 - rxB x) + 10 ≤ K) (hr : RxP S H bt ln s N x) (hw : RxW x) (hk1 : 14 ≤ kK s (rxN x)) (hk2 : kK s (rxN x) ≤ 20) (h64 : 64 ≤ rxB x) : Nv mX11_plain K [.ref 83] S H (fun H2 => mQ S H H2 bt ln s N (.inl (2, rxN x))) := by
  have hms := hr.1.ms.1 (show kK s (rxN x) < 28 by omega)
  refine vq_intro (by decide) (by exact Nat.le_of_ble_eq_true rfl) rfl ?_
  refine xq_aload_n dX11_plain_0 rfl rfl ?_
  refine xq_getIE (v := nI 0) clX11 (by decide) rfl fl_RX11_182 dX11_plain_1 (Fx.s83 hF) hr.2.2.1 ?_
  refine xq_if_eqN dX11_plain_4 rfl (by omega) ⟨fun h4 => ?_, fun h4 => ?_⟩
  · skip
    refine xq_aload_n dX11_plain_8 rfl rfl ?_
    refine xq_bipush dX11_plain_9 bp40 ?_
    refine xq_callV1P clX11 gd_X11_isSign dX11_plain_11 ml_RX11_241 im_X11_isSign se_X11_isSign rfl (Fx.s83 hF) (by exact Nat.le_of_ble_eq_true rfl) (by omega) (m_isSign (K := 41) hF hr.2.2.1 hr.1 (by decide) (by decide)) ?_
    refine xq_if_eqB dX11_plain_14 rfl ⟨fun h14 => ?_, fun h14 => ?_⟩
    · skip
      refine xq_aload_n dX11_plain_22 rfl rfl ?_
      refine xq_getIE (v := nI 0) clX11 (by decide) rfl fl_RX11_147 dX11_plain_23 (Fx.s83 hF) hms.1 ?_
      refine xq_if_neN dX11_plain_26 rfl (by omega) ⟨fun h26 => ?_, fun h26 => ?_⟩
      · skip
        exact absurd rfl h26
      · skip
        refine xq_aload_n dX11_plain_29 rfl rfl ?_
        refine xq_getIE clX11 (by decide) rfl fl_RX11_157 dX11_plain_30 (Fx.s83 hF) hms.2 ?_
        refine xq_bipush dX11_plain_33 bp14 ?_
        refine xq_icmp_ltN dX11_plain_35 rfl (by omega) (by omega) ⟨fun h35 => ?_, fun h35 => ?_⟩
        · skip
          exact absurd h35 (by omega)
        · skip
          refine xq_aload_n dX11_plain_38 rfl rfl ?_
          refine xq_getIE clX11 (by decide) rfl fl_RX11_157 dX11_plain_39 (Fx.s83 hF) hms.2 ?_
          refine xq_bipush dX11_plain_42 bp20 ?_
          refine xq_icmp_leN dX11_plain_44 rfl (by omega) (by omega) ⟨fun h44 => ?_, fun h44 => ?_⟩
          · skip
            refine xq_aload_n dX11_plain_52 rfl rfl ?_
            refine xq_getIE clX11 (by decide) rfl fl_RX11_157 dX11_plain_53 (Fx.s83 hF) hms.2 ?_
            refine xq_istore_n dX11_plain_56 rfl rfl ?_
            refine xq_aload_n dX11_plain_57 rfl rfl ?_
            refine xq_callV0N clX11 gd_X11_knot dX11_plain_58 ml_RX11_262 im_X11_knot se_X11_knot rfl (Fx.s83 hF) (by exact Nat.le_of_ble_eq_true rfl) (by omega) (m_knot0 hF hr.2.2.1 hr.1 hr.2.2.2.2 (by have := hw.2.1; omega)) ?_
            intro H58 p58
            have ft := FtQ.mf p58 (by decide) (by decide) hr.1.js
            have skf := (SmK.rf (H := H)).tr (MfQ.sk p58)
            have fa := ft.1; have fb := ft.2.2.1; have fc := ft.2.2.2.1
            refine xq_aload_n dX11_plain_61 rfl rfl ?_
            refine xq_callV0N clX11 gd_X11_goOn dX11_plain_62 ml_RX11_235 im_X11_goOn se_X11_goOn rfl (Fx.s83 hF) (by exact Nat.le_of_ble_eq_true rfl) (by omega) (m_goOn1 hF fa fb fc) ?_
            intro H62 p62
            subst p62
            refine xq_aload_n dX11_plain_65 rfl rfl ?_
            refine xq_getIE (v := nI 2) clX11 (by decide) rfl fl_RX11_182 dX11_plain_66 (Fx.s83 hF) ft.1 ?_
            refine xq_if_eqN dX11_plain_69 rfl (by omega) ⟨fun h69 => ?_, fun h69 => ?_⟩
            · skip
              exact absurd h69 (by decide)
            · skip
              refine xq_vret dX11_plain_72 rfl ?_
              exact ⟨_, ⟨skf, ft⟩, rfl⟩
          · skip
            exact absurd h44 (by omega)
    · skip
      exact absurd (of_decide_eq_true h14) (by omega)
  · skip
    exact absurd rfl h4
theorem knoF_p : 0 < knoF s n := by unfold knoF; split <;> decide
theorem knoF_l : knoF s n < 100 := by unfold knoF; split <;> decide
theorem numF_p : 0 < numF s n := by unfold numF; split <;> decide
theorem numF_l : numF s n < 100 := by unfold numF; split <;> decide
theorem zP_v {cd : Nat → Nat} {sz : Nat} (h : ¬ knoZ s n cd sz = -1) : kK s n = 39 ∧ fdn cd sz (kV s n) < sz ∧ (knoZ s n cd sz).toNat = fdn cd sz (kV s n) := by
  have h39 := knoZ_k h
  unfold knoZ at h ⊢
  rw [if_pos h39] at h ⊢
  unfold fdz at h ⊢
  by_cases e : fnd (fun j => decide (nI (cd j) = nI (kV s n))) sz < sz
  · rw [if_pos e]; exact ⟨h39, e, rfl⟩
  · rw [if_neg e] at h; exact absurd rfl h
theorem m_pl14a (hF : gFx S) (K : Nat) (hK : 6 * (8 - rxO x) + (64 - rxB x) + 10 ≤ K) (hr : RxP S H bt ln s N x) (hw : RxW x) (hk : kK s (rxN x) = 14) (h64 : ¬ 64 ≤ rxB x) (hz1 : zP s (rxN x + 1) x = -1) : Nv mX11_plain K [.ref 83] S H (fun H2 => mQ S H H2 bt ln s N (.inl (knoF s (rxN x + 1), rxN x + 1))) := by
  have hms := hr.1.ms.1 (show kK s (rxN x) < 28 by omega)
  have hmv : hI H 83 25 = nI 14 := hms.2.trans (by rw [hk])
  have hwn : RxW (nxB x) := hw.nx (by omega)
  have hsz : SzOk (rxX x) := hw.1
  refine vq_intro (by decide) (by exact Nat.le_of_ble_eq_true rfl) rfl ?_
  refine xq_aload_n dX11_plain_0 rfl rfl ?_
  refine xq_getIE (v := nI 0) clX11 (by decide) rfl fl_RX11_182 dX11_plain_1 (Fx.s83 hF) hr.2.2.1 ?_
  refine xq_if_eqN dX11_plain_4 rfl (by omega) ⟨fun h4 => ?_, fun h4 => ?_⟩
  · skip
    refine xq_aload_n dX11_plain_8 rfl rfl ?_
    refine xq_bipush dX11_plain_9 bp40 ?_
    refine xq_callV1P clX11 gd_X11_isSign dX11_plain_11 ml_RX11_241 im_X11_isSign se_X11_isSign rfl (Fx.s83 hF) (by exact Nat.le_of_ble_eq_true rfl) (by omega) (m_isSign (K := 41) hF hr.2.2.1 hr.1 (by decide) (by decide)) ?_
    refine xq_if_eqB dX11_plain_14 rfl ⟨fun h14 => ?_, fun h14 => ?_⟩
    · skip
      refine xq_aload_n dX11_plain_22 rfl rfl ?_
      refine xq_getIE (v := nI 0) clX11 (by decide) rfl fl_RX11_147 dX11_plain_23 (Fx.s83 hF) hms.1 ?_
      refine xq_if_neN dX11_plain_26 rfl (by omega) ⟨fun h26 => ?_, fun h26 => ?_⟩
      · skip
        exact absurd rfl h26
      · skip
        refine xq_aload_n dX11_plain_29 rfl rfl ?_
        refine xq_getIE clX11 (by decide) rfl fl_RX11_157 dX11_plain_30 (Fx.s83 hF) hmv ?_
        refine xq_bipush dX11_plain_33 bp14 ?_
        refine xq_icmp_ltN dX11_plain_35 rfl (by omega) (by omega) ⟨fun h35 => ?_, fun h35 => ?_⟩
        · skip
          exact absurd h35 (by omega)
        · skip
          refine xq_aload_n dX11_plain_38 rfl rfl ?_
          refine xq_getIE clX11 (by decide) rfl fl_RX11_157 dX11_plain_39 (Fx.s83 hF) hmv ?_
          refine xq_bipush dX11_plain_42 bp20 ?_
          refine xq_icmp_leN dX11_plain_44 rfl (by omega) (by omega) ⟨fun h44 => ?_, fun h44 => ?_⟩
          · skip
            refine xq_aload_n dX11_plain_52 rfl rfl ?_
            refine xq_getIE clX11 (by decide) rfl fl_RX11_157 dX11_plain_53 (Fx.s83 hF) hmv ?_
            refine xq_istore_n dX11_plain_56 rfl rfl ?_
            refine xq_aload_n dX11_plain_57 rfl rfl ?_
            refine xq_callV0N clX11 gd_X11_knot dX11_plain_58 ml_RX11_262 im_X11_knot se_X11_knot rfl (Fx.s83 hF) (by exact Nat.le_of_ble_eq_true rfl) (by omega) (m_knot1 hF hr.2.2.1 hr.2.2.2.2 (by omega)) ?_
            intro H58 p58
            subst p58
            have hrk := hr.kn (b := rxB x + 1)
            have skk := (SmK.rf (H := H)).pF (k := 31) (by decide) (nI (rxB x + 1))
            refine xq_aload_n dX11_plain_61 rfl rfl ?_
            refine xq_callV0N clX11 gd_X11_goOn dX11_plain_62 ml_RX11_235 im_X11_goOn se_X11_goOn rfl (Fx.s83 hF) (by exact Nat.le_of_ble_eq_true rfl) (by omega) (m_goOn hrk.2.2.1 hrk.1 (kK_in (show kK s (rxN x) ≠ 44 by omega) hr.1.lx)) ?_
            intro H62 p62
            obtain ⟨g1, g2⟩ := p62
            have hrn : RxP S H62 bt ln s N (nxB x) := hrk.tk g1 g2
            have skn := skk.tr (tok_sk g2)
            refine xq_aload_n dX11_plain_65 rfl rfl ?_
            refine xq_getIE (v := nI 0) clX11 (by decide) rfl fl_RX11_182 dX11_plain_66 (Fx.s83 hF) hrn.2.2.1 ?_
            refine xq_if_eqN dX11_plain_69 rfl (by omega) ⟨fun h69 => ?_, fun h69 => ?_⟩
            · skip
              refine xq_iconst dX11_plain_73 ic0 ?_
              refine xq_istore_n dX11_plain_74 rfl rfl ?_
              refine xq_iload_n dX11_plain_75 rfl rfl ?_
              refine xq_tableIn dX11_plain_76 (by decide) (by decide) rfl rfl ?_
              refine xq_bipush dX11_plain_120 bp8 ?_
              refine xq_aload_n dX11_plain_122 rfl rfl ?_
              refine xq_callV0H clX11 gd_X11_personAtHand dX11_plain_123 ml_RX11_250 im_X11_personAtHand se_X11_personAtHand rfl (Fx.s83 hF) (by exact Nat.le_of_ble_eq_true rfl) (by omega) (m_personAtHand0 hrn.2.1 hsz hrn.2.2.1 hrn.1 hz1) ?_
              intro x123 H123 p123
              obtain ⟨rfl, mf⟩ := p123
              have ft := FtQ.mf mf knoF_p knoF_l hrn.1.js
              have hrn2 := hrn.2.1.off mf.2.2.1 (fun q h1 h2 z => by omega)
              have skf := skn.tr (MfQ.sk mf)
              have fa := ft.1; have fb := ft.2.2.1; have fc := ft.2.2.2.1
              refine xq_imulN dX11_plain_126 ?_
              refine xq_istore_n dX11_plain_127 rfl rfl ?_
              refine xq_aload_n dX11_plain_128 rfl rfl ?_
              refine xq_callV0N clX11 gd_X11_goOn dX11_plain_129 ml_RX11_235 im_X11_goOn se_X11_goOn rfl (Fx.s83 hF) (by exact Nat.le_of_ble_eq_true rfl) (by omega) (m_goOn1 hF fa fb fc) ?_
              intro H129 p129
              subst p129
              refine xq_iload_n dX11_plain_132 rfl rfl ?_
              refine xq_aload_n dX11_plain_133 rfl rfl ?_
              refine xq_callV0P clX11 gd_X11_colourAtHand dX11_plain_134 ml_RX11_247 im_X11_colourAtHand se_X11_colourAtHand rfl (Fx.s83 hF) (by exact Nat.le_of_ble_eq_true rfl) (by omega) (m_colourAtHandF hrn2 hF fa fb fc) ?_
              refine xq_iaddN dX11_plain_137 ?_
              refine xq_istore_n dX11_plain_138 rfl rfl ?_
              refine xq_aload_n dX11_plain_139 rfl rfl ?_
              refine xq_callV0N clX11 gd_X11_goOn dX11_plain_140 ml_RX11_235 im_X11_goOn se_X11_goOn rfl (Fx.s83 hF) (by exact Nat.le_of_ble_eq_true rfl) (by omega) (m_goOn1 hF fa fb fc) ?_
              intro H140 p140
              subst p140
              refine xq_goto dX11_plain_143 rfl ?_
              refine xq_aload_n dX11_plain_215 rfl rfl ?_
              refine xq_iconst dX11_plain_216 ic3 ?_
              refine xq_iload_n dX11_plain_217 rfl rfl ?_
              refine xq_iaddN dX11_plain_218 ?_
              refine xq_bipush dX11_plain_219 bp14 ?_
              refine xq_isubN dX11_plain_221 (by omega) ?_
              refine xq_iload_n dX11_plain_222 rfl rfl ?_
              refine xq_callV2N clX11 gd_X11_puts dX11_plain_223 ml_RX11_265 im_X11_puts se_X11_puts rfl (Fx.s83 hF) (by exact Nat.le_of_ble_eq_true rfl) (by omega) (m_putsF hF fa fb fc) ?_
              intro H223 p223
              subst p223
              refine xq_vret dX11_plain_226 rfl ?_
              exact ⟨_, ⟨skf, ft⟩, rfl⟩
            · skip
              exact absurd rfl h69
          · skip
            exact absurd h44 (by omega)
    · skip
      exact absurd (of_decide_eq_true h14) (by omega)
  · skip
    exact absurd rfl h4
theorem m_pl14b (hF : gFx S) (K : Nat) (hK : 6 * (8 - rxO x) + (64 - rxB x) + 10 ≤ K) (hr : RxP S H bt ln s N x) (hw : RxW x) (hk : kK s (rxN x) = 14) (h64 : ¬ 64 ≤ rxB x) (hz1 : ¬ zP s (rxN x + 1) x = -1) (hz2 : zC s (rxN x + 2) x = -1) : Nv mX11_plain K [.ref 83] S H (fun H2 => mQ S H H2 bt ln s N (.inl (knoF s (rxN x + 2), rxN x + 2))) := by
  have hms := hr.1.ms.1 (show kK s (rxN x) < 28 by omega)
  have hmv : hI H 83 25 = nI 14 := hms.2.trans (by rw [hk])
  have hwn : RxW (nxB x) := hw.nx (by omega)
  have hsz : SzOk (rxX x) := hw.1
  have zv1 := zP_v (s := s) (n := rxN x + 1) (cd := tPn (rxX x)) (sz := tNp (rxX x)) hz1
  obtain ⟨e39_1, hv1, ev1⟩ := zv1
  obtain ⟨s1, s2, s3, s4, s5, s6⟩ := id hsz
  refine vq_intro (by decide) (by exact Nat.le_of_ble_eq_true rfl) rfl ?_
  refine xq_aload_n dX11_plain_0 rfl rfl ?_
  refine xq_getIE (v := nI 0) clX11 (by decide) rfl fl_RX11_182 dX11_plain_1 (Fx.s83 hF) hr.2.2.1 ?_
  refine xq_if_eqN dX11_plain_4 rfl (by omega) ⟨fun h4 => ?_, fun h4 => ?_⟩
  · skip
    refine xq_aload_n dX11_plain_8 rfl rfl ?_
    refine xq_bipush dX11_plain_9 bp40 ?_
    refine xq_callV1P clX11 gd_X11_isSign dX11_plain_11 ml_RX11_241 im_X11_isSign se_X11_isSign rfl (Fx.s83 hF) (by exact Nat.le_of_ble_eq_true rfl) (by omega) (m_isSign (K := 41) hF hr.2.2.1 hr.1 (by decide) (by decide)) ?_
    refine xq_if_eqB dX11_plain_14 rfl ⟨fun h14 => ?_, fun h14 => ?_⟩
    · skip
      refine xq_aload_n dX11_plain_22 rfl rfl ?_
      refine xq_getIE (v := nI 0) clX11 (by decide) rfl fl_RX11_147 dX11_plain_23 (Fx.s83 hF) hms.1 ?_
      refine xq_if_neN dX11_plain_26 rfl (by omega) ⟨fun h26 => ?_, fun h26 => ?_⟩
      · skip
        exact absurd rfl h26
      · skip
        refine xq_aload_n dX11_plain_29 rfl rfl ?_
        refine xq_getIE clX11 (by decide) rfl fl_RX11_157 dX11_plain_30 (Fx.s83 hF) hmv ?_
        refine xq_bipush dX11_plain_33 bp14 ?_
        refine xq_icmp_ltN dX11_plain_35 rfl (by omega) (by omega) ⟨fun h35 => ?_, fun h35 => ?_⟩
        · skip
          exact absurd h35 (by omega)
        · skip
          refine xq_aload_n dX11_plain_38 rfl rfl ?_
          refine xq_getIE clX11 (by decide) rfl fl_RX11_157 dX11_plain_39 (Fx.s83 hF) hmv ?_
          refine xq_bipush dX11_plain_42 bp20 ?_
          refine xq_icmp_leN dX11_plain_44 rfl (by omega) (by omega) ⟨fun h44 => ?_, fun h44 => ?_⟩
          · skip
            refine xq_aload_n dX11_plain_52 rfl rfl ?_
            refine xq_getIE clX11 (by decide) rfl fl_RX11_157 dX11_plain_53 (Fx.s83 hF) hmv ?_
            refine xq_istore_n dX11_plain_56 rfl rfl ?_
            refine xq_aload_n dX11_plain_57 rfl rfl ?_
            refine xq_callV0N clX11 gd_X11_knot dX11_plain_58 ml_RX11_262 im_X11_knot se_X11_knot rfl (Fx.s83 hF) (by exact Nat.le_of_ble_eq_true rfl) (by omega) (m_knot1 hF hr.2.2.1 hr.2.2.2.2 (by omega)) ?_
            intro H58 p58
            subst p58
            have hrk := hr.kn (b := rxB x + 1)
            have skk := (SmK.rf (H := H)).pF (k := 31) (by decide) (nI (rxB x + 1))
            refine xq_aload_n dX11_plain_61 rfl rfl ?_
            refine xq_callV0N clX11 gd_X11_goOn dX11_plain_62 ml_RX11_235 im_X11_goOn se_X11_goOn rfl (Fx.s83 hF) (by exact Nat.le_of_ble_eq_true rfl) (by omega) (m_goOn hrk.2.2.1 hrk.1 (kK_in (show kK s (rxN x) ≠ 44 by omega) hr.1.lx)) ?_
            intro H62 p62
            obtain ⟨g1, g2⟩ := p62
            have hrn : RxP S H62 bt ln s N (nxB x) := hrk.tk g1 g2
            have skn := skk.tr (tok_sk g2)
            refine xq_aload_n dX11_plain_65 rfl rfl ?_
            refine xq_getIE (v := nI 0) clX11 (by decide) rfl fl_RX11_182 dX11_plain_66 (Fx.s83 hF) hrn.2.2.1 ?_
            refine xq_if_eqN dX11_plain_69 rfl (by omega) ⟨fun h69 => ?_, fun h69 => ?_⟩
            · skip
              refine xq_iconst dX11_plain_73 ic0 ?_
              refine xq_istore_n dX11_plain_74 rfl rfl ?_
              refine xq_iload_n dX11_plain_75 rfl rfl ?_
              refine xq_tableIn dX11_plain_76 (by decide) (by decide) rfl rfl ?_
              refine xq_bipush dX11_plain_120 bp8 ?_
              refine xq_aload_n dX11_plain_122 rfl rfl ?_
              refine xq_callV0P clX11 gd_X11_personAtHand dX11_plain_123 ml_RX11_250 im_X11_personAtHand se_X11_personAtHand rfl (Fx.s83 hF) (by exact Nat.le_of_ble_eq_true rfl) (by omega) (m_personAtHand1 hrn.2.1 hsz hrn.2.2.1 hrn.1 e39_1 hv1) ?_
              refine xq_imulN dX11_plain_126 ?_
              refine xq_istore_n dX11_plain_127 rfl rfl ?_
              refine xq_aload_n dX11_plain_128 rfl rfl ?_
              refine xq_callV0N clX11 gd_X11_goOn dX11_plain_129 ml_RX11_235 im_X11_goOn se_X11_goOn rfl (Fx.s83 hF) (by exact Nat.le_of_ble_eq_true rfl) (by omega) (m_goOn hrn.2.2.1 hrn.1 (kK_in (ne39 e39_1) hrn.1.lx)) ?_
              intro H129 p129
              obtain ⟨g1_129, g2_129⟩ := p129
              have hra := hrn.tk g1_129 g2_129
              have ska := skn.tr (tok_sk g2_129)
              refine xq_iload_n dX11_plain_132 rfl rfl ?_
              refine xq_aload_n dX11_plain_133 rfl rfl ?_
              refine xq_callV0H clX11 gd_X11_colourAtHand dX11_plain_134 ml_RX11_247 im_X11_colourAtHand se_X11_colourAtHand rfl (Fx.s83 hF) (by exact Nat.le_of_ble_eq_true rfl) (by omega) (m_colourAtHand0 hra.2.1 hsz hra.2.2.1 hra.1 hz2) ?_
              intro x134 H134 p134
              obtain ⟨rfl, mf⟩ := p134
              have ft := FtQ.mf mf knoF_p knoF_l hra.1.js
              have skf := ska.tr (MfQ.sk mf)
              have fa := ft.1; have fb := ft.2.2.1; have fc := ft.2.2.2.1
              refine xq_iaddN dX11_plain_137 ?_
              refine xq_istore_n dX11_plain_138 rfl rfl ?_
              refine xq_aload_n dX11_plain_139 rfl rfl ?_
              refine xq_callV0N clX11 gd_X11_goOn dX11_plain_140 ml_RX11_235 im_X11_goOn se_X11_goOn rfl (Fx.s83 hF) (by exact Nat.le_of_ble_eq_true rfl) (by omega) (m_goOn1 hF fa fb fc) ?_
              intro H140 p140
              subst p140
              refine xq_goto dX11_plain_143 rfl ?_
              refine xq_aload_n dX11_plain_215 rfl rfl ?_
              refine xq_iconst dX11_plain_216 ic3 ?_
              refine xq_iload_n dX11_plain_217 rfl rfl ?_
              refine xq_iaddN dX11_plain_218 ?_
              refine xq_bipush dX11_plain_219 bp14 ?_
              refine xq_isubN dX11_plain_221 (by omega) ?_
              refine xq_iload_n dX11_plain_222 rfl rfl ?_
              refine xq_callV2N clX11 gd_X11_puts dX11_plain_223 ml_RX11_265 im_X11_puts se_X11_puts rfl (Fx.s83 hF) (by exact Nat.le_of_ble_eq_true rfl) (by omega) (m_putsF hF fa fb fc) ?_
              intro H223 p223
              subst p223
              refine xq_vret dX11_plain_226 rfl ?_
              exact ⟨_, ⟨skf, ft⟩, rfl⟩
            · skip
              exact absurd rfl h69
          · skip
            exact absurd h44 (by omega)
    · skip
      exact absurd (of_decide_eq_true h14) (by omega)
  · skip
    exact absurd rfl h4
theorem m_pl14c (hF : gFx S) (K : Nat) (hK : 6 * (8 - rxO x) + (64 - rxB x) + 10 ≤ K) (hr : RxP S H bt ln s N x) (hw : RxW x) (hk : kK s (rxN x) = 14) (h64 : ¬ 64 ≤ rxB x) (hz1 : ¬ zP s (rxN x + 1) x = -1) (hz2 : ¬ zC s (rxN x + 2) x = -1) : Nv mX11_plain K [.ref 83] S H (fun H2 => mQ S H H2 bt ln s N (.inr (kpR 14 (zP s (rxN x + 1) x).toNat (zC s (rxN x + 2) x).toNat (rxN x + 3) x))) := by
  have hms := hr.1.ms.1 (show kK s (rxN x) < 28 by omega)
  have hmv : hI H 83 25 = nI 14 := hms.2.trans (by rw [hk])
  have hwn : RxW (nxB x) := hw.nx (by omega)
  have hsz : SzOk (rxX x) := hw.1
  have zv1 := zP_v (s := s) (n := rxN x + 1) (cd := tPn (rxX x)) (sz := tNp (rxX x)) hz1
  obtain ⟨e39_1, hv1, ev1⟩ := zv1
  obtain ⟨s1, s2, s3, s4, s5, s6⟩ := id hsz
  have zv2 := zP_v (s := s) (n := rxN x + 2) (cd := tCn (rxX x)) (sz := tNc (rxX x)) hz2
  obtain ⟨e39_2, hv2, ev2⟩ := zv2
  obtain ⟨s1, s2, s3, s4, s5, s6⟩ := id hsz
  refine vq_intro (by decide) (by exact Nat.le_of_ble_eq_true rfl) rfl ?_
  refine xq_aload_n dX11_plain_0 rfl rfl ?_
  refine xq_getIE (v := nI 0) clX11 (by decide) rfl fl_RX11_182 dX11_plain_1 (Fx.s83 hF) hr.2.2.1 ?_
  refine xq_if_eqN dX11_plain_4 rfl (by omega) ⟨fun h4 => ?_, fun h4 => ?_⟩
  · skip
    refine xq_aload_n dX11_plain_8 rfl rfl ?_
    refine xq_bipush dX11_plain_9 bp40 ?_
    refine xq_callV1P clX11 gd_X11_isSign dX11_plain_11 ml_RX11_241 im_X11_isSign se_X11_isSign rfl (Fx.s83 hF) (by exact Nat.le_of_ble_eq_true rfl) (by omega) (m_isSign (K := 41) hF hr.2.2.1 hr.1 (by decide) (by decide)) ?_
    refine xq_if_eqB dX11_plain_14 rfl ⟨fun h14 => ?_, fun h14 => ?_⟩
    · skip
      refine xq_aload_n dX11_plain_22 rfl rfl ?_
      refine xq_getIE (v := nI 0) clX11 (by decide) rfl fl_RX11_147 dX11_plain_23 (Fx.s83 hF) hms.1 ?_
      refine xq_if_neN dX11_plain_26 rfl (by omega) ⟨fun h26 => ?_, fun h26 => ?_⟩
      · skip
        exact absurd rfl h26
      · skip
        refine xq_aload_n dX11_plain_29 rfl rfl ?_
        refine xq_getIE clX11 (by decide) rfl fl_RX11_157 dX11_plain_30 (Fx.s83 hF) hmv ?_
        refine xq_bipush dX11_plain_33 bp14 ?_
        refine xq_icmp_ltN dX11_plain_35 rfl (by omega) (by omega) ⟨fun h35 => ?_, fun h35 => ?_⟩
        · skip
          exact absurd h35 (by omega)
        · skip
          refine xq_aload_n dX11_plain_38 rfl rfl ?_
          refine xq_getIE clX11 (by decide) rfl fl_RX11_157 dX11_plain_39 (Fx.s83 hF) hmv ?_
          refine xq_bipush dX11_plain_42 bp20 ?_
          refine xq_icmp_leN dX11_plain_44 rfl (by omega) (by omega) ⟨fun h44 => ?_, fun h44 => ?_⟩
          · skip
            refine xq_aload_n dX11_plain_52 rfl rfl ?_
            refine xq_getIE clX11 (by decide) rfl fl_RX11_157 dX11_plain_53 (Fx.s83 hF) hmv ?_
            refine xq_istore_n dX11_plain_56 rfl rfl ?_
            refine xq_aload_n dX11_plain_57 rfl rfl ?_
            refine xq_callV0N clX11 gd_X11_knot dX11_plain_58 ml_RX11_262 im_X11_knot se_X11_knot rfl (Fx.s83 hF) (by exact Nat.le_of_ble_eq_true rfl) (by omega) (m_knot1 hF hr.2.2.1 hr.2.2.2.2 (by omega)) ?_
            intro H58 p58
            subst p58
            have hrk := hr.kn (b := rxB x + 1)
            have skk := (SmK.rf (H := H)).pF (k := 31) (by decide) (nI (rxB x + 1))
            refine xq_aload_n dX11_plain_61 rfl rfl ?_
            refine xq_callV0N clX11 gd_X11_goOn dX11_plain_62 ml_RX11_235 im_X11_goOn se_X11_goOn rfl (Fx.s83 hF) (by exact Nat.le_of_ble_eq_true rfl) (by omega) (m_goOn hrk.2.2.1 hrk.1 (kK_in (show kK s (rxN x) ≠ 44 by omega) hr.1.lx)) ?_
            intro H62 p62
            obtain ⟨g1, g2⟩ := p62
            have hrn : RxP S H62 bt ln s N (nxB x) := hrk.tk g1 g2
            have skn := skk.tr (tok_sk g2)
            refine xq_aload_n dX11_plain_65 rfl rfl ?_
            refine xq_getIE (v := nI 0) clX11 (by decide) rfl fl_RX11_182 dX11_plain_66 (Fx.s83 hF) hrn.2.2.1 ?_
            refine xq_if_eqN dX11_plain_69 rfl (by omega) ⟨fun h69 => ?_, fun h69 => ?_⟩
            · skip
              refine xq_iconst dX11_plain_73 ic0 ?_
              refine xq_istore_n dX11_plain_74 rfl rfl ?_
              refine xq_iload_n dX11_plain_75 rfl rfl ?_
              refine xq_tableIn dX11_plain_76 (by decide) (by decide) rfl rfl ?_
              refine xq_bipush dX11_plain_120 bp8 ?_
              refine xq_aload_n dX11_plain_122 rfl rfl ?_
              refine xq_callV0P clX11 gd_X11_personAtHand dX11_plain_123 ml_RX11_250 im_X11_personAtHand se_X11_personAtHand rfl (Fx.s83 hF) (by exact Nat.le_of_ble_eq_true rfl) (by omega) (m_personAtHand1 hrn.2.1 hsz hrn.2.2.1 hrn.1 e39_1 hv1) ?_
              refine xq_imulN dX11_plain_126 ?_
              refine xq_istore_n dX11_plain_127 rfl rfl ?_
              refine xq_aload_n dX11_plain_128 rfl rfl ?_
              refine xq_callV0N clX11 gd_X11_goOn dX11_plain_129 ml_RX11_235 im_X11_goOn se_X11_goOn rfl (Fx.s83 hF) (by exact Nat.le_of_ble_eq_true rfl) (by omega) (m_goOn hrn.2.2.1 hrn.1 (kK_in (ne39 e39_1) hrn.1.lx)) ?_
              intro H129 p129
              obtain ⟨g1_129, g2_129⟩ := p129
              have hra := hrn.tk g1_129 g2_129
              have ska := skn.tr (tok_sk g2_129)
              refine xq_iload_n dX11_plain_132 rfl rfl ?_
              refine xq_aload_n dX11_plain_133 rfl rfl ?_
              refine xq_callV0P clX11 gd_X11_colourAtHand dX11_plain_134 ml_RX11_247 im_X11_colourAtHand se_X11_colourAtHand rfl (Fx.s83 hF) (by exact Nat.le_of_ble_eq_true rfl) (by omega) (m_colourAtHand1 hra.2.1 hsz hra.2.2.1 hra.1 e39_2 hv2) ?_
              refine xq_iaddN dX11_plain_137 ?_
              refine xq_istore_n dX11_plain_138 rfl rfl ?_
              refine xq_aload_n dX11_plain_139 rfl rfl ?_
              refine xq_callV0N clX11 gd_X11_goOn dX11_plain_140 ml_RX11_235 im_X11_goOn se_X11_goOn rfl (Fx.s83 hF) (by exact Nat.le_of_ble_eq_true rfl) (by omega) (m_goOn hra.2.2.1 hra.1 (kK_in (ne39 e39_2) hra.1.lx)) ?_
              intro H140 p140
              obtain ⟨g1_140, g2_140⟩ := p140
              have hrb := hra.tk g1_140 g2_140
              have skb := ska.tr (tok_sk g2_140)
              refine xq_goto dX11_plain_143 rfl ?_
              refine xq_aload_n dX11_plain_215 rfl rfl ?_
              refine xq_iconst dX11_plain_216 ic3 ?_
              refine xq_iload_n dX11_plain_217 rfl rfl ?_
              refine xq_iaddN dX11_plain_218 ?_
              refine xq_bipush dX11_plain_219 bp14 ?_
              refine xq_isubN dX11_plain_221 (by omega) ?_
              refine xq_iload_n dX11_plain_222 rfl rfl ?_
              refine xq_callV2N clX11 gd_X11_puts dX11_plain_223 ml_RX11_265 im_X11_puts se_X11_puts rfl (Fx.s83 hF) (by exact Nat.le_of_ble_eq_true rfl) (by omega) (m_puts hF hrb.2.2.1 hrb.nk (show tNk (rxX x) < 64 by have := hw.2.2.2; omega)) ?_
              intro H223 p223
              subst p223
              have hput := hrb.pt (k := 14) (a := (fdn (tPn (rxX x)) (tNp (rxX x)) (kV s (rxN x + 1)))) (b := (fdn (tCn (rxX x)) (tNc (rxX x)) (kV s (rxN x + 2)))) (w := oB (rxW x) (tNk (rxX x))) (show tNk (rxX x) < 64 by have := hw.2.2.2; omega)
              have skp := SmK.pt (n := tNk (rxX x)) (its := mks 14) (v := mkv 14 (fdn (tPn (rxX x)) (tNp (rxX x)) (kV s (rxN x + 1))) (fdn (tCn (rxX x)) (tNc (rxX x)) (kV s (rxN x + 2)))) skb
              refine xq_vret dX11_plain_226 rfl ?_
              rw [show (zP s (rxN x + 1) x).toNat = _ from ev1, show (zC s (rxN x + 2) x).toNat = _ from ev2]
              exact ⟨_, ⟨skp, hput⟩, rfl⟩
            · skip
              exact absurd rfl h69
          · skip
            exact absurd h44 (by omega)
    · skip
      exact absurd (of_decide_eq_true h14) (by omega)
  · skip
    exact absurd rfl h4
theorem m_pl15a (hF : gFx S) (K : Nat) (hK : 6 * (8 - rxO x) + (64 - rxB x) + 10 ≤ K) (hr : RxP S H bt ln s N x) (hw : RxW x) (hk : kK s (rxN x) = 15) (h64 : ¬ 64 ≤ rxB x) (hz1 : zP s (rxN x + 1) x = -1) : Nv mX11_plain K [.ref 83] S H (fun H2 => mQ S H H2 bt ln s N (.inl (knoF s (rxN x + 1), rxN x + 1))) := by
  have hms := hr.1.ms.1 (show kK s (rxN x) < 28 by omega)
  have hmv : hI H 83 25 = nI 15 := hms.2.trans (by rw [hk])
  have hwn : RxW (nxB x) := hw.nx (by omega)
  have hsz : SzOk (rxX x) := hw.1
  refine vq_intro (by decide) (by exact Nat.le_of_ble_eq_true rfl) rfl ?_
  refine xq_aload_n dX11_plain_0 rfl rfl ?_
  refine xq_getIE (v := nI 0) clX11 (by decide) rfl fl_RX11_182 dX11_plain_1 (Fx.s83 hF) hr.2.2.1 ?_
  refine xq_if_eqN dX11_plain_4 rfl (by omega) ⟨fun h4 => ?_, fun h4 => ?_⟩
  · skip
    refine xq_aload_n dX11_plain_8 rfl rfl ?_
    refine xq_bipush dX11_plain_9 bp40 ?_
    refine xq_callV1P clX11 gd_X11_isSign dX11_plain_11 ml_RX11_241 im_X11_isSign se_X11_isSign rfl (Fx.s83 hF) (by exact Nat.le_of_ble_eq_true rfl) (by omega) (m_isSign (K := 41) hF hr.2.2.1 hr.1 (by decide) (by decide)) ?_
    refine xq_if_eqB dX11_plain_14 rfl ⟨fun h14 => ?_, fun h14 => ?_⟩
    · skip
      refine xq_aload_n dX11_plain_22 rfl rfl ?_
      refine xq_getIE (v := nI 0) clX11 (by decide) rfl fl_RX11_147 dX11_plain_23 (Fx.s83 hF) hms.1 ?_
      refine xq_if_neN dX11_plain_26 rfl (by omega) ⟨fun h26 => ?_, fun h26 => ?_⟩
      · skip
        exact absurd rfl h26
      · skip
        refine xq_aload_n dX11_plain_29 rfl rfl ?_
        refine xq_getIE clX11 (by decide) rfl fl_RX11_157 dX11_plain_30 (Fx.s83 hF) hmv ?_
        refine xq_bipush dX11_plain_33 bp14 ?_
        refine xq_icmp_ltN dX11_plain_35 rfl (by omega) (by omega) ⟨fun h35 => ?_, fun h35 => ?_⟩
        · skip
          exact absurd h35 (by omega)
        · skip
          refine xq_aload_n dX11_plain_38 rfl rfl ?_
          refine xq_getIE clX11 (by decide) rfl fl_RX11_157 dX11_plain_39 (Fx.s83 hF) hmv ?_
          refine xq_bipush dX11_plain_42 bp20 ?_
          refine xq_icmp_leN dX11_plain_44 rfl (by omega) (by omega) ⟨fun h44 => ?_, fun h44 => ?_⟩
          · skip
            refine xq_aload_n dX11_plain_52 rfl rfl ?_
            refine xq_getIE clX11 (by decide) rfl fl_RX11_157 dX11_plain_53 (Fx.s83 hF) hmv ?_
            refine xq_istore_n dX11_plain_56 rfl rfl ?_
            refine xq_aload_n dX11_plain_57 rfl rfl ?_
            refine xq_callV0N clX11 gd_X11_knot dX11_plain_58 ml_RX11_262 im_X11_knot se_X11_knot rfl (Fx.s83 hF) (by exact Nat.le_of_ble_eq_true rfl) (by omega) (m_knot1 hF hr.2.2.1 hr.2.2.2.2 (by omega)) ?_
            intro H58 p58
            subst p58
            have hrk := hr.kn (b := rxB x + 1)
            have skk := (SmK.rf (H := H)).pF (k := 31) (by decide) (nI (rxB x + 1))
            refine xq_aload_n dX11_plain_61 rfl rfl ?_
            refine xq_callV0N clX11 gd_X11_goOn dX11_plain_62 ml_RX11_235 im_X11_goOn se_X11_goOn rfl (Fx.s83 hF) (by exact Nat.le_of_ble_eq_true rfl) (by omega) (m_goOn hrk.2.2.1 hrk.1 (kK_in (show kK s (rxN x) ≠ 44 by omega) hr.1.lx)) ?_
            intro H62 p62
            obtain ⟨g1, g2⟩ := p62
            have hrn : RxP S H62 bt ln s N (nxB x) := hrk.tk g1 g2
            have skn := skk.tr (tok_sk g2)
            refine xq_aload_n dX11_plain_65 rfl rfl ?_
            refine xq_getIE (v := nI 0) clX11 (by decide) rfl fl_RX11_182 dX11_plain_66 (Fx.s83 hF) hrn.2.2.1 ?_
            refine xq_if_eqN dX11_plain_69 rfl (by omega) ⟨fun h69 => ?_, fun h69 => ?_⟩
            · skip
              refine xq_iconst dX11_plain_73 ic0 ?_
              refine xq_istore_n dX11_plain_74 rfl rfl ?_
              refine xq_iload_n dX11_plain_75 rfl rfl ?_
              refine xq_tableIn dX11_plain_76 (by decide) (by decide) rfl rfl ?_
              refine xq_aload_n dX11_plain_146 rfl rfl ?_
              refine xq_callV0H clX11 gd_X11_personAtHand dX11_plain_147 ml_RX11_250 im_X11_personAtHand se_X11_personAtHand rfl (Fx.s83 hF) (by exact Nat.le_of_ble_eq_true rfl) (by omega) (m_personAtHand0 hrn.2.1 hsz hrn.2.2.1 hrn.1 hz1) ?_
              intro x147 H147 p147
              obtain ⟨rfl, mf⟩ := p147
              have ft := FtQ.mf mf knoF_p knoF_l hrn.1.js
              have skf := skn.tr (MfQ.sk mf)
              have fa := ft.1; have fb := ft.2.2.1; have fc := ft.2.2.2.1
              refine xq_istore_n dX11_plain_150 rfl rfl ?_
              refine xq_aload_n dX11_plain_151 rfl rfl ?_
              refine xq_callV0N clX11 gd_X11_goOn dX11_plain_152 ml_RX11_235 im_X11_goOn se_X11_goOn rfl (Fx.s83 hF) (by exact Nat.le_of_ble_eq_true rfl) (by omega) (m_goOn1 hF fa fb fc) ?_
              intro H152 p152
              subst p152
              refine xq_goto dX11_plain_155 rfl ?_
              refine xq_aload_n dX11_plain_215 rfl rfl ?_
              refine xq_iconst dX11_plain_216 ic3 ?_
              refine xq_iload_n dX11_plain_217 rfl rfl ?_
              refine xq_iaddN dX11_plain_218 ?_
              refine xq_bipush dX11_plain_219 bp14 ?_
              refine xq_isubN dX11_plain_221 (by omega) ?_
              refine xq_iload_n dX11_plain_222 rfl rfl ?_
              refine xq_callV2N clX11 gd_X11_puts dX11_plain_223 ml_RX11_265 im_X11_puts se_X11_puts rfl (Fx.s83 hF) (by exact Nat.le_of_ble_eq_true rfl) (by omega) (m_putsF hF fa fb fc) ?_
              intro H223 p223
              subst p223
              refine xq_vret dX11_plain_226 rfl ?_
              exact ⟨_, ⟨skf, ft⟩, rfl⟩
            · skip
              exact absurd rfl h69
          · skip
            exact absurd h44 (by omega)
    · skip
      exact absurd (of_decide_eq_true h14) (by omega)
  · skip
    exact absurd rfl h4
theorem m_pl15b (hF : gFx S) (K : Nat) (hK : 6 * (8 - rxO x) + (64 - rxB x) + 10 ≤ K) (hr : RxP S H bt ln s N x) (hw : RxW x) (hk : kK s (rxN x) = 15) (h64 : ¬ 64 ≤ rxB x) (hz1 : ¬ zP s (rxN x + 1) x = -1) : Nv mX11_plain K [.ref 83] S H (fun H2 => mQ S H H2 bt ln s N (.inr (kpR 15 (zP s (rxN x + 1) x).toNat 0 (rxN x + 2) x))) := by
  have hms := hr.1.ms.1 (show kK s (rxN x) < 28 by omega)
  have hmv : hI H 83 25 = nI 15 := hms.2.trans (by rw [hk])
  have hwn : RxW (nxB x) := hw.nx (by omega)
  have hsz : SzOk (rxX x) := hw.1
  have zv1 := zP_v (s := s) (n := rxN x + 1) (cd := tPn (rxX x)) (sz := tNp (rxX x)) hz1
  obtain ⟨e39_1, hv1, ev1⟩ := zv1
  obtain ⟨s1, s2, s3, s4, s5, s6⟩ := id hsz
  refine vq_intro (by decide) (by exact Nat.le_of_ble_eq_true rfl) rfl ?_
  refine xq_aload_n dX11_plain_0 rfl rfl ?_
  refine xq_getIE (v := nI 0) clX11 (by decide) rfl fl_RX11_182 dX11_plain_1 (Fx.s83 hF) hr.2.2.1 ?_
  refine xq_if_eqN dX11_plain_4 rfl (by omega) ⟨fun h4 => ?_, fun h4 => ?_⟩
  · skip
    refine xq_aload_n dX11_plain_8 rfl rfl ?_
    refine xq_bipush dX11_plain_9 bp40 ?_
    refine xq_callV1P clX11 gd_X11_isSign dX11_plain_11 ml_RX11_241 im_X11_isSign se_X11_isSign rfl (Fx.s83 hF) (by exact Nat.le_of_ble_eq_true rfl) (by omega) (m_isSign (K := 41) hF hr.2.2.1 hr.1 (by decide) (by decide)) ?_
    refine xq_if_eqB dX11_plain_14 rfl ⟨fun h14 => ?_, fun h14 => ?_⟩
    · skip
      refine xq_aload_n dX11_plain_22 rfl rfl ?_
      refine xq_getIE (v := nI 0) clX11 (by decide) rfl fl_RX11_147 dX11_plain_23 (Fx.s83 hF) hms.1 ?_
      refine xq_if_neN dX11_plain_26 rfl (by omega) ⟨fun h26 => ?_, fun h26 => ?_⟩
      · skip
        exact absurd rfl h26
      · skip
        refine xq_aload_n dX11_plain_29 rfl rfl ?_
        refine xq_getIE clX11 (by decide) rfl fl_RX11_157 dX11_plain_30 (Fx.s83 hF) hmv ?_
        refine xq_bipush dX11_plain_33 bp14 ?_
        refine xq_icmp_ltN dX11_plain_35 rfl (by omega) (by omega) ⟨fun h35 => ?_, fun h35 => ?_⟩
        · skip
          exact absurd h35 (by omega)
        · skip
          refine xq_aload_n dX11_plain_38 rfl rfl ?_
          refine xq_getIE clX11 (by decide) rfl fl_RX11_157 dX11_plain_39 (Fx.s83 hF) hmv ?_
          refine xq_bipush dX11_plain_42 bp20 ?_
          refine xq_icmp_leN dX11_plain_44 rfl (by omega) (by omega) ⟨fun h44 => ?_, fun h44 => ?_⟩
          · skip
            refine xq_aload_n dX11_plain_52 rfl rfl ?_
            refine xq_getIE clX11 (by decide) rfl fl_RX11_157 dX11_plain_53 (Fx.s83 hF) hmv ?_
            refine xq_istore_n dX11_plain_56 rfl rfl ?_
            refine xq_aload_n dX11_plain_57 rfl rfl ?_
            refine xq_callV0N clX11 gd_X11_knot dX11_plain_58 ml_RX11_262 im_X11_knot se_X11_knot rfl (Fx.s83 hF) (by exact Nat.le_of_ble_eq_true rfl) (by omega) (m_knot1 hF hr.2.2.1 hr.2.2.2.2 (by omega)) ?_
            intro H58 p58
            subst p58
            have hrk := hr.kn (b := rxB x + 1)
            have skk := (SmK.rf (H := H)).pF (k := 31) (by decide) (nI (rxB x + 1))
            refine xq_aload_n dX11_plain_61 rfl rfl ?_
            refine xq_callV0N clX11 gd_X11_goOn dX11_plain_62 ml_RX11_235 im_X11_goOn se_X11_goOn rfl (Fx.s83 hF) (by exact Nat.le_of_ble_eq_true rfl) (by omega) (m_goOn hrk.2.2.1 hrk.1 (kK_in (show kK s (rxN x) ≠ 44 by omega) hr.1.lx)) ?_
            intro H62 p62
            obtain ⟨g1, g2⟩ := p62
            have hrn : RxP S H62 bt ln s N (nxB x) := hrk.tk g1 g2
            have skn := skk.tr (tok_sk g2)
            refine xq_aload_n dX11_plain_65 rfl rfl ?_
            refine xq_getIE (v := nI 0) clX11 (by decide) rfl fl_RX11_182 dX11_plain_66 (Fx.s83 hF) hrn.2.2.1 ?_
            refine xq_if_eqN dX11_plain_69 rfl (by omega) ⟨fun h69 => ?_, fun h69 => ?_⟩
            · skip
              refine xq_iconst dX11_plain_73 ic0 ?_
              refine xq_istore_n dX11_plain_74 rfl rfl ?_
              refine xq_iload_n dX11_plain_75 rfl rfl ?_
              refine xq_tableIn dX11_plain_76 (by decide) (by decide) rfl rfl ?_
              refine xq_aload_n dX11_plain_146 rfl rfl ?_
              refine xq_callV0P clX11 gd_X11_personAtHand dX11_plain_147 ml_RX11_250 im_X11_personAtHand se_X11_personAtHand rfl (Fx.s83 hF) (by exact Nat.le_of_ble_eq_true rfl) (by omega) (m_personAtHand1 hrn.2.1 hsz hrn.2.2.1 hrn.1 e39_1 hv1) ?_
              refine xq_istore_n dX11_plain_150 rfl rfl ?_
              refine xq_aload_n dX11_plain_151 rfl rfl ?_
              refine xq_callV0N clX11 gd_X11_goOn dX11_plain_152 ml_RX11_235 im_X11_goOn se_X11_goOn rfl (Fx.s83 hF) (by exact Nat.le_of_ble_eq_true rfl) (by omega) (m_goOn hrn.2.2.1 hrn.1 (kK_in (ne39 e39_1) hrn.1.lx)) ?_
              intro H152 p152
              obtain ⟨g1_152, g2_152⟩ := p152
              have hra := hrn.tk g1_152 g2_152
              have ska := skn.tr (tok_sk g2_152)
              refine xq_goto dX11_plain_155 rfl ?_
              refine xq_aload_n dX11_plain_215 rfl rfl ?_
              refine xq_iconst dX11_plain_216 ic3 ?_
              refine xq_iload_n dX11_plain_217 rfl rfl ?_
              refine xq_iaddN dX11_plain_218 ?_
              refine xq_bipush dX11_plain_219 bp14 ?_
              refine xq_isubN dX11_plain_221 (by omega) ?_
              refine xq_iload_n dX11_plain_222 rfl rfl ?_
              refine xq_callV2N clX11 gd_X11_puts dX11_plain_223 ml_RX11_265 im_X11_puts se_X11_puts rfl (Fx.s83 hF) (by exact Nat.le_of_ble_eq_true rfl) (by omega) (m_puts hF hra.2.2.1 hra.nk (show tNk (rxX x) < 64 by have := hw.2.2.2; omega)) ?_
              intro H223 p223
              subst p223
              have hput := hra.pt (k := 15) (a := (fdn (tPn (rxX x)) (tNp (rxX x)) (kV s (rxN x + 1)))) (b := 0) (w := oB (rxW x) (tNk (rxX x))) (show tNk (rxX x) < 64 by have := hw.2.2.2; omega)
              have skp := SmK.pt (n := tNk (rxX x)) (its := mks 15) (v := mkv 15 (fdn (tPn (rxX x)) (tNp (rxX x)) (kV s (rxN x + 1))) 0) ska
              refine xq_vret dX11_plain_226 rfl ?_
              rw [show (zP s (rxN x + 1) x).toNat = _ from ev1]
              exact ⟨_, ⟨skp, hput⟩, rfl⟩
            · skip
              exact absurd rfl h69
          · skip
            exact absurd h44 (by omega)
    · skip
      exact absurd (of_decide_eq_true h14) (by omega)
  · skip
    exact absurd rfl h4
theorem m_pl20a (hF : gFx S) (K : Nat) (hK : 6 * (8 - rxO x) + (64 - rxB x) + 10 ≤ K) (hr : RxP S H bt ln s N x) (hw : RxW x) (hk : kK s (rxN x) = 20) (h64 : ¬ 64 ≤ rxB x) (hz1 : zA s (rxN x + 1) x = -1) : Nv mX11_plain K [.ref 83] S H (fun H2 => mQ S H H2 bt ln s N (.inl (knoF s (rxN x + 1), rxN x + 1))) := by
  have hms := hr.1.ms.1 (show kK s (rxN x) < 28 by omega)
  have hmv : hI H 83 25 = nI 20 := hms.2.trans (by rw [hk])
  have hwn : RxW (nxB x) := hw.nx (by omega)
  have hsz : SzOk (rxX x) := hw.1
  refine vq_intro (by decide) (by exact Nat.le_of_ble_eq_true rfl) rfl ?_
  refine xq_aload_n dX11_plain_0 rfl rfl ?_
  refine xq_getIE (v := nI 0) clX11 (by decide) rfl fl_RX11_182 dX11_plain_1 (Fx.s83 hF) hr.2.2.1 ?_
  refine xq_if_eqN dX11_plain_4 rfl (by omega) ⟨fun h4 => ?_, fun h4 => ?_⟩
  · skip
    refine xq_aload_n dX11_plain_8 rfl rfl ?_
    refine xq_bipush dX11_plain_9 bp40 ?_
    refine xq_callV1P clX11 gd_X11_isSign dX11_plain_11 ml_RX11_241 im_X11_isSign se_X11_isSign rfl (Fx.s83 hF) (by exact Nat.le_of_ble_eq_true rfl) (by omega) (m_isSign (K := 41) hF hr.2.2.1 hr.1 (by decide) (by decide)) ?_
    refine xq_if_eqB dX11_plain_14 rfl ⟨fun h14 => ?_, fun h14 => ?_⟩
    · skip
      refine xq_aload_n dX11_plain_22 rfl rfl ?_
      refine xq_getIE (v := nI 0) clX11 (by decide) rfl fl_RX11_147 dX11_plain_23 (Fx.s83 hF) hms.1 ?_
      refine xq_if_neN dX11_plain_26 rfl (by omega) ⟨fun h26 => ?_, fun h26 => ?_⟩
      · skip
        exact absurd rfl h26
      · skip
        refine xq_aload_n dX11_plain_29 rfl rfl ?_
        refine xq_getIE clX11 (by decide) rfl fl_RX11_157 dX11_plain_30 (Fx.s83 hF) hmv ?_
        refine xq_bipush dX11_plain_33 bp14 ?_
        refine xq_icmp_ltN dX11_plain_35 rfl (by omega) (by omega) ⟨fun h35 => ?_, fun h35 => ?_⟩
        · skip
          exact absurd h35 (by omega)
        · skip
          refine xq_aload_n dX11_plain_38 rfl rfl ?_
          refine xq_getIE clX11 (by decide) rfl fl_RX11_157 dX11_plain_39 (Fx.s83 hF) hmv ?_
          refine xq_bipush dX11_plain_42 bp20 ?_
          refine xq_icmp_leN dX11_plain_44 rfl (by omega) (by omega) ⟨fun h44 => ?_, fun h44 => ?_⟩
          · skip
            refine xq_aload_n dX11_plain_52 rfl rfl ?_
            refine xq_getIE clX11 (by decide) rfl fl_RX11_157 dX11_plain_53 (Fx.s83 hF) hmv ?_
            refine xq_istore_n dX11_plain_56 rfl rfl ?_
            refine xq_aload_n dX11_plain_57 rfl rfl ?_
            refine xq_callV0N clX11 gd_X11_knot dX11_plain_58 ml_RX11_262 im_X11_knot se_X11_knot rfl (Fx.s83 hF) (by exact Nat.le_of_ble_eq_true rfl) (by omega) (m_knot1 hF hr.2.2.1 hr.2.2.2.2 (by omega)) ?_
            intro H58 p58
            subst p58
            have hrk := hr.kn (b := rxB x + 1)
            have skk := (SmK.rf (H := H)).pF (k := 31) (by decide) (nI (rxB x + 1))
            refine xq_aload_n dX11_plain_61 rfl rfl ?_
            refine xq_callV0N clX11 gd_X11_goOn dX11_plain_62 ml_RX11_235 im_X11_goOn se_X11_goOn rfl (Fx.s83 hF) (by exact Nat.le_of_ble_eq_true rfl) (by omega) (m_goOn hrk.2.2.1 hrk.1 (kK_in (show kK s (rxN x) ≠ 44 by omega) hr.1.lx)) ?_
            intro H62 p62
            obtain ⟨g1, g2⟩ := p62
            have hrn : RxP S H62 bt ln s N (nxB x) := hrk.tk g1 g2
            have skn := skk.tr (tok_sk g2)
            refine xq_aload_n dX11_plain_65 rfl rfl ?_
            refine xq_getIE (v := nI 0) clX11 (by decide) rfl fl_RX11_182 dX11_plain_66 (Fx.s83 hF) hrn.2.2.1 ?_
            refine xq_if_eqN dX11_plain_69 rfl (by omega) ⟨fun h69 => ?_, fun h69 => ?_⟩
            · skip
              refine xq_iconst dX11_plain_73 ic0 ?_
              refine xq_istore_n dX11_plain_74 rfl rfl ?_
              refine xq_iload_n dX11_plain_75 rfl rfl ?_
              refine xq_tableIn dX11_plain_76 (by decide) (by decide) rfl rfl ?_
              refine xq_aload_n dX11_plain_199 rfl rfl ?_
              refine xq_callV0H clX11 gd_X11_factAtHand dX11_plain_200 ml_RX11_232 im_X11_factAtHand se_X11_factAtHand rfl (Fx.s83 hF) (by exact Nat.le_of_ble_eq_true rfl) (by omega) (m_factAtHand0 hrn.2.1 hsz hrn.2.2.1 hrn.1 hz1) ?_
              intro x200 H200 p200
              obtain ⟨rfl, mf⟩ := p200
              have ft := FtQ.mf mf knoF_p knoF_l hrn.1.js
              have skf := skn.tr (MfQ.sk mf)
              have fa := ft.1; have fb := ft.2.2.1; have fc := ft.2.2.2.1
              refine xq_istore_n dX11_plain_203 rfl rfl ?_
              refine xq_aload_n dX11_plain_204 rfl rfl ?_
              refine xq_callV0N clX11 gd_X11_goOn dX11_plain_205 ml_RX11_235 im_X11_goOn se_X11_goOn rfl (Fx.s83 hF) (by exact Nat.le_of_ble_eq_true rfl) (by omega) (m_goOn1 hF fa fb fc) ?_
              intro H205 p205
              subst p205
              refine xq_goto dX11_plain_208 rfl ?_
              refine xq_aload_n dX11_plain_215 rfl rfl ?_
              refine xq_iconst dX11_plain_216 ic3 ?_
              refine xq_iload_n dX11_plain_217 rfl rfl ?_
              refine xq_iaddN dX11_plain_218 ?_
              refine xq_bipush dX11_plain_219 bp14 ?_
              refine xq_isubN dX11_plain_221 (by omega) ?_
              refine xq_iload_n dX11_plain_222 rfl rfl ?_
              refine xq_callV2N clX11 gd_X11_puts dX11_plain_223 ml_RX11_265 im_X11_puts se_X11_puts rfl (Fx.s83 hF) (by exact Nat.le_of_ble_eq_true rfl) (by omega) (m_putsF hF fa fb fc) ?_
              intro H223 p223
              subst p223
              refine xq_vret dX11_plain_226 rfl ?_
              exact ⟨_, ⟨skf, ft⟩, rfl⟩
            · skip
              exact absurd rfl h69
          · skip
            exact absurd h44 (by omega)
    · skip
      exact absurd (of_decide_eq_true h14) (by omega)
  · skip
    exact absurd rfl h4
theorem m_pl20b (hF : gFx S) (K : Nat) (hK : 6 * (8 - rxO x) + (64 - rxB x) + 10 ≤ K) (hr : RxP S H bt ln s N x) (hw : RxW x) (hk : kK s (rxN x) = 20) (h64 : ¬ 64 ≤ rxB x) (hz1 : ¬ zA s (rxN x + 1) x = -1) : Nv mX11_plain K [.ref 83] S H (fun H2 => mQ S H H2 bt ln s N (.inr (kpR 20 (zA s (rxN x + 1) x).toNat (tRo (rxX x) (zA s (rxN x + 1) x).toNat) (rxN x + 2) (rxN x, rxX x, rxB x, rxO x, rxW x ||| tNe (rxX x) (zA s (rxN x + 1) x).toNat)))) := by
  have hms := hr.1.ms.1 (show kK s (rxN x) < 28 by omega)
  have hmv : hI H 83 25 = nI 20 := hms.2.trans (by rw [hk])
  have hwn : RxW (nxB x) := hw.nx (by omega)
  have hsz : SzOk (rxX x) := hw.1
  have zv1 := zP_v (s := s) (n := rxN x + 1) (cd := tFn (rxX x)) (sz := tNf (rxX x)) hz1
  obtain ⟨e39_1, hv1, ev1⟩ := zv1
  obtain ⟨s1, s2, s3, s4, s5, s6⟩ := id hsz
  refine vq_intro (by decide) (by exact Nat.le_of_ble_eq_true rfl) rfl ?_
  refine xq_aload_n dX11_plain_0 rfl rfl ?_
  refine xq_getIE (v := nI 0) clX11 (by decide) rfl fl_RX11_182 dX11_plain_1 (Fx.s83 hF) hr.2.2.1 ?_
  refine xq_if_eqN dX11_plain_4 rfl (by omega) ⟨fun h4 => ?_, fun h4 => ?_⟩
  · skip
    refine xq_aload_n dX11_plain_8 rfl rfl ?_
    refine xq_bipush dX11_plain_9 bp40 ?_
    refine xq_callV1P clX11 gd_X11_isSign dX11_plain_11 ml_RX11_241 im_X11_isSign se_X11_isSign rfl (Fx.s83 hF) (by exact Nat.le_of_ble_eq_true rfl) (by omega) (m_isSign (K := 41) hF hr.2.2.1 hr.1 (by decide) (by decide)) ?_
    refine xq_if_eqB dX11_plain_14 rfl ⟨fun h14 => ?_, fun h14 => ?_⟩
    · skip
      refine xq_aload_n dX11_plain_22 rfl rfl ?_
      refine xq_getIE (v := nI 0) clX11 (by decide) rfl fl_RX11_147 dX11_plain_23 (Fx.s83 hF) hms.1 ?_
      refine xq_if_neN dX11_plain_26 rfl (by omega) ⟨fun h26 => ?_, fun h26 => ?_⟩
      · skip
        exact absurd rfl h26
      · skip
        refine xq_aload_n dX11_plain_29 rfl rfl ?_
        refine xq_getIE clX11 (by decide) rfl fl_RX11_157 dX11_plain_30 (Fx.s83 hF) hmv ?_
        refine xq_bipush dX11_plain_33 bp14 ?_
        refine xq_icmp_ltN dX11_plain_35 rfl (by omega) (by omega) ⟨fun h35 => ?_, fun h35 => ?_⟩
        · skip
          exact absurd h35 (by omega)
        · skip
          refine xq_aload_n dX11_plain_38 rfl rfl ?_
          refine xq_getIE clX11 (by decide) rfl fl_RX11_157 dX11_plain_39 (Fx.s83 hF) hmv ?_
          refine xq_bipush dX11_plain_42 bp20 ?_
          refine xq_icmp_leN dX11_plain_44 rfl (by omega) (by omega) ⟨fun h44 => ?_, fun h44 => ?_⟩
          · skip
            refine xq_aload_n dX11_plain_52 rfl rfl ?_
            refine xq_getIE clX11 (by decide) rfl fl_RX11_157 dX11_plain_53 (Fx.s83 hF) hmv ?_
            refine xq_istore_n dX11_plain_56 rfl rfl ?_
            refine xq_aload_n dX11_plain_57 rfl rfl ?_
            refine xq_callV0N clX11 gd_X11_knot dX11_plain_58 ml_RX11_262 im_X11_knot se_X11_knot rfl (Fx.s83 hF) (by exact Nat.le_of_ble_eq_true rfl) (by omega) (m_knot1 hF hr.2.2.1 hr.2.2.2.2 (by omega)) ?_
            intro H58 p58
            subst p58
            have hrk := hr.kn (b := rxB x + 1)
            have skk := (SmK.rf (H := H)).pF (k := 31) (by decide) (nI (rxB x + 1))
            refine xq_aload_n dX11_plain_61 rfl rfl ?_
            refine xq_callV0N clX11 gd_X11_goOn dX11_plain_62 ml_RX11_235 im_X11_goOn se_X11_goOn rfl (Fx.s83 hF) (by exact Nat.le_of_ble_eq_true rfl) (by omega) (m_goOn hrk.2.2.1 hrk.1 (kK_in (show kK s (rxN x) ≠ 44 by omega) hr.1.lx)) ?_
            intro H62 p62
            obtain ⟨g1, g2⟩ := p62
            have hrn : RxP S H62 bt ln s N (nxB x) := hrk.tk g1 g2
            have skn := skk.tr (tok_sk g2)
            refine xq_aload_n dX11_plain_65 rfl rfl ?_
            refine xq_getIE (v := nI 0) clX11 (by decide) rfl fl_RX11_182 dX11_plain_66 (Fx.s83 hF) hrn.2.2.1 ?_
            refine xq_if_eqN dX11_plain_69 rfl (by omega) ⟨fun h69 => ?_, fun h69 => ?_⟩
            · skip
              refine xq_iconst dX11_plain_73 ic0 ?_
              refine xq_istore_n dX11_plain_74 rfl rfl ?_
              refine xq_iload_n dX11_plain_75 rfl rfl ?_
              refine xq_tableIn dX11_plain_76 (by decide) (by decide) rfl rfl ?_
              refine xq_aload_n dX11_plain_199 rfl rfl ?_
              refine xq_callV0P clX11 gd_X11_factAtHand dX11_plain_200 ml_RX11_232 im_X11_factAtHand se_X11_factAtHand rfl (Fx.s83 hF) (by exact Nat.le_of_ble_eq_true rfl) (by omega) (m_factAtHand1 hrn.2.1 hsz hrn.2.2.1 hrn.1 e39_1 hv1) ?_
              refine xq_istore_n dX11_plain_203 rfl rfl ?_
              refine xq_aload_n dX11_plain_204 rfl rfl ?_
              refine xq_callV0N clX11 gd_X11_goOn dX11_plain_205 ml_RX11_235 im_X11_goOn se_X11_goOn rfl (Fx.s83 hF) (by exact Nat.le_of_ble_eq_true rfl) (by omega) (m_goOn hrn.2.2.1 hrn.1 (kK_in (ne39 e39_1) hrn.1.lx)) ?_
              intro H205 p205
              obtain ⟨g1_205, g2_205⟩ := p205
              have hra := hrn.tk g1_205 g2_205
              have ska := skn.tr (tok_sk g2_205)
              refine xq_goto dX11_plain_208 rfl ?_
              refine xq_aload_n dX11_plain_215 rfl rfl ?_
              refine xq_iconst dX11_plain_216 ic3 ?_
              refine xq_iload_n dX11_plain_217 rfl rfl ?_
              refine xq_iaddN dX11_plain_218 ?_
              refine xq_bipush dX11_plain_219 bp14 ?_
              refine xq_isubN dX11_plain_221 (by omega) ?_
              refine xq_iload_n dX11_plain_222 rfl rfl ?_
              refine xq_callV2N clX11 gd_X11_puts dX11_plain_223 ml_RX11_265 im_X11_puts se_X11_puts rfl (Fx.s83 hF) (by exact Nat.le_of_ble_eq_true rfl) (by omega) (m_puts hF hra.2.2.1 hra.nk (show tNk (rxX x) < 64 by have := hw.2.2.2; omega)) ?_
              intro H223 p223
              subst p223
              have hput := hra.pt (k := 20) (a := (fdn (tFn (rxX x)) (tNf (rxX x)) (kV s (rxN x + 1)))) (b := (tRo (rxX x) (fdn (tFn (rxX x)) (tNf (rxX x)) (kV s (rxN x + 1))))) (w := (oB (rxW x ||| tNe (rxX x) (fdn (tFn (rxX x)) (tNf (rxX x)) (kV s (rxN x + 1)))) (tNk (rxX x)))) (show tNk (rxX x) < 64 by have := hw.2.2.2; omega)
              have skp := SmK.pt (n := tNk (rxX x)) (its := mks 20) (v := mkv 20 (fdn (tFn (rxX x)) (tNf (rxX x)) (kV s (rxN x + 1))) (tRo (rxX x) (fdn (tFn (rxX x)) (tNf (rxX x)) (kV s (rxN x + 1))))) ska
              refine xq_vret dX11_plain_226 rfl ?_
              rw [show (zA s (rxN x + 1) x).toNat = _ from ev1]
              exact ⟨_, ⟨skp, hput⟩, rfl⟩
            · skip
              exact absurd rfl h69
          · skip
            exact absurd h44 (by omega)
    · skip
      exact absurd (of_decide_eq_true h14) (by omega)
  · skip
    exact absurd rfl h4
theorem m_pl19a (hF : gFx S) (K : Nat) (hK : 6 * (8 - rxO x) + (64 - rxB x) + 10 ≤ K) (hr : RxP S H bt ln s N x) (hw : RxW x) (hk : kK s (rxN x) = 19) (h64 : ¬ 64 ≤ rxB x) (hz1 : zC s (rxN x + 1) x = -1) : Nv mX11_plain K [.ref 83] S H (fun H2 => mQ S H H2 bt ln s N (.inl (knoF s (rxN x + 1), rxN x + 1))) := by
  have hms := hr.1.ms.1 (show kK s (rxN x) < 28 by omega)
  have hmv : hI H 83 25 = nI 19 := hms.2.trans (by rw [hk])
  have hwn : RxW (nxB x) := hw.nx (by omega)
  have hsz : SzOk (rxX x) := hw.1
  refine vq_intro (by decide) (by exact Nat.le_of_ble_eq_true rfl) rfl ?_
  refine xq_aload_n dX11_plain_0 rfl rfl ?_
  refine xq_getIE (v := nI 0) clX11 (by decide) rfl fl_RX11_182 dX11_plain_1 (Fx.s83 hF) hr.2.2.1 ?_
  refine xq_if_eqN dX11_plain_4 rfl (by omega) ⟨fun h4 => ?_, fun h4 => ?_⟩
  · skip
    refine xq_aload_n dX11_plain_8 rfl rfl ?_
    refine xq_bipush dX11_plain_9 bp40 ?_
    refine xq_callV1P clX11 gd_X11_isSign dX11_plain_11 ml_RX11_241 im_X11_isSign se_X11_isSign rfl (Fx.s83 hF) (by exact Nat.le_of_ble_eq_true rfl) (by omega) (m_isSign (K := 41) hF hr.2.2.1 hr.1 (by decide) (by decide)) ?_
    refine xq_if_eqB dX11_plain_14 rfl ⟨fun h14 => ?_, fun h14 => ?_⟩
    · skip
      refine xq_aload_n dX11_plain_22 rfl rfl ?_
      refine xq_getIE (v := nI 0) clX11 (by decide) rfl fl_RX11_147 dX11_plain_23 (Fx.s83 hF) hms.1 ?_
      refine xq_if_neN dX11_plain_26 rfl (by omega) ⟨fun h26 => ?_, fun h26 => ?_⟩
      · skip
        exact absurd rfl h26
      · skip
        refine xq_aload_n dX11_plain_29 rfl rfl ?_
        refine xq_getIE clX11 (by decide) rfl fl_RX11_157 dX11_plain_30 (Fx.s83 hF) hmv ?_
        refine xq_bipush dX11_plain_33 bp14 ?_
        refine xq_icmp_ltN dX11_plain_35 rfl (by omega) (by omega) ⟨fun h35 => ?_, fun h35 => ?_⟩
        · skip
          exact absurd h35 (by omega)
        · skip
          refine xq_aload_n dX11_plain_38 rfl rfl ?_
          refine xq_getIE clX11 (by decide) rfl fl_RX11_157 dX11_plain_39 (Fx.s83 hF) hmv ?_
          refine xq_bipush dX11_plain_42 bp20 ?_
          refine xq_icmp_leN dX11_plain_44 rfl (by omega) (by omega) ⟨fun h44 => ?_, fun h44 => ?_⟩
          · skip
            refine xq_aload_n dX11_plain_52 rfl rfl ?_
            refine xq_getIE clX11 (by decide) rfl fl_RX11_157 dX11_plain_53 (Fx.s83 hF) hmv ?_
            refine xq_istore_n dX11_plain_56 rfl rfl ?_
            refine xq_aload_n dX11_plain_57 rfl rfl ?_
            refine xq_callV0N clX11 gd_X11_knot dX11_plain_58 ml_RX11_262 im_X11_knot se_X11_knot rfl (Fx.s83 hF) (by exact Nat.le_of_ble_eq_true rfl) (by omega) (m_knot1 hF hr.2.2.1 hr.2.2.2.2 (by omega)) ?_
            intro H58 p58
            subst p58
            have hrk := hr.kn (b := rxB x + 1)
            have skk := (SmK.rf (H := H)).pF (k := 31) (by decide) (nI (rxB x + 1))
            refine xq_aload_n dX11_plain_61 rfl rfl ?_
            refine xq_callV0N clX11 gd_X11_goOn dX11_plain_62 ml_RX11_235 im_X11_goOn se_X11_goOn rfl (Fx.s83 hF) (by exact Nat.le_of_ble_eq_true rfl) (by omega) (m_goOn hrk.2.2.1 hrk.1 (kK_in (show kK s (rxN x) ≠ 44 by omega) hr.1.lx)) ?_
            intro H62 p62
            obtain ⟨g1, g2⟩ := p62
            have hrn : RxP S H62 bt ln s N (nxB x) := hrk.tk g1 g2
            have skn := skk.tr (tok_sk g2)
            refine xq_aload_n dX11_plain_65 rfl rfl ?_
            refine xq_getIE (v := nI 0) clX11 (by decide) rfl fl_RX11_182 dX11_plain_66 (Fx.s83 hF) hrn.2.2.1 ?_
            refine xq_if_eqN dX11_plain_69 rfl (by omega) ⟨fun h69 => ?_, fun h69 => ?_⟩
            · skip
              refine xq_iconst dX11_plain_73 ic0 ?_
              refine xq_istore_n dX11_plain_74 rfl rfl ?_
              refine xq_iload_n dX11_plain_75 rfl rfl ?_
              refine xq_tableIn dX11_plain_76 (by decide) (by decide) rfl rfl ?_
              refine xq_bipush dX11_plain_174 bp8 ?_
              refine xq_aload_n dX11_plain_176 rfl rfl ?_
              refine xq_callV0H clX11 gd_X11_colourAtHand dX11_plain_177 ml_RX11_247 im_X11_colourAtHand se_X11_colourAtHand rfl (Fx.s83 hF) (by exact Nat.le_of_ble_eq_true rfl) (by omega) (m_colourAtHand0 hrn.2.1 hsz hrn.2.2.1 hrn.1 hz1) ?_
              intro x177 H177 p177
              obtain ⟨rfl, mf⟩ := p177
              have ft := FtQ.mf mf knoF_p knoF_l hrn.1.js
              have skf := skn.tr (MfQ.sk mf)
              have fa := ft.1; have fb := ft.2.2.1; have fc := ft.2.2.2.1
              refine xq_imulN dX11_plain_180 ?_
              refine xq_istore_n dX11_plain_181 rfl rfl ?_
              refine xq_aload_n dX11_plain_182 rfl rfl ?_
              refine xq_callV0N clX11 gd_X11_goOn dX11_plain_183 ml_RX11_235 im_X11_goOn se_X11_goOn rfl (Fx.s83 hF) (by exact Nat.le_of_ble_eq_true rfl) (by omega) (m_goOn1 hF fa fb fc) ?_
              intro H183 p183
              subst p183
              refine xq_iload_n dX11_plain_186 rfl rfl ?_
              refine xq_aload_n dX11_plain_187 rfl rfl ?_
              refine xq_iconst dX11_plain_188 ic0 ?_
              refine xq_bipush dX11_plain_189 bp6 ?_
              refine xq_callV2P clX11 gd_X11_numeral dX11_plain_191 ml_RX11_215 im_X11_numeral se_X11_numeral rfl (Fx.s83 hF) (by exact Nat.le_of_ble_eq_true rfl) (by omega) (m_numeralF hF fa fb fc) ?_
              refine xq_iaddN dX11_plain_194 ?_
              refine xq_istore_n dX11_plain_195 rfl rfl ?_
              refine xq_goto dX11_plain_196 rfl ?_
              refine xq_aload_n dX11_plain_215 rfl rfl ?_
              refine xq_iconst dX11_plain_216 ic3 ?_
              refine xq_iload_n dX11_plain_217 rfl rfl ?_
              refine xq_iaddN dX11_plain_218 ?_
              refine xq_bipush dX11_plain_219 bp14 ?_
              refine xq_isubN dX11_plain_221 (by omega) ?_
              refine xq_iload_n dX11_plain_222 rfl rfl ?_
              refine xq_callV2N clX11 gd_X11_puts dX11_plain_223 ml_RX11_265 im_X11_puts se_X11_puts rfl (Fx.s83 hF) (by exact Nat.le_of_ble_eq_true rfl) (by omega) (m_putsF hF fa fb fc) ?_
              intro H223 p223
              subst p223
              refine xq_vret dX11_plain_226 rfl ?_
              exact ⟨_, ⟨skf, ft⟩, rfl⟩
            · skip
              exact absurd rfl h69
          · skip
            exact absurd h44 (by omega)
    · skip
      exact absurd (of_decide_eq_true h14) (by omega)
  · skip
    exact absurd rfl h4
theorem m_pl19b (hF : gFx S) (K : Nat) (hK : 6 * (8 - rxO x) + (64 - rxB x) + 10 ≤ K) (hr : RxP S H bt ln s N x) (hw : RxW x) (hk : kK s (rxN x) = 19) (h64 : ¬ 64 ≤ rxB x) (hz1 : ¬ zC s (rxN x + 1) x = -1) (hz2 : numB s (rxN x + 2) 6 = false) : Nv mX11_plain K [.ref 83] S H (fun H2 => mQ S H H2 bt ln s N (.inl (numF s (rxN x + 2), rxN x + 2))) := by
  have hms := hr.1.ms.1 (show kK s (rxN x) < 28 by omega)
  have hmv : hI H 83 25 = nI 19 := hms.2.trans (by rw [hk])
  have hwn : RxW (nxB x) := hw.nx (by omega)
  have hsz : SzOk (rxX x) := hw.1
  have zv1 := zP_v (s := s) (n := rxN x + 1) (cd := tCn (rxX x)) (sz := tNc (rxX x)) hz1
  obtain ⟨e39_1, hv1, ev1⟩ := zv1
  obtain ⟨s1, s2, s3, s4, s5, s6⟩ := id hsz
  refine vq_intro (by decide) (by exact Nat.le_of_ble_eq_true rfl) rfl ?_
  refine xq_aload_n dX11_plain_0 rfl rfl ?_
  refine xq_getIE (v := nI 0) clX11 (by decide) rfl fl_RX11_182 dX11_plain_1 (Fx.s83 hF) hr.2.2.1 ?_
  refine xq_if_eqN dX11_plain_4 rfl (by omega) ⟨fun h4 => ?_, fun h4 => ?_⟩
  · skip
    refine xq_aload_n dX11_plain_8 rfl rfl ?_
    refine xq_bipush dX11_plain_9 bp40 ?_
    refine xq_callV1P clX11 gd_X11_isSign dX11_plain_11 ml_RX11_241 im_X11_isSign se_X11_isSign rfl (Fx.s83 hF) (by exact Nat.le_of_ble_eq_true rfl) (by omega) (m_isSign (K := 41) hF hr.2.2.1 hr.1 (by decide) (by decide)) ?_
    refine xq_if_eqB dX11_plain_14 rfl ⟨fun h14 => ?_, fun h14 => ?_⟩
    · skip
      refine xq_aload_n dX11_plain_22 rfl rfl ?_
      refine xq_getIE (v := nI 0) clX11 (by decide) rfl fl_RX11_147 dX11_plain_23 (Fx.s83 hF) hms.1 ?_
      refine xq_if_neN dX11_plain_26 rfl (by omega) ⟨fun h26 => ?_, fun h26 => ?_⟩
      · skip
        exact absurd rfl h26
      · skip
        refine xq_aload_n dX11_plain_29 rfl rfl ?_
        refine xq_getIE clX11 (by decide) rfl fl_RX11_157 dX11_plain_30 (Fx.s83 hF) hmv ?_
        refine xq_bipush dX11_plain_33 bp14 ?_
        refine xq_icmp_ltN dX11_plain_35 rfl (by omega) (by omega) ⟨fun h35 => ?_, fun h35 => ?_⟩
        · skip
          exact absurd h35 (by omega)
        · skip
          refine xq_aload_n dX11_plain_38 rfl rfl ?_
          refine xq_getIE clX11 (by decide) rfl fl_RX11_157 dX11_plain_39 (Fx.s83 hF) hmv ?_
          refine xq_bipush dX11_plain_42 bp20 ?_
          refine xq_icmp_leN dX11_plain_44 rfl (by omega) (by omega) ⟨fun h44 => ?_, fun h44 => ?_⟩
          · skip
            refine xq_aload_n dX11_plain_52 rfl rfl ?_
            refine xq_getIE clX11 (by decide) rfl fl_RX11_157 dX11_plain_53 (Fx.s83 hF) hmv ?_
            refine xq_istore_n dX11_plain_56 rfl rfl ?_
            refine xq_aload_n dX11_plain_57 rfl rfl ?_
            refine xq_callV0N clX11 gd_X11_knot dX11_plain_58 ml_RX11_262 im_X11_knot se_X11_knot rfl (Fx.s83 hF) (by exact Nat.le_of_ble_eq_true rfl) (by omega) (m_knot1 hF hr.2.2.1 hr.2.2.2.2 (by omega)) ?_
            intro H58 p58
            subst p58
            have hrk := hr.kn (b := rxB x + 1)
            have skk := (SmK.rf (H := H)).pF (k := 31) (by decide) (nI (rxB x + 1))
            refine xq_aload_n dX11_plain_61 rfl rfl ?_
            refine xq_callV0N clX11 gd_X11_goOn dX11_plain_62 ml_RX11_235 im_X11_goOn se_X11_goOn rfl (Fx.s83 hF) (by exact Nat.le_of_ble_eq_true rfl) (by omega) (m_goOn hrk.2.2.1 hrk.1 (kK_in (show kK s (rxN x) ≠ 44 by omega) hr.1.lx)) ?_
            intro H62 p62
            obtain ⟨g1, g2⟩ := p62
            have hrn : RxP S H62 bt ln s N (nxB x) := hrk.tk g1 g2
            have skn := skk.tr (tok_sk g2)
            refine xq_aload_n dX11_plain_65 rfl rfl ?_
            refine xq_getIE (v := nI 0) clX11 (by decide) rfl fl_RX11_182 dX11_plain_66 (Fx.s83 hF) hrn.2.2.1 ?_
            refine xq_if_eqN dX11_plain_69 rfl (by omega) ⟨fun h69 => ?_, fun h69 => ?_⟩
            · skip
              refine xq_iconst dX11_plain_73 ic0 ?_
              refine xq_istore_n dX11_plain_74 rfl rfl ?_
              refine xq_iload_n dX11_plain_75 rfl rfl ?_
              refine xq_tableIn dX11_plain_76 (by decide) (by decide) rfl rfl ?_
              refine xq_bipush dX11_plain_174 bp8 ?_
              refine xq_aload_n dX11_plain_176 rfl rfl ?_
              refine xq_callV0P clX11 gd_X11_colourAtHand dX11_plain_177 ml_RX11_247 im_X11_colourAtHand se_X11_colourAtHand rfl (Fx.s83 hF) (by exact Nat.le_of_ble_eq_true rfl) (by omega) (m_colourAtHand1 hrn.2.1 hsz hrn.2.2.1 hrn.1 e39_1 hv1) ?_
              refine xq_imulN dX11_plain_180 ?_
              refine xq_istore_n dX11_plain_181 rfl rfl ?_
              refine xq_aload_n dX11_plain_182 rfl rfl ?_
              refine xq_callV0N clX11 gd_X11_goOn dX11_plain_183 ml_RX11_235 im_X11_goOn se_X11_goOn rfl (Fx.s83 hF) (by exact Nat.le_of_ble_eq_true rfl) (by omega) (m_goOn hrn.2.2.1 hrn.1 (kK_in (ne39 e39_1) hrn.1.lx)) ?_
              intro H183 p183
              obtain ⟨g1_183, g2_183⟩ := p183
              have hra := hrn.tk g1_183 g2_183
              have ska := skn.tr (tok_sk g2_183)
              refine xq_iload_n dX11_plain_186 rfl rfl ?_
              refine xq_aload_n dX11_plain_187 rfl rfl ?_
              refine xq_iconst dX11_plain_188 ic0 ?_
              refine xq_bipush dX11_plain_189 bp6 ?_
              refine xq_callV2H clX11 gd_X11_numeral dX11_plain_191 ml_RX11_215 im_X11_numeral se_X11_numeral rfl (Fx.s83 hF) (by exact Nat.le_of_ble_eq_true rfl) (by omega) (m_numeral0 hra.2.2.1 hra.1 (by decide) hz2) ?_
              intro x191 H191 p191
              obtain ⟨rfl, mf⟩ := p191
              have ft := FtQ.mf mf numF_p numF_l hra.1.js
              have skf := ska.tr (MfQ.sk mf)
              have fa := ft.1; have fb := ft.2.2.1; have fc := ft.2.2.2.1
              refine xq_iaddN dX11_plain_194 ?_
              refine xq_istore_n dX11_plain_195 rfl rfl ?_
              refine xq_goto dX11_plain_196 rfl ?_
              refine xq_aload_n dX11_plain_215 rfl rfl ?_
              refine xq_iconst dX11_plain_216 ic3 ?_
              refine xq_iload_n dX11_plain_217 rfl rfl ?_
              refine xq_iaddN dX11_plain_218 ?_
              refine xq_bipush dX11_plain_219 bp14 ?_
              refine xq_isubN dX11_plain_221 (by omega) ?_
              refine xq_iload_n dX11_plain_222 rfl rfl ?_
              refine xq_callV2N clX11 gd_X11_puts dX11_plain_223 ml_RX11_265 im_X11_puts se_X11_puts rfl (Fx.s83 hF) (by exact Nat.le_of_ble_eq_true rfl) (by omega) (m_putsF hF fa fb fc) ?_
              intro H223 p223
              subst p223
              refine xq_vret dX11_plain_226 rfl ?_
              exact ⟨_, ⟨skf, ft⟩, rfl⟩
            · skip
              exact absurd rfl h69
          · skip
            exact absurd h44 (by omega)
    · skip
      exact absurd (of_decide_eq_true h14) (by omega)
  · skip
    exact absurd rfl h4
theorem m_pl19c (hF : gFx S) (K : Nat) (hK : 6 * (8 - rxO x) + (64 - rxB x) + 10 ≤ K) (hr : RxP S H bt ln s N x) (hw : RxW x) (hk : kK s (rxN x) = 19) (h64 : ¬ 64 ≤ rxB x) (hz1 : ¬ zC s (rxN x + 1) x = -1) (hz2 : ¬ numB s (rxN x + 2) 6 = false) : Nv mX11_plain K [.ref 83] S H (fun H2 => mQ S H H2 bt ln s N (.inr (kpR 19 (zC s (rxN x + 1) x).toNat (kV s (rxN x + 2)) (rxN x + 3) x))) := by
  have hms := hr.1.ms.1 (show kK s (rxN x) < 28 by omega)
  have hmv : hI H 83 25 = nI 19 := hms.2.trans (by rw [hk])
  have hwn : RxW (nxB x) := hw.nx (by omega)
  have hsz : SzOk (rxX x) := hw.1
  have zv1 := zP_v (s := s) (n := rxN x + 1) (cd := tCn (rxX x)) (sz := tNc (rxX x)) hz1
  obtain ⟨e39_1, hv1, ev1⟩ := zv1
  obtain ⟨s1, s2, s3, s4, s5, s6⟩ := id hsz
  have hv6 := kV_le (n := rxN x + 2) hr.1.ok
  refine vq_intro (by decide) (by exact Nat.le_of_ble_eq_true rfl) rfl ?_
  refine xq_aload_n dX11_plain_0 rfl rfl ?_
  refine xq_getIE (v := nI 0) clX11 (by decide) rfl fl_RX11_182 dX11_plain_1 (Fx.s83 hF) hr.2.2.1 ?_
  refine xq_if_eqN dX11_plain_4 rfl (by omega) ⟨fun h4 => ?_, fun h4 => ?_⟩
  · skip
    refine xq_aload_n dX11_plain_8 rfl rfl ?_
    refine xq_bipush dX11_plain_9 bp40 ?_
    refine xq_callV1P clX11 gd_X11_isSign dX11_plain_11 ml_RX11_241 im_X11_isSign se_X11_isSign rfl (Fx.s83 hF) (by exact Nat.le_of_ble_eq_true rfl) (by omega) (m_isSign (K := 41) hF hr.2.2.1 hr.1 (by decide) (by decide)) ?_
    refine xq_if_eqB dX11_plain_14 rfl ⟨fun h14 => ?_, fun h14 => ?_⟩
    · skip
      refine xq_aload_n dX11_plain_22 rfl rfl ?_
      refine xq_getIE (v := nI 0) clX11 (by decide) rfl fl_RX11_147 dX11_plain_23 (Fx.s83 hF) hms.1 ?_
      refine xq_if_neN dX11_plain_26 rfl (by omega) ⟨fun h26 => ?_, fun h26 => ?_⟩
      · skip
        exact absurd rfl h26
      · skip
        refine xq_aload_n dX11_plain_29 rfl rfl ?_
        refine xq_getIE clX11 (by decide) rfl fl_RX11_157 dX11_plain_30 (Fx.s83 hF) hmv ?_
        refine xq_bipush dX11_plain_33 bp14 ?_
        refine xq_icmp_ltN dX11_plain_35 rfl (by omega) (by omega) ⟨fun h35 => ?_, fun h35 => ?_⟩
        · skip
          exact absurd h35 (by omega)
        · skip
          refine xq_aload_n dX11_plain_38 rfl rfl ?_
          refine xq_getIE clX11 (by decide) rfl fl_RX11_157 dX11_plain_39 (Fx.s83 hF) hmv ?_
          refine xq_bipush dX11_plain_42 bp20 ?_
          refine xq_icmp_leN dX11_plain_44 rfl (by omega) (by omega) ⟨fun h44 => ?_, fun h44 => ?_⟩
          · skip
            refine xq_aload_n dX11_plain_52 rfl rfl ?_
            refine xq_getIE clX11 (by decide) rfl fl_RX11_157 dX11_plain_53 (Fx.s83 hF) hmv ?_
            refine xq_istore_n dX11_plain_56 rfl rfl ?_
            refine xq_aload_n dX11_plain_57 rfl rfl ?_
            refine xq_callV0N clX11 gd_X11_knot dX11_plain_58 ml_RX11_262 im_X11_knot se_X11_knot rfl (Fx.s83 hF) (by exact Nat.le_of_ble_eq_true rfl) (by omega) (m_knot1 hF hr.2.2.1 hr.2.2.2.2 (by omega)) ?_
            intro H58 p58
            subst p58
            have hrk := hr.kn (b := rxB x + 1)
            have skk := (SmK.rf (H := H)).pF (k := 31) (by decide) (nI (rxB x + 1))
            refine xq_aload_n dX11_plain_61 rfl rfl ?_
            refine xq_callV0N clX11 gd_X11_goOn dX11_plain_62 ml_RX11_235 im_X11_goOn se_X11_goOn rfl (Fx.s83 hF) (by exact Nat.le_of_ble_eq_true rfl) (by omega) (m_goOn hrk.2.2.1 hrk.1 (kK_in (show kK s (rxN x) ≠ 44 by omega) hr.1.lx)) ?_
            intro H62 p62
            obtain ⟨g1, g2⟩ := p62
            have hrn : RxP S H62 bt ln s N (nxB x) := hrk.tk g1 g2
            have skn := skk.tr (tok_sk g2)
            refine xq_aload_n dX11_plain_65 rfl rfl ?_
            refine xq_getIE (v := nI 0) clX11 (by decide) rfl fl_RX11_182 dX11_plain_66 (Fx.s83 hF) hrn.2.2.1 ?_
            refine xq_if_eqN dX11_plain_69 rfl (by omega) ⟨fun h69 => ?_, fun h69 => ?_⟩
            · skip
              refine xq_iconst dX11_plain_73 ic0 ?_
              refine xq_istore_n dX11_plain_74 rfl rfl ?_
              refine xq_iload_n dX11_plain_75 rfl rfl ?_
              refine xq_tableIn dX11_plain_76 (by decide) (by decide) rfl rfl ?_
              refine xq_bipush dX11_plain_174 bp8 ?_
              refine xq_aload_n dX11_plain_176 rfl rfl ?_
              refine xq_callV0P clX11 gd_X11_colourAtHand dX11_plain_177 ml_RX11_247 im_X11_colourAtHand se_X11_colourAtHand rfl (Fx.s83 hF) (by exact Nat.le_of_ble_eq_true rfl) (by omega) (m_colourAtHand1 hrn.2.1 hsz hrn.2.2.1 hrn.1 e39_1 hv1) ?_
              refine xq_imulN dX11_plain_180 ?_
              refine xq_istore_n dX11_plain_181 rfl rfl ?_
              refine xq_aload_n dX11_plain_182 rfl rfl ?_
              refine xq_callV0N clX11 gd_X11_goOn dX11_plain_183 ml_RX11_235 im_X11_goOn se_X11_goOn rfl (Fx.s83 hF) (by exact Nat.le_of_ble_eq_true rfl) (by omega) (m_goOn hrn.2.2.1 hrn.1 (kK_in (ne39 e39_1) hrn.1.lx)) ?_
              intro H183 p183
              obtain ⟨g1_183, g2_183⟩ := p183
              have hra := hrn.tk g1_183 g2_183
              have ska := skn.tr (tok_sk g2_183)
              refine xq_iload_n dX11_plain_186 rfl rfl ?_
              refine xq_aload_n dX11_plain_187 rfl rfl ?_
              refine xq_iconst dX11_plain_188 ic0 ?_
              refine xq_bipush dX11_plain_189 bp6 ?_
              refine xq_callV2H clX11 gd_X11_numeral dX11_plain_191 ml_RX11_215 im_X11_numeral se_X11_numeral rfl (Fx.s83 hF) (by exact Nat.le_of_ble_eq_true rfl) (by omega) (m_numeral1 hra.2.2.1 hra.1 (by decide) (show numB s (rxN x + 2) 6 = true by simpa using hz2)) ?_
              intro x191 H191 p191
              obtain ⟨rfl, g1b, g2b⟩ := p191
              have hrb := hra.tk g1b g2b
              have skb := ska.tr (tok_sk g2b)
              refine xq_iaddN dX11_plain_194 ?_
              refine xq_istore_n dX11_plain_195 rfl rfl ?_
              refine xq_goto dX11_plain_196 rfl ?_
              refine xq_aload_n dX11_plain_215 rfl rfl ?_
              refine xq_iconst dX11_plain_216 ic3 ?_
              refine xq_iload_n dX11_plain_217 rfl rfl ?_
              refine xq_iaddN dX11_plain_218 ?_
              refine xq_bipush dX11_plain_219 bp14 ?_
              refine xq_isubN dX11_plain_221 (by omega) ?_
              refine xq_iload_n dX11_plain_222 rfl rfl ?_
              refine xq_callV2N clX11 gd_X11_puts dX11_plain_223 ml_RX11_265 im_X11_puts se_X11_puts rfl (Fx.s83 hF) (by exact Nat.le_of_ble_eq_true rfl) (by omega) (m_puts hF hrb.2.2.1 hrb.nk (show tNk (rxX x) < 64 by have := hw.2.2.2; omega)) ?_
              intro H223 p223
              subst p223
              have hput := hrb.pt (k := 19) (a := (fdn (tCn (rxX x)) (tNc (rxX x)) (kV s (rxN x + 1)))) (b := (kV s (rxN x + 2))) (w := oB (rxW x) (tNk (rxX x))) (show tNk (rxX x) < 64 by have := hw.2.2.2; omega)
              have skp := SmK.pt (n := tNk (rxX x)) (its := mks 19) (v := mkv 19 (fdn (tCn (rxX x)) (tNc (rxX x)) (kV s (rxN x + 1))) (kV s (rxN x + 2))) skb
              refine xq_vret dX11_plain_226 rfl ?_
              rw [show (zC s (rxN x + 1) x).toNat = _ from ev1]
              exact ⟨_, ⟨skp, hput⟩, rfl⟩
            · skip
              exact absurd rfl h69
          · skip
            exact absurd h44 (by omega)
    · skip
      exact absurd (of_decide_eq_true h14) (by omega)
  · skip
    exact absurd rfl h4
theorem m_pl16a (hF : gFx S) (K : Nat) (hK : 6 * (8 - rxO x) + (64 - rxB x) + 10 ≤ K) (hr : RxP S H bt ln s N x) (hw : RxW x) (hk : kK s (rxN x) = 16) (h64 : ¬ 64 ≤ rxB x) (hz1 : zP s (rxN x + 1) x = -1) : Nv mX11_plain K [.ref 83] S H (fun H2 => mQ S H H2 bt ln s N (.inl (knoF s (rxN x + 1), rxN x + 1))) := by
  have hms := hr.1.ms.1 (show kK s (rxN x) < 28 by omega)
  have hmv : hI H 83 25 = nI 16 := hms.2.trans (by rw [hk])
  have hwn : RxW (nxB x) := hw.nx (by omega)
  have hsz : SzOk (rxX x) := hw.1
  refine vq_intro (by decide) (by exact Nat.le_of_ble_eq_true rfl) rfl ?_
  refine xq_aload_n dX11_plain_0 rfl rfl ?_
  refine xq_getIE (v := nI 0) clX11 (by decide) rfl fl_RX11_182 dX11_plain_1 (Fx.s83 hF) hr.2.2.1 ?_
  refine xq_if_eqN dX11_plain_4 rfl (by omega) ⟨fun h4 => ?_, fun h4 => ?_⟩
  · skip
    refine xq_aload_n dX11_plain_8 rfl rfl ?_
    refine xq_bipush dX11_plain_9 bp40 ?_
    refine xq_callV1P clX11 gd_X11_isSign dX11_plain_11 ml_RX11_241 im_X11_isSign se_X11_isSign rfl (Fx.s83 hF) (by exact Nat.le_of_ble_eq_true rfl) (by omega) (m_isSign (K := 41) hF hr.2.2.1 hr.1 (by decide) (by decide)) ?_
    refine xq_if_eqB dX11_plain_14 rfl ⟨fun h14 => ?_, fun h14 => ?_⟩
    · skip
      refine xq_aload_n dX11_plain_22 rfl rfl ?_
      refine xq_getIE (v := nI 0) clX11 (by decide) rfl fl_RX11_147 dX11_plain_23 (Fx.s83 hF) hms.1 ?_
      refine xq_if_neN dX11_plain_26 rfl (by omega) ⟨fun h26 => ?_, fun h26 => ?_⟩
      · skip
        exact absurd rfl h26
      · skip
        refine xq_aload_n dX11_plain_29 rfl rfl ?_
        refine xq_getIE clX11 (by decide) rfl fl_RX11_157 dX11_plain_30 (Fx.s83 hF) hmv ?_
        refine xq_bipush dX11_plain_33 bp14 ?_
        refine xq_icmp_ltN dX11_plain_35 rfl (by omega) (by omega) ⟨fun h35 => ?_, fun h35 => ?_⟩
        · skip
          exact absurd h35 (by omega)
        · skip
          refine xq_aload_n dX11_plain_38 rfl rfl ?_
          refine xq_getIE clX11 (by decide) rfl fl_RX11_157 dX11_plain_39 (Fx.s83 hF) hmv ?_
          refine xq_bipush dX11_plain_42 bp20 ?_
          refine xq_icmp_leN dX11_plain_44 rfl (by omega) (by omega) ⟨fun h44 => ?_, fun h44 => ?_⟩
          · skip
            refine xq_aload_n dX11_plain_52 rfl rfl ?_
            refine xq_getIE clX11 (by decide) rfl fl_RX11_157 dX11_plain_53 (Fx.s83 hF) hmv ?_
            refine xq_istore_n dX11_plain_56 rfl rfl ?_
            refine xq_aload_n dX11_plain_57 rfl rfl ?_
            refine xq_callV0N clX11 gd_X11_knot dX11_plain_58 ml_RX11_262 im_X11_knot se_X11_knot rfl (Fx.s83 hF) (by exact Nat.le_of_ble_eq_true rfl) (by omega) (m_knot1 hF hr.2.2.1 hr.2.2.2.2 (by omega)) ?_
            intro H58 p58
            subst p58
            have hrk := hr.kn (b := rxB x + 1)
            have skk := (SmK.rf (H := H)).pF (k := 31) (by decide) (nI (rxB x + 1))
            refine xq_aload_n dX11_plain_61 rfl rfl ?_
            refine xq_callV0N clX11 gd_X11_goOn dX11_plain_62 ml_RX11_235 im_X11_goOn se_X11_goOn rfl (Fx.s83 hF) (by exact Nat.le_of_ble_eq_true rfl) (by omega) (m_goOn hrk.2.2.1 hrk.1 (kK_in (show kK s (rxN x) ≠ 44 by omega) hr.1.lx)) ?_
            intro H62 p62
            obtain ⟨g1, g2⟩ := p62
            have hrn : RxP S H62 bt ln s N (nxB x) := hrk.tk g1 g2
            have skn := skk.tr (tok_sk g2)
            refine xq_aload_n dX11_plain_65 rfl rfl ?_
            refine xq_getIE (v := nI 0) clX11 (by decide) rfl fl_RX11_182 dX11_plain_66 (Fx.s83 hF) hrn.2.2.1 ?_
            refine xq_if_eqN dX11_plain_69 rfl (by omega) ⟨fun h69 => ?_, fun h69 => ?_⟩
            · skip
              refine xq_iconst dX11_plain_73 ic0 ?_
              refine xq_istore_n dX11_plain_74 rfl rfl ?_
              refine xq_iload_n dX11_plain_75 rfl rfl ?_
              refine xq_tableIn dX11_plain_76 (by decide) (by decide) rfl rfl ?_
              refine xq_aload_n dX11_plain_158 rfl rfl ?_
              refine xq_callV0H clX11 gd_X11_personAtHand dX11_plain_159 ml_RX11_250 im_X11_personAtHand se_X11_personAtHand rfl (Fx.s83 hF) (by exact Nat.le_of_ble_eq_true rfl) (by omega) (m_personAtHand0 hrn.2.1 hsz hrn.2.2.1 hrn.1 hz1) ?_
              intro x159 H159 p159
              obtain ⟨rfl, mf⟩ := p159
              have ft := FtQ.mf mf knoF_p knoF_l hrn.1.js
              have skf := skn.tr (MfQ.sk mf)
              have fa := ft.1; have fb := ft.2.2.1; have fc := ft.2.2.2.1
              refine xq_istore_n dX11_plain_162 rfl rfl ?_
              refine xq_aload_n dX11_plain_163 rfl rfl ?_
              refine xq_callV0N clX11 gd_X11_goOn dX11_plain_164 ml_RX11_235 im_X11_goOn se_X11_goOn rfl (Fx.s83 hF) (by exact Nat.le_of_ble_eq_true rfl) (by omega) (m_goOn1 hF fa fb fc) ?_
              intro H164 p164
              subst p164
              refine xq_aload_n dX11_plain_167 rfl rfl ?_
              refine xq_callV0N clX11 gd_X11_plain dX11_plain_168 ml_RX11_271 im_X11_plain se_X11_plain rfl (Fx.s83 hF) (by exact Nat.le_of_ble_eq_true rfl) (by omega) (m_plainF hF fa fb fc) ?_
              intro H168 p168
              subst p168
              refine xq_goto dX11_plain_171 rfl ?_
              refine xq_aload_n dX11_plain_215 rfl rfl ?_
              refine xq_iconst dX11_plain_216 ic3 ?_
              refine xq_iload_n dX11_plain_217 rfl rfl ?_
              refine xq_iaddN dX11_plain_218 ?_
              refine xq_bipush dX11_plain_219 bp14 ?_
              refine xq_isubN dX11_plain_221 (by omega) ?_
              refine xq_iload_n dX11_plain_222 rfl rfl ?_
              refine xq_callV2N clX11 gd_X11_puts dX11_plain_223 ml_RX11_265 im_X11_puts se_X11_puts rfl (Fx.s83 hF) (by exact Nat.le_of_ble_eq_true rfl) (by omega) (m_putsF hF fa fb fc) ?_
              intro H223 p223
              subst p223
              refine xq_vret dX11_plain_226 rfl ?_
              exact ⟨_, ⟨skf, ft⟩, rfl⟩
            · skip
              exact absurd rfl h69
          · skip
            exact absurd h44 (by omega)
    · skip
      exact absurd (of_decide_eq_true h14) (by omega)
  · skip
    exact absurd rfl h4
theorem m_pl16b (hF : gFx S) (K : Nat) (hK : 6 * (8 - rxO x) + (64 - rxB x) + 10 ≤ K) (hr : RxP S H bt ln s N x) (hw : RxW x) (hk : kK s (rxN x) = 16) (h64 : ¬ 64 ≤ rxB x) (hz1 : ¬ zP s (rxN x + 1) x = -1) (IH : MOk S mX11_plain 10 bt ln s N d 3) (hn : NjQ (rd s d 3 (rxN x + 2, rxX x, rxB x + 1, rxO x, rxW x))) (er : rd s d 3 (rxN x + 2, rxX x, rxB x + 1, rxO x, rxW x) = .inl (c, m)) : Nv mX11_plain K [.ref 83] S H (fun H2 => mQ S H H2 bt ln s N (.inl (c, m))) := by
  have hms := hr.1.ms.1 (show kK s (rxN x) < 28 by omega)
  have hmv : hI H 83 25 = nI 16 := hms.2.trans (by rw [hk])
  have hwn : RxW (nxB x) := hw.nx (by omega)
  have hsz : SzOk (rxX x) := hw.1
  have zv1 := zP_v (s := s) (n := rxN x + 1) (cd := tPn (rxX x)) (sz := tNp (rxX x)) hz1
  obtain ⟨e39_1, hv1, ev1⟩ := zv1
  obtain ⟨s1, s2, s3, s4, s5, s6⟩ := id hsz
  have hsub : ∀ H3, RxP S H3 bt ln s N (rxN x + 2, rxX x, rxB x + 1, rxO x, rxW x) → Nv mX11_plain (K - 1) [.ref 83] S H3 (fun H2 => mQ S H3 H2 bt ln s N (rd s d 3 (rxN x + 2, rxX x, rxB x + 1, rxO x, rxW x))) := fun H3 h3 => IH (rxN x + 2, rxX x, rxB x + 1, rxO x, rxW x) (K - 1) H3 (by show 6 * (8 - rxO x) + (64 - (rxB x + 1)) + 10 ≤ K - 1; omega) h3 hwn hn
  rw [er] at hsub
  refine vq_intro (by decide) (by exact Nat.le_of_ble_eq_true rfl) rfl ?_
  refine xq_aload_n dX11_plain_0 rfl rfl ?_
  refine xq_getIE (v := nI 0) clX11 (by decide) rfl fl_RX11_182 dX11_plain_1 (Fx.s83 hF) hr.2.2.1 ?_
  refine xq_if_eqN dX11_plain_4 rfl (by omega) ⟨fun h4 => ?_, fun h4 => ?_⟩
  · skip
    refine xq_aload_n dX11_plain_8 rfl rfl ?_
    refine xq_bipush dX11_plain_9 bp40 ?_
    refine xq_callV1P clX11 gd_X11_isSign dX11_plain_11 ml_RX11_241 im_X11_isSign se_X11_isSign rfl (Fx.s83 hF) (by exact Nat.le_of_ble_eq_true rfl) (by omega) (m_isSign (K := 41) hF hr.2.2.1 hr.1 (by decide) (by decide)) ?_
    refine xq_if_eqB dX11_plain_14 rfl ⟨fun h14 => ?_, fun h14 => ?_⟩
    · skip
      refine xq_aload_n dX11_plain_22 rfl rfl ?_
      refine xq_getIE (v := nI 0) clX11 (by decide) rfl fl_RX11_147 dX11_plain_23 (Fx.s83 hF) hms.1 ?_
      refine xq_if_neN dX11_plain_26 rfl (by omega) ⟨fun h26 => ?_, fun h26 => ?_⟩
      · skip
        exact absurd rfl h26
      · skip
        refine xq_aload_n dX11_plain_29 rfl rfl ?_
        refine xq_getIE clX11 (by decide) rfl fl_RX11_157 dX11_plain_30 (Fx.s83 hF) hmv ?_
        refine xq_bipush dX11_plain_33 bp14 ?_
        refine xq_icmp_ltN dX11_plain_35 rfl (by omega) (by omega) ⟨fun h35 => ?_, fun h35 => ?_⟩
        · skip
          exact absurd h35 (by omega)
        · skip
          refine xq_aload_n dX11_plain_38 rfl rfl ?_
          refine xq_getIE clX11 (by decide) rfl fl_RX11_157 dX11_plain_39 (Fx.s83 hF) hmv ?_
          refine xq_bipush dX11_plain_42 bp20 ?_
          refine xq_icmp_leN dX11_plain_44 rfl (by omega) (by omega) ⟨fun h44 => ?_, fun h44 => ?_⟩
          · skip
            refine xq_aload_n dX11_plain_52 rfl rfl ?_
            refine xq_getIE clX11 (by decide) rfl fl_RX11_157 dX11_plain_53 (Fx.s83 hF) hmv ?_
            refine xq_istore_n dX11_plain_56 rfl rfl ?_
            refine xq_aload_n dX11_plain_57 rfl rfl ?_
            refine xq_callV0N clX11 gd_X11_knot dX11_plain_58 ml_RX11_262 im_X11_knot se_X11_knot rfl (Fx.s83 hF) (by exact Nat.le_of_ble_eq_true rfl) (by omega) (m_knot1 hF hr.2.2.1 hr.2.2.2.2 (by omega)) ?_
            intro H58 p58
            subst p58
            have hrk := hr.kn (b := rxB x + 1)
            have skk := (SmK.rf (H := H)).pF (k := 31) (by decide) (nI (rxB x + 1))
            refine xq_aload_n dX11_plain_61 rfl rfl ?_
            refine xq_callV0N clX11 gd_X11_goOn dX11_plain_62 ml_RX11_235 im_X11_goOn se_X11_goOn rfl (Fx.s83 hF) (by exact Nat.le_of_ble_eq_true rfl) (by omega) (m_goOn hrk.2.2.1 hrk.1 (kK_in (show kK s (rxN x) ≠ 44 by omega) hr.1.lx)) ?_
            intro H62 p62
            obtain ⟨g1, g2⟩ := p62
            have hrn : RxP S H62 bt ln s N (nxB x) := hrk.tk g1 g2
            have skn := skk.tr (tok_sk g2)
            refine xq_aload_n dX11_plain_65 rfl rfl ?_
            refine xq_getIE (v := nI 0) clX11 (by decide) rfl fl_RX11_182 dX11_plain_66 (Fx.s83 hF) hrn.2.2.1 ?_
            refine xq_if_eqN dX11_plain_69 rfl (by omega) ⟨fun h69 => ?_, fun h69 => ?_⟩
            · skip
              refine xq_iconst dX11_plain_73 ic0 ?_
              refine xq_istore_n dX11_plain_74 rfl rfl ?_
              refine xq_iload_n dX11_plain_75 rfl rfl ?_
              refine xq_tableIn dX11_plain_76 (by decide) (by decide) rfl rfl ?_
              refine xq_aload_n dX11_plain_158 rfl rfl ?_
              refine xq_callV0P clX11 gd_X11_personAtHand dX11_plain_159 ml_RX11_250 im_X11_personAtHand se_X11_personAtHand rfl (Fx.s83 hF) (by exact Nat.le_of_ble_eq_true rfl) (by omega) (m_personAtHand1 hrn.2.1 hsz hrn.2.2.1 hrn.1 e39_1 hv1) ?_
              refine xq_istore_n dX11_plain_162 rfl rfl ?_
              refine xq_aload_n dX11_plain_163 rfl rfl ?_
              refine xq_callV0N clX11 gd_X11_goOn dX11_plain_164 ml_RX11_235 im_X11_goOn se_X11_goOn rfl (Fx.s83 hF) (by exact Nat.le_of_ble_eq_true rfl) (by omega) (m_goOn hrn.2.2.1 hrn.1 (kK_in (ne39 e39_1) hrn.1.lx)) ?_
              intro H164 p164
              obtain ⟨g1_164, g2_164⟩ := p164
              have hra := hrn.tk g1_164 g2_164
              have ska := skn.tr (tok_sk g2_164)
              refine xq_aload_n dX11_plain_167 rfl rfl ?_
              refine xq_callV0N clX11 gd_X11_plain dX11_plain_168 ml_RX11_271 im_X11_plain se_X11_plain rfl (Fx.s83 hF) (by exact Nat.le_of_ble_eq_true rfl) (by omega) (hsub _ hra) ?_
              intro H168 p168
              obtain ⟨sq, ft⟩ := p168
              have skf := ska.tr sq
              have fa := ft.1; have fb := ft.2.2.1; have fc := ft.2.2.2.1
              refine xq_goto dX11_plain_171 rfl ?_
              refine xq_aload_n dX11_plain_215 rfl rfl ?_
              refine xq_iconst dX11_plain_216 ic3 ?_
              refine xq_iload_n dX11_plain_217 rfl rfl ?_
              refine xq_iaddN dX11_plain_218 ?_
              refine xq_bipush dX11_plain_219 bp14 ?_
              refine xq_isubN dX11_plain_221 (by omega) ?_
              refine xq_iload_n dX11_plain_222 rfl rfl ?_
              refine xq_callV2N clX11 gd_X11_puts dX11_plain_223 ml_RX11_265 im_X11_puts se_X11_puts rfl (Fx.s83 hF) (by exact Nat.le_of_ble_eq_true rfl) (by omega) (m_putsF hF fa fb fc) ?_
              intro H223 p223
              subst p223
              refine xq_vret dX11_plain_226 rfl ?_
              exact ⟨_, ⟨skf, ft⟩, rfl⟩
            · skip
              exact absurd rfl h69
          · skip
            exact absurd h44 (by omega)
    · skip
      exact absurd (of_decide_eq_true h14) (by omega)
  · skip
    exact absurd rfl h4
theorem m_pl16c (hF : gFx S) (K : Nat) (hK : 6 * (8 - rxO x) + (64 - rxB x) + 10 ≤ K) (hr : RxP S H bt ln s N x) (hw : RxW x) (hk : kK s (rxN x) = 16) (h64 : ¬ 64 ≤ rxB x) (hz1 : ¬ zP s (rxN x + 1) x = -1) (IH : MOk S mX11_plain 10 bt ln s N d 3) (hn : NjQ (rd s d 3 (rxN x + 2, rxX x, rxB x + 1, rxO x, rxW x))) (er : rd s d 3 (rxN x + 2, rxX x, rxB x + 1, rxO x, rxW x) = .inr z) : Nv mX11_plain K [.ref 83] S H (fun H2 => mQ S H H2 bt ln s N (.inr (adU 16 (zP s (rxN x + 1) x).toNat z))) := by
  have hms := hr.1.ms.1 (show kK s (rxN x) < 28 by omega)
  have hmv : hI H 83 25 = nI 16 := hms.2.trans (by rw [hk])
  have hwn : RxW (nxB x) := hw.nx (by omega)
  have hsz : SzOk (rxX x) := hw.1
  have zv1 := zP_v (s := s) (n := rxN x + 1) (cd := tPn (rxX x)) (sz := tNp (rxX x)) hz1
  obtain ⟨e39_1, hv1, ev1⟩ := zv1
  obtain ⟨s1, s2, s3, s4, s5, s6⟩ := id hsz
  have hsub : ∀ H3, RxP S H3 bt ln s N (rxN x + 2, rxX x, rxB x + 1, rxO x, rxW x) → Nv mX11_plain (K - 1) [.ref 83] S H3 (fun H2 => mQ S H3 H2 bt ln s N (rd s d 3 (rxN x + 2, rxX x, rxB x + 1, rxO x, rxW x))) := fun H3 h3 => IH (rxN x + 2, rxX x, rxB x + 1, rxO x, rxW x) (K - 1) H3 (by show 6 * (8 - rxO x) + (64 - (rxB x + 1)) + 10 ≤ K - 1; omega) h3 hwn hn
  rw [er] at hsub
  have hn64 := hn64_u hw (show RxQ 1 (nxB x) z from rd_q d 3 (rxN x + 2, rxX x, rxB x + 1, rxO x, rxW x) z (show rxB x + 1 ≤ 64 by omega) er)
  refine vq_intro (by decide) (by exact Nat.le_of_ble_eq_true rfl) rfl ?_
  refine xq_aload_n dX11_plain_0 rfl rfl ?_
  refine xq_getIE (v := nI 0) clX11 (by decide) rfl fl_RX11_182 dX11_plain_1 (Fx.s83 hF) hr.2.2.1 ?_
  refine xq_if_eqN dX11_plain_4 rfl (by omega) ⟨fun h4 => ?_, fun h4 => ?_⟩
  · skip
    refine xq_aload_n dX11_plain_8 rfl rfl ?_
    refine xq_bipush dX11_plain_9 bp40 ?_
    refine xq_callV1P clX11 gd_X11_isSign dX11_plain_11 ml_RX11_241 im_X11_isSign se_X11_isSign rfl (Fx.s83 hF) (by exact Nat.le_of_ble_eq_true rfl) (by omega) (m_isSign (K := 41) hF hr.2.2.1 hr.1 (by decide) (by decide)) ?_
    refine xq_if_eqB dX11_plain_14 rfl ⟨fun h14 => ?_, fun h14 => ?_⟩
    · skip
      refine xq_aload_n dX11_plain_22 rfl rfl ?_
      refine xq_getIE (v := nI 0) clX11 (by decide) rfl fl_RX11_147 dX11_plain_23 (Fx.s83 hF) hms.1 ?_
      refine xq_if_neN dX11_plain_26 rfl (by omega) ⟨fun h26 => ?_, fun h26 => ?_⟩
      · skip
        exact absurd rfl h26
      · skip
        refine xq_aload_n dX11_plain_29 rfl rfl ?_
        refine xq_getIE clX11 (by decide) rfl fl_RX11_157 dX11_plain_30 (Fx.s83 hF) hmv ?_
        refine xq_bipush dX11_plain_33 bp14 ?_
        refine xq_icmp_ltN dX11_plain_35 rfl (by omega) (by omega) ⟨fun h35 => ?_, fun h35 => ?_⟩
        · skip
          exact absurd h35 (by omega)
        · skip
          refine xq_aload_n dX11_plain_38 rfl rfl ?_
          refine xq_getIE clX11 (by decide) rfl fl_RX11_157 dX11_plain_39 (Fx.s83 hF) hmv ?_
          refine xq_bipush dX11_plain_42 bp20 ?_
          refine xq_icmp_leN dX11_plain_44 rfl (by omega) (by omega) ⟨fun h44 => ?_, fun h44 => ?_⟩
          · skip
            refine xq_aload_n dX11_plain_52 rfl rfl ?_
            refine xq_getIE clX11 (by decide) rfl fl_RX11_157 dX11_plain_53 (Fx.s83 hF) hmv ?_
            refine xq_istore_n dX11_plain_56 rfl rfl ?_
            refine xq_aload_n dX11_plain_57 rfl rfl ?_
            refine xq_callV0N clX11 gd_X11_knot dX11_plain_58 ml_RX11_262 im_X11_knot se_X11_knot rfl (Fx.s83 hF) (by exact Nat.le_of_ble_eq_true rfl) (by omega) (m_knot1 hF hr.2.2.1 hr.2.2.2.2 (by omega)) ?_
            intro H58 p58
            subst p58
            have hrk := hr.kn (b := rxB x + 1)
            have skk := (SmK.rf (H := H)).pF (k := 31) (by decide) (nI (rxB x + 1))
            refine xq_aload_n dX11_plain_61 rfl rfl ?_
            refine xq_callV0N clX11 gd_X11_goOn dX11_plain_62 ml_RX11_235 im_X11_goOn se_X11_goOn rfl (Fx.s83 hF) (by exact Nat.le_of_ble_eq_true rfl) (by omega) (m_goOn hrk.2.2.1 hrk.1 (kK_in (show kK s (rxN x) ≠ 44 by omega) hr.1.lx)) ?_
            intro H62 p62
            obtain ⟨g1, g2⟩ := p62
            have hrn : RxP S H62 bt ln s N (nxB x) := hrk.tk g1 g2
            have skn := skk.tr (tok_sk g2)
            refine xq_aload_n dX11_plain_65 rfl rfl ?_
            refine xq_getIE (v := nI 0) clX11 (by decide) rfl fl_RX11_182 dX11_plain_66 (Fx.s83 hF) hrn.2.2.1 ?_
            refine xq_if_eqN dX11_plain_69 rfl (by omega) ⟨fun h69 => ?_, fun h69 => ?_⟩
            · skip
              refine xq_iconst dX11_plain_73 ic0 ?_
              refine xq_istore_n dX11_plain_74 rfl rfl ?_
              refine xq_iload_n dX11_plain_75 rfl rfl ?_
              refine xq_tableIn dX11_plain_76 (by decide) (by decide) rfl rfl ?_
              refine xq_aload_n dX11_plain_158 rfl rfl ?_
              refine xq_callV0P clX11 gd_X11_personAtHand dX11_plain_159 ml_RX11_250 im_X11_personAtHand se_X11_personAtHand rfl (Fx.s83 hF) (by exact Nat.le_of_ble_eq_true rfl) (by omega) (m_personAtHand1 hrn.2.1 hsz hrn.2.2.1 hrn.1 e39_1 hv1) ?_
              refine xq_istore_n dX11_plain_162 rfl rfl ?_
              refine xq_aload_n dX11_plain_163 rfl rfl ?_
              refine xq_callV0N clX11 gd_X11_goOn dX11_plain_164 ml_RX11_235 im_X11_goOn se_X11_goOn rfl (Fx.s83 hF) (by exact Nat.le_of_ble_eq_true rfl) (by omega) (m_goOn hrn.2.2.1 hrn.1 (kK_in (ne39 e39_1) hrn.1.lx)) ?_
              intro H164 p164
              obtain ⟨g1_164, g2_164⟩ := p164
              have hra := hrn.tk g1_164 g2_164
              have ska := skn.tr (tok_sk g2_164)
              refine xq_aload_n dX11_plain_167 rfl rfl ?_
              refine xq_callV0N clX11 gd_X11_plain dX11_plain_168 ml_RX11_271 im_X11_plain se_X11_plain rfl (Fx.s83 hF) (by exact Nat.le_of_ble_eq_true rfl) (by omega) (hsub _ hra) ?_
              intro H168 p168
              obtain ⟨sq, rz⟩ := p168
              have skz := ska.tr sq
              refine xq_goto dX11_plain_171 rfl ?_
              refine xq_aload_n dX11_plain_215 rfl rfl ?_
              refine xq_iconst dX11_plain_216 ic3 ?_
              refine xq_iload_n dX11_plain_217 rfl rfl ?_
              refine xq_iaddN dX11_plain_218 ?_
              refine xq_bipush dX11_plain_219 bp14 ?_
              refine xq_isubN dX11_plain_221 (by omega) ?_
              refine xq_iload_n dX11_plain_222 rfl rfl ?_
              refine xq_callV2N clX11 gd_X11_puts dX11_plain_223 ml_RX11_265 im_X11_puts se_X11_puts rfl (Fx.s83 hF) (by exact Nat.le_of_ble_eq_true rfl) (by omega) (m_puts hF rz.2.2.1 rz.nk hn64) ?_
              intro H223 p223
              subst p223
              have hput := rz.pt (k := 16) (a := tNk (rxX z) - 1) (b := (fdn (tPn (rxX x)) (tNp (rxX x)) (kV s (rxN x + 1)))) (w := oB (rxW z) (tNk (rxX z))) hn64
              have skp := SmK.pt (n := tNk (rxX z)) (its := mks 16) (v := mkv 16 (tNk (rxX z) - 1) (fdn (tPn (rxX x)) (tNp (rxX x)) (kV s (rxN x + 1)))) skz
              refine xq_vret dX11_plain_226 rfl ?_
              rw [show (zP s (rxN x + 1) x).toNat = _ from ev1]
              exact ⟨_, ⟨skp, hput⟩, rfl⟩
            · skip
              exact absurd rfl h69
          · skip
            exact absurd h44 (by omega)
    · skip
      exact absurd (of_decide_eq_true h14) (by omega)
  · skip
    exact absurd rfl h4
theorem m_pl17b (hF : gFx S) (K : Nat) (hK : 6 * (8 - rxO x) + (64 - rxB x) + 10 ≤ K) (hr : RxP S H bt ln s N x) (hw : RxW x) (hk : kK s (rxN x) = 17) (h64 : ¬ 64 ≤ rxB x) (IH : MOk S mX11_plain 10 bt ln s N d 3) (hn : NjQ (rd s d 3 (nxB x))) (er : rd s d 3 (nxB x) = .inl (c, m)) : Nv mX11_plain K [.ref 83] S H (fun H2 => mQ S H H2 bt ln s N (.inl (c, m))) := by
  have hms := hr.1.ms.1 (show kK s (rxN x) < 28 by omega)
  have hmv : hI H 83 25 = nI 17 := hms.2.trans (by rw [hk])
  have hwn : RxW (nxB x) := hw.nx (by omega)
  have hsz : SzOk (rxX x) := hw.1
  have hsub : ∀ H3, RxP S H3 bt ln s N (nxB x) → Nv mX11_plain (K - 1) [.ref 83] S H3 (fun H2 => mQ S H3 H2 bt ln s N (rd s d 3 (nxB x))) := fun H3 h3 => IH (nxB x) (K - 1) H3 (by show 6 * (8 - rxO x) + (64 - (rxB x + 1)) + 10 ≤ K - 1; omega) h3 hwn hn
  rw [er] at hsub
  refine vq_intro (by decide) (by exact Nat.le_of_ble_eq_true rfl) rfl ?_
  refine xq_aload_n dX11_plain_0 rfl rfl ?_
  refine xq_getIE (v := nI 0) clX11 (by decide) rfl fl_RX11_182 dX11_plain_1 (Fx.s83 hF) hr.2.2.1 ?_
  refine xq_if_eqN dX11_plain_4 rfl (by omega) ⟨fun h4 => ?_, fun h4 => ?_⟩
  · skip
    refine xq_aload_n dX11_plain_8 rfl rfl ?_
    refine xq_bipush dX11_plain_9 bp40 ?_
    refine xq_callV1P clX11 gd_X11_isSign dX11_plain_11 ml_RX11_241 im_X11_isSign se_X11_isSign rfl (Fx.s83 hF) (by exact Nat.le_of_ble_eq_true rfl) (by omega) (m_isSign (K := 41) hF hr.2.2.1 hr.1 (by decide) (by decide)) ?_
    refine xq_if_eqB dX11_plain_14 rfl ⟨fun h14 => ?_, fun h14 => ?_⟩
    · skip
      refine xq_aload_n dX11_plain_22 rfl rfl ?_
      refine xq_getIE (v := nI 0) clX11 (by decide) rfl fl_RX11_147 dX11_plain_23 (Fx.s83 hF) hms.1 ?_
      refine xq_if_neN dX11_plain_26 rfl (by omega) ⟨fun h26 => ?_, fun h26 => ?_⟩
      · skip
        exact absurd rfl h26
      · skip
        refine xq_aload_n dX11_plain_29 rfl rfl ?_
        refine xq_getIE clX11 (by decide) rfl fl_RX11_157 dX11_plain_30 (Fx.s83 hF) hmv ?_
        refine xq_bipush dX11_plain_33 bp14 ?_
        refine xq_icmp_ltN dX11_plain_35 rfl (by omega) (by omega) ⟨fun h35 => ?_, fun h35 => ?_⟩
        · skip
          exact absurd h35 (by omega)
        · skip
          refine xq_aload_n dX11_plain_38 rfl rfl ?_
          refine xq_getIE clX11 (by decide) rfl fl_RX11_157 dX11_plain_39 (Fx.s83 hF) hmv ?_
          refine xq_bipush dX11_plain_42 bp20 ?_
          refine xq_icmp_leN dX11_plain_44 rfl (by omega) (by omega) ⟨fun h44 => ?_, fun h44 => ?_⟩
          · skip
            refine xq_aload_n dX11_plain_52 rfl rfl ?_
            refine xq_getIE clX11 (by decide) rfl fl_RX11_157 dX11_plain_53 (Fx.s83 hF) hmv ?_
            refine xq_istore_n dX11_plain_56 rfl rfl ?_
            refine xq_aload_n dX11_plain_57 rfl rfl ?_
            refine xq_callV0N clX11 gd_X11_knot dX11_plain_58 ml_RX11_262 im_X11_knot se_X11_knot rfl (Fx.s83 hF) (by exact Nat.le_of_ble_eq_true rfl) (by omega) (m_knot1 hF hr.2.2.1 hr.2.2.2.2 (by omega)) ?_
            intro H58 p58
            subst p58
            have hrk := hr.kn (b := rxB x + 1)
            have skk := (SmK.rf (H := H)).pF (k := 31) (by decide) (nI (rxB x + 1))
            refine xq_aload_n dX11_plain_61 rfl rfl ?_
            refine xq_callV0N clX11 gd_X11_goOn dX11_plain_62 ml_RX11_235 im_X11_goOn se_X11_goOn rfl (Fx.s83 hF) (by exact Nat.le_of_ble_eq_true rfl) (by omega) (m_goOn hrk.2.2.1 hrk.1 (kK_in (show kK s (rxN x) ≠ 44 by omega) hr.1.lx)) ?_
            intro H62 p62
            obtain ⟨g1, g2⟩ := p62
            have hrn : RxP S H62 bt ln s N (nxB x) := hrk.tk g1 g2
            have skn := skk.tr (tok_sk g2)
            refine xq_aload_n dX11_plain_65 rfl rfl ?_
            refine xq_getIE (v := nI 0) clX11 (by decide) rfl fl_RX11_182 dX11_plain_66 (Fx.s83 hF) hrn.2.2.1 ?_
            refine xq_if_eqN dX11_plain_69 rfl (by omega) ⟨fun h69 => ?_, fun h69 => ?_⟩
            · skip
              refine xq_iconst dX11_plain_73 ic0 ?_
              refine xq_istore_n dX11_plain_74 rfl rfl ?_
              refine xq_iload_n dX11_plain_75 rfl rfl ?_
              refine xq_tableIn dX11_plain_76 (by decide) (by decide) rfl rfl ?_
              refine xq_aload_n dX11_plain_211 rfl rfl ?_
              refine xq_callV0N clX11 gd_X11_plain dX11_plain_212 ml_RX11_271 im_X11_plain se_X11_plain rfl (Fx.s83 hF) (by exact Nat.le_of_ble_eq_true rfl) (by omega) (hsub _ hrn) ?_
              intro H212 p212
              obtain ⟨sq, ft⟩ := p212
              have skf := skn.tr sq
              have fa := ft.1; have fb := ft.2.2.1; have fc := ft.2.2.2.1
              refine xq_aload_n dX11_plain_215 rfl rfl ?_
              refine xq_iconst dX11_plain_216 ic3 ?_
              refine xq_iload_n dX11_plain_217 rfl rfl ?_
              refine xq_iaddN dX11_plain_218 ?_
              refine xq_bipush dX11_plain_219 bp14 ?_
              refine xq_isubN dX11_plain_221 (by omega) ?_
              refine xq_iload_n dX11_plain_222 rfl rfl ?_
              refine xq_callV2N clX11 gd_X11_puts dX11_plain_223 ml_RX11_265 im_X11_puts se_X11_puts rfl (Fx.s83 hF) (by exact Nat.le_of_ble_eq_true rfl) (by omega) (m_putsF hF fa fb fc) ?_
              intro H223 p223
              subst p223
              refine xq_vret dX11_plain_226 rfl ?_
              exact ⟨_, ⟨skf, ft⟩, rfl⟩
            · skip
              exact absurd rfl h69
          · skip
            exact absurd h44 (by omega)
    · skip
      exact absurd (of_decide_eq_true h14) (by omega)
  · skip
    exact absurd rfl h4
theorem m_pl17c (hF : gFx S) (K : Nat) (hK : 6 * (8 - rxO x) + (64 - rxB x) + 10 ≤ K) (hr : RxP S H bt ln s N x) (hw : RxW x) (hk : kK s (rxN x) = 17) (h64 : ¬ 64 ≤ rxB x) (IH : MOk S mX11_plain 10 bt ln s N d 3) (hn : NjQ (rd s d 3 (nxB x))) (er : rd s d 3 (nxB x) = .inr z) : Nv mX11_plain K [.ref 83] S H (fun H2 => mQ S H H2 bt ln s N (.inr (adU 17 0 z))) := by
  have hms := hr.1.ms.1 (show kK s (rxN x) < 28 by omega)
  have hmv : hI H 83 25 = nI 17 := hms.2.trans (by rw [hk])
  have hwn : RxW (nxB x) := hw.nx (by omega)
  have hsz : SzOk (rxX x) := hw.1
  have hsub : ∀ H3, RxP S H3 bt ln s N (nxB x) → Nv mX11_plain (K - 1) [.ref 83] S H3 (fun H2 => mQ S H3 H2 bt ln s N (rd s d 3 (nxB x))) := fun H3 h3 => IH (nxB x) (K - 1) H3 (by show 6 * (8 - rxO x) + (64 - (rxB x + 1)) + 10 ≤ K - 1; omega) h3 hwn hn
  rw [er] at hsub
  have hn64 := hn64_u hw (rd_q d 3 (nxB x) z (show rxB x + 1 ≤ 64 by omega) er)
  refine vq_intro (by decide) (by exact Nat.le_of_ble_eq_true rfl) rfl ?_
  refine xq_aload_n dX11_plain_0 rfl rfl ?_
  refine xq_getIE (v := nI 0) clX11 (by decide) rfl fl_RX11_182 dX11_plain_1 (Fx.s83 hF) hr.2.2.1 ?_
  refine xq_if_eqN dX11_plain_4 rfl (by omega) ⟨fun h4 => ?_, fun h4 => ?_⟩
  · skip
    refine xq_aload_n dX11_plain_8 rfl rfl ?_
    refine xq_bipush dX11_plain_9 bp40 ?_
    refine xq_callV1P clX11 gd_X11_isSign dX11_plain_11 ml_RX11_241 im_X11_isSign se_X11_isSign rfl (Fx.s83 hF) (by exact Nat.le_of_ble_eq_true rfl) (by omega) (m_isSign (K := 41) hF hr.2.2.1 hr.1 (by decide) (by decide)) ?_
    refine xq_if_eqB dX11_plain_14 rfl ⟨fun h14 => ?_, fun h14 => ?_⟩
    · skip
      refine xq_aload_n dX11_plain_22 rfl rfl ?_
      refine xq_getIE (v := nI 0) clX11 (by decide) rfl fl_RX11_147 dX11_plain_23 (Fx.s83 hF) hms.1 ?_
      refine xq_if_neN dX11_plain_26 rfl (by omega) ⟨fun h26 => ?_, fun h26 => ?_⟩
      · skip
        exact absurd rfl h26
      · skip
        refine xq_aload_n dX11_plain_29 rfl rfl ?_
        refine xq_getIE clX11 (by decide) rfl fl_RX11_157 dX11_plain_30 (Fx.s83 hF) hmv ?_
        refine xq_bipush dX11_plain_33 bp14 ?_
        refine xq_icmp_ltN dX11_plain_35 rfl (by omega) (by omega) ⟨fun h35 => ?_, fun h35 => ?_⟩
        · skip
          exact absurd h35 (by omega)
        · skip
          refine xq_aload_n dX11_plain_38 rfl rfl ?_
          refine xq_getIE clX11 (by decide) rfl fl_RX11_157 dX11_plain_39 (Fx.s83 hF) hmv ?_
          refine xq_bipush dX11_plain_42 bp20 ?_
          refine xq_icmp_leN dX11_plain_44 rfl (by omega) (by omega) ⟨fun h44 => ?_, fun h44 => ?_⟩
          · skip
            refine xq_aload_n dX11_plain_52 rfl rfl ?_
            refine xq_getIE clX11 (by decide) rfl fl_RX11_157 dX11_plain_53 (Fx.s83 hF) hmv ?_
            refine xq_istore_n dX11_plain_56 rfl rfl ?_
            refine xq_aload_n dX11_plain_57 rfl rfl ?_
            refine xq_callV0N clX11 gd_X11_knot dX11_plain_58 ml_RX11_262 im_X11_knot se_X11_knot rfl (Fx.s83 hF) (by exact Nat.le_of_ble_eq_true rfl) (by omega) (m_knot1 hF hr.2.2.1 hr.2.2.2.2 (by omega)) ?_
            intro H58 p58
            subst p58
            have hrk := hr.kn (b := rxB x + 1)
            have skk := (SmK.rf (H := H)).pF (k := 31) (by decide) (nI (rxB x + 1))
            refine xq_aload_n dX11_plain_61 rfl rfl ?_
            refine xq_callV0N clX11 gd_X11_goOn dX11_plain_62 ml_RX11_235 im_X11_goOn se_X11_goOn rfl (Fx.s83 hF) (by exact Nat.le_of_ble_eq_true rfl) (by omega) (m_goOn hrk.2.2.1 hrk.1 (kK_in (show kK s (rxN x) ≠ 44 by omega) hr.1.lx)) ?_
            intro H62 p62
            obtain ⟨g1, g2⟩ := p62
            have hrn : RxP S H62 bt ln s N (nxB x) := hrk.tk g1 g2
            have skn := skk.tr (tok_sk g2)
            refine xq_aload_n dX11_plain_65 rfl rfl ?_
            refine xq_getIE (v := nI 0) clX11 (by decide) rfl fl_RX11_182 dX11_plain_66 (Fx.s83 hF) hrn.2.2.1 ?_
            refine xq_if_eqN dX11_plain_69 rfl (by omega) ⟨fun h69 => ?_, fun h69 => ?_⟩
            · skip
              refine xq_iconst dX11_plain_73 ic0 ?_
              refine xq_istore_n dX11_plain_74 rfl rfl ?_
              refine xq_iload_n dX11_plain_75 rfl rfl ?_
              refine xq_tableIn dX11_plain_76 (by decide) (by decide) rfl rfl ?_
              refine xq_aload_n dX11_plain_211 rfl rfl ?_
              refine xq_callV0N clX11 gd_X11_plain dX11_plain_212 ml_RX11_271 im_X11_plain se_X11_plain rfl (Fx.s83 hF) (by exact Nat.le_of_ble_eq_true rfl) (by omega) (hsub _ hrn) ?_
              intro H212 p212
              obtain ⟨sq, rz⟩ := p212
              have skz := skn.tr sq
              refine xq_aload_n dX11_plain_215 rfl rfl ?_
              refine xq_iconst dX11_plain_216 ic3 ?_
              refine xq_iload_n dX11_plain_217 rfl rfl ?_
              refine xq_iaddN dX11_plain_218 ?_
              refine xq_bipush dX11_plain_219 bp14 ?_
              refine xq_isubN dX11_plain_221 (by omega) ?_
              refine xq_iload_n dX11_plain_222 rfl rfl ?_
              refine xq_callV2N clX11 gd_X11_puts dX11_plain_223 ml_RX11_265 im_X11_puts se_X11_puts rfl (Fx.s83 hF) (by exact Nat.le_of_ble_eq_true rfl) (by omega) (m_puts hF rz.2.2.1 rz.nk hn64) ?_
              intro H223 p223
              subst p223
              have hput := rz.pt (k := 17) (a := tNk (rxX z) - 1) (b := 0) (w := oB (rxW z) (tNk (rxX z))) hn64
              have skp := SmK.pt (n := tNk (rxX z)) (its := mks 17) (v := mkv 17 (tNk (rxX z) - 1) 0) skz
              refine xq_vret dX11_plain_226 rfl ?_
              exact ⟨_, ⟨skp, hput⟩, rfl⟩
            · skip
              exact absurd rfl h69
          · skip
            exact absurd h44 (by omega)
    · skip
      exact absurd (of_decide_eq_true h14) (by omega)
  · skip
    exact absurd rfl h4
theorem m_pl18b (hF : gFx S) (K : Nat) (hK : 6 * (8 - rxO x) + (64 - rxB x) + 10 ≤ K) (hr : RxP S H bt ln s N x) (hw : RxW x) (hk : kK s (rxN x) = 18) (h64 : ¬ 64 ≤ rxB x) (IH : MOk S mX11_plain 10 bt ln s N d 3) (hn : NjQ (rd s d 3 (nxB x))) (er : rd s d 3 (nxB x) = .inl (c, m)) : Nv mX11_plain K [.ref 83] S H (fun H2 => mQ S H H2 bt ln s N (.inl (c, m))) := by
  have hms := hr.1.ms.1 (show kK s (rxN x) < 28 by omega)
  have hmv : hI H 83 25 = nI 18 := hms.2.trans (by rw [hk])
  have hwn : RxW (nxB x) := hw.nx (by omega)
  have hsz : SzOk (rxX x) := hw.1
  have hsub : ∀ H3, RxP S H3 bt ln s N (nxB x) → Nv mX11_plain (K - 1) [.ref 83] S H3 (fun H2 => mQ S H3 H2 bt ln s N (rd s d 3 (nxB x))) := fun H3 h3 => IH (nxB x) (K - 1) H3 (by show 6 * (8 - rxO x) + (64 - (rxB x + 1)) + 10 ≤ K - 1; omega) h3 hwn hn
  rw [er] at hsub
  refine vq_intro (by decide) (by exact Nat.le_of_ble_eq_true rfl) rfl ?_
  refine xq_aload_n dX11_plain_0 rfl rfl ?_
  refine xq_getIE (v := nI 0) clX11 (by decide) rfl fl_RX11_182 dX11_plain_1 (Fx.s83 hF) hr.2.2.1 ?_
  refine xq_if_eqN dX11_plain_4 rfl (by omega) ⟨fun h4 => ?_, fun h4 => ?_⟩
  · skip
    refine xq_aload_n dX11_plain_8 rfl rfl ?_
    refine xq_bipush dX11_plain_9 bp40 ?_
    refine xq_callV1P clX11 gd_X11_isSign dX11_plain_11 ml_RX11_241 im_X11_isSign se_X11_isSign rfl (Fx.s83 hF) (by exact Nat.le_of_ble_eq_true rfl) (by omega) (m_isSign (K := 41) hF hr.2.2.1 hr.1 (by decide) (by decide)) ?_
    refine xq_if_eqB dX11_plain_14 rfl ⟨fun h14 => ?_, fun h14 => ?_⟩
    · skip
      refine xq_aload_n dX11_plain_22 rfl rfl ?_
      refine xq_getIE (v := nI 0) clX11 (by decide) rfl fl_RX11_147 dX11_plain_23 (Fx.s83 hF) hms.1 ?_
      refine xq_if_neN dX11_plain_26 rfl (by omega) ⟨fun h26 => ?_, fun h26 => ?_⟩
      · skip
        exact absurd rfl h26
      · skip
        refine xq_aload_n dX11_plain_29 rfl rfl ?_
        refine xq_getIE clX11 (by decide) rfl fl_RX11_157 dX11_plain_30 (Fx.s83 hF) hmv ?_
        refine xq_bipush dX11_plain_33 bp14 ?_
        refine xq_icmp_ltN dX11_plain_35 rfl (by omega) (by omega) ⟨fun h35 => ?_, fun h35 => ?_⟩
        · skip
          exact absurd h35 (by omega)
        · skip
          refine xq_aload_n dX11_plain_38 rfl rfl ?_
          refine xq_getIE clX11 (by decide) rfl fl_RX11_157 dX11_plain_39 (Fx.s83 hF) hmv ?_
          refine xq_bipush dX11_plain_42 bp20 ?_
          refine xq_icmp_leN dX11_plain_44 rfl (by omega) (by omega) ⟨fun h44 => ?_, fun h44 => ?_⟩
          · skip
            refine xq_aload_n dX11_plain_52 rfl rfl ?_
            refine xq_getIE clX11 (by decide) rfl fl_RX11_157 dX11_plain_53 (Fx.s83 hF) hmv ?_
            refine xq_istore_n dX11_plain_56 rfl rfl ?_
            refine xq_aload_n dX11_plain_57 rfl rfl ?_
            refine xq_callV0N clX11 gd_X11_knot dX11_plain_58 ml_RX11_262 im_X11_knot se_X11_knot rfl (Fx.s83 hF) (by exact Nat.le_of_ble_eq_true rfl) (by omega) (m_knot1 hF hr.2.2.1 hr.2.2.2.2 (by omega)) ?_
            intro H58 p58
            subst p58
            have hrk := hr.kn (b := rxB x + 1)
            have skk := (SmK.rf (H := H)).pF (k := 31) (by decide) (nI (rxB x + 1))
            refine xq_aload_n dX11_plain_61 rfl rfl ?_
            refine xq_callV0N clX11 gd_X11_goOn dX11_plain_62 ml_RX11_235 im_X11_goOn se_X11_goOn rfl (Fx.s83 hF) (by exact Nat.le_of_ble_eq_true rfl) (by omega) (m_goOn hrk.2.2.1 hrk.1 (kK_in (show kK s (rxN x) ≠ 44 by omega) hr.1.lx)) ?_
            intro H62 p62
            obtain ⟨g1, g2⟩ := p62
            have hrn : RxP S H62 bt ln s N (nxB x) := hrk.tk g1 g2
            have skn := skk.tr (tok_sk g2)
            refine xq_aload_n dX11_plain_65 rfl rfl ?_
            refine xq_getIE (v := nI 0) clX11 (by decide) rfl fl_RX11_182 dX11_plain_66 (Fx.s83 hF) hrn.2.2.1 ?_
            refine xq_if_eqN dX11_plain_69 rfl (by omega) ⟨fun h69 => ?_, fun h69 => ?_⟩
            · skip
              refine xq_iconst dX11_plain_73 ic0 ?_
              refine xq_istore_n dX11_plain_74 rfl rfl ?_
              refine xq_iload_n dX11_plain_75 rfl rfl ?_
              refine xq_tableIn dX11_plain_76 (by decide) (by decide) rfl rfl ?_
              refine xq_aload_n dX11_plain_211 rfl rfl ?_
              refine xq_callV0N clX11 gd_X11_plain dX11_plain_212 ml_RX11_271 im_X11_plain se_X11_plain rfl (Fx.s83 hF) (by exact Nat.le_of_ble_eq_true rfl) (by omega) (hsub _ hrn) ?_
              intro H212 p212
              obtain ⟨sq, ft⟩ := p212
              have skf := skn.tr sq
              have fa := ft.1; have fb := ft.2.2.1; have fc := ft.2.2.2.1
              refine xq_aload_n dX11_plain_215 rfl rfl ?_
              refine xq_iconst dX11_plain_216 ic3 ?_
              refine xq_iload_n dX11_plain_217 rfl rfl ?_
              refine xq_iaddN dX11_plain_218 ?_
              refine xq_bipush dX11_plain_219 bp14 ?_
              refine xq_isubN dX11_plain_221 (by omega) ?_
              refine xq_iload_n dX11_plain_222 rfl rfl ?_
              refine xq_callV2N clX11 gd_X11_puts dX11_plain_223 ml_RX11_265 im_X11_puts se_X11_puts rfl (Fx.s83 hF) (by exact Nat.le_of_ble_eq_true rfl) (by omega) (m_putsF hF fa fb fc) ?_
              intro H223 p223
              subst p223
              refine xq_vret dX11_plain_226 rfl ?_
              exact ⟨_, ⟨skf, ft⟩, rfl⟩
            · skip
              exact absurd rfl h69
          · skip
            exact absurd h44 (by omega)
    · skip
      exact absurd (of_decide_eq_true h14) (by omega)
  · skip
    exact absurd rfl h4
theorem m_pl18c (hF : gFx S) (K : Nat) (hK : 6 * (8 - rxO x) + (64 - rxB x) + 10 ≤ K) (hr : RxP S H bt ln s N x) (hw : RxW x) (hk : kK s (rxN x) = 18) (h64 : ¬ 64 ≤ rxB x) (IH : MOk S mX11_plain 10 bt ln s N d 3) (hn : NjQ (rd s d 3 (nxB x))) (er : rd s d 3 (nxB x) = .inr z) : Nv mX11_plain K [.ref 83] S H (fun H2 => mQ S H H2 bt ln s N (.inr (adU 18 0 z))) := by
  have hms := hr.1.ms.1 (show kK s (rxN x) < 28 by omega)
  have hmv : hI H 83 25 = nI 18 := hms.2.trans (by rw [hk])
  have hwn : RxW (nxB x) := hw.nx (by omega)
  have hsz : SzOk (rxX x) := hw.1
  have hsub : ∀ H3, RxP S H3 bt ln s N (nxB x) → Nv mX11_plain (K - 1) [.ref 83] S H3 (fun H2 => mQ S H3 H2 bt ln s N (rd s d 3 (nxB x))) := fun H3 h3 => IH (nxB x) (K - 1) H3 (by show 6 * (8 - rxO x) + (64 - (rxB x + 1)) + 10 ≤ K - 1; omega) h3 hwn hn
  rw [er] at hsub
  have hn64 := hn64_u hw (rd_q d 3 (nxB x) z (show rxB x + 1 ≤ 64 by omega) er)
  refine vq_intro (by decide) (by exact Nat.le_of_ble_eq_true rfl) rfl ?_
  refine xq_aload_n dX11_plain_0 rfl rfl ?_
  refine xq_getIE (v := nI 0) clX11 (by decide) rfl fl_RX11_182 dX11_plain_1 (Fx.s83 hF) hr.2.2.1 ?_
  refine xq_if_eqN dX11_plain_4 rfl (by omega) ⟨fun h4 => ?_, fun h4 => ?_⟩
  · skip
    refine xq_aload_n dX11_plain_8 rfl rfl ?_
    refine xq_bipush dX11_plain_9 bp40 ?_
    refine xq_callV1P clX11 gd_X11_isSign dX11_plain_11 ml_RX11_241 im_X11_isSign se_X11_isSign rfl (Fx.s83 hF) (by exact Nat.le_of_ble_eq_true rfl) (by omega) (m_isSign (K := 41) hF hr.2.2.1 hr.1 (by decide) (by decide)) ?_
    refine xq_if_eqB dX11_plain_14 rfl ⟨fun h14 => ?_, fun h14 => ?_⟩
    · skip
      refine xq_aload_n dX11_plain_22 rfl rfl ?_
      refine xq_getIE (v := nI 0) clX11 (by decide) rfl fl_RX11_147 dX11_plain_23 (Fx.s83 hF) hms.1 ?_
      refine xq_if_neN dX11_plain_26 rfl (by omega) ⟨fun h26 => ?_, fun h26 => ?_⟩
      · skip
        exact absurd rfl h26
      · skip
        refine xq_aload_n dX11_plain_29 rfl rfl ?_
        refine xq_getIE clX11 (by decide) rfl fl_RX11_157 dX11_plain_30 (Fx.s83 hF) hmv ?_
        refine xq_bipush dX11_plain_33 bp14 ?_
        refine xq_icmp_ltN dX11_plain_35 rfl (by omega) (by omega) ⟨fun h35 => ?_, fun h35 => ?_⟩
        · skip
          exact absurd h35 (by omega)
        · skip
          refine xq_aload_n dX11_plain_38 rfl rfl ?_
          refine xq_getIE clX11 (by decide) rfl fl_RX11_157 dX11_plain_39 (Fx.s83 hF) hmv ?_
          refine xq_bipush dX11_plain_42 bp20 ?_
          refine xq_icmp_leN dX11_plain_44 rfl (by omega) (by omega) ⟨fun h44 => ?_, fun h44 => ?_⟩
          · skip
            refine xq_aload_n dX11_plain_52 rfl rfl ?_
            refine xq_getIE clX11 (by decide) rfl fl_RX11_157 dX11_plain_53 (Fx.s83 hF) hmv ?_
            refine xq_istore_n dX11_plain_56 rfl rfl ?_
            refine xq_aload_n dX11_plain_57 rfl rfl ?_
            refine xq_callV0N clX11 gd_X11_knot dX11_plain_58 ml_RX11_262 im_X11_knot se_X11_knot rfl (Fx.s83 hF) (by exact Nat.le_of_ble_eq_true rfl) (by omega) (m_knot1 hF hr.2.2.1 hr.2.2.2.2 (by omega)) ?_
            intro H58 p58
            subst p58
            have hrk := hr.kn (b := rxB x + 1)
            have skk := (SmK.rf (H := H)).pF (k := 31) (by decide) (nI (rxB x + 1))
            refine xq_aload_n dX11_plain_61 rfl rfl ?_
            refine xq_callV0N clX11 gd_X11_goOn dX11_plain_62 ml_RX11_235 im_X11_goOn se_X11_goOn rfl (Fx.s83 hF) (by exact Nat.le_of_ble_eq_true rfl) (by omega) (m_goOn hrk.2.2.1 hrk.1 (kK_in (show kK s (rxN x) ≠ 44 by omega) hr.1.lx)) ?_
            intro H62 p62
            obtain ⟨g1, g2⟩ := p62
            have hrn : RxP S H62 bt ln s N (nxB x) := hrk.tk g1 g2
            have skn := skk.tr (tok_sk g2)
            refine xq_aload_n dX11_plain_65 rfl rfl ?_
            refine xq_getIE (v := nI 0) clX11 (by decide) rfl fl_RX11_182 dX11_plain_66 (Fx.s83 hF) hrn.2.2.1 ?_
            refine xq_if_eqN dX11_plain_69 rfl (by omega) ⟨fun h69 => ?_, fun h69 => ?_⟩
            · skip
              refine xq_iconst dX11_plain_73 ic0 ?_
              refine xq_istore_n dX11_plain_74 rfl rfl ?_
              refine xq_iload_n dX11_plain_75 rfl rfl ?_
              refine xq_tableIn dX11_plain_76 (by decide) (by decide) rfl rfl ?_
              refine xq_aload_n dX11_plain_211 rfl rfl ?_
              refine xq_callV0N clX11 gd_X11_plain dX11_plain_212 ml_RX11_271 im_X11_plain se_X11_plain rfl (Fx.s83 hF) (by exact Nat.le_of_ble_eq_true rfl) (by omega) (hsub _ hrn) ?_
              intro H212 p212
              obtain ⟨sq, rz⟩ := p212
              have skz := skn.tr sq
              refine xq_aload_n dX11_plain_215 rfl rfl ?_
              refine xq_iconst dX11_plain_216 ic3 ?_
              refine xq_iload_n dX11_plain_217 rfl rfl ?_
              refine xq_iaddN dX11_plain_218 ?_
              refine xq_bipush dX11_plain_219 bp14 ?_
              refine xq_isubN dX11_plain_221 (by omega) ?_
              refine xq_iload_n dX11_plain_222 rfl rfl ?_
              refine xq_callV2N clX11 gd_X11_puts dX11_plain_223 ml_RX11_265 im_X11_puts se_X11_puts rfl (Fx.s83 hF) (by exact Nat.le_of_ble_eq_true rfl) (by omega) (m_puts hF rz.2.2.1 rz.nk hn64) ?_
              intro H223 p223
              subst p223
              have hput := rz.pt (k := 18) (a := tNk (rxX z) - 1) (b := 0) (w := oB (rxW z) (tNk (rxX z))) hn64
              have skp := SmK.pt (n := tNk (rxX z)) (its := mks 18) (v := mkv 18 (tNk (rxX z) - 1) 0) skz
              refine xq_vret dX11_plain_226 rfl ?_
              exact ⟨_, ⟨skp, hput⟩, rfl⟩
            · skip
              exact absurd rfl h69
          · skip
            exact absurd h44 (by omega)
    · skip
      exact absurd (of_decide_eq_true h14) (by omega)
  · skip
    exact absurd rfl h4
theorem m_plain (hF : gFx S) (IH0 : MOk S mX11_eithers 13 bt ln s N d 0) (IH : MOk S mX11_plain 10 bt ln s N d 3) : MOk S mX11_plain 10 bt ln s N (d + 1) 3 := by
  intro x K H hK hr hw hn
  rw [rd_3] at hn ⊢
  unfold plnL at hn ⊢
  by_cases h41 : kK s (rxN x) = 41
  · rw [if_pos h41] at hn ⊢
    exact m_plainB hF K hK hr hw IH0 h41 hn
  rw [if_neg h41] at hn ⊢
  by_cases hk : kK s (rxN x) < 14 ∨ 20 < kK s (rxN x)
  · rw [if_pos hk]
    exact m_plainX hF K hK hr hw h41 hk
  rw [if_neg hk] at hn ⊢
  by_cases h64 : 64 ≤ rxB x
  · rw [if_pos h64]
    exact m_plain64 hF K hK hr hw (by omega) (by omega) h64
  rw [if_neg h64] at hn ⊢
  by_cases h16 : kK s (rxN x) = 16
  · rw [if_pos h16] at hn ⊢
    by_cases hz : zP s (rxN x + 1) x = -1
    · rw [if_pos hz]; exact m_pl16a hF K hK hr hw h16 h64 hz
    · rw [if_neg hz] at hn ⊢
      cases er : rd s d 3 (rxN x + 2, rxX x, rxB x + 1, rxO x, rxW x) with
      | inl f => obtain ⟨c, m⟩ := f; exact m_pl16b hF K hK hr hw h16 h64 hz IH (nj_b1 hn) er
      | inr z => exact m_pl16c hF K hK hr hw h16 h64 hz IH (nj_b1 hn) er
  rw [if_neg h16] at hn ⊢
  by_cases h178 : kK s (rxN x) = 17 ∨ kK s (rxN x) = 18
  · rw [if_pos h178] at hn ⊢
    rcases h178 with h17 | h17
    · cases er : rd s d 3 (nxB x) with
      | inl f => obtain ⟨c, m⟩ := f; exact m_pl17b hF K hK hr hw h17 h64 IH (nj_b1 hn) er
      | inr z =>
        rw [h17]; exact m_pl17c hF K hK hr hw h17 h64 IH (nj_b1 hn) er
    · cases er : rd s d 3 (nxB x) with
      | inl f => obtain ⟨c, m⟩ := f; exact m_pl18b hF K hK hr hw h17 h64 IH (nj_b1 hn) er
      | inr z =>
        rw [h17]; exact m_pl18c hF K hK hr hw h17 h64 IH (nj_b1 hn) er
  rw [if_neg h178]
  unfold leaL
  by_cases h14 : kK s (rxN x) = 14
  · rw [if_pos h14]
    by_cases hz : zP s (rxN x + 1) x = -1
    · rw [if_pos hz]; exact m_pl14a hF K hK hr hw h14 h64 hz
    · rw [if_neg hz]
      by_cases hy : zC s (rxN x + 2) x = -1
      · rw [if_pos hy]; exact m_pl14b hF K hK hr hw h14 h64 hz hy
      · rw [if_neg hy]; exact m_pl14c hF K hK hr hw h14 h64 hz hy
  rw [if_neg h14]
  by_cases h15 : kK s (rxN x) = 15
  · rw [if_pos h15]
    by_cases hz : zP s (rxN x + 1) x = -1
    · rw [if_pos hz]; exact m_pl15a hF K hK hr hw h15 h64 hz
    · rw [if_neg hz]; exact m_pl15b hF K hK hr hw h15 h64 hz
  rw [if_neg h15]
  by_cases h19 : kK s (rxN x) = 19
  · rw [if_pos h19]
    by_cases hz : zC s (rxN x + 1) x = -1
    · rw [if_pos hz]; exact m_pl19a hF K hK hr hw h19 h64 hz
    · rw [if_neg hz]
      by_cases hy : numB s (rxN x + 2) 6 = false
      · rw [if_pos hy]; exact m_pl19b hF K hK hr hw h19 h64 hz hy
      · rw [if_neg hy]; exact m_pl19c hF K hK hr hw h19 h64 hz hy
  rw [if_neg h19]
  have h20 : kK s (rxN x) = 20 := by omega
  by_cases hz : zA s (rxN x + 1) x = -1
  · rw [if_pos hz]; exact m_pl20a hF K hK hr hw h20 h64 hz
  · rw [if_neg hz]; exact m_pl20b hF K hK hr hw h20 h64 hz
end ML2
