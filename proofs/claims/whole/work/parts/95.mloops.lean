/-! ===== the reference's loops over signs ===== -/
section ML1
variable {S : xS} {H H1 H2 H3 : xH} {bt : Nat → Nat} {ln k p q i j l m n c t d a its v : Nat} {s : uTk} {T T2 : uTx} {N : NLt} {x y z : rxT} {r : rxR}
def MOk (S : xS) (M : xM) (c : Nat) (bt : Nat → Nat) (ln : Nat) (s : uTk) (N : NLt) (d l : Nat) : Prop := ∀ (x : rxT) (K : Nat) (H : xH), 6 * (8 - rxO x) + (64 - rxB x) + c ≤ K → RxP S H bt ln s N x → RxW x → NjQ (rd s d l x) → Nv M K [.ref 83] S H (fun H2 => mQ S H H2 bt ln s N (rd s d l x))
theorem sgn_c (h : 28 ≤ k ∧ k ≤ 37) : sgn k = sgc k ∧ sgc k ≠ 0 ∧ mks k = 2 ∧ ∀ a b, mkv k a b = sgc k := by
  have h0 : ∀ k : Fin 38, 28 ≤ k.val → sgn k.val = sgc k.val ∧ sgc k.val ≠ 0 ∧ mks k.val = 2 := by decide
  obtain ⟨h1, h2, h3⟩ := h0 ⟨k, by omega⟩ h.1
  refine ⟨h1, h2, h3, fun a b => ?_⟩
  unfold mkv
  rw [if_neg (by omega), if_neg (by omega), if_neg (by omega), if_neg (by omega), if_neg (by omega)]
  exact h1
theorem m_boths (hF : gFx S) (IH : ∀ d2, d2 ≤ d → MOk S mX11_unless 11 bt ln s N d2 2) : MOk S mX11_boths 12 bt ln s N (d + 1) 1 := by
  intro x K H hK hr hw hn
  rw [rd_1] at hn ⊢
  have lp : ∀ (e : Nat) (y : rxT) (H1 : xH), e ≤ d → 6 * (8 - rxO y) + (64 - rxB y) + 12 ≤ K → RxP S H1 bt ln s N y → RxW y → NjQ (rd s e 5 y) → SmK H H1 → Xq mX11_boths K 0 0 4 [some (.ref 83)] [] S H1 (fun R => ∃ H2, (mQ S H H2 bt ln s N (rd s e 5 y)) ∧ R = (none, S, H2)) := by
    intro e
    induction e with
    | zero => intro y H1 _ _ _ _ hj; exact absurd rfl (hj 0)
    | succ e ih =>
      intro y H1 he hK1 hr1 hw1 hj hsk
      rw [rd_5] at hj ⊢
      unfold lopG at hj ⊢
      by_cases hg : isE 12 12 (kK s (rxN y)) = true
      · rw [if_pos hg] at hj ⊢
        have hk := isE_t hg
        by_cases h64 : 64 ≤ rxB y
        · rw [if_pos h64]
          refine xq_aload_n dX11_boths_4 rfl rfl ?_
          refine xq_bipush dX11_boths_5 bp12 ?_
          refine xq_callV1P clX11 gd_X11_isWord dX11_boths_7 ml_RX11_259 im_X11_isWord se_X11_isWord rfl (Fx.s83 hF) (by exact Nat.le_of_ble_eq_true rfl) (by omega) (m_isWord (w := 12) hF hr1.2.2.1 hr1.1 (by decide)) ?_
          refine xq_if_eqB dX11_boths_10 rfl ⟨fun h10 => ?_, fun h10 => ?_⟩
          · skip
            exact absurd (of_decide_eq_false h10) (by omega)
          · skip
            refine xq_aload_n dX11_boths_13 rfl rfl ?_
            refine xq_callV0N clX11 gd_X11_knot dX11_boths_14 ml_RX11_262 im_X11_knot se_X11_knot rfl (Fx.s83 hF) (by exact Nat.le_of_ble_eq_true rfl) (by omega) (m_knot0 hF hr1.2.2.1 hr1.1 hr1.2.2.2.2 (by have := hw1.2.1; omega)) ?_
            intro H14 p14
            have ft := FtQ.mf p14 (by decide) (by decide) hr1.1.js
            have skf := hsk.tr (MfQ.sk p14)
            have fa := ft.1; have fb := ft.2.2.1; have fc := ft.2.2.2.1
            refine xq_aload_n dX11_boths_17 rfl rfl ?_
            refine xq_callV0N clX11 gd_X11_goOn dX11_boths_18 ml_RX11_235 im_X11_goOn se_X11_goOn rfl (Fx.s83 hF) (by exact Nat.le_of_ble_eq_true rfl) (by omega) (m_goOn1 hF fa fb fc) ?_
            intro H18 p18
            subst p18
            refine xq_aload_n dX11_boths_21 rfl rfl ?_
            refine xq_callV0N clX11 gd_X11_unless dX11_boths_22 ml_RX11_268 im_X11_unless se_X11_unless rfl (Fx.s83 hF) (by exact Nat.le_of_ble_eq_true rfl) (by omega) (m_unlessF hF fa fb fc) ?_
            intro H22 p22
            subst p22
            refine xq_aload_n dX11_boths_25 rfl rfl ?_
            refine xq_iconst dX11_boths_26 ic2 ?_
            refine xq_sipush dX11_boths_27 sp261 ?_
            refine xq_callV2N clX11 gd_X11_puts dX11_boths_30 ml_RX11_265 im_X11_puts se_X11_puts rfl (Fx.s83 hF) (by exact Nat.le_of_ble_eq_true rfl) (by omega) (m_putsF hF fa fb fc) ?_
            intro H30 p30
            subst p30
            refine xq_goto dX11_boths_33 rfl ?_
            refine xq_aload_n dX11_boths_4 rfl rfl ?_
            refine xq_bipush dX11_boths_5 bp12 ?_
            refine xq_callV1P clX11 gd_X11_isWord dX11_boths_7 ml_RX11_259 im_X11_isWord se_X11_isWord rfl (Fx.s83 hF) (by exact Nat.le_of_ble_eq_true rfl) (by omega) (m_isWord1 hF fa fb fc) ?_
            refine xq_if_eqB dX11_boths_10 rfl ⟨fun h10 => ?_, fun h10 => ?_⟩
            · skip
              refine xq_vret dX11_boths_36 rfl ?_
              exact ⟨_, ⟨skf, ft⟩, rfl⟩
            · skip
              cases h10
        · rw [if_neg h64] at hj ⊢
          have hsub : ∀ H3, RxP S H3 bt ln s N (nxB y) → Nv mX11_unless (K - 1) [.ref 83] S H3 (fun H2 => mQ S H3 H2 bt ln s N (rd s e 2 (nxB y))) := fun H3 h3 => IH e (by omega) (nxB y) (K - 1) H3 (by show 6 * (8 - rxO y) + (64 - (rxB y + 1)) + 11 ≤ K - 1; omega) h3 (hw1.nx (by omega)) (nj_b1 hj)
          cases er : rd s e 2 (nxB y) with
          | inl f =>
            obtain ⟨c, m⟩ := f
            rw [er] at hsub hj
            refine xq_aload_n dX11_boths_4 rfl rfl ?_
            refine xq_bipush dX11_boths_5 bp12 ?_
            refine xq_callV1P clX11 gd_X11_isWord dX11_boths_7 ml_RX11_259 im_X11_isWord se_X11_isWord rfl (Fx.s83 hF) (by exact Nat.le_of_ble_eq_true rfl) (by omega) (m_isWord (w := 12) hF hr1.2.2.1 hr1.1 (by decide)) ?_
            refine xq_if_eqB dX11_boths_10 rfl ⟨fun h10 => ?_, fun h10 => ?_⟩
            · skip
              exact absurd (of_decide_eq_false h10) (by omega)
            · skip
              refine xq_aload_n dX11_boths_13 rfl rfl ?_
              refine xq_callV0N clX11 gd_X11_knot dX11_boths_14 ml_RX11_262 im_X11_knot se_X11_knot rfl (Fx.s83 hF) (by exact Nat.le_of_ble_eq_true rfl) (by omega) (m_knot1 hF hr1.2.2.1 hr1.2.2.2.2 (by omega)) ?_
              intro H14 p14
              subst p14
              have hrk := hr1.kn (b := rxB y + 1)
              have skk := hsk.pF (k := 31) (by decide) (nI (rxB y + 1))
              refine xq_aload_n dX11_boths_17 rfl rfl ?_
              refine xq_callV0N clX11 gd_X11_goOn dX11_boths_18 ml_RX11_235 im_X11_goOn se_X11_goOn rfl (Fx.s83 hF) (by exact Nat.le_of_ble_eq_true rfl) (by omega) (m_goOn hrk.2.2.1 hrk.1 (kK_in (show kK s (rxN y) ≠ 44 by omega) hr1.1.lx)) ?_
              intro H18 p18
              obtain ⟨g1, g2⟩ := p18
              have hrn : RxP S H18 bt ln s N (nxB y) := hrk.tk g1 g2
              have skn := skk.tr (tok_sk g2)
              refine xq_aload_n dX11_boths_21 rfl rfl ?_
              refine xq_callV0N clX11 gd_X11_unless dX11_boths_22 ml_RX11_268 im_X11_unless se_X11_unless rfl (Fx.s83 hF) (by exact Nat.le_of_ble_eq_true rfl) (by omega) (hsub _ hrn) ?_
              intro H22 p22
              obtain ⟨sq, ft⟩ := p22
              have skf := skn.tr sq
              have fa := ft.1; have fb := ft.2.2.1; have fc := ft.2.2.2.1
              refine xq_aload_n dX11_boths_25 rfl rfl ?_
              refine xq_iconst dX11_boths_26 ic2 ?_
              refine xq_sipush dX11_boths_27 sp261 ?_
              refine xq_callV2N clX11 gd_X11_puts dX11_boths_30 ml_RX11_265 im_X11_puts se_X11_puts rfl (Fx.s83 hF) (by exact Nat.le_of_ble_eq_true rfl) (by omega) (m_putsF hF fa fb fc) ?_
              intro H30 p30
              subst p30
              refine xq_goto dX11_boths_33 rfl ?_
              refine xq_aload_n dX11_boths_4 rfl rfl ?_
              refine xq_bipush dX11_boths_5 bp12 ?_
              refine xq_callV1P clX11 gd_X11_isWord dX11_boths_7 ml_RX11_259 im_X11_isWord se_X11_isWord rfl (Fx.s83 hF) (by exact Nat.le_of_ble_eq_true rfl) (by omega) (m_isWord1 hF fa fb fc) ?_
              refine xq_if_eqB dX11_boths_10 rfl ⟨fun h10 => ?_, fun h10 => ?_⟩
              · skip
                refine xq_vret dX11_boths_36 rfl ?_
                exact ⟨_, ⟨skf, ft⟩, rfl⟩
              · skip
                cases h10
          | inr z =>
            have hq := rd_q e 2 (nxB y) z (show rxB y + 1 ≤ 64 by omega) er
            have hqb := hq.b (k := kK s (rxN y))
            have hn64 : tNk (rxX z) < 64 := by
              have q4 : tNk (rxX z) + (rxB y + 1) = tNk (rxX y) + rxB z := hq.2.2.2.1
              have q3 := hq.2.2.1
              have w4 := hw1.2.2.2
              omega
            have eo : rxO (adB (kK s (rxN y)) y z) = rxO y := hqb.1
            have eb : rxB y + 1 ≤ rxB (adB (kK s (rxN y)) y z) := hqb.2.1
            have es : mks (kK s (rxN y)) = 2 := by rw [show kK s (rxN y) = 12 by omega]; rfl
            have ev : mkv (kK s (rxN y)) (tNk (rxX y) - 1) (tNk (rxX z) - 1) = 261 := by rw [show kK s (rxN y) = 12 by omega]; rfl
            rw [er] at hsub hj
            have hj : NjQ (rd s e 5 (adB (kK s (rxN y)) y z)) := hj
            refine xq_aload_n dX11_boths_4 rfl rfl ?_
            refine xq_bipush dX11_boths_5 bp12 ?_
            refine xq_callV1P clX11 gd_X11_isWord dX11_boths_7 ml_RX11_259 im_X11_isWord se_X11_isWord rfl (Fx.s83 hF) (by exact Nat.le_of_ble_eq_true rfl) (by omega) (m_isWord (w := 12) hF hr1.2.2.1 hr1.1 (by decide)) ?_
            refine xq_if_eqB dX11_boths_10 rfl ⟨fun h10 => ?_, fun h10 => ?_⟩
            · skip
              exact absurd (of_decide_eq_false h10) (by omega)
            · skip
              refine xq_aload_n dX11_boths_13 rfl rfl ?_
              refine xq_callV0N clX11 gd_X11_knot dX11_boths_14 ml_RX11_262 im_X11_knot se_X11_knot rfl (Fx.s83 hF) (by exact Nat.le_of_ble_eq_true rfl) (by omega) (m_knot1 hF hr1.2.2.1 hr1.2.2.2.2 (by omega)) ?_
              intro H14 p14
              subst p14
              have hrk := hr1.kn (b := rxB y + 1)
              have skk := hsk.pF (k := 31) (by decide) (nI (rxB y + 1))
              refine xq_aload_n dX11_boths_17 rfl rfl ?_
              refine xq_callV0N clX11 gd_X11_goOn dX11_boths_18 ml_RX11_235 im_X11_goOn se_X11_goOn rfl (Fx.s83 hF) (by exact Nat.le_of_ble_eq_true rfl) (by omega) (m_goOn hrk.2.2.1 hrk.1 (kK_in (show kK s (rxN y) ≠ 44 by omega) hr1.1.lx)) ?_
              intro H18 p18
              obtain ⟨g1, g2⟩ := p18
              have hrn : RxP S H18 bt ln s N (nxB y) := hrk.tk g1 g2
              have skn := skk.tr (tok_sk g2)
              refine xq_aload_n dX11_boths_21 rfl rfl ?_
              refine xq_callV0N clX11 gd_X11_unless dX11_boths_22 ml_RX11_268 im_X11_unless se_X11_unless rfl (Fx.s83 hF) (by exact Nat.le_of_ble_eq_true rfl) (by omega) (hsub _ hrn) ?_
              intro H22 p22
              obtain ⟨sq, rz⟩ := p22
              have skz := skn.tr sq
              refine xq_aload_n dX11_boths_25 rfl rfl ?_
              refine xq_iconst dX11_boths_26 ic2 ?_
              refine xq_sipush dX11_boths_27 sp261 ?_
              refine xq_callV2N clX11 gd_X11_puts dX11_boths_30 ml_RX11_265 im_X11_puts se_X11_puts rfl (Fx.s83 hF) (by exact Nat.le_of_ble_eq_true rfl) (by omega) (m_puts hF rz.2.2.1 rz.nk hn64) ?_
              intro H30 p30
              subst p30
              have hput : RxP S (ptH H22 (tNk (rxX z)) 2 261) bt ln s N (adB (kK s (rxN y)) y z) := by
                have h := rz.pt (k := kK s (rxN y)) (a := tNk (rxX y) - 1) (b := tNk (rxX z) - 1) (w := oB (rxW z) (tNk (rxX z))) hn64
                rw [es, ev] at h
                exact h
              refine xq_goto dX11_boths_33 rfl ?_
              exact ih (adB (kK s (rxN y)) y z) _ (by omega) (by omega) hput (hw1.rq hqb) hj (skz.pt)
      · have hk2 := isE_n (by simpa using hg)
        rw [if_neg hg]
        refine xq_aload_n dX11_boths_4 rfl rfl ?_
        refine xq_bipush dX11_boths_5 bp12 ?_
        refine xq_callV1P clX11 gd_X11_isWord dX11_boths_7 ml_RX11_259 im_X11_isWord se_X11_isWord rfl (Fx.s83 hF) (by exact Nat.le_of_ble_eq_true rfl) (by omega) (m_isWord (w := 12) hF hr1.2.2.1 hr1.1 (by decide)) ?_
        refine xq_if_eqB dX11_boths_10 rfl ⟨fun h10 => ?_, fun h10 => ?_⟩
        · skip
          refine xq_vret dX11_boths_36 rfl ?_
          exact ⟨_, ⟨hsk, hr1⟩, rfl⟩
        · skip
          exact absurd (of_decide_eq_true h10) (by omega)
  have hsub : ∀ H3, RxP S H3 bt ln s N x → Nv mX11_unless (K - 1) [.ref 83] S H3 (fun H2 => mQ S H3 H2 bt ln s N (rd s d 2 x)) := fun H3 h3 => IH d (Nat.le_refl _) x (K - 1) H3 (by omega) h3 hw (nj_b1 hn)
  refine vq_intro (by decide) (by exact Nat.le_of_ble_eq_true rfl) rfl ?_
  cases er : rd s d 2 x with
  | inl f =>
    obtain ⟨c, m⟩ := f
    rw [er] at hsub hn
    refine xq_aload_n dX11_boths_0 rfl rfl ?_
    refine xq_callV0N clX11 gd_X11_unless dX11_boths_1 ml_RX11_268 im_X11_unless se_X11_unless rfl (Fx.s83 hF) (by exact Nat.le_of_ble_eq_true rfl) (by omega) (hsub _ hr) ?_
    intro H1 p1
    obtain ⟨skf, ft⟩ := p1
    have fa := ft.1; have fb := ft.2.2.1; have fc := ft.2.2.2.1
    refine xq_aload_n dX11_boths_4 rfl rfl ?_
    refine xq_bipush dX11_boths_5 bp12 ?_
    refine xq_callV1P clX11 gd_X11_isWord dX11_boths_7 ml_RX11_259 im_X11_isWord se_X11_isWord rfl (Fx.s83 hF) (by exact Nat.le_of_ble_eq_true rfl) (by omega) (m_isWord1 hF fa fb fc) ?_
    refine xq_if_eqB dX11_boths_10 rfl ⟨fun h10 => ?_, fun h10 => ?_⟩
    · skip
      refine xq_vret dX11_boths_36 rfl ?_
      exact ⟨_, ⟨skf, ft⟩, rfl⟩
    · skip
      cases h10
  | inr y =>
    have hq := rd_q d 2 x y hw.2.1 er
    have eo : rxO y = rxO x := hq.1
    have eb : rxB x ≤ rxB y := Nat.le_trans (Nat.le_add_right _ _) hq.2.1
    rw [er] at hsub hn
    refine xq_aload_n dX11_boths_0 rfl rfl ?_
    refine xq_callV0N clX11 gd_X11_unless dX11_boths_1 ml_RX11_268 im_X11_unless se_X11_unless rfl (Fx.s83 hF) (by exact Nat.le_of_ble_eq_true rfl) (by omega) (hsub _ hr) ?_
    intro H1 p1
    obtain ⟨sq, rz⟩ := p1
    exact lp d y H1 (Nat.le_refl _) (by omega) rz (hw.rq hq) hn sq
theorem m_eithers (hF : gFx S) (IH : ∀ d2, d2 ≤ d → MOk S mX11_boths 12 bt ln s N d2 1) : MOk S mX11_eithers 13 bt ln s N (d + 1) 0 := by
  intro x K H hK hr hw hn
  rw [rd_0] at hn ⊢
  have lp : ∀ (e : Nat) (y : rxT) (H1 : xH), e ≤ d → 6 * (8 - rxO y) + (64 - rxB y) + 13 ≤ K → RxP S H1 bt ln s N y → RxW y → NjQ (rd s e 4 y) → SmK H H1 → Xq mX11_eithers K 0 0 4 [some (.ref 83)] [] S H1 (fun R => ∃ H2, (mQ S H H2 bt ln s N (rd s e 4 y)) ∧ R = (none, S, H2)) := by
    intro e
    induction e with
    | zero => intro y H1 _ _ _ _ hj; exact absurd rfl (hj 0)
    | succ e ih =>
      intro y H1 he hK1 hr1 hw1 hj hsk
      rw [rd_4] at hj ⊢
      unfold lopG at hj ⊢
      by_cases hg : isE 11 11 (kK s (rxN y)) = true
      · rw [if_pos hg] at hj ⊢
        have hk := isE_t hg
        by_cases h64 : 64 ≤ rxB y
        · rw [if_pos h64]
          refine xq_aload_n dX11_eithers_4 rfl rfl ?_
          refine xq_bipush dX11_eithers_5 bp11 ?_
          refine xq_callV1P clX11 gd_X11_isWord dX11_eithers_7 ml_RX11_259 im_X11_isWord se_X11_isWord rfl (Fx.s83 hF) (by exact Nat.le_of_ble_eq_true rfl) (by omega) (m_isWord (w := 11) hF hr1.2.2.1 hr1.1 (by decide)) ?_
          refine xq_if_eqB dX11_eithers_10 rfl ⟨fun h10 => ?_, fun h10 => ?_⟩
          · skip
            exact absurd (of_decide_eq_false h10) (by omega)
          · skip
            refine xq_aload_n dX11_eithers_13 rfl rfl ?_
            refine xq_callV0N clX11 gd_X11_knot dX11_eithers_14 ml_RX11_262 im_X11_knot se_X11_knot rfl (Fx.s83 hF) (by exact Nat.le_of_ble_eq_true rfl) (by omega) (m_knot0 hF hr1.2.2.1 hr1.1 hr1.2.2.2.2 (by have := hw1.2.1; omega)) ?_
            intro H14 p14
            have ft := FtQ.mf p14 (by decide) (by decide) hr1.1.js
            have skf := hsk.tr (MfQ.sk p14)
            have fa := ft.1; have fb := ft.2.2.1; have fc := ft.2.2.2.1
            refine xq_aload_n dX11_eithers_17 rfl rfl ?_
            refine xq_callV0N clX11 gd_X11_goOn dX11_eithers_18 ml_RX11_235 im_X11_goOn se_X11_goOn rfl (Fx.s83 hF) (by exact Nat.le_of_ble_eq_true rfl) (by omega) (m_goOn1 hF fa fb fc) ?_
            intro H18 p18
            subst p18
            refine xq_aload_n dX11_eithers_21 rfl rfl ?_
            refine xq_callV0N clX11 gd_X11_boths dX11_eithers_22 ml_RX11_256 im_X11_boths se_X11_boths rfl (Fx.s83 hF) (by exact Nat.le_of_ble_eq_true rfl) (by omega) (m_bothsF hF fa fb fc) ?_
            intro H22 p22
            subst p22
            refine xq_aload_n dX11_eithers_25 rfl rfl ?_
            refine xq_iconst dX11_eithers_26 ic2 ?_
            refine xq_sipush dX11_eithers_27 sp262 ?_
            refine xq_callV2N clX11 gd_X11_puts dX11_eithers_30 ml_RX11_265 im_X11_puts se_X11_puts rfl (Fx.s83 hF) (by exact Nat.le_of_ble_eq_true rfl) (by omega) (m_putsF hF fa fb fc) ?_
            intro H30 p30
            subst p30
            refine xq_goto dX11_eithers_33 rfl ?_
            refine xq_aload_n dX11_eithers_4 rfl rfl ?_
            refine xq_bipush dX11_eithers_5 bp11 ?_
            refine xq_callV1P clX11 gd_X11_isWord dX11_eithers_7 ml_RX11_259 im_X11_isWord se_X11_isWord rfl (Fx.s83 hF) (by exact Nat.le_of_ble_eq_true rfl) (by omega) (m_isWord1 hF fa fb fc) ?_
            refine xq_if_eqB dX11_eithers_10 rfl ⟨fun h10 => ?_, fun h10 => ?_⟩
            · skip
              refine xq_vret dX11_eithers_36 rfl ?_
              exact ⟨_, ⟨skf, ft⟩, rfl⟩
            · skip
              cases h10
        · rw [if_neg h64] at hj ⊢
          have hsub : ∀ H3, RxP S H3 bt ln s N (nxB y) → Nv mX11_boths (K - 1) [.ref 83] S H3 (fun H2 => mQ S H3 H2 bt ln s N (rd s e 1 (nxB y))) := fun H3 h3 => IH e (by omega) (nxB y) (K - 1) H3 (by show 6 * (8 - rxO y) + (64 - (rxB y + 1)) + 12 ≤ K - 1; omega) h3 (hw1.nx (by omega)) (nj_b1 hj)
          cases er : rd s e 1 (nxB y) with
          | inl f =>
            obtain ⟨c, m⟩ := f
            rw [er] at hsub hj
            refine xq_aload_n dX11_eithers_4 rfl rfl ?_
            refine xq_bipush dX11_eithers_5 bp11 ?_
            refine xq_callV1P clX11 gd_X11_isWord dX11_eithers_7 ml_RX11_259 im_X11_isWord se_X11_isWord rfl (Fx.s83 hF) (by exact Nat.le_of_ble_eq_true rfl) (by omega) (m_isWord (w := 11) hF hr1.2.2.1 hr1.1 (by decide)) ?_
            refine xq_if_eqB dX11_eithers_10 rfl ⟨fun h10 => ?_, fun h10 => ?_⟩
            · skip
              exact absurd (of_decide_eq_false h10) (by omega)
            · skip
              refine xq_aload_n dX11_eithers_13 rfl rfl ?_
              refine xq_callV0N clX11 gd_X11_knot dX11_eithers_14 ml_RX11_262 im_X11_knot se_X11_knot rfl (Fx.s83 hF) (by exact Nat.le_of_ble_eq_true rfl) (by omega) (m_knot1 hF hr1.2.2.1 hr1.2.2.2.2 (by omega)) ?_
              intro H14 p14
              subst p14
              have hrk := hr1.kn (b := rxB y + 1)
              have skk := hsk.pF (k := 31) (by decide) (nI (rxB y + 1))
              refine xq_aload_n dX11_eithers_17 rfl rfl ?_
              refine xq_callV0N clX11 gd_X11_goOn dX11_eithers_18 ml_RX11_235 im_X11_goOn se_X11_goOn rfl (Fx.s83 hF) (by exact Nat.le_of_ble_eq_true rfl) (by omega) (m_goOn hrk.2.2.1 hrk.1 (kK_in (show kK s (rxN y) ≠ 44 by omega) hr1.1.lx)) ?_
              intro H18 p18
              obtain ⟨g1, g2⟩ := p18
              have hrn : RxP S H18 bt ln s N (nxB y) := hrk.tk g1 g2
              have skn := skk.tr (tok_sk g2)
              refine xq_aload_n dX11_eithers_21 rfl rfl ?_
              refine xq_callV0N clX11 gd_X11_boths dX11_eithers_22 ml_RX11_256 im_X11_boths se_X11_boths rfl (Fx.s83 hF) (by exact Nat.le_of_ble_eq_true rfl) (by omega) (hsub _ hrn) ?_
              intro H22 p22
              obtain ⟨sq, ft⟩ := p22
              have skf := skn.tr sq
              have fa := ft.1; have fb := ft.2.2.1; have fc := ft.2.2.2.1
              refine xq_aload_n dX11_eithers_25 rfl rfl ?_
              refine xq_iconst dX11_eithers_26 ic2 ?_
              refine xq_sipush dX11_eithers_27 sp262 ?_
              refine xq_callV2N clX11 gd_X11_puts dX11_eithers_30 ml_RX11_265 im_X11_puts se_X11_puts rfl (Fx.s83 hF) (by exact Nat.le_of_ble_eq_true rfl) (by omega) (m_putsF hF fa fb fc) ?_
              intro H30 p30
              subst p30
              refine xq_goto dX11_eithers_33 rfl ?_
              refine xq_aload_n dX11_eithers_4 rfl rfl ?_
              refine xq_bipush dX11_eithers_5 bp11 ?_
              refine xq_callV1P clX11 gd_X11_isWord dX11_eithers_7 ml_RX11_259 im_X11_isWord se_X11_isWord rfl (Fx.s83 hF) (by exact Nat.le_of_ble_eq_true rfl) (by omega) (m_isWord1 hF fa fb fc) ?_
              refine xq_if_eqB dX11_eithers_10 rfl ⟨fun h10 => ?_, fun h10 => ?_⟩
              · skip
                refine xq_vret dX11_eithers_36 rfl ?_
                exact ⟨_, ⟨skf, ft⟩, rfl⟩
              · skip
                cases h10
          | inr z =>
            have hq := rd_q e 1 (nxB y) z (show rxB y + 1 ≤ 64 by omega) er
            have hqb := hq.b (k := kK s (rxN y))
            have hn64 : tNk (rxX z) < 64 := by
              have q4 : tNk (rxX z) + (rxB y + 1) = tNk (rxX y) + rxB z := hq.2.2.2.1
              have q3 := hq.2.2.1
              have w4 := hw1.2.2.2
              omega
            have eo : rxO (adB (kK s (rxN y)) y z) = rxO y := hqb.1
            have eb : rxB y + 1 ≤ rxB (adB (kK s (rxN y)) y z) := hqb.2.1
            have es : mks (kK s (rxN y)) = 2 := by rw [show kK s (rxN y) = 11 by omega]; rfl
            have ev : mkv (kK s (rxN y)) (tNk (rxX y) - 1) (tNk (rxX z) - 1) = 262 := by rw [show kK s (rxN y) = 11 by omega]; rfl
            rw [er] at hsub hj
            have hj : NjQ (rd s e 4 (adB (kK s (rxN y)) y z)) := hj
            refine xq_aload_n dX11_eithers_4 rfl rfl ?_
            refine xq_bipush dX11_eithers_5 bp11 ?_
            refine xq_callV1P clX11 gd_X11_isWord dX11_eithers_7 ml_RX11_259 im_X11_isWord se_X11_isWord rfl (Fx.s83 hF) (by exact Nat.le_of_ble_eq_true rfl) (by omega) (m_isWord (w := 11) hF hr1.2.2.1 hr1.1 (by decide)) ?_
            refine xq_if_eqB dX11_eithers_10 rfl ⟨fun h10 => ?_, fun h10 => ?_⟩
            · skip
              exact absurd (of_decide_eq_false h10) (by omega)
            · skip
              refine xq_aload_n dX11_eithers_13 rfl rfl ?_
              refine xq_callV0N clX11 gd_X11_knot dX11_eithers_14 ml_RX11_262 im_X11_knot se_X11_knot rfl (Fx.s83 hF) (by exact Nat.le_of_ble_eq_true rfl) (by omega) (m_knot1 hF hr1.2.2.1 hr1.2.2.2.2 (by omega)) ?_
              intro H14 p14
              subst p14
              have hrk := hr1.kn (b := rxB y + 1)
              have skk := hsk.pF (k := 31) (by decide) (nI (rxB y + 1))
              refine xq_aload_n dX11_eithers_17 rfl rfl ?_
              refine xq_callV0N clX11 gd_X11_goOn dX11_eithers_18 ml_RX11_235 im_X11_goOn se_X11_goOn rfl (Fx.s83 hF) (by exact Nat.le_of_ble_eq_true rfl) (by omega) (m_goOn hrk.2.2.1 hrk.1 (kK_in (show kK s (rxN y) ≠ 44 by omega) hr1.1.lx)) ?_
              intro H18 p18
              obtain ⟨g1, g2⟩ := p18
              have hrn : RxP S H18 bt ln s N (nxB y) := hrk.tk g1 g2
              have skn := skk.tr (tok_sk g2)
              refine xq_aload_n dX11_eithers_21 rfl rfl ?_
              refine xq_callV0N clX11 gd_X11_boths dX11_eithers_22 ml_RX11_256 im_X11_boths se_X11_boths rfl (Fx.s83 hF) (by exact Nat.le_of_ble_eq_true rfl) (by omega) (hsub _ hrn) ?_
              intro H22 p22
              obtain ⟨sq, rz⟩ := p22
              have skz := skn.tr sq
              refine xq_aload_n dX11_eithers_25 rfl rfl ?_
              refine xq_iconst dX11_eithers_26 ic2 ?_
              refine xq_sipush dX11_eithers_27 sp262 ?_
              refine xq_callV2N clX11 gd_X11_puts dX11_eithers_30 ml_RX11_265 im_X11_puts se_X11_puts rfl (Fx.s83 hF) (by exact Nat.le_of_ble_eq_true rfl) (by omega) (m_puts hF rz.2.2.1 rz.nk hn64) ?_
              intro H30 p30
              subst p30
              have hput : RxP S (ptH H22 (tNk (rxX z)) 2 262) bt ln s N (adB (kK s (rxN y)) y z) := by
                have h := rz.pt (k := kK s (rxN y)) (a := tNk (rxX y) - 1) (b := tNk (rxX z) - 1) (w := oB (rxW z) (tNk (rxX z))) hn64
                rw [es, ev] at h
                exact h
              refine xq_goto dX11_eithers_33 rfl ?_
              exact ih (adB (kK s (rxN y)) y z) _ (by omega) (by omega) hput (hw1.rq hqb) hj (skz.pt)
      · have hk2 := isE_n (by simpa using hg)
        rw [if_neg hg]
        refine xq_aload_n dX11_eithers_4 rfl rfl ?_
        refine xq_bipush dX11_eithers_5 bp11 ?_
        refine xq_callV1P clX11 gd_X11_isWord dX11_eithers_7 ml_RX11_259 im_X11_isWord se_X11_isWord rfl (Fx.s83 hF) (by exact Nat.le_of_ble_eq_true rfl) (by omega) (m_isWord (w := 11) hF hr1.2.2.1 hr1.1 (by decide)) ?_
        refine xq_if_eqB dX11_eithers_10 rfl ⟨fun h10 => ?_, fun h10 => ?_⟩
        · skip
          refine xq_vret dX11_eithers_36 rfl ?_
          exact ⟨_, ⟨hsk, hr1⟩, rfl⟩
        · skip
          exact absurd (of_decide_eq_true h10) (by omega)
  have hsub : ∀ H3, RxP S H3 bt ln s N x → Nv mX11_boths (K - 1) [.ref 83] S H3 (fun H2 => mQ S H3 H2 bt ln s N (rd s d 1 x)) := fun H3 h3 => IH d (Nat.le_refl _) x (K - 1) H3 (by omega) h3 hw (nj_b1 hn)
  refine vq_intro (by decide) (by exact Nat.le_of_ble_eq_true rfl) rfl ?_
  cases er : rd s d 1 x with
  | inl f =>
    obtain ⟨c, m⟩ := f
    rw [er] at hsub hn
    refine xq_aload_n dX11_eithers_0 rfl rfl ?_
    refine xq_callV0N clX11 gd_X11_boths dX11_eithers_1 ml_RX11_256 im_X11_boths se_X11_boths rfl (Fx.s83 hF) (by exact Nat.le_of_ble_eq_true rfl) (by omega) (hsub _ hr) ?_
    intro H1 p1
    obtain ⟨skf, ft⟩ := p1
    have fa := ft.1; have fb := ft.2.2.1; have fc := ft.2.2.2.1
    refine xq_aload_n dX11_eithers_4 rfl rfl ?_
    refine xq_bipush dX11_eithers_5 bp11 ?_
    refine xq_callV1P clX11 gd_X11_isWord dX11_eithers_7 ml_RX11_259 im_X11_isWord se_X11_isWord rfl (Fx.s83 hF) (by exact Nat.le_of_ble_eq_true rfl) (by omega) (m_isWord1 hF fa fb fc) ?_
    refine xq_if_eqB dX11_eithers_10 rfl ⟨fun h10 => ?_, fun h10 => ?_⟩
    · skip
      refine xq_vret dX11_eithers_36 rfl ?_
      exact ⟨_, ⟨skf, ft⟩, rfl⟩
    · skip
      cases h10
  | inr y =>
    have hq := rd_q d 1 x y hw.2.1 er
    have eo : rxO y = rxO x := hq.1
    have eb : rxB x ≤ rxB y := Nat.le_trans (Nat.le_add_right _ _) hq.2.1
    rw [er] at hsub hn
    refine xq_aload_n dX11_eithers_0 rfl rfl ?_
    refine xq_callV0N clX11 gd_X11_boths dX11_eithers_1 ml_RX11_256 im_X11_boths se_X11_boths rfl (Fx.s83 hF) (by exact Nat.le_of_ble_eq_true rfl) (by omega) (hsub _ hr) ?_
    intro H1 p1
    obtain ⟨sq, rz⟩ := p1
    exact lp d y H1 (Nat.le_refl _) (by omega) rz (hw.rq hq) hn sq
theorem m_product (hF : gFx S) (IH : ∀ d2, d2 ≤ d → MOk S mX11_primary 10 bt ln s N d2 11) : MOk S mX11_product 11 bt ln s N (d + 1) 10 := by
  intro x K H hK hr hw hn
  rw [rd_10] at hn ⊢
  have lp : ∀ (e : Nat) (y : rxT) (H1 : xH), e ≤ d → 6 * (8 - rxO y) + (64 - rxB y) + 11 ≤ K → RxP S H1 bt ln s N y → RxW y → NjQ (rd s e 15 y) → SmK H H1 → Xq mX11_product K 0 0 4 [some (.ref 83), none] [] S H1 (fun R => ∃ H2, (mQ S H H2 bt ln s N (rd s e 15 y)) ∧ R = (none, S, H2)) := by
    intro e
    induction e with
    | zero => intro y H1 _ _ _ _ hj; exact absurd rfl (hj 0)
    | succ e ih =>
      intro y H1 he hK1 hr1 hw1 hj hsk
      rw [rd_15] at hj ⊢
      unfold lopG at hj ⊢
      by_cases hg : isE 30 31 (kK s (rxN y)) = true
      · rw [if_pos hg] at hj ⊢
        have hk := isE_t hg
        have hva := (hr1.1.ms.2.2.2.2.2 (sgn_c (k := kK s (rxN y)) (by omega)).2.1).2
        by_cases h64 : 64 ≤ rxB y
        · rw [if_pos h64]
          refine xq_aload_n dX11_product_4 rfl rfl ?_
          refine xq_bipush dX11_product_5 bp42 ?_
          refine xq_callV1P clX11 gd_X11_isSign dX11_product_7 ml_RX11_241 im_X11_isSign se_X11_isSign rfl (Fx.s83 hF) (by exact Nat.le_of_ble_eq_true rfl) (by omega) (m_isSign (K := 30) hF hr1.2.2.1 hr1.1 (by decide) (by decide)) ?_
          refine xq_if_neB dX11_product_10 rfl ⟨fun h10 => ?_, fun h10 => ?_⟩
          · skip
            refine xq_aload_n dX11_product_22 rfl rfl ?_
            refine xq_getIE (v := nI (sgc (kK s (rxN y)))) clX11 (by decide) rfl fl_RX11_157 dX11_product_23 (Fx.s83 hF) hva ?_
            refine xq_istore_n dX11_product_26 rfl rfl ?_
            refine xq_aload_n dX11_product_27 rfl rfl ?_
            refine xq_callV0N clX11 gd_X11_knot dX11_product_28 ml_RX11_262 im_X11_knot se_X11_knot rfl (Fx.s83 hF) (by exact Nat.le_of_ble_eq_true rfl) (by omega) (m_knot0 hF hr1.2.2.1 hr1.1 hr1.2.2.2.2 (by have := hw1.2.1; omega)) ?_
            intro H28 p28
            have ft := FtQ.mf p28 (by decide) (by decide) hr1.1.js
            have skf := hsk.tr (MfQ.sk p28)
            have fa := ft.1; have fb := ft.2.2.1; have fc := ft.2.2.2.1
            refine xq_aload_n dX11_product_31 rfl rfl ?_
            refine xq_callV0N clX11 gd_X11_goOn dX11_product_32 ml_RX11_235 im_X11_goOn se_X11_goOn rfl (Fx.s83 hF) (by exact Nat.le_of_ble_eq_true rfl) (by omega) (m_goOn1 hF fa fb fc) ?_
            intro H32 p32
            subst p32
            refine xq_aload_n dX11_product_35 rfl rfl ?_
            refine xq_callV0N clX11 gd_X11_primary dX11_product_36 ml_RX11_295 im_X11_primary se_X11_primary rfl (Fx.s83 hF) (by exact Nat.le_of_ble_eq_true rfl) (by omega) (m_primaryF hF fa fb fc) ?_
            intro H36 p36
            subst p36
            refine xq_aload_n dX11_product_39 rfl rfl ?_
            refine xq_iconst dX11_product_40 ic2 ?_
            refine xq_iload_n dX11_product_41 rfl rfl ?_
            refine xq_callV2N clX11 gd_X11_puts dX11_product_42 ml_RX11_265 im_X11_puts se_X11_puts rfl (Fx.s83 hF) (by exact Nat.le_of_ble_eq_true rfl) (by omega) (m_putsF hF fa fb fc) ?_
            intro H42 p42
            subst p42
            refine xq_goto dX11_product_45 rfl ?_
            refine xq_fgt (L' := [some (.ref 83), none]) ?_ (by exact And.intro rfl trivial)
            refine xq_aload_n dX11_product_4 rfl rfl ?_
            refine xq_bipush dX11_product_5 bp42 ?_
            refine xq_callV1P clX11 gd_X11_isSign dX11_product_7 ml_RX11_241 im_X11_isSign se_X11_isSign rfl (Fx.s83 hF) (by exact Nat.le_of_ble_eq_true rfl) (by omega) (m_isSign1 hF fa fb fc) ?_
            refine xq_if_neB dX11_product_10 rfl ⟨fun h10 => ?_, fun h10 => ?_⟩
            · skip
              cases h10
            · skip
              refine xq_aload_n dX11_product_13 rfl rfl ?_
              refine xq_bipush dX11_product_14 bp47 ?_
              refine xq_callV1P clX11 gd_X11_isSign dX11_product_16 ml_RX11_241 im_X11_isSign se_X11_isSign rfl (Fx.s83 hF) (by exact Nat.le_of_ble_eq_true rfl) (by omega) (m_isSign1 hF fa fb fc) ?_
              refine xq_if_eqB dX11_product_19 rfl ⟨fun h19 => ?_, fun h19 => ?_⟩
              · skip
                refine xq_vret dX11_product_48 rfl ?_
                exact ⟨_, ⟨skf, ft⟩, rfl⟩
              · skip
                cases h19
          · skip
            refine xq_aload_n dX11_product_13 rfl rfl ?_
            refine xq_bipush dX11_product_14 bp47 ?_
            refine xq_callV1P clX11 gd_X11_isSign dX11_product_16 ml_RX11_241 im_X11_isSign se_X11_isSign rfl (Fx.s83 hF) (by exact Nat.le_of_ble_eq_true rfl) (by omega) (m_isSign (K := 31) hF hr1.2.2.1 hr1.1 (by decide) (by decide)) ?_
            refine xq_if_eqB dX11_product_19 rfl ⟨fun h19 => ?_, fun h19 => ?_⟩
            · skip
              have z1 := of_decide_eq_false h10
              have z2 := of_decide_eq_false h19
              exact absurd hk (by omega)
            · skip
              refine xq_aload_n dX11_product_22 rfl rfl ?_
              refine xq_getIE (v := nI (sgc (kK s (rxN y)))) clX11 (by decide) rfl fl_RX11_157 dX11_product_23 (Fx.s83 hF) hva ?_
              refine xq_istore_n dX11_product_26 rfl rfl ?_
              refine xq_aload_n dX11_product_27 rfl rfl ?_
              refine xq_callV0N clX11 gd_X11_knot dX11_product_28 ml_RX11_262 im_X11_knot se_X11_knot rfl (Fx.s83 hF) (by exact Nat.le_of_ble_eq_true rfl) (by omega) (m_knot0 hF hr1.2.2.1 hr1.1 hr1.2.2.2.2 (by have := hw1.2.1; omega)) ?_
              intro H28 p28
              have ft := FtQ.mf p28 (by decide) (by decide) hr1.1.js
              have skf := hsk.tr (MfQ.sk p28)
              have fa := ft.1; have fb := ft.2.2.1; have fc := ft.2.2.2.1
              refine xq_aload_n dX11_product_31 rfl rfl ?_
              refine xq_callV0N clX11 gd_X11_goOn dX11_product_32 ml_RX11_235 im_X11_goOn se_X11_goOn rfl (Fx.s83 hF) (by exact Nat.le_of_ble_eq_true rfl) (by omega) (m_goOn1 hF fa fb fc) ?_
              intro H32 p32
              subst p32
              refine xq_aload_n dX11_product_35 rfl rfl ?_
              refine xq_callV0N clX11 gd_X11_primary dX11_product_36 ml_RX11_295 im_X11_primary se_X11_primary rfl (Fx.s83 hF) (by exact Nat.le_of_ble_eq_true rfl) (by omega) (m_primaryF hF fa fb fc) ?_
              intro H36 p36
              subst p36
              refine xq_aload_n dX11_product_39 rfl rfl ?_
              refine xq_iconst dX11_product_40 ic2 ?_
              refine xq_iload_n dX11_product_41 rfl rfl ?_
              refine xq_callV2N clX11 gd_X11_puts dX11_product_42 ml_RX11_265 im_X11_puts se_X11_puts rfl (Fx.s83 hF) (by exact Nat.le_of_ble_eq_true rfl) (by omega) (m_putsF hF fa fb fc) ?_
              intro H42 p42
              subst p42
              refine xq_goto dX11_product_45 rfl ?_
              refine xq_fgt (L' := [some (.ref 83), none]) ?_ (by exact And.intro rfl trivial)
              refine xq_aload_n dX11_product_4 rfl rfl ?_
              refine xq_bipush dX11_product_5 bp42 ?_
              refine xq_callV1P clX11 gd_X11_isSign dX11_product_7 ml_RX11_241 im_X11_isSign se_X11_isSign rfl (Fx.s83 hF) (by exact Nat.le_of_ble_eq_true rfl) (by omega) (m_isSign1 hF fa fb fc) ?_
              refine xq_if_neB dX11_product_10 rfl ⟨fun h10 => ?_, fun h10 => ?_⟩
              · skip
                cases h10
              · skip
                refine xq_aload_n dX11_product_13 rfl rfl ?_
                refine xq_bipush dX11_product_14 bp47 ?_
                refine xq_callV1P clX11 gd_X11_isSign dX11_product_16 ml_RX11_241 im_X11_isSign se_X11_isSign rfl (Fx.s83 hF) (by exact Nat.le_of_ble_eq_true rfl) (by omega) (m_isSign1 hF fa fb fc) ?_
                refine xq_if_eqB dX11_product_19 rfl ⟨fun h19 => ?_, fun h19 => ?_⟩
                · skip
                  refine xq_vret dX11_product_48 rfl ?_
                  exact ⟨_, ⟨skf, ft⟩, rfl⟩
                · skip
                  cases h19
        · rw [if_neg h64] at hj ⊢
          have hsub : ∀ H3, RxP S H3 bt ln s N (nxB y) → Nv mX11_primary (K - 1) [.ref 83] S H3 (fun H2 => mQ S H3 H2 bt ln s N (rd s e 11 (nxB y))) := fun H3 h3 => IH e (by omega) (nxB y) (K - 1) H3 (by show 6 * (8 - rxO y) + (64 - (rxB y + 1)) + 10 ≤ K - 1; omega) h3 (hw1.nx (by omega)) (nj_b1 hj)
          cases er : rd s e 11 (nxB y) with
          | inl f =>
            obtain ⟨c, m⟩ := f
            rw [er] at hsub hj
            refine xq_aload_n dX11_product_4 rfl rfl ?_
            refine xq_bipush dX11_product_5 bp42 ?_
            refine xq_callV1P clX11 gd_X11_isSign dX11_product_7 ml_RX11_241 im_X11_isSign se_X11_isSign rfl (Fx.s83 hF) (by exact Nat.le_of_ble_eq_true rfl) (by omega) (m_isSign (K := 30) hF hr1.2.2.1 hr1.1 (by decide) (by decide)) ?_
            refine xq_if_neB dX11_product_10 rfl ⟨fun h10 => ?_, fun h10 => ?_⟩
            · skip
              refine xq_aload_n dX11_product_22 rfl rfl ?_
              refine xq_getIE (v := nI (sgc (kK s (rxN y)))) clX11 (by decide) rfl fl_RX11_157 dX11_product_23 (Fx.s83 hF) hva ?_
              refine xq_istore_n dX11_product_26 rfl rfl ?_
              refine xq_aload_n dX11_product_27 rfl rfl ?_
              refine xq_callV0N clX11 gd_X11_knot dX11_product_28 ml_RX11_262 im_X11_knot se_X11_knot rfl (Fx.s83 hF) (by exact Nat.le_of_ble_eq_true rfl) (by omega) (m_knot1 hF hr1.2.2.1 hr1.2.2.2.2 (by omega)) ?_
              intro H28 p28
              subst p28
              have hrk := hr1.kn (b := rxB y + 1)
              have skk := hsk.pF (k := 31) (by decide) (nI (rxB y + 1))
              refine xq_aload_n dX11_product_31 rfl rfl ?_
              refine xq_callV0N clX11 gd_X11_goOn dX11_product_32 ml_RX11_235 im_X11_goOn se_X11_goOn rfl (Fx.s83 hF) (by exact Nat.le_of_ble_eq_true rfl) (by omega) (m_goOn hrk.2.2.1 hrk.1 (kK_in (show kK s (rxN y) ≠ 44 by omega) hr1.1.lx)) ?_
              intro H32 p32
              obtain ⟨g1, g2⟩ := p32
              have hrn : RxP S H32 bt ln s N (nxB y) := hrk.tk g1 g2
              have skn := skk.tr (tok_sk g2)
              refine xq_aload_n dX11_product_35 rfl rfl ?_
              refine xq_callV0N clX11 gd_X11_primary dX11_product_36 ml_RX11_295 im_X11_primary se_X11_primary rfl (Fx.s83 hF) (by exact Nat.le_of_ble_eq_true rfl) (by omega) (hsub _ hrn) ?_
              intro H36 p36
              obtain ⟨sq, ft⟩ := p36
              have skf := skn.tr sq
              have fa := ft.1; have fb := ft.2.2.1; have fc := ft.2.2.2.1
              refine xq_aload_n dX11_product_39 rfl rfl ?_
              refine xq_iconst dX11_product_40 ic2 ?_
              refine xq_iload_n dX11_product_41 rfl rfl ?_
              refine xq_callV2N clX11 gd_X11_puts dX11_product_42 ml_RX11_265 im_X11_puts se_X11_puts rfl (Fx.s83 hF) (by exact Nat.le_of_ble_eq_true rfl) (by omega) (m_putsF hF fa fb fc) ?_
              intro H42 p42
              subst p42
              refine xq_goto dX11_product_45 rfl ?_
              refine xq_fgt (L' := [some (.ref 83), none]) ?_ (by exact And.intro rfl trivial)
              refine xq_aload_n dX11_product_4 rfl rfl ?_
              refine xq_bipush dX11_product_5 bp42 ?_
              refine xq_callV1P clX11 gd_X11_isSign dX11_product_7 ml_RX11_241 im_X11_isSign se_X11_isSign rfl (Fx.s83 hF) (by exact Nat.le_of_ble_eq_true rfl) (by omega) (m_isSign1 hF fa fb fc) ?_
              refine xq_if_neB dX11_product_10 rfl ⟨fun h10 => ?_, fun h10 => ?_⟩
              · skip
                cases h10
              · skip
                refine xq_aload_n dX11_product_13 rfl rfl ?_
                refine xq_bipush dX11_product_14 bp47 ?_
                refine xq_callV1P clX11 gd_X11_isSign dX11_product_16 ml_RX11_241 im_X11_isSign se_X11_isSign rfl (Fx.s83 hF) (by exact Nat.le_of_ble_eq_true rfl) (by omega) (m_isSign1 hF fa fb fc) ?_
                refine xq_if_eqB dX11_product_19 rfl ⟨fun h19 => ?_, fun h19 => ?_⟩
                · skip
                  refine xq_vret dX11_product_48 rfl ?_
                  exact ⟨_, ⟨skf, ft⟩, rfl⟩
                · skip
                  cases h19
            · skip
              refine xq_aload_n dX11_product_13 rfl rfl ?_
              refine xq_bipush dX11_product_14 bp47 ?_
              refine xq_callV1P clX11 gd_X11_isSign dX11_product_16 ml_RX11_241 im_X11_isSign se_X11_isSign rfl (Fx.s83 hF) (by exact Nat.le_of_ble_eq_true rfl) (by omega) (m_isSign (K := 31) hF hr1.2.2.1 hr1.1 (by decide) (by decide)) ?_
              refine xq_if_eqB dX11_product_19 rfl ⟨fun h19 => ?_, fun h19 => ?_⟩
              · skip
                have z1 := of_decide_eq_false h10
                have z2 := of_decide_eq_false h19
                exact absurd hk (by omega)
              · skip
                refine xq_aload_n dX11_product_22 rfl rfl ?_
                refine xq_getIE (v := nI (sgc (kK s (rxN y)))) clX11 (by decide) rfl fl_RX11_157 dX11_product_23 (Fx.s83 hF) hva ?_
                refine xq_istore_n dX11_product_26 rfl rfl ?_
                refine xq_aload_n dX11_product_27 rfl rfl ?_
                refine xq_callV0N clX11 gd_X11_knot dX11_product_28 ml_RX11_262 im_X11_knot se_X11_knot rfl (Fx.s83 hF) (by exact Nat.le_of_ble_eq_true rfl) (by omega) (m_knot1 hF hr1.2.2.1 hr1.2.2.2.2 (by omega)) ?_
                intro H28 p28
                subst p28
                have hrk := hr1.kn (b := rxB y + 1)
                have skk := hsk.pF (k := 31) (by decide) (nI (rxB y + 1))
                refine xq_aload_n dX11_product_31 rfl rfl ?_
                refine xq_callV0N clX11 gd_X11_goOn dX11_product_32 ml_RX11_235 im_X11_goOn se_X11_goOn rfl (Fx.s83 hF) (by exact Nat.le_of_ble_eq_true rfl) (by omega) (m_goOn hrk.2.2.1 hrk.1 (kK_in (show kK s (rxN y) ≠ 44 by omega) hr1.1.lx)) ?_
                intro H32 p32
                obtain ⟨g1, g2⟩ := p32
                have hrn : RxP S H32 bt ln s N (nxB y) := hrk.tk g1 g2
                have skn := skk.tr (tok_sk g2)
                refine xq_aload_n dX11_product_35 rfl rfl ?_
                refine xq_callV0N clX11 gd_X11_primary dX11_product_36 ml_RX11_295 im_X11_primary se_X11_primary rfl (Fx.s83 hF) (by exact Nat.le_of_ble_eq_true rfl) (by omega) (hsub _ hrn) ?_
                intro H36 p36
                obtain ⟨sq, ft⟩ := p36
                have skf := skn.tr sq
                have fa := ft.1; have fb := ft.2.2.1; have fc := ft.2.2.2.1
                refine xq_aload_n dX11_product_39 rfl rfl ?_
                refine xq_iconst dX11_product_40 ic2 ?_
                refine xq_iload_n dX11_product_41 rfl rfl ?_
                refine xq_callV2N clX11 gd_X11_puts dX11_product_42 ml_RX11_265 im_X11_puts se_X11_puts rfl (Fx.s83 hF) (by exact Nat.le_of_ble_eq_true rfl) (by omega) (m_putsF hF fa fb fc) ?_
                intro H42 p42
                subst p42
                refine xq_goto dX11_product_45 rfl ?_
                refine xq_fgt (L' := [some (.ref 83), none]) ?_ (by exact And.intro rfl trivial)
                refine xq_aload_n dX11_product_4 rfl rfl ?_
                refine xq_bipush dX11_product_5 bp42 ?_
                refine xq_callV1P clX11 gd_X11_isSign dX11_product_7 ml_RX11_241 im_X11_isSign se_X11_isSign rfl (Fx.s83 hF) (by exact Nat.le_of_ble_eq_true rfl) (by omega) (m_isSign1 hF fa fb fc) ?_
                refine xq_if_neB dX11_product_10 rfl ⟨fun h10 => ?_, fun h10 => ?_⟩
                · skip
                  cases h10
                · skip
                  refine xq_aload_n dX11_product_13 rfl rfl ?_
                  refine xq_bipush dX11_product_14 bp47 ?_
                  refine xq_callV1P clX11 gd_X11_isSign dX11_product_16 ml_RX11_241 im_X11_isSign se_X11_isSign rfl (Fx.s83 hF) (by exact Nat.le_of_ble_eq_true rfl) (by omega) (m_isSign1 hF fa fb fc) ?_
                  refine xq_if_eqB dX11_product_19 rfl ⟨fun h19 => ?_, fun h19 => ?_⟩
                  · skip
                    refine xq_vret dX11_product_48 rfl ?_
                    exact ⟨_, ⟨skf, ft⟩, rfl⟩
                  · skip
                    cases h19
          | inr z =>
            have hq := rd_q e 11 (nxB y) z (show rxB y + 1 ≤ 64 by omega) er
            have hqb := hq.b (k := kK s (rxN y))
            have hn64 : tNk (rxX z) < 64 := by
              have q4 : tNk (rxX z) + (rxB y + 1) = tNk (rxX y) + rxB z := hq.2.2.2.1
              have q3 := hq.2.2.1
              have w4 := hw1.2.2.2
              omega
            have eo : rxO (adB (kK s (rxN y)) y z) = rxO y := hqb.1
            have eb : rxB y + 1 ≤ rxB (adB (kK s (rxN y)) y z) := hqb.2.1
            have es := (sgn_c (k := kK s (rxN y)) (by omega)).2.2.1
            have ev := (sgn_c (k := kK s (rxN y)) (by omega)).2.2.2 (tNk (rxX y) - 1) (tNk (rxX z) - 1)
            rw [er] at hsub hj
            have hj : NjQ (rd s e 15 (adB (kK s (rxN y)) y z)) := hj
            refine xq_aload_n dX11_product_4 rfl rfl ?_
            refine xq_bipush dX11_product_5 bp42 ?_
            refine xq_callV1P clX11 gd_X11_isSign dX11_product_7 ml_RX11_241 im_X11_isSign se_X11_isSign rfl (Fx.s83 hF) (by exact Nat.le_of_ble_eq_true rfl) (by omega) (m_isSign (K := 30) hF hr1.2.2.1 hr1.1 (by decide) (by decide)) ?_
            refine xq_if_neB dX11_product_10 rfl ⟨fun h10 => ?_, fun h10 => ?_⟩
            · skip
              refine xq_aload_n dX11_product_22 rfl rfl ?_
              refine xq_getIE (v := nI (sgc (kK s (rxN y)))) clX11 (by decide) rfl fl_RX11_157 dX11_product_23 (Fx.s83 hF) hva ?_
              refine xq_istore_n dX11_product_26 rfl rfl ?_
              refine xq_aload_n dX11_product_27 rfl rfl ?_
              refine xq_callV0N clX11 gd_X11_knot dX11_product_28 ml_RX11_262 im_X11_knot se_X11_knot rfl (Fx.s83 hF) (by exact Nat.le_of_ble_eq_true rfl) (by omega) (m_knot1 hF hr1.2.2.1 hr1.2.2.2.2 (by omega)) ?_
              intro H28 p28
              subst p28
              have hrk := hr1.kn (b := rxB y + 1)
              have skk := hsk.pF (k := 31) (by decide) (nI (rxB y + 1))
              refine xq_aload_n dX11_product_31 rfl rfl ?_
              refine xq_callV0N clX11 gd_X11_goOn dX11_product_32 ml_RX11_235 im_X11_goOn se_X11_goOn rfl (Fx.s83 hF) (by exact Nat.le_of_ble_eq_true rfl) (by omega) (m_goOn hrk.2.2.1 hrk.1 (kK_in (show kK s (rxN y) ≠ 44 by omega) hr1.1.lx)) ?_
              intro H32 p32
              obtain ⟨g1, g2⟩ := p32
              have hrn : RxP S H32 bt ln s N (nxB y) := hrk.tk g1 g2
              have skn := skk.tr (tok_sk g2)
              refine xq_aload_n dX11_product_35 rfl rfl ?_
              refine xq_callV0N clX11 gd_X11_primary dX11_product_36 ml_RX11_295 im_X11_primary se_X11_primary rfl (Fx.s83 hF) (by exact Nat.le_of_ble_eq_true rfl) (by omega) (hsub _ hrn) ?_
              intro H36 p36
              obtain ⟨sq, rz⟩ := p36
              have skz := skn.tr sq
              refine xq_aload_n dX11_product_39 rfl rfl ?_
              refine xq_iconst dX11_product_40 ic2 ?_
              refine xq_iload_n dX11_product_41 rfl rfl ?_
              refine xq_callV2N clX11 gd_X11_puts dX11_product_42 ml_RX11_265 im_X11_puts se_X11_puts rfl (Fx.s83 hF) (by exact Nat.le_of_ble_eq_true rfl) (by omega) (m_puts hF rz.2.2.1 rz.nk hn64) ?_
              intro H42 p42
              subst p42
              have hput : RxP S (ptH H36 (tNk (rxX z)) 2 (sgc (kK s (rxN y)))) bt ln s N (adB (kK s (rxN y)) y z) := by
                have h := rz.pt (k := kK s (rxN y)) (a := tNk (rxX y) - 1) (b := tNk (rxX z) - 1) (w := oB (rxW z) (tNk (rxX z))) hn64
                rw [es, ev] at h
                exact h
              refine xq_goto dX11_product_45 rfl ?_
              refine xq_fgt (L' := [some (.ref 83), none]) ?_ (by exact And.intro rfl trivial)
              exact ih (adB (kK s (rxN y)) y z) _ (by omega) (by omega) hput (hw1.rq hqb) hj (skz.pt)
            · skip
              refine xq_aload_n dX11_product_13 rfl rfl ?_
              refine xq_bipush dX11_product_14 bp47 ?_
              refine xq_callV1P clX11 gd_X11_isSign dX11_product_16 ml_RX11_241 im_X11_isSign se_X11_isSign rfl (Fx.s83 hF) (by exact Nat.le_of_ble_eq_true rfl) (by omega) (m_isSign (K := 31) hF hr1.2.2.1 hr1.1 (by decide) (by decide)) ?_
              refine xq_if_eqB dX11_product_19 rfl ⟨fun h19 => ?_, fun h19 => ?_⟩
              · skip
                have z1 := of_decide_eq_false h10
                have z2 := of_decide_eq_false h19
                exact absurd hk (by omega)
              · skip
                refine xq_aload_n dX11_product_22 rfl rfl ?_
                refine xq_getIE (v := nI (sgc (kK s (rxN y)))) clX11 (by decide) rfl fl_RX11_157 dX11_product_23 (Fx.s83 hF) hva ?_
                refine xq_istore_n dX11_product_26 rfl rfl ?_
                refine xq_aload_n dX11_product_27 rfl rfl ?_
                refine xq_callV0N clX11 gd_X11_knot dX11_product_28 ml_RX11_262 im_X11_knot se_X11_knot rfl (Fx.s83 hF) (by exact Nat.le_of_ble_eq_true rfl) (by omega) (m_knot1 hF hr1.2.2.1 hr1.2.2.2.2 (by omega)) ?_
                intro H28 p28
                subst p28
                have hrk := hr1.kn (b := rxB y + 1)
                have skk := hsk.pF (k := 31) (by decide) (nI (rxB y + 1))
                refine xq_aload_n dX11_product_31 rfl rfl ?_
                refine xq_callV0N clX11 gd_X11_goOn dX11_product_32 ml_RX11_235 im_X11_goOn se_X11_goOn rfl (Fx.s83 hF) (by exact Nat.le_of_ble_eq_true rfl) (by omega) (m_goOn hrk.2.2.1 hrk.1 (kK_in (show kK s (rxN y) ≠ 44 by omega) hr1.1.lx)) ?_
                intro H32 p32
                obtain ⟨g1, g2⟩ := p32
                have hrn : RxP S H32 bt ln s N (nxB y) := hrk.tk g1 g2
                have skn := skk.tr (tok_sk g2)
                refine xq_aload_n dX11_product_35 rfl rfl ?_
                refine xq_callV0N clX11 gd_X11_primary dX11_product_36 ml_RX11_295 im_X11_primary se_X11_primary rfl (Fx.s83 hF) (by exact Nat.le_of_ble_eq_true rfl) (by omega) (hsub _ hrn) ?_
                intro H36 p36
                obtain ⟨sq, rz⟩ := p36
                have skz := skn.tr sq
                refine xq_aload_n dX11_product_39 rfl rfl ?_
                refine xq_iconst dX11_product_40 ic2 ?_
                refine xq_iload_n dX11_product_41 rfl rfl ?_
                refine xq_callV2N clX11 gd_X11_puts dX11_product_42 ml_RX11_265 im_X11_puts se_X11_puts rfl (Fx.s83 hF) (by exact Nat.le_of_ble_eq_true rfl) (by omega) (m_puts hF rz.2.2.1 rz.nk hn64) ?_
                intro H42 p42
                subst p42
                have hput : RxP S (ptH H36 (tNk (rxX z)) 2 (sgc (kK s (rxN y)))) bt ln s N (adB (kK s (rxN y)) y z) := by
                  have h := rz.pt (k := kK s (rxN y)) (a := tNk (rxX y) - 1) (b := tNk (rxX z) - 1) (w := oB (rxW z) (tNk (rxX z))) hn64
                  rw [es, ev] at h
                  exact h
                refine xq_goto dX11_product_45 rfl ?_
                refine xq_fgt (L' := [some (.ref 83), none]) ?_ (by exact And.intro rfl trivial)
                exact ih (adB (kK s (rxN y)) y z) _ (by omega) (by omega) hput (hw1.rq hqb) hj (skz.pt)
      · have hk2 := isE_n (by simpa using hg)
        rw [if_neg hg]
        refine xq_aload_n dX11_product_4 rfl rfl ?_
        refine xq_bipush dX11_product_5 bp42 ?_
        refine xq_callV1P clX11 gd_X11_isSign dX11_product_7 ml_RX11_241 im_X11_isSign se_X11_isSign rfl (Fx.s83 hF) (by exact Nat.le_of_ble_eq_true rfl) (by omega) (m_isSign (K := 30) hF hr1.2.2.1 hr1.1 (by decide) (by decide)) ?_
        refine xq_if_neB dX11_product_10 rfl ⟨fun h10 => ?_, fun h10 => ?_⟩
        · skip
          exact absurd (of_decide_eq_true h10) (by omega)
        · skip
          refine xq_aload_n dX11_product_13 rfl rfl ?_
          refine xq_bipush dX11_product_14 bp47 ?_
          refine xq_callV1P clX11 gd_X11_isSign dX11_product_16 ml_RX11_241 im_X11_isSign se_X11_isSign rfl (Fx.s83 hF) (by exact Nat.le_of_ble_eq_true rfl) (by omega) (m_isSign (K := 31) hF hr1.2.2.1 hr1.1 (by decide) (by decide)) ?_
          refine xq_if_eqB dX11_product_19 rfl ⟨fun h19 => ?_, fun h19 => ?_⟩
          · skip
            refine xq_vret dX11_product_48 rfl ?_
            exact ⟨_, ⟨hsk, hr1⟩, rfl⟩
          · skip
            exact absurd (of_decide_eq_true h19) (by omega)
  have hsub : ∀ H3, RxP S H3 bt ln s N x → Nv mX11_primary (K - 1) [.ref 83] S H3 (fun H2 => mQ S H3 H2 bt ln s N (rd s d 11 x)) := fun H3 h3 => IH d (Nat.le_refl _) x (K - 1) H3 (by omega) h3 hw (nj_b1 hn)
  refine vq_intro (by decide) (by exact Nat.le_of_ble_eq_true rfl) rfl ?_
  cases er : rd s d 11 x with
  | inl f =>
    obtain ⟨c, m⟩ := f
    rw [er] at hsub hn
    refine xq_aload_n dX11_product_0 rfl rfl ?_
    refine xq_callV0N clX11 gd_X11_primary dX11_product_1 ml_RX11_295 im_X11_primary se_X11_primary rfl (Fx.s83 hF) (by exact Nat.le_of_ble_eq_true rfl) (by omega) (hsub _ hr) ?_
    intro H1 p1
    obtain ⟨skf, ft⟩ := p1
    have fa := ft.1; have fb := ft.2.2.1; have fc := ft.2.2.2.1
    refine xq_aload_n dX11_product_4 rfl rfl ?_
    refine xq_bipush dX11_product_5 bp42 ?_
    refine xq_callV1P clX11 gd_X11_isSign dX11_product_7 ml_RX11_241 im_X11_isSign se_X11_isSign rfl (Fx.s83 hF) (by exact Nat.le_of_ble_eq_true rfl) (by omega) (m_isSign1 hF fa fb fc) ?_
    refine xq_if_neB dX11_product_10 rfl ⟨fun h10 => ?_, fun h10 => ?_⟩
    · skip
      cases h10
    · skip
      refine xq_aload_n dX11_product_13 rfl rfl ?_
      refine xq_bipush dX11_product_14 bp47 ?_
      refine xq_callV1P clX11 gd_X11_isSign dX11_product_16 ml_RX11_241 im_X11_isSign se_X11_isSign rfl (Fx.s83 hF) (by exact Nat.le_of_ble_eq_true rfl) (by omega) (m_isSign1 hF fa fb fc) ?_
      refine xq_if_eqB dX11_product_19 rfl ⟨fun h19 => ?_, fun h19 => ?_⟩
      · skip
        refine xq_vret dX11_product_48 rfl ?_
        exact ⟨_, ⟨skf, ft⟩, rfl⟩
      · skip
        cases h19
  | inr y =>
    have hq := rd_q d 11 x y hw.2.1 er
    have eo : rxO y = rxO x := hq.1
    have eb : rxB x ≤ rxB y := Nat.le_trans (Nat.le_add_right _ _) hq.2.1
    rw [er] at hsub hn
    refine xq_aload_n dX11_product_0 rfl rfl ?_
    refine xq_callV0N clX11 gd_X11_primary dX11_product_1 ml_RX11_295 im_X11_primary se_X11_primary rfl (Fx.s83 hF) (by exact Nat.le_of_ble_eq_true rfl) (by omega) (hsub _ hr) ?_
    intro H1 p1
    obtain ⟨sq, rz⟩ := p1
    exact lp d y H1 (Nat.le_refl _) (by omega) rz (hw.rq hq) hn sq
theorem m_sum (hF : gFx S) (IH : ∀ d2, d2 ≤ d → MOk S mX11_product 11 bt ln s N d2 10) : MOk S mX11_sum 12 bt ln s N (d + 1) 9 := by
  intro x K H hK hr hw hn
  rw [rd_9] at hn ⊢
  have lp : ∀ (e : Nat) (y : rxT) (H1 : xH), e ≤ d → 6 * (8 - rxO y) + (64 - rxB y) + 12 ≤ K → RxP S H1 bt ln s N y → RxW y → NjQ (rd s e 14 y) → SmK H H1 → Xq mX11_sum K 0 0 4 [some (.ref 83), none] [] S H1 (fun R => ∃ H2, (mQ S H H2 bt ln s N (rd s e 14 y)) ∧ R = (none, S, H2)) := by
    intro e
    induction e with
    | zero => intro y H1 _ _ _ _ hj; exact absurd rfl (hj 0)
    | succ e ih =>
      intro y H1 he hK1 hr1 hw1 hj hsk
      rw [rd_14] at hj ⊢
      unfold lopG at hj ⊢
      by_cases hg : isE 28 29 (kK s (rxN y)) = true
      · rw [if_pos hg] at hj ⊢
        have hk := isE_t hg
        have hva := (hr1.1.ms.2.2.2.2.2 (sgn_c (k := kK s (rxN y)) (by omega)).2.1).2
        by_cases h64 : 64 ≤ rxB y
        · rw [if_pos h64]
          refine xq_aload_n dX11_sum_4 rfl rfl ?_
          refine xq_bipush dX11_sum_5 bp43 ?_
          refine xq_callV1P clX11 gd_X11_isSign dX11_sum_7 ml_RX11_241 im_X11_isSign se_X11_isSign rfl (Fx.s83 hF) (by exact Nat.le_of_ble_eq_true rfl) (by omega) (m_isSign (K := 28) hF hr1.2.2.1 hr1.1 (by decide) (by decide)) ?_
          refine xq_if_neB dX11_sum_10 rfl ⟨fun h10 => ?_, fun h10 => ?_⟩
          · skip
            refine xq_aload_n dX11_sum_22 rfl rfl ?_
            refine xq_getIE (v := nI (sgc (kK s (rxN y)))) clX11 (by decide) rfl fl_RX11_157 dX11_sum_23 (Fx.s83 hF) hva ?_
            refine xq_istore_n dX11_sum_26 rfl rfl ?_
            refine xq_aload_n dX11_sum_27 rfl rfl ?_
            refine xq_callV0N clX11 gd_X11_knot dX11_sum_28 ml_RX11_262 im_X11_knot se_X11_knot rfl (Fx.s83 hF) (by exact Nat.le_of_ble_eq_true rfl) (by omega) (m_knot0 hF hr1.2.2.1 hr1.1 hr1.2.2.2.2 (by have := hw1.2.1; omega)) ?_
            intro H28 p28
            have ft := FtQ.mf p28 (by decide) (by decide) hr1.1.js
            have skf := hsk.tr (MfQ.sk p28)
            have fa := ft.1; have fb := ft.2.2.1; have fc := ft.2.2.2.1
            refine xq_aload_n dX11_sum_31 rfl rfl ?_
            refine xq_callV0N clX11 gd_X11_goOn dX11_sum_32 ml_RX11_235 im_X11_goOn se_X11_goOn rfl (Fx.s83 hF) (by exact Nat.le_of_ble_eq_true rfl) (by omega) (m_goOn1 hF fa fb fc) ?_
            intro H32 p32
            subst p32
            refine xq_aload_n dX11_sum_35 rfl rfl ?_
            refine xq_callV0N clX11 gd_X11_product dX11_sum_36 ml_RX11_292 im_X11_product se_X11_product rfl (Fx.s83 hF) (by exact Nat.le_of_ble_eq_true rfl) (by omega) (m_productF hF fa fb fc) ?_
            intro H36 p36
            subst p36
            refine xq_aload_n dX11_sum_39 rfl rfl ?_
            refine xq_iconst dX11_sum_40 ic2 ?_
            refine xq_iload_n dX11_sum_41 rfl rfl ?_
            refine xq_callV2N clX11 gd_X11_puts dX11_sum_42 ml_RX11_265 im_X11_puts se_X11_puts rfl (Fx.s83 hF) (by exact Nat.le_of_ble_eq_true rfl) (by omega) (m_putsF hF fa fb fc) ?_
            intro H42 p42
            subst p42
            refine xq_goto dX11_sum_45 rfl ?_
            refine xq_fgt (L' := [some (.ref 83), none]) ?_ (by exact And.intro rfl trivial)
            refine xq_aload_n dX11_sum_4 rfl rfl ?_
            refine xq_bipush dX11_sum_5 bp43 ?_
            refine xq_callV1P clX11 gd_X11_isSign dX11_sum_7 ml_RX11_241 im_X11_isSign se_X11_isSign rfl (Fx.s83 hF) (by exact Nat.le_of_ble_eq_true rfl) (by omega) (m_isSign1 hF fa fb fc) ?_
            refine xq_if_neB dX11_sum_10 rfl ⟨fun h10 => ?_, fun h10 => ?_⟩
            · skip
              cases h10
            · skip
              refine xq_aload_n dX11_sum_13 rfl rfl ?_
              refine xq_bipush dX11_sum_14 bp45 ?_
              refine xq_callV1P clX11 gd_X11_isSign dX11_sum_16 ml_RX11_241 im_X11_isSign se_X11_isSign rfl (Fx.s83 hF) (by exact Nat.le_of_ble_eq_true rfl) (by omega) (m_isSign1 hF fa fb fc) ?_
              refine xq_if_eqB dX11_sum_19 rfl ⟨fun h19 => ?_, fun h19 => ?_⟩
              · skip
                refine xq_vret dX11_sum_48 rfl ?_
                exact ⟨_, ⟨skf, ft⟩, rfl⟩
              · skip
                cases h19
          · skip
            refine xq_aload_n dX11_sum_13 rfl rfl ?_
            refine xq_bipush dX11_sum_14 bp45 ?_
            refine xq_callV1P clX11 gd_X11_isSign dX11_sum_16 ml_RX11_241 im_X11_isSign se_X11_isSign rfl (Fx.s83 hF) (by exact Nat.le_of_ble_eq_true rfl) (by omega) (m_isSign (K := 29) hF hr1.2.2.1 hr1.1 (by decide) (by decide)) ?_
            refine xq_if_eqB dX11_sum_19 rfl ⟨fun h19 => ?_, fun h19 => ?_⟩
            · skip
              have z1 := of_decide_eq_false h10
              have z2 := of_decide_eq_false h19
              exact absurd hk (by omega)
            · skip
              refine xq_aload_n dX11_sum_22 rfl rfl ?_
              refine xq_getIE (v := nI (sgc (kK s (rxN y)))) clX11 (by decide) rfl fl_RX11_157 dX11_sum_23 (Fx.s83 hF) hva ?_
              refine xq_istore_n dX11_sum_26 rfl rfl ?_
              refine xq_aload_n dX11_sum_27 rfl rfl ?_
              refine xq_callV0N clX11 gd_X11_knot dX11_sum_28 ml_RX11_262 im_X11_knot se_X11_knot rfl (Fx.s83 hF) (by exact Nat.le_of_ble_eq_true rfl) (by omega) (m_knot0 hF hr1.2.2.1 hr1.1 hr1.2.2.2.2 (by have := hw1.2.1; omega)) ?_
              intro H28 p28
              have ft := FtQ.mf p28 (by decide) (by decide) hr1.1.js
              have skf := hsk.tr (MfQ.sk p28)
              have fa := ft.1; have fb := ft.2.2.1; have fc := ft.2.2.2.1
              refine xq_aload_n dX11_sum_31 rfl rfl ?_
              refine xq_callV0N clX11 gd_X11_goOn dX11_sum_32 ml_RX11_235 im_X11_goOn se_X11_goOn rfl (Fx.s83 hF) (by exact Nat.le_of_ble_eq_true rfl) (by omega) (m_goOn1 hF fa fb fc) ?_
              intro H32 p32
              subst p32
              refine xq_aload_n dX11_sum_35 rfl rfl ?_
              refine xq_callV0N clX11 gd_X11_product dX11_sum_36 ml_RX11_292 im_X11_product se_X11_product rfl (Fx.s83 hF) (by exact Nat.le_of_ble_eq_true rfl) (by omega) (m_productF hF fa fb fc) ?_
              intro H36 p36
              subst p36
              refine xq_aload_n dX11_sum_39 rfl rfl ?_
              refine xq_iconst dX11_sum_40 ic2 ?_
              refine xq_iload_n dX11_sum_41 rfl rfl ?_
              refine xq_callV2N clX11 gd_X11_puts dX11_sum_42 ml_RX11_265 im_X11_puts se_X11_puts rfl (Fx.s83 hF) (by exact Nat.le_of_ble_eq_true rfl) (by omega) (m_putsF hF fa fb fc) ?_
              intro H42 p42
              subst p42
              refine xq_goto dX11_sum_45 rfl ?_
              refine xq_fgt (L' := [some (.ref 83), none]) ?_ (by exact And.intro rfl trivial)
              refine xq_aload_n dX11_sum_4 rfl rfl ?_
              refine xq_bipush dX11_sum_5 bp43 ?_
              refine xq_callV1P clX11 gd_X11_isSign dX11_sum_7 ml_RX11_241 im_X11_isSign se_X11_isSign rfl (Fx.s83 hF) (by exact Nat.le_of_ble_eq_true rfl) (by omega) (m_isSign1 hF fa fb fc) ?_
              refine xq_if_neB dX11_sum_10 rfl ⟨fun h10 => ?_, fun h10 => ?_⟩
              · skip
                cases h10
              · skip
                refine xq_aload_n dX11_sum_13 rfl rfl ?_
                refine xq_bipush dX11_sum_14 bp45 ?_
                refine xq_callV1P clX11 gd_X11_isSign dX11_sum_16 ml_RX11_241 im_X11_isSign se_X11_isSign rfl (Fx.s83 hF) (by exact Nat.le_of_ble_eq_true rfl) (by omega) (m_isSign1 hF fa fb fc) ?_
                refine xq_if_eqB dX11_sum_19 rfl ⟨fun h19 => ?_, fun h19 => ?_⟩
                · skip
                  refine xq_vret dX11_sum_48 rfl ?_
                  exact ⟨_, ⟨skf, ft⟩, rfl⟩
                · skip
                  cases h19
        · rw [if_neg h64] at hj ⊢
          have hsub : ∀ H3, RxP S H3 bt ln s N (nxB y) → Nv mX11_product (K - 1) [.ref 83] S H3 (fun H2 => mQ S H3 H2 bt ln s N (rd s e 10 (nxB y))) := fun H3 h3 => IH e (by omega) (nxB y) (K - 1) H3 (by show 6 * (8 - rxO y) + (64 - (rxB y + 1)) + 11 ≤ K - 1; omega) h3 (hw1.nx (by omega)) (nj_b1 hj)
          cases er : rd s e 10 (nxB y) with
          | inl f =>
            obtain ⟨c, m⟩ := f
            rw [er] at hsub hj
            refine xq_aload_n dX11_sum_4 rfl rfl ?_
            refine xq_bipush dX11_sum_5 bp43 ?_
            refine xq_callV1P clX11 gd_X11_isSign dX11_sum_7 ml_RX11_241 im_X11_isSign se_X11_isSign rfl (Fx.s83 hF) (by exact Nat.le_of_ble_eq_true rfl) (by omega) (m_isSign (K := 28) hF hr1.2.2.1 hr1.1 (by decide) (by decide)) ?_
            refine xq_if_neB dX11_sum_10 rfl ⟨fun h10 => ?_, fun h10 => ?_⟩
            · skip
              refine xq_aload_n dX11_sum_22 rfl rfl ?_
              refine xq_getIE (v := nI (sgc (kK s (rxN y)))) clX11 (by decide) rfl fl_RX11_157 dX11_sum_23 (Fx.s83 hF) hva ?_
              refine xq_istore_n dX11_sum_26 rfl rfl ?_
              refine xq_aload_n dX11_sum_27 rfl rfl ?_
              refine xq_callV0N clX11 gd_X11_knot dX11_sum_28 ml_RX11_262 im_X11_knot se_X11_knot rfl (Fx.s83 hF) (by exact Nat.le_of_ble_eq_true rfl) (by omega) (m_knot1 hF hr1.2.2.1 hr1.2.2.2.2 (by omega)) ?_
              intro H28 p28
              subst p28
              have hrk := hr1.kn (b := rxB y + 1)
              have skk := hsk.pF (k := 31) (by decide) (nI (rxB y + 1))
              refine xq_aload_n dX11_sum_31 rfl rfl ?_
              refine xq_callV0N clX11 gd_X11_goOn dX11_sum_32 ml_RX11_235 im_X11_goOn se_X11_goOn rfl (Fx.s83 hF) (by exact Nat.le_of_ble_eq_true rfl) (by omega) (m_goOn hrk.2.2.1 hrk.1 (kK_in (show kK s (rxN y) ≠ 44 by omega) hr1.1.lx)) ?_
              intro H32 p32
              obtain ⟨g1, g2⟩ := p32
              have hrn : RxP S H32 bt ln s N (nxB y) := hrk.tk g1 g2
              have skn := skk.tr (tok_sk g2)
              refine xq_aload_n dX11_sum_35 rfl rfl ?_
              refine xq_callV0N clX11 gd_X11_product dX11_sum_36 ml_RX11_292 im_X11_product se_X11_product rfl (Fx.s83 hF) (by exact Nat.le_of_ble_eq_true rfl) (by omega) (hsub _ hrn) ?_
              intro H36 p36
              obtain ⟨sq, ft⟩ := p36
              have skf := skn.tr sq
              have fa := ft.1; have fb := ft.2.2.1; have fc := ft.2.2.2.1
              refine xq_aload_n dX11_sum_39 rfl rfl ?_
              refine xq_iconst dX11_sum_40 ic2 ?_
              refine xq_iload_n dX11_sum_41 rfl rfl ?_
              refine xq_callV2N clX11 gd_X11_puts dX11_sum_42 ml_RX11_265 im_X11_puts se_X11_puts rfl (Fx.s83 hF) (by exact Nat.le_of_ble_eq_true rfl) (by omega) (m_putsF hF fa fb fc) ?_
              intro H42 p42
              subst p42
              refine xq_goto dX11_sum_45 rfl ?_
              refine xq_fgt (L' := [some (.ref 83), none]) ?_ (by exact And.intro rfl trivial)
              refine xq_aload_n dX11_sum_4 rfl rfl ?_
              refine xq_bipush dX11_sum_5 bp43 ?_
              refine xq_callV1P clX11 gd_X11_isSign dX11_sum_7 ml_RX11_241 im_X11_isSign se_X11_isSign rfl (Fx.s83 hF) (by exact Nat.le_of_ble_eq_true rfl) (by omega) (m_isSign1 hF fa fb fc) ?_
              refine xq_if_neB dX11_sum_10 rfl ⟨fun h10 => ?_, fun h10 => ?_⟩
              · skip
                cases h10
              · skip
                refine xq_aload_n dX11_sum_13 rfl rfl ?_
                refine xq_bipush dX11_sum_14 bp45 ?_
                refine xq_callV1P clX11 gd_X11_isSign dX11_sum_16 ml_RX11_241 im_X11_isSign se_X11_isSign rfl (Fx.s83 hF) (by exact Nat.le_of_ble_eq_true rfl) (by omega) (m_isSign1 hF fa fb fc) ?_
                refine xq_if_eqB dX11_sum_19 rfl ⟨fun h19 => ?_, fun h19 => ?_⟩
                · skip
                  refine xq_vret dX11_sum_48 rfl ?_
                  exact ⟨_, ⟨skf, ft⟩, rfl⟩
                · skip
                  cases h19
            · skip
              refine xq_aload_n dX11_sum_13 rfl rfl ?_
              refine xq_bipush dX11_sum_14 bp45 ?_
              refine xq_callV1P clX11 gd_X11_isSign dX11_sum_16 ml_RX11_241 im_X11_isSign se_X11_isSign rfl (Fx.s83 hF) (by exact Nat.le_of_ble_eq_true rfl) (by omega) (m_isSign (K := 29) hF hr1.2.2.1 hr1.1 (by decide) (by decide)) ?_
              refine xq_if_eqB dX11_sum_19 rfl ⟨fun h19 => ?_, fun h19 => ?_⟩
              · skip
                have z1 := of_decide_eq_false h10
                have z2 := of_decide_eq_false h19
                exact absurd hk (by omega)
              · skip
                refine xq_aload_n dX11_sum_22 rfl rfl ?_
                refine xq_getIE (v := nI (sgc (kK s (rxN y)))) clX11 (by decide) rfl fl_RX11_157 dX11_sum_23 (Fx.s83 hF) hva ?_
                refine xq_istore_n dX11_sum_26 rfl rfl ?_
                refine xq_aload_n dX11_sum_27 rfl rfl ?_
                refine xq_callV0N clX11 gd_X11_knot dX11_sum_28 ml_RX11_262 im_X11_knot se_X11_knot rfl (Fx.s83 hF) (by exact Nat.le_of_ble_eq_true rfl) (by omega) (m_knot1 hF hr1.2.2.1 hr1.2.2.2.2 (by omega)) ?_
                intro H28 p28
                subst p28
                have hrk := hr1.kn (b := rxB y + 1)
                have skk := hsk.pF (k := 31) (by decide) (nI (rxB y + 1))
                refine xq_aload_n dX11_sum_31 rfl rfl ?_
                refine xq_callV0N clX11 gd_X11_goOn dX11_sum_32 ml_RX11_235 im_X11_goOn se_X11_goOn rfl (Fx.s83 hF) (by exact Nat.le_of_ble_eq_true rfl) (by omega) (m_goOn hrk.2.2.1 hrk.1 (kK_in (show kK s (rxN y) ≠ 44 by omega) hr1.1.lx)) ?_
                intro H32 p32
                obtain ⟨g1, g2⟩ := p32
                have hrn : RxP S H32 bt ln s N (nxB y) := hrk.tk g1 g2
                have skn := skk.tr (tok_sk g2)
                refine xq_aload_n dX11_sum_35 rfl rfl ?_
                refine xq_callV0N clX11 gd_X11_product dX11_sum_36 ml_RX11_292 im_X11_product se_X11_product rfl (Fx.s83 hF) (by exact Nat.le_of_ble_eq_true rfl) (by omega) (hsub _ hrn) ?_
                intro H36 p36
                obtain ⟨sq, ft⟩ := p36
                have skf := skn.tr sq
                have fa := ft.1; have fb := ft.2.2.1; have fc := ft.2.2.2.1
                refine xq_aload_n dX11_sum_39 rfl rfl ?_
                refine xq_iconst dX11_sum_40 ic2 ?_
                refine xq_iload_n dX11_sum_41 rfl rfl ?_
                refine xq_callV2N clX11 gd_X11_puts dX11_sum_42 ml_RX11_265 im_X11_puts se_X11_puts rfl (Fx.s83 hF) (by exact Nat.le_of_ble_eq_true rfl) (by omega) (m_putsF hF fa fb fc) ?_
                intro H42 p42
                subst p42
                refine xq_goto dX11_sum_45 rfl ?_
                refine xq_fgt (L' := [some (.ref 83), none]) ?_ (by exact And.intro rfl trivial)
                refine xq_aload_n dX11_sum_4 rfl rfl ?_
                refine xq_bipush dX11_sum_5 bp43 ?_
                refine xq_callV1P clX11 gd_X11_isSign dX11_sum_7 ml_RX11_241 im_X11_isSign se_X11_isSign rfl (Fx.s83 hF) (by exact Nat.le_of_ble_eq_true rfl) (by omega) (m_isSign1 hF fa fb fc) ?_
                refine xq_if_neB dX11_sum_10 rfl ⟨fun h10 => ?_, fun h10 => ?_⟩
                · skip
                  cases h10
                · skip
                  refine xq_aload_n dX11_sum_13 rfl rfl ?_
                  refine xq_bipush dX11_sum_14 bp45 ?_
                  refine xq_callV1P clX11 gd_X11_isSign dX11_sum_16 ml_RX11_241 im_X11_isSign se_X11_isSign rfl (Fx.s83 hF) (by exact Nat.le_of_ble_eq_true rfl) (by omega) (m_isSign1 hF fa fb fc) ?_
                  refine xq_if_eqB dX11_sum_19 rfl ⟨fun h19 => ?_, fun h19 => ?_⟩
                  · skip
                    refine xq_vret dX11_sum_48 rfl ?_
                    exact ⟨_, ⟨skf, ft⟩, rfl⟩
                  · skip
                    cases h19
          | inr z =>
            have hq := rd_q e 10 (nxB y) z (show rxB y + 1 ≤ 64 by omega) er
            have hqb := hq.b (k := kK s (rxN y))
            have hn64 : tNk (rxX z) < 64 := by
              have q4 : tNk (rxX z) + (rxB y + 1) = tNk (rxX y) + rxB z := hq.2.2.2.1
              have q3 := hq.2.2.1
              have w4 := hw1.2.2.2
              omega
            have eo : rxO (adB (kK s (rxN y)) y z) = rxO y := hqb.1
            have eb : rxB y + 1 ≤ rxB (adB (kK s (rxN y)) y z) := hqb.2.1
            have es := (sgn_c (k := kK s (rxN y)) (by omega)).2.2.1
            have ev := (sgn_c (k := kK s (rxN y)) (by omega)).2.2.2 (tNk (rxX y) - 1) (tNk (rxX z) - 1)
            rw [er] at hsub hj
            have hj : NjQ (rd s e 14 (adB (kK s (rxN y)) y z)) := hj
            refine xq_aload_n dX11_sum_4 rfl rfl ?_
            refine xq_bipush dX11_sum_5 bp43 ?_
            refine xq_callV1P clX11 gd_X11_isSign dX11_sum_7 ml_RX11_241 im_X11_isSign se_X11_isSign rfl (Fx.s83 hF) (by exact Nat.le_of_ble_eq_true rfl) (by omega) (m_isSign (K := 28) hF hr1.2.2.1 hr1.1 (by decide) (by decide)) ?_
            refine xq_if_neB dX11_sum_10 rfl ⟨fun h10 => ?_, fun h10 => ?_⟩
            · skip
              refine xq_aload_n dX11_sum_22 rfl rfl ?_
              refine xq_getIE (v := nI (sgc (kK s (rxN y)))) clX11 (by decide) rfl fl_RX11_157 dX11_sum_23 (Fx.s83 hF) hva ?_
              refine xq_istore_n dX11_sum_26 rfl rfl ?_
              refine xq_aload_n dX11_sum_27 rfl rfl ?_
              refine xq_callV0N clX11 gd_X11_knot dX11_sum_28 ml_RX11_262 im_X11_knot se_X11_knot rfl (Fx.s83 hF) (by exact Nat.le_of_ble_eq_true rfl) (by omega) (m_knot1 hF hr1.2.2.1 hr1.2.2.2.2 (by omega)) ?_
              intro H28 p28
              subst p28
              have hrk := hr1.kn (b := rxB y + 1)
              have skk := hsk.pF (k := 31) (by decide) (nI (rxB y + 1))
              refine xq_aload_n dX11_sum_31 rfl rfl ?_
              refine xq_callV0N clX11 gd_X11_goOn dX11_sum_32 ml_RX11_235 im_X11_goOn se_X11_goOn rfl (Fx.s83 hF) (by exact Nat.le_of_ble_eq_true rfl) (by omega) (m_goOn hrk.2.2.1 hrk.1 (kK_in (show kK s (rxN y) ≠ 44 by omega) hr1.1.lx)) ?_
              intro H32 p32
              obtain ⟨g1, g2⟩ := p32
              have hrn : RxP S H32 bt ln s N (nxB y) := hrk.tk g1 g2
              have skn := skk.tr (tok_sk g2)
              refine xq_aload_n dX11_sum_35 rfl rfl ?_
              refine xq_callV0N clX11 gd_X11_product dX11_sum_36 ml_RX11_292 im_X11_product se_X11_product rfl (Fx.s83 hF) (by exact Nat.le_of_ble_eq_true rfl) (by omega) (hsub _ hrn) ?_
              intro H36 p36
              obtain ⟨sq, rz⟩ := p36
              have skz := skn.tr sq
              refine xq_aload_n dX11_sum_39 rfl rfl ?_
              refine xq_iconst dX11_sum_40 ic2 ?_
              refine xq_iload_n dX11_sum_41 rfl rfl ?_
              refine xq_callV2N clX11 gd_X11_puts dX11_sum_42 ml_RX11_265 im_X11_puts se_X11_puts rfl (Fx.s83 hF) (by exact Nat.le_of_ble_eq_true rfl) (by omega) (m_puts hF rz.2.2.1 rz.nk hn64) ?_
              intro H42 p42
              subst p42
              have hput : RxP S (ptH H36 (tNk (rxX z)) 2 (sgc (kK s (rxN y)))) bt ln s N (adB (kK s (rxN y)) y z) := by
                have h := rz.pt (k := kK s (rxN y)) (a := tNk (rxX y) - 1) (b := tNk (rxX z) - 1) (w := oB (rxW z) (tNk (rxX z))) hn64
                rw [es, ev] at h
                exact h
              refine xq_goto dX11_sum_45 rfl ?_
              refine xq_fgt (L' := [some (.ref 83), none]) ?_ (by exact And.intro rfl trivial)
              exact ih (adB (kK s (rxN y)) y z) _ (by omega) (by omega) hput (hw1.rq hqb) hj (skz.pt)
            · skip
              refine xq_aload_n dX11_sum_13 rfl rfl ?_
              refine xq_bipush dX11_sum_14 bp45 ?_
              refine xq_callV1P clX11 gd_X11_isSign dX11_sum_16 ml_RX11_241 im_X11_isSign se_X11_isSign rfl (Fx.s83 hF) (by exact Nat.le_of_ble_eq_true rfl) (by omega) (m_isSign (K := 29) hF hr1.2.2.1 hr1.1 (by decide) (by decide)) ?_
              refine xq_if_eqB dX11_sum_19 rfl ⟨fun h19 => ?_, fun h19 => ?_⟩
              · skip
                have z1 := of_decide_eq_false h10
                have z2 := of_decide_eq_false h19
                exact absurd hk (by omega)
              · skip
                refine xq_aload_n dX11_sum_22 rfl rfl ?_
                refine xq_getIE (v := nI (sgc (kK s (rxN y)))) clX11 (by decide) rfl fl_RX11_157 dX11_sum_23 (Fx.s83 hF) hva ?_
                refine xq_istore_n dX11_sum_26 rfl rfl ?_
                refine xq_aload_n dX11_sum_27 rfl rfl ?_
                refine xq_callV0N clX11 gd_X11_knot dX11_sum_28 ml_RX11_262 im_X11_knot se_X11_knot rfl (Fx.s83 hF) (by exact Nat.le_of_ble_eq_true rfl) (by omega) (m_knot1 hF hr1.2.2.1 hr1.2.2.2.2 (by omega)) ?_
                intro H28 p28
                subst p28
                have hrk := hr1.kn (b := rxB y + 1)
                have skk := hsk.pF (k := 31) (by decide) (nI (rxB y + 1))
                refine xq_aload_n dX11_sum_31 rfl rfl ?_
                refine xq_callV0N clX11 gd_X11_goOn dX11_sum_32 ml_RX11_235 im_X11_goOn se_X11_goOn rfl (Fx.s83 hF) (by exact Nat.le_of_ble_eq_true rfl) (by omega) (m_goOn hrk.2.2.1 hrk.1 (kK_in (show kK s (rxN y) ≠ 44 by omega) hr1.1.lx)) ?_
                intro H32 p32
                obtain ⟨g1, g2⟩ := p32
                have hrn : RxP S H32 bt ln s N (nxB y) := hrk.tk g1 g2
                have skn := skk.tr (tok_sk g2)
                refine xq_aload_n dX11_sum_35 rfl rfl ?_
                refine xq_callV0N clX11 gd_X11_product dX11_sum_36 ml_RX11_292 im_X11_product se_X11_product rfl (Fx.s83 hF) (by exact Nat.le_of_ble_eq_true rfl) (by omega) (hsub _ hrn) ?_
                intro H36 p36
                obtain ⟨sq, rz⟩ := p36
                have skz := skn.tr sq
                refine xq_aload_n dX11_sum_39 rfl rfl ?_
                refine xq_iconst dX11_sum_40 ic2 ?_
                refine xq_iload_n dX11_sum_41 rfl rfl ?_
                refine xq_callV2N clX11 gd_X11_puts dX11_sum_42 ml_RX11_265 im_X11_puts se_X11_puts rfl (Fx.s83 hF) (by exact Nat.le_of_ble_eq_true rfl) (by omega) (m_puts hF rz.2.2.1 rz.nk hn64) ?_
                intro H42 p42
                subst p42
                have hput : RxP S (ptH H36 (tNk (rxX z)) 2 (sgc (kK s (rxN y)))) bt ln s N (adB (kK s (rxN y)) y z) := by
                  have h := rz.pt (k := kK s (rxN y)) (a := tNk (rxX y) - 1) (b := tNk (rxX z) - 1) (w := oB (rxW z) (tNk (rxX z))) hn64
                  rw [es, ev] at h
                  exact h
                refine xq_goto dX11_sum_45 rfl ?_
                refine xq_fgt (L' := [some (.ref 83), none]) ?_ (by exact And.intro rfl trivial)
                exact ih (adB (kK s (rxN y)) y z) _ (by omega) (by omega) hput (hw1.rq hqb) hj (skz.pt)
      · have hk2 := isE_n (by simpa using hg)
        rw [if_neg hg]
        refine xq_aload_n dX11_sum_4 rfl rfl ?_
        refine xq_bipush dX11_sum_5 bp43 ?_
        refine xq_callV1P clX11 gd_X11_isSign dX11_sum_7 ml_RX11_241 im_X11_isSign se_X11_isSign rfl (Fx.s83 hF) (by exact Nat.le_of_ble_eq_true rfl) (by omega) (m_isSign (K := 28) hF hr1.2.2.1 hr1.1 (by decide) (by decide)) ?_
        refine xq_if_neB dX11_sum_10 rfl ⟨fun h10 => ?_, fun h10 => ?_⟩
        · skip
          exact absurd (of_decide_eq_true h10) (by omega)
        · skip
          refine xq_aload_n dX11_sum_13 rfl rfl ?_
          refine xq_bipush dX11_sum_14 bp45 ?_
          refine xq_callV1P clX11 gd_X11_isSign dX11_sum_16 ml_RX11_241 im_X11_isSign se_X11_isSign rfl (Fx.s83 hF) (by exact Nat.le_of_ble_eq_true rfl) (by omega) (m_isSign (K := 29) hF hr1.2.2.1 hr1.1 (by decide) (by decide)) ?_
          refine xq_if_eqB dX11_sum_19 rfl ⟨fun h19 => ?_, fun h19 => ?_⟩
          · skip
            refine xq_vret dX11_sum_48 rfl ?_
            exact ⟨_, ⟨hsk, hr1⟩, rfl⟩
          · skip
            exact absurd (of_decide_eq_true h19) (by omega)
  have hsub : ∀ H3, RxP S H3 bt ln s N x → Nv mX11_product (K - 1) [.ref 83] S H3 (fun H2 => mQ S H3 H2 bt ln s N (rd s d 10 x)) := fun H3 h3 => IH d (Nat.le_refl _) x (K - 1) H3 (by omega) h3 hw (nj_b1 hn)
  refine vq_intro (by decide) (by exact Nat.le_of_ble_eq_true rfl) rfl ?_
  cases er : rd s d 10 x with
  | inl f =>
    obtain ⟨c, m⟩ := f
    rw [er] at hsub hn
    refine xq_aload_n dX11_sum_0 rfl rfl ?_
    refine xq_callV0N clX11 gd_X11_product dX11_sum_1 ml_RX11_292 im_X11_product se_X11_product rfl (Fx.s83 hF) (by exact Nat.le_of_ble_eq_true rfl) (by omega) (hsub _ hr) ?_
    intro H1 p1
    obtain ⟨skf, ft⟩ := p1
    have fa := ft.1; have fb := ft.2.2.1; have fc := ft.2.2.2.1
    refine xq_aload_n dX11_sum_4 rfl rfl ?_
    refine xq_bipush dX11_sum_5 bp43 ?_
    refine xq_callV1P clX11 gd_X11_isSign dX11_sum_7 ml_RX11_241 im_X11_isSign se_X11_isSign rfl (Fx.s83 hF) (by exact Nat.le_of_ble_eq_true rfl) (by omega) (m_isSign1 hF fa fb fc) ?_
    refine xq_if_neB dX11_sum_10 rfl ⟨fun h10 => ?_, fun h10 => ?_⟩
    · skip
      cases h10
    · skip
      refine xq_aload_n dX11_sum_13 rfl rfl ?_
      refine xq_bipush dX11_sum_14 bp45 ?_
      refine xq_callV1P clX11 gd_X11_isSign dX11_sum_16 ml_RX11_241 im_X11_isSign se_X11_isSign rfl (Fx.s83 hF) (by exact Nat.le_of_ble_eq_true rfl) (by omega) (m_isSign1 hF fa fb fc) ?_
      refine xq_if_eqB dX11_sum_19 rfl ⟨fun h19 => ?_, fun h19 => ?_⟩
      · skip
        refine xq_vret dX11_sum_48 rfl ?_
        exact ⟨_, ⟨skf, ft⟩, rfl⟩
      · skip
        cases h19
  | inr y =>
    have hq := rd_q d 10 x y hw.2.1 er
    have eo : rxO y = rxO x := hq.1
    have eb : rxB x ≤ rxB y := Nat.le_trans (Nat.le_add_right _ _) hq.2.1
    rw [er] at hsub hn
    refine xq_aload_n dX11_sum_0 rfl rfl ?_
    refine xq_callV0N clX11 gd_X11_product dX11_sum_1 ml_RX11_292 im_X11_product se_X11_product rfl (Fx.s83 hF) (by exact Nat.le_of_ble_eq_true rfl) (by omega) (hsub _ hr) ?_
    intro H1 p1
    obtain ⟨sq, rz⟩ := p1
    exact lp d y H1 (Nat.le_refl _) (by omega) rz (hw.rq hq) hn sq
theorem m_conjunction (hF : gFx S) (IH : ∀ d2, d2 ≤ d → MOk S mX11_negation 13 bt ln s N d2 8) : MOk S mX11_conjunction 14 bt ln s N (d + 1) 7 := by
  intro x K H hK hr hw hn
  rw [rd_7] at hn ⊢
  have lp : ∀ (e : Nat) (y : rxT) (H1 : xH), e ≤ d → 6 * (8 - rxO y) + (64 - rxB y) + 14 ≤ K → RxP S H1 bt ln s N y → RxW y → NjQ (rd s e 13 y) → SmK H H1 → Xq mX11_conjunction K 0 0 4 [some (.ref 83)] [] S H1 (fun R => ∃ H2, (mQ S H H2 bt ln s N (rd s e 13 y)) ∧ R = (none, S, H2)) := by
    intro e
    induction e with
    | zero => intro y H1 _ _ _ _ hj; exact absurd rfl (hj 0)
    | succ e ih =>
      intro y H1 he hK1 hr1 hw1 hj hsk
      rw [rd_13] at hj ⊢
      unfold lopG at hj ⊢
      by_cases hg : isE 12 12 (kK s (rxN y)) = true
      · rw [if_pos hg] at hj ⊢
        have hk := isE_t hg
        by_cases h64 : 64 ≤ rxB y
        · rw [if_pos h64]
          refine xq_aload_n dX11_conjunction_4 rfl rfl ?_
          refine xq_bipush dX11_conjunction_5 bp12 ?_
          refine xq_callV1P clX11 gd_X11_isWord dX11_conjunction_7 ml_RX11_259 im_X11_isWord se_X11_isWord rfl (Fx.s83 hF) (by exact Nat.le_of_ble_eq_true rfl) (by omega) (m_isWord (w := 12) hF hr1.2.2.1 hr1.1 (by decide)) ?_
          refine xq_if_eqB dX11_conjunction_10 rfl ⟨fun h10 => ?_, fun h10 => ?_⟩
          · skip
            exact absurd (of_decide_eq_false h10) (by omega)
          · skip
            refine xq_aload_n dX11_conjunction_13 rfl rfl ?_
            refine xq_callV0N clX11 gd_X11_knot dX11_conjunction_14 ml_RX11_262 im_X11_knot se_X11_knot rfl (Fx.s83 hF) (by exact Nat.le_of_ble_eq_true rfl) (by omega) (m_knot0 hF hr1.2.2.1 hr1.1 hr1.2.2.2.2 (by have := hw1.2.1; omega)) ?_
            intro H14 p14
            have ft := FtQ.mf p14 (by decide) (by decide) hr1.1.js
            have skf := hsk.tr (MfQ.sk p14)
            have fa := ft.1; have fb := ft.2.2.1; have fc := ft.2.2.2.1
            refine xq_aload_n dX11_conjunction_17 rfl rfl ?_
            refine xq_callV0N clX11 gd_X11_goOn dX11_conjunction_18 ml_RX11_235 im_X11_goOn se_X11_goOn rfl (Fx.s83 hF) (by exact Nat.le_of_ble_eq_true rfl) (by omega) (m_goOn1 hF fa fb fc) ?_
            intro H18 p18
            subst p18
            refine xq_aload_n dX11_conjunction_21 rfl rfl ?_
            refine xq_callV0N clX11 gd_X11_negation dX11_conjunction_22 ml_RX11_286 im_X11_negation se_X11_negation rfl (Fx.s83 hF) (by exact Nat.le_of_ble_eq_true rfl) (by omega) (m_negationF hF fa fb fc) ?_
            intro H22 p22
            subst p22
            refine xq_aload_n dX11_conjunction_25 rfl rfl ?_
            refine xq_iconst dX11_conjunction_26 ic2 ?_
            refine xq_sipush dX11_conjunction_27 sp261 ?_
            refine xq_callV2N clX11 gd_X11_puts dX11_conjunction_30 ml_RX11_265 im_X11_puts se_X11_puts rfl (Fx.s83 hF) (by exact Nat.le_of_ble_eq_true rfl) (by omega) (m_putsF hF fa fb fc) ?_
            intro H30 p30
            subst p30
            refine xq_goto dX11_conjunction_33 rfl ?_
            refine xq_aload_n dX11_conjunction_4 rfl rfl ?_
            refine xq_bipush dX11_conjunction_5 bp12 ?_
            refine xq_callV1P clX11 gd_X11_isWord dX11_conjunction_7 ml_RX11_259 im_X11_isWord se_X11_isWord rfl (Fx.s83 hF) (by exact Nat.le_of_ble_eq_true rfl) (by omega) (m_isWord1 hF fa fb fc) ?_
            refine xq_if_eqB dX11_conjunction_10 rfl ⟨fun h10 => ?_, fun h10 => ?_⟩
            · skip
              refine xq_vret dX11_conjunction_36 rfl ?_
              exact ⟨_, ⟨skf, ft⟩, rfl⟩
            · skip
              cases h10
        · rw [if_neg h64] at hj ⊢
          have hsub : ∀ H3, RxP S H3 bt ln s N (nxB y) → Nv mX11_negation (K - 1) [.ref 83] S H3 (fun H2 => mQ S H3 H2 bt ln s N (rd s e 8 (nxB y))) := fun H3 h3 => IH e (by omega) (nxB y) (K - 1) H3 (by show 6 * (8 - rxO y) + (64 - (rxB y + 1)) + 13 ≤ K - 1; omega) h3 (hw1.nx (by omega)) (nj_b1 hj)
          cases er : rd s e 8 (nxB y) with
          | inl f =>
            obtain ⟨c, m⟩ := f
            rw [er] at hsub hj
            refine xq_aload_n dX11_conjunction_4 rfl rfl ?_
            refine xq_bipush dX11_conjunction_5 bp12 ?_
            refine xq_callV1P clX11 gd_X11_isWord dX11_conjunction_7 ml_RX11_259 im_X11_isWord se_X11_isWord rfl (Fx.s83 hF) (by exact Nat.le_of_ble_eq_true rfl) (by omega) (m_isWord (w := 12) hF hr1.2.2.1 hr1.1 (by decide)) ?_
            refine xq_if_eqB dX11_conjunction_10 rfl ⟨fun h10 => ?_, fun h10 => ?_⟩
            · skip
              exact absurd (of_decide_eq_false h10) (by omega)
            · skip
              refine xq_aload_n dX11_conjunction_13 rfl rfl ?_
              refine xq_callV0N clX11 gd_X11_knot dX11_conjunction_14 ml_RX11_262 im_X11_knot se_X11_knot rfl (Fx.s83 hF) (by exact Nat.le_of_ble_eq_true rfl) (by omega) (m_knot1 hF hr1.2.2.1 hr1.2.2.2.2 (by omega)) ?_
              intro H14 p14
              subst p14
              have hrk := hr1.kn (b := rxB y + 1)
              have skk := hsk.pF (k := 31) (by decide) (nI (rxB y + 1))
              refine xq_aload_n dX11_conjunction_17 rfl rfl ?_
              refine xq_callV0N clX11 gd_X11_goOn dX11_conjunction_18 ml_RX11_235 im_X11_goOn se_X11_goOn rfl (Fx.s83 hF) (by exact Nat.le_of_ble_eq_true rfl) (by omega) (m_goOn hrk.2.2.1 hrk.1 (kK_in (show kK s (rxN y) ≠ 44 by omega) hr1.1.lx)) ?_
              intro H18 p18
              obtain ⟨g1, g2⟩ := p18
              have hrn : RxP S H18 bt ln s N (nxB y) := hrk.tk g1 g2
              have skn := skk.tr (tok_sk g2)
              refine xq_aload_n dX11_conjunction_21 rfl rfl ?_
              refine xq_callV0N clX11 gd_X11_negation dX11_conjunction_22 ml_RX11_286 im_X11_negation se_X11_negation rfl (Fx.s83 hF) (by exact Nat.le_of_ble_eq_true rfl) (by omega) (hsub _ hrn) ?_
              intro H22 p22
              obtain ⟨sq, ft⟩ := p22
              have skf := skn.tr sq
              have fa := ft.1; have fb := ft.2.2.1; have fc := ft.2.2.2.1
              refine xq_aload_n dX11_conjunction_25 rfl rfl ?_
              refine xq_iconst dX11_conjunction_26 ic2 ?_
              refine xq_sipush dX11_conjunction_27 sp261 ?_
              refine xq_callV2N clX11 gd_X11_puts dX11_conjunction_30 ml_RX11_265 im_X11_puts se_X11_puts rfl (Fx.s83 hF) (by exact Nat.le_of_ble_eq_true rfl) (by omega) (m_putsF hF fa fb fc) ?_
              intro H30 p30
              subst p30
              refine xq_goto dX11_conjunction_33 rfl ?_
              refine xq_aload_n dX11_conjunction_4 rfl rfl ?_
              refine xq_bipush dX11_conjunction_5 bp12 ?_
              refine xq_callV1P clX11 gd_X11_isWord dX11_conjunction_7 ml_RX11_259 im_X11_isWord se_X11_isWord rfl (Fx.s83 hF) (by exact Nat.le_of_ble_eq_true rfl) (by omega) (m_isWord1 hF fa fb fc) ?_
              refine xq_if_eqB dX11_conjunction_10 rfl ⟨fun h10 => ?_, fun h10 => ?_⟩
              · skip
                refine xq_vret dX11_conjunction_36 rfl ?_
                exact ⟨_, ⟨skf, ft⟩, rfl⟩
              · skip
                cases h10
          | inr z =>
            have hq := rd_q e 8 (nxB y) z (show rxB y + 1 ≤ 64 by omega) er
            have hqb := hq.b (k := kK s (rxN y))
            have hn64 : tNk (rxX z) < 64 := by
              have q4 : tNk (rxX z) + (rxB y + 1) = tNk (rxX y) + rxB z := hq.2.2.2.1
              have q3 := hq.2.2.1
              have w4 := hw1.2.2.2
              omega
            have eo : rxO (adB (kK s (rxN y)) y z) = rxO y := hqb.1
            have eb : rxB y + 1 ≤ rxB (adB (kK s (rxN y)) y z) := hqb.2.1
            have es : mks (kK s (rxN y)) = 2 := by rw [show kK s (rxN y) = 12 by omega]; rfl
            have ev : mkv (kK s (rxN y)) (tNk (rxX y) - 1) (tNk (rxX z) - 1) = 261 := by rw [show kK s (rxN y) = 12 by omega]; rfl
            rw [er] at hsub hj
            have hj : NjQ (rd s e 13 (adB (kK s (rxN y)) y z)) := hj
            refine xq_aload_n dX11_conjunction_4 rfl rfl ?_
            refine xq_bipush dX11_conjunction_5 bp12 ?_
            refine xq_callV1P clX11 gd_X11_isWord dX11_conjunction_7 ml_RX11_259 im_X11_isWord se_X11_isWord rfl (Fx.s83 hF) (by exact Nat.le_of_ble_eq_true rfl) (by omega) (m_isWord (w := 12) hF hr1.2.2.1 hr1.1 (by decide)) ?_
            refine xq_if_eqB dX11_conjunction_10 rfl ⟨fun h10 => ?_, fun h10 => ?_⟩
            · skip
              exact absurd (of_decide_eq_false h10) (by omega)
            · skip
              refine xq_aload_n dX11_conjunction_13 rfl rfl ?_
              refine xq_callV0N clX11 gd_X11_knot dX11_conjunction_14 ml_RX11_262 im_X11_knot se_X11_knot rfl (Fx.s83 hF) (by exact Nat.le_of_ble_eq_true rfl) (by omega) (m_knot1 hF hr1.2.2.1 hr1.2.2.2.2 (by omega)) ?_
              intro H14 p14
              subst p14
              have hrk := hr1.kn (b := rxB y + 1)
              have skk := hsk.pF (k := 31) (by decide) (nI (rxB y + 1))
              refine xq_aload_n dX11_conjunction_17 rfl rfl ?_
              refine xq_callV0N clX11 gd_X11_goOn dX11_conjunction_18 ml_RX11_235 im_X11_goOn se_X11_goOn rfl (Fx.s83 hF) (by exact Nat.le_of_ble_eq_true rfl) (by omega) (m_goOn hrk.2.2.1 hrk.1 (kK_in (show kK s (rxN y) ≠ 44 by omega) hr1.1.lx)) ?_
              intro H18 p18
              obtain ⟨g1, g2⟩ := p18
              have hrn : RxP S H18 bt ln s N (nxB y) := hrk.tk g1 g2
              have skn := skk.tr (tok_sk g2)
              refine xq_aload_n dX11_conjunction_21 rfl rfl ?_
              refine xq_callV0N clX11 gd_X11_negation dX11_conjunction_22 ml_RX11_286 im_X11_negation se_X11_negation rfl (Fx.s83 hF) (by exact Nat.le_of_ble_eq_true rfl) (by omega) (hsub _ hrn) ?_
              intro H22 p22
              obtain ⟨sq, rz⟩ := p22
              have skz := skn.tr sq
              refine xq_aload_n dX11_conjunction_25 rfl rfl ?_
              refine xq_iconst dX11_conjunction_26 ic2 ?_
              refine xq_sipush dX11_conjunction_27 sp261 ?_
              refine xq_callV2N clX11 gd_X11_puts dX11_conjunction_30 ml_RX11_265 im_X11_puts se_X11_puts rfl (Fx.s83 hF) (by exact Nat.le_of_ble_eq_true rfl) (by omega) (m_puts hF rz.2.2.1 rz.nk hn64) ?_
              intro H30 p30
              subst p30
              have hput : RxP S (ptH H22 (tNk (rxX z)) 2 261) bt ln s N (adB (kK s (rxN y)) y z) := by
                have h := rz.pt (k := kK s (rxN y)) (a := tNk (rxX y) - 1) (b := tNk (rxX z) - 1) (w := oB (rxW z) (tNk (rxX z))) hn64
                rw [es, ev] at h
                exact h
              refine xq_goto dX11_conjunction_33 rfl ?_
              exact ih (adB (kK s (rxN y)) y z) _ (by omega) (by omega) hput (hw1.rq hqb) hj (skz.pt)
      · have hk2 := isE_n (by simpa using hg)
        rw [if_neg hg]
        refine xq_aload_n dX11_conjunction_4 rfl rfl ?_
        refine xq_bipush dX11_conjunction_5 bp12 ?_
        refine xq_callV1P clX11 gd_X11_isWord dX11_conjunction_7 ml_RX11_259 im_X11_isWord se_X11_isWord rfl (Fx.s83 hF) (by exact Nat.le_of_ble_eq_true rfl) (by omega) (m_isWord (w := 12) hF hr1.2.2.1 hr1.1 (by decide)) ?_
        refine xq_if_eqB dX11_conjunction_10 rfl ⟨fun h10 => ?_, fun h10 => ?_⟩
        · skip
          refine xq_vret dX11_conjunction_36 rfl ?_
          exact ⟨_, ⟨hsk, hr1⟩, rfl⟩
        · skip
          exact absurd (of_decide_eq_true h10) (by omega)
  have hsub : ∀ H3, RxP S H3 bt ln s N x → Nv mX11_negation (K - 1) [.ref 83] S H3 (fun H2 => mQ S H3 H2 bt ln s N (rd s d 8 x)) := fun H3 h3 => IH d (Nat.le_refl _) x (K - 1) H3 (by omega) h3 hw (nj_b1 hn)
  refine vq_intro (by decide) (by exact Nat.le_of_ble_eq_true rfl) rfl ?_
  cases er : rd s d 8 x with
  | inl f =>
    obtain ⟨c, m⟩ := f
    rw [er] at hsub hn
    refine xq_aload_n dX11_conjunction_0 rfl rfl ?_
    refine xq_callV0N clX11 gd_X11_negation dX11_conjunction_1 ml_RX11_286 im_X11_negation se_X11_negation rfl (Fx.s83 hF) (by exact Nat.le_of_ble_eq_true rfl) (by omega) (hsub _ hr) ?_
    intro H1 p1
    obtain ⟨skf, ft⟩ := p1
    have fa := ft.1; have fb := ft.2.2.1; have fc := ft.2.2.2.1
    refine xq_aload_n dX11_conjunction_4 rfl rfl ?_
    refine xq_bipush dX11_conjunction_5 bp12 ?_
    refine xq_callV1P clX11 gd_X11_isWord dX11_conjunction_7 ml_RX11_259 im_X11_isWord se_X11_isWord rfl (Fx.s83 hF) (by exact Nat.le_of_ble_eq_true rfl) (by omega) (m_isWord1 hF fa fb fc) ?_
    refine xq_if_eqB dX11_conjunction_10 rfl ⟨fun h10 => ?_, fun h10 => ?_⟩
    · skip
      refine xq_vret dX11_conjunction_36 rfl ?_
      exact ⟨_, ⟨skf, ft⟩, rfl⟩
    · skip
      cases h10
  | inr y =>
    have hq := rd_q d 8 x y hw.2.1 er
    have eo : rxO y = rxO x := hq.1
    have eb : rxB x ≤ rxB y := Nat.le_trans (Nat.le_add_right _ _) hq.2.1
    rw [er] at hsub hn
    refine xq_aload_n dX11_conjunction_0 rfl rfl ?_
    refine xq_callV0N clX11 gd_X11_negation dX11_conjunction_1 ml_RX11_286 im_X11_negation se_X11_negation rfl (Fx.s83 hF) (by exact Nat.le_of_ble_eq_true rfl) (by omega) (hsub _ hr) ?_
    intro H1 p1
    obtain ⟨sq, rz⟩ := p1
    exact lp d y H1 (Nat.le_refl _) (by omega) rz (hw.rq hq) hn sq
theorem m_expression (hF : gFx S) (IH : ∀ d2, d2 ≤ d → MOk S mX11_conjunction 14 bt ln s N d2 7) : MOk S mX11_expression 15 bt ln s N (d + 1) 6 := by
  intro x K H hK hr hw hn
  rw [rd_6] at hn ⊢
  have lp : ∀ (e : Nat) (y : rxT) (H1 : xH), e ≤ d → 6 * (8 - rxO y) + (64 - rxB y) + 15 ≤ K → RxP S H1 bt ln s N y → RxW y → NjQ (rd s e 12 y) → SmK H H1 → Xq mX11_expression K 0 0 4 [some (.ref 83)] [] S H1 (fun R => ∃ H2, (mQ S H H2 bt ln s N (rd s e 12 y)) ∧ R = (none, S, H2)) := by
    intro e
    induction e with
    | zero => intro y H1 _ _ _ _ hj; exact absurd rfl (hj 0)
    | succ e ih =>
      intro y H1 he hK1 hr1 hw1 hj hsk
      rw [rd_12] at hj ⊢
      unfold lopG at hj ⊢
      by_cases hg : isE 11 11 (kK s (rxN y)) = true
      · rw [if_pos hg] at hj ⊢
        have hk := isE_t hg
        by_cases h64 : 64 ≤ rxB y
        · rw [if_pos h64]
          refine xq_aload_n dX11_expression_4 rfl rfl ?_
          refine xq_bipush dX11_expression_5 bp11 ?_
          refine xq_callV1P clX11 gd_X11_isWord dX11_expression_7 ml_RX11_259 im_X11_isWord se_X11_isWord rfl (Fx.s83 hF) (by exact Nat.le_of_ble_eq_true rfl) (by omega) (m_isWord (w := 11) hF hr1.2.2.1 hr1.1 (by decide)) ?_
          refine xq_if_eqB dX11_expression_10 rfl ⟨fun h10 => ?_, fun h10 => ?_⟩
          · skip
            exact absurd (of_decide_eq_false h10) (by omega)
          · skip
            refine xq_aload_n dX11_expression_13 rfl rfl ?_
            refine xq_callV0N clX11 gd_X11_knot dX11_expression_14 ml_RX11_262 im_X11_knot se_X11_knot rfl (Fx.s83 hF) (by exact Nat.le_of_ble_eq_true rfl) (by omega) (m_knot0 hF hr1.2.2.1 hr1.1 hr1.2.2.2.2 (by have := hw1.2.1; omega)) ?_
            intro H14 p14
            have ft := FtQ.mf p14 (by decide) (by decide) hr1.1.js
            have skf := hsk.tr (MfQ.sk p14)
            have fa := ft.1; have fb := ft.2.2.1; have fc := ft.2.2.2.1
            refine xq_aload_n dX11_expression_17 rfl rfl ?_
            refine xq_callV0N clX11 gd_X11_goOn dX11_expression_18 ml_RX11_235 im_X11_goOn se_X11_goOn rfl (Fx.s83 hF) (by exact Nat.le_of_ble_eq_true rfl) (by omega) (m_goOn1 hF fa fb fc) ?_
            intro H18 p18
            subst p18
            refine xq_aload_n dX11_expression_21 rfl rfl ?_
            refine xq_callV0N clX11 gd_X11_conjunction dX11_expression_22 ml_RX11_283 im_X11_conjunction se_X11_conjunction rfl (Fx.s83 hF) (by exact Nat.le_of_ble_eq_true rfl) (by omega) (m_conjunctionF hF fa fb fc) ?_
            intro H22 p22
            subst p22
            refine xq_aload_n dX11_expression_25 rfl rfl ?_
            refine xq_iconst dX11_expression_26 ic2 ?_
            refine xq_sipush dX11_expression_27 sp262 ?_
            refine xq_callV2N clX11 gd_X11_puts dX11_expression_30 ml_RX11_265 im_X11_puts se_X11_puts rfl (Fx.s83 hF) (by exact Nat.le_of_ble_eq_true rfl) (by omega) (m_putsF hF fa fb fc) ?_
            intro H30 p30
            subst p30
            refine xq_goto dX11_expression_33 rfl ?_
            refine xq_aload_n dX11_expression_4 rfl rfl ?_
            refine xq_bipush dX11_expression_5 bp11 ?_
            refine xq_callV1P clX11 gd_X11_isWord dX11_expression_7 ml_RX11_259 im_X11_isWord se_X11_isWord rfl (Fx.s83 hF) (by exact Nat.le_of_ble_eq_true rfl) (by omega) (m_isWord1 hF fa fb fc) ?_
            refine xq_if_eqB dX11_expression_10 rfl ⟨fun h10 => ?_, fun h10 => ?_⟩
            · skip
              refine xq_vret dX11_expression_36 rfl ?_
              exact ⟨_, ⟨skf, ft⟩, rfl⟩
            · skip
              cases h10
        · rw [if_neg h64] at hj ⊢
          have hsub : ∀ H3, RxP S H3 bt ln s N (nxB y) → Nv mX11_conjunction (K - 1) [.ref 83] S H3 (fun H2 => mQ S H3 H2 bt ln s N (rd s e 7 (nxB y))) := fun H3 h3 => IH e (by omega) (nxB y) (K - 1) H3 (by show 6 * (8 - rxO y) + (64 - (rxB y + 1)) + 14 ≤ K - 1; omega) h3 (hw1.nx (by omega)) (nj_b1 hj)
          cases er : rd s e 7 (nxB y) with
          | inl f =>
            obtain ⟨c, m⟩ := f
            rw [er] at hsub hj
            refine xq_aload_n dX11_expression_4 rfl rfl ?_
            refine xq_bipush dX11_expression_5 bp11 ?_
            refine xq_callV1P clX11 gd_X11_isWord dX11_expression_7 ml_RX11_259 im_X11_isWord se_X11_isWord rfl (Fx.s83 hF) (by exact Nat.le_of_ble_eq_true rfl) (by omega) (m_isWord (w := 11) hF hr1.2.2.1 hr1.1 (by decide)) ?_
            refine xq_if_eqB dX11_expression_10 rfl ⟨fun h10 => ?_, fun h10 => ?_⟩
            · skip
              exact absurd (of_decide_eq_false h10) (by omega)
            · skip
              refine xq_aload_n dX11_expression_13 rfl rfl ?_
              refine xq_callV0N clX11 gd_X11_knot dX11_expression_14 ml_RX11_262 im_X11_knot se_X11_knot rfl (Fx.s83 hF) (by exact Nat.le_of_ble_eq_true rfl) (by omega) (m_knot1 hF hr1.2.2.1 hr1.2.2.2.2 (by omega)) ?_
              intro H14 p14
              subst p14
              have hrk := hr1.kn (b := rxB y + 1)
              have skk := hsk.pF (k := 31) (by decide) (nI (rxB y + 1))
              refine xq_aload_n dX11_expression_17 rfl rfl ?_
              refine xq_callV0N clX11 gd_X11_goOn dX11_expression_18 ml_RX11_235 im_X11_goOn se_X11_goOn rfl (Fx.s83 hF) (by exact Nat.le_of_ble_eq_true rfl) (by omega) (m_goOn hrk.2.2.1 hrk.1 (kK_in (show kK s (rxN y) ≠ 44 by omega) hr1.1.lx)) ?_
              intro H18 p18
              obtain ⟨g1, g2⟩ := p18
              have hrn : RxP S H18 bt ln s N (nxB y) := hrk.tk g1 g2
              have skn := skk.tr (tok_sk g2)
              refine xq_aload_n dX11_expression_21 rfl rfl ?_
              refine xq_callV0N clX11 gd_X11_conjunction dX11_expression_22 ml_RX11_283 im_X11_conjunction se_X11_conjunction rfl (Fx.s83 hF) (by exact Nat.le_of_ble_eq_true rfl) (by omega) (hsub _ hrn) ?_
              intro H22 p22
              obtain ⟨sq, ft⟩ := p22
              have skf := skn.tr sq
              have fa := ft.1; have fb := ft.2.2.1; have fc := ft.2.2.2.1
              refine xq_aload_n dX11_expression_25 rfl rfl ?_
              refine xq_iconst dX11_expression_26 ic2 ?_
              refine xq_sipush dX11_expression_27 sp262 ?_
              refine xq_callV2N clX11 gd_X11_puts dX11_expression_30 ml_RX11_265 im_X11_puts se_X11_puts rfl (Fx.s83 hF) (by exact Nat.le_of_ble_eq_true rfl) (by omega) (m_putsF hF fa fb fc) ?_
              intro H30 p30
              subst p30
              refine xq_goto dX11_expression_33 rfl ?_
              refine xq_aload_n dX11_expression_4 rfl rfl ?_
              refine xq_bipush dX11_expression_5 bp11 ?_
              refine xq_callV1P clX11 gd_X11_isWord dX11_expression_7 ml_RX11_259 im_X11_isWord se_X11_isWord rfl (Fx.s83 hF) (by exact Nat.le_of_ble_eq_true rfl) (by omega) (m_isWord1 hF fa fb fc) ?_
              refine xq_if_eqB dX11_expression_10 rfl ⟨fun h10 => ?_, fun h10 => ?_⟩
              · skip
                refine xq_vret dX11_expression_36 rfl ?_
                exact ⟨_, ⟨skf, ft⟩, rfl⟩
              · skip
                cases h10
          | inr z =>
            have hq := rd_q e 7 (nxB y) z (show rxB y + 1 ≤ 64 by omega) er
            have hqb := hq.b (k := kK s (rxN y))
            have hn64 : tNk (rxX z) < 64 := by
              have q4 : tNk (rxX z) + (rxB y + 1) = tNk (rxX y) + rxB z := hq.2.2.2.1
              have q3 := hq.2.2.1
              have w4 := hw1.2.2.2
              omega
            have eo : rxO (adB (kK s (rxN y)) y z) = rxO y := hqb.1
            have eb : rxB y + 1 ≤ rxB (adB (kK s (rxN y)) y z) := hqb.2.1
            have es : mks (kK s (rxN y)) = 2 := by rw [show kK s (rxN y) = 11 by omega]; rfl
            have ev : mkv (kK s (rxN y)) (tNk (rxX y) - 1) (tNk (rxX z) - 1) = 262 := by rw [show kK s (rxN y) = 11 by omega]; rfl
            rw [er] at hsub hj
            have hj : NjQ (rd s e 12 (adB (kK s (rxN y)) y z)) := hj
            refine xq_aload_n dX11_expression_4 rfl rfl ?_
            refine xq_bipush dX11_expression_5 bp11 ?_
            refine xq_callV1P clX11 gd_X11_isWord dX11_expression_7 ml_RX11_259 im_X11_isWord se_X11_isWord rfl (Fx.s83 hF) (by exact Nat.le_of_ble_eq_true rfl) (by omega) (m_isWord (w := 11) hF hr1.2.2.1 hr1.1 (by decide)) ?_
            refine xq_if_eqB dX11_expression_10 rfl ⟨fun h10 => ?_, fun h10 => ?_⟩
            · skip
              exact absurd (of_decide_eq_false h10) (by omega)
            · skip
              refine xq_aload_n dX11_expression_13 rfl rfl ?_
              refine xq_callV0N clX11 gd_X11_knot dX11_expression_14 ml_RX11_262 im_X11_knot se_X11_knot rfl (Fx.s83 hF) (by exact Nat.le_of_ble_eq_true rfl) (by omega) (m_knot1 hF hr1.2.2.1 hr1.2.2.2.2 (by omega)) ?_
              intro H14 p14
              subst p14
              have hrk := hr1.kn (b := rxB y + 1)
              have skk := hsk.pF (k := 31) (by decide) (nI (rxB y + 1))
              refine xq_aload_n dX11_expression_17 rfl rfl ?_
              refine xq_callV0N clX11 gd_X11_goOn dX11_expression_18 ml_RX11_235 im_X11_goOn se_X11_goOn rfl (Fx.s83 hF) (by exact Nat.le_of_ble_eq_true rfl) (by omega) (m_goOn hrk.2.2.1 hrk.1 (kK_in (show kK s (rxN y) ≠ 44 by omega) hr1.1.lx)) ?_
              intro H18 p18
              obtain ⟨g1, g2⟩ := p18
              have hrn : RxP S H18 bt ln s N (nxB y) := hrk.tk g1 g2
              have skn := skk.tr (tok_sk g2)
              refine xq_aload_n dX11_expression_21 rfl rfl ?_
              refine xq_callV0N clX11 gd_X11_conjunction dX11_expression_22 ml_RX11_283 im_X11_conjunction se_X11_conjunction rfl (Fx.s83 hF) (by exact Nat.le_of_ble_eq_true rfl) (by omega) (hsub _ hrn) ?_
              intro H22 p22
              obtain ⟨sq, rz⟩ := p22
              have skz := skn.tr sq
              refine xq_aload_n dX11_expression_25 rfl rfl ?_
              refine xq_iconst dX11_expression_26 ic2 ?_
              refine xq_sipush dX11_expression_27 sp262 ?_
              refine xq_callV2N clX11 gd_X11_puts dX11_expression_30 ml_RX11_265 im_X11_puts se_X11_puts rfl (Fx.s83 hF) (by exact Nat.le_of_ble_eq_true rfl) (by omega) (m_puts hF rz.2.2.1 rz.nk hn64) ?_
              intro H30 p30
              subst p30
              have hput : RxP S (ptH H22 (tNk (rxX z)) 2 262) bt ln s N (adB (kK s (rxN y)) y z) := by
                have h := rz.pt (k := kK s (rxN y)) (a := tNk (rxX y) - 1) (b := tNk (rxX z) - 1) (w := oB (rxW z) (tNk (rxX z))) hn64
                rw [es, ev] at h
                exact h
              refine xq_goto dX11_expression_33 rfl ?_
              exact ih (adB (kK s (rxN y)) y z) _ (by omega) (by omega) hput (hw1.rq hqb) hj (skz.pt)
      · have hk2 := isE_n (by simpa using hg)
        rw [if_neg hg]
        refine xq_aload_n dX11_expression_4 rfl rfl ?_
        refine xq_bipush dX11_expression_5 bp11 ?_
        refine xq_callV1P clX11 gd_X11_isWord dX11_expression_7 ml_RX11_259 im_X11_isWord se_X11_isWord rfl (Fx.s83 hF) (by exact Nat.le_of_ble_eq_true rfl) (by omega) (m_isWord (w := 11) hF hr1.2.2.1 hr1.1 (by decide)) ?_
        refine xq_if_eqB dX11_expression_10 rfl ⟨fun h10 => ?_, fun h10 => ?_⟩
        · skip
          refine xq_vret dX11_expression_36 rfl ?_
          exact ⟨_, ⟨hsk, hr1⟩, rfl⟩
        · skip
          exact absurd (of_decide_eq_true h10) (by omega)
  have hsub : ∀ H3, RxP S H3 bt ln s N x → Nv mX11_conjunction (K - 1) [.ref 83] S H3 (fun H2 => mQ S H3 H2 bt ln s N (rd s d 7 x)) := fun H3 h3 => IH d (Nat.le_refl _) x (K - 1) H3 (by omega) h3 hw (nj_b1 hn)
  refine vq_intro (by decide) (by exact Nat.le_of_ble_eq_true rfl) rfl ?_
  cases er : rd s d 7 x with
  | inl f =>
    obtain ⟨c, m⟩ := f
    rw [er] at hsub hn
    refine xq_aload_n dX11_expression_0 rfl rfl ?_
    refine xq_callV0N clX11 gd_X11_conjunction dX11_expression_1 ml_RX11_283 im_X11_conjunction se_X11_conjunction rfl (Fx.s83 hF) (by exact Nat.le_of_ble_eq_true rfl) (by omega) (hsub _ hr) ?_
    intro H1 p1
    obtain ⟨skf, ft⟩ := p1
    have fa := ft.1; have fb := ft.2.2.1; have fc := ft.2.2.2.1
    refine xq_aload_n dX11_expression_4 rfl rfl ?_
    refine xq_bipush dX11_expression_5 bp11 ?_
    refine xq_callV1P clX11 gd_X11_isWord dX11_expression_7 ml_RX11_259 im_X11_isWord se_X11_isWord rfl (Fx.s83 hF) (by exact Nat.le_of_ble_eq_true rfl) (by omega) (m_isWord1 hF fa fb fc) ?_
    refine xq_if_eqB dX11_expression_10 rfl ⟨fun h10 => ?_, fun h10 => ?_⟩
    · skip
      refine xq_vret dX11_expression_36 rfl ?_
      exact ⟨_, ⟨skf, ft⟩, rfl⟩
    · skip
      cases h10
  | inr y =>
    have hq := rd_q d 7 x y hw.2.1 er
    have eo : rxO y = rxO x := hq.1
    have eb : rxB x ≤ rxB y := Nat.le_trans (Nat.le_add_right _ _) hq.2.1
    rw [er] at hsub hn
    refine xq_aload_n dX11_expression_0 rfl rfl ?_
    refine xq_callV0N clX11 gd_X11_conjunction dX11_expression_1 ml_RX11_283 im_X11_conjunction se_X11_conjunction rfl (Fx.s83 hF) (by exact Nat.le_of_ble_eq_true rfl) (by omega) (hsub _ hr) ?_
    intro H1 p1
    obtain ⟨sq, rz⟩ := p1
    exact lp d y H1 (Nat.le_refl _) (by omega) rz (hw.rq hq) hn sq
end ML1
