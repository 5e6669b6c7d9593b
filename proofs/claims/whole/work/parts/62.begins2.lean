/-! ===== the reference: it begins, its first room ===== -/
section BF
variable {S : xS} {H H1 H2 H3 : xH} {T : uTx} {N : Nat → Nat → Nat} {s a c w p q n i j k x y m l f W : Nat} {g d : Nat → Nat} {A F : Nat → Prop} {b : Bool}
theorem ct_all : ∀ n, ct (fun _ => true) n = n
  | 0 => rfl
  | n + 1 => by rw [ct_t (f := fun _ => true) rfl, ct_all n]
theorem gl_all (l : List Nat) : gl (fun _ => true) (fun w => l.getD w 0) l.length = l := by
  unfold gl
  rw [show (List.range l.length).filter (fun _ => true) = List.range l.length from List.filter_eq_self.mpr (fun _ _ => rfl)]
  apply List.ext_getElem
  · simp
  · intro i h1 h2
    simp at h1
    simp [h1]
theorem MwP.of (h : MwP H T) (ho : Off A H H2) (h0 : ¬ A 103) (h83 : ¬ A 83) : MwP H2 T := h.off (MoF.of (F := fun _ => False) ho h83) h0 (fun e => e) (fun e => e)
theorem LfR.beg (t : TtOk T) : LfR T (fun _ => true) (begU T) := by
  refine ⟨?_, t.1, rfl, ?_, rfl⟩
  · show wls T = _
    exact (gl_all (wls T)).symm
  · show rlS T (wys T) = _
    rw [ct_all]; rfl
theorem sbs_id {n e : Nat} (hn : n ≤ 6) (he : e < 2 ^ n) : sbs e n 0 = e := by
  have : ∀ (n : Fin 7) (e : Fin 64), e.val < 2 ^ n.val → sbs e.val n.val 0 = e.val := by decide +kernel
  exact this ⟨n, by omega⟩ ⟨e, Nat.lt_of_lt_of_le he (Nat.pow_le_pow_right (show 2 > 0 by decide) hn)⟩ he
theorem m_begins (hF : gFx S) (hx : MxP H T N) (t : TwOk T) (h : HtOk T) (hse : ∀ p, p < tNp T → tSe T p < 2 ^ tNp T) : Nv mX11_begins 3 [.ref 83] S H (fun H' => MwP H' T ∧ RmP H' T 0 (fun _ => true) (begU T) ∧ MoF (fun q => q = 83 ∨ q = 103 ∨ (104 ≤ q ∧ q ≤ 111)) (fun k => k = 36 ∨ k = 37) H H') := by
  have hnp := t.2.1; have hnc := t.1; have h0 := t.2.2; have hwy : wys T ≤ 729 := wys_le hnc hnp; have hWl : nW T ≤ 729 := nW_le t
  have l2 : ∀ (fz : Nat) (w : Nat) (H3 : xH), 729 - w < fz → w ≤ 729 → hI H3 104 0 = nI 0 ∧ hI H3 105 0 = nI (sdv T) ∧ hI H3 106 0 = nI 0 ∧ hI H3 107 0 = nI 0 ∧ hI H3 108 0 = nI 0 → (∀ p, p < 6 → hI H3 109 p = nI (uSe (begU T) p) ∧ hI H3 110 p = nI 0) → (∀ v, v < w → hI H3 111 v = bI (decide (v < nW T))) → MwP H3 T → MoF (fun q => q = 83 ∨ q = 103 ∨ (104 ≤ q ∧ q ≤ 111)) (fun k => k = 36 ∨ k = 37) H H3 → Xq mX11_begins 3 0 0 94 [some (.ref 83), some (vN w)] [] S H3 (fun R => ∃ H', (fun H' => MwP H' T ∧ RmP H' T 0 (fun _ => true) (begU T) ∧ MoF (fun q => q = 83 ∨ q = 103 ∨ (104 ≤ q ∧ q ≤ 111)) (fun k => k = 36 ∨ k = 37) H H') H' ∧ R = (none, S, H')) := by
    intro fz
    induction fz with
    | zero => intro w  H3  hfz; exact absurd hfz (by omega)
    | succ fz ih =>
      intro w  H3  hfz hi hf hg hl hw3 ho3
      refine xq_iload_n dX11_begins_94 rfl rfl ?_
      refine xq_sipush dX11_begins_95 sp729 ?_
      refine xq_icmp_geN dX11_begins_98 rfl (by omega) (by omega) ⟨fun h98 => ?_, fun h98 => ?_⟩
      · skip
        refine xq_vret dX11_begins_126 rfl ?_
        refine ⟨H3, ⟨hw3, ⟨fun w hw => ?_, hf.1, hf.2.1, hf.2.2.1, hf.2.2.2.1, hf.2.2.2.2, fun p hp => ?_, fun p hp => ?_⟩, ho3⟩, rfl⟩
        · rw [show 729 * 0 + w = w by omega, hl w (by omega), decide_eq_true hw]
        · rw [show 6 * 0 + p = p by omega]; exact (hg p hp).1
        · rw [show 6 * 0 + p = p by omega]; exact (hg p hp).2
      · skip
        refine xq_aload_n dX11_begins_101 rfl rfl ?_
        refine xq_getF clX11 (by decide) rfl fl_RX11_96 dX11_begins_102 (Fx.s83 hF) (Fx.r83_45 hF) ?_
        refine xq_iload_n dX11_begins_105 rfl rfl ?_
        refine xq_iload_n dX11_begins_106 rfl rfl ?_
        refine xq_aload_n dX11_begins_107 rfl rfl ?_
        refine xq_getIE clX11 (by decide) rfl fl_RX11_335 dX11_begins_108 (Fx.s83 hF) hw3.ws ?_
        refine xq_icmp_geN dX11_begins_111 rfl (by omega) (by omega) ⟨fun h111 => ?_, fun h111 => ?_⟩
        · skip
          refine xq_iconst dX11_begins_118 ic0 ?_
          refine xq_zastN dX11_begins_119 (Fx.s111 hF) (by omega) (by decide) (by decide) ?_
          refine xq_iincN dX11_begins_120 ic1 rfl rfl ?_
          refine xq_goto dX11_begins_123 rfl ?_
          refine ih (w + 1) _ (by omega) (by omega) ⟨by rw [hI_sI, if_neg (by omega)]; exact hf.1, by rw [hI_sI, if_neg (by omega)]; exact hf.2.1, by rw [hI_sI, if_neg (by omega)]; exact hf.2.2.1, by rw [hI_sI, if_neg (by omega)]; exact hf.2.2.2.1, by rw [hI_sI, if_neg (by omega)]; exact hf.2.2.2.2⟩ (fun p hp => ⟨by rw [hI_sI, if_neg (by omega)]; exact (hg p hp).1, by rw [hI_sI, if_neg (by omega)]; exact (hg p hp).2⟩) (fun v hv => ?_) (hw3.of (Off.pI (A := fun q => q = 111) Off.rf rfl _ _) (by decide) (by decide)) (MoF.pI (A := (fun q => q = 83 ∨ q = 103 ∨ (104 ≤ q ∧ q ≤ 111))) ho3 (by omega) (by decide) _ _)
          rw [hI_sI]
          by_cases e : v = w
          · rw [if_pos ⟨rfl, e⟩, e, show decide (w < nW T) = false from by exact decide_eq_false (by omega)]; rfl
          · rw [if_neg (fun z => e z.2)]; exact hl v (by omega)
        · skip
          refine xq_iconst dX11_begins_114 ic1 ?_
          refine xq_goto dX11_begins_115 rfl ?_
          refine xq_zastN dX11_begins_119 (Fx.s111 hF) (by omega) (by decide) (by decide) ?_
          refine xq_iincN dX11_begins_120 ic1 rfl rfl ?_
          refine xq_goto dX11_begins_123 rfl ?_
          refine ih (w + 1) _ (by omega) (by omega) ⟨by rw [hI_sI, if_neg (by omega)]; exact hf.1, by rw [hI_sI, if_neg (by omega)]; exact hf.2.1, by rw [hI_sI, if_neg (by omega)]; exact hf.2.2.1, by rw [hI_sI, if_neg (by omega)]; exact hf.2.2.2.1, by rw [hI_sI, if_neg (by omega)]; exact hf.2.2.2.2⟩ (fun p hp => ⟨by rw [hI_sI, if_neg (by omega)]; exact (hg p hp).1, by rw [hI_sI, if_neg (by omega)]; exact (hg p hp).2⟩) (fun v hv => ?_) (hw3.of (Off.pI (A := fun q => q = 111) Off.rf rfl _ _) (by decide) (by decide)) (MoF.pI (A := (fun q => q = 83 ∨ q = 103 ∨ (104 ≤ q ∧ q ≤ 111))) ho3 (by omega) (by decide) _ _)
          rw [hI_sI]
          by_cases e : v = w
          · rw [if_pos ⟨rfl, e⟩, e, show decide (w < nW T) = true from by exact decide_eq_true h111]; rfl
          · rw [if_neg (fun z => e z.2)]; exact hl v (by omega)
  have l1 : ∀ (fz : Nat) (i : Nat) (H2 : xH), 6 - i < fz → i ≤ 6 → hI H2 104 0 = nI 0 ∧ hI H2 105 0 = nI (sdv T) ∧ hI H2 106 0 = nI 0 ∧ hI H2 107 0 = nI 0 ∧ hI H2 108 0 = nI 0 → (∀ p, p < i → hI H2 109 p = nI (uSe (begU T) p) ∧ hI H2 110 p = nI 0) → MwP H2 T → MoF (fun q => q = 83 ∨ q = 103 ∨ (104 ≤ q ∧ q ≤ 111)) (fun k => k = 36 ∨ k = 37) H H2 → Xq mX11_begins 3 0 0 47 [some (.ref 83), some (vN i)] [] S H2 (fun R => ∃ H', (fun H' => MwP H' T ∧ RmP H' T 0 (fun _ => true) (begU T) ∧ MoF (fun q => q = 83 ∨ q = 103 ∨ (104 ≤ q ∧ q ≤ 111)) (fun k => k = 36 ∨ k = 37) H H') H' ∧ R = (none, S, H')) := by
    intro fz
    induction fz with
    | zero => intro i  H2  hfz; exact absurd hfz (by omega)
    | succ fz ih =>
      intro i  H2  hfz hi hf hg hw2 ho2
      have hx2 := hx.off ho2.1 (fun q a b => by omega)
      refine xq_iload_n dX11_begins_47 rfl rfl ?_
      refine xq_bipush dX11_begins_48 bp6 ?_
      refine xq_icmp_geN dX11_begins_50 rfl (by omega) (by omega) ⟨fun h50 => ?_, fun h50 => ?_⟩
      · skip
        refine xq_iconst dX11_begins_92 ic0 ?_
        refine xq_istore_n dX11_begins_93 rfl rfl ?_
        exact l2 730 0 H2 (by omega) (by omega) hf (fun p hp => hg p (by omega)) (fun v hv => absurd hv (by omega)) hw2 ho2
      · skip
        refine xq_aload_n dX11_begins_53 rfl rfl ?_
        refine xq_getF clX11 (by decide) rfl fl_RX11_90 dX11_begins_54 (Fx.s83 hF) (Fx.r83_43 hF) ?_
        refine xq_iload_n dX11_begins_57 rfl rfl ?_
        refine xq_iload_n dX11_begins_58 rfl rfl ?_
        refine xq_aload_n dX11_begins_59 rfl rfl ?_
        refine xq_getF clX11 (by decide) rfl fl_RX11_13 dX11_begins_60 (Fx.s83 hF) (Fx.r83_3 hF) ?_
        refine xq_iconst dX11_begins_63 ic1 ?_
        refine xq_ialdN dX11_begins_64 (Fx.s85 hF) (by omega) (by decide) hx2.np ?_
        refine xq_icmp_geN dX11_begins_65 rfl (by omega) (by omega) ⟨fun h65 => ?_, fun h65 => ?_⟩
        · skip
          refine xq_iconst dX11_begins_77 ic0 ?_
          refine xq_iastN dX11_begins_78 (Fx.s109 hF) (by omega) (by decide) ?_
          refine xq_aload_n dX11_begins_79 rfl rfl ?_
          refine xq_getF clX11 (by decide) rfl fl_RX11_93 dX11_begins_80 (Fx.s83 hF) (Fx.r83_44 hF) ?_
          refine xq_iload_n dX11_begins_83 rfl rfl ?_
          refine xq_iconst dX11_begins_84 ic0 ?_
          refine xq_iastN dX11_begins_85 (Fx.s110 hF) (by omega) (by decide) ?_
          refine xq_iincN dX11_begins_86 ic1 rfl rfl ?_
          refine xq_goto dX11_begins_89 rfl ?_
          have oo : Off (fun q => q = 109 ∨ q = 110) H2 (sI (sI H2 109 i (nI 0)) 110 i (nI 0)) := Off.pI (A := fun q => q = 109 ∨ q = 110) (Off.pI (A := fun q => q = 109 ∨ q = 110) Off.rf (Or.inl rfl) _ _) (Or.inr rfl) _ _
          have ev : nI 0 = nI (uSe (begU T) i) := by show _ = nI (if i < tNp T then sbs (tSe T i) (tNp T) 0 else 0); rw [if_neg (by omega)]
          refine ih (i + 1) _ (by omega) (by omega) ⟨by rw [hI_sI, if_neg (by omega)]; rw [hI_sI, if_neg (by omega)]; exact hf.1, by rw [hI_sI, if_neg (by omega)]; rw [hI_sI, if_neg (by omega)]; exact hf.2.1, by rw [hI_sI, if_neg (by omega)]; rw [hI_sI, if_neg (by omega)]; exact hf.2.2.1, by rw [hI_sI, if_neg (by omega)]; rw [hI_sI, if_neg (by omega)]; exact hf.2.2.2.1, by rw [hI_sI, if_neg (by omega)]; rw [hI_sI, if_neg (by omega)]; exact hf.2.2.2.2⟩ (fun p hp => ?_) (hw2.of oo (by decide) (by decide)) (MoF.pI (A := (fun q => q = 83 ∨ q = 103 ∨ (104 ≤ q ∧ q ≤ 111))) (MoF.pI (A := (fun q => q = 83 ∨ q = 103 ∨ (104 ≤ q ∧ q ≤ 111))) ho2 (by omega) (by decide) _ _) (by omega) (by decide) _ _)
          by_cases e : p = i
          · subst e
            exact ⟨by rw [hI_sI, if_neg (by omega), hI_sI, if_pos ⟨rfl, rfl⟩, ev], by rw [hI_sI, if_pos ⟨rfl, rfl⟩]⟩
          · exact ⟨by rw [hI_sI, if_neg (by omega), hI_sI, if_neg (fun z => e z.2)]; exact (hg p (by omega)).1, by rw [hI_sI, if_neg (fun z => e z.2), hI_sI, if_neg (by omega)]; exact (hg p (by omega)).2⟩
        · skip
          refine xq_aload_n dX11_begins_68 rfl rfl ?_
          refine xq_getF clX11 (by decide) rfl fl_RX11_28 dX11_begins_69 (Fx.s83 hF) (Fx.r83_8 hF) ?_
          refine xq_iload_n dX11_begins_72 rfl rfl ?_
          refine xq_ialdN dX11_begins_73 (Fx.s90 hF) (by omega) (by decide) ((hx2.pe i h65).2.2) ?_
          refine xq_goto dX11_begins_74 rfl ?_
          refine xq_iastN dX11_begins_78 (Fx.s109 hF) (by omega) (by decide) ?_
          refine xq_aload_n dX11_begins_79 rfl rfl ?_
          refine xq_getF clX11 (by decide) rfl fl_RX11_93 dX11_begins_80 (Fx.s83 hF) (Fx.r83_44 hF) ?_
          refine xq_iload_n dX11_begins_83 rfl rfl ?_
          refine xq_iconst dX11_begins_84 ic0 ?_
          refine xq_iastN dX11_begins_85 (Fx.s110 hF) (by omega) (by decide) ?_
          refine xq_iincN dX11_begins_86 ic1 rfl rfl ?_
          refine xq_goto dX11_begins_89 rfl ?_
          have oo : Off (fun q => q = 109 ∨ q = 110) H2 (sI (sI H2 109 i (nI (tSe T i))) 110 i (nI 0)) := Off.pI (A := fun q => q = 109 ∨ q = 110) (Off.pI (A := fun q => q = 109 ∨ q = 110) Off.rf (Or.inl rfl) _ _) (Or.inr rfl) _ _
          have ev : nI (tSe T i) = nI (uSe (begU T) i) := by show _ = nI (if i < tNp T then sbs (tSe T i) (tNp T) 0 else 0); rw [if_pos h65, sbs_id hnp (hse i h65)]
          refine ih (i + 1) _ (by omega) (by omega) ⟨by rw [hI_sI, if_neg (by omega)]; rw [hI_sI, if_neg (by omega)]; exact hf.1, by rw [hI_sI, if_neg (by omega)]; rw [hI_sI, if_neg (by omega)]; exact hf.2.1, by rw [hI_sI, if_neg (by omega)]; rw [hI_sI, if_neg (by omega)]; exact hf.2.2.1, by rw [hI_sI, if_neg (by omega)]; rw [hI_sI, if_neg (by omega)]; exact hf.2.2.2.1, by rw [hI_sI, if_neg (by omega)]; rw [hI_sI, if_neg (by omega)]; exact hf.2.2.2.2⟩ (fun p hp => ?_) (hw2.of oo (by decide) (by decide)) (MoF.pI (A := (fun q => q = 83 ∨ q = 103 ∨ (104 ≤ q ∧ q ≤ 111))) (MoF.pI (A := (fun q => q = 83 ∨ q = 103 ∨ (104 ≤ q ∧ q ≤ 111))) ho2 (by omega) (by decide) _ _) (by omega) (by decide) _ _)
          by_cases e : p = i
          · subst e
            exact ⟨by rw [hI_sI, if_neg (by omega), hI_sI, if_pos ⟨rfl, rfl⟩, ev], by rw [hI_sI, if_pos ⟨rfl, rfl⟩]⟩
          · exact ⟨by rw [hI_sI, if_neg (by omega), hI_sI, if_neg (fun z => e z.2)]; exact (hg p (by omega)).1, by rw [hI_sI, if_neg (fun z => e z.2), hI_sI, if_neg (by omega)]; exact (hg p (by omega)).2⟩
  refine vq_intro (by decide) (by exact Nat.le_of_ble_eq_true rfl) rfl ?_
  refine xq_aload_n dX11_begins_0 rfl rfl ?_
  refine xq_callV0N clX11 gd_X11_laysWorlds dX11_begins_1 ml_RX11_347 im_X11_laysWorlds se_X11_laysWorlds rfl (Fx.s83 hF) (by exact Nat.le_of_ble_eq_true rfl) (by decide) (m_laysWorlds hF hx t h) ?_
  intro H1 p1
  obtain ⟨hw1, o1⟩ := p1
  have hx1 := hx.off o1.1 (fun q a b => by omega)
  refine xq_aload_n dX11_begins_4 rfl rfl ?_
  refine xq_getF clX11 (by decide) rfl fl_RX11_75 dX11_begins_5 (Fx.s83 hF) (Fx.r83_38 hF) ?_
  refine xq_iconst dX11_begins_8 ic0 ?_
  refine xq_iconst dX11_begins_9 ic0 ?_
  refine xq_iastN dX11_begins_10 (Fx.s104 hF) (by omega) (by decide) ?_
  refine xq_aload_n dX11_begins_11 rfl rfl ?_
  refine xq_getF clX11 (by decide) rfl fl_RX11_78 dX11_begins_12 (Fx.s83 hF) (Fx.r83_39 hF) ?_
  refine xq_iconst dX11_begins_15 ic0 ?_
  refine xq_aload_n dX11_begins_16 rfl rfl ?_
  refine xq_getF clX11 (by decide) rfl fl_RX11_13 dX11_begins_17 (Fx.s83 hF) (Fx.r83_3 hF) ?_
  refine xq_bipush dX11_begins_20 bp6 ?_
  refine xq_ialdN dX11_begins_22 (Fx.s85 hF) (by omega) (by decide) ((hI_sI _ _ _ _ _ _).trans ((if_neg (by omega)).trans hx1.sd)) ?_
  refine xq_iastN dX11_begins_23 (Fx.s105 hF) (by omega) (by decide) ?_
  refine xq_aload_n dX11_begins_24 rfl rfl ?_
  refine xq_getF clX11 (by decide) rfl fl_RX11_81 dX11_begins_25 (Fx.s83 hF) (Fx.r83_40 hF) ?_
  refine xq_iconst dX11_begins_28 ic0 ?_
  refine xq_iconst dX11_begins_29 ic0 ?_
  refine xq_iastN dX11_begins_30 (Fx.s106 hF) (by omega) (by decide) ?_
  refine xq_aload_n dX11_begins_31 rfl rfl ?_
  refine xq_getF clX11 (by decide) rfl fl_RX11_84 dX11_begins_32 (Fx.s83 hF) (Fx.r83_41 hF) ?_
  refine xq_iconst dX11_begins_35 ic0 ?_
  refine xq_iconst dX11_begins_36 ic0 ?_
  refine xq_iastN dX11_begins_37 (Fx.s107 hF) (by omega) (by decide) ?_
  refine xq_aload_n dX11_begins_38 rfl rfl ?_
  refine xq_getF clX11 (by decide) rfl fl_RX11_87 dX11_begins_39 (Fx.s83 hF) (Fx.r83_42 hF) ?_
  refine xq_iconst dX11_begins_42 ic0 ?_
  refine xq_iconst dX11_begins_43 ic0 ?_
  refine xq_iastN dX11_begins_44 (Fx.s108 hF) (by omega) (by decide) ?_
  refine xq_iconst dX11_begins_45 ic0 ?_
  refine xq_istore_n dX11_begins_46 rfl rfl ?_
  have oo : Off (fun q => 104 ≤ q ∧ q ≤ 108) H1 (sI (sI (sI (sI (sI H1 104 0 (nI 0)) 105 0 (nI (sdv T))) 106 0 (nI 0)) 107 0 (nI 0)) 108 0 (nI 0)) := by
    refine Off.pI (A := fun q => 104 ≤ q ∧ q ≤ 108) (Off.pI (A := fun q => 104 ≤ q ∧ q ≤ 108) (Off.pI (A := fun q => 104 ≤ q ∧ q ≤ 108) (Off.pI (A := fun q => 104 ≤ q ∧ q ≤ 108) (Off.pI (A := fun q => 104 ≤ q ∧ q ≤ 108) Off.rf ?_ _ _) ?_ _ _) ?_ _ _) ?_ _ _) ?_ _ _ <;> decide
  refine l1 7 0 _ (by omega) (by omega) ⟨?_, ?_, ?_, ?_, ?_⟩ (fun p hp => absurd hp (by omega)) (hw1.of oo (by decide) (by decide)) (MoF.tr (MoF.mo o1 (fun q h => by omega) (fun k h => h)) (MoF.mo (MoF.of (F := fun _ => False) oo (by decide)) (fun q h => by omega) (fun k h => absurd h (fun e => e))))
  all_goals simp [hI_sI]
end BF
