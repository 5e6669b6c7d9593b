/-! ===== Course: hours ===== -/
section CB
variable {S : xS} {H H1 : xH} {i t k x y a n p z m f h : Nat} {u v : uSt} {T : uTx} {dr drx : Bool} {ow mu : Int}
noncomputable def tSt1 (T : uTx) (i : Nat) (u : uSt) : uSt := if tTh T i = uHr u then (if kv T u (tRo T (tTf T i)) (uRl u) = true then heaU T u (tTf T i) else uSetF u 9 (uLi u + 1)) else u
noncomputable def tFo (T : uTx) (ow : Int) (u : uSt) (n : Nat) : uSt := if ow = 3 then u else fo (tSt1 T) u n
noncomputable def aSt1 (T : uTx) (dr : Bool) (ow mu : Int) (i : Nat) (u : uSt) : uSt := if tAh T i = uHr u then askU T dr ow mu u else u
noncomputable def pMid (T : uTx) (dr : Bool) (ow mu : Int) (u : uSt) : uSt := fo (aSt1 T dr ow mu) (tFo T ow u (tNt T)) (tNa T)
noncomputable def pOne (T : uTx) (dr : Bool) (ow mu : Int) (u : uSt) : uSt := uSetF (pMid T dr ow mu u) 10 (uHr u + 1)
/-- nothing but the hour, or less than d more heard or lied -/
def Gro (u v : uSt) (d : Nat) : Prop := StOk v ∧ uHr v = uHr u ∧ uNp v = uNp u ∧ uHd v ≤ uHd u + d ∧ uLi v ≤ uLi u + d
theorem Gro.tr {w : uSt} {d e : Nat} (h : Gro u v d) (h2 : Gro v w e) : Gro u w (d + e) := ⟨h2.1, h2.2.1.trans h.2.1, h2.2.2.1.trans h.2.2.1, by have := h.2.2.2.1; have := h2.2.2.2.1; omega, by have := h.2.2.2.2; have := h2.2.2.2.2; omega⟩
theorem tSt1_gro (ok : StOk u) (h1 : uHd u + 1 ≤ 100000000) (h2 : uLi u + 1 ≤ 100000000) : Gro u (tSt1 T i u) 1 := by
  unfold tSt1
  by_cases e : tTh T i = uHr u
  · rw [if_pos e]
    by_cases w : kv T u (tRo T (tTf T i)) (uRl u) = true
    · rw [if_pos w]; exact ⟨(ok.keep w).setF (Or.inl ⟨rfl, h1⟩), rfl, rfl, Nat.le_refl _, Nat.le_add_right _ _⟩
    · rw [if_neg w]; exact ⟨ok.setF (Or.inr (Or.inl ⟨rfl, h2⟩)), rfl, rfl, Nat.le_add_right _ _, Nat.le_refl _⟩
  · rw [if_neg e]; exact ⟨ok, rfl, rfl, Nat.le_add_right _ _, Nat.le_add_right _ _⟩
theorem tFo_gro (ok : StOk u) : ∀ n, uHd u + n ≤ 100000000 → uLi u + n ≤ 100000000 → Gro u (fo (tSt1 T) u n) n
  | 0, _, _ => ⟨ok, rfl, rfl, Nat.le_refl _, Nat.le_refl _⟩
  | n + 1, h1, h2 => by
    have g := tFo_gro ok n (by omega) (by omega)
    have e1 := g.2.2.2.1
    have e2 := g.2.2.2.2
    exact g.tr (tSt1_gro g.1 (by omega) (by omega))
theorem askU_gro (ok : StOk u) : Gro u (askU T dr ow mu u) 0 := by
  have h := aFo_inv (T := T) (dr := dr) (ow := ow) (mu := mu) ok (uNp u) ok.np
  refine ⟨ok.ask, h.1.2.2.2.1, h.1.2.2.1, ?_, ?_⟩
  · show uHd (aFo T dr ow mu u (uNp u)).2.2 ≤ _; rw [h.1.2.2.2.2.1]; exact Nat.le_refl _
  · show uLi (aFo T dr ow mu u (uNp u)).2.2 ≤ _; rw [h.1.2.2.2.2.2.1]; exact Nat.le_refl _
theorem aSt1_gro (ok : StOk u) : Gro u (aSt1 T dr ow mu i u) 0 := by
  unfold aSt1
  split
  · exact askU_gro ok
  · exact ⟨ok, rfl, rfl, Nat.le_refl _, Nat.le_refl _⟩
theorem aFo_gro (ok : StOk u) : ∀ n, Gro u (fo (aSt1 T dr ow mu) u n) 0
  | 0 => ⟨ok, rfl, rfl, Nat.le_refl _, Nat.le_refl _⟩
  | n + 1 => (aFo_gro ok n).tr (aSt1_gro (aFo_gro ok n).1)
theorem pMid_gro (ok : StOk u) (tk : TxOk T) (h1 : uHd u + 12 ≤ 100000000) (h2 : uLi u + 12 ≤ 100000000) : Gro u (pMid T dr ow mu u) 12 := by
  have hn := tk.nt
  have g : Gro u (tFo T ow u (tNt T)) 12 := by
    unfold tFo
    split
    · exact ⟨ok, rfl, rfl, Nat.le_add_right _ _, Nat.le_add_right _ _⟩
    · have g := tFo_gro (T := T) ok (tNt T) (by omega) (by omega)
      exact ⟨g.1, g.2.1, g.2.2.1, by have := g.2.2.2.1; omega, by have := g.2.2.2.2; omega⟩
  exact g.tr (aFo_gro g.1 _)
def cT (T : uTx) (h : Nat) : Nat := ct (fun i => tTh T i == h) (tNt T)
def cA (T : uTx) (h : Nat) : Nat := ct (fun i => tAh T i == h) (tNa T)
theorem c_passOne (hF : gFx S) (ha : gSt S a) (h67 : 67 ≤ a) (hu : StP H a u) (ok : StOk u) (ht : gTx S t) (ht24 : 24 ≤ t) (ht45 : t ≤ 45) (hT : TxP H t T) (tk : TxOk T) (hc : CoP H t dr ow mu) (how : -1 ≤ ow ∧ ow ≤ 4) (hmu : -1 ≤ mu ∧ mu < 6) (hm : MiP H z) (hz7 : z + 6500 < 2147483648) (hh1 : uHd u + 12 ≤ 100000000) (hh2 : uLi u + 12 ≤ 100000000) : Nv mX0_passOne 5 [.ref 66, .ref a] S H (fun H' => StP H' a (pOne T dr ow mu u) ∧ Off (fun q => (a ≤ q ∧ q < a + 5) ∨ (16 ≤ q ∧ q ≤ 23)) H H' ∧ ∃ t2, t2 ≤ z + 460 * cT T (uHr u) + 10 * cA T (uHr u) ∧ MiP H' t2) := by
  have hnt := tk.nt; have hna := tk.na; have hur0 := ok.hr
  have gg : Gro u (tFo T ow u (tNt T)) 12 := by
    unfold tFo
    by_cases e : ow = 3
    · rw [if_pos e]; exact ⟨ok, rfl, rfl, Nat.le_add_right _ _, Nat.le_add_right _ _⟩
    · rw [if_neg e]; have g := tFo_gro (T := T) ok (tNt T) (by omega) (by omega); exact ⟨g.1, g.2.1, g.2.2.1, by have := g.2.2.2.1; omega, by have := g.2.2.2.2; omega⟩
  have hcT : cT T (uHr u) ≤ 12 := Nat.le_trans (ct_le _ _) hnt
  have l2 : ∀ (fz : Nat) (i : Nat) (v : uSt) (H1 : xH), tNa T - i < fz → i ≤ tNa T → v = fo (aSt1 T dr ow mu) (tFo T ow u (tNt T)) i → StP H1 a v → Off (fun q => (a ≤ q ∧ q < a + 5) ∨ (16 ≤ q ∧ q ≤ 23)) H H1 → (∃ t2, t2 ≤ z + 460 * cT T (uHr u) + 10 * ct (fun i => tAh T i == uHr u) i ∧ MiP H1 t2) → Xq mX0_passOne 5 0 0 72 [some (.ref 66), some (.ref a), some (vN i)] [] S H1 (fun R => ∃ H', (fun H' => StP H' a (pOne T dr ow mu u) ∧ Off (fun q => (a ≤ q ∧ q < a + 5) ∨ (16 ≤ q ∧ q ≤ 23)) H H' ∧ ∃ t2, t2 ≤ z + 460 * cT T (uHr u) + 10 * cA T (uHr u) ∧ MiP H' t2) H' ∧ R = (none, S, H')) := by
    intro fz
    induction fz with
    | zero => intro i  v  H1  hn; exact absurd hn (by omega)
    | succ fz ih =>
      intro i  v  H1  hn hi hv hu1 ho hm1
      have hT1 := hT.off ho (fun j hj => by omega); have hc1 := hc.off ho (by omega)
      have hg := gg.tr (aFo_gro (T := T) (dr := dr) (ow := ow) (mu := mu) gg.1 i); rw [← hv] at hg
      have hhr : uHr v = uHr u := hg.2.1
      refine xq_iload_n dX0_passOne_72 rfl rfl ?_
      refine xq_aload_n dX0_passOne_73 rfl rfl ?_
      refine xq_getR clX0 (by decide) rfl fl_RX0_26 dX0_passOne_74 (Fx.s66 hF) hc1.1 ?_
      refine xq_getIE clX8 (by decide) rfl fl_RX0_62 dX0_passOne_77 (Tx.s0 ht) hT1.na ?_
      refine xq_icmp_geN dX0_passOne_80 rfl (by omega) (by omega) ⟨fun h80 => ?_, fun h80 => ?_⟩
      · skip
        refine xq_aload_n dX0_passOne_111 rfl rfl ?_
        refine xq_dup dX0_passOne_112 rfl ?_
        refine xq_getIE clX7 (by decide) rfl fl_RX0_34 dX0_passOne_113 (St.s0 ha) (hu1.f10.trans (congrArg nI hhr)) ?_
        refine xq_iconst dX0_passOne_116 ic1 ?_
        refine xq_iaddN dX0_passOne_117 ?_
        refine xq_putI clX7 (by decide) rfl fl_RX0_34 (Or.inl rfl) dX0_passOne_118 ⟨rfl, rfl⟩ (St.s0 ha) ?_
        refine xq_vret dX0_passOne_121 rfl ?_
        refine ⟨_, ⟨?_, Off.pI (A := (fun q => (a ≤ q ∧ q < a + 5) ∨ (16 ≤ q ∧ q ≤ 23))) ho (by omega) _ _, ?_⟩, rfl⟩
        · have : v = pMid T dr ow mu u := by rw [hv, show i = tNa T by omega]; rfl
          unfold pOne
          rw [← this]
          exact hu1.setF (k := 10) (by omega) (uHr u + 1)
        · obtain ⟨t2, a1, a2⟩ := hm1
          have e : i = tNa T := by omega
          rw [e] at a1
          exact ⟨t2, a1, a2.off (Off.pI (A := fun q => q = a) Off.rf rfl _ _) (by omega) (by omega)⟩
      · skip
        obtain ⟨t2, a1, a2⟩ := id hm1
        have hah := tk.as i h80; have hur := ok.hr; have hcl := ct_le (fun i => tAh T i == uHr u) i
        refine xq_aload_n dX0_passOne_83 rfl rfl ?_
        refine xq_getR clX0 (by decide) rfl fl_RX0_26 dX0_passOne_84 (Fx.s66 hF) hc1.1 ?_
        refine xq_getF clX8 (by decide) rfl fl_RX0_65 dX0_passOne_87 (Tx.s0 ht) (Tx.r13 ht) ?_
        refine xq_iload_n dX0_passOne_90 rfl rfl ?_
        refine xq_ialdN dX0_passOne_91 (Tx.s18 ht) (by omega) (by decide) (hT1.as i h80) ?_
        refine xq_aload_n dX0_passOne_92 rfl rfl ?_
        refine xq_getIE clX7 (by decide) rfl fl_RX0_34 dX0_passOne_93 (St.s0 ha) (hu1.f10.trans (congrArg nI hhr)) ?_
        refine xq_icmp_neN dX0_passOne_96 rfl (by omega) (by omega) ⟨fun h96 => ?_, fun h96 => ?_⟩
        · skip
          refine xq_iincN dX0_passOne_105 ic1 rfl rfl ?_
          refine xq_goto dX0_passOne_108 rfl ?_
          exact ih (i + 1) v H1 (by omega) (by omega) (by rw [hv]; show _ = aSt1 T dr ow mu i _; rw [← hv]; unfold aSt1; rw [hhr, if_neg h96]) hu1 ho (by rw [ct_f (by simpa using h96)]; exact hm1)
        · skip
          refine xq_aload_n dX0_passOne_99 rfl rfl ?_
          refine xq_aload_n dX0_passOne_100 rfl rfl ?_
          refine xq_callV1H clX0 gd_X0_askAll dX0_passOne_101 ml_RX0_68 im_X0_askAll se_X0_askAll rfl (Fx.s66 hF) (by exact Nat.le_of_ble_eq_true rfl) (by decide) (c_askAll hF ha h67 hu1 hg.1 ht ht24 ht45 hT1 tk hc1 how hmu a2 (by omega)) ?_
          intro x101 H101 p101
          refine xq_pop dX0_passOne_104 rfl ?_
          refine xq_iincN dX0_passOne_105 ic1 rfl rfl ?_
          refine xq_goto dX0_passOne_108 rfl ?_
          obtain ⟨q1, q2, q3, t3, b1, b2⟩ := p101
          exact ih (i + 1) (askU T dr ow mu v) H101 (by omega) (by omega) (by rw [hv]; show _ = aSt1 T dr ow mu i _; rw [← hv]; unfold aSt1; rw [hhr, if_pos h96]) q2 (ho.tr q3) ⟨t3, by rw [ct_t (by simpa using h96)]; omega, b2⟩
  have l1 : ∀ (fz : Nat) (i : Nat) (v : uSt) (H1 : xH), tNt T - i < fz → i ≤ tNt T → v = fo (tSt1 T) u i → (ow = 3 → i = 0) → StP H1 a v → Off (fun q => (a ≤ q ∧ q < a + 5) ∨ (16 ≤ q ∧ q ≤ 23)) H H1 → (∃ t2, t2 ≤ z + 460 * ct (fun i => tTh T i == uHr u) i ∧ MiP H1 t2) → Xq mX0_passOne 5 0 0 2 [some (.ref 66), some (.ref a), some (vN i)] [] S H1 (fun R => ∃ H', (fun H' => StP H' a (pOne T dr ow mu u) ∧ Off (fun q => (a ≤ q ∧ q < a + 5) ∨ (16 ≤ q ∧ q ≤ 23)) H H' ∧ ∃ t2, t2 ≤ z + 460 * cT T (uHr u) + 10 * cA T (uHr u) ∧ MiP H' t2) H' ∧ R = (none, S, H')) := by
    intro fz
    induction fz with
    | zero => intro i  v  H1  hn; exact absurd hn (by omega)
    | succ fz ih =>
      intro i  v  H1  hn hi hv how3 hu1 ho hm1
      have hT1 := hT.off ho (fun j hj => by omega); have hc1 := hc.off ho (by omega)
      have hg := tFo_gro (T := T) ok i (by omega) (by omega); rw [← hv] at hg
      have hhr : uHr v = uHr u := hg.2.1; have hgd := hg.2.2.2.1; have hgl := hg.2.2.2.2
      refine xq_iload_n dX0_passOne_2 rfl rfl ?_
      refine xq_aload_n dX0_passOne_3 rfl rfl ?_
      refine xq_getR clX0 (by decide) rfl fl_RX0_26 dX0_passOne_4 (Fx.s66 hF) hc1.1 ?_
      refine xq_getIE clX8 (by decide) rfl fl_RX0_43 dX0_passOne_7 (Tx.s0 ht) hT1.nt ?_
      refine xq_icmp_geN dX0_passOne_10 rfl (by omega) (by omega) ⟨fun h10 => ?_, fun h10 => ?_⟩
      · skip
        refine xq_iconst dX0_passOne_70 ic0 ?_
        refine xq_istore_n dX0_passOne_71 rfl rfl ?_
        have e : i = tNt T := by omega
        have hv2 : v = tFo T ow u (tNt T) := by
          by_cases h3 : ow = 3
          · have h0 := how3 h3; rw [hv]; unfold tFo; rw [if_pos h3, h0]; rfl
          · rw [hv, e]; unfold tFo; rw [if_neg h3]
        exact l2 (tNa T + 1) 0 v H1 (by omega) (by omega) hv2 hu1 ho (by obtain ⟨t2, a1, a2⟩ := hm1; rw [e] at a1; exact ⟨t2, by unfold cT; show _ ≤ _ + 10 * 0; omega, a2⟩)
      · skip
        refine xq_aload_n dX0_passOne_13 rfl rfl ?_
        refine xq_getIE clX0 (by decide) rfl fl_RX0_9 dX0_passOne_14 (Fx.s66 hF) hc1.2.2.1 ?_
        refine xq_iconst dX0_passOne_17 ic3 ?_
        refine xq_icmp_eq dX0_passOne_18 rfl ⟨fun h18 => ?_, fun h18 => ?_⟩
        · skip
          refine xq_iconst dX0_passOne_70 ic0 ?_
          refine xq_istore_n dX0_passOne_71 rfl rfl ?_
          have h3 : ow = 3 := (zI_eqc (y := 3) ⟨by omega, by omega⟩ ⟨by omega, by omega⟩).mp h18
          exact l2 (tNa T + 1) 0 v H1 (by omega) (by omega) (by rw [hv, how3 h3]; show u = tFo T ow u (tNt T); unfold tFo; rw [if_pos h3]) hu1 ho (by obtain ⟨t2, a1, a2⟩ := hm1; refine ⟨t2, ?_, a2⟩; have := ct_mono (fun i => tTh T i == uHr u) (show i ≤ tNt T by omega); unfold cT; show _ ≤ _ + 10 * 0; omega)
        · skip
          have hth := tk.te i h10; have hur := ok.hr; have hcl := ct_le (fun i => tTh T i == uHr u) i
          obtain ⟨t2, a1, a2⟩ := id hm1
          refine xq_aload_n dX0_passOne_21 rfl rfl ?_
          refine xq_getR clX0 (by decide) rfl fl_RX0_26 dX0_passOne_22 (Fx.s66 hF) hc1.1 ?_
          refine xq_getF clX8 (by decide) rfl fl_RX0_48 dX0_passOne_25 (Tx.s0 ht) (Tx.r11 ht) ?_
          refine xq_iload_n dX0_passOne_28 rfl rfl ?_
          refine xq_ialdN dX0_passOne_29 (Tx.s17 ht) (by omega) (by decide) ((hT1.te i h10).2) ?_
          refine xq_aload_n dX0_passOne_30 rfl rfl ?_
          refine xq_getIE clX7 (by decide) rfl fl_RX0_34 dX0_passOne_31 (St.s0 ha) (hu1.f10.trans (congrArg nI hhr)) ?_
          refine xq_icmp_neN dX0_passOne_34 rfl (by omega) (by omega) ⟨fun h34 => ?_, fun h34 => ?_⟩
          · skip
            refine xq_iincN dX0_passOne_64 ic1 rfl rfl ?_
            refine xq_goto dX0_passOne_67 rfl ?_
            exact ih (i + 1) v H1 (by omega) (by omega) (by rw [hv]; show _ = tSt1 T i _; rw [← hv]; unfold tSt1; rw [hhr, if_neg h34]) (fun w => absurd ((zI_eqc (y := 3) ⟨by omega, by omega⟩ ⟨by omega, by omega⟩).mpr w) h18) hu1 ho (by rw [ct_f (by simpa using h34)]; exact hm1)
          · skip
            refine xq_aload_n dX0_passOne_37 rfl rfl ?_
            refine xq_aload_n dX0_passOne_38 rfl rfl ?_
            refine xq_aload_n dX0_passOne_39 rfl rfl ?_
            refine xq_getR clX0 (by decide) rfl fl_RX0_26 dX0_passOne_40 (Fx.s66 hF) hc1.1 ?_
            refine xq_getF clX8 (by decide) rfl fl_RX0_52 dX0_passOne_43 (Tx.s0 ht) (Tx.r10 ht) ?_
            refine xq_iload_n dX0_passOne_46 rfl rfl ?_
            refine xq_ialdN dX0_passOne_47 (Tx.s16 ht) (by omega) (by decide) ((hT1.te i h10).1) ?_
            refine xq_callV2H clX0 gd_X0_hear dX0_passOne_48 ml_RX0_55 im_X0_hear se_X0_hear rfl (Fx.s66 hF) (by exact Nat.le_of_ble_eq_true rfl) (by decide) (c_hear hF ha h67 hu1 hg.1 ht ht24 ht45 hT1 tk hc1.1 a2 (by omega) hth.1) ?_
            intro x48 H48 p48
            refine xq_if_neB dX0_passOne_51 rfl ⟨fun h51 => ?_, fun h51 => ?_⟩
            · skip
              refine xq_iincN dX0_passOne_64 ic1 rfl rfl ?_
              refine xq_goto dX0_passOne_67 rfl ?_
              have hct : ct (fun i => tTh T i == uHr u) (i + 1) = ct (fun i => tTh T i == uHr u) i + 1 := ct_t (by simpa using h34)
              obtain ⟨q1, q2, q3, t3, b1, b2⟩ := p48
              have hkt := q1.symm.trans h51
              exact ih (i + 1) (heaU T v (tTf T i)) H48 (by omega) (by omega) (by rw [hv]; show _ = tSt1 T i _; rw [← hv]; unfold tSt1; rw [hhr, if_pos h34, if_pos hkt]) (fun w => absurd ((zI_eqc (y := 3) ⟨by omega, by omega⟩ ⟨by omega, by omega⟩).mpr w) h18) (by unfold hea at q2; rw [if_pos hkt] at q2; exact q2) (ho.tr q3) ⟨t3, by omega, b2⟩
            · skip
              obtain ⟨q1, q2, q3, t3, b1, b2⟩ := p48
              have hu48 : StP H48 a v := by unfold hea at q2; rw [if_neg (by rw [← q1, h51]; decide)] at q2; exact q2
              refine xq_aload_n dX0_passOne_54 rfl rfl ?_
              refine xq_dup dX0_passOne_55 rfl ?_
              refine xq_getIE clX7 (by decide) rfl fl_RX0_59 dX0_passOne_56 (St.s0 ha) hu48.f9 ?_
              refine xq_iconst dX0_passOne_59 ic1 ?_
              refine xq_iaddN dX0_passOne_60 ?_
              refine xq_putI clX7 (by decide) rfl fl_RX0_59 (Or.inl rfl) dX0_passOne_61 ⟨rfl, rfl⟩ (St.s0 ha) ?_
              refine xq_iincN dX0_passOne_64 ic1 rfl rfl ?_
              refine xq_goto dX0_passOne_67 rfl ?_
              have hct : ct (fun i => tTh T i == uHr u) (i + 1) = ct (fun i => tTh T i == uHr u) i + 1 := ct_t (by simpa using h34)
              have hkt := q1.symm.trans h51
              exact ih (i + 1) (uSetF v 9 (uLi v + 1)) _ (by omega) (by omega) (by rw [hv]; show _ = tSt1 T i _; rw [← hv]; unfold tSt1; rw [hhr, if_pos h34, if_neg (by rw [hkt]; decide)]) (fun w => absurd ((zI_eqc (y := 3) ⟨by omega, by omega⟩ ⟨by omega, by omega⟩).mpr w) h18) (hu48.setF (k := 9) (by omega) (uLi v + 1)) (Off.pI (A := (fun q => (a ≤ q ∧ q < a + 5) ∨ (16 ≤ q ∧ q ≤ 23))) (ho.tr q3) (by omega) _ _) ⟨t3, by omega, b2.off (Off.pI (A := fun q => q = a) Off.rf rfl _ _) (by omega) (by omega)⟩
  refine vq_intro (by decide) (by exact Nat.le_of_ble_eq_true rfl) rfl ?_
  refine xq_iconst dX0_passOne_0 ic0 ?_
  refine xq_istore_n dX0_passOne_1 rfl rfl ?_
  exact l1 (tNt T + 1) 0 u H (by omega) (by omega) rfl (fun _ => rfl) hu Off.rf ⟨z, by omega, hm⟩
noncomputable def pLo (T : uTx) (dr : Bool) (ow mu : Int) (u : uSt) : Nat → uSt
  | 0 => u
  | n + 1 => if uHr (pLo T dr ow mu u n) ≤ 99 then pOne T dr ow mu (pLo T dr ow mu u n) else pLo T dr ow mu u n
noncomputable def pas (T : uTx) (dr : Bool) (ow mu : Int) (u : uSt) (n : Nat) : uSt := uSetF (pLo T dr ow mu u n) 10 (uHr u + n)
def sT (T : uTx) (h : Nat) : Nat → Nat
  | 0 => 0
  | n + 1 => sT T h n + 460 * cT T (h + n) + 10 * cA T (h + n)
def Grp (u v : uSt) (d : Nat) : Prop := StOk v ∧ uNp v = uNp u ∧ uHd v ≤ uHd u + d ∧ uLi v ≤ uLi u + d
theorem pOne_ok (ok : StOk u) (tk : TxOk T) (h1 : uHd u + 12 ≤ 100000000) (h2 : uLi u + 12 ≤ 100000000) (h3 : uHr u ≤ 9999) : Grp u (pOne T dr ow mu u) 12 ∧ uHr (pOne T dr ow mu u) = uHr u + 1 := by
  have g := pMid_gro (T := T) (dr := dr) (ow := ow) (mu := mu) ok tk h1 h2
  exact ⟨⟨g.1.setF (Or.inr (Or.inr ⟨rfl, by omega⟩)), g.2.2.1, g.2.2.2.1, g.2.2.2.2⟩, rfl⟩
theorem pLo_ok (ok : StOk u) (tk : TxOk T) : ∀ n, uHd u + 12 * n ≤ 100000000 → uLi u + 12 * n ≤ 100000000 → Grp u (pLo T dr ow mu u n) (12 * n) ∧ (uHr (pLo T dr ow mu u n) = uHr u + n ∨ (99 < uHr (pLo T dr ow mu u n) ∧ uHr (pLo T dr ow mu u n) ≤ uHr u + n ∧ uHr u ≤ uHr (pLo T dr ow mu u n)))
  | 0, _, _ => ⟨⟨ok, rfl, Nat.le_refl _, Nat.le_refl _⟩, Or.inl rfl⟩
  | n + 1, h1, h2 => by
    have g := pLo_ok ok tk n (by omega) (by omega)
    have g1 := g.1.2.2.1; have g2 := g.1.2.2.2
    show Grp u (if _ then _ else _) _ ∧ _
    have e : pLo T dr ow mu u (n + 1) = if uHr (pLo T dr ow mu u n) ≤ 99 then pOne T dr ow mu (pLo T dr ow mu u n) else pLo T dr ow mu u n := rfl
    rw [e]
    by_cases c : uHr (pLo T dr ow mu u n) ≤ 99
    · rw [if_pos c]
      have q := pOne_ok (dr := dr) (ow := ow) (mu := mu) g.1.1 tk (by omega) (by omega) (by omega)
      refine ⟨⟨q.1.1, q.1.2.1.trans g.1.2.1, by have := q.1.2.2.1; omega, by have := q.1.2.2.2; omega⟩, Or.inl (by rw [q.2]; omega)⟩
    · rw [if_neg c]
      exact ⟨⟨g.1.1, g.1.2.1, by omega, by omega⟩, Or.inr (by omega)⟩
theorem sum1 (fb : Nat → Nat) (h m : Nat) : ∀ n, ct (fun j => fb m == h + j) n ≤ 1 := by
  intro n
  by_cases e : ∃ j, fb m = h + j
  · obtain ⟨j, hj⟩ := e
    have : ∀ n, ct (fun i => fb m == h + i) n ≤ if j < n then 1 else 0 := by
      intro n
      induction n with
      | zero => exact Nat.le_refl _
      | succ n ih =>
        rw [ct_b]
        by_cases w : n = j
        · subst w
          rw [if_neg (by omega)] at ih
          rw [if_pos (by omega), show (fb m == h + n) = true by simpa using hj]
          show _ + 1 ≤ 1
          omega
        · rw [show (fb m == h + n) = false by simp; omega]
          show _ + 0 ≤ _
          by_cases w2 : j < n
          · rw [if_pos w2] at ih; rw [if_pos (by omega)]; omega
          · rw [if_neg w2] at ih; rw [if_neg (by omega)]; omega
    have h1 := this n
    by_cases w : j < n
    · rw [if_pos w] at h1; exact h1
    · rw [if_neg w] at h1; omega
  · have h0 : ct (fun j => fb m == h + j) n = 0 := by
      have : ct (fun j => fb m == h + j) n = ct (fun _ => false) n := ct_cong (fun j _ => by
        rw [beq_eq_false_iff_ne]; exact fun w => e ⟨j, w⟩)
      rw [this]
      clear this
      induction n with
      | zero => rfl
      | succ n ih => rw [ct_b, ih]; rfl
    omega
def sC (fb : Nat → Nat) (h m : Nat) : Nat → Nat
  | 0 => 0
  | n + 1 => sC fb h m n + ct (fun i => fb i == h + n) m
theorem sC_le (fb : Nat → Nat) (h : Nat) : ∀ m n, sC fb h m n ≤ m := by
  intro m
  induction m with
  | zero =>
    intro n
    induction n with
    | zero => exact Nat.le_refl _
    | succ n ih => show sC fb h 0 n + 0 ≤ 0; omega
  | succ m ih =>
    intro n
    have e : ∀ n, sC fb h (m + 1) n = sC fb h m n + ct (fun j => fb m == h + j) n := by
      intro n
      induction n with
      | zero => rfl
      | succ n ih2 =>
        show sC fb h (m + 1) n + ct (fun i => fb i == h + n) (m + 1) = sC fb h m n + ct (fun i => fb i == h + n) m + ct (fun j => fb m == h + j) (n + 1)
        rw [ih2, ct_b, ct_b]
        omega
    have h1 := sum1 fb h m n
    have h2 := ih n
    rw [e]
    omega
theorem sT_le (tk : TxOk T) (n : Nat) : sT T h n ≤ 5640 := by
  have e : ∀ n, sT T h n = 460 * sC (tTh T) h (tNt T) n + 10 * sC (tAh T) h (tNa T) n := by
    intro n
    induction n with
    | zero => rfl
    | succ n ih =>
      show sT T h n + 460 * cT T (h + n) + 10 * cA T (h + n) = 460 * (sC (tTh T) h (tNt T) n + cT T (h + n)) + 10 * (sC (tAh T) h (tNa T) n + cA T (h + n))
      rw [ih]; omega
  have h1 := sC_le (tTh T) h (tNt T) n
  have h2 := sC_le (tAh T) h (tNa T) n
  have h3 := tk.nt; have h4 := tk.na
  rw [e]; omega
theorem sT_add (T : uTx) (h m : Nat) : ∀ n, sT T h (m + n) = sT T h m + sT T (h + m) n
  | 0 => rfl
  | n + 1 => by
    show sT T h (m + n) + 460 * cT T (h + (m + n)) + 10 * cA T (h + (m + n)) = sT T h m + (sT T (h + m) n + 460 * cT T (h + m + n) + 10 * cA T (h + m + n))
    rw [sT_add T h m n, Nat.add_assoc h m n]; omega
theorem sT_mono (T : uTx) (h : Nat) {m n : Nat} (e : m ≤ n) : sT T h m ≤ sT T h n := by
  have := sT_add T h m (n - m)
  rw [Nat.add_sub_cancel' e] at this
  omega
theorem pLo_stop (h : 99 < uHr (pLo T dr ow mu u i)) : ∀ m, pLo T dr ow mu u (i + m) = pLo T dr ow mu u i
  | 0 => rfl
  | m + 1 => by
    have e := pLo_stop h m
    have e2 : pLo T dr ow mu u (i + (m + 1)) = (if uHr (pLo T dr ow mu u (i + m)) ≤ 99 then pOne T dr ow mu (pLo T dr ow mu u (i + m)) else pLo T dr ow mu u (i + m)) := rfl
    rw [e2, e, if_neg (by omega)]
theorem c_pass (hF : gFx S) (ha : gSt S a) (h67 : 67 ≤ a) (hu : StP H a u) (ok : StOk u) (ht : gTx S t) (ht24 : 24 ≤ t) (ht45 : t ≤ 45) (hT : TxP H t T) (tk : TxOk T) (hc : CoP H t dr ow mu) (how : -1 ≤ ow ∧ ow ≤ 4) (hmu : -1 ≤ mu ∧ mu < 6) (hm : MiP H z) (hz7 : z + 13000 < 2147483648) (hn : n ≤ 200) (hh1 : uHd u + 12 * n ≤ 100000000) (hh2 : uLi u + 12 * n ≤ 100000000) : Nv mX0_pass 6 [.ref 66, .ref a, vN n] S H (fun H' => StP H' a (pas T dr ow mu u n) ∧ Off (fun q => (a ≤ q ∧ q < a + 5) ∨ (16 ≤ q ∧ q ≤ 23)) H H' ∧ ∃ t2, t2 ≤ z + sT T (uHr u) n ∧ MiP H' t2) := by
  have hur0 := ok.hr
  have lp : ∀ (fz : Nat) (i : Nat) (v : uSt) (H1 : xH), n - i < fz → i ≤ n → v = pLo T dr ow mu u i → (uHr v = uHr u + i) → StP H1 a v → Off (fun q => (a ≤ q ∧ q < a + 5) ∨ (16 ≤ q ∧ q ≤ 23)) H H1 → (∃ t2, t2 ≤ z + sT T (uHr u) i ∧ MiP H1 t2) → Xq mX0_pass 6 0 0 10 [some (.ref 66), some (.ref a), some (vN n), some (vN (uHr u + n)), some (vN i)] [] S H1 (fun R => ∃ H', (fun H' => StP H' a (pas T dr ow mu u n) ∧ Off (fun q => (a ≤ q ∧ q < a + 5) ∨ (16 ≤ q ∧ q ≤ 23)) H H' ∧ ∃ t2, t2 ≤ z + sT T (uHr u) n ∧ MiP H' t2) H' ∧ R = (none, S, H')) := by
    intro fz
    induction fz with
    | zero => intro i  v  H1  hn; exact absurd hn (by omega)
    | succ fz ih =>
      intro i  v  H1  hn hi hv hhr hu1 ho hm1
      have hg := (pLo_ok (T := T) (dr := dr) (ow := ow) (mu := mu) ok tk i (by omega) (by omega)).1; rw [← hv] at hg
      have hgd := hg.2.2.1; have hgl := hg.2.2.2; have hvr := hg.1.hr
      obtain ⟨t2, a1, a2⟩ := id hm1
      have hst := sT_le (h := uHr u) tk i
      refine xq_iload dX0_pass_10 rfl ?_
      refine xq_iload_n dX0_pass_12 rfl rfl ?_
      refine xq_icmp_geN dX0_pass_13 rfl (by omega) (by omega) ⟨fun h13 => ?_, fun h13 => ?_⟩
      · skip
        refine xq_aload_n dX0_pass_36 rfl rfl ?_
        refine xq_iload_n dX0_pass_37 rfl rfl ?_
        refine xq_putI clX7 (by decide) rfl fl_RX0_34 (Or.inl rfl) dX0_pass_38 ⟨rfl, rfl⟩ (St.s0 ha) ?_
        refine xq_vret dX0_pass_41 rfl ?_
        refine ⟨_, ⟨?_, Off.pI (A := (fun q => (a ≤ q ∧ q < a + 5) ∨ (16 ≤ q ∧ q ≤ 23))) ho (by omega) _ _, ⟨t2, by have := sT_mono T (uHr u) hi; omega, a2.off (Off.pI (A := fun q => q = a) Off.rf rfl _ _) (by omega) (by omega)⟩⟩, rfl⟩
        have e : v = pLo T dr ow mu u n := by
          rw [hv, show n = i by omega]
        unfold pas
        rw [← e]
        exact hu1.setF (k := 10) (by omega) (uHr u + n)
      · skip
        refine xq_aload_n dX0_pass_16 rfl rfl ?_
        refine xq_getIE clX7 (by decide) rfl fl_RX0_34 dX0_pass_17 (St.s0 ha) hu1.f10 ?_
        refine xq_bipush dX0_pass_20 bp99 ?_
        refine xq_icmp_gtN dX0_pass_22 rfl (by omega) (by omega) ⟨fun h22 => ?_, fun h22 => ?_⟩
        · skip
          refine xq_aload_n dX0_pass_36 rfl rfl ?_
          refine xq_iload_n dX0_pass_37 rfl rfl ?_
          refine xq_putI clX7 (by decide) rfl fl_RX0_34 (Or.inl rfl) dX0_pass_38 ⟨rfl, rfl⟩ (St.s0 ha) ?_
          refine xq_vret dX0_pass_41 rfl ?_
          refine ⟨_, ⟨?_, Off.pI (A := (fun q => (a ≤ q ∧ q < a + 5) ∨ (16 ≤ q ∧ q ≤ 23))) ho (by omega) _ _, ⟨t2, by have := sT_mono T (uHr u) hi; omega, a2.off (Off.pI (A := fun q => q = a) Off.rf rfl _ _) (by omega) (by omega)⟩⟩, rfl⟩
          have e : v = pLo T dr ow mu u n := by
            rw [hv, ← pLo_stop (by rw [← hv]; exact h22) (n - i), Nat.add_sub_cancel' hi]
          unfold pas
          rw [← e]
          exact hu1.setF (k := 10) (by omega) (uHr u + n)
        · skip
          refine xq_aload_n dX0_pass_25 rfl rfl ?_
          refine xq_aload_n dX0_pass_26 rfl rfl ?_
          refine xq_callV1N clX0 gd_X0_passOne dX0_pass_27 ml_RX0_39 im_X0_passOne se_X0_passOne rfl (Fx.s66 hF) (by exact Nat.le_of_ble_eq_true rfl) (by decide) (c_passOne hF ha h67 hu1 hg.1 ht ht24 ht45 (hT.off ho (fun j hj => by omega)) tk (hc.off ho (by omega)) how hmu a2 (by omega) (by omega) (by omega)) ?_
          intro H27 p27
          obtain ⟨q1, q2, t3, b1, b2⟩ := p27
          refine xq_iincN dX0_pass_30 ic1 rfl rfl ?_
          refine xq_goto dX0_pass_33 rfl ?_
          exact ih (i + 1) (pOne T dr ow mu v) H27 (by omega) (by omega) (by rw [hv]; show _ = (if _ then _ else _); rw [← hv, if_pos h22]) (by show uHr v + 1 = _; omega) q1 (ho.tr q2) ⟨t3, by show t3 ≤ z + (sT T (uHr u) i + 460 * cT T (uHr u + i) + 10 * cA T (uHr u + i)); rw [← hhr]; omega, b2⟩
  refine vq_intro (by decide) (by exact Nat.le_of_ble_eq_true rfl) rfl ?_
  refine xq_aload_n dX0_pass_0 rfl rfl ?_
  refine xq_getIE clX7 (by decide) rfl fl_RX0_34 dX0_pass_1 (St.s0 ha) hu.f10 ?_
  refine xq_iload_n dX0_pass_4 rfl rfl ?_
  refine xq_iaddN dX0_pass_5 ?_
  refine xq_istore_n dX0_pass_6 rfl rfl ?_
  refine xq_iconst dX0_pass_7 ic0 ?_
  refine xq_istore dX0_pass_8 rfl ?_
  exact lp (n + 1) 0 u H (by omega) (by omega) rfl rfl hu Off.rf ⟨z, Nat.le_refl _, hm⟩
theorem bI_fits (b : Bool) : fits .boolean (.int (bI b)) = true := by cases b <;> rfl
theorem bI_narrow (b : Bool) : narrow .boolean (.int (bI b)) = .int (bI b) := by cases b <;> rfl
theorem c_set (hF : gFx S) : Nv mX0_set 0 [.ref 66, .ref t, vB dr, .int (zI ow), .int (zI mu)] S H (fun H' => CoP H' t dr ow mu ∧ Off (fun q => q = 66) H H') := by
  refine vq_intro (by decide) (by exact Nat.le_of_ble_eq_true rfl) rfl ?_
  refine xq_aload_n dX0_set_0 rfl rfl ?_
  refine xq_aload_n dX0_set_1 rfl rfl ?_
  refine xq_putR clX0 (by decide) rfl fl_RX0_26 (Or.inl rfl) dX0_set_2 (fun _ => ⟨rfl, rfl⟩) (Fx.s66 hF) ?_
  refine xq_aload_n dX0_set_5 rfl rfl ?_
  refine xq_iload_n dX0_set_6 rfl rfl ?_
  refine xq_putI clX0 (by decide) rfl fl_RX0_30 (Or.inl rfl) dX0_set_7 ⟨bI_narrow _, bI_fits _⟩ (Fx.s66 hF) ?_
  refine xq_aload_n dX0_set_10 rfl rfl ?_
  refine xq_iload_n dX0_set_11 rfl rfl ?_
  refine xq_putI clX0 (by decide) rfl fl_RX0_9 (Or.inl rfl) dX0_set_12 ⟨rfl, rfl⟩ (Fx.s66 hF) ?_
  refine xq_aload_n dX0_set_15 rfl rfl ?_
  refine xq_iload dX0_set_16 rfl ?_
  refine xq_putI clX0 (by decide) rfl fl_RX0_15 (Or.inl rfl) dX0_set_18 ⟨rfl, rfl⟩ (Fx.s66 hF) ?_
  refine xq_vret dX0_set_21 rfl ?_
  refine ⟨_, ⟨⟨?_, ?_, ?_, ?_⟩, Off.pI (A := fun q => q = 66) (Off.pI (A := fun q => q = 66) (Off.pI (A := fun q => q = 66) (Off.pR (A := fun q => q = 66) Off.rf rfl _ _) rfl _ _) rfl _ _) rfl _ _⟩, rfl⟩ <;> simp [hI_sI, hR_sI, hR_sR]
end CB
