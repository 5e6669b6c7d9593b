/-! ===== the reference's calls, on ===== -/
section CB
variable {S : xS} {H H1 H2 H3 : xH} {T : uTx} {N : Nat → Nat → Nat} {s a b c w p q n i j k x y m l f odds : Nat} {lf fb Rw : Nat → Bool} {u v : uSt} {ow mu : Int} {dr : Bool} {A F : Nat → Prop} {ww w2 w3 : Int32}
theorem m_putsFact (hs : MsP S H T N) (hr : RmP H T 0 lf u) (hlr : LfR T lf u) (ok : StOk u) (hf : f < tNf T) : Nv mX11_putsFact 5 [.ref 83, vN f] S H (fun H' => LdP S H' T N lf u 0 ∧ (∃ Rw, RoP H' T 0 Rw ∧ ∀ w, w < nW T → lf w = true → Rw w = kv T u (tRo T f) (ct lf w)) ∧ hI H' 83 56 = nI 1 ∧ MoF (fun q => q = 83 ∨ (112 ≤ q ∧ q ≤ 118)) (fun k => k = 48 ∨ k = 56) H H') := by
  have hF := hs.fx; have hx := hs.mx; have hw := hs.mw; have tk := hs.tk; have tw := hs.tw; have hnp := tw.2.1; have hnc := tw.1; have hWn := nW_le tw; have hnf8 := tk.nf
  refine vq_intro (by decide) (by exact Nat.le_of_ble_eq_true rfl) rfl ?_
  refine xq_aload_n dX11_putsFact_0 rfl rfl ?_
  refine xq_iconst dX11_putsFact_1 ic0 ?_
  refine xq_callV1N clX11 gd_X11_lays dX11_putsFact_2 ml_RX11_428 im_X11_lays se_X11_lays rfl (Fx.s83 hF) (by exact Nat.le_of_ble_eq_true rfl) (by decide) (m_lays hs hr hlr ok (by decide)) ?_
  intro H2 p2
  obtain ⟨hd, hm2⟩ := p2
  obtain ⟨Rw, r1, r2⟩ := hd.so f hf
  have lp : ∀ (fz : Nat) (w : Nat) (H1 : xH), nW T - w < fz → w ≤ nW T → (∀ v, v < w → hI H1 118 v = bI (Rw v)) → hI H1 83 56 = nI 1 → MoF (fun q => q = 83 ∨ q = 118) (fun k => k = 56) H2 H1 → Xq mX11_putsFact 5 0 0 12 [some (.ref 83), some (vN f), some (vN w)] [] S H1 (fun R => ∃ H', (fun H' => LdP S H' T N lf u 0 ∧ (∃ Rw, RoP H' T 0 Rw ∧ ∀ w, w < nW T → lf w = true → Rw w = kv T u (tRo T f) (ct lf w)) ∧ hI H' 83 56 = nI 1 ∧ MoF (fun q => q = 83 ∨ (112 ≤ q ∧ q ≤ 118)) (fun k => k = 48 ∨ k = 56) H H') H' ∧ R = (none, S, H')) := by
    intro fz
    induction fz with
    | zero => intro w  H1  hfz; exact absurd hfz (by omega)
    | succ fz ih =>
      intro w  H1  hfz hi hg hq ho
      refine xq_iload_n dX11_putsFact_12 rfl rfl ?_
      refine xq_aload_n dX11_putsFact_13 rfl rfl ?_
      refine xq_getIE clX11 (by decide) rfl fl_RX11_335 dX11_putsFact_14 (Fx.s83 hF) ((ho.2 36 (by omega)).trans hd.ms.mw.ws) ?_
      refine xq_icmp_geN dX11_putsFact_17 rfl (by omega) (by omega) ⟨fun h17 => ?_, fun h17 => ?_⟩
      · skip
        refine xq_vret dX11_putsFact_44 rfl ?_
        have hd1 := hd.off2 ho (fun q a b c d e g => by omega) (by decide) (by decide) (by decide)
        exact ⟨H1, ⟨hd1, ⟨Rw, fun v hv => (congrArg (hI H1 118) (by omega)).trans (hg v (by omega)), r2⟩, hq, hm2.tr (MoF.mo ho (fun q h => by omega) (fun k h => Or.inr h))⟩, rfl⟩
      · skip
        refine xq_aload_n dX11_putsFact_20 rfl rfl ?_
        refine xq_getF clX11 (by decide) rfl fl_RX11_119 dX11_putsFact_21 (Fx.s83 hF) (Fx.r83_55 hF) ?_
        refine xq_iload_n dX11_putsFact_24 rfl rfl ?_
        refine xq_aload_n dX11_putsFact_25 rfl rfl ?_
        refine xq_getF clX11 (by decide) rfl fl_RX11_115 dX11_putsFact_26 (Fx.s83 hF) (Fx.r83_54 hF) ?_
        refine xq_sipush dX11_putsFact_29 sp729 ?_
        refine xq_iload_n dX11_putsFact_32 rfl rfl ?_
        refine xq_imulN dX11_putsFact_33 ?_
        refine xq_iload_n dX11_putsFact_34 rfl rfl ?_
        refine xq_iaddN dX11_putsFact_35 ?_
        refine xq_zaldN (v := bI (Rw w)) dX11_putsFact_36 (Fx.s117 hF) (by omega) (by decide) ((ho.1.I (by omega) _).trans (r1 w h17)) ?_
        refine xq_zastN dX11_putsFact_37 (Fx.s118 hF) (by omega) (by decide) (bI_01 _) ?_
        refine xq_iincN dX11_putsFact_38 ic1 rfl rfl ?_
        refine xq_goto dX11_putsFact_41 rfl ?_
        refine ih (w + 1) _ (by omega) (by omega) (fun v hv => ?_) (by rw [hI_sI, if_neg (by omega)]; exact hq) (MoF.pI (A := fun q => q = 83 ∨ q = 118) ho (Or.inr rfl) (by omega) _ _)
        rw [hI_sI]
        by_cases e : v = w
        · rw [if_pos ⟨rfl, e⟩, e]
        · rw [if_neg (fun z => e z.2)]; exact hg v (by omega)
  refine xq_aload_n dX11_putsFact_5 rfl rfl ?_
  refine xq_iconst dX11_putsFact_6 ic1 ?_
  refine xq_putI clX11 (by decide) rfl fl_RX11_371 (Or.inl rfl) dX11_putsFact_7 ⟨rfl, rfl⟩ (Fx.s83 hF) ?_
  refine xq_iconst dX11_putsFact_10 ic0 ?_
  refine xq_istore_n dX11_putsFact_11 rfl rfl ?_
  exact lp (nW T + 1) 0 _ (by omega) (by omega) (fun v hv => absurd hv (by omega)) (by rw [hI_sI, if_pos ⟨rfl, rfl⟩]) (MoF.pF (A := fun q => q = 83 ∨ q = 118) (F := fun k => k = 56) MoF.rf (Or.inl rfl) rfl _)
theorem m_common0 (hm : MnP S H T N lf u) (hno : hasB ww (tNf T) = false) : Hv mX11_common 6 [.ref 83, .int ww] S H vZ (fun (x : Int) H' => x = (-1) ∧ MoF (fun q => q = 83 ∨ q = 101 ∨ q = 102 ∨ (112 ≤ q ∧ q ≤ 118)) (fun k => k = 0 ∨ k = 34 ∨ k = 48 ∨ k = 56) H H') := by
  have hF := hm.ms.fx; have hm0 := hm.t0; have hs := hm0.ms; have hx := hs.mx; have hw := hs.mw; have tk := hs.tk; have tw := hs.tw; have hnp := tw.2.1; have hnc := tw.1; have hWn := nW_le tw; have ok := hm.ok; have hlr := hm.lr; have htr := hlr.2.1; have hnf8 := tk.nf; have hz := ok.n; have hrm := hm0.rm; have htt := hs.tt
  refine vq_intro (by decide) (by exact Nat.le_of_ble_eq_true rfl) rfl ?_
  refine xq_aload_n dX11_common_0 rfl rfl ?_
  refine xq_iconst dX11_common_1 ic0 ?_
  refine xq_putI clX11 (by decide) rfl fl_RX11_128 (Or.inl rfl) dX11_common_2 ⟨rfl, rfl⟩ (Fx.s83 hF) ?_
  refine xq_aload_n dX11_common_5 rfl rfl ?_
  refine xq_iload_n dX11_common_6 rfl rfl ?_
  refine xq_callV1P clX11 gd_X11_isFact dX11_common_7 ml_RX11_466 im_X11_isFact se_X11_isFact rfl (Fx.s83 hF) (by exact Nat.le_of_ble_eq_true rfl) (by decide) (m_isFact hs) ?_
  refine xq_if_neB dX11_common_10 rfl ⟨fun h10 => ?_, fun h10 => ?_⟩
  · skip
    rw [hno] at h10; cases h10
  · skip
    refine xq_iconst dX11_common_13 icm1 ?_
    refine xq_iret dX11_common_14 rfl ?_
    refine ⟨-1, _, ⟨rfl, (MoF.pF (A := (fun q => q = 83 ∨ q = 101 ∨ q = 102 ∨ (112 ≤ q ∧ q ≤ 118))) (F := (fun k => k = 0 ∨ k = 34 ∨ k = 48 ∨ k = 56)) (H := H) (H2 := H) (k := 0) MoF.rf (Or.inl rfl) (Or.inl rfl) (nI 0))⟩, ?_⟩
    rw [zm1]
theorem m_common1 (hm : MnP S H T N lf u) (hf : f < tNf T) : Hv mX11_common 6 [.ref 83, vN f] S H vN (fun x H' => x = ((comV T u f).toNat) ∧ MoF (fun q => q = 83 ∨ q = 101 ∨ q = 102 ∨ (112 ≤ q ∧ q ≤ 118)) (fun k => k = 0 ∨ k = 34 ∨ k = 48 ∨ k = 56) H H') := by
  have hF := hm.ms.fx; have hm0 := hm.t0; have hs := hm0.ms; have hx := hs.mx; have hw := hs.mw; have tk := hs.tk; have tw := hs.tw; have hnp := tw.2.1; have hnc := tw.1; have hWn := nW_le tw; have ok := hm.ok; have hlr := hm.lr; have htr := hlr.2.1; have hnf8 := tk.nf; have hz := ok.n; have hrm := hm0.rm; have htt := hs.tt
  refine vq_intro (by decide) (by exact Nat.le_of_ble_eq_true rfl) rfl ?_
  refine xq_aload_n dX11_common_0 rfl rfl ?_
  refine xq_iconst dX11_common_1 ic0 ?_
  refine xq_putI clX11 (by decide) rfl fl_RX11_128 (Or.inl rfl) dX11_common_2 ⟨rfl, rfl⟩ (Fx.s83 hF) ?_
  refine xq_aload_n dX11_common_5 rfl rfl ?_
  refine xq_iload_n dX11_common_6 rfl rfl ?_
  refine xq_callV1P clX11 gd_X11_isFact dX11_common_7 ml_RX11_466 im_X11_isFact se_X11_isFact rfl (Fx.s83 hF) (by exact Nat.le_of_ble_eq_true rfl) (by decide) (m_isFact1 hs hf) ?_
  refine xq_if_neN dX11_common_10 rfl (by omega) ⟨fun h10 => ?_, fun h10 => ?_⟩
  · skip
    refine xq_aload_n dX11_common_15 rfl rfl ?_
    refine xq_iload_n dX11_common_16 rfl rfl ?_
    refine xq_callV1N clX11 gd_X11_putsFact dX11_common_17 ml_RX11_469 im_X11_putsFact se_X11_putsFact rfl (Fx.s83 hF) (by exact Nat.le_of_ble_eq_true rfl) (by decide) (m_putsFact hs hrm hlr ok hf) ?_
    intro H17 p17
    obtain ⟨hd, ⟨Rw, r1, r2⟩, hq1, hl17⟩ := p17
    have hw1 := hd.ms.mw
    obtain ⟨pf, pa1, pa2⟩ := hd.pa
    refine xq_aload_n dX11_common_20 rfl rfl ?_
    refine xq_callV0N clX11 gd_X11_knownTogether dX11_common_21 ml_RX11_390 im_X11_knownTogether se_X11_knownTogether rfl (Fx.s83 hF) (by exact Nat.le_of_ble_eq_true rfl) (by decide) (m_knownTogether hd.ms hd.rm hlr ok (by decide) hd.ro pa1 pa2 (m := 0) hq1 (by decide) r1) ?_
    intro H21 p21
    obtain ⟨r21, e21, o21⟩ := p21
    have hcv : hI H21 118 (trW T) = bI (comV T u f) := by
      refine ((congrArg (hI H21 118) (by omega : trW T = 729 * 0 + trW T)).trans (r21 _ htr)).trans ?_
      show bI (!(ktE lf pf Rw (pf (trW T)) (nW T))) = _
      rw [kt_rank hlr pa2 r2 htr hlr.2.2.1, ← hlr.2.2.2.1]; rfl
    refine xq_aload_n dX11_common_24 rfl rfl ?_
    refine xq_getF clX11 (by decide) rfl fl_RX11_119 dX11_common_25 (Fx.s83 hF) (Fx.r83_55 hF) ?_
    refine xq_aload_n dX11_common_28 rfl rfl ?_
    refine xq_getIE clX11 (by decide) rfl fl_RX11_338 dX11_common_29 (Fx.s83 hF) ((o21.I (by omega) 37).trans hw1.tr) ?_
    refine xq_zaldN dX11_common_32 (Fx.s118 hF) (by omega) (by decide) hcv ?_
    refine xq_if_eqB dX11_common_33 rfl ⟨fun h33 => ?_, fun h33 => ?_⟩
    · skip
      refine xq_iconst dX11_common_40 ic0 ?_
      refine xq_iret dX11_common_41 rfl ?_
      exact ⟨_, H21, ⟨rfl, (((MoF.pF (A := (fun q => q = 83 ∨ q = 101 ∨ q = 102 ∨ (112 ≤ q ∧ q ≤ 118))) (F := (fun k => k = 0 ∨ k = 34 ∨ k = 48 ∨ k = 56)) (H := H) (H2 := H) (k := 0) MoF.rf (Or.inl rfl) (Or.inl rfl) (nI 0)).tr (MoF.mo hl17 (fun q h => (by omega : q = 83 ∨ q = 101 ∨ q = 102 ∨ (112 ≤ q ∧ q ≤ 118))) (fun k h => (by omega : k = 0 ∨ k = 34 ∨ k = 48 ∨ k = 56))))).tr (MoF.mo (MoF.of (F := (fun k => k = 0 ∨ k = 34 ∨ k = 48 ∨ k = 56)) o21 (by omega)) (fun q h => (by omega : q = 83 ∨ q = 101 ∨ q = 102 ∨ (112 ≤ q ∧ q ≤ 118))) (fun k h => h))⟩, by rw [h33]; rfl⟩
    · skip
      refine xq_iconst dX11_common_36 ic1 ?_
      refine xq_goto dX11_common_37 rfl ?_
      refine xq_iret dX11_common_41 rfl ?_
      exact ⟨_, H21, ⟨rfl, (((MoF.pF (A := (fun q => q = 83 ∨ q = 101 ∨ q = 102 ∨ (112 ≤ q ∧ q ≤ 118))) (F := (fun k => k = 0 ∨ k = 34 ∨ k = 48 ∨ k = 56)) (H := H) (H2 := H) (k := 0) MoF.rf (Or.inl rfl) (Or.inl rfl) (nI 0)).tr (MoF.mo hl17 (fun q h => (by omega : q = 83 ∨ q = 101 ∨ q = 102 ∨ (112 ≤ q ∧ q ≤ 118))) (fun k h => (by omega : k = 0 ∨ k = 34 ∨ k = 48 ∨ k = 56))))).tr (MoF.mo (MoF.of (F := (fun k => k = 0 ∨ k = 34 ∨ k = 48 ∨ k = 56)) o21 (by omega)) (fun q h => (by omega : q = 83 ∨ q = 101 ∨ q = 102 ∨ (112 ≤ q ∧ q ≤ 118))) (fun k h => h))⟩, by rw [h33]; rfl⟩
  · skip
    first | exact absurd h10 (by decide) | exact absurd rfl h10
theorem m_depth0 (hm : MnP S H T N lf u) (hno : hasB ww (tNf T) = false) : Hv mX11_depth 6 [.ref 83, .int ww] S H vZ (fun (x : Int) H' => x = (-1) ∧ MoF (fun q => q = 83 ∨ q = 101 ∨ q = 102 ∨ (112 ≤ q ∧ q ≤ 118)) (fun k => k = 0 ∨ k = 34 ∨ k = 48 ∨ k = 56) H H') := by
  have hF := hm.ms.fx; have hm0 := hm.t0; have hs := hm0.ms; have hx := hs.mx; have hw := hs.mw; have tk := hs.tk; have tw := hs.tw; have hnp := tw.2.1; have hnc := tw.1; have hWn := nW_le tw; have ok := hm.ok; have hlr := hm.lr; have htr := hlr.2.1; have hnf8 := tk.nf; have hz := ok.n; have hrm := hm0.rm; have htt := hs.tt
  refine vq_intro (by decide) (by exact Nat.le_of_ble_eq_true rfl) rfl ?_
  refine xq_aload_n dX11_depth_0 rfl rfl ?_
  refine xq_iconst dX11_depth_1 ic0 ?_
  refine xq_putI clX11 (by decide) rfl fl_RX11_128 (Or.inl rfl) dX11_depth_2 ⟨rfl, rfl⟩ (Fx.s83 hF) ?_
  refine xq_aload_n dX11_depth_5 rfl rfl ?_
  refine xq_iload_n dX11_depth_6 rfl rfl ?_
  refine xq_callV1P clX11 gd_X11_isFact dX11_depth_7 ml_RX11_466 im_X11_isFact se_X11_isFact rfl (Fx.s83 hF) (by exact Nat.le_of_ble_eq_true rfl) (by decide) (m_isFact hs) ?_
  refine xq_if_neB dX11_depth_10 rfl ⟨fun h10 => ?_, fun h10 => ?_⟩
  · skip
    rw [hno] at h10; cases h10
  · skip
    refine xq_iconst dX11_depth_13 icm1 ?_
    refine xq_iret dX11_depth_14 rfl ?_
    refine ⟨-1, _, ⟨rfl, (MoF.pF (A := (fun q => q = 83 ∨ q = 101 ∨ q = 102 ∨ (112 ≤ q ∧ q ≤ 118))) (F := (fun k => k = 0 ∨ k = 34 ∨ k = 48 ∨ k = 56)) (H := H) (H2 := H) (k := 0) MoF.rf (Or.inl rfl) (Or.inl rfl) (nI 0))⟩, ?_⟩
    rw [zm1]
theorem m_depth1 (hm : MnP S H T N lf u) (hf : f < tNf T) : Hv mX11_depth 6 [.ref 83, vN f] S H vZ (fun (x : Int) H' => x = (depV T u f) ∧ MoF (fun q => q = 83 ∨ q = 101 ∨ q = 102 ∨ (112 ≤ q ∧ q ≤ 118)) (fun k => k = 0 ∨ k = 34 ∨ k = 48 ∨ k = 56) H H') := by
  have hF := hm.ms.fx; have hm0 := hm.t0; have hs := hm0.ms; have hx := hs.mx; have hw := hs.mw; have tk := hs.tk; have tw := hs.tw; have hnp := tw.2.1; have hnc := tw.1; have hWn := nW_le tw; have ok := hm.ok; have hlr := hm.lr; have htr := hlr.2.1; have hnf8 := tk.nf; have hz := ok.n; have hrm := hm0.rm; have htt := hs.tt
  by_cases hd0 : dpv T u f 0 (uRl u) = true
  · skip
    have lp : ∀ (fz : Nat) (k : Nat) (Rw : Nat → Bool) (H1 : xH), 20 - k < fz → k ≤ 20 → (∀ j, j < k → (!(dpv T u f (j + 1) (uRl u))) = false) → RoP H1 T 0 Rw → (∀ w, w < nW T → lf w = true → Rw w = dpv T u f k (ct lf w)) → LdP S H1 T N lf u 0 → hI H1 83 56 = nI 1 → MoF (fun q => q = 83 ∨ q = 101 ∨ q = 102 ∨ (112 ≤ q ∧ q ≤ 118)) (fun k => k = 0 ∨ k = 34 ∨ k = 48 ∨ k = 56) H H1 → Xq mX11_depth 6 0 0 37 [some (.ref 83), some (vN f), some (vN k)] [] S H1 (fun R => ∃ x H', (fun (x : Int) H' => x = (depV T u f) ∧ MoF (fun q => q = 83 ∨ q = 101 ∨ q = 102 ∨ (112 ≤ q ∧ q ≤ 118)) (fun k => k = 0 ∨ k = 34 ∨ k = 48 ∨ k = 56) H H') x H' ∧ R = (some (vZ x), S, H')) := by
      intro fz
      induction fz with
      | zero => intro k  Rw  H1  hfz; exact absurd hfz (by omega)
      | succ fz ih =>
        intro k  Rw  H1  hfz hk hno hr1 hr2 hd1 hq ho
        skip
        refine xq_iload_n dX11_depth_37 rfl rfl ?_
        refine xq_bipush dX11_depth_38 bp20 ?_
        refine xq_icmp_geN dX11_depth_40 rfl (by omega) (by omega) ⟨fun h40 => ?_, fun h40 => ?_⟩
        · skip
          refine xq_bipush dX11_depth_67 bp20 ?_
          refine xq_iret dX11_depth_69 rfl ?_
          refine ⟨_, H1, ⟨rfl, ho⟩, ?_⟩
          have e20 : k = 20 := by omega
          have h1 : depV T u f = 20 := by
            unfold depV
            rw [if_pos hd0, fnd_no (by rw [← e20]; exact hno)]; rfl
          rw [h1]; rfl
        · skip
          refine xq_aload_n dX11_depth_43 rfl rfl ?_
          refine xq_callV0N clX11 gd_X11_knownByAll dX11_depth_44 ml_RX11_387 im_X11_knownByAll se_X11_knownByAll rfl (Fx.s83 hF) (by exact Nat.le_of_ble_eq_true rfl) (by decide) (m_knownByAll hd1.ms hd1.rm hlr ok (by decide) hd1.ro hd1.si (m := 0) hq (by decide) hr1) ?_
          intro H44 p44
          obtain ⟨r44, e44, o44⟩ := p44
          have hnew : ∀ w, w < nW T → lf w = true → (!(ex (fun p => kbE T lf u p Rw (sgt T (uSe u p) w) (nW T)) (tNp T))) = dpv T u f (k + 1) (ct lf w) := fun w hw hl => by
            show _ = !(ex (fun i => ex (fun q => ky u i q == ky u i (ct lf w) && !(dpv T u f k q)) (uZ u)) (uNp u))
            rw [hlr.2.2.2.2]
            congr 1
            exact ex_cong (fun p hp => kb_rank hlr tw (ok.se (by omega)) hr2 hw hl)
          have hkv : (!(ex (fun p => kbE T lf u p Rw (sgt T (uSe u p) (trW T)) (nW T)) (tNp T))) = dpv T u f (k + 1) (uRl u) := by rw [hlr.2.2.2.1]; exact hnew _ htr hlr.2.2.1
          have hcv : hI H44 118 (trW T) = bI (!(ex (fun p => kbE T lf u p Rw (sgt T (uSe u p) (trW T)) (nW T)) (tNp T))) := (congrArg (hI H44 118) (by omega : trW T = 729 * 0 + trW T)).trans (r44 _ htr)
          refine xq_aload_n dX11_depth_47 rfl rfl ?_
          refine xq_getF clX11 (by decide) rfl fl_RX11_119 dX11_depth_48 (Fx.s83 hF) (Fx.r83_55 hF) ?_
          refine xq_aload_n dX11_depth_51 rfl rfl ?_
          refine xq_getIE clX11 (by decide) rfl fl_RX11_338 dX11_depth_52 (Fx.s83 hF) ((o44.I (by omega) 37).trans hd1.ms.mw.tr) ?_
          refine xq_zaldN dX11_depth_55 (Fx.s118 hF) (by omega) (by decide) hcv ?_
          refine xq_if_neB dX11_depth_56 rfl ⟨fun h56 => ?_, fun h56 => ?_⟩
          · skip
            refine xq_iincN dX11_depth_61 ic1 rfl rfl ?_
            refine xq_goto dX11_depth_64 rfl ?_
            refine ih (k + 1) _ H44 (by omega) (by omega) (fun j hj => ?_) r44 hnew (hd1.off2 (MoF.of (F := fun _ => False) o44 (by omega)) (fun q a b c d e g => by omega) (fun e => e) (fun e => e) (fun e => e)) ((o44.I (by omega) 56).trans hq) (ho.tr (MoF.mo (MoF.of (F := fun k => k = 0 ∨ k = 34 ∨ k = 48 ∨ k = 56) o44 (by omega)) (fun q h => (by omega : q = 83 ∨ q = 101 ∨ q = 102 ∨ (112 ≤ q ∧ q ≤ 118))) (fun k h => h)))
            by_cases e : j = k
            · subst e; rw [← hkv, h56]; rfl
            · exact hno j (by omega)
          · skip
            refine xq_iload_n dX11_depth_59 rfl rfl ?_
            refine xq_iret dX11_depth_60 rfl ?_
            refine ⟨_, H44, ⟨rfl, ho.tr (MoF.mo (MoF.of (F := fun k => k = 0 ∨ k = 34 ∨ k = 48 ∨ k = 56) o44 (by omega)) (fun q h => (by omega : q = 83 ∨ q = 101 ∨ q = 102 ∨ (112 ≤ q ∧ q ≤ 118))) (fun k h => h))⟩, ?_⟩
            have h1 : depV T u f = (k : Nat) := by
              unfold depV
              rw [if_pos hd0, fnd_at hno (by rw [← hkv, h56]; rfl) h40]
            rw [h1]; rfl
    refine vq_intro (by decide) (by exact Nat.le_of_ble_eq_true rfl) rfl ?_
    refine xq_aload_n dX11_depth_0 rfl rfl ?_
    refine xq_iconst dX11_depth_1 ic0 ?_
    refine xq_putI clX11 (by decide) rfl fl_RX11_128 (Or.inl rfl) dX11_depth_2 ⟨rfl, rfl⟩ (Fx.s83 hF) ?_
    refine xq_aload_n dX11_depth_5 rfl rfl ?_
    refine xq_iload_n dX11_depth_6 rfl rfl ?_
    refine xq_callV1P clX11 gd_X11_isFact dX11_depth_7 ml_RX11_466 im_X11_isFact se_X11_isFact rfl (Fx.s83 hF) (by exact Nat.le_of_ble_eq_true rfl) (by decide) (m_isFact1 hs hf) ?_
    refine xq_if_neN dX11_depth_10 rfl (by omega) ⟨fun h10 => ?_, fun h10 => ?_⟩
    · skip
      refine xq_aload_n dX11_depth_15 rfl rfl ?_
      refine xq_iload_n dX11_depth_16 rfl rfl ?_
      refine xq_callV1N clX11 gd_X11_putsFact dX11_depth_17 ml_RX11_469 im_X11_putsFact se_X11_putsFact rfl (Fx.s83 hF) (by exact Nat.le_of_ble_eq_true rfl) (by decide) (m_putsFact hs hrm hlr ok hf) ?_
      intro H17 p17
      obtain ⟨hd, ⟨Rw, r1, r2⟩, hq1, hl17⟩ := p17
      have hw1 := hd.ms.mw
      have hkv0 : Rw (trW T) = dpv T u f 0 (uRl u) := by rw [hlr.2.2.2.1]; exact r2 _ htr hlr.2.2.1
      have hc0 : hI H17 118 (trW T) = bI (Rw (trW T)) := (congrArg (hI H17 118) (by omega : trW T = 729 * 0 + trW T)).trans (r1 _ htr)
      refine xq_aload_n dX11_depth_20 rfl rfl ?_
      refine xq_getF clX11 (by decide) rfl fl_RX11_119 dX11_depth_21 (Fx.s83 hF) (Fx.r83_55 hF) ?_
      refine xq_aload_n dX11_depth_24 rfl rfl ?_
      refine xq_getIE clX11 (by decide) rfl fl_RX11_338 dX11_depth_25 (Fx.s83 hF) hw1.tr ?_
      refine xq_zaldN dX11_depth_28 (Fx.s118 hF) (by omega) (by decide) hc0 ?_
      refine xq_if_neB dX11_depth_29 rfl ⟨fun h29 => ?_, fun h29 => ?_⟩
      · skip
        refine xq_iconst dX11_depth_35 ic0 ?_
        refine xq_istore_n dX11_depth_36 rfl rfl ?_
        exact lp 21 0 Rw H17 (by omega) (by omega) (fun j hj => absurd hj (by omega)) r1 r2 hd hq1 ((MoF.pF (A := (fun q => q = 83 ∨ q = 101 ∨ q = 102 ∨ (112 ≤ q ∧ q ≤ 118))) (F := (fun k => k = 0 ∨ k = 34 ∨ k = 48 ∨ k = 56)) (H := H) (H2 := H) (k := 0) MoF.rf (Or.inl rfl) (Or.inl rfl) (nI 0)).tr (MoF.mo hl17 (fun q h => (by omega : q = 83 ∨ q = 101 ∨ q = 102 ∨ (112 ≤ q ∧ q ≤ 118))) (fun k h => (by omega : k = 0 ∨ k = 34 ∨ k = 48 ∨ k = 56))))
      · skip
        rw [h29] at hkv0; rw [hd0] at hkv0; cases hkv0
    · skip
      first | exact absurd h10 (by decide) | exact absurd rfl h10
  refine vq_intro (by decide) (by exact Nat.le_of_ble_eq_true rfl) rfl ?_
  refine xq_aload_n dX11_depth_0 rfl rfl ?_
  refine xq_iconst dX11_depth_1 ic0 ?_
  refine xq_putI clX11 (by decide) rfl fl_RX11_128 (Or.inl rfl) dX11_depth_2 ⟨rfl, rfl⟩ (Fx.s83 hF) ?_
  refine xq_aload_n dX11_depth_5 rfl rfl ?_
  refine xq_iload_n dX11_depth_6 rfl rfl ?_
  refine xq_callV1P clX11 gd_X11_isFact dX11_depth_7 ml_RX11_466 im_X11_isFact se_X11_isFact rfl (Fx.s83 hF) (by exact Nat.le_of_ble_eq_true rfl) (by decide) (m_isFact1 hs hf) ?_
  refine xq_if_neN dX11_depth_10 rfl (by omega) ⟨fun h10 => ?_, fun h10 => ?_⟩
  · skip
    refine xq_aload_n dX11_depth_15 rfl rfl ?_
    refine xq_iload_n dX11_depth_16 rfl rfl ?_
    refine xq_callV1N clX11 gd_X11_putsFact dX11_depth_17 ml_RX11_469 im_X11_putsFact se_X11_putsFact rfl (Fx.s83 hF) (by exact Nat.le_of_ble_eq_true rfl) (by decide) (m_putsFact hs hrm hlr ok hf) ?_
    intro H17 p17
    obtain ⟨hd, ⟨Rw, r1, r2⟩, hq1, hl17⟩ := p17
    have hw1 := hd.ms.mw
    have hkv0 : Rw (trW T) = dpv T u f 0 (uRl u) := by rw [hlr.2.2.2.1]; exact r2 _ htr hlr.2.2.1
    have hc0 : hI H17 118 (trW T) = bI (Rw (trW T)) := (congrArg (hI H17 118) (by omega : trW T = 729 * 0 + trW T)).trans (r1 _ htr)
    refine xq_aload_n dX11_depth_20 rfl rfl ?_
    refine xq_getF clX11 (by decide) rfl fl_RX11_119 dX11_depth_21 (Fx.s83 hF) (Fx.r83_55 hF) ?_
    refine xq_aload_n dX11_depth_24 rfl rfl ?_
    refine xq_getIE clX11 (by decide) rfl fl_RX11_338 dX11_depth_25 (Fx.s83 hF) hw1.tr ?_
    refine xq_zaldN dX11_depth_28 (Fx.s118 hF) (by omega) (by decide) hc0 ?_
    refine xq_if_neB dX11_depth_29 rfl ⟨fun h29 => ?_, fun h29 => ?_⟩
    · skip
      refine xq_iconst dX11_depth_35 ic0 ?_
      refine xq_istore_n dX11_depth_36 rfl rfl ?_
      exact absurd (hkv0.symm.trans h29) hd0
    · skip
      refine xq_bipush dX11_depth_32 bpm2 ?_
      refine xq_iret dX11_depth_34 rfl ?_
      refine ⟨_, H17, ⟨rfl, ((MoF.pF (A := (fun q => q = 83 ∨ q = 101 ∨ q = 102 ∨ (112 ≤ q ∧ q ≤ 118))) (F := (fun k => k = 0 ∨ k = 34 ∨ k = 48 ∨ k = 56)) (H := H) (H2 := H) (k := 0) MoF.rf (Or.inl rfl) (Or.inl rfl) (nI 0)).tr (MoF.mo hl17 (fun q h => (by omega : q = 83 ∨ q = 101 ∨ q = 102 ∨ (112 ≤ q ∧ q ≤ 118))) (fun k h => (by omega : k = 0 ∨ k = 34 ∨ k = 48 ∨ k = 56))))⟩, ?_⟩
      rw [show depV T u f = -2 from if_neg hd0, zm2]
  · skip
    first | exact absurd h10 (by decide) | exact absurd rfl h10
theorem m_law1 (hm : MnP S H T N lf u) (hl : l < 2) (hp : p < tNp T) : Hv mX11_law 5 [.ref 83, vN l, vN p] S H vL (fun x H' => x = (lawL (lawE T (nmv u p (pop (kns u))) l)) ∧ MoF (fun q => q = 83 ∨ q = 101 ∨ q = 102 ∨ (112 ≤ q ∧ q ≤ 118)) (fun k => k = 0 ∨ k = 34 ∨ k = 48 ∨ k = 56) H H') := by
  have hF := hm.ms.fx; have hm0 := hm.t0; have hs := hm0.ms; have hx := hs.mx; have hw := hs.mw; have tk := hs.tk; have tw := hs.tw; have hnp := tw.2.1; have hnc := tw.1; have hWn := nW_le tw; have ok := hm.ok; have hlr := hm.lr; have htr := hlr.2.1; have hnf8 := tk.nf; have hz := ok.n; have hrm := hm0.rm; have htt := hs.tt
  have hkl := kns_lt (u := u) (by rw [hlr.2.2.2.2]; omega); have hpk := pop_le (kns u)
  by_cases hn : tLn T l = 0
  · refine vq_intro (by decide) (by exact Nat.le_of_ble_eq_true rfl) rfl ?_
    refine xq_aload_n dX11_law_0 rfl rfl ?_
    refine xq_iconst dX11_law_1 ic0 ?_
    refine xq_putI clX11 (by decide) rfl fl_RX11_128 (Or.inl rfl) dX11_law_2 ⟨rfl, rfl⟩ (Fx.s83 hF) ?_
    refine xq_iload_n dX11_law_5 rfl rfl ?_
    refine xq_if_ltN dX11_law_6 rfl (by omega) ?_
    refine xq_iload_n dX11_law_9 rfl rfl ?_
    refine xq_iconst dX11_law_10 ic1 ?_
    refine xq_icmp_gtN dX11_law_11 rfl (by omega) (by omega) ⟨fun h11 => ?_, fun h11 => ?_⟩
    · skip
      exact absurd h11 (by omega)
    · skip
      refine xq_aload_n dX11_law_14 rfl rfl ?_
      refine xq_iload_n dX11_law_15 rfl rfl ?_
      refine xq_callV1P clX11 gd_X11_hasLaw dX11_law_16 ml_RX11_413 im_X11_hasLaw se_X11_hasLaw rfl (Fx.s83 hF) (by exact Nat.le_of_ble_eq_true rfl) (by decide) (m_hasLaw0 hs hl hn) ?_
      refine xq_if_eqN dX11_law_19 rfl (by omega) ⟨fun h19 => ?_, fun h19 => ?_⟩
      · skip
        refine xq_ldc2 dX11_law_30 kc_RX11_474 ?_
        refine xq_lret dX11_law_33 rfl ?_
        exact ⟨_, _, ⟨rfl, (MoF.pF (A := (fun q => q = 83 ∨ q = 101 ∨ q = 102 ∨ (112 ≤ q ∧ q ≤ 118))) (F := (fun k => k = 0 ∨ k = 34 ∨ k = 48 ∨ k = 56)) (H := H) (H2 := H) (k := 0) MoF.rf (Or.inl rfl) (Or.inl rfl) (nI 0))⟩, by rw [show lawE T (nmv u p (pop (kns u))) l = none from if_pos hn]; rfl⟩
      · skip
        first | exact absurd h19 (by decide) | exact absurd rfl h19
  · refine vq_intro (by decide) (by exact Nat.le_of_ble_eq_true rfl) rfl ?_
    refine xq_aload_n dX11_law_0 rfl rfl ?_
    refine xq_iconst dX11_law_1 ic0 ?_
    refine xq_putI clX11 (by decide) rfl fl_RX11_128 (Or.inl rfl) dX11_law_2 ⟨rfl, rfl⟩ (Fx.s83 hF) ?_
    refine xq_iload_n dX11_law_5 rfl rfl ?_
    refine xq_if_ltN dX11_law_6 rfl (by omega) ?_
    refine xq_iload_n dX11_law_9 rfl rfl ?_
    refine xq_iconst dX11_law_10 ic1 ?_
    refine xq_icmp_gtN dX11_law_11 rfl (by omega) (by omega) ⟨fun h11 => ?_, fun h11 => ?_⟩
    · skip
      exact absurd h11 (by omega)
    · skip
      refine xq_aload_n dX11_law_14 rfl rfl ?_
      refine xq_iload_n dX11_law_15 rfl rfl ?_
      refine xq_callV1P clX11 gd_X11_hasLaw dX11_law_16 ml_RX11_413 im_X11_hasLaw se_X11_hasLaw rfl (Fx.s83 hF) (by exact Nat.le_of_ble_eq_true rfl) (by decide) (m_hasLaw1 hs hl hn) ?_
      refine xq_if_eqN dX11_law_19 rfl (by omega) ⟨fun h19 => ?_, fun h19 => ?_⟩
      · skip
        first | exact absurd h19 (by decide) | exact absurd rfl h19
      · skip
        refine xq_aload_n dX11_law_22 rfl rfl ?_
        refine xq_iload_n dX11_law_23 rfl rfl ?_
        refine xq_callV1P clX11 gd_X11_isPerson dX11_law_24 ml_RX11_460 im_X11_isPerson se_X11_isPerson rfl (Fx.s83 hF) (by exact Nat.le_of_ble_eq_true rfl) (by decide) (m_isPerson1 hs hp) ?_
        refine xq_if_neN dX11_law_27 rfl (by omega) ⟨fun h27 => ?_, fun h27 => ?_⟩
        · skip
          refine xq_aload_n dX11_law_34 rfl rfl ?_
          refine xq_iconst dX11_law_35 ic0 ?_
          refine xq_callV1N clX11 gd_X11_lays dX11_law_36 ml_RX11_428 im_X11_lays se_X11_lays rfl (Fx.s83 hF) (by exact Nat.le_of_ble_eq_true rfl) (by decide) (m_lays hs hrm hlr ok (by decide)) ?_
          intro H36 p36
          obtain ⟨hd, hl36⟩ := p36
          have hr1 := hd.rm; have hx1 := hd.ms.mx; have hw1 := hd.ms.mw; have hs1 := hd.ms
          refine xq_aload_n dX11_law_39 rfl rfl ?_
          refine xq_iload_n dX11_law_40 rfl rfl ?_
          refine xq_callV1N clX11 gd_X11_calls dX11_law_41 ml_RX11_416 im_X11_calls se_X11_calls rfl (Fx.s83 hF) (by exact Nat.le_of_ble_eq_true rfl) (by decide) (m_calls hd hp) ?_
          intro H41 p41
          obtain ⟨n41, o41⟩ := p41
          have hd41 := hd.names o41
          refine xq_aload_n dX11_law_44 rfl rfl ?_
          refine xq_iload_n dX11_law_45 rfl rfl ?_
          refine xq_callV1H clX11 gd_X11_goes dX11_law_46 ml_RX11_419 im_X11_goes se_X11_goes rfl (Fx.s83 hF) (by exact Nat.le_of_ble_eq_true rfl) (by decide) (m_goes hd41.ms hl hn n41 (fun k => nmv_lt ok (by omega) (by omega) k)) ?_
          intro x46 H46 p46
          obtain ⟨e46, g46, q46⟩ := p46
          refine xq_if_eqB dX11_law_49 rfl ⟨fun h49 => ?_, fun h49 => ?_⟩
          · skip
            refine xq_ldc2 dX11_law_61 kc_RX11_474 ?_
            refine xq_lret dX11_law_64 rfl ?_
            have hnn : lawE T (nmv u p (pop (kns u))) l = none := by
              cases e : lawE T (nmv u p (pop (kns u))) l with
              | none => rfl
              | some z => rw [e] at e46; rw [e46] at h49; cases h49
            exact ⟨_, H46, ⟨rfl, (((MoF.pF (A := (fun q => q = 83 ∨ q = 101 ∨ q = 102 ∨ (112 ≤ q ∧ q ≤ 118))) (F := (fun k => k = 0 ∨ k = 34 ∨ k = 48 ∨ k = 56)) (H := H) (H2 := H) (k := 0) MoF.rf (Or.inl rfl) (Or.inl rfl) (nI 0)).tr (MoF.mo hl36 (fun q h => (by omega : q = 83 ∨ q = 101 ∨ q = 102 ∨ (112 ≤ q ∧ q ≤ 118))) (fun k h => (by omega : k = 0 ∨ k = 34 ∨ k = 48 ∨ k = 56))))).tr ((MoF.mo (MoF.of (F := (fun k => k = 0 ∨ k = 34 ∨ k = 48 ∨ k = 56)) o41 (by omega)) (fun q h => (Or.inr (Or.inl h) : q = 83 ∨ q = 101 ∨ q = 102 ∨ (112 ≤ q ∧ q ≤ 118))) (fun k h => h)).tr (MoF.mo q46 (fun q h => (by omega : q = 83 ∨ q = 101 ∨ q = 102 ∨ (112 ≤ q ∧ q ≤ 118))) (fun k h => (Or.inr (Or.inl h) : k = 0 ∨ k = 34 ∨ k = 48 ∨ k = 56))))⟩, by rw [hnn]; rfl⟩
          · skip
            have q : ∃ z, lawE T (nmv u p (pop (kns u))) l = some z := by
              cases e : lawE T (nmv u p (pop (kns u))) l with
              | none => rw [e, h49] at e46; cases e46
              | some z => exact ⟨z, rfl⟩
            obtain ⟨z, hz0⟩ := q
            have hw57 := g46 z hz0
            refine xq_aload_n dX11_law_52 rfl rfl ?_
            refine xq_getF clX11 (by decide) rfl fl_RX11_69 dX11_law_53 (Fx.s83 hF) (Fx.r83_33 hF) ?_
            refine xq_iconst dX11_law_56 ic0 ?_
            refine xq_laldN (v := zL z) dX11_law_57 (Fx.s102 hF) (by omega) (by decide) hw57 ?_
            refine xq_goto dX11_law_58 rfl ?_
            refine xq_lret dX11_law_64 rfl ?_
            exact ⟨_, H46, ⟨rfl, (((MoF.pF (A := (fun q => q = 83 ∨ q = 101 ∨ q = 102 ∨ (112 ≤ q ∧ q ≤ 118))) (F := (fun k => k = 0 ∨ k = 34 ∨ k = 48 ∨ k = 56)) (H := H) (H2 := H) (k := 0) MoF.rf (Or.inl rfl) (Or.inl rfl) (nI 0)).tr (MoF.mo hl36 (fun q h => (by omega : q = 83 ∨ q = 101 ∨ q = 102 ∨ (112 ≤ q ∧ q ≤ 118))) (fun k h => (by omega : k = 0 ∨ k = 34 ∨ k = 48 ∨ k = 56))))).tr ((MoF.mo (MoF.of (F := (fun k => k = 0 ∨ k = 34 ∨ k = 48 ∨ k = 56)) o41 (by omega)) (fun q h => (Or.inr (Or.inl h) : q = 83 ∨ q = 101 ∨ q = 102 ∨ (112 ≤ q ∧ q ≤ 118))) (fun k h => h)).tr (MoF.mo q46 (fun q h => (by omega : q = 83 ∨ q = 101 ∨ q = 102 ∨ (112 ≤ q ∧ q ≤ 118))) (fun k h => (Or.inr (Or.inl h) : k = 0 ∨ k = 34 ∨ k = 48 ∨ k = 56))))⟩, by rw [hz0]; rfl⟩
        · skip
          first | exact absurd h27 (by decide) | exact absurd rfl h27
theorem m_hasLawB (hs : MsP S H T N) (hl : l < 2) : Pv mX11_hasLaw 0 [.ref 83, vN l] S H (vB (decide (tLn T l ≠ 0))) := by
  by_cases hn : tLn T l = 0
  · rw [decide_eq_false (fun z => z hn)]; exact m_hasLaw0 hs hl hn
  · rw [decide_eq_true hn]; exact m_hasLaw1 hs hl hn
theorem m_law0a (hm : MnP S H T N lf u) (hl : l < 2) (hno : hasB w2 (tNp T) = false) : Hv mX11_law 5 [.ref 83, vN l, .int w2] S H vL (fun x H' => x = (zL MIN64) ∧ MoF (fun q => q = 83 ∨ q = 101 ∨ q = 102 ∨ (112 ≤ q ∧ q ≤ 118)) (fun k => k = 0 ∨ k = 34 ∨ k = 48 ∨ k = 56) H H') := by
  have hF := hm.ms.fx; have hm0 := hm.t0; have hs := hm0.ms; have hx := hs.mx; have hw := hs.mw; have tk := hs.tk; have tw := hs.tw; have hnp := tw.2.1; have hnc := tw.1; have hWn := nW_le tw; have ok := hm.ok; have hlr := hm.lr; have htr := hlr.2.1; have hnf8 := tk.nf; have hz := ok.n; have hrm := hm0.rm; have htt := hs.tt
  · refine vq_intro (by decide) (by exact Nat.le_of_ble_eq_true rfl) rfl ?_
    refine xq_aload_n dX11_law_0 rfl rfl ?_
    refine xq_iconst dX11_law_1 ic0 ?_
    refine xq_putI clX11 (by decide) rfl fl_RX11_128 (Or.inl rfl) dX11_law_2 ⟨rfl, rfl⟩ (Fx.s83 hF) ?_
    refine xq_iload_n dX11_law_5 rfl rfl ?_
    refine xq_if_ltN dX11_law_6 rfl (by omega) ?_
    refine xq_iload_n dX11_law_9 rfl rfl ?_
    refine xq_iconst dX11_law_10 ic1 ?_
    refine xq_icmp_gtN dX11_law_11 rfl (by omega) (by omega) ⟨fun h11 => ?_, fun h11 => ?_⟩
    · skip
      exact absurd h11 (by omega)
    · skip
      refine xq_aload_n dX11_law_14 rfl rfl ?_
      refine xq_iload_n dX11_law_15 rfl rfl ?_
      refine xq_callV1P clX11 gd_X11_hasLaw dX11_law_16 ml_RX11_413 im_X11_hasLaw se_X11_hasLaw rfl (Fx.s83 hF) (by exact Nat.le_of_ble_eq_true rfl) (by decide) (m_hasLawB hs hl) ?_
      refine xq_if_eqB dX11_law_19 rfl ⟨fun h19 => ?_, fun h19 => ?_⟩
      · skip
        refine xq_ldc2 dX11_law_30 kc_RX11_474 ?_
        refine xq_lret dX11_law_33 rfl ?_
        exact ⟨_, _, ⟨rfl, (MoF.pF (A := (fun q => q = 83 ∨ q = 101 ∨ q = 102 ∨ (112 ≤ q ∧ q ≤ 118))) (F := (fun k => k = 0 ∨ k = 34 ∨ k = 48 ∨ k = 56)) (H := H) (H2 := H) (k := 0) MoF.rf (Or.inl rfl) (Or.inl rfl) (nI 0))⟩, rfl⟩
      · skip
        refine xq_aload_n dX11_law_22 rfl rfl ?_
        refine xq_iload_n dX11_law_23 rfl rfl ?_
        refine xq_callV1P clX11 gd_X11_isPerson dX11_law_24 ml_RX11_460 im_X11_isPerson se_X11_isPerson rfl (Fx.s83 hF) (by exact Nat.le_of_ble_eq_true rfl) (by decide) (m_isPerson hs) ?_
        refine xq_if_neB dX11_law_27 rfl ⟨fun h27 => ?_, fun h27 => ?_⟩
        · skip
          rw [hno] at h27; cases h27
        · skip
          refine xq_ldc2 dX11_law_30 kc_RX11_474 ?_
          refine xq_lret dX11_law_33 rfl ?_
          exact ⟨_, _, ⟨rfl, (MoF.pF (A := (fun q => q = 83 ∨ q = 101 ∨ q = 102 ∨ (112 ≤ q ∧ q ≤ 118))) (F := (fun k => k = 0 ∨ k = 34 ∨ k = 48 ∨ k = 56)) (H := H) (H2 := H) (k := 0) MoF.rf (Or.inl rfl) (Or.inl rfl) (nI 0))⟩, rfl⟩
theorem m_law0b (hm : MnP S H T N lf u) (hno : ¬ (ww = 0 ∨ ww = nI 1)) : Hv mX11_law 5 [.ref 83, .int ww, .int w2] S H vL (fun x H' => x = (zL MIN64) ∧ MoF (fun q => q = 83 ∨ q = 101 ∨ q = 102 ∨ (112 ≤ q ∧ q ≤ 118)) (fun k => k = 0 ∨ k = 34 ∨ k = 48 ∨ k = 56) H H') := by
  have hF := hm.ms.fx; have hm0 := hm.t0; have hs := hm0.ms; have hx := hs.mx; have hw := hs.mw; have tk := hs.tk; have tw := hs.tw; have hnp := tw.2.1; have hnc := tw.1; have hWn := nW_le tw; have ok := hm.ok; have hlr := hm.lr; have htr := hlr.2.1; have hnf8 := tk.nf; have hz := ok.n; have hrm := hm0.rm; have htt := hs.tt
  have l2 : ¬ ww < 0 → ¬ nI 1 < ww → (ww = 0 ∨ ww = nI 1) := fun h1 h2 => by
    rw [Int32.lt_iff_toInt_lt] at h1
    rw [Int32.lt_iff_toInt_lt, nI_toInt (by decide)] at h2
    have e0 : (0 : Int32).toInt = 0 := rfl
    rcases (by omega : ww.toInt = 0 ∨ ww.toInt = 1) with e | e
    · left; apply Int32.toInt_inj.mp; rw [e]; rfl
    · right; apply Int32.toInt_inj.mp; rw [e]; rfl
  · refine vq_intro (by decide) (by exact Nat.le_of_ble_eq_true rfl) rfl ?_
    refine xq_aload_n dX11_law_0 rfl rfl ?_
    refine xq_iconst dX11_law_1 ic0 ?_
    refine xq_putI clX11 (by decide) rfl fl_RX11_128 (Or.inl rfl) dX11_law_2 ⟨rfl, rfl⟩ (Fx.s83 hF) ?_
    refine xq_iload_n dX11_law_5 rfl rfl ?_
    refine xq_if_lt dX11_law_6 rfl ⟨fun h6 => ?_, fun h6 => ?_⟩
    · skip
      refine xq_ldc2 dX11_law_30 kc_RX11_474 ?_
      refine xq_lret dX11_law_33 rfl ?_
      exact ⟨_, _, ⟨rfl, (MoF.pF (A := (fun q => q = 83 ∨ q = 101 ∨ q = 102 ∨ (112 ≤ q ∧ q ≤ 118))) (F := (fun k => k = 0 ∨ k = 34 ∨ k = 48 ∨ k = 56)) (H := H) (H2 := H) (k := 0) MoF.rf (Or.inl rfl) (Or.inl rfl) (nI 0))⟩, rfl⟩
    · skip
      refine xq_iload_n dX11_law_9 rfl rfl ?_
      refine xq_iconst dX11_law_10 ic1 ?_
      refine xq_icmp_gt dX11_law_11 rfl ⟨fun h11 => ?_, fun h11 => ?_⟩
      · skip
        refine xq_ldc2 dX11_law_30 kc_RX11_474 ?_
        refine xq_lret dX11_law_33 rfl ?_
        exact ⟨_, _, ⟨rfl, (MoF.pF (A := (fun q => q = 83 ∨ q = 101 ∨ q = 102 ∨ (112 ≤ q ∧ q ≤ 118))) (F := (fun k => k = 0 ∨ k = 34 ∨ k = 48 ∨ k = 56)) (H := H) (H2 := H) (k := 0) MoF.rf (Or.inl rfl) (Or.inl rfl) (nI 0))⟩, rfl⟩
      · skip
        exact absurd (l2 h6 h11) hno
theorem m_parts (hm : MnP S H T N lf u) : Hv mX11_parts 5 [.ref 83] S H vN (fun x H' => x = (ct (fun r => cn u r == r) (uZ u)) ∧ MoF (fun q => q = 83 ∨ q = 101 ∨ q = 102 ∨ (112 ≤ q ∧ q ≤ 118)) (fun k => k = 0 ∨ k = 34 ∨ k = 48 ∨ k = 56) H H') := by
  have hF := hm.ms.fx; have hm0 := hm.t0; have hs := hm0.ms; have hx := hs.mx; have hw := hs.mw; have tk := hs.tk; have tw := hs.tw; have hnp := tw.2.1; have hnc := tw.1; have hWn := nW_le tw; have ok := hm.ok; have hlr := hm.lr; have htr := hlr.2.1; have hnf8 := tk.nf; have hz := ok.n; have hrm := hm0.rm; have htt := hs.tt
  refine vq_intro (by decide) (by exact Nat.le_of_ble_eq_true rfl) rfl ?_
  refine xq_aload_n dX11_parts_0 rfl rfl ?_
  refine xq_iconst dX11_parts_1 ic0 ?_
  refine xq_putI clX11 (by decide) rfl fl_RX11_128 (Or.inl rfl) dX11_parts_2 ⟨rfl, rfl⟩ (Fx.s83 hF) ?_
  refine xq_aload_n dX11_parts_5 rfl rfl ?_
  refine xq_iconst dX11_parts_6 ic0 ?_
  refine xq_callV1N clX11 gd_X11_lays dX11_parts_7 ml_RX11_428 im_X11_lays se_X11_lays rfl (Fx.s83 hF) (by exact Nat.le_of_ble_eq_true rfl) (by decide) (m_lays hs hrm hlr ok (by decide)) ?_
  intro H7 p7
  obtain ⟨hd, hl7⟩ := p7
  have hr1 := hd.rm; have hx1 := hd.ms.mx; have hw1 := hd.ms.mw; have hs1 := hd.ms
  obtain ⟨pf, pa1, pa2⟩ := hd.pa
  have lp : ∀ (fz : Nat) (m w : Nat), nW T - w < fz → w ≤ nW T → m = ct (fun v => lf v && pf v == v) w → Xq mX11_parts 5 0 0 14 [some (.ref 83), some (vN m), some (vN w)] [] S H7 (fun R => ∃ x H', (fun x H' => x = (ct (fun r => cn u r == r) (uZ u)) ∧ MoF (fun q => q = 83 ∨ q = 101 ∨ q = 102 ∨ (112 ≤ q ∧ q ≤ 118)) (fun k => k = 0 ∨ k = 34 ∨ k = 48 ∨ k = 56) H H') x H' ∧ R = (some (vN x), S, H')) := by
    intro fz
    induction fz with
    | zero => intro m w  hfz; exact absurd hfz (by omega)
    | succ fz ih =>
      intro m w  hfz hi hmm
      refine xq_iload_n dX11_parts_14 rfl rfl ?_
      refine xq_aload_n dX11_parts_15 rfl rfl ?_
      refine xq_getIE clX11 (by decide) rfl fl_RX11_335 dX11_parts_16 (Fx.s83 hF) hw1.ws ?_
      refine xq_icmp_geN dX11_parts_19 rfl (by omega) (by omega) ⟨fun h19 => ?_, fun h19 => ?_⟩
      · skip
        refine xq_iload_n dX11_parts_54 rfl rfl ?_
        refine xq_iret dX11_parts_55 rfl ?_
        refine ⟨m, H7, ⟨?_, ((MoF.pF (A := (fun q => q = 83 ∨ q = 101 ∨ q = 102 ∨ (112 ≤ q ∧ q ≤ 118))) (F := (fun k => k = 0 ∨ k = 34 ∨ k = 48 ∨ k = 56)) (H := H) (H2 := H) (k := 0) MoF.rf (Or.inl rfl) (Or.inl rfl) (nI 0)).tr (MoF.mo hl7 (fun q h => (by omega : q = 83 ∨ q = 101 ∨ q = 102 ∨ (112 ≤ q ∧ q ≤ 118))) (fun k h => (by omega : k = 0 ∨ k = 34 ∨ k = 48 ∨ k = 56))))⟩, rfl⟩
        rw [hmm, show w = nW T by omega, hlr.z]
        refine ct_rank (lf := lf) (f := fun r => cn u r == r) (fun v hv => ?_)
        cases hl : lf v
        · rfl
        · have h2 := (pa2 v hv).2 hl
          rw [Bool.true_and, Bool.true_and, Bool.eq_iff_iff, beq_iff_eq, beq_iff_eq, ← h2.2]
          exact ⟨fun e => by rw [e], fun e => ct_inj h2.1 hl e⟩
      · skip
        refine xq_iload_n dX11_parts_22 rfl rfl ?_
        refine xq_aload_n dX11_parts_23 rfl rfl ?_
        refine xq_iload_n dX11_parts_24 rfl rfl ?_
        refine xq_callV1P clX11 gd_X11_isHere dX11_parts_25 ml_RX11_362 im_X11_isHere se_X11_isHere rfl (Fx.s83 hF) (by exact Nat.le_of_ble_eq_true rfl) (by decide) (m_isHere hF hd.ro (by decide) (by omega) (hr1.lf w h19)) ?_
        refine xq_if_eqB dX11_parts_28 rfl ⟨fun h28 => ?_, fun h28 => ?_⟩
        · skip
          refine xq_iconst dX11_parts_45 ic0 ?_
          refine xq_iaddN dX11_parts_46 ?_
          refine xq_istore_n dX11_parts_47 rfl rfl ?_
          refine xq_iincN dX11_parts_48 ic1 rfl rfl ?_
          refine xq_goto dX11_parts_51 rfl ?_
          exact ih (m + 0) (w + 1) (by omega) (by omega) (by rw [ct_f (by simp [h28]), hmm]; rfl)
        · skip
          have hpl := (pa2 w h19).1
          refine xq_aload_n dX11_parts_31 rfl rfl ?_
          refine xq_getF clX11 (by decide) rfl fl_RX11_106 dX11_parts_32 (Fx.s83 hF) (Fx.r83_51 hF) ?_
          refine xq_iload_n dX11_parts_35 rfl rfl ?_
          refine xq_ialdN dX11_parts_36 (Fx.s114 hF) (by omega) (by decide) (pa1 w h19) ?_
          refine xq_iload_n dX11_parts_37 rfl rfl ?_
          refine xq_icmp_neN dX11_parts_38 rfl (by omega) (by omega) ⟨fun h38 => ?_, fun h38 => ?_⟩
          · skip
            refine xq_iconst dX11_parts_45 ic0 ?_
            refine xq_iaddN dX11_parts_46 ?_
            refine xq_istore_n dX11_parts_47 rfl rfl ?_
            refine xq_iincN dX11_parts_48 ic1 rfl rfl ?_
            refine xq_goto dX11_parts_51 rfl ?_
            exact ih (m + 0) (w + 1) (by omega) (by omega) (by rw [ct_f (by simp [h28, h38]), hmm]; rfl)
          · skip
            refine xq_iconst dX11_parts_41 ic1 ?_
            refine xq_goto dX11_parts_42 rfl ?_
            refine xq_iaddN dX11_parts_46 ?_
            refine xq_istore_n dX11_parts_47 rfl rfl ?_
            refine xq_iincN dX11_parts_48 ic1 rfl rfl ?_
            refine xq_goto dX11_parts_51 rfl ?_
            exact ih (m + 1) (w + 1) (by omega) (by omega) (by rw [ct_t (by simp [h28, h38]), hmm])
  refine xq_iconst dX11_parts_10 ic0 ?_
  refine xq_istore_n dX11_parts_11 rfl rfl ?_
  refine xq_iconst dX11_parts_12 ic0 ?_
  refine xq_istore_n dX11_parts_13 rfl rfl ?_
  exact lp (nW T + 1) 0 0 (by omega) (by omega) rfl
theorem m_secret0 (hm : MnP S H T N lf u) (hno : ¬ (hasB ww (tNp T) = true ∧ hasB w2 (tNp T) = true ∧ ww ≠ w2)) : Hv mX11_secret 5 [.ref 83, .int ww, .int w2] S H vZ (fun (x : Int) H' => x = (-1) ∧ MoF (fun q => q = 83 ∨ q = 101 ∨ q = 102 ∨ (112 ≤ q ∧ q ≤ 118)) (fun k => k = 0 ∨ k = 34 ∨ k = 48 ∨ k = 56) H H') := by
  have hF := hm.ms.fx; have hm0 := hm.t0; have hs := hm0.ms; have hx := hs.mx; have hw := hs.mw; have tk := hs.tk; have tw := hs.tw; have hnp := tw.2.1; have hnc := tw.1; have hWn := nW_le tw; have ok := hm.ok; have hlr := hm.lr; have htr := hlr.2.1; have hnf8 := tk.nf; have hz := ok.n; have hrm := hm0.rm; have htt := hs.tt
  refine vq_intro (by decide) (by exact Nat.le_of_ble_eq_true rfl) rfl ?_
  refine xq_aload_n dX11_secret_0 rfl rfl ?_
  refine xq_iconst dX11_secret_1 ic0 ?_
  refine xq_putI clX11 (by decide) rfl fl_RX11_128 (Or.inl rfl) dX11_secret_2 ⟨rfl, rfl⟩ (Fx.s83 hF) ?_
  refine xq_aload_n dX11_secret_5 rfl rfl ?_
  refine xq_iload_n dX11_secret_6 rfl rfl ?_
  refine xq_iload_n dX11_secret_7 rfl rfl ?_
  refine xq_callV2P clX11 gd_X11_areTwo dX11_secret_8 ml_RX11_506 im_X11_areTwo se_X11_areTwo rfl (Fx.s83 hF) (by exact Nat.le_of_ble_eq_true rfl) (by decide) (m_areTwo0 hs hno) ?_
  refine xq_if_neN dX11_secret_11 rfl (by omega) ⟨fun h11 => ?_, fun h11 => ?_⟩
  · skip
    first | exact absurd h11 (by decide) | exact absurd rfl h11
  · skip
    refine xq_iconst dX11_secret_14 icm1 ?_
    refine xq_iret dX11_secret_15 rfl ?_
    refine ⟨-1, _, ⟨rfl, (MoF.pF (A := (fun q => q = 83 ∨ q = 101 ∨ q = 102 ∨ (112 ≤ q ∧ q ≤ 118))) (F := (fun k => k = 0 ∨ k = 34 ∨ k = 48 ∨ k = 56)) (H := H) (H2 := H) (k := 0) MoF.rf (Or.inl rfl) (Or.inl rfl) (nI 0))⟩, ?_⟩
    rw [zm1]
theorem cfr_pop (h : uRl u < uZ u) (i j : Nat) : 1 ≤ pop (cfr u i j) := by
  have h0 : cfr u i j ≠ 0 := fun e => by
    have := (cfr_tb u i j (col (uW u (uRl u)) j)).mpr ⟨_, h, by simp [alk, ake], rfl⟩
    rw [e] at this; simp at this
  have : ∀ x : Fin 16, x.val ≠ 0 → 1 ≤ pop x.val := by decide +kernel
  exact this ⟨_, cfr_lt u i j⟩ h0
theorem m_secret1 (hm : MnP S H T N lf u) (hp : p < tNp T) (hq : q < tNp T) (hpq : p ≠ q) : Hv mX11_secret 5 [.ref 83, vN p, vN q] S H vN (fun x H' => x = ((!(kn u q p)).toNat) ∧ MoF (fun q => q = 83 ∨ q = 101 ∨ q = 102 ∨ (112 ≤ q ∧ q ≤ 118)) (fun k => k = 0 ∨ k = 34 ∨ k = 48 ∨ k = 56) H H') := by
  have hF := hm.ms.fx; have hm0 := hm.t0; have hs := hm0.ms; have hx := hs.mx; have hw := hs.mw; have tk := hs.tk; have tw := hs.tw; have hnp := tw.2.1; have hnc := tw.1; have hWn := nW_le tw; have ok := hm.ok; have hlr := hm.lr; have htr := hlr.2.1; have hnf8 := tk.nf; have hz := ok.n; have hrm := hm0.rm; have htt := hs.tt; have hpo := cfr_pop hlr.rn q p; have hpl := pop_le (cfr u q p); have hcl := cfr_lt u q p
  refine vq_intro (by decide) (by exact Nat.le_of_ble_eq_true rfl) rfl ?_
  refine xq_aload_n dX11_secret_0 rfl rfl ?_
  refine xq_iconst dX11_secret_1 ic0 ?_
  refine xq_putI clX11 (by decide) rfl fl_RX11_128 (Or.inl rfl) dX11_secret_2 ⟨rfl, rfl⟩ (Fx.s83 hF) ?_
  refine xq_aload_n dX11_secret_5 rfl rfl ?_
  refine xq_iload_n dX11_secret_6 rfl rfl ?_
  refine xq_iload_n dX11_secret_7 rfl rfl ?_
  refine xq_callV2P clX11 gd_X11_areTwo dX11_secret_8 ml_RX11_506 im_X11_areTwo se_X11_areTwo rfl (Fx.s83 hF) (by exact Nat.le_of_ble_eq_true rfl) (by decide) (m_areTwo1 hs hp hq hpq) ?_
  refine xq_if_neN dX11_secret_11 rfl (by omega) ⟨fun h11 => ?_, fun h11 => ?_⟩
  · skip
    refine xq_aload_n dX11_secret_16 rfl rfl ?_
    refine xq_iconst dX11_secret_17 ic0 ?_
    refine xq_callV1N clX11 gd_X11_lays dX11_secret_18 ml_RX11_428 im_X11_lays se_X11_lays rfl (Fx.s83 hF) (by exact Nat.le_of_ble_eq_true rfl) (by decide) (m_lays hs hrm hlr ok (by decide)) ?_
    intro H18 p18
    obtain ⟨hd, hl18⟩ := p18
    have hr1 := hd.rm; have hx1 := hd.ms.mx; have hw1 := hd.ms.mw; have hs1 := hd.ms
    refine xq_aload_n dX11_secret_21 rfl rfl ?_
    refine xq_iload_n dX11_secret_22 rfl rfl ?_
    refine xq_iload_n dX11_secret_23 rfl rfl ?_
    refine xq_callV2P clX11 gd_X11_coloursOf dX11_secret_24 ml_RX11_463 im_X11_coloursOf se_X11_coloursOf rfl (Fx.s83 hF) (by exact Nat.le_of_ble_eq_true rfl) (by decide) (m_coloursOf hd hq hp) ?_
    refine xq_callS1P gd_X11_bitsOf dX11_secret_27 ml_RX11_404 im_X11_bitsOf (by exact Nat.le_of_ble_eq_true rfl) (by decide) (m_bitsOf (by omega)) ?_
    refine xq_iconst dX11_secret_30 ic1 ?_
    refine xq_icmp_leN dX11_secret_31 rfl (by omega) (by omega) ⟨fun h31 => ?_, fun h31 => ?_⟩
    · skip
      refine xq_iconst dX11_secret_38 ic0 ?_
      refine xq_iret dX11_secret_39 rfl ?_
      exact ⟨_, H18, ⟨rfl, ((MoF.pF (A := (fun q => q = 83 ∨ q = 101 ∨ q = 102 ∨ (112 ≤ q ∧ q ≤ 118))) (F := (fun k => k = 0 ∨ k = 34 ∨ k = 48 ∨ k = 56)) (H := H) (H2 := H) (k := 0) MoF.rf (Or.inl rfl) (Or.inl rfl) (nI 0)).tr (MoF.mo hl18 (fun q h => (by omega : q = 83 ∨ q = 101 ∨ q = 102 ∨ (112 ≤ q ∧ q ≤ 118))) (fun k h => (by omega : k = 0 ∨ k = 34 ∨ k = 48 ∨ k = 56))))⟩, by rw [show kn u q p = true by unfold kn; simp; omega]; rfl⟩
    · skip
      refine xq_iconst dX11_secret_34 ic1 ?_
      refine xq_goto dX11_secret_35 rfl ?_
      refine xq_iret dX11_secret_39 rfl ?_
      exact ⟨_, H18, ⟨rfl, ((MoF.pF (A := (fun q => q = 83 ∨ q = 101 ∨ q = 102 ∨ (112 ≤ q ∧ q ≤ 118))) (F := (fun k => k = 0 ∨ k = 34 ∨ k = 48 ∨ k = 56)) (H := H) (H2 := H) (k := 0) MoF.rf (Or.inl rfl) (Or.inl rfl) (nI 0)).tr (MoF.mo hl18 (fun q h => (by omega : q = 83 ∨ q = 101 ∨ q = 102 ∨ (112 ≤ q ∧ q ≤ 118))) (fun k h => (by omega : k = 0 ∨ k = 34 ∨ k = 48 ∨ k = 56))))⟩, by rw [show kn u q p = false by unfold kn; simp; omega]; rfl⟩
  · skip
    first | exact absurd h11 (by decide) | exact absurd rfl h11
theorem m_likely0 (hm : MnP S H T N lf u) (hno : ¬ (hasB ww (tNf T) = true ∧ ¬ w2 < 0 ∧ w2 ≤ nI 1)) : Hv mX11_likely 5 [.ref 83, .int ww, .int w2] S H vZ (fun (x : Int) H' => x = (-1) ∧ MoF (fun q => q = 83 ∨ q = 101 ∨ q = 102 ∨ (112 ≤ q ∧ q ≤ 118)) (fun k => k = 0 ∨ k = 34 ∨ k = 48 ∨ k = 56) H H') := by
  have hF := hm.ms.fx; have hm0 := hm.t0; have hs := hm0.ms; have hx := hs.mx; have hw := hs.mw; have tk := hs.tk; have tw := hs.tw; have hnp := tw.2.1; have hnc := tw.1; have hWn := nW_le tw; have ok := hm.ok; have hlr := hm.lr; have htr := hlr.2.1; have hnf8 := tk.nf; have hz := ok.n; have hrm := hm0.rm; have htt := hs.tt
  refine vq_intro (by decide) (by exact Nat.le_of_ble_eq_true rfl) rfl ?_
  refine xq_aload_n dX11_likely_0 rfl rfl ?_
  refine xq_iconst dX11_likely_1 ic0 ?_
  refine xq_putI clX11 (by decide) rfl fl_RX11_128 (Or.inl rfl) dX11_likely_2 ⟨rfl, rfl⟩ (Fx.s83 hF) ?_
  refine xq_aload_n dX11_likely_5 rfl rfl ?_
  refine xq_iload_n dX11_likely_6 rfl rfl ?_
  refine xq_callV1P clX11 gd_X11_isFact dX11_likely_7 ml_RX11_466 im_X11_isFact se_X11_isFact rfl (Fx.s83 hF) (by exact Nat.le_of_ble_eq_true rfl) (by decide) (m_isFact hs) ?_
  refine xq_if_eqB dX11_likely_10 rfl ⟨fun h10 => ?_, fun h10 => ?_⟩
  · skip
    refine xq_iconst dX11_likely_22 icm1 ?_
    refine xq_iret dX11_likely_23 rfl ?_
    refine ⟨-1, _, ⟨rfl, (MoF.pF (A := (fun q => q = 83 ∨ q = 101 ∨ q = 102 ∨ (112 ≤ q ∧ q ≤ 118))) (F := (fun k => k = 0 ∨ k = 34 ∨ k = 48 ∨ k = 56)) (H := H) (H2 := H) (k := 0) MoF.rf (Or.inl rfl) (Or.inl rfl) (nI 0))⟩, ?_⟩
    rw [zm1]
  · skip
    refine xq_iload_n dX11_likely_13 rfl rfl ?_
    refine xq_if_lt dX11_likely_14 rfl ⟨fun h14 => ?_, fun h14 => ?_⟩
    · skip
      refine xq_iconst dX11_likely_22 icm1 ?_
      refine xq_iret dX11_likely_23 rfl ?_
      refine ⟨-1, _, ⟨rfl, (MoF.pF (A := (fun q => q = 83 ∨ q = 101 ∨ q = 102 ∨ (112 ≤ q ∧ q ≤ 118))) (F := (fun k => k = 0 ∨ k = 34 ∨ k = 48 ∨ k = 56)) (H := H) (H2 := H) (k := 0) MoF.rf (Or.inl rfl) (Or.inl rfl) (nI 0))⟩, ?_⟩
      rw [zm1]
    · skip
      refine xq_iload_n dX11_likely_17 rfl rfl ?_
      refine xq_iconst dX11_likely_18 ic1 ?_
      refine xq_icmp_le dX11_likely_19 rfl ⟨fun h19 => ?_, fun h19 => ?_⟩
      · skip
        exact absurd ⟨h10, h14, h19⟩ hno
      · skip
        refine xq_iconst dX11_likely_22 icm1 ?_
        refine xq_iret dX11_likely_23 rfl ?_
        refine ⟨-1, _, ⟨rfl, (MoF.pF (A := (fun q => q = 83 ∨ q = 101 ∨ q = 102 ∨ (112 ≤ q ∧ q ≤ 118))) (F := (fun k => k = 0 ∨ k = 34 ∨ k = 48 ∨ k = 56)) (H := H) (H2 := H) (k := 0) MoF.rf (Or.inl rfl) (Or.inl rfl) (nI 0))⟩, ?_⟩
        rw [zm1]
theorem m_likely1 (hm : MnP S H T N lf u) (hf : f < tNf T) (hl : l < 2) : Hv mX11_likely 5 [.ref 83, vN f, vN l] S H vN (fun x H' => x = (ltm (if l = 0 then soV T u f else uZ u) (soV T u f) (uZ u)) ∧ MoF (fun q => q = 83 ∨ q = 101 ∨ q = 102 ∨ (112 ≤ q ∧ q ≤ 118)) (fun k => k = 0 ∨ k = 34 ∨ k = 48 ∨ k = 56) H H') := by
  have hF := hm.ms.fx; have hm0 := hm.t0; have hs := hm0.ms; have hx := hs.mx; have hw := hs.mw; have tk := hs.tk; have tw := hs.tw; have hnp := tw.2.1; have hnc := tw.1; have hWn := nW_le tw; have ok := hm.ok; have hlr := hm.lr; have htr := hlr.2.1; have hnf8 := tk.nf; have hz := ok.n; have hrm := hm0.rm; have htt := hs.tt
  refine vq_intro (by decide) (by exact Nat.le_of_ble_eq_true rfl) rfl ?_
  refine xq_aload_n dX11_likely_0 rfl rfl ?_
  refine xq_iconst dX11_likely_1 ic0 ?_
  refine xq_putI clX11 (by decide) rfl fl_RX11_128 (Or.inl rfl) dX11_likely_2 ⟨rfl, rfl⟩ (Fx.s83 hF) ?_
  refine xq_aload_n dX11_likely_5 rfl rfl ?_
  refine xq_iload_n dX11_likely_6 rfl rfl ?_
  refine xq_callV1P clX11 gd_X11_isFact dX11_likely_7 ml_RX11_466 im_X11_isFact se_X11_isFact rfl (Fx.s83 hF) (by exact Nat.le_of_ble_eq_true rfl) (by decide) (m_isFact1 hs hf) ?_
  refine xq_if_eqN dX11_likely_10 rfl (by omega) ⟨fun h10 => ?_, fun h10 => ?_⟩
  · skip
    first | exact absurd h10 (by decide) | exact absurd rfl h10
  · skip
    refine xq_iload_n dX11_likely_13 rfl rfl ?_
    refine xq_if_ltN dX11_likely_14 rfl (by omega) ?_
    refine xq_iload_n dX11_likely_17 rfl rfl ?_
    refine xq_iconst dX11_likely_18 ic1 ?_
    refine xq_icmp_leN dX11_likely_19 rfl (by omega) (by omega) ⟨fun h19 => ?_, fun h19 => ?_⟩
    · skip
      refine xq_aload_n dX11_likely_24 rfl rfl ?_
      refine xq_iconst dX11_likely_25 ic0 ?_
      refine xq_callV1N clX11 gd_X11_lays dX11_likely_26 ml_RX11_428 im_X11_lays se_X11_lays rfl (Fx.s83 hF) (by exact Nat.le_of_ble_eq_true rfl) (by decide) (m_lays hs hrm hlr ok (by decide)) ?_
      intro H26 p26
      obtain ⟨hd, hl26⟩ := p26
      have hr1 := hd.rm; have hx1 := hd.ms.mx; have hw1 := hd.ms.mw; have hs1 := hd.ms
      have lp : ∀ (fz : Nat) (m w : Nat), nW T - w < fz → w ≤ nW T → m = ct (fun v => lf v && kv T u (tRo T f) (ct lf v)) w → Xq mX11_likely 5 0 0 34 [some (.ref 83), some (vN f), some (vN l), some (vN m), some (vN w), none] [] S H26 (fun R => ∃ x H', (fun x H' => x = (ltm (if l = 0 then soV T u f else uZ u) (soV T u f) (uZ u)) ∧ MoF (fun q => q = 83 ∨ q = 101 ∨ q = 102 ∨ (112 ≤ q ∧ q ≤ 118)) (fun k => k = 0 ∨ k = 34 ∨ k = 48 ∨ k = 56) H H') x H' ∧ R = (some (vN x), S, H')) := by
        intro fz
        induction fz with
        | zero => intro m w  hfz; exact absurd hfz (by omega)
        | succ fz ih =>
          intro m w  hfz hi hmm
          refine xq_iload dX11_likely_34 rfl ?_
          refine xq_aload_n dX11_likely_36 rfl rfl ?_
          refine xq_getIE clX11 (by decide) rfl fl_RX11_335 dX11_likely_37 (Fx.s83 hF) hw1.ws ?_
          refine xq_icmp_geN dX11_likely_40 rfl (by omega) (by omega) ⟨fun h40 => ?_, fun h40 => ?_⟩
          · skip
            have ew : w = nW T := by omega
            have hms : m = soV T u f := by
              rw [hmm, ew]
              unfold soV
              rw [hlr.z]
              exact ct_rank (lf := lf) (f := fun r => kv T u (tRo T f) r) (fun v hv => rfl)
            have hcz := hlr.z
            have hm7 := ct_le (fun r => kv T u (tRo T f) r) (uZ u)
            have hms7 : m ≤ 729 := by rw [hms]; unfold soV; omega
            have hrn := hlr.rn
            have hct7 : ct lf (nW T) ≤ 729 := by omega
            have hgp : 0 < Nat.gcd m (ct lf (nW T)) := Nat.gcd_pos_of_pos_right _ (by omega)
            have hgl : Nat.gcd m (ct lf (nW T)) ≤ ct lf (nW T) := Nat.gcd_le_right _ (by omega)
            refine xq_aload_n dX11_likely_82 rfl rfl ?_
            refine xq_iconst dX11_likely_83 ic0 ?_
            refine xq_callV1P clX11 gd_X11_leftMany dX11_likely_84 ml_RX11_401 im_X11_leftMany se_X11_leftMany rfl (Fx.s83 hF) (by exact Nat.le_of_ble_eq_true rfl) (by decide) (m_leftMany hs1 hr1 (by decide)) ?_
            refine xq_istore dX11_likely_87 rfl ?_
            refine xq_iload_n dX11_likely_89 rfl rfl ?_
            refine xq_iload dX11_likely_90 rfl ?_
            refine xq_callS2P gd_X11_shared dX11_likely_92 ml_RX11_503 im_X11_shared (by exact Nat.le_of_ble_eq_true rfl) (by decide) (m_shared (by omega) (by omega)) ?_
            refine xq_istore dX11_likely_95 rfl ?_
            refine xq_iload_n dX11_likely_97 rfl rfl ?_
            refine xq_if_neN dX11_likely_98 rfl (by omega) ⟨fun h98 => ?_, fun h98 => ?_⟩
            · skip
              refine xq_iload dX11_likely_108 rfl ?_
              refine xq_iload dX11_likely_110 rfl ?_
              refine xq_idivN dX11_likely_112 (by omega) (by omega) (fun e => absurd ((nq_eq0 (by omega)).mp e) (by omega)) ?_
              refine xq_iret dX11_likely_113 rfl ?_
              refine ⟨_, H26, ⟨rfl, ((MoF.pF (A := (fun q => q = 83 ∨ q = 101 ∨ q = 102 ∨ (112 ≤ q ∧ q ≤ 118))) (F := (fun k => k = 0 ∨ k = 34 ∨ k = 48 ∨ k = 56)) (H := H) (H2 := H) (k := 0) MoF.rf (Or.inl rfl) (Or.inl rfl) (nI 0)).tr (MoF.mo hl26 (fun q h => (by omega : q = 83 ∨ q = 101 ∨ q = 102 ∨ (112 ≤ q ∧ q ≤ 118))) (fun k h => (by omega : k = 0 ∨ k = 34 ∨ k = 48 ∨ k = 56))))⟩, ?_⟩
              rw [if_neg h98, ← hms, hcz]
              unfold ltm
              rw [if_pos hgp]
            · skip
              refine xq_iload_n dX11_likely_101 rfl rfl ?_
              refine xq_iload dX11_likely_102 rfl ?_
              refine xq_idivN dX11_likely_104 (by omega) (by omega) (fun e => absurd ((nq_eq0 (by omega)).mp e) (by omega)) ?_
              refine xq_goto dX11_likely_105 rfl ?_
              refine xq_iret dX11_likely_113 rfl ?_
              refine ⟨_, H26, ⟨rfl, ((MoF.pF (A := (fun q => q = 83 ∨ q = 101 ∨ q = 102 ∨ (112 ≤ q ∧ q ≤ 118))) (F := (fun k => k = 0 ∨ k = 34 ∨ k = 48 ∨ k = 56)) (H := H) (H2 := H) (k := 0) MoF.rf (Or.inl rfl) (Or.inl rfl) (nI 0)).tr (MoF.mo hl26 (fun q h => (by omega : q = 83 ∨ q = 101 ∨ q = 102 ∨ (112 ≤ q ∧ q ≤ 118))) (fun k h => (by omega : k = 0 ∨ k = 34 ∨ k = 48 ∨ k = 56))))⟩, ?_⟩
              rw [if_pos h98, ← hms, hcz]
              unfold ltm
              rw [if_pos hgp]
          · skip
            refine xq_iload_n dX11_likely_43 rfl rfl ?_
            refine xq_aload_n dX11_likely_44 rfl rfl ?_
            refine xq_iload dX11_likely_45 rfl ?_
            refine xq_callV1P clX11 gd_X11_isHere dX11_likely_47 ml_RX11_362 im_X11_isHere se_X11_isHere rfl (Fx.s83 hF) (by exact Nat.le_of_ble_eq_true rfl) (by decide) (m_isHere hF hd.ro (by decide) (by omega) (hr1.lf w h40)) ?_
            refine xq_if_eqB dX11_likely_50 rfl ⟨fun h50 => ?_, fun h50 => ?_⟩
            · skip
              refine xq_iconst dX11_likely_73 ic0 ?_
              refine xq_iaddN dX11_likely_74 ?_
              refine xq_istore_n dX11_likely_75 rfl rfl ?_
              refine xq_iincN dX11_likely_76 ic1 rfl rfl ?_
              refine xq_goto dX11_likely_79 rfl ?_
              exact xq_fgt (ih (m + 0) (w + 1) (by omega) (by omega) (by rw [ct_f (by simp [h50]), hmm]; rfl)) (by exact And.intro rfl (And.intro rfl (And.intro rfl (And.intro rfl (And.intro rfl (trivial))))))
            · skip
              have hso := hd.so1 hf h40 (by simpa using h50)
              refine xq_aload_n dX11_likely_53 rfl rfl ?_
              refine xq_getF clX11 (by decide) rfl fl_RX11_115 dX11_likely_54 (Fx.s83 hF) (Fx.r83_54 hF) ?_
              refine xq_sipush dX11_likely_57 sp729 ?_
              refine xq_iload_n dX11_likely_60 rfl rfl ?_
              refine xq_imulN dX11_likely_61 ?_
              refine xq_iload dX11_likely_62 rfl ?_
              refine xq_iaddN dX11_likely_64 ?_
              refine xq_zaldN dX11_likely_65 (Fx.s117 hF) (by omega) (by decide) hso ?_
              refine xq_if_eqB dX11_likely_66 rfl ⟨fun h66 => ?_, fun h66 => ?_⟩
              · skip
                refine xq_iconst dX11_likely_73 ic0 ?_
                refine xq_iaddN dX11_likely_74 ?_
                refine xq_istore_n dX11_likely_75 rfl rfl ?_
                refine xq_iincN dX11_likely_76 ic1 rfl rfl ?_
                refine xq_goto dX11_likely_79 rfl ?_
                exact xq_fgt (ih (m + 0) (w + 1) (by omega) (by omega) (by rw [ct_f (by simp [h50, h66]), hmm]; rfl)) (by exact And.intro rfl (And.intro rfl (And.intro rfl (And.intro rfl (And.intro rfl (trivial))))))
              · skip
                refine xq_iconst dX11_likely_69 ic1 ?_
                refine xq_goto dX11_likely_70 rfl ?_
                refine xq_iaddN dX11_likely_74 ?_
                refine xq_istore_n dX11_likely_75 rfl rfl ?_
                refine xq_iincN dX11_likely_76 ic1 rfl rfl ?_
                refine xq_goto dX11_likely_79 rfl ?_
                exact xq_fgt (ih (m + 1) (w + 1) (by omega) (by omega) (by rw [ct_t (by simp [h50, h66]), hmm])) (by exact And.intro rfl (And.intro rfl (And.intro rfl (And.intro rfl (And.intro rfl (trivial))))))
      refine xq_iconst dX11_likely_29 ic0 ?_
      refine xq_istore_n dX11_likely_30 rfl rfl ?_
      refine xq_iconst dX11_likely_31 ic0 ?_
      refine xq_istore dX11_likely_32 rfl ?_
      exact xq_fgt (lp (nW T + 1) 0 0 (by omega) (by omega) rfl) (by exact And.intro rfl (And.intro rfl (And.intro rfl (And.intro rfl (And.intro rfl (trivial))))))
    · skip
      exact absurd h19 (by omega)
end CB
