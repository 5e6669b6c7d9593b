/-! ===== the reference: laws worked out ===== -/
section SU
variable {S : xS} {H H1 H2 H3 : xH} {T : uTx} {N : Nat → Nat → Nat} {s a b c w v p q n i j k x y m l f : Nat} {lf : Nat → Bool} {u : uSt} {A F : Nat → Prop} {za zb : Int} {nm : Nat → Nat}
theorem MoF.pL (h : MoF A F H H2) {a : Nat} (ha : A a) (k : Nat) (x : Int64) : MoF A F H (sL H2 a k x) := ⟨h.1.pL ha k x, fun j hj => h.2 j hj⟩
theorem LdP.off2 (h : LdP S H T N lf u s) (ho : MoF A F H H2) (h0 : ∀ q, 85 ≤ q → q ≤ 117 → q ≠ 101 → q ≠ 102 → q ≠ 115 → q ≠ 116 → ¬ A q) (h1 : ¬ F 36) (h2 : ¬ F 37) (h3 : ¬ F 48) : LdP S H2 T N lf u s := by
  refine ⟨h.ms.off ho (fun q a b => h0 q a (by omega) (by omega) (by omega) (by omega) (by omega)) (h0 103 (by decide) (by decide) (by decide) (by decide) (by decide) (by decide)) h1 h2, h.rm.off ho.1 (fun q a b => h0 q (by omega) (by omega) (by omega) (by omega) (by omega) (by omega)), h.lr, h.ok, h.s23, (ho.2 48 h3).trans h.ro, fun p hp w hw => (ho.1.I (h0 112 (by decide) (by decide) (by decide) (by decide) (by decide) (by decide)) _).trans (h.si p hp w hw), fun p hp w hw => (ho.1.I (h0 113 (by decide) (by decide) (by decide) (by decide) (by decide) (by decide)) _).trans (h.kn p hp w hw), ?_, h.jc, fun f hf => ?_⟩
  · obtain ⟨pf, a, b⟩ := h.pa
    exact ⟨pf, fun w hw => (ho.1.I (h0 114 (by decide) (by decide) (by decide) (by decide) (by decide) (by decide)) _).trans (a w hw), b⟩
  · obtain ⟨Rw, a, b⟩ := h.so f hf
    exact ⟨Rw, fun w hw => (ho.1.I (h0 117 (by decide) (by decide) (by decide) (by decide) (by decide) (by decide)) _).trans (a w hw), b⟩
theorem LdP.off (h : LdP S H T N lf u s) (ho : MoF A F H H2) (h0 : ∀ q, 85 ≤ q → q ≤ 118 → q ≠ 101 → q ≠ 102 → ¬ A q) (h1 : ¬ F 36) (h2 : ¬ F 37) (h3 : ¬ F 48) : LdP S H2 T N lf u s := h.off2 ho (fun q a b c d _ _ => h0 q a (by omega) c d) h1 h2 h3
theorem m_oneIf0  : Pv mX11_oneIf 0 [vN 0] S H (.long (lN 0)) := by
  refine vq_ev (vq_intro (by decide) (by exact Nat.le_of_ble_eq_true rfl) rfl ?_)
  refine xq_iload_n dX11_oneIf_0 rfl rfl ?_
  refine xq_if_eqN dX11_oneIf_1 rfl (by omega) ⟨fun h1 => ?_, fun h1 => ?_⟩
  · skip
    refine xq_lconst dX11_oneIf_8 lc0 ?_
    refine xq_lret dX11_oneIf_9 rfl ?_
    rfl
  · skip
    exact absurd rfl h1
theorem m_oneIf1  : Pv mX11_oneIf 0 [vN 1] S H (.long (lN 1)) := by
  refine vq_ev (vq_intro (by decide) (by exact Nat.le_of_ble_eq_true rfl) rfl ?_)
  refine xq_iload_n dX11_oneIf_0 rfl rfl ?_
  refine xq_if_eqN dX11_oneIf_1 rfl (by omega) ⟨fun h1 => ?_, fun h1 => ?_⟩
  · skip
    exact absurd h1 (by decide)
  · skip
    refine xq_lconst dX11_oneIf_4 lc1 ?_
    refine xq_goto dX11_oneIf_5 rfl ?_
    refine xq_lret dX11_oneIf_9 rfl ?_
    rfl
theorem m_works_11 (hF : gFx S) (hm : hI H 83 34 = nI (m + 2)) (hm6 : m + 2 ≤ 64) (ha : hL H 102 m = zL za) (hb : hL H 102 (m + 1) = zL zb) (hza : -1000000000000 ≤ za ∧ za ≤ 1000000000000) (hzb : -1000000000000 ≤ zb ∧ zb ≤ 1000000000000) : Hv mX11_works 1 [.ref 83, vN 262] S H vB (fun x H' => x = inR (wkz 11 za zb) ∧ (x = true → hI H' 83 34 = nI (m + 1) ∧ hL H' 102 m = zL (wkz 11 za zb)) ∧ (∀ j, j < m → hL H' 102 j = hL H 102 j) ∧ MoF (fun q => q = 83 ∨ q = 102) (fun k => k = 34) H H') := by
  have hca : inB za := ⟨by omega, by omega⟩; have hda : inB zb := ⟨by omega, by omega⟩
  have z0 : inB 0 := ⟨by decide, by decide⟩
  have c0 : zL za = lN 0 ↔ za = 0 := zL_eq hca z0
  have d0 : zL zb = lN 0 ↔ zb = 0 := zL_eq hda z0
  have hwin := wkz_in hza hzb 11
  refine vq_intro (by decide) (by exact Nat.le_of_ble_eq_true rfl) rfl ?_
  refine xq_aload_n dX11_works_0 rfl rfl ?_
  refine xq_getF clX11 (by decide) rfl fl_RX11_69 dX11_works_1 (Fx.s83 hF) (Fx.r83_33 hF) ?_
  refine xq_aload_n dX11_works_4 rfl rfl ?_
  refine xq_getIE clX11 (by decide) rfl fl_RX11_315 dX11_works_5 (Fx.s83 hF) hm ?_
  refine xq_iconst dX11_works_8 ic1 ?_
  skip
  refine xq_isubN dX11_works_9 (by omega) ?_
  rw [show m + 2 - 1 = m + 1 from rfl]
  refine xq_laldN (v := zL zb) dX11_works_10 (Fx.s102 hF) (by omega) (by decide) hb ?_
  refine xq_lstore_nX dX11_works_11 rfl rfl rfl ?_
  refine xq_iload_n dX11_works_12 rfl rfl ?_
  refine xq_sipush dX11_works_13 sp260 ?_
  refine xq_icmp_neN dX11_works_16 rfl (by omega) (by omega) ⟨fun h16 => ?_, fun h16 => ?_⟩
  · skip
    refine xq_aload_n dX11_works_46 rfl rfl ?_
    refine xq_getF clX11 (by decide) rfl fl_RX11_69 dX11_works_47 (Fx.s83 hF) (Fx.r83_33 hF) ?_
    refine xq_aload_n dX11_works_50 rfl rfl ?_
    refine xq_getIE clX11 (by decide) rfl fl_RX11_315 dX11_works_51 (Fx.s83 hF) hm ?_
    refine xq_iconst dX11_works_54 ic2 ?_
    refine xq_isubN dX11_works_55 (by omega) ?_
    rw [show m + 2 - 2 = m from rfl]
    refine xq_laldN (v := zL za) dX11_works_56 (Fx.s102 hF) (by omega) (by decide) ha ?_
    refine xq_lstoreX dX11_works_57 rfl rfl ?_
    refine xq_aload_n dX11_works_59 rfl rfl ?_
    refine xq_dup dX11_works_60 rfl ?_
    refine xq_getIE clX11 (by decide) rfl fl_RX11_315 dX11_works_61 (Fx.s83 hF) hm ?_
    refine xq_iconst dX11_works_64 ic1 ?_
    refine xq_isubN dX11_works_65 (by omega) ?_
    rw [show m + 2 - 1 = m + 1 from rfl]
    refine xq_putI clX11 (by decide) rfl fl_RX11_315 (Or.inl rfl) dX11_works_66 ⟨rfl, rfl⟩ (Fx.s83 hF) ?_
    refine xq_iload_n dX11_works_69 rfl rfl ?_
    refine xq_lookup dX11_works_70 rfl rfl rfl ?_
    refine xq_lload dX11_works_384 rfl ?_
    refine xq_lconst dX11_works_386 lc0 ?_
    refine xq_lcmp dX11_works_387 ?_
    refine xq_if_ne dX11_works_388 rfl ⟨fun h388 => ?_, fun h388 => ?_⟩
    · skip
      refine xq_iconst dX11_works_397 ic1 ?_
      refine xq_goto dX11_works_398 rfl ?_
      refine xq_callS1P gd_X11_oneIf dX11_works_402 ml_RX11_318 im_X11_oneIf (by exact Nat.le_of_ble_eq_true rfl) (by decide) m_oneIf1 ?_
      refine xq_lstoreX dX11_works_405 rfl rfl ?_
      rw [lg_cmp_eq] at h388; rw [c0] at h388
      have ew : wkz 11 za zb = 1 := (b2z_1 (by omega) : b2z (za ≠ 0 ∨ zb ≠ 0) = 1)
      rw [show lN 1 = zL (wkz 11 za zb) by rw [ew]; rfl]
      refine xq_aload_n dX11_works_407 rfl rfl ?_
      refine xq_getF clX11 (by decide) rfl fl_RX11_69 dX11_works_408 (Fx.s83 hF) (Fx.r83_33 hF) ?_
      refine xq_aload_n dX11_works_411 rfl rfl ?_
      refine xq_getIE (v := nI (m + 1)) clX11 (by decide) rfl fl_RX11_315 dX11_works_412 (Fx.s83 hF) (by rw [hI_sI]; exact if_pos ⟨rfl, rfl⟩) ?_
      refine xq_iconst dX11_works_415 ic1 ?_
      refine xq_isubN dX11_works_416 (by omega) ?_
      rw [show m + 1 - 1 = m from rfl]
      refine xq_lload dX11_works_417 rfl ?_
      refine xq_lastN dX11_works_419 (Fx.s102 hF) (by omega) (by decide) ?_
      refine xq_lload dX11_works_420 rfl ?_
      refine xq_ldc2 (v := lN 1000000000000) dX11_works_422 kc_RX11_328 ?_
      refine xq_lcmp dX11_works_425 ?_
      refine xq_if_gt dX11_works_426 rfl ⟨fun h426 => ?_, fun h426 => ?_⟩
      · skip
        refine xq_iconst dX11_works_442 ic0 ?_
        refine xq_zret dX11_works_443 rfl (by decide) ?_
        rw [lg_cmp_gt, show (lN 1000000000000) = zL 1000000000000 from rfl, zL_lt ⟨by omega, by omega⟩ hwin] at h426
        refine ⟨false, _, ⟨?_, fun _ => ⟨by rw [hI_sL, hI_sI, if_pos ⟨rfl, rfl⟩], by rw [hL_sL, if_pos ⟨rfl, rfl⟩]⟩, fun j hj => by rw [hL_sL, if_neg (by omega)]; rfl, MoF.pL (MoF.pF (A := (fun q => q = 83 ∨ q = 102)) (F := (fun k => k = 34)) MoF.rf (Or.inl rfl) rfl _) (Or.inr rfl) _ _⟩, rfl⟩
        unfold inR
        rw [decide_eq_false (by omega)]
      · skip
        refine xq_lload dX11_works_429 rfl ?_
        refine xq_ldc2 dX11_works_431 kc_RX11_330 ?_
        refine xq_lcmp dX11_works_434 ?_
        refine xq_if_lt dX11_works_435 rfl ⟨fun h435 => ?_, fun h435 => ?_⟩
        · skip
          refine xq_iconst dX11_works_442 ic0 ?_
          refine xq_zret dX11_works_443 rfl (by decide) ?_
          rw [lg_cmp_gt, show (lN 1000000000000) = zL 1000000000000 from rfl, zL_lt ⟨by omega, by omega⟩ hwin] at h426
          rw [lg_cmp_lt, show (-1000000000000 : Int64) = zL (-1000000000000) by decide, zL_lt hwin ⟨by omega, by omega⟩] at h435
          refine ⟨false, _, ⟨?_, fun _ => ⟨by rw [hI_sL, hI_sI, if_pos ⟨rfl, rfl⟩], by rw [hL_sL, if_pos ⟨rfl, rfl⟩]⟩, fun j hj => by rw [hL_sL, if_neg (by omega)]; rfl, MoF.pL (MoF.pF (A := (fun q => q = 83 ∨ q = 102)) (F := (fun k => k = 34)) MoF.rf (Or.inl rfl) rfl _) (Or.inr rfl) _ _⟩, rfl⟩
          unfold inR
          rw [decide_eq_false (by omega)]
        · skip
          refine xq_iconst dX11_works_438 ic1 ?_
          refine xq_goto dX11_works_439 rfl ?_
          refine xq_zret dX11_works_443 rfl (by decide) ?_
          rw [lg_cmp_gt, show (lN 1000000000000) = zL 1000000000000 from rfl, zL_lt ⟨by omega, by omega⟩ hwin] at h426
          rw [lg_cmp_lt, show (-1000000000000 : Int64) = zL (-1000000000000) by decide, zL_lt hwin ⟨by omega, by omega⟩] at h435
          refine ⟨true, _, ⟨?_, fun _ => ⟨by rw [hI_sL, hI_sI, if_pos ⟨rfl, rfl⟩], by rw [hL_sL, if_pos ⟨rfl, rfl⟩]⟩, fun j hj => by rw [hL_sL, if_neg (by omega)]; rfl, MoF.pL (MoF.pF (A := (fun q => q = 83 ∨ q = 102)) (F := (fun k => k = 34)) MoF.rf (Or.inl rfl) rfl _) (Or.inr rfl) _ _⟩, rfl⟩
          unfold inR
          rw [decide_eq_true (by omega)]
    · skip
      refine xq_lload_n dX11_works_391 rfl rfl ?_
      refine xq_lconst dX11_works_392 lc0 ?_
      refine xq_lcmp dX11_works_393 ?_
      refine xq_if_eq dX11_works_394 rfl ⟨fun h394 => ?_, fun h394 => ?_⟩
      · skip
        refine xq_iconst dX11_works_401 ic0 ?_
        refine xq_callS1P gd_X11_oneIf dX11_works_402 ml_RX11_318 im_X11_oneIf (by exact Nat.le_of_ble_eq_true rfl) (by decide) m_oneIf0 ?_
        refine xq_lstoreX dX11_works_405 rfl rfl ?_
        rw [lg_cmp_eq] at h388; rw [c0] at h388
        rw [lg_cmp_eq] at h394; rw [d0] at h394
        have ew : wkz 11 za zb = 0 := (b2z_0 (by omega) : b2z (za ≠ 0 ∨ zb ≠ 0) = 0)
        rw [show lN 0 = zL (wkz 11 za zb) by rw [ew]; rfl]
        refine xq_aload_n dX11_works_407 rfl rfl ?_
        refine xq_getF clX11 (by decide) rfl fl_RX11_69 dX11_works_408 (Fx.s83 hF) (Fx.r83_33 hF) ?_
        refine xq_aload_n dX11_works_411 rfl rfl ?_
        refine xq_getIE (v := nI (m + 1)) clX11 (by decide) rfl fl_RX11_315 dX11_works_412 (Fx.s83 hF) (by rw [hI_sI]; exact if_pos ⟨rfl, rfl⟩) ?_
        refine xq_iconst dX11_works_415 ic1 ?_
        refine xq_isubN dX11_works_416 (by omega) ?_
        rw [show m + 1 - 1 = m from rfl]
        refine xq_lload dX11_works_417 rfl ?_
        refine xq_lastN dX11_works_419 (Fx.s102 hF) (by omega) (by decide) ?_
        refine xq_lload dX11_works_420 rfl ?_
        refine xq_ldc2 (v := lN 1000000000000) dX11_works_422 kc_RX11_328 ?_
        refine xq_lcmp dX11_works_425 ?_
        refine xq_if_gt dX11_works_426 rfl ⟨fun h426 => ?_, fun h426 => ?_⟩
        · skip
          refine xq_iconst dX11_works_442 ic0 ?_
          refine xq_zret dX11_works_443 rfl (by decide) ?_
          rw [lg_cmp_gt, show (lN 1000000000000) = zL 1000000000000 from rfl, zL_lt ⟨by omega, by omega⟩ hwin] at h426
          refine ⟨false, _, ⟨?_, fun _ => ⟨by rw [hI_sL, hI_sI, if_pos ⟨rfl, rfl⟩], by rw [hL_sL, if_pos ⟨rfl, rfl⟩]⟩, fun j hj => by rw [hL_sL, if_neg (by omega)]; rfl, MoF.pL (MoF.pF (A := (fun q => q = 83 ∨ q = 102)) (F := (fun k => k = 34)) MoF.rf (Or.inl rfl) rfl _) (Or.inr rfl) _ _⟩, rfl⟩
          unfold inR
          rw [decide_eq_false (by omega)]
        · skip
          refine xq_lload dX11_works_429 rfl ?_
          refine xq_ldc2 dX11_works_431 kc_RX11_330 ?_
          refine xq_lcmp dX11_works_434 ?_
          refine xq_if_lt dX11_works_435 rfl ⟨fun h435 => ?_, fun h435 => ?_⟩
          · skip
            refine xq_iconst dX11_works_442 ic0 ?_
            refine xq_zret dX11_works_443 rfl (by decide) ?_
            rw [lg_cmp_gt, show (lN 1000000000000) = zL 1000000000000 from rfl, zL_lt ⟨by omega, by omega⟩ hwin] at h426
            rw [lg_cmp_lt, show (-1000000000000 : Int64) = zL (-1000000000000) by decide, zL_lt hwin ⟨by omega, by omega⟩] at h435
            refine ⟨false, _, ⟨?_, fun _ => ⟨by rw [hI_sL, hI_sI, if_pos ⟨rfl, rfl⟩], by rw [hL_sL, if_pos ⟨rfl, rfl⟩]⟩, fun j hj => by rw [hL_sL, if_neg (by omega)]; rfl, MoF.pL (MoF.pF (A := (fun q => q = 83 ∨ q = 102)) (F := (fun k => k = 34)) MoF.rf (Or.inl rfl) rfl _) (Or.inr rfl) _ _⟩, rfl⟩
            unfold inR
            rw [decide_eq_false (by omega)]
          · skip
            refine xq_iconst dX11_works_438 ic1 ?_
            refine xq_goto dX11_works_439 rfl ?_
            refine xq_zret dX11_works_443 rfl (by decide) ?_
            rw [lg_cmp_gt, show (lN 1000000000000) = zL 1000000000000 from rfl, zL_lt ⟨by omega, by omega⟩ hwin] at h426
            rw [lg_cmp_lt, show (-1000000000000 : Int64) = zL (-1000000000000) by decide, zL_lt hwin ⟨by omega, by omega⟩] at h435
            refine ⟨true, _, ⟨?_, fun _ => ⟨by rw [hI_sL, hI_sI, if_pos ⟨rfl, rfl⟩], by rw [hL_sL, if_pos ⟨rfl, rfl⟩]⟩, fun j hj => by rw [hL_sL, if_neg (by omega)]; rfl, MoF.pL (MoF.pF (A := (fun q => q = 83 ∨ q = 102)) (F := (fun k => k = 34)) MoF.rf (Or.inl rfl) rfl _) (Or.inr rfl) _ _⟩, rfl⟩
            unfold inR
            rw [decide_eq_true (by omega)]
      · skip
        refine xq_iconst dX11_works_397 ic1 ?_
        refine xq_goto dX11_works_398 rfl ?_
        refine xq_callS1P gd_X11_oneIf dX11_works_402 ml_RX11_318 im_X11_oneIf (by exact Nat.le_of_ble_eq_true rfl) (by decide) m_oneIf1 ?_
        refine xq_lstoreX dX11_works_405 rfl rfl ?_
        rw [lg_cmp_eq] at h388; rw [c0] at h388
        rw [lg_cmp_eq] at h394; rw [d0] at h394
        have ew : wkz 11 za zb = 1 := (b2z_1 (by omega) : b2z (za ≠ 0 ∨ zb ≠ 0) = 1)
        rw [show lN 1 = zL (wkz 11 za zb) by rw [ew]; rfl]
        refine xq_aload_n dX11_works_407 rfl rfl ?_
        refine xq_getF clX11 (by decide) rfl fl_RX11_69 dX11_works_408 (Fx.s83 hF) (Fx.r83_33 hF) ?_
        refine xq_aload_n dX11_works_411 rfl rfl ?_
        refine xq_getIE (v := nI (m + 1)) clX11 (by decide) rfl fl_RX11_315 dX11_works_412 (Fx.s83 hF) (by rw [hI_sI]; exact if_pos ⟨rfl, rfl⟩) ?_
        refine xq_iconst dX11_works_415 ic1 ?_
        refine xq_isubN dX11_works_416 (by omega) ?_
        rw [show m + 1 - 1 = m from rfl]
        refine xq_lload dX11_works_417 rfl ?_
        refine xq_lastN dX11_works_419 (Fx.s102 hF) (by omega) (by decide) ?_
        refine xq_lload dX11_works_420 rfl ?_
        refine xq_ldc2 (v := lN 1000000000000) dX11_works_422 kc_RX11_328 ?_
        refine xq_lcmp dX11_works_425 ?_
        refine xq_if_gt dX11_works_426 rfl ⟨fun h426 => ?_, fun h426 => ?_⟩
        · skip
          refine xq_iconst dX11_works_442 ic0 ?_
          refine xq_zret dX11_works_443 rfl (by decide) ?_
          rw [lg_cmp_gt, show (lN 1000000000000) = zL 1000000000000 from rfl, zL_lt ⟨by omega, by omega⟩ hwin] at h426
          refine ⟨false, _, ⟨?_, fun _ => ⟨by rw [hI_sL, hI_sI, if_pos ⟨rfl, rfl⟩], by rw [hL_sL, if_pos ⟨rfl, rfl⟩]⟩, fun j hj => by rw [hL_sL, if_neg (by omega)]; rfl, MoF.pL (MoF.pF (A := (fun q => q = 83 ∨ q = 102)) (F := (fun k => k = 34)) MoF.rf (Or.inl rfl) rfl _) (Or.inr rfl) _ _⟩, rfl⟩
          unfold inR
          rw [decide_eq_false (by omega)]
        · skip
          refine xq_lload dX11_works_429 rfl ?_
          refine xq_ldc2 dX11_works_431 kc_RX11_330 ?_
          refine xq_lcmp dX11_works_434 ?_
          refine xq_if_lt dX11_works_435 rfl ⟨fun h435 => ?_, fun h435 => ?_⟩
          · skip
            refine xq_iconst dX11_works_442 ic0 ?_
            refine xq_zret dX11_works_443 rfl (by decide) ?_
            rw [lg_cmp_gt, show (lN 1000000000000) = zL 1000000000000 from rfl, zL_lt ⟨by omega, by omega⟩ hwin] at h426
            rw [lg_cmp_lt, show (-1000000000000 : Int64) = zL (-1000000000000) by decide, zL_lt hwin ⟨by omega, by omega⟩] at h435
            refine ⟨false, _, ⟨?_, fun _ => ⟨by rw [hI_sL, hI_sI, if_pos ⟨rfl, rfl⟩], by rw [hL_sL, if_pos ⟨rfl, rfl⟩]⟩, fun j hj => by rw [hL_sL, if_neg (by omega)]; rfl, MoF.pL (MoF.pF (A := (fun q => q = 83 ∨ q = 102)) (F := (fun k => k = 34)) MoF.rf (Or.inl rfl) rfl _) (Or.inr rfl) _ _⟩, rfl⟩
            unfold inR
            rw [decide_eq_false (by omega)]
          · skip
            refine xq_iconst dX11_works_438 ic1 ?_
            refine xq_goto dX11_works_439 rfl ?_
            refine xq_zret dX11_works_443 rfl (by decide) ?_
            rw [lg_cmp_gt, show (lN 1000000000000) = zL 1000000000000 from rfl, zL_lt ⟨by omega, by omega⟩ hwin] at h426
            rw [lg_cmp_lt, show (-1000000000000 : Int64) = zL (-1000000000000) by decide, zL_lt hwin ⟨by omega, by omega⟩] at h435
            refine ⟨true, _, ⟨?_, fun _ => ⟨by rw [hI_sL, hI_sI, if_pos ⟨rfl, rfl⟩], by rw [hL_sL, if_pos ⟨rfl, rfl⟩]⟩, fun j hj => by rw [hL_sL, if_neg (by omega)]; rfl, MoF.pL (MoF.pF (A := (fun q => q = 83 ∨ q = 102)) (F := (fun k => k = 34)) MoF.rf (Or.inl rfl) rfl _) (Or.inr rfl) _ _⟩, rfl⟩
            unfold inR
            rw [decide_eq_true (by omega)]
  · skip
    exact absurd h16 (by decide)
theorem m_works_12 (hF : gFx S) (hm : hI H 83 34 = nI (m + 2)) (hm6 : m + 2 ≤ 64) (ha : hL H 102 m = zL za) (hb : hL H 102 (m + 1) = zL zb) (hza : -1000000000000 ≤ za ∧ za ≤ 1000000000000) (hzb : -1000000000000 ≤ zb ∧ zb ≤ 1000000000000) : Hv mX11_works 1 [.ref 83, vN 261] S H vB (fun x H' => x = inR (wkz 12 za zb) ∧ (x = true → hI H' 83 34 = nI (m + 1) ∧ hL H' 102 m = zL (wkz 12 za zb)) ∧ (∀ j, j < m → hL H' 102 j = hL H 102 j) ∧ MoF (fun q => q = 83 ∨ q = 102) (fun k => k = 34) H H') := by
  have hca : inB za := ⟨by omega, by omega⟩; have hda : inB zb := ⟨by omega, by omega⟩
  have z0 : inB 0 := ⟨by decide, by decide⟩
  have c0 : zL za = lN 0 ↔ za = 0 := zL_eq hca z0
  have d0 : zL zb = lN 0 ↔ zb = 0 := zL_eq hda z0
  have hwin := wkz_in hza hzb 12
  refine vq_intro (by decide) (by exact Nat.le_of_ble_eq_true rfl) rfl ?_
  refine xq_aload_n dX11_works_0 rfl rfl ?_
  refine xq_getF clX11 (by decide) rfl fl_RX11_69 dX11_works_1 (Fx.s83 hF) (Fx.r83_33 hF) ?_
  refine xq_aload_n dX11_works_4 rfl rfl ?_
  refine xq_getIE clX11 (by decide) rfl fl_RX11_315 dX11_works_5 (Fx.s83 hF) hm ?_
  refine xq_iconst dX11_works_8 ic1 ?_
  skip
  refine xq_isubN dX11_works_9 (by omega) ?_
  rw [show m + 2 - 1 = m + 1 from rfl]
  refine xq_laldN (v := zL zb) dX11_works_10 (Fx.s102 hF) (by omega) (by decide) hb ?_
  refine xq_lstore_nX dX11_works_11 rfl rfl rfl ?_
  refine xq_iload_n dX11_works_12 rfl rfl ?_
  refine xq_sipush dX11_works_13 sp260 ?_
  refine xq_icmp_neN dX11_works_16 rfl (by omega) (by omega) ⟨fun h16 => ?_, fun h16 => ?_⟩
  · skip
    refine xq_aload_n dX11_works_46 rfl rfl ?_
    refine xq_getF clX11 (by decide) rfl fl_RX11_69 dX11_works_47 (Fx.s83 hF) (Fx.r83_33 hF) ?_
    refine xq_aload_n dX11_works_50 rfl rfl ?_
    refine xq_getIE clX11 (by decide) rfl fl_RX11_315 dX11_works_51 (Fx.s83 hF) hm ?_
    refine xq_iconst dX11_works_54 ic2 ?_
    refine xq_isubN dX11_works_55 (by omega) ?_
    rw [show m + 2 - 2 = m from rfl]
    refine xq_laldN (v := zL za) dX11_works_56 (Fx.s102 hF) (by omega) (by decide) ha ?_
    refine xq_lstoreX dX11_works_57 rfl rfl ?_
    refine xq_aload_n dX11_works_59 rfl rfl ?_
    refine xq_dup dX11_works_60 rfl ?_
    refine xq_getIE clX11 (by decide) rfl fl_RX11_315 dX11_works_61 (Fx.s83 hF) hm ?_
    refine xq_iconst dX11_works_64 ic1 ?_
    refine xq_isubN dX11_works_65 (by omega) ?_
    rw [show m + 2 - 1 = m + 1 from rfl]
    refine xq_putI clX11 (by decide) rfl fl_RX11_315 (Or.inl rfl) dX11_works_66 ⟨rfl, rfl⟩ (Fx.s83 hF) ?_
    refine xq_iload_n dX11_works_69 rfl rfl ?_
    refine xq_lookup dX11_works_70 rfl rfl rfl ?_
    refine xq_lload dX11_works_358 rfl ?_
    refine xq_lconst dX11_works_360 lc0 ?_
    refine xq_lcmp dX11_works_361 ?_
    refine xq_if_eq dX11_works_362 rfl ⟨fun h362 => ?_, fun h362 => ?_⟩
    · skip
      refine xq_iconst dX11_works_375 ic0 ?_
      refine xq_callS1P gd_X11_oneIf dX11_works_376 ml_RX11_318 im_X11_oneIf (by exact Nat.le_of_ble_eq_true rfl) (by decide) m_oneIf0 ?_
      refine xq_lstoreX dX11_works_379 rfl rfl ?_
      refine xq_goto dX11_works_381 rfl ?_
      rw [lg_cmp_eq] at h362; rw [c0] at h362
      have ew : wkz 12 za zb = 0 := (b2z_0 (by omega) : b2z (za ≠ 0 ∧ zb ≠ 0) = 0)
      rw [show lN 0 = zL (wkz 12 za zb) by rw [ew]; rfl]
      refine xq_aload_n dX11_works_407 rfl rfl ?_
      refine xq_getF clX11 (by decide) rfl fl_RX11_69 dX11_works_408 (Fx.s83 hF) (Fx.r83_33 hF) ?_
      refine xq_aload_n dX11_works_411 rfl rfl ?_
      refine xq_getIE (v := nI (m + 1)) clX11 (by decide) rfl fl_RX11_315 dX11_works_412 (Fx.s83 hF) (by rw [hI_sI]; exact if_pos ⟨rfl, rfl⟩) ?_
      refine xq_iconst dX11_works_415 ic1 ?_
      refine xq_isubN dX11_works_416 (by omega) ?_
      rw [show m + 1 - 1 = m from rfl]
      refine xq_lload dX11_works_417 rfl ?_
      refine xq_lastN dX11_works_419 (Fx.s102 hF) (by omega) (by decide) ?_
      refine xq_lload dX11_works_420 rfl ?_
      refine xq_ldc2 (v := lN 1000000000000) dX11_works_422 kc_RX11_328 ?_
      refine xq_lcmp dX11_works_425 ?_
      refine xq_if_gt dX11_works_426 rfl ⟨fun h426 => ?_, fun h426 => ?_⟩
      · skip
        refine xq_iconst dX11_works_442 ic0 ?_
        refine xq_zret dX11_works_443 rfl (by decide) ?_
        rw [lg_cmp_gt, show (lN 1000000000000) = zL 1000000000000 from rfl, zL_lt ⟨by omega, by omega⟩ hwin] at h426
        refine ⟨false, _, ⟨?_, fun _ => ⟨by rw [hI_sL, hI_sI, if_pos ⟨rfl, rfl⟩], by rw [hL_sL, if_pos ⟨rfl, rfl⟩]⟩, fun j hj => by rw [hL_sL, if_neg (by omega)]; rfl, MoF.pL (MoF.pF (A := (fun q => q = 83 ∨ q = 102)) (F := (fun k => k = 34)) MoF.rf (Or.inl rfl) rfl _) (Or.inr rfl) _ _⟩, rfl⟩
        unfold inR
        rw [decide_eq_false (by omega)]
      · skip
        refine xq_lload dX11_works_429 rfl ?_
        refine xq_ldc2 dX11_works_431 kc_RX11_330 ?_
        refine xq_lcmp dX11_works_434 ?_
        refine xq_if_lt dX11_works_435 rfl ⟨fun h435 => ?_, fun h435 => ?_⟩
        · skip
          refine xq_iconst dX11_works_442 ic0 ?_
          refine xq_zret dX11_works_443 rfl (by decide) ?_
          rw [lg_cmp_gt, show (lN 1000000000000) = zL 1000000000000 from rfl, zL_lt ⟨by omega, by omega⟩ hwin] at h426
          rw [lg_cmp_lt, show (-1000000000000 : Int64) = zL (-1000000000000) by decide, zL_lt hwin ⟨by omega, by omega⟩] at h435
          refine ⟨false, _, ⟨?_, fun _ => ⟨by rw [hI_sL, hI_sI, if_pos ⟨rfl, rfl⟩], by rw [hL_sL, if_pos ⟨rfl, rfl⟩]⟩, fun j hj => by rw [hL_sL, if_neg (by omega)]; rfl, MoF.pL (MoF.pF (A := (fun q => q = 83 ∨ q = 102)) (F := (fun k => k = 34)) MoF.rf (Or.inl rfl) rfl _) (Or.inr rfl) _ _⟩, rfl⟩
          unfold inR
          rw [decide_eq_false (by omega)]
        · skip
          refine xq_iconst dX11_works_438 ic1 ?_
          refine xq_goto dX11_works_439 rfl ?_
          refine xq_zret dX11_works_443 rfl (by decide) ?_
          rw [lg_cmp_gt, show (lN 1000000000000) = zL 1000000000000 from rfl, zL_lt ⟨by omega, by omega⟩ hwin] at h426
          rw [lg_cmp_lt, show (-1000000000000 : Int64) = zL (-1000000000000) by decide, zL_lt hwin ⟨by omega, by omega⟩] at h435
          refine ⟨true, _, ⟨?_, fun _ => ⟨by rw [hI_sL, hI_sI, if_pos ⟨rfl, rfl⟩], by rw [hL_sL, if_pos ⟨rfl, rfl⟩]⟩, fun j hj => by rw [hL_sL, if_neg (by omega)]; rfl, MoF.pL (MoF.pF (A := (fun q => q = 83 ∨ q = 102)) (F := (fun k => k = 34)) MoF.rf (Or.inl rfl) rfl _) (Or.inr rfl) _ _⟩, rfl⟩
          unfold inR
          rw [decide_eq_true (by omega)]
    · skip
      refine xq_lload_n dX11_works_365 rfl rfl ?_
      refine xq_lconst dX11_works_366 lc0 ?_
      refine xq_lcmp dX11_works_367 ?_
      refine xq_if_eq dX11_works_368 rfl ⟨fun h368 => ?_, fun h368 => ?_⟩
      · skip
        refine xq_iconst dX11_works_375 ic0 ?_
        refine xq_callS1P gd_X11_oneIf dX11_works_376 ml_RX11_318 im_X11_oneIf (by exact Nat.le_of_ble_eq_true rfl) (by decide) m_oneIf0 ?_
        refine xq_lstoreX dX11_works_379 rfl rfl ?_
        refine xq_goto dX11_works_381 rfl ?_
        rw [lg_cmp_eq] at h362; rw [c0] at h362
        rw [lg_cmp_eq] at h368; rw [d0] at h368
        have ew : wkz 12 za zb = 0 := (b2z_0 (by omega) : b2z (za ≠ 0 ∧ zb ≠ 0) = 0)
        rw [show lN 0 = zL (wkz 12 za zb) by rw [ew]; rfl]
        refine xq_aload_n dX11_works_407 rfl rfl ?_
        refine xq_getF clX11 (by decide) rfl fl_RX11_69 dX11_works_408 (Fx.s83 hF) (Fx.r83_33 hF) ?_
        refine xq_aload_n dX11_works_411 rfl rfl ?_
        refine xq_getIE (v := nI (m + 1)) clX11 (by decide) rfl fl_RX11_315 dX11_works_412 (Fx.s83 hF) (by rw [hI_sI]; exact if_pos ⟨rfl, rfl⟩) ?_
        refine xq_iconst dX11_works_415 ic1 ?_
        refine xq_isubN dX11_works_416 (by omega) ?_
        rw [show m + 1 - 1 = m from rfl]
        refine xq_lload dX11_works_417 rfl ?_
        refine xq_lastN dX11_works_419 (Fx.s102 hF) (by omega) (by decide) ?_
        refine xq_lload dX11_works_420 rfl ?_
        refine xq_ldc2 (v := lN 1000000000000) dX11_works_422 kc_RX11_328 ?_
        refine xq_lcmp dX11_works_425 ?_
        refine xq_if_gt dX11_works_426 rfl ⟨fun h426 => ?_, fun h426 => ?_⟩
        · skip
          refine xq_iconst dX11_works_442 ic0 ?_
          refine xq_zret dX11_works_443 rfl (by decide) ?_
          rw [lg_cmp_gt, show (lN 1000000000000) = zL 1000000000000 from rfl, zL_lt ⟨by omega, by omega⟩ hwin] at h426
          refine ⟨false, _, ⟨?_, fun _ => ⟨by rw [hI_sL, hI_sI, if_pos ⟨rfl, rfl⟩], by rw [hL_sL, if_pos ⟨rfl, rfl⟩]⟩, fun j hj => by rw [hL_sL, if_neg (by omega)]; rfl, MoF.pL (MoF.pF (A := (fun q => q = 83 ∨ q = 102)) (F := (fun k => k = 34)) MoF.rf (Or.inl rfl) rfl _) (Or.inr rfl) _ _⟩, rfl⟩
          unfold inR
          rw [decide_eq_false (by omega)]
        · skip
          refine xq_lload dX11_works_429 rfl ?_
          refine xq_ldc2 dX11_works_431 kc_RX11_330 ?_
          refine xq_lcmp dX11_works_434 ?_
          refine xq_if_lt dX11_works_435 rfl ⟨fun h435 => ?_, fun h435 => ?_⟩
          · skip
            refine xq_iconst dX11_works_442 ic0 ?_
            refine xq_zret dX11_works_443 rfl (by decide) ?_
            rw [lg_cmp_gt, show (lN 1000000000000) = zL 1000000000000 from rfl, zL_lt ⟨by omega, by omega⟩ hwin] at h426
            rw [lg_cmp_lt, show (-1000000000000 : Int64) = zL (-1000000000000) by decide, zL_lt hwin ⟨by omega, by omega⟩] at h435
            refine ⟨false, _, ⟨?_, fun _ => ⟨by rw [hI_sL, hI_sI, if_pos ⟨rfl, rfl⟩], by rw [hL_sL, if_pos ⟨rfl, rfl⟩]⟩, fun j hj => by rw [hL_sL, if_neg (by omega)]; rfl, MoF.pL (MoF.pF (A := (fun q => q = 83 ∨ q = 102)) (F := (fun k => k = 34)) MoF.rf (Or.inl rfl) rfl _) (Or.inr rfl) _ _⟩, rfl⟩
            unfold inR
            rw [decide_eq_false (by omega)]
          · skip
            refine xq_iconst dX11_works_438 ic1 ?_
            refine xq_goto dX11_works_439 rfl ?_
            refine xq_zret dX11_works_443 rfl (by decide) ?_
            rw [lg_cmp_gt, show (lN 1000000000000) = zL 1000000000000 from rfl, zL_lt ⟨by omega, by omega⟩ hwin] at h426
            rw [lg_cmp_lt, show (-1000000000000 : Int64) = zL (-1000000000000) by decide, zL_lt hwin ⟨by omega, by omega⟩] at h435
            refine ⟨true, _, ⟨?_, fun _ => ⟨by rw [hI_sL, hI_sI, if_pos ⟨rfl, rfl⟩], by rw [hL_sL, if_pos ⟨rfl, rfl⟩]⟩, fun j hj => by rw [hL_sL, if_neg (by omega)]; rfl, MoF.pL (MoF.pF (A := (fun q => q = 83 ∨ q = 102)) (F := (fun k => k = 34)) MoF.rf (Or.inl rfl) rfl _) (Or.inr rfl) _ _⟩, rfl⟩
            unfold inR
            rw [decide_eq_true (by omega)]
      · skip
        refine xq_iconst dX11_works_371 ic1 ?_
        refine xq_goto dX11_works_372 rfl ?_
        refine xq_callS1P gd_X11_oneIf dX11_works_376 ml_RX11_318 im_X11_oneIf (by exact Nat.le_of_ble_eq_true rfl) (by decide) m_oneIf1 ?_
        refine xq_lstoreX dX11_works_379 rfl rfl ?_
        refine xq_goto dX11_works_381 rfl ?_
        rw [lg_cmp_eq] at h362; rw [c0] at h362
        rw [lg_cmp_eq] at h368; rw [d0] at h368
        have ew : wkz 12 za zb = 1 := (b2z_1 (by omega) : b2z (za ≠ 0 ∧ zb ≠ 0) = 1)
        rw [show lN 1 = zL (wkz 12 za zb) by rw [ew]; rfl]
        refine xq_aload_n dX11_works_407 rfl rfl ?_
        refine xq_getF clX11 (by decide) rfl fl_RX11_69 dX11_works_408 (Fx.s83 hF) (Fx.r83_33 hF) ?_
        refine xq_aload_n dX11_works_411 rfl rfl ?_
        refine xq_getIE (v := nI (m + 1)) clX11 (by decide) rfl fl_RX11_315 dX11_works_412 (Fx.s83 hF) (by rw [hI_sI]; exact if_pos ⟨rfl, rfl⟩) ?_
        refine xq_iconst dX11_works_415 ic1 ?_
        refine xq_isubN dX11_works_416 (by omega) ?_
        rw [show m + 1 - 1 = m from rfl]
        refine xq_lload dX11_works_417 rfl ?_
        refine xq_lastN dX11_works_419 (Fx.s102 hF) (by omega) (by decide) ?_
        refine xq_lload dX11_works_420 rfl ?_
        refine xq_ldc2 (v := lN 1000000000000) dX11_works_422 kc_RX11_328 ?_
        refine xq_lcmp dX11_works_425 ?_
        refine xq_if_gt dX11_works_426 rfl ⟨fun h426 => ?_, fun h426 => ?_⟩
        · skip
          refine xq_iconst dX11_works_442 ic0 ?_
          refine xq_zret dX11_works_443 rfl (by decide) ?_
          rw [lg_cmp_gt, show (lN 1000000000000) = zL 1000000000000 from rfl, zL_lt ⟨by omega, by omega⟩ hwin] at h426
          refine ⟨false, _, ⟨?_, fun _ => ⟨by rw [hI_sL, hI_sI, if_pos ⟨rfl, rfl⟩], by rw [hL_sL, if_pos ⟨rfl, rfl⟩]⟩, fun j hj => by rw [hL_sL, if_neg (by omega)]; rfl, MoF.pL (MoF.pF (A := (fun q => q = 83 ∨ q = 102)) (F := (fun k => k = 34)) MoF.rf (Or.inl rfl) rfl _) (Or.inr rfl) _ _⟩, rfl⟩
          unfold inR
          rw [decide_eq_false (by omega)]
        · skip
          refine xq_lload dX11_works_429 rfl ?_
          refine xq_ldc2 dX11_works_431 kc_RX11_330 ?_
          refine xq_lcmp dX11_works_434 ?_
          refine xq_if_lt dX11_works_435 rfl ⟨fun h435 => ?_, fun h435 => ?_⟩
          · skip
            refine xq_iconst dX11_works_442 ic0 ?_
            refine xq_zret dX11_works_443 rfl (by decide) ?_
            rw [lg_cmp_gt, show (lN 1000000000000) = zL 1000000000000 from rfl, zL_lt ⟨by omega, by omega⟩ hwin] at h426
            rw [lg_cmp_lt, show (-1000000000000 : Int64) = zL (-1000000000000) by decide, zL_lt hwin ⟨by omega, by omega⟩] at h435
            refine ⟨false, _, ⟨?_, fun _ => ⟨by rw [hI_sL, hI_sI, if_pos ⟨rfl, rfl⟩], by rw [hL_sL, if_pos ⟨rfl, rfl⟩]⟩, fun j hj => by rw [hL_sL, if_neg (by omega)]; rfl, MoF.pL (MoF.pF (A := (fun q => q = 83 ∨ q = 102)) (F := (fun k => k = 34)) MoF.rf (Or.inl rfl) rfl _) (Or.inr rfl) _ _⟩, rfl⟩
            unfold inR
            rw [decide_eq_false (by omega)]
          · skip
            refine xq_iconst dX11_works_438 ic1 ?_
            refine xq_goto dX11_works_439 rfl ?_
            refine xq_zret dX11_works_443 rfl (by decide) ?_
            rw [lg_cmp_gt, show (lN 1000000000000) = zL 1000000000000 from rfl, zL_lt ⟨by omega, by omega⟩ hwin] at h426
            rw [lg_cmp_lt, show (-1000000000000 : Int64) = zL (-1000000000000) by decide, zL_lt hwin ⟨by omega, by omega⟩] at h435
            refine ⟨true, _, ⟨?_, fun _ => ⟨by rw [hI_sL, hI_sI, if_pos ⟨rfl, rfl⟩], by rw [hL_sL, if_pos ⟨rfl, rfl⟩]⟩, fun j hj => by rw [hL_sL, if_neg (by omega)]; rfl, MoF.pL (MoF.pF (A := (fun q => q = 83 ∨ q = 102)) (F := (fun k => k = 34)) MoF.rf (Or.inl rfl) rfl _) (Or.inr rfl) _ _⟩, rfl⟩
            unfold inR
            rw [decide_eq_true (by omega)]
  · skip
    exact absurd h16 (by decide)
theorem m_works_28 (hF : gFx S) (hm : hI H 83 34 = nI (m + 2)) (hm6 : m + 2 ≤ 64) (ha : hL H 102 m = zL za) (hb : hL H 102 (m + 1) = zL zb) (hza : -1000000000000 ≤ za ∧ za ≤ 1000000000000) (hzb : -1000000000000 ≤ zb ∧ zb ≤ 1000000000000) : Hv mX11_works 1 [.ref 83, vN 43] S H vB (fun x H' => x = inR (wkz 28 za zb) ∧ (x = true → hI H' 83 34 = nI (m + 1) ∧ hL H' 102 m = zL (wkz 28 za zb)) ∧ (∀ j, j < m → hL H' 102 j = hL H 102 j) ∧ MoF (fun q => q = 83 ∨ q = 102) (fun k => k = 34) H H') := by
  have hca : inB za := ⟨by omega, by omega⟩; have hda : inB zb := ⟨by omega, by omega⟩
  have z0 : inB 0 := ⟨by decide, by decide⟩
  have c0 : zL za = lN 0 ↔ za = 0 := zL_eq hca z0
  have d0 : zL zb = lN 0 ↔ zb = 0 := zL_eq hda z0
  have hwin := wkz_in hza hzb 28
  refine vq_intro (by decide) (by exact Nat.le_of_ble_eq_true rfl) rfl ?_
  refine xq_aload_n dX11_works_0 rfl rfl ?_
  refine xq_getF clX11 (by decide) rfl fl_RX11_69 dX11_works_1 (Fx.s83 hF) (Fx.r83_33 hF) ?_
  refine xq_aload_n dX11_works_4 rfl rfl ?_
  refine xq_getIE clX11 (by decide) rfl fl_RX11_315 dX11_works_5 (Fx.s83 hF) hm ?_
  refine xq_iconst dX11_works_8 ic1 ?_
  skip
  refine xq_isubN dX11_works_9 (by omega) ?_
  rw [show m + 2 - 1 = m + 1 from rfl]
  refine xq_laldN (v := zL zb) dX11_works_10 (Fx.s102 hF) (by omega) (by decide) hb ?_
  refine xq_lstore_nX dX11_works_11 rfl rfl rfl ?_
  refine xq_iload_n dX11_works_12 rfl rfl ?_
  refine xq_sipush dX11_works_13 sp260 ?_
  refine xq_icmp_neN dX11_works_16 rfl (by omega) (by omega) ⟨fun h16 => ?_, fun h16 => ?_⟩
  · skip
    refine xq_aload_n dX11_works_46 rfl rfl ?_
    refine xq_getF clX11 (by decide) rfl fl_RX11_69 dX11_works_47 (Fx.s83 hF) (Fx.r83_33 hF) ?_
    refine xq_aload_n dX11_works_50 rfl rfl ?_
    refine xq_getIE clX11 (by decide) rfl fl_RX11_315 dX11_works_51 (Fx.s83 hF) hm ?_
    refine xq_iconst dX11_works_54 ic2 ?_
    refine xq_isubN dX11_works_55 (by omega) ?_
    rw [show m + 2 - 2 = m from rfl]
    refine xq_laldN (v := zL za) dX11_works_56 (Fx.s102 hF) (by omega) (by decide) ha ?_
    refine xq_lstoreX dX11_works_57 rfl rfl ?_
    refine xq_aload_n dX11_works_59 rfl rfl ?_
    refine xq_dup dX11_works_60 rfl ?_
    refine xq_getIE clX11 (by decide) rfl fl_RX11_315 dX11_works_61 (Fx.s83 hF) hm ?_
    refine xq_iconst dX11_works_64 ic1 ?_
    refine xq_isubN dX11_works_65 (by omega) ?_
    rw [show m + 2 - 1 = m + 1 from rfl]
    refine xq_putI clX11 (by decide) rfl fl_RX11_315 (Or.inl rfl) dX11_works_66 ⟨rfl, rfl⟩ (Fx.s83 hF) ?_
    refine xq_iload_n dX11_works_69 rfl rfl ?_
    refine xq_lookup dX11_works_70 rfl rfl rfl ?_
    refine xq_lload dX11_works_168 rfl ?_
    refine xq_lload_n dX11_works_170 rfl rfl ?_
    refine xq_ladd dX11_works_171 ?_
    refine xq_lstoreX dX11_works_172 rfl rfl ?_
    refine xq_goto dX11_works_174 rfl ?_
    rw [zL_add, show za + zb = wkz 28 za zb from rfl]
    refine xq_aload_n dX11_works_407 rfl rfl ?_
    refine xq_getF clX11 (by decide) rfl fl_RX11_69 dX11_works_408 (Fx.s83 hF) (Fx.r83_33 hF) ?_
    refine xq_aload_n dX11_works_411 rfl rfl ?_
    refine xq_getIE (v := nI (m + 1)) clX11 (by decide) rfl fl_RX11_315 dX11_works_412 (Fx.s83 hF) (by rw [hI_sI]; exact if_pos ⟨rfl, rfl⟩) ?_
    refine xq_iconst dX11_works_415 ic1 ?_
    refine xq_isubN dX11_works_416 (by omega) ?_
    rw [show m + 1 - 1 = m from rfl]
    refine xq_lload dX11_works_417 rfl ?_
    refine xq_lastN dX11_works_419 (Fx.s102 hF) (by omega) (by decide) ?_
    refine xq_lload dX11_works_420 rfl ?_
    refine xq_ldc2 (v := lN 1000000000000) dX11_works_422 kc_RX11_328 ?_
    refine xq_lcmp dX11_works_425 ?_
    refine xq_if_gt dX11_works_426 rfl ⟨fun h426 => ?_, fun h426 => ?_⟩
    · skip
      refine xq_iconst dX11_works_442 ic0 ?_
      refine xq_zret dX11_works_443 rfl (by decide) ?_
      rw [lg_cmp_gt, show (lN 1000000000000) = zL 1000000000000 from rfl, zL_lt ⟨by omega, by omega⟩ hwin] at h426
      refine ⟨false, _, ⟨?_, fun _ => ⟨by rw [hI_sL, hI_sI, if_pos ⟨rfl, rfl⟩], by rw [hL_sL, if_pos ⟨rfl, rfl⟩]⟩, fun j hj => by rw [hL_sL, if_neg (by omega)]; rfl, MoF.pL (MoF.pF (A := (fun q => q = 83 ∨ q = 102)) (F := (fun k => k = 34)) MoF.rf (Or.inl rfl) rfl _) (Or.inr rfl) _ _⟩, rfl⟩
      unfold inR
      rw [decide_eq_false (by omega)]
    · skip
      refine xq_lload dX11_works_429 rfl ?_
      refine xq_ldc2 dX11_works_431 kc_RX11_330 ?_
      refine xq_lcmp dX11_works_434 ?_
      refine xq_if_lt dX11_works_435 rfl ⟨fun h435 => ?_, fun h435 => ?_⟩
      · skip
        refine xq_iconst dX11_works_442 ic0 ?_
        refine xq_zret dX11_works_443 rfl (by decide) ?_
        rw [lg_cmp_gt, show (lN 1000000000000) = zL 1000000000000 from rfl, zL_lt ⟨by omega, by omega⟩ hwin] at h426
        rw [lg_cmp_lt, show (-1000000000000 : Int64) = zL (-1000000000000) by decide, zL_lt hwin ⟨by omega, by omega⟩] at h435
        refine ⟨false, _, ⟨?_, fun _ => ⟨by rw [hI_sL, hI_sI, if_pos ⟨rfl, rfl⟩], by rw [hL_sL, if_pos ⟨rfl, rfl⟩]⟩, fun j hj => by rw [hL_sL, if_neg (by omega)]; rfl, MoF.pL (MoF.pF (A := (fun q => q = 83 ∨ q = 102)) (F := (fun k => k = 34)) MoF.rf (Or.inl rfl) rfl _) (Or.inr rfl) _ _⟩, rfl⟩
        unfold inR
        rw [decide_eq_false (by omega)]
      · skip
        refine xq_iconst dX11_works_438 ic1 ?_
        refine xq_goto dX11_works_439 rfl ?_
        refine xq_zret dX11_works_443 rfl (by decide) ?_
        rw [lg_cmp_gt, show (lN 1000000000000) = zL 1000000000000 from rfl, zL_lt ⟨by omega, by omega⟩ hwin] at h426
        rw [lg_cmp_lt, show (-1000000000000 : Int64) = zL (-1000000000000) by decide, zL_lt hwin ⟨by omega, by omega⟩] at h435
        refine ⟨true, _, ⟨?_, fun _ => ⟨by rw [hI_sL, hI_sI, if_pos ⟨rfl, rfl⟩], by rw [hL_sL, if_pos ⟨rfl, rfl⟩]⟩, fun j hj => by rw [hL_sL, if_neg (by omega)]; rfl, MoF.pL (MoF.pF (A := (fun q => q = 83 ∨ q = 102)) (F := (fun k => k = 34)) MoF.rf (Or.inl rfl) rfl _) (Or.inr rfl) _ _⟩, rfl⟩
        unfold inR
        rw [decide_eq_true (by omega)]
  · skip
    exact absurd h16 (by decide)
theorem m_works_29 (hF : gFx S) (hm : hI H 83 34 = nI (m + 2)) (hm6 : m + 2 ≤ 64) (ha : hL H 102 m = zL za) (hb : hL H 102 (m + 1) = zL zb) (hza : -1000000000000 ≤ za ∧ za ≤ 1000000000000) (hzb : -1000000000000 ≤ zb ∧ zb ≤ 1000000000000) : Hv mX11_works 1 [.ref 83, vN 45] S H vB (fun x H' => x = inR (wkz 29 za zb) ∧ (x = true → hI H' 83 34 = nI (m + 1) ∧ hL H' 102 m = zL (wkz 29 za zb)) ∧ (∀ j, j < m → hL H' 102 j = hL H 102 j) ∧ MoF (fun q => q = 83 ∨ q = 102) (fun k => k = 34) H H') := by
  have hca : inB za := ⟨by omega, by omega⟩; have hda : inB zb := ⟨by omega, by omega⟩
  have z0 : inB 0 := ⟨by decide, by decide⟩
  have c0 : zL za = lN 0 ↔ za = 0 := zL_eq hca z0
  have d0 : zL zb = lN 0 ↔ zb = 0 := zL_eq hda z0
  have hwin := wkz_in hza hzb 29
  refine vq_intro (by decide) (by exact Nat.le_of_ble_eq_true rfl) rfl ?_
  refine xq_aload_n dX11_works_0 rfl rfl ?_
  refine xq_getF clX11 (by decide) rfl fl_RX11_69 dX11_works_1 (Fx.s83 hF) (Fx.r83_33 hF) ?_
  refine xq_aload_n dX11_works_4 rfl rfl ?_
  refine xq_getIE clX11 (by decide) rfl fl_RX11_315 dX11_works_5 (Fx.s83 hF) hm ?_
  refine xq_iconst dX11_works_8 ic1 ?_
  skip
  refine xq_isubN dX11_works_9 (by omega) ?_
  rw [show m + 2 - 1 = m + 1 from rfl]
  refine xq_laldN (v := zL zb) dX11_works_10 (Fx.s102 hF) (by omega) (by decide) hb ?_
  refine xq_lstore_nX dX11_works_11 rfl rfl rfl ?_
  refine xq_iload_n dX11_works_12 rfl rfl ?_
  refine xq_sipush dX11_works_13 sp260 ?_
  refine xq_icmp_neN dX11_works_16 rfl (by omega) (by omega) ⟨fun h16 => ?_, fun h16 => ?_⟩
  · skip
    refine xq_aload_n dX11_works_46 rfl rfl ?_
    refine xq_getF clX11 (by decide) rfl fl_RX11_69 dX11_works_47 (Fx.s83 hF) (Fx.r83_33 hF) ?_
    refine xq_aload_n dX11_works_50 rfl rfl ?_
    refine xq_getIE clX11 (by decide) rfl fl_RX11_315 dX11_works_51 (Fx.s83 hF) hm ?_
    refine xq_iconst dX11_works_54 ic2 ?_
    refine xq_isubN dX11_works_55 (by omega) ?_
    rw [show m + 2 - 2 = m from rfl]
    refine xq_laldN (v := zL za) dX11_works_56 (Fx.s102 hF) (by omega) (by decide) ha ?_
    refine xq_lstoreX dX11_works_57 rfl rfl ?_
    refine xq_aload_n dX11_works_59 rfl rfl ?_
    refine xq_dup dX11_works_60 rfl ?_
    refine xq_getIE clX11 (by decide) rfl fl_RX11_315 dX11_works_61 (Fx.s83 hF) hm ?_
    refine xq_iconst dX11_works_64 ic1 ?_
    refine xq_isubN dX11_works_65 (by omega) ?_
    rw [show m + 2 - 1 = m + 1 from rfl]
    refine xq_putI clX11 (by decide) rfl fl_RX11_315 (Or.inl rfl) dX11_works_66 ⟨rfl, rfl⟩ (Fx.s83 hF) ?_
    refine xq_iload_n dX11_works_69 rfl rfl ?_
    refine xq_lookup dX11_works_70 rfl rfl rfl ?_
    refine xq_lload dX11_works_177 rfl ?_
    refine xq_lload_n dX11_works_179 rfl rfl ?_
    refine xq_lsub dX11_works_180 ?_
    refine xq_lstoreX dX11_works_181 rfl rfl ?_
    refine xq_goto dX11_works_183 rfl ?_
    rw [zL_sub, show za - zb = wkz 29 za zb from rfl]
    refine xq_aload_n dX11_works_407 rfl rfl ?_
    refine xq_getF clX11 (by decide) rfl fl_RX11_69 dX11_works_408 (Fx.s83 hF) (Fx.r83_33 hF) ?_
    refine xq_aload_n dX11_works_411 rfl rfl ?_
    refine xq_getIE (v := nI (m + 1)) clX11 (by decide) rfl fl_RX11_315 dX11_works_412 (Fx.s83 hF) (by rw [hI_sI]; exact if_pos ⟨rfl, rfl⟩) ?_
    refine xq_iconst dX11_works_415 ic1 ?_
    refine xq_isubN dX11_works_416 (by omega) ?_
    rw [show m + 1 - 1 = m from rfl]
    refine xq_lload dX11_works_417 rfl ?_
    refine xq_lastN dX11_works_419 (Fx.s102 hF) (by omega) (by decide) ?_
    refine xq_lload dX11_works_420 rfl ?_
    refine xq_ldc2 (v := lN 1000000000000) dX11_works_422 kc_RX11_328 ?_
    refine xq_lcmp dX11_works_425 ?_
    refine xq_if_gt dX11_works_426 rfl ⟨fun h426 => ?_, fun h426 => ?_⟩
    · skip
      refine xq_iconst dX11_works_442 ic0 ?_
      refine xq_zret dX11_works_443 rfl (by decide) ?_
      rw [lg_cmp_gt, show (lN 1000000000000) = zL 1000000000000 from rfl, zL_lt ⟨by omega, by omega⟩ hwin] at h426
      refine ⟨false, _, ⟨?_, fun _ => ⟨by rw [hI_sL, hI_sI, if_pos ⟨rfl, rfl⟩], by rw [hL_sL, if_pos ⟨rfl, rfl⟩]⟩, fun j hj => by rw [hL_sL, if_neg (by omega)]; rfl, MoF.pL (MoF.pF (A := (fun q => q = 83 ∨ q = 102)) (F := (fun k => k = 34)) MoF.rf (Or.inl rfl) rfl _) (Or.inr rfl) _ _⟩, rfl⟩
      unfold inR
      rw [decide_eq_false (by omega)]
    · skip
      refine xq_lload dX11_works_429 rfl ?_
      refine xq_ldc2 dX11_works_431 kc_RX11_330 ?_
      refine xq_lcmp dX11_works_434 ?_
      refine xq_if_lt dX11_works_435 rfl ⟨fun h435 => ?_, fun h435 => ?_⟩
      · skip
        refine xq_iconst dX11_works_442 ic0 ?_
        refine xq_zret dX11_works_443 rfl (by decide) ?_
        rw [lg_cmp_gt, show (lN 1000000000000) = zL 1000000000000 from rfl, zL_lt ⟨by omega, by omega⟩ hwin] at h426
        rw [lg_cmp_lt, show (-1000000000000 : Int64) = zL (-1000000000000) by decide, zL_lt hwin ⟨by omega, by omega⟩] at h435
        refine ⟨false, _, ⟨?_, fun _ => ⟨by rw [hI_sL, hI_sI, if_pos ⟨rfl, rfl⟩], by rw [hL_sL, if_pos ⟨rfl, rfl⟩]⟩, fun j hj => by rw [hL_sL, if_neg (by omega)]; rfl, MoF.pL (MoF.pF (A := (fun q => q = 83 ∨ q = 102)) (F := (fun k => k = 34)) MoF.rf (Or.inl rfl) rfl _) (Or.inr rfl) _ _⟩, rfl⟩
        unfold inR
        rw [decide_eq_false (by omega)]
      · skip
        refine xq_iconst dX11_works_438 ic1 ?_
        refine xq_goto dX11_works_439 rfl ?_
        refine xq_zret dX11_works_443 rfl (by decide) ?_
        rw [lg_cmp_gt, show (lN 1000000000000) = zL 1000000000000 from rfl, zL_lt ⟨by omega, by omega⟩ hwin] at h426
        rw [lg_cmp_lt, show (-1000000000000 : Int64) = zL (-1000000000000) by decide, zL_lt hwin ⟨by omega, by omega⟩] at h435
        refine ⟨true, _, ⟨?_, fun _ => ⟨by rw [hI_sL, hI_sI, if_pos ⟨rfl, rfl⟩], by rw [hL_sL, if_pos ⟨rfl, rfl⟩]⟩, fun j hj => by rw [hL_sL, if_neg (by omega)]; rfl, MoF.pL (MoF.pF (A := (fun q => q = 83 ∨ q = 102)) (F := (fun k => k = 34)) MoF.rf (Or.inl rfl) rfl _) (Or.inr rfl) _ _⟩, rfl⟩
        unfold inR
        rw [decide_eq_true (by omega)]
  · skip
    exact absurd h16 (by decide)
theorem m_works_30 (hF : gFx S) (hm : hI H 83 34 = nI (m + 2)) (hm6 : m + 2 ≤ 64) (ha : hL H 102 m = zL za) (hb : hL H 102 (m + 1) = zL zb) (hza : -1000000000000 ≤ za ∧ za ≤ 1000000000000) (hzb : -1000000000000 ≤ zb ∧ zb ≤ 1000000000000) : Hv mX11_works 1 [.ref 83, vN 42] S H vB (fun x H' => x = inR (wkz 30 za zb) ∧ (x = true → hI H' 83 34 = nI (m + 1) ∧ hL H' 102 m = zL (wkz 30 za zb)) ∧ (∀ j, j < m → hL H' 102 j = hL H 102 j) ∧ MoF (fun q => q = 83 ∨ q = 102) (fun k => k = 34) H H') := by
  have hca : inB za := ⟨by omega, by omega⟩; have hda : inB zb := ⟨by omega, by omega⟩
  have z0 : inB 0 := ⟨by decide, by decide⟩
  have c0 : zL za = lN 0 ↔ za = 0 := zL_eq hca z0
  have d0 : zL zb = lN 0 ↔ zb = 0 := zL_eq hda z0
  have hwin := wkz_in hza hzb 30
  refine vq_intro (by decide) (by exact Nat.le_of_ble_eq_true rfl) rfl ?_
  refine xq_aload_n dX11_works_0 rfl rfl ?_
  refine xq_getF clX11 (by decide) rfl fl_RX11_69 dX11_works_1 (Fx.s83 hF) (Fx.r83_33 hF) ?_
  refine xq_aload_n dX11_works_4 rfl rfl ?_
  refine xq_getIE clX11 (by decide) rfl fl_RX11_315 dX11_works_5 (Fx.s83 hF) hm ?_
  refine xq_iconst dX11_works_8 ic1 ?_
  skip
  refine xq_isubN dX11_works_9 (by omega) ?_
  rw [show m + 2 - 1 = m + 1 from rfl]
  refine xq_laldN (v := zL zb) dX11_works_10 (Fx.s102 hF) (by omega) (by decide) hb ?_
  refine xq_lstore_nX dX11_works_11 rfl rfl rfl ?_
  refine xq_iload_n dX11_works_12 rfl rfl ?_
  refine xq_sipush dX11_works_13 sp260 ?_
  refine xq_icmp_neN dX11_works_16 rfl (by omega) (by omega) ⟨fun h16 => ?_, fun h16 => ?_⟩
  · skip
    refine xq_aload_n dX11_works_46 rfl rfl ?_
    refine xq_getF clX11 (by decide) rfl fl_RX11_69 dX11_works_47 (Fx.s83 hF) (Fx.r83_33 hF) ?_
    refine xq_aload_n dX11_works_50 rfl rfl ?_
    refine xq_getIE clX11 (by decide) rfl fl_RX11_315 dX11_works_51 (Fx.s83 hF) hm ?_
    refine xq_iconst dX11_works_54 ic2 ?_
    refine xq_isubN dX11_works_55 (by omega) ?_
    rw [show m + 2 - 2 = m from rfl]
    refine xq_laldN (v := zL za) dX11_works_56 (Fx.s102 hF) (by omega) (by decide) ha ?_
    refine xq_lstoreX dX11_works_57 rfl rfl ?_
    refine xq_aload_n dX11_works_59 rfl rfl ?_
    refine xq_dup dX11_works_60 rfl ?_
    refine xq_getIE clX11 (by decide) rfl fl_RX11_315 dX11_works_61 (Fx.s83 hF) hm ?_
    refine xq_iconst dX11_works_64 ic1 ?_
    refine xq_isubN dX11_works_65 (by omega) ?_
    rw [show m + 2 - 1 = m + 1 from rfl]
    refine xq_putI clX11 (by decide) rfl fl_RX11_315 (Or.inl rfl) dX11_works_66 ⟨rfl, rfl⟩ (Fx.s83 hF) ?_
    refine xq_iload_n dX11_works_69 rfl rfl ?_
    refine xq_lookup dX11_works_70 rfl rfl rfl ?_
    refine xq_lload dX11_works_186 rfl ?_
    refine xq_lconst dX11_works_188 lc0 ?_
    refine xq_lcmp dX11_works_189 ?_
    refine xq_if_eq dX11_works_190 rfl ⟨fun h190 => ?_, fun h190 => ?_⟩
    · skip
      refine xq_lload dX11_works_212 rfl ?_
      refine xq_lload_n dX11_works_214 rfl rfl ?_
      refine xq_lmul dX11_works_215 ?_
      refine xq_lstoreX dX11_works_216 rfl rfl ?_
      refine xq_goto dX11_works_218 rfl ?_
      rw [lg_cmp_eq, c0] at h190
      rw [zL_mul, show za * zb = wkz 30 za zb from (if_pos (by rw [h190]; simp) : (if (za * zb).natAbs ≤ 1000000000000 then za * zb else MIN64) = za * zb).symm]
      refine xq_aload_n dX11_works_407 rfl rfl ?_
      refine xq_getF clX11 (by decide) rfl fl_RX11_69 dX11_works_408 (Fx.s83 hF) (Fx.r83_33 hF) ?_
      refine xq_aload_n dX11_works_411 rfl rfl ?_
      refine xq_getIE (v := nI (m + 1)) clX11 (by decide) rfl fl_RX11_315 dX11_works_412 (Fx.s83 hF) (by rw [hI_sI]; exact if_pos ⟨rfl, rfl⟩) ?_
      refine xq_iconst dX11_works_415 ic1 ?_
      refine xq_isubN dX11_works_416 (by omega) ?_
      rw [show m + 1 - 1 = m from rfl]
      refine xq_lload dX11_works_417 rfl ?_
      refine xq_lastN dX11_works_419 (Fx.s102 hF) (by omega) (by decide) ?_
      refine xq_lload dX11_works_420 rfl ?_
      refine xq_ldc2 (v := lN 1000000000000) dX11_works_422 kc_RX11_328 ?_
      refine xq_lcmp dX11_works_425 ?_
      refine xq_if_gt dX11_works_426 rfl ⟨fun h426 => ?_, fun h426 => ?_⟩
      · skip
        refine xq_iconst dX11_works_442 ic0 ?_
        refine xq_zret dX11_works_443 rfl (by decide) ?_
        rw [lg_cmp_gt, show (lN 1000000000000) = zL 1000000000000 from rfl, zL_lt ⟨by omega, by omega⟩ hwin] at h426
        refine ⟨false, _, ⟨?_, fun _ => ⟨by rw [hI_sL, hI_sI, if_pos ⟨rfl, rfl⟩], by rw [hL_sL, if_pos ⟨rfl, rfl⟩]⟩, fun j hj => by rw [hL_sL, if_neg (by omega)]; rfl, MoF.pL (MoF.pF (A := (fun q => q = 83 ∨ q = 102)) (F := (fun k => k = 34)) MoF.rf (Or.inl rfl) rfl _) (Or.inr rfl) _ _⟩, rfl⟩
        unfold inR
        rw [decide_eq_false (by omega)]
      · skip
        refine xq_lload dX11_works_429 rfl ?_
        refine xq_ldc2 dX11_works_431 kc_RX11_330 ?_
        refine xq_lcmp dX11_works_434 ?_
        refine xq_if_lt dX11_works_435 rfl ⟨fun h435 => ?_, fun h435 => ?_⟩
        · skip
          refine xq_iconst dX11_works_442 ic0 ?_
          refine xq_zret dX11_works_443 rfl (by decide) ?_
          rw [lg_cmp_gt, show (lN 1000000000000) = zL 1000000000000 from rfl, zL_lt ⟨by omega, by omega⟩ hwin] at h426
          rw [lg_cmp_lt, show (-1000000000000 : Int64) = zL (-1000000000000) by decide, zL_lt hwin ⟨by omega, by omega⟩] at h435
          refine ⟨false, _, ⟨?_, fun _ => ⟨by rw [hI_sL, hI_sI, if_pos ⟨rfl, rfl⟩], by rw [hL_sL, if_pos ⟨rfl, rfl⟩]⟩, fun j hj => by rw [hL_sL, if_neg (by omega)]; rfl, MoF.pL (MoF.pF (A := (fun q => q = 83 ∨ q = 102)) (F := (fun k => k = 34)) MoF.rf (Or.inl rfl) rfl _) (Or.inr rfl) _ _⟩, rfl⟩
          unfold inR
          rw [decide_eq_false (by omega)]
        · skip
          refine xq_iconst dX11_works_438 ic1 ?_
          refine xq_goto dX11_works_439 rfl ?_
          refine xq_zret dX11_works_443 rfl (by decide) ?_
          rw [lg_cmp_gt, show (lN 1000000000000) = zL 1000000000000 from rfl, zL_lt ⟨by omega, by omega⟩ hwin] at h426
          rw [lg_cmp_lt, show (-1000000000000 : Int64) = zL (-1000000000000) by decide, zL_lt hwin ⟨by omega, by omega⟩] at h435
          refine ⟨true, _, ⟨?_, fun _ => ⟨by rw [hI_sL, hI_sI, if_pos ⟨rfl, rfl⟩], by rw [hL_sL, if_pos ⟨rfl, rfl⟩]⟩, fun j hj => by rw [hL_sL, if_neg (by omega)]; rfl, MoF.pL (MoF.pF (A := (fun q => q = 83 ∨ q = 102)) (F := (fun k => k = 34)) MoF.rf (Or.inl rfl) rfl _) (Or.inr rfl) _ _⟩, rfl⟩
          unfold inR
          rw [decide_eq_true (by omega)]
    · skip
      refine xq_lload_n dX11_works_193 rfl rfl ?_
      refine xq_mabsL dX11_works_194 ml_RX11_322 (by exact Nat.le_of_ble_eq_true rfl) (by decide) ?_
      refine xq_ldc2 (v := lN 1000000000000) dX11_works_197 kc_RX11_328 ?_
      refine xq_lload dX11_works_200 rfl ?_
      refine xq_mabsL dX11_works_202 ml_RX11_322 (by exact Nat.le_of_ble_eq_true rfl) (by decide) ?_
      refine xq_ldiv dX11_works_205 (fun w => h190 ((lg_cmp_eq _ _).mpr (c0.mpr (by rw [zL_abs hca (by omega), show (0 : Int64) = zL 0 from rfl, zL_eq ⟨by omega, by omega⟩ z0] at w; omega)))) ?_
      rw [show (lN 1000000000000) = zL 1000000000000 from rfl, zL_abs hca (by omega), zL_abs hda (by omega), zL_div ⟨by omega, by omega⟩ ⟨by omega, by omega⟩ (fun w => h190 ((lg_cmp_eq _ _).mpr (c0.mpr (by omega)))) (by omega)]
      have hq : (Int.tdiv 1000000000000 (za.natAbs : Int)).natAbs ≤ 1000000000000 := by rw [Int.natAbs_tdiv]; exact Nat.div_le_self _ _
      refine xq_lcmp dX11_works_206 ?_
      refine xq_if_le dX11_works_207 rfl ⟨fun h207 => ?_, fun h207 => ?_⟩
      · skip
        refine xq_lload dX11_works_212 rfl ?_
        refine xq_lload_n dX11_works_214 rfl rfl ?_
        refine xq_lmul dX11_works_215 ?_
        refine xq_lstoreX dX11_works_216 rfl rfl ?_
        refine xq_goto dX11_works_218 rfl ?_
        rw [lg_cmp_eq, c0] at h190; have hm2 := mul_cmp (c := zb) h190; rw [lg_cmp_le, zL_le ⟨by omega, by omega⟩ ⟨by omega, by omega⟩] at h207
        rw [zL_mul, show za * zb = wkz 30 za zb from (if_pos (by rw [Int.mul_comm, ← hm2]; omega) : (if (za * zb).natAbs ≤ 1000000000000 then za * zb else MIN64) = za * zb).symm]
        refine xq_aload_n dX11_works_407 rfl rfl ?_
        refine xq_getF clX11 (by decide) rfl fl_RX11_69 dX11_works_408 (Fx.s83 hF) (Fx.r83_33 hF) ?_
        refine xq_aload_n dX11_works_411 rfl rfl ?_
        refine xq_getIE (v := nI (m + 1)) clX11 (by decide) rfl fl_RX11_315 dX11_works_412 (Fx.s83 hF) (by rw [hI_sI]; exact if_pos ⟨rfl, rfl⟩) ?_
        refine xq_iconst dX11_works_415 ic1 ?_
        refine xq_isubN dX11_works_416 (by omega) ?_
        rw [show m + 1 - 1 = m from rfl]
        refine xq_lload dX11_works_417 rfl ?_
        refine xq_lastN dX11_works_419 (Fx.s102 hF) (by omega) (by decide) ?_
        refine xq_lload dX11_works_420 rfl ?_
        refine xq_ldc2 (v := lN 1000000000000) dX11_works_422 kc_RX11_328 ?_
        refine xq_lcmp dX11_works_425 ?_
        refine xq_if_gt dX11_works_426 rfl ⟨fun h426 => ?_, fun h426 => ?_⟩
        · skip
          refine xq_iconst dX11_works_442 ic0 ?_
          refine xq_zret dX11_works_443 rfl (by decide) ?_
          rw [lg_cmp_gt, show (lN 1000000000000) = zL 1000000000000 from rfl, zL_lt ⟨by omega, by omega⟩ hwin] at h426
          refine ⟨false, _, ⟨?_, fun _ => ⟨by rw [hI_sL, hI_sI, if_pos ⟨rfl, rfl⟩], by rw [hL_sL, if_pos ⟨rfl, rfl⟩]⟩, fun j hj => by rw [hL_sL, if_neg (by omega)]; rfl, MoF.pL (MoF.pF (A := (fun q => q = 83 ∨ q = 102)) (F := (fun k => k = 34)) MoF.rf (Or.inl rfl) rfl _) (Or.inr rfl) _ _⟩, rfl⟩
          unfold inR
          rw [decide_eq_false (by omega)]
        · skip
          refine xq_lload dX11_works_429 rfl ?_
          refine xq_ldc2 dX11_works_431 kc_RX11_330 ?_
          refine xq_lcmp dX11_works_434 ?_
          refine xq_if_lt dX11_works_435 rfl ⟨fun h435 => ?_, fun h435 => ?_⟩
          · skip
            refine xq_iconst dX11_works_442 ic0 ?_
            refine xq_zret dX11_works_443 rfl (by decide) ?_
            rw [lg_cmp_gt, show (lN 1000000000000) = zL 1000000000000 from rfl, zL_lt ⟨by omega, by omega⟩ hwin] at h426
            rw [lg_cmp_lt, show (-1000000000000 : Int64) = zL (-1000000000000) by decide, zL_lt hwin ⟨by omega, by omega⟩] at h435
            refine ⟨false, _, ⟨?_, fun _ => ⟨by rw [hI_sL, hI_sI, if_pos ⟨rfl, rfl⟩], by rw [hL_sL, if_pos ⟨rfl, rfl⟩]⟩, fun j hj => by rw [hL_sL, if_neg (by omega)]; rfl, MoF.pL (MoF.pF (A := (fun q => q = 83 ∨ q = 102)) (F := (fun k => k = 34)) MoF.rf (Or.inl rfl) rfl _) (Or.inr rfl) _ _⟩, rfl⟩
            unfold inR
            rw [decide_eq_false (by omega)]
          · skip
            refine xq_iconst dX11_works_438 ic1 ?_
            refine xq_goto dX11_works_439 rfl ?_
            refine xq_zret dX11_works_443 rfl (by decide) ?_
            rw [lg_cmp_gt, show (lN 1000000000000) = zL 1000000000000 from rfl, zL_lt ⟨by omega, by omega⟩ hwin] at h426
            rw [lg_cmp_lt, show (-1000000000000 : Int64) = zL (-1000000000000) by decide, zL_lt hwin ⟨by omega, by omega⟩] at h435
            refine ⟨true, _, ⟨?_, fun _ => ⟨by rw [hI_sL, hI_sI, if_pos ⟨rfl, rfl⟩], by rw [hL_sL, if_pos ⟨rfl, rfl⟩]⟩, fun j hj => by rw [hL_sL, if_neg (by omega)]; rfl, MoF.pL (MoF.pF (A := (fun q => q = 83 ∨ q = 102)) (F := (fun k => k = 34)) MoF.rf (Or.inl rfl) rfl _) (Or.inr rfl) _ _⟩, rfl⟩
            unfold inR
            rw [decide_eq_true (by omega)]
      · skip
        refine xq_iconst dX11_works_210 ic0 ?_
        refine xq_zret dX11_works_211 rfl (by decide) ?_
        rw [lg_cmp_eq, c0] at h190; have hm2 := mul_cmp (c := zb) h190; rw [lg_cmp_le, zL_le ⟨by omega, by omega⟩ ⟨by omega, by omega⟩] at h207
        have ew : wkz 30 za zb = MIN64 := (if_neg (fun z => by rw [Int.mul_comm, ← hm2] at z; omega) : (if (za * zb).natAbs ≤ 1000000000000 then za * zb else MIN64) = MIN64)
        exact ⟨false, sI H 83 34 (nI (m + 1)), ⟨by rw [ew]; decide, fun z => (by cases z), fun j _ => rfl, MoF.pF (A := (fun q => q = 83 ∨ q = 102)) (F := (fun k => k = 34)) MoF.rf (Or.inl rfl) rfl _⟩, rfl⟩
  · skip
    exact absurd h16 (by decide)
theorem m_works_31 (hF : gFx S) (hm : hI H 83 34 = nI (m + 2)) (hm6 : m + 2 ≤ 64) (ha : hL H 102 m = zL za) (hb : hL H 102 (m + 1) = zL zb) (hza : -1000000000000 ≤ za ∧ za ≤ 1000000000000) (hzb : -1000000000000 ≤ zb ∧ zb ≤ 1000000000000) : Hv mX11_works 1 [.ref 83, vN 47] S H vB (fun x H' => x = inR (wkz 31 za zb) ∧ (x = true → hI H' 83 34 = nI (m + 1) ∧ hL H' 102 m = zL (wkz 31 za zb)) ∧ (∀ j, j < m → hL H' 102 j = hL H 102 j) ∧ MoF (fun q => q = 83 ∨ q = 102) (fun k => k = 34) H H') := by
  have hca : inB za := ⟨by omega, by omega⟩; have hda : inB zb := ⟨by omega, by omega⟩
  have z0 : inB 0 := ⟨by decide, by decide⟩
  have c0 : zL za = lN 0 ↔ za = 0 := zL_eq hca z0
  have d0 : zL zb = lN 0 ↔ zb = 0 := zL_eq hda z0
  have hwin := wkz_in hza hzb 31
  refine vq_intro (by decide) (by exact Nat.le_of_ble_eq_true rfl) rfl ?_
  refine xq_aload_n dX11_works_0 rfl rfl ?_
  refine xq_getF clX11 (by decide) rfl fl_RX11_69 dX11_works_1 (Fx.s83 hF) (Fx.r83_33 hF) ?_
  refine xq_aload_n dX11_works_4 rfl rfl ?_
  refine xq_getIE clX11 (by decide) rfl fl_RX11_315 dX11_works_5 (Fx.s83 hF) hm ?_
  refine xq_iconst dX11_works_8 ic1 ?_
  skip
  refine xq_isubN dX11_works_9 (by omega) ?_
  rw [show m + 2 - 1 = m + 1 from rfl]
  refine xq_laldN (v := zL zb) dX11_works_10 (Fx.s102 hF) (by omega) (by decide) hb ?_
  refine xq_lstore_nX dX11_works_11 rfl rfl rfl ?_
  refine xq_iload_n dX11_works_12 rfl rfl ?_
  refine xq_sipush dX11_works_13 sp260 ?_
  refine xq_icmp_neN dX11_works_16 rfl (by omega) (by omega) ⟨fun h16 => ?_, fun h16 => ?_⟩
  · skip
    refine xq_aload_n dX11_works_46 rfl rfl ?_
    refine xq_getF clX11 (by decide) rfl fl_RX11_69 dX11_works_47 (Fx.s83 hF) (Fx.r83_33 hF) ?_
    refine xq_aload_n dX11_works_50 rfl rfl ?_
    refine xq_getIE clX11 (by decide) rfl fl_RX11_315 dX11_works_51 (Fx.s83 hF) hm ?_
    refine xq_iconst dX11_works_54 ic2 ?_
    refine xq_isubN dX11_works_55 (by omega) ?_
    rw [show m + 2 - 2 = m from rfl]
    refine xq_laldN (v := zL za) dX11_works_56 (Fx.s102 hF) (by omega) (by decide) ha ?_
    refine xq_lstoreX dX11_works_57 rfl rfl ?_
    refine xq_aload_n dX11_works_59 rfl rfl ?_
    refine xq_dup dX11_works_60 rfl ?_
    refine xq_getIE clX11 (by decide) rfl fl_RX11_315 dX11_works_61 (Fx.s83 hF) hm ?_
    refine xq_iconst dX11_works_64 ic1 ?_
    refine xq_isubN dX11_works_65 (by omega) ?_
    rw [show m + 2 - 1 = m + 1 from rfl]
    refine xq_putI clX11 (by decide) rfl fl_RX11_315 (Or.inl rfl) dX11_works_66 ⟨rfl, rfl⟩ (Fx.s83 hF) ?_
    refine xq_iload_n dX11_works_69 rfl rfl ?_
    refine xq_lookup dX11_works_70 rfl rfl rfl ?_
    refine xq_lload_n dX11_works_221 rfl rfl ?_
    refine xq_lconst dX11_works_222 lc0 ?_
    refine xq_lcmp dX11_works_223 ?_
    refine xq_if_ne dX11_works_224 rfl ⟨fun h224 => ?_, fun h224 => ?_⟩
    · skip
      refine xq_lload dX11_works_229 rfl ?_
      refine xq_lload_n dX11_works_231 rfl rfl ?_
      refine xq_ldiv dX11_works_232 (fun w => h224 ((lg_cmp_eq _ _).mpr w)) ?_
      refine xq_lstoreX dX11_works_233 rfl rfl ?_
      refine xq_goto dX11_works_235 rfl ?_
      rw [lg_cmp_eq, d0] at h224
      rw [zL_div hca hda h224 (by omega), show za.tdiv zb = wkz 31 za zb from (if_neg h224 : (if zb = 0 then MIN64 else za.tdiv zb) = za.tdiv zb).symm]
      refine xq_aload_n dX11_works_407 rfl rfl ?_
      refine xq_getF clX11 (by decide) rfl fl_RX11_69 dX11_works_408 (Fx.s83 hF) (Fx.r83_33 hF) ?_
      refine xq_aload_n dX11_works_411 rfl rfl ?_
      refine xq_getIE (v := nI (m + 1)) clX11 (by decide) rfl fl_RX11_315 dX11_works_412 (Fx.s83 hF) (by rw [hI_sI]; exact if_pos ⟨rfl, rfl⟩) ?_
      refine xq_iconst dX11_works_415 ic1 ?_
      refine xq_isubN dX11_works_416 (by omega) ?_
      rw [show m + 1 - 1 = m from rfl]
      refine xq_lload dX11_works_417 rfl ?_
      refine xq_lastN dX11_works_419 (Fx.s102 hF) (by omega) (by decide) ?_
      refine xq_lload dX11_works_420 rfl ?_
      refine xq_ldc2 (v := lN 1000000000000) dX11_works_422 kc_RX11_328 ?_
      refine xq_lcmp dX11_works_425 ?_
      refine xq_if_gt dX11_works_426 rfl ⟨fun h426 => ?_, fun h426 => ?_⟩
      · skip
        refine xq_iconst dX11_works_442 ic0 ?_
        refine xq_zret dX11_works_443 rfl (by decide) ?_
        rw [lg_cmp_gt, show (lN 1000000000000) = zL 1000000000000 from rfl, zL_lt ⟨by omega, by omega⟩ hwin] at h426
        refine ⟨false, _, ⟨?_, fun _ => ⟨by rw [hI_sL, hI_sI, if_pos ⟨rfl, rfl⟩], by rw [hL_sL, if_pos ⟨rfl, rfl⟩]⟩, fun j hj => by rw [hL_sL, if_neg (by omega)]; rfl, MoF.pL (MoF.pF (A := (fun q => q = 83 ∨ q = 102)) (F := (fun k => k = 34)) MoF.rf (Or.inl rfl) rfl _) (Or.inr rfl) _ _⟩, rfl⟩
        unfold inR
        rw [decide_eq_false (by omega)]
      · skip
        refine xq_lload dX11_works_429 rfl ?_
        refine xq_ldc2 dX11_works_431 kc_RX11_330 ?_
        refine xq_lcmp dX11_works_434 ?_
        refine xq_if_lt dX11_works_435 rfl ⟨fun h435 => ?_, fun h435 => ?_⟩
        · skip
          refine xq_iconst dX11_works_442 ic0 ?_
          refine xq_zret dX11_works_443 rfl (by decide) ?_
          rw [lg_cmp_gt, show (lN 1000000000000) = zL 1000000000000 from rfl, zL_lt ⟨by omega, by omega⟩ hwin] at h426
          rw [lg_cmp_lt, show (-1000000000000 : Int64) = zL (-1000000000000) by decide, zL_lt hwin ⟨by omega, by omega⟩] at h435
          refine ⟨false, _, ⟨?_, fun _ => ⟨by rw [hI_sL, hI_sI, if_pos ⟨rfl, rfl⟩], by rw [hL_sL, if_pos ⟨rfl, rfl⟩]⟩, fun j hj => by rw [hL_sL, if_neg (by omega)]; rfl, MoF.pL (MoF.pF (A := (fun q => q = 83 ∨ q = 102)) (F := (fun k => k = 34)) MoF.rf (Or.inl rfl) rfl _) (Or.inr rfl) _ _⟩, rfl⟩
          unfold inR
          rw [decide_eq_false (by omega)]
        · skip
          refine xq_iconst dX11_works_438 ic1 ?_
          refine xq_goto dX11_works_439 rfl ?_
          refine xq_zret dX11_works_443 rfl (by decide) ?_
          rw [lg_cmp_gt, show (lN 1000000000000) = zL 1000000000000 from rfl, zL_lt ⟨by omega, by omega⟩ hwin] at h426
          rw [lg_cmp_lt, show (-1000000000000 : Int64) = zL (-1000000000000) by decide, zL_lt hwin ⟨by omega, by omega⟩] at h435
          refine ⟨true, _, ⟨?_, fun _ => ⟨by rw [hI_sL, hI_sI, if_pos ⟨rfl, rfl⟩], by rw [hL_sL, if_pos ⟨rfl, rfl⟩]⟩, fun j hj => by rw [hL_sL, if_neg (by omega)]; rfl, MoF.pL (MoF.pF (A := (fun q => q = 83 ∨ q = 102)) (F := (fun k => k = 34)) MoF.rf (Or.inl rfl) rfl _) (Or.inr rfl) _ _⟩, rfl⟩
          unfold inR
          rw [decide_eq_true (by omega)]
    · skip
      refine xq_iconst dX11_works_227 ic0 ?_
      refine xq_zret dX11_works_228 rfl (by decide) ?_
      rw [lg_cmp_eq, d0] at h224
      have ew : wkz 31 za zb = MIN64 := (if_pos h224 : (if zb = 0 then MIN64 else za.tdiv zb) = MIN64)
      exact ⟨false, sI H 83 34 (nI (m + 1)), ⟨by rw [ew]; decide, fun z => (by cases z), fun j _ => rfl, MoF.pF (A := (fun q => q = 83 ∨ q = 102)) (F := (fun k => k = 34)) MoF.rf (Or.inl rfl) rfl _⟩, rfl⟩
  · skip
    exact absurd h16 (by decide)
theorem m_works_32 (hF : gFx S) (hm : hI H 83 34 = nI (m + 2)) (hm6 : m + 2 ≤ 64) (ha : hL H 102 m = zL za) (hb : hL H 102 (m + 1) = zL zb) (hza : -1000000000000 ≤ za ∧ za ≤ 1000000000000) (hzb : -1000000000000 ≤ zb ∧ zb ≤ 1000000000000) : Hv mX11_works 1 [.ref 83, vN 60] S H vB (fun x H' => x = inR (wkz 32 za zb) ∧ (x = true → hI H' 83 34 = nI (m + 1) ∧ hL H' 102 m = zL (wkz 32 za zb)) ∧ (∀ j, j < m → hL H' 102 j = hL H 102 j) ∧ MoF (fun q => q = 83 ∨ q = 102) (fun k => k = 34) H H') := by
  have hca : inB za := ⟨by omega, by omega⟩; have hda : inB zb := ⟨by omega, by omega⟩
  have z0 : inB 0 := ⟨by decide, by decide⟩
  have c0 : zL za = lN 0 ↔ za = 0 := zL_eq hca z0
  have d0 : zL zb = lN 0 ↔ zb = 0 := zL_eq hda z0
  have hwin := wkz_in hza hzb 32
  refine vq_intro (by decide) (by exact Nat.le_of_ble_eq_true rfl) rfl ?_
  refine xq_aload_n dX11_works_0 rfl rfl ?_
  refine xq_getF clX11 (by decide) rfl fl_RX11_69 dX11_works_1 (Fx.s83 hF) (Fx.r83_33 hF) ?_
  refine xq_aload_n dX11_works_4 rfl rfl ?_
  refine xq_getIE clX11 (by decide) rfl fl_RX11_315 dX11_works_5 (Fx.s83 hF) hm ?_
  refine xq_iconst dX11_works_8 ic1 ?_
  skip
  refine xq_isubN dX11_works_9 (by omega) ?_
  rw [show m + 2 - 1 = m + 1 from rfl]
  refine xq_laldN (v := zL zb) dX11_works_10 (Fx.s102 hF) (by omega) (by decide) hb ?_
  refine xq_lstore_nX dX11_works_11 rfl rfl rfl ?_
  refine xq_iload_n dX11_works_12 rfl rfl ?_
  refine xq_sipush dX11_works_13 sp260 ?_
  refine xq_icmp_neN dX11_works_16 rfl (by omega) (by omega) ⟨fun h16 => ?_, fun h16 => ?_⟩
  · skip
    refine xq_aload_n dX11_works_46 rfl rfl ?_
    refine xq_getF clX11 (by decide) rfl fl_RX11_69 dX11_works_47 (Fx.s83 hF) (Fx.r83_33 hF) ?_
    refine xq_aload_n dX11_works_50 rfl rfl ?_
    refine xq_getIE clX11 (by decide) rfl fl_RX11_315 dX11_works_51 (Fx.s83 hF) hm ?_
    refine xq_iconst dX11_works_54 ic2 ?_
    refine xq_isubN dX11_works_55 (by omega) ?_
    rw [show m + 2 - 2 = m from rfl]
    refine xq_laldN (v := zL za) dX11_works_56 (Fx.s102 hF) (by omega) (by decide) ha ?_
    refine xq_lstoreX dX11_works_57 rfl rfl ?_
    refine xq_aload_n dX11_works_59 rfl rfl ?_
    refine xq_dup dX11_works_60 rfl ?_
    refine xq_getIE clX11 (by decide) rfl fl_RX11_315 dX11_works_61 (Fx.s83 hF) hm ?_
    refine xq_iconst dX11_works_64 ic1 ?_
    refine xq_isubN dX11_works_65 (by omega) ?_
    rw [show m + 2 - 1 = m + 1 from rfl]
    refine xq_putI clX11 (by decide) rfl fl_RX11_315 (Or.inl rfl) dX11_works_66 ⟨rfl, rfl⟩ (Fx.s83 hF) ?_
    refine xq_iload_n dX11_works_69 rfl rfl ?_
    refine xq_lookup dX11_works_70 rfl rfl rfl ?_
    refine xq_lload dX11_works_238 rfl ?_
    refine xq_lload_n dX11_works_240 rfl rfl ?_
    refine xq_lcmp dX11_works_241 ?_
    refine xq_if_ge dX11_works_242 rfl ⟨fun h242 => ?_, fun h242 => ?_⟩
    · skip
      refine xq_iconst dX11_works_249 ic0 ?_
      refine xq_callS1P gd_X11_oneIf dX11_works_250 ml_RX11_318 im_X11_oneIf (by exact Nat.le_of_ble_eq_true rfl) (by decide) m_oneIf0 ?_
      refine xq_lstoreX dX11_works_253 rfl rfl ?_
      refine xq_goto dX11_works_255 rfl ?_
      rw [lg_cmp_ge] at h242; rw [(zL_le hda hca)] at h242
      have ew : wkz 32 za zb = 0 := (b2z_0 (by omega) : b2z (za < zb) = 0)
      rw [show lN 0 = zL (wkz 32 za zb) by rw [ew]; rfl]
      refine xq_aload_n dX11_works_407 rfl rfl ?_
      refine xq_getF clX11 (by decide) rfl fl_RX11_69 dX11_works_408 (Fx.s83 hF) (Fx.r83_33 hF) ?_
      refine xq_aload_n dX11_works_411 rfl rfl ?_
      refine xq_getIE (v := nI (m + 1)) clX11 (by decide) rfl fl_RX11_315 dX11_works_412 (Fx.s83 hF) (by rw [hI_sI]; exact if_pos ⟨rfl, rfl⟩) ?_
      refine xq_iconst dX11_works_415 ic1 ?_
      refine xq_isubN dX11_works_416 (by omega) ?_
      rw [show m + 1 - 1 = m from rfl]
      refine xq_lload dX11_works_417 rfl ?_
      refine xq_lastN dX11_works_419 (Fx.s102 hF) (by omega) (by decide) ?_
      refine xq_lload dX11_works_420 rfl ?_
      refine xq_ldc2 (v := lN 1000000000000) dX11_works_422 kc_RX11_328 ?_
      refine xq_lcmp dX11_works_425 ?_
      refine xq_if_gt dX11_works_426 rfl ⟨fun h426 => ?_, fun h426 => ?_⟩
      · skip
        refine xq_iconst dX11_works_442 ic0 ?_
        refine xq_zret dX11_works_443 rfl (by decide) ?_
        rw [lg_cmp_gt, show (lN 1000000000000) = zL 1000000000000 from rfl, zL_lt ⟨by omega, by omega⟩ hwin] at h426
        refine ⟨false, _, ⟨?_, fun _ => ⟨by rw [hI_sL, hI_sI, if_pos ⟨rfl, rfl⟩], by rw [hL_sL, if_pos ⟨rfl, rfl⟩]⟩, fun j hj => by rw [hL_sL, if_neg (by omega)]; rfl, MoF.pL (MoF.pF (A := (fun q => q = 83 ∨ q = 102)) (F := (fun k => k = 34)) MoF.rf (Or.inl rfl) rfl _) (Or.inr rfl) _ _⟩, rfl⟩
        unfold inR
        rw [decide_eq_false (by omega)]
      · skip
        refine xq_lload dX11_works_429 rfl ?_
        refine xq_ldc2 dX11_works_431 kc_RX11_330 ?_
        refine xq_lcmp dX11_works_434 ?_
        refine xq_if_lt dX11_works_435 rfl ⟨fun h435 => ?_, fun h435 => ?_⟩
        · skip
          refine xq_iconst dX11_works_442 ic0 ?_
          refine xq_zret dX11_works_443 rfl (by decide) ?_
          rw [lg_cmp_gt, show (lN 1000000000000) = zL 1000000000000 from rfl, zL_lt ⟨by omega, by omega⟩ hwin] at h426
          rw [lg_cmp_lt, show (-1000000000000 : Int64) = zL (-1000000000000) by decide, zL_lt hwin ⟨by omega, by omega⟩] at h435
          refine ⟨false, _, ⟨?_, fun _ => ⟨by rw [hI_sL, hI_sI, if_pos ⟨rfl, rfl⟩], by rw [hL_sL, if_pos ⟨rfl, rfl⟩]⟩, fun j hj => by rw [hL_sL, if_neg (by omega)]; rfl, MoF.pL (MoF.pF (A := (fun q => q = 83 ∨ q = 102)) (F := (fun k => k = 34)) MoF.rf (Or.inl rfl) rfl _) (Or.inr rfl) _ _⟩, rfl⟩
          unfold inR
          rw [decide_eq_false (by omega)]
        · skip
          refine xq_iconst dX11_works_438 ic1 ?_
          refine xq_goto dX11_works_439 rfl ?_
          refine xq_zret dX11_works_443 rfl (by decide) ?_
          rw [lg_cmp_gt, show (lN 1000000000000) = zL 1000000000000 from rfl, zL_lt ⟨by omega, by omega⟩ hwin] at h426
          rw [lg_cmp_lt, show (-1000000000000 : Int64) = zL (-1000000000000) by decide, zL_lt hwin ⟨by omega, by omega⟩] at h435
          refine ⟨true, _, ⟨?_, fun _ => ⟨by rw [hI_sL, hI_sI, if_pos ⟨rfl, rfl⟩], by rw [hL_sL, if_pos ⟨rfl, rfl⟩]⟩, fun j hj => by rw [hL_sL, if_neg (by omega)]; rfl, MoF.pL (MoF.pF (A := (fun q => q = 83 ∨ q = 102)) (F := (fun k => k = 34)) MoF.rf (Or.inl rfl) rfl _) (Or.inr rfl) _ _⟩, rfl⟩
          unfold inR
          rw [decide_eq_true (by omega)]
    · skip
      refine xq_iconst dX11_works_245 ic1 ?_
      refine xq_goto dX11_works_246 rfl ?_
      refine xq_callS1P gd_X11_oneIf dX11_works_250 ml_RX11_318 im_X11_oneIf (by exact Nat.le_of_ble_eq_true rfl) (by decide) m_oneIf1 ?_
      refine xq_lstoreX dX11_works_253 rfl rfl ?_
      refine xq_goto dX11_works_255 rfl ?_
      rw [lg_cmp_ge] at h242; rw [(zL_le hda hca)] at h242
      have ew : wkz 32 za zb = 1 := (b2z_1 (by omega) : b2z (za < zb) = 1)
      rw [show lN 1 = zL (wkz 32 za zb) by rw [ew]; rfl]
      refine xq_aload_n dX11_works_407 rfl rfl ?_
      refine xq_getF clX11 (by decide) rfl fl_RX11_69 dX11_works_408 (Fx.s83 hF) (Fx.r83_33 hF) ?_
      refine xq_aload_n dX11_works_411 rfl rfl ?_
      refine xq_getIE (v := nI (m + 1)) clX11 (by decide) rfl fl_RX11_315 dX11_works_412 (Fx.s83 hF) (by rw [hI_sI]; exact if_pos ⟨rfl, rfl⟩) ?_
      refine xq_iconst dX11_works_415 ic1 ?_
      refine xq_isubN dX11_works_416 (by omega) ?_
      rw [show m + 1 - 1 = m from rfl]
      refine xq_lload dX11_works_417 rfl ?_
      refine xq_lastN dX11_works_419 (Fx.s102 hF) (by omega) (by decide) ?_
      refine xq_lload dX11_works_420 rfl ?_
      refine xq_ldc2 (v := lN 1000000000000) dX11_works_422 kc_RX11_328 ?_
      refine xq_lcmp dX11_works_425 ?_
      refine xq_if_gt dX11_works_426 rfl ⟨fun h426 => ?_, fun h426 => ?_⟩
      · skip
        refine xq_iconst dX11_works_442 ic0 ?_
        refine xq_zret dX11_works_443 rfl (by decide) ?_
        rw [lg_cmp_gt, show (lN 1000000000000) = zL 1000000000000 from rfl, zL_lt ⟨by omega, by omega⟩ hwin] at h426
        refine ⟨false, _, ⟨?_, fun _ => ⟨by rw [hI_sL, hI_sI, if_pos ⟨rfl, rfl⟩], by rw [hL_sL, if_pos ⟨rfl, rfl⟩]⟩, fun j hj => by rw [hL_sL, if_neg (by omega)]; rfl, MoF.pL (MoF.pF (A := (fun q => q = 83 ∨ q = 102)) (F := (fun k => k = 34)) MoF.rf (Or.inl rfl) rfl _) (Or.inr rfl) _ _⟩, rfl⟩
        unfold inR
        rw [decide_eq_false (by omega)]
      · skip
        refine xq_lload dX11_works_429 rfl ?_
        refine xq_ldc2 dX11_works_431 kc_RX11_330 ?_
        refine xq_lcmp dX11_works_434 ?_
        refine xq_if_lt dX11_works_435 rfl ⟨fun h435 => ?_, fun h435 => ?_⟩
        · skip
          refine xq_iconst dX11_works_442 ic0 ?_
          refine xq_zret dX11_works_443 rfl (by decide) ?_
          rw [lg_cmp_gt, show (lN 1000000000000) = zL 1000000000000 from rfl, zL_lt ⟨by omega, by omega⟩ hwin] at h426
          rw [lg_cmp_lt, show (-1000000000000 : Int64) = zL (-1000000000000) by decide, zL_lt hwin ⟨by omega, by omega⟩] at h435
          refine ⟨false, _, ⟨?_, fun _ => ⟨by rw [hI_sL, hI_sI, if_pos ⟨rfl, rfl⟩], by rw [hL_sL, if_pos ⟨rfl, rfl⟩]⟩, fun j hj => by rw [hL_sL, if_neg (by omega)]; rfl, MoF.pL (MoF.pF (A := (fun q => q = 83 ∨ q = 102)) (F := (fun k => k = 34)) MoF.rf (Or.inl rfl) rfl _) (Or.inr rfl) _ _⟩, rfl⟩
          unfold inR
          rw [decide_eq_false (by omega)]
        · skip
          refine xq_iconst dX11_works_438 ic1 ?_
          refine xq_goto dX11_works_439 rfl ?_
          refine xq_zret dX11_works_443 rfl (by decide) ?_
          rw [lg_cmp_gt, show (lN 1000000000000) = zL 1000000000000 from rfl, zL_lt ⟨by omega, by omega⟩ hwin] at h426
          rw [lg_cmp_lt, show (-1000000000000 : Int64) = zL (-1000000000000) by decide, zL_lt hwin ⟨by omega, by omega⟩] at h435
          refine ⟨true, _, ⟨?_, fun _ => ⟨by rw [hI_sL, hI_sI, if_pos ⟨rfl, rfl⟩], by rw [hL_sL, if_pos ⟨rfl, rfl⟩]⟩, fun j hj => by rw [hL_sL, if_neg (by omega)]; rfl, MoF.pL (MoF.pF (A := (fun q => q = 83 ∨ q = 102)) (F := (fun k => k = 34)) MoF.rf (Or.inl rfl) rfl _) (Or.inr rfl) _ _⟩, rfl⟩
          unfold inR
          rw [decide_eq_true (by omega)]
  · skip
    exact absurd h16 (by decide)
theorem m_works_33 (hF : gFx S) (hm : hI H 83 34 = nI (m + 2)) (hm6 : m + 2 ≤ 64) (ha : hL H 102 m = zL za) (hb : hL H 102 (m + 1) = zL zb) (hza : -1000000000000 ≤ za ∧ za ≤ 1000000000000) (hzb : -1000000000000 ≤ zb ∧ zb ≤ 1000000000000) : Hv mX11_works 1 [.ref 83, vN 256] S H vB (fun x H' => x = inR (wkz 33 za zb) ∧ (x = true → hI H' 83 34 = nI (m + 1) ∧ hL H' 102 m = zL (wkz 33 za zb)) ∧ (∀ j, j < m → hL H' 102 j = hL H 102 j) ∧ MoF (fun q => q = 83 ∨ q = 102) (fun k => k = 34) H H') := by
  have hca : inB za := ⟨by omega, by omega⟩; have hda : inB zb := ⟨by omega, by omega⟩
  have z0 : inB 0 := ⟨by decide, by decide⟩
  have c0 : zL za = lN 0 ↔ za = 0 := zL_eq hca z0
  have d0 : zL zb = lN 0 ↔ zb = 0 := zL_eq hda z0
  have hwin := wkz_in hza hzb 33
  refine vq_intro (by decide) (by exact Nat.le_of_ble_eq_true rfl) rfl ?_
  refine xq_aload_n dX11_works_0 rfl rfl ?_
  refine xq_getF clX11 (by decide) rfl fl_RX11_69 dX11_works_1 (Fx.s83 hF) (Fx.r83_33 hF) ?_
  refine xq_aload_n dX11_works_4 rfl rfl ?_
  refine xq_getIE clX11 (by decide) rfl fl_RX11_315 dX11_works_5 (Fx.s83 hF) hm ?_
  refine xq_iconst dX11_works_8 ic1 ?_
  skip
  refine xq_isubN dX11_works_9 (by omega) ?_
  rw [show m + 2 - 1 = m + 1 from rfl]
  refine xq_laldN (v := zL zb) dX11_works_10 (Fx.s102 hF) (by omega) (by decide) hb ?_
  refine xq_lstore_nX dX11_works_11 rfl rfl rfl ?_
  refine xq_iload_n dX11_works_12 rfl rfl ?_
  refine xq_sipush dX11_works_13 sp260 ?_
  refine xq_icmp_neN dX11_works_16 rfl (by omega) (by omega) ⟨fun h16 => ?_, fun h16 => ?_⟩
  · skip
    refine xq_aload_n dX11_works_46 rfl rfl ?_
    refine xq_getF clX11 (by decide) rfl fl_RX11_69 dX11_works_47 (Fx.s83 hF) (Fx.r83_33 hF) ?_
    refine xq_aload_n dX11_works_50 rfl rfl ?_
    refine xq_getIE clX11 (by decide) rfl fl_RX11_315 dX11_works_51 (Fx.s83 hF) hm ?_
    refine xq_iconst dX11_works_54 ic2 ?_
    refine xq_isubN dX11_works_55 (by omega) ?_
    rw [show m + 2 - 2 = m from rfl]
    refine xq_laldN (v := zL za) dX11_works_56 (Fx.s102 hF) (by omega) (by decide) ha ?_
    refine xq_lstoreX dX11_works_57 rfl rfl ?_
    refine xq_aload_n dX11_works_59 rfl rfl ?_
    refine xq_dup dX11_works_60 rfl ?_
    refine xq_getIE clX11 (by decide) rfl fl_RX11_315 dX11_works_61 (Fx.s83 hF) hm ?_
    refine xq_iconst dX11_works_64 ic1 ?_
    refine xq_isubN dX11_works_65 (by omega) ?_
    rw [show m + 2 - 1 = m + 1 from rfl]
    refine xq_putI clX11 (by decide) rfl fl_RX11_315 (Or.inl rfl) dX11_works_66 ⟨rfl, rfl⟩ (Fx.s83 hF) ?_
    refine xq_iload_n dX11_works_69 rfl rfl ?_
    refine xq_lookup dX11_works_70 rfl rfl rfl ?_
    refine xq_lload dX11_works_298 rfl ?_
    refine xq_lload_n dX11_works_300 rfl rfl ?_
    refine xq_lcmp dX11_works_301 ?_
    refine xq_if_gt dX11_works_302 rfl ⟨fun h302 => ?_, fun h302 => ?_⟩
    · skip
      refine xq_iconst dX11_works_309 ic0 ?_
      refine xq_callS1P gd_X11_oneIf dX11_works_310 ml_RX11_318 im_X11_oneIf (by exact Nat.le_of_ble_eq_true rfl) (by decide) m_oneIf0 ?_
      refine xq_lstoreX dX11_works_313 rfl rfl ?_
      refine xq_goto dX11_works_315 rfl ?_
      rw [lg_cmp_gt] at h302; rw [(zL_lt hda hca)] at h302
      have ew : wkz 33 za zb = 0 := (b2z_0 (by omega) : b2z (za ≤ zb) = 0)
      rw [show lN 0 = zL (wkz 33 za zb) by rw [ew]; rfl]
      refine xq_aload_n dX11_works_407 rfl rfl ?_
      refine xq_getF clX11 (by decide) rfl fl_RX11_69 dX11_works_408 (Fx.s83 hF) (Fx.r83_33 hF) ?_
      refine xq_aload_n dX11_works_411 rfl rfl ?_
      refine xq_getIE (v := nI (m + 1)) clX11 (by decide) rfl fl_RX11_315 dX11_works_412 (Fx.s83 hF) (by rw [hI_sI]; exact if_pos ⟨rfl, rfl⟩) ?_
      refine xq_iconst dX11_works_415 ic1 ?_
      refine xq_isubN dX11_works_416 (by omega) ?_
      rw [show m + 1 - 1 = m from rfl]
      refine xq_lload dX11_works_417 rfl ?_
      refine xq_lastN dX11_works_419 (Fx.s102 hF) (by omega) (by decide) ?_
      refine xq_lload dX11_works_420 rfl ?_
      refine xq_ldc2 (v := lN 1000000000000) dX11_works_422 kc_RX11_328 ?_
      refine xq_lcmp dX11_works_425 ?_
      refine xq_if_gt dX11_works_426 rfl ⟨fun h426 => ?_, fun h426 => ?_⟩
      · skip
        refine xq_iconst dX11_works_442 ic0 ?_
        refine xq_zret dX11_works_443 rfl (by decide) ?_
        rw [lg_cmp_gt, show (lN 1000000000000) = zL 1000000000000 from rfl, zL_lt ⟨by omega, by omega⟩ hwin] at h426
        refine ⟨false, _, ⟨?_, fun _ => ⟨by rw [hI_sL, hI_sI, if_pos ⟨rfl, rfl⟩], by rw [hL_sL, if_pos ⟨rfl, rfl⟩]⟩, fun j hj => by rw [hL_sL, if_neg (by omega)]; rfl, MoF.pL (MoF.pF (A := (fun q => q = 83 ∨ q = 102)) (F := (fun k => k = 34)) MoF.rf (Or.inl rfl) rfl _) (Or.inr rfl) _ _⟩, rfl⟩
        unfold inR
        rw [decide_eq_false (by omega)]
      · skip
        refine xq_lload dX11_works_429 rfl ?_
        refine xq_ldc2 dX11_works_431 kc_RX11_330 ?_
        refine xq_lcmp dX11_works_434 ?_
        refine xq_if_lt dX11_works_435 rfl ⟨fun h435 => ?_, fun h435 => ?_⟩
        · skip
          refine xq_iconst dX11_works_442 ic0 ?_
          refine xq_zret dX11_works_443 rfl (by decide) ?_
          rw [lg_cmp_gt, show (lN 1000000000000) = zL 1000000000000 from rfl, zL_lt ⟨by omega, by omega⟩ hwin] at h426
          rw [lg_cmp_lt, show (-1000000000000 : Int64) = zL (-1000000000000) by decide, zL_lt hwin ⟨by omega, by omega⟩] at h435
          refine ⟨false, _, ⟨?_, fun _ => ⟨by rw [hI_sL, hI_sI, if_pos ⟨rfl, rfl⟩], by rw [hL_sL, if_pos ⟨rfl, rfl⟩]⟩, fun j hj => by rw [hL_sL, if_neg (by omega)]; rfl, MoF.pL (MoF.pF (A := (fun q => q = 83 ∨ q = 102)) (F := (fun k => k = 34)) MoF.rf (Or.inl rfl) rfl _) (Or.inr rfl) _ _⟩, rfl⟩
          unfold inR
          rw [decide_eq_false (by omega)]
        · skip
          refine xq_iconst dX11_works_438 ic1 ?_
          refine xq_goto dX11_works_439 rfl ?_
          refine xq_zret dX11_works_443 rfl (by decide) ?_
          rw [lg_cmp_gt, show (lN 1000000000000) = zL 1000000000000 from rfl, zL_lt ⟨by omega, by omega⟩ hwin] at h426
          rw [lg_cmp_lt, show (-1000000000000 : Int64) = zL (-1000000000000) by decide, zL_lt hwin ⟨by omega, by omega⟩] at h435
          refine ⟨true, _, ⟨?_, fun _ => ⟨by rw [hI_sL, hI_sI, if_pos ⟨rfl, rfl⟩], by rw [hL_sL, if_pos ⟨rfl, rfl⟩]⟩, fun j hj => by rw [hL_sL, if_neg (by omega)]; rfl, MoF.pL (MoF.pF (A := (fun q => q = 83 ∨ q = 102)) (F := (fun k => k = 34)) MoF.rf (Or.inl rfl) rfl _) (Or.inr rfl) _ _⟩, rfl⟩
          unfold inR
          rw [decide_eq_true (by omega)]
    · skip
      refine xq_iconst dX11_works_305 ic1 ?_
      refine xq_goto dX11_works_306 rfl ?_
      refine xq_callS1P gd_X11_oneIf dX11_works_310 ml_RX11_318 im_X11_oneIf (by exact Nat.le_of_ble_eq_true rfl) (by decide) m_oneIf1 ?_
      refine xq_lstoreX dX11_works_313 rfl rfl ?_
      refine xq_goto dX11_works_315 rfl ?_
      rw [lg_cmp_gt] at h302; rw [(zL_lt hda hca)] at h302
      have ew : wkz 33 za zb = 1 := (b2z_1 (by omega) : b2z (za ≤ zb) = 1)
      rw [show lN 1 = zL (wkz 33 za zb) by rw [ew]; rfl]
      refine xq_aload_n dX11_works_407 rfl rfl ?_
      refine xq_getF clX11 (by decide) rfl fl_RX11_69 dX11_works_408 (Fx.s83 hF) (Fx.r83_33 hF) ?_
      refine xq_aload_n dX11_works_411 rfl rfl ?_
      refine xq_getIE (v := nI (m + 1)) clX11 (by decide) rfl fl_RX11_315 dX11_works_412 (Fx.s83 hF) (by rw [hI_sI]; exact if_pos ⟨rfl, rfl⟩) ?_
      refine xq_iconst dX11_works_415 ic1 ?_
      refine xq_isubN dX11_works_416 (by omega) ?_
      rw [show m + 1 - 1 = m from rfl]
      refine xq_lload dX11_works_417 rfl ?_
      refine xq_lastN dX11_works_419 (Fx.s102 hF) (by omega) (by decide) ?_
      refine xq_lload dX11_works_420 rfl ?_
      refine xq_ldc2 (v := lN 1000000000000) dX11_works_422 kc_RX11_328 ?_
      refine xq_lcmp dX11_works_425 ?_
      refine xq_if_gt dX11_works_426 rfl ⟨fun h426 => ?_, fun h426 => ?_⟩
      · skip
        refine xq_iconst dX11_works_442 ic0 ?_
        refine xq_zret dX11_works_443 rfl (by decide) ?_
        rw [lg_cmp_gt, show (lN 1000000000000) = zL 1000000000000 from rfl, zL_lt ⟨by omega, by omega⟩ hwin] at h426
        refine ⟨false, _, ⟨?_, fun _ => ⟨by rw [hI_sL, hI_sI, if_pos ⟨rfl, rfl⟩], by rw [hL_sL, if_pos ⟨rfl, rfl⟩]⟩, fun j hj => by rw [hL_sL, if_neg (by omega)]; rfl, MoF.pL (MoF.pF (A := (fun q => q = 83 ∨ q = 102)) (F := (fun k => k = 34)) MoF.rf (Or.inl rfl) rfl _) (Or.inr rfl) _ _⟩, rfl⟩
        unfold inR
        rw [decide_eq_false (by omega)]
      · skip
        refine xq_lload dX11_works_429 rfl ?_
        refine xq_ldc2 dX11_works_431 kc_RX11_330 ?_
        refine xq_lcmp dX11_works_434 ?_
        refine xq_if_lt dX11_works_435 rfl ⟨fun h435 => ?_, fun h435 => ?_⟩
        · skip
          refine xq_iconst dX11_works_442 ic0 ?_
          refine xq_zret dX11_works_443 rfl (by decide) ?_
          rw [lg_cmp_gt, show (lN 1000000000000) = zL 1000000000000 from rfl, zL_lt ⟨by omega, by omega⟩ hwin] at h426
          rw [lg_cmp_lt, show (-1000000000000 : Int64) = zL (-1000000000000) by decide, zL_lt hwin ⟨by omega, by omega⟩] at h435
          refine ⟨false, _, ⟨?_, fun _ => ⟨by rw [hI_sL, hI_sI, if_pos ⟨rfl, rfl⟩], by rw [hL_sL, if_pos ⟨rfl, rfl⟩]⟩, fun j hj => by rw [hL_sL, if_neg (by omega)]; rfl, MoF.pL (MoF.pF (A := (fun q => q = 83 ∨ q = 102)) (F := (fun k => k = 34)) MoF.rf (Or.inl rfl) rfl _) (Or.inr rfl) _ _⟩, rfl⟩
          unfold inR
          rw [decide_eq_false (by omega)]
        · skip
          refine xq_iconst dX11_works_438 ic1 ?_
          refine xq_goto dX11_works_439 rfl ?_
          refine xq_zret dX11_works_443 rfl (by decide) ?_
          rw [lg_cmp_gt, show (lN 1000000000000) = zL 1000000000000 from rfl, zL_lt ⟨by omega, by omega⟩ hwin] at h426
          rw [lg_cmp_lt, show (-1000000000000 : Int64) = zL (-1000000000000) by decide, zL_lt hwin ⟨by omega, by omega⟩] at h435
          refine ⟨true, _, ⟨?_, fun _ => ⟨by rw [hI_sL, hI_sI, if_pos ⟨rfl, rfl⟩], by rw [hL_sL, if_pos ⟨rfl, rfl⟩]⟩, fun j hj => by rw [hL_sL, if_neg (by omega)]; rfl, MoF.pL (MoF.pF (A := (fun q => q = 83 ∨ q = 102)) (F := (fun k => k = 34)) MoF.rf (Or.inl rfl) rfl _) (Or.inr rfl) _ _⟩, rfl⟩
          unfold inR
          rw [decide_eq_true (by omega)]
  · skip
    exact absurd h16 (by decide)
theorem m_works_34 (hF : gFx S) (hm : hI H 83 34 = nI (m + 2)) (hm6 : m + 2 ≤ 64) (ha : hL H 102 m = zL za) (hb : hL H 102 (m + 1) = zL zb) (hza : -1000000000000 ≤ za ∧ za ≤ 1000000000000) (hzb : -1000000000000 ≤ zb ∧ zb ≤ 1000000000000) : Hv mX11_works 1 [.ref 83, vN 61] S H vB (fun x H' => x = inR (wkz 34 za zb) ∧ (x = true → hI H' 83 34 = nI (m + 1) ∧ hL H' 102 m = zL (wkz 34 za zb)) ∧ (∀ j, j < m → hL H' 102 j = hL H 102 j) ∧ MoF (fun q => q = 83 ∨ q = 102) (fun k => k = 34) H H') := by
  have hca : inB za := ⟨by omega, by omega⟩; have hda : inB zb := ⟨by omega, by omega⟩
  have z0 : inB 0 := ⟨by decide, by decide⟩
  have c0 : zL za = lN 0 ↔ za = 0 := zL_eq hca z0
  have d0 : zL zb = lN 0 ↔ zb = 0 := zL_eq hda z0
  have hwin := wkz_in hza hzb 34
  refine vq_intro (by decide) (by exact Nat.le_of_ble_eq_true rfl) rfl ?_
  refine xq_aload_n dX11_works_0 rfl rfl ?_
  refine xq_getF clX11 (by decide) rfl fl_RX11_69 dX11_works_1 (Fx.s83 hF) (Fx.r83_33 hF) ?_
  refine xq_aload_n dX11_works_4 rfl rfl ?_
  refine xq_getIE clX11 (by decide) rfl fl_RX11_315 dX11_works_5 (Fx.s83 hF) hm ?_
  refine xq_iconst dX11_works_8 ic1 ?_
  skip
  refine xq_isubN dX11_works_9 (by omega) ?_
  rw [show m + 2 - 1 = m + 1 from rfl]
  refine xq_laldN (v := zL zb) dX11_works_10 (Fx.s102 hF) (by omega) (by decide) hb ?_
  refine xq_lstore_nX dX11_works_11 rfl rfl rfl ?_
  refine xq_iload_n dX11_works_12 rfl rfl ?_
  refine xq_sipush dX11_works_13 sp260 ?_
  refine xq_icmp_neN dX11_works_16 rfl (by omega) (by omega) ⟨fun h16 => ?_, fun h16 => ?_⟩
  · skip
    refine xq_aload_n dX11_works_46 rfl rfl ?_
    refine xq_getF clX11 (by decide) rfl fl_RX11_69 dX11_works_47 (Fx.s83 hF) (Fx.r83_33 hF) ?_
    refine xq_aload_n dX11_works_50 rfl rfl ?_
    refine xq_getIE clX11 (by decide) rfl fl_RX11_315 dX11_works_51 (Fx.s83 hF) hm ?_
    refine xq_iconst dX11_works_54 ic2 ?_
    refine xq_isubN dX11_works_55 (by omega) ?_
    rw [show m + 2 - 2 = m from rfl]
    refine xq_laldN (v := zL za) dX11_works_56 (Fx.s102 hF) (by omega) (by decide) ha ?_
    refine xq_lstoreX dX11_works_57 rfl rfl ?_
    refine xq_aload_n dX11_works_59 rfl rfl ?_
    refine xq_dup dX11_works_60 rfl ?_
    refine xq_getIE clX11 (by decide) rfl fl_RX11_315 dX11_works_61 (Fx.s83 hF) hm ?_
    refine xq_iconst dX11_works_64 ic1 ?_
    refine xq_isubN dX11_works_65 (by omega) ?_
    rw [show m + 2 - 1 = m + 1 from rfl]
    refine xq_putI clX11 (by decide) rfl fl_RX11_315 (Or.inl rfl) dX11_works_66 ⟨rfl, rfl⟩ (Fx.s83 hF) ?_
    refine xq_iload_n dX11_works_69 rfl rfl ?_
    refine xq_lookup dX11_works_70 rfl rfl rfl ?_
    refine xq_lload dX11_works_278 rfl ?_
    refine xq_lload_n dX11_works_280 rfl rfl ?_
    refine xq_lcmp dX11_works_281 ?_
    refine xq_if_ne dX11_works_282 rfl ⟨fun h282 => ?_, fun h282 => ?_⟩
    · skip
      refine xq_iconst dX11_works_289 ic0 ?_
      refine xq_callS1P gd_X11_oneIf dX11_works_290 ml_RX11_318 im_X11_oneIf (by exact Nat.le_of_ble_eq_true rfl) (by decide) m_oneIf0 ?_
      refine xq_lstoreX dX11_works_293 rfl rfl ?_
      refine xq_goto dX11_works_295 rfl ?_
      rw [lg_cmp_eq] at h282; rw [(zL_eq hca hda)] at h282
      have ew : wkz 34 za zb = 0 := (b2z_0 (by omega) : b2z (za = zb) = 0)
      rw [show lN 0 = zL (wkz 34 za zb) by rw [ew]; rfl]
      refine xq_aload_n dX11_works_407 rfl rfl ?_
      refine xq_getF clX11 (by decide) rfl fl_RX11_69 dX11_works_408 (Fx.s83 hF) (Fx.r83_33 hF) ?_
      refine xq_aload_n dX11_works_411 rfl rfl ?_
      refine xq_getIE (v := nI (m + 1)) clX11 (by decide) rfl fl_RX11_315 dX11_works_412 (Fx.s83 hF) (by rw [hI_sI]; exact if_pos ⟨rfl, rfl⟩) ?_
      refine xq_iconst dX11_works_415 ic1 ?_
      refine xq_isubN dX11_works_416 (by omega) ?_
      rw [show m + 1 - 1 = m from rfl]
      refine xq_lload dX11_works_417 rfl ?_
      refine xq_lastN dX11_works_419 (Fx.s102 hF) (by omega) (by decide) ?_
      refine xq_lload dX11_works_420 rfl ?_
      refine xq_ldc2 (v := lN 1000000000000) dX11_works_422 kc_RX11_328 ?_
      refine xq_lcmp dX11_works_425 ?_
      refine xq_if_gt dX11_works_426 rfl ⟨fun h426 => ?_, fun h426 => ?_⟩
      · skip
        refine xq_iconst dX11_works_442 ic0 ?_
        refine xq_zret dX11_works_443 rfl (by decide) ?_
        rw [lg_cmp_gt, show (lN 1000000000000) = zL 1000000000000 from rfl, zL_lt ⟨by omega, by omega⟩ hwin] at h426
        refine ⟨false, _, ⟨?_, fun _ => ⟨by rw [hI_sL, hI_sI, if_pos ⟨rfl, rfl⟩], by rw [hL_sL, if_pos ⟨rfl, rfl⟩]⟩, fun j hj => by rw [hL_sL, if_neg (by omega)]; rfl, MoF.pL (MoF.pF (A := (fun q => q = 83 ∨ q = 102)) (F := (fun k => k = 34)) MoF.rf (Or.inl rfl) rfl _) (Or.inr rfl) _ _⟩, rfl⟩
        unfold inR
        rw [decide_eq_false (by omega)]
      · skip
        refine xq_lload dX11_works_429 rfl ?_
        refine xq_ldc2 dX11_works_431 kc_RX11_330 ?_
        refine xq_lcmp dX11_works_434 ?_
        refine xq_if_lt dX11_works_435 rfl ⟨fun h435 => ?_, fun h435 => ?_⟩
        · skip
          refine xq_iconst dX11_works_442 ic0 ?_
          refine xq_zret dX11_works_443 rfl (by decide) ?_
          rw [lg_cmp_gt, show (lN 1000000000000) = zL 1000000000000 from rfl, zL_lt ⟨by omega, by omega⟩ hwin] at h426
          rw [lg_cmp_lt, show (-1000000000000 : Int64) = zL (-1000000000000) by decide, zL_lt hwin ⟨by omega, by omega⟩] at h435
          refine ⟨false, _, ⟨?_, fun _ => ⟨by rw [hI_sL, hI_sI, if_pos ⟨rfl, rfl⟩], by rw [hL_sL, if_pos ⟨rfl, rfl⟩]⟩, fun j hj => by rw [hL_sL, if_neg (by omega)]; rfl, MoF.pL (MoF.pF (A := (fun q => q = 83 ∨ q = 102)) (F := (fun k => k = 34)) MoF.rf (Or.inl rfl) rfl _) (Or.inr rfl) _ _⟩, rfl⟩
          unfold inR
          rw [decide_eq_false (by omega)]
        · skip
          refine xq_iconst dX11_works_438 ic1 ?_
          refine xq_goto dX11_works_439 rfl ?_
          refine xq_zret dX11_works_443 rfl (by decide) ?_
          rw [lg_cmp_gt, show (lN 1000000000000) = zL 1000000000000 from rfl, zL_lt ⟨by omega, by omega⟩ hwin] at h426
          rw [lg_cmp_lt, show (-1000000000000 : Int64) = zL (-1000000000000) by decide, zL_lt hwin ⟨by omega, by omega⟩] at h435
          refine ⟨true, _, ⟨?_, fun _ => ⟨by rw [hI_sL, hI_sI, if_pos ⟨rfl, rfl⟩], by rw [hL_sL, if_pos ⟨rfl, rfl⟩]⟩, fun j hj => by rw [hL_sL, if_neg (by omega)]; rfl, MoF.pL (MoF.pF (A := (fun q => q = 83 ∨ q = 102)) (F := (fun k => k = 34)) MoF.rf (Or.inl rfl) rfl _) (Or.inr rfl) _ _⟩, rfl⟩
          unfold inR
          rw [decide_eq_true (by omega)]
    · skip
      refine xq_iconst dX11_works_285 ic1 ?_
      refine xq_goto dX11_works_286 rfl ?_
      refine xq_callS1P gd_X11_oneIf dX11_works_290 ml_RX11_318 im_X11_oneIf (by exact Nat.le_of_ble_eq_true rfl) (by decide) m_oneIf1 ?_
      refine xq_lstoreX dX11_works_293 rfl rfl ?_
      refine xq_goto dX11_works_295 rfl ?_
      rw [lg_cmp_eq] at h282; rw [(zL_eq hca hda)] at h282
      have ew : wkz 34 za zb = 1 := (b2z_1 (by omega) : b2z (za = zb) = 1)
      rw [show lN 1 = zL (wkz 34 za zb) by rw [ew]; rfl]
      refine xq_aload_n dX11_works_407 rfl rfl ?_
      refine xq_getF clX11 (by decide) rfl fl_RX11_69 dX11_works_408 (Fx.s83 hF) (Fx.r83_33 hF) ?_
      refine xq_aload_n dX11_works_411 rfl rfl ?_
      refine xq_getIE (v := nI (m + 1)) clX11 (by decide) rfl fl_RX11_315 dX11_works_412 (Fx.s83 hF) (by rw [hI_sI]; exact if_pos ⟨rfl, rfl⟩) ?_
      refine xq_iconst dX11_works_415 ic1 ?_
      refine xq_isubN dX11_works_416 (by omega) ?_
      rw [show m + 1 - 1 = m from rfl]
      refine xq_lload dX11_works_417 rfl ?_
      refine xq_lastN dX11_works_419 (Fx.s102 hF) (by omega) (by decide) ?_
      refine xq_lload dX11_works_420 rfl ?_
      refine xq_ldc2 (v := lN 1000000000000) dX11_works_422 kc_RX11_328 ?_
      refine xq_lcmp dX11_works_425 ?_
      refine xq_if_gt dX11_works_426 rfl ⟨fun h426 => ?_, fun h426 => ?_⟩
      · skip
        refine xq_iconst dX11_works_442 ic0 ?_
        refine xq_zret dX11_works_443 rfl (by decide) ?_
        rw [lg_cmp_gt, show (lN 1000000000000) = zL 1000000000000 from rfl, zL_lt ⟨by omega, by omega⟩ hwin] at h426
        refine ⟨false, _, ⟨?_, fun _ => ⟨by rw [hI_sL, hI_sI, if_pos ⟨rfl, rfl⟩], by rw [hL_sL, if_pos ⟨rfl, rfl⟩]⟩, fun j hj => by rw [hL_sL, if_neg (by omega)]; rfl, MoF.pL (MoF.pF (A := (fun q => q = 83 ∨ q = 102)) (F := (fun k => k = 34)) MoF.rf (Or.inl rfl) rfl _) (Or.inr rfl) _ _⟩, rfl⟩
        unfold inR
        rw [decide_eq_false (by omega)]
      · skip
        refine xq_lload dX11_works_429 rfl ?_
        refine xq_ldc2 dX11_works_431 kc_RX11_330 ?_
        refine xq_lcmp dX11_works_434 ?_
        refine xq_if_lt dX11_works_435 rfl ⟨fun h435 => ?_, fun h435 => ?_⟩
        · skip
          refine xq_iconst dX11_works_442 ic0 ?_
          refine xq_zret dX11_works_443 rfl (by decide) ?_
          rw [lg_cmp_gt, show (lN 1000000000000) = zL 1000000000000 from rfl, zL_lt ⟨by omega, by omega⟩ hwin] at h426
          rw [lg_cmp_lt, show (-1000000000000 : Int64) = zL (-1000000000000) by decide, zL_lt hwin ⟨by omega, by omega⟩] at h435
          refine ⟨false, _, ⟨?_, fun _ => ⟨by rw [hI_sL, hI_sI, if_pos ⟨rfl, rfl⟩], by rw [hL_sL, if_pos ⟨rfl, rfl⟩]⟩, fun j hj => by rw [hL_sL, if_neg (by omega)]; rfl, MoF.pL (MoF.pF (A := (fun q => q = 83 ∨ q = 102)) (F := (fun k => k = 34)) MoF.rf (Or.inl rfl) rfl _) (Or.inr rfl) _ _⟩, rfl⟩
          unfold inR
          rw [decide_eq_false (by omega)]
        · skip
          refine xq_iconst dX11_works_438 ic1 ?_
          refine xq_goto dX11_works_439 rfl ?_
          refine xq_zret dX11_works_443 rfl (by decide) ?_
          rw [lg_cmp_gt, show (lN 1000000000000) = zL 1000000000000 from rfl, zL_lt ⟨by omega, by omega⟩ hwin] at h426
          rw [lg_cmp_lt, show (-1000000000000 : Int64) = zL (-1000000000000) by decide, zL_lt hwin ⟨by omega, by omega⟩] at h435
          refine ⟨true, _, ⟨?_, fun _ => ⟨by rw [hI_sL, hI_sI, if_pos ⟨rfl, rfl⟩], by rw [hL_sL, if_pos ⟨rfl, rfl⟩]⟩, fun j hj => by rw [hL_sL, if_neg (by omega)]; rfl, MoF.pL (MoF.pF (A := (fun q => q = 83 ∨ q = 102)) (F := (fun k => k = 34)) MoF.rf (Or.inl rfl) rfl _) (Or.inr rfl) _ _⟩, rfl⟩
          unfold inR
          rw [decide_eq_true (by omega)]
  · skip
    exact absurd h16 (by decide)
theorem m_works_35 (hF : gFx S) (hm : hI H 83 34 = nI (m + 2)) (hm6 : m + 2 ≤ 64) (ha : hL H 102 m = zL za) (hb : hL H 102 (m + 1) = zL zb) (hza : -1000000000000 ≤ za ∧ za ≤ 1000000000000) (hzb : -1000000000000 ≤ zb ∧ zb ≤ 1000000000000) : Hv mX11_works 1 [.ref 83, vN 257] S H vB (fun x H' => x = inR (wkz 35 za zb) ∧ (x = true → hI H' 83 34 = nI (m + 1) ∧ hL H' 102 m = zL (wkz 35 za zb)) ∧ (∀ j, j < m → hL H' 102 j = hL H 102 j) ∧ MoF (fun q => q = 83 ∨ q = 102) (fun k => k = 34) H H') := by
  have hca : inB za := ⟨by omega, by omega⟩; have hda : inB zb := ⟨by omega, by omega⟩
  have z0 : inB 0 := ⟨by decide, by decide⟩
  have c0 : zL za = lN 0 ↔ za = 0 := zL_eq hca z0
  have d0 : zL zb = lN 0 ↔ zb = 0 := zL_eq hda z0
  have hwin := wkz_in hza hzb 35
  refine vq_intro (by decide) (by exact Nat.le_of_ble_eq_true rfl) rfl ?_
  refine xq_aload_n dX11_works_0 rfl rfl ?_
  refine xq_getF clX11 (by decide) rfl fl_RX11_69 dX11_works_1 (Fx.s83 hF) (Fx.r83_33 hF) ?_
  refine xq_aload_n dX11_works_4 rfl rfl ?_
  refine xq_getIE clX11 (by decide) rfl fl_RX11_315 dX11_works_5 (Fx.s83 hF) hm ?_
  refine xq_iconst dX11_works_8 ic1 ?_
  skip
  refine xq_isubN dX11_works_9 (by omega) ?_
  rw [show m + 2 - 1 = m + 1 from rfl]
  refine xq_laldN (v := zL zb) dX11_works_10 (Fx.s102 hF) (by omega) (by decide) hb ?_
  refine xq_lstore_nX dX11_works_11 rfl rfl rfl ?_
  refine xq_iload_n dX11_works_12 rfl rfl ?_
  refine xq_sipush dX11_works_13 sp260 ?_
  refine xq_icmp_neN dX11_works_16 rfl (by omega) (by omega) ⟨fun h16 => ?_, fun h16 => ?_⟩
  · skip
    refine xq_aload_n dX11_works_46 rfl rfl ?_
    refine xq_getF clX11 (by decide) rfl fl_RX11_69 dX11_works_47 (Fx.s83 hF) (Fx.r83_33 hF) ?_
    refine xq_aload_n dX11_works_50 rfl rfl ?_
    refine xq_getIE clX11 (by decide) rfl fl_RX11_315 dX11_works_51 (Fx.s83 hF) hm ?_
    refine xq_iconst dX11_works_54 ic2 ?_
    refine xq_isubN dX11_works_55 (by omega) ?_
    rw [show m + 2 - 2 = m from rfl]
    refine xq_laldN (v := zL za) dX11_works_56 (Fx.s102 hF) (by omega) (by decide) ha ?_
    refine xq_lstoreX dX11_works_57 rfl rfl ?_
    refine xq_aload_n dX11_works_59 rfl rfl ?_
    refine xq_dup dX11_works_60 rfl ?_
    refine xq_getIE clX11 (by decide) rfl fl_RX11_315 dX11_works_61 (Fx.s83 hF) hm ?_
    refine xq_iconst dX11_works_64 ic1 ?_
    refine xq_isubN dX11_works_65 (by omega) ?_
    rw [show m + 2 - 1 = m + 1 from rfl]
    refine xq_putI clX11 (by decide) rfl fl_RX11_315 (Or.inl rfl) dX11_works_66 ⟨rfl, rfl⟩ (Fx.s83 hF) ?_
    refine xq_iload_n dX11_works_69 rfl rfl ?_
    refine xq_lookup dX11_works_70 rfl rfl rfl ?_
    refine xq_lload dX11_works_338 rfl ?_
    refine xq_lload_n dX11_works_340 rfl rfl ?_
    refine xq_lcmp dX11_works_341 ?_
    refine xq_if_eq dX11_works_342 rfl ⟨fun h342 => ?_, fun h342 => ?_⟩
    · skip
      refine xq_iconst dX11_works_349 ic0 ?_
      refine xq_callS1P gd_X11_oneIf dX11_works_350 ml_RX11_318 im_X11_oneIf (by exact Nat.le_of_ble_eq_true rfl) (by decide) m_oneIf0 ?_
      refine xq_lstoreX dX11_works_353 rfl rfl ?_
      refine xq_goto dX11_works_355 rfl ?_
      rw [lg_cmp_eq] at h342; rw [(zL_eq hca hda)] at h342
      have ew : wkz 35 za zb = 0 := (b2z_0 (by omega) : b2z (za ≠ zb) = 0)
      rw [show lN 0 = zL (wkz 35 za zb) by rw [ew]; rfl]
      refine xq_aload_n dX11_works_407 rfl rfl ?_
      refine xq_getF clX11 (by decide) rfl fl_RX11_69 dX11_works_408 (Fx.s83 hF) (Fx.r83_33 hF) ?_
      refine xq_aload_n dX11_works_411 rfl rfl ?_
      refine xq_getIE (v := nI (m + 1)) clX11 (by decide) rfl fl_RX11_315 dX11_works_412 (Fx.s83 hF) (by rw [hI_sI]; exact if_pos ⟨rfl, rfl⟩) ?_
      refine xq_iconst dX11_works_415 ic1 ?_
      refine xq_isubN dX11_works_416 (by omega) ?_
      rw [show m + 1 - 1 = m from rfl]
      refine xq_lload dX11_works_417 rfl ?_
      refine xq_lastN dX11_works_419 (Fx.s102 hF) (by omega) (by decide) ?_
      refine xq_lload dX11_works_420 rfl ?_
      refine xq_ldc2 (v := lN 1000000000000) dX11_works_422 kc_RX11_328 ?_
      refine xq_lcmp dX11_works_425 ?_
      refine xq_if_gt dX11_works_426 rfl ⟨fun h426 => ?_, fun h426 => ?_⟩
      · skip
        refine xq_iconst dX11_works_442 ic0 ?_
        refine xq_zret dX11_works_443 rfl (by decide) ?_
        rw [lg_cmp_gt, show (lN 1000000000000) = zL 1000000000000 from rfl, zL_lt ⟨by omega, by omega⟩ hwin] at h426
        refine ⟨false, _, ⟨?_, fun _ => ⟨by rw [hI_sL, hI_sI, if_pos ⟨rfl, rfl⟩], by rw [hL_sL, if_pos ⟨rfl, rfl⟩]⟩, fun j hj => by rw [hL_sL, if_neg (by omega)]; rfl, MoF.pL (MoF.pF (A := (fun q => q = 83 ∨ q = 102)) (F := (fun k => k = 34)) MoF.rf (Or.inl rfl) rfl _) (Or.inr rfl) _ _⟩, rfl⟩
        unfold inR
        rw [decide_eq_false (by omega)]
      · skip
        refine xq_lload dX11_works_429 rfl ?_
        refine xq_ldc2 dX11_works_431 kc_RX11_330 ?_
        refine xq_lcmp dX11_works_434 ?_
        refine xq_if_lt dX11_works_435 rfl ⟨fun h435 => ?_, fun h435 => ?_⟩
        · skip
          refine xq_iconst dX11_works_442 ic0 ?_
          refine xq_zret dX11_works_443 rfl (by decide) ?_
          rw [lg_cmp_gt, show (lN 1000000000000) = zL 1000000000000 from rfl, zL_lt ⟨by omega, by omega⟩ hwin] at h426
          rw [lg_cmp_lt, show (-1000000000000 : Int64) = zL (-1000000000000) by decide, zL_lt hwin ⟨by omega, by omega⟩] at h435
          refine ⟨false, _, ⟨?_, fun _ => ⟨by rw [hI_sL, hI_sI, if_pos ⟨rfl, rfl⟩], by rw [hL_sL, if_pos ⟨rfl, rfl⟩]⟩, fun j hj => by rw [hL_sL, if_neg (by omega)]; rfl, MoF.pL (MoF.pF (A := (fun q => q = 83 ∨ q = 102)) (F := (fun k => k = 34)) MoF.rf (Or.inl rfl) rfl _) (Or.inr rfl) _ _⟩, rfl⟩
          unfold inR
          rw [decide_eq_false (by omega)]
        · skip
          refine xq_iconst dX11_works_438 ic1 ?_
          refine xq_goto dX11_works_439 rfl ?_
          refine xq_zret dX11_works_443 rfl (by decide) ?_
          rw [lg_cmp_gt, show (lN 1000000000000) = zL 1000000000000 from rfl, zL_lt ⟨by omega, by omega⟩ hwin] at h426
          rw [lg_cmp_lt, show (-1000000000000 : Int64) = zL (-1000000000000) by decide, zL_lt hwin ⟨by omega, by omega⟩] at h435
          refine ⟨true, _, ⟨?_, fun _ => ⟨by rw [hI_sL, hI_sI, if_pos ⟨rfl, rfl⟩], by rw [hL_sL, if_pos ⟨rfl, rfl⟩]⟩, fun j hj => by rw [hL_sL, if_neg (by omega)]; rfl, MoF.pL (MoF.pF (A := (fun q => q = 83 ∨ q = 102)) (F := (fun k => k = 34)) MoF.rf (Or.inl rfl) rfl _) (Or.inr rfl) _ _⟩, rfl⟩
          unfold inR
          rw [decide_eq_true (by omega)]
    · skip
      refine xq_iconst dX11_works_345 ic1 ?_
      refine xq_goto dX11_works_346 rfl ?_
      refine xq_callS1P gd_X11_oneIf dX11_works_350 ml_RX11_318 im_X11_oneIf (by exact Nat.le_of_ble_eq_true rfl) (by decide) m_oneIf1 ?_
      refine xq_lstoreX dX11_works_353 rfl rfl ?_
      refine xq_goto dX11_works_355 rfl ?_
      rw [lg_cmp_eq] at h342; rw [(zL_eq hca hda)] at h342
      have ew : wkz 35 za zb = 1 := (b2z_1 (by omega) : b2z (za ≠ zb) = 1)
      rw [show lN 1 = zL (wkz 35 za zb) by rw [ew]; rfl]
      refine xq_aload_n dX11_works_407 rfl rfl ?_
      refine xq_getF clX11 (by decide) rfl fl_RX11_69 dX11_works_408 (Fx.s83 hF) (Fx.r83_33 hF) ?_
      refine xq_aload_n dX11_works_411 rfl rfl ?_
      refine xq_getIE (v := nI (m + 1)) clX11 (by decide) rfl fl_RX11_315 dX11_works_412 (Fx.s83 hF) (by rw [hI_sI]; exact if_pos ⟨rfl, rfl⟩) ?_
      refine xq_iconst dX11_works_415 ic1 ?_
      refine xq_isubN dX11_works_416 (by omega) ?_
      rw [show m + 1 - 1 = m from rfl]
      refine xq_lload dX11_works_417 rfl ?_
      refine xq_lastN dX11_works_419 (Fx.s102 hF) (by omega) (by decide) ?_
      refine xq_lload dX11_works_420 rfl ?_
      refine xq_ldc2 (v := lN 1000000000000) dX11_works_422 kc_RX11_328 ?_
      refine xq_lcmp dX11_works_425 ?_
      refine xq_if_gt dX11_works_426 rfl ⟨fun h426 => ?_, fun h426 => ?_⟩
      · skip
        refine xq_iconst dX11_works_442 ic0 ?_
        refine xq_zret dX11_works_443 rfl (by decide) ?_
        rw [lg_cmp_gt, show (lN 1000000000000) = zL 1000000000000 from rfl, zL_lt ⟨by omega, by omega⟩ hwin] at h426
        refine ⟨false, _, ⟨?_, fun _ => ⟨by rw [hI_sL, hI_sI, if_pos ⟨rfl, rfl⟩], by rw [hL_sL, if_pos ⟨rfl, rfl⟩]⟩, fun j hj => by rw [hL_sL, if_neg (by omega)]; rfl, MoF.pL (MoF.pF (A := (fun q => q = 83 ∨ q = 102)) (F := (fun k => k = 34)) MoF.rf (Or.inl rfl) rfl _) (Or.inr rfl) _ _⟩, rfl⟩
        unfold inR
        rw [decide_eq_false (by omega)]
      · skip
        refine xq_lload dX11_works_429 rfl ?_
        refine xq_ldc2 dX11_works_431 kc_RX11_330 ?_
        refine xq_lcmp dX11_works_434 ?_
        refine xq_if_lt dX11_works_435 rfl ⟨fun h435 => ?_, fun h435 => ?_⟩
        · skip
          refine xq_iconst dX11_works_442 ic0 ?_
          refine xq_zret dX11_works_443 rfl (by decide) ?_
          rw [lg_cmp_gt, show (lN 1000000000000) = zL 1000000000000 from rfl, zL_lt ⟨by omega, by omega⟩ hwin] at h426
          rw [lg_cmp_lt, show (-1000000000000 : Int64) = zL (-1000000000000) by decide, zL_lt hwin ⟨by omega, by omega⟩] at h435
          refine ⟨false, _, ⟨?_, fun _ => ⟨by rw [hI_sL, hI_sI, if_pos ⟨rfl, rfl⟩], by rw [hL_sL, if_pos ⟨rfl, rfl⟩]⟩, fun j hj => by rw [hL_sL, if_neg (by omega)]; rfl, MoF.pL (MoF.pF (A := (fun q => q = 83 ∨ q = 102)) (F := (fun k => k = 34)) MoF.rf (Or.inl rfl) rfl _) (Or.inr rfl) _ _⟩, rfl⟩
          unfold inR
          rw [decide_eq_false (by omega)]
        · skip
          refine xq_iconst dX11_works_438 ic1 ?_
          refine xq_goto dX11_works_439 rfl ?_
          refine xq_zret dX11_works_443 rfl (by decide) ?_
          rw [lg_cmp_gt, show (lN 1000000000000) = zL 1000000000000 from rfl, zL_lt ⟨by omega, by omega⟩ hwin] at h426
          rw [lg_cmp_lt, show (-1000000000000 : Int64) = zL (-1000000000000) by decide, zL_lt hwin ⟨by omega, by omega⟩] at h435
          refine ⟨true, _, ⟨?_, fun _ => ⟨by rw [hI_sL, hI_sI, if_pos ⟨rfl, rfl⟩], by rw [hL_sL, if_pos ⟨rfl, rfl⟩]⟩, fun j hj => by rw [hL_sL, if_neg (by omega)]; rfl, MoF.pL (MoF.pF (A := (fun q => q = 83 ∨ q = 102)) (F := (fun k => k = 34)) MoF.rf (Or.inl rfl) rfl _) (Or.inr rfl) _ _⟩, rfl⟩
          unfold inR
          rw [decide_eq_true (by omega)]
  · skip
    exact absurd h16 (by decide)
theorem m_works_36 (hF : gFx S) (hm : hI H 83 34 = nI (m + 2)) (hm6 : m + 2 ≤ 64) (ha : hL H 102 m = zL za) (hb : hL H 102 (m + 1) = zL zb) (hza : -1000000000000 ≤ za ∧ za ≤ 1000000000000) (hzb : -1000000000000 ≤ zb ∧ zb ≤ 1000000000000) : Hv mX11_works 1 [.ref 83, vN 258] S H vB (fun x H' => x = inR (wkz 36 za zb) ∧ (x = true → hI H' 83 34 = nI (m + 1) ∧ hL H' 102 m = zL (wkz 36 za zb)) ∧ (∀ j, j < m → hL H' 102 j = hL H 102 j) ∧ MoF (fun q => q = 83 ∨ q = 102) (fun k => k = 34) H H') := by
  have hca : inB za := ⟨by omega, by omega⟩; have hda : inB zb := ⟨by omega, by omega⟩
  have z0 : inB 0 := ⟨by decide, by decide⟩
  have c0 : zL za = lN 0 ↔ za = 0 := zL_eq hca z0
  have d0 : zL zb = lN 0 ↔ zb = 0 := zL_eq hda z0
  have hwin := wkz_in hza hzb 36
  refine vq_intro (by decide) (by exact Nat.le_of_ble_eq_true rfl) rfl ?_
  refine xq_aload_n dX11_works_0 rfl rfl ?_
  refine xq_getF clX11 (by decide) rfl fl_RX11_69 dX11_works_1 (Fx.s83 hF) (Fx.r83_33 hF) ?_
  refine xq_aload_n dX11_works_4 rfl rfl ?_
  refine xq_getIE clX11 (by decide) rfl fl_RX11_315 dX11_works_5 (Fx.s83 hF) hm ?_
  refine xq_iconst dX11_works_8 ic1 ?_
  skip
  refine xq_isubN dX11_works_9 (by omega) ?_
  rw [show m + 2 - 1 = m + 1 from rfl]
  refine xq_laldN (v := zL zb) dX11_works_10 (Fx.s102 hF) (by omega) (by decide) hb ?_
  refine xq_lstore_nX dX11_works_11 rfl rfl rfl ?_
  refine xq_iload_n dX11_works_12 rfl rfl ?_
  refine xq_sipush dX11_works_13 sp260 ?_
  refine xq_icmp_neN dX11_works_16 rfl (by omega) (by omega) ⟨fun h16 => ?_, fun h16 => ?_⟩
  · skip
    refine xq_aload_n dX11_works_46 rfl rfl ?_
    refine xq_getF clX11 (by decide) rfl fl_RX11_69 dX11_works_47 (Fx.s83 hF) (Fx.r83_33 hF) ?_
    refine xq_aload_n dX11_works_50 rfl rfl ?_
    refine xq_getIE clX11 (by decide) rfl fl_RX11_315 dX11_works_51 (Fx.s83 hF) hm ?_
    refine xq_iconst dX11_works_54 ic2 ?_
    refine xq_isubN dX11_works_55 (by omega) ?_
    rw [show m + 2 - 2 = m from rfl]
    refine xq_laldN (v := zL za) dX11_works_56 (Fx.s102 hF) (by omega) (by decide) ha ?_
    refine xq_lstoreX dX11_works_57 rfl rfl ?_
    refine xq_aload_n dX11_works_59 rfl rfl ?_
    refine xq_dup dX11_works_60 rfl ?_
    refine xq_getIE clX11 (by decide) rfl fl_RX11_315 dX11_works_61 (Fx.s83 hF) hm ?_
    refine xq_iconst dX11_works_64 ic1 ?_
    refine xq_isubN dX11_works_65 (by omega) ?_
    rw [show m + 2 - 1 = m + 1 from rfl]
    refine xq_putI clX11 (by decide) rfl fl_RX11_315 (Or.inl rfl) dX11_works_66 ⟨rfl, rfl⟩ (Fx.s83 hF) ?_
    refine xq_iload_n dX11_works_69 rfl rfl ?_
    refine xq_lookup dX11_works_70 rfl rfl rfl ?_
    refine xq_lload dX11_works_318 rfl ?_
    refine xq_lload_n dX11_works_320 rfl rfl ?_
    refine xq_lcmp dX11_works_321 ?_
    refine xq_if_lt dX11_works_322 rfl ⟨fun h322 => ?_, fun h322 => ?_⟩
    · skip
      refine xq_iconst dX11_works_329 ic0 ?_
      refine xq_callS1P gd_X11_oneIf dX11_works_330 ml_RX11_318 im_X11_oneIf (by exact Nat.le_of_ble_eq_true rfl) (by decide) m_oneIf0 ?_
      refine xq_lstoreX dX11_works_333 rfl rfl ?_
      refine xq_goto dX11_works_335 rfl ?_
      rw [lg_cmp_lt] at h322; rw [(zL_lt hca hda)] at h322
      have ew : wkz 36 za zb = 0 := (b2z_0 (by omega) : b2z (zb ≤ za) = 0)
      rw [show lN 0 = zL (wkz 36 za zb) by rw [ew]; rfl]
      refine xq_aload_n dX11_works_407 rfl rfl ?_
      refine xq_getF clX11 (by decide) rfl fl_RX11_69 dX11_works_408 (Fx.s83 hF) (Fx.r83_33 hF) ?_
      refine xq_aload_n dX11_works_411 rfl rfl ?_
      refine xq_getIE (v := nI (m + 1)) clX11 (by decide) rfl fl_RX11_315 dX11_works_412 (Fx.s83 hF) (by rw [hI_sI]; exact if_pos ⟨rfl, rfl⟩) ?_
      refine xq_iconst dX11_works_415 ic1 ?_
      refine xq_isubN dX11_works_416 (by omega) ?_
      rw [show m + 1 - 1 = m from rfl]
      refine xq_lload dX11_works_417 rfl ?_
      refine xq_lastN dX11_works_419 (Fx.s102 hF) (by omega) (by decide) ?_
      refine xq_lload dX11_works_420 rfl ?_
      refine xq_ldc2 (v := lN 1000000000000) dX11_works_422 kc_RX11_328 ?_
      refine xq_lcmp dX11_works_425 ?_
      refine xq_if_gt dX11_works_426 rfl ⟨fun h426 => ?_, fun h426 => ?_⟩
      · skip
        refine xq_iconst dX11_works_442 ic0 ?_
        refine xq_zret dX11_works_443 rfl (by decide) ?_
        rw [lg_cmp_gt, show (lN 1000000000000) = zL 1000000000000 from rfl, zL_lt ⟨by omega, by omega⟩ hwin] at h426
        refine ⟨false, _, ⟨?_, fun _ => ⟨by rw [hI_sL, hI_sI, if_pos ⟨rfl, rfl⟩], by rw [hL_sL, if_pos ⟨rfl, rfl⟩]⟩, fun j hj => by rw [hL_sL, if_neg (by omega)]; rfl, MoF.pL (MoF.pF (A := (fun q => q = 83 ∨ q = 102)) (F := (fun k => k = 34)) MoF.rf (Or.inl rfl) rfl _) (Or.inr rfl) _ _⟩, rfl⟩
        unfold inR
        rw [decide_eq_false (by omega)]
      · skip
        refine xq_lload dX11_works_429 rfl ?_
        refine xq_ldc2 dX11_works_431 kc_RX11_330 ?_
        refine xq_lcmp dX11_works_434 ?_
        refine xq_if_lt dX11_works_435 rfl ⟨fun h435 => ?_, fun h435 => ?_⟩
        · skip
          refine xq_iconst dX11_works_442 ic0 ?_
          refine xq_zret dX11_works_443 rfl (by decide) ?_
          rw [lg_cmp_gt, show (lN 1000000000000) = zL 1000000000000 from rfl, zL_lt ⟨by omega, by omega⟩ hwin] at h426
          rw [lg_cmp_lt, show (-1000000000000 : Int64) = zL (-1000000000000) by decide, zL_lt hwin ⟨by omega, by omega⟩] at h435
          refine ⟨false, _, ⟨?_, fun _ => ⟨by rw [hI_sL, hI_sI, if_pos ⟨rfl, rfl⟩], by rw [hL_sL, if_pos ⟨rfl, rfl⟩]⟩, fun j hj => by rw [hL_sL, if_neg (by omega)]; rfl, MoF.pL (MoF.pF (A := (fun q => q = 83 ∨ q = 102)) (F := (fun k => k = 34)) MoF.rf (Or.inl rfl) rfl _) (Or.inr rfl) _ _⟩, rfl⟩
          unfold inR
          rw [decide_eq_false (by omega)]
        · skip
          refine xq_iconst dX11_works_438 ic1 ?_
          refine xq_goto dX11_works_439 rfl ?_
          refine xq_zret dX11_works_443 rfl (by decide) ?_
          rw [lg_cmp_gt, show (lN 1000000000000) = zL 1000000000000 from rfl, zL_lt ⟨by omega, by omega⟩ hwin] at h426
          rw [lg_cmp_lt, show (-1000000000000 : Int64) = zL (-1000000000000) by decide, zL_lt hwin ⟨by omega, by omega⟩] at h435
          refine ⟨true, _, ⟨?_, fun _ => ⟨by rw [hI_sL, hI_sI, if_pos ⟨rfl, rfl⟩], by rw [hL_sL, if_pos ⟨rfl, rfl⟩]⟩, fun j hj => by rw [hL_sL, if_neg (by omega)]; rfl, MoF.pL (MoF.pF (A := (fun q => q = 83 ∨ q = 102)) (F := (fun k => k = 34)) MoF.rf (Or.inl rfl) rfl _) (Or.inr rfl) _ _⟩, rfl⟩
          unfold inR
          rw [decide_eq_true (by omega)]
    · skip
      refine xq_iconst dX11_works_325 ic1 ?_
      refine xq_goto dX11_works_326 rfl ?_
      refine xq_callS1P gd_X11_oneIf dX11_works_330 ml_RX11_318 im_X11_oneIf (by exact Nat.le_of_ble_eq_true rfl) (by decide) m_oneIf1 ?_
      refine xq_lstoreX dX11_works_333 rfl rfl ?_
      refine xq_goto dX11_works_335 rfl ?_
      rw [lg_cmp_lt] at h322; rw [(zL_lt hca hda)] at h322
      have ew : wkz 36 za zb = 1 := (b2z_1 (by omega) : b2z (zb ≤ za) = 1)
      rw [show lN 1 = zL (wkz 36 za zb) by rw [ew]; rfl]
      refine xq_aload_n dX11_works_407 rfl rfl ?_
      refine xq_getF clX11 (by decide) rfl fl_RX11_69 dX11_works_408 (Fx.s83 hF) (Fx.r83_33 hF) ?_
      refine xq_aload_n dX11_works_411 rfl rfl ?_
      refine xq_getIE (v := nI (m + 1)) clX11 (by decide) rfl fl_RX11_315 dX11_works_412 (Fx.s83 hF) (by rw [hI_sI]; exact if_pos ⟨rfl, rfl⟩) ?_
      refine xq_iconst dX11_works_415 ic1 ?_
      refine xq_isubN dX11_works_416 (by omega) ?_
      rw [show m + 1 - 1 = m from rfl]
      refine xq_lload dX11_works_417 rfl ?_
      refine xq_lastN dX11_works_419 (Fx.s102 hF) (by omega) (by decide) ?_
      refine xq_lload dX11_works_420 rfl ?_
      refine xq_ldc2 (v := lN 1000000000000) dX11_works_422 kc_RX11_328 ?_
      refine xq_lcmp dX11_works_425 ?_
      refine xq_if_gt dX11_works_426 rfl ⟨fun h426 => ?_, fun h426 => ?_⟩
      · skip
        refine xq_iconst dX11_works_442 ic0 ?_
        refine xq_zret dX11_works_443 rfl (by decide) ?_
        rw [lg_cmp_gt, show (lN 1000000000000) = zL 1000000000000 from rfl, zL_lt ⟨by omega, by omega⟩ hwin] at h426
        refine ⟨false, _, ⟨?_, fun _ => ⟨by rw [hI_sL, hI_sI, if_pos ⟨rfl, rfl⟩], by rw [hL_sL, if_pos ⟨rfl, rfl⟩]⟩, fun j hj => by rw [hL_sL, if_neg (by omega)]; rfl, MoF.pL (MoF.pF (A := (fun q => q = 83 ∨ q = 102)) (F := (fun k => k = 34)) MoF.rf (Or.inl rfl) rfl _) (Or.inr rfl) _ _⟩, rfl⟩
        unfold inR
        rw [decide_eq_false (by omega)]
      · skip
        refine xq_lload dX11_works_429 rfl ?_
        refine xq_ldc2 dX11_works_431 kc_RX11_330 ?_
        refine xq_lcmp dX11_works_434 ?_
        refine xq_if_lt dX11_works_435 rfl ⟨fun h435 => ?_, fun h435 => ?_⟩
        · skip
          refine xq_iconst dX11_works_442 ic0 ?_
          refine xq_zret dX11_works_443 rfl (by decide) ?_
          rw [lg_cmp_gt, show (lN 1000000000000) = zL 1000000000000 from rfl, zL_lt ⟨by omega, by omega⟩ hwin] at h426
          rw [lg_cmp_lt, show (-1000000000000 : Int64) = zL (-1000000000000) by decide, zL_lt hwin ⟨by omega, by omega⟩] at h435
          refine ⟨false, _, ⟨?_, fun _ => ⟨by rw [hI_sL, hI_sI, if_pos ⟨rfl, rfl⟩], by rw [hL_sL, if_pos ⟨rfl, rfl⟩]⟩, fun j hj => by rw [hL_sL, if_neg (by omega)]; rfl, MoF.pL (MoF.pF (A := (fun q => q = 83 ∨ q = 102)) (F := (fun k => k = 34)) MoF.rf (Or.inl rfl) rfl _) (Or.inr rfl) _ _⟩, rfl⟩
          unfold inR
          rw [decide_eq_false (by omega)]
        · skip
          refine xq_iconst dX11_works_438 ic1 ?_
          refine xq_goto dX11_works_439 rfl ?_
          refine xq_zret dX11_works_443 rfl (by decide) ?_
          rw [lg_cmp_gt, show (lN 1000000000000) = zL 1000000000000 from rfl, zL_lt ⟨by omega, by omega⟩ hwin] at h426
          rw [lg_cmp_lt, show (-1000000000000 : Int64) = zL (-1000000000000) by decide, zL_lt hwin ⟨by omega, by omega⟩] at h435
          refine ⟨true, _, ⟨?_, fun _ => ⟨by rw [hI_sL, hI_sI, if_pos ⟨rfl, rfl⟩], by rw [hL_sL, if_pos ⟨rfl, rfl⟩]⟩, fun j hj => by rw [hL_sL, if_neg (by omega)]; rfl, MoF.pL (MoF.pF (A := (fun q => q = 83 ∨ q = 102)) (F := (fun k => k = 34)) MoF.rf (Or.inl rfl) rfl _) (Or.inr rfl) _ _⟩, rfl⟩
          unfold inR
          rw [decide_eq_true (by omega)]
  · skip
    exact absurd h16 (by decide)
theorem m_works_37 (hF : gFx S) (hm : hI H 83 34 = nI (m + 2)) (hm6 : m + 2 ≤ 64) (ha : hL H 102 m = zL za) (hb : hL H 102 (m + 1) = zL zb) (hza : -1000000000000 ≤ za ∧ za ≤ 1000000000000) (hzb : -1000000000000 ≤ zb ∧ zb ≤ 1000000000000) : Hv mX11_works 1 [.ref 83, vN 62] S H vB (fun x H' => x = inR (wkz 37 za zb) ∧ (x = true → hI H' 83 34 = nI (m + 1) ∧ hL H' 102 m = zL (wkz 37 za zb)) ∧ (∀ j, j < m → hL H' 102 j = hL H 102 j) ∧ MoF (fun q => q = 83 ∨ q = 102) (fun k => k = 34) H H') := by
  have hca : inB za := ⟨by omega, by omega⟩; have hda : inB zb := ⟨by omega, by omega⟩
  have z0 : inB 0 := ⟨by decide, by decide⟩
  have c0 : zL za = lN 0 ↔ za = 0 := zL_eq hca z0
  have d0 : zL zb = lN 0 ↔ zb = 0 := zL_eq hda z0
  have hwin := wkz_in hza hzb 37
  refine vq_intro (by decide) (by exact Nat.le_of_ble_eq_true rfl) rfl ?_
  refine xq_aload_n dX11_works_0 rfl rfl ?_
  refine xq_getF clX11 (by decide) rfl fl_RX11_69 dX11_works_1 (Fx.s83 hF) (Fx.r83_33 hF) ?_
  refine xq_aload_n dX11_works_4 rfl rfl ?_
  refine xq_getIE clX11 (by decide) rfl fl_RX11_315 dX11_works_5 (Fx.s83 hF) hm ?_
  refine xq_iconst dX11_works_8 ic1 ?_
  skip
  refine xq_isubN dX11_works_9 (by omega) ?_
  rw [show m + 2 - 1 = m + 1 from rfl]
  refine xq_laldN (v := zL zb) dX11_works_10 (Fx.s102 hF) (by omega) (by decide) hb ?_
  refine xq_lstore_nX dX11_works_11 rfl rfl rfl ?_
  refine xq_iload_n dX11_works_12 rfl rfl ?_
  refine xq_sipush dX11_works_13 sp260 ?_
  refine xq_icmp_neN dX11_works_16 rfl (by omega) (by omega) ⟨fun h16 => ?_, fun h16 => ?_⟩
  · skip
    refine xq_aload_n dX11_works_46 rfl rfl ?_
    refine xq_getF clX11 (by decide) rfl fl_RX11_69 dX11_works_47 (Fx.s83 hF) (Fx.r83_33 hF) ?_
    refine xq_aload_n dX11_works_50 rfl rfl ?_
    refine xq_getIE clX11 (by decide) rfl fl_RX11_315 dX11_works_51 (Fx.s83 hF) hm ?_
    refine xq_iconst dX11_works_54 ic2 ?_
    refine xq_isubN dX11_works_55 (by omega) ?_
    rw [show m + 2 - 2 = m from rfl]
    refine xq_laldN (v := zL za) dX11_works_56 (Fx.s102 hF) (by omega) (by decide) ha ?_
    refine xq_lstoreX dX11_works_57 rfl rfl ?_
    refine xq_aload_n dX11_works_59 rfl rfl ?_
    refine xq_dup dX11_works_60 rfl ?_
    refine xq_getIE clX11 (by decide) rfl fl_RX11_315 dX11_works_61 (Fx.s83 hF) hm ?_
    refine xq_iconst dX11_works_64 ic1 ?_
    refine xq_isubN dX11_works_65 (by omega) ?_
    rw [show m + 2 - 1 = m + 1 from rfl]
    refine xq_putI clX11 (by decide) rfl fl_RX11_315 (Or.inl rfl) dX11_works_66 ⟨rfl, rfl⟩ (Fx.s83 hF) ?_
    refine xq_iload_n dX11_works_69 rfl rfl ?_
    refine xq_lookup dX11_works_70 rfl rfl rfl ?_
    refine xq_lload dX11_works_258 rfl ?_
    refine xq_lload_n dX11_works_260 rfl rfl ?_
    refine xq_lcmp dX11_works_261 ?_
    refine xq_if_le dX11_works_262 rfl ⟨fun h262 => ?_, fun h262 => ?_⟩
    · skip
      refine xq_iconst dX11_works_269 ic0 ?_
      refine xq_callS1P gd_X11_oneIf dX11_works_270 ml_RX11_318 im_X11_oneIf (by exact Nat.le_of_ble_eq_true rfl) (by decide) m_oneIf0 ?_
      refine xq_lstoreX dX11_works_273 rfl rfl ?_
      refine xq_goto dX11_works_275 rfl ?_
      rw [lg_cmp_le] at h262; rw [(zL_le hca hda)] at h262
      have ew : wkz 37 za zb = 0 := (b2z_0 (by omega) : b2z (zb < za) = 0)
      rw [show lN 0 = zL (wkz 37 za zb) by rw [ew]; rfl]
      refine xq_aload_n dX11_works_407 rfl rfl ?_
      refine xq_getF clX11 (by decide) rfl fl_RX11_69 dX11_works_408 (Fx.s83 hF) (Fx.r83_33 hF) ?_
      refine xq_aload_n dX11_works_411 rfl rfl ?_
      refine xq_getIE (v := nI (m + 1)) clX11 (by decide) rfl fl_RX11_315 dX11_works_412 (Fx.s83 hF) (by rw [hI_sI]; exact if_pos ⟨rfl, rfl⟩) ?_
      refine xq_iconst dX11_works_415 ic1 ?_
      refine xq_isubN dX11_works_416 (by omega) ?_
      rw [show m + 1 - 1 = m from rfl]
      refine xq_lload dX11_works_417 rfl ?_
      refine xq_lastN dX11_works_419 (Fx.s102 hF) (by omega) (by decide) ?_
      refine xq_lload dX11_works_420 rfl ?_
      refine xq_ldc2 (v := lN 1000000000000) dX11_works_422 kc_RX11_328 ?_
      refine xq_lcmp dX11_works_425 ?_
      refine xq_if_gt dX11_works_426 rfl ⟨fun h426 => ?_, fun h426 => ?_⟩
      · skip
        refine xq_iconst dX11_works_442 ic0 ?_
        refine xq_zret dX11_works_443 rfl (by decide) ?_
        rw [lg_cmp_gt, show (lN 1000000000000) = zL 1000000000000 from rfl, zL_lt ⟨by omega, by omega⟩ hwin] at h426
        refine ⟨false, _, ⟨?_, fun _ => ⟨by rw [hI_sL, hI_sI, if_pos ⟨rfl, rfl⟩], by rw [hL_sL, if_pos ⟨rfl, rfl⟩]⟩, fun j hj => by rw [hL_sL, if_neg (by omega)]; rfl, MoF.pL (MoF.pF (A := (fun q => q = 83 ∨ q = 102)) (F := (fun k => k = 34)) MoF.rf (Or.inl rfl) rfl _) (Or.inr rfl) _ _⟩, rfl⟩
        unfold inR
        rw [decide_eq_false (by omega)]
      · skip
        refine xq_lload dX11_works_429 rfl ?_
        refine xq_ldc2 dX11_works_431 kc_RX11_330 ?_
        refine xq_lcmp dX11_works_434 ?_
        refine xq_if_lt dX11_works_435 rfl ⟨fun h435 => ?_, fun h435 => ?_⟩
        · skip
          refine xq_iconst dX11_works_442 ic0 ?_
          refine xq_zret dX11_works_443 rfl (by decide) ?_
          rw [lg_cmp_gt, show (lN 1000000000000) = zL 1000000000000 from rfl, zL_lt ⟨by omega, by omega⟩ hwin] at h426
          rw [lg_cmp_lt, show (-1000000000000 : Int64) = zL (-1000000000000) by decide, zL_lt hwin ⟨by omega, by omega⟩] at h435
          refine ⟨false, _, ⟨?_, fun _ => ⟨by rw [hI_sL, hI_sI, if_pos ⟨rfl, rfl⟩], by rw [hL_sL, if_pos ⟨rfl, rfl⟩]⟩, fun j hj => by rw [hL_sL, if_neg (by omega)]; rfl, MoF.pL (MoF.pF (A := (fun q => q = 83 ∨ q = 102)) (F := (fun k => k = 34)) MoF.rf (Or.inl rfl) rfl _) (Or.inr rfl) _ _⟩, rfl⟩
          unfold inR
          rw [decide_eq_false (by omega)]
        · skip
          refine xq_iconst dX11_works_438 ic1 ?_
          refine xq_goto dX11_works_439 rfl ?_
          refine xq_zret dX11_works_443 rfl (by decide) ?_
          rw [lg_cmp_gt, show (lN 1000000000000) = zL 1000000000000 from rfl, zL_lt ⟨by omega, by omega⟩ hwin] at h426
          rw [lg_cmp_lt, show (-1000000000000 : Int64) = zL (-1000000000000) by decide, zL_lt hwin ⟨by omega, by omega⟩] at h435
          refine ⟨true, _, ⟨?_, fun _ => ⟨by rw [hI_sL, hI_sI, if_pos ⟨rfl, rfl⟩], by rw [hL_sL, if_pos ⟨rfl, rfl⟩]⟩, fun j hj => by rw [hL_sL, if_neg (by omega)]; rfl, MoF.pL (MoF.pF (A := (fun q => q = 83 ∨ q = 102)) (F := (fun k => k = 34)) MoF.rf (Or.inl rfl) rfl _) (Or.inr rfl) _ _⟩, rfl⟩
          unfold inR
          rw [decide_eq_true (by omega)]
    · skip
      refine xq_iconst dX11_works_265 ic1 ?_
      refine xq_goto dX11_works_266 rfl ?_
      refine xq_callS1P gd_X11_oneIf dX11_works_270 ml_RX11_318 im_X11_oneIf (by exact Nat.le_of_ble_eq_true rfl) (by decide) m_oneIf1 ?_
      refine xq_lstoreX dX11_works_273 rfl rfl ?_
      refine xq_goto dX11_works_275 rfl ?_
      rw [lg_cmp_le] at h262; rw [(zL_le hca hda)] at h262
      have ew : wkz 37 za zb = 1 := (b2z_1 (by omega) : b2z (zb < za) = 1)
      rw [show lN 1 = zL (wkz 37 za zb) by rw [ew]; rfl]
      refine xq_aload_n dX11_works_407 rfl rfl ?_
      refine xq_getF clX11 (by decide) rfl fl_RX11_69 dX11_works_408 (Fx.s83 hF) (Fx.r83_33 hF) ?_
      refine xq_aload_n dX11_works_411 rfl rfl ?_
      refine xq_getIE (v := nI (m + 1)) clX11 (by decide) rfl fl_RX11_315 dX11_works_412 (Fx.s83 hF) (by rw [hI_sI]; exact if_pos ⟨rfl, rfl⟩) ?_
      refine xq_iconst dX11_works_415 ic1 ?_
      refine xq_isubN dX11_works_416 (by omega) ?_
      rw [show m + 1 - 1 = m from rfl]
      refine xq_lload dX11_works_417 rfl ?_
      refine xq_lastN dX11_works_419 (Fx.s102 hF) (by omega) (by decide) ?_
      refine xq_lload dX11_works_420 rfl ?_
      refine xq_ldc2 (v := lN 1000000000000) dX11_works_422 kc_RX11_328 ?_
      refine xq_lcmp dX11_works_425 ?_
      refine xq_if_gt dX11_works_426 rfl ⟨fun h426 => ?_, fun h426 => ?_⟩
      · skip
        refine xq_iconst dX11_works_442 ic0 ?_
        refine xq_zret dX11_works_443 rfl (by decide) ?_
        rw [lg_cmp_gt, show (lN 1000000000000) = zL 1000000000000 from rfl, zL_lt ⟨by omega, by omega⟩ hwin] at h426
        refine ⟨false, _, ⟨?_, fun _ => ⟨by rw [hI_sL, hI_sI, if_pos ⟨rfl, rfl⟩], by rw [hL_sL, if_pos ⟨rfl, rfl⟩]⟩, fun j hj => by rw [hL_sL, if_neg (by omega)]; rfl, MoF.pL (MoF.pF (A := (fun q => q = 83 ∨ q = 102)) (F := (fun k => k = 34)) MoF.rf (Or.inl rfl) rfl _) (Or.inr rfl) _ _⟩, rfl⟩
        unfold inR
        rw [decide_eq_false (by omega)]
      · skip
        refine xq_lload dX11_works_429 rfl ?_
        refine xq_ldc2 dX11_works_431 kc_RX11_330 ?_
        refine xq_lcmp dX11_works_434 ?_
        refine xq_if_lt dX11_works_435 rfl ⟨fun h435 => ?_, fun h435 => ?_⟩
        · skip
          refine xq_iconst dX11_works_442 ic0 ?_
          refine xq_zret dX11_works_443 rfl (by decide) ?_
          rw [lg_cmp_gt, show (lN 1000000000000) = zL 1000000000000 from rfl, zL_lt ⟨by omega, by omega⟩ hwin] at h426
          rw [lg_cmp_lt, show (-1000000000000 : Int64) = zL (-1000000000000) by decide, zL_lt hwin ⟨by omega, by omega⟩] at h435
          refine ⟨false, _, ⟨?_, fun _ => ⟨by rw [hI_sL, hI_sI, if_pos ⟨rfl, rfl⟩], by rw [hL_sL, if_pos ⟨rfl, rfl⟩]⟩, fun j hj => by rw [hL_sL, if_neg (by omega)]; rfl, MoF.pL (MoF.pF (A := (fun q => q = 83 ∨ q = 102)) (F := (fun k => k = 34)) MoF.rf (Or.inl rfl) rfl _) (Or.inr rfl) _ _⟩, rfl⟩
          unfold inR
          rw [decide_eq_false (by omega)]
        · skip
          refine xq_iconst dX11_works_438 ic1 ?_
          refine xq_goto dX11_works_439 rfl ?_
          refine xq_zret dX11_works_443 rfl (by decide) ?_
          rw [lg_cmp_gt, show (lN 1000000000000) = zL 1000000000000 from rfl, zL_lt ⟨by omega, by omega⟩ hwin] at h426
          rw [lg_cmp_lt, show (-1000000000000 : Int64) = zL (-1000000000000) by decide, zL_lt hwin ⟨by omega, by omega⟩] at h435
          refine ⟨true, _, ⟨?_, fun _ => ⟨by rw [hI_sL, hI_sI, if_pos ⟨rfl, rfl⟩], by rw [hL_sL, if_pos ⟨rfl, rfl⟩]⟩, fun j hj => by rw [hL_sL, if_neg (by omega)]; rfl, MoF.pL (MoF.pF (A := (fun q => q = 83 ∨ q = 102)) (F := (fun k => k = 34)) MoF.rf (Or.inl rfl) rfl _) (Or.inr rfl) _ _⟩, rfl⟩
          unfold inR
          rw [decide_eq_true (by omega)]
  · skip
    exact absurd h16 (by decide)
theorem m_works_13 (hF : gFx S) (hm : hI H 83 34 = nI (m + 1)) (hm6 : m + 1 ≤ 64) (hb : hL H 102 m = zL zb) (hzb : -1000000000000 ≤ zb ∧ zb ≤ 1000000000000) : Hv mX11_works 1 [.ref 83, vN 260] S H vN (fun x H' => x = 1 ∧ hL H' 102 m = zL (b2z (zb = 0)) ∧ (∀ j, j < m → hL H' 102 j = hL H 102 j) ∧ Off (fun q => q = 102) H H') := by
  have hda : inB zb := ⟨by omega, by omega⟩
  have z0 : inB 0 := ⟨by decide, by decide⟩
  have d0 : zL zb = lN 0 ↔ zb = 0 := zL_eq hda z0
  refine vq_intro (by decide) (by exact Nat.le_of_ble_eq_true rfl) rfl ?_
  refine xq_aload_n dX11_works_0 rfl rfl ?_
  refine xq_getF clX11 (by decide) rfl fl_RX11_69 dX11_works_1 (Fx.s83 hF) (Fx.r83_33 hF) ?_
  refine xq_aload_n dX11_works_4 rfl rfl ?_
  refine xq_getIE clX11 (by decide) rfl fl_RX11_315 dX11_works_5 (Fx.s83 hF) hm ?_
  refine xq_iconst dX11_works_8 ic1 ?_
  refine xq_isubN dX11_works_9 (by omega) ?_
  rw [show m + 1 - 1 = m from rfl]
  refine xq_laldN (v := zL zb) dX11_works_10 (Fx.s102 hF) (by omega) (by decide) hb ?_
  refine xq_lstore_nX dX11_works_11 rfl rfl rfl ?_
  refine xq_iload_n dX11_works_12 rfl rfl ?_
  refine xq_sipush dX11_works_13 sp260 ?_
  refine xq_icmp_neN dX11_works_16 rfl (by omega) (by omega) ⟨fun h16 => ?_, fun h16 => ?_⟩
  · skip
    exact absurd rfl h16
  · skip
    refine xq_aload_n dX11_works_19 rfl rfl ?_
    refine xq_getF clX11 (by decide) rfl fl_RX11_69 dX11_works_20 (Fx.s83 hF) (Fx.r83_33 hF) ?_
    refine xq_aload_n dX11_works_23 rfl rfl ?_
    refine xq_getIE clX11 (by decide) rfl fl_RX11_315 dX11_works_24 (Fx.s83 hF) hm ?_
    refine xq_iconst dX11_works_27 ic1 ?_
    refine xq_isubN dX11_works_28 (by omega) ?_
    rw [show m + 1 - 1 = m from rfl]
    refine xq_lload_n dX11_works_29 rfl rfl ?_
    refine xq_lconst dX11_works_30 lc0 ?_
    refine xq_lcmp dX11_works_31 ?_
    refine xq_if_ne dX11_works_32 rfl ⟨fun h32 => ?_, fun h32 => ?_⟩
    · skip
      refine xq_iconst dX11_works_39 ic0 ?_
      refine xq_callS1P gd_X11_oneIf dX11_works_40 ml_RX11_318 im_X11_oneIf (by exact Nat.le_of_ble_eq_true rfl) (by decide) m_oneIf0 ?_
      refine xq_lastN dX11_works_43 (Fx.s102 hF) (by omega) (by decide) ?_
      refine xq_iconst dX11_works_44 ic1 ?_
      refine xq_zret dX11_works_45 rfl (by decide) ?_
      rw [lg_cmp_eq, d0] at h32
      have ew : b2z (zb = 0) = 0 := b2z_0 h32
      exact ⟨1, _, ⟨rfl, by rw [hL_sL, if_pos ⟨rfl, rfl⟩, ew]; rfl, fun j hj => by rw [hL_sL, if_neg (by omega)], Off.pL (A := fun q => q = 102) Off.rf rfl _ _⟩, rfl⟩
    · skip
      refine xq_iconst dX11_works_35 ic1 ?_
      refine xq_goto dX11_works_36 rfl ?_
      refine xq_callS1P gd_X11_oneIf dX11_works_40 ml_RX11_318 im_X11_oneIf (by exact Nat.le_of_ble_eq_true rfl) (by decide) m_oneIf1 ?_
      refine xq_lastN dX11_works_43 (Fx.s102 hF) (by omega) (by decide) ?_
      refine xq_iconst dX11_works_44 ic1 ?_
      refine xq_zret dX11_works_45 rfl (by decide) ?_
      rw [lg_cmp_eq, d0] at h32
      have ew : b2z (zb = 0) = 1 := b2z_1 h32
      exact ⟨1, _, ⟨rfl, by rw [hL_sL, if_pos ⟨rfl, rfl⟩, ew]; rfl, fun j hj => by rw [hL_sL, if_neg (by omega)], Off.pL (A := fun q => q = 102) Off.rf rfl _ _⟩, rfl⟩
theorem m_works2 {kk : Nat} (hF : gFx S) (hk : WkK kk) (h13 : kk ≠ 13) (hm : hI H 83 34 = nI (m + 2)) (hm6 : m + 2 ≤ 64) (ha : hL H 102 m = zL za) (hb : hL H 102 (m + 1) = zL zb) (hza : -1000000000000 ≤ za ∧ za ≤ 1000000000000) (hzb : -1000000000000 ≤ zb ∧ zb ≤ 1000000000000) : Hv mX11_works 1 [.ref 83, vN (sgn kk)] S H vB (fun x H' => x = inR (wkz kk za zb) ∧ (x = true → hI H' 83 34 = nI (m + 1) ∧ hL H' 102 m = zL (wkz kk za zb)) ∧ (∀ j, j < m → hL H' 102 j = hL H 102 j) ∧ MoF (fun q => q = 83 ∨ q = 102) (fun k => k = 34) H H') := by
  have : kk = 11 ∨ kk = 12 ∨ kk = 28 ∨ kk = 29 ∨ kk = 30 ∨ kk = 31 ∨ kk = 32 ∨ kk = 33 ∨ kk = 34 ∨ kk = 35 ∨ kk = 36 ∨ kk = 37 := by unfold WkK at hk; omega
  rcases this with rfl | rfl | rfl | rfl | rfl | rfl | rfl | rfl | rfl | rfl | rfl | rfl
  · exact m_works_11 hF hm hm6 ha hb hza hzb
  · exact m_works_12 hF hm hm6 ha hb hza hzb
  · exact m_works_28 hF hm hm6 ha hb hza hzb
  · exact m_works_29 hF hm hm6 ha hb hza hzb
  · exact m_works_30 hF hm hm6 ha hb hza hzb
  · exact m_works_31 hF hm hm6 ha hb hza hzb
  · exact m_works_32 hF hm hm6 ha hb hza hzb
  · exact m_works_33 hF hm hm6 ha hb hza hzb
  · exact m_works_34 hF hm hm6 ha hb hza hzb
  · exact m_works_35 hF hm hm6 ha hb hza hzb
  · exact m_works_36 hF hm hm6 ha hb hza hzb
  · exact m_works_37 hF hm hm6 ha hb hza hzb
theorem m_hasLaw1 (hs : MsP S H T N) (hl : l < 2) (hn : tLn T l ≠ 0) : Pv mX11_hasLaw 0 [.ref 83, vN l] S H (vN 1) := by
  have hF := hs.fx; have hx := hs.mx; have hlw := hx.lw l hl; rw [if_neg hn, if_neg hn] at hlw
  have hrp := (hs.nx.2 l hl hn).1.1
  have hr64 : tLr T l < 64 := by
    have tk := hs.tk
    rcases (by omega : l = 0 ∨ l = 1) with e | e
    · subst e; exact (tk.l0 hn).1
    · subst e; exact (tk.l1 hn).1
  refine vq_ev (vq_intro (by decide) (by exact Nat.le_of_ble_eq_true rfl) rfl ?_)
  refine xq_aload_n dX11_hasLaw_0 rfl rfl ?_
  refine xq_getF clX11 (by decide) rfl fl_RX11_52 dX11_hasLaw_1 (Fx.s83 hF) (Fx.r83_16 hF) ?_
  refine xq_iload_n dX11_hasLaw_4 rfl rfl ?_
  refine xq_ialdN dX11_hasLaw_5 (Fx.s98 hF) (by omega) (by decide) hlw.2 ?_
  refine xq_aload_n dX11_hasLaw_6 rfl rfl ?_
  refine xq_getF clX11 (by decide) rfl fl_RX11_49 dX11_hasLaw_7 (Fx.s83 hF) (Fx.r83_15 hF) ?_
  refine xq_iload_n dX11_hasLaw_10 rfl rfl ?_
  refine xq_ialdN dX11_hasLaw_11 (Fx.s97 hF) (by omega) (by decide) hlw.1 ?_
  refine xq_icmp_leN dX11_hasLaw_12 rfl (by omega) (by omega) ⟨fun h12 => ?_, fun h12 => ?_⟩
  · skip
    exact absurd h12 (by omega)
  · skip
    refine xq_iconst dX11_hasLaw_15 ic1 ?_
    refine xq_goto dX11_hasLaw_16 rfl ?_
    refine xq_zret dX11_hasLaw_20 rfl (by decide) ?_
    rfl
theorem m_hasLaw0 (hs : MsP S H T N) (hl : l < 2) (hn : tLn T l = 0) : Pv mX11_hasLaw 0 [.ref 83, vN l] S H (vN 0) := by
  have hF := hs.fx; have hx := hs.mx; have hlw := hx.lw l hl; rw [if_pos hn, if_pos hn] at hlw
  refine vq_ev (vq_intro (by decide) (by exact Nat.le_of_ble_eq_true rfl) rfl ?_)
  refine xq_aload_n dX11_hasLaw_0 rfl rfl ?_
  refine xq_getF clX11 (by decide) rfl fl_RX11_52 dX11_hasLaw_1 (Fx.s83 hF) (Fx.r83_16 hF) ?_
  refine xq_iload_n dX11_hasLaw_4 rfl rfl ?_
  refine xq_ialdN dX11_hasLaw_5 (Fx.s98 hF) (by omega) (by decide) hlw.2 ?_
  refine xq_aload_n dX11_hasLaw_6 rfl rfl ?_
  refine xq_getF clX11 (by decide) rfl fl_RX11_49 dX11_hasLaw_7 (Fx.s83 hF) (Fx.r83_15 hF) ?_
  refine xq_iload_n dX11_hasLaw_10 rfl rfl ?_
  refine xq_ialdN dX11_hasLaw_11 (Fx.s97 hF) (by omega) (by decide) hlw.1 ?_
  refine xq_icmp_leN dX11_hasLaw_12 rfl (by omega) (by omega) ⟨fun h12 => ?_, fun h12 => ?_⟩
  · skip
    refine xq_iconst dX11_hasLaw_19 ic0 ?_
    refine xq_zret dX11_hasLaw_20 rfl (by decide) ?_
    rfl
  · skip
    exact absurd h12 (by omega)
def WsP (H : xH) (T : uTx) (nm : Nat → Nat) : List Nat → Prop
  | [] => True
  | e :: l => (hL H 102 l.length = zL (lvv T nm e) ∧ -1000000000000 ≤ lvv T nm e ∧ lvv T nm e ≤ 1000000000000) ∧ WsP H T nm l
theorem WsP.lo : ∀ {l : List Nat}, WsP H T nm l → (∀ j, j < l.length → hL H2 102 j = hL H 102 j) → WsP H2 T nm l
  | [], _, _ => trivial
  | e :: l, h, g => ⟨⟨(g _ (by rw [List.length_cons]; omega)).trans h.1.1, h.1.2⟩, WsP.lo h.2 (fun j hj => g j (by rw [List.length_cons]; omega))⟩
def NmsP (H : xH) (nm : Nat → Nat) : Prop := ∀ k, k < 7 → hL H 101 k = lN (nm (21 + k))
theorem MxP.lwk (h : TxOk T) (hl : l < 2) : LwOk T l := by
  rcases (by omega : l = 0 ∨ l = 1) with e | e
  · rw [e]; exact h.l0
  · rw [e]; exact h.l1
theorem m_goes (hs : MsP S H T N) (hl : l < 2) (hn : tLn T l ≠ 0) (hnms : NmsP H nm) (hnm : ∀ k, nm k ≤ 100000000) : Hv mX11_goes 2 [.ref 83, vN l] S H vB (fun x H' => x = (lawE T nm l).isSome ∧ (∀ z, lawE T nm l = some z → hL H' 102 0 = zL z) ∧ MoF (fun q => q = 83 ∨ q = 102) (fun k => k = 34) H H') := by
  have hF := hs.fx; have hx := hs.mx; have tk := hs.tk
  have hlo := (MxP.lwk tk hl) hn
  have hnx := hs.nx.2 l hl hn
  have hrp := hnx.1
  have hab := hrp.1
  have hlw0 := hx.lw l hl
  rw [if_neg hn, if_neg hn] at hlw0
  have l1 : ∀ (fz : Nat) (n : Nat) (H1 : xH), tLr T l + 1 - (N 1 l + n) < fz → N 1 l + n ≤ tLr T l + 1 → hI H1 83 34 = nI (stk T (N 1 l) n).length → WsP H1 T nm (stk T (N 1 l) n) → (∀ k, N 1 l ≤ k → k < N 1 l + n → inR (lvv T nm k) = true) → MoF (fun q => q = 83 ∨ q = 102) (fun k => k = 34) H H1 → Xq mX11_goes 2 0 0 12 [some (.ref 83), some (vN l), some (vN (N 1 l + n))] [] S H1 (fun R => ∃ x H', (fun x H' => x = (lawE T nm l).isSome ∧ (∀ z, lawE T nm l = some z → hL H' 102 0 = zL z) ∧ MoF (fun q => q = 83 ∨ q = 102) (fun k => k = 34) H H') x H' ∧ R = (some (vB x), S, H')) := by
    intro fz
    induction fz with
    | zero => intro n  H1  hfz; exact absurd hfz (by omega)
    | succ fz ih =>
      intro n  H1  hfz hi hrm hst hok ho
      have hx1 := hx.off ho.1 (fun q a b => by omega)
      have hlw1 := hx1.lw l hl
      rw [if_neg hn, if_neg hn] at hlw1
      refine xq_iload_n dX11_goes_12 rfl rfl ?_
      refine xq_aload_n dX11_goes_13 rfl rfl ?_
      refine xq_getF clX11 (by decide) rfl fl_RX11_52 dX11_goes_14 (Fx.s83 hF) (Fx.r83_16 hF) ?_
      refine xq_iload_n dX11_goes_17 rfl rfl ?_
      refine xq_ialdN dX11_goes_18 (Fx.s98 hF) (by omega) (by decide) hlw1.2 ?_
      refine xq_icmp_geN dX11_goes_19 rfl (by omega) (by omega) ⟨fun h19 => ?_, fun h19 => ?_⟩
      · skip
        refine xq_iconst dX11_goes_102 ic1 ?_
        refine xq_zret dX11_goes_103 rfl (by decide) ?_
        have en : n = tLr T l + 1 - N 1 l := by omega
        rw [en, hrp.2.2] at hst
        obtain ⟨⟨hv0, -⟩, -⟩ := hst
        have hlk : lawE T nm l = some (lvv T nm (tLr T l)) := by
          unfold lawE
          rw [if_neg hn, if_pos]
          unfold lok
          rw [Bool.not_eq_true', ← Bool.not_eq_true, ex_iff]
          rintro ⟨k, k1, k2⟩
          rw [Bool.and_eq_true] at k2
          have k3 := hnx.2 k (by omega) k2.1
          rw [hok k k3 (by omega)] at k2
          simp at k2
        exact ⟨true, H1, ⟨by rw [hlk]; rfl, fun z hz => (by rw [hlk] at hz; injection hz with hz; rw [← hz]; exact hv0), ho⟩, rfl⟩
      · skip
        have hn64 := stk_len (T := T) (N 1 l) n
        have hin : N 1 l + n < tLr T l + 1 := h19
        obtain ⟨rb1, ar1, ar2⟩ := hrp.2.1 n hin
        obtain ⟨hkr, hknk, hlwk⟩ := hlo.2.2 _ (by omega) rb1
        have hkk := hx1.kn _ hknk
        have kve : lcl T nm (lvv T nm) (N 1 l + n) = lvv T nm (N 1 l + n) := lcl_eq hlwk (fun _ _ _ => rfl)
        rcases hlwk with hk0 | ⟨hk0, hx9⟩ | ⟨hk0, hkx⟩ | ⟨hk0, h13, hkx⟩
        · skip
          have hS : mkS T (N 1 l + n) = 1 := by
            unfold mkS
            rw [if_neg (by omega), if_neg (by omega), if_neg (by omega), if_neg (by omega), if_neg (by omega), if_neg (by omega), if_neg (by omega), if_neg (by omega), if_pos hk0]
          have hV : mkV T (N 1 l + n) = tK T (N 1 l + n) - 21 := by
            unfold mkV
            rw [if_neg (by omega), if_neg (by omega), if_neg (by omega), if_neg (by omega), if_pos hk0]
          have hle : lvv T nm (N 1 l + n) = (nm (tK T (N 1 l + n)) : Int) := by rw [← kve]; unfold lcl; rw [if_pos hk0]
          have hnb := hnm (tK T (N 1 l + n))
          have hn2 := (ho.1.L (by omega) _).trans (hnms (tK T (N 1 l + n) - 21) (by omega))
          rw [show 21 + (tK T (N 1 l + n) - 21) = tK T (N 1 l + n) by omega] at hn2
          refine xq_aload_n dX11_goes_22 rfl rfl ?_
          refine xq_getF clX11 (by decide) rfl fl_RX11_55 dX11_goes_23 (Fx.s83 hF) (Fx.r83_17 hF) ?_
          refine xq_iload_n dX11_goes_26 rfl rfl ?_
          refine xq_ialdN (v := nI 1) dX11_goes_27 (Fx.s99 hF) (by omega) (by decide) (hkk.1.trans (by rw [hS])) ?_
          refine xq_iconst dX11_goes_28 ic2 ?_
          refine xq_icmp_neN dX11_goes_29 rfl (by omega) (by omega) ⟨fun h29 => ?_, fun h29 => ?_⟩
          · skip
            refine xq_aload_n dX11_goes_47 rfl rfl ?_
            refine xq_getF clX11 (by decide) rfl fl_RX11_69 dX11_goes_48 (Fx.s83 hF) (Fx.r83_33 hF) ?_
            refine xq_aload_n dX11_goes_51 rfl rfl ?_
            refine xq_getIE clX11 (by decide) rfl fl_RX11_315 dX11_goes_52 (Fx.s83 hF) hrm ?_
            refine xq_aload_n dX11_goes_55 rfl rfl ?_
            refine xq_getF clX11 (by decide) rfl fl_RX11_55 dX11_goes_56 (Fx.s83 hF) (Fx.r83_17 hF) ?_
            refine xq_iload_n dX11_goes_59 rfl rfl ?_
            refine xq_ialdN (v := nI 1) dX11_goes_60 (Fx.s99 hF) (by omega) (by decide) (hkk.1.trans (by rw [hS])) ?_
            refine xq_if_neN dX11_goes_61 rfl (by omega) ⟨fun h61 => ?_, fun h61 => ?_⟩
            · skip
              refine xq_aload_n dX11_goes_74 rfl rfl ?_
              refine xq_getF clX11 (by decide) rfl fl_RX11_65 dX11_goes_75 (Fx.s83 hF) (Fx.r83_32 hF) ?_
              refine xq_aload_n dX11_goes_78 rfl rfl ?_
              refine xq_getF clX11 (by decide) rfl fl_RX11_58 dX11_goes_79 (Fx.s83 hF) (Fx.r83_18 hF) ?_
              refine xq_iload_n dX11_goes_82 rfl rfl ?_
              refine xq_ialdN (v := nI (tK T (N 1 l + n) - 21)) dX11_goes_83 (Fx.s100 hF) (by omega) (by decide) (hkk.2.trans (by rw [hV])) ?_
              refine xq_laldN (v := lN (nm (tK T (N 1 l + n)))) dX11_goes_84 (Fx.s101 hF) (by omega) (by decide) hn2 ?_
              refine xq_lastN dX11_goes_85 (Fx.s102 hF) (by omega) (by decide) ?_
              refine xq_aload_n dX11_goes_86 rfl rfl ?_
              refine xq_dup dX11_goes_87 rfl ?_
              refine xq_getIE (v := nI (stk T (N 1 l) n).length) clX11 (by decide) rfl fl_RX11_315 dX11_goes_88 (Fx.s83 hF) (by rw [hI_sL]; exact hrm) ?_
              refine xq_iconst dX11_goes_91 ic1 ?_
              refine xq_iaddN dX11_goes_92 ?_
              refine xq_putI clX11 (by decide) rfl fl_RX11_315 (Or.inl rfl) dX11_goes_93 ⟨rfl, rfl⟩ (Fx.s83 hF) ?_
              refine xq_iincN dX11_goes_96 ic1 rfl rfl ?_
              refine xq_goto dX11_goes_99 rfl ?_
              have hst2 : stk T (N 1 l) (n + 1) = (N 1 l + n) :: stk T (N 1 l) n := by show _ :: _ = _; rw [show arK (tK T (N 1 l + n)) = 0 by unfold arK; rw [if_neg (by omega), if_neg (by omega)]]; rfl
              have hin2 := (show -1000000000000 ≤ lvv T nm (N 1 l + n) ∧ lvv T nm (N 1 l + n) ≤ 1000000000000 by rw [hle]; omega)
              refine xq_fgt (ih (n + 1) _ (by omega) (by omega) (by rw [hst2]; exact (by rw [hI_sI, if_pos ⟨rfl, rfl⟩]; rfl)) (by rw [hst2]; exact ⟨⟨(by rw [hL_sI, hL_sL, if_pos ⟨rfl, rfl⟩, hle]; rfl), hin2⟩, hst.lo (fun j hj => by rw [hL_sI, hL_sL, if_neg (by omega)])⟩) (fun k k1 k2 => ?_) (ho.tr (MoF.pF (A := (fun q => q = 83 ∨ q = 102)) (F := (fun k => k = 34)) (MoF.pL (A := (fun q => q = 83 ∨ q = 102)) (F := (fun k => k = 34)) MoF.rf (Or.inr rfl) _ _) (Or.inl rfl) rfl _))) (by exact And.intro rfl (And.intro rfl (And.intro rfl (trivial))))
              by_cases e : k = N 1 l + n
              · rw [e]; exact decide_eq_true hin2
              · exact hok k k1 (by omega)
            · skip
              first | exact absurd h61 (by decide) | exact absurd rfl h61
          · skip
            first | exact absurd h29 (by decide) | exact absurd rfl h29
        · skip
          have hS : mkS T (N 1 l + n) = 0 := by simp [mkS, hk0]
          have hV : mkV T (N 1 l + n) = tX T (N 1 l + n) := by simp [mkV, hk0]
          have hle : lvv T nm (N 1 l + n) = (tX T (N 1 l + n) : Int) := by rw [← kve]; unfold lcl; rw [if_neg (by omega), if_pos hk0]
          refine xq_aload_n dX11_goes_22 rfl rfl ?_
          refine xq_getF clX11 (by decide) rfl fl_RX11_55 dX11_goes_23 (Fx.s83 hF) (Fx.r83_17 hF) ?_
          refine xq_iload_n dX11_goes_26 rfl rfl ?_
          refine xq_ialdN (v := nI 0) dX11_goes_27 (Fx.s99 hF) (by omega) (by decide) (hkk.1.trans (by rw [hS])) ?_
          refine xq_iconst dX11_goes_28 ic2 ?_
          refine xq_icmp_neN dX11_goes_29 rfl (by omega) (by omega) ⟨fun h29 => ?_, fun h29 => ?_⟩
          · skip
            refine xq_aload_n dX11_goes_47 rfl rfl ?_
            refine xq_getF clX11 (by decide) rfl fl_RX11_69 dX11_goes_48 (Fx.s83 hF) (Fx.r83_33 hF) ?_
            refine xq_aload_n dX11_goes_51 rfl rfl ?_
            refine xq_getIE clX11 (by decide) rfl fl_RX11_315 dX11_goes_52 (Fx.s83 hF) hrm ?_
            refine xq_aload_n dX11_goes_55 rfl rfl ?_
            refine xq_getF clX11 (by decide) rfl fl_RX11_55 dX11_goes_56 (Fx.s83 hF) (Fx.r83_17 hF) ?_
            refine xq_iload_n dX11_goes_59 rfl rfl ?_
            refine xq_ialdN (v := nI 0) dX11_goes_60 (Fx.s99 hF) (by omega) (by decide) (hkk.1.trans (by rw [hS])) ?_
            refine xq_if_neN dX11_goes_61 rfl (by omega) ⟨fun h61 => ?_, fun h61 => ?_⟩
            · skip
              first | exact absurd h61 (by decide) | exact absurd rfl h61
            · skip
              refine xq_aload_n dX11_goes_64 rfl rfl ?_
              refine xq_getF clX11 (by decide) rfl fl_RX11_58 dX11_goes_65 (Fx.s83 hF) (Fx.r83_18 hF) ?_
              refine xq_iload_n dX11_goes_68 rfl rfl ?_
              refine xq_ialdN (v := nI (tX T (N 1 l + n))) dX11_goes_69 (Fx.s100 hF) (by omega) (by decide) (hkk.2.trans (by rw [hV])) ?_
              refine xq_i2l dX11_goes_70 ?_
              rw [nI_toL (by omega)]
              refine xq_goto dX11_goes_71 rfl ?_
              refine xq_lastN dX11_goes_85 (Fx.s102 hF) (by omega) (by decide) ?_
              refine xq_aload_n dX11_goes_86 rfl rfl ?_
              refine xq_dup dX11_goes_87 rfl ?_
              refine xq_getIE (v := nI (stk T (N 1 l) n).length) clX11 (by decide) rfl fl_RX11_315 dX11_goes_88 (Fx.s83 hF) (by rw [hI_sL]; exact hrm) ?_
              refine xq_iconst dX11_goes_91 ic1 ?_
              refine xq_iaddN dX11_goes_92 ?_
              refine xq_putI clX11 (by decide) rfl fl_RX11_315 (Or.inl rfl) dX11_goes_93 ⟨rfl, rfl⟩ (Fx.s83 hF) ?_
              refine xq_iincN dX11_goes_96 ic1 rfl rfl ?_
              refine xq_goto dX11_goes_99 rfl ?_
              have hst2 : stk T (N 1 l) (n + 1) = (N 1 l + n) :: stk T (N 1 l) n := by show _ :: _ = _; rw [show arK (tK T (N 1 l + n)) = 0 by simp [arK, hk0]]; rfl
              have hin2 := (show -1000000000000 ≤ lvv T nm (N 1 l + n) ∧ lvv T nm (N 1 l + n) ≤ 1000000000000 by rw [hle]; omega)
              refine xq_fgt (ih (n + 1) _ (by omega) (by omega) (by rw [hst2]; exact (by rw [hI_sI, if_pos ⟨rfl, rfl⟩]; rfl)) (by rw [hst2]; exact ⟨⟨(by rw [hL_sI, hL_sL, if_pos ⟨rfl, rfl⟩, hle]; rfl), hin2⟩, hst.lo (fun j hj => by rw [hL_sI, hL_sL, if_neg (by omega)])⟩) (fun k k1 k2 => ?_) (ho.tr (MoF.pF (A := (fun q => q = 83 ∨ q = 102)) (F := (fun k => k = 34)) (MoF.pL (A := (fun q => q = 83 ∨ q = 102)) (F := (fun k => k = 34)) MoF.rf (Or.inr rfl) _ _) (Or.inl rfl) rfl _))) (by exact And.intro rfl (And.intro rfl (And.intro rfl (trivial))))
              by_cases e : k = N 1 l + n
              · rw [e]; exact decide_eq_true hin2
              · exact hok k k1 (by omega)
          · skip
            first | exact absurd h29 (by decide) | exact absurd rfl h29
        · skip
          have hS : mkS T (N 1 l + n) = 2 := by simp [mkS, hk0]
          have hV : mkV T (N 1 l + n) = 260 := by simp [mkV, hk0, sgn]
          obtain ⟨r, hr0⟩ := ar1 (by simp [arK, hk0])
          have hst0 := hst
          rw [hr0] at hst0
          obtain ⟨⟨hvx, hix⟩, hrs⟩ := hst0
          have hrm2 := hrm
          rw [hr0, List.length_cons] at hrm2
          have hlen := hn64
          rw [hr0, List.length_cons] at hlen
          have hle : lvv T nm (N 1 l + n) = b2z (lvv T nm (tX T (N 1 l + n)) = 0) := by rw [← kve]; unfold lcl; rw [if_neg (by omega), if_neg (by omega), hk0]; rfl
          refine xq_aload_n dX11_goes_22 rfl rfl ?_
          refine xq_getF clX11 (by decide) rfl fl_RX11_55 dX11_goes_23 (Fx.s83 hF) (Fx.r83_17 hF) ?_
          refine xq_iload_n dX11_goes_26 rfl rfl ?_
          refine xq_ialdN (v := nI 2) dX11_goes_27 (Fx.s99 hF) (by omega) (by decide) (hkk.1.trans (by rw [hS])) ?_
          refine xq_iconst dX11_goes_28 ic2 ?_
          refine xq_icmp_neN dX11_goes_29 rfl (by omega) (by omega) ⟨fun h29 => ?_, fun h29 => ?_⟩
          · skip
            first | exact absurd h29 (by decide) | exact absurd rfl h29
          · skip
            refine xq_aload_n dX11_goes_32 rfl rfl ?_
            refine xq_aload_n dX11_goes_33 rfl rfl ?_
            refine xq_getF clX11 (by decide) rfl fl_RX11_58 dX11_goes_34 (Fx.s83 hF) (Fx.r83_18 hF) ?_
            refine xq_iload_n dX11_goes_37 rfl rfl ?_
            refine xq_ialdN (v := nI (260)) dX11_goes_38 (Fx.s100 hF) (by omega) (by decide) (hkk.2.trans (by rw [hV])) ?_
            refine xq_callV1H clX11 gd_X11_works dX11_goes_39 ml_RX11_332 im_X11_works se_X11_works rfl (Fx.s83 hF) (by exact Nat.le_of_ble_eq_true rfl) (by decide) (m_works_13 hF hrm2 (by omega) hvx hix) ?_
            intro x39 H39 p39
            obtain ⟨rfl, v39, f39, o39⟩ := p39
            have q39 : MoF (fun q => q = 83 ∨ q = 102) (fun k => k = 34) H1 H39 := MoF.mo (B := (fun q => q = 83 ∨ q = 102)) (G := (fun k => k = 34)) (MoF.of (F := fun _ => False) o39 (by omega)) (fun q h => Or.inr h) (fun k h => absurd h (fun e => e))
            have hrm39 := (o39.I (by omega) 34).trans hrm2
            refine xq_if_neN dX11_goes_42 rfl (by omega) ⟨fun h42 => ?_, fun h42 => ?_⟩
            · skip
              refine xq_iincN dX11_goes_96 ic1 rfl rfl ?_
              refine xq_goto dX11_goes_99 rfl ?_
              have hst2 : stk T (N 1 l) (n + 1) = (N 1 l + n) :: r := by show _ :: _ = _; rw [hr0, show arK (tK T (N 1 l + n)) = 1 by simp [arK, hk0]]; rfl
              have hin2 := (show -1000000000000 ≤ lvv T nm (N 1 l + n) ∧ lvv T nm (N 1 l + n) ≤ 1000000000000 by rw [hle]; unfold b2z; split <;> omega)
              refine xq_fgt (ih (n + 1) H39 (by omega) (by omega) (by rw [hst2]; exact hrm39) (by rw [hst2]; exact ⟨⟨(v39.trans (by rw [hle])), hin2⟩, hrs.lo (fun j hj => f39 j hj)⟩) (fun k k1 k2 => ?_) (ho.tr q39)) (by exact And.intro rfl (And.intro rfl (And.intro rfl (trivial))))
              by_cases e : k = N 1 l + n
              · rw [e]; exact decide_eq_true hin2
              · exact hok k k1 (by omega)
            · skip
              first | exact absurd h42 (by decide) | exact absurd rfl h42
        · skip
          have hwk := hk0
          unfold WkK at hk0
          have hS : mkS T (N 1 l + n) = 2 := by
            unfold mkS
            rw [if_neg (by omega), if_neg (by omega), if_neg (by omega), if_neg (by omega), if_neg (by omega), if_neg (by omega), if_neg (by omega), if_neg (by omega), if_neg (by omega)]
          have hV : mkV T (N 1 l + n) = sgn (tK T (N 1 l + n)) := by
            unfold mkV
            rw [if_neg (by omega), if_neg (by omega), if_neg (by omega), if_neg (by omega), if_neg (by omega)]
          have hk0 := hwk
          obtain ⟨r, hr0⟩ := ar2 (by unfold arK; rw [if_neg (by unfold WkK at hk0; omega), if_pos (by unfold WkK at hk0; omega)])
          have hst0 := hst
          rw [hr0] at hst0
          obtain ⟨⟨hvy, hiy⟩, ⟨hvx, hix⟩, hrs⟩ := hst0
          have hrm2 := hrm
          rw [hr0, List.length_cons, List.length_cons] at hrm2
          have hlen := hn64
          rw [hr0, List.length_cons, List.length_cons] at hlen
          rw [List.length_cons] at hvy
          have hle : lvv T nm (N 1 l + n) = wkz (tK T (N 1 l + n)) (lvv T nm (tX T (N 1 l + n))) (lvv T nm (tY T (N 1 l + n))) := by rw [← kve]; unfold lcl; rw [if_neg (by unfold WkK at hk0; omega), if_neg (by unfold WkK at hk0; omega), if_neg h13]
          refine xq_aload_n dX11_goes_22 rfl rfl ?_
          refine xq_getF clX11 (by decide) rfl fl_RX11_55 dX11_goes_23 (Fx.s83 hF) (Fx.r83_17 hF) ?_
          refine xq_iload_n dX11_goes_26 rfl rfl ?_
          refine xq_ialdN (v := nI 2) dX11_goes_27 (Fx.s99 hF) (by omega) (by decide) (hkk.1.trans (by rw [hS])) ?_
          refine xq_iconst dX11_goes_28 ic2 ?_
          refine xq_icmp_neN dX11_goes_29 rfl (by omega) (by omega) ⟨fun h29 => ?_, fun h29 => ?_⟩
          · skip
            first | exact absurd h29 (by decide) | exact absurd rfl h29
          · skip
            refine xq_aload_n dX11_goes_32 rfl rfl ?_
            refine xq_aload_n dX11_goes_33 rfl rfl ?_
            refine xq_getF clX11 (by decide) rfl fl_RX11_58 dX11_goes_34 (Fx.s83 hF) (Fx.r83_18 hF) ?_
            refine xq_iload_n dX11_goes_37 rfl rfl ?_
            refine xq_ialdN (v := nI (sgn (tK T (N 1 l + n)))) dX11_goes_38 (Fx.s100 hF) (by omega) (by decide) (hkk.2.trans (by rw [hV])) ?_
            refine xq_callV1H clX11 gd_X11_works dX11_goes_39 ml_RX11_332 im_X11_works se_X11_works rfl (Fx.s83 hF) (by exact Nat.le_of_ble_eq_true rfl) (by decide) (m_works2 hF hk0 h13 hrm2 (by omega) hvx hvy hix hiy) ?_
            intro x39 H39 p39
            obtain ⟨e39, g39, f39, q39⟩ := p39
            rw [← hle] at e39 g39
            refine xq_if_neB dX11_goes_42 rfl ⟨fun h42 => ?_, fun h42 => ?_⟩
            · skip
              refine xq_iincN dX11_goes_96 ic1 rfl rfl ?_
              refine xq_goto dX11_goes_99 rfl ?_
              have g39 := g39 h42
              have hst2 : stk T (N 1 l) (n + 1) = (N 1 l + n) :: r := by show _ :: _ = _; rw [hr0, show arK (tK T (N 1 l + n)) = 2 by unfold arK; rw [if_neg (by unfold WkK at hk0; omega), if_pos (by unfold WkK at hk0; omega)]]; rfl
              have hin2 := (show -1000000000000 ≤ lvv T nm (N 1 l + n) ∧ lvv T nm (N 1 l + n) ≤ 1000000000000 from of_decide_eq_true (by rw [h42] at e39; exact e39.symm))
              refine xq_fgt (ih (n + 1) H39 (by omega) (by omega) (by rw [hst2]; exact g39.1) (by rw [hst2]; exact ⟨⟨g39.2, hin2⟩, hrs.lo (fun j hj => f39 j hj)⟩) (fun k k1 k2 => ?_) (ho.tr q39)) (by exact And.intro rfl (And.intro rfl (And.intro rfl (trivial))))
              by_cases e : k = N 1 l + n
              · rw [e]; exact decide_eq_true hin2
              · exact hok k k1 (by omega)
            · skip
              refine xq_iconst dX11_goes_45 ic0 ?_
              refine xq_zret dX11_goes_46 rfl (by decide) ?_
              rw [h42] at e39
              have hbad := e39.symm
              have hlk : lawE T nm l = none := by
                unfold lawE
                rw [if_neg hn, if_neg]
                intro e
                have := lok_in e (by omega) rb1
                unfold inR at hbad
                rw [decide_eq_false_iff_not] at hbad
                exact hbad this
              exact ⟨false, H39, ⟨by rw [hlk]; rfl, fun z hz => (by rw [hlk] at hz; cases hz), ho.tr q39⟩, rfl⟩
  refine vq_intro (by decide) (by exact Nat.le_of_ble_eq_true rfl) rfl ?_
  refine xq_aload_n dX11_goes_0 rfl rfl ?_
  refine xq_iconst dX11_goes_1 ic0 ?_
  refine xq_putI clX11 (by decide) rfl fl_RX11_315 (Or.inl rfl) dX11_goes_2 ⟨rfl, rfl⟩ (Fx.s83 hF) ?_
  refine xq_aload_n dX11_goes_5 rfl rfl ?_
  refine xq_getF clX11 (by decide) rfl fl_RX11_49 dX11_goes_6 (Fx.s83 hF) (Fx.r83_15 hF) ?_
  refine xq_iload_n dX11_goes_9 rfl rfl ?_
  refine xq_ialdN dX11_goes_10 (Fx.s97 hF) (by omega) (by decide) ((hI_sI _ _ _ _ _ _).trans ((if_neg (by omega)).trans hlw0.1)) ?_
  refine xq_istore_n dX11_goes_11 rfl rfl ?_
  exact l1 (tLr T l + 2) 0 _ (by omega) (by omega) (by rw [hI_sI, if_pos ⟨rfl, rfl⟩]; rfl) trivial (fun k k1 k2 => absurd k2 (by omega)) (MoF.pF (A := (fun q => q = 83 ∨ q = 102)) (F := (fun k => k = 34)) MoF.rf (Or.inl rfl) rfl _)
theorem LdP.names {H2 : xH} (h : LdP S H T N lf u s) (ho : Off (fun q => q = 101) H H2) : LdP S H2 T N lf u s := h.off (MoF.of (F := fun _ => False) ho (by omega)) (fun q a b c d => by omega) (fun e => e) (fun e => e) (fun e => e)
theorem m_calls (hd : LdP S H T N lf u s) (hp : p < tNp T) : Nv mX11_calls 3 [.ref 83, vN p] S H (fun H' => NmsP H' (nmv u p (pop (kns u))) ∧ Off (fun q => q = 101) H H') := by
  have hs := hd.ms; have hr := hd.rm; have hlr := hd.lr; have ok := hd.ok; have h23 := hd.s23; have hro := hd.ro; have hF := hs.fx; have hx := hs.mx; have hw := hs.mw; have tk := hs.tk; have tw := hs.tw; have hnp := tw.2.1; have hnc := tw.1; have hWn := nW_le tw; have htr := hlr.2.1; have hnf8 := tk.nf; have htt := hs.tt
  have hse := ok.se (p := p) (by omega); have hkl := kns_lt (u := u) (by rw [hlr.2.2.2.2]; omega); have hpk := pop_le (kns u); have hps := pop_le (uSe u p); have hpd := pop_le (uSd u); have hsd := ok.sd; have hal := alikeN_le u p; have hz := ok.n; have hhr := ok.hr; have hhd := ok.2.2.2.2.2.2.1; have hle := ct_le lf (nW T); have hcz := hlr.z
  refine vq_intro (by decide) (by exact Nat.le_of_ble_eq_true rfl) rfl ?_
  refine xq_aload_n dX11_calls_0 rfl rfl ?_
  refine xq_getF clX11 (by decide) rfl fl_RX11_65 dX11_calls_1 (Fx.s83 hF) (Fx.r83_32 hF) ?_
  refine xq_iconst dX11_calls_4 ic0 ?_
  refine xq_aload_n dX11_calls_5 rfl rfl ?_
  refine xq_getF clX11 (by decide) rfl fl_RX11_75 dX11_calls_6 (Fx.s83 hF) (Fx.r83_38 hF) ?_
  refine xq_aload_n dX11_calls_9 rfl rfl ?_
  refine xq_getIE clX11 (by decide) rfl fl_RX11_350 dX11_calls_10 (Fx.s83 hF) hro ?_
  refine xq_ialdN dX11_calls_13 (Fx.s104 hF) (by omega) (by decide) hr.hr ?_
  refine xq_i2l dX11_calls_14 ?_
  rw [nI_toL (by omega)]
  refine xq_lastN dX11_calls_15 (Fx.s101 hF) (by omega) (by decide) ?_
  have ho1 : Off (fun q => q = 101) H (sL H 101 0 (lN (uHr u))) := Off.pL (A := fun q => q = 101) Off.rf rfl _ _
  have hd1 := hd.names ho1
  have hr1 := hd1.rm; have hro1 := hd1.ro; have hs1 := hd1.ms
  refine xq_aload_n dX11_calls_16 rfl rfl ?_
  refine xq_getF clX11 (by decide) rfl fl_RX11_65 dX11_calls_17 (Fx.s83 hF) (Fx.r83_32 hF) ?_
  refine xq_iconst dX11_calls_20 ic1 ?_
  refine xq_aload_n dX11_calls_21 rfl rfl ?_
  refine xq_aload_n dX11_calls_22 rfl rfl ?_
  refine xq_getIE clX11 (by decide) rfl fl_RX11_350 dX11_calls_23 (Fx.s83 hF) hro1 ?_
  refine xq_callV1P clX11 gd_X11_leftMany dX11_calls_26 ml_RX11_401 im_X11_leftMany se_X11_leftMany rfl (Fx.s83 hF) (by exact Nat.le_of_ble_eq_true rfl) (by decide) (m_leftMany hs1 hr1 h23) ?_
  refine xq_i2l dX11_calls_29 ?_
  rw [nI_toL (by omega)]
  rw [← hcz]
  refine xq_lastN dX11_calls_30 (Fx.s101 hF) (by omega) (by decide) ?_
  have ho2 : Off (fun q => q = 101) H (sL (sL H 101 0 (lN (uHr u))) 101 1 (lN (uZ u))) := Off.pL (A := fun q => q = 101) ho1 rfl _ _
  have hd2 := hd.names ho2
  have hr2 := hd2.rm; have hro2 := hd2.ro; have hs2 := hd2.ms
  refine xq_aload_n dX11_calls_31 rfl rfl ?_
  refine xq_getF clX11 (by decide) rfl fl_RX11_65 dX11_calls_32 (Fx.s83 hF) (Fx.r83_32 hF) ?_
  refine xq_iconst dX11_calls_35 ic2 ?_
  refine xq_aload_n dX11_calls_36 rfl rfl ?_
  refine xq_getF clX11 (by decide) rfl fl_RX11_90 dX11_calls_37 (Fx.s83 hF) (Fx.r83_43 hF) ?_
  refine xq_bipush dX11_calls_40 bp6 ?_
  refine xq_aload_n dX11_calls_42 rfl rfl ?_
  refine xq_getIE clX11 (by decide) rfl fl_RX11_350 dX11_calls_43 (Fx.s83 hF) hro2 ?_
  refine xq_imulN dX11_calls_46 ?_
  refine xq_iload_n dX11_calls_47 rfl rfl ?_
  refine xq_iaddN dX11_calls_48 ?_
  refine xq_ialdN dX11_calls_49 (Fx.s109 hF) (by omega) (by decide) (hr2.se p (by omega)) ?_
  refine xq_callS1P gd_X11_bitsOf dX11_calls_50 ml_RX11_404 im_X11_bitsOf (by exact Nat.le_of_ble_eq_true rfl) (by decide) (m_bitsOf (by omega)) ?_
  refine xq_i2l dX11_calls_53 ?_
  rw [nI_toL (by omega)]
  refine xq_lastN dX11_calls_54 (Fx.s101 hF) (by omega) (by decide) ?_
  have ho3 : Off (fun q => q = 101) H (sL (sL (sL H 101 0 (lN (uHr u))) 101 1 (lN (uZ u))) 101 2 (lN (pop (uSe u p)))) := Off.pL (A := fun q => q = 101) ho2 rfl _ _
  have hd3 := hd.names ho3
  have hr3 := hd3.rm; have hro3 := hd3.ro; have hs3 := hd3.ms
  refine xq_aload_n dX11_calls_55 rfl rfl ?_
  refine xq_getF clX11 (by decide) rfl fl_RX11_65 dX11_calls_56 (Fx.s83 hF) (Fx.r83_32 hF) ?_
  refine xq_iconst dX11_calls_59 ic3 ?_
  refine xq_aload_n dX11_calls_60 rfl rfl ?_
  refine xq_callV0P clX11 gd_X11_knowers dX11_calls_61 ml_RX11_407 im_X11_knowers se_X11_knowers rfl (Fx.s83 hF) (by exact Nat.le_of_ble_eq_true rfl) (by decide) (m_knowers hd3) ?_
  refine xq_callS1P gd_X11_bitsOf dX11_calls_64 ml_RX11_404 im_X11_bitsOf (by exact Nat.le_of_ble_eq_true rfl) (by decide) (m_bitsOf (by omega)) ?_
  refine xq_i2l dX11_calls_67 ?_
  rw [nI_toL (by omega)]
  refine xq_lastN dX11_calls_68 (Fx.s101 hF) (by omega) (by decide) ?_
  have ho4 : Off (fun q => q = 101) H (sL (sL (sL (sL H 101 0 (lN (uHr u))) 101 1 (lN (uZ u))) 101 2 (lN (pop (uSe u p)))) 101 3 (lN (pop (kns u)))) := Off.pL (A := fun q => q = 101) ho3 rfl _ _
  have hd4 := hd.names ho4
  have hr4 := hd4.rm; have hro4 := hd4.ro; have hs4 := hd4.ms
  refine xq_aload_n dX11_calls_69 rfl rfl ?_
  refine xq_getF clX11 (by decide) rfl fl_RX11_65 dX11_calls_70 (Fx.s83 hF) (Fx.r83_32 hF) ?_
  refine xq_iconst dX11_calls_73 ic4 ?_
  refine xq_aload_n dX11_calls_74 rfl rfl ?_
  refine xq_getF clX11 (by decide) rfl fl_RX11_87 dX11_calls_75 (Fx.s83 hF) (Fx.r83_42 hF) ?_
  refine xq_aload_n dX11_calls_78 rfl rfl ?_
  refine xq_getIE clX11 (by decide) rfl fl_RX11_350 dX11_calls_79 (Fx.s83 hF) hro4 ?_
  refine xq_ialdN dX11_calls_82 (Fx.s108 hF) (by omega) (by decide) hr4.sd ?_
  refine xq_callS1P gd_X11_bitsOf dX11_calls_83 ml_RX11_404 im_X11_bitsOf (by exact Nat.le_of_ble_eq_true rfl) (by decide) (m_bitsOf (by omega)) ?_
  refine xq_i2l dX11_calls_86 ?_
  rw [nI_toL (by omega)]
  refine xq_lastN dX11_calls_87 (Fx.s101 hF) (by omega) (by decide) ?_
  have ho5 : Off (fun q => q = 101) H (sL (sL (sL (sL (sL H 101 0 (lN (uHr u))) 101 1 (lN (uZ u))) 101 2 (lN (pop (uSe u p)))) 101 3 (lN (pop (kns u)))) 101 4 (lN (pop (uSd u)))) := Off.pL (A := fun q => q = 101) ho4 rfl _ _
  have hd5 := hd.names ho5
  have hr5 := hd5.rm; have hro5 := hd5.ro; have hs5 := hd5.ms
  refine xq_aload_n dX11_calls_88 rfl rfl ?_
  refine xq_getF clX11 (by decide) rfl fl_RX11_65 dX11_calls_89 (Fx.s83 hF) (Fx.r83_32 hF) ?_
  refine xq_iconst dX11_calls_92 ic5 ?_
  refine xq_aload_n dX11_calls_93 rfl rfl ?_
  refine xq_getF clX11 (by decide) rfl fl_RX11_81 dX11_calls_94 (Fx.s83 hF) (Fx.r83_40 hF) ?_
  refine xq_aload_n dX11_calls_97 rfl rfl ?_
  refine xq_getIE clX11 (by decide) rfl fl_RX11_350 dX11_calls_98 (Fx.s83 hF) hro5 ?_
  refine xq_ialdN dX11_calls_101 (Fx.s106 hF) (by omega) (by decide) hr5.hd ?_
  refine xq_i2l dX11_calls_102 ?_
  rw [nI_toL (by omega)]
  refine xq_lastN dX11_calls_103 (Fx.s101 hF) (by omega) (by decide) ?_
  have ho6 : Off (fun q => q = 101) H (sL (sL (sL (sL (sL (sL H 101 0 (lN (uHr u))) 101 1 (lN (uZ u))) 101 2 (lN (pop (uSe u p)))) 101 3 (lN (pop (kns u)))) 101 4 (lN (pop (uSd u)))) 101 5 (lN (uHd u))) := Off.pL (A := fun q => q = 101) ho5 rfl _ _
  have hd6 := hd.names ho6
  have hr6 := hd6.rm; have hro6 := hd6.ro; have hs6 := hd6.ms
  refine xq_aload_n dX11_calls_104 rfl rfl ?_
  refine xq_getF clX11 (by decide) rfl fl_RX11_65 dX11_calls_105 (Fx.s83 hF) (Fx.r83_32 hF) ?_
  refine xq_bipush dX11_calls_108 bp6 ?_
  refine xq_aload_n dX11_calls_110 rfl rfl ?_
  refine xq_iload_n dX11_calls_111 rfl rfl ?_
  refine xq_callV1P clX11 gd_X11_alikeMany dX11_calls_112 ml_RX11_410 im_X11_alikeMany se_X11_alikeMany rfl (Fx.s83 hF) (by exact Nat.le_of_ble_eq_true rfl) (by decide) (m_alikeMany hd6 hp) ?_
  refine xq_i2l dX11_calls_115 ?_
  rw [nI_toL (by omega)]
  refine xq_lastN dX11_calls_116 (Fx.s101 hF) (by omega) (by decide) ?_
  skip
  refine xq_vret dX11_calls_117 rfl ?_
  refine ⟨_, ⟨fun k hk => ?_, Off.pL (A := fun q => q = 101) ho6 rfl _ _⟩, rfl⟩
  rcases (by omega : k = 0 ∨ k = 1 ∨ k = 2 ∨ k = 3 ∨ k = 4 ∨ k = 5 ∨ k = 6) with e | e | e | e | e | e | e <;> subst e <;> simp [hL_sL, nmv]
theorem m_within (hd : LdP S H T N lf u s) (hp : p < tNp T) (hl : l < 2) (hy : y ≤ 1000) (hx9 : x ≤ 1000) : Hv mX11_within 4 [.ref 83, vN l, vN p, vN y, vN x] S H vN (fun z H' => z = clp (y : Int) (lawE T (nmv u p (pop (kns u))) l) x ∧ MoF (fun q => q = 83 ∨ q = 101 ∨ q = 102) (fun k => k = 34) H H') := by
  have hs := hd.ms; have hr := hd.rm; have hlr := hd.lr; have ok := hd.ok; have h23 := hd.s23; have hro := hd.ro; have hF := hs.fx; have hx := hs.mx; have hw := hs.mw; have tk := hs.tk; have tw := hs.tw; have hnp := tw.2.1; have hnc := tw.1; have hWn := nW_le tw; have htr := hlr.2.1; have hnf8 := tk.nf; have htt := hs.tt
  have hkl := kns_lt (u := u) (by rw [hlr.2.2.2.2]; omega); have hpk := pop_le (kns u)
  by_cases hn : tLn T l = 0
  · refine vq_intro (by decide) (by exact Nat.le_of_ble_eq_true rfl) rfl ?_
    refine xq_aload_n dX11_within_0 rfl rfl ?_
    refine xq_iload_n dX11_within_1 rfl rfl ?_
    refine xq_callV1P clX11 gd_X11_hasLaw dX11_within_2 ml_RX11_413 im_X11_hasLaw se_X11_hasLaw rfl (Fx.s83 hF) (by exact Nat.le_of_ble_eq_true rfl) (by decide) (m_hasLaw0 hs hl hn) ?_
    refine xq_if_neN dX11_within_5 rfl (by omega) ⟨fun h5 => ?_, fun h5 => ?_⟩
    · skip
      first | exact absurd h5 (by decide) | exact absurd rfl h5
    · skip
      refine xq_iload dX11_within_8 rfl ?_
      refine xq_iret dX11_within_10 rfl ?_
      exact ⟨x, H, ⟨by rw [show lawE T (nmv u p (pop (kns u))) l = none from if_pos hn]; rfl, MoF.rf⟩, rfl⟩
  · refine vq_intro (by decide) (by exact Nat.le_of_ble_eq_true rfl) rfl ?_
    refine xq_aload_n dX11_within_0 rfl rfl ?_
    refine xq_iload_n dX11_within_1 rfl rfl ?_
    refine xq_callV1P clX11 gd_X11_hasLaw dX11_within_2 ml_RX11_413 im_X11_hasLaw se_X11_hasLaw rfl (Fx.s83 hF) (by exact Nat.le_of_ble_eq_true rfl) (by decide) (m_hasLaw1 hs hl hn) ?_
    refine xq_if_neN dX11_within_5 rfl (by omega) ⟨fun h5 => ?_, fun h5 => ?_⟩
    · skip
      refine xq_aload_n dX11_within_11 rfl rfl ?_
      refine xq_iload_n dX11_within_12 rfl rfl ?_
      refine xq_callV1N clX11 gd_X11_calls dX11_within_13 ml_RX11_416 im_X11_calls se_X11_calls rfl (Fx.s83 hF) (by exact Nat.le_of_ble_eq_true rfl) (by decide) (m_calls hd hp) ?_
      intro H13 p13
      obtain ⟨n13, o13⟩ := p13
      have hd13 := hd.names o13
      refine xq_aload_n dX11_within_16 rfl rfl ?_
      refine xq_iload_n dX11_within_17 rfl rfl ?_
      refine xq_callV1H clX11 gd_X11_goes dX11_within_18 ml_RX11_419 im_X11_goes se_X11_goes rfl (Fx.s83 hF) (by exact Nat.le_of_ble_eq_true rfl) (by decide) (m_goes hd13.ms hl hn n13 (fun k => nmv_lt ok (by omega) (by omega) k)) ?_
      intro x18 H18 p18
      obtain ⟨e18, g18, q18⟩ := p18
      refine xq_if_eqB dX11_within_21 rfl ⟨fun h21 => ?_, fun h21 => ?_⟩
      · skip
        refine xq_iload dX11_within_43 rfl ?_
        refine xq_iret dX11_within_45 rfl ?_
        have hnn : lawE T (nmv u p (pop (kns u))) l = none := by
          cases e : lawE T (nmv u p (pop (kns u))) l with
          | none => rfl
          | some z => rw [e] at e18; rw [e18] at h21; cases h21
        exact ⟨x, H18, ⟨by rw [hnn]; rfl, (MoF.tr (MoF.mo (MoF.of (F := (fun k => k = 34)) o13 (by omega)) (fun q h => Or.inr (Or.inl h)) (fun k h => h)) (MoF.mo q18 (fun q h => by omega) (fun k h => h)))⟩, rfl⟩
      · skip
        have q : ∃ z, lawE T (nmv u p (pop (kns u))) l = some z := by
          cases e : lawE T (nmv u p (pop (kns u))) l with
          | none => rw [e, h21] at e18; cases e18
          | some z => exact ⟨z, rfl⟩
        obtain ⟨z, hz0⟩ := q
        have hw0 := g18 z hz0
        have e1 := clp_L (most := (y : Int)) (lawE_in (MxP.lwk tk hl) hz0) ⟨by omega, by omega⟩
        refine xq_lconst dX11_within_24 lc0 ?_
        refine xq_iload_n dX11_within_25 rfl rfl ?_
        refine xq_i2l dX11_within_26 ?_
        rw [nI_toL (by omega)]
        refine xq_aload_n dX11_within_27 rfl rfl ?_
        refine xq_getF clX11 (by decide) rfl fl_RX11_69 dX11_within_28 (Fx.s83 hF) (Fx.r83_33 hF) ?_
        refine xq_iconst dX11_within_31 ic0 ?_
        refine xq_laldN (v := zL z) dX11_within_32 (Fx.s102 hF) (by omega) (by decide) hw0 ?_
        refine xq_mminL dX11_within_33 ml_RX11_422 (by exact Nat.le_of_ble_eq_true rfl) (by decide) ?_
        refine xq_mmaxL dX11_within_36 ml_RX11_425 (by exact Nat.le_of_ble_eq_true rfl) (by decide) ?_
        rw [show (lN y) = zL (y : Int) from rfl, show (lN 0) = zL 0 from rfl, e1, zL_n]
        refine xq_l2i dX11_within_39 ?_
        rw [lN_toI]
        refine xq_goto dX11_within_40 rfl ?_
        refine xq_iret dX11_within_45 rfl ?_
        exact ⟨_, H18, ⟨by rw [hz0]; rfl, (MoF.tr (MoF.mo (MoF.of (F := (fun k => k = 34)) o13 (by omega)) (fun q h => Or.inr (Or.inl h)) (fun k h => h)) (MoF.mo q18 (fun q h => by omega) (fun k h => h)))⟩, rfl⟩
    · skip
      first | exact absurd h5 (by decide) | exact absurd rfl h5
end SU
