/-! ===== the reference's calls: rounds, tried, chance ===== -/
section TS
variable {S : xS} {H H1 H2 H3 : xH} {T : uTx} {N : Nat → Nat → Nat} {s a b c w p q n i j k x y m l f odds ps : Nat} {lf fb Rw lfi lf1 : Nat → Bool} {u v ui : uSt} {ow mu : Int} {dr : Bool} {A F : Nat → Prop} {ww w2 w3 fa fp : Int32} {L : Nat → uSt} {LF : Nat → Nat → Bool}
theorem TrF.mo1 (h : TrF (fun k => k = 0 ∨ k = 34 ∨ k = 48 ∨ k = 56) H H2) : TrF (fun k => k = 0 ∨ k = 34 ∨ k = 48 ∨ k = 56 ∨ k = 57 ∨ k = 58) H H2 := ⟨h.1, h.2.mo (fun q h => h) (fun k h => by omega)⟩
theorem TrF.dn (h : TrF (fun k => k = 0 ∨ k = 34 ∨ k = 48 ∨ k = 56 ∨ k = 57 ∨ k = 58) H H2) (h57 : hI H2 83 57 = hI H 83 57) (h58 : hI H2 83 58 = hI H 83 58) : TrF (fun k => k = 0 ∨ k = 34 ∨ k = 48 ∨ k = 56) H H2 := ⟨h.1, h.2.1, fun k hk => by
  by_cases e : k = 57
  · rw [e]; exact h57
  · by_cases e2 : k = 58
    · rw [e2]; exact h58
    · exact h.2.2 k (by omega)⟩
theorem m_rounds0 (hm : MnP S H T N lf u) (hno : ¬ (¬ ww < 0 ∧ ww ≤ nI 2)) : Hv mX11_rounds 7 [.ref 83, .int ww] S H vZ (fun (x : Int) H' => x = (-1) ∧ MoF (fun q => q = 83 ∨ q = 101 ∨ q = 102 ∨ (112 ≤ q ∧ q ≤ 118)) (fun k => k = 0 ∨ k = 34 ∨ k = 48 ∨ k = 56) H H') := by
  have hF := hm.ms.fx; have hm0 := hm.t0; have hs := hm0.ms; have hx := hs.mx; have hw := hs.mw; have tk := hs.tk; have tw := hs.tw; have hnp := tw.2.1; have hnc := tw.1; have hWn := nW_le tw; have ok := hm.ok; have hlr := hm.lr; have htr := hlr.2.1; have hnf8 := tk.nf; have hz := ok.n; have hrm := hm0.rm; have htt := hs.tt
  refine vq_intro (by decide) (by exact Nat.le_of_ble_eq_true rfl) rfl ?_
  refine xq_aload_n dX11_rounds_0 rfl rfl ?_
  refine xq_iconst dX11_rounds_1 ic0 ?_
  refine xq_putI clX11 (by decide) rfl fl_RX11_128 (Or.inl rfl) dX11_rounds_2 ⟨rfl, rfl⟩ (Fx.s83 hF) ?_
  refine xq_iload_n dX11_rounds_5 rfl rfl ?_
  refine xq_if_lt dX11_rounds_6 rfl ⟨fun h6 => ?_, fun h6 => ?_⟩
  · skip
    refine xq_iconst dX11_rounds_14 icm1 ?_
    refine xq_iret dX11_rounds_15 rfl ?_
    refine ⟨-1, _, ⟨rfl, (MoF.pF (A := (fun q => q = 83 ∨ q = 101 ∨ q = 102 ∨ (112 ≤ q ∧ q ≤ 118))) (F := (fun k => k = 0 ∨ k = 34 ∨ k = 48 ∨ k = 56)) (H := H) (H2 := H) (k := 0) MoF.rf (Or.inl rfl) (Or.inl rfl) (nI 0))⟩, ?_⟩
    rw [zm1]
  · skip
    refine xq_iload_n dX11_rounds_9 rfl rfl ?_
    refine xq_iconst dX11_rounds_10 ic2 ?_
    refine xq_icmp_le dX11_rounds_11 rfl ⟨fun h11 => ?_, fun h11 => ?_⟩
    · skip
      exact absurd ⟨h6, h11⟩ hno
    · skip
      refine xq_iconst dX11_rounds_14 icm1 ?_
      refine xq_iret dX11_rounds_15 rfl ?_
      refine ⟨-1, _, ⟨rfl, (MoF.pF (A := (fun q => q = 83 ∨ q = 101 ∨ q = 102 ∨ (112 ≤ q ∧ q ≤ 118))) (F := (fun k => k = 0 ∨ k = 34 ∨ k = 48 ∨ k = 56)) (H := H) (H2 := H) (k := 0) MoF.rf (Or.inl rfl) (Or.inl rfl) (nI 0))⟩, ?_⟩
      rw [zm1]
theorem m_rounds1 (hm : MnP S H T N lf u) (htw : TwP H (-1) (-1)) (hhd : uHd u + 40000 ≤ 100000000) (hhl : uLi u + 40000 ≤ 100000000) (hh9 : uHr u ≤ 9800) (hl : l < 3) : Hv mX11_rounds 7 [.ref 83, vN l] S H vN (fun x H' => x = (rouV T u l) ∧ TrF (fun k => k = 0 ∨ k = 34 ∨ k = 48 ∨ k = 56) H H') := by
  have hF := hm.ms.fx; have hm0 := hm.t0; have hs := hm0.ms; have hx := hs.mx; have hw := hs.mw; have tk := hs.tk; have tw := hs.tw; have hnp := tw.2.1; have hnc := tw.1; have hWn := nW_le tw; have ok := hm.ok; have hlr := hm.lr; have htr := hlr.2.1; have hnf8 := tk.nf; have hz := ok.n; have hrm := hm0.rm; have htt := hs.tt
  have htw0 : TwP (sI H 83 0 (nI 0)) (-1) (-1) := htw.off (MoF.pF (A := fun q => q = 83) (F := fun k => k = 0) MoF.rf rfl rfl _) (by decide) (by decide)
  have hhr := ok.hr
  have lp : ∀ (fz : Nat) (k : Nat) (lf1 : Nat → Bool) (H1 : xH), 729 - k < fz → k ≤ 728 → RmP H1 T 1 lf1 (rst T u (k + 1)) → LfR T lf1 (rst T u (k + 1)) → TrF (fun k => k = 0 ∨ k = 34 ∨ k = 48 ∨ k = 56 ∨ k = 57 ∨ k = 58) H H1 → TwP H1 0 (-1) → (∀ j, j < k → (uZ (rst T u (j + 1)) == uZ (rst T u j)) = false) → Xq mX11_rounds 7 0 0 42 [some (.ref 83), some (vN l), some (vN k), some (vN (uZ (rst T u k)))] [] S H1 (fun R => ∃ x H', (fun x H' => x = (rouV T u l) ∧ TrF (fun k => k = 0 ∨ k = 34 ∨ k = 48 ∨ k = 56) H H') x H' ∧ R = (some (vN x), S, H')) := by
    intro fz
    induction fz with
    | zero => intro k  lf1  H1  hfz; exact absurd hfz (by omega)
    | succ fz ih =>
      intro k  lf1  H1  hfz hk hr1 hl1 ht1 htw1 hno
      have gk := rst_ok (T := T) ok k
      have gk1 := rst_ok (T := T) ok (k + 1)
      have gz := gk.1.n; have gp := gk1.1; have gn := gp.n
      have hs1 := hm.ms.trf ht1 (by decide) (by decide)
      have hzk := rst_z (T := T) ok hno
      have ezc : ct lf1 (nW T) = uZ (rst T u (k + 1)) := hl1.z.symm
      refine xq_aload_n dX11_rounds_42 rfl rfl ?_
      refine xq_iconst dX11_rounds_43 ic1 ?_
      refine xq_callV1P clX11 gd_X11_leftMany dX11_rounds_44 ml_RX11_401 im_X11_leftMany se_X11_leftMany rfl (Fx.s83 hF) (by exact Nat.le_of_ble_eq_true rfl) (by decide) (m_leftMany hs1 hr1 (by decide)) ?_
      refine xq_iload_n dX11_rounds_47 rfl rfl ?_
      refine xq_icmp_eqN dX11_rounds_48 rfl (by omega) (by omega) ⟨fun h48 => ?_, fun h48 => ?_⟩
      · skip
        have ekz : uZ (rst T u (k + 1)) = uZ (rst T u k) := ezc.symm.trans h48
        have hrn : rnN T u = k := fnd_at (f := fun k => uZ (rst T u (k + 1)) == uZ (rst T u k)) hno (by rw [beq_iff_eq]; exact ekz) (by omega)
        have t72 := ht1.pf (k := 57) (by omega) (nI 0)
        have hs72 := hm.ms.trf t72 (by decide) (by decide)
        have hr72 := hr1.off (Off.pI (A := fun q => q = 83) (H := H1) (H' := H1) Off.rf rfl 57 (nI 0)) (fun q a b => by omega)
        refine xq_aload_n dX11_rounds_70 rfl rfl ?_
        refine xq_iconst dX11_rounds_71 ic0 ?_
        refine xq_putI clX11 (by decide) rfl fl_RX11_431 (Or.inl rfl) dX11_rounds_72 ⟨rfl, rfl⟩ (Fx.s83 hF) ?_
        refine xq_aload_n dX11_rounds_75 rfl rfl ?_
        refine xq_iconst dX11_rounds_76 ic1 ?_
        refine xq_callV1N clX11 gd_X11_lays dX11_rounds_77 ml_RX11_428 im_X11_lays se_X11_lays rfl (Fx.s83 hF) (by exact Nat.le_of_ble_eq_true rfl) (by decide) (m_lays hs72 hr72 hl1 gp (by decide)) ?_
        intro H77 p77
        obtain ⟨hd, hl77⟩ := p77
        have tq : TrF (fun k => k = 0 ∨ k = 34 ∨ k = 48 ∨ k = 56) H H77 := (t72.ld hl77 (fun k h => by omega)).dn ((hl77.2 57 (by omega)).trans (by rw [hI_sI, if_pos ⟨rfl, rfl⟩]; exact htw.1.symm)) ((hl77.2 58 (by omega)).trans (by rw [hI_sI, if_neg (by omega)]; exact htw1.2.trans htw.2.symm))
        refine xq_iload_n dX11_rounds_80 rfl rfl ?_
        refine xq_if_neN dX11_rounds_81 rfl (by omega) ⟨fun h81 => ?_, fun h81 => ?_⟩
        · skip
          refine xq_iload_n dX11_rounds_88 rfl rfl ?_
          refine xq_iconst dX11_rounds_89 ic1 ?_
          refine xq_icmp_neN dX11_rounds_90 rfl (by omega) (by omega) ⟨fun h90 => ?_, fun h90 => ?_⟩
          · skip
            refine xq_iload_n dX11_rounds_100 rfl rfl ?_
            refine xq_iret dX11_rounds_101 rfl ?_
            refine ⟨rouV T u l, H77, ⟨rfl, tq⟩, ?_⟩
            unfold rouV
            rw [hrn]
            rw [if_neg h81, if_neg h90, ekz]
          · skip
            refine xq_aload_n dX11_rounds_93 rfl rfl ?_
            refine xq_callV0P clX11 gd_X11_knowers dX11_rounds_94 ml_RX11_407 im_X11_knowers se_X11_knowers rfl (Fx.s83 hF) (by exact Nat.le_of_ble_eq_true rfl) (by decide) (m_knowers hd) ?_
            refine xq_goto dX11_rounds_97 rfl ?_
            refine xq_iret dX11_rounds_101 rfl ?_
            refine ⟨rouV T u l, H77, ⟨rfl, tq⟩, ?_⟩
            unfold rouV
            rw [hrn]
            rw [if_neg h81, if_pos h90]
        · skip
          refine xq_iload_n dX11_rounds_84 rfl rfl ?_
          refine xq_goto dX11_rounds_85 rfl ?_
          refine xq_iret dX11_rounds_101 rfl ?_
          refine ⟨rouV T u l, H77, ⟨rfl, tq⟩, ?_⟩
          unfold rouV
          rw [hrn]
          rw [if_pos h81]
      · skip
        refine xq_iincN dX11_rounds_51 ic1 rfl rfl ?_
        refine xq_aload_n dX11_rounds_54 rfl rfl ?_
        refine xq_iconst dX11_rounds_55 ic1 ?_
        refine xq_callV1P clX11 gd_X11_leftMany dX11_rounds_56 ml_RX11_401 im_X11_leftMany se_X11_leftMany rfl (Fx.s83 hF) (by exact Nat.le_of_ble_eq_true rfl) (by decide) (m_leftMany hs1 hr1 (by decide)) ?_
        refine xq_istore_n dX11_rounds_59 rfl rfl ?_
        refine xq_aload_n dX11_rounds_60 rfl rfl ?_
        refine xq_iconst dX11_rounds_61 ic1 ?_
        refine xq_iconst dX11_rounds_62 ic0 ?_
        refine xq_callV2H clX11 gd_X11_asks dX11_rounds_63 ml_RX11_452 im_X11_asks se_X11_asks rfl (Fx.s83 hF) (by exact Nat.le_of_ble_eq_true rfl) (by decide) (m_asks (s := 1) (dr := false) hs1 hr1 hl1 gp (by decide) htw1 (by decide) (by decide)) ?_
        intro x63 H63 p63
        obtain ⟨e63, lf2, q63⟩ := p63
        refine xq_pop dX11_rounds_66 rfl ?_
        refine xq_goto dX11_rounds_67 rfl ?_
        have hnz : ¬ uZ (rst T u (k + 1)) = uZ (rst T u k) := fun e => h48 (ezc.trans e)
        have hno2 : ∀ j, j < k + 1 → (uZ (rst T u (j + 1)) == uZ (rst T u j)) = false := fun j hj => by
          by_cases e : j = k
          · rw [e]; simpa using hnz
          · exact hno j (by omega)
        have hzk2 := rst_z (T := T) (k := k + 1) ok hno2
        have hr2 := gp.rl
        rw [ezc]
        exact ih (k + 1) lf2 H63 (by omega) (by omega) q63.1 q63.2.1 (ht1.dy q63 (fun k h => by omega)) (htw1.off q63.2.2.2 (by decide) (by decide)) hno2
  refine vq_intro (by decide) (by exact Nat.le_of_ble_eq_true rfl) rfl ?_
  refine xq_aload_n dX11_rounds_0 rfl rfl ?_
  refine xq_iconst dX11_rounds_1 ic0 ?_
  refine xq_putI clX11 (by decide) rfl fl_RX11_128 (Or.inl rfl) dX11_rounds_2 ⟨rfl, rfl⟩ (Fx.s83 hF) ?_
  refine xq_iload_n dX11_rounds_5 rfl rfl ?_
  refine xq_if_ltN dX11_rounds_6 rfl (by omega) ?_
  refine xq_iload_n dX11_rounds_9 rfl rfl ?_
  refine xq_iconst dX11_rounds_10 ic2 ?_
  refine xq_icmp_leN dX11_rounds_11 rfl (by omega) (by omega) ⟨fun h11 => ?_, fun h11 => ?_⟩
  · skip
    refine xq_aload_n dX11_rounds_16 rfl rfl ?_
    refine xq_iconst dX11_rounds_17 ic1 ?_
    refine xq_iconst dX11_rounds_18 ic0 ?_
    refine xq_callV2N clX11 gd_X11_copies dX11_rounds_19 ml_RX11_476 im_X11_copies se_X11_copies rfl (Fx.s83 hF) (by exact Nat.le_of_ble_eq_true rfl) (by decide) (m_copies (s := 0) (x := 1) hs hrm (by decide) (by decide) (by decide)) ?_
    intro H19 p19
    obtain ⟨r19, e19, o19⟩ := p19
    have t19 := ((TrF.pf (F := (fun k => k = 0 ∨ k = 34 ∨ k = 48 ∨ k = 56)) (H := H) (H2 := H) TrF.rf (Or.inl rfl) (nI 0))).cp e19 o19
    have hs19 := hm.ms.trf t19 (by decide) (by decide)
    have htw19 := htw.off t19.2 (by decide) (by decide)
    refine xq_aload_n dX11_rounds_22 rfl rfl ?_
    refine xq_iconst dX11_rounds_23 ic5 ?_
    refine xq_putI clX11 (by decide) rfl fl_RX11_431 (Or.inl rfl) dX11_rounds_24 ⟨rfl, rfl⟩ (Fx.s83 hF) ?_
    have t24 : TrF (fun k => k = 0 ∨ k = 34 ∨ k = 48 ∨ k = 56 ∨ k = 57 ∨ k = 58) H (sI H19 83 57 (nI 5)) := t19.mo1.pf (k := 57) (by omega) (nI 5)
    have hs24 := hm.ms.trf t24 (by decide) (by decide)
    have hr24 := r19.off (Off.pI (A := fun q => q = 83) (H := H19) (H' := H19) Off.rf rfl 57 (nI 5)) (fun q a b => by omega)
    have tw24 : TwP (sI H19 83 57 (nI 5)) 0 (-1) := ⟨by rw [hI_sI, if_pos ⟨rfl, rfl⟩]; rfl, by rw [hI_sI, if_neg (by omega)]; exact htw19.2⟩
    refine xq_iconst dX11_rounds_27 ic0 ?_
    refine xq_istore_n dX11_rounds_28 rfl rfl ?_
    refine xq_aload_n dX11_rounds_29 rfl rfl ?_
    refine xq_iconst dX11_rounds_30 ic1 ?_
    refine xq_callV1P clX11 gd_X11_leftMany dX11_rounds_31 ml_RX11_401 im_X11_leftMany se_X11_leftMany rfl (Fx.s83 hF) (by exact Nat.le_of_ble_eq_true rfl) (by decide) (m_leftMany hs24 hr24 (by decide)) ?_
    refine xq_istore_n dX11_rounds_34 rfl rfl ?_
    refine xq_aload_n dX11_rounds_35 rfl rfl ?_
    refine xq_iconst dX11_rounds_36 ic1 ?_
    refine xq_iconst dX11_rounds_37 ic0 ?_
    refine xq_callV2H clX11 gd_X11_asks dX11_rounds_38 ml_RX11_452 im_X11_asks se_X11_asks rfl (Fx.s83 hF) (by exact Nat.le_of_ble_eq_true rfl) (by decide) (m_asks (s := 1) (dr := false) hs24 hr24 hlr ok (by decide) tw24 (by decide) (by decide)) ?_
    intro x38 H38 p38
    obtain ⟨e38, lf2, q38⟩ := p38
    refine xq_pop dX11_rounds_41 rfl ?_
    rw [show ct lf (nW T) = uZ (rst T u 0) from hlr.z.symm]
    exact lp 730 0 lf2 H38 (by omega) (by omega) q38.1 q38.2.1 (t24.dy q38 (fun k h => by omega)) (tw24.off q38.2.2.2 (by decide) (by decide)) (fun j hj => absurd hj (by omega))
  · skip
    exact absurd h11 (by omega)
theorem m_tried0 (hm : MnP S H T N lf u) (hno : ¬ (¬ ww < 0 ∧ ¬ nI 4 < ww ∧ ¬ w3 < 0 ∧ w3 ≤ nI 200 ∧ (ww = nI 2 → hasB w2 (tNp T) = true) ∧ (¬ ww = nI 2 → w2 = 0))) : Hv mX11_tried 9 [.ref 83, .int ww, .int w2, .int w3] S H vZ (fun (x : Int) H' => x = (-1) ∧ MoF (fun q => q = 83 ∨ q = 101 ∨ q = 102 ∨ (112 ≤ q ∧ q ≤ 118)) (fun k => k = 0 ∨ k = 34 ∨ k = 48 ∨ k = 56) H H') := by
  have hF := hm.ms.fx; have hm0 := hm.t0; have hs := hm0.ms; have hx := hs.mx; have hw := hs.mw; have tk := hs.tk; have tw := hs.tw; have hnp := tw.2.1; have hnc := tw.1; have hWn := nW_le tw; have ok := hm.ok; have hlr := hm.lr; have htr := hlr.2.1; have hnf8 := tk.nf; have hz := ok.n; have hrm := hm0.rm; have htt := hs.tt
  refine vq_intro (by decide) (by exact Nat.le_of_ble_eq_true rfl) rfl ?_
  refine xq_aload_n dX11_tried_0 rfl rfl ?_
  refine xq_iconst dX11_tried_1 ic0 ?_
  refine xq_putI clX11 (by decide) rfl fl_RX11_128 (Or.inl rfl) dX11_tried_2 ⟨rfl, rfl⟩ (Fx.s83 hF) ?_
  refine xq_iload_n dX11_tried_5 rfl rfl ?_
  refine xq_iconst dX11_tried_6 ic2 ?_
  refine xq_icmp_ne dX11_tried_7 rfl ⟨fun h7 => ?_, fun h7 => ?_⟩
  · skip
    refine xq_iload_n dX11_tried_18 rfl rfl ?_
    refine xq_if_lt dX11_tried_19 rfl ⟨fun h19 => ?_, fun h19 => ?_⟩
    · skip
      refine xq_iconst dX11_tried_35 ic0 ?_
      refine xq_istore dX11_tried_36 rfl ?_
      refine xq_iload dX11_tried_38 rfl ?_
      refine xq_if_eqN dX11_tried_40 rfl (by omega) ⟨fun h40 => ?_, fun h40 => ?_⟩
      · skip
        refine xq_iconst dX11_tried_54 icm1 ?_
        refine xq_iret dX11_tried_55 rfl ?_
        refine ⟨-1, _, ⟨rfl, (MoF.pF (A := (fun q => q = 83 ∨ q = 101 ∨ q = 102 ∨ (112 ≤ q ∧ q ≤ 118))) (F := (fun k => k = 0 ∨ k = 34 ∨ k = 48 ∨ k = 56)) (H := H) (H2 := H) (k := 0) MoF.rf (Or.inl rfl) (Or.inl rfl) (nI 0))⟩, ?_⟩
        rw [zm1]
      · skip
        first | exact absurd h40 (by decide) | exact absurd rfl h40
    · skip
      refine xq_iload_n dX11_tried_22 rfl rfl ?_
      refine xq_iconst dX11_tried_23 ic4 ?_
      refine xq_icmp_gt dX11_tried_24 rfl ⟨fun h24 => ?_, fun h24 => ?_⟩
      · skip
        refine xq_iconst dX11_tried_35 ic0 ?_
        refine xq_istore dX11_tried_36 rfl ?_
        refine xq_iload dX11_tried_38 rfl ?_
        refine xq_if_eqN dX11_tried_40 rfl (by omega) ⟨fun h40 => ?_, fun h40 => ?_⟩
        · skip
          refine xq_iconst dX11_tried_54 icm1 ?_
          refine xq_iret dX11_tried_55 rfl ?_
          refine ⟨-1, _, ⟨rfl, (MoF.pF (A := (fun q => q = 83 ∨ q = 101 ∨ q = 102 ∨ (112 ≤ q ∧ q ≤ 118))) (F := (fun k => k = 0 ∨ k = 34 ∨ k = 48 ∨ k = 56)) (H := H) (H2 := H) (k := 0) MoF.rf (Or.inl rfl) (Or.inl rfl) (nI 0))⟩, ?_⟩
          rw [zm1]
        · skip
          first | exact absurd h40 (by decide) | exact absurd rfl h40
      · skip
        refine xq_iload_n dX11_tried_27 rfl rfl ?_
        refine xq_if_ne dX11_tried_28 rfl ⟨fun h28 => ?_, fun h28 => ?_⟩
        · skip
          refine xq_iconst dX11_tried_35 ic0 ?_
          refine xq_istore dX11_tried_36 rfl ?_
          refine xq_iload dX11_tried_38 rfl ?_
          refine xq_if_eqN dX11_tried_40 rfl (by omega) ⟨fun h40 => ?_, fun h40 => ?_⟩
          · skip
            refine xq_iconst dX11_tried_54 icm1 ?_
            refine xq_iret dX11_tried_55 rfl ?_
            refine ⟨-1, _, ⟨rfl, (MoF.pF (A := (fun q => q = 83 ∨ q = 101 ∨ q = 102 ∨ (112 ≤ q ∧ q ≤ 118))) (F := (fun k => k = 0 ∨ k = 34 ∨ k = 48 ∨ k = 56)) (H := H) (H2 := H) (k := 0) MoF.rf (Or.inl rfl) (Or.inl rfl) (nI 0))⟩, ?_⟩
            rw [zm1]
          · skip
            first | exact absurd h40 (by decide) | exact absurd rfl h40
        · skip
          refine xq_iconst dX11_tried_31 ic1 ?_
          refine xq_goto dX11_tried_32 rfl ?_
          refine xq_istore dX11_tried_36 rfl ?_
          refine xq_iload dX11_tried_38 rfl ?_
          refine xq_if_eqN dX11_tried_40 rfl (by omega) ⟨fun h40 => ?_, fun h40 => ?_⟩
          · skip
            first | exact absurd h40 (by decide) | exact absurd rfl h40
          · skip
            refine xq_iload_n dX11_tried_43 rfl rfl ?_
            refine xq_if_lt dX11_tried_44 rfl ⟨fun h44 => ?_, fun h44 => ?_⟩
            · skip
              refine xq_iconst dX11_tried_54 icm1 ?_
              refine xq_iret dX11_tried_55 rfl ?_
              refine ⟨-1, _, ⟨rfl, (MoF.pF (A := (fun q => q = 83 ∨ q = 101 ∨ q = 102 ∨ (112 ≤ q ∧ q ≤ 118))) (F := (fun k => k = 0 ∨ k = 34 ∨ k = 48 ∨ k = 56)) (H := H) (H2 := H) (k := 0) MoF.rf (Or.inl rfl) (Or.inl rfl) (nI 0))⟩, ?_⟩
              rw [zm1]
            · skip
              refine xq_iload_n dX11_tried_47 rfl rfl ?_
              refine xq_sipush dX11_tried_48 sp200 ?_
              refine xq_icmp_le dX11_tried_51 rfl ⟨fun h51 => ?_, fun h51 => ?_⟩
              · skip
                exact absurd ⟨h19, h24, h44, h51, fun e => absurd e h7, fun _ => h28⟩ hno
              · skip
                refine xq_iconst dX11_tried_54 icm1 ?_
                refine xq_iret dX11_tried_55 rfl ?_
                refine ⟨-1, _, ⟨rfl, (MoF.pF (A := (fun q => q = 83 ∨ q = 101 ∨ q = 102 ∨ (112 ≤ q ∧ q ≤ 118))) (F := (fun k => k = 0 ∨ k = 34 ∨ k = 48 ∨ k = 56)) (H := H) (H2 := H) (k := 0) MoF.rf (Or.inl rfl) (Or.inl rfl) (nI 0))⟩, ?_⟩
                rw [zm1]
  · skip
    refine xq_aload_n dX11_tried_10 rfl rfl ?_
    refine xq_iload_n dX11_tried_11 rfl rfl ?_
    refine xq_callV1P clX11 gd_X11_isPerson dX11_tried_12 ml_RX11_460 im_X11_isPerson se_X11_isPerson rfl (Fx.s83 hF) (by exact Nat.le_of_ble_eq_true rfl) (by decide) (m_isPerson hs) ?_
    refine xq_goto dX11_tried_15 rfl ?_
    refine xq_istore dX11_tried_36 rfl ?_
    refine xq_iload dX11_tried_38 rfl ?_
    refine xq_if_eqB dX11_tried_40 rfl ⟨fun h40 => ?_, fun h40 => ?_⟩
    · skip
      refine xq_iconst dX11_tried_54 icm1 ?_
      refine xq_iret dX11_tried_55 rfl ?_
      refine ⟨-1, _, ⟨rfl, (MoF.pF (A := (fun q => q = 83 ∨ q = 101 ∨ q = 102 ∨ (112 ≤ q ∧ q ≤ 118))) (F := (fun k => k = 0 ∨ k = 34 ∨ k = 48 ∨ k = 56)) (H := H) (H2 := H) (k := 0) MoF.rf (Or.inl rfl) (Or.inl rfl) (nI 0))⟩, ?_⟩
      rw [zm1]
    · skip
      refine xq_iload_n dX11_tried_43 rfl rfl ?_
      refine xq_if_lt dX11_tried_44 rfl ⟨fun h44 => ?_, fun h44 => ?_⟩
      · skip
        refine xq_iconst dX11_tried_54 icm1 ?_
        refine xq_iret dX11_tried_55 rfl ?_
        refine ⟨-1, _, ⟨rfl, (MoF.pF (A := (fun q => q = 83 ∨ q = 101 ∨ q = 102 ∨ (112 ≤ q ∧ q ≤ 118))) (F := (fun k => k = 0 ∨ k = 34 ∨ k = 48 ∨ k = 56)) (H := H) (H2 := H) (k := 0) MoF.rf (Or.inl rfl) (Or.inl rfl) (nI 0))⟩, ?_⟩
        rw [zm1]
      · skip
        refine xq_iload_n dX11_tried_47 rfl rfl ?_
        refine xq_sipush dX11_tried_48 sp200 ?_
        refine xq_icmp_le dX11_tried_51 rfl ⟨fun h51 => ?_, fun h51 => ?_⟩
        · skip
          exact absurd ⟨by rw [h7]; decide, by rw [h7]; decide, h44, h51, fun _ => h40, fun e => absurd h7 e⟩ hno
        · skip
          refine xq_iconst dX11_tried_54 icm1 ?_
          refine xq_iret dX11_tried_55 rfl ?_
          refine ⟨-1, _, ⟨rfl, (MoF.pF (A := (fun q => q = 83 ∨ q = 101 ∨ q = 102 ∨ (112 ≤ q ∧ q ≤ 118))) (F := (fun k => k = 0 ∨ k = 34 ∨ k = 48 ∨ k = 56)) (H := H) (H2 := H) (k := 0) MoF.rf (Or.inl rfl) (Or.inl rfl) (nI 0))⟩, ?_⟩
          rw [zm1]
theorem sbs_am (hn : n ≤ 6) (hj : j < 6) {e : Nat} (he : e < 64) (h : e &&& am n j = e) : sbs (am n j) n e = am n j := by
  have : ∀ (n : Fin 7) (j : Fin 6) (e : Fin 64), e.val &&& am n.val j.val = e.val → sbs (am n.val j.val) n.val e.val = am n.val j.val := by decide +kernel
  exact this ⟨n, by omega⟩ ⟨j, hj⟩ ⟨e, he⟩ h
theorem uAll_se : ∀ n, n ≤ q → uSe (uAll u n) q = uSe u q
  | 0, _ => rfl
  | n + 1, h => by
    show (if q = n then _ else uSe (uAll u n) q) = _
    rw [if_neg (by omega)]; exact uAll_se n (by omega)
theorem LfR.all (h : LfR T lf u) : ∀ n, LfR T lf (uAll u n)
  | 0 => h
  | n + 1 => LfR.all h n
theorem RmP.seS (h : RmP H T s lf u) (hp : p < 6) (x : Nat) : RmP (sI H 109 (6 * s + p) (nI x)) T s lf (uSetSe u p x) := by
  refine ⟨h.lf, h.hr, h.la, h.hd, h.li, h.sd, fun r hr => ?_, h.pz⟩
  rw [hI_sI]
  show _ = nI (if r = p then x else uSe u r)
  by_cases e : r = p
  · rw [if_pos ⟨rfl, by omega⟩, if_pos e]
  · rw [if_neg (by omega), if_neg e]; exact h.se r hr
theorem TrF.pse (h : TrF F H H2) (hp : p < 6) (x : Int32) : TrF F H (sI H2 109 (6 * 1 + p) x) := ⟨fun s hs => (h.1 s hs).tr ⟨fun _ _ => by rw [hI_sI, if_neg (by omega)], fun q a b => by rw [hI_sI, if_neg (by omega)], fun r hr => ⟨by rw [hI_sI, if_neg (by omega)], by rw [hI_sI, if_neg (by omega)]⟩⟩, MoF.pI h.2 (by omega) (by decide) _ _⟩
theorem TrF.pla (h : TrF F H H2) (x : Int32) : TrF F H (sI H2 105 1 x) := ⟨fun s hs => (h.1 s hs).tr ⟨fun _ _ => by rw [hI_sI, if_neg (by omega)], fun q a b => by rw [hI_sI, if_neg (by omega)], fun r hr => ⟨by rw [hI_sI, if_neg (by omega)], by rw [hI_sI, if_neg (by omega)]⟩⟩, MoF.pI h.2 (by omega) (by decide) _ _⟩
/-- each sees only others -/
def SeOk (u : uSt) : Prop := ∀ p, p < uNp u → uSe u p &&& am (uNp u) p = uSe u p
theorem m_tried1 (hm : MnP S H T N lf u) (htw : TwP H (-1) (-1)) (hhd : uHd u + 40000 ≤ 100000000) (hhl : uLi u + 40000 ≤ 100000000) (hh9 : uHr u ≤ 9800) (hso : SeOk u) (hl : l < 5) (hn : n ≤ 200) (hl2 : l = 2) (hp : i < tNp T) : Hv mX11_tried 9 [.ref 83, vN l, vN i, vN n] S H vN (fun x H' => x = (uZ (triV T u l i n)) ∧ TrF (fun k => k = 0 ∨ k = 34 ∨ k = 48 ∨ k = 56) H H') := by
  have hF := hm.ms.fx; have hm0 := hm.t0; have hs := hm0.ms; have hx := hs.mx; have hw := hs.mw; have tk := hs.tk; have tw := hs.tw; have hnp := tw.2.1; have hnc := tw.1; have hWn := nW_le tw; have ok := hm.ok; have hlr := hm.lr; have htr := hlr.2.1; have hnf8 := tk.nf; have hz := ok.n; have hrm := hm0.rm; have htt := hs.tt
  have htw0 : TwP (sI H 83 0 (nI 0)) (-1) (-1) := htw.off (MoF.pF (A := fun q => q = 83) (F := fun k => k = 0) MoF.rf rfl rfl _) (by decide) (by decide)
  have hhr := ok.hr
  have hnpu := hlr.2.2.2.2
  have lE : ∀ (H1 : xH), RmP H1 T 1 lf (triU u l) → TrF (fun k => k = 0 ∨ k = 34 ∨ k = 48 ∨ k = 56) H H1 → Xq mX11_tried 9 0 0 114 [some (.ref 83), some (vN l), some (vN i), some (vN n), none, none] [] S H1 (fun R => ∃ x H', (fun x H' => x = (uZ (triV T u l i n)) ∧ TrF (fun k => k = 0 ∨ k = 34 ∨ k = 48 ∨ k = 56) H H') x H' ∧ R = (some (vN x), S, H')) := by
    intro H1 hr1 ht1
    have hlt : LfR T lf (triU u l) := by unfold triU; split; exact hlr.all _; exact hlr
    have okt : StOk (triU u l) := by unfold triU; split; exact uAll_ok ok _ ok.np; exact ok
    have hft : uHd (triU u l) = uHd u ∧ uLi (triU u l) = uLi u ∧ uHr (triU u l) = uHr u := by unfold triU; split; exact uAll_f u _; exact ⟨rfl, rfl, rfl⟩
    refine xq_aload_n dX11_tried_114 rfl rfl ?_
    refine xq_iload_n dX11_tried_115 rfl rfl ?_
    refine xq_if_neN dX11_tried_116 rfl (by omega) ⟨fun h116 => ?_, fun h116 => ?_⟩
    · skip
      refine xq_iload_n dX11_tried_123 rfl rfl ?_
      refine xq_putI clX11 (by decide) rfl fl_RX11_431 (Or.inl rfl) dX11_tried_124 ⟨rfl, rfl⟩ (Fx.s83 hF) ?_
      refine xq_aload_n dX11_tried_127 rfl rfl ?_
      refine xq_iload_n dX11_tried_128 rfl rfl ?_
      refine xq_putI clX11 (by decide) rfl fl_RX11_122 (Or.inl rfl) dX11_tried_129 ⟨rfl, rfl⟩ (Fx.s83 hF) ?_
      have tX : TrF (fun k => k = 0 ∨ k = 34 ∨ k = 48 ∨ k = 56 ∨ k = 57 ∨ k = 58) H (sI (sI H1 83 57 (nI l)) 83 58 (nI i)) := (ht1.mo1.pf (k := 57) (by omega) _).pf (k := 58) (by omega) _
      have hsX := hm.ms.trf tX (by decide) (by decide)
      have oX : Off (fun q => q = 83) H1 (sI (sI H1 83 57 (nI l)) 83 58 (nI i)) := Off.pI (A := fun q => q = 83) (Off.pI (A := fun q => q = 83) Off.rf rfl _ _) rfl _ _
      have rX := hr1.off oX (fun q a b => by omega)
      have e5 : twN (l : Int) = l := by unfold twN; rw [if_neg (by omega), if_neg (by omega), Int.toNat_natCast]
      have twX : TwP (sI (sI H1 83 57 (nI l)) 83 58 (nI i)) (l : Int) (i : Int) := ⟨by rw [hI_sI, if_neg (by omega), hI_sI, if_pos ⟨rfl, rfl⟩, e5], by rw [hI_sI, if_pos ⟨rfl, rfl⟩]; rfl⟩
      refine xq_aload_n dX11_tried_132 rfl rfl ?_
      refine xq_iload_n dX11_tried_133 rfl rfl ?_
      refine xq_callV1N clX11 gd_X11_goesOn dX11_tried_134 ml_RX11_482 im_X11_goesOn se_X11_goesOn rfl (Fx.s83 hF) (by exact Nat.le_of_ble_eq_true rfl) (by decide) (m_goesOn hsX rX hlt okt twX (by omega) (by omega) hn (by omega) (by omega) (by omega)) ?_
      intro H134 p134
      obtain ⟨lf2, q134⟩ := p134
      have t134 := tX.dy q134 (fun k h => by omega)
      refine xq_aload_n dX11_tried_137 rfl rfl ?_
      refine xq_iconst dX11_tried_138 ic0 ?_
      refine xq_putI clX11 (by decide) rfl fl_RX11_431 (Or.inl rfl) dX11_tried_139 ⟨rfl, rfl⟩ (Fx.s83 hF) ?_
      refine xq_aload_n dX11_tried_142 rfl rfl ?_
      refine xq_iconst dX11_tried_143 icm1 ?_
      refine xq_putI clX11 (by decide) rfl fl_RX11_122 (Or.inl rfl) dX11_tried_144 ⟨rfl, rfl⟩ (Fx.s83 hF) ?_
      have tF0 := (t134.pf (k := 57) (by omega) (nI 0)).pf (k := 58) (by omega) (-1)
      have tF := tF0.dn (by rw [hI_sI, if_neg (by omega), hI_sI, if_pos ⟨rfl, rfl⟩]; exact htw.1.symm) (by rw [hI_sI, if_pos ⟨rfl, rfl⟩, htw.2]; exact zm1)
      have hsF := hm.ms.trf tF (by decide) (by decide)
      have oF : Off (fun q => q = 83) H134 (sI (sI H134 83 57 (nI 0)) 83 58 (-1)) := Off.pI (A := fun q => q = 83) (Off.pI (A := fun q => q = 83) Off.rf rfl _ _) rfl _ _
      have rF := q134.1.off oF (fun q a b => by omega)
      refine xq_aload_n dX11_tried_147 rfl rfl ?_
      refine xq_iconst dX11_tried_148 ic1 ?_
      refine xq_callV1P clX11 gd_X11_leftMany dX11_tried_149 ml_RX11_401 im_X11_leftMany se_X11_leftMany rfl (Fx.s83 hF) (by exact Nat.le_of_ble_eq_true rfl) (by decide) (m_leftMany hsF rF (by decide)) ?_
      refine xq_iret dX11_tried_152 rfl ?_
      exact ⟨_, _, ⟨q134.2.1.z.symm, tF⟩, rfl⟩
    · skip
      refine xq_iconst dX11_tried_119 ic5 ?_
      refine xq_goto dX11_tried_120 rfl ?_
      refine xq_putI clX11 (by decide) rfl fl_RX11_431 (Or.inl rfl) dX11_tried_124 ⟨rfl, rfl⟩ (Fx.s83 hF) ?_
      refine xq_aload_n dX11_tried_127 rfl rfl ?_
      refine xq_iload_n dX11_tried_128 rfl rfl ?_
      refine xq_putI clX11 (by decide) rfl fl_RX11_122 (Or.inl rfl) dX11_tried_129 ⟨rfl, rfl⟩ (Fx.s83 hF) ?_
      have tX : TrF (fun k => k = 0 ∨ k = 34 ∨ k = 48 ∨ k = 56 ∨ k = 57 ∨ k = 58) H (sI (sI H1 83 57 (nI 5)) 83 58 (nI i)) := (ht1.mo1.pf (k := 57) (by omega) _).pf (k := 58) (by omega) _
      have hsX := hm.ms.trf tX (by decide) (by decide)
      have oX : Off (fun q => q = 83) H1 (sI (sI H1 83 57 (nI 5)) 83 58 (nI i)) := Off.pI (A := fun q => q = 83) (Off.pI (A := fun q => q = 83) Off.rf rfl _ _) rfl _ _
      have rX := hr1.off oX (fun q a b => by omega)
      have e5 : twN (l : Int) = 5 := by rw [h116]; rfl
      have twX : TwP (sI (sI H1 83 57 (nI 5)) 83 58 (nI i)) (l : Int) (i : Int) := ⟨by rw [hI_sI, if_neg (by omega), hI_sI, if_pos ⟨rfl, rfl⟩, e5], by rw [hI_sI, if_pos ⟨rfl, rfl⟩]; rfl⟩
      refine xq_aload_n dX11_tried_132 rfl rfl ?_
      refine xq_iload_n dX11_tried_133 rfl rfl ?_
      refine xq_callV1N clX11 gd_X11_goesOn dX11_tried_134 ml_RX11_482 im_X11_goesOn se_X11_goesOn rfl (Fx.s83 hF) (by exact Nat.le_of_ble_eq_true rfl) (by decide) (m_goesOn hsX rX hlt okt twX (by omega) (by omega) hn (by omega) (by omega) (by omega)) ?_
      intro H134 p134
      obtain ⟨lf2, q134⟩ := p134
      have t134 := tX.dy q134 (fun k h => by omega)
      refine xq_aload_n dX11_tried_137 rfl rfl ?_
      refine xq_iconst dX11_tried_138 ic0 ?_
      refine xq_putI clX11 (by decide) rfl fl_RX11_431 (Or.inl rfl) dX11_tried_139 ⟨rfl, rfl⟩ (Fx.s83 hF) ?_
      refine xq_aload_n dX11_tried_142 rfl rfl ?_
      refine xq_iconst dX11_tried_143 icm1 ?_
      refine xq_putI clX11 (by decide) rfl fl_RX11_122 (Or.inl rfl) dX11_tried_144 ⟨rfl, rfl⟩ (Fx.s83 hF) ?_
      have tF0 := (t134.pf (k := 57) (by omega) (nI 0)).pf (k := 58) (by omega) (-1)
      have tF := tF0.dn (by rw [hI_sI, if_neg (by omega), hI_sI, if_pos ⟨rfl, rfl⟩]; exact htw.1.symm) (by rw [hI_sI, if_pos ⟨rfl, rfl⟩, htw.2]; exact zm1)
      have hsF := hm.ms.trf tF (by decide) (by decide)
      have oF : Off (fun q => q = 83) H134 (sI (sI H134 83 57 (nI 0)) 83 58 (-1)) := Off.pI (A := fun q => q = 83) (Off.pI (A := fun q => q = 83) Off.rf rfl _ _) rfl _ _
      have rF := q134.1.off oF (fun q a b => by omega)
      refine xq_aload_n dX11_tried_147 rfl rfl ?_
      refine xq_iconst dX11_tried_148 ic1 ?_
      refine xq_callV1P clX11 gd_X11_leftMany dX11_tried_149 ml_RX11_401 im_X11_leftMany se_X11_leftMany rfl (Fx.s83 hF) (by exact Nat.le_of_ble_eq_true rfl) (by decide) (m_leftMany hsF rF (by decide)) ?_
      refine xq_iret dX11_tried_152 rfl ?_
      exact ⟨_, _, ⟨q134.2.1.z.symm, tF⟩, rfl⟩
  have l1 : ∀ (fz : Nat) (j : Nat) (H1 : xH), tNp T - j < fz → j ≤ tNp T → RmP H1 T 1 lf (if l = 4 then uAll u j else u) → TrF (fun k => k = 0 ∨ k = 34 ∨ k = 48 ∨ k = 56) H H1 → Xq mX11_tried 9 0 0 65 [some (.ref 83), some (vN l), some (vN i), some (vN n), none, some (vN j)] [] S H1 (fun R => ∃ x H', (fun x H' => x = (uZ (triV T u l i n)) ∧ TrF (fun k => k = 0 ∨ k = 34 ∨ k = 48 ∨ k = 56) H H') x H' ∧ R = (some (vN x), S, H')) := by
    intro fz
    induction fz with
    | zero => intro j  H1  hfz; exact absurd hfz (by omega)
    | succ fz ih =>
      intro j  H1  hfz hj hr1 ht1
      skip
      have hs1 := hm.ms.trf ht1 (by decide) (by decide); have hx1 := hs1.mx
      refine xq_iload dX11_tried_65 rfl ?_
      refine xq_aload_n dX11_tried_67 rfl rfl ?_
      refine xq_getF clX11 (by decide) rfl fl_RX11_13 dX11_tried_68 (Fx.s83 hF) (Fx.r83_3 hF) ?_
      refine xq_iconst dX11_tried_71 ic1 ?_
      refine xq_ialdN dX11_tried_72 (Fx.s85 hF) (by omega) (by decide) hx1.np ?_
      refine xq_icmp_geN dX11_tried_73 rfl (by omega) (by omega) ⟨fun h73 => ?_, fun h73 => ?_⟩
      · skip
        have hz : RmP H1 T 1 lf (triU u l) := by
          unfold triU
          by_cases e4 : l = 4
          · rw [if_pos e4] at hr1 ⊢
            rw [hnpu, show tNp T = j by omega]; exact hr1
          · rw [if_neg e4] at hr1 ⊢
            exact hr1
        exact xq_fgt (lE H1 hz ht1) (by exact And.intro rfl (And.intro rfl (And.intro rfl (And.intro rfl (trivial)))))
      · skip
        refine xq_iload_n dX11_tried_76 rfl rfl ?_
        refine xq_iconst dX11_tried_77 ic4 ?_
        refine xq_icmp_neN dX11_tried_78 rfl (by omega) (by omega) ⟨fun h78 => ?_, fun h78 => ?_⟩
        · skip
          have hz : RmP H1 T 1 lf (triU u l) := by
            unfold triU
            rw [if_neg h78] at hr1 ⊢
            exact hr1
          exact xq_fgt (lE H1 hz ht1) (by exact And.intro rfl (And.intro rfl (And.intro rfl (And.intro rfl (trivial)))))
        · skip
          refine xq_aload_n dX11_tried_81 rfl rfl ?_
          refine xq_getF clX11 (by decide) rfl fl_RX11_90 dX11_tried_82 (Fx.s83 hF) (Fx.r83_43 hF) ?_
          refine xq_bipush dX11_tried_85 bp6 ?_
          refine xq_iload dX11_tried_87 rfl ?_
          refine xq_iaddN dX11_tried_89 ?_
          refine xq_iconst dX11_tried_90 ic1 ?_
          refine xq_aload_n dX11_tried_91 rfl rfl ?_
          refine xq_getF clX11 (by decide) rfl fl_RX11_13 dX11_tried_92 (Fx.s83 hF) (Fx.r83_3 hF) ?_
          refine xq_iconst dX11_tried_95 ic1 ?_
          refine xq_ialdN dX11_tried_96 (Fx.s85 hF) (by omega) (by decide) hx1.np ?_
          refine xq_ishlN dX11_tried_97 (by omega) ?_
          refine xq_iconst dX11_tried_98 ic1 ?_
          refine xq_isubN dX11_tried_99 (shl_pos _) ?_
          refine xq_iconst dX11_tried_100 ic1 ?_
          refine xq_iload dX11_tried_101 rfl ?_
          refine xq_ishlN dX11_tried_103 (by omega) ?_
          refine xq_iconst dX11_tried_104 icm1 ?_
          refine xq_ixor dX11_tried_105 ?_
          refine xq_iand dX11_tried_106 ?_
          refine xq_iastN dX11_tried_107 (Fx.s109 hF) (by omega) (by decide) ?_
          refine xq_iincN dX11_tried_108 ic1 rfl rfl ?_
          refine xq_goto dX11_tried_111 rfl ?_
          rw [if_pos h78] at hr1
          have hjj : j < 6 := by omega
          rw [am_ok (by omega) hjj]
          have e6 : 6 + j = 6 * 1 + j := by omega
          rw [e6]
          have esb : uSetSe (uAll u j) j (am (tNp T) j) = uAll u (j + 1) := by
            show _ = uSetSe (uAll u j) j (sbs (am (uNp u) j) (uNp u) (uSe (uAll u j) j))
            rw [uAll_se j (Nat.le_refl _), hnpu, sbs_am (by omega) hjj (ok.se hjj) (by have := hso j (by omega); rw [hnpu] at this; exact this)]
          have r2 := hr1.seS hjj (am (tNp T) j)
          rw [esb] at r2
          exact xq_fgt (ih (j + 1) _ (by omega) (by omega) (by rw [if_pos h78]; exact r2) (ht1.pse hjj _)) (by exact And.intro rfl (And.intro rfl (And.intro rfl (And.intro rfl (And.intro rfl (trivial))))))
  refine vq_intro (by decide) (by exact Nat.le_of_ble_eq_true rfl) rfl ?_
  refine xq_aload_n dX11_tried_0 rfl rfl ?_
  refine xq_iconst dX11_tried_1 ic0 ?_
  refine xq_putI clX11 (by decide) rfl fl_RX11_128 (Or.inl rfl) dX11_tried_2 ⟨rfl, rfl⟩ (Fx.s83 hF) ?_
  refine xq_iload_n dX11_tried_5 rfl rfl ?_
  refine xq_iconst dX11_tried_6 ic2 ?_
  refine xq_icmp_neN dX11_tried_7 rfl (by omega) (by omega) ⟨fun h7 => ?_, fun h7 => ?_⟩
  · skip
    exact absurd h7 (by omega)
  · skip
    refine xq_aload_n dX11_tried_10 rfl rfl ?_
    refine xq_iload_n dX11_tried_11 rfl rfl ?_
    refine xq_callV1P clX11 gd_X11_isPerson dX11_tried_12 ml_RX11_460 im_X11_isPerson se_X11_isPerson rfl (Fx.s83 hF) (by exact Nat.le_of_ble_eq_true rfl) (by decide) (m_isPerson1 hs hp) ?_
    refine xq_goto dX11_tried_15 rfl ?_
    refine xq_istore dX11_tried_36 rfl ?_
    refine xq_iload dX11_tried_38 rfl ?_
    refine xq_if_eqN dX11_tried_40 rfl (by omega) ⟨fun h40 => ?_, fun h40 => ?_⟩
    · skip
      first | exact absurd h40 (by decide) | exact absurd rfl h40
    · skip
      refine xq_iload_n dX11_tried_43 rfl rfl ?_
      refine xq_if_ltN dX11_tried_44 rfl (by omega) ?_
      refine xq_iload_n dX11_tried_47 rfl rfl ?_
      refine xq_sipush dX11_tried_48 sp200 ?_
      refine xq_icmp_leN dX11_tried_51 rfl (by omega) (by omega) ⟨fun h51 => ?_, fun h51 => ?_⟩
      · skip
        refine xq_aload_n dX11_tried_56 rfl rfl ?_
        refine xq_iconst dX11_tried_57 ic1 ?_
        refine xq_iconst dX11_tried_58 ic0 ?_
        refine xq_callV2N clX11 gd_X11_copies dX11_tried_59 ml_RX11_476 im_X11_copies se_X11_copies rfl (Fx.s83 hF) (by exact Nat.le_of_ble_eq_true rfl) (by decide) (m_copies (s := 0) (x := 1) hs hrm (by decide) (by decide) (by decide)) ?_
        intro H59 p59
        obtain ⟨r59, e59, o59⟩ := p59
        have t59 := ((TrF.pf (F := (fun k => k = 0 ∨ k = 34 ∨ k = 48 ∨ k = 56)) (H := H) (H2 := H) TrF.rf (Or.inl rfl) (nI 0))).cp e59 o59
        have hs59 := hm.ms.trf t59 (by decide) (by decide)
        have htw59 := htw.off t59.2 (by decide) (by decide)
        refine xq_iconst dX11_tried_62 ic0 ?_
        refine xq_istore dX11_tried_63 rfl ?_
        exact xq_fgt (l1 (tNp T + 1) 0 H59 (by omega) (by omega) (by split; exact r59; exact r59) t59) (by exact And.intro rfl (And.intro rfl (And.intro rfl (And.intro rfl (And.intro rfl (trivial))))))
      · skip
        exact absurd h51 (by omega)
theorem m_tried2 (hm : MnP S H T N lf u) (htw : TwP H (-1) (-1)) (hhd : uHd u + 40000 ≤ 100000000) (hhl : uLi u + 40000 ≤ 100000000) (hh9 : uHr u ≤ 9800) (hso : SeOk u) (hl : l < 5) (hn : n ≤ 200) (hl2 : ¬ l = 2) (hp : i = 0) : Hv mX11_tried 9 [.ref 83, vN l, vN i, vN n] S H vN (fun x H' => x = (uZ (triV T u l i n)) ∧ TrF (fun k => k = 0 ∨ k = 34 ∨ k = 48 ∨ k = 56) H H') := by
  have hF := hm.ms.fx; have hm0 := hm.t0; have hs := hm0.ms; have hx := hs.mx; have hw := hs.mw; have tk := hs.tk; have tw := hs.tw; have hnp := tw.2.1; have hnc := tw.1; have hWn := nW_le tw; have ok := hm.ok; have hlr := hm.lr; have htr := hlr.2.1; have hnf8 := tk.nf; have hz := ok.n; have hrm := hm0.rm; have htt := hs.tt
  have htw0 : TwP (sI H 83 0 (nI 0)) (-1) (-1) := htw.off (MoF.pF (A := fun q => q = 83) (F := fun k => k = 0) MoF.rf rfl rfl _) (by decide) (by decide)
  have hhr := ok.hr
  have hnpu := hlr.2.2.2.2
  have lE : ∀ (H1 : xH), RmP H1 T 1 lf (triU u l) → TrF (fun k => k = 0 ∨ k = 34 ∨ k = 48 ∨ k = 56) H H1 → Xq mX11_tried 9 0 0 114 [some (.ref 83), some (vN l), some (vN i), some (vN n), none, none] [] S H1 (fun R => ∃ x H', (fun x H' => x = (uZ (triV T u l i n)) ∧ TrF (fun k => k = 0 ∨ k = 34 ∨ k = 48 ∨ k = 56) H H') x H' ∧ R = (some (vN x), S, H')) := by
    intro H1 hr1 ht1
    have hlt : LfR T lf (triU u l) := by unfold triU; split; exact hlr.all _; exact hlr
    have okt : StOk (triU u l) := by unfold triU; split; exact uAll_ok ok _ ok.np; exact ok
    have hft : uHd (triU u l) = uHd u ∧ uLi (triU u l) = uLi u ∧ uHr (triU u l) = uHr u := by unfold triU; split; exact uAll_f u _; exact ⟨rfl, rfl, rfl⟩
    refine xq_aload_n dX11_tried_114 rfl rfl ?_
    refine xq_iload_n dX11_tried_115 rfl rfl ?_
    refine xq_if_neN dX11_tried_116 rfl (by omega) ⟨fun h116 => ?_, fun h116 => ?_⟩
    · skip
      refine xq_iload_n dX11_tried_123 rfl rfl ?_
      refine xq_putI clX11 (by decide) rfl fl_RX11_431 (Or.inl rfl) dX11_tried_124 ⟨rfl, rfl⟩ (Fx.s83 hF) ?_
      refine xq_aload_n dX11_tried_127 rfl rfl ?_
      refine xq_iload_n dX11_tried_128 rfl rfl ?_
      refine xq_putI clX11 (by decide) rfl fl_RX11_122 (Or.inl rfl) dX11_tried_129 ⟨rfl, rfl⟩ (Fx.s83 hF) ?_
      have tX : TrF (fun k => k = 0 ∨ k = 34 ∨ k = 48 ∨ k = 56 ∨ k = 57 ∨ k = 58) H (sI (sI H1 83 57 (nI l)) 83 58 (nI i)) := (ht1.mo1.pf (k := 57) (by omega) _).pf (k := 58) (by omega) _
      have hsX := hm.ms.trf tX (by decide) (by decide)
      have oX : Off (fun q => q = 83) H1 (sI (sI H1 83 57 (nI l)) 83 58 (nI i)) := Off.pI (A := fun q => q = 83) (Off.pI (A := fun q => q = 83) Off.rf rfl _ _) rfl _ _
      have rX := hr1.off oX (fun q a b => by omega)
      have e5 : twN (l : Int) = l := by unfold twN; rw [if_neg (by omega), if_neg (by omega), Int.toNat_natCast]
      have twX : TwP (sI (sI H1 83 57 (nI l)) 83 58 (nI i)) (l : Int) (i : Int) := ⟨by rw [hI_sI, if_neg (by omega), hI_sI, if_pos ⟨rfl, rfl⟩, e5], by rw [hI_sI, if_pos ⟨rfl, rfl⟩]; rfl⟩
      refine xq_aload_n dX11_tried_132 rfl rfl ?_
      refine xq_iload_n dX11_tried_133 rfl rfl ?_
      refine xq_callV1N clX11 gd_X11_goesOn dX11_tried_134 ml_RX11_482 im_X11_goesOn se_X11_goesOn rfl (Fx.s83 hF) (by exact Nat.le_of_ble_eq_true rfl) (by decide) (m_goesOn hsX rX hlt okt twX (by omega) (by omega) hn (by omega) (by omega) (by omega)) ?_
      intro H134 p134
      obtain ⟨lf2, q134⟩ := p134
      have t134 := tX.dy q134 (fun k h => by omega)
      refine xq_aload_n dX11_tried_137 rfl rfl ?_
      refine xq_iconst dX11_tried_138 ic0 ?_
      refine xq_putI clX11 (by decide) rfl fl_RX11_431 (Or.inl rfl) dX11_tried_139 ⟨rfl, rfl⟩ (Fx.s83 hF) ?_
      refine xq_aload_n dX11_tried_142 rfl rfl ?_
      refine xq_iconst dX11_tried_143 icm1 ?_
      refine xq_putI clX11 (by decide) rfl fl_RX11_122 (Or.inl rfl) dX11_tried_144 ⟨rfl, rfl⟩ (Fx.s83 hF) ?_
      have tF0 := (t134.pf (k := 57) (by omega) (nI 0)).pf (k := 58) (by omega) (-1)
      have tF := tF0.dn (by rw [hI_sI, if_neg (by omega), hI_sI, if_pos ⟨rfl, rfl⟩]; exact htw.1.symm) (by rw [hI_sI, if_pos ⟨rfl, rfl⟩, htw.2]; exact zm1)
      have hsF := hm.ms.trf tF (by decide) (by decide)
      have oF : Off (fun q => q = 83) H134 (sI (sI H134 83 57 (nI 0)) 83 58 (-1)) := Off.pI (A := fun q => q = 83) (Off.pI (A := fun q => q = 83) Off.rf rfl _ _) rfl _ _
      have rF := q134.1.off oF (fun q a b => by omega)
      refine xq_aload_n dX11_tried_147 rfl rfl ?_
      refine xq_iconst dX11_tried_148 ic1 ?_
      refine xq_callV1P clX11 gd_X11_leftMany dX11_tried_149 ml_RX11_401 im_X11_leftMany se_X11_leftMany rfl (Fx.s83 hF) (by exact Nat.le_of_ble_eq_true rfl) (by decide) (m_leftMany hsF rF (by decide)) ?_
      refine xq_iret dX11_tried_152 rfl ?_
      exact ⟨_, _, ⟨q134.2.1.z.symm, tF⟩, rfl⟩
    · skip
      refine xq_iconst dX11_tried_119 ic5 ?_
      refine xq_goto dX11_tried_120 rfl ?_
      refine xq_putI clX11 (by decide) rfl fl_RX11_431 (Or.inl rfl) dX11_tried_124 ⟨rfl, rfl⟩ (Fx.s83 hF) ?_
      refine xq_aload_n dX11_tried_127 rfl rfl ?_
      refine xq_iload_n dX11_tried_128 rfl rfl ?_
      refine xq_putI clX11 (by decide) rfl fl_RX11_122 (Or.inl rfl) dX11_tried_129 ⟨rfl, rfl⟩ (Fx.s83 hF) ?_
      have tX : TrF (fun k => k = 0 ∨ k = 34 ∨ k = 48 ∨ k = 56 ∨ k = 57 ∨ k = 58) H (sI (sI H1 83 57 (nI 5)) 83 58 (nI i)) := (ht1.mo1.pf (k := 57) (by omega) _).pf (k := 58) (by omega) _
      have hsX := hm.ms.trf tX (by decide) (by decide)
      have oX : Off (fun q => q = 83) H1 (sI (sI H1 83 57 (nI 5)) 83 58 (nI i)) := Off.pI (A := fun q => q = 83) (Off.pI (A := fun q => q = 83) Off.rf rfl _ _) rfl _ _
      have rX := hr1.off oX (fun q a b => by omega)
      have e5 : twN (l : Int) = 5 := by rw [h116]; rfl
      have twX : TwP (sI (sI H1 83 57 (nI 5)) 83 58 (nI i)) (l : Int) (i : Int) := ⟨by rw [hI_sI, if_neg (by omega), hI_sI, if_pos ⟨rfl, rfl⟩, e5], by rw [hI_sI, if_pos ⟨rfl, rfl⟩]; rfl⟩
      refine xq_aload_n dX11_tried_132 rfl rfl ?_
      refine xq_iload_n dX11_tried_133 rfl rfl ?_
      refine xq_callV1N clX11 gd_X11_goesOn dX11_tried_134 ml_RX11_482 im_X11_goesOn se_X11_goesOn rfl (Fx.s83 hF) (by exact Nat.le_of_ble_eq_true rfl) (by decide) (m_goesOn hsX rX hlt okt twX (by omega) (by omega) hn (by omega) (by omega) (by omega)) ?_
      intro H134 p134
      obtain ⟨lf2, q134⟩ := p134
      have t134 := tX.dy q134 (fun k h => by omega)
      refine xq_aload_n dX11_tried_137 rfl rfl ?_
      refine xq_iconst dX11_tried_138 ic0 ?_
      refine xq_putI clX11 (by decide) rfl fl_RX11_431 (Or.inl rfl) dX11_tried_139 ⟨rfl, rfl⟩ (Fx.s83 hF) ?_
      refine xq_aload_n dX11_tried_142 rfl rfl ?_
      refine xq_iconst dX11_tried_143 icm1 ?_
      refine xq_putI clX11 (by decide) rfl fl_RX11_122 (Or.inl rfl) dX11_tried_144 ⟨rfl, rfl⟩ (Fx.s83 hF) ?_
      have tF0 := (t134.pf (k := 57) (by omega) (nI 0)).pf (k := 58) (by omega) (-1)
      have tF := tF0.dn (by rw [hI_sI, if_neg (by omega), hI_sI, if_pos ⟨rfl, rfl⟩]; exact htw.1.symm) (by rw [hI_sI, if_pos ⟨rfl, rfl⟩, htw.2]; exact zm1)
      have hsF := hm.ms.trf tF (by decide) (by decide)
      have oF : Off (fun q => q = 83) H134 (sI (sI H134 83 57 (nI 0)) 83 58 (-1)) := Off.pI (A := fun q => q = 83) (Off.pI (A := fun q => q = 83) Off.rf rfl _ _) rfl _ _
      have rF := q134.1.off oF (fun q a b => by omega)
      refine xq_aload_n dX11_tried_147 rfl rfl ?_
      refine xq_iconst dX11_tried_148 ic1 ?_
      refine xq_callV1P clX11 gd_X11_leftMany dX11_tried_149 ml_RX11_401 im_X11_leftMany se_X11_leftMany rfl (Fx.s83 hF) (by exact Nat.le_of_ble_eq_true rfl) (by decide) (m_leftMany hsF rF (by decide)) ?_
      refine xq_iret dX11_tried_152 rfl ?_
      exact ⟨_, _, ⟨q134.2.1.z.symm, tF⟩, rfl⟩
  have l1 : ∀ (fz : Nat) (j : Nat) (H1 : xH), tNp T - j < fz → j ≤ tNp T → RmP H1 T 1 lf (if l = 4 then uAll u j else u) → TrF (fun k => k = 0 ∨ k = 34 ∨ k = 48 ∨ k = 56) H H1 → Xq mX11_tried 9 0 0 65 [some (.ref 83), some (vN l), some (vN i), some (vN n), none, some (vN j)] [] S H1 (fun R => ∃ x H', (fun x H' => x = (uZ (triV T u l i n)) ∧ TrF (fun k => k = 0 ∨ k = 34 ∨ k = 48 ∨ k = 56) H H') x H' ∧ R = (some (vN x), S, H')) := by
    intro fz
    induction fz with
    | zero => intro j  H1  hfz; exact absurd hfz (by omega)
    | succ fz ih =>
      intro j  H1  hfz hj hr1 ht1
      skip
      have hs1 := hm.ms.trf ht1 (by decide) (by decide); have hx1 := hs1.mx
      refine xq_iload dX11_tried_65 rfl ?_
      refine xq_aload_n dX11_tried_67 rfl rfl ?_
      refine xq_getF clX11 (by decide) rfl fl_RX11_13 dX11_tried_68 (Fx.s83 hF) (Fx.r83_3 hF) ?_
      refine xq_iconst dX11_tried_71 ic1 ?_
      refine xq_ialdN dX11_tried_72 (Fx.s85 hF) (by omega) (by decide) hx1.np ?_
      refine xq_icmp_geN dX11_tried_73 rfl (by omega) (by omega) ⟨fun h73 => ?_, fun h73 => ?_⟩
      · skip
        have hz : RmP H1 T 1 lf (triU u l) := by
          unfold triU
          by_cases e4 : l = 4
          · rw [if_pos e4] at hr1 ⊢
            rw [hnpu, show tNp T = j by omega]; exact hr1
          · rw [if_neg e4] at hr1 ⊢
            exact hr1
        exact xq_fgt (lE H1 hz ht1) (by exact And.intro rfl (And.intro rfl (And.intro rfl (And.intro rfl (trivial)))))
      · skip
        refine xq_iload_n dX11_tried_76 rfl rfl ?_
        refine xq_iconst dX11_tried_77 ic4 ?_
        refine xq_icmp_neN dX11_tried_78 rfl (by omega) (by omega) ⟨fun h78 => ?_, fun h78 => ?_⟩
        · skip
          have hz : RmP H1 T 1 lf (triU u l) := by
            unfold triU
            rw [if_neg h78] at hr1 ⊢
            exact hr1
          exact xq_fgt (lE H1 hz ht1) (by exact And.intro rfl (And.intro rfl (And.intro rfl (And.intro rfl (trivial)))))
        · skip
          refine xq_aload_n dX11_tried_81 rfl rfl ?_
          refine xq_getF clX11 (by decide) rfl fl_RX11_90 dX11_tried_82 (Fx.s83 hF) (Fx.r83_43 hF) ?_
          refine xq_bipush dX11_tried_85 bp6 ?_
          refine xq_iload dX11_tried_87 rfl ?_
          refine xq_iaddN dX11_tried_89 ?_
          refine xq_iconst dX11_tried_90 ic1 ?_
          refine xq_aload_n dX11_tried_91 rfl rfl ?_
          refine xq_getF clX11 (by decide) rfl fl_RX11_13 dX11_tried_92 (Fx.s83 hF) (Fx.r83_3 hF) ?_
          refine xq_iconst dX11_tried_95 ic1 ?_
          refine xq_ialdN dX11_tried_96 (Fx.s85 hF) (by omega) (by decide) hx1.np ?_
          refine xq_ishlN dX11_tried_97 (by omega) ?_
          refine xq_iconst dX11_tried_98 ic1 ?_
          refine xq_isubN dX11_tried_99 (shl_pos _) ?_
          refine xq_iconst dX11_tried_100 ic1 ?_
          refine xq_iload dX11_tried_101 rfl ?_
          refine xq_ishlN dX11_tried_103 (by omega) ?_
          refine xq_iconst dX11_tried_104 icm1 ?_
          refine xq_ixor dX11_tried_105 ?_
          refine xq_iand dX11_tried_106 ?_
          refine xq_iastN dX11_tried_107 (Fx.s109 hF) (by omega) (by decide) ?_
          refine xq_iincN dX11_tried_108 ic1 rfl rfl ?_
          refine xq_goto dX11_tried_111 rfl ?_
          rw [if_pos h78] at hr1
          have hjj : j < 6 := by omega
          rw [am_ok (by omega) hjj]
          have e6 : 6 + j = 6 * 1 + j := by omega
          rw [e6]
          have esb : uSetSe (uAll u j) j (am (tNp T) j) = uAll u (j + 1) := by
            show _ = uSetSe (uAll u j) j (sbs (am (uNp u) j) (uNp u) (uSe (uAll u j) j))
            rw [uAll_se j (Nat.le_refl _), hnpu, sbs_am (by omega) hjj (ok.se hjj) (by have := hso j (by omega); rw [hnpu] at this; exact this)]
          have r2 := hr1.seS hjj (am (tNp T) j)
          rw [esb] at r2
          exact xq_fgt (ih (j + 1) _ (by omega) (by omega) (by rw [if_pos h78]; exact r2) (ht1.pse hjj _)) (by exact And.intro rfl (And.intro rfl (And.intro rfl (And.intro rfl (And.intro rfl (trivial))))))
  refine vq_intro (by decide) (by exact Nat.le_of_ble_eq_true rfl) rfl ?_
  refine xq_aload_n dX11_tried_0 rfl rfl ?_
  refine xq_iconst dX11_tried_1 ic0 ?_
  refine xq_putI clX11 (by decide) rfl fl_RX11_128 (Or.inl rfl) dX11_tried_2 ⟨rfl, rfl⟩ (Fx.s83 hF) ?_
  refine xq_iload_n dX11_tried_5 rfl rfl ?_
  refine xq_iconst dX11_tried_6 ic2 ?_
  refine xq_icmp_neN dX11_tried_7 rfl (by omega) (by omega) ⟨fun h7 => ?_, fun h7 => ?_⟩
  · skip
    refine xq_iload_n dX11_tried_18 rfl rfl ?_
    refine xq_if_ltN dX11_tried_19 rfl (by omega) ?_
    refine xq_iload_n dX11_tried_22 rfl rfl ?_
    refine xq_iconst dX11_tried_23 ic4 ?_
    refine xq_icmp_gtN dX11_tried_24 rfl (by omega) (by omega) ⟨fun h24 => ?_, fun h24 => ?_⟩
    · skip
      exact absurd h24 (by omega)
    · skip
      refine xq_iload_n dX11_tried_27 rfl rfl ?_
      refine xq_if_neN dX11_tried_28 rfl (by omega) ⟨fun h28 => ?_, fun h28 => ?_⟩
      · skip
        exact absurd hp h28
      · skip
        refine xq_iconst dX11_tried_31 ic1 ?_
        refine xq_goto dX11_tried_32 rfl ?_
        refine xq_istore dX11_tried_36 rfl ?_
        refine xq_iload dX11_tried_38 rfl ?_
        refine xq_if_eqN dX11_tried_40 rfl (by omega) ⟨fun h40 => ?_, fun h40 => ?_⟩
        · skip
          first | exact absurd h40 (by decide) | exact absurd rfl h40
        · skip
          refine xq_iload_n dX11_tried_43 rfl rfl ?_
          refine xq_if_ltN dX11_tried_44 rfl (by omega) ?_
          refine xq_iload_n dX11_tried_47 rfl rfl ?_
          refine xq_sipush dX11_tried_48 sp200 ?_
          refine xq_icmp_leN dX11_tried_51 rfl (by omega) (by omega) ⟨fun h51 => ?_, fun h51 => ?_⟩
          · skip
            refine xq_aload_n dX11_tried_56 rfl rfl ?_
            refine xq_iconst dX11_tried_57 ic1 ?_
            refine xq_iconst dX11_tried_58 ic0 ?_
            refine xq_callV2N clX11 gd_X11_copies dX11_tried_59 ml_RX11_476 im_X11_copies se_X11_copies rfl (Fx.s83 hF) (by exact Nat.le_of_ble_eq_true rfl) (by decide) (m_copies (s := 0) (x := 1) hs hrm (by decide) (by decide) (by decide)) ?_
            intro H59 p59
            obtain ⟨r59, e59, o59⟩ := p59
            have t59 := ((TrF.pf (F := (fun k => k = 0 ∨ k = 34 ∨ k = 48 ∨ k = 56)) (H := H) (H2 := H) TrF.rf (Or.inl rfl) (nI 0))).cp e59 o59
            have hs59 := hm.ms.trf t59 (by decide) (by decide)
            have htw59 := htw.off t59.2 (by decide) (by decide)
            refine xq_iconst dX11_tried_62 ic0 ?_
            refine xq_istore dX11_tried_63 rfl ?_
            exact xq_fgt (l1 (tNp T + 1) 0 H59 (by omega) (by omega) (by split; exact r59; exact r59) t59) (by exact And.intro rfl (And.intro rfl (And.intro rfl (And.intro rfl (And.intro rfl (trivial))))))
          · skip
            exact absurd h51 (by omega)
  · skip
    exact absurd h7 (by omega)
theorem m_chance0 (hm : MnP S H T N lf u) (hno : ¬ (¬ ww < 0 ∧ ¬ w2 < nI 1 ∧ ¬ nI 99 < w2 ∧ hasB w3 (tNp T) = true)) : Hv mX11_chance 8 [.ref 83, .int ww, .int w2, .int w3] S H vZ (fun (x : Int) H' => x = (-1) ∧ MoF (fun q => q = 83 ∨ q = 101 ∨ q = 102 ∨ (112 ≤ q ∧ q ≤ 118)) (fun k => k = 0 ∨ k = 34 ∨ k = 48 ∨ k = 56) H H') := by
  have hF := hm.ms.fx; have hm0 := hm.t0; have hs := hm0.ms; have hx := hs.mx; have hw := hs.mw; have tk := hs.tk; have tw := hs.tw; have hnp := tw.2.1; have hnc := tw.1; have hWn := nW_le tw; have ok := hm.ok; have hlr := hm.lr; have htr := hlr.2.1; have hnf8 := tk.nf; have hz := ok.n; have hrm := hm0.rm; have htt := hs.tt
  refine vq_intro (by decide) (by exact Nat.le_of_ble_eq_true rfl) rfl ?_
  refine xq_aload_n dX11_chance_0 rfl rfl ?_
  refine xq_iconst dX11_chance_1 ic0 ?_
  refine xq_putI clX11 (by decide) rfl fl_RX11_128 (Or.inl rfl) dX11_chance_2 ⟨rfl, rfl⟩ (Fx.s83 hF) ?_
  refine xq_iload_n dX11_chance_5 rfl rfl ?_
  refine xq_if_lt dX11_chance_6 rfl ⟨fun h6 => ?_, fun h6 => ?_⟩
  · skip
    refine xq_iconst dX11_chance_28 icm1 ?_
    refine xq_iret dX11_chance_29 rfl ?_
    refine ⟨-1, _, ⟨rfl, (MoF.pF (A := (fun q => q = 83 ∨ q = 101 ∨ q = 102 ∨ (112 ≤ q ∧ q ≤ 118))) (F := (fun k => k = 0 ∨ k = 34 ∨ k = 48 ∨ k = 56)) (H := H) (H2 := H) (k := 0) MoF.rf (Or.inl rfl) (Or.inl rfl) (nI 0))⟩, ?_⟩
    rw [zm1]
  · skip
    refine xq_iload_n dX11_chance_9 rfl rfl ?_
    refine xq_iconst dX11_chance_10 ic1 ?_
    refine xq_icmp_lt dX11_chance_11 rfl ⟨fun h11 => ?_, fun h11 => ?_⟩
    · skip
      refine xq_iconst dX11_chance_28 icm1 ?_
      refine xq_iret dX11_chance_29 rfl ?_
      refine ⟨-1, _, ⟨rfl, (MoF.pF (A := (fun q => q = 83 ∨ q = 101 ∨ q = 102 ∨ (112 ≤ q ∧ q ≤ 118))) (F := (fun k => k = 0 ∨ k = 34 ∨ k = 48 ∨ k = 56)) (H := H) (H2 := H) (k := 0) MoF.rf (Or.inl rfl) (Or.inl rfl) (nI 0))⟩, ?_⟩
      rw [zm1]
    · skip
      refine xq_iload_n dX11_chance_14 rfl rfl ?_
      refine xq_bipush dX11_chance_15 bp99 ?_
      refine xq_icmp_gt dX11_chance_17 rfl ⟨fun h17 => ?_, fun h17 => ?_⟩
      · skip
        refine xq_iconst dX11_chance_28 icm1 ?_
        refine xq_iret dX11_chance_29 rfl ?_
        refine ⟨-1, _, ⟨rfl, (MoF.pF (A := (fun q => q = 83 ∨ q = 101 ∨ q = 102 ∨ (112 ≤ q ∧ q ≤ 118))) (F := (fun k => k = 0 ∨ k = 34 ∨ k = 48 ∨ k = 56)) (H := H) (H2 := H) (k := 0) MoF.rf (Or.inl rfl) (Or.inl rfl) (nI 0))⟩, ?_⟩
        rw [zm1]
      · skip
        refine xq_aload_n dX11_chance_20 rfl rfl ?_
        refine xq_iload_n dX11_chance_21 rfl rfl ?_
        refine xq_callV1P clX11 gd_X11_isPerson dX11_chance_22 ml_RX11_460 im_X11_isPerson se_X11_isPerson rfl (Fx.s83 hF) (by exact Nat.le_of_ble_eq_true rfl) (by decide) (m_isPerson hs) ?_
        refine xq_if_neB dX11_chance_25 rfl ⟨fun h25 => ?_, fun h25 => ?_⟩
        · skip
          exact absurd ⟨h6, h11, h17, h25⟩ hno
        · skip
          refine xq_iconst dX11_chance_28 icm1 ?_
          refine xq_iret dX11_chance_29 rfl ?_
          refine ⟨-1, _, ⟨rfl, (MoF.pF (A := (fun q => q = 83 ∨ q = 101 ∨ q = 102 ∨ (112 ≤ q ∧ q ≤ 118))) (F := (fun k => k = 0 ∨ k = 34 ∨ k = 48 ∨ k = 56)) (H := H) (H2 := H) (k := 0) MoF.rf (Or.inl rfl) (Or.inl rfl) (nI 0))⟩, ?_⟩
          rw [zm1]
theorem m_chance1 (hm : MnP S H T N lf u) (htw : TwP H (-1) (-1)) (hhd : uHd u + 40000 ≤ 100000000) (hhl : uLi u + 40000 ≤ 100000000) (hh9 : uHr u ≤ 9800) (hq : q < 2147483648) (h1n : 1 ≤ n) (hn : n ≤ 99) (hp : p < tNp T) : Hv mX11_chance 8 [.ref 83, vN q, vN n, vN p] S H vN (fun x H' => x = ((chS T u n p q 10).2) ∧ TrF (fun k => k = 0 ∨ k = 34 ∨ k = 48 ∨ k = 56) H H') := by
  have hF := hm.ms.fx; have hm0 := hm.t0; have hs := hm0.ms; have hx := hs.mx; have hw := hs.mw; have tk := hs.tk; have tw := hs.tw; have hnp := tw.2.1; have hnc := tw.1; have hWn := nW_le tw; have ok := hm.ok; have hlr := hm.lr; have htr := hlr.2.1; have hnf8 := tk.nf; have hz := ok.n; have hrm := hm0.rm; have htt := hs.tt
  have htw0 : TwP (sI H 83 0 (nI 0)) (-1) (-1) := htw.off (MoF.pF (A := fun q => q = 83) (F := fun k => k = 0) MoF.rf rfl rfl _) (by decide) (by decide)
  have hhr := ok.hr
  have lp : ∀ (fz : Nat) (k : Nat) (st : Nat × Nat) (H1 : xH), 10 - k < fz → k ≤ 10 → (st.1 < 2147483648 ∧ st = chS T u n p q k ∧ st.2 ≤ k) → TrF (fun k => k = 0 ∨ k = 34 ∨ k = 48 ∨ k = 56) H H1 → Xq mX11_chance 8 0 0 39 [some (.ref 83), some (vN q), some (vN n), some (vN p), some (vN st.1), some (vN st.2), some (vN k), none] [] S H1 (fun R => ∃ x H', (fun x H' => x = ((chS T u n p q 10).2) ∧ TrF (fun k => k = 0 ∨ k = 34 ∨ k = 48 ∨ k = 56) H H') x H' ∧ R = (some (vN x), S, H')) := by
    intro fz
    induction fz with
    | zero => intro k  st  H1  hfz; exact absurd hfz (by omega)
    | succ fz ih =>
      intro k  st  H1  hfz hk hq ht1
      have ih0 := ih
      have hs1 := hm.ms.trf ht1 (by decide) (by decide); have hr0 := hm.rm.e tw (ht1.1 0 (by decide))
      refine xq_iload dX11_chance_39 rfl ?_
      refine xq_bipush dX11_chance_41 bp10 ?_
      refine xq_icmp_geN dX11_chance_43 rfl (by omega) (by omega) ⟨fun h43 => ?_, fun h43 => ?_⟩
      · skip
        refine xq_iload dX11_chance_110 rfl ?_
        refine xq_iret dX11_chance_112 rfl ?_
        exact ⟨_, H1, ⟨by rw [hq.2.1, show k = 10 by omega], ht1⟩, rfl⟩
      · skip
        refine xq_aload_n dX11_chance_46 rfl rfl ?_
        refine xq_iconst dX11_chance_47 ic1 ?_
        refine xq_iconst dX11_chance_48 ic0 ?_
        refine xq_callV2N clX11 gd_X11_copies dX11_chance_49 ml_RX11_476 im_X11_copies se_X11_copies rfl (Fx.s83 hF) (by exact Nat.le_of_ble_eq_true rfl) (by decide) (m_copies (s := 0) (x := 1) hs1 hr0 (by decide) (by decide) (by decide)) ?_
        intro H49 p49
        obtain ⟨r49, e49, o49⟩ := p49
        have tb := (ht1.cp e49 o49).pla (nI st.1)
        have rb := r49.la2 st.1
        have okl := ok.setLa hq.1
        have f1 : uHd (uSetLa u st.1) = uHd u := rfl
        have f2 : uLi (uSetLa u st.1) = uLi u := rfl
        have f3 : uHr (uSetLa u st.1) = uHr u := rfl
        refine xq_aload_n dX11_chance_52 rfl rfl ?_
        refine xq_getF clX11 (by decide) rfl fl_RX11_78 dX11_chance_53 (Fx.s83 hF) (Fx.r83_39 hF) ?_
        refine xq_iconst dX11_chance_56 ic1 ?_
        refine xq_iload dX11_chance_57 rfl ?_
        refine xq_iastN dX11_chance_59 (Fx.s105 hF) (by omega) (by decide) ?_
        refine xq_iconst dX11_chance_60 ic0 ?_
        refine xq_istore dX11_chance_61 rfl ?_
        have l2 : ∀ (fz : Nat) (j : Nat) (v : uSt) (lf1 : Nat → Bool) (H2 : xH), n - j < fz → j ≤ n → v = pIt T true (-1) (-1) (uSetLa u st.1) j → DyQ (sI H49 105 1 (nI st.1)) H2 T 1 lf1 v → Xq mX11_chance 8 0 0 63 [some (.ref 83), some (vN q), some (vN n), some (vN p), some (vN st.1), some (vN st.2), some (vN k), some (vN j)] [] S H2 (fun R => ∃ x H', (fun x H' => x = ((chS T u n p q 10).2) ∧ TrF (fun k => k = 0 ∨ k = 34 ∨ k = 48 ∨ k = 56) H H') x H' ∧ R = (some (vN x), S, H')) := by
          intro fz
          induction fz with
          | zero => intro j  v  lf1  H2  hfz; exact absurd hfz (by omega)
          | succ fz ih =>
            intro j  v  lf1  H2  hfz hj hv hd
            have t2 := tb.dy hd (fun k h => by omega)
            have hs2 := hm.ms.trf t2 (by decide) (by decide)
            have gp := pIt_ok (T := T) (dr := true) (ow := -1) (mu := -1) (n := j) okl tk (by omega) (by omega) (by omega) (by omega)
            rw [← hv] at gp
            have g1 := gp.1.1; have g2 := gp.1.2.2.1; have g3 := gp.1.2.2.2; have g4 := gp.2
            have hbk := shr_le (uSd v) p; have hbk2 : uSd v >>> p &&& 1 ≤ 1 := Nat.and_le_right; have hsd := g1.sd
            refine xq_iload dX11_chance_63 rfl ?_
            refine xq_iload_n dX11_chance_65 rfl rfl ?_
            refine xq_icmp_geN dX11_chance_66 rfl (by omega) (by omega) ⟨fun h66 => ?_, fun h66 => ?_⟩
            · skip
              refine xq_aload_n dX11_chance_81 rfl rfl ?_
              refine xq_getF clX11 (by decide) rfl fl_RX11_78 dX11_chance_82 (Fx.s83 hF) (Fx.r83_39 hF) ?_
              refine xq_iconst dX11_chance_85 ic1 ?_
              refine xq_ialdN dX11_chance_86 (Fx.s105 hF) (by omega) (by decide) hd.1.la ?_
              refine xq_istore dX11_chance_87 rfl ?_
              refine xq_iload dX11_chance_89 rfl ?_
              refine xq_aload_n dX11_chance_91 rfl rfl ?_
              refine xq_getF clX11 (by decide) rfl fl_RX11_87 dX11_chance_92 (Fx.s83 hF) (Fx.r83_42 hF) ?_
              refine xq_iconst dX11_chance_95 ic1 ?_
              refine xq_ialdN dX11_chance_96 (Fx.s108 hF) (by omega) (by decide) hd.1.sd ?_
              refine xq_iload_n dX11_chance_97 rfl rfl ?_
              refine xq_ishrN dX11_chance_98 (by omega) (by omega) ?_
              refine xq_iconst dX11_chance_99 ic1 ?_
              refine xq_iandN dX11_chance_100 ?_
              refine xq_iaddN dX11_chance_101 ?_
              refine xq_istore dX11_chance_102 rfl ?_
              refine xq_iincN dX11_chance_104 ic1 rfl rfl ?_
              refine xq_goto dX11_chance_107 rfl ?_
              have evp : v = chU T u n st.1 := by rw [hv, show j = n by omega, pIt_pas okl tk n (by omega) (by omega)]; rfl
              exact xq_fgt (ih0 (k + 1) (uLa v, st.2 + (uSd v >>> p &&& 1)) H2 (by omega) (by omega) ⟨g1.la, by rw [evp, hq.2.1]; rfl, by show st.2 + _ ≤ _; omega⟩ t2) (by exact And.intro rfl (And.intro rfl (And.intro rfl (And.intro rfl (And.intro rfl (And.intro rfl (And.intro rfl (trivial))))))))
            · skip
              refine xq_aload_n dX11_chance_69 rfl rfl ?_
              refine xq_iconst dX11_chance_70 ic1 ?_
              refine xq_iconst dX11_chance_71 ic1 ?_
              refine xq_callV2N clX11 gd_X11_passes dX11_chance_72 ml_RX11_456 im_X11_passes se_X11_passes rfl (Fx.s83 hF) (by exact Nat.le_of_ble_eq_true rfl) (by decide) (m_passes (s := 1) (dr := true) hs2 hd.1 hd.2.1 g1 (by decide) (htw.off t2.2 (by decide) (by decide)) (by decide) (by decide) (by omega) (by omega)) ?_
              intro H72 p72
              obtain ⟨lf2, q72⟩ := p72
              refine xq_iincN dX11_chance_75 ic1 rfl rfl ?_
              refine xq_goto dX11_chance_78 rfl ?_
              exact ih (j + 1) _ lf2 H72 (by omega) (by omega) (by rw [hv]; rfl) (hd.tr q72)
        exact l2 (n + 1) 0 (uSetLa u st.1) lf _ (by omega) (by omega) rfl ⟨rb, hlr, fun _ _ => RmE.rf, MoF.rf⟩
  refine vq_intro (by decide) (by exact Nat.le_of_ble_eq_true rfl) rfl ?_
  refine xq_aload_n dX11_chance_0 rfl rfl ?_
  refine xq_iconst dX11_chance_1 ic0 ?_
  refine xq_putI clX11 (by decide) rfl fl_RX11_128 (Or.inl rfl) dX11_chance_2 ⟨rfl, rfl⟩ (Fx.s83 hF) ?_
  refine xq_iload_n dX11_chance_5 rfl rfl ?_
  refine xq_if_ltN dX11_chance_6 rfl (by omega) ?_
  refine xq_iload_n dX11_chance_9 rfl rfl ?_
  refine xq_iconst dX11_chance_10 ic1 ?_
  refine xq_icmp_ltN dX11_chance_11 rfl (by omega) (by omega) ⟨fun h11 => ?_, fun h11 => ?_⟩
  · skip
    exact absurd h11 (by omega)
  · skip
    refine xq_iload_n dX11_chance_14 rfl rfl ?_
    refine xq_bipush dX11_chance_15 bp99 ?_
    refine xq_icmp_gtN dX11_chance_17 rfl (by omega) (by omega) ⟨fun h17 => ?_, fun h17 => ?_⟩
    · skip
      exact absurd h17 (by omega)
    · skip
      refine xq_aload_n dX11_chance_20 rfl rfl ?_
      refine xq_iload_n dX11_chance_21 rfl rfl ?_
      refine xq_callV1P clX11 gd_X11_isPerson dX11_chance_22 ml_RX11_460 im_X11_isPerson se_X11_isPerson rfl (Fx.s83 hF) (by exact Nat.le_of_ble_eq_true rfl) (by decide) (m_isPerson1 hs hp) ?_
      refine xq_if_neN dX11_chance_25 rfl (by omega) ⟨fun h25 => ?_, fun h25 => ?_⟩
      · skip
        refine xq_iload_n dX11_chance_30 rfl rfl ?_
        refine xq_istore dX11_chance_31 rfl ?_
        refine xq_iconst dX11_chance_33 ic0 ?_
        refine xq_istore dX11_chance_34 rfl ?_
        refine xq_iconst dX11_chance_36 ic0 ?_
        refine xq_istore dX11_chance_37 rfl ?_
        exact xq_fgt (lp 11 0 (q, 0) (sI H 83 0 (nI 0)) (by omega) (by omega) ⟨hq, rfl, Nat.le_refl _⟩ (TrF.pf (F := (fun k => k = 0 ∨ k = 34 ∨ k = 48 ∨ k = 56)) (H := H) (H2 := H) TrF.rf (Or.inl rfl) (nI 0))) (by exact And.intro rfl (And.intro rfl (And.intro rfl (And.intro rfl (And.intro rfl (And.intro rfl (And.intro rfl (trivial))))))))
      · skip
        first | exact absurd h25 (by decide) | exact absurd rfl h25
end TS
