/-! ===== the reference's calls: rests, counts, names, the tape ===== -/
section CE
variable {S : xS} {H H1 H2 H3 : xH} {T : uTx} {N : Nat → Nat → Nat} {s a b c w p q n i j k x y m l f odds ps : Nat} {lf fb Rw : Nat → Bool} {u v : uSt} {ow mu : Int} {dr : Bool} {A F : Nat → Prop} {ww w2 w3 fa fp : Int32}
theorem m_restOfN (hs : MsP S H T N) (hr : RmP H T 0 lf u) (hlr : LfR T lf u) (ok : StOk u) (hp : p < tNp T) (hq : q < tNp T) : Hv mX11_restOf 5 [.ref 83, vN p, vN q, .int (-1)] S H vN (fun x H' => x = (ct (isR u p q) 4) ∧ MoF (fun q => q = 83 ∨ q = 101 ∨ q = 102 ∨ (112 ≤ q ∧ q ≤ 118)) (fun k => k = 0 ∨ k = 34 ∨ k = 48 ∨ k = 56) H H') := by
  have hF := hs.fx; have hx := hs.mx; have hw := hs.mw; have tk := hs.tk; have tw := hs.tw; have hnp := tw.2.1; have hnc := tw.1; have hWn := nW_le tw
  refine vq_intro (by decide) (by exact Nat.le_of_ble_eq_true rfl) rfl ?_
  refine xq_aload_n dX11_restOf_0 rfl rfl ?_
  refine xq_iconst dX11_restOf_1 ic0 ?_
  refine xq_callV1N clX11 gd_X11_lays dX11_restOf_2 ml_RX11_428 im_X11_lays se_X11_lays rfl (Fx.s83 hF) (by exact Nat.le_of_ble_eq_true rfl) (by decide) (m_lays hs hr hlr ok (by decide)) ?_
  intro H2 p2
  obtain ⟨hd, hl2⟩ := p2
  have hl0 : MoF (fun q => q = 83 ∨ q = 101 ∨ q = 102 ∨ (112 ≤ q ∧ q ≤ 118)) (fun k => k = 0 ∨ k = 34 ∨ k = 48 ∨ k = 56) H H2 := MoF.mo hl2 (fun q h => (by omega : q = 83 ∨ q = 101 ∨ q = 102 ∨ (112 ≤ q ∧ q ≤ 118))) (fun k h => (by omega : k = 0 ∨ k = 34 ∨ k = 48 ∨ k = 56))
  have lp : ∀ (fz : Nat) (m n : Nat), 4 - n < fz → n ≤ 4 → m = ct (isR u p q) n → Xq mX11_restOf 5 0 0 11 [some (.ref 83), some (vN p), some (vN q), some (.int (-1)), some (vN m), some (vN n)] [] S H2 (fun R => ∃ x H', (fun x H' => x = (ct (isR u p q) 4) ∧ MoF (fun q => q = 83 ∨ q = 101 ∨ q = 102 ∨ (112 ≤ q ∧ q ≤ 118)) (fun k => k = 0 ∨ k = 34 ∨ k = 48 ∨ k = 56) H H') x H' ∧ R = (some (vN x), S, H')) := by
    intro fz
    induction fz with
    | zero => intro m n  hfz; exact absurd hfz (by omega)
    | succ fz ih =>
      intro m n  hfz hi hmm
      refine xq_iload dX11_restOf_11 rfl ?_
      refine xq_iconst dX11_restOf_13 ic4 ?_
      refine xq_icmp_geN dX11_restOf_14 rfl (by omega) (by omega) ⟨fun h14 => ?_, fun h14 => ?_⟩
      · skip
        refine xq_iload_n dX11_restOf_59 rfl rfl ?_
        have hml := ct_le (isR u p q) n
        refine xq_iconst dX11_restOf_60 icm1 ?_
        refine xq_icmp_ne dX11_restOf_61 rfl ⟨fun h61 => ?_, fun h61 => ?_⟩
        · skip
          exact absurd rfl h61
        · skip
          refine xq_iload dX11_restOf_64 rfl ?_
          refine xq_goto dX11_restOf_66 rfl ?_
          refine xq_iret dX11_restOf_71 rfl ?_
          exact ⟨m, H2, ⟨by rw [hmm, show n = 4 by omega], hl0⟩, rfl⟩
      · skip
        refine xq_aload_n dX11_restOf_17 rfl rfl ?_
        refine xq_iload_n dX11_restOf_18 rfl rfl ?_
        refine xq_iload_n dX11_restOf_19 rfl rfl ?_
        refine xq_iload dX11_restOf_20 rfl ?_
        refine xq_callV3P clX11 gd_X11_isRest dX11_restOf_22 ml_RX11_512 im_X11_isRest se_X11_isRest rfl (Fx.s83 hF) (by exact Nat.le_of_ble_eq_true rfl) (by decide) (m_isRest hd hp hq (by omega)) ?_
        refine xq_if_neB dX11_restOf_25 rfl ⟨fun h25 => ?_, fun h25 => ?_⟩
        · skip
          have hml := ct_le (isR u p q) n
          refine xq_iload dX11_restOf_31 rfl ?_
          refine xq_iload_n dX11_restOf_33 rfl rfl ?_
          refine xq_icmp_ne dX11_restOf_34 rfl ⟨fun h34 => ?_, fun h34 => ?_⟩
          · skip
            refine xq_iincN dX11_restOf_50 ic1 rfl rfl ?_
            refine xq_iincN dX11_restOf_53 ic1 rfl rfl ?_
            refine xq_goto dX11_restOf_56 rfl ?_
            exact ih (m + 1) (n + 1) (by omega) (by omega) (by rw [ct_t h25, hmm])
          · skip
            exact absurd (congrArg Int32.toInt h34) (by rw [nI_toInt (by omega)]; show ¬ ((_ : Int) = -1); omega)
        · skip
          refine xq_goto dX11_restOf_28 rfl ?_
          refine xq_iincN dX11_restOf_53 ic1 rfl rfl ?_
          refine xq_goto dX11_restOf_56 rfl ?_
          exact ih m (n + 1) (by omega) (by omega) (by rw [ct_f h25]; exact hmm)
  refine xq_iconst dX11_restOf_5 ic0 ?_
  refine xq_istore dX11_restOf_6 rfl ?_
  refine xq_iconst dX11_restOf_8 ic0 ?_
  refine xq_istore dX11_restOf_9 rfl ?_
  exact lp 5 0 0 (by omega) (by omega) rfl
theorem m_restOfK (hs : MsP S H T N) (hr : RmP H T 0 lf u) (hlr : LfR T lf u) (ok : StOk u) (hp : p < tNp T) (hq : q < tNp T) (hk : k < 2147483648) : Hv mX11_restOf 5 [.ref 83, vN p, vN q, vN k] S H vZ (fun (x : Int) H' => x = (resV u p q k 4) ∧ MoF (fun q => q = 83 ∨ q = 101 ∨ q = 102 ∨ (112 ≤ q ∧ q ≤ 118)) (fun k => k = 0 ∨ k = 34 ∨ k = 48 ∨ k = 56) H H') := by
  have hF := hs.fx; have hx := hs.mx; have hw := hs.mw; have tk := hs.tk; have tw := hs.tw; have hnp := tw.2.1; have hnc := tw.1; have hWn := nW_le tw
  refine vq_intro (by decide) (by exact Nat.le_of_ble_eq_true rfl) rfl ?_
  refine xq_aload_n dX11_restOf_0 rfl rfl ?_
  refine xq_iconst dX11_restOf_1 ic0 ?_
  refine xq_callV1N clX11 gd_X11_lays dX11_restOf_2 ml_RX11_428 im_X11_lays se_X11_lays rfl (Fx.s83 hF) (by exact Nat.le_of_ble_eq_true rfl) (by decide) (m_lays hs hr hlr ok (by decide)) ?_
  intro H2 p2
  obtain ⟨hd, hl2⟩ := p2
  have hl0 : MoF (fun q => q = 83 ∨ q = 101 ∨ q = 102 ∨ (112 ≤ q ∧ q ≤ 118)) (fun k => k = 0 ∨ k = 34 ∨ k = 48 ∨ k = 56) H H2 := MoF.mo hl2 (fun q h => (by omega : q = 83 ∨ q = 101 ∨ q = 102 ∨ (112 ≤ q ∧ q ≤ 118))) (fun k h => (by omega : k = 0 ∨ k = 34 ∨ k = 48 ∨ k = 56))
  have lp : ∀ (fz : Nat) (m n : Nat), 4 - n < fz → n ≤ 4 → m = ct (isR u p q) n → resV u p q k n = -2 → Xq mX11_restOf 5 0 0 11 [some (.ref 83), some (vN p), some (vN q), some (vN k), some (vN m), some (vN n)] [] S H2 (fun R => ∃ x H', (fun (x : Int) H' => x = (resV u p q k 4) ∧ MoF (fun q => q = 83 ∨ q = 101 ∨ q = 102 ∨ (112 ≤ q ∧ q ≤ 118)) (fun k => k = 0 ∨ k = 34 ∨ k = 48 ∨ k = 56) H H') x H' ∧ R = (some (vZ x), S, H')) := by
    intro fz
    induction fz with
    | zero => intro m n  hfz; exact absurd hfz (by omega)
    | succ fz ih =>
      intro m n  hfz hi hmm hrs
      refine xq_iload dX11_restOf_11 rfl ?_
      refine xq_iconst dX11_restOf_13 ic4 ?_
      refine xq_icmp_geN dX11_restOf_14 rfl (by omega) (by omega) ⟨fun h14 => ?_, fun h14 => ?_⟩
      · skip
        refine xq_iload_n dX11_restOf_59 rfl rfl ?_
        have hml := ct_le (isR u p q) n
        refine xq_iconst dX11_restOf_60 icm1 ?_
        refine xq_icmp_ne dX11_restOf_61 rfl ⟨fun h61 => ?_, fun h61 => ?_⟩
        · skip
          refine xq_bipush dX11_restOf_69 bpm2 ?_
          refine xq_iret dX11_restOf_71 rfl ?_
          refine ⟨_, H2, ⟨rfl, hl0⟩, ?_⟩
          rw [show (4 : Nat) = n by omega, hrs, zm2]
        · skip
          exact absurd (congrArg Int32.toInt h61) (by rw [nI_toInt (by omega)]; show ¬ ((_ : Int) = -1); omega)
      · skip
        refine xq_aload_n dX11_restOf_17 rfl rfl ?_
        refine xq_iload_n dX11_restOf_18 rfl rfl ?_
        refine xq_iload_n dX11_restOf_19 rfl rfl ?_
        refine xq_iload dX11_restOf_20 rfl ?_
        refine xq_callV3P clX11 gd_X11_isRest dX11_restOf_22 ml_RX11_512 im_X11_isRest se_X11_isRest rfl (Fx.s83 hF) (by exact Nat.le_of_ble_eq_true rfl) (by decide) (m_isRest hd hp hq (by omega)) ?_
        refine xq_if_neB dX11_restOf_25 rfl ⟨fun h25 => ?_, fun h25 => ?_⟩
        · skip
          have hml := ct_le (isR u p q) n
          refine xq_iload dX11_restOf_31 rfl ?_
          refine xq_iload_n dX11_restOf_33 rfl rfl ?_
          refine xq_icmp_neN dX11_restOf_34 rfl (by omega) (by omega) ⟨fun h34 => ?_, fun h34 => ?_⟩
          · skip
            refine xq_iincN dX11_restOf_50 ic1 rfl rfl ?_
            refine xq_iincN dX11_restOf_53 ic1 rfl rfl ?_
            refine xq_goto dX11_restOf_56 rfl ?_
            exact ih (m + 1) (n + 1) (by omega) (by omega) (by rw [ct_t h25, hmm]) (by show (if resV u p q k n ≠ -2 then _ else _) = _; rw [hrs, if_neg (by decide), h25, show (ct (isR u p q) n == k) = false from beq_eq_false_iff_ne.mpr (by omega)]; rfl)
          · skip
            refine xq_bipush dX11_restOf_37 bp10 ?_
            refine xq_iload dX11_restOf_39 rfl ?_
            refine xq_iconst dX11_restOf_41 ic2 ?_
            refine xq_idivN dX11_restOf_42 (by omega) (by omega) (by decide) ?_
            refine xq_imulN dX11_restOf_43 ?_
            refine xq_iload dX11_restOf_44 rfl ?_
            refine xq_iconst dX11_restOf_46 ic2 ?_
            refine xq_iremN dX11_restOf_47 (by omega) (by omega) (by decide) ?_
            refine xq_iaddN dX11_restOf_48 ?_
            refine xq_iret dX11_restOf_49 rfl ?_
            refine ⟨_, H2, ⟨rfl, hl0⟩, ?_⟩
            have e1 : resV u p q k (n + 1) = ((10 * (n >>> 1) + (n &&& 1) : Nat) : Int) := by
              show (if resV u p q k n ≠ -2 then _ else _) = _
              rw [hrs, if_neg (by decide), h25, show (ct (isR u p q) n == k) = true from beq_iff_eq.mpr (by omega)]; rfl
            have e2 : ∀ d, resV u p q k (n + 1 + d) = resV u p q k (n + 1) := by
              intro d
              induction d with
              | zero => rfl
              | succ d ihd =>
                show (if resV u p q k (n + 1 + d) ≠ -2 then resV u p q k (n + 1 + d) else _) = _
                rw [ihd, e1, if_pos (by omega)]
            have e3 := e2 (4 - (n + 1))
            rw [show n + 1 + (4 - (n + 1)) = 4 by omega] at e3
            rw [e3, e1, show n / 2 = n >>> 1 by rw [Nat.shiftRight_eq_div_pow], show n % 2 = n &&& 1 from (Nat.and_one_is_mod n).symm]; rfl
        · skip
          refine xq_goto dX11_restOf_28 rfl ?_
          refine xq_iincN dX11_restOf_53 ic1 rfl rfl ?_
          refine xq_goto dX11_restOf_56 rfl ?_
          exact ih m (n + 1) (by omega) (by omega) (by rw [ct_f h25]; exact hmm) (by show (if resV u p q k n ≠ -2 then _ else _) = _; rw [hrs, if_neg (by decide), h25]; rfl)
  refine xq_iconst dX11_restOf_5 ic0 ?_
  refine xq_istore dX11_restOf_6 rfl ?_
  refine xq_iconst dX11_restOf_8 ic0 ?_
  refine xq_istore dX11_restOf_9 rfl ?_
  exact lp 5 0 0 (by omega) (by omega) rfl rfl
theorem m_rests0 (hm : MnP S H T N lf u) (hno : ¬ (hasB ww (tNp T) = true ∧ hasB w2 (tNp T) = true ∧ ww ≠ w2)) : Hv mX11_rests 6 [.ref 83, .int ww, .int w2] S H vZ (fun (x : Int) H' => x = (-1) ∧ MoF (fun q => q = 83 ∨ q = 101 ∨ q = 102 ∨ (112 ≤ q ∧ q ≤ 118)) (fun k => k = 0 ∨ k = 34 ∨ k = 48 ∨ k = 56) H H') := by
  have hF := hm.ms.fx; have hm0 := hm.t0; have hs := hm0.ms; have hx := hs.mx; have hw := hs.mw; have tk := hs.tk; have tw := hs.tw; have hnp := tw.2.1; have hnc := tw.1; have hWn := nW_le tw; have ok := hm.ok; have hlr := hm.lr; have htr := hlr.2.1; have hnf8 := tk.nf; have hz := ok.n; have hrm := hm0.rm; have htt := hs.tt
  refine vq_intro (by decide) (by exact Nat.le_of_ble_eq_true rfl) rfl ?_
  refine xq_aload_n dX11_rests_0 rfl rfl ?_
  refine xq_iconst dX11_rests_1 ic0 ?_
  refine xq_putI clX11 (by decide) rfl fl_RX11_128 (Or.inl rfl) dX11_rests_2 ⟨rfl, rfl⟩ (Fx.s83 hF) ?_
  refine xq_aload_n dX11_rests_5 rfl rfl ?_
  refine xq_iload_n dX11_rests_6 rfl rfl ?_
  refine xq_iload_n dX11_rests_7 rfl rfl ?_
  refine xq_callV2P clX11 gd_X11_areTwo dX11_rests_8 ml_RX11_506 im_X11_areTwo se_X11_areTwo rfl (Fx.s83 hF) (by exact Nat.le_of_ble_eq_true rfl) (by decide) (m_areTwo0 hs hno) ?_
  refine xq_if_eqN dX11_rests_11 rfl (by omega) ⟨fun h11 => ?_, fun h11 => ?_⟩
  · skip
    refine xq_iconst dX11_rests_24 icm1 ?_
    refine xq_iret dX11_rests_25 rfl ?_
    refine ⟨-1, _, ⟨rfl, (MoF.pF (A := (fun q => q = 83 ∨ q = 101 ∨ q = 102 ∨ (112 ≤ q ∧ q ≤ 118))) (F := (fun k => k = 0 ∨ k = 34 ∨ k = 48 ∨ k = 56)) (H := H) (H2 := H) (k := 0) MoF.rf (Or.inl rfl) (Or.inl rfl) (nI 0))⟩, ?_⟩
    rw [zm1]
  · skip
    first | exact absurd h11 (by decide) | exact absurd rfl h11
theorem m_rests1 (hm : MnP S H T N lf u) (hp : p < tNp T) (hq : q < tNp T) (hpq : p ≠ q) : Hv mX11_rests 6 [.ref 83, vN p, vN q] S H vN (fun x H' => x = (ct (isR u p q) 4) ∧ MoF (fun q => q = 83 ∨ q = 101 ∨ q = 102 ∨ (112 ≤ q ∧ q ≤ 118)) (fun k => k = 0 ∨ k = 34 ∨ k = 48 ∨ k = 56) H H') := by
  have hF := hm.ms.fx; have hm0 := hm.t0; have hs := hm0.ms; have hx := hs.mx; have hw := hs.mw; have tk := hs.tk; have tw := hs.tw; have hnp := tw.2.1; have hnc := tw.1; have hWn := nW_le tw; have ok := hm.ok; have hlr := hm.lr; have htr := hlr.2.1; have hnf8 := tk.nf; have hz := ok.n; have hrm := hm0.rm; have htt := hs.tt
  refine vq_intro (by decide) (by exact Nat.le_of_ble_eq_true rfl) rfl ?_
  refine xq_aload_n dX11_rests_0 rfl rfl ?_
  refine xq_iconst dX11_rests_1 ic0 ?_
  refine xq_putI clX11 (by decide) rfl fl_RX11_128 (Or.inl rfl) dX11_rests_2 ⟨rfl, rfl⟩ (Fx.s83 hF) ?_
  refine xq_aload_n dX11_rests_5 rfl rfl ?_
  refine xq_iload_n dX11_rests_6 rfl rfl ?_
  refine xq_iload_n dX11_rests_7 rfl rfl ?_
  refine xq_callV2P clX11 gd_X11_areTwo dX11_rests_8 ml_RX11_506 im_X11_areTwo se_X11_areTwo rfl (Fx.s83 hF) (by exact Nat.le_of_ble_eq_true rfl) (by decide) (m_areTwo1 hs hp hq hpq) ?_
  refine xq_if_eqN dX11_rests_11 rfl (by omega) ⟨fun h11 => ?_, fun h11 => ?_⟩
  · skip
    first | exact absurd h11 (by decide) | exact absurd rfl h11
  · skip
    refine xq_aload_n dX11_rests_14 rfl rfl ?_
    refine xq_iload_n dX11_rests_15 rfl rfl ?_
    refine xq_iload_n dX11_rests_16 rfl rfl ?_
    refine xq_iconst dX11_rests_17 icm1 ?_
    refine xq_callV3H clX11 gd_X11_restOf dX11_rests_18 ml_RX11_515 im_X11_restOf se_X11_restOf rfl (Fx.s83 hF) (by exact Nat.le_of_ble_eq_true rfl) (by decide) (m_restOfN hs hrm hlr ok hp hq) ?_
    intro x18 H18 p18
    refine xq_goto dX11_rests_21 rfl ?_
    refine xq_iret dX11_rests_25 rfl ?_
    exact ⟨_, H18, ⟨p18.1, (MoF.pF (A := (fun q => q = 83 ∨ q = 101 ∨ q = 102 ∨ (112 ≤ q ∧ q ≤ 118))) (F := (fun k => k = 0 ∨ k = 34 ∨ k = 48 ∨ k = 56)) (H := H) (H2 := H) (k := 0) MoF.rf (Or.inl rfl) (Or.inl rfl) (nI 0)).tr p18.2⟩, rfl⟩
theorem m_rest0 (hm : MnP S H T N lf u) (hno : ¬ (hasB ww (tNp T) = true ∧ hasB w2 (tNp T) = true ∧ ww ≠ w2)) : Hv mX11_rest 6 [.ref 83, .int ww, .int w2, .int w3] S H vZ (fun (x : Int) H' => x = (-1) ∧ MoF (fun q => q = 83 ∨ q = 101 ∨ q = 102 ∨ (112 ≤ q ∧ q ≤ 118)) (fun k => k = 0 ∨ k = 34 ∨ k = 48 ∨ k = 56) H H') := by
  have hF := hm.ms.fx; have hm0 := hm.t0; have hs := hm0.ms; have hx := hs.mx; have hw := hs.mw; have tk := hs.tk; have tw := hs.tw; have hnp := tw.2.1; have hnc := tw.1; have hWn := nW_le tw; have ok := hm.ok; have hlr := hm.lr; have htr := hlr.2.1; have hnf8 := tk.nf; have hz := ok.n; have hrm := hm0.rm; have htt := hs.tt
  refine vq_intro (by decide) (by exact Nat.le_of_ble_eq_true rfl) rfl ?_
  refine xq_aload_n dX11_rest_0 rfl rfl ?_
  refine xq_iconst dX11_rest_1 ic0 ?_
  refine xq_putI clX11 (by decide) rfl fl_RX11_128 (Or.inl rfl) dX11_rest_2 ⟨rfl, rfl⟩ (Fx.s83 hF) ?_
  refine xq_aload_n dX11_rest_5 rfl rfl ?_
  refine xq_iload_n dX11_rest_6 rfl rfl ?_
  refine xq_iload_n dX11_rest_7 rfl rfl ?_
  refine xq_callV2P clX11 gd_X11_areTwo dX11_rest_8 ml_RX11_506 im_X11_areTwo se_X11_areTwo rfl (Fx.s83 hF) (by exact Nat.le_of_ble_eq_true rfl) (by decide) (m_areTwo0 hs hno) ?_
  refine xq_if_eqN dX11_rest_11 rfl (by omega) ⟨fun h11 => ?_, fun h11 => ?_⟩
  · skip
    refine xq_iconst dX11_rest_28 icm1 ?_
    refine xq_iret dX11_rest_29 rfl ?_
    refine ⟨-1, _, ⟨rfl, (MoF.pF (A := (fun q => q = 83 ∨ q = 101 ∨ q = 102 ∨ (112 ≤ q ∧ q ≤ 118))) (F := (fun k => k = 0 ∨ k = 34 ∨ k = 48 ∨ k = 56)) (H := H) (H2 := H) (k := 0) MoF.rf (Or.inl rfl) (Or.inl rfl) (nI 0))⟩, ?_⟩
    rw [zm1]
  · skip
    first | exact absurd h11 (by decide) | exact absurd rfl h11
theorem m_rest0b (hm : MnP S H T N lf u) (hp : p < tNp T) (hq : q < tNp T) (hpq : p ≠ q) (hno : w3 < 0) : Hv mX11_rest 6 [.ref 83, vN p, vN q, .int w3] S H vZ (fun (x : Int) H' => x = (-1) ∧ MoF (fun q => q = 83 ∨ q = 101 ∨ q = 102 ∨ (112 ≤ q ∧ q ≤ 118)) (fun k => k = 0 ∨ k = 34 ∨ k = 48 ∨ k = 56) H H') := by
  have hF := hm.ms.fx; have hm0 := hm.t0; have hs := hm0.ms; have hx := hs.mx; have hw := hs.mw; have tk := hs.tk; have tw := hs.tw; have hnp := tw.2.1; have hnc := tw.1; have hWn := nW_le tw; have ok := hm.ok; have hlr := hm.lr; have htr := hlr.2.1; have hnf8 := tk.nf; have hz := ok.n; have hrm := hm0.rm; have htt := hs.tt
  refine vq_intro (by decide) (by exact Nat.le_of_ble_eq_true rfl) rfl ?_
  refine xq_aload_n dX11_rest_0 rfl rfl ?_
  refine xq_iconst dX11_rest_1 ic0 ?_
  refine xq_putI clX11 (by decide) rfl fl_RX11_128 (Or.inl rfl) dX11_rest_2 ⟨rfl, rfl⟩ (Fx.s83 hF) ?_
  refine xq_aload_n dX11_rest_5 rfl rfl ?_
  refine xq_iload_n dX11_rest_6 rfl rfl ?_
  refine xq_iload_n dX11_rest_7 rfl rfl ?_
  refine xq_callV2P clX11 gd_X11_areTwo dX11_rest_8 ml_RX11_506 im_X11_areTwo se_X11_areTwo rfl (Fx.s83 hF) (by exact Nat.le_of_ble_eq_true rfl) (by decide) (m_areTwo1 hs hp hq hpq) ?_
  refine xq_if_eqN dX11_rest_11 rfl (by omega) ⟨fun h11 => ?_, fun h11 => ?_⟩
  · skip
    first | exact absurd h11 (by decide) | exact absurd rfl h11
  · skip
    refine xq_iload_n dX11_rest_14 rfl rfl ?_
    refine xq_if_lt dX11_rest_15 rfl ⟨fun h15 => ?_, fun h15 => ?_⟩
    · skip
      refine xq_iconst dX11_rest_28 icm1 ?_
      refine xq_iret dX11_rest_29 rfl ?_
      refine ⟨-1, _, ⟨rfl, (MoF.pF (A := (fun q => q = 83 ∨ q = 101 ∨ q = 102 ∨ (112 ≤ q ∧ q ≤ 118))) (F := (fun k => k = 0 ∨ k = 34 ∨ k = 48 ∨ k = 56)) (H := H) (H2 := H) (k := 0) MoF.rf (Or.inl rfl) (Or.inl rfl) (nI 0))⟩, ?_⟩
      rw [zm1]
    · skip
      exact absurd hno h15
theorem m_rest1 (hm : MnP S H T N lf u) (hp : p < tNp T) (hq : q < tNp T) (hpq : p ≠ q) (hk : k < 2147483648) : Hv mX11_rest 6 [.ref 83, vN p, vN q, vN k] S H vZ (fun (x : Int) H' => x = (resV u p q k 4) ∧ MoF (fun q => q = 83 ∨ q = 101 ∨ q = 102 ∨ (112 ≤ q ∧ q ≤ 118)) (fun k => k = 0 ∨ k = 34 ∨ k = 48 ∨ k = 56) H H') := by
  have hF := hm.ms.fx; have hm0 := hm.t0; have hs := hm0.ms; have hx := hs.mx; have hw := hs.mw; have tk := hs.tk; have tw := hs.tw; have hnp := tw.2.1; have hnc := tw.1; have hWn := nW_le tw; have ok := hm.ok; have hlr := hm.lr; have htr := hlr.2.1; have hnf8 := tk.nf; have hz := ok.n; have hrm := hm0.rm; have htt := hs.tt
  refine vq_intro (by decide) (by exact Nat.le_of_ble_eq_true rfl) rfl ?_
  refine xq_aload_n dX11_rest_0 rfl rfl ?_
  refine xq_iconst dX11_rest_1 ic0 ?_
  refine xq_putI clX11 (by decide) rfl fl_RX11_128 (Or.inl rfl) dX11_rest_2 ⟨rfl, rfl⟩ (Fx.s83 hF) ?_
  refine xq_aload_n dX11_rest_5 rfl rfl ?_
  refine xq_iload_n dX11_rest_6 rfl rfl ?_
  refine xq_iload_n dX11_rest_7 rfl rfl ?_
  refine xq_callV2P clX11 gd_X11_areTwo dX11_rest_8 ml_RX11_506 im_X11_areTwo se_X11_areTwo rfl (Fx.s83 hF) (by exact Nat.le_of_ble_eq_true rfl) (by decide) (m_areTwo1 hs hp hq hpq) ?_
  refine xq_if_eqN dX11_rest_11 rfl (by omega) ⟨fun h11 => ?_, fun h11 => ?_⟩
  · skip
    first | exact absurd h11 (by decide) | exact absurd rfl h11
  · skip
    refine xq_iload_n dX11_rest_14 rfl rfl ?_
    refine xq_if_ltN dX11_rest_15 rfl (by omega) ?_
    refine xq_aload_n dX11_rest_18 rfl rfl ?_
    refine xq_iload_n dX11_rest_19 rfl rfl ?_
    refine xq_iload_n dX11_rest_20 rfl rfl ?_
    refine xq_iload_n dX11_rest_21 rfl rfl ?_
    refine xq_callV3H clX11 gd_X11_restOf dX11_rest_22 ml_RX11_515 im_X11_restOf se_X11_restOf rfl (Fx.s83 hF) (by exact Nat.le_of_ble_eq_true rfl) (by decide) (m_restOfK hs hrm hlr ok hp hq hk) ?_
    intro x22 H22 p22
    refine xq_goto dX11_rest_25 rfl ?_
    refine xq_iret dX11_rest_29 rfl ?_
    exact ⟨_, H22, ⟨p22.1, (MoF.pF (A := (fun q => q = 83 ∨ q = 101 ∨ q = 102 ∨ (112 ≤ q ∧ q ≤ 118))) (F := (fun k => k = 0 ∨ k = 34 ∨ k = 48 ∨ k = 56)) (H := H) (H2 := H) (k := 0) MoF.rf (Or.inl rfl) (Or.inl rfl) (nI 0)).tr p22.2⟩, rfl⟩
theorem pzs_6 (h : ∀ p, uNp u ≤ p → uPz u p = 0) (hn : uNp u ≤ 6) : fo (fun p s => s + uPz u p) 0 6 = pzs u := by
  have g : ∀ d, fo (fun p s => s + uPz u p) 0 (uNp u + d) = pzs u := by
    intro d
    induction d with
    | zero => rfl
    | succ d ih =>
      show fo _ 0 (uNp u + d) + uPz u (uNp u + d) = _
      rw [ih, h _ (by omega)]; rfl
  have := g (6 - uNp u)
  rw [show uNp u + (6 - uNp u) = 6 by omega] at this
  exact this
theorem m_prizes (hF : gFx S) (hr : RmP H T 0 lf u) (hz6 : ∀ p, uNp u ≤ p → uPz u p = 0) (hn6 : uNp u ≤ 6) : Pv mX11_prizes 0 [.ref 83] S H (vN (pzs u)) := by
  have lp : ∀ (fz : Nat) (m p : Nat), 6 - p < fz → p ≤ 6 → m = fo (fun p s => s + uPz u p) 0 p → Xq mX11_prizes 0 0 0 4 [some (.ref 83), some (vN m), some (vN p)] [] S H (fun R => R = (some (vN (pzs u)), S, H)) := by
    intro fz
    induction fz with
    | zero => intro m p  hfz; exact absurd hfz (by omega)
    | succ fz ih =>
      intro m p  hfz hi hmm
      refine xq_iload_n dX11_prizes_4 rfl rfl ?_
      refine xq_bipush dX11_prizes_5 bp6 ?_
      refine xq_icmp_geN dX11_prizes_7 rfl (by omega) (by omega) ⟨fun h7 => ?_, fun h7 => ?_⟩
      · skip
        refine xq_iload_n dX11_prizes_25 rfl rfl ?_
        refine xq_iret dX11_prizes_26 rfl ?_
        show _ = _; rw [hmm, show p = 6 by omega, pzs_6 hz6 hn6]
      · skip
        refine xq_iload_n dX11_prizes_10 rfl rfl ?_
        refine xq_aload_n dX11_prizes_11 rfl rfl ?_
        refine xq_getF clX11 (by decide) rfl fl_RX11_93 dX11_prizes_12 (Fx.s83 hF) (Fx.r83_44 hF) ?_
        refine xq_iload_n dX11_prizes_15 rfl rfl ?_
        refine xq_ialdN (v := nI (uPz u p)) dX11_prizes_16 (Fx.s110 hF) (by omega) (by decide) ((congrArg (hI H 110) (by omega)).trans (hr.pz p (by omega))) ?_
        refine xq_iaddN dX11_prizes_17 ?_
        refine xq_istore_n dX11_prizes_18 rfl rfl ?_
        refine xq_iincN dX11_prizes_19 ic1 rfl rfl ?_
        refine xq_goto dX11_prizes_22 rfl ?_
        exact ih _ (p + 1) (by omega) (by omega) (by rw [hmm]; rfl)
  refine vq_ev (vq_intro (by decide) (by exact Nat.le_of_ble_eq_true rfl) rfl ?_)
  refine xq_iconst dX11_prizes_0 ic0 ?_
  refine xq_istore_n dX11_prizes_1 rfl rfl ?_
  refine xq_iconst dX11_prizes_2 ic0 ?_
  refine xq_istore_n dX11_prizes_3 rfl rfl ?_
  exact lp 7 0 0 (by omega) (by omega) rfl
theorem m_knowMany (hs : MsP S H T N) (hr : RmP H T 0 lf u) (hlr : LfR T lf u) (ok : StOk u) : Hv mX11_knowMany 5 [.ref 83] S H vN (fun x H' => x = pop (kns u) ∧ MoF (fun q => q = 83 ∨ q = 101 ∨ q = 102 ∨ (112 ≤ q ∧ q ≤ 118)) (fun k => k = 0 ∨ k = 34 ∨ k = 48 ∨ k = 56) H H') := by
  have hF := hs.fx; have hx := hs.mx; have hw := hs.mw; have tk := hs.tk; have tw := hs.tw; have hnp := tw.2.1; have hnc := tw.1; have hWn := nW_le tw; have hkl := kns_lt (u := u) (by rw [hlr.2.2.2.2]; omega)
  refine vq_intro (by decide) (by exact Nat.le_of_ble_eq_true rfl) rfl ?_
  refine xq_aload_n dX11_knowMany_0 rfl rfl ?_
  refine xq_iconst dX11_knowMany_1 ic0 ?_
  refine xq_callV1N clX11 gd_X11_lays dX11_knowMany_2 ml_RX11_428 im_X11_lays se_X11_lays rfl (Fx.s83 hF) (by exact Nat.le_of_ble_eq_true rfl) (by decide) (m_lays hs hr hlr ok (by decide)) ?_
  intro H2 p2
  obtain ⟨hd, hl2⟩ := p2
  refine xq_aload_n dX11_knowMany_5 rfl rfl ?_
  refine xq_callV0P clX11 gd_X11_knowers dX11_knowMany_6 ml_RX11_407 im_X11_knowers se_X11_knowers rfl (Fx.s83 hF) (by exact Nat.le_of_ble_eq_true rfl) (by decide) (m_knowers hd) ?_
  refine xq_callS1P gd_X11_bitsOf dX11_knowMany_9 ml_RX11_404 im_X11_bitsOf (by exact Nat.le_of_ble_eq_true rfl) (by decide) (m_bitsOf (by omega)) ?_
  refine xq_iret dX11_knowMany_12 rfl ?_
  exact ⟨_, H2, ⟨rfl, MoF.mo hl2 (fun q h => (by omega : q = 83 ∨ q = 101 ∨ q = 102 ∨ (112 ≤ q ∧ q ≤ 118))) (fun k h => (by omega : k = 0 ∨ k = 34 ∨ k = 48 ∨ k = 56))⟩, rfl⟩
theorem m_count0 (hm : MnP S H T N lf u) (hno : ww.toInt < 0 ∨ 13 < ww.toInt) : Hv mX11_count 6 [.ref 83, .int ww] S H vZ (fun (x : Int) H' => x = (-1) ∧ MoF (fun q => q = 83 ∨ q = 101 ∨ q = 102 ∨ (112 ≤ q ∧ q ≤ 118)) (fun k => k = 0 ∨ k = 34 ∨ k = 48 ∨ k = 56) H H') := by
  have hF := hm.ms.fx; have hm0 := hm.t0; have hs := hm0.ms; have hx := hs.mx; have hw := hs.mw; have tk := hs.tk; have tw := hs.tw; have hnp := tw.2.1; have hnc := tw.1; have hWn := nW_le tw; have ok := hm.ok; have hlr := hm.lr; have htr := hlr.2.1; have hnf8 := tk.nf; have hz := ok.n; have hrm := hm0.rm; have htt := hs.tt
  refine vq_intro (by decide) (by exact Nat.le_of_ble_eq_true rfl) rfl ?_
  refine xq_aload_n dX11_count_0 rfl rfl ?_
  refine xq_iconst dX11_count_1 ic0 ?_
  refine xq_putI clX11 (by decide) rfl fl_RX11_128 (Or.inl rfl) dX11_count_2 ⟨rfl, rfl⟩ (Fx.s83 hF) ?_
  refine xq_iload_n dX11_count_5 rfl rfl ?_
  refine xq_tableOut dX11_count_6 hno rfl ?_
  refine xq_iconst dX11_count_171 icm1 ?_
  refine xq_iret dX11_count_172 rfl ?_
  refine ⟨-1, _, ⟨rfl, (MoF.pF (A := (fun q => q = 83 ∨ q = 101 ∨ q = 102 ∨ (112 ≤ q ∧ q ≤ 118))) (F := (fun k => k = 0 ∨ k = 34 ∨ k = 48 ∨ k = 56)) (H := H) (H2 := H) (k := 0) MoF.rf (Or.inl rfl) (Or.inl rfl) (nI 0))⟩, ?_⟩
  rw [zm1]
theorem m_count1 (hm : MnP S H T N lf u) (hps : hI H 83 47 = nI ps) (hz6 : ∀ p, uNp u ≤ p → uPz u p = 0) (hl : l < 14) : Hv mX11_count 6 [.ref 83, vN l] S H vN (fun x H' => x = (cntV T u ps l) ∧ MoF (fun q => q = 83 ∨ q = 101 ∨ q = 102 ∨ (112 ≤ q ∧ q ≤ 118)) (fun k => k = 0 ∨ k = 34 ∨ k = 48 ∨ k = 56) H H') := by
  have hF := hm.ms.fx; have hm0 := hm.t0; have hs := hm0.ms; have hx := hs.mx; have hw := hs.mw; have tk := hs.tk; have tw := hs.tw; have hnp := tw.2.1; have hnc := tw.1; have hWn := nW_le tw; have ok := hm.ok; have hlr := hm.lr; have htr := hlr.2.1; have hnf8 := tk.nf; have hz := ok.n; have hrm := hm0.rm; have htt := hs.tt; have hsd6 := ok.sd; have hn6 : uNp u ≤ 6 := by rw [hlr.2.2.2.2]; omega
  refine vq_intro (by decide) (by exact Nat.le_of_ble_eq_true rfl) rfl ?_
  refine xq_aload_n dX11_count_0 rfl rfl ?_
  refine xq_iconst dX11_count_1 ic0 ?_
  refine xq_putI clX11 (by decide) rfl fl_RX11_128 (Or.inl rfl) dX11_count_2 ⟨rfl, rfl⟩ (Fx.s83 hF) ?_
  refine xq_iload_n dX11_count_5 rfl rfl ?_
  by_cases hs6 : 0 ≤ l ∧ l ≤ 13
  · skip
    have hq6 : l = 0 ∨ l = 1 ∨ l = 2 ∨ l = 3 ∨ l = 4 ∨ l = 5 ∨ l = 6 ∨ l = 7 ∨ l = 8 ∨ l = 9 ∨ l = 10 ∨ l = 11 ∨ l = 12 ∨ l = 13 := by omega
    rcases hq6 with rfl | rfl | rfl | rfl | rfl | rfl | rfl | rfl | rfl | rfl | rfl | rfl | rfl | rfl
    · skip
      refine xq_tableIn dX11_count_6 (by decide) (by decide) rfl rfl ?_
      refine xq_aload_n dX11_count_76 rfl rfl ?_
      refine xq_getF clX11 (by decide) rfl fl_RX11_13 dX11_count_77 (Fx.s83 hF) (Fx.r83_3 hF) ?_
      refine xq_iconst dX11_count_80 ic0 ?_
      refine xq_ialdN dX11_count_81 (Fx.s85 hF) (by omega) (by decide) hx.nc ?_
      refine xq_iret dX11_count_82 rfl ?_
      exact ⟨_, _, ⟨rfl, (MoF.pF (A := (fun q => q = 83 ∨ q = 101 ∨ q = 102 ∨ (112 ≤ q ∧ q ≤ 118))) (F := (fun k => k = 0 ∨ k = 34 ∨ k = 48 ∨ k = 56)) (H := H) (H2 := H) (k := 0) MoF.rf (Or.inl rfl) (Or.inl rfl) (nI 0))⟩, rfl⟩
    · skip
      refine xq_tableIn dX11_count_6 (by decide) (by decide) rfl rfl ?_
      refine xq_aload_n dX11_count_83 rfl rfl ?_
      refine xq_getF clX11 (by decide) rfl fl_RX11_13 dX11_count_84 (Fx.s83 hF) (Fx.r83_3 hF) ?_
      refine xq_iconst dX11_count_87 ic1 ?_
      refine xq_ialdN dX11_count_88 (Fx.s85 hF) (by omega) (by decide) hx.np ?_
      refine xq_iret dX11_count_89 rfl ?_
      exact ⟨_, _, ⟨rfl, (MoF.pF (A := (fun q => q = 83 ∨ q = 101 ∨ q = 102 ∨ (112 ≤ q ∧ q ≤ 118))) (F := (fun k => k = 0 ∨ k = 34 ∨ k = 48 ∨ k = 56)) (H := H) (H2 := H) (k := 0) MoF.rf (Or.inl rfl) (Or.inl rfl) (nI 0))⟩, rfl⟩
    · skip
      refine xq_tableIn dX11_count_6 (by decide) (by decide) rfl rfl ?_
      refine xq_aload_n dX11_count_90 rfl rfl ?_
      refine xq_getF clX11 (by decide) rfl fl_RX11_13 dX11_count_91 (Fx.s83 hF) (Fx.r83_3 hF) ?_
      refine xq_iconst dX11_count_94 ic2 ?_
      refine xq_ialdN dX11_count_95 (Fx.s85 hF) (by omega) (by decide) hx.nf ?_
      refine xq_iret dX11_count_96 rfl ?_
      exact ⟨_, _, ⟨rfl, (MoF.pF (A := (fun q => q = 83 ∨ q = 101 ∨ q = 102 ∨ (112 ≤ q ∧ q ≤ 118))) (F := (fun k => k = 0 ∨ k = 34 ∨ k = 48 ∨ k = 56)) (H := H) (H2 := H) (k := 0) MoF.rf (Or.inl rfl) (Or.inl rfl) (nI 0))⟩, rfl⟩
    · skip
      refine xq_tableIn dX11_count_6 (by decide) (by decide) rfl rfl ?_
      refine xq_aload_n dX11_count_97 rfl rfl ?_
      refine xq_getF clX11 (by decide) rfl fl_RX11_13 dX11_count_98 (Fx.s83 hF) (Fx.r83_3 hF) ?_
      refine xq_iconst dX11_count_101 ic3 ?_
      refine xq_ialdN dX11_count_102 (Fx.s85 hF) (by omega) (by decide) hx.nt ?_
      refine xq_iret dX11_count_103 rfl ?_
      exact ⟨_, _, ⟨rfl, (MoF.pF (A := (fun q => q = 83 ∨ q = 101 ∨ q = 102 ∨ (112 ≤ q ∧ q ≤ 118))) (F := (fun k => k = 0 ∨ k = 34 ∨ k = 48 ∨ k = 56)) (H := H) (H2 := H) (k := 0) MoF.rf (Or.inl rfl) (Or.inl rfl) (nI 0))⟩, rfl⟩
    · skip
      refine xq_tableIn dX11_count_6 (by decide) (by decide) rfl rfl ?_
      refine xq_aload_n dX11_count_104 rfl rfl ?_
      refine xq_getF clX11 (by decide) rfl fl_RX11_13 dX11_count_105 (Fx.s83 hF) (Fx.r83_3 hF) ?_
      refine xq_iconst dX11_count_108 ic4 ?_
      refine xq_ialdN dX11_count_109 (Fx.s85 hF) (by omega) (by decide) hx.na ?_
      refine xq_iret dX11_count_110 rfl ?_
      exact ⟨_, _, ⟨rfl, (MoF.pF (A := (fun q => q = 83 ∨ q = 101 ∨ q = 102 ∨ (112 ≤ q ∧ q ≤ 118))) (F := (fun k => k = 0 ∨ k = 34 ∨ k = 48 ∨ k = 56)) (H := H) (H2 := H) (k := 0) MoF.rf (Or.inl rfl) (Or.inl rfl) (nI 0))⟩, rfl⟩
    · skip
      refine xq_tableIn dX11_count_6 (by decide) (by decide) rfl rfl ?_
      refine xq_aload_n dX11_count_111 rfl rfl ?_
      refine xq_getF clX11 (by decide) rfl fl_RX11_13 dX11_count_112 (Fx.s83 hF) (Fx.r83_3 hF) ?_
      refine xq_bipush dX11_count_115 bp7 ?_
      refine xq_ialdN dX11_count_117 (Fx.s85 hF) (by omega) (by decide) hx.nk ?_
      refine xq_iret dX11_count_118 rfl ?_
      exact ⟨_, _, ⟨rfl, (MoF.pF (A := (fun q => q = 83 ∨ q = 101 ∨ q = 102 ∨ (112 ≤ q ∧ q ≤ 118))) (F := (fun k => k = 0 ∨ k = 34 ∨ k = 48 ∨ k = 56)) (H := H) (H2 := H) (k := 0) MoF.rf (Or.inl rfl) (Or.inl rfl) (nI 0))⟩, rfl⟩
    · skip
      refine xq_tableIn dX11_count_6 (by decide) (by decide) rfl rfl ?_
      refine xq_aload_n dX11_count_119 rfl rfl ?_
      refine xq_getF clX11 (by decide) rfl fl_RX11_75 dX11_count_120 (Fx.s83 hF) (Fx.r83_38 hF) ?_
      refine xq_iconst dX11_count_123 ic0 ?_
      refine xq_ialdN dX11_count_124 (Fx.s104 hF) (by omega) (by decide) hrm.hr ?_
      refine xq_iret dX11_count_125 rfl ?_
      exact ⟨_, _, ⟨rfl, (MoF.pF (A := (fun q => q = 83 ∨ q = 101 ∨ q = 102 ∨ (112 ≤ q ∧ q ≤ 118))) (F := (fun k => k = 0 ∨ k = 34 ∨ k = 48 ∨ k = 56)) (H := H) (H2 := H) (k := 0) MoF.rf (Or.inl rfl) (Or.inl rfl) (nI 0))⟩, rfl⟩
    · skip
      refine xq_tableIn dX11_count_6 (by decide) (by decide) rfl rfl ?_
      refine xq_aload_n dX11_count_126 rfl rfl ?_
      refine xq_iconst dX11_count_127 ic0 ?_
      refine xq_callV1P clX11 gd_X11_leftMany dX11_count_128 ml_RX11_401 im_X11_leftMany se_X11_leftMany rfl (Fx.s83 hF) (by exact Nat.le_of_ble_eq_true rfl) (by decide) (m_leftMany hs hrm (by decide)) ?_
      refine xq_iret dX11_count_131 rfl ?_
      exact ⟨_, _, ⟨rfl, (MoF.pF (A := (fun q => q = 83 ∨ q = 101 ∨ q = 102 ∨ (112 ≤ q ∧ q ≤ 118))) (F := (fun k => k = 0 ∨ k = 34 ∨ k = 48 ∨ k = 56)) (H := H) (H2 := H) (k := 0) MoF.rf (Or.inl rfl) (Or.inl rfl) (nI 0))⟩, by rw [← hlr.z]; rfl⟩
    · skip
      refine xq_tableIn dX11_count_6 (by decide) (by decide) rfl rfl ?_
      refine xq_aload_n dX11_count_132 rfl rfl ?_
      refine xq_callV0H clX11 gd_X11_knowMany dX11_count_133 ml_RX11_518 im_X11_knowMany se_X11_knowMany rfl (Fx.s83 hF) (by exact Nat.le_of_ble_eq_true rfl) (by decide) (m_knowMany hs hrm hlr ok) ?_
      intro x133 H133 p133
      refine xq_iret dX11_count_136 rfl ?_
      exact ⟨_, H133, ⟨p133.1, (MoF.pF (A := (fun q => q = 83 ∨ q = 101 ∨ q = 102 ∨ (112 ≤ q ∧ q ≤ 118))) (F := (fun k => k = 0 ∨ k = 34 ∨ k = 48 ∨ k = 56)) (H := H) (H2 := H) (k := 0) MoF.rf (Or.inl rfl) (Or.inl rfl) (nI 0)).tr p133.2⟩, rfl⟩
    · skip
      refine xq_tableIn dX11_count_6 (by decide) (by decide) rfl rfl ?_
      refine xq_aload_n dX11_count_137 rfl rfl ?_
      refine xq_getF clX11 (by decide) rfl fl_RX11_87 dX11_count_138 (Fx.s83 hF) (Fx.r83_42 hF) ?_
      refine xq_iconst dX11_count_141 ic0 ?_
      refine xq_ialdN dX11_count_142 (Fx.s108 hF) (by omega) (by decide) hrm.sd ?_
      refine xq_callS1P gd_X11_bitsOf dX11_count_143 ml_RX11_404 im_X11_bitsOf (by exact Nat.le_of_ble_eq_true rfl) (by decide) (m_bitsOf (by omega)) ?_
      refine xq_iret dX11_count_146 rfl ?_
      exact ⟨_, _, ⟨rfl, (MoF.pF (A := (fun q => q = 83 ∨ q = 101 ∨ q = 102 ∨ (112 ≤ q ∧ q ≤ 118))) (F := (fun k => k = 0 ∨ k = 34 ∨ k = 48 ∨ k = 56)) (H := H) (H2 := H) (k := 0) MoF.rf (Or.inl rfl) (Or.inl rfl) (nI 0))⟩, rfl⟩
    · skip
      refine xq_tableIn dX11_count_6 (by decide) (by decide) rfl rfl ?_
      refine xq_aload_n dX11_count_147 rfl rfl ?_
      refine xq_callV0P clX11 gd_X11_prizes dX11_count_148 ml_RX11_521 im_X11_prizes se_X11_prizes rfl (Fx.s83 hF) (by exact Nat.le_of_ble_eq_true rfl) (by decide) (m_prizes hF hrm hz6 hn6) ?_
      refine xq_iret dX11_count_151 rfl ?_
      exact ⟨_, _, ⟨rfl, (MoF.pF (A := (fun q => q = 83 ∨ q = 101 ∨ q = 102 ∨ (112 ≤ q ∧ q ≤ 118))) (F := (fun k => k = 0 ∨ k = 34 ∨ k = 48 ∨ k = 56)) (H := H) (H2 := H) (k := 0) MoF.rf (Or.inl rfl) (Or.inl rfl) (nI 0))⟩, rfl⟩
    · skip
      refine xq_tableIn dX11_count_6 (by decide) (by decide) rfl rfl ?_
      refine xq_aload_n dX11_count_152 rfl rfl ?_
      refine xq_getF clX11 (by decide) rfl fl_RX11_81 dX11_count_153 (Fx.s83 hF) (Fx.r83_40 hF) ?_
      refine xq_iconst dX11_count_156 ic0 ?_
      refine xq_ialdN dX11_count_157 (Fx.s106 hF) (by omega) (by decide) hrm.hd ?_
      refine xq_iret dX11_count_158 rfl ?_
      exact ⟨_, _, ⟨rfl, (MoF.pF (A := (fun q => q = 83 ∨ q = 101 ∨ q = 102 ∨ (112 ≤ q ∧ q ≤ 118))) (F := (fun k => k = 0 ∨ k = 34 ∨ k = 48 ∨ k = 56)) (H := H) (H2 := H) (k := 0) MoF.rf (Or.inl rfl) (Or.inl rfl) (nI 0))⟩, rfl⟩
    · skip
      refine xq_tableIn dX11_count_6 (by decide) (by decide) rfl rfl ?_
      refine xq_aload_n dX11_count_159 rfl rfl ?_
      refine xq_getF clX11 (by decide) rfl fl_RX11_84 dX11_count_160 (Fx.s83 hF) (Fx.r83_41 hF) ?_
      refine xq_iconst dX11_count_163 ic0 ?_
      refine xq_ialdN dX11_count_164 (Fx.s107 hF) (by omega) (by decide) hrm.li ?_
      refine xq_iret dX11_count_165 rfl ?_
      exact ⟨_, _, ⟨rfl, (MoF.pF (A := (fun q => q = 83 ∨ q = 101 ∨ q = 102 ∨ (112 ≤ q ∧ q ≤ 118))) (F := (fun k => k = 0 ∨ k = 34 ∨ k = 48 ∨ k = 56)) (H := H) (H2 := H) (k := 0) MoF.rf (Or.inl rfl) (Or.inl rfl) (nI 0))⟩, rfl⟩
    · skip
      refine xq_tableIn dX11_count_6 (by decide) (by decide) rfl rfl ?_
      refine xq_aload_n dX11_count_166 rfl rfl ?_
      refine xq_getIE clX11 (by decide) rfl fl_RX11_312 dX11_count_167 (Fx.s83 hF) ((hI_sI _ _ _ _ _ _).trans ((if_neg (by omega)).trans hps)) ?_
      refine xq_iret dX11_count_170 rfl ?_
      exact ⟨_, _, ⟨rfl, (MoF.pF (A := (fun q => q = 83 ∨ q = 101 ∨ q = 102 ∨ (112 ≤ q ∧ q ≤ 118))) (F := (fun k => k = 0 ∨ k = 34 ∨ k = 48 ∨ k = 56)) (H := H) (H2 := H) (k := 0) MoF.rf (Or.inl rfl) (Or.inl rfl) (nI 0))⟩, rfl⟩
  · skip
    exact absurd hl (by omega)
theorem m_fault (hF : gFx S) (h28 : hI H 83 28 = fa) (h29 : hI H 83 29 = fp) : Hv mX11_fault 0 [.ref 83, .int ww] S H (fun z : Int32 => .int z) (fun z H' => z = (if ww = 0 then fa else if ww = nI 1 then fp else -1) ∧ MoF (fun q => q = 83 ∨ q = 101 ∨ q = 102 ∨ (112 ≤ q ∧ q ≤ 118)) (fun k => k = 0 ∨ k = 34 ∨ k = 48 ∨ k = 56) H H') := by
  refine vq_intro (by decide) (by exact Nat.le_of_ble_eq_true rfl) rfl ?_
  refine xq_aload_n dX11_fault_0 rfl rfl ?_
  refine xq_iconst dX11_fault_1 ic0 ?_
  refine xq_putI clX11 (by decide) rfl fl_RX11_128 (Or.inl rfl) dX11_fault_2 ⟨rfl, rfl⟩ (Fx.s83 hF) ?_
  refine xq_iload_n dX11_fault_5 rfl rfl ?_
  refine xq_if_ne dX11_fault_6 rfl ⟨fun h6 => ?_, fun h6 => ?_⟩
  · skip
    refine xq_iload_n dX11_fault_16 rfl rfl ?_
    refine xq_iconst dX11_fault_17 ic1 ?_
    refine xq_icmp_ne dX11_fault_18 rfl ⟨fun h18 => ?_, fun h18 => ?_⟩
    · skip
      refine xq_iconst dX11_fault_28 icm1 ?_
      refine xq_iret dX11_fault_29 rfl ?_
      exact ⟨_, _, ⟨by rw [if_neg h6, if_neg h18], (MoF.pF (A := (fun q => q = 83 ∨ q = 101 ∨ q = 102 ∨ (112 ≤ q ∧ q ≤ 118))) (F := (fun k => k = 0 ∨ k = 34 ∨ k = 48 ∨ k = 56)) (H := H) (H2 := H) (k := 0) MoF.rf (Or.inl rfl) (Or.inl rfl) (nI 0))⟩, rfl⟩
    · skip
      refine xq_aload_n dX11_fault_21 rfl rfl ?_
      refine xq_getIE clX11 (by decide) rfl fl_RX11_61 dX11_fault_22 (Fx.s83 hF) ((hI_sI _ _ _ _ _ _).trans ((if_neg (by omega)).trans h29)) ?_
      refine xq_goto dX11_fault_25 rfl ?_
      refine xq_iret dX11_fault_29 rfl ?_
      exact ⟨_, _, ⟨by rw [if_neg h6, if_pos h18], (MoF.pF (A := (fun q => q = 83 ∨ q = 101 ∨ q = 102 ∨ (112 ≤ q ∧ q ≤ 118))) (F := (fun k => k = 0 ∨ k = 34 ∨ k = 48 ∨ k = 56)) (H := H) (H2 := H) (k := 0) MoF.rf (Or.inl rfl) (Or.inl rfl) (nI 0))⟩, rfl⟩
  · skip
    refine xq_aload_n dX11_fault_9 rfl rfl ?_
    refine xq_getIE clX11 (by decide) rfl fl_RX11_301 dX11_fault_10 (Fx.s83 hF) ((hI_sI _ _ _ _ _ _).trans ((if_neg (by omega)).trans h28)) ?_
    refine xq_goto dX11_fault_13 rfl ?_
    refine xq_iret dX11_fault_29 rfl ?_
    exact ⟨_, _, ⟨by rw [if_pos h6], (MoF.pF (A := (fun q => q = 83 ∨ q = 101 ∨ q = 102 ∨ (112 ≤ q ∧ q ≤ 118))) (F := (fun k => k = 0 ∨ k = 34 ∨ k = 48 ∨ k = 56)) (H := H) (H2 := H) (k := 0) MoF.rf (Or.inl rfl) (Or.inl rfl) (nI 0))⟩, rfl⟩
theorem m_found {fn : Nat → Nat} (hsa : fS S a = (1, c)) (hc : c ≤ 100) (hbn : b + n ≤ c) (hfn : ∀ j, j < n → hI H a (b + j) = nI (fn j)) : Pv mX11_found 0 [.ref a, vN b, vN n, .int ww] S H (vZ (fdz (fun j => decide (nI (fn j) = ww)) n)) := by
  have lp : ∀ (fz : Nat) (k : Nat), n - k < fz → k ≤ n → (∀ j, j < k → decide (nI (fn j) = ww) = false) → Xq mX11_found 0 0 0 3 [some (.ref a), some (vN b), some (vN n), some (.int ww), some (vN k)] [] S H (fun R => R = (some (vZ (fdz (fun j => decide (nI (fn j) = ww)) n)), S, H)) := by
    intro fz
    induction fz with
    | zero => intro k  hfz; exact absurd hfz (by omega)
    | succ fz ih =>
      intro k  hfz hi hno
      refine xq_iload dX11_found_3 rfl ?_
      refine xq_iload_n dX11_found_5 rfl rfl ?_
      refine xq_icmp_geN dX11_found_6 rfl (by omega) (by omega) ⟨fun h6 => ?_, fun h6 => ?_⟩
      · skip
        refine xq_iconst dX11_found_28 icm1 ?_
        refine xq_iret dX11_found_29 rfl ?_
        show _ = _; have e := fnd_no (f := fun j => decide (nI (fn j) = ww)) hno; rw [show n = k by omega]; unfold fdz; rw [e, if_neg (by omega)]; rfl
      · skip
        refine xq_aload_n dX11_found_9 rfl rfl ?_
        refine xq_iload_n dX11_found_10 rfl rfl ?_
        refine xq_iload dX11_found_11 rfl ?_
        refine xq_iaddN dX11_found_13 ?_
        refine xq_ialdN dX11_found_14 hsa (by omega) (by omega) (hfn k h6) ?_
        refine xq_iload_n dX11_found_15 rfl rfl ?_
        refine xq_icmp_ne dX11_found_16 rfl ⟨fun h16 => ?_, fun h16 => ?_⟩
        · skip
          refine xq_iincN dX11_found_22 ic1 rfl rfl ?_
          refine xq_goto dX11_found_25 rfl ?_
          exact ih (k + 1) (by omega) (by omega) (fun j hj => by
            by_cases e : j = k
            · subst e; exact decide_eq_false h16
            · exact hno j (by omega))
        · skip
          refine xq_iload dX11_found_19 rfl ?_
          refine xq_iret dX11_found_21 rfl ?_
          show _ = _; have e := fnd_at (f := fun j => decide (nI (fn j) = ww)) hno (decide_eq_true h16) h6; unfold fdz; rw [e, if_pos h6]; rfl
  refine vq_ev (vq_intro (by decide) (by exact Nat.le_of_ble_eq_true rfl) rfl ?_)
  refine xq_iconst dX11_found_0 ic0 ?_
  refine xq_istore dX11_found_1 rfl ?_
  exact lp (n + 1) 0 (by omega) (by omega) (fun j hj => absurd hj (by omega))
theorem m_named0 (hm : MnP S H T N lf u) (hno : ww.toInt < 0 ∨ 2 < ww.toInt) : Hv mX11_named 1 [.ref 83, .int ww, .int w2] S H vZ (fun (x : Int) H' => x = (-1) ∧ MoF (fun q => q = 83 ∨ q = 101 ∨ q = 102 ∨ (112 ≤ q ∧ q ≤ 118)) (fun k => k = 0 ∨ k = 34 ∨ k = 48 ∨ k = 56) H H') := by
  have hF := hm.ms.fx; have hm0 := hm.t0; have hs := hm0.ms; have hx := hs.mx; have hw := hs.mw; have tk := hs.tk; have tw := hs.tw; have hnp := tw.2.1; have hnc := tw.1; have hWn := nW_le tw; have ok := hm.ok; have hlr := hm.lr; have htr := hlr.2.1; have hnf8 := tk.nf; have hz := ok.n; have hrm := hm0.rm; have htt := hs.tt
  refine vq_intro (by decide) (by exact Nat.le_of_ble_eq_true rfl) rfl ?_
  refine xq_aload_n dX11_named_0 rfl rfl ?_
  refine xq_iconst dX11_named_1 ic0 ?_
  refine xq_putI clX11 (by decide) rfl fl_RX11_128 (Or.inl rfl) dX11_named_2 ⟨rfl, rfl⟩ (Fx.s83 hF) ?_
  refine xq_iload_n dX11_named_5 rfl rfl ?_
  refine xq_tableOut dX11_named_6 hno rfl ?_
  refine xq_iconst dX11_named_80 icm1 ?_
  refine xq_iret dX11_named_81 rfl ?_
  refine ⟨-1, _, ⟨rfl, (MoF.pF (A := (fun q => q = 83 ∨ q = 101 ∨ q = 102 ∨ (112 ≤ q ∧ q ≤ 118))) (F := (fun k => k = 0 ∨ k = 34 ∨ k = 48 ∨ k = 56)) (H := H) (H2 := H) (k := 0) MoF.rf (Or.inl rfl) (Or.inl rfl) (nI 0))⟩, ?_⟩
  rw [zm1]
theorem m_named1 (hm : MnP S H T N lf u) (hl : l < 3) : Hv mX11_named 1 [.ref 83, vN l, .int w2] S H vZ (fun (x : Int) H' => x = (namV T l w2) ∧ MoF (fun q => q = 83 ∨ q = 101 ∨ q = 102 ∨ (112 ≤ q ∧ q ≤ 118)) (fun k => k = 0 ∨ k = 34 ∨ k = 48 ∨ k = 56) H H') := by
  have hF := hm.ms.fx; have hm0 := hm.t0; have hs := hm0.ms; have hx := hs.mx; have hw := hs.mw; have tk := hs.tk; have tw := hs.tw; have hnp := tw.2.1; have hnc := tw.1; have hWn := nW_le tw; have ok := hm.ok; have hlr := hm.lr; have htr := hlr.2.1; have hnf8 := tk.nf; have hz := ok.n; have hrm := hm0.rm; have htt := hs.tt
  refine vq_intro (by decide) (by exact Nat.le_of_ble_eq_true rfl) rfl ?_
  refine xq_aload_n dX11_named_0 rfl rfl ?_
  refine xq_iconst dX11_named_1 ic0 ?_
  refine xq_putI clX11 (by decide) rfl fl_RX11_128 (Or.inl rfl) dX11_named_2 ⟨rfl, rfl⟩ (Fx.s83 hF) ?_
  refine xq_iload_n dX11_named_5 rfl rfl ?_
  by_cases hs6 : 0 ≤ l ∧ l ≤ 2
  · skip
    have hq6 : l = 0 ∨ l = 1 ∨ l = 2 := by omega
    rcases hq6 with rfl | rfl | rfl
    · skip
      refine xq_tableIn dX11_named_6 (by decide) (by decide) rfl rfl ?_
      refine xq_aload_n dX11_named_32 rfl rfl ?_
      refine xq_getF clX11 (by decide) rfl fl_RX11_16 dX11_named_33 (Fx.s83 hF) (Fx.r83_4 hF) ?_
      refine xq_iconst dX11_named_36 ic0 ?_
      refine xq_aload_n dX11_named_37 rfl rfl ?_
      refine xq_getF clX11 (by decide) rfl fl_RX11_13 dX11_named_38 (Fx.s83 hF) (Fx.r83_3 hF) ?_
      refine xq_iconst dX11_named_41 ic0 ?_
      refine xq_ialdN dX11_named_42 (Fx.s85 hF) (by omega) (by decide) hx.nc ?_
      refine xq_iload_n dX11_named_43 rfl rfl ?_
      refine xq_callS4P gd_X11_found dX11_named_44 ml_RX11_194 im_X11_found (by exact Nat.le_of_ble_eq_true rfl) (by decide) (m_found (b := 0) (Fx.s86 hF) (by decide) (by omega) (fun j hj => (congrArg (hI _ 86) (by omega)).trans (hx.co j hj).1)) ?_
      refine xq_iret dX11_named_47 rfl ?_
      exact ⟨_, _, ⟨rfl, (MoF.pF (A := (fun q => q = 83 ∨ q = 101 ∨ q = 102 ∨ (112 ≤ q ∧ q ≤ 118))) (F := (fun k => k = 0 ∨ k = 34 ∨ k = 48 ∨ k = 56)) (H := H) (H2 := H) (k := 0) MoF.rf (Or.inl rfl) (Or.inl rfl) (nI 0))⟩, rfl⟩
    · skip
      refine xq_tableIn dX11_named_6 (by decide) (by decide) rfl rfl ?_
      refine xq_aload_n dX11_named_48 rfl rfl ?_
      refine xq_getF clX11 (by decide) rfl fl_RX11_22 dX11_named_49 (Fx.s83 hF) (Fx.r83_6 hF) ?_
      refine xq_iconst dX11_named_52 ic0 ?_
      refine xq_aload_n dX11_named_53 rfl rfl ?_
      refine xq_getF clX11 (by decide) rfl fl_RX11_13 dX11_named_54 (Fx.s83 hF) (Fx.r83_3 hF) ?_
      refine xq_iconst dX11_named_57 ic1 ?_
      refine xq_ialdN dX11_named_58 (Fx.s85 hF) (by omega) (by decide) hx.np ?_
      refine xq_iload_n dX11_named_59 rfl rfl ?_
      refine xq_callS4P gd_X11_found dX11_named_60 ml_RX11_194 im_X11_found (by exact Nat.le_of_ble_eq_true rfl) (by decide) (m_found (b := 0) (Fx.s88 hF) (by decide) (by omega) (fun j hj => (congrArg (hI _ 88) (by omega)).trans (hx.pe j hj).1)) ?_
      refine xq_iret dX11_named_63 rfl ?_
      exact ⟨_, _, ⟨rfl, (MoF.pF (A := (fun q => q = 83 ∨ q = 101 ∨ q = 102 ∨ (112 ≤ q ∧ q ≤ 118))) (F := (fun k => k = 0 ∨ k = 34 ∨ k = 48 ∨ k = 56)) (H := H) (H2 := H) (k := 0) MoF.rf (Or.inl rfl) (Or.inl rfl) (nI 0))⟩, rfl⟩
    · skip
      refine xq_tableIn dX11_named_6 (by decide) (by decide) rfl rfl ?_
      refine xq_aload_n dX11_named_64 rfl rfl ?_
      refine xq_getF clX11 (by decide) rfl fl_RX11_31 dX11_named_65 (Fx.s83 hF) (Fx.r83_9 hF) ?_
      refine xq_iconst dX11_named_68 ic0 ?_
      refine xq_aload_n dX11_named_69 rfl rfl ?_
      refine xq_getF clX11 (by decide) rfl fl_RX11_13 dX11_named_70 (Fx.s83 hF) (Fx.r83_3 hF) ?_
      refine xq_iconst dX11_named_73 ic2 ?_
      refine xq_ialdN dX11_named_74 (Fx.s85 hF) (by omega) (by decide) hx.nf ?_
      refine xq_iload_n dX11_named_75 rfl rfl ?_
      refine xq_callS4P gd_X11_found dX11_named_76 ml_RX11_194 im_X11_found (by exact Nat.le_of_ble_eq_true rfl) (by decide) (m_found (b := 0) (Fx.s91 hF) (by decide) (by omega) (fun j hj => (congrArg (hI _ 91) (by omega)).trans (hx.fa j hj).1)) ?_
      refine xq_iret dX11_named_79 rfl ?_
      exact ⟨_, _, ⟨rfl, (MoF.pF (A := (fun q => q = 83 ∨ q = 101 ∨ q = 102 ∨ (112 ≤ q ∧ q ≤ 118))) (F := (fun k => k = 0 ∨ k = 34 ∨ k = 48 ∨ k = 56)) (H := H) (H2 := H) (k := 0) MoF.rf (Or.inl rfl) (Or.inl rfl) (nI 0))⟩, rfl⟩
  · skip
    exact absurd hl (by omega)
theorem m_person0 (hm : MnP S H T N lf u) (hno : hasB ww (tNp T) = false) : Hv mX11_person 5 [.ref 83, .int ww, .int w2] S H vN (fun x H' => x = (0) ∧ hI H' 83 0 = nI 1 ∧ MoF (fun q => q = 83 ∨ q = 101 ∨ q = 102 ∨ (112 ≤ q ∧ q ≤ 118)) (fun k => k = 0 ∨ k = 34 ∨ k = 48 ∨ k = 56) H H') := by
  have hF := hm.ms.fx; have hm0 := hm.t0; have hs := hm0.ms; have hx := hs.mx; have hw := hs.mw; have tk := hs.tk; have tw := hs.tw; have hnp := tw.2.1; have hnc := tw.1; have hWn := nW_le tw; have ok := hm.ok; have hlr := hm.lr; have htr := hlr.2.1; have hnf8 := tk.nf; have hz := ok.n; have hrm := hm0.rm; have htt := hs.tt; have hs0 := hm.ms
  refine vq_intro (by decide) (by exact Nat.le_of_ble_eq_true rfl) rfl ?_
  refine xq_aload_n dX11_person_0 rfl rfl ?_
  refine xq_aload_n dX11_person_1 rfl rfl ?_
  refine xq_iload_n dX11_person_2 rfl rfl ?_
  refine xq_callV1P clX11 gd_X11_isPerson dX11_person_3 ml_RX11_460 im_X11_isPerson se_X11_isPerson rfl (Fx.s83 hF) (by exact Nat.le_of_ble_eq_true rfl) (by decide) (m_isPerson hs0) ?_
  refine xq_if_neB dX11_person_6 rfl ⟨fun h6 => ?_, fun h6 => ?_⟩
  · skip
    rw [hno] at h6; cases h6
  · skip
    refine xq_iconst dX11_person_9 ic1 ?_
    refine xq_goto dX11_person_10 rfl ?_
    refine xq_putI clX11 (by decide) rfl fl_RX11_128 (Or.inl rfl) dX11_person_27 ⟨rfl, rfl⟩ (Fx.s83 hF) ?_
    refine xq_aload_n dX11_person_30 rfl rfl ?_
    refine xq_getIE (v := nI 1) clX11 (by decide) rfl fl_RX11_128 dX11_person_31 (Fx.s83 hF) (by rw [hI_sI, if_pos ⟨rfl, rfl⟩]) ?_
    refine xq_if_eqN dX11_person_34 rfl (by omega) ⟨fun h34 => ?_, fun h34 => ?_⟩
    · skip
      exact absurd h34 (by decide)
    · skip
      refine xq_iconst dX11_person_37 ic0 ?_
      refine xq_iret dX11_person_38 rfl ?_
      exact ⟨0, _, ⟨rfl, by rw [hI_sI, if_pos ⟨rfl, rfl⟩], (MoF.pF (A := (fun q => q = 83 ∨ q = 101 ∨ q = 102 ∨ (112 ≤ q ∧ q ≤ 118))) (F := (fun k => k = 0 ∨ k = 34 ∨ k = 48 ∨ k = 56)) (H := H) (H2 := H) (k := 0) MoF.rf (Or.inl rfl) (Or.inl rfl) (nI 1))⟩, rfl⟩
theorem m_person2 (hm : MnP S H T N lf u) (hp : p < tNp T) (hno : w2 < 0 ∨ nI 5 < w2) : Hv mX11_person 5 [.ref 83, vN p, .int w2] S H vN (fun x H' => x = (0) ∧ hI H' 83 0 = nI 2 ∧ MoF (fun q => q = 83 ∨ q = 101 ∨ q = 102 ∨ (112 ≤ q ∧ q ≤ 118)) (fun k => k = 0 ∨ k = 34 ∨ k = 48 ∨ k = 56) H H') := by
  have hF := hm.ms.fx; have hm0 := hm.t0; have hs := hm0.ms; have hx := hs.mx; have hw := hs.mw; have tk := hs.tk; have tw := hs.tw; have hnp := tw.2.1; have hnc := tw.1; have hWn := nW_le tw; have ok := hm.ok; have hlr := hm.lr; have htr := hlr.2.1; have hnf8 := tk.nf; have hz := ok.n; have hrm := hm0.rm; have htt := hs.tt; have hs0 := hm.ms
  refine vq_intro (by decide) (by exact Nat.le_of_ble_eq_true rfl) rfl ?_
  refine xq_aload_n dX11_person_0 rfl rfl ?_
  refine xq_aload_n dX11_person_1 rfl rfl ?_
  refine xq_iload_n dX11_person_2 rfl rfl ?_
  refine xq_callV1P clX11 gd_X11_isPerson dX11_person_3 ml_RX11_460 im_X11_isPerson se_X11_isPerson rfl (Fx.s83 hF) (by exact Nat.le_of_ble_eq_true rfl) (by decide) (m_isPerson1 hs0 hp) ?_
  refine xq_if_neN dX11_person_6 rfl (by omega) ⟨fun h6 => ?_, fun h6 => ?_⟩
  · skip
    refine xq_iload_n dX11_person_13 rfl rfl ?_
    refine xq_if_lt dX11_person_14 rfl ⟨fun h14 => ?_, fun h14 => ?_⟩
    · skip
      refine xq_iconst dX11_person_22 ic2 ?_
      refine xq_goto dX11_person_23 rfl ?_
      refine xq_putI clX11 (by decide) rfl fl_RX11_128 (Or.inl rfl) dX11_person_27 ⟨rfl, rfl⟩ (Fx.s83 hF) ?_
      refine xq_aload_n dX11_person_30 rfl rfl ?_
      refine xq_getIE (v := nI 2) clX11 (by decide) rfl fl_RX11_128 dX11_person_31 (Fx.s83 hF) (by rw [hI_sI, if_pos ⟨rfl, rfl⟩]) ?_
      refine xq_if_eqN dX11_person_34 rfl (by omega) ⟨fun h34 => ?_, fun h34 => ?_⟩
      · skip
        exact absurd h34 (by decide)
      · skip
        refine xq_iconst dX11_person_37 ic0 ?_
        refine xq_iret dX11_person_38 rfl ?_
        exact ⟨0, _, ⟨rfl, by rw [hI_sI, if_pos ⟨rfl, rfl⟩], (MoF.pF (A := (fun q => q = 83 ∨ q = 101 ∨ q = 102 ∨ (112 ≤ q ∧ q ≤ 118))) (F := (fun k => k = 0 ∨ k = 34 ∨ k = 48 ∨ k = 56)) (H := H) (H2 := H) (k := 0) MoF.rf (Or.inl rfl) (Or.inl rfl) (nI 2))⟩, rfl⟩
    · skip
      refine xq_iload_n dX11_person_17 rfl rfl ?_
      refine xq_iconst dX11_person_18 ic5 ?_
      refine xq_icmp_le dX11_person_19 rfl ⟨fun h19 => ?_, fun h19 => ?_⟩
      · skip
        rcases hno with e | e
        · exact absurd e h14
        · exact absurd e (by rw [Int32.le_iff_toInt_le] at h19; rw [Int32.lt_iff_toInt_lt]; omega)
      · skip
        refine xq_iconst dX11_person_22 ic2 ?_
        refine xq_goto dX11_person_23 rfl ?_
        refine xq_putI clX11 (by decide) rfl fl_RX11_128 (Or.inl rfl) dX11_person_27 ⟨rfl, rfl⟩ (Fx.s83 hF) ?_
        refine xq_aload_n dX11_person_30 rfl rfl ?_
        refine xq_getIE (v := nI 2) clX11 (by decide) rfl fl_RX11_128 dX11_person_31 (Fx.s83 hF) (by rw [hI_sI, if_pos ⟨rfl, rfl⟩]) ?_
        refine xq_if_eqN dX11_person_34 rfl (by omega) ⟨fun h34 => ?_, fun h34 => ?_⟩
        · skip
          exact absurd h34 (by decide)
        · skip
          refine xq_iconst dX11_person_37 ic0 ?_
          refine xq_iret dX11_person_38 rfl ?_
          exact ⟨0, _, ⟨rfl, by rw [hI_sI, if_pos ⟨rfl, rfl⟩], (MoF.pF (A := (fun q => q = 83 ∨ q = 101 ∨ q = 102 ∨ (112 ≤ q ∧ q ≤ 118))) (F := (fun k => k = 0 ∨ k = 34 ∨ k = 48 ∨ k = 56)) (H := H) (H2 := H) (k := 0) MoF.rf (Or.inl rfl) (Or.inl rfl) (nI 2))⟩, rfl⟩
  · skip
    first | exact absurd h6 (by decide) | exact absurd rfl h6
def perV (T : uTx) (u : uSt) (p l : Nat) : Nat := if l = 0 then tHt T p else if l = 1 then uSe u p else if l = 2 then (uSd u >>> p &&& 1) else if l = 3 then uPz u p else if l = 4 then cfr u p p else alikeN u p
theorem m_person1 (hm : MnP S H T N lf u) (hp : p < tNp T) (hl : l < 6) : Hv mX11_person 5 [.ref 83, vN p, vN l] S H vN (fun x H' => x = (perV T u p l) ∧ hI H' 83 0 = nI 0 ∧ MoF (fun q => q = 83 ∨ q = 101 ∨ q = 102 ∨ (112 ≤ q ∧ q ≤ 118)) (fun k => k = 0 ∨ k = 34 ∨ k = 48 ∨ k = 56) H H') := by
  have hF := hm.ms.fx; have hm0 := hm.t0; have hs := hm0.ms; have hx := hs.mx; have hw := hs.mw; have tk := hs.tk; have tw := hs.tw; have hnp := tw.2.1; have hnc := tw.1; have hWn := nW_le tw; have ok := hm.ok; have hlr := hm.lr; have htr := hlr.2.1; have hnf8 := tk.nf; have hz := ok.n; have hrm := hm0.rm; have htt := hs.tt; have hs0 := hm.ms; have hsd6 := ok.sd; have hsh := shr_le (uSd u) p
  refine vq_intro (by decide) (by exact Nat.le_of_ble_eq_true rfl) rfl ?_
  refine xq_aload_n dX11_person_0 rfl rfl ?_
  refine xq_aload_n dX11_person_1 rfl rfl ?_
  refine xq_iload_n dX11_person_2 rfl rfl ?_
  refine xq_callV1P clX11 gd_X11_isPerson dX11_person_3 ml_RX11_460 im_X11_isPerson se_X11_isPerson rfl (Fx.s83 hF) (by exact Nat.le_of_ble_eq_true rfl) (by decide) (m_isPerson1 hs0 hp) ?_
  refine xq_if_neN dX11_person_6 rfl (by omega) ⟨fun h6 => ?_, fun h6 => ?_⟩
  · skip
    refine xq_iload_n dX11_person_13 rfl rfl ?_
    refine xq_if_ltN dX11_person_14 rfl (by omega) ?_
    refine xq_iload_n dX11_person_17 rfl rfl ?_
    refine xq_iconst dX11_person_18 ic5 ?_
    refine xq_icmp_leN dX11_person_19 rfl (by omega) (by omega) ⟨fun h19 => ?_, fun h19 => ?_⟩
    · skip
      refine xq_iconst dX11_person_26 ic0 ?_
      refine xq_putI clX11 (by decide) rfl fl_RX11_128 (Or.inl rfl) dX11_person_27 ⟨rfl, rfl⟩ (Fx.s83 hF) ?_
      refine xq_aload_n dX11_person_30 rfl rfl ?_
      refine xq_getIE (v := nI 0) clX11 (by decide) rfl fl_RX11_128 dX11_person_31 (Fx.s83 hF) (by rw [hI_sI, if_pos ⟨rfl, rfl⟩]) ?_
      refine xq_if_eqN dX11_person_34 rfl (by omega) ⟨fun h34 => ?_, fun h34 => ?_⟩
      · skip
        refine xq_aload_n dX11_person_39 rfl rfl ?_
        refine xq_iconst dX11_person_40 ic0 ?_
        refine xq_callV1N clX11 gd_X11_lays dX11_person_41 ml_RX11_428 im_X11_lays se_X11_lays rfl (Fx.s83 hF) (by exact Nat.le_of_ble_eq_true rfl) (by decide) (m_lays hs hrm hlr ok (by decide)) ?_
        intro H41 p41
        obtain ⟨hd, hl41⟩ := p41
        have hr1 := hd.rm; have hx1 := hd.ms.mx; have hw1 := hd.ms.mw; have hs1 := hd.ms
        refine xq_iload_n dX11_person_44 rfl rfl ?_
        by_cases hs45 : 0 ≤ l ∧ l ≤ 4
        · skip
          have hq45 : l = 0 ∨ l = 1 ∨ l = 2 ∨ l = 3 ∨ l = 4 := by omega
          rcases hq45 with rfl | rfl | rfl | rfl | rfl
          · skip
            refine xq_tableIn dX11_person_45 (by decide) (by decide) rfl rfl ?_
            refine xq_aload_n dX11_person_80 rfl rfl ?_
            refine xq_getF clX11 (by decide) rfl fl_RX11_25 dX11_person_81 (Fx.s83 hF) (Fx.r83_7 hF) ?_
            refine xq_iload_n dX11_person_84 rfl rfl ?_
            refine xq_ialdN dX11_person_85 (Fx.s89 hF) (by omega) (by decide) ((hx1.pe p hp).2.1) ?_
            refine xq_iret dX11_person_86 rfl ?_
            exact ⟨_, H41, ⟨rfl, (hl41.2 0 (by omega)).trans (by rw [hI_sI, if_pos ⟨rfl, rfl⟩]), ((MoF.pF (A := (fun q => q = 83 ∨ q = 101 ∨ q = 102 ∨ (112 ≤ q ∧ q ≤ 118))) (F := (fun k => k = 0 ∨ k = 34 ∨ k = 48 ∨ k = 56)) (H := H) (H2 := H) (k := 0) MoF.rf (Or.inl rfl) (Or.inl rfl) (nI 0)).tr (MoF.mo hl41 (fun q h => (by omega : q = 83 ∨ q = 101 ∨ q = 102 ∨ (112 ≤ q ∧ q ≤ 118))) (fun k h => (by omega : k = 0 ∨ k = 34 ∨ k = 48 ∨ k = 56))))⟩, rfl⟩
          · skip
            refine xq_tableIn dX11_person_45 (by decide) (by decide) rfl rfl ?_
            refine xq_aload_n dX11_person_87 rfl rfl ?_
            refine xq_getF clX11 (by decide) rfl fl_RX11_90 dX11_person_88 (Fx.s83 hF) (Fx.r83_43 hF) ?_
            refine xq_iload_n dX11_person_91 rfl rfl ?_
            refine xq_ialdN (v := nI (uSe u p)) dX11_person_92 (Fx.s109 hF) (by omega) (by decide) ((congrArg (hI _ 109) (by omega)).trans (hr1.se p (by omega))) ?_
            refine xq_iret dX11_person_93 rfl ?_
            exact ⟨_, H41, ⟨rfl, (hl41.2 0 (by omega)).trans (by rw [hI_sI, if_pos ⟨rfl, rfl⟩]), ((MoF.pF (A := (fun q => q = 83 ∨ q = 101 ∨ q = 102 ∨ (112 ≤ q ∧ q ≤ 118))) (F := (fun k => k = 0 ∨ k = 34 ∨ k = 48 ∨ k = 56)) (H := H) (H2 := H) (k := 0) MoF.rf (Or.inl rfl) (Or.inl rfl) (nI 0)).tr (MoF.mo hl41 (fun q h => (by omega : q = 83 ∨ q = 101 ∨ q = 102 ∨ (112 ≤ q ∧ q ≤ 118))) (fun k h => (by omega : k = 0 ∨ k = 34 ∨ k = 48 ∨ k = 56))))⟩, rfl⟩
          · skip
            refine xq_tableIn dX11_person_45 (by decide) (by decide) rfl rfl ?_
            refine xq_aload_n dX11_person_94 rfl rfl ?_
            refine xq_getF clX11 (by decide) rfl fl_RX11_87 dX11_person_95 (Fx.s83 hF) (Fx.r83_42 hF) ?_
            refine xq_iconst dX11_person_98 ic0 ?_
            refine xq_ialdN dX11_person_99 (Fx.s108 hF) (by omega) (by decide) hr1.sd ?_
            refine xq_iload_n dX11_person_100 rfl rfl ?_
            refine xq_ishrN dX11_person_101 (by omega) (by omega) ?_
            refine xq_iconst dX11_person_102 ic1 ?_
            refine xq_iandN dX11_person_103 ?_
            refine xq_iret dX11_person_104 rfl ?_
            exact ⟨_, H41, ⟨rfl, (hl41.2 0 (by omega)).trans (by rw [hI_sI, if_pos ⟨rfl, rfl⟩]), ((MoF.pF (A := (fun q => q = 83 ∨ q = 101 ∨ q = 102 ∨ (112 ≤ q ∧ q ≤ 118))) (F := (fun k => k = 0 ∨ k = 34 ∨ k = 48 ∨ k = 56)) (H := H) (H2 := H) (k := 0) MoF.rf (Or.inl rfl) (Or.inl rfl) (nI 0)).tr (MoF.mo hl41 (fun q h => (by omega : q = 83 ∨ q = 101 ∨ q = 102 ∨ (112 ≤ q ∧ q ≤ 118))) (fun k h => (by omega : k = 0 ∨ k = 34 ∨ k = 48 ∨ k = 56))))⟩, rfl⟩
          · skip
            refine xq_tableIn dX11_person_45 (by decide) (by decide) rfl rfl ?_
            refine xq_aload_n dX11_person_105 rfl rfl ?_
            refine xq_getF clX11 (by decide) rfl fl_RX11_93 dX11_person_106 (Fx.s83 hF) (Fx.r83_44 hF) ?_
            refine xq_iload_n dX11_person_109 rfl rfl ?_
            refine xq_ialdN (v := nI (uPz u p)) dX11_person_110 (Fx.s110 hF) (by omega) (by decide) ((congrArg (hI _ 110) (by omega)).trans (hr1.pz p (by omega))) ?_
            refine xq_iret dX11_person_111 rfl ?_
            exact ⟨_, H41, ⟨rfl, (hl41.2 0 (by omega)).trans (by rw [hI_sI, if_pos ⟨rfl, rfl⟩]), ((MoF.pF (A := (fun q => q = 83 ∨ q = 101 ∨ q = 102 ∨ (112 ≤ q ∧ q ≤ 118))) (F := (fun k => k = 0 ∨ k = 34 ∨ k = 48 ∨ k = 56)) (H := H) (H2 := H) (k := 0) MoF.rf (Or.inl rfl) (Or.inl rfl) (nI 0)).tr (MoF.mo hl41 (fun q h => (by omega : q = 83 ∨ q = 101 ∨ q = 102 ∨ (112 ≤ q ∧ q ≤ 118))) (fun k h => (by omega : k = 0 ∨ k = 34 ∨ k = 48 ∨ k = 56))))⟩, rfl⟩
          · skip
            refine xq_tableIn dX11_person_45 (by decide) (by decide) rfl rfl ?_
            refine xq_aload_n dX11_person_112 rfl rfl ?_
            refine xq_iload_n dX11_person_113 rfl rfl ?_
            refine xq_iload_n dX11_person_114 rfl rfl ?_
            refine xq_callV2P clX11 gd_X11_coloursOf dX11_person_115 ml_RX11_463 im_X11_coloursOf se_X11_coloursOf rfl (Fx.s83 hF) (by exact Nat.le_of_ble_eq_true rfl) (by decide) (m_coloursOf hd hp hp) ?_
            refine xq_iret dX11_person_118 rfl ?_
            exact ⟨_, H41, ⟨rfl, (hl41.2 0 (by omega)).trans (by rw [hI_sI, if_pos ⟨rfl, rfl⟩]), ((MoF.pF (A := (fun q => q = 83 ∨ q = 101 ∨ q = 102 ∨ (112 ≤ q ∧ q ≤ 118))) (F := (fun k => k = 0 ∨ k = 34 ∨ k = 48 ∨ k = 56)) (H := H) (H2 := H) (k := 0) MoF.rf (Or.inl rfl) (Or.inl rfl) (nI 0)).tr (MoF.mo hl41 (fun q h => (by omega : q = 83 ∨ q = 101 ∨ q = 102 ∨ (112 ≤ q ∧ q ≤ 118))) (fun k h => (by omega : k = 0 ∨ k = 34 ∨ k = 48 ∨ k = 56))))⟩, rfl⟩
        · skip
          refine xq_tableOut dX11_person_45 (swOut 0 4 hs45 (by omega)) rfl ?_
          refine xq_aload_n dX11_person_119 rfl rfl ?_
          refine xq_iload_n dX11_person_120 rfl rfl ?_
          refine xq_callV1P clX11 gd_X11_alikeMany dX11_person_121 ml_RX11_410 im_X11_alikeMany se_X11_alikeMany rfl (Fx.s83 hF) (by exact Nat.le_of_ble_eq_true rfl) (by decide) (m_alikeMany hd hp) ?_
          refine xq_iret dX11_person_124 rfl ?_
          exact ⟨_, H41, ⟨rfl, (hl41.2 0 (by omega)).trans (by rw [hI_sI, if_pos ⟨rfl, rfl⟩]), ((MoF.pF (A := (fun q => q = 83 ∨ q = 101 ∨ q = 102 ∨ (112 ≤ q ∧ q ≤ 118))) (F := (fun k => k = 0 ∨ k = 34 ∨ k = 48 ∨ k = 56)) (H := H) (H2 := H) (k := 0) MoF.rf (Or.inl rfl) (Or.inl rfl) (nI 0)).tr (MoF.mo hl41 (fun q h => (by omega : q = 83 ∨ q = 101 ∨ q = 102 ∨ (112 ≤ q ∧ q ≤ 118))) (fun k h => (by omega : k = 0 ∨ k = 34 ∨ k = 48 ∨ k = 56))))⟩, by rw [show l = 5 by omega]; rfl⟩
      · skip
        exact absurd rfl h34
    · skip
      exact absurd h19 (by omega)
  · skip
    first | exact absurd h6 (by decide) | exact absurd rfl h6
theorem m_thrown (hF : gFx S) (h : hI H 83 0 = nI x) : Hv mX11_thrown 0 [.ref 83] S H vN (fun z H' => z = x ∧ H' = H) := by
  refine vq_intro (by decide) (by exact Nat.le_of_ble_eq_true rfl) rfl ?_
  refine xq_aload_n dX11_thrown_0 rfl rfl ?_
  refine xq_getIE clX11 (by decide) rfl fl_RX11_128 dX11_thrown_1 (Fx.s83 hF) h ?_
  refine xq_iret dX11_thrown_4 rfl ?_
  exact ⟨x, H, ⟨rfl, rfl⟩, rfl⟩
end CE
