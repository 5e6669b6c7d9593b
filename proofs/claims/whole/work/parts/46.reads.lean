/-! ===== the reference: reading what is laid out ===== -/
section RE
variable {S : xS} {H H1 H2 H3 : xH} {T : uTx} {N : Nat → Nat → Nat} {s a b c w v p q n i j k x y m l f key : Nat} {lf : Nat → Bool} {u : uSt} {ww w2 w3 : Int32}
def akW (lf : Nat → Bool) (u : uSt) (p w : Nat) : Bool := lf w && alk u p (ct lf w)
theorem akW_ct (h : LfR T lf u) (p : Nat) : ct (akW lf u p) (nW T) = alikeN u p := by
  unfold alikeN
  rw [h.z]
  exact ct_rank (lf := lf) (f := alk u p) (fun w _ => rfl)
theorem alikeN_pos (h : LfR T lf u) (p : Nat) : 0 < alikeN u p := by
  have h1 : uRl u < uZ u := by rw [h.2.2.2.1]; exact h.lt h.2.1 h.2.2.1
  have h2 : alk u p (uRl u) = true := by simp [alk, ake]
  have := ct_lt (fb := alk u p) h1 h2
  unfold alikeN
  omega
theorem m_isAlike (hd : LdP S H T N lf u s) (hp : p < tNp T) (hw2 : w < nW T) : Pv mX11_isAlike 1 [.ref 83, vN p, vN w] S H (vB (akW lf u p w)) := by
  have hs := hd.ms; have hr := hd.rm; have hlr := hd.lr; have ok := hd.ok; have h23 := hd.s23; have hro := hd.ro; have hF := hs.fx; have hx := hs.mx; have hw := hs.mw; have tk := hs.tk; have tw := hs.tw; have hnp := tw.2.1; have hnc := tw.1; have hWn := nW_le tw; have htr := hlr.2.1; have hnf8 := tk.nf; have htt := hs.tt
  have g1 := sgt_lt (s := uSe u p) tw hw2; have g2 := sgt_lt (s := uSe u p) tw htr
  refine vq_ev (vq_intro (by decide) (by exact Nat.le_of_ble_eq_true rfl) rfl ?_)
  refine xq_aload_n dX11_isAlike_0 rfl rfl ?_
  refine xq_iload_n dX11_isAlike_1 rfl rfl ?_
  refine xq_callV1P clX11 gd_X11_isHere dX11_isAlike_2 ml_RX11_362 im_X11_isHere se_X11_isHere rfl (Fx.s83 hF) (by exact Nat.le_of_ble_eq_true rfl) (by decide) (m_isHere hF hro h23 (by omega) (hr.lf w hw2)) ?_
  refine xq_if_eqB dX11_isAlike_5 rfl ⟨fun h5 => ?_, fun h5 => ?_⟩
  · skip
    refine xq_iconst dX11_isAlike_42 ic0 ?_
    refine xq_zret dX11_isAlike_43 rfl (by decide) ?_
    show _ = _; rw [show akW lf u p w = false by unfold akW; rw [h5]; rfl]; rfl
  · skip
    refine xq_aload_n dX11_isAlike_8 rfl rfl ?_
    refine xq_getF clX11 (by decide) rfl fl_RX11_100 dX11_isAlike_9 (Fx.s83 hF) (Fx.r83_49 hF) ?_
    refine xq_sipush dX11_isAlike_12 sp729 ?_
    refine xq_iload_n dX11_isAlike_15 rfl rfl ?_
    refine xq_imulN dX11_isAlike_16 ?_
    refine xq_iload_n dX11_isAlike_17 rfl rfl ?_
    refine xq_iaddN dX11_isAlike_18 ?_
    refine xq_ialdN dX11_isAlike_19 (Fx.s112 hF) (by omega) (by decide) (hd.si p hp w hw2) ?_
    refine xq_aload_n dX11_isAlike_20 rfl rfl ?_
    refine xq_getF clX11 (by decide) rfl fl_RX11_100 dX11_isAlike_21 (Fx.s83 hF) (Fx.r83_49 hF) ?_
    refine xq_sipush dX11_isAlike_24 sp729 ?_
    refine xq_iload_n dX11_isAlike_27 rfl rfl ?_
    refine xq_imulN dX11_isAlike_28 ?_
    refine xq_aload_n dX11_isAlike_29 rfl rfl ?_
    refine xq_getIE clX11 (by decide) rfl fl_RX11_338 dX11_isAlike_30 (Fx.s83 hF) hw.tr ?_
    refine xq_iaddN dX11_isAlike_33 ?_
    refine xq_ialdN dX11_isAlike_34 (Fx.s112 hF) (by omega) (by decide) (hd.si p hp _ htr) ?_
    refine xq_icmp_neN dX11_isAlike_35 rfl (by omega) (by omega) ⟨fun h35 => ?_, fun h35 => ?_⟩
    · skip
      refine xq_iconst dX11_isAlike_42 ic0 ?_
      refine xq_zret dX11_isAlike_43 rfl (by decide) ?_
      have e := hlr.sg (i := p) tw (ok.se (by omega)) hw2 h5
      show _ = _; rw [show akW lf u p w = false by unfold akW; rw [h5, e, Bool.true_and]; exact decide_eq_false h35]; rfl
    · skip
      refine xq_iconst dX11_isAlike_38 ic1 ?_
      refine xq_goto dX11_isAlike_39 rfl ?_
      refine xq_zret dX11_isAlike_43 rfl (by decide) ?_
      have e := hlr.sg (i := p) tw (ok.se (by omega)) hw2 h5
      show _ = _; rw [show akW lf u p w = true by unfold akW; rw [h5, e, Bool.true_and]; exact decide_eq_true h35]; rfl
theorem m_alikeMany (hd : LdP S H T N lf u s) (hp : p < tNp T) : Pv mX11_alikeMany 2 [.ref 83, vN p] S H (vN (alikeN u p)) := by
  have hs := hd.ms; have hr := hd.rm; have hlr := hd.lr; have ok := hd.ok; have h23 := hd.s23; have hro := hd.ro; have hF := hs.fx; have hx := hs.mx; have hw := hs.mw; have tk := hs.tk; have tw := hs.tw; have hnp := tw.2.1; have hnc := tw.1; have hWn := nW_le tw; have htr := hlr.2.1; have hnf8 := tk.nf; have htt := hs.tt
  have lp : ∀ (fz : Nat) (m w : Nat), nW T - w < fz → w ≤ nW T → m = ct (akW lf u p) w → Xq mX11_alikeMany 2 0 0 4 [some (.ref 83), some (vN p), some (vN m), some (vN w)] [] S H (fun R => R = (some (vN (alikeN u p)), S, H)) := by
    intro fz
    induction fz with
    | zero => intro m w  hfz; exact absurd hfz (by omega)
    | succ fz ih =>
      intro m w  hfz hi hm
      refine xq_iload_n dX11_alikeMany_4 rfl rfl ?_
      refine xq_aload_n dX11_alikeMany_5 rfl rfl ?_
      refine xq_getIE clX11 (by decide) rfl fl_RX11_335 dX11_alikeMany_6 (Fx.s83 hF) hw.ws ?_
      refine xq_icmp_geN dX11_alikeMany_9 rfl (by omega) (by omega) ⟨fun h9 => ?_, fun h9 => ?_⟩
      · skip
        refine xq_iload_n dX11_alikeMany_35 rfl rfl ?_
        refine xq_iret dX11_alikeMany_36 rfl ?_
        show _ = _; rw [hm, show w = nW T by omega, akW_ct hlr]
      · skip
        refine xq_iload_n dX11_alikeMany_12 rfl rfl ?_
        refine xq_aload_n dX11_alikeMany_13 rfl rfl ?_
        refine xq_iload_n dX11_alikeMany_14 rfl rfl ?_
        refine xq_iload_n dX11_alikeMany_15 rfl rfl ?_
        refine xq_callV2P clX11 gd_X11_isAlike dX11_alikeMany_16 ml_RX11_397 im_X11_isAlike se_X11_isAlike rfl (Fx.s83 hF) (by exact Nat.le_of_ble_eq_true rfl) (by decide) (m_isAlike hd hp h9) ?_
        refine xq_if_eqB dX11_alikeMany_19 rfl ⟨fun h19 => ?_, fun h19 => ?_⟩
        · skip
          refine xq_iconst dX11_alikeMany_26 ic0 ?_
          refine xq_iaddN dX11_alikeMany_27 ?_
          refine xq_istore_n dX11_alikeMany_28 rfl rfl ?_
          refine xq_iincN dX11_alikeMany_29 ic1 rfl rfl ?_
          refine xq_goto dX11_alikeMany_32 rfl ?_
          exact ih (m + 0) (w + 1) (by omega) (by omega) (by rw [ct_f h19, hm]; rfl)
        · skip
          refine xq_iconst dX11_alikeMany_22 ic1 ?_
          refine xq_goto dX11_alikeMany_23 rfl ?_
          refine xq_iaddN dX11_alikeMany_27 ?_
          refine xq_istore_n dX11_alikeMany_28 rfl rfl ?_
          refine xq_iincN dX11_alikeMany_29 ic1 rfl rfl ?_
          refine xq_goto dX11_alikeMany_32 rfl ?_
          exact ih (m + 1) (w + 1) (by omega) (by omega) (by rw [ct_t h19, hm])
  refine vq_ev (vq_intro (by decide) (by exact Nat.le_of_ble_eq_true rfl) rfl ?_)
  refine xq_iconst dX11_alikeMany_0 ic0 ?_
  refine xq_istore_n dX11_alikeMany_1 rfl rfl ?_
  refine xq_iconst dX11_alikeMany_2 ic0 ?_
  refine xq_istore_n dX11_alikeMany_3 rfl rfl ?_
  exact lp (nW T + 1) 0 0 (by omega) (by omega) rfl
theorem m_knowers (hd : LdP S H T N lf u s) : Pv mX11_knowers 0 [.ref 83] S H (vN (kns u)) := by
  have hs := hd.ms; have hr := hd.rm; have hlr := hd.lr; have ok := hd.ok; have h23 := hd.s23; have hro := hd.ro; have hF := hs.fx; have hx := hs.mx; have hw := hs.mw; have tk := hs.tk; have tw := hs.tw; have hnp := tw.2.1; have hnc := tw.1; have hWn := nW_le tw; have htr := hlr.2.1; have hnf8 := tk.nf; have htt := hs.tt
  have lp : ∀ (fz : Nat) (m p : Nat), tNp T - p < fz → p ≤ tNp T → m = fo (fun i b => b ||| (if kn u i i then 1 <<< i else 0)) 0 p → Xq mX11_knowers 0 0 0 4 [some (.ref 83), some (vN m), some (vN p)] [] S H (fun R => R = (some (vN (kns u)), S, H)) := by
    intro fz
    induction fz with
    | zero => intro m p  hfz; exact absurd hfz (by omega)
    | succ fz ih =>
      intro m p  hfz hi hm
      refine xq_iload_n dX11_knowers_4 rfl rfl ?_
      refine xq_aload_n dX11_knowers_5 rfl rfl ?_
      refine xq_getF clX11 (by decide) rfl fl_RX11_13 dX11_knowers_6 (Fx.s83 hF) (Fx.r83_3 hF) ?_
      refine xq_iconst dX11_knowers_9 ic1 ?_
      refine xq_ialdN dX11_knowers_10 (Fx.s85 hF) (by omega) (by decide) hx.np ?_
      refine xq_icmp_geN dX11_knowers_11 rfl (by omega) (by omega) ⟨fun h11 => ?_, fun h11 => ?_⟩
      · skip
        refine xq_iload_n dX11_knowers_48 rfl rfl ?_
        refine xq_iret dX11_knowers_49 rfl ?_
        show _ = _; rw [hm, show p = uNp u by rw [hlr.2.2.2.2]; omega]; rfl
      · skip
        have hkn := hd.kn p h11 _ htr
        rw [hlr.2.2.1, Bool.true_and, ← hlr.2.2.2.1, own_kn hlr tw (ok.se (by omega))] at hkn
        refine xq_iload_n dX11_knowers_14 rfl rfl ?_
        refine xq_aload_n dX11_knowers_15 rfl rfl ?_
        refine xq_getF clX11 (by decide) rfl fl_RX11_103 dX11_knowers_16 (Fx.s83 hF) (Fx.r83_50 hF) ?_
        refine xq_sipush dX11_knowers_19 sp729 ?_
        refine xq_iload_n dX11_knowers_22 rfl rfl ?_
        refine xq_imulN dX11_knowers_23 ?_
        refine xq_aload_n dX11_knowers_24 rfl rfl ?_
        refine xq_getIE clX11 (by decide) rfl fl_RX11_338 dX11_knowers_25 (Fx.s83 hF) hw.tr ?_
        refine xq_iaddN dX11_knowers_28 ?_
        refine xq_zaldN dX11_knowers_29 (Fx.s113 hF) (by omega) (by decide) hkn ?_
        refine xq_if_eqB dX11_knowers_30 rfl ⟨fun h30 => ?_, fun h30 => ?_⟩
        · skip
          refine xq_iconst dX11_knowers_39 ic0 ?_
          refine xq_iorN dX11_knowers_40 ?_
          refine xq_istore_n dX11_knowers_41 rfl rfl ?_
          refine xq_iincN dX11_knowers_42 ic1 rfl rfl ?_
          refine xq_goto dX11_knowers_45 rfl ?_
          exact ih _ (p + 1) (by omega) (by omega) (by rw [hm]; simp [fo, h30])
        · skip
          refine xq_iconst dX11_knowers_33 ic1 ?_
          refine xq_iload_n dX11_knowers_34 rfl rfl ?_
          refine xq_ishlN dX11_knowers_35 (by omega) ?_
          refine xq_goto dX11_knowers_36 rfl ?_
          refine xq_iorN dX11_knowers_40 ?_
          refine xq_istore_n dX11_knowers_41 rfl rfl ?_
          refine xq_iincN dX11_knowers_42 ic1 rfl rfl ?_
          refine xq_goto dX11_knowers_45 rfl ?_
          exact ih _ (p + 1) (by omega) (by omega) (by rw [hm]; simp [fo, h30])
  refine vq_ev (vq_intro (by decide) (by exact Nat.le_of_ble_eq_true rfl) rfl ?_)
  refine xq_iconst dX11_knowers_0 ic0 ?_
  refine xq_istore_n dX11_knowers_1 rfl rfl ?_
  refine xq_iconst dX11_knowers_2 ic0 ?_
  refine xq_istore_n dX11_knowers_3 rfl rfl ?_
  exact lp (tNp T + 1) 0 0 (by omega) (by omega) rfl
theorem cfr_w (h : LfR T lf u) : fo (fun w b => if akW lf u p w then b ||| (1 <<< cl T w q) else b) 0 (nW T) = cfr u p q := by
  unfold cfr
  rw [h.z]
  refine fo_rank (fun w hw hl y => ?_) (fun w hw hl y => ?_)
  · show (if (lf w && alk u p (ct lf w)) = true then _ else _) = _
    rw [hl, Bool.true_and, h.wd hw hl]; rfl
  · show (if (lf w && _) = true then _ else _) = _
    rw [hl]; rfl
theorem tal_w (h : LfR T lf u) (c : Nat) : ct (fun w => akW lf u p w && cl T w q == c) (nW T) = tal u p q c := by
  unfold tal
  rw [h.z]
  refine ct_rank (lf := lf) (f := fun r => alk u p r && col (uW u r) q == c) (fun w hw => ?_)
  cases hl : lf w
  · show ((lf w && _) && _) = _; rw [hl]; rfl
  · show ((lf w && _) && _) = _; rw [hl, h.wd hw hl, Bool.true_and, Bool.true_and]; rfl
theorem tal_0 (h : LfR T lf u) (t : TwOk T) (hq : q < tNp T) (hc : tNc T ≤ c) : tal u p q c = 0 := by
  rw [← tal_w h]
  have : ∀ n, n ≤ nW T → ct (fun w => akW lf u p w && cl T w q == c) n = 0 := by
    intro n
    induction n with
    | zero => intro _; rfl
    | succ n ih =>
      intro hn
      have := cl_lt t (w := n) (by omega) hq
      rw [ct_f (by simp; omega)]
      exact ih (by omega)
  exact this _ (Nat.le_refl _)
theorem mst_w (h : LfR T lf u) (t : TwOk T) (hq : q < tNp T) : fo (fun c m => max m (tal u p q c)) 0 (tNc T) = mst u p q := by
  have g : ∀ d, fo (fun c m => max m (tal u p q c)) 0 (tNc T + d) = fo (fun c m => max m (tal u p q c)) 0 (tNc T) := by
    intro d
    induction d with
    | zero => rfl
    | succ d ih =>
      show max (fo (fun c m => max m (tal u p q c)) 0 (tNc T + d)) (tal u p q (tNc T + d)) = _
      rw [ih, tal_0 h t hq (by omega)]
      omega
  have := g (3 - tNc T)
  rw [show tNc T + (3 - tNc T) = 3 by have := t.1; omega] at this
  exact this.symm
theorem m_coloursOf (hd : LdP S H T N lf u s) (hp : p < tNp T) (hq : q < tNp T) : Pv mX11_coloursOf 2 [.ref 83, vN p, vN q] S H (vN (cfr u p q)) := by
  have hs := hd.ms; have hr := hd.rm; have hlr := hd.lr; have ok := hd.ok; have h23 := hd.s23; have hro := hd.ro; have hF := hs.fx; have hx := hs.mx; have hw := hs.mw; have tk := hs.tk; have tw := hs.tw; have hnp := tw.2.1; have hnc := tw.1; have hWn := nW_le tw; have htr := hlr.2.1; have hnf8 := tk.nf; have htt := hs.tt
  have lp : ∀ (fz : Nat) (m w : Nat), nW T - w < fz → w ≤ nW T → m = fo (fun w b => if akW lf u p w then b ||| (1 <<< cl T w q) else b) 0 w → Xq mX11_coloursOf 2 0 0 5 [some (.ref 83), some (vN p), some (vN q), some (vN m), some (vN w)] [] S H (fun R => R = (some (vN (cfr u p q)), S, H)) := by
    intro fz
    induction fz with
    | zero => intro m w  hfz; exact absurd hfz (by omega)
    | succ fz ih =>
      intro m w  hfz hi hm
      refine xq_iload dX11_coloursOf_5 rfl ?_
      refine xq_aload_n dX11_coloursOf_7 rfl rfl ?_
      refine xq_getIE clX11 (by decide) rfl fl_RX11_335 dX11_coloursOf_8 (Fx.s83 hF) hw.ws ?_
      refine xq_icmp_geN dX11_coloursOf_11 rfl (by omega) (by omega) ⟨fun h11 => ?_, fun h11 => ?_⟩
      · skip
        refine xq_iload_n dX11_coloursOf_51 rfl rfl ?_
        refine xq_iret dX11_coloursOf_52 rfl ?_
        show _ = _; rw [hm, show w = nW T by omega, cfr_w hlr]
      · skip
        refine xq_iload_n dX11_coloursOf_14 rfl rfl ?_
        refine xq_aload_n dX11_coloursOf_15 rfl rfl ?_
        refine xq_iload_n dX11_coloursOf_16 rfl rfl ?_
        refine xq_iload dX11_coloursOf_17 rfl ?_
        refine xq_callV2P clX11 gd_X11_isAlike dX11_coloursOf_19 ml_RX11_397 im_X11_isAlike se_X11_isAlike rfl (Fx.s83 hF) (by exact Nat.le_of_ble_eq_true rfl) (by decide) (m_isAlike hd hp h11) ?_
        refine xq_if_eqB dX11_coloursOf_22 rfl ⟨fun h22 => ?_, fun h22 => ?_⟩
        · skip
          refine xq_iconst dX11_coloursOf_42 ic0 ?_
          refine xq_iorN dX11_coloursOf_43 ?_
          refine xq_istore_n dX11_coloursOf_44 rfl rfl ?_
          refine xq_iincN dX11_coloursOf_45 ic1 rfl rfl ?_
          refine xq_goto dX11_coloursOf_48 rfl ?_
          exact ih _ (w + 1) (by omega) (by omega) (by rw [hm]; simp [fo, h22])
        · skip
          have hcl := cl_3 tw h11 (p := q) (by omega)
          refine xq_iconst dX11_coloursOf_25 ic1 ?_
          refine xq_aload_n dX11_coloursOf_26 rfl rfl ?_
          refine xq_getF clX11 (by decide) rfl fl_RX11_72 dX11_coloursOf_27 (Fx.s83 hF) (Fx.r83_35 hF) ?_
          refine xq_bipush dX11_coloursOf_30 bp6 ?_
          refine xq_iload dX11_coloursOf_32 rfl ?_
          refine xq_imulN dX11_coloursOf_34 ?_
          refine xq_iload_n dX11_coloursOf_35 rfl rfl ?_
          refine xq_iaddN dX11_coloursOf_36 ?_
          refine xq_ialdN dX11_coloursOf_37 (Fx.s103 hF) (by omega) (by decide) (hw.cl w h11 q hq) ?_
          refine xq_ishlN dX11_coloursOf_38 (by omega) ?_
          refine xq_goto dX11_coloursOf_39 rfl ?_
          refine xq_iorN dX11_coloursOf_43 ?_
          refine xq_istore_n dX11_coloursOf_44 rfl rfl ?_
          refine xq_iincN dX11_coloursOf_45 ic1 rfl rfl ?_
          refine xq_goto dX11_coloursOf_48 rfl ?_
          exact ih _ (w + 1) (by omega) (by omega) (by rw [hm]; simp [fo, h22])
  refine vq_ev (vq_intro (by decide) (by exact Nat.le_of_ble_eq_true rfl) rfl ?_)
  refine xq_iconst dX11_coloursOf_0 ic0 ?_
  refine xq_istore_n dX11_coloursOf_1 rfl rfl ?_
  refine xq_iconst dX11_coloursOf_2 ic0 ?_
  refine xq_istore dX11_coloursOf_3 rfl ?_
  exact lp (nW T + 1) 0 0 (by omega) (by omega) rfl
theorem m_manyBy (hd : LdP S H T N lf u s) (hp : p < tNp T) (hq : q < tNp T) (hc : c < 4) : Pv mX11_manyBy 2 [.ref 83, vN p, vN q, vN c] S H (vN (tal u p q c)) := by
  have hs := hd.ms; have hr := hd.rm; have hlr := hd.lr; have ok := hd.ok; have h23 := hd.s23; have hro := hd.ro; have hF := hs.fx; have hx := hs.mx; have hw := hs.mw; have tk := hs.tk; have tw := hs.tw; have hnp := tw.2.1; have hnc := tw.1; have hWn := nW_le tw; have htr := hlr.2.1; have hnf8 := tk.nf; have htt := hs.tt
  have lp : ∀ (fz : Nat) (m w : Nat), nW T - w < fz → w ≤ nW T → m = ct (fun w => akW lf u p w && cl T w q == c) w → Xq mX11_manyBy 2 0 0 6 [some (.ref 83), some (vN p), some (vN q), some (vN c), some (vN m), some (vN w)] [] S H (fun R => R = (some (vN (tal u p q c)), S, H)) := by
    intro fz
    induction fz with
    | zero => intro m w  hfz; exact absurd hfz (by omega)
    | succ fz ih =>
      intro m w  hfz hi hm
      refine xq_iload dX11_manyBy_6 rfl ?_
      refine xq_aload_n dX11_manyBy_8 rfl rfl ?_
      refine xq_getIE clX11 (by decide) rfl fl_RX11_335 dX11_manyBy_9 (Fx.s83 hF) hw.ws ?_
      refine xq_icmp_geN dX11_manyBy_12 rfl (by omega) (by omega) ⟨fun h12 => ?_, fun h12 => ?_⟩
      · skip
        refine xq_iload dX11_manyBy_57 rfl ?_
        refine xq_iret dX11_manyBy_59 rfl ?_
        show _ = _; rw [hm, show w = nW T by omega, tal_w hlr]
      · skip
        refine xq_iload dX11_manyBy_15 rfl ?_
        refine xq_aload_n dX11_manyBy_17 rfl rfl ?_
        refine xq_iload_n dX11_manyBy_18 rfl rfl ?_
        refine xq_iload dX11_manyBy_19 rfl ?_
        refine xq_callV2P clX11 gd_X11_isAlike dX11_manyBy_21 ml_RX11_397 im_X11_isAlike se_X11_isAlike rfl (Fx.s83 hF) (by exact Nat.le_of_ble_eq_true rfl) (by decide) (m_isAlike hd hp h12) ?_
        refine xq_if_eqB dX11_manyBy_24 rfl ⟨fun h24 => ?_, fun h24 => ?_⟩
        · skip
          refine xq_iconst dX11_manyBy_47 ic0 ?_
          refine xq_iaddN dX11_manyBy_48 ?_
          refine xq_istore dX11_manyBy_49 rfl ?_
          refine xq_iincN dX11_manyBy_51 ic1 rfl rfl ?_
          refine xq_goto dX11_manyBy_54 rfl ?_
          exact ih (m + 0) (w + 1) (by omega) (by omega) (by rw [ct_f (by simp [h24]), hm]; rfl)
        · skip
          have hcl := cl_3 tw h12 (p := q) (by omega)
          refine xq_aload_n dX11_manyBy_27 rfl rfl ?_
          refine xq_getF clX11 (by decide) rfl fl_RX11_72 dX11_manyBy_28 (Fx.s83 hF) (Fx.r83_35 hF) ?_
          refine xq_bipush dX11_manyBy_31 bp6 ?_
          refine xq_iload dX11_manyBy_33 rfl ?_
          refine xq_imulN dX11_manyBy_35 ?_
          refine xq_iload_n dX11_manyBy_36 rfl rfl ?_
          refine xq_iaddN dX11_manyBy_37 ?_
          refine xq_ialdN dX11_manyBy_38 (Fx.s103 hF) (by omega) (by decide) (hw.cl w h12 q hq) ?_
          refine xq_iload_n dX11_manyBy_39 rfl rfl ?_
          refine xq_icmp_neN dX11_manyBy_40 rfl (by omega) (by omega) ⟨fun h40 => ?_, fun h40 => ?_⟩
          · skip
            refine xq_iconst dX11_manyBy_47 ic0 ?_
            refine xq_iaddN dX11_manyBy_48 ?_
            refine xq_istore dX11_manyBy_49 rfl ?_
            refine xq_iincN dX11_manyBy_51 ic1 rfl rfl ?_
            refine xq_goto dX11_manyBy_54 rfl ?_
            exact ih (m + 0) (w + 1) (by omega) (by omega) (by rw [ct_f (by simp [h24, h40]), hm]; rfl)
          · skip
            refine xq_iconst dX11_manyBy_43 ic1 ?_
            refine xq_goto dX11_manyBy_44 rfl ?_
            refine xq_iaddN dX11_manyBy_48 ?_
            refine xq_istore dX11_manyBy_49 rfl ?_
            refine xq_iincN dX11_manyBy_51 ic1 rfl rfl ?_
            refine xq_goto dX11_manyBy_54 rfl ?_
            exact ih (m + 1) (w + 1) (by omega) (by omega) (by rw [ct_t (by simp [h24, h40]), hm])
  refine vq_ev (vq_intro (by decide) (by exact Nat.le_of_ble_eq_true rfl) rfl ?_)
  refine xq_iconst dX11_manyBy_0 ic0 ?_
  refine xq_istore dX11_manyBy_1 rfl ?_
  refine xq_iconst dX11_manyBy_3 ic0 ?_
  refine xq_istore dX11_manyBy_4 rfl ?_
  exact lp (nW T + 1) 0 0 (by omega) (by omega) rfl
theorem m_worstBy (hd : LdP S H T N lf u s) (hp : p < tNp T) (hq : q < tNp T) : Pv mX11_worstBy 3 [.ref 83, vN p, vN q] S H (vN (mst u p q)) := by
  have hs := hd.ms; have hr := hd.rm; have hlr := hd.lr; have ok := hd.ok; have h23 := hd.s23; have hro := hd.ro; have hF := hs.fx; have hx := hs.mx; have hw := hs.mw; have tk := hs.tk; have tw := hs.tw; have hnp := tw.2.1; have hnc := tw.1; have hWn := nW_le tw; have htr := hlr.2.1; have hnf8 := tk.nf; have htt := hs.tt; have hz := ok.n
  have lp : ∀ (fz : Nat) (m c : Nat), tNc T - c < fz → c ≤ tNc T → m = fo (fun c m => max m (tal u p q c)) 0 c → Xq mX11_worstBy 3 0 0 5 [some (.ref 83), some (vN p), some (vN q), some (vN m), some (vN c)] [] S H (fun R => R = (some (vN (mst u p q)), S, H)) := by
    intro fz
    induction fz with
    | zero => intro m c  hfz; exact absurd hfz (by omega)
    | succ fz ih =>
      intro m c  hfz hi hm
      refine xq_iload dX11_worstBy_5 rfl ?_
      refine xq_aload_n dX11_worstBy_7 rfl rfl ?_
      refine xq_getF clX11 (by decide) rfl fl_RX11_13 dX11_worstBy_8 (Fx.s83 hF) (Fx.r83_3 hF) ?_
      refine xq_iconst dX11_worstBy_11 ic0 ?_
      refine xq_ialdN dX11_worstBy_12 (Fx.s85 hF) (by omega) (by decide) hx.nc ?_
      refine xq_icmp_geN dX11_worstBy_13 rfl (by omega) (by omega) ⟨fun h13 => ?_, fun h13 => ?_⟩
      · skip
        refine xq_iload_n dX11_worstBy_35 rfl rfl ?_
        refine xq_iret dX11_worstBy_36 rfl ?_
        show _ = _; rw [hm, show c = tNc T by omega, mst_w hlr tw hq]
      · skip
        refine xq_iload_n dX11_worstBy_16 rfl rfl ?_
        refine xq_aload_n dX11_worstBy_17 rfl rfl ?_
        refine xq_iload_n dX11_worstBy_18 rfl rfl ?_
        refine xq_iload_n dX11_worstBy_19 rfl rfl ?_
        refine xq_iload dX11_worstBy_20 rfl ?_
        refine xq_callV3P clX11 gd_X11_manyBy dX11_worstBy_22 ml_RX11_494 im_X11_manyBy se_X11_manyBy rfl (Fx.s83 hF) (by exact Nat.le_of_ble_eq_true rfl) (by decide) (m_manyBy hd hp hq (by omega)) ?_
        have ht := tal_le u p q c; have hz2 := mst_le u p q c
        refine xq_mmaxN dX11_worstBy_25 ml_RX11_498 (by exact Nat.le_of_ble_eq_true rfl) (by decide) (by omega) (by omega) ?_
        refine xq_istore_n dX11_worstBy_28 rfl rfl ?_
        refine xq_iincN dX11_worstBy_29 ic1 rfl rfl ?_
        refine xq_goto dX11_worstBy_32 rfl ?_
        exact ih _ (c + 1) (by omega) (by omega) (by rw [hm]; rfl)
  refine vq_ev (vq_intro (by decide) (by exact Nat.le_of_ble_eq_true rfl) rfl ?_)
  refine xq_iconst dX11_worstBy_0 ic0 ?_
  refine xq_istore_n dX11_worstBy_1 rfl rfl ?_
  refine xq_iconst dX11_worstBy_2 ic0 ?_
  refine xq_istore dX11_worstBy_3 rfl ?_
  exact lp (tNc T + 1) 0 0 (by omega) (by omega) rfl
theorem m_shared (ha : a ≤ 729) (hb : b ≤ 729) : Pv mX11_shared 0 [vN a, vN b] S H (vN (Nat.gcd a b)) := by
  have lp : ∀ (fz : Nat) (x y : Nat) (z : Option Value), y < fz → x ≤ 729 → y ≤ 729 → Nat.gcd x y = Nat.gcd a b → Xq mX11_shared 0 0 0 4 [some (vN a), some (vN b), some (vN x), some (vN y), none] [] S H (fun R => R = (some (vN (Nat.gcd a b)), S, H)) := by
    intro fz
    induction fz with
    | zero => intro x y  z  hfz; exact absurd hfz (by omega)
    | succ fz ih =>
      intro x y  z  hfz hx hy hg
      refine xq_iload_n dX11_shared_4 rfl rfl ?_
      refine xq_if_eqN dX11_shared_5 rfl (by omega) ⟨fun h5 => ?_, fun h5 => ?_⟩
      · skip
        refine xq_iload_n dX11_shared_21 rfl rfl ?_
        refine xq_iret dX11_shared_22 rfl ?_
        show _ = _; subst h5; rw [← hg, Nat.gcd_zero_right]
      · skip
        refine xq_iload_n dX11_shared_8 rfl rfl ?_
        refine xq_iload_n dX11_shared_9 rfl rfl ?_
        have hyp : 0 < y := by omega
        have hml := Nat.mod_lt x hyp
        refine xq_iremN dX11_shared_10 (by omega) (by omega) (fun e => h5 ((nq_eq0 (by omega)).mp e)) ?_
        refine xq_istore dX11_shared_11 rfl ?_
        refine xq_iload_n dX11_shared_13 rfl rfl ?_
        refine xq_istore_n dX11_shared_14 rfl rfl ?_
        refine xq_iload dX11_shared_15 rfl ?_
        refine xq_istore_n dX11_shared_17 rfl rfl ?_
        refine xq_goto dX11_shared_18 rfl ?_
        exact xq_fgt (ih y (x % y) none (by omega) (by omega) (by omega) (by rw [← hg, Nat.gcd_comm x y, Nat.gcd_rec y x, Nat.gcd_comm])) (by exact And.intro rfl (And.intro rfl (And.intro rfl (And.intro rfl (trivial)))))
  refine vq_ev (vq_intro (by decide) (by exact Nat.le_of_ble_eq_true rfl) rfl ?_)
  refine xq_iload_n dX11_shared_0 rfl rfl ?_
  refine xq_istore_n dX11_shared_1 rfl rfl ?_
  refine xq_iload_n dX11_shared_2 rfl rfl ?_
  refine xq_istore_n dX11_shared_3 rfl rfl ?_
  exact lp (b + 1) a b none (by omega) ha hb rfl
theorem m_areTwo1 (hs : MsP S H T N) (hp : p < tNp T) (hq : q < tNp T) (hpq : p ≠ q) : Pv mX11_areTwo 1 [.ref 83, vN p, vN q] S H (vN 1) := by
  have hF := hs.fx; have hnp := hs.tw.2.1
  refine vq_ev (vq_intro (by decide) (by exact Nat.le_of_ble_eq_true rfl) rfl ?_)
  refine xq_aload_n dX11_areTwo_0 rfl rfl ?_
  refine xq_iload_n dX11_areTwo_1 rfl rfl ?_
  refine xq_callV1P clX11 gd_X11_isPerson dX11_areTwo_2 ml_RX11_460 im_X11_isPerson se_X11_isPerson rfl (Fx.s83 hF) (by exact Nat.le_of_ble_eq_true rfl) (by decide) (m_isPerson1 hs hp) ?_
  refine xq_if_eqN dX11_areTwo_5 rfl (by omega) ⟨fun h5 => ?_, fun h5 => ?_⟩
  · skip
    first | exact absurd h5 (by decide) | exact absurd rfl h5
  · skip
    refine xq_aload_n dX11_areTwo_8 rfl rfl ?_
    refine xq_iload_n dX11_areTwo_9 rfl rfl ?_
    refine xq_callV1P clX11 gd_X11_isPerson dX11_areTwo_10 ml_RX11_460 im_X11_isPerson se_X11_isPerson rfl (Fx.s83 hF) (by exact Nat.le_of_ble_eq_true rfl) (by decide) (m_isPerson1 hs hq) ?_
    refine xq_if_eqN dX11_areTwo_13 rfl (by omega) ⟨fun h13 => ?_, fun h13 => ?_⟩
    · skip
      first | exact absurd h13 (by decide) | exact absurd rfl h13
    · skip
      refine xq_iload_n dX11_areTwo_16 rfl rfl ?_
      refine xq_iload_n dX11_areTwo_17 rfl rfl ?_
      refine xq_icmp_eqN dX11_areTwo_18 rfl (by omega) (by omega) ⟨fun h18 => ?_, fun h18 => ?_⟩
      · skip
        exact absurd h18 hpq
      · skip
        refine xq_iconst dX11_areTwo_21 ic1 ?_
        refine xq_goto dX11_areTwo_22 rfl ?_
        refine xq_zret dX11_areTwo_26 rfl (by decide) ?_
        rfl
theorem m_areTwo0 (hs : MsP S H T N) (hno : ¬ (hasB ww (tNp T) = true ∧ hasB w2 (tNp T) = true ∧ ww ≠ w2)) : Pv mX11_areTwo 1 [.ref 83, .int ww, .int w2] S H (vN 0) := by
  have hF := hs.fx
  refine vq_ev (vq_intro (by decide) (by exact Nat.le_of_ble_eq_true rfl) rfl ?_)
  refine xq_aload_n dX11_areTwo_0 rfl rfl ?_
  refine xq_iload_n dX11_areTwo_1 rfl rfl ?_
  refine xq_callV1P clX11 gd_X11_isPerson dX11_areTwo_2 ml_RX11_460 im_X11_isPerson se_X11_isPerson rfl (Fx.s83 hF) (by exact Nat.le_of_ble_eq_true rfl) (by decide) (m_isPerson hs) ?_
  refine xq_if_eqB dX11_areTwo_5 rfl ⟨fun h5 => ?_, fun h5 => ?_⟩
  · skip
    refine xq_iconst dX11_areTwo_25 ic0 ?_
    refine xq_zret dX11_areTwo_26 rfl (by decide) ?_
    rfl
  · skip
    refine xq_aload_n dX11_areTwo_8 rfl rfl ?_
    refine xq_iload_n dX11_areTwo_9 rfl rfl ?_
    refine xq_callV1P clX11 gd_X11_isPerson dX11_areTwo_10 ml_RX11_460 im_X11_isPerson se_X11_isPerson rfl (Fx.s83 hF) (by exact Nat.le_of_ble_eq_true rfl) (by decide) (m_isPerson hs) ?_
    refine xq_if_eqB dX11_areTwo_13 rfl ⟨fun h13 => ?_, fun h13 => ?_⟩
    · skip
      refine xq_iconst dX11_areTwo_25 ic0 ?_
      refine xq_zret dX11_areTwo_26 rfl (by decide) ?_
      rfl
    · skip
      refine xq_iload_n dX11_areTwo_16 rfl rfl ?_
      refine xq_iload_n dX11_areTwo_17 rfl rfl ?_
      refine xq_icmp_eq dX11_areTwo_18 rfl ⟨fun h18 => ?_, fun h18 => ?_⟩
      · skip
        refine xq_iconst dX11_areTwo_25 ic0 ?_
        refine xq_zret dX11_areTwo_26 rfl (by decide) ?_
        rfl
      · skip
        exact absurd ⟨h5, h13, h18⟩ hno
theorem subM {a b : Nat} (ha : a < 2147483648) (hb : b < 2147483648) : (if nI 0 < nI a - nI b then nI a - nI b else nI 0) = nI (a - b) := by
  by_cases h : b ≤ a
  · rw [nq_sub h]
    by_cases e : 0 < a - b
    · rw [if_pos ((nq_ltI (by decide) (by omega)).mpr e)]
    · rw [if_neg (fun z => e ((nq_ltI (by decide) (by omega)).mp z)), show a - b = 0 by omega]
  · rw [nI_subI]
    have hz := zI_toInt (b := (a : Int) - b) (by omega) (by omega)
    rw [if_neg (fun z => by rw [Int32.lt_iff_toInt_lt, hz] at z; rw [nI_toInt (by decide)] at z; omega), show a - b = 0 by omega]
theorem m_hasOf (hd : LdP S H T N lf u 0) (hp : p < tNp T) (hm1 : m ≤ 1) (hj1 : j ≤ 1) : Pv mX11_hasOf 3 [.ref 83, vN p, vN m, vN j] S H (vN (shr u p m j)) := by
  have hs := hd.ms; have hr := hd.rm; have hlr := hd.lr; have ok := hd.ok; have h23 := hd.s23; have hro := hd.ro; have hF := hs.fx; have hx := hs.mx; have hw := hs.mw; have tk := hs.tk; have tw := hs.tw; have hnp := tw.2.1; have hnc := tw.1; have hWn := nW_le tw; have htr := hlr.2.1; have hnf8 := tk.nf; have htt := hs.tt
  have hse := ok.se (p := p) (by omega); have hpop := pop_le (uSe u p); have hal := alikeN_le u p; have hz := ok.n
  refine vq_ev (vq_intro (by decide) (by exact Nat.le_of_ble_eq_true rfl) rfl ?_)
  refine xq_aload_n dX11_hasOf_0 rfl rfl ?_
  refine xq_getF clX11 (by decide) rfl fl_RX11_90 dX11_hasOf_1 (Fx.s83 hF) (Fx.r83_43 hF) ?_
  refine xq_iload_n dX11_hasOf_4 rfl rfl ?_
  refine xq_ialdN (v := nI (uSe u p)) dX11_hasOf_5 (Fx.s109 hF) (by omega) (by decide) ((congrArg (hI H 109) (by omega)).trans (hr.se p (by omega))) ?_
  refine xq_callS1P gd_X11_bitsOf dX11_hasOf_6 ml_RX11_404 im_X11_bitsOf (by exact Nat.le_of_ble_eq_true rfl) (by decide) (m_bitsOf (by omega)) ?_
  refine xq_istore dX11_hasOf_9 rfl ?_
  refine xq_iload_n dX11_hasOf_11 rfl rfl ?_
  refine xq_if_neN dX11_hasOf_12 rfl (by omega) ⟨fun h12 => ?_, fun h12 => ?_⟩
  · skip
    refine xq_iload_n dX11_hasOf_37 rfl rfl ?_
    refine xq_if_neN dX11_hasOf_38 rfl (by omega) ⟨fun h38 => ?_, fun h38 => ?_⟩
    · skip
      refine xq_iload dX11_hasOf_48 rfl ?_
      refine xq_iret dX11_hasOf_50 rfl ?_
      show _ = _; unfold shr; rw [if_neg h12, if_neg h38]; rfl
    · skip
      refine xq_iload dX11_hasOf_41 rfl ?_
      refine xq_iconst dX11_hasOf_43 ic2 ?_
      refine xq_iaddN dX11_hasOf_44 ?_
      refine xq_goto dX11_hasOf_45 rfl ?_
      refine xq_iret dX11_hasOf_50 rfl ?_
      show _ = _; unfold shr; rw [if_neg h12, if_pos h38]
  · skip
    refine xq_iconst dX11_hasOf_15 ic0 ?_
    refine xq_iload_n dX11_hasOf_16 rfl rfl ?_
    refine xq_if_neN dX11_hasOf_17 rfl (by omega) ⟨fun h17 => ?_, fun h17 => ?_⟩
    · skip
      refine xq_bipush dX11_hasOf_25 bp12 ?_
      refine xq_aload_n dX11_hasOf_27 rfl rfl ?_
      refine xq_iload_n dX11_hasOf_28 rfl rfl ?_
      refine xq_callV1P clX11 gd_X11_alikeMany dX11_hasOf_29 ml_RX11_410 im_X11_alikeMany se_X11_alikeMany rfl (Fx.s83 hF) (by exact Nat.le_of_ble_eq_true rfl) (by decide) (m_alikeMany hd hp) ?_
      refine xq_isub dX11_hasOf_32 ?_
      refine xq_mmax dX11_hasOf_33 ml_RX11_498 (by exact Nat.le_of_ble_eq_true rfl) (by decide) ?_
      rw [subM (by omega) (by omega)]
      refine xq_iret dX11_hasOf_36 rfl ?_
      show _ = _; unfold shr; rw [if_pos h12, if_neg h17]
    · skip
      refine xq_bipush dX11_hasOf_20 bp9 ?_
      refine xq_goto dX11_hasOf_22 rfl ?_
      refine xq_aload_n dX11_hasOf_27 rfl rfl ?_
      refine xq_iload_n dX11_hasOf_28 rfl rfl ?_
      refine xq_callV1P clX11 gd_X11_alikeMany dX11_hasOf_29 ml_RX11_410 im_X11_alikeMany se_X11_alikeMany rfl (Fx.s83 hF) (by exact Nat.le_of_ble_eq_true rfl) (by decide) (m_alikeMany hd hp) ?_
      refine xq_isub dX11_hasOf_32 ?_
      refine xq_mmax dX11_hasOf_33 ml_RX11_498 (by exact Nat.le_of_ble_eq_true rfl) (by decide) ?_
      rw [subM (by omega) (by omega)]
      refine xq_iret dX11_hasOf_36 rfl ?_
      show _ = _; unfold shr; rw [if_pos h12, if_pos h17]
theorem m_isRest (hd : LdP S H T N lf u 0) (hp : p < tNp T) (hq : q < tNp T) (hn : n < 4) : Pv mX11_isRest 4 [.ref 83, vN p, vN q, vN n] S H (vB (isR u p q n)) := by
  have hs := hd.ms; have hr := hd.rm; have hlr := hd.lr; have ok := hd.ok; have h23 := hd.s23; have hro := hd.ro; have hF := hs.fx; have hx := hs.mx; have hw := hs.mw; have tk := hs.tk; have tw := hs.tw; have hnp := tw.2.1; have hnc := tw.1; have hWn := nW_le tw; have htr := hlr.2.1; have hnf8 := tk.nf; have htt := hs.tt
  have hz := ok.n
  have e1 : n / 2 = n >>> 1 := by rw [Nat.shiftRight_eq_div_pow]
  have e2 : n % 2 = n &&& 1 := (Nat.and_one_is_mod n).symm
  have b1 : n >>> 1 ≤ 1 := by omega
  have b2 : n &&& 1 ≤ 1 := Nat.and_le_right
  have s1 := shr_lt ok p (1 - n >>> 1) (n &&& 1); have s2 := shr_lt ok p (n >>> 1) (n &&& 1); have s3 := shr_lt ok q (1 - (n &&& 1)) (n >>> 1); have s4 := shr_lt ok q (n &&& 1) (n >>> 1)
  refine vq_ev (vq_intro (by decide) (by exact Nat.le_of_ble_eq_true rfl) rfl ?_)
  refine xq_iload_n dX11_isRest_0 rfl rfl ?_
  refine xq_iconst dX11_isRest_1 ic2 ?_
  refine xq_idivN dX11_isRest_2 (by omega) (by omega) (by decide) ?_
  rw [e1]
  refine xq_istore dX11_isRest_3 rfl ?_
  refine xq_iload_n dX11_isRest_5 rfl rfl ?_
  refine xq_iconst dX11_isRest_6 ic2 ?_
  refine xq_iremN dX11_isRest_7 (by omega) (by omega) (by decide) ?_
  rw [e2]
  refine xq_istore dX11_isRest_8 rfl ?_
  refine xq_aload_n dX11_isRest_10 rfl rfl ?_
  refine xq_iload_n dX11_isRest_11 rfl rfl ?_
  refine xq_iconst dX11_isRest_12 ic1 ?_
  refine xq_iload dX11_isRest_13 rfl ?_
  refine xq_isubN dX11_isRest_15 (by omega) ?_
  refine xq_iload dX11_isRest_16 rfl ?_
  refine xq_callV3P clX11 gd_X11_hasOf dX11_isRest_18 ml_RX11_509 im_X11_hasOf se_X11_hasOf rfl (Fx.s83 hF) (by exact Nat.le_of_ble_eq_true rfl) (by decide) (m_hasOf hd hp (by omega) (by omega)) ?_
  refine xq_aload_n dX11_isRest_21 rfl rfl ?_
  refine xq_iload_n dX11_isRest_22 rfl rfl ?_
  refine xq_iload dX11_isRest_23 rfl ?_
  refine xq_iload dX11_isRest_25 rfl ?_
  refine xq_callV3P clX11 gd_X11_hasOf dX11_isRest_27 ml_RX11_509 im_X11_hasOf se_X11_hasOf rfl (Fx.s83 hF) (by exact Nat.le_of_ble_eq_true rfl) (by decide) (m_hasOf hd hp (by omega) (by omega)) ?_
  refine xq_icmp_gtN dX11_isRest_30 rfl (by omega) (by omega) ⟨fun h30 => ?_, fun h30 => ?_⟩
  · skip
    refine xq_iconst dX11_isRest_60 ic0 ?_
    refine xq_zret dX11_isRest_61 rfl (by decide) ?_
    show _ = _; rw [show isR u p q n = false by unfold isR; rw [decide_eq_false (by omega)]; rfl]; rfl
  · skip
    refine xq_aload_n dX11_isRest_33 rfl rfl ?_
    refine xq_iload_n dX11_isRest_34 rfl rfl ?_
    refine xq_iconst dX11_isRest_35 ic1 ?_
    refine xq_iload dX11_isRest_36 rfl ?_
    refine xq_isubN dX11_isRest_38 (by omega) ?_
    refine xq_iload dX11_isRest_39 rfl ?_
    refine xq_callV3P clX11 gd_X11_hasOf dX11_isRest_41 ml_RX11_509 im_X11_hasOf se_X11_hasOf rfl (Fx.s83 hF) (by exact Nat.le_of_ble_eq_true rfl) (by decide) (m_hasOf hd hq (by omega) (by omega)) ?_
    refine xq_aload_n dX11_isRest_44 rfl rfl ?_
    refine xq_iload_n dX11_isRest_45 rfl rfl ?_
    refine xq_iload dX11_isRest_46 rfl ?_
    refine xq_iload dX11_isRest_48 rfl ?_
    refine xq_callV3P clX11 gd_X11_hasOf dX11_isRest_50 ml_RX11_509 im_X11_hasOf se_X11_hasOf rfl (Fx.s83 hF) (by exact Nat.le_of_ble_eq_true rfl) (by decide) (m_hasOf hd hq (by omega) (by omega)) ?_
    refine xq_icmp_gtN dX11_isRest_53 rfl (by omega) (by omega) ⟨fun h53 => ?_, fun h53 => ?_⟩
    · skip
      refine xq_iconst dX11_isRest_60 ic0 ?_
      refine xq_zret dX11_isRest_61 rfl (by decide) ?_
      show _ = _; rw [show isR u p q n = false by unfold isR; rw [decide_eq_false (by omega : ¬ shr u q _ _ ≤ _)]; simp]; rfl
    · skip
      refine xq_iconst dX11_isRest_56 ic1 ?_
      refine xq_goto dX11_isRest_57 rfl ?_
      refine xq_zret dX11_isRest_61 rfl (by decide) ?_
      show _ = _; rw [show isR u p q n = true by unfold isR; rw [decide_eq_true h30, decide_eq_true h53]; rfl]; rfl
theorem fsV_tb (T : uTx) (u : uSt) (p g : Nat) : (fsV T u p).testBit g = (decide (g < tNf T) && kv T u (tRo T g) p) := by
  have : ∀ n, (fo (fun f b => b ||| (kv T u (tRo T f) p).toNat <<< f) 0 n).testBit g = (decide (g < n) && kv T u (tRo T g) p) := by
    intro n
    have := kwN_tb (fb := fun f => kv T u (tRo T f) p) g n
    exact this
  exact this _
theorem LdP.so1 (hd : LdP S H T N lf u s) (hf : f < tNf T) (hw2 : w < nW T) (hl : lf w = true) : hI H 117 (729 * f + w) = bI (kv T u (tRo T f) (ct lf w)) := by
  obtain ⟨Rw, h1, h2⟩ := hd.so f hf
  rw [h1 w hw2, h2 w hw2 hl]
theorem LdP.so0 (hd : LdP S H T N lf u s) (hf : f < tNf T) (hw2 : w < nW T) : ∃ b, hI H 117 (729 * f + w) = bI b := by
  obtain ⟨Rw, h1, h2⟩ := hd.so f hf
  exact ⟨_, h1 w hw2⟩
/-- all facts of m are so at place p -/
noncomputable def aso (T : uTx) (u : uSt) (m p n : Nat) : Bool := !(ex (fun f => m.testBit f && !(kv T u (tRo T f) p)) n)
theorem m_areSo (hd : LdP S H T N lf u s) (hm : m < 256) : Pv mX11_areSo 0 [.ref 83, vN m] S H (vB (aso T u m (uRl u) (tNf T))) := by
  have hs := hd.ms; have hr := hd.rm; have hlr := hd.lr; have ok := hd.ok; have h23 := hd.s23; have hro := hd.ro; have hF := hs.fx; have hx := hs.mx; have hw := hs.mw; have tk := hs.tk; have tw := hs.tw; have hnp := tw.2.1; have hnc := tw.1; have hWn := nW_le tw; have htr := hlr.2.1; have hnf8 := tk.nf; have htt := hs.tt
  have lp : ∀ (fz : Nat) (f : Nat), tNf T - f < fz → f ≤ tNf T → ex (fun f => m.testBit f && !(kv T u (tRo T f) (uRl u))) f = false → Xq mX11_areSo 0 0 0 2 [some (.ref 83), some (vN m), some (vN f)] [] S H (fun R => R = (some (vB (aso T u m (uRl u) (tNf T))), S, H)) := by
    intro fz
    induction fz with
    | zero => intro f  hfz; exact absurd hfz (by omega)
    | succ fz ih =>
      intro f  hfz hi hno
      refine xq_iload_n dX11_areSo_2 rfl rfl ?_
      refine xq_aload_n dX11_areSo_3 rfl rfl ?_
      refine xq_getF clX11 (by decide) rfl fl_RX11_13 dX11_areSo_4 (Fx.s83 hF) (Fx.r83_3 hF) ?_
      refine xq_iconst dX11_areSo_7 ic2 ?_
      refine xq_ialdN dX11_areSo_8 (Fx.s85 hF) (by omega) (by decide) hx.nf ?_
      refine xq_icmp_geN dX11_areSo_9 rfl (by omega) (by omega) ⟨fun h9 => ?_, fun h9 => ?_⟩
      · skip
        refine xq_iconst dX11_areSo_47 ic1 ?_
        refine xq_zret dX11_areSo_48 rfl (by decide) ?_
        show _ = _; rw [show aso T u m (uRl u) (tNf T) = true by unfold aso; rw [show tNf T = f by omega, hno]; rfl]; rfl
      · skip
        have hb := shr_le m f; have hb2 : m >>> f &&& 1 ≤ 1 := Nat.and_le_right
        have hso := hd.so1 h9 htr hlr.2.2.1
        rw [← hlr.2.2.2.1] at hso
        refine xq_iload_n dX11_areSo_12 rfl rfl ?_
        refine xq_iload_n dX11_areSo_13 rfl rfl ?_
        refine xq_ishrN dX11_areSo_14 (by omega) (by omega) ?_
        refine xq_iconst dX11_areSo_15 ic1 ?_
        refine xq_iandN dX11_areSo_16 ?_
        refine xq_iconst dX11_areSo_17 ic1 ?_
        refine xq_icmp_neN dX11_areSo_18 rfl (by omega) (by omega) ⟨fun h18 => ?_, fun h18 => ?_⟩
        · skip
          refine xq_iincN dX11_areSo_41 ic1 rfl rfl ?_
          refine xq_goto dX11_areSo_44 rfl ?_
          exact ih (f + 1) (by omega) (by omega) (by rw [ex_s, hno, show m.testBit f = false from Bool.eq_false_iff.mpr (fun z => h18 (tb1.mpr z))]; rfl)
        · skip
          refine xq_aload_n dX11_areSo_21 rfl rfl ?_
          refine xq_getF clX11 (by decide) rfl fl_RX11_115 dX11_areSo_22 (Fx.s83 hF) (Fx.r83_54 hF) ?_
          refine xq_sipush dX11_areSo_25 sp729 ?_
          refine xq_iload_n dX11_areSo_28 rfl rfl ?_
          refine xq_imulN dX11_areSo_29 ?_
          refine xq_aload_n dX11_areSo_30 rfl rfl ?_
          refine xq_getIE clX11 (by decide) rfl fl_RX11_338 dX11_areSo_31 (Fx.s83 hF) hw.tr ?_
          refine xq_iaddN dX11_areSo_34 ?_
          refine xq_zaldN dX11_areSo_35 (Fx.s117 hF) (by omega) (by decide) hso ?_
          refine xq_if_neB dX11_areSo_36 rfl ⟨fun h36 => ?_, fun h36 => ?_⟩
          · skip
            refine xq_iincN dX11_areSo_41 ic1 rfl rfl ?_
            refine xq_goto dX11_areSo_44 rfl ?_
            exact ih (f + 1) (by omega) (by omega) (by rw [ex_s, hno, h36]; simp)
          · skip
            refine xq_iconst dX11_areSo_39 ic0 ?_
            refine xq_zret dX11_areSo_40 rfl (by decide) ?_
            show _ = _; rw [show aso T u m (uRl u) (tNf T) = false by unfold aso; rw [ex_iff.mpr ⟨f, h9, by rw [tb1.mp h18, h36]; rfl⟩]; rfl]; rfl
  refine vq_ev (vq_intro (by decide) (by exact Nat.le_of_ble_eq_true rfl) rfl ?_)
  refine xq_iconst dX11_areSo_0 ic0 ?_
  refine xq_istore_n dX11_areSo_1 rfl rfl ?_
  exact lp (tNf T + 1) 0 (by omega) (by omega) rfl
noncomputable def wkn (T : uTx) (u : uSt) (p m : Nat) : Bool := (!(ex (fun r => alk u p r && (col (uW u r) p != tHt T p && aso T u m r (tNf T))) (uZ u)))
theorem wkn_w (h : LfR T lf u) : wkn T u p m = !(ex (fun v => akW lf u p v && (cl T v p != tHt T p && aso T u m (ct lf v) (tNf T))) (nW T)) := by
  unfold wkn
  rw [h.z]
  congr 1
  symm
  refine ex_rank (lf := lf) (f := fun r => alk u p r && (col (uW u r) p != tHt T p && aso T u m r (tNf T))) (fun v hv => ?_)
  cases hl : lf v
  · show ((lf v && _) && _) = _; rw [hl]; rfl
  · show ((lf v && _) && _) = _; rw [hl, h.wd hv hl, Bool.true_and, Bool.true_and]; rfl
theorem tb0 {x i : Nat} (h : ¬ (x >>> i &&& 1 = 0)) : x.testBit i = true := by
  cases e : x.testBit i
  · exact absurd ((tb_shr x i).mpr e) h
  · rfl
theorem aso_s (T : uTx) (u : uSt) (m p n : Nat) : aso T u m p (n + 1) = (aso T u m p n && !(m.testBit n && !(kv T u (tRo T n) p))) := by
  unfold aso
  rw [ex_s, Bool.not_or]
theorem aso_t (h : m.testBit f = false ∨ kv T u (tRo T f) p = true) {bb : Bool} (hb : bb = aso T u m p f) : bI bb &&& nI 1 = bI (aso T u m p (f + 1)) := by
  rw [hb, aso_s]
  have : (!(m.testBit f && !(kv T u (tRo T f) p))) = true := by rcases h with e | e <;> rw [e] <;> simp
  rw [this]
  cases aso T u m p f <;> rfl
theorem aso_f (h : m.testBit f = true) (h2 : kv T u (tRo T f) p = false) (bb : Bool) : bI bb &&& nI 0 = bI (aso T u m p (f + 1)) := by
  rw [aso_s, h, h2]
  cases bb <;> simp <;> rfl
theorem m_wouldKnow (hd : LdP S H T N lf u s) (hp : p < tNp T) (hm : m < 256) : Pv mX11_wouldKnow 2 [.ref 83, vN p, vN m] S H (vB (wkn T u p m)) := by
  have hs := hd.ms; have hr := hd.rm; have hlr := hd.lr; have ok := hd.ok; have h23 := hd.s23; have hro := hd.ro; have hF := hs.fx; have hx := hs.mx; have hw := hs.mw; have tk := hs.tk; have tw := hs.tw; have hnp := tw.2.1; have hnc := tw.1; have hWn := nW_le tw; have htr := hlr.2.1; have hnf8 := tk.nf; have htt := hs.tt
  have lp : ∀ (fz : Nat) (w : Nat), nW T - w < fz → w ≤ nW T → ex (fun v => akW lf u p v && (cl T v p != tHt T p && aso T u m (ct lf v) (tNf T))) w = false → Xq mX11_wouldKnow 2 0 0 2 [some (.ref 83), some (vN p), some (vN m), some (vN w), none, none] [] S H (fun R => R = (some (vB (wkn T u p m)), S, H)) := by
    intro fz
    induction fz with
    | zero => intro w  hfz; exact absurd hfz (by omega)
    | succ fz ih =>
      intro w  hfz hi hno
      refine xq_iload_n dX11_wouldKnow_2 rfl rfl ?_
      refine xq_aload_n dX11_wouldKnow_3 rfl rfl ?_
      refine xq_getIE clX11 (by decide) rfl fl_RX11_335 dX11_wouldKnow_4 (Fx.s83 hF) hw.ws ?_
      refine xq_icmp_geN dX11_wouldKnow_7 rfl (by omega) (by omega) ⟨fun h7 => ?_, fun h7 => ?_⟩
      · skip
        refine xq_iconst dX11_wouldKnow_113 ic1 ?_
        refine xq_zret dX11_wouldKnow_114 rfl (by decide) ?_
        show _ = _; rw [show wkn T u p m = true by rw [wkn_w hlr, show nW T = w by omega, hno]; rfl]; rfl
      · skip
        refine xq_aload_n dX11_wouldKnow_10 rfl rfl ?_
        refine xq_iload_n dX11_wouldKnow_11 rfl rfl ?_
        refine xq_iload_n dX11_wouldKnow_12 rfl rfl ?_
        refine xq_callV2P clX11 gd_X11_isAlike dX11_wouldKnow_13 ml_RX11_397 im_X11_isAlike se_X11_isAlike rfl (Fx.s83 hF) (by exact Nat.le_of_ble_eq_true rfl) (by decide) (m_isAlike hd hp h7) ?_
        refine xq_if_eqB dX11_wouldKnow_16 rfl ⟨fun h16 => ?_, fun h16 => ?_⟩
        · skip
          refine xq_iincN dX11_wouldKnow_107 ic1 rfl rfl ?_
          refine xq_goto dX11_wouldKnow_110 rfl ?_
          exact xq_fgt (ih (w + 1) (by omega) (by omega) (by rw [ex_s, hno, h16]; simp)) (by exact And.intro rfl (And.intro rfl (And.intro rfl (And.intro rfl (trivial)))))
        · skip
          have hww := h7
          have hak := h16
          have hlw : lf w = true := by unfold akW at h16; simp at h16; exact h16.1
          have hcl := cl_3 tw h7 (p := p) (by omega)
          have hht := tk.ht p hp
          refine xq_aload_n dX11_wouldKnow_19 rfl rfl ?_
          refine xq_getF clX11 (by decide) rfl fl_RX11_72 dX11_wouldKnow_20 (Fx.s83 hF) (Fx.r83_35 hF) ?_
          refine xq_bipush dX11_wouldKnow_23 bp6 ?_
          refine xq_iload_n dX11_wouldKnow_25 rfl rfl ?_
          refine xq_imulN dX11_wouldKnow_26 ?_
          refine xq_iload_n dX11_wouldKnow_27 rfl rfl ?_
          refine xq_iaddN dX11_wouldKnow_28 ?_
          refine xq_ialdN dX11_wouldKnow_29 (Fx.s103 hF) (by omega) (by decide) (hw.cl w h7 p hp) ?_
          refine xq_aload_n dX11_wouldKnow_30 rfl rfl ?_
          refine xq_getF clX11 (by decide) rfl fl_RX11_25 dX11_wouldKnow_31 (Fx.s83 hF) (Fx.r83_7 hF) ?_
          refine xq_iload_n dX11_wouldKnow_34 rfl rfl ?_
          refine xq_ialdN dX11_wouldKnow_35 (Fx.s89 hF) (by omega) (by decide) ((hx.pe p hp).2.1) ?_
          refine xq_icmp_neN dX11_wouldKnow_36 rfl (by omega) (by omega) ⟨fun h36 => ?_, fun h36 => ?_⟩
          · skip
            have ih0 := ih
            have lq : ∀ (fz : Nat) (f : Nat) (b : Bool), tNf T - f < fz → f ≤ tNf T → b = aso T u m (ct lf w) f → Xq mX11_wouldKnow 2 0 0 48 [some (.ref 83), some (vN p), some (vN m), some (vN w), some (vB b), some (vN f)] [] S H (fun R => R = (some (vB (wkn T u p m)), S, H)) := by
              intro fz
              induction fz with
              | zero => intro f  b  hfz; exact absurd hfz (by omega)
              | succ fz ih =>
                intro f  b  hfz hi2 hb
                refine xq_iload dX11_wouldKnow_48 rfl ?_
                refine xq_aload_n dX11_wouldKnow_50 rfl rfl ?_
                refine xq_getF clX11 (by decide) rfl fl_RX11_13 dX11_wouldKnow_51 (Fx.s83 hF) (Fx.r83_3 hF) ?_
                refine xq_iconst dX11_wouldKnow_54 ic2 ?_
                refine xq_ialdN dX11_wouldKnow_55 (Fx.s85 hF) (by omega) (by decide) hx.nf ?_
                refine xq_icmp_geN dX11_wouldKnow_56 rfl (by omega) (by omega) ⟨fun h56 => ?_, fun h56 => ?_⟩
                · skip
                  refine xq_iload dX11_wouldKnow_100 rfl ?_
                  refine xq_if_eqB dX11_wouldKnow_102 rfl ⟨fun h102 => ?_, fun h102 => ?_⟩
                  · skip
                    refine xq_iincN dX11_wouldKnow_107 ic1 rfl rfl ?_
                    refine xq_goto dX11_wouldKnow_110 rfl ?_
                    have ef : f = tNf T := by omega
                    subst hb
                    subst ef
                    exact xq_fgt (ih0 (w + 1) (by omega) (by omega) (by rw [ex_s, hno, h102]; simp)) (by exact And.intro rfl (And.intro rfl (And.intro rfl (And.intro rfl (trivial)))))
                  · skip
                    refine xq_iconst dX11_wouldKnow_105 ic0 ?_
                    refine xq_zret dX11_wouldKnow_106 rfl (by decide) ?_
                    have ef : f = tNf T := by omega
                    subst hb
                    rw [ef] at h102
                    show _ = _; rw [show wkn T u p m = false by rw [wkn_w hlr, ex_iff.mpr ⟨w, hww, by rw [hak, h102]; simp [h36]⟩]; rfl]; rfl
                · skip
                  have hb1 := shr_le m f; have hb2 : m >>> f &&& 1 ≤ 1 := Nat.and_le_right
                  have hso := hd.so1 h56 hww hlw
                  refine xq_iload dX11_wouldKnow_59 rfl ?_
                  refine xq_iload_n dX11_wouldKnow_61 rfl rfl ?_
                  refine xq_iload dX11_wouldKnow_62 rfl ?_
                  refine xq_ishrN dX11_wouldKnow_64 (by omega) (by omega) ?_
                  refine xq_iconst dX11_wouldKnow_65 ic1 ?_
                  refine xq_iandN dX11_wouldKnow_66 ?_
                  refine xq_if_eqN dX11_wouldKnow_67 rfl (by omega) ⟨fun h67 => ?_, fun h67 => ?_⟩
                  · skip
                    refine xq_iconst dX11_wouldKnow_86 ic1 ?_
                    refine xq_goto dX11_wouldKnow_87 rfl ?_
                    refine xq_iand dX11_wouldKnow_91 ?_
                    rw [aso_t (Or.inl ((tb_shr m f).mp h67)) hb]
                    refine xq_istore dX11_wouldKnow_92 rfl ?_
                    refine xq_iincN dX11_wouldKnow_94 ic1 rfl rfl ?_
                    refine xq_goto dX11_wouldKnow_97 rfl ?_
                    exact ih (f + 1) _ (by omega) (by omega) rfl
                  · skip
                    refine xq_aload_n dX11_wouldKnow_70 rfl rfl ?_
                    refine xq_getF clX11 (by decide) rfl fl_RX11_115 dX11_wouldKnow_71 (Fx.s83 hF) (Fx.r83_54 hF) ?_
                    refine xq_sipush dX11_wouldKnow_74 sp729 ?_
                    refine xq_iload dX11_wouldKnow_77 rfl ?_
                    refine xq_imulN dX11_wouldKnow_79 ?_
                    refine xq_iload_n dX11_wouldKnow_80 rfl rfl ?_
                    refine xq_iaddN dX11_wouldKnow_81 ?_
                    refine xq_zaldN dX11_wouldKnow_82 (Fx.s117 hF) (by omega) (by decide) hso ?_
                    refine xq_if_eqB dX11_wouldKnow_83 rfl ⟨fun h83 => ?_, fun h83 => ?_⟩
                    · skip
                      refine xq_iconst dX11_wouldKnow_90 ic0 ?_
                      refine xq_iand dX11_wouldKnow_91 ?_
                      rw [aso_f (tb0 h67) h83]
                      refine xq_istore dX11_wouldKnow_92 rfl ?_
                      refine xq_iincN dX11_wouldKnow_94 ic1 rfl rfl ?_
                      refine xq_goto dX11_wouldKnow_97 rfl ?_
                      exact ih (f + 1) _ (by omega) (by omega) rfl
                    · skip
                      refine xq_iconst dX11_wouldKnow_86 ic1 ?_
                      refine xq_goto dX11_wouldKnow_87 rfl ?_
                      refine xq_iand dX11_wouldKnow_91 ?_
                      rw [aso_t (Or.inr h83) hb]
                      refine xq_istore dX11_wouldKnow_92 rfl ?_
                      refine xq_iincN dX11_wouldKnow_94 ic1 rfl rfl ?_
                      refine xq_goto dX11_wouldKnow_97 rfl ?_
                      exact ih (f + 1) _ (by omega) (by omega) rfl
            refine xq_iconst dX11_wouldKnow_42 ic1 ?_
            refine xq_istore dX11_wouldKnow_43 rfl ?_
            refine xq_iconst dX11_wouldKnow_45 ic0 ?_
            refine xq_istore dX11_wouldKnow_46 rfl ?_
            exact lq (tNf T + 1) 0 true (by omega) (by omega) rfl
          · skip
            refine xq_goto dX11_wouldKnow_39 rfl ?_
            refine xq_iincN dX11_wouldKnow_107 ic1 rfl rfl ?_
            refine xq_goto dX11_wouldKnow_110 rfl ?_
            exact xq_fgt (ih (w + 1) (by omega) (by omega) (by rw [ex_s, hno, show (cl T w p != tHt T p) = false by simp [h36]]; simp)) (by exact And.intro rfl (And.intro rfl (And.intro rfl (And.intro rfl (trivial)))))
  refine vq_ev (vq_intro (by decide) (by exact Nat.le_of_ble_eq_true rfl) rfl ?_)
  refine xq_iconst dX11_wouldKnow_0 ic0 ?_
  refine xq_istore_n dX11_wouldKnow_1 rfl rfl ?_
  exact lp (nW T + 1) 0 (by omega) (by omega) rfl
end RE
