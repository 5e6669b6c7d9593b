/-! ===== the reference's calls: what asks and changes nothing ===== -/
def MnP (S : xS) (H : xH) (T : uTx) (N : Nat → Nat → Nat) (lf : Nat → Bool) (u : uSt) : Prop := (MsP S H T N) ∧ (RmP H T 0 lf u) ∧ (LfR T lf u) ∧ (StOk u)
theorem MnP.ms {S : xS} {H : xH} {T : uTx} {N : Nat → Nat → Nat} {lf : Nat → Bool} {u : uSt} (h : MnP S H T N lf u) : MsP S H T N := h.1
theorem MnP.rm {S : xS} {H : xH} {T : uTx} {N : Nat → Nat → Nat} {lf : Nat → Bool} {u : uSt} (h : MnP S H T N lf u) : RmP H T 0 lf u := h.2.1
theorem MnP.lr {S : xS} {H : xH} {T : uTx} {N : Nat → Nat → Nat} {lf : Nat → Bool} {u : uSt} (h : MnP S H T N lf u) : LfR T lf u := h.2.2.1
theorem MnP.ok {S : xS} {H : xH} {T : uTx} {N : Nat → Nat → Nat} {lf : Nat → Bool} {u : uSt} (h : MnP S H T N lf u) : StOk u := h.2.2.2
section CA
variable {S : xS} {H H1 H2 H3 : xH} {T : uTx} {N : Nat → Nat → Nat} {s a b c w p q n i j k x y m l f odds : Nat} {lf fb : Nat → Bool} {u v : uSt} {ow mu : Int} {dr : Bool} {A F : Nat → Prop} {ww w2 w3 : Int32}
theorem MnP.off (h : MnP S H T N lf u) (ho : MoF A F H H2) (h0 : ∀ q, 85 ≤ q → q ≤ 111 → q ≠ 101 → q ≠ 102 → ¬ A q) (h1 : ¬ F 36) (h2 : ¬ F 37) : MnP S H2 T N lf u := ⟨h.ms.off ho (fun q a b => h0 q a (by omega) (by omega) (by omega)) (h0 103 (by decide) (by decide) (by decide) (by decide)) h1 h2, h.rm.off ho.1 (fun q a b => h0 q (by omega) b (by omega) (by omega)), h.lr, h.ok⟩
theorem MnP.t0 (h : MnP S H T N lf u) : MnP S (sI H 83 0 (nI 0)) T N lf u := h.off (MoF.pF (A := fun q => q = 83) (F := fun k => k = 0) MoF.rf rfl rfl _) (fun q a b c d => by omega) (by decide) (by decide)
theorem LdP.mn (h : LdP S H T N lf u 0) : MnP S H T N lf u := ⟨h.ms, h.rm, h.lr, h.ok⟩
theorem m_own0 (hm : MnP S H T N lf u) (hno : hasB ww (tNp T) = false) : Hv mX11_own 5 [.ref 83, .int ww] S H vZ (fun (x : Int) H' => x = (-1) ∧ MoF (fun q => q = 83 ∨ q = 101 ∨ q = 102 ∨ (112 ≤ q ∧ q ≤ 118)) (fun k => k = 0 ∨ k = 34 ∨ k = 48 ∨ k = 56) H H') := by
  have hF := hm.ms.fx; have hm0 := hm.t0; have hs := hm0.ms; have hx := hs.mx; have hw := hs.mw; have tk := hs.tk; have tw := hs.tw; have hnp := tw.2.1; have hnc := tw.1; have hWn := nW_le tw; have ok := hm.ok; have hlr := hm.lr; have htr := hlr.2.1; have hnf8 := tk.nf; have hz := ok.n; have hrm := hm0.rm; have htt := hs.tt
  refine vq_intro (by decide) (by exact Nat.le_of_ble_eq_true rfl) rfl ?_
  refine xq_aload_n dX11_own_0 rfl rfl ?_
  refine xq_iconst dX11_own_1 ic0 ?_
  refine xq_putI clX11 (by decide) rfl fl_RX11_128 (Or.inl rfl) dX11_own_2 ⟨rfl, rfl⟩ (Fx.s83 hF) ?_
  refine xq_aload_n dX11_own_5 rfl rfl ?_
  refine xq_iload_n dX11_own_6 rfl rfl ?_
  refine xq_callV1P clX11 gd_X11_isPerson dX11_own_7 ml_RX11_460 im_X11_isPerson se_X11_isPerson rfl (Fx.s83 hF) (by exact Nat.le_of_ble_eq_true rfl) (by decide) (m_isPerson hs) ?_
  refine xq_if_neB dX11_own_10 rfl ⟨fun h10 => ?_, fun h10 => ?_⟩
  · skip
    rw [hno] at h10; cases h10
  · skip
    refine xq_iconst dX11_own_13 icm1 ?_
    refine xq_iret dX11_own_14 rfl ?_
    refine ⟨-1, _, ⟨rfl, (MoF.pF (A := (fun q => q = 83 ∨ q = 101 ∨ q = 102 ∨ (112 ≤ q ∧ q ≤ 118))) (F := (fun k => k = 0 ∨ k = 34 ∨ k = 48 ∨ k = 56)) (H := H) (H2 := H) (k := 0) MoF.rf (Or.inl rfl) (Or.inl rfl) (nI 0))⟩, ?_⟩
    rw [zm1]
theorem m_own1 (hm : MnP S H T N lf u) (hp : p < tNp T) : Hv mX11_own 5 [.ref 83, vN p] S H vZ (fun (x : Int) H' => x = (if kn u p p then (tHt T p : Int) else -2) ∧ MoF (fun q => q = 83 ∨ q = 101 ∨ q = 102 ∨ (112 ≤ q ∧ q ≤ 118)) (fun k => k = 0 ∨ k = 34 ∨ k = 48 ∨ k = 56) H H') := by
  have hF := hm.ms.fx; have hm0 := hm.t0; have hs := hm0.ms; have hx := hs.mx; have hw := hs.mw; have tk := hs.tk; have tw := hs.tw; have hnp := tw.2.1; have hnc := tw.1; have hWn := nW_le tw; have ok := hm.ok; have hlr := hm.lr; have htr := hlr.2.1; have hnf8 := tk.nf; have hz := ok.n; have hrm := hm0.rm; have htt := hs.tt
  refine vq_intro (by decide) (by exact Nat.le_of_ble_eq_true rfl) rfl ?_
  refine xq_aload_n dX11_own_0 rfl rfl ?_
  refine xq_iconst dX11_own_1 ic0 ?_
  refine xq_putI clX11 (by decide) rfl fl_RX11_128 (Or.inl rfl) dX11_own_2 ⟨rfl, rfl⟩ (Fx.s83 hF) ?_
  refine xq_aload_n dX11_own_5 rfl rfl ?_
  refine xq_iload_n dX11_own_6 rfl rfl ?_
  refine xq_callV1P clX11 gd_X11_isPerson dX11_own_7 ml_RX11_460 im_X11_isPerson se_X11_isPerson rfl (Fx.s83 hF) (by exact Nat.le_of_ble_eq_true rfl) (by decide) (m_isPerson1 hs hp) ?_
  refine xq_if_neN dX11_own_10 rfl (by omega) ⟨fun h10 => ?_, fun h10 => ?_⟩
  · skip
    refine xq_aload_n dX11_own_15 rfl rfl ?_
    refine xq_iconst dX11_own_16 ic0 ?_
    refine xq_callV1N clX11 gd_X11_lays dX11_own_17 ml_RX11_428 im_X11_lays se_X11_lays rfl (Fx.s83 hF) (by exact Nat.le_of_ble_eq_true rfl) (by decide) (m_lays hs hrm hlr ok (by decide)) ?_
    intro H17 p17
    obtain ⟨hd, hl17⟩ := p17
    have hr1 := hd.rm; have hx1 := hd.ms.mx; have hw1 := hd.ms.mw; have hs1 := hd.ms
    have hk := hd.kn p hp _ htr
    rw [hlr.2.2.1, Bool.true_and, ← hlr.2.2.2.1, own_kn hlr tw (ok.se (by omega))] at hk
    refine xq_aload_n dX11_own_20 rfl rfl ?_
    refine xq_getF clX11 (by decide) rfl fl_RX11_103 dX11_own_21 (Fx.s83 hF) (Fx.r83_50 hF) ?_
    refine xq_sipush dX11_own_24 sp729 ?_
    refine xq_iload_n dX11_own_27 rfl rfl ?_
    refine xq_imulN dX11_own_28 ?_
    refine xq_aload_n dX11_own_29 rfl rfl ?_
    refine xq_getIE clX11 (by decide) rfl fl_RX11_338 dX11_own_30 (Fx.s83 hF) hw1.tr ?_
    refine xq_iaddN dX11_own_33 ?_
    refine xq_zaldN dX11_own_34 (Fx.s113 hF) (by omega) (by decide) hk ?_
    refine xq_if_eqB dX11_own_35 rfl ⟨fun h35 => ?_, fun h35 => ?_⟩
    · skip
      refine xq_bipush dX11_own_47 bpm2 ?_
      refine xq_iret dX11_own_49 rfl ?_
      refine ⟨_, H17, ⟨rfl, ((MoF.pF (A := (fun q => q = 83 ∨ q = 101 ∨ q = 102 ∨ (112 ≤ q ∧ q ≤ 118))) (F := (fun k => k = 0 ∨ k = 34 ∨ k = 48 ∨ k = 56)) (H := H) (H2 := H) (k := 0) MoF.rf (Or.inl rfl) (Or.inl rfl) (nI 0)).tr (MoF.mo hl17 (fun q h => (by omega : q = 83 ∨ q = 101 ∨ q = 102 ∨ (112 ≤ q ∧ q ≤ 118))) (fun k h => (by omega : k = 0 ∨ k = 34 ∨ k = 48 ∨ k = 56))))⟩, ?_⟩
      rw [h35, if_neg (by decide), zm2]
    · skip
      refine xq_aload_n dX11_own_38 rfl rfl ?_
      refine xq_getF clX11 (by decide) rfl fl_RX11_25 dX11_own_39 (Fx.s83 hF) (Fx.r83_7 hF) ?_
      refine xq_iload_n dX11_own_42 rfl rfl ?_
      refine xq_ialdN dX11_own_43 (Fx.s89 hF) (by omega) (by decide) ((hx1.pe p hp).2.1) ?_
      refine xq_goto dX11_own_44 rfl ?_
      refine xq_iret dX11_own_49 rfl ?_
      refine ⟨_, H17, ⟨rfl, ((MoF.pF (A := (fun q => q = 83 ∨ q = 101 ∨ q = 102 ∨ (112 ≤ q ∧ q ≤ 118))) (F := (fun k => k = 0 ∨ k = 34 ∨ k = 48 ∨ k = 56)) (H := H) (H2 := H) (k := 0) MoF.rf (Or.inl rfl) (Or.inl rfl) (nI 0)).tr (MoF.mo hl17 (fun q h => (by omega : q = 83 ∨ q = 101 ∨ q = 102 ∨ (112 ≤ q ∧ q ≤ 118))) (fun k h => (by omega : k = 0 ∨ k = 34 ∨ k = 48 ∨ k = 56))))⟩, ?_⟩
      rw [h35, if_pos rfl]; rfl
  · skip
    first | exact absurd h10 (by decide) | exact absurd rfl h10
theorem m_world0 (hm : MnP S H T N lf u) (hno : ww < 0 ∨ hasB w2 (tNp T) = false) : Hv mX11_world 1 [.ref 83, .int ww, .int w2] S H vZ (fun (x : Int) H' => x = (-1) ∧ MoF (fun q => q = 83 ∨ q = 101 ∨ q = 102 ∨ (112 ≤ q ∧ q ≤ 118)) (fun k => k = 0 ∨ k = 34 ∨ k = 48 ∨ k = 56) H H') := by
  have hF := hm.ms.fx; have hm0 := hm.t0; have hs := hm0.ms; have hx := hs.mx; have hw := hs.mw; have tk := hs.tk; have tw := hs.tw; have hnp := tw.2.1; have hnc := tw.1; have hWn := nW_le tw; have ok := hm.ok; have hlr := hm.lr; have htr := hlr.2.1; have hnf8 := tk.nf; have hz := ok.n; have hrm := hm0.rm; have htt := hs.tt
  refine vq_intro (by decide) (by exact Nat.le_of_ble_eq_true rfl) rfl ?_
  refine xq_aload_n dX11_world_0 rfl rfl ?_
  refine xq_iconst dX11_world_1 ic0 ?_
  refine xq_putI clX11 (by decide) rfl fl_RX11_128 (Or.inl rfl) dX11_world_2 ⟨rfl, rfl⟩ (Fx.s83 hF) ?_
  refine xq_iload_n dX11_world_5 rfl rfl ?_
  refine xq_if_lt dX11_world_6 rfl ⟨fun h6 => ?_, fun h6 => ?_⟩
  · skip
    refine xq_iconst dX11_world_17 icm1 ?_
    refine xq_iret dX11_world_18 rfl ?_
    refine ⟨-1, _, ⟨rfl, (MoF.pF (A := (fun q => q = 83 ∨ q = 101 ∨ q = 102 ∨ (112 ≤ q ∧ q ≤ 118))) (F := (fun k => k = 0 ∨ k = 34 ∨ k = 48 ∨ k = 56)) (H := H) (H2 := H) (k := 0) MoF.rf (Or.inl rfl) (Or.inl rfl) (nI 0))⟩, ?_⟩
    rw [zm1]
  · skip
    refine xq_aload_n dX11_world_9 rfl rfl ?_
    refine xq_iload_n dX11_world_10 rfl rfl ?_
    refine xq_callV1P clX11 gd_X11_isPerson dX11_world_11 ml_RX11_460 im_X11_isPerson se_X11_isPerson rfl (Fx.s83 hF) (by exact Nat.le_of_ble_eq_true rfl) (by decide) (m_isPerson hs) ?_
    refine xq_if_neB dX11_world_14 rfl ⟨fun h14 => ?_, fun h14 => ?_⟩
    · skip
      rcases hno with e | e
      · exact absurd e h6
      · rw [e] at h14; cases h14
    · skip
      refine xq_iconst dX11_world_17 icm1 ?_
      refine xq_iret dX11_world_18 rfl ?_
      refine ⟨-1, _, ⟨rfl, (MoF.pF (A := (fun q => q = 83 ∨ q = 101 ∨ q = 102 ∨ (112 ≤ q ∧ q ≤ 118))) (F := (fun k => k = 0 ∨ k = 34 ∨ k = 48 ∨ k = 56)) (H := H) (H2 := H) (k := 0) MoF.rf (Or.inl rfl) (Or.inl rfl) (nI 0))⟩, ?_⟩
      rw [zm1]
theorem wor_no {m w k : Nat} (hlr : LfR T lf u) (hm : m = ct lf w) (hw : w = nW T) (hk : ¬ k < m) : ¬ k < uZ u := by rw [hlr.z, ← hw, ← hm]; exact hk
theorem m_world1 (hm : MnP S H T N lf u) (hk : k < 2147483648) (hp : p < tNp T) : Hv mX11_world 1 [.ref 83, vN k, vN p] S H vZ (fun (x : Int) H' => x = (if k < uZ u then (col (uW u k) p : Int) else -2) ∧ MoF (fun q => q = 83 ∨ q = 101 ∨ q = 102 ∨ (112 ≤ q ∧ q ≤ 118)) (fun k => k = 0 ∨ k = 34 ∨ k = 48 ∨ k = 56) H H') := by
  have hF := hm.ms.fx; have hm0 := hm.t0; have hs := hm0.ms; have hx := hs.mx; have hw := hs.mw; have tk := hs.tk; have tw := hs.tw; have hnp := tw.2.1; have hnc := tw.1; have hWn := nW_le tw; have ok := hm.ok; have hlr := hm.lr; have htr := hlr.2.1; have hnf8 := tk.nf; have hz := ok.n; have hrm := hm0.rm; have htt := hs.tt
  have lp : ∀ (fz : Nat) (m w : Nat), nW T - w < fz → w ≤ nW T → m = ct lf w → m ≤ k → Xq mX11_world 1 0 0 24 [some (.ref 83), some (vN k), some (vN p), some (vN m), some (vN w)] [] S (sI H 83 0 (nI 0)) (fun R => ∃ x H', (fun (x : Int) H' => x = (if k < uZ u then (col (uW u k) p : Int) else -2) ∧ MoF (fun q => q = 83 ∨ q = 101 ∨ q = 102 ∨ (112 ≤ q ∧ q ≤ 118)) (fun k => k = 0 ∨ k = 34 ∨ k = 48 ∨ k = 56) H H') x H' ∧ R = (some (vZ x), S, H')) := by
    intro fz
    induction fz with
    | zero => intro m w  hfz; exact absurd hfz (by omega)
    | succ fz ih =>
      intro m w  hfz hi hmm hk2
      refine xq_iload dX11_world_24 rfl ?_
      refine xq_aload_n dX11_world_26 rfl rfl ?_
      refine xq_getIE clX11 (by decide) rfl fl_RX11_335 dX11_world_27 (Fx.s83 hF) hw.ws ?_
      refine xq_icmp_geN dX11_world_30 rfl (by omega) (by omega) ⟨fun h30 => ?_, fun h30 => ?_⟩
      · skip
        refine xq_bipush dX11_world_73 bpm2 ?_
        refine xq_iret dX11_world_75 rfl ?_
        have hz2 : ¬ k < uZ u := by rw [hlr.z, show nW T = w by omega, ← hmm]; omega
        refine ⟨_, _, ⟨rfl, (MoF.pF (A := (fun q => q = 83 ∨ q = 101 ∨ q = 102 ∨ (112 ≤ q ∧ q ≤ 118))) (F := (fun k => k = 0 ∨ k = 34 ∨ k = 48 ∨ k = 56)) (H := H) (H2 := H) (k := 0) MoF.rf (Or.inl rfl) (Or.inl rfl) (nI 0))⟩, ?_⟩
        rw [if_neg hz2, zm2]
      · skip
        refine xq_aload_n dX11_world_33 rfl rfl ?_
        refine xq_getF clX11 (by decide) rfl fl_RX11_96 dX11_world_34 (Fx.s83 hF) (Fx.r83_45 hF) ?_
        refine xq_iload dX11_world_37 rfl ?_
        refine xq_zaldN (v := bI (lf w)) dX11_world_39 (Fx.s111 hF) (by omega) (by decide) ((congrArg (hI _ 111) (by omega)).trans (hrm.lf w h30)) ?_
        refine xq_if_neB dX11_world_40 rfl ⟨fun h40 => ?_, fun h40 => ?_⟩
        · skip
          have hcl := ct_le lf w
          refine xq_iload_n dX11_world_46 rfl rfl ?_
          refine xq_iload_n dX11_world_47 rfl rfl ?_
          refine xq_icmp_neN dX11_world_48 rfl (by omega) (by omega) ⟨fun h48 => ?_, fun h48 => ?_⟩
          · skip
            refine xq_iincN dX11_world_64 ic1 rfl rfl ?_
            refine xq_iincN dX11_world_67 ic1 rfl rfl ?_
            refine xq_goto dX11_world_70 rfl ?_
            exact ih (m + 1) (w + 1) (by omega) (by omega) (by rw [ct_t h40, hmm]) (by omega)
          · skip
            refine xq_aload_n dX11_world_51 rfl rfl ?_
            refine xq_getF clX11 (by decide) rfl fl_RX11_72 dX11_world_52 (Fx.s83 hF) (Fx.r83_35 hF) ?_
            refine xq_bipush dX11_world_55 bp6 ?_
            refine xq_iload dX11_world_57 rfl ?_
            refine xq_imulN dX11_world_59 ?_
            refine xq_iload_n dX11_world_60 rfl rfl ?_
            refine xq_iaddN dX11_world_61 ?_
            refine xq_ialdN dX11_world_62 (Fx.s103 hF) (by omega) (by decide) (hw.cl w h30 p hp) ?_
            refine xq_iret dX11_world_63 rfl ?_
            have hl0 := h40
            have hz2 := hlr.lt h30 hl0
            have ek : k = ct lf w := by omega
            refine ⟨_, _, ⟨rfl, (MoF.pF (A := (fun q => q = 83 ∨ q = 101 ∨ q = 102 ∨ (112 ≤ q ∧ q ≤ 118))) (F := (fun k => k = 0 ∨ k = 34 ∨ k = 48 ∨ k = 56)) (H := H) (H2 := H) (k := 0) MoF.rf (Or.inl rfl) (Or.inl rfl) (nI 0))⟩, ?_⟩
            rw [if_pos (by omega), ek, hlr.wd h30 hl0]; rfl
        · skip
          refine xq_goto dX11_world_43 rfl ?_
          refine xq_iincN dX11_world_67 ic1 rfl rfl ?_
          refine xq_goto dX11_world_70 rfl ?_
          exact ih m (w + 1) (by omega) (by omega) (by rw [ct_f h40]; exact hmm) hk2
  refine vq_intro (by decide) (by exact Nat.le_of_ble_eq_true rfl) rfl ?_
  refine xq_aload_n dX11_world_0 rfl rfl ?_
  refine xq_iconst dX11_world_1 ic0 ?_
  refine xq_putI clX11 (by decide) rfl fl_RX11_128 (Or.inl rfl) dX11_world_2 ⟨rfl, rfl⟩ (Fx.s83 hF) ?_
  refine xq_iload_n dX11_world_5 rfl rfl ?_
  refine xq_if_ltN dX11_world_6 rfl (by omega) ?_
  refine xq_aload_n dX11_world_9 rfl rfl ?_
  refine xq_iload_n dX11_world_10 rfl rfl ?_
  refine xq_callV1P clX11 gd_X11_isPerson dX11_world_11 ml_RX11_460 im_X11_isPerson se_X11_isPerson rfl (Fx.s83 hF) (by exact Nat.le_of_ble_eq_true rfl) (by decide) (m_isPerson1 hs hp) ?_
  refine xq_if_neN dX11_world_14 rfl (by omega) ⟨fun h14 => ?_, fun h14 => ?_⟩
  · skip
    refine xq_iconst dX11_world_19 ic0 ?_
    refine xq_istore_n dX11_world_20 rfl rfl ?_
    refine xq_iconst dX11_world_21 ic0 ?_
    refine xq_istore dX11_world_22 rfl ?_
    exact lp (nW T + 1) 0 0 (by omega) (by omega) rfl (by omega)
  · skip
    first | exact absurd h14 (by decide) | exact absurd rfl h14
theorem m_real (hm : MnP S H T N lf u) : Hv mX11_real 0 [.ref 83] S H vN (fun x H' => x = (uRl u) ∧ MoF (fun q => q = 83 ∨ q = 101 ∨ q = 102 ∨ (112 ≤ q ∧ q ≤ 118)) (fun k => k = 0 ∨ k = 34 ∨ k = 48 ∨ k = 56) H H') := by
  have hF := hm.ms.fx; have hm0 := hm.t0; have hs := hm0.ms; have hx := hs.mx; have hw := hs.mw; have tk := hs.tk; have tw := hs.tw; have hnp := tw.2.1; have hnc := tw.1; have hWn := nW_le tw; have ok := hm.ok; have hlr := hm.lr; have htr := hlr.2.1; have hnf8 := tk.nf; have hz := ok.n; have hrm := hm0.rm; have htt := hs.tt
  have lp : ∀ (fz : Nat) (m w : Nat), trW T - w < fz → w ≤ trW T → m = ct lf w → Xq mX11_real 0 0 0 9 [some (.ref 83), some (vN m), some (vN w)] [] S (sI H 83 0 (nI 0)) (fun R => ∃ x H', (fun x H' => x = (uRl u) ∧ MoF (fun q => q = 83 ∨ q = 101 ∨ q = 102 ∨ (112 ≤ q ∧ q ≤ 118)) (fun k => k = 0 ∨ k = 34 ∨ k = 48 ∨ k = 56) H H') x H' ∧ R = (some (vN x), S, H')) := by
    intro fz
    induction fz with
    | zero => intro m w  hfz; exact absurd hfz (by omega)
    | succ fz ih =>
      intro m w  hfz hi hmm
      refine xq_iload_n dX11_real_9 rfl rfl ?_
      refine xq_aload_n dX11_real_10 rfl rfl ?_
      refine xq_getIE clX11 (by decide) rfl fl_RX11_338 dX11_real_11 (Fx.s83 hF) hw.tr ?_
      refine xq_icmp_geN dX11_real_14 rfl (by omega) (by omega) ⟨fun h14 => ?_, fun h14 => ?_⟩
      · skip
        refine xq_iload_n dX11_real_40 rfl rfl ?_
        refine xq_iret dX11_real_41 rfl ?_
        exact ⟨m, _, ⟨by rw [hmm, show w = trW T by omega, hlr.2.2.2.1], (MoF.pF (A := (fun q => q = 83 ∨ q = 101 ∨ q = 102 ∨ (112 ≤ q ∧ q ≤ 118))) (F := (fun k => k = 0 ∨ k = 34 ∨ k = 48 ∨ k = 56)) (H := H) (H2 := H) (k := 0) MoF.rf (Or.inl rfl) (Or.inl rfl) (nI 0))⟩, rfl⟩
      · skip
        refine xq_iload_n dX11_real_17 rfl rfl ?_
        refine xq_aload_n dX11_real_18 rfl rfl ?_
        refine xq_getF clX11 (by decide) rfl fl_RX11_96 dX11_real_19 (Fx.s83 hF) (Fx.r83_45 hF) ?_
        refine xq_iload_n dX11_real_22 rfl rfl ?_
        refine xq_zaldN (v := bI (lf w)) dX11_real_23 (Fx.s111 hF) (by omega) (by decide) ((congrArg (hI _ 111) (by omega)).trans (hrm.lf w (by omega))) ?_
        refine xq_if_eqB dX11_real_24 rfl ⟨fun h24 => ?_, fun h24 => ?_⟩
        · skip
          refine xq_iconst dX11_real_31 ic0 ?_
          refine xq_iaddN dX11_real_32 ?_
          refine xq_istore_n dX11_real_33 rfl rfl ?_
          refine xq_iincN dX11_real_34 ic1 rfl rfl ?_
          refine xq_goto dX11_real_37 rfl ?_
          exact ih (m + 0) (w + 1) (by omega) (by omega) (by rw [ct_f h24, hmm]; rfl)
        · skip
          refine xq_iconst dX11_real_27 ic1 ?_
          refine xq_goto dX11_real_28 rfl ?_
          refine xq_iaddN dX11_real_32 ?_
          refine xq_istore_n dX11_real_33 rfl rfl ?_
          refine xq_iincN dX11_real_34 ic1 rfl rfl ?_
          refine xq_goto dX11_real_37 rfl ?_
          exact ih (m + 1) (w + 1) (by omega) (by omega) (by rw [ct_t h24, hmm])
  refine vq_intro (by decide) (by exact Nat.le_of_ble_eq_true rfl) rfl ?_
  refine xq_aload_n dX11_real_0 rfl rfl ?_
  refine xq_iconst dX11_real_1 ic0 ?_
  refine xq_putI clX11 (by decide) rfl fl_RX11_128 (Or.inl rfl) dX11_real_2 ⟨rfl, rfl⟩ (Fx.s83 hF) ?_
  refine xq_iconst dX11_real_5 ic0 ?_
  refine xq_istore_n dX11_real_6 rfl rfl ?_
  refine xq_iconst dX11_real_7 ic0 ?_
  refine xq_istore_n dX11_real_8 rfl rfl ?_
  exact lp (trW T + 1) 0 0 (by omega) (by omega) rfl
theorem m_is0 (hm : MnP S H T N lf u) (hno : hasB ww (tNf T) = false) : Hv mX11_is 5 [.ref 83, .int ww] S H vZ (fun (x : Int) H' => x = (-1) ∧ MoF (fun q => q = 83 ∨ q = 101 ∨ q = 102 ∨ (112 ≤ q ∧ q ≤ 118)) (fun k => k = 0 ∨ k = 34 ∨ k = 48 ∨ k = 56) H H') := by
  have hF := hm.ms.fx; have hm0 := hm.t0; have hs := hm0.ms; have hx := hs.mx; have hw := hs.mw; have tk := hs.tk; have tw := hs.tw; have hnp := tw.2.1; have hnc := tw.1; have hWn := nW_le tw; have ok := hm.ok; have hlr := hm.lr; have htr := hlr.2.1; have hnf8 := tk.nf; have hz := ok.n; have hrm := hm0.rm; have htt := hs.tt
  refine vq_intro (by decide) (by exact Nat.le_of_ble_eq_true rfl) rfl ?_
  refine xq_aload_n dX11_is_0 rfl rfl ?_
  refine xq_iconst dX11_is_1 ic0 ?_
  refine xq_putI clX11 (by decide) rfl fl_RX11_128 (Or.inl rfl) dX11_is_2 ⟨rfl, rfl⟩ (Fx.s83 hF) ?_
  refine xq_aload_n dX11_is_5 rfl rfl ?_
  refine xq_iload_n dX11_is_6 rfl rfl ?_
  refine xq_callV1P clX11 gd_X11_isFact dX11_is_7 ml_RX11_466 im_X11_isFact se_X11_isFact rfl (Fx.s83 hF) (by exact Nat.le_of_ble_eq_true rfl) (by decide) (m_isFact hs) ?_
  refine xq_if_neB dX11_is_10 rfl ⟨fun h10 => ?_, fun h10 => ?_⟩
  · skip
    rw [hno] at h10; cases h10
  · skip
    refine xq_iconst dX11_is_13 icm1 ?_
    refine xq_iret dX11_is_14 rfl ?_
    refine ⟨-1, _, ⟨rfl, (MoF.pF (A := (fun q => q = 83 ∨ q = 101 ∨ q = 102 ∨ (112 ≤ q ∧ q ≤ 118))) (F := (fun k => k = 0 ∨ k = 34 ∨ k = 48 ∨ k = 56)) (H := H) (H2 := H) (k := 0) MoF.rf (Or.inl rfl) (Or.inl rfl) (nI 0))⟩, ?_⟩
    rw [zm1]
theorem m_is1 (hm : MnP S H T N lf u) (hf : f < tNf T) : Hv mX11_is 5 [.ref 83, vN f] S H vN (fun x H' => x = ((kv T u (tRo T f) (uRl u)).toNat) ∧ MoF (fun q => q = 83 ∨ q = 101 ∨ q = 102 ∨ (112 ≤ q ∧ q ≤ 118)) (fun k => k = 0 ∨ k = 34 ∨ k = 48 ∨ k = 56) H H') := by
  have hF := hm.ms.fx; have hm0 := hm.t0; have hs := hm0.ms; have hx := hs.mx; have hw := hs.mw; have tk := hs.tk; have tw := hs.tw; have hnp := tw.2.1; have hnc := tw.1; have hWn := nW_le tw; have ok := hm.ok; have hlr := hm.lr; have htr := hlr.2.1; have hnf8 := tk.nf; have hz := ok.n; have hrm := hm0.rm; have htt := hs.tt
  refine vq_intro (by decide) (by exact Nat.le_of_ble_eq_true rfl) rfl ?_
  refine xq_aload_n dX11_is_0 rfl rfl ?_
  refine xq_iconst dX11_is_1 ic0 ?_
  refine xq_putI clX11 (by decide) rfl fl_RX11_128 (Or.inl rfl) dX11_is_2 ⟨rfl, rfl⟩ (Fx.s83 hF) ?_
  refine xq_aload_n dX11_is_5 rfl rfl ?_
  refine xq_iload_n dX11_is_6 rfl rfl ?_
  refine xq_callV1P clX11 gd_X11_isFact dX11_is_7 ml_RX11_466 im_X11_isFact se_X11_isFact rfl (Fx.s83 hF) (by exact Nat.le_of_ble_eq_true rfl) (by decide) (m_isFact1 hs hf) ?_
  refine xq_if_neN dX11_is_10 rfl (by omega) ⟨fun h10 => ?_, fun h10 => ?_⟩
  · skip
    refine xq_aload_n dX11_is_15 rfl rfl ?_
    refine xq_iconst dX11_is_16 ic0 ?_
    refine xq_callV1N clX11 gd_X11_lays dX11_is_17 ml_RX11_428 im_X11_lays se_X11_lays rfl (Fx.s83 hF) (by exact Nat.le_of_ble_eq_true rfl) (by decide) (m_lays hs hrm hlr ok (by decide)) ?_
    intro H17 p17
    obtain ⟨hd, hl17⟩ := p17
    have hr1 := hd.rm; have hx1 := hd.ms.mx; have hw1 := hd.ms.mw; have hs1 := hd.ms
    have hso := hd.so1 hf htr hlr.2.2.1
    rw [← hlr.2.2.2.1] at hso
    refine xq_aload_n dX11_is_20 rfl rfl ?_
    refine xq_getF clX11 (by decide) rfl fl_RX11_115 dX11_is_21 (Fx.s83 hF) (Fx.r83_54 hF) ?_
    refine xq_sipush dX11_is_24 sp729 ?_
    refine xq_iload_n dX11_is_27 rfl rfl ?_
    refine xq_imulN dX11_is_28 ?_
    refine xq_aload_n dX11_is_29 rfl rfl ?_
    refine xq_getIE clX11 (by decide) rfl fl_RX11_338 dX11_is_30 (Fx.s83 hF) hw1.tr ?_
    refine xq_iaddN dX11_is_33 ?_
    refine xq_zaldN dX11_is_34 (Fx.s117 hF) (by omega) (by decide) hso ?_
    refine xq_if_eqB dX11_is_35 rfl ⟨fun h35 => ?_, fun h35 => ?_⟩
    · skip
      refine xq_iconst dX11_is_42 ic0 ?_
      refine xq_iret dX11_is_43 rfl ?_
      exact ⟨_, H17, ⟨rfl, ((MoF.pF (A := (fun q => q = 83 ∨ q = 101 ∨ q = 102 ∨ (112 ≤ q ∧ q ≤ 118))) (F := (fun k => k = 0 ∨ k = 34 ∨ k = 48 ∨ k = 56)) (H := H) (H2 := H) (k := 0) MoF.rf (Or.inl rfl) (Or.inl rfl) (nI 0)).tr (MoF.mo hl17 (fun q h => (by omega : q = 83 ∨ q = 101 ∨ q = 102 ∨ (112 ≤ q ∧ q ≤ 118))) (fun k h => (by omega : k = 0 ∨ k = 34 ∨ k = 48 ∨ k = 56))))⟩, by rw [h35]; rfl⟩
    · skip
      refine xq_iconst dX11_is_38 ic1 ?_
      refine xq_goto dX11_is_39 rfl ?_
      refine xq_iret dX11_is_43 rfl ?_
      exact ⟨_, H17, ⟨rfl, ((MoF.pF (A := (fun q => q = 83 ∨ q = 101 ∨ q = 102 ∨ (112 ≤ q ∧ q ≤ 118))) (F := (fun k => k = 0 ∨ k = 34 ∨ k = 48 ∨ k = 56)) (H := H) (H2 := H) (k := 0) MoF.rf (Or.inl rfl) (Or.inl rfl) (nI 0)).tr (MoF.mo hl17 (fun q h => (by omega : q = 83 ∨ q = 101 ∨ q = 102 ∨ (112 ≤ q ∧ q ≤ 118))) (fun k h => (by omega : k = 0 ∨ k = 34 ∨ k = 48 ∨ k = 56))))⟩, by rw [h35]; rfl⟩
  · skip
    first | exact absurd h10 (by decide) | exact absurd rfl h10
theorem m_sure0 (hm : MnP S H T N lf u) (hno : ¬ (hasB ww (tNp T) = true ∧ hasB w2 (tNf T) = true)) : Hv mX11_sure 5 [.ref 83, .int ww, .int w2] S H vZ (fun (x : Int) H' => x = (-1) ∧ MoF (fun q => q = 83 ∨ q = 101 ∨ q = 102 ∨ (112 ≤ q ∧ q ≤ 118)) (fun k => k = 0 ∨ k = 34 ∨ k = 48 ∨ k = 56) H H') := by
  have hF := hm.ms.fx; have hm0 := hm.t0; have hs := hm0.ms; have hx := hs.mx; have hw := hs.mw; have tk := hs.tk; have tw := hs.tw; have hnp := tw.2.1; have hnc := tw.1; have hWn := nW_le tw; have ok := hm.ok; have hlr := hm.lr; have htr := hlr.2.1; have hnf8 := tk.nf; have hz := ok.n; have hrm := hm0.rm; have htt := hs.tt
  refine vq_intro (by decide) (by exact Nat.le_of_ble_eq_true rfl) rfl ?_
  refine xq_aload_n dX11_sure_0 rfl rfl ?_
  refine xq_iconst dX11_sure_1 ic0 ?_
  refine xq_putI clX11 (by decide) rfl fl_RX11_128 (Or.inl rfl) dX11_sure_2 ⟨rfl, rfl⟩ (Fx.s83 hF) ?_
  refine xq_aload_n dX11_sure_5 rfl rfl ?_
  refine xq_iload_n dX11_sure_6 rfl rfl ?_
  refine xq_callV1P clX11 gd_X11_isPerson dX11_sure_7 ml_RX11_460 im_X11_isPerson se_X11_isPerson rfl (Fx.s83 hF) (by exact Nat.le_of_ble_eq_true rfl) (by decide) (m_isPerson hs) ?_
  refine xq_if_eqB dX11_sure_10 rfl ⟨fun h10 => ?_, fun h10 => ?_⟩
  · skip
    refine xq_iconst dX11_sure_21 icm1 ?_
    refine xq_iret dX11_sure_22 rfl ?_
    refine ⟨-1, _, ⟨rfl, (MoF.pF (A := (fun q => q = 83 ∨ q = 101 ∨ q = 102 ∨ (112 ≤ q ∧ q ≤ 118))) (F := (fun k => k = 0 ∨ k = 34 ∨ k = 48 ∨ k = 56)) (H := H) (H2 := H) (k := 0) MoF.rf (Or.inl rfl) (Or.inl rfl) (nI 0))⟩, ?_⟩
    rw [zm1]
  · skip
    refine xq_aload_n dX11_sure_13 rfl rfl ?_
    refine xq_iload_n dX11_sure_14 rfl rfl ?_
    refine xq_callV1P clX11 gd_X11_isFact dX11_sure_15 ml_RX11_466 im_X11_isFact se_X11_isFact rfl (Fx.s83 hF) (by exact Nat.le_of_ble_eq_true rfl) (by decide) (m_isFact hs) ?_
    refine xq_if_neB dX11_sure_18 rfl ⟨fun h18 => ?_, fun h18 => ?_⟩
    · skip
      exact absurd ⟨h10, h18⟩ hno
    · skip
      refine xq_iconst dX11_sure_21 icm1 ?_
      refine xq_iret dX11_sure_22 rfl ?_
      refine ⟨-1, _, ⟨rfl, (MoF.pF (A := (fun q => q = 83 ∨ q = 101 ∨ q = 102 ∨ (112 ≤ q ∧ q ≤ 118))) (F := (fun k => k = 0 ∨ k = 34 ∨ k = 48 ∨ k = 56)) (H := H) (H2 := H) (k := 0) MoF.rf (Or.inl rfl) (Or.inl rfl) (nI 0))⟩, ?_⟩
      rw [zm1]
theorem sur_w (h : LfR T lf u) (b : Bool) : ex (fun v => akW lf u p v && (kv T u (tRo T f) (ct lf v) == b)) (nW T) = ex (fun r => alk u p r && (kv T u (tRo T f) r == b)) (uZ u) := by
  rw [h.z]
  refine ex_rank (lf := lf) (f := fun r => alk u p r && (kv T u (tRo T f) r == b)) (fun v hv => ?_)
  show ((lf v && _) && _) = _
  rw [Bool.and_assoc]
theorem surV_w (h : LfR T lf u) : surV T u p f = if !(ex (fun v => akW lf u p v && (kv T u (tRo T f) (ct lf v) == false)) (nW T)) then 1 else if !(ex (fun v => akW lf u p v && (kv T u (tRo T f) (ct lf v) == true)) (nW T)) then 0 else 2 := by
  rw [sur_w h, sur_w h]
  unfold surV
  simp
theorem m_sure1 (hm : MnP S H T N lf u) (hp : p < tNp T) (hf : f < tNf T) : Hv mX11_sure 5 [.ref 83, vN p, vN f] S H vN (fun x H' => x = (surV T u p f) ∧ MoF (fun q => q = 83 ∨ q = 101 ∨ q = 102 ∨ (112 ≤ q ∧ q ≤ 118)) (fun k => k = 0 ∨ k = 34 ∨ k = 48 ∨ k = 56) H H') := by
  have hF := hm.ms.fx; have hm0 := hm.t0; have hs := hm0.ms; have hx := hs.mx; have hw := hs.mw; have tk := hs.tk; have tw := hs.tw; have hnp := tw.2.1; have hnc := tw.1; have hWn := nW_le tw; have ok := hm.ok; have hlr := hm.lr; have htr := hlr.2.1; have hnf8 := tk.nf; have hz := ok.n; have hrm := hm0.rm; have htt := hs.tt
  refine vq_intro (by decide) (by exact Nat.le_of_ble_eq_true rfl) rfl ?_
  refine xq_aload_n dX11_sure_0 rfl rfl ?_
  refine xq_iconst dX11_sure_1 ic0 ?_
  refine xq_putI clX11 (by decide) rfl fl_RX11_128 (Or.inl rfl) dX11_sure_2 ⟨rfl, rfl⟩ (Fx.s83 hF) ?_
  refine xq_aload_n dX11_sure_5 rfl rfl ?_
  refine xq_iload_n dX11_sure_6 rfl rfl ?_
  refine xq_callV1P clX11 gd_X11_isPerson dX11_sure_7 ml_RX11_460 im_X11_isPerson se_X11_isPerson rfl (Fx.s83 hF) (by exact Nat.le_of_ble_eq_true rfl) (by decide) (m_isPerson1 hs hp) ?_
  refine xq_if_eqN dX11_sure_10 rfl (by omega) ⟨fun h10 => ?_, fun h10 => ?_⟩
  · skip
    first | exact absurd h10 (by decide) | exact absurd rfl h10
  · skip
    refine xq_aload_n dX11_sure_13 rfl rfl ?_
    refine xq_iload_n dX11_sure_14 rfl rfl ?_
    refine xq_callV1P clX11 gd_X11_isFact dX11_sure_15 ml_RX11_466 im_X11_isFact se_X11_isFact rfl (Fx.s83 hF) (by exact Nat.le_of_ble_eq_true rfl) (by decide) (m_isFact1 hs hf) ?_
    refine xq_if_neN dX11_sure_18 rfl (by omega) ⟨fun h18 => ?_, fun h18 => ?_⟩
    · skip
      refine xq_aload_n dX11_sure_23 rfl rfl ?_
      refine xq_iconst dX11_sure_24 ic0 ?_
      refine xq_callV1N clX11 gd_X11_lays dX11_sure_25 ml_RX11_428 im_X11_lays se_X11_lays rfl (Fx.s83 hF) (by exact Nat.le_of_ble_eq_true rfl) (by decide) (m_lays hs hrm hlr ok (by decide)) ?_
      intro H25 p25
      obtain ⟨hd, hl25⟩ := p25
      have hr1 := hd.rm; have hx1 := hd.ms.mx; have hw1 := hd.ms.mw; have hs1 := hd.ms
      have lp : ∀ (fz : Nat) (al nv : Bool) (w : Nat), nW T - w < fz → w ≤ nW T → al = !(ex (fun v => akW lf u p v && (kv T u (tRo T f) (ct lf v) == false)) w) → nv = !(ex (fun v => akW lf u p v && (kv T u (tRo T f) (ct lf v) == true)) w) → Xq mX11_sure 5 0 0 36 [some (.ref 83), some (vN p), some (vN f), some (vB al), some (vB nv), some (vN w)] [] S H25 (fun R => ∃ x H', (fun x H' => x = (surV T u p f) ∧ MoF (fun q => q = 83 ∨ q = 101 ∨ q = 102 ∨ (112 ≤ q ∧ q ≤ 118)) (fun k => k = 0 ∨ k = 34 ∨ k = 48 ∨ k = 56) H H') x H' ∧ R = (some (vN x), S, H')) := by
        intro fz
        induction fz with
        | zero => intro al nv  w  hfz; exact absurd hfz (by omega)
        | succ fz ih =>
          intro al nv  w  hfz hi hal hnv
          refine xq_iload dX11_sure_36 rfl ?_
          refine xq_aload_n dX11_sure_38 rfl rfl ?_
          refine xq_getIE clX11 (by decide) rfl fl_RX11_335 dX11_sure_39 (Fx.s83 hF) hw1.ws ?_
          refine xq_icmp_geN dX11_sure_42 rfl (by omega) (by omega) ⟨fun h42 => ?_, fun h42 => ?_⟩
          · skip
            refine xq_iload_n dX11_sure_106 rfl rfl ?_
            refine xq_if_eqB dX11_sure_107 rfl ⟨fun h107 => ?_, fun h107 => ?_⟩
            · skip
              refine xq_iload dX11_sure_114 rfl ?_
              refine xq_if_eqB dX11_sure_116 rfl ⟨fun h116 => ?_, fun h116 => ?_⟩
              · skip
                refine xq_iconst dX11_sure_123 ic2 ?_
                refine xq_iret dX11_sure_124 rfl ?_
                have ew : w = nW T := by omega
                subst ew
                refine ⟨_, H25, ⟨rfl, ((MoF.pF (A := (fun q => q = 83 ∨ q = 101 ∨ q = 102 ∨ (112 ≤ q ∧ q ≤ 118))) (F := (fun k => k = 0 ∨ k = 34 ∨ k = 48 ∨ k = 56)) (H := H) (H2 := H) (k := 0) MoF.rf (Or.inl rfl) (Or.inl rfl) (nI 0)).tr (MoF.mo hl25 (fun q h => (by omega : q = 83 ∨ q = 101 ∨ q = 102 ∨ (112 ≤ q ∧ q ≤ 118))) (fun k h => (by omega : k = 0 ∨ k = 34 ∨ k = 48 ∨ k = 56))))⟩, ?_⟩
                rw [surV_w hlr, ← hal, ← hnv, h107, h116]; rfl
              · skip
                refine xq_iconst dX11_sure_119 ic0 ?_
                refine xq_goto dX11_sure_120 rfl ?_
                refine xq_iret dX11_sure_124 rfl ?_
                have ew : w = nW T := by omega
                subst ew
                refine ⟨_, H25, ⟨rfl, ((MoF.pF (A := (fun q => q = 83 ∨ q = 101 ∨ q = 102 ∨ (112 ≤ q ∧ q ≤ 118))) (F := (fun k => k = 0 ∨ k = 34 ∨ k = 48 ∨ k = 56)) (H := H) (H2 := H) (k := 0) MoF.rf (Or.inl rfl) (Or.inl rfl) (nI 0)).tr (MoF.mo hl25 (fun q h => (by omega : q = 83 ∨ q = 101 ∨ q = 102 ∨ (112 ≤ q ∧ q ≤ 118))) (fun k h => (by omega : k = 0 ∨ k = 34 ∨ k = 48 ∨ k = 56))))⟩, ?_⟩
                rw [surV_w hlr, ← hal, ← hnv, h107, h116]; rfl
            · skip
              refine xq_iconst dX11_sure_110 ic1 ?_
              refine xq_goto dX11_sure_111 rfl ?_
              refine xq_iret dX11_sure_124 rfl ?_
              have ew : w = nW T := by omega
              subst ew
              refine ⟨_, H25, ⟨rfl, ((MoF.pF (A := (fun q => q = 83 ∨ q = 101 ∨ q = 102 ∨ (112 ≤ q ∧ q ≤ 118))) (F := (fun k => k = 0 ∨ k = 34 ∨ k = 48 ∨ k = 56)) (H := H) (H2 := H) (k := 0) MoF.rf (Or.inl rfl) (Or.inl rfl) (nI 0)).tr (MoF.mo hl25 (fun q h => (by omega : q = 83 ∨ q = 101 ∨ q = 102 ∨ (112 ≤ q ∧ q ≤ 118))) (fun k h => (by omega : k = 0 ∨ k = 34 ∨ k = 48 ∨ k = 56))))⟩, ?_⟩
              rw [surV_w hlr, ← hal, ← hnv, h107]; rfl
          · skip
            refine xq_aload_n dX11_sure_45 rfl rfl ?_
            refine xq_iload_n dX11_sure_46 rfl rfl ?_
            refine xq_iload dX11_sure_47 rfl ?_
            refine xq_callV2P clX11 gd_X11_isAlike dX11_sure_49 ml_RX11_397 im_X11_isAlike se_X11_isAlike rfl (Fx.s83 hF) (by exact Nat.le_of_ble_eq_true rfl) (by decide) (m_isAlike hd hp h42) ?_
            refine xq_if_neB dX11_sure_52 rfl ⟨fun h52 => ?_, fun h52 => ?_⟩
            · skip
              have hl00 : lf w = true := by unfold akW at h52; simp at h52; exact h52.1
              have hso := hd.so1 hf h42 hl00
              refine xq_iload_n dX11_sure_58 rfl rfl ?_
              refine xq_aload_n dX11_sure_59 rfl rfl ?_
              refine xq_getF clX11 (by decide) rfl fl_RX11_115 dX11_sure_60 (Fx.s83 hF) (Fx.r83_54 hF) ?_
              refine xq_sipush dX11_sure_63 sp729 ?_
              refine xq_iload_n dX11_sure_66 rfl rfl ?_
              refine xq_imulN dX11_sure_67 ?_
              refine xq_iload dX11_sure_68 rfl ?_
              refine xq_iaddN dX11_sure_70 ?_
              refine xq_zaldN dX11_sure_71 (Fx.s117 hF) (by omega) (by decide) hso ?_
              refine xq_iand dX11_sure_72 ?_
              refine xq_istore_n dX11_sure_73 rfl rfl ?_
              refine xq_iload dX11_sure_74 rfl ?_
              refine xq_aload_n dX11_sure_76 rfl rfl ?_
              refine xq_getF clX11 (by decide) rfl fl_RX11_115 dX11_sure_77 (Fx.s83 hF) (Fx.r83_54 hF) ?_
              refine xq_sipush dX11_sure_80 sp729 ?_
              refine xq_iload_n dX11_sure_83 rfl rfl ?_
              refine xq_imulN dX11_sure_84 ?_
              refine xq_iload dX11_sure_85 rfl ?_
              refine xq_iaddN dX11_sure_87 ?_
              refine xq_zaldN dX11_sure_88 (Fx.s117 hF) (by omega) (by decide) hso ?_
              refine xq_if_neB dX11_sure_89 rfl ⟨fun h89 => ?_, fun h89 => ?_⟩
              · skip
                refine xq_iconst dX11_sure_96 ic0 ?_
                refine xq_iand dX11_sure_97 ?_
                refine xq_istore dX11_sure_98 rfl ?_
                refine xq_iincN dX11_sure_100 ic1 rfl rfl ?_
                refine xq_goto dX11_sure_103 rfl ?_
                have hl0 : lf w = true := by unfold akW at h52; simp at h52; exact h52.1
                have hb := h89
                rw [show bI al &&& bI (kv T u (tRo T f) (ct lf w)) = bI (al && kv T u (tRo T f) (ct lf w)) from bI_and _ _, show bI nv &&& nI 0 = bI (nv && false) from by cases nv <;> rfl]
                exact ih _ _ (w + 1) (by omega) (by omega) (by rw [ex_s, h52, hal, hb]; simp) (by rw [ex_s, h52, hnv, hb]; simp)
              · skip
                refine xq_iconst dX11_sure_92 ic1 ?_
                refine xq_goto dX11_sure_93 rfl ?_
                refine xq_iand dX11_sure_97 ?_
                refine xq_istore dX11_sure_98 rfl ?_
                refine xq_iincN dX11_sure_100 ic1 rfl rfl ?_
                refine xq_goto dX11_sure_103 rfl ?_
                have hl0 : lf w = true := by unfold akW at h52; simp at h52; exact h52.1
                have hb := h89
                rw [show bI al &&& bI (kv T u (tRo T f) (ct lf w)) = bI (al && kv T u (tRo T f) (ct lf w)) from bI_and _ _, show bI nv &&& nI 1 = bI (nv && true) from by cases nv <;> rfl]
                exact ih _ _ (w + 1) (by omega) (by omega) (by rw [ex_s, h52, hal, hb]; simp) (by rw [ex_s, h52, hnv, hb]; simp)
            · skip
              refine xq_goto dX11_sure_55 rfl ?_
              refine xq_iincN dX11_sure_100 ic1 rfl rfl ?_
              refine xq_goto dX11_sure_103 rfl ?_
              exact ih al nv (w + 1) (by omega) (by omega) (by rw [ex_s, h52, Bool.false_and, Bool.or_false]; exact hal) (by rw [ex_s, h52, Bool.false_and, Bool.or_false]; exact hnv)
      refine xq_iconst dX11_sure_28 ic1 ?_
      refine xq_istore_n dX11_sure_29 rfl rfl ?_
      refine xq_iconst dX11_sure_30 ic1 ?_
      refine xq_istore dX11_sure_31 rfl ?_
      refine xq_iconst dX11_sure_33 ic0 ?_
      refine xq_istore dX11_sure_34 rfl ?_
      exact lp (nW T + 1) true true 0 (by omega) (by omega) rfl rfl
    · skip
      first | exact absurd h18 (by decide) | exact absurd rfl h18
end CA
