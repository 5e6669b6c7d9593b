/-! ===== the reference's calls: teach, look, guess, rests, counts ===== -/
section CD
variable {S : xS} {H H1 H2 H3 : xH} {T : uTx} {N : Nat → Nat → Nat} {s a b c w p q n i j k x y m l f odds ps : Nat} {lf fb Rw : Nat → Bool} {u v : uSt} {ow mu : Int} {dr : Bool} {A F : Nat → Prop} {ww w2 w3 fa fp : Int32}
theorem m_teach0 (hm : MnP S H T N lf u) (hno : hasB ww (tNp T) = false) : Hv mX11_teach 6 [.ref 83, .int ww] S H vZ (fun (x : Int) H' => x = (-1) ∧ MoF (fun q => q = 83 ∨ q = 101 ∨ q = 102 ∨ (112 ≤ q ∧ q ≤ 118)) (fun k => k = 0 ∨ k = 34 ∨ k = 48 ∨ k = 56) H H') := by
  have hF := hm.ms.fx; have hm0 := hm.t0; have hs := hm0.ms; have hx := hs.mx; have hw := hs.mw; have tk := hs.tk; have tw := hs.tw; have hnp := tw.2.1; have hnc := tw.1; have hWn := nW_le tw; have ok := hm.ok; have hlr := hm.lr; have htr := hlr.2.1; have hnf8 := tk.nf; have hz := ok.n; have hrm := hm0.rm; have htt := hs.tt
  refine vq_intro (by decide) (by exact Nat.le_of_ble_eq_true rfl) rfl ?_
  refine xq_aload_n dX11_teach_0 rfl rfl ?_
  refine xq_iconst dX11_teach_1 ic0 ?_
  refine xq_putI clX11 (by decide) rfl fl_RX11_128 (Or.inl rfl) dX11_teach_2 ⟨rfl, rfl⟩ (Fx.s83 hF) ?_
  refine xq_aload_n dX11_teach_5 rfl rfl ?_
  refine xq_iload_n dX11_teach_6 rfl rfl ?_
  refine xq_callV1P clX11 gd_X11_isPerson dX11_teach_7 ml_RX11_460 im_X11_isPerson se_X11_isPerson rfl (Fx.s83 hF) (by exact Nat.le_of_ble_eq_true rfl) (by decide) (m_isPerson hs) ?_
  refine xq_if_eqB dX11_teach_10 rfl ⟨fun h10 => ?_, fun h10 => ?_⟩
  · skip
    refine xq_iconst dX11_teach_23 icm1 ?_
    refine xq_iret dX11_teach_24 rfl ?_
    refine ⟨-1, _, ⟨rfl, (MoF.pF (A := (fun q => q = 83 ∨ q = 101 ∨ q = 102 ∨ (112 ≤ q ∧ q ≤ 118))) (F := (fun k => k = 0 ∨ k = 34 ∨ k = 48 ∨ k = 56)) (H := H) (H2 := H) (k := 0) MoF.rf (Or.inl rfl) (Or.inl rfl) (nI 0))⟩, ?_⟩
    rw [zm1]
  · skip
    rw [hno] at h10; cases h10
theorem m_teach1 (hm : MnP S H T N lf u) (hp : p < tNp T) : Hv mX11_teach 6 [.ref 83, vN p] S H vZ (fun (x : Int) H' => x = (tchV T u (1 <<< p)) ∧ MoF (fun q => q = 83 ∨ q = 101 ∨ q = 102 ∨ (112 ≤ q ∧ q ≤ 118)) (fun k => k = 0 ∨ k = 34 ∨ k = 48 ∨ k = 56) H H') := by
  have hF := hm.ms.fx; have hm0 := hm.t0; have hs := hm0.ms; have hx := hs.mx; have hw := hs.mw; have tk := hs.tk; have tw := hs.tw; have hnp := tw.2.1; have hnc := tw.1; have hWn := nW_le tw; have ok := hm.ok; have hlr := hm.lr; have htr := hlr.2.1; have hnf8 := tk.nf; have hz := ok.n; have hrm := hm0.rm; have htt := hs.tt
  refine vq_intro (by decide) (by exact Nat.le_of_ble_eq_true rfl) rfl ?_
  refine xq_aload_n dX11_teach_0 rfl rfl ?_
  refine xq_iconst dX11_teach_1 ic0 ?_
  refine xq_putI clX11 (by decide) rfl fl_RX11_128 (Or.inl rfl) dX11_teach_2 ⟨rfl, rfl⟩ (Fx.s83 hF) ?_
  refine xq_aload_n dX11_teach_5 rfl rfl ?_
  refine xq_iload_n dX11_teach_6 rfl rfl ?_
  refine xq_callV1P clX11 gd_X11_isPerson dX11_teach_7 ml_RX11_460 im_X11_isPerson se_X11_isPerson rfl (Fx.s83 hF) (by exact Nat.le_of_ble_eq_true rfl) (by decide) (m_isPerson1 hs hp) ?_
  refine xq_if_eqN dX11_teach_10 rfl (by omega) ⟨fun h10 => ?_, fun h10 => ?_⟩
  · skip
    first | exact absurd h10 (by decide) | exact absurd rfl h10
  · skip
    refine xq_aload_n dX11_teach_13 rfl rfl ?_
    refine xq_iconst dX11_teach_14 ic1 ?_
    refine xq_iload_n dX11_teach_15 rfl rfl ?_
    refine xq_ishlN dX11_teach_16 (by omega) ?_
    refine xq_callV1H clX11 gd_X11_taught dX11_teach_17 ml_RX11_491 im_X11_taught se_X11_taught rfl (Fx.s83 hF) (by exact Nat.le_of_ble_eq_true rfl) (by decide) (m_taught hs hrm hlr ok (by exact shl64 (by omega))) ?_
    intro x17 H17 p17
    refine xq_goto dX11_teach_20 rfl ?_
    refine xq_iret dX11_teach_24 rfl ?_
    exact ⟨_, H17, ⟨p17.1, ((MoF.pF (A := (fun q => q = 83 ∨ q = 101 ∨ q = 102 ∨ (112 ≤ q ∧ q ≤ 118))) (F := (fun k => k = 0 ∨ k = 34 ∨ k = 48 ∨ k = 56)) (H := H) (H2 := H) (k := 0) MoF.rf (Or.inl rfl) (Or.inl rfl) (nI 0)).tr p17.2)⟩, rfl⟩
theorem m_teachAll (hm : MnP S H T N lf u) : Hv mX11_teachAll 6 [.ref 83] S H vZ (fun (x : Int) H' => x = (tchV T u (1 <<< uNp u - 1)) ∧ MoF (fun q => q = 83 ∨ q = 101 ∨ q = 102 ∨ (112 ≤ q ∧ q ≤ 118)) (fun k => k = 0 ∨ k = 34 ∨ k = 48 ∨ k = 56) H H') := by
  have hF := hm.ms.fx; have hm0 := hm.t0; have hs := hm0.ms; have hx := hs.mx; have hw := hs.mw; have tk := hs.tk; have tw := hs.tw; have hnp := tw.2.1; have hnc := tw.1; have hWn := nW_le tw; have ok := hm.ok; have hlr := hm.lr; have htr := hlr.2.1; have hnf8 := tk.nf; have hz := ok.n; have hrm := hm0.rm; have htt := hs.tt; have hsp := shl_pos (tNp T)
  have hsl : 1 <<< tNp T - 1 < 64 := by
    have h1 : 1 <<< tNp T = 2 ^ tNp T := Nat.one_shiftLeft _
    have h2 : 2 ^ tNp T ≤ 2 ^ 6 := Nat.pow_le_pow_right (by decide) hnp
    omega
  refine vq_intro (by decide) (by exact Nat.le_of_ble_eq_true rfl) rfl ?_
  refine xq_aload_n dX11_teachAll_0 rfl rfl ?_
  refine xq_iconst dX11_teachAll_1 ic0 ?_
  refine xq_putI clX11 (by decide) rfl fl_RX11_128 (Or.inl rfl) dX11_teachAll_2 ⟨rfl, rfl⟩ (Fx.s83 hF) ?_
  refine xq_aload_n dX11_teachAll_5 rfl rfl ?_
  refine xq_iconst dX11_teachAll_6 ic1 ?_
  refine xq_aload_n dX11_teachAll_7 rfl rfl ?_
  refine xq_getF clX11 (by decide) rfl fl_RX11_13 dX11_teachAll_8 (Fx.s83 hF) (Fx.r83_3 hF) ?_
  refine xq_iconst dX11_teachAll_11 ic1 ?_
  refine xq_ialdN dX11_teachAll_12 (Fx.s85 hF) (by omega) (by decide) hx.np ?_
  refine xq_ishlN dX11_teachAll_13 (by omega) ?_
  refine xq_iconst dX11_teachAll_14 ic1 ?_
  refine xq_isubN dX11_teachAll_15 (by omega) ?_
  refine xq_callV1H clX11 gd_X11_taught dX11_teachAll_16 ml_RX11_491 im_X11_taught se_X11_taught rfl (Fx.s83 hF) (by exact Nat.le_of_ble_eq_true rfl) (by decide) (m_taught hs hrm hlr ok hsl) ?_
  intro x16 H16 p16
  refine xq_iret dX11_teachAll_19 rfl ?_
  exact ⟨_, H16, ⟨by rw [hlr.2.2.2.2]; exact p16.1, ((MoF.pF (A := (fun q => q = 83 ∨ q = 101 ∨ q = 102 ∨ (112 ≤ q ∧ q ≤ 118))) (F := (fun k => k = 0 ∨ k = 34 ∨ k = 48 ∨ k = 56)) (H := H) (H2 := H) (k := 0) MoF.rf (Or.inl rfl) (Or.inl rfl) (nI 0)).tr p16.2)⟩, rfl⟩
theorem m_look0 (hm : MnP S H T N lf u) (hno : ¬ (hasB ww (tNp T) = true ∧ ¬ w2 < 0 ∧ w2 ≤ nI 1)) : Hv mX11_look 5 [.ref 83, .int ww, .int w2] S H vZ (fun (x : Int) H' => x = (-1) ∧ MoF (fun q => q = 83 ∨ q = 101 ∨ q = 102 ∨ (112 ≤ q ∧ q ≤ 118)) (fun k => k = 0 ∨ k = 34 ∨ k = 48 ∨ k = 56) H H') := by
  have hF := hm.ms.fx; have hm0 := hm.t0; have hs := hm0.ms; have hx := hs.mx; have hw := hs.mw; have tk := hs.tk; have tw := hs.tw; have hnp := tw.2.1; have hnc := tw.1; have hWn := nW_le tw; have ok := hm.ok; have hlr := hm.lr; have htr := hlr.2.1; have hnf8 := tk.nf; have hz := ok.n; have hrm := hm0.rm; have htt := hs.tt
  refine vq_intro (by decide) (by exact Nat.le_of_ble_eq_true rfl) rfl ?_
  refine xq_aload_n dX11_look_0 rfl rfl ?_
  refine xq_iconst dX11_look_1 ic0 ?_
  refine xq_putI clX11 (by decide) rfl fl_RX11_128 (Or.inl rfl) dX11_look_2 ⟨rfl, rfl⟩ (Fx.s83 hF) ?_
  refine xq_aload_n dX11_look_5 rfl rfl ?_
  refine xq_iload_n dX11_look_6 rfl rfl ?_
  refine xq_callV1P clX11 gd_X11_isPerson dX11_look_7 ml_RX11_460 im_X11_isPerson se_X11_isPerson rfl (Fx.s83 hF) (by exact Nat.le_of_ble_eq_true rfl) (by decide) (m_isPerson hs) ?_
  refine xq_if_eqB dX11_look_10 rfl ⟨fun h10 => ?_, fun h10 => ?_⟩
  · skip
    refine xq_iconst dX11_look_22 icm1 ?_
    refine xq_iret dX11_look_23 rfl ?_
    refine ⟨-1, _, ⟨rfl, (MoF.pF (A := (fun q => q = 83 ∨ q = 101 ∨ q = 102 ∨ (112 ≤ q ∧ q ≤ 118))) (F := (fun k => k = 0 ∨ k = 34 ∨ k = 48 ∨ k = 56)) (H := H) (H2 := H) (k := 0) MoF.rf (Or.inl rfl) (Or.inl rfl) (nI 0))⟩, ?_⟩
    rw [zm1]
  · skip
    refine xq_iload_n dX11_look_13 rfl rfl ?_
    refine xq_if_lt dX11_look_14 rfl ⟨fun h14 => ?_, fun h14 => ?_⟩
    · skip
      refine xq_iconst dX11_look_22 icm1 ?_
      refine xq_iret dX11_look_23 rfl ?_
      refine ⟨-1, _, ⟨rfl, (MoF.pF (A := (fun q => q = 83 ∨ q = 101 ∨ q = 102 ∨ (112 ≤ q ∧ q ≤ 118))) (F := (fun k => k = 0 ∨ k = 34 ∨ k = 48 ∨ k = 56)) (H := H) (H2 := H) (k := 0) MoF.rf (Or.inl rfl) (Or.inl rfl) (nI 0))⟩, ?_⟩
      rw [zm1]
    · skip
      refine xq_iload_n dX11_look_17 rfl rfl ?_
      refine xq_iconst dX11_look_18 ic1 ?_
      refine xq_icmp_le dX11_look_19 rfl ⟨fun h19 => ?_, fun h19 => ?_⟩
      · skip
        exact absurd ⟨h10, h14, h19⟩ hno
      · skip
        refine xq_iconst dX11_look_22 icm1 ?_
        refine xq_iret dX11_look_23 rfl ?_
        refine ⟨-1, _, ⟨rfl, (MoF.pF (A := (fun q => q = 83 ∨ q = 101 ∨ q = 102 ∨ (112 ≤ q ∧ q ≤ 118))) (F := (fun k => k = 0 ∨ k = 34 ∨ k = 48 ∨ k = 56)) (H := H) (H2 := H) (k := 0) MoF.rf (Or.inl rfl) (Or.inl rfl) (nI 0))⟩, ?_⟩
        rw [zm1]
theorem lkS_s (u : uSt) (p n : Nat) : lkS u p (n + 1) = if n ≠ p ∧ (uSe u p).testBit n = false ∧ mst u p n < (lkS u p n).2 then ((n : Int), mst u p n) else lkS u p n := rfl
theorem lkS_v (u : uSt) (p : Nat) : ∀ n, ((lkS u p n).1 = -2 ∧ (lkS u p n).2 = 730) ∨ ∃ q, q < n ∧ (lkS u p n).1 = (q : Int) ∧ (lkS u p n).2 = mst u p q
  | 0 => Or.inl ⟨rfl, rfl⟩
  | n + 1 => by
    rw [lkS_s]
    split
    · exact Or.inr ⟨n, by omega, rfl, rfl⟩
    · rcases lkS_v u p n with h | ⟨q, h1, h2⟩
      · exact Or.inl h
      · exact Or.inr ⟨q, by omega, h2⟩
theorem m_look1 (hm : MnP S H T N lf u) (hp : p < tNp T) (hl : l < 2) : Hv mX11_look 5 [.ref 83, vN p, vN l] S H vZ (fun (x : Int) H' => x = (looV u p l) ∧ MoF (fun q => q = 83 ∨ q = 101 ∨ q = 102 ∨ (112 ≤ q ∧ q ≤ 118)) (fun k => k = 0 ∨ k = 34 ∨ k = 48 ∨ k = 56) H H') := by
  have hF := hm.ms.fx; have hm0 := hm.t0; have hs := hm0.ms; have hx := hs.mx; have hw := hs.mw; have tk := hs.tk; have tw := hs.tw; have hnp := tw.2.1; have hnc := tw.1; have hWn := nW_le tw; have ok := hm.ok; have hlr := hm.lr; have htr := hlr.2.1; have hnf8 := tk.nf; have hz := ok.n; have hrm := hm0.rm; have htt := hs.tt
  refine vq_intro (by decide) (by exact Nat.le_of_ble_eq_true rfl) rfl ?_
  refine xq_aload_n dX11_look_0 rfl rfl ?_
  refine xq_iconst dX11_look_1 ic0 ?_
  refine xq_putI clX11 (by decide) rfl fl_RX11_128 (Or.inl rfl) dX11_look_2 ⟨rfl, rfl⟩ (Fx.s83 hF) ?_
  refine xq_aload_n dX11_look_5 rfl rfl ?_
  refine xq_iload_n dX11_look_6 rfl rfl ?_
  refine xq_callV1P clX11 gd_X11_isPerson dX11_look_7 ml_RX11_460 im_X11_isPerson se_X11_isPerson rfl (Fx.s83 hF) (by exact Nat.le_of_ble_eq_true rfl) (by decide) (m_isPerson1 hs hp) ?_
  refine xq_if_eqN dX11_look_10 rfl (by omega) ⟨fun h10 => ?_, fun h10 => ?_⟩
  · skip
    first | exact absurd h10 (by decide) | exact absurd rfl h10
  · skip
    refine xq_iload_n dX11_look_13 rfl rfl ?_
    refine xq_if_ltN dX11_look_14 rfl (by omega) ?_
    refine xq_iload_n dX11_look_17 rfl rfl ?_
    refine xq_iconst dX11_look_18 ic1 ?_
    refine xq_icmp_leN dX11_look_19 rfl (by omega) (by omega) ⟨fun h19 => ?_, fun h19 => ?_⟩
    · skip
      refine xq_aload_n dX11_look_24 rfl rfl ?_
      refine xq_iconst dX11_look_25 ic0 ?_
      refine xq_callV1N clX11 gd_X11_lays dX11_look_26 ml_RX11_428 im_X11_lays se_X11_lays rfl (Fx.s83 hF) (by exact Nat.le_of_ble_eq_true rfl) (by decide) (m_lays hs hrm hlr ok (by decide)) ?_
      intro H26 p26
      obtain ⟨hd, hl26⟩ := p26
      have hr1 := hd.rm; have hx1 := hd.ms.mx; have hw1 := hd.ms.mw; have hs1 := hd.ms
      have lp : ∀ (fz : Nat) (q : Nat), tNp T - q < fz → q ≤ tNp T → Xq mX11_look 5 0 0 35 [some (.ref 83), some (vN p), some (vN l), some (.int (zI (lkS u p q).1)), some (vN q)] [] S H26 (fun R => ∃ x H', (fun (x : Int) H' => x = (looV u p l) ∧ MoF (fun q => q = 83 ∨ q = 101 ∨ q = 102 ∨ (112 ≤ q ∧ q ≤ 118)) (fun k => k = 0 ∨ k = 34 ∨ k = 48 ∨ k = 56) H H') x H' ∧ R = (some (vZ x), S, H')) := by
        intro fz
        induction fz with
        | zero => intro q  hfz; exact absurd hfz (by omega)
        | succ fz ih =>
          intro q  hfz hi
          have hbd := lkS_bd ok p q
          refine xq_iload dX11_look_35 rfl ?_
          refine xq_aload_n dX11_look_37 rfl rfl ?_
          refine xq_getF clX11 (by decide) rfl fl_RX11_13 dX11_look_38 (Fx.s83 hF) (Fx.r83_3 hF) ?_
          refine xq_iconst dX11_look_41 ic1 ?_
          refine xq_ialdN dX11_look_42 (Fx.s85 hF) (by omega) (by decide) hx1.np ?_
          refine xq_icmp_geN dX11_look_43 rfl (by omega) (by omega) ⟨fun h43 => ?_, fun h43 => ?_⟩
          · skip
            refine xq_iload_n dX11_look_99 rfl rfl ?_
            refine xq_if_lt dX11_look_100 rfl ⟨fun h100 => ?_, fun h100 => ?_⟩
            · skip
              refine xq_iload_n dX11_look_107 rfl rfl ?_
              refine xq_goto dX11_look_108 rfl ?_
              refine xq_iret dX11_look_117 rfl ?_
              have eq0 : q = tNp T := by omega
              rw [zI_lt0 (by omega) (by omega)] at h100
              refine ⟨_, H26, ⟨rfl, ((MoF.pF (A := (fun q => q = 83 ∨ q = 101 ∨ q = 102 ∨ (112 ≤ q ∧ q ≤ 118))) (F := (fun k => k = 0 ∨ k = 34 ∨ k = 48 ∨ k = 56)) (H := H) (H2 := H) (k := 0) MoF.rf (Or.inl rfl) (Or.inl rfl) (nI 0)).tr (MoF.mo hl26 (fun q h => (by omega : q = 83 ∨ q = 101 ∨ q = 102 ∨ (112 ≤ q ∧ q ≤ 118))) (fun k h => (by omega : k = 0 ∨ k = 34 ∨ k = 48 ∨ k = 56))))⟩, ?_⟩
              rw [show looV u p l = (lkS u p q).1 by unfold looV; rw [hlr.2.2.2.2, ← eq0, if_pos (Or.inr h100)]]
            · skip
              have h100z := h100
              rw [zI_lt0 (by omega) (by omega)] at h100z
              obtain ⟨q2, hv1, hv2, hv3⟩ : ∃ q2, q2 < q ∧ (lkS u p q).1 = (q2 : Int) ∧ (lkS u p q).2 = mst u p q2 := by
                rcases lkS_v u p q with hv | hv
                · omega
                · exact hv
              refine xq_iload_n dX11_look_103 rfl rfl ?_
              refine xq_if_neN dX11_look_104 rfl (by omega) ⟨fun h104 => ?_, fun h104 => ?_⟩
              · skip
                refine xq_aload_n dX11_look_111 rfl rfl ?_
                refine xq_iload_n dX11_look_112 rfl rfl ?_
                refine xq_iload_n dX11_look_113 rfl rfl ?_
                refine xq_callV2P clX11 gd_X11_worstBy dX11_look_114 ml_RX11_500 im_X11_worstBy se_X11_worstBy rfl (Fx.s83 hF) (by exact Nat.le_of_ble_eq_true rfl) (by decide) (show Pv mX11_worstBy 3 [.ref 83, vN p, .int (zI (lkS u p q).1)] S H26 (vN (mst u p q2)) by rw [hv2]; exact m_worstBy hd hp (by omega)) ?_
                refine xq_iret dX11_look_117 rfl ?_
                have eq0 : q = tNp T := by omega
                refine ⟨_, H26, ⟨rfl, ((MoF.pF (A := (fun q => q = 83 ∨ q = 101 ∨ q = 102 ∨ (112 ≤ q ∧ q ≤ 118))) (F := (fun k => k = 0 ∨ k = 34 ∨ k = 48 ∨ k = 56)) (H := H) (H2 := H) (k := 0) MoF.rf (Or.inl rfl) (Or.inl rfl) (nI 0)).tr (MoF.mo hl26 (fun q h => (by omega : q = 83 ∨ q = 101 ∨ q = 102 ∨ (112 ≤ q ∧ q ≤ 118))) (fun k h => (by omega : k = 0 ∨ k = 34 ∨ k = 48 ∨ k = 56))))⟩, ?_⟩
                rw [show looV u p l = ((lkS u p q).2 : Int) by unfold looV; rw [hlr.2.2.2.2, ← eq0, if_neg (by omega)], hv3]; rfl
              · skip
                refine xq_iload_n dX11_look_107 rfl rfl ?_
                refine xq_goto dX11_look_108 rfl ?_
                refine xq_iret dX11_look_117 rfl ?_
                have eq0 : q = tNp T := by omega
                refine ⟨_, H26, ⟨rfl, ((MoF.pF (A := (fun q => q = 83 ∨ q = 101 ∨ q = 102 ∨ (112 ≤ q ∧ q ≤ 118))) (F := (fun k => k = 0 ∨ k = 34 ∨ k = 48 ∨ k = 56)) (H := H) (H2 := H) (k := 0) MoF.rf (Or.inl rfl) (Or.inl rfl) (nI 0)).tr (MoF.mo hl26 (fun q h => (by omega : q = 83 ∨ q = 101 ∨ q = 102 ∨ (112 ≤ q ∧ q ≤ 118))) (fun k h => (by omega : k = 0 ∨ k = 34 ∨ k = 48 ∨ k = 56))))⟩, ?_⟩
                rw [show looV u p l = (lkS u p q).1 by unfold looV; rw [hlr.2.2.2.2, ← eq0, if_pos (Or.inl h104)]]
          · skip
            refine xq_iload dX11_look_46 rfl ?_
            refine xq_iload_n dX11_look_48 rfl rfl ?_
            refine xq_icmp_eqN dX11_look_49 rfl (by omega) (by omega) ⟨fun h49 => ?_, fun h49 => ?_⟩
            · skip
              refine xq_iincN dX11_look_93 ic1 rfl rfl ?_
              refine xq_goto dX11_look_96 rfl ?_
              have hst := lkS_s u p q
              rw [if_neg (fun z => z.1 h49)] at hst
              rw [← hst]
              exact ih (q + 1) (by omega) (by omega)
            · skip
              have hse := ok.se (p := p) (by omega)
              have hb1 := shr_le (uSe u p) q; have hb2 : uSe u p >>> q &&& 1 ≤ 1 := Nat.and_le_right
              refine xq_aload_n dX11_look_52 rfl rfl ?_
              refine xq_getF clX11 (by decide) rfl fl_RX11_90 dX11_look_53 (Fx.s83 hF) (Fx.r83_43 hF) ?_
              refine xq_iload_n dX11_look_56 rfl rfl ?_
              refine xq_ialdN (v := nI (uSe u p)) dX11_look_57 (Fx.s109 hF) (by omega) (by decide) ((congrArg (hI H26 109) (by omega)).trans (hr1.se p (by omega))) ?_
              refine xq_iload dX11_look_58 rfl ?_
              refine xq_ishrN dX11_look_60 (by omega) (by omega) ?_
              refine xq_iconst dX11_look_61 ic1 ?_
              refine xq_iandN dX11_look_62 ?_
              refine xq_iconst dX11_look_63 ic1 ?_
              refine xq_icmp_neN dX11_look_64 rfl (by omega) (by omega) ⟨fun h64 => ?_, fun h64 => ?_⟩
              · skip
                refine xq_iload_n dX11_look_70 rfl rfl ?_
                refine xq_if_lt dX11_look_71 rfl ⟨fun h71 => ?_, fun h71 => ?_⟩
                · skip
                  refine xq_iload dX11_look_90 rfl ?_
                  refine xq_istore_n dX11_look_92 rfl rfl ?_
                  refine xq_iincN dX11_look_93 ic1 rfl rfl ?_
                  refine xq_goto dX11_look_96 rfl ?_
                  have hst := lkS_s u p q
                  rw [zI_lt0 (by omega) (by omega)] at h71
                  rcases lkS_v u p q with hv | ⟨q2, hv1, hv2, hv3⟩
                  · rw [if_pos ⟨h49, (Bool.eq_false_iff.mpr (fun z => h64 (tb1.mpr z))), by have := mst_le u p q 3; unfold mst; omega⟩] at hst
                    have e1 : (lkS u p (q + 1)).1 = (q : Int) := by rw [hst]
                    rw [show nI q = zI (lkS u p (q + 1)).1 by rw [e1]; rfl]
                    exact ih (q + 1) (by omega) (by omega)
                  · omega
                · skip
                  have h71z := h71
                  rw [zI_lt0 (by omega) (by omega)] at h71z
                  obtain ⟨q2, hv1, hv2, hv3⟩ : ∃ q2, q2 < q ∧ (lkS u p q).1 = (q2 : Int) ∧ (lkS u p q).2 = mst u p q2 := by
                    rcases lkS_v u p q with hv | hv
                    · omega
                    · exact hv
                  have hm1 := mst_le u p q 3; have hm2 := mst_le u p q2 3
                  refine xq_aload_n dX11_look_74 rfl rfl ?_
                  refine xq_iload_n dX11_look_75 rfl rfl ?_
                  refine xq_iload dX11_look_76 rfl ?_
                  refine xq_callV2P clX11 gd_X11_worstBy dX11_look_78 ml_RX11_500 im_X11_worstBy se_X11_worstBy rfl (Fx.s83 hF) (by exact Nat.le_of_ble_eq_true rfl) (by decide) (m_worstBy hd hp h43) ?_
                  refine xq_aload_n dX11_look_81 rfl rfl ?_
                  refine xq_iload_n dX11_look_82 rfl rfl ?_
                  refine xq_iload_n dX11_look_83 rfl rfl ?_
                  refine xq_callV2P clX11 gd_X11_worstBy dX11_look_84 ml_RX11_500 im_X11_worstBy se_X11_worstBy rfl (Fx.s83 hF) (by exact Nat.le_of_ble_eq_true rfl) (by decide) (show Pv mX11_worstBy 3 [.ref 83, vN p, .int (zI (lkS u p q).1)] S H26 (vN (mst u p q2)) by rw [hv2]; exact m_worstBy hd hp (by omega)) ?_
                  refine xq_icmp_geN dX11_look_87 rfl (show mst u p q < 2147483648 by unfold mst; omega) (show mst u p q2 < 2147483648 by unfold mst; omega) ⟨fun h87 => ?_, fun h87 => ?_⟩
                  · skip
                    refine xq_iincN dX11_look_93 ic1 rfl rfl ?_
                    refine xq_goto dX11_look_96 rfl ?_
                    have hst := lkS_s u p q
                    rw [if_neg (fun z => by omega)] at hst
                    rw [← hst]
                    exact ih (q + 1) (by omega) (by omega)
                  · skip
                    refine xq_iload dX11_look_90 rfl ?_
                    refine xq_istore_n dX11_look_92 rfl rfl ?_
                    refine xq_iincN dX11_look_93 ic1 rfl rfl ?_
                    refine xq_goto dX11_look_96 rfl ?_
                    have hst := lkS_s u p q
                    rw [if_pos ⟨h49, (Bool.eq_false_iff.mpr (fun z => h64 (tb1.mpr z))), by omega⟩] at hst
                    have e1 : (lkS u p (q + 1)).1 = (q : Int) := by rw [hst]
                    rw [show nI q = zI (lkS u p (q + 1)).1 by rw [e1]; rfl]
                    exact ih (q + 1) (by omega) (by omega)
              · skip
                refine xq_goto dX11_look_67 rfl ?_
                refine xq_iincN dX11_look_93 ic1 rfl rfl ?_
                refine xq_goto dX11_look_96 rfl ?_
                have hst := lkS_s u p q
                rw [if_neg (fun z => by rw [tb1.mp h64] at z; cases z.2.1)] at hst
                rw [← hst]
                exact ih (q + 1) (by omega) (by omega)
      refine xq_bipush dX11_look_29 bpm2 ?_
      refine xq_istore_n dX11_look_31 rfl rfl ?_
      refine xq_iconst dX11_look_32 ic0 ?_
      refine xq_istore dX11_look_33 rfl ?_
      rw [show (-2 : Int32) = zI (lkS u p 0).1 from zm2]
      exact lp (tNp T + 1) 0 (by omega) (by omega)
    · skip
      exact absurd h19 (by omega)
theorem m_guess0 (hm : MnP S H T N lf u) (hno : ¬ (hasB ww (tNp T) = true ∧ ¬ w2 < 0 ∧ w2 ≤ nI 2)) : Hv mX11_guess 5 [.ref 83, .int ww, .int w2] S H vZ (fun (x : Int) H' => x = (-1) ∧ MoF (fun q => q = 83 ∨ q = 101 ∨ q = 102 ∨ (112 ≤ q ∧ q ≤ 118)) (fun k => k = 0 ∨ k = 34 ∨ k = 48 ∨ k = 56) H H') := by
  have hF := hm.ms.fx; have hm0 := hm.t0; have hs := hm0.ms; have hx := hs.mx; have hw := hs.mw; have tk := hs.tk; have tw := hs.tw; have hnp := tw.2.1; have hnc := tw.1; have hWn := nW_le tw; have ok := hm.ok; have hlr := hm.lr; have htr := hlr.2.1; have hnf8 := tk.nf; have hz := ok.n; have hrm := hm0.rm; have htt := hs.tt
  refine vq_intro (by decide) (by exact Nat.le_of_ble_eq_true rfl) rfl ?_
  refine xq_aload_n dX11_guess_0 rfl rfl ?_
  refine xq_iconst dX11_guess_1 ic0 ?_
  refine xq_putI clX11 (by decide) rfl fl_RX11_128 (Or.inl rfl) dX11_guess_2 ⟨rfl, rfl⟩ (Fx.s83 hF) ?_
  refine xq_aload_n dX11_guess_5 rfl rfl ?_
  refine xq_iload_n dX11_guess_6 rfl rfl ?_
  refine xq_callV1P clX11 gd_X11_isPerson dX11_guess_7 ml_RX11_460 im_X11_isPerson se_X11_isPerson rfl (Fx.s83 hF) (by exact Nat.le_of_ble_eq_true rfl) (by decide) (m_isPerson hs) ?_
  refine xq_if_eqB dX11_guess_10 rfl ⟨fun h10 => ?_, fun h10 => ?_⟩
  · skip
    refine xq_iconst dX11_guess_22 icm1 ?_
    refine xq_iret dX11_guess_23 rfl ?_
    refine ⟨-1, _, ⟨rfl, (MoF.pF (A := (fun q => q = 83 ∨ q = 101 ∨ q = 102 ∨ (112 ≤ q ∧ q ≤ 118))) (F := (fun k => k = 0 ∨ k = 34 ∨ k = 48 ∨ k = 56)) (H := H) (H2 := H) (k := 0) MoF.rf (Or.inl rfl) (Or.inl rfl) (nI 0))⟩, ?_⟩
    rw [zm1]
  · skip
    refine xq_iload_n dX11_guess_13 rfl rfl ?_
    refine xq_if_lt dX11_guess_14 rfl ⟨fun h14 => ?_, fun h14 => ?_⟩
    · skip
      refine xq_iconst dX11_guess_22 icm1 ?_
      refine xq_iret dX11_guess_23 rfl ?_
      refine ⟨-1, _, ⟨rfl, (MoF.pF (A := (fun q => q = 83 ∨ q = 101 ∨ q = 102 ∨ (112 ≤ q ∧ q ≤ 118))) (F := (fun k => k = 0 ∨ k = 34 ∨ k = 48 ∨ k = 56)) (H := H) (H2 := H) (k := 0) MoF.rf (Or.inl rfl) (Or.inl rfl) (nI 0))⟩, ?_⟩
      rw [zm1]
    · skip
      refine xq_iload_n dX11_guess_17 rfl rfl ?_
      refine xq_iconst dX11_guess_18 ic2 ?_
      refine xq_icmp_le dX11_guess_19 rfl ⟨fun h19 => ?_, fun h19 => ?_⟩
      · skip
        exact absurd ⟨h10, h14, h19⟩ hno
      · skip
        refine xq_iconst dX11_guess_22 icm1 ?_
        refine xq_iret dX11_guess_23 rfl ?_
        refine ⟨-1, _, ⟨rfl, (MoF.pF (A := (fun q => q = 83 ∨ q = 101 ∨ q = 102 ∨ (112 ≤ q ∧ q ≤ 118))) (F := (fun k => k = 0 ∨ k = 34 ∨ k = 48 ∨ k = 56)) (H := H) (H2 := H) (k := 0) MoF.rf (Or.inl rfl) (Or.inl rfl) (nI 0))⟩, ?_⟩
        rw [zm1]
theorem m_guess1 (hm : MnP S H T N lf u) (hp : p < tNp T) (hl : l < 3) : Hv mX11_guess 5 [.ref 83, vN p, vN l] S H vN (fun x H' => x = (gueV u p l) ∧ MoF (fun q => q = 83 ∨ q = 101 ∨ q = 102 ∨ (112 ≤ q ∧ q ≤ 118)) (fun k => k = 0 ∨ k = 34 ∨ k = 48 ∨ k = 56) H H') := by
  have hF := hm.ms.fx; have hm0 := hm.t0; have hs := hm0.ms; have hx := hs.mx; have hw := hs.mw; have tk := hs.tk; have tw := hs.tw; have hnp := tw.2.1; have hnc := tw.1; have hWn := nW_le tw; have ok := hm.ok; have hlr := hm.lr; have htr := hlr.2.1; have hnf8 := tk.nf; have hz := ok.n; have hrm := hm0.rm; have htt := hs.tt
  have hncp : 0 < tNc T := by rcases tw.2.2 with e | e; omega; exact e
  refine vq_intro (by decide) (by exact Nat.le_of_ble_eq_true rfl) rfl ?_
  refine xq_aload_n dX11_guess_0 rfl rfl ?_
  refine xq_iconst dX11_guess_1 ic0 ?_
  refine xq_putI clX11 (by decide) rfl fl_RX11_128 (Or.inl rfl) dX11_guess_2 ⟨rfl, rfl⟩ (Fx.s83 hF) ?_
  refine xq_aload_n dX11_guess_5 rfl rfl ?_
  refine xq_iload_n dX11_guess_6 rfl rfl ?_
  refine xq_callV1P clX11 gd_X11_isPerson dX11_guess_7 ml_RX11_460 im_X11_isPerson se_X11_isPerson rfl (Fx.s83 hF) (by exact Nat.le_of_ble_eq_true rfl) (by decide) (m_isPerson1 hs hp) ?_
  refine xq_if_eqN dX11_guess_10 rfl (by omega) ⟨fun h10 => ?_, fun h10 => ?_⟩
  · skip
    first | exact absurd h10 (by decide) | exact absurd rfl h10
  · skip
    refine xq_iload_n dX11_guess_13 rfl rfl ?_
    refine xq_if_ltN dX11_guess_14 rfl (by omega) ?_
    refine xq_iload_n dX11_guess_17 rfl rfl ?_
    refine xq_iconst dX11_guess_18 ic2 ?_
    refine xq_icmp_leN dX11_guess_19 rfl (by omega) (by omega) ⟨fun h19 => ?_, fun h19 => ?_⟩
    · skip
      refine xq_aload_n dX11_guess_24 rfl rfl ?_
      refine xq_iconst dX11_guess_25 ic0 ?_
      refine xq_callV1N clX11 gd_X11_lays dX11_guess_26 ml_RX11_428 im_X11_lays se_X11_lays rfl (Fx.s83 hF) (by exact Nat.le_of_ble_eq_true rfl) (by decide) (m_lays hs hrm hlr ok (by decide)) ?_
      intro H26 p26
      obtain ⟨hd, hl26⟩ := p26
      have hr1 := hd.rm; have hx1 := hd.ms.mx; have hw1 := hd.ms.mw; have hs1 := hd.ms
      have lp : ∀ (fz : Nat) (b c : Nat), tNc T - c < fz → c ≤ tNc T → 1 ≤ c → b < c → tal u p p b = fo (fun c m => max m (tal u p p c)) 0 c → (∀ j, j < c → tal u p p j ≤ tal u p p b) → (∀ j, j < b → tal u p p j < tal u p p b) → Xq mX11_guess 5 0 0 34 [some (.ref 83), some (vN p), some (vN l), some (vN b), some (vN c), none, none] [] S H26 (fun R => ∃ x H', (fun x H' => x = (gueV u p l) ∧ MoF (fun q => q = 83 ∨ q = 101 ∨ q = 102 ∨ (112 ≤ q ∧ q ≤ 118)) (fun k => k = 0 ∨ k = 34 ∨ k = 48 ∨ k = 56) H H') x H' ∧ R = (some (vN x), S, H')) := by
        intro fz
        induction fz with
        | zero => intro b c  hfz; exact absurd hfz (by omega)
        | succ fz ih =>
          intro b c  hfz hi h1c hbc hb2 hb4 hb3
          refine xq_iload dX11_guess_34 rfl ?_
          refine xq_aload_n dX11_guess_36 rfl rfl ?_
          refine xq_getF clX11 (by decide) rfl fl_RX11_13 dX11_guess_37 (Fx.s83 hF) (Fx.r83_3 hF) ?_
          refine xq_iconst dX11_guess_40 ic0 ?_
          refine xq_ialdN dX11_guess_41 (Fx.s85 hF) (by omega) (by decide) hx1.nc ?_
          refine xq_icmp_geN dX11_guess_42 rfl (by omega) (by omega) ⟨fun h42 => ?_, fun h42 => ?_⟩
          · skip
            refine xq_aload_n dX11_guess_72 rfl rfl ?_
            refine xq_iload_n dX11_guess_73 rfl rfl ?_
            refine xq_iload_n dX11_guess_74 rfl rfl ?_
            refine xq_iload_n dX11_guess_75 rfl rfl ?_
            refine xq_callV3P clX11 gd_X11_manyBy dX11_guess_76 ml_RX11_494 im_X11_manyBy se_X11_manyBy rfl (Fx.s83 hF) (by exact Nat.le_of_ble_eq_true rfl) (by decide) (m_manyBy hd hp hp (by omega)) ?_
            have hcz : c = tNc T := by omega
            have hmst : tal u p p b = mst u p p := by rw [hb2, hcz]; exact mst_w hlr tw hp
            have hz2 := mst_le u p p 3
            have hfd : fnd (fun c => tal u p p c == mst u p p) 3 = b := fnd_at (f := fun c => tal u p p c == mst u p p) (fun j hj => by rw [← hmst]; have := hb3 j hj; simp; omega) (by rw [hmst]; simp) (by omega)
            have hap := alikeN_pos hlr p
            have hal := alikeN_le u p
            have hm7 : mst u p p ≤ 729 := by unfold mst; omega
            have ht7 : tal u p p b ≤ 729 := by omega
            have hgp : 0 < Nat.gcd (tal u p p b) (alikeN u p) := Nat.gcd_pos_of_pos_right _ hap
            have hgl : Nat.gcd (tal u p p b) (alikeN u p) ≤ alikeN u p := Nat.gcd_le_right _ hap
            refine xq_istore dX11_guess_79 rfl ?_
            refine xq_aload_n dX11_guess_81 rfl rfl ?_
            refine xq_iload_n dX11_guess_82 rfl rfl ?_
            refine xq_callV1P clX11 gd_X11_alikeMany dX11_guess_83 ml_RX11_410 im_X11_alikeMany se_X11_alikeMany rfl (Fx.s83 hF) (by exact Nat.le_of_ble_eq_true rfl) (by decide) (m_alikeMany hd hp) ?_
            refine xq_istore dX11_guess_86 rfl ?_
            refine xq_iload dX11_guess_88 rfl ?_
            refine xq_iload dX11_guess_90 rfl ?_
            refine xq_callS2P gd_X11_shared dX11_guess_92 ml_RX11_503 im_X11_shared (by exact Nat.le_of_ble_eq_true rfl) (by decide) (m_shared (by omega) (by omega)) ?_
            refine xq_istore dX11_guess_95 rfl ?_
            refine xq_iload_n dX11_guess_97 rfl rfl ?_
            refine xq_if_neN dX11_guess_98 rfl (by omega) ⟨fun h98 => ?_, fun h98 => ?_⟩
            · skip
              refine xq_iload_n dX11_guess_105 rfl rfl ?_
              refine xq_iconst dX11_guess_106 ic1 ?_
              refine xq_icmp_neN dX11_guess_107 rfl (by omega) (by omega) ⟨fun h107 => ?_, fun h107 => ?_⟩
              · skip
                refine xq_iload dX11_guess_118 rfl ?_
                refine xq_iload dX11_guess_120 rfl ?_
                refine xq_idivN dX11_guess_122 (by omega) (by omega) (fun e => absurd ((nq_eq0 (by omega)).mp e) (by omega)) ?_
                refine xq_iret dX11_guess_123 rfl ?_
                refine ⟨_, H26, ⟨?_, ((MoF.pF (A := (fun q => q = 83 ∨ q = 101 ∨ q = 102 ∨ (112 ≤ q ∧ q ≤ 118))) (F := (fun k => k = 0 ∨ k = 34 ∨ k = 48 ∨ k = 56)) (H := H) (H2 := H) (k := 0) MoF.rf (Or.inl rfl) (Or.inl rfl) (nI 0)).tr (MoF.mo hl26 (fun q h => (by omega : q = 83 ∨ q = 101 ∨ q = 102 ∨ (112 ≤ q ∧ q ≤ 118))) (fun k h => (by omega : k = 0 ∨ k = 34 ∨ k = 48 ∨ k = 56))))⟩, rfl⟩
                rw [show gueV u p l = ltm (alikeN u p) (mst u p p) (alikeN u p) by unfold gueV; rw [if_neg h107, if_pos (by omega)], ← hmst]; unfold ltm; rw [if_pos hgp]
              · skip
                refine xq_iload dX11_guess_110 rfl ?_
                refine xq_iload dX11_guess_112 rfl ?_
                refine xq_idivN dX11_guess_114 (by omega) (by omega) (fun e => absurd ((nq_eq0 (by omega)).mp e) (by omega)) ?_
                refine xq_goto dX11_guess_115 rfl ?_
                refine xq_iret dX11_guess_123 rfl ?_
                refine ⟨_, H26, ⟨?_, ((MoF.pF (A := (fun q => q = 83 ∨ q = 101 ∨ q = 102 ∨ (112 ≤ q ∧ q ≤ 118))) (F := (fun k => k = 0 ∨ k = 34 ∨ k = 48 ∨ k = 56)) (H := H) (H2 := H) (k := 0) MoF.rf (Or.inl rfl) (Or.inl rfl) (nI 0)).tr (MoF.mo hl26 (fun q h => (by omega : q = 83 ∨ q = 101 ∨ q = 102 ∨ (112 ≤ q ∧ q ≤ 118))) (fun k h => (by omega : k = 0 ∨ k = 34 ∨ k = 48 ∨ k = 56))))⟩, rfl⟩
                rw [show gueV u p l = ltm (mst u p p) (mst u p p) (alikeN u p) from if_pos h107, ← hmst]; unfold ltm; rw [if_pos hgp]
            · skip
              refine xq_iload_n dX11_guess_101 rfl rfl ?_
              refine xq_goto dX11_guess_102 rfl ?_
              refine xq_iret dX11_guess_123 rfl ?_
              refine ⟨_, H26, ⟨?_, ((MoF.pF (A := (fun q => q = 83 ∨ q = 101 ∨ q = 102 ∨ (112 ≤ q ∧ q ≤ 118))) (F := (fun k => k = 0 ∨ k = 34 ∨ k = 48 ∨ k = 56)) (H := H) (H2 := H) (k := 0) MoF.rf (Or.inl rfl) (Or.inl rfl) (nI 0)).tr (MoF.mo hl26 (fun q h => (by omega : q = 83 ∨ q = 101 ∨ q = 102 ∨ (112 ≤ q ∧ q ≤ 118))) (fun k h => (by omega : k = 0 ∨ k = 34 ∨ k = 48 ∨ k = 56))))⟩, rfl⟩
              rw [show gueV u p l = b by unfold gueV; rw [if_neg (by omega), if_neg (by omega)]; exact hfd]
          · skip
            refine xq_aload_n dX11_guess_45 rfl rfl ?_
            refine xq_iload_n dX11_guess_46 rfl rfl ?_
            refine xq_iload_n dX11_guess_47 rfl rfl ?_
            refine xq_iload dX11_guess_48 rfl ?_
            refine xq_callV3P clX11 gd_X11_manyBy dX11_guess_50 ml_RX11_494 im_X11_manyBy se_X11_manyBy rfl (Fx.s83 hF) (by exact Nat.le_of_ble_eq_true rfl) (by decide) (m_manyBy hd hp hp (by omega)) ?_
            have ht1 := tal_le u p p c
            refine xq_aload_n dX11_guess_53 rfl rfl ?_
            refine xq_iload_n dX11_guess_54 rfl rfl ?_
            refine xq_iload_n dX11_guess_55 rfl rfl ?_
            refine xq_iload_n dX11_guess_56 rfl rfl ?_
            refine xq_callV3P clX11 gd_X11_manyBy dX11_guess_57 ml_RX11_494 im_X11_manyBy se_X11_manyBy rfl (Fx.s83 hF) (by exact Nat.le_of_ble_eq_true rfl) (by decide) (m_manyBy hd hp hp (by omega)) ?_
            have ht2 := tal_le u p p b
            refine xq_icmp_leN dX11_guess_60 rfl (by omega) (by omega) ⟨fun h60 => ?_, fun h60 => ?_⟩
            · skip
              refine xq_iincN dX11_guess_66 ic1 rfl rfl ?_
              refine xq_goto dX11_guess_69 rfl ?_
              exact xq_fgt (ih b (c + 1) (by omega) (by omega) (by omega) (by omega) (by show _ = max (fo (fun c m => max m (tal u p p c)) 0 c) (tal u p p c); rw [← hb2]; omega) (fun j hj => by
                by_cases e : j = c
                · rw [e]; omega
                · exact hb4 j (by omega)) hb3) (by exact And.intro rfl (And.intro rfl (And.intro rfl (And.intro rfl (And.intro rfl (trivial))))))
            · skip
              refine xq_iload dX11_guess_63 rfl ?_
              refine xq_istore_n dX11_guess_65 rfl rfl ?_
              refine xq_iincN dX11_guess_66 ic1 rfl rfl ?_
              refine xq_goto dX11_guess_69 rfl ?_
              exact xq_fgt (ih c (c + 1) (by omega) (by omega) (by omega) (by omega) (by show _ = max (fo (fun c m => max m (tal u p p c)) 0 c) (tal u p p c); rw [← hb2]; omega) (fun j hj => by
                by_cases e : j = c
                · rw [e]; exact Nat.le_refl _
                · have := hb4 j (by omega); omega) (fun j hj => by have := hb4 j hj; omega)) (by exact And.intro rfl (And.intro rfl (And.intro rfl (And.intro rfl (And.intro rfl (trivial))))))
      refine xq_iconst dX11_guess_29 ic0 ?_
      refine xq_istore_n dX11_guess_30 rfl rfl ?_
      refine xq_iconst dX11_guess_31 ic1 ?_
      refine xq_istore dX11_guess_32 rfl ?_
      exact xq_fgt (lp (tNc T + 1) 0 1 (by omega) (by omega) (by omega) (by omega) (by show _ = max 0 (tal u p p 0); omega) (fun j hj => by rw [show j = 0 by omega]; exact Nat.le_refl _) (fun j hj => absurd hj (by omega))) (by exact And.intro rfl (And.intro rfl (And.intro rfl (And.intro rfl (And.intro rfl (trivial))))))
    · skip
      exact absurd h19 (by omega)
end CD
