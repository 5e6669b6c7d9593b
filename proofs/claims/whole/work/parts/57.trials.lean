/-! ===== the reference's calls: time, and what is tried ===== -/
section TR
variable {S : xS} {H H1 H2 H3 : xH} {T : uTx} {N : Nat → Nat → Nat} {s a b c w p q n i j k x y m l f odds ps : Nat} {lf fb Rw lfi lf1 : Nat → Bool} {u v ui : uSt} {ow mu : Int} {dr : Bool} {A F : Nat → Prop} {ww w2 w3 fa fp : Int32} {L : Nat → uSt} {LF : Nat → Nat → Bool}
/-- only the trial room changed -/
def TrF (F : Nat → Prop) (H H2 : xH) : Prop := (∀ s, s ≠ 1 → RmE H H2 s) ∧ MoF (fun q => q = 83 ∨ q = 101 ∨ q = 102 ∨ (104 ≤ q ∧ q ≤ 118)) F H H2
theorem TrF.rf : TrF F H H := ⟨fun _ _ => RmE.rf, MoF.rf⟩
theorem TrF.tr (h : TrF F H H1) (h2 : TrF F H1 H2) : TrF F H H2 := ⟨fun s hs => (h.1 s hs).tr (h2.1 s hs), h.2.tr h2.2⟩
theorem TrF.dy (h : TrF F H H1) (hd : DyQ H1 H2 T 1 lf v) (hf : ∀ k, k = 34 ∨ k = 48 ∨ k = 56 → F k) : TrF F H H2 := ⟨fun s hs => (h.1 s hs).tr (hd.2.2.1 s hs), h.2.tr (hd.2.2.2.mo (fun q h => h) hf)⟩
theorem TrF.cp (h : TrF F H H1) (e : ∀ s, s ≠ 1 → RmE H1 H2 s) (o : Off (fun q => 104 ≤ q ∧ q ≤ 111) H1 H2) : TrF F H H2 := ⟨fun s hs => (h.1 s hs).tr (e s hs), h.2.tr (MoF.mo (MoF.of (F := fun _ => False) o (by omega)) (fun q h => by omega) (fun k h => absurd h (fun e => e)))⟩
theorem TrF.ld (h : TrF F H H1) (o : MoF (fun q => q = 83 ∨ (112 ≤ q ∧ q ≤ 118)) (fun k => k = 48 ∨ k = 56) H1 H2) (hf : ∀ k, k = 48 ∨ k = 56 → F k) : TrF F H H2 := ⟨fun s hs => (h.1 s hs).tr (RmE.of o.1 (fun q a b => by omega)), h.2.tr (MoF.mo o (fun q h => by omega) hf)⟩
theorem TrF.pf (h : TrF F H H2) (hk : F k) (x : Int32) : TrF F H (sI H2 83 k x) := ⟨fun s hs => (h.1 s hs).tr (RmE.of (Off.pI (A := fun q => q = 83) Off.rf rfl _ _) (fun q a b => by omega)), MoF.pF h.2 (Or.inl rfl) hk x⟩
theorem MsP.trf (h : MsP S H T N) (t : TrF F H H2) (h1 : ¬ F 36) (h2 : ¬ F 37) : MsP S H2 T N := h.off t.2 (fun q a b => by omega) (by omega) h1 h2
theorem pIt_ok (ok : StOk u) (tk : TxOk T) (hn : n ≤ 200) (h1 : uHd u + 12 * n ≤ 100000000) (h2 : uLi u + 12 * n ≤ 100000000) (h3 : uHr u + n ≤ 10000) : Grp u (pIt T dr ow mu u n) (12 * n) ∧ uHr (pIt T dr ow mu u n) = uHr u + n := by
  rw [pIt_pas ok tk n h1 h2]; exact pas_ok ok tk hn h1 h2 h3
theorem m_go0 (hm : MnP S H T N lf u) (hno : ww < 0 ∨ nI 200 < ww) : Hv mX11_go 8 [.ref 83, .int ww] S H vZ (fun (x : Int) H' => x = (-1) ∧ MoF (fun q => q = 83 ∨ q = 101 ∨ q = 102 ∨ (112 ≤ q ∧ q ≤ 118)) (fun k => k = 0 ∨ k = 34 ∨ k = 48 ∨ k = 56) H H') := by
  have hF := hm.ms.fx; have hm0 := hm.t0; have hs := hm0.ms; have hx := hs.mx; have hw := hs.mw; have tk := hs.tk; have tw := hs.tw; have hnp := tw.2.1; have hnc := tw.1; have hWn := nW_le tw; have ok := hm.ok; have hlr := hm.lr; have htr := hlr.2.1; have hnf8 := tk.nf; have hz := ok.n; have hrm := hm0.rm; have htt := hs.tt
  refine vq_intro (by decide) (by exact Nat.le_of_ble_eq_true rfl) rfl ?_
  refine xq_aload_n dX11_go_0 rfl rfl ?_
  refine xq_iconst dX11_go_1 ic0 ?_
  refine xq_putI clX11 (by decide) rfl fl_RX11_128 (Or.inl rfl) dX11_go_2 ⟨rfl, rfl⟩ (Fx.s83 hF) ?_
  refine xq_iload_n dX11_go_5 rfl rfl ?_
  refine xq_if_lt dX11_go_6 rfl ⟨fun h6 => ?_, fun h6 => ?_⟩
  · skip
    refine xq_iconst dX11_go_30 icm1 ?_
    refine xq_iret dX11_go_31 rfl ?_
    refine ⟨-1, _, ⟨rfl, (MoF.pF (A := (fun q => q = 83 ∨ q = 101 ∨ q = 102 ∨ (112 ≤ q ∧ q ≤ 118))) (F := (fun k => k = 0 ∨ k = 34 ∨ k = 48 ∨ k = 56)) (H := H) (H2 := H) (k := 0) MoF.rf (Or.inl rfl) (Or.inl rfl) (nI 0))⟩, ?_⟩
    rw [zm1]
  · skip
    refine xq_iload_n dX11_go_9 rfl rfl ?_
    refine xq_sipush dX11_go_10 sp200 ?_
    refine xq_icmp_gt dX11_go_13 rfl ⟨fun h13 => ?_, fun h13 => ?_⟩
    · skip
      refine xq_iconst dX11_go_30 icm1 ?_
      refine xq_iret dX11_go_31 rfl ?_
      refine ⟨-1, _, ⟨rfl, (MoF.pF (A := (fun q => q = 83 ∨ q = 101 ∨ q = 102 ∨ (112 ≤ q ∧ q ≤ 118))) (F := (fun k => k = 0 ∨ k = 34 ∨ k = 48 ∨ k = 56)) (H := H) (H2 := H) (k := 0) MoF.rf (Or.inl rfl) (Or.inl rfl) (nI 0))⟩, ?_⟩
      rw [zm1]
    · skip
      rcases hno with e | e
      · exact absurd e h6
      · exact absurd e h13
theorem m_go0b (hm : MnP S H T N lf u) (hn : n ≤ 200) (hno : 9800 < uHr u + n) : Hv mX11_go 8 [.ref 83, vN n] S H vZ (fun (x : Int) H' => x = (-1) ∧ MoF (fun q => q = 83 ∨ q = 101 ∨ q = 102 ∨ (112 ≤ q ∧ q ≤ 118)) (fun k => k = 0 ∨ k = 34 ∨ k = 48 ∨ k = 56) H H') := by
  have hF := hm.ms.fx; have hm0 := hm.t0; have hs := hm0.ms; have hx := hs.mx; have hw := hs.mw; have tk := hs.tk; have tw := hs.tw; have hnp := tw.2.1; have hnc := tw.1; have hWn := nW_le tw; have ok := hm.ok; have hlr := hm.lr; have htr := hlr.2.1; have hnf8 := tk.nf; have hz := ok.n; have hrm := hm0.rm; have htt := hs.tt
  have hhr := ok.hr
  refine vq_intro (by decide) (by exact Nat.le_of_ble_eq_true rfl) rfl ?_
  refine xq_aload_n dX11_go_0 rfl rfl ?_
  refine xq_iconst dX11_go_1 ic0 ?_
  refine xq_putI clX11 (by decide) rfl fl_RX11_128 (Or.inl rfl) dX11_go_2 ⟨rfl, rfl⟩ (Fx.s83 hF) ?_
  refine xq_iload_n dX11_go_5 rfl rfl ?_
  refine xq_if_ltN dX11_go_6 rfl (by omega) ?_
  refine xq_iload_n dX11_go_9 rfl rfl ?_
  refine xq_sipush dX11_go_10 sp200 ?_
  refine xq_icmp_gtN dX11_go_13 rfl (by omega) (by omega) ⟨fun h13 => ?_, fun h13 => ?_⟩
  · skip
    exact absurd h13 (by omega)
  · skip
    refine xq_aload_n dX11_go_16 rfl rfl ?_
    refine xq_getF clX11 (by decide) rfl fl_RX11_75 dX11_go_17 (Fx.s83 hF) (Fx.r83_38 hF) ?_
    refine xq_iconst dX11_go_20 ic0 ?_
    refine xq_ialdN dX11_go_21 (Fx.s104 hF) (by omega) (by decide) hrm.hr ?_
    refine xq_iload_n dX11_go_22 rfl rfl ?_
    refine xq_iaddN dX11_go_23 ?_
    refine xq_sipush dX11_go_24 sp9800 ?_
    refine xq_icmp_leN dX11_go_27 rfl (by omega) (by omega) ⟨fun h27 => ?_, fun h27 => ?_⟩
    · skip
      exact absurd h27 (by omega)
    · skip
      refine xq_iconst dX11_go_30 icm1 ?_
      refine xq_iret dX11_go_31 rfl ?_
      refine ⟨-1, _, ⟨rfl, (MoF.pF (A := (fun q => q = 83 ∨ q = 101 ∨ q = 102 ∨ (112 ≤ q ∧ q ≤ 118))) (F := (fun k => k = 0 ∨ k = 34 ∨ k = 48 ∨ k = 56)) (H := H) (H2 := H) (k := 0) MoF.rf (Or.inl rfl) (Or.inl rfl) (nI 0))⟩, ?_⟩
      rw [zm1]
theorem m_go1 (hm : MnP S H T N lf u) (htw : TwP H (-1) (-1)) (hhd : uHd u + 40000 ≤ 100000000) (hhl : uLi u + 40000 ≤ 100000000) (hh9 : uHr u ≤ 9800) (hn : n ≤ 200) (hh : uHr u + n ≤ 9800) : Hv mX11_go 8 [.ref 83, vN n] S H vN (fun x H' => x = uHr u + n ∧ (∃ lf2, RmP H' T 0 lf2 (pas T true (-1) (-1) u n) ∧ LfR T lf2 (pas T true (-1) (-1) u n)) ∧ hI H' 83 47 = (if 0 < n then nI 0 else hI H 83 47) ∧ (∀ s, s ≠ 0 → RmE H H' s) ∧ MoF (fun q => q = 83 ∨ q = 101 ∨ q = 102 ∨ (104 ≤ q ∧ q ≤ 118)) (fun k => k = 0 ∨ k = 34 ∨ k = 47 ∨ k = 48 ∨ k = 56) H H') := by
  have hF := hm.ms.fx; have hm0 := hm.t0; have hs := hm0.ms; have hx := hs.mx; have hw := hs.mw; have tk := hs.tk; have tw := hs.tw; have hnp := tw.2.1; have hnc := tw.1; have hWn := nW_le tw; have ok := hm.ok; have hlr := hm.lr; have htr := hlr.2.1; have hnf8 := tk.nf; have hz := ok.n; have hrm := hm0.rm; have htt := hs.tt
  have htw0 : TwP (sI H 83 0 (nI 0)) (-1) (-1) := htw.off (MoF.pF (A := fun q => q = 83) (F := fun k => k = 0) MoF.rf rfl rfl _) (by decide) (by decide)
  have hhr := ok.hr
  have lG : ∀ (Hb : xH), MsP S Hb T N → RmP Hb T 0 lf u → TwP Hb (-1) (-1) → hI Hb 83 47 = (if 0 < n then nI 0 else hI H 83 47) → (∀ s, RmE H Hb s) → MoF (fun q => q = 83 ∨ q = 101 ∨ q = 102 ∨ (104 ≤ q ∧ q ≤ 118)) (fun k => k = 0 ∨ k = 34 ∨ k = 47 ∨ k = 48 ∨ k = 56) H Hb → Xq mX11_go 8 0 0 43 [some (.ref 83), some (vN n), some (vN 0)] [] S Hb (fun R => ∃ x H', (fun x H' => x = uHr u + n ∧ (∃ lf2, RmP H' T 0 lf2 (pas T true (-1) (-1) u n) ∧ LfR T lf2 (pas T true (-1) (-1) u n)) ∧ hI H' 83 47 = (if 0 < n then nI 0 else hI H 83 47) ∧ (∀ s, s ≠ 0 → RmE H H' s) ∧ MoF (fun q => q = 83 ∨ q = 101 ∨ q = 102 ∨ (104 ≤ q ∧ q ≤ 118)) (fun k => k = 0 ∨ k = 34 ∨ k = 47 ∨ k = 48 ∨ k = 56) H H') x H' ∧ R = (some (vN x), S, H')) := by
    intro Hb hsb hrb htwb hb47 hbe hbm
    have l1 : ∀ (fz : Nat) (k : Nat) (v : uSt) (lf1 : Nat → Bool) (H1 : xH), n - k < fz → k ≤ n → v = pIt T true (-1) (-1) u k → DyQ Hb H1 T 0 lf1 v → Xq mX11_go 8 0 0 43 [some (.ref 83), some (vN n), some (vN k)] [] S H1 (fun R => ∃ x H', (fun x H' => x = uHr u + n ∧ (∃ lf2, RmP H' T 0 lf2 (pas T true (-1) (-1) u n) ∧ LfR T lf2 (pas T true (-1) (-1) u n)) ∧ hI H' 83 47 = (if 0 < n then nI 0 else hI H 83 47) ∧ (∀ s, s ≠ 0 → RmE H H' s) ∧ MoF (fun q => q = 83 ∨ q = 101 ∨ q = 102 ∨ (104 ≤ q ∧ q ≤ 118)) (fun k => k = 0 ∨ k = 34 ∨ k = 47 ∨ k = 48 ∨ k = 56) H H') x H' ∧ R = (some (vN x), S, H')) := by
      intro fz
      induction fz with
      | zero => intro k  v  lf1  H1  hfz; exact absurd hfz (by omega)
      | succ fz ih =>
        intro k  v  lf1  H1  hfz hk hv hd
        skip
        have hs1 := hsb.dy hd; have hr1 := hd.1; have hl1 := hd.2.1; have htw1 := htwb.off hd.2.2.2 (by omega) (by omega)
        have gp := pIt_ok (T := T) (dr := true) (ow := -1) (mu := -1) (n := k) ok tk (by omega) (by omega) (by omega) (by omega)
        rw [← hv] at gp
        have g1 := gp.1.1; have g2 := gp.1.2.2.1; have g3 := gp.1.2.2.2; have g4 := gp.2
        refine xq_iload_n dX11_go_43 rfl rfl ?_
        refine xq_iload_n dX11_go_44 rfl rfl ?_
        refine xq_icmp_geN dX11_go_45 rfl (by omega) (by omega) ⟨fun h45 => ?_, fun h45 => ?_⟩
        · skip
          refine xq_aload_n dX11_go_60 rfl rfl ?_
          refine xq_getF clX11 (by decide) rfl fl_RX11_75 dX11_go_61 (Fx.s83 hF) (Fx.r83_38 hF) ?_
          refine xq_iconst dX11_go_64 ic0 ?_
          refine xq_ialdN (v := nI (uHr u + n)) dX11_go_65 (Fx.s104 hF) (by omega) (by decide) (hr1.hr.trans (congrArg nI (by omega))) ?_
          refine xq_iret dX11_go_66 rfl ?_
          have ek : k = n := by omega
          have evp : v = pas T true (-1) (-1) u n := by rw [hv, ek, pIt_pas ok tk n (by omega) (by omega)]
          exact ⟨_, H1, ⟨rfl, ⟨lf1, by rw [← evp]; exact hr1, by rw [← evp]; exact hl1⟩, (hd.2.2.2.2 47 (by omega)).trans hb47, fun s hs' => (hbe s).tr (hd.2.2.1 s hs'), hbm.tr (MoF.mo hd.2.2.2 (fun q h => (by omega : q = 83 ∨ q = 101 ∨ q = 102 ∨ (104 ≤ q ∧ q ≤ 118))) (fun k h => (by omega : k = 0 ∨ k = 34 ∨ k = 47 ∨ k = 48 ∨ k = 56)))⟩, rfl⟩
        · skip
          refine xq_aload_n dX11_go_48 rfl rfl ?_
          refine xq_iconst dX11_go_49 ic0 ?_
          refine xq_iconst dX11_go_50 ic1 ?_
          refine xq_callV2N clX11 gd_X11_passes dX11_go_51 ml_RX11_456 im_X11_passes se_X11_passes rfl (Fx.s83 hF) (by exact Nat.le_of_ble_eq_true rfl) (by decide) (m_passes (s := 0) (dr := true) hs1 hr1 hl1 g1 (by decide) htw1 (by decide) (by decide) (by omega) (by omega)) ?_
          intro H51 p51
          obtain ⟨lf2, q51⟩ := p51
          refine xq_iincN dX11_go_54 ic1 rfl rfl ?_
          refine xq_goto dX11_go_57 rfl ?_
          exact ih (k + 1) _ lf2 H51 (by omega) (by omega) (by rw [hv]; rfl) (hd.tr q51)
    exact l1 (n + 1) 0 u lf Hb (by omega) (by omega) rfl ⟨hrb, hlr, fun _ _ => RmE.rf, MoF.rf⟩
  have e0 : ∀ s, RmE H (sI H 83 0 (nI 0)) s := fun s => RmE.of (Off.pI (A := fun q => q = 83) Off.rf rfl _ _) (fun q a b => by omega)
  have b0 : MoF (fun q => q = 83 ∨ q = 101 ∨ q = 102 ∨ (104 ≤ q ∧ q ≤ 118)) (fun k => k = 0 ∨ k = 34 ∨ k = 47 ∨ k = 48 ∨ k = 56) H (sI H 83 0 (nI 0)) := MoF.pF (A := (fun q => q = 83 ∨ q = 101 ∨ q = 102 ∨ (104 ≤ q ∧ q ≤ 118))) (F := (fun k => k = 0 ∨ k = 34 ∨ k = 47 ∨ k = 48 ∨ k = 56)) (H := H) (H2 := H) (k := 0) MoF.rf (Or.inl rfl) (Or.inl rfl) (nI 0)
  refine vq_intro (by decide) (by exact Nat.le_of_ble_eq_true rfl) rfl ?_
  refine xq_aload_n dX11_go_0 rfl rfl ?_
  refine xq_iconst dX11_go_1 ic0 ?_
  refine xq_putI clX11 (by decide) rfl fl_RX11_128 (Or.inl rfl) dX11_go_2 ⟨rfl, rfl⟩ (Fx.s83 hF) ?_
  refine xq_iload_n dX11_go_5 rfl rfl ?_
  refine xq_if_ltN dX11_go_6 rfl (by omega) ?_
  refine xq_iload_n dX11_go_9 rfl rfl ?_
  refine xq_sipush dX11_go_10 sp200 ?_
  refine xq_icmp_gtN dX11_go_13 rfl (by omega) (by omega) ⟨fun h13 => ?_, fun h13 => ?_⟩
  · skip
    exact absurd h13 (by omega)
  · skip
    refine xq_aload_n dX11_go_16 rfl rfl ?_
    refine xq_getF clX11 (by decide) rfl fl_RX11_75 dX11_go_17 (Fx.s83 hF) (Fx.r83_38 hF) ?_
    refine xq_iconst dX11_go_20 ic0 ?_
    refine xq_ialdN dX11_go_21 (Fx.s104 hF) (by omega) (by decide) hrm.hr ?_
    refine xq_iload_n dX11_go_22 rfl rfl ?_
    refine xq_iaddN dX11_go_23 ?_
    refine xq_sipush dX11_go_24 sp9800 ?_
    refine xq_icmp_leN dX11_go_27 rfl (by omega) (by omega) ⟨fun h27 => ?_, fun h27 => ?_⟩
    · skip
      refine xq_iload_n dX11_go_32 rfl rfl ?_
      refine xq_if_leN dX11_go_33 rfl (by omega) ⟨fun h33 => ?_, fun h33 => ?_⟩
      · skip
        refine xq_iconst dX11_go_41 ic0 ?_
        refine xq_istore_n dX11_go_42 rfl rfl ?_
        exact lG _ hs hrm htw0 (by rw [hI_sI, if_neg (by omega), if_neg (by omega)]) e0 b0
      · skip
        refine xq_aload_n dX11_go_36 rfl rfl ?_
        refine xq_iconst dX11_go_37 ic0 ?_
        refine xq_putI clX11 (by decide) rfl fl_RX11_312 (Or.inl rfl) dX11_go_38 ⟨rfl, rfl⟩ (Fx.s83 hF) ?_
        refine xq_iconst dX11_go_41 ic0 ?_
        refine xq_istore_n dX11_go_42 rfl rfl ?_
        have o1 : MoF (fun q => q = 83) (fun k => k = 47) (sI H 83 0 (nI 0)) (sI (sI H 83 0 (nI 0)) 83 47 (nI 0)) := MoF.pF (A := fun q => q = 83) (F := fun k => k = 47) (k := 47) MoF.rf rfl rfl _
        exact lG _ (hs.off o1 (fun q a b => by omega) (by omega) (by decide) (by decide)) (hrm.off o1.1 (fun q a b => by omega)) (htw0.off o1 (by decide) (by decide)) (by rw [hI_sI, if_pos ⟨rfl, rfl⟩, if_pos (by omega)]) (fun s => (e0 s).tr (RmE.of o1.1 (fun q a b => by omega))) (b0.tr (MoF.mo o1 (fun q h => by omega) (fun k h => by omega)))
    · skip
      exact absurd h27 (by omega)
theorem m_ahead0 (hm : MnP S H T N lf u) (hno : ¬ (¬ ww < 0 ∧ ¬ nI 200 < ww ∧ ¬ w2 < 0 ∧ ¬ nI 4 < w2 ∧ (w2 = nI 3 → hasB w3 (tNp T) = true))) : Hv mX11_ahead 9 [.ref 83, .int ww, .int w2, .int w3] S H vZ (fun (x : Int) H' => x = (-1) ∧ MoF (fun q => q = 83 ∨ q = 101 ∨ q = 102 ∨ (112 ≤ q ∧ q ≤ 118)) (fun k => k = 0 ∨ k = 34 ∨ k = 48 ∨ k = 56) H H') := by
  have hF := hm.ms.fx; have hm0 := hm.t0; have hs := hm0.ms; have hx := hs.mx; have hw := hs.mw; have tk := hs.tk; have tw := hs.tw; have hnp := tw.2.1; have hnc := tw.1; have hWn := nW_le tw; have ok := hm.ok; have hlr := hm.lr; have htr := hlr.2.1; have hnf8 := tk.nf; have hz := ok.n; have hrm := hm0.rm; have htt := hs.tt
  refine vq_intro (by decide) (by exact Nat.le_of_ble_eq_true rfl) rfl ?_
  refine xq_aload_n dX11_ahead_0 rfl rfl ?_
  refine xq_iconst dX11_ahead_1 ic0 ?_
  refine xq_putI clX11 (by decide) rfl fl_RX11_128 (Or.inl rfl) dX11_ahead_2 ⟨rfl, rfl⟩ (Fx.s83 hF) ?_
  refine xq_iload_n dX11_ahead_5 rfl rfl ?_
  refine xq_if_lt dX11_ahead_6 rfl ⟨fun h6 => ?_, fun h6 => ?_⟩
  · skip
    refine xq_iconst dX11_ahead_38 icm1 ?_
    refine xq_iret dX11_ahead_39 rfl ?_
    refine ⟨-1, _, ⟨rfl, (MoF.pF (A := (fun q => q = 83 ∨ q = 101 ∨ q = 102 ∨ (112 ≤ q ∧ q ≤ 118))) (F := (fun k => k = 0 ∨ k = 34 ∨ k = 48 ∨ k = 56)) (H := H) (H2 := H) (k := 0) MoF.rf (Or.inl rfl) (Or.inl rfl) (nI 0))⟩, ?_⟩
    rw [zm1]
  · skip
    refine xq_iload_n dX11_ahead_9 rfl rfl ?_
    refine xq_sipush dX11_ahead_10 sp200 ?_
    refine xq_icmp_gt dX11_ahead_13 rfl ⟨fun h13 => ?_, fun h13 => ?_⟩
    · skip
      refine xq_iconst dX11_ahead_38 icm1 ?_
      refine xq_iret dX11_ahead_39 rfl ?_
      refine ⟨-1, _, ⟨rfl, (MoF.pF (A := (fun q => q = 83 ∨ q = 101 ∨ q = 102 ∨ (112 ≤ q ∧ q ≤ 118))) (F := (fun k => k = 0 ∨ k = 34 ∨ k = 48 ∨ k = 56)) (H := H) (H2 := H) (k := 0) MoF.rf (Or.inl rfl) (Or.inl rfl) (nI 0))⟩, ?_⟩
      rw [zm1]
    · skip
      refine xq_iload_n dX11_ahead_16 rfl rfl ?_
      refine xq_if_lt dX11_ahead_17 rfl ⟨fun h17 => ?_, fun h17 => ?_⟩
      · skip
        refine xq_iconst dX11_ahead_38 icm1 ?_
        refine xq_iret dX11_ahead_39 rfl ?_
        refine ⟨-1, _, ⟨rfl, (MoF.pF (A := (fun q => q = 83 ∨ q = 101 ∨ q = 102 ∨ (112 ≤ q ∧ q ≤ 118))) (F := (fun k => k = 0 ∨ k = 34 ∨ k = 48 ∨ k = 56)) (H := H) (H2 := H) (k := 0) MoF.rf (Or.inl rfl) (Or.inl rfl) (nI 0))⟩, ?_⟩
        rw [zm1]
      · skip
        refine xq_iload_n dX11_ahead_20 rfl rfl ?_
        refine xq_iconst dX11_ahead_21 ic4 ?_
        refine xq_icmp_gt dX11_ahead_22 rfl ⟨fun h22 => ?_, fun h22 => ?_⟩
        · skip
          refine xq_iconst dX11_ahead_38 icm1 ?_
          refine xq_iret dX11_ahead_39 rfl ?_
          refine ⟨-1, _, ⟨rfl, (MoF.pF (A := (fun q => q = 83 ∨ q = 101 ∨ q = 102 ∨ (112 ≤ q ∧ q ≤ 118))) (F := (fun k => k = 0 ∨ k = 34 ∨ k = 48 ∨ k = 56)) (H := H) (H2 := H) (k := 0) MoF.rf (Or.inl rfl) (Or.inl rfl) (nI 0))⟩, ?_⟩
          rw [zm1]
        · skip
          refine xq_iload_n dX11_ahead_25 rfl rfl ?_
          refine xq_iconst dX11_ahead_26 ic3 ?_
          refine xq_icmp_ne dX11_ahead_27 rfl ⟨fun h27 => ?_, fun h27 => ?_⟩
          · skip
            exact absurd ⟨h6, h13, h17, h22, fun e => absurd e h27⟩ hno
          · skip
            refine xq_aload_n dX11_ahead_30 rfl rfl ?_
            refine xq_iload_n dX11_ahead_31 rfl rfl ?_
            refine xq_callV1P clX11 gd_X11_isPerson dX11_ahead_32 ml_RX11_460 im_X11_isPerson se_X11_isPerson rfl (Fx.s83 hF) (by exact Nat.le_of_ble_eq_true rfl) (by decide) (m_isPerson hs) ?_
            refine xq_if_neB dX11_ahead_35 rfl ⟨fun h35 => ?_, fun h35 => ?_⟩
            · skip
              exact absurd ⟨h6, h13, h17, h22, fun _ => h35⟩ hno
            · skip
              refine xq_iconst dX11_ahead_38 icm1 ?_
              refine xq_iret dX11_ahead_39 rfl ?_
              refine ⟨-1, _, ⟨rfl, (MoF.pF (A := (fun q => q = 83 ∨ q = 101 ∨ q = 102 ∨ (112 ≤ q ∧ q ≤ 118))) (F := (fun k => k = 0 ∨ k = 34 ∨ k = 48 ∨ k = 56)) (H := H) (H2 := H) (k := 0) MoF.rf (Or.inl rfl) (Or.inl rfl) (nI 0))⟩, ?_⟩
              rw [zm1]
theorem m_ahead1 (hm : MnP S H T N lf u) (htw : TwP H (-1) (-1)) (hhd : uHd u + 40000 ≤ 100000000) (hhl : uLi u + 40000 ≤ 100000000) (hh9 : uHr u ≤ 9800) (hn : n ≤ 200) (hl : l < 5) (h3 : l = 3 → ∃ p, p < tNp T ∧ w3 = nI p) : Hv mX11_ahead 9 [.ref 83, vN n, vN l, .int w3] S H vZ (fun (x : Int) H' => x = ahV T u n l w3 ∧ TrF (fun k => k = 0 ∨ k = 34 ∨ k = 48 ∨ k = 56) H H') := by
  have hF := hm.ms.fx; have hm0 := hm.t0; have hs := hm0.ms; have hx := hs.mx; have hw := hs.mw; have tk := hs.tk; have tw := hs.tw; have hnp := tw.2.1; have hnc := tw.1; have hWn := nW_le tw; have ok := hm.ok; have hlr := hm.lr; have htr := hlr.2.1; have hnf8 := tk.nf; have hz := ok.n; have hrm := hm0.rm; have htt := hs.tt
  have htw0 : TwP (sI H 83 0 (nI 0)) (-1) (-1) := htw.off (MoF.pF (A := fun q => q = 83) (F := fun k => k = 0) MoF.rf rfl rfl _) (by decide) (by decide)
  have hhr := ok.hr
  refine vq_intro (by decide) (by exact Nat.le_of_ble_eq_true rfl) rfl ?_
  refine xq_aload_n dX11_ahead_0 rfl rfl ?_
  refine xq_iconst dX11_ahead_1 ic0 ?_
  refine xq_putI clX11 (by decide) rfl fl_RX11_128 (Or.inl rfl) dX11_ahead_2 ⟨rfl, rfl⟩ (Fx.s83 hF) ?_
  refine xq_iload_n dX11_ahead_5 rfl rfl ?_
  refine xq_if_ltN dX11_ahead_6 rfl (by omega) ?_
  refine xq_iload_n dX11_ahead_9 rfl rfl ?_
  refine xq_sipush dX11_ahead_10 sp200 ?_
  refine xq_icmp_gtN dX11_ahead_13 rfl (by omega) (by omega) ⟨fun h13 => ?_, fun h13 => ?_⟩
  · skip
    exact absurd h13 (by omega)
  · skip
    refine xq_iload_n dX11_ahead_16 rfl rfl ?_
    refine xq_if_ltN dX11_ahead_17 rfl (by omega) ?_
    refine xq_iload_n dX11_ahead_20 rfl rfl ?_
    refine xq_iconst dX11_ahead_21 ic4 ?_
    refine xq_icmp_gtN dX11_ahead_22 rfl (by omega) (by omega) ⟨fun h22 => ?_, fun h22 => ?_⟩
    · skip
      exact absurd h22 (by omega)
    · skip
      refine xq_iload_n dX11_ahead_25 rfl rfl ?_
      refine xq_iconst dX11_ahead_26 ic3 ?_
      refine xq_icmp_neN dX11_ahead_27 rfl (by omega) (by omega) ⟨fun h27 => ?_, fun h27 => ?_⟩
      · skip
        refine xq_aload_n dX11_ahead_40 rfl rfl ?_
        refine xq_iconst dX11_ahead_41 ic1 ?_
        refine xq_iconst dX11_ahead_42 ic0 ?_
        refine xq_callV2N clX11 gd_X11_copies dX11_ahead_43 ml_RX11_476 im_X11_copies se_X11_copies rfl (Fx.s83 hF) (by exact Nat.le_of_ble_eq_true rfl) (by decide) (m_copies (s := 0) (x := 1) hs hrm (by decide) (by decide) (by decide)) ?_
        intro H43 p43
        obtain ⟨r43, e43, o43⟩ := p43
        have t43 := ((TrF.pf (F := (fun k => k = 0 ∨ k = 34 ∨ k = 48 ∨ k = 56)) (H := H) (H2 := H) TrF.rf (Or.inl rfl) (nI 0))).cp e43 o43
        have hs43 := hm.ms.trf t43 (by decide) (by decide)
        have htw43 := htw.off t43.2 (by decide) (by decide)
        refine xq_aload_n dX11_ahead_46 rfl rfl ?_
        refine xq_iload_n dX11_ahead_47 rfl rfl ?_
        refine xq_callV1N clX11 gd_X11_goesOn dX11_ahead_48 ml_RX11_482 im_X11_goesOn se_X11_goesOn rfl (Fx.s83 hF) (by exact Nat.le_of_ble_eq_true rfl) (by decide) (m_goesOn hs43 r43 hlr ok htw43 (by decide) (by decide) hn (by omega) (by omega) (by omega)) ?_
        intro H48 p48
        obtain ⟨lf2, q48⟩ := p48
        have hs48 := hs43.dy q48; have hr48 := q48.1; have hl48 := q48.2.1; have t48 := t43.dy q48 (fun k h => by omega)
        have gp := (pas_ok (T := T) (dr := false) (ow := -1) (mu := -1) (n := n) ok tk hn (by omega) (by omega) (by omega)).1
        have okp := gp.1; have hkl := kns_lt okp.np; have hsd := okp.sd
        refine xq_aload_n dX11_ahead_51 rfl rfl ?_
        refine xq_iconst dX11_ahead_52 ic1 ?_
        refine xq_callV1N clX11 gd_X11_lays dX11_ahead_53 ml_RX11_428 im_X11_lays se_X11_lays rfl (Fx.s83 hF) (by exact Nat.le_of_ble_eq_true rfl) (by decide) (m_lays hs48 hr48 hl48 okp (by decide)) ?_
        intro H53 p53
        obtain ⟨hd, hl53⟩ := p53
        have tr53 := t48.ld hl53 (fun k h => by omega)
        refine xq_iload_n dX11_ahead_56 rfl rfl ?_
        by_cases hs57 : 0 ≤ l ∧ l ≤ 3
        · skip
          have hq57 : l = 0 ∨ l = 1 ∨ l = 2 ∨ l = 3 := by omega
          rcases hq57 with rfl | rfl | rfl | rfl
          · skip
            refine xq_tableIn dX11_ahead_57 (by decide) (by decide) rfl rfl ?_
            refine xq_aload_n dX11_ahead_88 rfl rfl ?_
            refine xq_iconst dX11_ahead_89 ic1 ?_
            refine xq_callV1P clX11 gd_X11_leftMany dX11_ahead_90 ml_RX11_401 im_X11_leftMany se_X11_leftMany rfl (Fx.s83 hF) (by exact Nat.le_of_ble_eq_true rfl) (by decide) (m_leftMany hd.ms hd.rm (by decide)) ?_
            refine xq_iret dX11_ahead_93 rfl ?_
            exact ⟨ahV T u n 0 w3, H53, ⟨rfl, tr53⟩, by rw [← hl48.z]; rfl⟩
          · skip
            refine xq_tableIn dX11_ahead_57 (by decide) (by decide) rfl rfl ?_
            refine xq_aload_n dX11_ahead_94 rfl rfl ?_
            refine xq_callV0P clX11 gd_X11_knowers dX11_ahead_95 ml_RX11_407 im_X11_knowers se_X11_knowers rfl (Fx.s83 hF) (by exact Nat.le_of_ble_eq_true rfl) (by decide) (m_knowers hd) ?_
            refine xq_callS1P gd_X11_bitsOf dX11_ahead_98 ml_RX11_404 im_X11_bitsOf (by exact Nat.le_of_ble_eq_true rfl) (by decide) (m_bitsOf (by omega)) ?_
            refine xq_iret dX11_ahead_101 rfl ?_
            exact ⟨ahV T u n 1 w3, H53, ⟨rfl, tr53⟩, by rfl⟩
          · skip
            refine xq_tableIn dX11_ahead_57 (by decide) (by decide) rfl rfl ?_
            refine xq_aload_n dX11_ahead_102 rfl rfl ?_
            refine xq_getF clX11 (by decide) rfl fl_RX11_87 dX11_ahead_103 (Fx.s83 hF) (Fx.r83_42 hF) ?_
            refine xq_iconst dX11_ahead_106 ic1 ?_
            refine xq_ialdN dX11_ahead_107 (Fx.s108 hF) (by omega) (by decide) hd.rm.sd ?_
            refine xq_callS1P gd_X11_bitsOf dX11_ahead_108 ml_RX11_404 im_X11_bitsOf (by exact Nat.le_of_ble_eq_true rfl) (by decide) (m_bitsOf (by omega)) ?_
            refine xq_iret dX11_ahead_111 rfl ?_
            exact ⟨ahV T u n 2 w3, H53, ⟨rfl, tr53⟩, by rfl⟩
          · skip
            refine xq_tableIn dX11_ahead_57 (by decide) (by decide) rfl rfl ?_
            obtain ⟨p, hp, rfl⟩ := h3 (by omega)
            have hp6 : p < 6 := by omega
            refine xq_aload_n dX11_ahead_112 rfl rfl ?_
            refine xq_getF clX11 (by decide) rfl fl_RX11_93 dX11_ahead_113 (Fx.s83 hF) (Fx.r83_44 hF) ?_
            refine xq_bipush dX11_ahead_116 bp6 ?_
            refine xq_iload_n dX11_ahead_118 rfl rfl ?_
            refine xq_iaddN dX11_ahead_119 ?_
            refine xq_ialdN (v := nI (uPz (pas T false (-1) (-1) u n) p)) dX11_ahead_120 (Fx.s110 hF) (by omega) (by decide) ((congrArg (hI H53 110) (by omega)).trans (hd.rm.pz p hp6)) ?_
            refine xq_iret dX11_ahead_121 rfl ?_
            exact ⟨ahV T u n 3 (nI p), H53, ⟨rfl, tr53⟩, by show _ = (some (vZ (uPz (pas T false (-1) (-1) u n) (nI p).toInt.toNat : Int)), S, H53); rw [nI_toInt (by omega)]; rfl⟩
        · skip
          refine xq_tableOut dX11_ahead_57 (swOut 0 3 hs57 (by omega)) rfl ?_
          refine xq_aload_n dX11_ahead_122 rfl rfl ?_
          refine xq_getF clX11 (by decide) rfl fl_RX11_84 dX11_ahead_123 (Fx.s83 hF) (Fx.r83_41 hF) ?_
          refine xq_iconst dX11_ahead_126 ic1 ?_
          refine xq_ialdN dX11_ahead_127 (Fx.s107 hF) (by omega) (by decide) hd.rm.li ?_
          refine xq_aload_n dX11_ahead_128 rfl rfl ?_
          refine xq_getF clX11 (by decide) rfl fl_RX11_84 dX11_ahead_129 (Fx.s83 hF) (Fx.r83_41 hF) ?_
          refine xq_iconst dX11_ahead_132 ic0 ?_
          refine xq_ialdN (v := nI (uLi u)) dX11_ahead_133 (Fx.s107 hF) (by omega) (by decide) ((congrArg (hI H53 107) rfl).trans (((tr53.1 0 (by decide)).2.1 107 (by decide) (by decide)).trans hm.rm.li)) ?_
          refine xq_isub dX11_ahead_134 ?_
          refine xq_iret dX11_ahead_135 rfl ?_
          rw [nI_subI]
          exact ⟨ahV T u n l w3, H53, ⟨rfl, tr53⟩, by unfold ahV; simp only []; rw [if_neg (by omega), if_neg (by omega), if_neg (by omega), if_neg (by omega)]⟩
      · skip
        refine xq_aload_n dX11_ahead_30 rfl rfl ?_
        refine xq_iload_n dX11_ahead_31 rfl rfl ?_
        refine xq_callV1P clX11 gd_X11_isPerson dX11_ahead_32 ml_RX11_460 im_X11_isPerson se_X11_isPerson rfl (Fx.s83 hF) (by exact Nat.le_of_ble_eq_true rfl) (by decide) (m_isPerson hs) ?_
        refine xq_if_neB dX11_ahead_35 rfl ⟨fun h35 => ?_, fun h35 => ?_⟩
        · skip
          refine xq_aload_n dX11_ahead_40 rfl rfl ?_
          refine xq_iconst dX11_ahead_41 ic1 ?_
          refine xq_iconst dX11_ahead_42 ic0 ?_
          refine xq_callV2N clX11 gd_X11_copies dX11_ahead_43 ml_RX11_476 im_X11_copies se_X11_copies rfl (Fx.s83 hF) (by exact Nat.le_of_ble_eq_true rfl) (by decide) (m_copies (s := 0) (x := 1) hs hrm (by decide) (by decide) (by decide)) ?_
          intro H43 p43
          obtain ⟨r43, e43, o43⟩ := p43
          have t43 := ((TrF.pf (F := (fun k => k = 0 ∨ k = 34 ∨ k = 48 ∨ k = 56)) (H := H) (H2 := H) TrF.rf (Or.inl rfl) (nI 0))).cp e43 o43
          have hs43 := hm.ms.trf t43 (by decide) (by decide)
          have htw43 := htw.off t43.2 (by decide) (by decide)
          refine xq_aload_n dX11_ahead_46 rfl rfl ?_
          refine xq_iload_n dX11_ahead_47 rfl rfl ?_
          refine xq_callV1N clX11 gd_X11_goesOn dX11_ahead_48 ml_RX11_482 im_X11_goesOn se_X11_goesOn rfl (Fx.s83 hF) (by exact Nat.le_of_ble_eq_true rfl) (by decide) (m_goesOn hs43 r43 hlr ok htw43 (by decide) (by decide) hn (by omega) (by omega) (by omega)) ?_
          intro H48 p48
          obtain ⟨lf2, q48⟩ := p48
          have hs48 := hs43.dy q48; have hr48 := q48.1; have hl48 := q48.2.1; have t48 := t43.dy q48 (fun k h => by omega)
          have gp := (pas_ok (T := T) (dr := false) (ow := -1) (mu := -1) (n := n) ok tk hn (by omega) (by omega) (by omega)).1
          have okp := gp.1; have hkl := kns_lt okp.np; have hsd := okp.sd
          refine xq_aload_n dX11_ahead_51 rfl rfl ?_
          refine xq_iconst dX11_ahead_52 ic1 ?_
          refine xq_callV1N clX11 gd_X11_lays dX11_ahead_53 ml_RX11_428 im_X11_lays se_X11_lays rfl (Fx.s83 hF) (by exact Nat.le_of_ble_eq_true rfl) (by decide) (m_lays hs48 hr48 hl48 okp (by decide)) ?_
          intro H53 p53
          obtain ⟨hd, hl53⟩ := p53
          have tr53 := t48.ld hl53 (fun k h => by omega)
          refine xq_iload_n dX11_ahead_56 rfl rfl ?_
          by_cases hs57 : 0 ≤ l ∧ l ≤ 3
          · skip
            have hq57 : l = 0 ∨ l = 1 ∨ l = 2 ∨ l = 3 := by omega
            rcases hq57 with rfl | rfl | rfl | rfl
            · skip
              refine xq_tableIn dX11_ahead_57 (by decide) (by decide) rfl rfl ?_
              refine xq_aload_n dX11_ahead_88 rfl rfl ?_
              refine xq_iconst dX11_ahead_89 ic1 ?_
              refine xq_callV1P clX11 gd_X11_leftMany dX11_ahead_90 ml_RX11_401 im_X11_leftMany se_X11_leftMany rfl (Fx.s83 hF) (by exact Nat.le_of_ble_eq_true rfl) (by decide) (m_leftMany hd.ms hd.rm (by decide)) ?_
              refine xq_iret dX11_ahead_93 rfl ?_
              exact ⟨ahV T u n 0 w3, H53, ⟨rfl, tr53⟩, by rw [← hl48.z]; rfl⟩
            · skip
              refine xq_tableIn dX11_ahead_57 (by decide) (by decide) rfl rfl ?_
              refine xq_aload_n dX11_ahead_94 rfl rfl ?_
              refine xq_callV0P clX11 gd_X11_knowers dX11_ahead_95 ml_RX11_407 im_X11_knowers se_X11_knowers rfl (Fx.s83 hF) (by exact Nat.le_of_ble_eq_true rfl) (by decide) (m_knowers hd) ?_
              refine xq_callS1P gd_X11_bitsOf dX11_ahead_98 ml_RX11_404 im_X11_bitsOf (by exact Nat.le_of_ble_eq_true rfl) (by decide) (m_bitsOf (by omega)) ?_
              refine xq_iret dX11_ahead_101 rfl ?_
              exact ⟨ahV T u n 1 w3, H53, ⟨rfl, tr53⟩, by rfl⟩
            · skip
              refine xq_tableIn dX11_ahead_57 (by decide) (by decide) rfl rfl ?_
              refine xq_aload_n dX11_ahead_102 rfl rfl ?_
              refine xq_getF clX11 (by decide) rfl fl_RX11_87 dX11_ahead_103 (Fx.s83 hF) (Fx.r83_42 hF) ?_
              refine xq_iconst dX11_ahead_106 ic1 ?_
              refine xq_ialdN dX11_ahead_107 (Fx.s108 hF) (by omega) (by decide) hd.rm.sd ?_
              refine xq_callS1P gd_X11_bitsOf dX11_ahead_108 ml_RX11_404 im_X11_bitsOf (by exact Nat.le_of_ble_eq_true rfl) (by decide) (m_bitsOf (by omega)) ?_
              refine xq_iret dX11_ahead_111 rfl ?_
              exact ⟨ahV T u n 2 w3, H53, ⟨rfl, tr53⟩, by rfl⟩
            · skip
              refine xq_tableIn dX11_ahead_57 (by decide) (by decide) rfl rfl ?_
              obtain ⟨p, hp, rfl⟩ := h3 (by omega)
              have hp6 : p < 6 := by omega
              refine xq_aload_n dX11_ahead_112 rfl rfl ?_
              refine xq_getF clX11 (by decide) rfl fl_RX11_93 dX11_ahead_113 (Fx.s83 hF) (Fx.r83_44 hF) ?_
              refine xq_bipush dX11_ahead_116 bp6 ?_
              refine xq_iload_n dX11_ahead_118 rfl rfl ?_
              refine xq_iaddN dX11_ahead_119 ?_
              refine xq_ialdN (v := nI (uPz (pas T false (-1) (-1) u n) p)) dX11_ahead_120 (Fx.s110 hF) (by omega) (by decide) ((congrArg (hI H53 110) (by omega)).trans (hd.rm.pz p hp6)) ?_
              refine xq_iret dX11_ahead_121 rfl ?_
              exact ⟨ahV T u n 3 (nI p), H53, ⟨rfl, tr53⟩, by show _ = (some (vZ (uPz (pas T false (-1) (-1) u n) (nI p).toInt.toNat : Int)), S, H53); rw [nI_toInt (by omega)]; rfl⟩
          · skip
            refine xq_tableOut dX11_ahead_57 (swOut 0 3 hs57 (by omega)) rfl ?_
            refine xq_aload_n dX11_ahead_122 rfl rfl ?_
            refine xq_getF clX11 (by decide) rfl fl_RX11_84 dX11_ahead_123 (Fx.s83 hF) (Fx.r83_41 hF) ?_
            refine xq_iconst dX11_ahead_126 ic1 ?_
            refine xq_ialdN dX11_ahead_127 (Fx.s107 hF) (by omega) (by decide) hd.rm.li ?_
            refine xq_aload_n dX11_ahead_128 rfl rfl ?_
            refine xq_getF clX11 (by decide) rfl fl_RX11_84 dX11_ahead_129 (Fx.s83 hF) (Fx.r83_41 hF) ?_
            refine xq_iconst dX11_ahead_132 ic0 ?_
            refine xq_ialdN (v := nI (uLi u)) dX11_ahead_133 (Fx.s107 hF) (by omega) (by decide) ((congrArg (hI H53 107) rfl).trans (((tr53.1 0 (by decide)).2.1 107 (by decide) (by decide)).trans hm.rm.li)) ?_
            refine xq_isub dX11_ahead_134 ?_
            refine xq_iret dX11_ahead_135 rfl ?_
            rw [nI_subI]
            exact ⟨ahV T u n l w3, H53, ⟨rfl, tr53⟩, by unfold ahV; simp only []; rw [if_neg (by omega), if_neg (by omega), if_neg (by omega), if_neg (by omega)]⟩
        · skip
          obtain ⟨p, hp, e⟩ := h3 h27
          rw [e, hasB_n (by omega), decide_eq_true hp] at h35; cases h35
theorem m_willKnow0 (hm : MnP S H T N lf u) (hno : hasB ww (tNp T) = false) : Hv mX11_willKnow 8 [.ref 83, .int ww] S H vZ (fun (x : Int) H' => x = (-1) ∧ MoF (fun q => q = 83 ∨ q = 101 ∨ q = 102 ∨ (112 ≤ q ∧ q ≤ 118)) (fun k => k = 0 ∨ k = 34 ∨ k = 48 ∨ k = 56) H H') := by
  have hF := hm.ms.fx; have hm0 := hm.t0; have hs := hm0.ms; have hx := hs.mx; have hw := hs.mw; have tk := hs.tk; have tw := hs.tw; have hnp := tw.2.1; have hnc := tw.1; have hWn := nW_le tw; have ok := hm.ok; have hlr := hm.lr; have htr := hlr.2.1; have hnf8 := tk.nf; have hz := ok.n; have hrm := hm0.rm; have htt := hs.tt
  refine vq_intro (by decide) (by exact Nat.le_of_ble_eq_true rfl) rfl ?_
  refine xq_aload_n dX11_willKnow_0 rfl rfl ?_
  refine xq_iconst dX11_willKnow_1 ic0 ?_
  refine xq_putI clX11 (by decide) rfl fl_RX11_128 (Or.inl rfl) dX11_willKnow_2 ⟨rfl, rfl⟩ (Fx.s83 hF) ?_
  refine xq_aload_n dX11_willKnow_5 rfl rfl ?_
  refine xq_iload_n dX11_willKnow_6 rfl rfl ?_
  refine xq_callV1P clX11 gd_X11_isPerson dX11_willKnow_7 ml_RX11_460 im_X11_isPerson se_X11_isPerson rfl (Fx.s83 hF) (by exact Nat.le_of_ble_eq_true rfl) (by decide) (m_isPerson hs) ?_
  refine xq_if_neB dX11_willKnow_10 rfl ⟨fun h10 => ?_, fun h10 => ?_⟩
  · skip
    rw [hno] at h10; cases h10
  · skip
    refine xq_iconst dX11_willKnow_13 icm1 ?_
    refine xq_iret dX11_willKnow_14 rfl ?_
    refine ⟨-1, _, ⟨rfl, (MoF.pF (A := (fun q => q = 83 ∨ q = 101 ∨ q = 102 ∨ (112 ≤ q ∧ q ≤ 118))) (F := (fun k => k = 0 ∨ k = 34 ∨ k = 48 ∨ k = 56)) (H := H) (H2 := H) (k := 0) MoF.rf (Or.inl rfl) (Or.inl rfl) (nI 0))⟩, ?_⟩
    rw [zm1]
theorem m_willKnow1 (hm : MnP S H T N lf u) (htw : TwP H (-1) (-1)) (hhd : uHd u + 40000 ≤ 100000000) (hhl : uLi u + 40000 ≤ 100000000) (hh9 : uHr u ≤ 9800) (hp : p < tNp T) : Hv mX11_willKnow 8 [.ref 83, vN p] S H vZ (fun (x : Int) H' => x = (wkV T u p) ∧ TrF (fun k => k = 0 ∨ k = 34 ∨ k = 48 ∨ k = 56) H H') := by
  have hF := hm.ms.fx; have hm0 := hm.t0; have hs := hm0.ms; have hx := hs.mx; have hw := hs.mw; have tk := hs.tk; have tw := hs.tw; have hnp := tw.2.1; have hnc := tw.1; have hWn := nW_le tw; have ok := hm.ok; have hlr := hm.lr; have htr := hlr.2.1; have hnf8 := tk.nf; have hz := ok.n; have hrm := hm0.rm; have htt := hs.tt
  have htw0 : TwP (sI H 83 0 (nI 0)) (-1) (-1) := htw.off (MoF.pF (A := fun q => q = 83) (F := fun k => k = 0) MoF.rf rfl rfl _) (by decide) (by decide)
  have hhr := ok.hr
  have lp : ∀ (fz : Nat) (k : Nat) (lf1 : Nat → Bool) (H1 : xH), 200 - k < fz → k ≤ 200 → RmP H1 T 1 lf1 (wst T u k) → LfR T lf1 (wst T u k) → TrF (fun k => k = 0 ∨ k = 34 ∨ k = 48 ∨ k = 56) H H1 → (∀ j, j < k → kn (wst T u j) p p = false) → Xq mX11_willKnow 8 0 0 23 [some (.ref 83), some (vN p), some (vN k)] [] S H1 (fun R => ∃ x H', (fun (x : Int) H' => x = (wkV T u p) ∧ TrF (fun k => k = 0 ∨ k = 34 ∨ k = 48 ∨ k = 56) H H') x H' ∧ R = (some (vZ x), S, H')) := by
    intro fz
    induction fz with
    | zero => intro k  lf1  H1  hfz; exact absurd hfz (by omega)
    | succ fz ih =>
      intro k  lf1  H1  hfz hk hr1 hl1 ht1 hno
      have g := wst_ok (T := T) ok tk k (by omega) (by omega) (by omega)
      have okw := g.1.1; have gn := g.1.2.1; have ghd := g.1.2.2.1; have gli := g.1.2.2.2; have ghr := g.2
      have hs1 := hm.ms.trf ht1 (by decide) (by decide)
      refine xq_iload_n dX11_willKnow_23 rfl rfl ?_
      refine xq_sipush dX11_willKnow_24 sp199 ?_
      refine xq_icmp_gtN dX11_willKnow_27 rfl (by omega) (by omega) ⟨fun h27 => ?_, fun h27 => ?_⟩
      · skip
        refine xq_bipush dX11_willKnow_67 bpm2 ?_
        refine xq_iret dX11_willKnow_69 rfl ?_
        exact ⟨wkV T u p, H1, ⟨rfl, ht1⟩, by unfold wkV; rw [fnd_no (fun j hj => hno j (by omega)), if_neg (by omega), zm2]⟩
      · skip
        refine xq_aload_n dX11_willKnow_30 rfl rfl ?_
        refine xq_iconst dX11_willKnow_31 ic1 ?_
        refine xq_callV1N clX11 gd_X11_lays dX11_willKnow_32 ml_RX11_428 im_X11_lays se_X11_lays rfl (Fx.s83 hF) (by exact Nat.le_of_ble_eq_true rfl) (by decide) (m_lays hs1 hr1 hl1 okw (by decide)) ?_
        intro H32 p32
        obtain ⟨hd, hl32⟩ := p32
        have hw1 := hd.ms.mw
        have t32 := ht1.ld hl32 (fun k h => by omega)
        have hk2 := hd.kn p hp _ htr
        rw [hl1.2.2.1, Bool.true_and, ← hl1.2.2.2.1, own_kn hl1 tw (okw.se (by omega))] at hk2
        refine xq_aload_n dX11_willKnow_35 rfl rfl ?_
        refine xq_getF clX11 (by decide) rfl fl_RX11_103 dX11_willKnow_36 (Fx.s83 hF) (Fx.r83_50 hF) ?_
        refine xq_sipush dX11_willKnow_39 sp729 ?_
        refine xq_iload_n dX11_willKnow_42 rfl rfl ?_
        refine xq_imulN dX11_willKnow_43 ?_
        refine xq_aload_n dX11_willKnow_44 rfl rfl ?_
        refine xq_getIE clX11 (by decide) rfl fl_RX11_338 dX11_willKnow_45 (Fx.s83 hF) hw1.tr ?_
        refine xq_iaddN dX11_willKnow_48 ?_
        refine xq_zaldN dX11_willKnow_49 (Fx.s113 hF) (by omega) (by decide) hk2 ?_
        refine xq_if_eqB dX11_willKnow_50 rfl ⟨fun h50 => ?_, fun h50 => ?_⟩
        · skip
          refine xq_aload_n dX11_willKnow_55 rfl rfl ?_
          refine xq_iconst dX11_willKnow_56 ic1 ?_
          refine xq_iconst dX11_willKnow_57 ic0 ?_
          refine xq_callV2N clX11 gd_X11_passes dX11_willKnow_58 ml_RX11_456 im_X11_passes se_X11_passes rfl (Fx.s83 hF) (by exact Nat.le_of_ble_eq_true rfl) (by decide) (m_passes (s := 1) (dr := false) hd.ms hd.rm hl1 okw (by decide) (htw.off t32.2 (by decide) (by decide)) (by decide) (by decide) (by omega) (by omega)) ?_
          intro H58 p58
          obtain ⟨lf2, q58⟩ := p58
          have ew : pOne T false (-1) (-1) (wst T u k) = wst T u (k + 1) := pIt_pas (T := T) (dr := false) (ow := -1) (mu := -1) okw tk 1 (by omega) (by omega)
          rw [ew] at q58
          refine xq_iincN dX11_willKnow_61 ic1 rfl rfl ?_
          refine xq_goto dX11_willKnow_64 rfl ?_
          exact ih (k + 1) lf2 H58 (by omega) (by omega) q58.1 q58.2.1 (t32.dy q58 (fun k h => by omega)) (fun j hj => by
            by_cases e : j = k
            · rw [e]; exact h50
            · exact hno j (by omega))
        · skip
          refine xq_iload_n dX11_willKnow_53 rfl rfl ?_
          refine xq_iret dX11_willKnow_54 rfl ?_
          exact ⟨wkV T u p, H32, ⟨rfl, t32⟩, by unfold wkV; rw [fnd_at (f := fun k => kn (wst T u k) p p) hno h50 (by omega), if_pos (by omega)]; rfl⟩
  refine vq_intro (by decide) (by exact Nat.le_of_ble_eq_true rfl) rfl ?_
  refine xq_aload_n dX11_willKnow_0 rfl rfl ?_
  refine xq_iconst dX11_willKnow_1 ic0 ?_
  refine xq_putI clX11 (by decide) rfl fl_RX11_128 (Or.inl rfl) dX11_willKnow_2 ⟨rfl, rfl⟩ (Fx.s83 hF) ?_
  refine xq_aload_n dX11_willKnow_5 rfl rfl ?_
  refine xq_iload_n dX11_willKnow_6 rfl rfl ?_
  refine xq_callV1P clX11 gd_X11_isPerson dX11_willKnow_7 ml_RX11_460 im_X11_isPerson se_X11_isPerson rfl (Fx.s83 hF) (by exact Nat.le_of_ble_eq_true rfl) (by decide) (m_isPerson1 hs hp) ?_
  refine xq_if_neN dX11_willKnow_10 rfl (by omega) ⟨fun h10 => ?_, fun h10 => ?_⟩
  · skip
    refine xq_aload_n dX11_willKnow_15 rfl rfl ?_
    refine xq_iconst dX11_willKnow_16 ic1 ?_
    refine xq_iconst dX11_willKnow_17 ic0 ?_
    refine xq_callV2N clX11 gd_X11_copies dX11_willKnow_18 ml_RX11_476 im_X11_copies se_X11_copies rfl (Fx.s83 hF) (by exact Nat.le_of_ble_eq_true rfl) (by decide) (m_copies (s := 0) (x := 1) hs hrm (by decide) (by decide) (by decide)) ?_
    intro H18 p18
    obtain ⟨r18, e18, o18⟩ := p18
    have t18 := ((TrF.pf (F := (fun k => k = 0 ∨ k = 34 ∨ k = 48 ∨ k = 56)) (H := H) (H2 := H) TrF.rf (Or.inl rfl) (nI 0))).cp e18 o18
    have hs18 := hm.ms.trf t18 (by decide) (by decide)
    have htw18 := htw.off t18.2 (by decide) (by decide)
    refine xq_iconst dX11_willKnow_21 ic0 ?_
    refine xq_istore_n dX11_willKnow_22 rfl rfl ?_
    exact lp 201 0 lf H18 (by omega) (by omega) r18 hlr t18 (fun j hj => absurd hj (by omega))
  · skip
    first | exact absurd h10 (by decide) | exact absurd rfl h10
end TR
