/-! ===== the reference's calls: what changes, and is undone ===== -/
section CF
variable {S : xS} {H H1 H2 H3 : xH} {T : uTx} {N : Nat → Nat → Nat} {s a b c w p q n i j k x y m l f odds ps : Nat} {lf fb Rw lfi : Nat → Bool} {u v ui : uSt} {ow mu : Int} {dr : Bool} {A F : Nat → Prop} {ww w2 w3 fa fp : Int32} {L : Nat → uSt} {LF : Nat → Nat → Bool}
/-- the rooms to which is gone back: L j is the j-th latest -/
def UdP (H : xH) (T : uTx) (ps : Nat) (L : Nat → uSt) (LF : Nat → Nat → Bool) : Prop := hI H 83 47 = nI ps ∧ ps ≤ 20 ∧ ∀ j, j < ps → RmP H T (3 + (ps - 1 - j)) (LF j) (L j) ∧ LfR T (LF j) (L j) ∧ StOk (L j)
theorem UdP.e (h : UdP H T ps L LF) (t : TwOk T) (h47 : hI H2 83 47 = hI H 83 47) (he : ∀ s, 3 ≤ s → RmE H H2 s) : UdP H2 T ps L LF := ⟨h47.trans h.1, h.2.1, fun j hj => ⟨(h.2.2 j hj).1.e t (he _ (by omega)), (h.2.2 j hj).2⟩⟩
theorem m_keepNow (hs : MsP S H T N) (hr : RmP H T 0 lf u) (hlr : LfR T lf u) (ok : StOk u) (hud : UdP H T ps L LF) : Nv mX11_keepNow 1 [.ref 83] S H (fun H' => UdP H' T (min (ps + 1) 20) (fun j => if j = 0 then u else L (j - 1)) (fun j => if j = 0 then lf else LF (j - 1)) ∧ (∀ s, s < 3 → RmE H H' s) ∧ MoF (fun q => q = 83 ∨ (104 ≤ q ∧ q ≤ 111)) (fun k => k = 47) H H') := by
  have hF := hs.fx; have hx := hs.mx; have hw := hs.mw; have tk := hs.tk; have tw := hs.tw; have hnp := tw.2.1; have hnc := tw.1; have hWn := nW_le tw; have hp20 := hud.2.1
  have lE : ∀ (H1 : xH), (∀ r, r + 1 < 20 → RmP H1 T (3 + r) (LF (19 - (r + 1))) (L (19 - (r + 1)))) → (∀ s, s < 3 → RmE H H1 s) → MoF (fun q => q = 83 ∨ (104 ≤ q ∧ q ≤ 111)) (fun k => k = 47) H H1 → hI H1 83 47 = nI 20 → ps = 20 → Xq mX11_keepNow 1 0 0 35 [some (.ref 83), none] [] S H1 (fun R => ∃ H', (fun H' => UdP H' T (min (ps + 1) 20) (fun j => if j = 0 then u else L (j - 1)) (fun j => if j = 0 then lf else LF (j - 1)) ∧ (∀ s, s < 3 → RmE H H' s) ∧ MoF (fun q => q = 83 ∨ (104 ≤ q ∧ q ≤ 111)) (fun k => k = 47) H H') H' ∧ R = (none, S, H')) := by
    intro H1 hA he ho h47 hps
    have hs1 := hs.off ho (fun q a b => by omega) (by omega) (by decide) (by decide)
    have hr2 := hr.e tw (he 0 (by decide))
    refine xq_aload_n dX11_keepNow_35 rfl rfl ?_
    refine xq_dup dX11_keepNow_36 rfl ?_
    refine xq_getIE clX11 (by decide) rfl fl_RX11_312 dX11_keepNow_37 (Fx.s83 hF) h47 ?_
    refine xq_iconst dX11_keepNow_40 ic1 ?_
    refine xq_isubN dX11_keepNow_41 (by decide) ?_
    refine xq_putI clX11 (by decide) rfl fl_RX11_312 (Or.inl rfl) dX11_keepNow_42 ⟨rfl, rfl⟩ (Fx.s83 hF) ?_
    have hs35 := hs1.off (MoF.pF (A := fun q => q = 83) (F := fun k => k = 47) (H := H1) (H2 := H1) (k := 47) MoF.rf rfl rfl (nI 19)) (fun q a b => by omega) (by omega) (by decide) (by decide)
    have hr35 := hr2.off (Off.pI (A := fun q => q = 83) (H := H1) (H' := H1) Off.rf rfl 47 (nI 19)) (fun q a b => by omega)
    refine xq_aload_n dX11_keepNow_45 rfl rfl ?_
    refine xq_iconst dX11_keepNow_46 ic3 ?_
    refine xq_aload_n dX11_keepNow_47 rfl rfl ?_
    refine xq_getIE (v := nI 19) clX11 (by decide) rfl fl_RX11_312 dX11_keepNow_48 (Fx.s83 hF) (by rw [hI_sI, if_pos ⟨rfl, rfl⟩]) ?_
    refine xq_iaddN dX11_keepNow_51 ?_
    refine xq_iconst dX11_keepNow_52 ic0 ?_
    refine xq_callV2N clX11 gd_X11_copies dX11_keepNow_53 ml_RX11_476 im_X11_copies se_X11_copies rfl (Fx.s83 hF) (by exact Nat.le_of_ble_eq_true rfl) (by decide) (m_copies (s := 0) (x := 3 + 19) hs35 hr35 (by decide) (by decide) (by decide)) ?_
    intro H53 p53
    obtain ⟨r53, e53, o53⟩ := p53
    refine xq_aload_n dX11_keepNow_56 rfl rfl ?_
    refine xq_dup dX11_keepNow_57 rfl ?_
    refine xq_getIE (v := nI 19) clX11 (by decide) rfl fl_RX11_312 dX11_keepNow_58 (Fx.s83 hF) ((o53.I (by omega) 47).trans (by rw [hI_sI, if_pos ⟨rfl, rfl⟩])) ?_
    refine xq_iconst dX11_keepNow_61 ic1 ?_
    refine xq_iaddN dX11_keepNow_62 ?_
    refine xq_putI clX11 (by decide) rfl fl_RX11_312 (Or.inl rfl) dX11_keepNow_63 ⟨rfl, rfl⟩ (Fx.s83 hF) ?_
    refine xq_vret dX11_keepNow_66 rfl ?_
    refine ⟨_, ⟨?_, fun s hs' => ?_, ?_⟩, rfl⟩
    · rw [hps, show min (20 + 1) 20 = 20 by omega]
      refine ⟨by rw [hI_sI, if_pos ⟨rfl, rfl⟩], by omega, fun j hj => ?_⟩
      by_cases e : j = 0
      · subst e
        exact ⟨r53.off (Off.pI (A := fun q => q = 83) Off.rf rfl _ _) (fun q a b => by omega), hlr, ok⟩
      · have h1 := hA (19 - j) (by omega)
        rw [show 19 - (19 - j + 1) = j - 1 by omega] at h1
        simp only [if_neg e]
        rw [show 20 - 1 - j = 19 - j by omega]
        have h2 := (hud.2.2 (j - 1) (by omega)).2
        exact ⟨((h1.off (Off.pI (A := fun q => q = 83) Off.rf rfl _ _) (fun q a b => by omega)).e tw (e53 _ (by omega))).off (Off.pI (A := fun q => q = 83) Off.rf rfl _ _) (fun q a b => by omega), h2⟩
    · exact (((he s hs').tr (RmE.of (Off.pI (A := fun q => q = 83) Off.rf rfl _ _) (fun q a b => by omega))).tr (e53 s (by omega))).tr (RmE.of (Off.pI (A := fun q => q = 83) Off.rf rfl _ _) (fun q a b => by omega))
    · exact MoF.pF (A := (fun q => q = 83 ∨ (104 ≤ q ∧ q ≤ 111))) (F := fun k => k = 47) ((MoF.pF (A := (fun q => q = 83 ∨ (104 ≤ q ∧ q ≤ 111))) (F := fun k => k = 47) ho (Or.inl rfl) rfl _).tr (MoF.mo (MoF.of (F := fun k => k = 47) o53 (by omega)) (fun q h => Or.inr h) (fun k h => h))) (Or.inl rfl) rfl _
  by_cases hps : ps = 20
  · skip
    have l1 : ∀ (fz : Nat) (k : Nat) (H1 : xH), 20 - k < fz → k ≤ 20 → 1 ≤ k → (∀ r, r + 1 < k → RmP H1 T (3 + r) (LF (19 - (r + 1))) (L (19 - (r + 1)))) → (∀ r, k ≤ r + 1 → r < 20 → RmP H1 T (3 + r) (LF (19 - r)) (L (19 - r))) → (∀ s, s < 3 → RmE H H1 s) → MoF (fun q => q = 83 ∨ (104 ≤ q ∧ q ≤ 111)) (fun k => k = 47) H H1 → hI H1 83 47 = nI 20 → Xq mX11_keepNow 1 0 0 11 [some (.ref 83), some (vN k)] [] S H1 (fun R => ∃ H', (fun H' => UdP H' T (min (ps + 1) 20) (fun j => if j = 0 then u else L (j - 1)) (fun j => if j = 0 then lf else LF (j - 1)) ∧ (∀ s, s < 3 → RmE H H' s) ∧ MoF (fun q => q = 83 ∨ (104 ≤ q ∧ q ≤ 111)) (fun k => k = 47) H H') H' ∧ R = (none, S, H')) := by
      intro fz
      induction fz with
      | zero => intro k  H1  hfz; exact absurd hfz (by omega)
      | succ fz ih =>
        intro k  H1  hfz hk h1k hA hB he ho h47
        skip
        have hs1 := hs.off ho (fun q a b => by omega) (by omega) (by decide) (by decide)
        refine xq_iload_n dX11_keepNow_11 rfl rfl ?_
        refine xq_bipush dX11_keepNow_12 bp20 ?_
        refine xq_icmp_geN dX11_keepNow_14 rfl (by omega) (by omega) ⟨fun h14 => ?_, fun h14 => ?_⟩
        · skip
          have ek : k = 20 := by omega
          subst ek
          exact xq_fgt (lE H1 hA he ho h47 hps) (by exact And.intro rfl (trivial))
        · skip
          refine xq_aload_n dX11_keepNow_17 rfl rfl ?_
          refine xq_iconst dX11_keepNow_18 ic3 ?_
          refine xq_iload_n dX11_keepNow_19 rfl rfl ?_
          refine xq_iaddN dX11_keepNow_20 ?_
          refine xq_iconst dX11_keepNow_21 ic1 ?_
          refine xq_isubN dX11_keepNow_22 (by omega) ?_
          rw [show 3 + k - 1 = 3 + (k - 1) by omega]
          refine xq_iconst dX11_keepNow_23 ic3 ?_
          refine xq_iload_n dX11_keepNow_24 rfl rfl ?_
          refine xq_iaddN dX11_keepNow_25 ?_
          refine xq_callV2N clX11 gd_X11_copies dX11_keepNow_26 ml_RX11_476 im_X11_copies se_X11_copies rfl (Fx.s83 hF) (by exact Nat.le_of_ble_eq_true rfl) (by decide) (m_copies (s := 3 + k) (x := 3 + (k - 1)) hs1 (hB k (by omega) h14) (by omega) (by omega) (by omega)) ?_
          intro H26 p26
          obtain ⟨r26, e26, o26⟩ := p26
          refine xq_iincN dX11_keepNow_29 ic1 rfl rfl ?_
          refine xq_goto dX11_keepNow_32 rfl ?_
          refine ih (k + 1) H26 (by omega) (by omega) (by omega) (fun r hr' => ?_) (fun r hr' hr2 => (hB r (by omega) hr2).e tw (e26 _ (by omega))) (fun s hs' => (he s hs').tr (e26 s (by omega))) (ho.tr (MoF.mo (MoF.of (F := fun k => k = 47) o26 (by omega)) (fun q h => Or.inr h) (fun k h => h))) ((o26.I (by omega) 47).trans h47)
          by_cases e : r = k - 1
          · subst e
            rw [show k - 1 + 1 = k by omega]; exact r26
          · exact (hA r (by omega)).e tw (e26 _ (by omega))
    refine vq_intro (by decide) (by exact Nat.le_of_ble_eq_true rfl) rfl ?_
    refine xq_aload_n dX11_keepNow_0 rfl rfl ?_
    refine xq_getIE clX11 (by decide) rfl fl_RX11_312 dX11_keepNow_1 (Fx.s83 hF) hud.1 ?_
    refine xq_bipush dX11_keepNow_4 bp20 ?_
    refine xq_icmp_neN dX11_keepNow_6 rfl (by omega) (by omega) ⟨fun h6 => ?_, fun h6 => ?_⟩
    · skip
      exact absurd hps h6
    · skip
      refine xq_iconst dX11_keepNow_9 ic1 ?_
      refine xq_istore_n dX11_keepNow_10 rfl rfl ?_
      exact l1 20 1 H (by omega) (by omega) (by omega) (fun r hr' => absurd hr' (by omega)) (fun r hr' hr2 => by
        have h1 := (hud.2.2 (19 - r) (by omega)).1
        rw [show ps - 1 - (19 - r) = r by omega] at h1
        exact h1) (fun _ _ => RmE.rf) MoF.rf (by rw [hud.1, hps])
  · refine vq_intro (by decide) (by exact Nat.le_of_ble_eq_true rfl) rfl ?_
    refine xq_aload_n dX11_keepNow_0 rfl rfl ?_
    refine xq_getIE clX11 (by decide) rfl fl_RX11_312 dX11_keepNow_1 (Fx.s83 hF) hud.1 ?_
    refine xq_bipush dX11_keepNow_4 bp20 ?_
    refine xq_icmp_neN dX11_keepNow_6 rfl (by omega) (by omega) ⟨fun h6 => ?_, fun h6 => ?_⟩
    · skip
      refine xq_aload_n dX11_keepNow_45 rfl rfl ?_
      refine xq_iconst dX11_keepNow_46 ic3 ?_
      refine xq_aload_n dX11_keepNow_47 rfl rfl ?_
      refine xq_getIE clX11 (by decide) rfl fl_RX11_312 dX11_keepNow_48 (Fx.s83 hF) hud.1 ?_
      refine xq_iaddN dX11_keepNow_51 ?_
      refine xq_iconst dX11_keepNow_52 ic0 ?_
      refine xq_callV2N clX11 gd_X11_copies dX11_keepNow_53 ml_RX11_476 im_X11_copies se_X11_copies rfl (Fx.s83 hF) (by exact Nat.le_of_ble_eq_true rfl) (by decide) (m_copies (s := 0) (x := 3 + ps) hs hr (by decide) (by omega) (by omega)) ?_
      intro H53 p53
      obtain ⟨r53, e53, o53⟩ := p53
      refine xq_aload_n dX11_keepNow_56 rfl rfl ?_
      refine xq_dup dX11_keepNow_57 rfl ?_
      refine xq_getIE (v := nI ps) clX11 (by decide) rfl fl_RX11_312 dX11_keepNow_58 (Fx.s83 hF) ((o53.I (by omega) 47).trans hud.1) ?_
      refine xq_iconst dX11_keepNow_61 ic1 ?_
      refine xq_iaddN dX11_keepNow_62 ?_
      refine xq_putI clX11 (by decide) rfl fl_RX11_312 (Or.inl rfl) dX11_keepNow_63 ⟨rfl, rfl⟩ (Fx.s83 hF) ?_
      refine xq_vret dX11_keepNow_66 rfl ?_
      refine ⟨_, ⟨?_, fun s hs' => ?_, ?_⟩, rfl⟩
      · rw [show min (ps + 1) 20 = ps + 1 by omega]
        refine ⟨by rw [hI_sI, if_pos ⟨rfl, rfl⟩], by omega, fun j hj => ?_⟩
        by_cases e : j = 0
        · subst e
          exact ⟨r53.off (Off.pI (A := fun q => q = 83) Off.rf rfl _ _) (fun q a b => by omega), hlr, ok⟩
        · have h2 := hud.2.2 (j - 1) (by omega)
          simp only [if_neg e]
          rw [show ps + 1 - 1 - j = ps - 1 - (j - 1) by omega]
          exact ⟨(h2.1.e tw (e53 _ (by omega))).off (Off.pI (A := fun q => q = 83) Off.rf rfl _ _) (fun q a b => by omega), h2.2⟩
      · exact (e53 s (by omega)).tr (RmE.of (Off.pI (A := fun q => q = 83) Off.rf rfl _ _) (fun q a b => by omega))
      · exact MoF.pF (A := (fun q => q = 83 ∨ (104 ≤ q ∧ q ≤ 111))) (F := fun k => k = 47) (MoF.mo (MoF.of (F := fun k => k = 47) o53 (by omega)) (fun q h => Or.inr h) (fun k h => h)) (Or.inl rfl) rfl _
    · skip
      exact absurd h6 hps
theorem m_keep (hm : MnP S H T N lf u) : Hv mX11_keep 1 [.ref 83] S H vN (fun z H' => z = uHr u ∧ RmP H' T 2 lf u ∧ hI H' 83 46 = bI true ∧ (∀ s, s ≠ 2 → RmE H H' s) ∧ MoF (fun q => q = 83 ∨ q = 101 ∨ q = 102 ∨ (104 ≤ q ∧ q ≤ 118)) (fun k => k = 0 ∨ k = 46) H H') := by
  have hF := hm.ms.fx; have hm0 := hm.t0; have hs := hm0.ms; have hx := hs.mx; have hw := hs.mw; have tk := hs.tk; have tw := hs.tw; have hnp := tw.2.1; have hnc := tw.1; have hWn := nW_le tw; have ok := hm.ok; have hlr := hm.lr; have htr := hlr.2.1; have hnf8 := tk.nf; have hz := ok.n; have hrm := hm0.rm; have htt := hs.tt
  have e0 := (fun s => RmE.of (H := H) (H2 := sI H 83 0 (nI 0)) (s := s) (Off.pI (A := fun q => q = 83) Off.rf rfl _ _) (fun q a b => by omega))
  refine vq_intro (by decide) (by exact Nat.le_of_ble_eq_true rfl) rfl ?_
  refine xq_aload_n dX11_keep_0 rfl rfl ?_
  refine xq_iconst dX11_keep_1 ic0 ?_
  refine xq_putI clX11 (by decide) rfl fl_RX11_128 (Or.inl rfl) dX11_keep_2 ⟨rfl, rfl⟩ (Fx.s83 hF) ?_
  refine xq_aload_n dX11_keep_5 rfl rfl ?_
  refine xq_iconst dX11_keep_6 ic2 ?_
  refine xq_iconst dX11_keep_7 ic0 ?_
  refine xq_callV2N clX11 gd_X11_copies dX11_keep_8 ml_RX11_476 im_X11_copies se_X11_copies rfl (Fx.s83 hF) (by exact Nat.le_of_ble_eq_true rfl) (by decide) (m_copies (s := 0) (x := 2) hs hrm (by decide) (by decide) (by decide)) ?_
  intro H8 p8
  obtain ⟨r8, e8, o8⟩ := p8
  refine xq_aload_n dX11_keep_11 rfl rfl ?_
  refine xq_iconst dX11_keep_12 ic1 ?_
  refine xq_putI clX11 (by decide) rfl fl_RX11_308 (Or.inl rfl) dX11_keep_13 ⟨rfl, rfl⟩ (Fx.s83 hF) ?_
  refine xq_aload_n dX11_keep_16 rfl rfl ?_
  refine xq_getF clX11 (by decide) rfl fl_RX11_75 dX11_keep_17 (Fx.s83 hF) (Fx.r83_38 hF) ?_
  refine xq_iconst dX11_keep_20 ic0 ?_
  refine xq_ialdN (v := nI (uHr u)) dX11_keep_21 (Fx.s104 hF) (by omega) (by decide) ((hI_sI _ _ _ _ _ _).trans ((if_neg (by omega)).trans (((e8 0 (by decide)).2.1 104 (by decide) (by decide)).trans hrm.hr))) ?_
  refine xq_iret dX11_keep_22 rfl ?_
  refine ⟨uHr u, _, ⟨rfl, r8.off (Off.pI (A := fun q => q = 83) Off.rf rfl _ _) (fun q a b => by omega), by rw [hI_sI, if_pos ⟨rfl, rfl⟩]; rfl, fun s hs' => ((e0 s).tr (e8 s hs')).tr (RmE.of (Off.pI (A := fun q => q = 83) Off.rf rfl _ _) (fun q a b => by omega)), ?_⟩, rfl⟩
  exact MoF.pF (A := (fun q => q = 83 ∨ q = 101 ∨ q = 102 ∨ (104 ≤ q ∧ q ≤ 118))) (F := fun k => k = 0 ∨ k = 46) ((MoF.pF (A := (fun q => q = 83 ∨ q = 101 ∨ q = 102 ∨ (104 ≤ q ∧ q ≤ 118))) (F := fun k => k = 0 ∨ k = 46) (H := H) (H2 := H) (k := 0) MoF.rf (Or.inl rfl) (Or.inl rfl) (nI 0)).tr (MoF.mo (MoF.of (F := fun k => k = 0 ∨ k = 46) o8 (by omega)) (fun q h => by omega) (fun k h => h))) (Or.inl rfl) (Or.inr rfl) _
theorem m_back0 (hF : gFx S) (h46 : hI H 83 46 = bI false) : Hv mX11_back 1 [.ref 83] S H vZ (fun (x : Int) H' => x = (-1) ∧ MoF (fun q => q = 83 ∨ q = 101 ∨ q = 102 ∨ (112 ≤ q ∧ q ≤ 118)) (fun k => k = 0 ∨ k = 34 ∨ k = 48 ∨ k = 56) H H') := by
  refine vq_intro (by decide) (by exact Nat.le_of_ble_eq_true rfl) rfl ?_
  refine xq_aload_n dX11_back_0 rfl rfl ?_
  refine xq_iconst dX11_back_1 ic0 ?_
  refine xq_putI clX11 (by decide) rfl fl_RX11_128 (Or.inl rfl) dX11_back_2 ⟨rfl, rfl⟩ (Fx.s83 hF) ?_
  refine xq_aload_n dX11_back_5 rfl rfl ?_
  refine xq_getIE clX11 (by decide) rfl fl_RX11_308 dX11_back_6 (Fx.s83 hF) ((hI_sI _ _ _ _ _ _).trans ((if_neg (by omega)).trans h46)) ?_
  refine xq_if_neB dX11_back_9 rfl ⟨fun h9 => ?_, fun h9 => ?_⟩
  · skip
    exact absurd h9 (by decide)
  · skip
    refine xq_iconst dX11_back_12 icm1 ?_
    refine xq_iret dX11_back_13 rfl ?_
    refine ⟨-1, _, ⟨rfl, (MoF.pF (A := (fun q => q = 83 ∨ q = 101 ∨ q = 102 ∨ (112 ≤ q ∧ q ≤ 118))) (F := (fun k => k = 0 ∨ k = 34 ∨ k = 48 ∨ k = 56)) (H := H) (H2 := H) (k := 0) MoF.rf (Or.inl rfl) (Or.inl rfl) (nI 0))⟩, ?_⟩
    rw [zm1]
theorem m_back1 (hm : MnP S H T N lf u) (h46 : hI H 83 46 = bI true) (hri : RmP H T 2 lfi ui) : Hv mX11_back 1 [.ref 83] S H vN (fun z H' => z = uHr ui ∧ RmP H' T 0 lfi ui ∧ hI H' 83 47 = nI 0 ∧ (∀ s, s ≠ 0 → RmE H H' s) ∧ MoF (fun q => q = 83 ∨ q = 101 ∨ q = 102 ∨ (104 ≤ q ∧ q ≤ 118)) (fun k => k = 0 ∨ k = 47) H H') := by
  have hF := hm.ms.fx; have hm0 := hm.t0; have hs := hm0.ms; have hx := hs.mx; have hw := hs.mw; have tk := hs.tk; have tw := hs.tw; have hnp := tw.2.1; have hnc := tw.1; have hWn := nW_le tw; have ok := hm.ok; have hlr := hm.lr; have htr := hlr.2.1; have hnf8 := tk.nf; have hz := ok.n; have hrm := hm0.rm; have htt := hs.tt
  have e0 := (fun s => RmE.of (H := H) (H2 := sI H 83 0 (nI 0)) (s := s) (Off.pI (A := fun q => q = 83) Off.rf rfl _ _) (fun q a b => by omega))
  have hri0 := hri.e tw (e0 2)
  refine vq_intro (by decide) (by exact Nat.le_of_ble_eq_true rfl) rfl ?_
  refine xq_aload_n dX11_back_0 rfl rfl ?_
  refine xq_iconst dX11_back_1 ic0 ?_
  refine xq_putI clX11 (by decide) rfl fl_RX11_128 (Or.inl rfl) dX11_back_2 ⟨rfl, rfl⟩ (Fx.s83 hF) ?_
  refine xq_aload_n dX11_back_5 rfl rfl ?_
  refine xq_getIE clX11 (by decide) rfl fl_RX11_308 dX11_back_6 (Fx.s83 hF) ((hI_sI _ _ _ _ _ _).trans ((if_neg (by omega)).trans h46)) ?_
  refine xq_if_neB dX11_back_9 rfl ⟨fun h9 => ?_, fun h9 => ?_⟩
  · skip
    refine xq_aload_n dX11_back_14 rfl rfl ?_
    refine xq_iconst dX11_back_15 ic0 ?_
    refine xq_iconst dX11_back_16 ic2 ?_
    refine xq_callV2N clX11 gd_X11_copies dX11_back_17 ml_RX11_476 im_X11_copies se_X11_copies rfl (Fx.s83 hF) (by exact Nat.le_of_ble_eq_true rfl) (by decide) (m_copies (s := 2) (x := 0) hs hri0 (by decide) (by decide) (by decide)) ?_
    intro H17 p17
    obtain ⟨r17, e17, o17⟩ := p17
    refine xq_aload_n dX11_back_20 rfl rfl ?_
    refine xq_iconst dX11_back_21 ic0 ?_
    refine xq_putI clX11 (by decide) rfl fl_RX11_312 (Or.inl rfl) dX11_back_22 ⟨rfl, rfl⟩ (Fx.s83 hF) ?_
    refine xq_aload_n dX11_back_25 rfl rfl ?_
    refine xq_getF clX11 (by decide) rfl fl_RX11_75 dX11_back_26 (Fx.s83 hF) (Fx.r83_38 hF) ?_
    refine xq_iconst dX11_back_29 ic0 ?_
    refine xq_ialdN (v := nI (uHr ui)) dX11_back_30 (Fx.s104 hF) (by omega) (by decide) ((hI_sI _ _ _ _ _ _).trans ((if_neg (by omega)).trans r17.hr)) ?_
    refine xq_iret dX11_back_31 rfl ?_
    refine ⟨uHr ui, _, ⟨rfl, r17.off (Off.pI (A := fun q => q = 83) Off.rf rfl _ _) (fun q a b => by omega), by rw [hI_sI, if_pos ⟨rfl, rfl⟩], fun s hs' => ((e0 s).tr (e17 s hs')).tr (RmE.of (Off.pI (A := fun q => q = 83) Off.rf rfl _ _) (fun q a b => by omega)), ?_⟩, rfl⟩
    exact MoF.pF (A := (fun q => q = 83 ∨ q = 101 ∨ q = 102 ∨ (104 ≤ q ∧ q ≤ 118))) (F := fun k => k = 0 ∨ k = 47) ((MoF.pF (A := (fun q => q = 83 ∨ q = 101 ∨ q = 102 ∨ (104 ≤ q ∧ q ≤ 118))) (F := fun k => k = 0 ∨ k = 47) (H := H) (H2 := H) (k := 0) MoF.rf (Or.inl rfl) (Or.inl rfl) (nI 0)).tr (MoF.mo (MoF.of (F := fun k => k = 0 ∨ k = 47) o17 (by omega)) (fun q h => by omega) (fun k h => h))) (Or.inl rfl) (Or.inr rfl) _
  · skip
    exact absurd h9 (by decide)
theorem m_undo0 (hF : gFx S) (h47 : hI H 83 47 = nI 0) : Hv mX11_undo 1 [.ref 83] S H vZ (fun (x : Int) H' => x = (-1) ∧ MoF (fun q => q = 83 ∨ q = 101 ∨ q = 102 ∨ (112 ≤ q ∧ q ≤ 118)) (fun k => k = 0 ∨ k = 34 ∨ k = 48 ∨ k = 56) H H') := by
  refine vq_intro (by decide) (by exact Nat.le_of_ble_eq_true rfl) rfl ?_
  refine xq_aload_n dX11_undo_0 rfl rfl ?_
  refine xq_iconst dX11_undo_1 ic0 ?_
  refine xq_putI clX11 (by decide) rfl fl_RX11_128 (Or.inl rfl) dX11_undo_2 ⟨rfl, rfl⟩ (Fx.s83 hF) ?_
  refine xq_aload_n dX11_undo_5 rfl rfl ?_
  refine xq_getIE clX11 (by decide) rfl fl_RX11_312 dX11_undo_6 (Fx.s83 hF) ((hI_sI _ _ _ _ _ _).trans ((if_neg (by omega)).trans h47)) ?_
  refine xq_if_neN dX11_undo_9 rfl (by omega) ⟨fun h9 => ?_, fun h9 => ?_⟩
  · skip
    exact absurd rfl h9
  · skip
    refine xq_iconst dX11_undo_12 icm1 ?_
    refine xq_iret dX11_undo_13 rfl ?_
    refine ⟨-1, _, ⟨rfl, (MoF.pF (A := (fun q => q = 83 ∨ q = 101 ∨ q = 102 ∨ (112 ≤ q ∧ q ≤ 118))) (F := (fun k => k = 0 ∨ k = 34 ∨ k = 48 ∨ k = 56)) (H := H) (H2 := H) (k := 0) MoF.rf (Or.inl rfl) (Or.inl rfl) (nI 0))⟩, ?_⟩
    rw [zm1]
theorem m_undo1 (hm : MnP S H T N lf u) (hud : UdP H T ps L LF) (hps : 0 < ps) : Hv mX11_undo 1 [.ref 83] S H vN (fun z H' => z = ps - 1 ∧ RmP H' T 0 (LF 0) (L 0) ∧ UdP H' T (ps - 1) (fun j => L (j + 1)) (fun j => LF (j + 1)) ∧ (∀ s, s ≠ 0 → RmE H H' s) ∧ MoF (fun q => q = 83 ∨ q = 101 ∨ q = 102 ∨ (104 ≤ q ∧ q ≤ 118)) (fun k => k = 0 ∨ k = 47) H H') := by
  have hF := hm.ms.fx; have hm0 := hm.t0; have hs := hm0.ms; have hx := hs.mx; have hw := hs.mw; have tk := hs.tk; have tw := hs.tw; have hnp := tw.2.1; have hnc := tw.1; have hWn := nW_le tw; have ok := hm.ok; have hlr := hm.lr; have htr := hlr.2.1; have hnf8 := tk.nf; have hz := ok.n; have hrm := hm0.rm; have htt := hs.tt
  have e0 := (fun s => RmE.of (H := H) (H2 := sI H 83 0 (nI 0)) (s := s) (Off.pI (A := fun q => q = 83) Off.rf rfl _ _) (fun q a b => by omega))
  have hp20 := hud.2.1
  have e1 : ∀ s, RmE (sI H 83 0 (nI 0)) (sI (sI H 83 0 (nI 0)) 83 47 (nI (ps - 1))) s := fun s => RmE.of (Off.pI (A := fun q => q = 83) Off.rf rfl _ _) (fun q a b => by omega)
  have hl0 := (hud.2.2 0 hps).1
  rw [show ps - 1 - 0 = ps - 1 by omega] at hl0
  have hl1 := (hl0.e tw (e0 _)).e tw (e1 _)
  have hs2 := hs.off (MoF.pF (A := fun q => q = 83) (F := fun k => k = 47) (k := 47) MoF.rf rfl rfl (nI (ps - 1))) (fun q a b => by omega) (by omega) (by decide) (by decide)
  refine vq_intro (by decide) (by exact Nat.le_of_ble_eq_true rfl) rfl ?_
  refine xq_aload_n dX11_undo_0 rfl rfl ?_
  refine xq_iconst dX11_undo_1 ic0 ?_
  refine xq_putI clX11 (by decide) rfl fl_RX11_128 (Or.inl rfl) dX11_undo_2 ⟨rfl, rfl⟩ (Fx.s83 hF) ?_
  refine xq_aload_n dX11_undo_5 rfl rfl ?_
  refine xq_getIE (v := nI ps) clX11 (by decide) rfl fl_RX11_312 dX11_undo_6 (Fx.s83 hF) ((hI_sI _ _ _ _ _ _).trans ((if_neg (by omega)).trans hud.1)) ?_
  refine xq_if_neN dX11_undo_9 rfl (by omega) ⟨fun h9 => ?_, fun h9 => ?_⟩
  · skip
    refine xq_aload_n dX11_undo_14 rfl rfl ?_
    refine xq_dup dX11_undo_15 rfl ?_
    refine xq_getIE (v := nI ps) clX11 (by decide) rfl fl_RX11_312 dX11_undo_16 (Fx.s83 hF) ((hI_sI _ _ _ _ _ _).trans ((if_neg (by omega)).trans hud.1)) ?_
    refine xq_iconst dX11_undo_19 ic1 ?_
    refine xq_isubN dX11_undo_20 (by omega) ?_
    refine xq_putI clX11 (by decide) rfl fl_RX11_312 (Or.inl rfl) dX11_undo_21 ⟨rfl, rfl⟩ (Fx.s83 hF) ?_
    refine xq_aload_n dX11_undo_24 rfl rfl ?_
    refine xq_iconst dX11_undo_25 ic0 ?_
    refine xq_iconst dX11_undo_26 ic3 ?_
    refine xq_aload_n dX11_undo_27 rfl rfl ?_
    refine xq_getIE (v := nI (ps - 1)) clX11 (by decide) rfl fl_RX11_312 dX11_undo_28 (Fx.s83 hF) (by rw [hI_sI, if_pos ⟨rfl, rfl⟩]) ?_
    refine xq_iaddN dX11_undo_31 ?_
    refine xq_callV2N clX11 gd_X11_copies dX11_undo_32 ml_RX11_476 im_X11_copies se_X11_copies rfl (Fx.s83 hF) (by exact Nat.le_of_ble_eq_true rfl) (by decide) (m_copies (s := 3 + (ps - 1)) (x := 0) hs2 hl1 (by omega) (by decide) (by omega)) ?_
    intro H32 p32
    obtain ⟨r32, e32, o32⟩ := p32
    refine xq_aload_n dX11_undo_35 rfl rfl ?_
    refine xq_getIE (v := nI (ps - 1)) clX11 (by decide) rfl fl_RX11_312 dX11_undo_36 (Fx.s83 hF) ((o32.I (by omega) 47).trans (by rw [hI_sI, if_pos ⟨rfl, rfl⟩])) ?_
    refine xq_iret dX11_undo_39 rfl ?_
    refine ⟨ps - 1, H32, ⟨rfl, r32, ⟨(o32.I (by omega) 47).trans (by rw [hI_sI, if_pos ⟨rfl, rfl⟩]), by omega, fun j hj => ?_⟩, fun s hs' => ((e0 s).tr (e1 s)).tr (e32 s hs'), ?_⟩, rfl⟩
    · have h2 := hud.2.2 (j + 1) (by omega)
      rw [show ps - 1 - (j + 1) = ps - 1 - 1 - j by omega] at h2
      exact ⟨((h2.1.e tw (e0 _)).e tw (e1 _)).e tw (e32 _ (by omega)), h2.2⟩
    · exact (MoF.pF (A := (fun q => q = 83 ∨ q = 101 ∨ q = 102 ∨ (104 ≤ q ∧ q ≤ 118))) (F := fun k => k = 0 ∨ k = 47) (MoF.pF (A := (fun q => q = 83 ∨ q = 101 ∨ q = 102 ∨ (104 ≤ q ∧ q ≤ 118))) (F := fun k => k = 0 ∨ k = 47) (H := H) (H2 := H) (k := 0) MoF.rf (Or.inl rfl) (Or.inl rfl) (nI 0)) (Or.inl rfl) (Or.inr rfl) _).tr (MoF.mo (MoF.of (F := fun k => k = 0 ∨ k = 47) o32 (by omega)) (fun q h => by omega) (fun k h => h))
  · skip
    exact absurd h9 (by omega)
theorem m_tell0 (hm : MnP S H T N lf u) (hno : hasB ww (tNf T) = false) : Hv mX11_tell 6 [.ref 83, .int ww] S H vZ (fun (x : Int) H' => x = (-1) ∧ MoF (fun q => q = 83 ∨ q = 101 ∨ q = 102 ∨ (112 ≤ q ∧ q ≤ 118)) (fun k => k = 0 ∨ k = 34 ∨ k = 48 ∨ k = 56) H H') := by
  have hF := hm.ms.fx; have hm0 := hm.t0; have hs := hm0.ms; have hx := hs.mx; have hw := hs.mw; have tk := hs.tk; have tw := hs.tw; have hnp := tw.2.1; have hnc := tw.1; have hWn := nW_le tw; have ok := hm.ok; have hlr := hm.lr; have htr := hlr.2.1; have hnf8 := tk.nf; have hz := ok.n; have hrm := hm0.rm; have htt := hs.tt
  refine vq_intro (by decide) (by exact Nat.le_of_ble_eq_true rfl) rfl ?_
  refine xq_aload_n dX11_tell_0 rfl rfl ?_
  refine xq_iconst dX11_tell_1 ic0 ?_
  refine xq_putI clX11 (by decide) rfl fl_RX11_128 (Or.inl rfl) dX11_tell_2 ⟨rfl, rfl⟩ (Fx.s83 hF) ?_
  refine xq_aload_n dX11_tell_5 rfl rfl ?_
  refine xq_iload_n dX11_tell_6 rfl rfl ?_
  refine xq_callV1P clX11 gd_X11_isFact dX11_tell_7 ml_RX11_466 im_X11_isFact se_X11_isFact rfl (Fx.s83 hF) (by exact Nat.le_of_ble_eq_true rfl) (by decide) (m_isFact hs) ?_
  refine xq_if_neB dX11_tell_10 rfl ⟨fun h10 => ?_, fun h10 => ?_⟩
  · skip
    rw [hno] at h10; cases h10
  · skip
    refine xq_iconst dX11_tell_13 icm1 ?_
    refine xq_iret dX11_tell_14 rfl ?_
    refine ⟨-1, _, ⟨rfl, (MoF.pF (A := (fun q => q = 83 ∨ q = 101 ∨ q = 102 ∨ (112 ≤ q ∧ q ≤ 118))) (F := (fun k => k = 0 ∨ k = 34 ∨ k = 48 ∨ k = 56)) (H := H) (H2 := H) (k := 0) MoF.rf (Or.inl rfl) (Or.inl rfl) (nI 0))⟩, ?_⟩
    rw [zm1]
theorem m_tell1 (hm : MnP S H T N lf u) (hf : f < tNf T) (hkv : kv T u (tRo T f) (uRl u) = false) : Hv mX11_tell 6 [.ref 83, vN f] S H vZ (fun (x : Int) H' => x = (-2) ∧ MoF (fun q => q = 83 ∨ q = 101 ∨ q = 102 ∨ (112 ≤ q ∧ q ≤ 118)) (fun k => k = 0 ∨ k = 34 ∨ k = 48 ∨ k = 56) H H') := by
  have hF := hm.ms.fx; have hm0 := hm.t0; have hs := hm0.ms; have hx := hs.mx; have hw := hs.mw; have tk := hs.tk; have tw := hs.tw; have hnp := tw.2.1; have hnc := tw.1; have hWn := nW_le tw; have ok := hm.ok; have hlr := hm.lr; have htr := hlr.2.1; have hnf8 := tk.nf; have hz := ok.n; have hrm := hm0.rm; have htt := hs.tt
  refine vq_intro (by decide) (by exact Nat.le_of_ble_eq_true rfl) rfl ?_
  refine xq_aload_n dX11_tell_0 rfl rfl ?_
  refine xq_iconst dX11_tell_1 ic0 ?_
  refine xq_putI clX11 (by decide) rfl fl_RX11_128 (Or.inl rfl) dX11_tell_2 ⟨rfl, rfl⟩ (Fx.s83 hF) ?_
  refine xq_aload_n dX11_tell_5 rfl rfl ?_
  refine xq_iload_n dX11_tell_6 rfl rfl ?_
  refine xq_callV1P clX11 gd_X11_isFact dX11_tell_7 ml_RX11_466 im_X11_isFact se_X11_isFact rfl (Fx.s83 hF) (by exact Nat.le_of_ble_eq_true rfl) (by decide) (m_isFact1 hs hf) ?_
  refine xq_if_neN dX11_tell_10 rfl (by omega) ⟨fun h10 => ?_, fun h10 => ?_⟩
  · skip
    refine xq_aload_n dX11_tell_15 rfl rfl ?_
    refine xq_iconst dX11_tell_16 ic0 ?_
    refine xq_callV1N clX11 gd_X11_lays dX11_tell_17 ml_RX11_428 im_X11_lays se_X11_lays rfl (Fx.s83 hF) (by exact Nat.le_of_ble_eq_true rfl) (by decide) (m_lays hs hrm hlr ok (by decide)) ?_
    intro H17 p17
    obtain ⟨hd, hl17⟩ := p17
    have hr1 := hd.rm; have hx1 := hd.ms.mx; have hw1 := hd.ms.mw; have hs1 := hd.ms
    have hso := hd.so1 hf htr hlr.2.2.1
    rw [← hlr.2.2.2.1] at hso
    refine xq_aload_n dX11_tell_20 rfl rfl ?_
    refine xq_getF clX11 (by decide) rfl fl_RX11_115 dX11_tell_21 (Fx.s83 hF) (Fx.r83_54 hF) ?_
    refine xq_sipush dX11_tell_24 sp729 ?_
    refine xq_iload_n dX11_tell_27 rfl rfl ?_
    refine xq_imulN dX11_tell_28 ?_
    refine xq_aload_n dX11_tell_29 rfl rfl ?_
    refine xq_getIE clX11 (by decide) rfl fl_RX11_338 dX11_tell_30 (Fx.s83 hF) hw1.tr ?_
    refine xq_iaddN dX11_tell_33 ?_
    refine xq_zaldN dX11_tell_34 (Fx.s117 hF) (by omega) (by decide) hso ?_
    refine xq_if_neB dX11_tell_35 rfl ⟨fun h35 => ?_, fun h35 => ?_⟩
    · skip
      rw [hkv] at h35; cases h35
    · skip
      refine xq_bipush dX11_tell_38 bpm2 ?_
      refine xq_iret dX11_tell_40 rfl ?_
      refine ⟨-2, H17, ⟨rfl, ((MoF.pF (A := (fun q => q = 83 ∨ q = 101 ∨ q = 102 ∨ (112 ≤ q ∧ q ≤ 118))) (F := (fun k => k = 0 ∨ k = 34 ∨ k = 48 ∨ k = 56)) (H := H) (H2 := H) (k := 0) MoF.rf (Or.inl rfl) (Or.inl rfl) (nI 0)).tr (MoF.mo hl17 (fun q h => (by omega : q = 83 ∨ q = 101 ∨ q = 102 ∨ (112 ≤ q ∧ q ≤ 118))) (fun k h => (by omega : k = 0 ∨ k = 34 ∨ k = 48 ∨ k = 56))))⟩, ?_⟩
      rw [zm2]
  · skip
    first | exact absurd h10 (by decide) | exact absurd rfl h10
theorem m_tell2 (hm : MnP S H T N lf u) (hud : UdP H T ps L LF) (hf : f < tNf T) (hkv : kv T u (tRo T f) (uRl u) = true) : Hv mX11_tell 6 [.ref 83, vN f] S H vN (fun z H' => z = uZ (heaU T u f) ∧ (∃ lf2, RmP H' T 0 lf2 (heaU T u f) ∧ LfR T lf2 (heaU T u f)) ∧ UdP H' T (min (ps + 1) 20) (fun j => if j = 0 then u else L (j - 1)) (fun j => if j = 0 then lf else LF (j - 1)) ∧ RmE H H' 2 ∧ MoF (fun q => q = 83 ∨ q = 101 ∨ q = 102 ∨ (104 ≤ q ∧ q ≤ 118)) (fun k => k = 0 ∨ k = 34 ∨ k = 47 ∨ k = 48 ∨ k = 56) H H') := by
  have hF := hm.ms.fx; have hm0 := hm.t0; have hs := hm0.ms; have hx := hs.mx; have hw := hs.mw; have tk := hs.tk; have tw := hs.tw; have hnp := tw.2.1; have hnc := tw.1; have hWn := nW_le tw; have ok := hm.ok; have hlr := hm.lr; have htr := hlr.2.1; have hnf8 := tk.nf; have hz := ok.n; have hrm := hm0.rm; have htt := hs.tt
  have hud0 := hud.e (H2 := sI H 83 0 (nI 0)) hm.ms.tw (by rw [hI_sI, if_neg (by omega)]) (fun s _ => RmE.of (Off.pI (A := fun q => q = 83) Off.rf rfl _ _) (fun q a b => by omega))
  have e0 := (fun s => RmE.of (H := H) (H2 := sI H 83 0 (nI 0)) (s := s) (Off.pI (A := fun q => q = 83) Off.rf rfl _ _) (fun q a b => by omega))
  refine vq_intro (by decide) (by exact Nat.le_of_ble_eq_true rfl) rfl ?_
  refine xq_aload_n dX11_tell_0 rfl rfl ?_
  refine xq_iconst dX11_tell_1 ic0 ?_
  refine xq_putI clX11 (by decide) rfl fl_RX11_128 (Or.inl rfl) dX11_tell_2 ⟨rfl, rfl⟩ (Fx.s83 hF) ?_
  refine xq_aload_n dX11_tell_5 rfl rfl ?_
  refine xq_iload_n dX11_tell_6 rfl rfl ?_
  refine xq_callV1P clX11 gd_X11_isFact dX11_tell_7 ml_RX11_466 im_X11_isFact se_X11_isFact rfl (Fx.s83 hF) (by exact Nat.le_of_ble_eq_true rfl) (by decide) (m_isFact1 hs hf) ?_
  refine xq_if_neN dX11_tell_10 rfl (by omega) ⟨fun h10 => ?_, fun h10 => ?_⟩
  · skip
    refine xq_aload_n dX11_tell_15 rfl rfl ?_
    refine xq_iconst dX11_tell_16 ic0 ?_
    refine xq_callV1N clX11 gd_X11_lays dX11_tell_17 ml_RX11_428 im_X11_lays se_X11_lays rfl (Fx.s83 hF) (by exact Nat.le_of_ble_eq_true rfl) (by decide) (m_lays hs hrm hlr ok (by decide)) ?_
    intro H17 p17
    obtain ⟨hd, hl17⟩ := p17
    have hr1 := hd.rm; have hx1 := hd.ms.mx; have hw1 := hd.ms.mw; have hs1 := hd.ms
    have hso := hd.so1 hf htr hlr.2.2.1
    rw [← hlr.2.2.2.1] at hso
    have hud1 := hud0.e tw (hl17.2 47 (by omega)) (fun s _ => RmE.of hl17.1 (fun q a b => by omega))
    refine xq_aload_n dX11_tell_20 rfl rfl ?_
    refine xq_getF clX11 (by decide) rfl fl_RX11_115 dX11_tell_21 (Fx.s83 hF) (Fx.r83_54 hF) ?_
    refine xq_sipush dX11_tell_24 sp729 ?_
    refine xq_iload_n dX11_tell_27 rfl rfl ?_
    refine xq_imulN dX11_tell_28 ?_
    refine xq_aload_n dX11_tell_29 rfl rfl ?_
    refine xq_getIE clX11 (by decide) rfl fl_RX11_338 dX11_tell_30 (Fx.s83 hF) hw1.tr ?_
    refine xq_iaddN dX11_tell_33 ?_
    refine xq_zaldN dX11_tell_34 (Fx.s117 hF) (by omega) (by decide) hso ?_
    refine xq_if_neB dX11_tell_35 rfl ⟨fun h35 => ?_, fun h35 => ?_⟩
    · skip
      refine xq_aload_n dX11_tell_41 rfl rfl ?_
      refine xq_callV0N clX11 gd_X11_keepNow dX11_tell_42 ml_RX11_479 im_X11_keepNow se_X11_keepNow rfl (Fx.s83 hF) (by exact Nat.le_of_ble_eq_true rfl) (by decide) (m_keepNow hs1 hr1 hlr ok hud1) ?_
      intro H42 p42
      obtain ⟨u42, e42, o42⟩ := p42
      have hs42 := hs1.off o42 (fun q a b => by omega) (by omega) (by decide) (by decide)
      have hr42 := hr1.e tw (e42 0 (by decide))
      refine xq_aload_n dX11_tell_45 rfl rfl ?_
      refine xq_iconst dX11_tell_46 ic0 ?_
      refine xq_iload_n dX11_tell_47 rfl rfl ?_
      refine xq_callV2H clX11 gd_X11_tells dX11_tell_48 ml_RX11_449 im_X11_tells se_X11_tells rfl (Fx.s83 hF) (by exact Nat.le_of_ble_eq_true rfl) (by decide) (m_tells (s := 0) hs42 hr42 hlr ok (by decide) hf) ?_
      intro x48 H48 p48
      obtain ⟨e48, lf2, q48⟩ := p48
      rw [show hea T u f = heaU T u f from if_pos hkv] at q48
      have hs48 := hs42.dy q48
      refine xq_pop dX11_tell_51 rfl ?_
      refine xq_aload_n dX11_tell_52 rfl rfl ?_
      refine xq_iconst dX11_tell_53 ic0 ?_
      refine xq_callV1P clX11 gd_X11_leftMany dX11_tell_54 ml_RX11_401 im_X11_leftMany se_X11_leftMany rfl (Fx.s83 hF) (by exact Nat.le_of_ble_eq_true rfl) (by decide) (m_leftMany hs48 q48.1 (by decide)) ?_
      refine xq_iret dX11_tell_57 rfl ?_
      refine ⟨_, H48, ⟨(q48.2.1.z).symm, ⟨lf2, q48.1, q48.2.1⟩, u42.e tw (q48.2.2.2.2 47 (by omega)) (fun s hs' => q48.2.2.1 s (by omega)), (((e0 2).tr (RmE.of hl17.1 (fun q a b => by omega))).tr (e42 2 (by decide))).tr (q48.2.2.1 2 (by decide)), ?_⟩, rfl⟩
      exact (((MoF.pF (A := (fun q => q = 83 ∨ q = 101 ∨ q = 102 ∨ (104 ≤ q ∧ q ≤ 118))) (F := (fun k => k = 0 ∨ k = 34 ∨ k = 47 ∨ k = 48 ∨ k = 56)) (H := H) (H2 := H) (k := 0) MoF.rf (Or.inl rfl) (Or.inl rfl) (nI 0)).tr (MoF.mo (B := (fun q => q = 83 ∨ q = 101 ∨ q = 102 ∨ (104 ≤ q ∧ q ≤ 118))) (G := (fun k => k = 0 ∨ k = 34 ∨ k = 47 ∨ k = 48 ∨ k = 56)) hl17 (fun q h => by omega) (fun k h => by omega))).tr (MoF.mo (B := (fun q => q = 83 ∨ q = 101 ∨ q = 102 ∨ (104 ≤ q ∧ q ≤ 118))) (G := (fun k => k = 0 ∨ k = 34 ∨ k = 47 ∨ k = 48 ∨ k = 56)) o42 (fun q h => by omega) (fun k h => by omega))).tr (MoF.mo (B := (fun q => q = 83 ∨ q = 101 ∨ q = 102 ∨ (104 ≤ q ∧ q ≤ 118))) (G := (fun k => k = 0 ∨ k = 34 ∨ k = 47 ∨ k = 48 ∨ k = 56)) q48.2.2.2 (fun q h => by omega) (fun k h => by omega))
    · skip
      rw [hkv] at h35; cases h35
  · skip
    first | exact absurd h10 (by decide) | exact absurd rfl h10
theorem m_ask (hm : MnP S H T N lf u) (hud : UdP H T ps L LF) (htw : TwP H (-1) (-1)) : Hv mX11_ask 7 [.ref 83] S H vN (fun z H' => z = askX T false (-1) (-1) u ∧ (∃ lf2, RmP H' T 0 lf2 (askU T false (-1) (-1) u) ∧ LfR T lf2 (askU T false (-1) (-1) u)) ∧ UdP H' T (min (ps + 1) 20) (fun j => if j = 0 then u else L (j - 1)) (fun j => if j = 0 then lf else LF (j - 1)) ∧ RmE H H' 2 ∧ MoF (fun q => q = 83 ∨ q = 101 ∨ q = 102 ∨ (104 ≤ q ∧ q ≤ 118)) (fun k => k = 0 ∨ k = 34 ∨ k = 47 ∨ k = 48 ∨ k = 56) H H') := by
  have hF := hm.ms.fx; have hm0 := hm.t0; have hs := hm0.ms; have hx := hs.mx; have hw := hs.mw; have tk := hs.tk; have tw := hs.tw; have hnp := tw.2.1; have hnc := tw.1; have hWn := nW_le tw; have ok := hm.ok; have hlr := hm.lr; have htr := hlr.2.1; have hnf8 := tk.nf; have hz := ok.n; have hrm := hm0.rm; have htt := hs.tt
  have hud0 := hud.e (H2 := sI H 83 0 (nI 0)) hm.ms.tw (by rw [hI_sI, if_neg (by omega)]) (fun s _ => RmE.of (Off.pI (A := fun q => q = 83) Off.rf rfl _ _) (fun q a b => by omega))
  have e0 := (fun s => RmE.of (H := H) (H2 := sI H 83 0 (nI 0)) (s := s) (Off.pI (A := fun q => q = 83) Off.rf rfl _ _) (fun q a b => by omega))
  have htw0 : TwP (sI H 83 0 (nI 0)) (-1) (-1) := htw.off (MoF.pF (A := fun q => q = 83) (F := fun k => k = 0) MoF.rf rfl rfl _) (by decide) (by decide)
  refine vq_intro (by decide) (by exact Nat.le_of_ble_eq_true rfl) rfl ?_
  refine xq_aload_n dX11_ask_0 rfl rfl ?_
  refine xq_iconst dX11_ask_1 ic0 ?_
  refine xq_putI clX11 (by decide) rfl fl_RX11_128 (Or.inl rfl) dX11_ask_2 ⟨rfl, rfl⟩ (Fx.s83 hF) ?_
  refine xq_aload_n dX11_ask_5 rfl rfl ?_
  refine xq_callV0N clX11 gd_X11_keepNow dX11_ask_6 ml_RX11_479 im_X11_keepNow se_X11_keepNow rfl (Fx.s83 hF) (by exact Nat.le_of_ble_eq_true rfl) (by decide) (m_keepNow hs hrm hlr ok hud0) ?_
  intro H6 p6
  obtain ⟨u6, e6, o6⟩ := p6
  have hs6 := hs.off o6 (fun q a b => by omega) (by omega) (by decide) (by decide)
  have hr6 := hrm.e tw (e6 0 (by decide))
  refine xq_aload_n dX11_ask_9 rfl rfl ?_
  refine xq_iconst dX11_ask_10 ic0 ?_
  refine xq_iconst dX11_ask_11 ic0 ?_
  refine xq_callV2H clX11 gd_X11_asks dX11_ask_12 ml_RX11_452 im_X11_asks se_X11_asks rfl (Fx.s83 hF) (by exact Nat.le_of_ble_eq_true rfl) (by decide) (m_asks (s := 0) (dr := false) hs6 hr6 hlr ok (by decide) (htw0.off o6 (by decide) (by decide)) (by decide) (by decide)) ?_
  intro x12 H12 p12
  obtain ⟨e12, lf2, q12⟩ := p12
  refine xq_iret dX11_ask_15 rfl ?_
  refine ⟨_, H12, ⟨e12, ⟨lf2, q12.1, q12.2.1⟩, u6.e tw (q12.2.2.2.2 47 (by omega)) (fun s hs' => q12.2.2.1 s (by omega)), ((e0 2).tr (e6 2 (by decide))).tr (q12.2.2.1 2 (by decide)), ?_⟩, rfl⟩
  exact ((MoF.pF (A := (fun q => q = 83 ∨ q = 101 ∨ q = 102 ∨ (104 ≤ q ∧ q ≤ 118))) (F := (fun k => k = 0 ∨ k = 34 ∨ k = 47 ∨ k = 48 ∨ k = 56)) (H := H) (H2 := H) (k := 0) MoF.rf (Or.inl rfl) (Or.inl rfl) (nI 0)).tr (MoF.mo (B := (fun q => q = 83 ∨ q = 101 ∨ q = 102 ∨ (104 ≤ q ∧ q ≤ 118))) (G := (fun k => k = 0 ∨ k = 34 ∨ k = 47 ∨ k = 48 ∨ k = 56)) o6 (fun q h => by omega) (fun k h => by omega))).tr (MoF.mo (B := (fun q => q = 83 ∨ q = 101 ∨ q = 102 ∨ (104 ≤ q ∧ q ≤ 118))) (G := (fun k => k = 0 ∨ k = 34 ∨ k = 47 ∨ k = 48 ∨ k = 56)) q12.2.2.2 (fun q h => by omega) (fun k h => by omega))
theorem m_peep0 (hm : MnP S H T N lf u) (hno : ¬ (hasB ww (tNp T) = true ∧ hasB w2 (tNp T) = true ∧ ww ≠ w2)) : Hv mX11_peep 5 [.ref 83, .int ww, .int w2] S H vZ (fun (x : Int) H' => x = (-1) ∧ MoF (fun q => q = 83 ∨ q = 101 ∨ q = 102 ∨ (112 ≤ q ∧ q ≤ 118)) (fun k => k = 0 ∨ k = 34 ∨ k = 48 ∨ k = 56) H H') := by
  have hF := hm.ms.fx; have hm0 := hm.t0; have hs := hm0.ms; have hx := hs.mx; have hw := hs.mw; have tk := hs.tk; have tw := hs.tw; have hnp := tw.2.1; have hnc := tw.1; have hWn := nW_le tw; have ok := hm.ok; have hlr := hm.lr; have htr := hlr.2.1; have hnf8 := tk.nf; have hz := ok.n; have hrm := hm0.rm; have htt := hs.tt
  refine vq_intro (by decide) (by exact Nat.le_of_ble_eq_true rfl) rfl ?_
  refine xq_aload_n dX11_peep_0 rfl rfl ?_
  refine xq_iconst dX11_peep_1 ic0 ?_
  refine xq_putI clX11 (by decide) rfl fl_RX11_128 (Or.inl rfl) dX11_peep_2 ⟨rfl, rfl⟩ (Fx.s83 hF) ?_
  refine xq_aload_n dX11_peep_5 rfl rfl ?_
  refine xq_iload_n dX11_peep_6 rfl rfl ?_
  refine xq_callV1P clX11 gd_X11_isPerson dX11_peep_7 ml_RX11_460 im_X11_isPerson se_X11_isPerson rfl (Fx.s83 hF) (by exact Nat.le_of_ble_eq_true rfl) (by decide) (m_isPerson hs) ?_
  refine xq_if_eqB dX11_peep_10 rfl ⟨fun h10 => ?_, fun h10 => ?_⟩
  · skip
    refine xq_iconst dX11_peep_26 icm1 ?_
    refine xq_iret dX11_peep_27 rfl ?_
    refine ⟨-1, _, ⟨rfl, (MoF.pF (A := (fun q => q = 83 ∨ q = 101 ∨ q = 102 ∨ (112 ≤ q ∧ q ≤ 118))) (F := (fun k => k = 0 ∨ k = 34 ∨ k = 48 ∨ k = 56)) (H := H) (H2 := H) (k := 0) MoF.rf (Or.inl rfl) (Or.inl rfl) (nI 0))⟩, ?_⟩
    rw [zm1]
  · skip
    refine xq_aload_n dX11_peep_13 rfl rfl ?_
    refine xq_iload_n dX11_peep_14 rfl rfl ?_
    refine xq_callV1P clX11 gd_X11_isPerson dX11_peep_15 ml_RX11_460 im_X11_isPerson se_X11_isPerson rfl (Fx.s83 hF) (by exact Nat.le_of_ble_eq_true rfl) (by decide) (m_isPerson hs) ?_
    refine xq_if_eqB dX11_peep_18 rfl ⟨fun h18 => ?_, fun h18 => ?_⟩
    · skip
      refine xq_iconst dX11_peep_26 icm1 ?_
      refine xq_iret dX11_peep_27 rfl ?_
      refine ⟨-1, _, ⟨rfl, (MoF.pF (A := (fun q => q = 83 ∨ q = 101 ∨ q = 102 ∨ (112 ≤ q ∧ q ≤ 118))) (F := (fun k => k = 0 ∨ k = 34 ∨ k = 48 ∨ k = 56)) (H := H) (H2 := H) (k := 0) MoF.rf (Or.inl rfl) (Or.inl rfl) (nI 0))⟩, ?_⟩
      rw [zm1]
    · skip
      refine xq_iload_n dX11_peep_21 rfl rfl ?_
      refine xq_iload_n dX11_peep_22 rfl rfl ?_
      refine xq_icmp_ne dX11_peep_23 rfl ⟨fun h23 => ?_, fun h23 => ?_⟩
      · skip
        exact absurd ⟨h10, h18, h23⟩ hno
      · skip
        refine xq_iconst dX11_peep_26 icm1 ?_
        refine xq_iret dX11_peep_27 rfl ?_
        refine ⟨-1, _, ⟨rfl, (MoF.pF (A := (fun q => q = 83 ∨ q = 101 ∨ q = 102 ∨ (112 ≤ q ∧ q ≤ 118))) (F := (fun k => k = 0 ∨ k = 34 ∨ k = 48 ∨ k = 56)) (H := H) (H2 := H) (k := 0) MoF.rf (Or.inl rfl) (Or.inl rfl) (nI 0))⟩, ?_⟩
        rw [zm1]
theorem m_peep1 (hm : MnP S H T N lf u) (hp : p < tNp T) (hq : q < tNp T) (hpq : p ≠ q) (hsb : (uSe u p).testBit q = true) : Hv mX11_peep 5 [.ref 83, vN p, vN q] S H vZ (fun (x : Int) H' => x = (-2) ∧ MoF (fun q => q = 83 ∨ q = 101 ∨ q = 102 ∨ (112 ≤ q ∧ q ≤ 118)) (fun k => k = 0 ∨ k = 34 ∨ k = 48 ∨ k = 56) H H') := by
  have hF := hm.ms.fx; have hm0 := hm.t0; have hs := hm0.ms; have hx := hs.mx; have hw := hs.mw; have tk := hs.tk; have tw := hs.tw; have hnp := tw.2.1; have hnc := tw.1; have hWn := nW_le tw; have ok := hm.ok; have hlr := hm.lr; have htr := hlr.2.1; have hnf8 := tk.nf; have hz := ok.n; have hrm := hm0.rm; have htt := hs.tt
  have hse := ok.se (p := p) (by omega)
  have hb1 := shr_le (uSe u p) q; have hb2 : uSe u p >>> q &&& 1 ≤ 1 := Nat.and_le_right
  refine vq_intro (by decide) (by exact Nat.le_of_ble_eq_true rfl) rfl ?_
  refine xq_aload_n dX11_peep_0 rfl rfl ?_
  refine xq_iconst dX11_peep_1 ic0 ?_
  refine xq_putI clX11 (by decide) rfl fl_RX11_128 (Or.inl rfl) dX11_peep_2 ⟨rfl, rfl⟩ (Fx.s83 hF) ?_
  refine xq_aload_n dX11_peep_5 rfl rfl ?_
  refine xq_iload_n dX11_peep_6 rfl rfl ?_
  refine xq_callV1P clX11 gd_X11_isPerson dX11_peep_7 ml_RX11_460 im_X11_isPerson se_X11_isPerson rfl (Fx.s83 hF) (by exact Nat.le_of_ble_eq_true rfl) (by decide) (m_isPerson1 hs hp) ?_
  refine xq_if_eqN dX11_peep_10 rfl (by omega) ⟨fun h10 => ?_, fun h10 => ?_⟩
  · skip
    first | exact absurd h10 (by decide) | exact absurd rfl h10
  · skip
    refine xq_aload_n dX11_peep_13 rfl rfl ?_
    refine xq_iload_n dX11_peep_14 rfl rfl ?_
    refine xq_callV1P clX11 gd_X11_isPerson dX11_peep_15 ml_RX11_460 im_X11_isPerson se_X11_isPerson rfl (Fx.s83 hF) (by exact Nat.le_of_ble_eq_true rfl) (by decide) (m_isPerson1 hs hq) ?_
    refine xq_if_eqN dX11_peep_18 rfl (by omega) ⟨fun h18 => ?_, fun h18 => ?_⟩
    · skip
      first | exact absurd h18 (by decide) | exact absurd rfl h18
    · skip
      refine xq_iload_n dX11_peep_21 rfl rfl ?_
      refine xq_iload_n dX11_peep_22 rfl rfl ?_
      refine xq_icmp_neN dX11_peep_23 rfl (by omega) (by omega) ⟨fun h23 => ?_, fun h23 => ?_⟩
      · skip
        refine xq_aload_n dX11_peep_28 rfl rfl ?_
        refine xq_getF clX11 (by decide) rfl fl_RX11_90 dX11_peep_29 (Fx.s83 hF) (Fx.r83_43 hF) ?_
        refine xq_iload_n dX11_peep_32 rfl rfl ?_
        refine xq_ialdN (v := nI (uSe u p)) dX11_peep_33 (Fx.s109 hF) (by omega) (by decide) ((congrArg (hI (sI H 83 0 (nI 0)) 109) (by omega)).trans (hrm.se p (by omega))) ?_
        refine xq_iload_n dX11_peep_34 rfl rfl ?_
        refine xq_ishrN dX11_peep_35 (by omega) (by omega) ?_
        refine xq_iconst dX11_peep_36 ic1 ?_
        refine xq_iandN dX11_peep_37 ?_
        refine xq_iconst dX11_peep_38 ic1 ?_
        refine xq_icmp_neN dX11_peep_39 rfl (by omega) (by omega) ⟨fun h39 => ?_, fun h39 => ?_⟩
        · skip
          exact absurd (tb1.mpr hsb) h39
        · skip
          refine xq_bipush dX11_peep_42 bpm2 ?_
          refine xq_iret dX11_peep_44 rfl ?_
          refine ⟨-2, _, ⟨rfl, (MoF.pF (A := (fun q => q = 83 ∨ q = 101 ∨ q = 102 ∨ (112 ≤ q ∧ q ≤ 118))) (F := (fun k => k = 0 ∨ k = 34 ∨ k = 48 ∨ k = 56)) (H := H) (H2 := H) (k := 0) MoF.rf (Or.inl rfl) (Or.inl rfl) (nI 0))⟩, ?_⟩
          rw [zm2]
      · skip
        exact absurd h23 hpq
theorem LfR.see (h : LfR T lf u) : LfR T lf (uSee u p q) := h
theorem RmP.see (h : RmP H T s lf u) (hp : p < 6) : RmP (sI H 109 (6 * s + p) (nI (uSe u p ||| 1 <<< q))) T s lf (uSee u p q) := by
  refine ⟨h.lf, h.hr, h.la, h.hd, h.li, h.sd, fun r hr => ?_, h.pz⟩
  rw [hI_sI]
  show _ = nI (if r = p then uSe u p ||| 1 <<< q else uSe u r)
  by_cases e : r = p
  · rw [if_pos ⟨rfl, by omega⟩, if_pos e]
  · rw [if_neg (by omega), if_neg e]; exact h.se r hr
theorem m_peep2 (hm : MnP S H T N lf u) (hud : UdP H T ps L LF) (hp : p < tNp T) (hq : q < tNp T) (hpq : p ≠ q) (hsb : (uSe u p).testBit q = false) : Hv mX11_peep 5 [.ref 83, vN p, vN q] S H vN (fun z H' => z = alikeN (uSee u p q) p ∧ (∃ lf2, RmP H' T 0 lf2 (uSee u p q) ∧ LfR T lf2 (uSee u p q)) ∧ UdP H' T (min (ps + 1) 20) (fun j => if j = 0 then u else L (j - 1)) (fun j => if j = 0 then lf else LF (j - 1)) ∧ RmE H H' 2 ∧ MoF (fun q => q = 83 ∨ q = 101 ∨ q = 102 ∨ (104 ≤ q ∧ q ≤ 118)) (fun k => k = 0 ∨ k = 34 ∨ k = 47 ∨ k = 48 ∨ k = 56) H H') := by
  have hF := hm.ms.fx; have hm0 := hm.t0; have hs := hm0.ms; have hx := hs.mx; have hw := hs.mw; have tk := hs.tk; have tw := hs.tw; have hnp := tw.2.1; have hnc := tw.1; have hWn := nW_le tw; have ok := hm.ok; have hlr := hm.lr; have htr := hlr.2.1; have hnf8 := tk.nf; have hz := ok.n; have hrm := hm0.rm; have htt := hs.tt
  have hse := ok.se (p := p) (by omega)
  have hb1 := shr_le (uSe u p) q; have hb2 : uSe u p >>> q &&& 1 ≤ 1 := Nat.and_le_right
  have hud0 := hud.e (H2 := sI H 83 0 (nI 0)) hm.ms.tw (by rw [hI_sI, if_neg (by omega)]) (fun s _ => RmE.of (Off.pI (A := fun q => q = 83) Off.rf rfl _ _) (fun q a b => by omega))
  have e0 := (fun s => RmE.of (H := H) (H2 := sI H 83 0 (nI 0)) (s := s) (Off.pI (A := fun q => q = 83) Off.rf rfl _ _) (fun q a b => by omega))
  refine vq_intro (by decide) (by exact Nat.le_of_ble_eq_true rfl) rfl ?_
  refine xq_aload_n dX11_peep_0 rfl rfl ?_
  refine xq_iconst dX11_peep_1 ic0 ?_
  refine xq_putI clX11 (by decide) rfl fl_RX11_128 (Or.inl rfl) dX11_peep_2 ⟨rfl, rfl⟩ (Fx.s83 hF) ?_
  refine xq_aload_n dX11_peep_5 rfl rfl ?_
  refine xq_iload_n dX11_peep_6 rfl rfl ?_
  refine xq_callV1P clX11 gd_X11_isPerson dX11_peep_7 ml_RX11_460 im_X11_isPerson se_X11_isPerson rfl (Fx.s83 hF) (by exact Nat.le_of_ble_eq_true rfl) (by decide) (m_isPerson1 hs hp) ?_
  refine xq_if_eqN dX11_peep_10 rfl (by omega) ⟨fun h10 => ?_, fun h10 => ?_⟩
  · skip
    first | exact absurd h10 (by decide) | exact absurd rfl h10
  · skip
    refine xq_aload_n dX11_peep_13 rfl rfl ?_
    refine xq_iload_n dX11_peep_14 rfl rfl ?_
    refine xq_callV1P clX11 gd_X11_isPerson dX11_peep_15 ml_RX11_460 im_X11_isPerson se_X11_isPerson rfl (Fx.s83 hF) (by exact Nat.le_of_ble_eq_true rfl) (by decide) (m_isPerson1 hs hq) ?_
    refine xq_if_eqN dX11_peep_18 rfl (by omega) ⟨fun h18 => ?_, fun h18 => ?_⟩
    · skip
      first | exact absurd h18 (by decide) | exact absurd rfl h18
    · skip
      refine xq_iload_n dX11_peep_21 rfl rfl ?_
      refine xq_iload_n dX11_peep_22 rfl rfl ?_
      refine xq_icmp_neN dX11_peep_23 rfl (by omega) (by omega) ⟨fun h23 => ?_, fun h23 => ?_⟩
      · skip
        refine xq_aload_n dX11_peep_28 rfl rfl ?_
        refine xq_getF clX11 (by decide) rfl fl_RX11_90 dX11_peep_29 (Fx.s83 hF) (Fx.r83_43 hF) ?_
        refine xq_iload_n dX11_peep_32 rfl rfl ?_
        refine xq_ialdN (v := nI (uSe u p)) dX11_peep_33 (Fx.s109 hF) (by omega) (by decide) ((congrArg (hI (sI H 83 0 (nI 0)) 109) (by omega)).trans (hrm.se p (by omega))) ?_
        refine xq_iload_n dX11_peep_34 rfl rfl ?_
        refine xq_ishrN dX11_peep_35 (by omega) (by omega) ?_
        refine xq_iconst dX11_peep_36 ic1 ?_
        refine xq_iandN dX11_peep_37 ?_
        refine xq_iconst dX11_peep_38 ic1 ?_
        refine xq_icmp_neN dX11_peep_39 rfl (by omega) (by omega) ⟨fun h39 => ?_, fun h39 => ?_⟩
        · skip
          refine xq_aload_n dX11_peep_45 rfl rfl ?_
          refine xq_callV0N clX11 gd_X11_keepNow dX11_peep_46 ml_RX11_479 im_X11_keepNow se_X11_keepNow rfl (Fx.s83 hF) (by exact Nat.le_of_ble_eq_true rfl) (by decide) (m_keepNow hs hrm hlr ok hud0) ?_
          intro H46 p46
          obtain ⟨u46, e46, o46⟩ := p46
          have hs46 := hs.off o46 (fun q a b => by omega) (by omega) (by decide) (by decide)
          have hr46 := hrm.e tw (e46 0 (by decide))
          refine xq_aload_n dX11_peep_49 rfl rfl ?_
          refine xq_getF clX11 (by decide) rfl fl_RX11_90 dX11_peep_50 (Fx.s83 hF) (Fx.r83_43 hF) ?_
          refine xq_iload_n dX11_peep_53 rfl rfl ?_
          refine xq_dup2 dX11_peep_54 rfl rfl ?_
          refine xq_ialdN (v := nI (uSe u p)) dX11_peep_55 (Fx.s109 hF) (by omega) (by decide) ((congrArg (hI H46 109) (by omega)).trans (hr46.se p (by omega))) ?_
          refine xq_iconst dX11_peep_56 ic1 ?_
          refine xq_iload_n dX11_peep_57 rfl rfl ?_
          refine xq_ishlN dX11_peep_58 (by omega) ?_
          refine xq_iorN dX11_peep_59 ?_
          refine xq_iastN dX11_peep_60 (Fx.s109 hF) (by omega) (by decide) ?_
          have hidx : 6 * 0 + p = p := by omega
          have hr60 := hr46.see (q := q) (by omega : p < 6)
          rw [hidx] at hr60
          have ho60 : MoF (fun q => q = 109) (fun _ => False) H46 (sI H46 109 p (nI (uSe u p ||| 1 <<< q))) := MoF.pI (A := fun q => q = 109) (F := fun _ => False) (a := 109) MoF.rf rfl (by decide) _ _
          have hs60 := hs46.off ho60 (fun q a b => by omega) (by omega) (fun e => e) (fun e => e)
          have hok60 := ok.see (i := p) (j := q) (by omega)
          have he60 : ∀ s, 3 ≤ s ∨ s = 2 → RmE H46 (sI H46 109 p (nI (uSe u p ||| 1 <<< q))) s := fun s hs' => ⟨fun _ _ => rfl, fun q a b => by rw [hI_sI, if_neg (by omega)], fun r hr => ⟨by rw [hI_sI, if_neg (by omega)], rfl⟩⟩
          refine xq_aload_n dX11_peep_61 rfl rfl ?_
          refine xq_iconst dX11_peep_62 ic0 ?_
          refine xq_callV1N clX11 gd_X11_lays dX11_peep_63 ml_RX11_428 im_X11_lays se_X11_lays rfl (Fx.s83 hF) (by exact Nat.le_of_ble_eq_true rfl) (by decide) (m_lays hs60 hr60 (hlr.see (p := p) (q := q)) hok60 (by decide)) ?_
          intro H63 p63
          obtain ⟨hd, hl63⟩ := p63
          refine xq_aload_n dX11_peep_66 rfl rfl ?_
          refine xq_iload_n dX11_peep_67 rfl rfl ?_
          refine xq_callV1P clX11 gd_X11_alikeMany dX11_peep_68 ml_RX11_410 im_X11_alikeMany se_X11_alikeMany rfl (Fx.s83 hF) (by exact Nat.le_of_ble_eq_true rfl) (by decide) (m_alikeMany hd hp) ?_
          refine xq_iret dX11_peep_71 rfl ?_
          refine ⟨_, H63, ⟨rfl, ⟨lf, hd.rm, hlr.see⟩, (u46.e tw (by rw [hI_sI, if_neg (by omega)]) (fun s hs' => he60 s (Or.inl hs'))).e tw (hl63.2 47 (by omega)) (fun s _ => RmE.of hl63.1 (fun q a b => by omega)), (((e0 2).tr (e46 2 (by decide))).tr (he60 2 (Or.inr rfl))).tr (RmE.of hl63.1 (fun q a b => by omega)), ?_⟩, rfl⟩
          exact (((MoF.pF (A := (fun q => q = 83 ∨ q = 101 ∨ q = 102 ∨ (104 ≤ q ∧ q ≤ 118))) (F := (fun k => k = 0 ∨ k = 34 ∨ k = 47 ∨ k = 48 ∨ k = 56)) (H := H) (H2 := H) (k := 0) MoF.rf (Or.inl rfl) (Or.inl rfl) (nI 0)).tr (MoF.mo (B := (fun q => q = 83 ∨ q = 101 ∨ q = 102 ∨ (104 ≤ q ∧ q ≤ 118))) (G := (fun k => k = 0 ∨ k = 34 ∨ k = 47 ∨ k = 48 ∨ k = 56)) o46 (fun q h => by omega) (fun k h => by omega))).tr (MoF.mo (B := (fun q => q = 83 ∨ q = 101 ∨ q = 102 ∨ (104 ≤ q ∧ q ≤ 118))) (G := (fun k => k = 0 ∨ k = 34 ∨ k = 47 ∨ k = 48 ∨ k = 56)) ho60 (fun q h => by omega) (fun k h => absurd h (fun e => e)))).tr (MoF.mo (B := (fun q => q = 83 ∨ q = 101 ∨ q = 102 ∨ (104 ≤ q ∧ q ≤ 118))) (G := (fun k => k = 0 ∨ k = 34 ∨ k = 47 ∨ k = 48 ∨ k = 56)) hl63 (fun q h => by omega) (fun k h => by omega))
        · skip
          rw [tb1.mp h39] at hsb; cases hsb
      · skip
        exact absurd h23 hpq
end CF
