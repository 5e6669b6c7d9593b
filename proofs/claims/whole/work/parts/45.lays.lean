/-! ===== the reference: a fact worked out, all laid out ===== -/
def RsP (H : xH) (T : uTx) (lf : Nat → Bool) (u : uSt) : List Nat → Prop
  | [] => True
  | e :: l => (∃ Rw, RoP H T l.length Rw ∧ ∀ w, w < nW T → lf w = true → Rw w = kv T u e (ct lf w)) ∧ RsP H T lf u l
def SoP (H : xH) (T : uTx) (lf : Nat → Bool) (u : uSt) (f : Nat) : Prop := ∃ Rw : Nat → Bool, (∀ w, w < nW T → hI H 117 (729 * f + w) = bI (Rw w)) ∧ ∀ w, w < nW T → lf w = true → Rw w = kv T u (tRo T f) (ct lf w)
def KnP (H : xH) (T : uTx) (lf : Nat → Bool) (u : uSt) : Prop := ∀ p, p < tNp T → ∀ w, w < nW T → hI H 113 (729 * p + w) = bI (lf w && own u p (ct lf w))
def LdP (S : xS) (H : xH) (T : uTx) (N : Nat → Nat → Nat) (lf : Nat → Bool) (u : uSt) (s : Nat) : Prop := (MsP S H T N) ∧ (RmP H T s lf u) ∧ (LfR T lf u) ∧ (StOk u) ∧ (s < 23) ∧ (hI H 83 48 = nI s) ∧ (SiP H T u) ∧ (KnP H T lf u) ∧ (∃ pf, PaH H T pf ∧ PfOk T lf u pf) ∧ (JC u (cn u)) ∧ (∀ f, f < tNf T → SoP H T lf u f)
theorem LdP.ms {S : xS} {H : xH} {T : uTx} {N : Nat → Nat → Nat} {lf : Nat → Bool} {u : uSt} {s : Nat} (h : LdP S H T N lf u s) : MsP S H T N := h.1
theorem LdP.rm {S : xS} {H : xH} {T : uTx} {N : Nat → Nat → Nat} {lf : Nat → Bool} {u : uSt} {s : Nat} (h : LdP S H T N lf u s) : RmP H T s lf u := h.2.1
theorem LdP.lr {S : xS} {H : xH} {T : uTx} {N : Nat → Nat → Nat} {lf : Nat → Bool} {u : uSt} {s : Nat} (h : LdP S H T N lf u s) : LfR T lf u := h.2.2.1
theorem LdP.ok {S : xS} {H : xH} {T : uTx} {N : Nat → Nat → Nat} {lf : Nat → Bool} {u : uSt} {s : Nat} (h : LdP S H T N lf u s) : StOk u := h.2.2.2.1
theorem LdP.s23 {S : xS} {H : xH} {T : uTx} {N : Nat → Nat → Nat} {lf : Nat → Bool} {u : uSt} {s : Nat} (h : LdP S H T N lf u s) : s < 23 := h.2.2.2.2.1
theorem LdP.ro {S : xS} {H : xH} {T : uTx} {N : Nat → Nat → Nat} {lf : Nat → Bool} {u : uSt} {s : Nat} (h : LdP S H T N lf u s) : hI H 83 48 = nI s := h.2.2.2.2.2.1
theorem LdP.si {S : xS} {H : xH} {T : uTx} {N : Nat → Nat → Nat} {lf : Nat → Bool} {u : uSt} {s : Nat} (h : LdP S H T N lf u s) : SiP H T u := h.2.2.2.2.2.2.1
theorem LdP.kn {S : xS} {H : xH} {T : uTx} {N : Nat → Nat → Nat} {lf : Nat → Bool} {u : uSt} {s : Nat} (h : LdP S H T N lf u s) : KnP H T lf u := h.2.2.2.2.2.2.2.1
theorem LdP.pa {S : xS} {H : xH} {T : uTx} {N : Nat → Nat → Nat} {lf : Nat → Bool} {u : uSt} {s : Nat} (h : LdP S H T N lf u s) : ∃ pf, PaH H T pf ∧ PfOk T lf u pf := h.2.2.2.2.2.2.2.2.1
theorem LdP.jc {S : xS} {H : xH} {T : uTx} {N : Nat → Nat → Nat} {lf : Nat → Bool} {u : uSt} {s : Nat} (h : LdP S H T N lf u s) : JC u (cn u) := h.2.2.2.2.2.2.2.2.2.1
theorem LdP.so {S : xS} {H : xH} {T : uTx} {N : Nat → Nat → Nat} {lf : Nat → Bool} {u : uSt} {s : Nat} (h : LdP S H T N lf u s) : ∀ f, f < tNf T → SoP H T lf u f := h.2.2.2.2.2.2.2.2.2.2
section LY
variable {S : xS} {H H1 H2 H3 : xH} {T : uTx} {N : Nat → Nat → Nat} {s a b c w v p q n i j k x y m f key : Nat} {lf : Nat → Bool} {u : uSt} {pf : Nat → Nat} {Rw R2 L : Nat → Bool} {l : List Nat} {bb : Bool}
theorem RsP.lo (t : TwOk T) : ∀ {l : List Nat}, RsP H T lf u l → (∀ k, k < 729 * l.length → hI H2 118 k = hI H 118 k) → RsP H2 T lf u l
  | [], _, _ => trivial
  | e :: l, h, g => by
    obtain ⟨⟨Rw, h1, h2⟩, h3⟩ := h
    have hn := nW_le t
    exact ⟨⟨Rw, fun w hw => (g _ (by simp only [List.length_cons]; omega)).trans (h1 w hw), h2⟩, RsP.lo t h3 (fun k hk => g k (by simp only [List.length_cons]; omega))⟩
theorem stk_len (a : Nat) : ∀ n, (stk T a n).length ≤ n
  | 0 => Nat.le_refl _
  | n + 1 => by
    have := stk_len a n
    show ((a + n) :: (stk T a n).drop _).length ≤ _
    rw [List.length_cons, List.length_drop]
    omega
theorem bI_one (b : Bool) : decide (bI b = 1) = b := by cases b <;> decide
theorem m_joinN (hs : MsP S H T N) (hm : hI H 83 56 = nI (m + 1)) (hm65 : m < 65) (hRa : RoP H T m Rw) : Nv mX11_joins 1 [.ref 83, vN 260] S H (fun H' => RoP H' T m (fun w => !(Rw w)) ∧ RoE H H' m ∧ Off (fun q => q = 118) H H') := by
  have hF := hs.fx; have hx := hs.mx; have hw := hs.mw; have tk := hs.tk; have tw := hs.tw; have hnp := tw.2.1; have hnc := tw.1; have hWn := nW_le tw
  have lp : ∀ (fz : Nat) (w : Nat) (H1 : xH), nW T - w < fz → w ≤ nW T → (∀ v, v < nW T → hI H1 118 (729 * m + v) = bI (if v < w then !(Rw v) else Rw v)) → RoE H H1 m → Off (fun q => q = 118) H H1 → Xq mX11_joins 1 0 0 14 [some (.ref 83), some (vN 260), some (vN (729 * m)), some (vN w), none, none] [] S H1 (fun R => ∃ H', (fun H' => RoP H' T m (fun w => !(Rw w)) ∧ RoE H H' m ∧ Off (fun q => q = 118) H H') H' ∧ R = (none, S, H')) := by
    intro fz
    induction fz with
    | zero => intro w  H1  hfz; exact absurd hfz (by omega)
    | succ fz ih =>
      intro w  H1  hfz hi hg he ho
      refine xq_iload_n dX11_joins_14 rfl rfl ?_
      refine xq_aload_n dX11_joins_15 rfl rfl ?_
      refine xq_getIE clX11 (by decide) rfl fl_RX11_335 dX11_joins_16 (Fx.s83 hF) ((ho.I (by omega) 36).trans hw.ws) ?_
      refine xq_icmp_geN dX11_joins_19 rfl (by omega) (by omega) ⟨fun h19 => ?_, fun h19 => ?_⟩
      · skip
        refine xq_vret dX11_joins_52 rfl ?_
        exact ⟨H1, ⟨fun v hv => by rw [hg v hv, if_pos (by omega)], he, ho⟩, rfl⟩
      · skip
        refine xq_aload_n dX11_joins_22 rfl rfl ?_
        refine xq_getF clX11 (by decide) rfl fl_RX11_119 dX11_joins_23 (Fx.s83 hF) (Fx.r83_55 hF) ?_
        refine xq_iload_n dX11_joins_26 rfl rfl ?_
        refine xq_iload_n dX11_joins_27 rfl rfl ?_
        refine xq_iaddN dX11_joins_28 ?_
        refine xq_aload_n dX11_joins_29 rfl rfl ?_
        refine xq_getF clX11 (by decide) rfl fl_RX11_119 dX11_joins_30 (Fx.s83 hF) (Fx.r83_55 hF) ?_
        refine xq_iload_n dX11_joins_33 rfl rfl ?_
        refine xq_iload_n dX11_joins_34 rfl rfl ?_
        refine xq_iaddN dX11_joins_35 ?_
        refine xq_zaldN (v := bI (Rw w)) dX11_joins_36 (Fx.s118 hF) (by omega) (by decide) ((hg w h19).trans (by rw [if_neg (by omega)])) ?_
        refine xq_if_neB dX11_joins_37 rfl ⟨fun h37 => ?_, fun h37 => ?_⟩
        · skip
          refine xq_iconst dX11_joins_44 ic0 ?_
          refine xq_zastN dX11_joins_45 (Fx.s118 hF) (by omega) (by decide) (by decide) ?_
          refine xq_iincN dX11_joins_46 ic1 rfl rfl ?_
          refine xq_goto dX11_joins_49 rfl ?_
          refine ih (w + 1) _ (by omega) (by omega) (fun v hv => ?_) (fun k hk => by rw [hI_sI, if_neg (by omega)]; exact he k hk) (Off.pI (A := (fun q => q = 118)) ho (by omega) _ _)
          rw [hI_sI]
          by_cases e : v = w
          · subst e; rw [if_pos ⟨rfl, rfl⟩, if_pos (by omega), h37]; rfl
          · rw [if_neg (by omega), hg v hv, ite_c (by omega : v < w ↔ v < w + 1)]
        · skip
          refine xq_iconst dX11_joins_40 ic1 ?_
          refine xq_goto dX11_joins_41 rfl ?_
          refine xq_zastN dX11_joins_45 (Fx.s118 hF) (by omega) (by decide) (by decide) ?_
          refine xq_iincN dX11_joins_46 ic1 rfl rfl ?_
          refine xq_goto dX11_joins_49 rfl ?_
          refine ih (w + 1) _ (by omega) (by omega) (fun v hv => ?_) (fun k hk => by rw [hI_sI, if_neg (by omega)]; exact he k hk) (Off.pI (A := (fun q => q = 118)) ho (by omega) _ _)
          rw [hI_sI]
          by_cases e : v = w
          · subst e; rw [if_pos ⟨rfl, rfl⟩, if_pos (by omega), h37]; rfl
          · rw [if_neg (by omega), hg v hv, ite_c (by omega : v < w ↔ v < w + 1)]
  refine vq_intro (by decide) (by exact Nat.le_of_ble_eq_true rfl) rfl ?_
  refine xq_aload_n dX11_joins_0 rfl rfl ?_
  refine xq_callV0P clX11 gd_X11_top dX11_joins_1 ml_RX11_374 im_X11_top se_X11_top rfl (Fx.s83 hF) (by exact Nat.le_of_ble_eq_true rfl) (by decide) (m_top hF hm hm65) ?_
  refine xq_istore_n dX11_joins_4 rfl rfl ?_
  refine xq_iload_n dX11_joins_5 rfl rfl ?_
  refine xq_sipush dX11_joins_6 sp260 ?_
  refine xq_icmp_neN dX11_joins_9 rfl (by omega) (by omega) ⟨fun h9 => ?_, fun h9 => ?_⟩
  · skip
    exact absurd rfl h9
  · skip
    refine xq_iconst dX11_joins_12 ic0 ?_
    refine xq_istore_n dX11_joins_13 rfl rfl ?_
    exact lp (nW T + 1) 0 H (by omega) (by omega) (fun v hv => by rw [if_neg (by omega)]; exact hRa v hv) (fun _ _ => rfl) Off.rf
theorem m_joinAnd (hs : MsP S H T N) (hm : hI H 83 56 = nI (m + 2)) (hm65 : m < 64) (hRa : RoP H T m Rw) (hRb : RoP H T (m + 1) R2) : Nv mX11_joins 1 [.ref 83, vN 261] S H (fun H' => RoP H' T m (fun w => Rw w && R2 w) ∧ RoE H H' m ∧ hI H' 83 56 = nI (m + 1) ∧ MoF (fun q => q = 83 ∨ q = 118) (fun k => k = 56) H H') := by
  have hF := hs.fx; have hx := hs.mx; have hw := hs.mw; have tk := hs.tk; have tw := hs.tw; have hnp := tw.2.1; have hnc := tw.1; have hWn := nW_le tw
  have lp : ∀ (fz : Nat) (w : Nat) (H1 : xH), nW T - w < fz → w ≤ nW T → (∀ v, v < nW T → hI H1 118 (729 * m + v) = bI (if v < w then Rw v && R2 v else Rw v)) → (∀ v, v < nW T → hI H1 118 (729 * m + 729 + v) = bI (R2 v)) → RoE H H1 m → hI H1 83 56 = nI (m + 1) → MoF (fun q => q = 83 ∨ q = 118) (fun k => k = 56) H H1 → Xq mX11_joins 1 0 0 65 [some (.ref 83), some (vN 261), some (vN (729 * m + 729)), some (vN w), none, none] [] S H1 (fun R => ∃ H', (fun H' => RoP H' T m (fun w => Rw w && R2 w) ∧ RoE H H' m ∧ hI H' 83 56 = nI (m + 1) ∧ MoF (fun q => q = 83 ∨ q = 118) (fun k => k = 56) H H') H' ∧ R = (none, S, H')) := by
    intro fz
    induction fz with
    | zero => intro w  H1  hfz; exact absurd hfz (by omega)
    | succ fz ih =>
      intro w  H1  hfz hi hg hb he hf ho
      refine xq_iload_n dX11_joins_65 rfl rfl ?_
      refine xq_aload_n dX11_joins_66 rfl rfl ?_
      refine xq_getIE clX11 (by decide) rfl fl_RX11_335 dX11_joins_67 (Fx.s83 hF) ((ho.2 36 (by omega)).trans hw.ws) ?_
      refine xq_icmp_geN dX11_joins_70 rfl (by omega) (by omega) ⟨fun h70 => ?_, fun h70 => ?_⟩
      · skip
        refine xq_vret dX11_joins_155 rfl ?_
        exact ⟨H1, ⟨fun v hv => by rw [hg v hv, if_pos (by omega)], he, hf, ho⟩, rfl⟩
      · skip
        refine xq_aload_n dX11_joins_73 rfl rfl ?_
        refine xq_getF clX11 (by decide) rfl fl_RX11_119 dX11_joins_74 (Fx.s83 hF) (Fx.r83_55 hF) ?_
        refine xq_iload_n dX11_joins_77 rfl rfl ?_
        refine xq_sipush dX11_joins_78 sp729 ?_
        refine xq_isubN dX11_joins_81 (by omega) ?_
        rw [show 729 * m + 729 - 729 = 729 * m by omega]
        refine xq_iload_n dX11_joins_82 rfl rfl ?_
        refine xq_iaddN dX11_joins_83 ?_
        refine xq_zaldN (v := bI (Rw w)) dX11_joins_84 (Fx.s118 hF) (by omega) (by decide) ((hg w h70).trans (by rw [if_neg (by omega)])) ?_
        refine xq_istore dX11_joins_85 rfl ?_
        refine xq_aload_n dX11_joins_87 rfl rfl ?_
        refine xq_getF clX11 (by decide) rfl fl_RX11_119 dX11_joins_88 (Fx.s83 hF) (Fx.r83_55 hF) ?_
        refine xq_iload_n dX11_joins_91 rfl rfl ?_
        refine xq_iload_n dX11_joins_92 rfl rfl ?_
        refine xq_iaddN dX11_joins_93 ?_
        refine xq_zaldN dX11_joins_94 (Fx.s118 hF) (by omega) (by decide) (hb w h70) ?_
        refine xq_istore dX11_joins_95 rfl ?_
        refine xq_aload_n dX11_joins_97 rfl rfl ?_
        refine xq_getF clX11 (by decide) rfl fl_RX11_119 dX11_joins_98 (Fx.s83 hF) (Fx.r83_55 hF) ?_
        refine xq_iload_n dX11_joins_101 rfl rfl ?_
        refine xq_sipush dX11_joins_102 sp729 ?_
        refine xq_isubN dX11_joins_105 (by omega) ?_
        rw [show 729 * m + 729 - 729 = 729 * m by omega]
        refine xq_iload_n dX11_joins_106 rfl rfl ?_
        refine xq_iaddN dX11_joins_107 ?_
        refine xq_iload_n dX11_joins_108 rfl rfl ?_
        refine xq_sipush dX11_joins_109 sp261 ?_
        refine xq_icmp_neN dX11_joins_112 rfl (by omega) (by omega) ⟨fun h112 => ?_, fun h112 => ?_⟩
        · skip
          first | exact absurd h112 (by decide) | exact absurd rfl h112
        · skip
          refine xq_iload dX11_joins_115 rfl ?_
          refine xq_if_eqB dX11_joins_117 rfl ⟨fun h117 => ?_, fun h117 => ?_⟩
          · skip
            refine xq_iconst dX11_joins_129 ic0 ?_
            refine xq_goto dX11_joins_130 rfl ?_
            refine xq_zastN dX11_joins_148 (Fx.s118 hF) (by omega) (by decide) (by decide) ?_
            refine xq_iincN dX11_joins_149 ic1 rfl rfl ?_
            refine xq_goto dX11_joins_152 rfl ?_
            exact xq_fgt (ih (w + 1) _ (by omega) (by omega) (fun v hv => by
              rw [hI_sI]
              by_cases e : v = w
              · subst e; rw [if_pos ⟨rfl, by omega⟩, if_pos (by omega)]; simp [h117]; try rfl
              · rw [if_neg (by omega), hg v hv, ite_c (by omega : v < w ↔ v < w + 1)]) (fun v hv => by rw [hI_sI, if_neg (by omega)]; exact hb v hv) (fun k hk => by rw [hI_sI, if_neg (by omega)]; exact he k hk) (by rw [hI_sI, if_neg (by omega)]; exact hf) (MoF.pI (A := (fun q => q = 83 ∨ q = 118)) ho (by omega) (by omega) _ _)) (by exact And.intro rfl (And.intro rfl (And.intro rfl (And.intro rfl (trivial)))))
          · skip
            refine xq_iload dX11_joins_120 rfl ?_
            refine xq_if_eqB dX11_joins_122 rfl ⟨fun h122 => ?_, fun h122 => ?_⟩
            · skip
              refine xq_iconst dX11_joins_129 ic0 ?_
              refine xq_goto dX11_joins_130 rfl ?_
              refine xq_zastN dX11_joins_148 (Fx.s118 hF) (by omega) (by decide) (by decide) ?_
              refine xq_iincN dX11_joins_149 ic1 rfl rfl ?_
              refine xq_goto dX11_joins_152 rfl ?_
              exact xq_fgt (ih (w + 1) _ (by omega) (by omega) (fun v hv => by
                rw [hI_sI]
                by_cases e : v = w
                · subst e; rw [if_pos ⟨rfl, by omega⟩, if_pos (by omega)]; simp [h117, h122]; try rfl
                · rw [if_neg (by omega), hg v hv, ite_c (by omega : v < w ↔ v < w + 1)]) (fun v hv => by rw [hI_sI, if_neg (by omega)]; exact hb v hv) (fun k hk => by rw [hI_sI, if_neg (by omega)]; exact he k hk) (by rw [hI_sI, if_neg (by omega)]; exact hf) (MoF.pI (A := (fun q => q = 83 ∨ q = 118)) ho (by omega) (by omega) _ _)) (by exact And.intro rfl (And.intro rfl (And.intro rfl (And.intro rfl (trivial)))))
            · skip
              refine xq_iconst dX11_joins_125 ic1 ?_
              refine xq_goto dX11_joins_126 rfl ?_
              refine xq_zastN dX11_joins_148 (Fx.s118 hF) (by omega) (by decide) (by decide) ?_
              refine xq_iincN dX11_joins_149 ic1 rfl rfl ?_
              refine xq_goto dX11_joins_152 rfl ?_
              exact xq_fgt (ih (w + 1) _ (by omega) (by omega) (fun v hv => by
                rw [hI_sI]
                by_cases e : v = w
                · subst e; rw [if_pos ⟨rfl, by omega⟩, if_pos (by omega)]; simp [h117, h122]; try rfl
                · rw [if_neg (by omega), hg v hv, ite_c (by omega : v < w ↔ v < w + 1)]) (fun v hv => by rw [hI_sI, if_neg (by omega)]; exact hb v hv) (fun k hk => by rw [hI_sI, if_neg (by omega)]; exact he k hk) (by rw [hI_sI, if_neg (by omega)]; exact hf) (MoF.pI (A := (fun q => q = 83 ∨ q = 118)) ho (by omega) (by omega) _ _)) (by exact And.intro rfl (And.intro rfl (And.intro rfl (And.intro rfl (trivial)))))
  refine vq_intro (by decide) (by exact Nat.le_of_ble_eq_true rfl) rfl ?_
  refine xq_aload_n dX11_joins_0 rfl rfl ?_
  refine xq_callV0P clX11 gd_X11_top dX11_joins_1 ml_RX11_374 im_X11_top se_X11_top rfl (Fx.s83 hF) (by exact Nat.le_of_ble_eq_true rfl) (by decide) (m_top hF hm (by omega)) ?_
  rw [show 729 * (m + 1) = 729 * m + 729 by omega]
  refine xq_istore_n dX11_joins_4 rfl rfl ?_
  refine xq_iload_n dX11_joins_5 rfl rfl ?_
  refine xq_sipush dX11_joins_6 sp260 ?_
  refine xq_icmp_neN dX11_joins_9 rfl (by omega) (by omega) ⟨fun h9 => ?_, fun h9 => ?_⟩
  · skip
    refine xq_aload_n dX11_joins_53 rfl rfl ?_
    refine xq_dup dX11_joins_54 rfl ?_
    refine xq_getIE clX11 (by decide) rfl fl_RX11_371 dX11_joins_55 (Fx.s83 hF) hm ?_
    refine xq_iconst dX11_joins_58 ic1 ?_
    refine xq_isubN dX11_joins_59 (by omega) ?_
    refine xq_putI clX11 (by decide) rfl fl_RX11_371 (Or.inl rfl) dX11_joins_60 ⟨rfl, rfl⟩ (Fx.s83 hF) ?_
    refine xq_iconst dX11_joins_63 ic0 ?_
    refine xq_istore_n dX11_joins_64 rfl rfl ?_
    refine lp (nW T + 1) 0 _ (by omega) (by omega) (fun v hv => by rw [if_neg (by omega), hI_sI, if_neg (by omega)]; exact hRa v hv) (fun v hv => by rw [hI_sI, if_neg (by omega)]; exact (congrArg (hI H 118) (by omega)).trans (hRb v hv)) (fun _ _ => by rw [hI_sI, if_neg (by omega)]) (by rw [hI_sI, if_pos ⟨rfl, rfl⟩]; rfl) (MoF.pF (A := (fun q => q = 83 ∨ q = 118)) (F := fun k => k = 56) MoF.rf (by omega) rfl _)
  · skip
    exact absurd h9 (by decide)
theorem m_joinOr (hs : MsP S H T N) (hm : hI H 83 56 = nI (m + 2)) (hm65 : m < 64) (hRa : RoP H T m Rw) (hRb : RoP H T (m + 1) R2) : Nv mX11_joins 1 [.ref 83, vN 262] S H (fun H' => RoP H' T m (fun w => Rw w || R2 w) ∧ RoE H H' m ∧ hI H' 83 56 = nI (m + 1) ∧ MoF (fun q => q = 83 ∨ q = 118) (fun k => k = 56) H H') := by
  have hF := hs.fx; have hx := hs.mx; have hw := hs.mw; have tk := hs.tk; have tw := hs.tw; have hnp := tw.2.1; have hnc := tw.1; have hWn := nW_le tw
  have lp : ∀ (fz : Nat) (w : Nat) (H1 : xH), nW T - w < fz → w ≤ nW T → (∀ v, v < nW T → hI H1 118 (729 * m + v) = bI (if v < w then Rw v || R2 v else Rw v)) → (∀ v, v < nW T → hI H1 118 (729 * m + 729 + v) = bI (R2 v)) → RoE H H1 m → hI H1 83 56 = nI (m + 1) → MoF (fun q => q = 83 ∨ q = 118) (fun k => k = 56) H H1 → Xq mX11_joins 1 0 0 65 [some (.ref 83), some (vN 262), some (vN (729 * m + 729)), some (vN w), none, none] [] S H1 (fun R => ∃ H', (fun H' => RoP H' T m (fun w => Rw w || R2 w) ∧ RoE H H' m ∧ hI H' 83 56 = nI (m + 1) ∧ MoF (fun q => q = 83 ∨ q = 118) (fun k => k = 56) H H') H' ∧ R = (none, S, H')) := by
    intro fz
    induction fz with
    | zero => intro w  H1  hfz; exact absurd hfz (by omega)
    | succ fz ih =>
      intro w  H1  hfz hi hg hb he hf ho
      refine xq_iload_n dX11_joins_65 rfl rfl ?_
      refine xq_aload_n dX11_joins_66 rfl rfl ?_
      refine xq_getIE clX11 (by decide) rfl fl_RX11_335 dX11_joins_67 (Fx.s83 hF) ((ho.2 36 (by omega)).trans hw.ws) ?_
      refine xq_icmp_geN dX11_joins_70 rfl (by omega) (by omega) ⟨fun h70 => ?_, fun h70 => ?_⟩
      · skip
        refine xq_vret dX11_joins_155 rfl ?_
        exact ⟨H1, ⟨fun v hv => by rw [hg v hv, if_pos (by omega)], he, hf, ho⟩, rfl⟩
      · skip
        refine xq_aload_n dX11_joins_73 rfl rfl ?_
        refine xq_getF clX11 (by decide) rfl fl_RX11_119 dX11_joins_74 (Fx.s83 hF) (Fx.r83_55 hF) ?_
        refine xq_iload_n dX11_joins_77 rfl rfl ?_
        refine xq_sipush dX11_joins_78 sp729 ?_
        refine xq_isubN dX11_joins_81 (by omega) ?_
        rw [show 729 * m + 729 - 729 = 729 * m by omega]
        refine xq_iload_n dX11_joins_82 rfl rfl ?_
        refine xq_iaddN dX11_joins_83 ?_
        refine xq_zaldN (v := bI (Rw w)) dX11_joins_84 (Fx.s118 hF) (by omega) (by decide) ((hg w h70).trans (by rw [if_neg (by omega)])) ?_
        refine xq_istore dX11_joins_85 rfl ?_
        refine xq_aload_n dX11_joins_87 rfl rfl ?_
        refine xq_getF clX11 (by decide) rfl fl_RX11_119 dX11_joins_88 (Fx.s83 hF) (Fx.r83_55 hF) ?_
        refine xq_iload_n dX11_joins_91 rfl rfl ?_
        refine xq_iload_n dX11_joins_92 rfl rfl ?_
        refine xq_iaddN dX11_joins_93 ?_
        refine xq_zaldN dX11_joins_94 (Fx.s118 hF) (by omega) (by decide) (hb w h70) ?_
        refine xq_istore dX11_joins_95 rfl ?_
        refine xq_aload_n dX11_joins_97 rfl rfl ?_
        refine xq_getF clX11 (by decide) rfl fl_RX11_119 dX11_joins_98 (Fx.s83 hF) (Fx.r83_55 hF) ?_
        refine xq_iload_n dX11_joins_101 rfl rfl ?_
        refine xq_sipush dX11_joins_102 sp729 ?_
        refine xq_isubN dX11_joins_105 (by omega) ?_
        rw [show 729 * m + 729 - 729 = 729 * m by omega]
        refine xq_iload_n dX11_joins_106 rfl rfl ?_
        refine xq_iaddN dX11_joins_107 ?_
        refine xq_iload_n dX11_joins_108 rfl rfl ?_
        refine xq_sipush dX11_joins_109 sp261 ?_
        refine xq_icmp_neN dX11_joins_112 rfl (by omega) (by omega) ⟨fun h112 => ?_, fun h112 => ?_⟩
        · skip
          refine xq_iload dX11_joins_133 rfl ?_
          refine xq_if_neB dX11_joins_135 rfl ⟨fun h135 => ?_, fun h135 => ?_⟩
          · skip
            refine xq_iconst dX11_joins_143 ic1 ?_
            refine xq_goto dX11_joins_144 rfl ?_
            refine xq_zastN dX11_joins_148 (Fx.s118 hF) (by omega) (by decide) (by decide) ?_
            refine xq_iincN dX11_joins_149 ic1 rfl rfl ?_
            refine xq_goto dX11_joins_152 rfl ?_
            exact xq_fgt (ih (w + 1) _ (by omega) (by omega) (fun v hv => by
              rw [hI_sI]
              by_cases e : v = w
              · subst e; rw [if_pos ⟨rfl, by omega⟩, if_pos (by omega)]; simp [h135]; try rfl
              · rw [if_neg (by omega), hg v hv, ite_c (by omega : v < w ↔ v < w + 1)]) (fun v hv => by rw [hI_sI, if_neg (by omega)]; exact hb v hv) (fun k hk => by rw [hI_sI, if_neg (by omega)]; exact he k hk) (by rw [hI_sI, if_neg (by omega)]; exact hf) (MoF.pI (A := (fun q => q = 83 ∨ q = 118)) ho (by omega) (by omega) _ _)) (by exact And.intro rfl (And.intro rfl (And.intro rfl (And.intro rfl (trivial)))))
          · skip
            refine xq_iload dX11_joins_138 rfl ?_
            refine xq_if_eqB dX11_joins_140 rfl ⟨fun h140 => ?_, fun h140 => ?_⟩
            · skip
              refine xq_iconst dX11_joins_147 ic0 ?_
              refine xq_zastN dX11_joins_148 (Fx.s118 hF) (by omega) (by decide) (by decide) ?_
              refine xq_iincN dX11_joins_149 ic1 rfl rfl ?_
              refine xq_goto dX11_joins_152 rfl ?_
              exact xq_fgt (ih (w + 1) _ (by omega) (by omega) (fun v hv => by
                rw [hI_sI]
                by_cases e : v = w
                · subst e; rw [if_pos ⟨rfl, by omega⟩, if_pos (by omega)]; simp [h135, h140]; try rfl
                · rw [if_neg (by omega), hg v hv, ite_c (by omega : v < w ↔ v < w + 1)]) (fun v hv => by rw [hI_sI, if_neg (by omega)]; exact hb v hv) (fun k hk => by rw [hI_sI, if_neg (by omega)]; exact he k hk) (by rw [hI_sI, if_neg (by omega)]; exact hf) (MoF.pI (A := (fun q => q = 83 ∨ q = 118)) ho (by omega) (by omega) _ _)) (by exact And.intro rfl (And.intro rfl (And.intro rfl (And.intro rfl (trivial)))))
            · skip
              refine xq_iconst dX11_joins_143 ic1 ?_
              refine xq_goto dX11_joins_144 rfl ?_
              refine xq_zastN dX11_joins_148 (Fx.s118 hF) (by omega) (by decide) (by decide) ?_
              refine xq_iincN dX11_joins_149 ic1 rfl rfl ?_
              refine xq_goto dX11_joins_152 rfl ?_
              exact xq_fgt (ih (w + 1) _ (by omega) (by omega) (fun v hv => by
                rw [hI_sI]
                by_cases e : v = w
                · subst e; rw [if_pos ⟨rfl, by omega⟩, if_pos (by omega)]; simp [h135, h140]; try rfl
                · rw [if_neg (by omega), hg v hv, ite_c (by omega : v < w ↔ v < w + 1)]) (fun v hv => by rw [hI_sI, if_neg (by omega)]; exact hb v hv) (fun k hk => by rw [hI_sI, if_neg (by omega)]; exact he k hk) (by rw [hI_sI, if_neg (by omega)]; exact hf) (MoF.pI (A := (fun q => q = 83 ∨ q = 118)) ho (by omega) (by omega) _ _)) (by exact And.intro rfl (And.intro rfl (And.intro rfl (And.intro rfl (trivial)))))
        · skip
          first | exact absurd h112 (by decide) | exact absurd rfl h112
  refine vq_intro (by decide) (by exact Nat.le_of_ble_eq_true rfl) rfl ?_
  refine xq_aload_n dX11_joins_0 rfl rfl ?_
  refine xq_callV0P clX11 gd_X11_top dX11_joins_1 ml_RX11_374 im_X11_top se_X11_top rfl (Fx.s83 hF) (by exact Nat.le_of_ble_eq_true rfl) (by decide) (m_top hF hm (by omega)) ?_
  rw [show 729 * (m + 1) = 729 * m + 729 by omega]
  refine xq_istore_n dX11_joins_4 rfl rfl ?_
  refine xq_iload_n dX11_joins_5 rfl rfl ?_
  refine xq_sipush dX11_joins_6 sp260 ?_
  refine xq_icmp_neN dX11_joins_9 rfl (by omega) (by omega) ⟨fun h9 => ?_, fun h9 => ?_⟩
  · skip
    refine xq_aload_n dX11_joins_53 rfl rfl ?_
    refine xq_dup dX11_joins_54 rfl ?_
    refine xq_getIE clX11 (by decide) rfl fl_RX11_371 dX11_joins_55 (Fx.s83 hF) hm ?_
    refine xq_iconst dX11_joins_58 ic1 ?_
    refine xq_isubN dX11_joins_59 (by omega) ?_
    refine xq_putI clX11 (by decide) rfl fl_RX11_371 (Or.inl rfl) dX11_joins_60 ⟨rfl, rfl⟩ (Fx.s83 hF) ?_
    refine xq_iconst dX11_joins_63 ic0 ?_
    refine xq_istore_n dX11_joins_64 rfl rfl ?_
    refine lp (nW T + 1) 0 _ (by omega) (by omega) (fun v hv => by rw [if_neg (by omega), hI_sI, if_neg (by omega)]; exact hRa v hv) (fun v hv => by rw [hI_sI, if_neg (by omega)]; exact (congrArg (hI H 118) (by omega)).trans (hRb v hv)) (fun _ _ => by rw [hI_sI, if_neg (by omega)]) (by rw [hI_sI, if_pos ⟨rfl, rfl⟩]; rfl) (MoF.pF (A := (fun q => q = 83 ∨ q = 118)) (F := fun k => k = 56) MoF.rf (by omega) rfl _)
  · skip
    exact absurd h9 (by decide)
theorem m_leaf3 (hs : MsP S H T N) (hw2 : w < nW T) (hx6 : x < tNp T) (hy : y < 8) : Pv mX11_leafIn 1 [.ref 83, vN 3, vN (8 * x + y), vN w] S H (vB (cl T w x == y)) := by
  have hF := hs.fx; have hx := hs.mx; have hw := hs.mw; have tk := hs.tk; have tw := hs.tw; have hnp := tw.2.1; have hnc := tw.1; have hWn := nW_le tw
  have e8 : (8 * x + y) / 8 = x := by omega
  have e9 : (8 * x + y) % 8 = y := by omega
  have hcl := cl_3 tw hw2 (p := x) (by omega)
  refine vq_ev (vq_intro (by decide) (by exact Nat.le_of_ble_eq_true rfl) rfl ?_)
  refine xq_iload_n dX11_leafIn_0 rfl rfl ?_
  refine xq_lookup dX11_leafIn_1 rfl rfl rfl ?_
  refine xq_aload_n dX11_leafIn_36 rfl rfl ?_
  refine xq_getF clX11 (by decide) rfl fl_RX11_72 dX11_leafIn_37 (Fx.s83 hF) (Fx.r83_35 hF) ?_
  refine xq_bipush dX11_leafIn_40 bp6 ?_
  refine xq_iload_n dX11_leafIn_42 rfl rfl ?_
  refine xq_imulN dX11_leafIn_43 ?_
  refine xq_iload_n dX11_leafIn_44 rfl rfl ?_
  refine xq_bipush dX11_leafIn_45 bp8 ?_
  refine xq_idivN dX11_leafIn_47 (by omega) (by omega) (by decide) ?_
  rw [e8]
  refine xq_iaddN dX11_leafIn_48 ?_
  refine xq_ialdN dX11_leafIn_49 (Fx.s103 hF) (by omega) (by decide) (hw.cl w hw2 x hx6) ?_
  refine xq_iload_n dX11_leafIn_50 rfl rfl ?_
  refine xq_bipush dX11_leafIn_51 bp8 ?_
  refine xq_iremN dX11_leafIn_53 (by omega) (by omega) (by decide) ?_
  rw [e9]
  refine xq_icmp_neN dX11_leafIn_54 rfl (by omega) (by omega) ⟨fun h54 => ?_, fun h54 => ?_⟩
  · skip
    refine xq_iconst dX11_leafIn_61 ic0 ?_
    refine xq_zret dX11_leafIn_62 rfl (by decide) ?_
    show _ = _; rw [show (cl T w x == y) = false by simpa using h54]; rfl
  · skip
    refine xq_iconst dX11_leafIn_57 ic1 ?_
    refine xq_goto dX11_leafIn_58 rfl ?_
    refine xq_zret dX11_leafIn_62 rfl (by decide) ?_
    show _ = _; rw [show (cl T w x == y) = true by simpa using h54]; rfl
theorem m_leaf4 (hF : gFx S) (hw2 : w < 729) (hx6 : x < 6) (hb : hI H 113 (729 * x + w) = bI bb) : Pv mX11_leafIn 1 [.ref 83, vN 4, vN x, vN w] S H (vB bb) := by
  refine vq_ev (vq_intro (by decide) (by exact Nat.le_of_ble_eq_true rfl) rfl ?_)
  refine xq_iload_n dX11_leafIn_0 rfl rfl ?_
  refine xq_lookup dX11_leafIn_1 rfl rfl rfl ?_
  refine xq_aload_n dX11_leafIn_63 rfl rfl ?_
  refine xq_getF clX11 (by decide) rfl fl_RX11_103 dX11_leafIn_64 (Fx.s83 hF) (Fx.r83_50 hF) ?_
  refine xq_sipush dX11_leafIn_67 sp729 ?_
  refine xq_iload_n dX11_leafIn_70 rfl rfl ?_
  refine xq_imulN dX11_leafIn_71 ?_
  refine xq_iload_n dX11_leafIn_72 rfl rfl ?_
  refine xq_iaddN dX11_leafIn_73 ?_
  refine xq_zaldN dX11_leafIn_74 (Fx.s113 hF) (by omega) (by decide) hb ?_
  refine xq_zret dX11_leafIn_75 rfl (bI_01 _) ?_
  rfl
theorem m_leaf8 (hs : MsP S H T N) (hw2 : w < nW T) (hx6 : x < 4) (hy : y < 8) : Pv mX11_leafIn 1 [.ref 83, vN 8, vN (8 * x + y), vN w] S H (vB (decide (y ≤ ct (fun p => cl T w p == x) (tNp T)))) := by
  have hF := hs.fx; have hx := hs.mx; have hw := hs.mw; have tk := hs.tk; have tw := hs.tw; have hnp := tw.2.1; have hnc := tw.1; have hWn := nW_le tw
  have e8 : (8 * x + y) / 8 = x := by omega
  have e9 : (8 * x + y) % 8 = y := by omega
  have hcc := ct_le (fun p => cl T w p == x) (tNp T)
  refine vq_ev (vq_intro (by decide) (by exact Nat.le_of_ble_eq_true rfl) rfl ?_)
  refine xq_iload_n dX11_leafIn_0 rfl rfl ?_
  refine xq_lookup dX11_leafIn_1 rfl rfl rfl ?_
  refine xq_aload_n dX11_leafIn_76 rfl rfl ?_
  refine xq_iload_n dX11_leafIn_77 rfl rfl ?_
  refine xq_iload_n dX11_leafIn_78 rfl rfl ?_
  refine xq_bipush dX11_leafIn_79 bp8 ?_
  refine xq_idivN dX11_leafIn_81 (by omega) (by omega) (by decide) ?_
  rw [e8]
  refine xq_callV2P clX11 gd_X11_manyOf dX11_leafIn_82 ml_RX11_344 im_X11_manyOf se_X11_manyOf rfl (Fx.s83 hF) (by exact Nat.le_of_ble_eq_true rfl) (by decide) (m_manyOf hs hw2 hx6) ?_
  refine xq_iload_n dX11_leafIn_85 rfl rfl ?_
  refine xq_bipush dX11_leafIn_86 bp8 ?_
  refine xq_iremN dX11_leafIn_88 (by omega) (by omega) (by decide) ?_
  rw [e9]
  refine xq_icmp_ltN dX11_leafIn_89 rfl (by omega) (by omega) ⟨fun h89 => ?_, fun h89 => ?_⟩
  · skip
    refine xq_iconst dX11_leafIn_96 ic0 ?_
    refine xq_zret dX11_leafIn_97 rfl (by decide) ?_
    show _ = _; rw [decide_eq_false (by omega)]; rfl
  · skip
    refine xq_iconst dX11_leafIn_92 ic1 ?_
    refine xq_goto dX11_leafIn_93 rfl ?_
    refine xq_zret dX11_leafIn_97 rfl (by decide) ?_
    show _ = _; rw [decide_eq_true h89]; rfl
theorem m_leaf9 (hF : gFx S) (hw2 : w < 729) (hx6 : x < 8) (hb : hI H 117 (729 * x + w) = bI bb) : Pv mX11_leafIn 1 [.ref 83, vN 9, vN x, vN w] S H (vB bb) := by
  refine vq_ev (vq_intro (by decide) (by exact Nat.le_of_ble_eq_true rfl) rfl ?_)
  refine xq_iload_n dX11_leafIn_0 rfl rfl ?_
  refine xq_lookup dX11_leafIn_1 rfl rfl rfl ?_
  refine xq_aload_n dX11_leafIn_98 rfl rfl ?_
  refine xq_getF clX11 (by decide) rfl fl_RX11_115 dX11_leafIn_99 (Fx.s83 hF) (Fx.r83_54 hF) ?_
  refine xq_sipush dX11_leafIn_102 sp729 ?_
  refine xq_iload_n dX11_leafIn_105 rfl rfl ?_
  refine xq_imulN dX11_leafIn_106 ?_
  refine xq_iload_n dX11_leafIn_107 rfl rfl ?_
  refine xq_iaddN dX11_leafIn_108 ?_
  refine xq_zaldN dX11_leafIn_109 (Fx.s117 hF) (by omega) (by decide) hb ?_
  refine xq_zret dX11_leafIn_110 rfl (bI_01 _) ?_
  rfl
theorem m_laysFact (hs : MsP S H T N) (hr : RmP H T s lf u) (hlr : LfR T lf u) (ok : StOk u) (h23 : s < 23) (hro : hI H 83 48 = nI s) (hsi : SiP H T u) (hkn : KnP H T lf u) (hpa : PaH H T pf) (hpf : PfOk T lf u pf) (hf : f < tNf T) (hso : ∀ g, g < f → SoP H T lf u g) : Nv mX11_laysFact 3 [.ref 83, vN f] S H (fun H' => SoP H' T lf u f ∧ (∀ k, (k < 729 * f ∨ 729 * f + 729 ≤ k) → hI H' 117 k = hI H 117 k) ∧ MoF (fun q => q = 83 ∨ q = 115 ∨ q = 117 ∨ q = 118) (fun k => k = 56) H H') := by
  have hF := hs.fx; have hx := hs.mx; have hw := hs.mw; have tk := hs.tk; have tw := hs.tw; have hnp := tw.2.1; have hnc := tw.1; have hWn := nW_le tw
  have hfa := tk.fa f hf
  have hnd := hfa.2.2
  have hnf := hs.nx.1 f hf
  have hrp := hnf.1
  have hab := hrp.1
  have hnf8 := tk.nf
  have hro64 := hfa.1
  have l2 : ∀ (Rw : Nat → Bool) (fz : Nat) (w : Nat) (H1 : xH), nW T - w < fz → w ≤ nW T → RoP H1 T 0 Rw → (∀ w, w < nW T → lf w = true → Rw w = kv T u (tRo T f) (ct lf w)) → (∀ v, v < w → hI H1 117 (729 * f + v) = bI (Rw v)) → (∀ k, (k < 729 * f ∨ 729 * f + 729 ≤ k) → hI H1 117 k = hI H 117 k) → MoF (fun q => q = 83 ∨ q = 115 ∨ q = 117 ∨ q = 118) (fun k => k = 56) H H1 → Xq mX11_laysFact 3 0 0 156 [some (.ref 83), some (vN f), some (vN w), none, none, none] [] S H1 (fun R => ∃ H', (fun H' => SoP H' T lf u f ∧ (∀ k, (k < 729 * f ∨ 729 * f + 729 ≤ k) → hI H' 117 k = hI H 117 k) ∧ MoF (fun q => q = 83 ∨ q = 115 ∨ q = 117 ∨ q = 118) (fun k => k = 56) H H') H' ∧ R = (none, S, H')) := by
    intro Rw fz
    induction fz with
    | zero => intro w  H1  hfz; exact absurd hfz (by omega)
    | succ fz ih =>
      intro w  H1  hfz hi hR hRv hg he ho
      refine xq_iload_n dX11_laysFact_156 rfl rfl ?_
      refine xq_aload_n dX11_laysFact_157 rfl rfl ?_
      refine xq_getIE clX11 (by decide) rfl fl_RX11_335 dX11_laysFact_158 (Fx.s83 hF) ((ho.2 36 (by omega)).trans hw.ws) ?_
      refine xq_icmp_geN dX11_laysFact_161 rfl (by omega) (by omega) ⟨fun h161 => ?_, fun h161 => ?_⟩
      · skip
        refine xq_vret dX11_laysFact_188 rfl ?_
        exact ⟨H1, ⟨⟨Rw, fun v hv => hg v (by omega), hRv⟩, he, ho⟩, rfl⟩
      · skip
        refine xq_aload_n dX11_laysFact_164 rfl rfl ?_
        refine xq_getF clX11 (by decide) rfl fl_RX11_115 dX11_laysFact_165 (Fx.s83 hF) (Fx.r83_54 hF) ?_
        refine xq_sipush dX11_laysFact_168 sp729 ?_
        refine xq_iload_n dX11_laysFact_171 rfl rfl ?_
        refine xq_imulN dX11_laysFact_172 ?_
        refine xq_iload_n dX11_laysFact_173 rfl rfl ?_
        refine xq_iaddN dX11_laysFact_174 ?_
        refine xq_aload_n dX11_laysFact_175 rfl rfl ?_
        refine xq_getF clX11 (by decide) rfl fl_RX11_119 dX11_laysFact_176 (Fx.s83 hF) (Fx.r83_55 hF) ?_
        refine xq_iload_n dX11_laysFact_179 rfl rfl ?_
        refine xq_zaldN (v := bI (Rw w)) dX11_laysFact_180 (Fx.s118 hF) (by omega) (by decide) ((congrArg (hI H1 118) (by omega)).trans (hR w h161)) ?_
        refine xq_zastN dX11_laysFact_181 (Fx.s117 hF) (by omega) (by decide) (bI_01 _) ?_
        refine xq_iincN dX11_laysFact_182 ic1 rfl rfl ?_
        refine xq_goto dX11_laysFact_185 rfl ?_
        refine ih (w + 1) _ (by omega) (by omega) (fun v hv => by rw [hI_sI, if_neg (by omega)]; exact hR v hv) hRv (fun v hv => ?_) (fun k hk => by rw [hI_sI, if_neg (by omega)]; exact he k hk) (MoF.pI (A := (fun q => q = 83 ∨ q = 115 ∨ q = 117 ∨ q = 118)) ho (by omega) (by omega) _ _)
        rw [hI_sI]
        by_cases e : v = w
        · subst e; rw [if_pos ⟨rfl, rfl⟩]
        · rw [if_neg (by omega)]; exact hg v (by omega)
  have l1 : ∀ (fz : Nat) (n : Nat) (H1 : xH), tRo T f + 1 - (N 0 f + n) < fz → N 0 f + n ≤ tRo T f + 1 → hI H1 83 56 = nI (stk T (N 0 f) n).length → RsP H1 T lf u (stk T (N 0 f) n) → (∀ k, hI H1 117 k = hI H 117 k) → MoF (fun q => q = 83 ∨ q = 115 ∨ q = 117 ∨ q = 118) (fun k => k = 56) H H1 → Xq mX11_laysFact 3 0 0 12 [some (.ref 83), some (vN f), some (vN (N 0 f + n)), none, none, none] [] S H1 (fun R => ∃ H', (fun H' => SoP H' T lf u f ∧ (∀ k, (k < 729 * f ∨ 729 * f + 729 ≤ k) → hI H' 117 k = hI H 117 k) ∧ MoF (fun q => q = 83 ∨ q = 115 ∨ q = 117 ∨ q = 118) (fun k => k = 56) H H') H' ∧ R = (none, S, H')) := by
    intro fz
    induction fz with
    | zero => intro n  H1  hfz; exact absurd hfz (by omega)
    | succ fz ih =>
      intro n  H1  hfz hi hrm hst h117 ho
      have hro1 := (ho.2 48 (by omega)).trans hro; have hr1 := hr.off ho.1 (fun q a b => by omega); have hs1 := hs.off ho (fun q a b => by omega) (by omega) (by omega) (by omega); have hx1 := hs1.mx; have hw1 := hs1.mw; have hsi1 : SiP H1 T u := fun p hp w hw => (ho.1.I (by omega) _).trans (hsi p hp w hw); have hpa1 : PaH H1 T pf := fun w hw => (ho.1.I (by omega) _).trans (hpa w hw); have hkn1 : KnP H1 T lf u := fun p hp w hw => (ho.1.I (by omega) _).trans (hkn p hp w hw)
      refine xq_iload_n dX11_laysFact_12 rfl rfl ?_
      refine xq_aload_n dX11_laysFact_13 rfl rfl ?_
      refine xq_getF clX11 (by decide) rfl fl_RX11_37 dX11_laysFact_14 (Fx.s83 hF) (Fx.r83_11 hF) ?_
      refine xq_iload_n dX11_laysFact_17 rfl rfl ?_
      refine xq_ialdN dX11_laysFact_18 (Fx.s93 hF) (by omega) (by decide) ((hx1.fa f hf).2.2) ?_
      refine xq_icmp_geN dX11_laysFact_19 rfl (by omega) (by omega) ⟨fun h19 => ?_, fun h19 => ?_⟩
      · skip
        refine xq_iconst dX11_laysFact_154 ic0 ?_
        refine xq_istore_n dX11_laysFact_155 rfl rfl ?_
        have en : n = tRo T f + 1 - N 0 f := by omega
        rw [en, hrp.2.2] at hst
        obtain ⟨⟨Rw, hR, hRv⟩, -⟩ := hst
        exact l2 Rw (nW T + 1) 0 H1 (by omega) (by omega) hR hRv (fun v hv => absurd hv (by omega)) (fun k _ => h117 k) ho
      · skip
        have hn64 := stk_len (T := T) (N 0 f) n
        have hin : N 0 f + n < tRo T f + 1 := h19
        obtain ⟨rb1, ar1, ar2⟩ := hrp.2.1 n hin
        obtain ⟨hknk, hko, -, -⟩ := hnd _ (by omega) rb1
        have hkk := hx1.kn _ hknk
        have hnx := hnf.2 (N 0 f + n) (by omega) (by omega)
        have kve : ∀ p, p < uZ u → kst T u (kv T u) (N 0 f + n) p = kv T u (N 0 f + n) p := fun p hp => kv_eq hko (fun _ _ _ => rfl) (fun _ _ _ => rfl) hp
        rcases hko with ⟨hk0, hk1, hk2⟩ | ⟨hk0, hk1⟩ | ⟨hk0, hk1, hk2⟩ | ⟨hk0, hk1⟩ | ⟨hk0, hk1, hk2⟩ | ⟨hk0, hk1, hk2⟩ | ⟨hk0, hk1⟩ | ⟨hk0, hk1, hk2⟩ | ⟨hk0, hk1⟩ | ⟨hk0, hk1⟩
        · skip
          have hS : mkS T (N 0 f + n) = 3 := by simp [mkS, hk0]
          have hV : mkV T (N 0 f + n) = 8 * tX T (N 0 f + n) + tY T (N 0 f + n) := by simp [mkV, hk0, sgn]
          have ih0 := ih
          refine xq_aload_n dX11_laysFact_22 rfl rfl ?_
          refine xq_getF clX11 (by decide) rfl fl_RX11_55 dX11_laysFact_23 (Fx.s83 hF) (Fx.r83_17 hF) ?_
          refine xq_iload_n dX11_laysFact_26 rfl rfl ?_
          refine xq_ialdN (v := nI 3) dX11_laysFact_27 (Fx.s99 hF) (by omega) (by decide) (hkk.1.trans (by rw [hS])) ?_
          refine xq_istore_n dX11_laysFact_28 rfl rfl ?_
          refine xq_aload_n dX11_laysFact_29 rfl rfl ?_
          refine xq_getF clX11 (by decide) rfl fl_RX11_58 dX11_laysFact_30 (Fx.s83 hF) (Fx.r83_18 hF) ?_
          refine xq_iload_n dX11_laysFact_33 rfl rfl ?_
          refine xq_ialdN (v := nI (8 * tX T (N 0 f + n) + tY T (N 0 f + n))) dX11_laysFact_34 (Fx.s100 hF) (by omega) (by decide) (hkk.2.trans (by rw [hV])) ?_
          refine xq_istore dX11_laysFact_35 rfl ?_
          refine xq_iload_n dX11_laysFact_37 rfl rfl ?_
          refine xq_iconst dX11_laysFact_38 ic2 ?_
          refine xq_icmp_neN dX11_laysFact_39 rfl (by omega) (by omega) ⟨fun h39 => ?_, fun h39 => ?_⟩
          · skip
            refine xq_iload_n dX11_laysFact_51 rfl rfl ?_
            refine xq_iconst dX11_laysFact_52 ic5 ?_
            refine xq_icmp_neN dX11_laysFact_53 rfl (by omega) (by omega) ⟨fun h53 => ?_, fun h53 => ?_⟩
            · skip
              refine xq_iload_n dX11_laysFact_73 rfl rfl ?_
              refine xq_bipush dX11_laysFact_74 bp6 ?_
              refine xq_icmp_neN dX11_laysFact_76 rfl (by omega) (by omega) ⟨fun h76 => ?_, fun h76 => ?_⟩
              · skip
                refine xq_iload_n dX11_laysFact_86 rfl rfl ?_
                refine xq_bipush dX11_laysFact_87 bp7 ?_
                refine xq_icmp_neN dX11_laysFact_89 rfl (by omega) (by omega) ⟨fun h89 => ?_, fun h89 => ?_⟩
                · skip
                  refine xq_aload_n dX11_laysFact_99 rfl rfl ?_
                  refine xq_dup dX11_laysFact_100 rfl ?_
                  refine xq_getIE clX11 (by decide) rfl fl_RX11_371 dX11_laysFact_101 (Fx.s83 hF) hrm ?_
                  refine xq_iconst dX11_laysFact_104 ic1 ?_
                  refine xq_iaddN dX11_laysFact_105 ?_
                  refine xq_putI clX11 (by decide) rfl fl_RX11_371 (Or.inl rfl) dX11_laysFact_106 ⟨rfl, rfl⟩ (Fx.s83 hF) ?_
                  refine xq_iconst dX11_laysFact_109 ic0 ?_
                  refine xq_istore dX11_laysFact_110 rfl ?_
                  skip
                  have lw : ∀ (fz : Nat) (w : Nat) (H2 : xH), nW T - w < fz → w ≤ nW T → (∀ v, v < w → hI H2 118 (729 * (stk T (N 0 f) n).length + v) = bI ((fun w => cl T w (tX T (N 0 f + n)) == tY T (N 0 f + n)) v)) → RoE H1 H2 (stk T (N 0 f) n).length → hI H2 83 56 = nI ((stk T (N 0 f) n).length + 1) → MoF (fun q => q = 83 ∨ q = 118) (fun k => k = 56) H1 H2 → Xq mX11_laysFact 3 0 0 112 [some (.ref 83), some (vN f), some (vN (N 0 f + n)), some (vN 3), some (vN (8 * tX T (N 0 f + n) + tY T (N 0 f + n))), some (vN w)] [] S H2 (fun R => ∃ H', (fun H' => SoP H' T lf u f ∧ (∀ k, (k < 729 * f ∨ 729 * f + 729 ≤ k) → hI H' 117 k = hI H 117 k) ∧ MoF (fun q => q = 83 ∨ q = 115 ∨ q = 117 ∨ q = 118) (fun k => k = 56) H H') H' ∧ R = (none, S, H')) := by
                    intro fz
                    induction fz with
                    | zero => intro w  H2  hfz; exact absurd hfz (by omega)
                    | succ fz ih =>
                      intro w  H2  hfz hi2 hg2 he2 hf2 ho2
                      have hs2 := hs1.off ho2 (fun q a b => by omega) (by omega) (by omega) (by omega)
                      refine xq_iload dX11_laysFact_112 rfl ?_
                      refine xq_aload_n dX11_laysFact_114 rfl rfl ?_
                      refine xq_getIE clX11 (by decide) rfl fl_RX11_335 dX11_laysFact_115 (Fx.s83 hF) ((ho2.2 36 (by omega)).trans hw1.ws) ?_
                      refine xq_icmp_geN dX11_laysFact_118 rfl (by omega) (by omega) ⟨fun h118 => ?_, fun h118 => ?_⟩
                      · skip
                        refine xq_iincN dX11_laysFact_148 ic1 rfl rfl ?_
                        refine xq_goto dX11_laysFact_151 rfl ?_
                        have hst2 : stk T (N 0 f) (n + 1) = (N 0 f + n) :: stk T (N 0 f) n := by show _ :: _ = _; rw [show arK (tK T (N 0 f + n)) = 0 by simp [arK, hk0]]; rfl
                        have q2 := MoF.mo (B := (fun q => q = 83 ∨ q = 115 ∨ q = 117 ∨ q = 118)) (G := fun k => k = 56) ho2 (fun q h => by omega) (fun k h => h)
                        have hrs2 : RsP H2 T lf u ((N 0 f + n) :: stk T (N 0 f) n) := by
                          refine ⟨⟨(fun w => cl T w (tX T (N 0 f + n)) == tY T (N 0 f + n)), fun v hv => hg2 v (by omega), fun w hw hl => ?_⟩, hst.lo tw (fun k hk => he2 k (by omega))⟩
                          rw [← kve _ (hlr.lt hw hl)]
                          unfold kst
                          simp only [hk0]
                          rw [hlr.wd hw hl]; rfl
                        exact xq_fgt (ih0 (n + 1) H2 (by omega) (by omega) (by rw [hst2]; exact hf2) (by rw [hst2]; exact hrs2) (fun k => (ho2.1.I (by omega) k).trans (h117 k)) (ho.tr q2)) (by exact And.intro rfl (And.intro rfl (And.intro rfl (trivial))))
                      · skip
                        refine xq_aload_n dX11_laysFact_121 rfl rfl ?_
                        refine xq_getF clX11 (by decide) rfl fl_RX11_119 dX11_laysFact_122 (Fx.s83 hF) (Fx.r83_55 hF) ?_
                        refine xq_aload_n dX11_laysFact_125 rfl rfl ?_
                        refine xq_callV0P clX11 gd_X11_top dX11_laysFact_126 ml_RX11_374 im_X11_top se_X11_top rfl (Fx.s83 hF) (by exact Nat.le_of_ble_eq_true rfl) (by decide) (m_top hF hf2 (by omega)) ?_
                        refine xq_iload dX11_laysFact_129 rfl ?_
                        refine xq_iaddN dX11_laysFact_131 ?_
                        refine xq_aload_n dX11_laysFact_132 rfl rfl ?_
                        refine xq_iload_n dX11_laysFact_133 rfl rfl ?_
                        refine xq_iload dX11_laysFact_134 rfl ?_
                        refine xq_iload dX11_laysFact_136 rfl ?_
                        refine xq_callV3P clX11 gd_X11_leafIn dX11_laysFact_138 ml_RX11_393 im_X11_leafIn se_X11_leafIn rfl (Fx.s83 hF) (by exact Nat.le_of_ble_eq_true rfl) (by decide) (m_leaf3 hs2 (by omega) (hnx.2.1 (Or.inl hk0)) (by omega)) ?_
                        refine xq_zastN dX11_laysFact_141 (Fx.s118 hF) (by omega) (by decide) (bI_01 _) ?_
                        refine xq_iincN dX11_laysFact_142 ic1 rfl rfl ?_
                        refine xq_goto dX11_laysFact_145 rfl ?_
                        refine ih (w + 1) _ (by omega) (by omega) (fun v hv => ?_) (fun k hk => by rw [hI_sI, if_neg (by omega)]; exact he2 k hk) (by rw [hI_sI, if_neg (by omega)]; exact hf2) (MoF.pI (A := (fun q => q = 83 ∨ q = 118)) ho2 (by omega) (by omega) _ _)
                        rw [hI_sI]
                        by_cases e : v = w
                        · subst e; rw [if_pos ⟨rfl, rfl⟩]
                        · rw [if_neg (by omega)]; exact hg2 v (by omega)
                  exact lw (nW T + 1) 0 _ (by omega) (by omega) (fun v hv => absurd hv (by omega)) (fun k _ => by rw [hI_sI, if_neg (by omega)]) (by rw [hI_sI, if_pos ⟨rfl, rfl⟩]) (MoF.pF (A := (fun q => q = 83 ∨ q = 118)) (F := fun k => k = 56) MoF.rf (Or.inl rfl) rfl _)
                · skip
                  first | exact absurd h89 (by decide) | exact absurd rfl h89
              · skip
                first | exact absurd h76 (by decide) | exact absurd rfl h76
            · skip
              first | exact absurd h53 (by decide) | exact absurd rfl h53
          · skip
            first | exact absurd h39 (by decide) | exact absurd rfl h39
        · skip
          have hS : mkS T (N 0 f + n) = 4 := by simp [mkS, hk0]
          have hV : mkV T (N 0 f + n) = tX T (N 0 f + n) := by simp [mkV, hk0, sgn]
          have ih0 := ih
          refine xq_aload_n dX11_laysFact_22 rfl rfl ?_
          refine xq_getF clX11 (by decide) rfl fl_RX11_55 dX11_laysFact_23 (Fx.s83 hF) (Fx.r83_17 hF) ?_
          refine xq_iload_n dX11_laysFact_26 rfl rfl ?_
          refine xq_ialdN (v := nI 4) dX11_laysFact_27 (Fx.s99 hF) (by omega) (by decide) (hkk.1.trans (by rw [hS])) ?_
          refine xq_istore_n dX11_laysFact_28 rfl rfl ?_
          refine xq_aload_n dX11_laysFact_29 rfl rfl ?_
          refine xq_getF clX11 (by decide) rfl fl_RX11_58 dX11_laysFact_30 (Fx.s83 hF) (Fx.r83_18 hF) ?_
          refine xq_iload_n dX11_laysFact_33 rfl rfl ?_
          refine xq_ialdN (v := nI (tX T (N 0 f + n))) dX11_laysFact_34 (Fx.s100 hF) (by omega) (by decide) (hkk.2.trans (by rw [hV])) ?_
          refine xq_istore dX11_laysFact_35 rfl ?_
          refine xq_iload_n dX11_laysFact_37 rfl rfl ?_
          refine xq_iconst dX11_laysFact_38 ic2 ?_
          refine xq_icmp_neN dX11_laysFact_39 rfl (by omega) (by omega) ⟨fun h39 => ?_, fun h39 => ?_⟩
          · skip
            refine xq_iload_n dX11_laysFact_51 rfl rfl ?_
            refine xq_iconst dX11_laysFact_52 ic5 ?_
            refine xq_icmp_neN dX11_laysFact_53 rfl (by omega) (by omega) ⟨fun h53 => ?_, fun h53 => ?_⟩
            · skip
              refine xq_iload_n dX11_laysFact_73 rfl rfl ?_
              refine xq_bipush dX11_laysFact_74 bp6 ?_
              refine xq_icmp_neN dX11_laysFact_76 rfl (by omega) (by omega) ⟨fun h76 => ?_, fun h76 => ?_⟩
              · skip
                refine xq_iload_n dX11_laysFact_86 rfl rfl ?_
                refine xq_bipush dX11_laysFact_87 bp7 ?_
                refine xq_icmp_neN dX11_laysFact_89 rfl (by omega) (by omega) ⟨fun h89 => ?_, fun h89 => ?_⟩
                · skip
                  refine xq_aload_n dX11_laysFact_99 rfl rfl ?_
                  refine xq_dup dX11_laysFact_100 rfl ?_
                  refine xq_getIE clX11 (by decide) rfl fl_RX11_371 dX11_laysFact_101 (Fx.s83 hF) hrm ?_
                  refine xq_iconst dX11_laysFact_104 ic1 ?_
                  refine xq_iaddN dX11_laysFact_105 ?_
                  refine xq_putI clX11 (by decide) rfl fl_RX11_371 (Or.inl rfl) dX11_laysFact_106 ⟨rfl, rfl⟩ (Fx.s83 hF) ?_
                  refine xq_iconst dX11_laysFact_109 ic0 ?_
                  refine xq_istore dX11_laysFact_110 rfl ?_
                  skip
                  have lw : ∀ (fz : Nat) (w : Nat) (H2 : xH), nW T - w < fz → w ≤ nW T → (∀ v, v < w → hI H2 118 (729 * (stk T (N 0 f) n).length + v) = bI ((fun w => lf w && own u (tX T (N 0 f + n)) (ct lf w)) v)) → RoE H1 H2 (stk T (N 0 f) n).length → hI H2 83 56 = nI ((stk T (N 0 f) n).length + 1) → MoF (fun q => q = 83 ∨ q = 118) (fun k => k = 56) H1 H2 → Xq mX11_laysFact 3 0 0 112 [some (.ref 83), some (vN f), some (vN (N 0 f + n)), some (vN 4), some (vN (tX T (N 0 f + n))), some (vN w)] [] S H2 (fun R => ∃ H', (fun H' => SoP H' T lf u f ∧ (∀ k, (k < 729 * f ∨ 729 * f + 729 ≤ k) → hI H' 117 k = hI H 117 k) ∧ MoF (fun q => q = 83 ∨ q = 115 ∨ q = 117 ∨ q = 118) (fun k => k = 56) H H') H' ∧ R = (none, S, H')) := by
                    intro fz
                    induction fz with
                    | zero => intro w  H2  hfz; exact absurd hfz (by omega)
                    | succ fz ih =>
                      intro w  H2  hfz hi2 hg2 he2 hf2 ho2
                      have hs2 := hs1.off ho2 (fun q a b => by omega) (by omega) (by omega) (by omega)
                      refine xq_iload dX11_laysFact_112 rfl ?_
                      refine xq_aload_n dX11_laysFact_114 rfl rfl ?_
                      refine xq_getIE clX11 (by decide) rfl fl_RX11_335 dX11_laysFact_115 (Fx.s83 hF) ((ho2.2 36 (by omega)).trans hw1.ws) ?_
                      refine xq_icmp_geN dX11_laysFact_118 rfl (by omega) (by omega) ⟨fun h118 => ?_, fun h118 => ?_⟩
                      · skip
                        refine xq_iincN dX11_laysFact_148 ic1 rfl rfl ?_
                        refine xq_goto dX11_laysFact_151 rfl ?_
                        have hst2 : stk T (N 0 f) (n + 1) = (N 0 f + n) :: stk T (N 0 f) n := by show _ :: _ = _; rw [show arK (tK T (N 0 f + n)) = 0 by simp [arK, hk0]]; rfl
                        have q2 := MoF.mo (B := (fun q => q = 83 ∨ q = 115 ∨ q = 117 ∨ q = 118)) (G := fun k => k = 56) ho2 (fun q h => by omega) (fun k h => h)
                        have hrs2 : RsP H2 T lf u ((N 0 f + n) :: stk T (N 0 f) n) := by
                          refine ⟨⟨(fun w => lf w && own u (tX T (N 0 f + n)) (ct lf w)), fun v hv => hg2 v (by omega), fun w hw hl => ?_⟩, hst.lo tw (fun k hk => he2 k (by omega))⟩
                          rw [← kve _ (hlr.lt hw hl)]
                          unfold kst
                          simp only [hk0]
                          rw [hl]; rfl
                        exact xq_fgt (ih0 (n + 1) H2 (by omega) (by omega) (by rw [hst2]; exact hf2) (by rw [hst2]; exact hrs2) (fun k => (ho2.1.I (by omega) k).trans (h117 k)) (ho.tr q2)) (by exact And.intro rfl (And.intro rfl (And.intro rfl (trivial))))
                      · skip
                        refine xq_aload_n dX11_laysFact_121 rfl rfl ?_
                        refine xq_getF clX11 (by decide) rfl fl_RX11_119 dX11_laysFact_122 (Fx.s83 hF) (Fx.r83_55 hF) ?_
                        refine xq_aload_n dX11_laysFact_125 rfl rfl ?_
                        refine xq_callV0P clX11 gd_X11_top dX11_laysFact_126 ml_RX11_374 im_X11_top se_X11_top rfl (Fx.s83 hF) (by exact Nat.le_of_ble_eq_true rfl) (by decide) (m_top hF hf2 (by omega)) ?_
                        refine xq_iload dX11_laysFact_129 rfl ?_
                        refine xq_iaddN dX11_laysFact_131 ?_
                        refine xq_aload_n dX11_laysFact_132 rfl rfl ?_
                        refine xq_iload_n dX11_laysFact_133 rfl rfl ?_
                        refine xq_iload dX11_laysFact_134 rfl ?_
                        refine xq_iload dX11_laysFact_136 rfl ?_
                        refine xq_callV3P clX11 gd_X11_leafIn dX11_laysFact_138 ml_RX11_393 im_X11_leafIn se_X11_leafIn rfl (Fx.s83 hF) (by exact Nat.le_of_ble_eq_true rfl) (by decide) (m_leaf4 hF (by omega) (by omega) (((ho2.1.I (by omega) _).trans (hkn1 _ (hnx.2.1 (Or.inr hk0)) w (by omega))))) ?_
                        refine xq_zastN dX11_laysFact_141 (Fx.s118 hF) (by omega) (by decide) (bI_01 _) ?_
                        refine xq_iincN dX11_laysFact_142 ic1 rfl rfl ?_
                        refine xq_goto dX11_laysFact_145 rfl ?_
                        refine ih (w + 1) _ (by omega) (by omega) (fun v hv => ?_) (fun k hk => by rw [hI_sI, if_neg (by omega)]; exact he2 k hk) (by rw [hI_sI, if_neg (by omega)]; exact hf2) (MoF.pI (A := (fun q => q = 83 ∨ q = 118)) ho2 (by omega) (by omega) _ _)
                        rw [hI_sI]
                        by_cases e : v = w
                        · subst e; rw [if_pos ⟨rfl, rfl⟩]
                        · rw [if_neg (by omega)]; exact hg2 v (by omega)
                  exact lw (nW T + 1) 0 _ (by omega) (by omega) (fun v hv => absurd hv (by omega)) (fun k _ => by rw [hI_sI, if_neg (by omega)]) (by rw [hI_sI, if_pos ⟨rfl, rfl⟩]) (MoF.pF (A := (fun q => q = 83 ∨ q = 118)) (F := fun k => k = 56) MoF.rf (Or.inl rfl) rfl _)
                · skip
                  first | exact absurd h89 (by decide) | exact absurd rfl h89
              · skip
                first | exact absurd h76 (by decide) | exact absurd rfl h76
            · skip
              first | exact absurd h53 (by decide) | exact absurd rfl h53
          · skip
            first | exact absurd h39 (by decide) | exact absurd rfl h39
        · skip
          have hS : mkS T (N 0 f + n) = 8 := by simp [mkS, hk0]
          have hV : mkV T (N 0 f + n) = 8 * tX T (N 0 f + n) + tY T (N 0 f + n) := by simp [mkV, hk0, sgn]
          have ih0 := ih
          refine xq_aload_n dX11_laysFact_22 rfl rfl ?_
          refine xq_getF clX11 (by decide) rfl fl_RX11_55 dX11_laysFact_23 (Fx.s83 hF) (Fx.r83_17 hF) ?_
          refine xq_iload_n dX11_laysFact_26 rfl rfl ?_
          refine xq_ialdN (v := nI 8) dX11_laysFact_27 (Fx.s99 hF) (by omega) (by decide) (hkk.1.trans (by rw [hS])) ?_
          refine xq_istore_n dX11_laysFact_28 rfl rfl ?_
          refine xq_aload_n dX11_laysFact_29 rfl rfl ?_
          refine xq_getF clX11 (by decide) rfl fl_RX11_58 dX11_laysFact_30 (Fx.s83 hF) (Fx.r83_18 hF) ?_
          refine xq_iload_n dX11_laysFact_33 rfl rfl ?_
          refine xq_ialdN (v := nI (8 * tX T (N 0 f + n) + tY T (N 0 f + n))) dX11_laysFact_34 (Fx.s100 hF) (by omega) (by decide) (hkk.2.trans (by rw [hV])) ?_
          refine xq_istore dX11_laysFact_35 rfl ?_
          refine xq_iload_n dX11_laysFact_37 rfl rfl ?_
          refine xq_iconst dX11_laysFact_38 ic2 ?_
          refine xq_icmp_neN dX11_laysFact_39 rfl (by omega) (by omega) ⟨fun h39 => ?_, fun h39 => ?_⟩
          · skip
            refine xq_iload_n dX11_laysFact_51 rfl rfl ?_
            refine xq_iconst dX11_laysFact_52 ic5 ?_
            refine xq_icmp_neN dX11_laysFact_53 rfl (by omega) (by omega) ⟨fun h53 => ?_, fun h53 => ?_⟩
            · skip
              refine xq_iload_n dX11_laysFact_73 rfl rfl ?_
              refine xq_bipush dX11_laysFact_74 bp6 ?_
              refine xq_icmp_neN dX11_laysFact_76 rfl (by omega) (by omega) ⟨fun h76 => ?_, fun h76 => ?_⟩
              · skip
                refine xq_iload_n dX11_laysFact_86 rfl rfl ?_
                refine xq_bipush dX11_laysFact_87 bp7 ?_
                refine xq_icmp_neN dX11_laysFact_89 rfl (by omega) (by omega) ⟨fun h89 => ?_, fun h89 => ?_⟩
                · skip
                  refine xq_aload_n dX11_laysFact_99 rfl rfl ?_
                  refine xq_dup dX11_laysFact_100 rfl ?_
                  refine xq_getIE clX11 (by decide) rfl fl_RX11_371 dX11_laysFact_101 (Fx.s83 hF) hrm ?_
                  refine xq_iconst dX11_laysFact_104 ic1 ?_
                  refine xq_iaddN dX11_laysFact_105 ?_
                  refine xq_putI clX11 (by decide) rfl fl_RX11_371 (Or.inl rfl) dX11_laysFact_106 ⟨rfl, rfl⟩ (Fx.s83 hF) ?_
                  refine xq_iconst dX11_laysFact_109 ic0 ?_
                  refine xq_istore dX11_laysFact_110 rfl ?_
                  skip
                  have lw : ∀ (fz : Nat) (w : Nat) (H2 : xH), nW T - w < fz → w ≤ nW T → (∀ v, v < w → hI H2 118 (729 * (stk T (N 0 f) n).length + v) = bI ((fun w => decide (tY T (N 0 f + n) ≤ ct (fun p => cl T w p == tX T (N 0 f + n)) (tNp T))) v)) → RoE H1 H2 (stk T (N 0 f) n).length → hI H2 83 56 = nI ((stk T (N 0 f) n).length + 1) → MoF (fun q => q = 83 ∨ q = 118) (fun k => k = 56) H1 H2 → Xq mX11_laysFact 3 0 0 112 [some (.ref 83), some (vN f), some (vN (N 0 f + n)), some (vN 8), some (vN (8 * tX T (N 0 f + n) + tY T (N 0 f + n))), some (vN w)] [] S H2 (fun R => ∃ H', (fun H' => SoP H' T lf u f ∧ (∀ k, (k < 729 * f ∨ 729 * f + 729 ≤ k) → hI H' 117 k = hI H 117 k) ∧ MoF (fun q => q = 83 ∨ q = 115 ∨ q = 117 ∨ q = 118) (fun k => k = 56) H H') H' ∧ R = (none, S, H')) := by
                    intro fz
                    induction fz with
                    | zero => intro w  H2  hfz; exact absurd hfz (by omega)
                    | succ fz ih =>
                      intro w  H2  hfz hi2 hg2 he2 hf2 ho2
                      have hs2 := hs1.off ho2 (fun q a b => by omega) (by omega) (by omega) (by omega)
                      refine xq_iload dX11_laysFact_112 rfl ?_
                      refine xq_aload_n dX11_laysFact_114 rfl rfl ?_
                      refine xq_getIE clX11 (by decide) rfl fl_RX11_335 dX11_laysFact_115 (Fx.s83 hF) ((ho2.2 36 (by omega)).trans hw1.ws) ?_
                      refine xq_icmp_geN dX11_laysFact_118 rfl (by omega) (by omega) ⟨fun h118 => ?_, fun h118 => ?_⟩
                      · skip
                        refine xq_iincN dX11_laysFact_148 ic1 rfl rfl ?_
                        refine xq_goto dX11_laysFact_151 rfl ?_
                        have hst2 : stk T (N 0 f) (n + 1) = (N 0 f + n) :: stk T (N 0 f) n := by show _ :: _ = _; rw [show arK (tK T (N 0 f + n)) = 0 by simp [arK, hk0]]; rfl
                        have q2 := MoF.mo (B := (fun q => q = 83 ∨ q = 115 ∨ q = 117 ∨ q = 118)) (G := fun k => k = 56) ho2 (fun q h => by omega) (fun k h => h)
                        have hrs2 : RsP H2 T lf u ((N 0 f + n) :: stk T (N 0 f) n) := by
                          refine ⟨⟨(fun w => decide (tY T (N 0 f + n) ≤ ct (fun p => cl T w p == tX T (N 0 f + n)) (tNp T))), fun v hv => hg2 v (by omega), fun w hw hl => ?_⟩, hst.lo tw (fun k hk => he2 k (by omega))⟩
                          rw [← kve _ (hlr.lt hw hl)]
                          unfold kst
                          simp only [hk0]
                          rw [hlr.wd hw hl, hlr.2.2.2.2]; rfl
                        exact xq_fgt (ih0 (n + 1) H2 (by omega) (by omega) (by rw [hst2]; exact hf2) (by rw [hst2]; exact hrs2) (fun k => (ho2.1.I (by omega) k).trans (h117 k)) (ho.tr q2)) (by exact And.intro rfl (And.intro rfl (And.intro rfl (trivial))))
                      · skip
                        refine xq_aload_n dX11_laysFact_121 rfl rfl ?_
                        refine xq_getF clX11 (by decide) rfl fl_RX11_119 dX11_laysFact_122 (Fx.s83 hF) (Fx.r83_55 hF) ?_
                        refine xq_aload_n dX11_laysFact_125 rfl rfl ?_
                        refine xq_callV0P clX11 gd_X11_top dX11_laysFact_126 ml_RX11_374 im_X11_top se_X11_top rfl (Fx.s83 hF) (by exact Nat.le_of_ble_eq_true rfl) (by decide) (m_top hF hf2 (by omega)) ?_
                        refine xq_iload dX11_laysFact_129 rfl ?_
                        refine xq_iaddN dX11_laysFact_131 ?_
                        refine xq_aload_n dX11_laysFact_132 rfl rfl ?_
                        refine xq_iload_n dX11_laysFact_133 rfl rfl ?_
                        refine xq_iload dX11_laysFact_134 rfl ?_
                        refine xq_iload dX11_laysFact_136 rfl ?_
                        refine xq_callV3P clX11 gd_X11_leafIn dX11_laysFact_138 ml_RX11_393 im_X11_leafIn se_X11_leafIn rfl (Fx.s83 hF) (by exact Nat.le_of_ble_eq_true rfl) (by decide) (m_leaf8 hs2 (by omega) (by omega) (by omega)) ?_
                        refine xq_zastN dX11_laysFact_141 (Fx.s118 hF) (by omega) (by decide) (bI_01 _) ?_
                        refine xq_iincN dX11_laysFact_142 ic1 rfl rfl ?_
                        refine xq_goto dX11_laysFact_145 rfl ?_
                        refine ih (w + 1) _ (by omega) (by omega) (fun v hv => ?_) (fun k hk => by rw [hI_sI, if_neg (by omega)]; exact he2 k hk) (by rw [hI_sI, if_neg (by omega)]; exact hf2) (MoF.pI (A := (fun q => q = 83 ∨ q = 118)) ho2 (by omega) (by omega) _ _)
                        rw [hI_sI]
                        by_cases e : v = w
                        · subst e; rw [if_pos ⟨rfl, rfl⟩]
                        · rw [if_neg (by omega)]; exact hg2 v (by omega)
                  exact lw (nW T + 1) 0 _ (by omega) (by omega) (fun v hv => absurd hv (by omega)) (fun k _ => by rw [hI_sI, if_neg (by omega)]) (by rw [hI_sI, if_pos ⟨rfl, rfl⟩]) (MoF.pF (A := (fun q => q = 83 ∨ q = 118)) (F := fun k => k = 56) MoF.rf (Or.inl rfl) rfl _)
                · skip
                  first | exact absurd h89 (by decide) | exact absurd rfl h89
              · skip
                first | exact absurd h76 (by decide) | exact absurd rfl h76
            · skip
              first | exact absurd h53 (by decide) | exact absurd rfl h53
          · skip
            first | exact absurd h39 (by decide) | exact absurd rfl h39
        · skip
          have hS : mkS T (N 0 f + n) = 9 := by simp [mkS, hk0]
          have hV : mkV T (N 0 f + n) = tX T (N 0 f + n) := by simp [mkV, hk0, sgn]
          obtain ⟨Ra, ra1, ra2⟩ := hso (tX T (N 0 f + n)) (hnx.1 hk0).1
          have hx8 := (hnx.1 hk0).1
          have ih0 := ih
          refine xq_aload_n dX11_laysFact_22 rfl rfl ?_
          refine xq_getF clX11 (by decide) rfl fl_RX11_55 dX11_laysFact_23 (Fx.s83 hF) (Fx.r83_17 hF) ?_
          refine xq_iload_n dX11_laysFact_26 rfl rfl ?_
          refine xq_ialdN (v := nI 9) dX11_laysFact_27 (Fx.s99 hF) (by omega) (by decide) (hkk.1.trans (by rw [hS])) ?_
          refine xq_istore_n dX11_laysFact_28 rfl rfl ?_
          refine xq_aload_n dX11_laysFact_29 rfl rfl ?_
          refine xq_getF clX11 (by decide) rfl fl_RX11_58 dX11_laysFact_30 (Fx.s83 hF) (Fx.r83_18 hF) ?_
          refine xq_iload_n dX11_laysFact_33 rfl rfl ?_
          refine xq_ialdN (v := nI (tX T (N 0 f + n))) dX11_laysFact_34 (Fx.s100 hF) (by omega) (by decide) (hkk.2.trans (by rw [hV])) ?_
          refine xq_istore dX11_laysFact_35 rfl ?_
          refine xq_iload_n dX11_laysFact_37 rfl rfl ?_
          refine xq_iconst dX11_laysFact_38 ic2 ?_
          refine xq_icmp_neN dX11_laysFact_39 rfl (by omega) (by omega) ⟨fun h39 => ?_, fun h39 => ?_⟩
          · skip
            refine xq_iload_n dX11_laysFact_51 rfl rfl ?_
            refine xq_iconst dX11_laysFact_52 ic5 ?_
            refine xq_icmp_neN dX11_laysFact_53 rfl (by omega) (by omega) ⟨fun h53 => ?_, fun h53 => ?_⟩
            · skip
              refine xq_iload_n dX11_laysFact_73 rfl rfl ?_
              refine xq_bipush dX11_laysFact_74 bp6 ?_
              refine xq_icmp_neN dX11_laysFact_76 rfl (by omega) (by omega) ⟨fun h76 => ?_, fun h76 => ?_⟩
              · skip
                refine xq_iload_n dX11_laysFact_86 rfl rfl ?_
                refine xq_bipush dX11_laysFact_87 bp7 ?_
                refine xq_icmp_neN dX11_laysFact_89 rfl (by omega) (by omega) ⟨fun h89 => ?_, fun h89 => ?_⟩
                · skip
                  refine xq_aload_n dX11_laysFact_99 rfl rfl ?_
                  refine xq_dup dX11_laysFact_100 rfl ?_
                  refine xq_getIE clX11 (by decide) rfl fl_RX11_371 dX11_laysFact_101 (Fx.s83 hF) hrm ?_
                  refine xq_iconst dX11_laysFact_104 ic1 ?_
                  refine xq_iaddN dX11_laysFact_105 ?_
                  refine xq_putI clX11 (by decide) rfl fl_RX11_371 (Or.inl rfl) dX11_laysFact_106 ⟨rfl, rfl⟩ (Fx.s83 hF) ?_
                  refine xq_iconst dX11_laysFact_109 ic0 ?_
                  refine xq_istore dX11_laysFact_110 rfl ?_
                  skip
                  have lw : ∀ (fz : Nat) (w : Nat) (H2 : xH), nW T - w < fz → w ≤ nW T → (∀ v, v < w → hI H2 118 (729 * (stk T (N 0 f) n).length + v) = bI (Ra v)) → RoE H1 H2 (stk T (N 0 f) n).length → hI H2 83 56 = nI ((stk T (N 0 f) n).length + 1) → MoF (fun q => q = 83 ∨ q = 118) (fun k => k = 56) H1 H2 → Xq mX11_laysFact 3 0 0 112 [some (.ref 83), some (vN f), some (vN (N 0 f + n)), some (vN 9), some (vN (tX T (N 0 f + n))), some (vN w)] [] S H2 (fun R => ∃ H', (fun H' => SoP H' T lf u f ∧ (∀ k, (k < 729 * f ∨ 729 * f + 729 ≤ k) → hI H' 117 k = hI H 117 k) ∧ MoF (fun q => q = 83 ∨ q = 115 ∨ q = 117 ∨ q = 118) (fun k => k = 56) H H') H' ∧ R = (none, S, H')) := by
                    intro fz
                    induction fz with
                    | zero => intro w  H2  hfz; exact absurd hfz (by omega)
                    | succ fz ih =>
                      intro w  H2  hfz hi2 hg2 he2 hf2 ho2
                      have hs2 := hs1.off ho2 (fun q a b => by omega) (by omega) (by omega) (by omega)
                      refine xq_iload dX11_laysFact_112 rfl ?_
                      refine xq_aload_n dX11_laysFact_114 rfl rfl ?_
                      refine xq_getIE clX11 (by decide) rfl fl_RX11_335 dX11_laysFact_115 (Fx.s83 hF) ((ho2.2 36 (by omega)).trans hw1.ws) ?_
                      refine xq_icmp_geN dX11_laysFact_118 rfl (by omega) (by omega) ⟨fun h118 => ?_, fun h118 => ?_⟩
                      · skip
                        refine xq_iincN dX11_laysFact_148 ic1 rfl rfl ?_
                        refine xq_goto dX11_laysFact_151 rfl ?_
                        have hst2 : stk T (N 0 f) (n + 1) = (N 0 f + n) :: stk T (N 0 f) n := by show _ :: _ = _; rw [show arK (tK T (N 0 f + n)) = 0 by simp [arK, hk0]]; rfl
                        have q2 := MoF.mo (B := (fun q => q = 83 ∨ q = 115 ∨ q = 117 ∨ q = 118)) (G := fun k => k = 56) ho2 (fun q h => by omega) (fun k h => h)
                        have hrs2 : RsP H2 T lf u ((N 0 f + n) :: stk T (N 0 f) n) := by
                          refine ⟨⟨Ra, fun v hv => hg2 v (by omega), fun w hw hl => ?_⟩, hst.lo tw (fun k hk => he2 k (by omega))⟩
                          rw [← kve _ (hlr.lt hw hl)]
                          unfold kst
                          simp only [hk0]
                          rw [ra2 w hw hl, (hnx.1 hk0).2]; rfl
                        exact xq_fgt (ih0 (n + 1) H2 (by omega) (by omega) (by rw [hst2]; exact hf2) (by rw [hst2]; exact hrs2) (fun k => (ho2.1.I (by omega) k).trans (h117 k)) (ho.tr q2)) (by exact And.intro rfl (And.intro rfl (And.intro rfl (trivial))))
                      · skip
                        refine xq_aload_n dX11_laysFact_121 rfl rfl ?_
                        refine xq_getF clX11 (by decide) rfl fl_RX11_119 dX11_laysFact_122 (Fx.s83 hF) (Fx.r83_55 hF) ?_
                        refine xq_aload_n dX11_laysFact_125 rfl rfl ?_
                        refine xq_callV0P clX11 gd_X11_top dX11_laysFact_126 ml_RX11_374 im_X11_top se_X11_top rfl (Fx.s83 hF) (by exact Nat.le_of_ble_eq_true rfl) (by decide) (m_top hF hf2 (by omega)) ?_
                        refine xq_iload dX11_laysFact_129 rfl ?_
                        refine xq_iaddN dX11_laysFact_131 ?_
                        refine xq_aload_n dX11_laysFact_132 rfl rfl ?_
                        refine xq_iload_n dX11_laysFact_133 rfl rfl ?_
                        refine xq_iload dX11_laysFact_134 rfl ?_
                        refine xq_iload dX11_laysFact_136 rfl ?_
                        refine xq_callV3P clX11 gd_X11_leafIn dX11_laysFact_138 ml_RX11_393 im_X11_leafIn se_X11_leafIn rfl (Fx.s83 hF) (by exact Nat.le_of_ble_eq_true rfl) (by decide) (m_leaf9 hF (by omega) (by omega) (((ho2.1.I (by omega) _).trans ((h117 _).trans (ra1 w (by omega)))))) ?_
                        refine xq_zastN dX11_laysFact_141 (Fx.s118 hF) (by omega) (by decide) (bI_01 _) ?_
                        refine xq_iincN dX11_laysFact_142 ic1 rfl rfl ?_
                        refine xq_goto dX11_laysFact_145 rfl ?_
                        refine ih (w + 1) _ (by omega) (by omega) (fun v hv => ?_) (fun k hk => by rw [hI_sI, if_neg (by omega)]; exact he2 k hk) (by rw [hI_sI, if_neg (by omega)]; exact hf2) (MoF.pI (A := (fun q => q = 83 ∨ q = 118)) ho2 (by omega) (by omega) _ _)
                        rw [hI_sI]
                        by_cases e : v = w
                        · subst e; rw [if_pos ⟨rfl, rfl⟩]
                        · rw [if_neg (by omega)]; exact hg2 v (by omega)
                  exact lw (nW T + 1) 0 _ (by omega) (by omega) (fun v hv => absurd hv (by omega)) (fun k _ => by rw [hI_sI, if_neg (by omega)]) (by rw [hI_sI, if_pos ⟨rfl, rfl⟩]) (MoF.pF (A := (fun q => q = 83 ∨ q = 118)) (F := fun k => k = 56) MoF.rf (Or.inl rfl) rfl _)
                · skip
                  first | exact absurd h89 (by decide) | exact absurd rfl h89
              · skip
                first | exact absurd h76 (by decide) | exact absurd rfl h76
            · skip
              first | exact absurd h53 (by decide) | exact absurd rfl h53
          · skip
            first | exact absurd h39 (by decide) | exact absurd rfl h39
        · skip
          have hS : mkS T (N 0 f + n) = 2 := by simp [mkS, hk0]
          have hV : mkV T (N 0 f + n) = 261 := by simp [mkV, hk0, sgn]
          obtain ⟨r, hr0⟩ := ar2 (by simp [arK, hk0])
          have hst0 := hst
          rw [hr0] at hst0
          obtain ⟨⟨R2, hR2, hRv2⟩, ⟨Rw, hR, hRv⟩, hrs⟩ := hst0
          have hrm2 := hrm
          rw [hr0, List.length_cons, List.length_cons] at hrm2
          have hlen := hn64
          rw [hr0, List.length_cons, List.length_cons] at hlen
          refine xq_aload_n dX11_laysFact_22 rfl rfl ?_
          refine xq_getF clX11 (by decide) rfl fl_RX11_55 dX11_laysFact_23 (Fx.s83 hF) (Fx.r83_17 hF) ?_
          refine xq_iload_n dX11_laysFact_26 rfl rfl ?_
          refine xq_ialdN (v := nI 2) dX11_laysFact_27 (Fx.s99 hF) (by omega) (by decide) (hkk.1.trans (by rw [hS])) ?_
          refine xq_istore_n dX11_laysFact_28 rfl rfl ?_
          refine xq_aload_n dX11_laysFact_29 rfl rfl ?_
          refine xq_getF clX11 (by decide) rfl fl_RX11_58 dX11_laysFact_30 (Fx.s83 hF) (Fx.r83_18 hF) ?_
          refine xq_iload_n dX11_laysFact_33 rfl rfl ?_
          refine xq_ialdN (v := nI (261)) dX11_laysFact_34 (Fx.s100 hF) (by omega) (by decide) (hkk.2.trans (by rw [hV])) ?_
          refine xq_istore dX11_laysFact_35 rfl ?_
          refine xq_iload_n dX11_laysFact_37 rfl rfl ?_
          refine xq_iconst dX11_laysFact_38 ic2 ?_
          refine xq_icmp_neN dX11_laysFact_39 rfl (by omega) (by omega) ⟨fun h39 => ?_, fun h39 => ?_⟩
          · skip
            first | exact absurd h39 (by decide) | exact absurd rfl h39
          · skip
            refine xq_aload_n dX11_laysFact_42 rfl rfl ?_
            refine xq_iload dX11_laysFact_43 rfl ?_
            refine xq_callV1N clX11 gd_X11_joins dX11_laysFact_45 ml_RX11_384 im_X11_joins se_X11_joins rfl (Fx.s83 hF) (by exact Nat.le_of_ble_eq_true rfl) (by decide) (m_joinAnd hs1 hrm2 (by omega) hR hR2) ?_
            intro H45 p45
            obtain ⟨r45, e45, f45, o45⟩ := p45
            have q45 := MoF.mo (B := (fun q => q = 83 ∨ q = 115 ∨ q = 117 ∨ q = 118)) (G := fun k => k = 56) o45 (fun q h => by omega) (fun k h => h)
            refine xq_goto dX11_laysFact_48 rfl ?_
            refine xq_iincN dX11_laysFact_148 ic1 rfl rfl ?_
            refine xq_goto dX11_laysFact_151 rfl ?_
            have hst2 : stk T (N 0 f) (n + 1) = (N 0 f + n) :: r := by show _ :: _ = _; rw [hr0, show arK (tK T (N 0 f + n)) = 2 by simp [arK, hk0]]; rfl
            have hrs2 : RsP H45 T lf u ((N 0 f + n) :: r) := by
              refine ⟨⟨_, r45, fun w hw hl => ?_⟩, hrs.lo tw (fun k hk => e45 k (by omega))⟩
              rw [← kve _ (hlr.lt hw hl)]
              show (Rw w && R2 w) = _
              unfold kst
              simp only [hk0]
              rw [hRv w hw hl, hRv2 w hw hl]; rfl
            exact xq_fgt (ih (n + 1) H45 (by omega) (by omega) (by rw [hst2]; exact f45) (by rw [hst2]; exact hrs2) (fun k => (o45.1.I (by omega) k).trans (h117 k)) (ho.tr q45)) (by exact And.intro rfl (And.intro rfl (And.intro rfl (trivial))))
        · skip
          have hS : mkS T (N 0 f + n) = 2 := by simp [mkS, hk0]
          have hV : mkV T (N 0 f + n) = 262 := by simp [mkV, hk0, sgn]
          obtain ⟨r, hr0⟩ := ar2 (by simp [arK, hk0])
          have hst0 := hst
          rw [hr0] at hst0
          obtain ⟨⟨R2, hR2, hRv2⟩, ⟨Rw, hR, hRv⟩, hrs⟩ := hst0
          have hrm2 := hrm
          rw [hr0, List.length_cons, List.length_cons] at hrm2
          have hlen := hn64
          rw [hr0, List.length_cons, List.length_cons] at hlen
          refine xq_aload_n dX11_laysFact_22 rfl rfl ?_
          refine xq_getF clX11 (by decide) rfl fl_RX11_55 dX11_laysFact_23 (Fx.s83 hF) (Fx.r83_17 hF) ?_
          refine xq_iload_n dX11_laysFact_26 rfl rfl ?_
          refine xq_ialdN (v := nI 2) dX11_laysFact_27 (Fx.s99 hF) (by omega) (by decide) (hkk.1.trans (by rw [hS])) ?_
          refine xq_istore_n dX11_laysFact_28 rfl rfl ?_
          refine xq_aload_n dX11_laysFact_29 rfl rfl ?_
          refine xq_getF clX11 (by decide) rfl fl_RX11_58 dX11_laysFact_30 (Fx.s83 hF) (Fx.r83_18 hF) ?_
          refine xq_iload_n dX11_laysFact_33 rfl rfl ?_
          refine xq_ialdN (v := nI (262)) dX11_laysFact_34 (Fx.s100 hF) (by omega) (by decide) (hkk.2.trans (by rw [hV])) ?_
          refine xq_istore dX11_laysFact_35 rfl ?_
          refine xq_iload_n dX11_laysFact_37 rfl rfl ?_
          refine xq_iconst dX11_laysFact_38 ic2 ?_
          refine xq_icmp_neN dX11_laysFact_39 rfl (by omega) (by omega) ⟨fun h39 => ?_, fun h39 => ?_⟩
          · skip
            first | exact absurd h39 (by decide) | exact absurd rfl h39
          · skip
            refine xq_aload_n dX11_laysFact_42 rfl rfl ?_
            refine xq_iload dX11_laysFact_43 rfl ?_
            refine xq_callV1N clX11 gd_X11_joins dX11_laysFact_45 ml_RX11_384 im_X11_joins se_X11_joins rfl (Fx.s83 hF) (by exact Nat.le_of_ble_eq_true rfl) (by decide) (m_joinOr hs1 hrm2 (by omega) hR hR2) ?_
            intro H45 p45
            obtain ⟨r45, e45, f45, o45⟩ := p45
            have q45 := MoF.mo (B := (fun q => q = 83 ∨ q = 115 ∨ q = 117 ∨ q = 118)) (G := fun k => k = 56) o45 (fun q h => by omega) (fun k h => h)
            refine xq_goto dX11_laysFact_48 rfl ?_
            refine xq_iincN dX11_laysFact_148 ic1 rfl rfl ?_
            refine xq_goto dX11_laysFact_151 rfl ?_
            have hst2 : stk T (N 0 f) (n + 1) = (N 0 f + n) :: r := by show _ :: _ = _; rw [hr0, show arK (tK T (N 0 f + n)) = 2 by simp [arK, hk0]]; rfl
            have hrs2 : RsP H45 T lf u ((N 0 f + n) :: r) := by
              refine ⟨⟨_, r45, fun w hw hl => ?_⟩, hrs.lo tw (fun k hk => e45 k (by omega))⟩
              rw [← kve _ (hlr.lt hw hl)]
              show (Rw w || R2 w) = _
              unfold kst
              simp only [hk0]
              rw [hRv w hw hl, hRv2 w hw hl]; rfl
            exact xq_fgt (ih (n + 1) H45 (by omega) (by omega) (by rw [hst2]; exact f45) (by rw [hst2]; exact hrs2) (fun k => (o45.1.I (by omega) k).trans (h117 k)) (ho.tr q45)) (by exact And.intro rfl (And.intro rfl (And.intro rfl (trivial))))
        · skip
          have hS : mkS T (N 0 f + n) = 2 := by simp [mkS, hk0]
          have hV : mkV T (N 0 f + n) = 260 := by simp [mkV, hk0, sgn]
          obtain ⟨r, hr0⟩ := ar1 (by simp [arK, hk0])
          have hst0 := hst
          rw [hr0] at hst0
          obtain ⟨⟨Rw, hR, hRv⟩, hrs⟩ := hst0
          have hrm2 := hrm
          rw [hr0, List.length_cons] at hrm2
          have hlen := hn64
          rw [hr0, List.length_cons] at hlen
          refine xq_aload_n dX11_laysFact_22 rfl rfl ?_
          refine xq_getF clX11 (by decide) rfl fl_RX11_55 dX11_laysFact_23 (Fx.s83 hF) (Fx.r83_17 hF) ?_
          refine xq_iload_n dX11_laysFact_26 rfl rfl ?_
          refine xq_ialdN (v := nI 2) dX11_laysFact_27 (Fx.s99 hF) (by omega) (by decide) (hkk.1.trans (by rw [hS])) ?_
          refine xq_istore_n dX11_laysFact_28 rfl rfl ?_
          refine xq_aload_n dX11_laysFact_29 rfl rfl ?_
          refine xq_getF clX11 (by decide) rfl fl_RX11_58 dX11_laysFact_30 (Fx.s83 hF) (Fx.r83_18 hF) ?_
          refine xq_iload_n dX11_laysFact_33 rfl rfl ?_
          refine xq_ialdN (v := nI (260)) dX11_laysFact_34 (Fx.s100 hF) (by omega) (by decide) (hkk.2.trans (by rw [hV])) ?_
          refine xq_istore dX11_laysFact_35 rfl ?_
          refine xq_iload_n dX11_laysFact_37 rfl rfl ?_
          refine xq_iconst dX11_laysFact_38 ic2 ?_
          refine xq_icmp_neN dX11_laysFact_39 rfl (by omega) (by omega) ⟨fun h39 => ?_, fun h39 => ?_⟩
          · skip
            first | exact absurd h39 (by decide) | exact absurd rfl h39
          · skip
            refine xq_aload_n dX11_laysFact_42 rfl rfl ?_
            refine xq_iload dX11_laysFact_43 rfl ?_
            refine xq_callV1N clX11 gd_X11_joins dX11_laysFact_45 ml_RX11_384 im_X11_joins se_X11_joins rfl (Fx.s83 hF) (by exact Nat.le_of_ble_eq_true rfl) (by decide) (m_joinN hs1 hrm2 (by omega) hR) ?_
            intro H45 p45
            obtain ⟨r45, e45, o45⟩ := p45
            have q45 := (MoF.mo (B := (fun q => q = 83 ∨ q = 115 ∨ q = 117 ∨ q = 118)) (G := fun k => k = 56) (MoF.of (F := fun k => k = 56) o45 (by omega)) (fun q h => by omega) (fun k h => h))
            refine xq_goto dX11_laysFact_48 rfl ?_
            refine xq_iincN dX11_laysFact_148 ic1 rfl rfl ?_
            refine xq_goto dX11_laysFact_151 rfl ?_
            have hst2 : stk T (N 0 f) (n + 1) = (N 0 f + n) :: r := by show _ :: _ = _; rw [hr0, show arK (tK T (N 0 f + n)) = 1 by simp [arK, hk0]]; rfl
            have hrs2 : RsP H45 T lf u ((N 0 f + n) :: r) := by
              refine ⟨⟨_, r45, fun w hw hl => ?_⟩, hrs.lo tw (fun k hk => e45 k (by omega))⟩
              rw [← kve _ (hlr.lt hw hl)]
              show (!(Rw w)) = _
              unfold kst
              simp only [hk0]
              rw [hRv w hw hl]; rfl
            exact xq_fgt (ih (n + 1) H45 (by omega) (by omega) (by rw [hst2]; exact ((o45.I (by omega) 56).trans hrm2)) (by rw [hst2]; exact hrs2) (fun k => (o45.I (by omega) k).trans (h117 k)) (ho.tr q45)) (by exact And.intro rfl (And.intro rfl (And.intro rfl (trivial))))
        · skip
          have hS : mkS T (N 0 f + n) = 5 := by simp [mkS, hk0]
          have hV : mkV T (N 0 f + n) = tY T (N 0 f + n) := by simp [mkV, hk0, sgn]
          obtain ⟨r, hr0⟩ := ar1 (by simp [arK, hk0])
          have hst0 := hst
          rw [hr0] at hst0
          obtain ⟨⟨Rw, hR, hRv⟩, hrs⟩ := hst0
          have hrm2 := hrm
          rw [hr0, List.length_cons] at hrm2
          have hlen := hn64
          rw [hr0, List.length_cons] at hlen
          refine xq_aload_n dX11_laysFact_22 rfl rfl ?_
          refine xq_getF clX11 (by decide) rfl fl_RX11_55 dX11_laysFact_23 (Fx.s83 hF) (Fx.r83_17 hF) ?_
          refine xq_iload_n dX11_laysFact_26 rfl rfl ?_
          refine xq_ialdN (v := nI 5) dX11_laysFact_27 (Fx.s99 hF) (by omega) (by decide) (hkk.1.trans (by rw [hS])) ?_
          refine xq_istore_n dX11_laysFact_28 rfl rfl ?_
          refine xq_aload_n dX11_laysFact_29 rfl rfl ?_
          refine xq_getF clX11 (by decide) rfl fl_RX11_58 dX11_laysFact_30 (Fx.s83 hF) (Fx.r83_18 hF) ?_
          refine xq_iload_n dX11_laysFact_33 rfl rfl ?_
          refine xq_ialdN (v := nI (tY T (N 0 f + n))) dX11_laysFact_34 (Fx.s100 hF) (by omega) (by decide) (hkk.2.trans (by rw [hV])) ?_
          refine xq_istore dX11_laysFact_35 rfl ?_
          refine xq_iload_n dX11_laysFact_37 rfl rfl ?_
          refine xq_iconst dX11_laysFact_38 ic2 ?_
          refine xq_icmp_neN dX11_laysFact_39 rfl (by omega) (by omega) ⟨fun h39 => ?_, fun h39 => ?_⟩
          · skip
            refine xq_iload_n dX11_laysFact_51 rfl rfl ?_
            refine xq_iconst dX11_laysFact_52 ic5 ?_
            refine xq_icmp_neN dX11_laysFact_53 rfl (by omega) (by omega) ⟨fun h53 => ?_, fun h53 => ?_⟩
            · skip
              first | exact absurd h53 (by decide) | exact absurd rfl h53
            · skip
              refine xq_aload_n dX11_laysFact_56 rfl rfl ?_
              refine xq_iload dX11_laysFact_57 rfl ?_
              refine xq_aload_n dX11_laysFact_59 rfl rfl ?_
              refine xq_callV0P clX11 gd_X11_top dX11_laysFact_60 ml_RX11_374 im_X11_top se_X11_top rfl (Fx.s83 hF) (by exact Nat.le_of_ble_eq_true rfl) (by decide) (m_top hF hrm2 (by omega)) ?_
              refine xq_aload_n dX11_laysFact_63 rfl rfl ?_
              refine xq_callV0P clX11 gd_X11_top dX11_laysFact_64 ml_RX11_374 im_X11_top se_X11_top rfl (Fx.s83 hF) (by exact Nat.le_of_ble_eq_true rfl) (by decide) (m_top hF hrm2 (by omega)) ?_
              refine xq_callV3N clX11 gd_X11_knownTo dX11_laysFact_67 ml_RX11_380 im_X11_knownTo se_X11_knownTo rfl (Fx.s83 hF) (by exact Nat.le_of_ble_eq_true rfl) (by decide) (m_knownTo hs1 hr1 hlr ok h23 hro1 hsi1 (hnx.2.2 hk0) (by omega) (by omega) hR hR) ?_
              intro H67 p67
              obtain ⟨r45, e45, o45⟩ := p67
              have q45 := (MoF.mo (B := (fun q => q = 83 ∨ q = 115 ∨ q = 117 ∨ q = 118)) (G := fun k => k = 56) (MoF.of (F := fun k => k = 56) o45 (by omega)) (fun q h => by omega) (fun k h => h))
              refine xq_goto dX11_laysFact_70 rfl ?_
              refine xq_iincN dX11_laysFact_148 ic1 rfl rfl ?_
              refine xq_goto dX11_laysFact_151 rfl ?_
              have hst2 : stk T (N 0 f) (n + 1) = (N 0 f + n) :: r := by show _ :: _ = _; rw [hr0, show arK (tK T (N 0 f + n)) = 1 by simp [arK, hk0]]; rfl
              have hrs2 : RsP H67 T lf u ((N 0 f + n) :: r) := by
                refine ⟨⟨_, r45, fun w hw hl => ?_⟩, hrs.lo tw (fun k hk => e45 k (by omega))⟩
                rw [← kve _ (hlr.lt hw hl)]
                show (Rw w && _) = _
                have hyp := hnx.2.2 hk0
                rw [kb_rank hlr tw (ok.se (by omega)) hRv hw hl]
                unfold kst
                simp only [hk0]
                rw [hRv w hw hl]
                cases hkv : kv T u (tX T (N 0 f + n)) (ct lf w)
                · have : ex (fun q => ky u (tY T (N 0 f + n)) q == ky u (tY T (N 0 f + n)) (ct lf w) && !(kv T u (tX T (N 0 f + n)) q)) (uZ u) = true := ex_iff.mpr ⟨_, hlr.lt hw hl, by simp [hkv]⟩
                  rw [this]; rfl
                · rfl
              exact xq_fgt (ih (n + 1) H67 (by omega) (by omega) (by rw [hst2]; exact ((o45.I (by omega) 56).trans hrm2)) (by rw [hst2]; exact hrs2) (fun k => (o45.I (by omega) k).trans (h117 k)) (ho.tr q45)) (by exact And.intro rfl (And.intro rfl (And.intro rfl (trivial))))
          · skip
            first | exact absurd h39 (by decide) | exact absurd rfl h39
        · skip
          have hS : mkS T (N 0 f + n) = 6 := by simp [mkS, hk0]
          have hV : mkV T (N 0 f + n) = 0 := by simp [mkV, hk0, sgn]
          obtain ⟨r, hr0⟩ := ar1 (by simp [arK, hk0])
          have hst0 := hst
          rw [hr0] at hst0
          obtain ⟨⟨Rw, hR, hRv⟩, hrs⟩ := hst0
          have hrm2 := hrm
          rw [hr0, List.length_cons] at hrm2
          have hlen := hn64
          rw [hr0, List.length_cons] at hlen
          refine xq_aload_n dX11_laysFact_22 rfl rfl ?_
          refine xq_getF clX11 (by decide) rfl fl_RX11_55 dX11_laysFact_23 (Fx.s83 hF) (Fx.r83_17 hF) ?_
          refine xq_iload_n dX11_laysFact_26 rfl rfl ?_
          refine xq_ialdN (v := nI 6) dX11_laysFact_27 (Fx.s99 hF) (by omega) (by decide) (hkk.1.trans (by rw [hS])) ?_
          refine xq_istore_n dX11_laysFact_28 rfl rfl ?_
          refine xq_aload_n dX11_laysFact_29 rfl rfl ?_
          refine xq_getF clX11 (by decide) rfl fl_RX11_58 dX11_laysFact_30 (Fx.s83 hF) (Fx.r83_18 hF) ?_
          refine xq_iload_n dX11_laysFact_33 rfl rfl ?_
          refine xq_ialdN (v := nI (0)) dX11_laysFact_34 (Fx.s100 hF) (by omega) (by decide) (hkk.2.trans (by rw [hV])) ?_
          refine xq_istore dX11_laysFact_35 rfl ?_
          refine xq_iload_n dX11_laysFact_37 rfl rfl ?_
          refine xq_iconst dX11_laysFact_38 ic2 ?_
          refine xq_icmp_neN dX11_laysFact_39 rfl (by omega) (by omega) ⟨fun h39 => ?_, fun h39 => ?_⟩
          · skip
            refine xq_iload_n dX11_laysFact_51 rfl rfl ?_
            refine xq_iconst dX11_laysFact_52 ic5 ?_
            refine xq_icmp_neN dX11_laysFact_53 rfl (by omega) (by omega) ⟨fun h53 => ?_, fun h53 => ?_⟩
            · skip
              refine xq_iload_n dX11_laysFact_73 rfl rfl ?_
              refine xq_bipush dX11_laysFact_74 bp6 ?_
              refine xq_icmp_neN dX11_laysFact_76 rfl (by omega) (by omega) ⟨fun h76 => ?_, fun h76 => ?_⟩
              · skip
                first | exact absurd h76 (by decide) | exact absurd rfl h76
              · skip
                refine xq_aload_n dX11_laysFact_79 rfl rfl ?_
                refine xq_callV0N clX11 gd_X11_knownByAll dX11_laysFact_80 ml_RX11_387 im_X11_knownByAll se_X11_knownByAll rfl (Fx.s83 hF) (by exact Nat.le_of_ble_eq_true rfl) (by decide) (m_knownByAll hs1 hr1 hlr ok h23 hro1 hsi1 hrm2 (by omega) hR) ?_
                intro H80 p80
                obtain ⟨r45, e45, o45⟩ := p80
                have q45 := (MoF.mo (B := (fun q => q = 83 ∨ q = 115 ∨ q = 117 ∨ q = 118)) (G := fun k => k = 56) (MoF.of (F := fun k => k = 56) o45 (by omega)) (fun q h => by omega) (fun k h => h))
                refine xq_goto dX11_laysFact_83 rfl ?_
                refine xq_iincN dX11_laysFact_148 ic1 rfl rfl ?_
                refine xq_goto dX11_laysFact_151 rfl ?_
                have hst2 : stk T (N 0 f) (n + 1) = (N 0 f + n) :: r := by show _ :: _ = _; rw [hr0, show arK (tK T (N 0 f + n)) = 1 by simp [arK, hk0]]; rfl
                have hrs2 : RsP H80 T lf u ((N 0 f + n) :: r) := by
                  refine ⟨⟨_, r45, fun w hw hl => ?_⟩, hrs.lo tw (fun k hk => e45 k (by omega))⟩
                  rw [← kve _ (hlr.lt hw hl)]
                  show (!(ex _ _)) = _
                  unfold kst
                  simp only [hk0]
                  rw [hlr.2.2.2.2]
                  congr 1
                  exact ex_cong (fun p hp => kb_rank hlr tw (ok.se (by omega)) hRv hw hl)
                exact xq_fgt (ih (n + 1) H80 (by omega) (by omega) (by rw [hst2]; exact ((o45.I (by omega) 56).trans hrm2)) (by rw [hst2]; exact hrs2) (fun k => (o45.I (by omega) k).trans (h117 k)) (ho.tr q45)) (by exact And.intro rfl (And.intro rfl (And.intro rfl (trivial))))
            · skip
              first | exact absurd h53 (by decide) | exact absurd rfl h53
          · skip
            first | exact absurd h39 (by decide) | exact absurd rfl h39
        · skip
          have hS : mkS T (N 0 f + n) = 7 := by simp [mkS, hk0]
          have hV : mkV T (N 0 f + n) = 0 := by simp [mkV, hk0, sgn]
          obtain ⟨r, hr0⟩ := ar1 (by simp [arK, hk0])
          have hst0 := hst
          rw [hr0] at hst0
          obtain ⟨⟨Rw, hR, hRv⟩, hrs⟩ := hst0
          have hrm2 := hrm
          rw [hr0, List.length_cons] at hrm2
          have hlen := hn64
          rw [hr0, List.length_cons] at hlen
          refine xq_aload_n dX11_laysFact_22 rfl rfl ?_
          refine xq_getF clX11 (by decide) rfl fl_RX11_55 dX11_laysFact_23 (Fx.s83 hF) (Fx.r83_17 hF) ?_
          refine xq_iload_n dX11_laysFact_26 rfl rfl ?_
          refine xq_ialdN (v := nI 7) dX11_laysFact_27 (Fx.s99 hF) (by omega) (by decide) (hkk.1.trans (by rw [hS])) ?_
          refine xq_istore_n dX11_laysFact_28 rfl rfl ?_
          refine xq_aload_n dX11_laysFact_29 rfl rfl ?_
          refine xq_getF clX11 (by decide) rfl fl_RX11_58 dX11_laysFact_30 (Fx.s83 hF) (Fx.r83_18 hF) ?_
          refine xq_iload_n dX11_laysFact_33 rfl rfl ?_
          refine xq_ialdN (v := nI (0)) dX11_laysFact_34 (Fx.s100 hF) (by omega) (by decide) (hkk.2.trans (by rw [hV])) ?_
          refine xq_istore dX11_laysFact_35 rfl ?_
          refine xq_iload_n dX11_laysFact_37 rfl rfl ?_
          refine xq_iconst dX11_laysFact_38 ic2 ?_
          refine xq_icmp_neN dX11_laysFact_39 rfl (by omega) (by omega) ⟨fun h39 => ?_, fun h39 => ?_⟩
          · skip
            refine xq_iload_n dX11_laysFact_51 rfl rfl ?_
            refine xq_iconst dX11_laysFact_52 ic5 ?_
            refine xq_icmp_neN dX11_laysFact_53 rfl (by omega) (by omega) ⟨fun h53 => ?_, fun h53 => ?_⟩
            · skip
              refine xq_iload_n dX11_laysFact_73 rfl rfl ?_
              refine xq_bipush dX11_laysFact_74 bp6 ?_
              refine xq_icmp_neN dX11_laysFact_76 rfl (by omega) (by omega) ⟨fun h76 => ?_, fun h76 => ?_⟩
              · skip
                refine xq_iload_n dX11_laysFact_86 rfl rfl ?_
                refine xq_bipush dX11_laysFact_87 bp7 ?_
                refine xq_icmp_neN dX11_laysFact_89 rfl (by omega) (by omega) ⟨fun h89 => ?_, fun h89 => ?_⟩
                · skip
                  first | exact absurd h89 (by decide) | exact absurd rfl h89
                · skip
                  refine xq_aload_n dX11_laysFact_92 rfl rfl ?_
                  refine xq_callV0N clX11 gd_X11_knownTogether dX11_laysFact_93 ml_RX11_390 im_X11_knownTogether se_X11_knownTogether rfl (Fx.s83 hF) (by exact Nat.le_of_ble_eq_true rfl) (by decide) (m_knownTogether hs1 hr1 hlr ok h23 hro1 hpa1 hpf hrm2 (by omega) hR) ?_
                  intro H93 p93
                  obtain ⟨r45, e45, o45⟩ := p93
                  have q45 := (MoF.mo (B := (fun q => q = 83 ∨ q = 115 ∨ q = 117 ∨ q = 118)) (G := fun k => k = 56) (MoF.of (F := fun k => k = 56) o45 (by omega)) (fun q h => by omega) (fun k h => h))
                  refine xq_goto dX11_laysFact_96 rfl ?_
                  refine xq_iincN dX11_laysFact_148 ic1 rfl rfl ?_
                  refine xq_goto dX11_laysFact_151 rfl ?_
                  have hst2 : stk T (N 0 f) (n + 1) = (N 0 f + n) :: r := by show _ :: _ = _; rw [hr0, show arK (tK T (N 0 f + n)) = 1 by simp [arK, hk0]]; rfl
                  have hrs2 : RsP H93 T lf u ((N 0 f + n) :: r) := by
                    refine ⟨⟨_, r45, fun w hw hl => ?_⟩, hrs.lo tw (fun k hk => e45 k (by omega))⟩
                    rw [← kve _ (hlr.lt hw hl)]
                    show (!(ktE lf pf Rw (pf w) (nW T))) = _
                    unfold kst
                    simp only [hk0]
                    rw [kt_rank hlr hpf hRv hw hl]; rfl
                  exact xq_fgt (ih (n + 1) H93 (by omega) (by omega) (by rw [hst2]; exact ((o45.I (by omega) 56).trans hrm2)) (by rw [hst2]; exact hrs2) (fun k => (o45.I (by omega) k).trans (h117 k)) (ho.tr q45)) (by exact And.intro rfl (And.intro rfl (And.intro rfl (trivial))))
              · skip
                first | exact absurd h76 (by decide) | exact absurd rfl h76
            · skip
              first | exact absurd h53 (by decide) | exact absurd rfl h53
          · skip
            first | exact absurd h39 (by decide) | exact absurd rfl h39
  refine vq_intro (by decide) (by exact Nat.le_of_ble_eq_true rfl) rfl ?_
  refine xq_aload_n dX11_laysFact_0 rfl rfl ?_
  refine xq_iconst dX11_laysFact_1 ic0 ?_
  refine xq_putI clX11 (by decide) rfl fl_RX11_371 (Or.inl rfl) dX11_laysFact_2 ⟨rfl, rfl⟩ (Fx.s83 hF) ?_
  refine xq_aload_n dX11_laysFact_5 rfl rfl ?_
  refine xq_getF clX11 (by decide) rfl fl_RX11_34 dX11_laysFact_6 (Fx.s83 hF) (Fx.r83_10 hF) ?_
  refine xq_iload_n dX11_laysFact_9 rfl rfl ?_
  refine xq_ialdN dX11_laysFact_10 (Fx.s92 hF) (by omega) (by decide) ((hI_sI _ _ _ _ _ _).trans ((if_neg (by omega)).trans (hx.fa f hf).2.1)) ?_
  refine xq_istore_n dX11_laysFact_11 rfl rfl ?_
  exact l1 (tRo T f + 2) 0 _ (by omega) (by omega) (by rw [hI_sI, if_pos ⟨rfl, rfl⟩]; rfl) trivial (fun k => by rw [hI_sI, if_neg (by omega)]) (MoF.pF (A := (fun q => q = 83 ∨ q = 115 ∨ q = 117 ∨ q = 118)) (F := fun k => k = 56) MoF.rf (by omega) rfl _)
theorem m_lays (hs : MsP S H T N) (hr : RmP H T s lf u) (hlr : LfR T lf u) (ok : StOk u) (h23 : s < 23) : Nv mX11_lays 4 [.ref 83, vN s] S H (fun H' => LdP S H' T N lf u s ∧ MoF (fun q => q = 83 ∨ (112 ≤ q ∧ q ≤ 118)) (fun k => k = 48 ∨ k = 56) H H') := by
  have hF := hs.fx; have hx := hs.mx; have hw := hs.mw; have tk := hs.tk; have tw := hs.tw; have hnp := tw.2.1; have hnc := tw.1; have hWn := nW_le tw; have hnf8 := tk.nf
  have l2 : ∀ (pf : Nat → Nat) (hpf : PfOk T lf u pf) (hjc : JC u (cn u)) (fz : Nat) (f : Nat) (H1 : xH), tNf T - f < fz → f ≤ tNf T → hI H1 83 48 = nI s → SiP H1 T u → KnP H1 T lf u → PaH H1 T pf → (∀ g, g < f → SoP H1 T lf u g) → MoF (fun q => q = 83 ∨ (112 ≤ q ∧ q ≤ 118)) (fun k => k = 48 ∨ k = 56) H H1 → Xq mX11_lays 4 0 0 34 [some (.ref 83), some (vN s), some (vN f)] [] S H1 (fun R => ∃ H', (fun H' => LdP S H' T N lf u s ∧ MoF (fun q => q = 83 ∨ (112 ≤ q ∧ q ≤ 118)) (fun k => k = 48 ∨ k = 56) H H') H' ∧ R = (none, S, H')) := by
    intro pf hpf hjc fz
    induction fz with
    | zero => intro f  H1  hfz; exact absurd hfz (by omega)
    | succ fz ih =>
      intro f  H1  hfz hi hro hsi hkn hpa hso ho
      have hr1 := hr.off ho.1 (fun q a b => by omega); have hs1 := hs.off ho (fun q a b => by omega) (by omega) (by omega) (by omega); have hx := hs1.mx
      refine xq_iload_n dX11_lays_34 rfl rfl ?_
      refine xq_aload_n dX11_lays_35 rfl rfl ?_
      refine xq_getF clX11 (by decide) rfl fl_RX11_13 dX11_lays_36 (Fx.s83 hF) (Fx.r83_3 hF) ?_
      refine xq_iconst dX11_lays_39 ic2 ?_
      refine xq_ialdN dX11_lays_40 (Fx.s85 hF) (by omega) (by decide) hx.nf ?_
      refine xq_icmp_geN dX11_lays_41 rfl (by omega) (by omega) ⟨fun h41 => ?_, fun h41 => ?_⟩
      · skip
        refine xq_vret dX11_lays_55 rfl ?_
        exact ⟨H1, ⟨⟨hs1, hr1, hlr, ok, h23, hro, hsi, hkn, ⟨pf, hpa, hpf⟩, hjc, fun g hg => hso g (by omega)⟩, ho⟩, rfl⟩
      · skip
        refine xq_aload_n dX11_lays_44 rfl rfl ?_
        refine xq_iload_n dX11_lays_45 rfl rfl ?_
        refine xq_callV1N clX11 gd_X11_laysFact dX11_lays_46 ml_RX11_359 im_X11_laysFact se_X11_laysFact rfl (Fx.s83 hF) (by exact Nat.le_of_ble_eq_true rfl) (by decide) (m_laysFact hs1 hr1 hlr ok h23 hro hsi hkn hpa hpf h41 hso) ?_
        intro H46 p46
        obtain ⟨s46, e46, o46⟩ := p46
        refine xq_iincN dX11_lays_49 ic1 rfl rfl ?_
        refine xq_goto dX11_lays_52 rfl ?_
        refine ih (f + 1) H46 (by omega) (by omega) ((o46.2 48 (by omega)).trans hro) (fun p hp w hw => (o46.1.I (by omega) _).trans (hsi p hp w hw)) (fun p hp w hw => (o46.1.I (by omega) _).trans (hkn p hp w hw)) (fun w hw => (o46.1.I (by omega) _).trans (hpa w hw)) (fun g hg => ?_) (ho.tr (MoF.mo o46 (fun q h => by omega) (fun k h => Or.inr h)))
        by_cases e : g = f
        · subst e; exact s46
        · obtain ⟨Rw, a1, a2⟩ := hso g (by omega)
          exact ⟨Rw, fun w hw => (e46 _ (by omega)).trans (a1 w hw), a2⟩
  have l1 : ∀ (fz : Nat) (p : Nat) (H1 : xH), tNp T - p < fz → p ≤ tNp T → hI H1 83 48 = nI s → (∀ q, q < p → ∀ w, w < nW T → hI H1 112 (729 * q + w) = nI (sgt T (uSe u q) w) ∧ hI H1 113 (729 * q + w) = bI (lf w && own u q (ct lf w))) → MoF (fun q => q = 83 ∨ (112 ≤ q ∧ q ≤ 118)) (fun k => k = 48 ∨ k = 56) H H1 → Xq mX11_lays 4 0 0 7 [some (.ref 83), some (vN s), some (vN p)] [] S H1 (fun R => ∃ H', (fun H' => LdP S H' T N lf u s ∧ MoF (fun q => q = 83 ∨ (112 ≤ q ∧ q ≤ 118)) (fun k => k = 48 ∨ k = 56) H H') H' ∧ R = (none, S, H')) := by
    intro fz
    induction fz with
    | zero => intro p  H1  hfz; exact absurd hfz (by omega)
    | succ fz ih =>
      intro p  H1  hfz hi hro hsi ho
      have hr1 := hr.off ho.1 (fun q a b => by omega); have hs1 := hs.off ho (fun q a b => by omega) (by omega) (by omega) (by omega); have hx := hs1.mx
      refine xq_iload_n dX11_lays_7 rfl rfl ?_
      refine xq_aload_n dX11_lays_8 rfl rfl ?_
      refine xq_getF clX11 (by decide) rfl fl_RX11_13 dX11_lays_9 (Fx.s83 hF) (Fx.r83_3 hF) ?_
      refine xq_iconst dX11_lays_12 ic1 ?_
      refine xq_ialdN dX11_lays_13 (Fx.s85 hF) (by omega) (by decide) hx.np ?_
      refine xq_icmp_geN dX11_lays_14 rfl (by omega) (by omega) ⟨fun h14 => ?_, fun h14 => ?_⟩
      · skip
        refine xq_aload_n dX11_lays_28 rfl rfl ?_
        refine xq_callV0N clX11 gd_X11_laysParts dX11_lays_29 ml_RX11_356 im_X11_laysParts se_X11_laysParts rfl (Fx.s83 hF) (by exact Nat.le_of_ble_eq_true rfl) (by decide) (m_laysParts hs1 hr1 hlr ok h23 hro (fun q hq w hw => (hsi q (by omega) w hw).1)) ?_
        intro H29 p29
        obtain ⟨j29, ⟨pf, a29, b29⟩, o29⟩ := p29
        refine xq_iconst dX11_lays_32 ic0 ?_
        refine xq_istore_n dX11_lays_33 rfl rfl ?_
        exact l2 pf b29 j29 (tNf T + 1) 0 H29 (by omega) (by omega) ((o29.I (by omega) 48).trans hro) (fun q hq w hw => (o29.I (by omega) _).trans (hsi q (by omega) w hw).1) (fun q hq w hw => (o29.I (by omega) _).trans (hsi q (by omega) w hw).2) a29 (fun g hg => absurd hg (by omega)) (ho.tr (MoF.mo (MoF.of (F := fun k => k = 48 ∨ k = 56) o29 (by omega)) (fun q h => by omega) (fun k h => h)))
      · skip
        refine xq_aload_n dX11_lays_17 rfl rfl ?_
        refine xq_iload_n dX11_lays_18 rfl rfl ?_
        refine xq_callV1N clX11 gd_X11_laysSights dX11_lays_19 ml_RX11_353 im_X11_laysSights se_X11_laysSights rfl (Fx.s83 hF) (by exact Nat.le_of_ble_eq_true rfl) (by decide) (m_laysSights hs1 hr1 hlr ok h23 hro h14) ?_
        intro H19 p19
        obtain ⟨s19, e19, o19⟩ := p19
        refine xq_iincN dX11_lays_22 ic1 rfl rfl ?_
        refine xq_goto dX11_lays_25 rfl ?_
        refine ih (p + 1) H19 (by omega) (by omega) ((o19.I (by omega) 48).trans hro) (fun q hq w hw => ?_) (ho.tr (MoF.mo (MoF.of (F := fun k => k = 48 ∨ k = 56) o19 (by omega)) (fun q h => by omega) (fun k h => h)))
        by_cases e : q = p
        · subst e; exact s19 w hw
        · rw [(e19 _ (by omega)).1, (e19 _ (by omega)).2]; exact hsi q (by omega) w hw
  refine vq_intro (by decide) (by exact Nat.le_of_ble_eq_true rfl) rfl ?_
  refine xq_aload_n dX11_lays_0 rfl rfl ?_
  refine xq_iload_n dX11_lays_1 rfl rfl ?_
  refine xq_putI clX11 (by decide) rfl fl_RX11_350 (Or.inl rfl) dX11_lays_2 ⟨rfl, rfl⟩ (Fx.s83 hF) ?_
  refine xq_iconst dX11_lays_5 ic0 ?_
  refine xq_istore_n dX11_lays_6 rfl rfl ?_
  exact l1 (tNp T + 1) 0 _ (by omega) (by omega) (by rw [hI_sI, if_pos ⟨rfl, rfl⟩]) (fun q hq => absurd hq (by omega)) (MoF.pF (A := (fun q => q = 83 ∨ (112 ≤ q ∧ q ≤ 118))) (F := (fun k => k = 48 ∨ k = 56)) MoF.rf (by omega) (Or.inl rfl) _)
end LY
