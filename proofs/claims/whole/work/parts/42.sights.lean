/-! ===== the reference: sights, who knows his hat ===== -/
section SI
variable {S : xS} {H H1 H2 H3 : xH} {T : uTx} {N : Nat → Nat → Nat} {s c w v p q n i j k x y key : Nat} {lf : Nat → Bool} {u : uSt}
theorem own_w (h : LfR T lf u) (t : TwOk T) (hs : uSe u i < 64) (hw : w < nW T) (hl : lf w = true) : own u i (ct lf w) = true ↔ ∀ v v2, v < nW T → v2 < nW T → lf v = true → lf v2 = true → sgt T (uSe u i) v = sgt T (uSe u i) w → sgt T (uSe u i) v2 = sgt T (uSe u i) w → cl T v i = cl T v2 i := by
  rw [own_iff (h.lt hw hl)]
  constructor
  · intro g v v2 h1 h2 l1 l2 e1 e2
    have := g _ _ (h.lt h1 l1) (h.lt h2 l2) ((h.kk t hs h1 l1 hw hl).mpr e1) ((h.kk t hs h2 l2 hw hl).mpr e2)
    rw [h.wd h1 l1, h.wd h2 l2] at this
    exact this
  · intro g q r hq hr e1 e2
    obtain ⟨v, h1, l1, rfl⟩ := h.un hq
    obtain ⟨v2, h2, l2, rfl⟩ := h.un hr
    rw [h.wd h1 l1, h.wd h2 l2]
    exact g v v2 h1 h2 l1 l2 ((h.kk t hs h1 l1 hw hl).mp e1) ((h.kk t hs h2 l2 hw hl).mp e2)
/-- what was met with each sight among the worlds ahead of w: a first colour, and whether there is another -/
def spE (T : uTx) (lf : Nat → Bool) (u : uSt) (p key v0 w : Nat) : Bool := ex (fun v => lf v && (sgt T (uSe u p) v == key && cl T v p != cl T v0 p)) w
def FoP (H : xH) (T : uTx) (lf : Nat → Bool) (u : uSt) (p w : Nat) : Prop := ∀ key, key < 729 → (hI H 116 key = -1 ∧ hI H 115 key = bI false ∧ ∀ v, v < w → lf v = true → sgt T (uSe u p) v ≠ key) ∨ ∃ v0, v0 < w ∧ lf v0 = true ∧ sgt T (uSe u p) v0 = key ∧ hI H 116 key = nI (cl T v0 p) ∧ hI H 115 key = bI (spE T lf u p key v0 w)
theorem spE_s (v0 : Nat) : spE T lf u p key v0 (w + 1) = (spE T lf u p key v0 w || (lf w && (sgt T (uSe u p) w == key && cl T w p != cl T v0 p))) := rfl
theorem FoP.no (h : FoP H1 T lf u p w) (hl : lf w = false) (e : ∀ q k, 115 ≤ q → q ≤ 116 → hI H2 q k = hI H1 q k) : FoP H2 T lf u p (w + 1) := by
  intro key hk
  rcases h key hk with ⟨a, b, c⟩ | ⟨v0, a, b, c, d, f⟩
  · left
    refine ⟨(e _ _ (by decide) (by decide)).trans a, (e _ _ (by decide) (by decide)).trans b, fun v hv hlv => ?_⟩
    by_cases e2 : v = w
    · subst e2; rw [hl] at hlv; cases hlv
    · exact c v (by omega) hlv
  · right
    refine ⟨v0, by omega, b, c, (e _ _ (by decide) (by decide)).trans d, ((e _ _ (by decide) (by decide)).trans f).trans ?_⟩
    rw [spE_s, hl, Bool.false_and, Bool.or_false]
theorem FoP.new (h : FoP H1 T lf u p w) (hl : lf w = true) (hn : ∀ v, v < w → lf v = true → sgt T (uSe u p) v ≠ sgt T (uSe u p) w) (e16 : ∀ k, hI H2 116 k = if k = sgt T (uSe u p) w then nI (cl T w p) else hI H1 116 k) (e15 : ∀ k, hI H2 115 k = if k = sgt T (uSe u p) w then bI false else hI H1 115 k) : FoP H2 T lf u p (w + 1) := by
  intro key hk
  by_cases e : key = sgt T (uSe u p) w
  · right
    refine ⟨w, by omega, hl, e.symm, by rw [e16, if_pos e], ?_⟩
    rw [e15, if_pos e]
    congr 1
    symm
    rw [← Bool.not_eq_true, spE, ex_iff]
    rintro ⟨v, hv, h2⟩
    simp only [Bool.and_eq_true, beq_iff_eq, bne_iff_ne] at h2
    by_cases e2 : v = w
    · exact h2.2.2 (by rw [e2])
    · exact hn v (by omega) h2.1 (h2.2.1.trans e)
  · rcases h key hk with ⟨a, b, c⟩ | ⟨v0, a, b, c, d, f⟩
    · left
      refine ⟨by rw [e16, if_neg e]; exact a, by rw [e15, if_neg e]; exact b, fun v hv hlv => ?_⟩
      by_cases e2 : v = w
      · subst e2; exact fun z => e z.symm
      · exact c v (by omega) hlv
    · right
      refine ⟨v0, by omega, b, c, by rw [e16, if_neg e]; exact d, ?_⟩
      rw [e15, if_neg e, f, spE_s, show (sgt T (uSe u p) w == key) = false from beq_eq_false_iff_ne.mpr (fun z => e z.symm)]
      simp
theorem FoP.old (h : FoP H1 T lf u p w) (hl : lf w = true) {v0 : Nat} (h0 : v0 < w) (hl0 : lf v0 = true) (hs0 : sgt T (uSe u p) v0 = sgt T (uSe u p) w) (h16 : hI H1 116 (sgt T (uSe u p) w) = nI (cl T v0 p)) (e16 : ∀ k, hI H2 116 k = hI H1 116 k) (e15 : ∀ k, hI H2 115 k = if k = sgt T (uSe u p) w then bI (spE T lf u p (sgt T (uSe u p) w) v0 w || cl T w p != cl T v0 p) else hI H1 115 k) : FoP H2 T lf u p (w + 1) := by
  intro key hk
  by_cases e : key = sgt T (uSe u p) w
  · right
    subst e
    refine ⟨v0, by omega, hl0, hs0, by rw [e16]; exact h16, ?_⟩
    rw [e15, if_pos rfl, spE_s, hl]
    simp
  · rcases h key hk with ⟨a, b, c⟩ | ⟨v1, a, b, c, d, f⟩
    · left
      refine ⟨by rw [e16]; exact a, by rw [e15, if_neg e]; exact b, fun v hv hlv => ?_⟩
      by_cases e2 : v = w
      · subst e2; exact fun z => e z.symm
      · exact c v (by omega) hlv
    · right
      refine ⟨v1, by omega, b, c, by rw [e16]; exact d, ?_⟩
      rw [e15, if_neg e, f, spE_s, show (sgt T (uSe u p) w == key) = false from beq_eq_false_iff_ne.mpr (fun z => e z.symm)]
      simp
theorem FoP.ow (h : FoP H1 T lf u p (nW T)) (hlr : LfR T lf u) (t : TwOk T) (hs : uSe u p < 64) (hw : w < nW T) (hl : lf w = true) : hI H1 115 (sgt T (uSe u p) w) = bI (!(own u p (ct lf w))) := by
  rcases h _ (sgt_lt t hw) with ⟨a, b, c⟩ | ⟨v0, a, b, c, d, f⟩
  · exact absurd rfl (c w hw hl)
  · rw [f]
    congr 1
    have g := own_w hlr t hs hw hl
    cases ho : own u p (ct lf w)
    · rw [Bool.not_false, spE, ex_iff]
      apply Classical.byContradiction
      intro hn
      have : ∀ v, v < nW T → lf v = true → sgt T (uSe u p) v = sgt T (uSe u p) w → cl T v p = cl T v0 p := by
        intro v h1 h2 h3
        apply Classical.byContradiction
        intro h4
        exact hn ⟨v, h1, by simp [h2, h3, h4]⟩
      rw [g.mpr (fun v v2 h1 h2 l1 l2 e1 e2 => (this v h1 l1 e1).trans (this v2 h2 l2 e2).symm)] at ho
      cases ho
    · rw [Bool.not_true, ← Bool.not_eq_true, spE, ex_iff]
      rintro ⟨v, h1, h2⟩
      simp only [Bool.and_eq_true, beq_iff_eq, bne_iff_ne] at h2
      exact h2.2.2 (g.mp ho v v0 h1 a h2.1 b h2.2.1 c)
theorem m_laysSights (hs : MsP S H T N) (hr : RmP H T s lf u) (hlr : LfR T lf u) (ok : StOk u) (h23 : s < 23) (hro : hI H 83 48 = nI s) (hp : p < tNp T) : Nv mX11_laysSights 1 [.ref 83, vN p] S H (fun H' => (∀ w, w < nW T → hI H' 112 (729 * p + w) = nI (sgt T (uSe u p) w) ∧ hI H' 113 (729 * p + w) = bI (lf w && own u p (ct lf w))) ∧ (∀ k, (k < 729 * p ∨ 729 * p + 729 ≤ k) → hI H' 112 k = hI H 112 k ∧ hI H' 113 k = hI H 113 k) ∧ Off (fun q => q = 112 ∨ q = 113 ∨ q = 115 ∨ q = 116) H H') := by
  have hF := hs.fx; have hx := hs.mx; have hw := hs.mw; have tk := hs.tk; have tw := hs.tw; have hnp := tw.2.1; have hnc := tw.1; have hWn := nW_le tw; have hse := ok.se (p := p) (by omega)
  have lD : ∀ (fz : Nat) (w : Nat) (H1 : xH), nW T - w < fz → w ≤ nW T → (∀ v, v < nW T → hI H1 112 (729 * p + v) = nI (sgt T (uSe u p) v)) → FoP H1 T lf u p (nW T) → (∀ k, (k < 729 * p ∨ 729 * p + 729 ≤ k) → hI H1 112 k = hI H 112 k ∧ hI H1 113 k = hI H 113 k) → Off (fun q => q = 112 ∨ q = 113 ∨ q = 115 ∨ q = 116) H H1 → (∀ v, v < w → hI H1 113 (729 * p + v) = bI (lf v && own u p (ct lf v))) → Xq mX11_laysSights 1 0 0 189 [some (.ref 83), some (vN p), some (vN w), none, none] [] S H1 (fun R => ∃ H', (fun H' => (∀ w, w < nW T → hI H' 112 (729 * p + w) = nI (sgt T (uSe u p) w) ∧ hI H' 113 (729 * p + w) = bI (lf w && own u p (ct lf w))) ∧ (∀ k, (k < 729 * p ∨ 729 * p + 729 ≤ k) → hI H' 112 k = hI H 112 k ∧ hI H' 113 k = hI H 113 k) ∧ Off (fun q => q = 112 ∨ q = 113 ∨ q = 115 ∨ q = 116) H H') H' ∧ R = (none, S, H')) := by
    intro fz
    induction fz with
    | zero => intro w  H1  hfz; exact absurd hfz (by omega)
    | succ fz ih =>
      intro w  H1  hfz hi hsg hfo hot ho hk1
      have hr1 := hr.off ho (fun q a b => by omega); have hw1 := hw.off (MoF.of (F := fun _ => False) ho (by omega)) (by omega) (fun e => e) (fun e => e); have hro1 := (ho.I (by omega) 48).trans hro; have hx1 := hx.off ho (fun q a b => by omega)
      refine xq_iload_n dX11_laysSights_189 rfl rfl ?_
      refine xq_aload_n dX11_laysSights_190 rfl rfl ?_
      refine xq_getIE clX11 (by decide) rfl fl_RX11_335 dX11_laysSights_191 (Fx.s83 hF) hw1.ws ?_
      refine xq_icmp_geN dX11_laysSights_194 rfl (by omega) (by omega) ⟨fun h194 => ?_, fun h194 => ?_⟩
      · skip
        refine xq_vret dX11_laysSights_248 rfl ?_
        exact ⟨H1, ⟨fun v hv => ⟨hsg v hv, hk1 v (by omega)⟩, hot, ho⟩, rfl⟩
      · skip
        refine xq_aload_n dX11_laysSights_197 rfl rfl ?_
        refine xq_getF clX11 (by decide) rfl fl_RX11_103 dX11_laysSights_198 (Fx.s83 hF) (Fx.r83_50 hF) ?_
        refine xq_sipush dX11_laysSights_201 sp729 ?_
        refine xq_iload_n dX11_laysSights_204 rfl rfl ?_
        refine xq_imulN dX11_laysSights_205 ?_
        refine xq_iload_n dX11_laysSights_206 rfl rfl ?_
        refine xq_iaddN dX11_laysSights_207 ?_
        refine xq_aload_n dX11_laysSights_208 rfl rfl ?_
        refine xq_iload_n dX11_laysSights_209 rfl rfl ?_
        refine xq_callV1P clX11 gd_X11_isHere dX11_laysSights_210 ml_RX11_362 im_X11_isHere se_X11_isHere rfl (Fx.s83 hF) (by exact Nat.le_of_ble_eq_true rfl) (by decide) (m_isHere hF hro1 h23 (by omega) (hr1.lf w h194)) ?_
        refine xq_if_eqB dX11_laysSights_213 rfl ⟨fun h213 => ?_, fun h213 => ?_⟩
        · skip
          refine xq_iconst dX11_laysSights_240 ic0 ?_
          refine xq_zastN dX11_laysSights_241 (Fx.s113 hF) (by omega) (by decide) (by decide) ?_
          refine xq_iincN dX11_laysSights_242 ic1 rfl rfl ?_
          refine xq_goto dX11_laysSights_245 rfl ?_
          refine ih (w + 1) _ (by omega) (by omega) (fun v hv => by rw [hI_sI, if_neg (by omega)]; exact hsg v hv) (fun key hk => by simp only [hI_sI, show ¬ (115 = 113) by decide, show ¬ (116 = 113) by decide, false_and, if_false]; exact hfo key hk) (fun k hk => by rw [hI_sI, if_neg (by omega), hI_sI, if_neg (by omega)]; exact hot k hk) (Off.pI (A := (fun q => q = 112 ∨ q = 113 ∨ q = 115 ∨ q = 116)) ho (by omega) _ _) (fun v hv => ?_)
          rw [hI_sI]
          by_cases e : v = w
          · subst e; rw [if_pos ⟨rfl, rfl⟩, h213]; rfl
          · rw [if_neg (by omega)]; exact hk1 v (by omega)
        · skip
          have hsp := hfo.ow hlr tw hse h194 h213; have hgl := sgt_lt (s := uSe u p) tw h194
          refine xq_aload_n dX11_laysSights_216 rfl rfl ?_
          refine xq_getF clX11 (by decide) rfl fl_RX11_109 dX11_laysSights_217 (Fx.s83 hF) (Fx.r83_52 hF) ?_
          refine xq_aload_n dX11_laysSights_220 rfl rfl ?_
          refine xq_getF clX11 (by decide) rfl fl_RX11_100 dX11_laysSights_221 (Fx.s83 hF) (Fx.r83_49 hF) ?_
          refine xq_sipush dX11_laysSights_224 sp729 ?_
          refine xq_iload_n dX11_laysSights_227 rfl rfl ?_
          refine xq_imulN dX11_laysSights_228 ?_
          refine xq_iload_n dX11_laysSights_229 rfl rfl ?_
          refine xq_iaddN dX11_laysSights_230 ?_
          refine xq_ialdN dX11_laysSights_231 (Fx.s112 hF) (by omega) (by decide) (hsg w h194) ?_
          refine xq_zaldN dX11_laysSights_232 (Fx.s115 hF) (by omega) (by decide) hsp ?_
          refine xq_if_neB dX11_laysSights_233 rfl ⟨fun h233 => ?_, fun h233 => ?_⟩
          · skip
            refine xq_iconst dX11_laysSights_240 ic0 ?_
            refine xq_zastN dX11_laysSights_241 (Fx.s113 hF) (by omega) (by decide) (by decide) ?_
            refine xq_iincN dX11_laysSights_242 ic1 rfl rfl ?_
            refine xq_goto dX11_laysSights_245 rfl ?_
            refine ih (w + 1) _ (by omega) (by omega) (fun v hv => by rw [hI_sI, if_neg (by omega)]; exact hsg v hv) (fun key hk => by simp only [hI_sI, show ¬ (115 = 113) by decide, show ¬ (116 = 113) by decide, false_and, if_false]; exact hfo key hk) (fun k hk => by rw [hI_sI, if_neg (by omega), hI_sI, if_neg (by omega)]; exact hot k hk) (Off.pI (A := (fun q => q = 112 ∨ q = 113 ∨ q = 115 ∨ q = 116)) ho (by omega) _ _) (fun v hv => ?_)
            rw [hI_sI]
            by_cases e : v = w
            · subst e; rw [if_pos ⟨rfl, rfl⟩, h213, Bool.true_and]; rw [show own u p (ct lf v) = false by simpa using h233]; rfl
            · rw [if_neg (by omega)]; exact hk1 v (by omega)
          · skip
            refine xq_iconst dX11_laysSights_236 ic1 ?_
            refine xq_goto dX11_laysSights_237 rfl ?_
            refine xq_zastN dX11_laysSights_241 (Fx.s113 hF) (by omega) (by decide) (by decide) ?_
            refine xq_iincN dX11_laysSights_242 ic1 rfl rfl ?_
            refine xq_goto dX11_laysSights_245 rfl ?_
            refine ih (w + 1) _ (by omega) (by omega) (fun v hv => by rw [hI_sI, if_neg (by omega)]; exact hsg v hv) (fun key hk => by simp only [hI_sI, show ¬ (115 = 113) by decide, show ¬ (116 = 113) by decide, false_and, if_false]; exact hfo key hk) (fun k hk => by rw [hI_sI, if_neg (by omega), hI_sI, if_neg (by omega)]; exact hot k hk) (Off.pI (A := (fun q => q = 112 ∨ q = 113 ∨ q = 115 ∨ q = 116)) ho (by omega) _ _) (fun v hv => ?_)
            rw [hI_sI]
            by_cases e : v = w
            · subst e; rw [if_pos ⟨rfl, rfl⟩, h213, Bool.true_and]; rw [show own u p (ct lf v) = true by simpa using h233]; rfl
            · rw [if_neg (by omega)]; exact hk1 v (by omega)
  have lB : ∀ (fz : Nat) (w : Nat) (H1 : xH), nW T - w < fz → w ≤ nW T → (∀ v, v < w → hI H1 112 (729 * p + v) = nI (sgt T (uSe u p) v)) → FoP H1 T lf u p w → (∀ k, (k < 729 * p ∨ 729 * p + 729 ≤ k) → hI H1 112 k = hI H 112 k) → Off (fun q => q = 112 ∨ q = 113 ∨ q = 115 ∨ q = 116) H H1 → (∀ k, hI H1 113 k = hI H 113 k) → Xq mX11_laysSights 1 0 0 31 [some (.ref 83), some (vN p), some (vN w), none, none] [] S H1 (fun R => ∃ H', (fun H' => (∀ w, w < nW T → hI H' 112 (729 * p + w) = nI (sgt T (uSe u p) w) ∧ hI H' 113 (729 * p + w) = bI (lf w && own u p (ct lf w))) ∧ (∀ k, (k < 729 * p ∨ 729 * p + 729 ≤ k) → hI H' 112 k = hI H 112 k ∧ hI H' 113 k = hI H 113 k) ∧ Off (fun q => q = 112 ∨ q = 113 ∨ q = 115 ∨ q = 116) H H') H' ∧ R = (none, S, H')) := by
    intro fz
    induction fz with
    | zero => intro w  H1  hfz; exact absurd hfz (by omega)
    | succ fz ih =>
      intro w  H1  hfz hi hsg hfo hot ho h13
      have hr1 := hr.off ho (fun q a b => by omega); have hw1 := hw.off (MoF.of (F := fun _ => False) ho (by omega)) (by omega) (fun e => e) (fun e => e); have hro1 := (ho.I (by omega) 48).trans hro; have hx1 := hx.off ho (fun q a b => by omega)
      refine xq_iload_n dX11_laysSights_31 rfl rfl ?_
      refine xq_aload_n dX11_laysSights_32 rfl rfl ?_
      refine xq_getIE clX11 (by decide) rfl fl_RX11_335 dX11_laysSights_33 (Fx.s83 hF) hw1.ws ?_
      refine xq_icmp_geN dX11_laysSights_36 rfl (by omega) (by omega) ⟨fun h36 => ?_, fun h36 => ?_⟩
      · skip
        refine xq_iconst dX11_laysSights_187 ic0 ?_
        refine xq_istore_n dX11_laysSights_188 rfl rfl ?_
        have ew : w = nW T := by omega
        subst ew
        exact lD (nW T + 1) 0 H1 (by omega) (by omega) hsg hfo (fun k hk => ⟨hot k hk, h13 k⟩) ho (fun v hv => absurd hv (by omega))
      · skip
        have hww := h36
        have ih0 := ih
        have lC : ∀ (fz : Nat) (q its : Nat), tNp T - q < fz → q ≤ tNp T → its = sgF (cl T w) (uSe u p) q → Xq mX11_laysSights 1 0 0 44 [some (.ref 83), some (vN p), some (vN w), some (vN its), some (vN q)] [] S H1 (fun R => ∃ H', (fun H' => (∀ w, w < nW T → hI H' 112 (729 * p + w) = nI (sgt T (uSe u p) w) ∧ hI H' 113 (729 * p + w) = bI (lf w && own u p (ct lf w))) ∧ (∀ k, (k < 729 * p ∨ 729 * p + 729 ≤ k) → hI H' 112 k = hI H 112 k ∧ hI H' 113 k = hI H 113 k) ∧ Off (fun q => q = 112 ∨ q = 113 ∨ q = 115 ∨ q = 116) H H') H' ∧ R = (none, S, H')) := by
          intro fz
          induction fz with
          | zero => intro q its  hfz; exact absurd hfz (by omega)
          | succ fz ih =>
            intro q its  hfz hq hits
            refine xq_iload dX11_laysSights_44 rfl ?_
            refine xq_aload_n dX11_laysSights_46 rfl rfl ?_
            refine xq_getF clX11 (by decide) rfl fl_RX11_13 dX11_laysSights_47 (Fx.s83 hF) (Fx.r83_3 hF) ?_
            refine xq_iconst dX11_laysSights_50 ic1 ?_
            refine xq_ialdN dX11_laysSights_51 (Fx.s85 hF) (by omega) (by decide) hx1.np ?_
            refine xq_icmp_geN dX11_laysSights_52 rfl (by omega) (by omega) ⟨fun h52 => ?_, fun h52 => ?_⟩
            · skip
              have ho2 := Off.pI (A := (fun q => q = 112 ∨ q = 113 ∨ q = 115 ∨ q = 116)) ho (show _ from (Or.inl rfl : (112 : Nat) = 112 ∨ _)) (729 * p + w) (nI its)
              have hr2 := hr.off ho2 (fun q a b => by omega); have hro2 := (ho2.I (by omega) 48).trans hro; have hw2 := hw.off (MoF.of (F := fun _ => False) ho2 (by omega)) (by omega) (fun e => e) (fun e => e)
              have hits2 : its = sgt T (uSe u p) w := by rw [hits, show q = tNp T by omega]; rfl
              have hgl := sgt_lt (s := uSe u p) tw hww
              have hcl := cl_3 tw hww (p := p) (by omega)
              have hfo2 : FoP (sI H1 112 (729 * p + w) (nI its)) T lf u p w := fun key hk => by simp only [hI_sI, show ¬ (115 = 112) by decide, show ¬ (116 = 112) by decide, false_and, if_false]; exact hfo key hk
              refine xq_aload_n dX11_laysSights_101 rfl rfl ?_
              refine xq_getF clX11 (by decide) rfl fl_RX11_100 dX11_laysSights_102 (Fx.s83 hF) (Fx.r83_49 hF) ?_
              refine xq_sipush dX11_laysSights_105 sp729 ?_
              refine xq_iload_n dX11_laysSights_108 rfl rfl ?_
              refine xq_imulN dX11_laysSights_109 ?_
              refine xq_iload_n dX11_laysSights_110 rfl rfl ?_
              refine xq_iaddN dX11_laysSights_111 ?_
              refine xq_iload_n dX11_laysSights_112 rfl rfl ?_
              refine xq_iastN dX11_laysSights_113 (Fx.s112 hF) (by omega) (by decide) ?_
              refine xq_aload_n dX11_laysSights_114 rfl rfl ?_
              refine xq_iload_n dX11_laysSights_115 rfl rfl ?_
              refine xq_callV1P clX11 gd_X11_isHere dX11_laysSights_116 ml_RX11_362 im_X11_isHere se_X11_isHere rfl (Fx.s83 hF) (by exact Nat.le_of_ble_eq_true rfl) (by decide) (m_isHere hF hro2 h23 (by omega) (hr2.lf w hww)) ?_
              refine xq_if_neB dX11_laysSights_119 rfl ⟨fun h119 => ?_, fun h119 => ?_⟩
              · skip
                have hl1 : lf w = true := by simpa using h119
                rcases hfo2 its (by omega) with ⟨f1, f2, f3⟩ | ⟨v0, f0, f1, f2, f4, f5⟩
                · skip
                  refine xq_aload_n dX11_laysSights_125 rfl rfl ?_
                  refine xq_getF clX11 (by decide) rfl fl_RX11_72 dX11_laysSights_126 (Fx.s83 hF) (Fx.r83_35 hF) ?_
                  refine xq_bipush dX11_laysSights_129 bp6 ?_
                  refine xq_iload_n dX11_laysSights_131 rfl rfl ?_
                  refine xq_imulN dX11_laysSights_132 ?_
                  refine xq_iload_n dX11_laysSights_133 rfl rfl ?_
                  refine xq_iaddN dX11_laysSights_134 ?_
                  refine xq_ialdN dX11_laysSights_135 (Fx.s103 hF) (by omega) (by decide) (hw2.cl w hww p hp) ?_
                  refine xq_istore dX11_laysSights_136 rfl ?_
                  refine xq_aload_n dX11_laysSights_138 rfl rfl ?_
                  refine xq_getF clX11 (by decide) rfl fl_RX11_112 dX11_laysSights_139 (Fx.s83 hF) (Fx.r83_53 hF) ?_
                  refine xq_iload_n dX11_laysSights_142 rfl rfl ?_
                  refine xq_ialdN dX11_laysSights_143 (Fx.s116 hF) (by omega) (by decide) f1 ?_
                  refine xq_iconst dX11_laysSights_144 icm1 ?_
                  refine xq_icmp_ne dX11_laysSights_145 rfl ⟨fun h145 => ?_, fun h145 => ?_⟩
                  · skip
                    exact absurd rfl h145
                  · skip
                    refine xq_aload_n dX11_laysSights_148 rfl rfl ?_
                    refine xq_getF clX11 (by decide) rfl fl_RX11_112 dX11_laysSights_149 (Fx.s83 hF) (Fx.r83_53 hF) ?_
                    refine xq_iload_n dX11_laysSights_152 rfl rfl ?_
                    refine xq_iload dX11_laysSights_153 rfl ?_
                    refine xq_iastN dX11_laysSights_155 (Fx.s116 hF) (by omega) (by decide) ?_
                    refine xq_aload_n dX11_laysSights_156 rfl rfl ?_
                    refine xq_getF clX11 (by decide) rfl fl_RX11_109 dX11_laysSights_157 (Fx.s83 hF) (Fx.r83_52 hF) ?_
                    refine xq_iload_n dX11_laysSights_160 rfl rfl ?_
                    refine xq_dup2 dX11_laysSights_161 rfl rfl ?_
                    refine xq_zaldN (v := bI false) dX11_laysSights_162 (Fx.s115 hF) (by omega) (by decide) (by rw [hI_sI, if_neg (by omega)]; exact f2) ?_
                    refine xq_aload_n dX11_laysSights_163 rfl rfl ?_
                    refine xq_getF clX11 (by decide) rfl fl_RX11_112 dX11_laysSights_164 (Fx.s83 hF) (Fx.r83_53 hF) ?_
                    refine xq_iload_n dX11_laysSights_167 rfl rfl ?_
                    refine xq_ialdN (v := nI (cl T w p)) dX11_laysSights_168 (Fx.s116 hF) (by omega) (by decide) (by rw [hI_sI, if_pos ⟨rfl, rfl⟩]) ?_
                    refine xq_iload dX11_laysSights_169 rfl ?_
                    refine xq_icmp_eqN dX11_laysSights_171 rfl (by omega) (by omega) ⟨fun h171 => ?_, fun h171 => ?_⟩
                    · skip
                      refine xq_iconst dX11_laysSights_178 ic0 ?_
                      refine xq_ior dX11_laysSights_179 ?_
                      refine xq_zastN dX11_laysSights_180 (Fx.s115 hF) (by omega) (by decide) (by decide) ?_
                      refine xq_iincN dX11_laysSights_181 ic1 rfl rfl ?_
                      refine xq_goto dX11_laysSights_184 rfl ?_
                      exact xq_fgt (ih0 (w + 1) _ (by omega) (by omega) (fun v hv => by
                        simp only [hI_sI, show ¬ (112 = 115) by decide, show ¬ (112 = 116) by decide, false_and, if_false]
                        by_cases e : v = w
                        · subst e; rw [if_pos ⟨trivial, rfl⟩, hits2]
                        · rw [if_neg (by omega)]; exact hsg v (by omega)) (FoP.new hfo hl1 (by rw [← hits2]; exact f3) (fun k => by simp only [hI_sI, show ¬ (116 = 115) by decide, show ¬ (115 = 116) by decide, show ¬ (116 = 112) by decide, show ¬ (115 = 112) by decide, false_and, true_and, if_false]; rw [← hits2]) (fun k => by simp only [hI_sI, show ¬ (116 = 115) by decide, show ¬ (115 = 116) by decide, show ¬ (116 = 112) by decide, show ¬ (115 = 112) by decide, false_and, true_and, if_false]; rw [← hits2]; exact ite_c Iff.rfl)) (fun k hk => by simp only [hI_sI, show ¬ (112 = 115) by decide, show ¬ (112 = 116) by decide, false_and, if_false]; rw [if_neg (by omega)]; exact hot k hk) (Off.pI (A := (fun q => q = 112 ∨ q = 113 ∨ q = 115 ∨ q = 116)) (Off.pI (A := (fun q => q = 112 ∨ q = 113 ∨ q = 115 ∨ q = 116)) ho2 (by omega) _ _) (by omega) _ _) (fun k => by simp only [hI_sI, show ¬ (113 = 115) by decide, show ¬ (113 = 116) by decide, show ¬ (113 = 112) by decide, false_and, if_false]; exact h13 k)) (by exact And.intro rfl (And.intro rfl (And.intro rfl (trivial))))
                    · skip
                      exact absurd rfl h171
                · have hcl0 := cl_3 tw (w := v0) (by omega) (p := p) (by omega)
                  refine xq_aload_n dX11_laysSights_125 rfl rfl ?_
                  refine xq_getF clX11 (by decide) rfl fl_RX11_72 dX11_laysSights_126 (Fx.s83 hF) (Fx.r83_35 hF) ?_
                  refine xq_bipush dX11_laysSights_129 bp6 ?_
                  refine xq_iload_n dX11_laysSights_131 rfl rfl ?_
                  refine xq_imulN dX11_laysSights_132 ?_
                  refine xq_iload_n dX11_laysSights_133 rfl rfl ?_
                  refine xq_iaddN dX11_laysSights_134 ?_
                  refine xq_ialdN dX11_laysSights_135 (Fx.s103 hF) (by omega) (by decide) (hw2.cl w hww p hp) ?_
                  refine xq_istore dX11_laysSights_136 rfl ?_
                  refine xq_aload_n dX11_laysSights_138 rfl rfl ?_
                  refine xq_getF clX11 (by decide) rfl fl_RX11_112 dX11_laysSights_139 (Fx.s83 hF) (Fx.r83_53 hF) ?_
                  refine xq_iload_n dX11_laysSights_142 rfl rfl ?_
                  refine xq_ialdN dX11_laysSights_143 (Fx.s116 hF) (by omega) (by decide) f4 ?_
                  refine xq_iconst dX11_laysSights_144 icm1 ?_
                  refine xq_icmp_ne dX11_laysSights_145 rfl ⟨fun h145 => ?_, fun h145 => ?_⟩
                  · skip
                    refine xq_aload_n dX11_laysSights_156 rfl rfl ?_
                    refine xq_getF clX11 (by decide) rfl fl_RX11_109 dX11_laysSights_157 (Fx.s83 hF) (Fx.r83_52 hF) ?_
                    refine xq_iload_n dX11_laysSights_160 rfl rfl ?_
                    refine xq_dup2 dX11_laysSights_161 rfl rfl ?_
                    refine xq_zaldN dX11_laysSights_162 (Fx.s115 hF) (by omega) (by decide) f5 ?_
                    refine xq_aload_n dX11_laysSights_163 rfl rfl ?_
                    refine xq_getF clX11 (by decide) rfl fl_RX11_112 dX11_laysSights_164 (Fx.s83 hF) (Fx.r83_53 hF) ?_
                    refine xq_iload_n dX11_laysSights_167 rfl rfl ?_
                    refine xq_ialdN dX11_laysSights_168 (Fx.s116 hF) (by omega) (by decide) f4 ?_
                    refine xq_iload dX11_laysSights_169 rfl ?_
                    refine xq_icmp_eqN dX11_laysSights_171 rfl (by omega) (by omega) ⟨fun h171 => ?_, fun h171 => ?_⟩
                    · skip
                      refine xq_iconst dX11_laysSights_178 ic0 ?_
                      refine xq_ior dX11_laysSights_179 ?_
                      refine xq_zastN dX11_laysSights_180 (Fx.s115 hF) (by omega) (by decide) (by cases spE T lf u p its v0 w <;> decide) ?_
                      refine xq_iincN dX11_laysSights_181 ic1 rfl rfl ?_
                      refine xq_goto dX11_laysSights_184 rfl ?_
                      have hne : (cl T w p != cl T v0 p) = false := by simp [h171]
                      exact xq_fgt (ih0 (w + 1) _ (by omega) (by omega) (fun v hv => by
                        simp only [hI_sI, show ¬ (112 = 115) by decide, show ¬ (112 = 116) by decide, false_and, if_false]
                        by_cases e : v = w
                        · subst e; rw [if_pos ⟨trivial, rfl⟩, hits2]
                        · rw [if_neg (by omega)]; exact hsg v (by omega)) (FoP.old hfo hl1 f0 f1 (f2.trans hits2) (by rw [← hits2]; exact f4) (fun k => by simp only [hI_sI, show ¬ (116 = 115) by decide, show ¬ (115 = 116) by decide, show ¬ (116 = 112) by decide, show ¬ (115 = 112) by decide, false_and, true_and, if_false]) (fun k => by simp only [hI_sI, show ¬ (116 = 115) by decide, show ¬ (115 = 116) by decide, show ¬ (116 = 112) by decide, show ¬ (115 = 112) by decide, false_and, true_and, if_false]; rw [hne, ← hits2]; cases spE T lf u p its v0 w <;> rfl)) (fun k hk => by simp only [hI_sI, show ¬ (112 = 115) by decide, show ¬ (112 = 116) by decide, false_and, if_false]; rw [if_neg (by omega)]; exact hot k hk) (Off.pI (A := (fun q => q = 112 ∨ q = 113 ∨ q = 115 ∨ q = 116)) ho2 (by omega) _ _) (fun k => by simp only [hI_sI, show ¬ (113 = 115) by decide, show ¬ (113 = 116) by decide, show ¬ (113 = 112) by decide, false_and, if_false]; exact h13 k)) (by exact And.intro rfl (And.intro rfl (And.intro rfl (trivial))))
                    · skip
                      refine xq_iconst dX11_laysSights_174 ic1 ?_
                      refine xq_goto dX11_laysSights_175 rfl ?_
                      refine xq_ior dX11_laysSights_179 ?_
                      refine xq_zastN dX11_laysSights_180 (Fx.s115 hF) (by omega) (by decide) (by cases spE T lf u p its v0 w <;> decide) ?_
                      refine xq_iincN dX11_laysSights_181 ic1 rfl rfl ?_
                      refine xq_goto dX11_laysSights_184 rfl ?_
                      have hne : (cl T w p != cl T v0 p) = true := by simp; exact fun z => h171 z.symm
                      exact xq_fgt (ih0 (w + 1) _ (by omega) (by omega) (fun v hv => by
                        simp only [hI_sI, show ¬ (112 = 115) by decide, show ¬ (112 = 116) by decide, false_and, if_false]
                        by_cases e : v = w
                        · subst e; rw [if_pos ⟨trivial, rfl⟩, hits2]
                        · rw [if_neg (by omega)]; exact hsg v (by omega)) (FoP.old hfo hl1 f0 f1 (f2.trans hits2) (by rw [← hits2]; exact f4) (fun k => by simp only [hI_sI, show ¬ (116 = 115) by decide, show ¬ (115 = 116) by decide, show ¬ (116 = 112) by decide, show ¬ (115 = 112) by decide, false_and, true_and, if_false]) (fun k => by simp only [hI_sI, show ¬ (116 = 115) by decide, show ¬ (115 = 116) by decide, show ¬ (116 = 112) by decide, show ¬ (115 = 112) by decide, false_and, true_and, if_false]; rw [hne, ← hits2]; cases spE T lf u p its v0 w <;> rfl)) (fun k hk => by simp only [hI_sI, show ¬ (112 = 115) by decide, show ¬ (112 = 116) by decide, false_and, if_false]; rw [if_neg (by omega)]; exact hot k hk) (Off.pI (A := (fun q => q = 112 ∨ q = 113 ∨ q = 115 ∨ q = 116)) ho2 (by omega) _ _) (fun k => by simp only [hI_sI, show ¬ (113 = 115) by decide, show ¬ (113 = 116) by decide, show ¬ (113 = 112) by decide, false_and, if_false]; exact h13 k)) (by exact And.intro rfl (And.intro rfl (And.intro rfl (trivial))))
                  · skip
                    exact absurd (congrArg Int32.toInt h145) (by rw [nI_toInt (by omega)]; show ¬ ((_ : Int) = -1); omega)
              · skip
                refine xq_goto dX11_laysSights_122 rfl ?_
                refine xq_iincN dX11_laysSights_181 ic1 rfl rfl ?_
                refine xq_goto dX11_laysSights_184 rfl ?_
                exact xq_fgt (ih0 (w + 1) _ (by omega) (by omega) (fun v hv => by
                  simp only [hI_sI, show ¬ (112 = 115) by decide, show ¬ (112 = 116) by decide, false_and, if_false]
                  by_cases e : v = w
                  · subst e; rw [if_pos ⟨trivial, rfl⟩, hits2]
                  · rw [if_neg (by omega)]; exact hsg v (by omega)) (hfo2.no (by simpa using h119) (fun _ _ _ _ => rfl)) (fun k hk => by simp only [hI_sI, show ¬ (112 = 115) by decide, show ¬ (112 = 116) by decide, false_and, if_false]; rw [if_neg (by omega)]; exact hot k hk) ho2 (fun k => by simp only [hI_sI, show ¬ (113 = 115) by decide, show ¬ (113 = 116) by decide, show ¬ (113 = 112) by decide, false_and, if_false]; exact h13 k)) (by exact And.intro rfl (And.intro rfl (And.intro rfl (trivial))))
            · skip
              have hb := shr_le (uSe u p) q; have hb2 : uSe u p >>> q &&& 1 ≤ 1 := Nat.and_le_right
              refine xq_aload_n dX11_laysSights_55 rfl rfl ?_
              refine xq_getF clX11 (by decide) rfl fl_RX11_90 dX11_laysSights_56 (Fx.s83 hF) (Fx.r83_43 hF) ?_
              refine xq_bipush dX11_laysSights_59 bp6 ?_
              refine xq_aload_n dX11_laysSights_61 rfl rfl ?_
              refine xq_getIE clX11 (by decide) rfl fl_RX11_350 dX11_laysSights_62 (Fx.s83 hF) hro1 ?_
              refine xq_imulN dX11_laysSights_65 ?_
              refine xq_iload_n dX11_laysSights_66 rfl rfl ?_
              refine xq_iaddN dX11_laysSights_67 ?_
              refine xq_ialdN dX11_laysSights_68 (Fx.s109 hF) (by omega) (by decide) (hr1.se p (by omega)) ?_
              refine xq_iload dX11_laysSights_69 rfl ?_
              refine xq_ishrN dX11_laysSights_71 (by omega) (by omega) ?_
              refine xq_iconst dX11_laysSights_72 ic1 ?_
              refine xq_iandN dX11_laysSights_73 ?_
              refine xq_iconst dX11_laysSights_74 ic1 ?_
              refine xq_icmp_neN dX11_laysSights_75 rfl (by omega) (by omega) ⟨fun h75 => ?_, fun h75 => ?_⟩
              · skip
                refine xq_iincN dX11_laysSights_95 ic1 rfl rfl ?_
                refine xq_goto dX11_laysSights_98 rfl ?_
                exact ih (q + 1) its (by omega) (by omega) (by rw [sgF_s, if_neg (fun z => h75 (tb1.mpr z))]; exact hits)
              · skip
                refine xq_iconst dX11_laysSights_78 ic3 ?_
                refine xq_iload_n dX11_laysSights_79 rfl rfl ?_
                refine xq_imulN dX11_laysSights_80 ?_
                refine xq_aload_n dX11_laysSights_81 rfl rfl ?_
                refine xq_getF clX11 (by decide) rfl fl_RX11_72 dX11_laysSights_82 (Fx.s83 hF) (Fx.r83_35 hF) ?_
                refine xq_bipush dX11_laysSights_85 bp6 ?_
                refine xq_iload_n dX11_laysSights_87 rfl rfl ?_
                refine xq_imulN dX11_laysSights_88 ?_
                refine xq_iload dX11_laysSights_89 rfl ?_
                refine xq_iaddN dX11_laysSights_91 ?_
                refine xq_ialdN dX11_laysSights_92 (Fx.s103 hF) (by omega) (by decide) (hw1.cl w hww q h52) ?_
                refine xq_iaddN dX11_laysSights_93 ?_
                refine xq_istore_n dX11_laysSights_94 rfl rfl ?_
                refine xq_iincN dX11_laysSights_95 ic1 rfl rfl ?_
                refine xq_goto dX11_laysSights_98 rfl ?_
                exact ih (q + 1) _ (by omega) (by omega) (by rw [sgF_s, if_pos (tb1.mp h75), hits])
        refine xq_iconst dX11_laysSights_39 ic0 ?_
        refine xq_istore_n dX11_laysSights_40 rfl rfl ?_
        refine xq_iconst dX11_laysSights_41 ic0 ?_
        refine xq_istore dX11_laysSights_42 rfl ?_
        exact lC (tNp T + 1) 0 0 (by omega) (by omega) rfl
  have lA : ∀ (fz : Nat) (k : Nat) (H1 : xH), 729 - k < fz → k ≤ 729 → (∀ j, j < k → hI H1 116 j = -1 ∧ hI H1 115 j = bI false) → Off (fun q => q = 112 ∨ q = 113 ∨ q = 115 ∨ q = 116) H H1 → (∀ k, hI H1 113 k = hI H 113 k ∧ hI H1 112 k = hI H 112 k) → Xq mX11_laysSights 1 0 0 2 [some (.ref 83), some (vN p), some (vN k), none, none] [] S H1 (fun R => ∃ H', (fun H' => (∀ w, w < nW T → hI H' 112 (729 * p + w) = nI (sgt T (uSe u p) w) ∧ hI H' 113 (729 * p + w) = bI (lf w && own u p (ct lf w))) ∧ (∀ k, (k < 729 * p ∨ 729 * p + 729 ≤ k) → hI H' 112 k = hI H 112 k ∧ hI H' 113 k = hI H 113 k) ∧ Off (fun q => q = 112 ∨ q = 113 ∨ q = 115 ∨ q = 116) H H') H' ∧ R = (none, S, H')) := by
    intro fz
    induction fz with
    | zero => intro k  H1  hfz; exact absurd hfz (by omega)
    | succ fz ih =>
      intro k  H1  hfz hk hz ho h13
      refine xq_iload_n dX11_laysSights_2 rfl rfl ?_
      refine xq_sipush dX11_laysSights_3 sp729 ?_
      refine xq_icmp_geN dX11_laysSights_6 rfl (by omega) (by omega) ⟨fun h6 => ?_, fun h6 => ?_⟩
      · skip
        refine xq_iconst dX11_laysSights_29 ic0 ?_
        refine xq_istore_n dX11_laysSights_30 rfl rfl ?_
        exact lB (nW T + 1) 0 H1 (by omega) (by omega) (fun v hv => absurd hv (by omega)) (fun key hk2 => Or.inl ⟨(hz key (by omega)).1, (hz key (by omega)).2, fun v hv => absurd hv (by omega)⟩) (fun k _ => (h13 k).2) ho (fun k => (h13 k).1)
      · skip
        refine xq_aload_n dX11_laysSights_9 rfl rfl ?_
        refine xq_getF clX11 (by decide) rfl fl_RX11_109 dX11_laysSights_10 (Fx.s83 hF) (Fx.r83_52 hF) ?_
        refine xq_iload_n dX11_laysSights_13 rfl rfl ?_
        refine xq_iconst dX11_laysSights_14 ic0 ?_
        refine xq_zastN dX11_laysSights_15 (Fx.s115 hF) (by omega) (by decide) (by decide) ?_
        refine xq_aload_n dX11_laysSights_16 rfl rfl ?_
        refine xq_getF clX11 (by decide) rfl fl_RX11_112 dX11_laysSights_17 (Fx.s83 hF) (Fx.r83_53 hF) ?_
        refine xq_iload_n dX11_laysSights_20 rfl rfl ?_
        refine xq_iconst dX11_laysSights_21 icm1 ?_
        refine xq_iastN dX11_laysSights_22 (Fx.s116 hF) (by omega) (by decide) ?_
        refine xq_iincN dX11_laysSights_23 ic1 rfl rfl ?_
        refine xq_goto dX11_laysSights_26 rfl ?_
        refine ih (k + 1) _ (by omega) (by omega) (fun j hj => ?_) (Off.pI (A := (fun q => q = 112 ∨ q = 113 ∨ q = 115 ∨ q = 116)) (Off.pI (A := (fun q => q = 112 ∨ q = 113 ∨ q = 115 ∨ q = 116)) ho (by omega) _ _) (by omega) _ _) (fun j => by rw [hI_sI, if_neg (by omega), hI_sI, if_neg (by omega), hI_sI, if_neg (by omega), hI_sI, if_neg (by omega)]; exact h13 j)
        by_cases e : j = k
        · subst e; simp [hI_sI]; rfl
        · rw [hI_sI, if_neg (by omega), hI_sI, if_neg (by omega), hI_sI, if_neg (by omega), hI_sI, if_neg (by omega)]; exact hz j (by omega)
  refine vq_intro (by decide) (by exact Nat.le_of_ble_eq_true rfl) rfl ?_
  refine xq_iconst dX11_laysSights_0 ic0 ?_
  refine xq_istore_n dX11_laysSights_1 rfl rfl ?_
  exact lA 730 0 H (by omega) (by omega) (fun j hj => absurd hj (by omega)) Off.rf (fun k => ⟨rfl, rfl⟩)
end SI
