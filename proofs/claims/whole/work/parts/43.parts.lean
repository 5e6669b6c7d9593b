/-! ===== the reference: what hangs together ===== -/
section PT
variable {S : xS} {H H1 H2 H3 : xH} {T : uTx} {N : Nat → Nat → Nat} {s c w v p q n i j k x y key : Nat} {lf : Nat → Bool} {u : uSt} {g g2 : Nat → Nat}
def PaI (T : uTx) (lf : Nat → Bool) (u : uSt) (g : Nat → Nat) : Prop := ∀ w, w < nW T → (lf w = false → g w = w) ∧ (lf w = true → g w ≤ w ∧ lf (g w) = true ∧ ∀ A, Clo u A → (A (ct lf w) ↔ A (ct lf (g w))))
def PaH (H : xH) (T : uTx) (g : Nat → Nat) : Prop := ∀ w, w < nW T → hI H 114 w = nI (g w)
/-- which world each is told by -/
def PfOk (T : uTx) (lf : Nat → Bool) (u : uSt) (pf : Nat → Nat) : Prop := ∀ w, w < nW T → pf w < nW T ∧ (lf w = true → lf (pf w) = true ∧ ct lf (pf w) = cn u (ct lf w))
def SiP (H : xH) (T : uTx) (u : uSt) : Prop := ∀ p, p < tNp T → ∀ w, w < nW T → hI H 112 (729 * p + w) = nI (sgt T (uSe u p) w)
def mnF (T : uTx) (lf : Nat → Bool) (u : uSt) (p : Nat) (g : Nat → Nat) (key n : Nat) : Nat := fo (fun w m => if lf w && sgt T (uSe u p) w == key then min m (g w) else m) 729 n
def spG (T : uTx) (lf : Nat → Bool) (u : uSt) (p : Nat) (g : Nat → Nat) (w : Nat) : Nat := if lf w then mnF T lf u p g (sgt T (uSe u p) w) (nW T) else g w
def spB (T : uTx) (lf : Nat → Bool) (u : uSt) (p : Nat) (g : Nat → Nat) (n : Nat) : Bool := ex (fun w => lf w && spG T lf u p g w != g w) n
theorem mnF_s (n : Nat) : mnF T lf u p g key (n + 1) = if lf n && sgt T (uSe u p) n == key then min (mnF T lf u p g key n) (g n) else mnF T lf u p g key n := rfl
theorem mnF_le : ∀ n, mnF T lf u p g key n ≤ 729 ∧ ∀ w, w < n → lf w = true → sgt T (uSe u p) w = key → mnF T lf u p g key n ≤ g w
  | 0 => ⟨Nat.le_refl _, fun w hw => absurd hw (by omega)⟩
  | n + 1 => by
    obtain ⟨h1, h2⟩ := mnF_le n
    rw [mnF_s]
    split
    · rename_i hc
      refine ⟨by omega, fun w hw hl hk => ?_⟩
      by_cases e : w = n
      · subst e; omega
      · have := h2 w (by omega) hl hk; omega
    · rename_i hc
      refine ⟨h1, fun w hw hl hk => ?_⟩
      by_cases e : w = n
      · subst e; exact absurd (by simp [hl, hk]) hc
      · exact h2 w (by omega) hl hk
theorem mnF_at : ∀ n, mnF T lf u p g key n = 729 ∨ ∃ w, w < n ∧ lf w = true ∧ sgt T (uSe u p) w = key ∧ mnF T lf u p g key n = g w
  | 0 => Or.inl rfl
  | n + 1 => by
    rw [mnF_s]
    split
    · rename_i hc
      simp only [Bool.and_eq_true, beq_iff_eq] at hc
      by_cases e : mnF T lf u p g key n ≤ g n
      · rw [Nat.min_eq_left e]
        rcases mnF_at n with h | ⟨w, h1, h2⟩
        · exact Or.inl h
        · exact Or.inr ⟨w, by omega, h2⟩
      · rw [Nat.min_eq_right (by omega)]
        exact Or.inr ⟨n, by omega, hc.1, hc.2, rfl⟩
    · rcases mnF_at n with h | ⟨w, h1, h2⟩
      · exact Or.inl h
      · exact Or.inr ⟨w, by omega, h2⟩
theorem PaI.lt (h : PaI T lf u g) (hw : w < nW T) : g w ≤ w := by
  cases hl : lf w
  · exact Nat.le_of_eq ((h w hw).1 hl)
  · exact ((h w hw).2 hl).1
theorem spG_le (h : PaI T lf u g) (t : TwOk T) (hw : w < nW T) : spG T lf u p g w ≤ g w := by
  unfold spG
  split
  · rename_i hl; exact (mnF_le _).2 w hw hl rfl
  · exact Nat.le_refl _
theorem PaI.sp (h : PaI T lf u g) (hlr : LfR T lf u) (t : TwOk T) (hs : uSe u p < 64) (hp : p < tNp T) : PaI T lf u (spG T lf u p g) := by
  intro w hw
  refine ⟨fun hl => ?_, fun hl => ?_⟩
  · unfold spG; rw [hl, if_neg (by decide)]; exact (h w hw).1 hl
  · have hle := spG_le (p := p) h t hw
    have hgw := h.lt hw
    have hn := nW_le t
    have e : spG T lf u p g w = mnF T lf u p g (sgt T (uSe u p) w) (nW T) := if_pos hl
    rcases mnF_at (key := sgt T (uSe u p) w) (p := p) (g := g) (u := u) (lf := lf) (T := T) (nW T) with h7 | ⟨w1, h1, h2, h3, h4⟩
    · omega
    · rw [e, h4]
      have g1 := (h w1 h1).2 h2
      refine ⟨by omega, g1.2.1, fun A hA => ?_⟩
      rw [← g1.2.2 A hA]
      exact hA p (by rw [hlr.2.2.2.2]; exact hp) _ _ (hlr.lt hw hl) (hlr.lt h1 h2) ((hlr.kk t hs hw hl h1 h2).mpr h3.symm)
theorem sm_lt {f2 : Nat → Nat} : ∀ {n : Nat}, (∀ k, k < n → f2 k ≤ g k) → fb_sm f2 n ≤ fb_sm g n ∧ ((∃ k, k < n ∧ f2 k ≠ g k) → fb_sm f2 n < fb_sm g n)
  | 0, _ => ⟨Nat.le_refl _, fun ⟨k, hk, _⟩ => absurd hk (by omega)⟩
  | n + 1, h => by
    obtain ⟨h1, h2⟩ := sm_lt (f2 := f2) (n := n) (fun k hk => h k (by omega))
    have h3 := h n (by omega)
    rw [fb_sm_succ, fb_sm_succ]
    refine ⟨by omega, fun ⟨k, hk, he⟩ => ?_⟩
    by_cases e : k = n
    · subst e; omega
    · have := h2 ⟨k, by omega, he⟩; omega
def unr (lf : Nat → Bool) (n p : Nat) : Nat := fnd (fun w => lf w && decide (ct lf w = p)) n
theorem unr_at (hw : w < n) (hl : lf w = true) : unr lf n (ct lf w) = w := by
  refine fnd_at (fun j hj => ?_) (by simp [hl]) hw
  rw [← Bool.not_eq_true]
  simp only [Bool.and_eq_true, decide_eq_true_eq]
  rintro ⟨a, b⟩
  have := ct_inj a hl b
  omega
theorem ct_mono2 {a b : Nat} (h : a ≤ b) : ct lf a ≤ ct lf b := ct_mono lf h
/-- where nothing changes any more, the least world of each set is told -/
theorem PaI.jc (h : PaI T lf u g) (hlr : LfR T lf u) (t : TwOk T) (hs : ∀ p, p < tNp T → uSe u p < 64) (hf : ∀ p, p < tNp T → ∀ w, w < nW T → lf w = true → spG T lf u p g w = g w) : JC u (fun r => ct lf (g (unr lf (nW T) r))) := by
  have same : ∀ p, p < tNp T → ∀ w v, w < nW T → v < nW T → lf w = true → lf v = true → sgt T (uSe u p) w = sgt T (uSe u p) v → g w = g v := by
    intro p hp w v hw hv hl hlv e
    have e1 := hf p hp w hw hl
    have e2 := hf p hp v hv hlv
    unfold spG at e1 e2
    rw [if_pos hl] at e1
    rw [if_pos hlv, ← e] at e2
    rw [← e1, ← e2]
  have ky_g : ∀ i, i < uNp u → ∀ a b, a < uZ u → b < uZ u → ky u i a = ky u i b → g (unr lf (nW T) a) = g (unr lf (nW T) b) := by
    intro i hi a b ha hb e
    rw [hlr.2.2.2.2] at hi
    obtain ⟨w, h1, h2, rfl⟩ := hlr.un ha
    obtain ⟨v, h3, h4, rfl⟩ := hlr.un hb
    rw [unr_at h1 h2, unr_at h3 h4]
    exact same i hi w v h1 h3 h2 h4 ((hlr.kk t (hs i hi) h1 h2 h3 h4).mp e)
  have ja : JA u (fun r => ct lf (g (unr lf (nW T) r))) := by
    intro A hA a ha
    obtain ⟨w, h1, h2, rfl⟩ := hlr.un ha
    show _ ↔ A (ct lf (g (unr lf (nW T) (ct lf w))))
    rw [unr_at h1 h2]
    exact ((h w h1).2 h2).2.2 A hA
  refine ⟨fun a ha => ?_, fun i hi a b ha hb e => ?_, ja⟩
  · obtain ⟨w, h1, h2, rfl⟩ := hlr.un ha
    show ct lf (g (unr lf (nW T) (ct lf w))) ≤ _ ∧ ct lf (g (unr lf (nW T) (ct lf (g (unr lf (nW T) (ct lf w)))))) = ct lf (g (unr lf (nW T) (ct lf w)))
    rw [unr_at h1 h2]
    have hg := (h w h1).2 h2
    rw [unr_at (by omega) hg.2.1]
    refine ⟨ct_mono2 hg.1, ?_⟩
    have := (hg.2.2 (fun r => g (unr lf (nW T) r) = g w) (fun i hi a b ha hb e => by
      show g (unr lf (nW T) a) = g w ↔ g (unr lf (nW T) b) = g w
      rw [ky_g i hi a b ha hb e])).mp (by show g (unr lf (nW T) (ct lf w)) = g w; rw [unr_at h1 h2])
    rw [unr_at (by omega) hg.2.1] at this
    rw [this]
  · show ct lf (g _) = ct lf (g _)
    rw [ky_g i hi a b ha hb e]
theorem m_spreads (hs : MsP S H T N) (hr : RmP H T s lf u) (hlr : LfR T lf u) (ok : StOk u) (h23 : s < 23) (hro : hI H 83 48 = nI s) (hsi : SiP H T u) (hgh : PaH H T g) (hgi : PaI T lf u g) (hp : p < tNp T) : Hv mX11_spreads 1 [.ref 83, vN p] S H vB (fun x H' => x = spB T lf u p g (nW T) ∧ PaH H' T (spG T lf u p g) ∧ Off (fun q => q = 114 ∨ q = 116) H H') := by
  have hF := hs.fx; have hx := hs.mx; have hw := hs.mw; have tk := hs.tk; have tw := hs.tw; have hnp := tw.2.1; have hnc := tw.1; have hWn := nW_le tw; have hse := ok.se (p := p) (by omega)
  have l3 : ∀ (fz : Nat) (w : Nat) (b : Bool) (H1 : xH), nW T - w < fz → w ≤ nW T → b = spB T lf u p g w → (∀ key, key < 729 → hI H1 116 key = nI (mnF T lf u p g key (nW T))) → (∀ v, v < nW T → hI H1 114 v = nI (if v < w then spG T lf u p g v else g v)) → Off (fun q => q = 114 ∨ q = 116) H H1 → Xq mX11_spreads 1 0 0 89 [some (.ref 83), some (vN p), some (vB b), some (vN w), none] [] S H1 (fun R => ∃ x H', (fun x H' => x = spB T lf u p g (nW T) ∧ PaH H' T (spG T lf u p g) ∧ Off (fun q => q = 114 ∨ q = 116) H H') x H' ∧ R = (some (vB x), S, H')) := by
    intro fz
    induction fz with
    | zero => intro w  b  H1  hfz; exact absurd hfz (by omega)
    | succ fz ih =>
      intro w  b  H1  hfz hi hb hf hg ho
      skip
      have hro1 := (ho.I (by omega) 48).trans hro; have hr1 := hr.off ho (fun q a b => by omega); have hwo := (ho.I (by omega : ¬ (83 = 114 ∨ 83 = 116)) 36).trans hw.ws
      refine xq_iload_n dX11_spreads_89 rfl rfl ?_
      refine xq_aload_n dX11_spreads_90 rfl rfl ?_
      refine xq_getIE clX11 (by decide) rfl fl_RX11_335 dX11_spreads_91 (Fx.s83 hF) hwo ?_
      refine xq_icmp_geN dX11_spreads_94 rfl (by omega) (by omega) ⟨fun h94 => ?_, fun h94 => ?_⟩
      · skip
        refine xq_iload_n dX11_spreads_159 rfl rfl ?_
        refine xq_zret dX11_spreads_160 rfl (bI_01 _) ?_
        have ew : w = nW T := by omega
        subst ew
        exact ⟨b, H1, ⟨hb, fun v hv => by rw [hg v hv, if_pos hv], ho⟩, rfl⟩
      · skip
        have hww := h94
        have hgl := sgt_lt (s := uSe u p) tw hww
        have hgw := hgi.lt hww
        have hmn := (mnF_le (T := T) (lf := lf) (u := u) (p := p) (g := g) (key := sgt T (uSe u p) w) (nW T)).1
        refine xq_aload_n dX11_spreads_97 rfl rfl ?_
        refine xq_getF clX11 (by decide) rfl fl_RX11_100 dX11_spreads_98 (Fx.s83 hF) (Fx.r83_49 hF) ?_
        refine xq_sipush dX11_spreads_101 sp729 ?_
        refine xq_iload_n dX11_spreads_104 rfl rfl ?_
        refine xq_imulN dX11_spreads_105 ?_
        refine xq_iload_n dX11_spreads_106 rfl rfl ?_
        refine xq_iaddN dX11_spreads_107 ?_
        refine xq_ialdN dX11_spreads_108 (Fx.s112 hF) (by omega) (by decide) ((ho.I (by omega) _).trans (hsi p hp w hww)) ?_
        refine xq_istore dX11_spreads_109 rfl ?_
        refine xq_aload_n dX11_spreads_111 rfl rfl ?_
        refine xq_iload_n dX11_spreads_112 rfl rfl ?_
        refine xq_callV1P clX11 gd_X11_isHere dX11_spreads_113 ml_RX11_362 im_X11_isHere se_X11_isHere rfl (Fx.s83 hF) (by exact Nat.le_of_ble_eq_true rfl) (by decide) (m_isHere hF hro1 h23 (by omega) (hr1.lf w hww)) ?_
        refine xq_if_eqB dX11_spreads_116 rfl ⟨fun h116 => ?_, fun h116 => ?_⟩
        · skip
          refine xq_iincN dX11_spreads_153 ic1 rfl rfl ?_
          refine xq_goto dX11_spreads_156 rfl ?_
          have hl0 : lf w = false := by simpa using h116
          have e1 : spG T lf u p g w = g w := by unfold spG; rw [hl0]; rfl
          have e2 : spB T lf u p g (w + 1) = spB T lf u p g w := by show (spB T lf u p g w || _) = _; simp [hl0]
          exact xq_fgt (ih (w + 1) b H1 (by omega) (by omega) (by rw [e2]; exact hb) hf (fun v hv => by
            rw [hg v hv]
            by_cases e : v = w
            · subst e; rw [if_neg (by omega), if_pos (by omega), e1]
            · rw [ite_c (by omega : v < w ↔ v < w + 1)]) ho) (by exact And.intro rfl (And.intro rfl (And.intro rfl (And.intro rfl (trivial)))))
        · skip
          refine xq_aload_n dX11_spreads_119 rfl rfl ?_
          refine xq_getF clX11 (by decide) rfl fl_RX11_112 dX11_spreads_120 (Fx.s83 hF) (Fx.r83_53 hF) ?_
          refine xq_iload dX11_spreads_123 rfl ?_
          refine xq_ialdN dX11_spreads_125 (Fx.s116 hF) (by omega) (by decide) (hf _ hgl) ?_
          refine xq_aload_n dX11_spreads_126 rfl rfl ?_
          refine xq_getF clX11 (by decide) rfl fl_RX11_106 dX11_spreads_127 (Fx.s83 hF) (Fx.r83_51 hF) ?_
          refine xq_iload_n dX11_spreads_130 rfl rfl ?_
          refine xq_ialdN (v := nI (g w)) dX11_spreads_131 (Fx.s114 hF) (by omega) (by decide) ((hg w hww).trans (by rw [if_neg (by omega)])) ?_
          refine xq_icmp_neN dX11_spreads_132 rfl (by omega) (by omega) ⟨fun h132 => ?_, fun h132 => ?_⟩
          · skip
            refine xq_aload_n dX11_spreads_138 rfl rfl ?_
            refine xq_getF clX11 (by decide) rfl fl_RX11_106 dX11_spreads_139 (Fx.s83 hF) (Fx.r83_51 hF) ?_
            refine xq_iload_n dX11_spreads_142 rfl rfl ?_
            refine xq_aload_n dX11_spreads_143 rfl rfl ?_
            refine xq_getF clX11 (by decide) rfl fl_RX11_112 dX11_spreads_144 (Fx.s83 hF) (Fx.r83_53 hF) ?_
            refine xq_iload dX11_spreads_147 rfl ?_
            refine xq_ialdN dX11_spreads_149 (Fx.s116 hF) (by omega) (by decide) (hf _ hgl) ?_
            refine xq_iastN dX11_spreads_150 (Fx.s114 hF) (by omega) (by decide) ?_
            refine xq_iconst dX11_spreads_151 ic1 ?_
            refine xq_istore_n dX11_spreads_152 rfl rfl ?_
            refine xq_iincN dX11_spreads_153 ic1 rfl rfl ?_
            refine xq_goto dX11_spreads_156 rfl ?_
            have hl0 : lf w = true := by simpa using h116
            have e1 : spG T lf u p g w = mnF T lf u p g (sgt T (uSe u p) w) (nW T) := if_pos hl0
            have e2 : spB T lf u p g (w + 1) = true := by show (spB T lf u p g w || _) = _; simp [hl0, e1, h132]
            exact xq_fgt (ih (w + 1) true _ (by omega) (by omega) e2.symm (fun key hk => by rw [hI_sI, if_neg (by omega)]; exact hf key hk) (fun v hv => by
              rw [hI_sI]
              by_cases e : v = w
              · subst e; rw [if_pos ⟨rfl, rfl⟩, if_pos (by omega), e1]
              · rw [if_neg (by omega), hg v hv, ite_c (by omega : v < w ↔ v < w + 1)]) (Off.pI (A := (fun q => q = 114 ∨ q = 116)) ho (by omega) _ _)) (by exact And.intro rfl (And.intro rfl (And.intro rfl (And.intro rfl (trivial)))))
          · skip
            refine xq_goto dX11_spreads_135 rfl ?_
            refine xq_iincN dX11_spreads_153 ic1 rfl rfl ?_
            refine xq_goto dX11_spreads_156 rfl ?_
            have hl0 : lf w = true := by simpa using h116
            have e1 : spG T lf u p g w = g w := (if_pos hl0).trans h132
            have e2 : spB T lf u p g (w + 1) = spB T lf u p g w := by show (spB T lf u p g w || _) = _; simp [e1]
            exact xq_fgt (ih (w + 1) b H1 (by omega) (by omega) (by rw [e2]; exact hb) hf (fun v hv => by
              rw [hg v hv]
              by_cases e : v = w
              · subst e; rw [if_neg (by omega), if_pos (by omega), e1]
              · rw [ite_c (by omega : v < w ↔ v < w + 1)]) ho) (by exact And.intro rfl (And.intro rfl (And.intro rfl (And.intro rfl (trivial)))))
  have l2 : ∀ (fz : Nat) (w : Nat) (H1 : xH), nW T - w < fz → w ≤ nW T → (∀ key, key < 729 → hI H1 116 key = nI (mnF T lf u p g key w)) → PaH H1 T g → Off (fun q => q = 114 ∨ q = 116) H H1 → Xq mX11_spreads 1 0 0 28 [some (.ref 83), some (vN p), some (vN 0), some (vN w), none] [] S H1 (fun R => ∃ x H', (fun x H' => x = spB T lf u p g (nW T) ∧ PaH H' T (spG T lf u p g) ∧ Off (fun q => q = 114 ∨ q = 116) H H') x H' ∧ R = (some (vB x), S, H')) := by
    intro fz
    induction fz with
    | zero => intro w  H1  hfz; exact absurd hfz (by omega)
    | succ fz ih =>
      intro w  H1  hfz hi hf hg ho
      have hro1 := (ho.I (by omega) 48).trans hro; have hr1 := hr.off ho (fun q a b => by omega); have hwo := (ho.I (by omega : ¬ (83 = 114 ∨ 83 = 116)) 36).trans hw.ws
      refine xq_iload_n dX11_spreads_28 rfl rfl ?_
      refine xq_aload_n dX11_spreads_29 rfl rfl ?_
      refine xq_getIE clX11 (by decide) rfl fl_RX11_335 dX11_spreads_30 (Fx.s83 hF) hwo ?_
      refine xq_icmp_geN dX11_spreads_33 rfl (by omega) (by omega) ⟨fun h33 => ?_, fun h33 => ?_⟩
      · skip
        refine xq_iconst dX11_spreads_87 ic0 ?_
        refine xq_istore_n dX11_spreads_88 rfl rfl ?_
        have ew : w = nW T := by omega
        subst ew
        exact l3 (nW T + 1) 0 false H1 (by omega) (by omega) rfl hf (fun v hv => by rw [if_neg (by omega)]; exact hg v hv) ho
      · skip
        have hww := h33
        have hgl := sgt_lt (s := uSe u p) tw hww
        have hgw := hgi.lt hww
        have hmn := (mnF_le (T := T) (lf := lf) (u := u) (p := p) (g := g) (key := sgt T (uSe u p) w) w).1
        refine xq_aload_n dX11_spreads_36 rfl rfl ?_
        refine xq_getF clX11 (by decide) rfl fl_RX11_100 dX11_spreads_37 (Fx.s83 hF) (Fx.r83_49 hF) ?_
        refine xq_sipush dX11_spreads_40 sp729 ?_
        refine xq_iload_n dX11_spreads_43 rfl rfl ?_
        refine xq_imulN dX11_spreads_44 ?_
        refine xq_iload_n dX11_spreads_45 rfl rfl ?_
        refine xq_iaddN dX11_spreads_46 ?_
        refine xq_ialdN dX11_spreads_47 (Fx.s112 hF) (by omega) (by decide) ((ho.I (by omega) _).trans (hsi p hp w hww)) ?_
        refine xq_istore dX11_spreads_48 rfl ?_
        refine xq_aload_n dX11_spreads_50 rfl rfl ?_
        refine xq_iload_n dX11_spreads_51 rfl rfl ?_
        refine xq_callV1P clX11 gd_X11_isHere dX11_spreads_52 ml_RX11_362 im_X11_isHere se_X11_isHere rfl (Fx.s83 hF) (by exact Nat.le_of_ble_eq_true rfl) (by decide) (m_isHere hF hro1 h23 (by omega) (hr1.lf w hww)) ?_
        refine xq_if_eqB dX11_spreads_55 rfl ⟨fun h55 => ?_, fun h55 => ?_⟩
        · skip
          refine xq_iincN dX11_spreads_81 ic1 rfl rfl ?_
          refine xq_goto dX11_spreads_84 rfl ?_
          exact xq_fgt (ih (w + 1) H1 (by omega) (by omega) (fun key hk => by rw [hf key hk, mnF_s, show lf w = false by simpa using h55]; rfl) hg ho) (by exact And.intro rfl (And.intro rfl (And.intro rfl (And.intro rfl (trivial)))))
        · skip
          refine xq_aload_n dX11_spreads_58 rfl rfl ?_
          refine xq_getF clX11 (by decide) rfl fl_RX11_112 dX11_spreads_59 (Fx.s83 hF) (Fx.r83_53 hF) ?_
          refine xq_iload dX11_spreads_62 rfl ?_
          refine xq_aload_n dX11_spreads_64 rfl rfl ?_
          refine xq_getF clX11 (by decide) rfl fl_RX11_112 dX11_spreads_65 (Fx.s83 hF) (Fx.r83_53 hF) ?_
          refine xq_iload dX11_spreads_68 rfl ?_
          refine xq_ialdN dX11_spreads_70 (Fx.s116 hF) (by omega) (by decide) (hf _ hgl) ?_
          refine xq_aload_n dX11_spreads_71 rfl rfl ?_
          refine xq_getF clX11 (by decide) rfl fl_RX11_106 dX11_spreads_72 (Fx.s83 hF) (Fx.r83_51 hF) ?_
          refine xq_iload_n dX11_spreads_75 rfl rfl ?_
          refine xq_ialdN dX11_spreads_76 (Fx.s114 hF) (by omega) (by decide) (hg w hww) ?_
          refine xq_mminN dX11_spreads_77 ml_RX11_368 (by exact Nat.le_of_ble_eq_true rfl) (by decide) (by omega) (by omega) ?_
          refine xq_iastN dX11_spreads_80 (Fx.s116 hF) (by omega) (by decide) ?_
          refine xq_iincN dX11_spreads_81 ic1 rfl rfl ?_
          refine xq_goto dX11_spreads_84 rfl ?_
          exact xq_fgt (ih (w + 1) _ (by omega) (by omega) (fun key hk => by
            rw [hI_sI, mnF_s, show lf w = true by simpa using h55, Bool.true_and]
            by_cases e : key = sgt T (uSe u p) w
            · subst e; rw [if_pos ⟨rfl, rfl⟩, if_pos (by simp)]
            · rw [if_neg (fun z => e z.2), if_neg (by simp; exact fun z => e z.symm)]; exact hf key hk) (fun v hv => by rw [hI_sI, if_neg (by omega)]; exact hg v hv) (Off.pI (A := (fun q => q = 114 ∨ q = 116)) ho (by omega) _ _)) (by exact And.intro rfl (And.intro rfl (And.intro rfl (And.intro rfl (trivial)))))
  have l1 : ∀ (fz : Nat) (k : Nat) (H1 : xH), 729 - k < fz → k ≤ 729 → (∀ j, j < k → hI H1 116 j = nI 729) → PaH H1 T g → Off (fun q => q = 114 ∨ q = 116) H H1 → Xq mX11_spreads 1 0 0 4 [some (.ref 83), some (vN p), some (vN 0), some (vN k), none] [] S H1 (fun R => ∃ x H', (fun x H' => x = spB T lf u p g (nW T) ∧ PaH H' T (spG T lf u p g) ∧ Off (fun q => q = 114 ∨ q = 116) H H') x H' ∧ R = (some (vB x), S, H')) := by
    intro fz
    induction fz with
    | zero => intro k  H1  hfz; exact absurd hfz (by omega)
    | succ fz ih =>
      intro k  H1  hfz hk hz hg ho
      refine xq_iload_n dX11_spreads_4 rfl rfl ?_
      refine xq_sipush dX11_spreads_5 sp729 ?_
      refine xq_icmp_geN dX11_spreads_8 rfl (by omega) (by omega) ⟨fun h8 => ?_, fun h8 => ?_⟩
      · skip
        refine xq_iconst dX11_spreads_26 ic0 ?_
        refine xq_istore_n dX11_spreads_27 rfl rfl ?_
        exact l2 (nW T + 1) 0 H1 (by omega) (by omega) (fun key hk2 => hz key (by omega)) hg ho
      · skip
        refine xq_aload_n dX11_spreads_11 rfl rfl ?_
        refine xq_getF clX11 (by decide) rfl fl_RX11_112 dX11_spreads_12 (Fx.s83 hF) (Fx.r83_53 hF) ?_
        refine xq_iload_n dX11_spreads_15 rfl rfl ?_
        refine xq_sipush dX11_spreads_16 sp729 ?_
        refine xq_iastN dX11_spreads_19 (Fx.s116 hF) (by omega) (by decide) ?_
        refine xq_iincN dX11_spreads_20 ic1 rfl rfl ?_
        refine xq_goto dX11_spreads_23 rfl ?_
        refine ih (k + 1) _ (by omega) (by omega) (fun j hj => ?_) (fun v hv => by rw [hI_sI, if_neg (by omega)]; exact hg v hv) (Off.pI (A := (fun q => q = 114 ∨ q = 116)) ho (by omega) _ _)
        rw [hI_sI]
        by_cases e : j = k
        · rw [if_pos ⟨rfl, e⟩]
        · rw [if_neg (fun z => e z.2)]; exact hz j (by omega)
  refine vq_intro (by decide) (by exact Nat.le_of_ble_eq_true rfl) rfl ?_
  refine xq_iconst dX11_spreads_0 ic0 ?_
  refine xq_istore_n dX11_spreads_1 rfl rfl ?_
  refine xq_iconst dX11_spreads_2 ic0 ?_
  refine xq_istore_n dX11_spreads_3 rfl rfl ?_
  exact l1 730 0 H (by omega) (by omega) (fun j hj => absurd hj (by omega)) hgh Off.rf
theorem m_laysParts (hs : MsP S H T N) (hr : RmP H T s lf u) (hlr : LfR T lf u) (ok : StOk u) (h23 : s < 23) (hro : hI H 83 48 = nI s) (hsi : SiP H T u) : Nv mX11_laysParts 2 [.ref 83] S H (fun H' => JC u (cn u) ∧ (∃ pf, PaH H' T pf ∧ PfOk T lf u pf) ∧ Off (fun q => q = 114 ∨ q = 116) H H') := by
  have hF := hs.fx; have hx := hs.mx; have hw := hs.mw; have tk := hs.tk; have tw := hs.tw; have hnp := tw.2.1; have hnc := tw.1; have hWn := nW_le tw
  have lE : ∀ (H1 : xH) (g : Nat → Nat), PaH H1 T g → PaI T lf u g → (∀ p, p < tNp T → ∀ w, w < nW T → lf w = true → spG T lf u p g w = g w) → Off (fun q => q = 114 ∨ q = 116) H H1 → Xq mX11_laysParts 2 0 0 25 [some (.ref 83), some (vB false), none] [] S H1 (fun R => ∃ H', (fun H' => JC u (cn u) ∧ (∃ pf, PaH H' T pf ∧ PfOk T lf u pf) ∧ Off (fun q => q = 114 ∨ q = 116) H H') H' ∧ R = (none, S, H')) := by
    intro H1 g hgh hgi hfx ho
    refine xq_iload_n dX11_laysParts_25 rfl rfl ?_
    refine xq_if_eqB dX11_laysParts_26 rfl ⟨fun h26 => ?_, fun h26 => ?_⟩
    · skip
      refine xq_vret dX11_laysParts_60 rfl ?_
      have hjc := hgi.jc hlr tw (fun p hp => ok.se (p := p) (by omega)) hfx
      have hjn := cn_ok hjc
      refine ⟨H1, ⟨hjn, ⟨g, hgh, fun w hw => ⟨Nat.lt_of_le_of_lt (hgi.lt hw) hw, fun hl => ?_⟩⟩, ho⟩, rfl⟩
      have hg := (hgi w hw).2 hl
      refine ⟨hg.2.1, ?_⟩
      have := hjc.uniq hjn (hlr.lt hw hl)
      rw [← this]
      show _ = ct lf (g (unr lf (nW T) (ct lf w)))
      rw [unr_at hw hl]
    · skip
      exact absurd h26 (by decide)
  have lO : ∀ (fz : Nat) (g : Nat → Nat) (b : Bool) (H1 : xH), fb_sm g (nW T) < fz → PaH H1 T g → PaI T lf u g → Off (fun q => q = 114 ∨ q = 116) H H1 → Xq mX11_laysParts 2 0 0 25 [some (.ref 83), some (vB true), none] [] S H1 (fun R => ∃ H', (fun H' => JC u (cn u) ∧ (∃ pf, PaH H' T pf ∧ PfOk T lf u pf) ∧ Off (fun q => q = 114 ∨ q = 116) H H') H' ∧ R = (none, S, H')) := by
    intro fz
    induction fz with
    | zero => intro g  b  H1  hfz; exact absurd hfz (by omega)
    | succ fz ih =>
      intro g  b  H1  hfz hgh hgi ho
      refine xq_iload_n dX11_laysParts_25 rfl rfl ?_
      refine xq_if_eqB dX11_laysParts_26 rfl ⟨fun h26 => ?_, fun h26 => ?_⟩
      · skip
        exact absurd h26 (by decide)
      · skip
        have ih0 := ih
        have lI : ∀ (fz : Nat) (p : Nat) (g2 : Nat → Nat) (b : Bool) (H1 : xH), tNp T - p < fz → p ≤ tNp T → PaH H1 T g2 → PaI T lf u g2 → fb_sm g2 (nW T) ≤ fb_sm g (nW T) → (b = true → fb_sm g2 (nW T) < fb_sm g (nW T)) → (b = false → (∀ w, w < nW T → g2 w = g w) ∧ ∀ j, j < p → ∀ w, w < nW T → lf w = true → spG T lf u j g w = g w) → Off (fun q => q = 114 ∨ q = 116) H H1 → Xq mX11_laysParts 2 0 0 33 [some (.ref 83), some (vB b), some (vN p)] [] S H1 (fun R => ∃ H', (fun H' => JC u (cn u) ∧ (∃ pf, PaH H' T pf ∧ PfOk T lf u pf) ∧ Off (fun q => q = 114 ∨ q = 116) H H') H' ∧ R = (none, S, H')) := by
          intro fz
          induction fz with
          | zero => intro p  g2  b  H1  hfz; exact absurd hfz (by omega)
          | succ fz ih =>
            intro p  g2  b  H1  hfz hq hgh2 hgi2 hle hlt heq ho
            have hro1 := (ho.I (by omega) 48).trans hro; have hr1 := hr.off ho (fun q a b => by omega); have hs1 := hs.off (MoF.of (F := fun _ => False) ho (by omega)) (fun q a b => by omega) (by omega) (fun e => e) (fun e => e); have hx1 := hs1.mx; have hsi1 : SiP H1 T u := fun p hp w hw => (ho.I (by omega) _).trans (hsi p hp w hw)
            refine xq_iload_n dX11_laysParts_33 rfl rfl ?_
            refine xq_aload_n dX11_laysParts_34 rfl rfl ?_
            refine xq_getF clX11 (by decide) rfl fl_RX11_13 dX11_laysParts_35 (Fx.s83 hF) (Fx.r83_3 hF) ?_
            refine xq_iconst dX11_laysParts_38 ic1 ?_
            refine xq_ialdN dX11_laysParts_39 (Fx.s85 hF) (by omega) (by decide) hx1.np ?_
            refine xq_icmp_geN dX11_laysParts_40 rfl (by omega) (by omega) ⟨fun h40 => ?_, fun h40 => ?_⟩
            · skip
              refine xq_goto dX11_laysParts_57 rfl ?_
              have ep : p = tNp T := by omega
              subst ep
              cases hbb : b
              · obtain ⟨e1, e2⟩ := heq hbb
                have hgh3 : PaH H1 T g := fun w hw => by rw [hgh2 w hw, e1 w hw]
                exact xq_fgt (lE H1 g hgh3 hgi (fun p hp w hw hl => e2 p hp w hw hl) ho) (by exact And.intro rfl (And.intro rfl (trivial)))
              · have := hlt hbb
                exact xq_fgt (ih0 g2 true H1 (by omega) hgh2 hgi2 ho) (by exact And.intro rfl (And.intro rfl (trivial)))
            · skip
              refine xq_iload_n dX11_laysParts_43 rfl rfl ?_
              refine xq_aload_n dX11_laysParts_44 rfl rfl ?_
              refine xq_iload_n dX11_laysParts_45 rfl rfl ?_
              refine xq_callV1H clX11 gd_X11_spreads dX11_laysParts_46 ml_RX11_365 im_X11_spreads se_X11_spreads rfl (Fx.s83 hF) (by exact Nat.le_of_ble_eq_true rfl) (by decide) (m_spreads hs1 hr1 hlr ok h23 hro1 hsi1 hgh2 hgi2 h40) ?_
              intro x46 H46 p46
              obtain ⟨rfl, g46, o46⟩ := p46
              refine xq_ior dX11_laysParts_49 ?_
              rw [bI_or]
              refine xq_istore_n dX11_laysParts_50 rfl rfl ?_
              refine xq_iincN dX11_laysParts_51 ic1 rfl rfl ?_
              refine xq_goto dX11_laysParts_54 rfl ?_
              have hse := ok.se (p := p) (by omega)
              have hle2 : ∀ k, k < nW T → spG T lf u p g2 k ≤ g2 k := fun k hk => spG_le hgi2 tw hk
              have hsm := sm_lt hle2
              refine ih (p + 1) (spG T lf u p g2) _ H46 (by omega) (by omega) g46 (hgi2.sp hlr tw hse h40) (by omega) (fun hb => ?_) (fun hb => ?_) (ho.tr o46)
              · cases hbb : b
                · rw [hbb, Bool.false_or] at hb
                  obtain ⟨w, h1, h2⟩ := ex_iff.mp hb
                  simp only [Bool.and_eq_true, bne_iff_ne] at h2
                  have := hsm.2 ⟨w, h1, h2.2⟩
                  omega
                · have := hlt hbb; have := hsm.1; omega
              · obtain ⟨hb1, hb2⟩ := Bool.or_eq_false_iff.mp hb
                obtain ⟨e1, e2⟩ := heq hb1
                have e3 : ∀ w, w < nW T → lf w = true → spG T lf u p g2 w = g2 w := fun w hw hl => by
                  apply Classical.byContradiction
                  intro hne
                  have : spB T lf u p g2 (nW T) = true := ex_iff.mpr ⟨w, hw, by simp [hl, hne]⟩
                  rw [this] at hb2; cases hb2
                have e4 : ∀ w, w < nW T → spG T lf u p g2 w = g2 w := fun w hw => by
                  cases hl : lf w
                  · unfold spG; rw [hl]; rfl
                  · exact e3 w hw hl
                refine ⟨fun w hw => (e4 w hw).trans (e1 w hw), fun j hj w hw hl => ?_⟩
                by_cases ej : j = p
                · subst ej
                  have e5 : spG T lf u j g w = spG T lf u j g2 w := by
                    unfold spG mnF
                    rw [if_pos hl, if_pos hl]
                    exact fo_cong (fun k hk y => by rw [e1 k hk])
                  rw [e5, e3 w hw hl, e1 w hw]
                · exact e2 j (by omega) w hw hl
        refine xq_iconst dX11_laysParts_29 ic0 ?_
        refine xq_istore_n dX11_laysParts_30 rfl rfl ?_
        refine xq_iconst dX11_laysParts_31 ic0 ?_
        refine xq_istore_n dX11_laysParts_32 rfl rfl ?_
        exact lI (tNp T + 1) 0 g false H1 (by omega) (by omega) hgh hgi (Nat.le_refl _) (fun z => by cases z) (fun _ => ⟨fun w hw => rfl, fun j hj => absurd hj (by omega)⟩) ho
  have l1 : ∀ (fz : Nat) (w : Nat) (H1 : xH), nW T - w < fz → w ≤ nW T → (∀ v, v < w → hI H1 114 v = nI v) → Off (fun q => q = 114 ∨ q = 116) H H1 → Xq mX11_laysParts 2 0 0 2 [some (.ref 83), some (vN w), none] [] S H1 (fun R => ∃ H', (fun H' => JC u (cn u) ∧ (∃ pf, PaH H' T pf ∧ PfOk T lf u pf) ∧ Off (fun q => q = 114 ∨ q = 116) H H') H' ∧ R = (none, S, H')) := by
    intro fz
    induction fz with
    | zero => intro w  H1  hfz; exact absurd hfz (by omega)
    | succ fz ih =>
      intro w  H1  hfz hi hg ho
      refine xq_iload_n dX11_laysParts_2 rfl rfl ?_
      refine xq_aload_n dX11_laysParts_3 rfl rfl ?_
      refine xq_getIE clX11 (by decide) rfl fl_RX11_335 dX11_laysParts_4 (Fx.s83 hF) ((ho.I (by omega) 36).trans hw.ws) ?_
      refine xq_icmp_geN dX11_laysParts_7 rfl (by omega) (by omega) ⟨fun h7 => ?_, fun h7 => ?_⟩
      · skip
        refine xq_iconst dX11_laysParts_23 ic1 ?_
        refine xq_istore_n dX11_laysParts_24 rfl rfl ?_
        refine lO (fb_sm (fun w => w) (nW T) + 1) (fun w => w) true H1 (by omega) (fun v hv => hg v (by omega)) (fun v hv => ⟨fun _ => rfl, fun hl => ⟨Nat.le_refl _, hl, fun A _ => Iff.rfl⟩⟩) ho
      · skip
        refine xq_aload_n dX11_laysParts_10 rfl rfl ?_
        refine xq_getF clX11 (by decide) rfl fl_RX11_106 dX11_laysParts_11 (Fx.s83 hF) (Fx.r83_51 hF) ?_
        refine xq_iload_n dX11_laysParts_14 rfl rfl ?_
        refine xq_iload_n dX11_laysParts_15 rfl rfl ?_
        refine xq_iastN dX11_laysParts_16 (Fx.s114 hF) (by omega) (by decide) ?_
        refine xq_iincN dX11_laysParts_17 ic1 rfl rfl ?_
        refine xq_goto dX11_laysParts_20 rfl ?_
        refine ih (w + 1) _ (by omega) (by omega) (fun v hv => ?_) (Off.pI (A := (fun q => q = 114 ∨ q = 116)) ho (by omega) _ _)
        rw [hI_sI]
        by_cases e : v = w
        · rw [if_pos ⟨rfl, e⟩, e]
        · rw [if_neg (fun z => e z.2)]; exact hg v (by omega)
  refine vq_intro (by decide) (by exact Nat.le_of_ble_eq_true rfl) rfl ?_
  refine xq_iconst dX11_laysParts_0 ic0 ?_
  refine xq_istore_n dX11_laysParts_1 rfl rfl ?_
  exact l1 (nW T + 1) 0 H (by omega) (by omega) (fun v hv => absurd hv (by omega)) Off.rf
end PT
