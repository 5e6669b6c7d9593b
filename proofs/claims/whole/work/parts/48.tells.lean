/-! ===== the reference: a fact is told ===== -/
section TE
variable {S : xS} {H H1 H2 H3 : xH} {T : uTx} {N : Nat → Nat → Nat} {s a b c w p q n i j k x y m l f odds : Nat} {lf fb : Nat → Bool} {u v : uSt} {ow mu : Int} {dr : Bool}
theorem kep_gl (h : ∀ w, w < n → lf w = true → uW u (ct lf w) = Wd T w) (fb : Nat → Bool) : kep u fb (ct lf n) = gl (fun w => lf w && fb (ct lf w)) (Wd T) n := by
  induction n with
  | zero => rfl
  | succ n ih =>
    have ih2 := ih (fun w hw => h w (by omega))
    cases hl : lf n
    · rw [ct_f hl, ih2, gl_f (by rw [hl]; rfl)]
    · rw [ct_t hl]
      cases hf : fb (ct lf n)
      · rw [kep_f hf, ih2, gl_f (by rw [hl, hf]; rfl)]
      · rw [kep_t hf, ih2, gl_t (by rw [hl, hf]; rfl), h n (by omega) hl]
theorem LfR.keep (h : LfR T lf u) (hf : fb (uRl u) = true) : LfR T (fun w => lf w && fb (ct lf w)) (uKeep u fb) := by
  refine ⟨?_, h.2.1, ?_, ?_, h.2.2.2.2⟩
  · show kep u fb (uZ u) = _
    rw [h.z]
    exact kep_gl (fun w hw hl => h.wd hw hl) fb
  · show (lf (trW T) && fb (ct lf (trW T))) = true
    rw [h.2.2.1, ← h.2.2.2.1, hf]; rfl
  · show ct fb (uRl u) = ct (fun w => lf w && fb (ct lf w)) (trW T)
    rw [h.2.2.2.1]
    exact (ct_rank (lf := lf) (f := fb) (fun w _ => rfl)).symm
theorem LfR.sf (h : LfR T lf u) {k : Nat} (h5 : k ≠ 5) (h6 : k ≠ 6) (x : Nat) : LfR T lf (uSetF u k x) := by
  refine ⟨h.1, h.2.1, h.2.2.1, ?_, ?_⟩
  · show (if 5 = k then x else uF u 5) = _
    rw [if_neg (fun e => h5 e.symm)]; exact h.2.2.2.1
  · show (if 6 = k then x else uF u 6) = _
    rw [if_neg (fun e => h6 e.symm)]; exact h.2.2.2.2
theorem LfR.cong (h : LfR T lf u) {lf2 : Nat → Bool} (e : ∀ w, w < nW T → lf2 w = lf w) : LfR T lf2 u := by
  have g : ∀ n, n ≤ nW T → gl lf2 (Wd T) n = gl lf (Wd T) n ∧ ct lf2 n = ct lf n := by
    intro n
    induction n with
    | zero => intro _; exact ⟨rfl, rfl⟩
    | succ n ih =>
      intro hn
      obtain ⟨a, b⟩ := ih (by omega)
      have e1 := e n (by omega)
      cases hl : lf n
      · rw [hl] at e1
        rw [gl_f e1, gl_f hl, ct_f e1, ct_f hl]; exact ⟨a, b⟩
      · rw [hl] at e1
        rw [gl_t e1, gl_t hl, ct_t e1, ct_t hl, a, b]; exact ⟨rfl, rfl⟩
  have ht := h.2.1
  exact ⟨by rw [(g _ (Nat.le_refl _)).1]; exact h.1, h.2.1, by rw [e _ ht]; exact h.2.2.1, by rw [(g _ (by omega)).2]; exact h.2.2.2.1, h.2.2.2.2⟩

/-- States of which the worlds, the true one, the people and who sees whom are the same -/
theorem sam_kv (h : Sam u v) : ky v = ky u ∧ own v = own u ∧ cn v = cn u ∧ (∀ k p, kv T v k p = kv T u k p) ∧ kns v = kns u ∧ (JC u (cn u) → JC v (cn v)) := by
  obtain ⟨h1, h2, h3, -, -, -, h7⟩ := h
  have eW : uW v = uW u := by funext p; unfold uW; rw [h1]
  have eZ : uZ v = uZ u := by show (uLf v).length = _; rw [h1]
  have eS : uSe v = uSe u := funext h7
  have eN : uNp v = uNp u := h3
  have eR : uRl v = uRl u := h2
  have eK : ky v = ky u := by funext i p; unfold ky; rw [eW, eS]
  have eO : own v = own u := by funext i p; unfold own acc; rw [eK, eW, eZ]
  have eJ : JC v = JC u := by funext c; unfold JC JA Clo; rw [eK, eZ, eN]
  have eC : cn v = cn u := by unfold cn; rw [eJ]
  have eT : ∀ n k p, kvt T v n k p = kvt T u n k p := by
    intro n
    induction n with
    | zero => intro k p; rfl
    | succ n ih =>
      have e : kvt T v n = kvt T u n := by funext k p; exact ih k p
      intro k p
      show (if k = n then kst T v (kvt T v n) n p else kvt T v n k p) = (if k = n then kst T u (kvt T u n) n p else kvt T u n k p)
      rw [e]
      unfold kst
      rw [eW, eO, eN, eK, eZ, eC]
  refine ⟨eK, eO, eC, fun k p => ?_, ?_, fun g => by rw [eJ, eC]; exact g⟩
  · unfold kv
    rw [show kvt T v k = kvt T u k by funext a b; exact eT k a b]
    unfold kst
    rw [eW, eO, eN, eK, eZ, eC]
  · unfold kns kn cfr alk
    rw [eW, eZ, eS, eR, eN]
theorem LfR.sam (h : LfR T lf u) (hs : Sam u v) : LfR T lf v := ⟨hs.1.trans h.1, h.2.1, h.2.2.1, hs.2.1.trans h.2.2.2.1, hs.2.2.1.trans h.2.2.2.2⟩
theorem LdP.sam (h : LdP S H T N lf u s) (hs : Sam u v) (hr : RmP H T s lf v) (ok : StOk v) : LdP S H T N lf v s := by
  obtain ⟨e1, e2, e3, e4, e5, e6⟩ := sam_kv (T := T) hs
  have eS : uSe v = uSe u := funext hs.2.2.2.2.2.2
  refine ⟨h.ms, hr, h.lr.sam hs, ok, h.s23, h.ro, fun p hp w hw => by rw [eS]; exact h.si p hp w hw, fun p hp w hw => by rw [e2]; exact h.kn p hp w hw, ?_, e6 h.jc, fun f hf => ?_⟩
  · obtain ⟨pf, a, b⟩ := h.pa
    exact ⟨pf, a, fun w hw => by rw [e3]; exact b w hw⟩
  · obtain ⟨Rw, a, b⟩ := h.so f hf
    exact ⟨Rw, a, fun w hw hl => by rw [e4]; exact b w hw hl⟩
/-- a step in room s: what it pictures then -/
def DyQ (H H2 : xH) (T : uTx) (s : Nat) (lf2 : Nat → Bool) (u2 : uSt) : Prop := RmP H2 T s lf2 u2 ∧ LfR T lf2 u2 ∧ (∀ s', s' ≠ s → RmE H H2 s') ∧ MoF (fun q => q = 83 ∨ q = 101 ∨ q = 102 ∨ (104 ≤ q ∧ q ≤ 118)) (fun k => k = 34 ∨ k = 48 ∨ k = 56) H H2
theorem DyQ.tr {lf2 lf3 : Nat → Bool} {u2 u3 : uSt} (h : DyQ H H2 T s lf2 u2) (h2 : DyQ H2 H3 T s lf3 u3) : DyQ H H3 T s lf3 u3 := ⟨h2.1, h2.2.1, fun s' e => (h.2.2.1 s' e).tr (h2.2.2.1 s' e), h.2.2.2.tr h2.2.2.2⟩
theorem MsP.dy {lf2 : Nat → Bool} {u2 : uSt} (h : MsP S H T N) (hd : DyQ H H2 T s lf2 u2) : MsP S H2 T N := h.off hd.2.2.2 (fun q a b => by omega) (by omega) (by omega) (by omega)
theorem DyQ.ld {F2 A2 : Nat → Prop} (hr : RmP H2 T s lf u) (hl : LfR T lf u) (ho : MoF A2 F2 H H2) (h0 : ∀ q, 104 ≤ q → q ≤ 111 → ¬ A2 q) (h1 : ∀ q, A2 q → (fun q => q = 83 ∨ q = 101 ∨ q = 102 ∨ (104 ≤ q ∧ q ≤ 118)) q) (h2 : ∀ q, F2 q → (fun k => k = 34 ∨ k = 48 ∨ k = 56) q) : DyQ H H2 T s lf u := ⟨hr, hl, fun s' _ => RmE.of ho.1 h0, ho.mo h1 h2⟩
theorem m_tells (hs : MsP S H T N) (hr : RmP H T s lf u) (hlr : LfR T lf u) (ok : StOk u) (h23 : s < 23) (hf : f < tNf T) : Hv mX11_tells 5 [.ref 83, vN s, vN f] S H vB (fun x H' => x = kv T u (tRo T f) (uRl u) ∧ ∃ lf2, DyQ H H' T s lf2 (hea T u f)) := by
  have hF := hs.fx; have hx := hs.mx; have hw := hs.mw; have tk := hs.tk; have tw := hs.tw; have hnp := tw.2.1; have hnc := tw.1; have hWn := nW_le tw; have htr := hlr.2.1; have hnf8 := tk.nf; have hhd := ok.2.2.2.2.2.2.1
  refine vq_intro (by decide) (by exact Nat.le_of_ble_eq_true rfl) rfl ?_
  refine xq_aload_n dX11_tells_0 rfl rfl ?_
  refine xq_iload_n dX11_tells_1 rfl rfl ?_
  refine xq_callV1N clX11 gd_X11_lays dX11_tells_2 ml_RX11_428 im_X11_lays se_X11_lays rfl (Fx.s83 hF) (by exact Nat.le_of_ble_eq_true rfl) (by decide) (m_lays hs hr hlr ok h23) ?_
  intro H2 p2
  obtain ⟨hd0, hm0⟩ := p2
  have hr0 := hd0.rm; have hw0 := hd0.ms.mw
  obtain ⟨Rw, r1, r2⟩ := hd0.so f hf
  have hrt : hI H2 117 (729 * f + trW T) = bI (kv T u (tRo T f) (uRl u)) := by rw [r1 _ htr, r2 _ htr hlr.2.2.1, hlr.2.2.2.1]
  refine xq_aload_n dX11_tells_5 rfl rfl ?_
  refine xq_getF clX11 (by decide) rfl fl_RX11_115 dX11_tells_6 (Fx.s83 hF) (Fx.r83_54 hF) ?_
  refine xq_sipush dX11_tells_9 sp729 ?_
  refine xq_iload_n dX11_tells_12 rfl rfl ?_
  refine xq_imulN dX11_tells_13 ?_
  refine xq_aload_n dX11_tells_14 rfl rfl ?_
  refine xq_getIE clX11 (by decide) rfl fl_RX11_338 dX11_tells_15 (Fx.s83 hF) hw0.tr ?_
  refine xq_iaddN dX11_tells_18 ?_
  refine xq_zaldN dX11_tells_19 (Fx.s117 hF) (by omega) (by decide) hrt ?_
  refine xq_if_neB dX11_tells_20 rfl ⟨fun h20 => ?_, fun h20 => ?_⟩
  · skip
    refine xq_iconst dX11_tells_25 ic0 ?_
    refine xq_istore_n dX11_tells_26 rfl rfl ?_
    have hkt0 := h20
    have lp : ∀ (fz : Nat) (w : Nat) (H9 : xH), nW T - w < fz → w ≤ nW T → (∀ v, v < nW T → hI H9 111 (729 * s + v) = bI (if v < w then lf v && Rw v else lf v)) → (∀ k, (k < 729 * s ∨ 729 * s + 729 ≤ k) → hI H9 111 k = hI H2 111 k) → Off (fun q => q = 111) H2 H9 → Xq mX11_tells 5 0 0 27 [some (.ref 83), some (vN s), some (vN f), some (vN w)] [] S H9 (fun R => ∃ x H', (fun x H' => x = kv T u (tRo T f) (uRl u) ∧ ∃ lf2, DyQ H H' T s lf2 (hea T u f)) x H' ∧ R = (some (vB x), S, H')) := by
      intro fz
      induction fz with
      | zero => intro w  H9  hfz; exact absurd hfz (by omega)
      | succ fz ih =>
        intro w  H9  hfz hi hg he ho2
        refine xq_iload_n dX11_tells_27 rfl rfl ?_
        refine xq_aload_n dX11_tells_28 rfl rfl ?_
        refine xq_getIE clX11 (by decide) rfl fl_RX11_335 dX11_tells_29 (Fx.s83 hF) ((ho2.I (by omega) 36).trans hw0.ws) ?_
        refine xq_icmp_geN dX11_tells_32 rfl (by omega) (by omega) ⟨fun h32 => ?_, fun h32 => ?_⟩
        · skip
          refine xq_aload_n dX11_tells_68 rfl rfl ?_
          refine xq_getF clX11 (by decide) rfl fl_RX11_81 dX11_tells_69 (Fx.s83 hF) (Fx.r83_40 hF) ?_
          refine xq_iload_n dX11_tells_72 rfl rfl ?_
          refine xq_dup2 dX11_tells_73 rfl rfl ?_
          refine xq_ialdN dX11_tells_74 (Fx.s106 hF) (by omega) (by decide) ((ho2.I (by omega) s).trans hr0.hd) ?_
          refine xq_iconst dX11_tells_75 ic1 ?_
          refine xq_iaddN dX11_tells_76 ?_
          refine xq_iastN dX11_tells_77 (Fx.s106 hF) (by omega) (by decide) ?_
          refine xq_iconst dX11_tells_78 ic1 ?_
          refine xq_zret dX11_tells_79 rfl (by decide) ?_
          have hkt : kv T u (tRo T f) (uRl u) = true := hkt0
          have hea1 : hea T u f = heaU T u f := if_pos hkt
          refine ⟨true, _, ⟨hkt.symm, fun w => lf w && kv T u (tRo T f) (ct lf w), ?_⟩, rfl⟩
          rw [hea1]
          have hlk := hlr.keep (fb := kv T u (tRo T f)) hkt
          have hrm : ∀ q, 104 ≤ q → q ≤ 110 → ∀ k, hI H9 q k = hI H q k := fun q a b k => (ho2.I (by omega) k).trans ((hm0.1.I (by omega) k))
          refine ⟨⟨fun v hv => ?_, ?_, ?_, ?_, ?_, ?_, fun p hp => ?_, fun p hp => ?_⟩, hlk.sf (by decide) (by decide) _, fun s' hs' => ⟨fun v hv => ?_, fun q a b => ?_, fun p hp => ?_⟩, ?_⟩
          · rw [hI_sI, if_neg (by omega), hg v hv, if_pos (by omega)]
            show bI (lf v && Rw v) = bI (lf v && kv T u (tRo T f) (ct lf v))
            cases hlv : lf v
            · rfl
            · rw [r2 v hv hlv]
          · rw [hI_sI, if_neg (by omega), hrm 104 (by decide) (by decide)]; exact hr.hr
          · rw [hI_sI, if_neg (by omega), hrm 105 (by decide) (by decide)]; exact hr.la
          · rw [hI_sI, if_pos ⟨rfl, rfl⟩]; rfl
          · rw [hI_sI, if_neg (by omega), hrm 107 (by decide) (by decide)]; exact hr.li
          · rw [hI_sI, if_neg (by omega), hrm 108 (by decide) (by decide)]; exact hr.sd
          · rw [hI_sI, if_neg (by omega), hrm 109 (by decide) (by decide)]; exact hr.se p hp
          · rw [hI_sI, if_neg (by omega), hrm 110 (by decide) (by decide)]; exact hr.pz p hp
          · rw [hI_sI, if_neg (by omega), he _ (by omega)]; exact hm0.1.I (by omega) _
          · rw [hI_sI, if_neg (fun z => hs' z.2), hrm q a (by omega)]
          · rw [hI_sI, if_neg (by omega), hI_sI, if_neg (by omega), hrm 109 (by decide) (by decide), hrm 110 (by decide) (by decide)]; exact ⟨rfl, rfl⟩
          · refine MoF.pI (A := (fun q => q = 83 ∨ q = 101 ∨ q = 102 ∨ (104 ≤ q ∧ q ≤ 118))) ?_ (by omega) (by decide) _ _
            exact (hm0.mo (fun q h => by omega) (fun k h => Or.inr h)).tr (MoF.mo (MoF.of (F := fun _ => False) ho2 (by omega)) (fun q h => by omega) (fun k h => absurd h (fun e => e)))
        · skip
          refine xq_aload_n dX11_tells_35 rfl rfl ?_
          refine xq_getF clX11 (by decide) rfl fl_RX11_96 dX11_tells_36 (Fx.s83 hF) (Fx.r83_45 hF) ?_
          refine xq_sipush dX11_tells_39 sp729 ?_
          refine xq_iload_n dX11_tells_42 rfl rfl ?_
          refine xq_imulN dX11_tells_43 ?_
          refine xq_iload_n dX11_tells_44 rfl rfl ?_
          refine xq_iaddN dX11_tells_45 ?_
          refine xq_dup2 dX11_tells_46 rfl rfl ?_
          refine xq_zaldN (v := bI (lf w)) dX11_tells_47 (Fx.s111 hF) (by omega) (by decide) ((hg w h32).trans (by rw [if_neg (by omega)])) ?_
          refine xq_aload_n dX11_tells_48 rfl rfl ?_
          refine xq_getF clX11 (by decide) rfl fl_RX11_115 dX11_tells_49 (Fx.s83 hF) (Fx.r83_54 hF) ?_
          refine xq_sipush dX11_tells_52 sp729 ?_
          refine xq_iload_n dX11_tells_55 rfl rfl ?_
          refine xq_imulN dX11_tells_56 ?_
          refine xq_iload_n dX11_tells_57 rfl rfl ?_
          refine xq_iaddN dX11_tells_58 ?_
          refine xq_zaldN (v := bI (Rw w)) dX11_tells_59 (Fx.s117 hF) (by omega) (by decide) ((ho2.I (by omega) _).trans (r1 w h32)) ?_
          refine xq_iand dX11_tells_60 ?_
          rw [bI_and]
          refine xq_zastN dX11_tells_61 (Fx.s111 hF) (by omega) (by decide) (bI_01 _) ?_
          refine xq_iincN dX11_tells_62 ic1 rfl rfl ?_
          refine xq_goto dX11_tells_65 rfl ?_
          refine ih (w + 1) _ (by omega) (by omega) (fun v hv => ?_) (fun k hk => by rw [hI_sI, if_neg (by omega)]; exact he k hk) (Off.pI (A := fun q => q = 111) ho2 rfl _ _)
          rw [hI_sI]
          by_cases e : v = w
          · subst e; rw [if_pos ⟨rfl, rfl⟩, if_pos (by omega)]
          · rw [if_neg (by omega), hg v hv, ite_c (by omega : v < w ↔ v < w + 1)]
    exact lp (nW T + 1) 0 H2 (by omega) (by omega) (fun v hv => by rw [if_neg (by omega)]; exact hr0.lf v hv) (fun _ _ => rfl) Off.rf
  · skip
    refine xq_iconst dX11_tells_23 ic0 ?_
    refine xq_zret dX11_tells_24 rfl (by decide) ?_
    exact ⟨false, H2, ⟨h20.symm, lf, by rw [show hea T u f = u from if_neg (by rw [h20]; decide)]; exact DyQ.ld hr0 hlr hm0 (fun q a b => by omega) (fun q h => by omega) (fun q h => Or.inr h)⟩, rfl⟩
end TE
