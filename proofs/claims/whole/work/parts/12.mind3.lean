/-! ===== Mind: stamps; who knows that; all know ===== -/
section MT
variable {S : xS} {H H1 H2 : xH} {a : Nat} {u : uSt} {i j c p k x y n t : Nat} {f : Nat → Bool} {so : Bool}
def bad (H : xH) (u : uSt) (i x key n : Nat) : Bool := ex (fun p => ky u i p == key && !(rx H p x)) n
def Stm (H1 H : xH) (u : uSt) (i x t n : Nat) : Prop := ∀ key, key < 4096 → ∃ s, s ≤ t + 1 ∧ hI H1 17 key = nI s ∧ (s = t + 1 ↔ bad H u i x key n = true)
theorem Stm.eq (h : Stm H1 H u i x t n) (ht : t + 1 < 2147483648) {key : Nat} (hk : key < 4096) : (hI H1 17 key = nI (t + 1)) ↔ bad H u i x key n = true := by
  obtain ⟨s, hs, e, q⟩ := h key hk
  rw [← q, e]
  exact nq_eq (by omega) (by omega)
theorem Stm.mi (h : Stm H1 H u i x t n) (h2 : hI H1 16 2 = nI (t + 1)) : MiP H1 (t + 1) := ⟨h2, fun key hk => by
  obtain ⟨s, hs, e, -⟩ := h key hk
  exact ⟨s, hs, e⟩⟩
theorem Stm.skip (h : Stm H1 H u i x t n) (hb : rx H n x = true) : Stm H1 H u i x t (n + 1) := fun key hk => by
  obtain ⟨s, hs, e, q⟩ := h key hk
  exact ⟨s, hs, e, by unfold bad at q ⊢; rw [ex_s, hb]; simpa using q⟩
theorem Stm.put (h : Stm H1 H u i x t n) (hb : rx H n x = false) : Stm (sI H1 17 (ky u i n) (nI (t + 1))) H u i x t (n + 1) := fun key hk => by
  obtain ⟨s, hs, e, q⟩ := h key hk
  by_cases z : ky u i n = key
  · subst z
    exact ⟨t + 1, Nat.le_refl _, by simp [hI_sI], by unfold bad; rw [ex_s, hb]; simp⟩
  · have z2 : ¬ key = ky u i n := fun w => z w.symm
    refine ⟨s, hs, by simp [hI_sI, z2, e], ?_⟩
    unfold bad at q ⊢
    rw [ex_s, hb, show (ky u i n == key) = false by simpa using z]
    simpa using q
theorem ColS.upd (h : ColS H H1 n k f) (hs : SetS H1 H2 p k so) (hp : p < n) : ColS H H2 n k (fun q => if q = p then so else f q) := by
  intro q j hj
  by_cases hq : q = p
  · subst hq
    rw [hs.2 j hj]
    by_cases hk : j = k
    · rw [if_pos hk, if_pos ⟨hp, hk⟩]; simp
    · rw [if_neg hk, if_neg (fun z => hk z.2), h q j hj, if_neg (fun z => hk z.2)]
  · show rb (hL H2 19 q) j = _
    rw [hs.1 q hq]
    show rx H1 q j = _
    rw [h q j hj]
    by_cases hk : q < n ∧ j = k
    · rw [if_pos hk, if_pos hk]; simp [hq]
    · rw [if_neg hk, if_neg hk]
theorem c_stampFalse (hF : gFx S) (ha : gSt S a) (h67 : 67 ≤ a) (hu : StP H a u) (ok : StOk u) (hm : MiP H t) (ht : t + 1 < 2147483648) (hi : i < 6) (hx : x < 64) : Nv mX4_stampFalse 0 [.ref 16, .ref a, vN i, vN x] S H (fun H' => Off (fun q => q = 16 ∨ q = 17) H H' ∧ hI H' 16 2 = nI (t + 1) ∧ hI H' 16 5 = hI H 16 5 ∧ Stm H' H u i x t (uZ u)) := by
  have hz := ok.n
  have lp : ∀ (n : Nat) (p : Nat) (H1 : xH), uZ u - p < n → p ≤ uZ u → Off (fun q => q = 16 ∨ q = 17) H H1 → hI H1 16 2 = nI (t + 1) → hI H1 16 5 = hI H 16 5 → Stm H1 H u i x t p → Xq mX4_stampFalse 0 0 0 21 [some (.ref 16), some (.ref a), some (vN i), some (vN x), some (vN (vm (uSe u i))), some (vN p)] [] S H1 (fun R => ∃ H', (fun H' => Off (fun q => q = 16 ∨ q = 17) H H' ∧ hI H' 16 2 = nI (t + 1) ∧ hI H' 16 5 = hI H 16 5 ∧ Stm H' H u i x t (uZ u)) H' ∧ R = (none, S, H')) := by
    intro n
    induction n with
    | zero => intro p  H1  hn; exact absurd hn (by omega)
    | succ n ih =>
      intro p  H1  hn hp ho h2 h5 hg
      have hu1 := hu.off ho (fun j hj => by omega)
      refine xq_iload dX4_stampFalse_21 rfl ?_
      refine xq_aload_n dX4_stampFalse_23 rfl rfl ?_
      refine xq_getIE clX7 (by decide) rfl fl_RX4_85 dX4_stampFalse_24 (St.s0 ha) hu1.sz ?_
      refine xq_icmp_geN dX4_stampFalse_27 rfl (by omega) (by omega) ⟨fun h27 => ?_, fun h27 => ?_⟩
      · skip
        refine xq_vret dX4_stampFalse_75 rfl ?_
        exact ⟨H1, ⟨ho, h2, h5, by rw [show uZ u = p by omega]; exact hg⟩, rfl⟩
      · skip
        have hkl2 : uW u p &&& vm (uSe u i) &&& 4095 < 4096 := ky_lt u i p
        have hv := rb_z (w := hL H1 19 p) hx; rw [← lg_cmp_eq, ho.L (by omega)] at hv
        refine xq_aload_n dX4_stampFalse_30 rfl rfl ?_
        refine xq_getF clX4 (by decide) rfl fl_RX4_18 dX4_stampFalse_31 (Fx.s16 hF) (Fx.r16_3 hF) ?_
        refine xq_iload dX4_stampFalse_34 rfl ?_
        refine xq_laldN (v := hL H 19 p) dX4_stampFalse_36 (Fx.s19 hF) (by omega) (by decide) (ho.L (by omega) p) ?_
        refine xq_iload_n dX4_stampFalse_37 rfl rfl ?_
        refine xq_lushr dX4_stampFalse_38 ?_
        refine xq_lconst dX4_stampFalse_39 lc1 ?_
        refine xq_land dX4_stampFalse_40 ?_
        refine xq_lconst dX4_stampFalse_41 lc0 ?_
        refine xq_lcmp dX4_stampFalse_42 ?_
        refine xq_if_ne dX4_stampFalse_43 rfl ⟨fun h43 => ?_, fun h43 => ?_⟩
        · skip
          refine xq_iincN dX4_stampFalse_69 ic1 rfl rfl ?_
          refine xq_goto dX4_stampFalse_72 rfl ?_
          exact ih (p + 1) H1 (by omega) (by omega) ho h2 h5 (hg.skip (Bool.not_eq_false _ ▸ (fun z => h43 (hv.mpr z))))
        · skip
          refine xq_aload_n dX4_stampFalse_46 rfl rfl ?_
          refine xq_getF clX4 (by decide) rfl fl_RX4_9 dX4_stampFalse_47 (Fx.s16 hF) (Fx.r16_0 hF) ?_
          refine xq_aload_n dX4_stampFalse_50 rfl rfl ?_
          refine xq_getF clX7 (by decide) rfl fl_RX4_88 dX4_stampFalse_51 (St.s0 ha) (St.r0 ha) ?_
          refine xq_iload dX4_stampFalse_54 rfl ?_
          refine xq_ialdN dX4_stampFalse_56 (St.s1 ha) (by omega) (by decide) (hu1.w h27) ?_
          refine xq_iload dX4_stampFalse_57 rfl ?_
          refine xq_iandN dX4_stampFalse_59 ?_
          refine xq_sipush dX4_stampFalse_60 sp4095 ?_
          refine xq_iandN dX4_stampFalse_63 ?_
          refine xq_aload_n dX4_stampFalse_64 rfl rfl ?_
          refine xq_getIE clX4 (by decide) rfl fl_RX4_102 dX4_stampFalse_65 (Fx.s16 hF) h2 ?_
          refine xq_iastN dX4_stampFalse_68 (Fx.s17 hF) hkl2 (by decide) ?_
          refine xq_iincN dX4_stampFalse_69 ic1 rfl rfl ?_
          refine xq_goto dX4_stampFalse_72 rfl ?_
          exact ih (p + 1) _ (by omega) (by omega) (Off.pI (A := fun q => q = 16 ∨ q = 17) ho (Or.inr rfl) _ _) (by simp [hI_sI, h2]) (by simp [hI_sI, h5]) (hg.put (hv.mp h43))
  refine vq_intro (by decide) (by exact Nat.le_of_ble_eq_true rfl) rfl ?_
  refine xq_aload_n dX4_stampFalse_0 rfl rfl ?_
  refine xq_dup dX4_stampFalse_1 rfl ?_
  refine xq_getIE clX4 (by decide) rfl fl_RX4_102 dX4_stampFalse_2 (Fx.s16 hF) hm.1 ?_
  refine xq_iconst dX4_stampFalse_5 ic1 ?_
  refine xq_iaddN dX4_stampFalse_6 ?_
  refine xq_putI clX4 (by decide) rfl fl_RX4_102 (Or.inl rfl) dX4_stampFalse_7 ⟨rfl, rfl⟩ (Fx.s16 hF) ?_
  refine xq_aload_n dX4_stampFalse_10 rfl rfl ?_
  refine xq_getF clX7 (by decide) rfl fl_RX4_105 dX4_stampFalse_11 (St.s0 ha) (St.r2 ha) ?_
  refine xq_iload_n dX4_stampFalse_14 rfl rfl ?_
  refine xq_ialdN dX4_stampFalse_15 (St.s3 ha) (by omega) (by decide) ((hI_sI _ _ _ _ _ _).trans ((if_neg (by omega)).trans (hu.vi hi))) ?_
  refine xq_istore dX4_stampFalse_16 rfl ?_
  refine xq_iconst dX4_stampFalse_18 ic0 ?_
  refine xq_istore dX4_stampFalse_19 rfl ?_
  exact lp (uZ u + 1) 0 _ (by omega) (by omega) (Off.pI (A := fun q => q = 16 ∨ q = 17) Off.rf (Or.inl rfl) _ _) (by simp [hI_sI]) (by simp [hI_sI]) (fun key hkey => by obtain ⟨s, hs, e⟩ := hm.2 key hkey; exact ⟨s, by omega, by simp [hI_sI, e], by constructor; (· intro z; omega); (· intro z; cases z)⟩)
theorem c_knowsThat (hF : gFx S) (ha : gSt S a) (h67 : 67 ≤ a) (hu : StP H a u) (ok : StOk u) (hm : MiP H t) (ht : t + 1 < 2147483648) (hi : i < 6) (hx : x < 64) (hk : k < 64) : Nv mX4_knowsThat 1 [.ref 16, .ref a, vN i, vN x, vN k] S H (fun H' => Off (fun q => 16 ≤ q ∧ q ≤ 19) H H' ∧ MiP H' (t + 1) ∧ hI H' 16 5 = hI H 16 5 ∧ ColS H H' (uZ u) k (fun p => !(bad H u i x (ky u i p) (uZ u)))) := by
  have hz := ok.n
  have lp : ∀ (n : Nat) (p : Nat) (H1 : xH), uZ u - p < n → p ≤ uZ u → Off (fun q => 16 ≤ q ∧ q ≤ 19) H H1 → hI H1 16 2 = nI (t + 1) → hI H1 16 5 = hI H 16 5 → Stm H1 H u i x t (uZ u) → ColS H H1 p k (fun p => !(bad H u i x (ky u i p) (uZ u))) → Xq mX4_knowsThat 1 0 0 18 [some (.ref 16), some (.ref a), some (vN i), some (vN x), some (vN k), some (vN (vm (uSe u i))), some (vN p)] [] S H1 (fun R => ∃ H', (fun H' => Off (fun q => 16 ≤ q ∧ q ≤ 19) H H' ∧ MiP H' (t + 1) ∧ hI H' 16 5 = hI H 16 5 ∧ ColS H H' (uZ u) k (fun p => !(bad H u i x (ky u i p) (uZ u)))) H' ∧ R = (none, S, H')) := by
    intro n
    induction n with
    | zero => intro p  H1  hn; exact absurd hn (by omega)
    | succ n ih =>
      intro p  H1  hn hp ho h2 h5 hg hc
      have hu1 := hu.off ho (fun j hj => by omega)
      refine xq_iload dX4_knowsThat_18 rfl ?_
      refine xq_aload_n dX4_knowsThat_20 rfl rfl ?_
      refine xq_getIE clX7 (by decide) rfl fl_RX4_85 dX4_knowsThat_21 (St.s0 ha) hu1.sz ?_
      refine xq_icmp_geN dX4_knowsThat_24 rfl (by omega) (by omega) ⟨fun h24 => ?_, fun h24 => ?_⟩
      · skip
        refine xq_vret dX4_knowsThat_72 rfl ?_
        exact ⟨H1, ⟨ho, hg.mi h2, h5, by rw [show uZ u = p by omega] at hc ⊢; exact hc⟩, rfl⟩
      · skip
        have hkl2 : uW u p &&& vm (uSe u i) &&& 4095 < 4096 := ky_lt u i p
        have hv := hg.eq ht (ky_lt u i p)
        refine xq_aload_n dX4_knowsThat_27 rfl rfl ?_
        refine xq_iload dX4_knowsThat_28 rfl ?_
        refine xq_iload dX4_knowsThat_30 rfl ?_
        refine xq_aload_n dX4_knowsThat_32 rfl rfl ?_
        refine xq_getF clX4 (by decide) rfl fl_RX4_9 dX4_knowsThat_33 (Fx.s16 hF) (Fx.r16_0 hF) ?_
        refine xq_aload_n dX4_knowsThat_36 rfl rfl ?_
        refine xq_getF clX7 (by decide) rfl fl_RX4_88 dX4_knowsThat_37 (St.s0 ha) (St.r0 ha) ?_
        refine xq_iload dX4_knowsThat_40 rfl ?_
        refine xq_ialdN dX4_knowsThat_42 (St.s1 ha) (by omega) (by decide) (hu1.w h24) ?_
        refine xq_iload dX4_knowsThat_43 rfl ?_
        refine xq_iandN dX4_knowsThat_45 ?_
        refine xq_sipush dX4_knowsThat_46 sp4095 ?_
        refine xq_iandN dX4_knowsThat_49 ?_
        refine xq_ialdN dX4_knowsThat_50 (Fx.s17 hF) hkl2 (by decide) rfl ?_
        refine xq_aload_n dX4_knowsThat_51 rfl rfl ?_
        refine xq_getIE clX4 (by decide) rfl fl_RX4_102 dX4_knowsThat_52 (Fx.s16 hF) h2 ?_
        refine xq_icmp_eq dX4_knowsThat_55 rfl ⟨fun h55 => ?_, fun h55 => ?_⟩
        · skip
          refine xq_iconst dX4_knowsThat_62 ic0 ?_
          refine xq_callV3N clX4 gd_X4_set dX4_knowsThat_63 ml_RX4_95 im_X4_set se_X4_set rfl (Fx.s16 hF) (by exact Nat.le_of_ble_eq_true rfl) (by decide) (c_set0 hF (by omega) hk) ?_
          intro H63 p63
          refine xq_iincN dX4_knowsThat_66 ic1 rfl rfl ?_
          refine xq_goto dX4_knowsThat_69 rfl ?_
          exact ih (p + 1) H63 (by omega) (by omega) (ho.tr (p63.1.mo (fun q h => by omega))) ((p63.1.I (by omega) 2).trans h2) ((p63.1.I (by omega) 5).trans h5) (fun key hkey => by obtain ⟨s, hs, e, q⟩ := hg key hkey; exact ⟨s, hs, (p63.1.I (by omega) key).trans e, q⟩) (hc.step p63.2 (by rw [hv.mp h55]; rfl))
        · skip
          refine xq_iconst dX4_knowsThat_58 ic1 ?_
          refine xq_goto dX4_knowsThat_59 rfl ?_
          refine xq_callV3N clX4 gd_X4_set dX4_knowsThat_63 ml_RX4_95 im_X4_set se_X4_set rfl (Fx.s16 hF) (by exact Nat.le_of_ble_eq_true rfl) (by decide) (c_set1 hF (by omega) hk) ?_
          intro H63 p63
          refine xq_iincN dX4_knowsThat_66 ic1 rfl rfl ?_
          refine xq_goto dX4_knowsThat_69 rfl ?_
          exact ih (p + 1) H63 (by omega) (by omega) (ho.tr (p63.1.mo (fun q h => by omega))) ((p63.1.I (by omega) 2).trans h2) ((p63.1.I (by omega) 5).trans h5) (fun key hkey => by obtain ⟨s, hs, e, q⟩ := hg key hkey; exact ⟨s, hs, (p63.1.I (by omega) key).trans e, q⟩) (hc.step p63.2 (by rw [show bad H u i x (ky u i p) (uZ u) = false from Bool.eq_false_iff.mpr (fun z => h55 (hv.mpr z))]; rfl))
  refine vq_intro (by decide) (by exact Nat.le_of_ble_eq_true rfl) rfl ?_
  refine xq_aload_n dX4_knowsThat_0 rfl rfl ?_
  refine xq_aload_n dX4_knowsThat_1 rfl rfl ?_
  refine xq_iload_n dX4_knowsThat_2 rfl rfl ?_
  refine xq_iload_n dX4_knowsThat_3 rfl rfl ?_
  refine xq_callV3N clX4 gd_X4_stampFalse dX4_knowsThat_4 ml_RX4_108 im_X4_stampFalse se_X4_stampFalse rfl (Fx.s16 hF) (by exact Nat.le_of_ble_eq_true rfl) (by decide) (c_stampFalse hF ha h67 hu ok hm ht hi hx) ?_
  intro H4 p4
  obtain ⟨o4, q2, q5, qg⟩ := p4
  have hu4 := hu.off o4 (fun j hj => by omega)
  refine xq_aload_n dX4_knowsThat_7 rfl rfl ?_
  refine xq_getF clX7 (by decide) rfl fl_RX4_105 dX4_knowsThat_8 (St.s0 ha) (St.r2 ha) ?_
  refine xq_iload_n dX4_knowsThat_11 rfl rfl ?_
  refine xq_ialdN dX4_knowsThat_12 (St.s3 ha) (by omega) (by decide) (hu4.vi hi) ?_
  refine xq_istore dX4_knowsThat_13 rfl ?_
  refine xq_iconst dX4_knowsThat_15 ic0 ?_
  refine xq_istore dX4_knowsThat_16 rfl ?_
  exact lp (uZ u + 1) 0 H4 (by omega) (by omega) (o4.mo (fun q h => by omega)) q2 q5 qg (fun q j hj => by rw [if_neg (by omega)]; show rb (hL H4 19 q) j = _; rw [o4.L (by omega)])
def bada (H : xH) (u : uSt) (x p n : Nat) : Bool := ex (fun i => bad H u i x (ky u i p) (uZ u)) n
theorem bad_cong {H H1 : xH} (h : ∀ p, p < n → rx H1 p x = rx H p x) (key : Nat) : bad H1 u i x key n = bad H u i x key n := by
  rw [Bool.eq_iff_iff]
  unfold bad
  rw [ex_iff, ex_iff]
  constructor
  · rintro ⟨p, hp, e⟩
    exact ⟨p, hp, by rw [← h p hp]; exact e⟩
  · rintro ⟨p, hp, e⟩
    exact ⟨p, hp, by rw [h p hp]; exact e⟩
theorem c_knownByAll (hF : gFx S) (ha : gSt S a) (h67 : 67 ≤ a) (hu : StP H a u) (ok : StOk u) (hm : MiP H t) (ht : t + 6 < 2147483648) (hx : x < 64) (hk : k < 64) (hxk : x ≠ k) : Nv mX4_knownByAll 1 [.ref 16, .ref a, vN x, vN k] S H (fun H' => Off (fun q => 16 ≤ q ∧ q ≤ 19) H H' ∧ (∃ t2, t2 ≤ t + 6 ∧ MiP H' t2) ∧ hI H' 16 5 = hI H 16 5 ∧ ColS H H' (uZ u) k (fun p => !(bada H u x p (uNp u)))) := by
  have hz := ok.n; have hnp := ok.np
  have lq : ∀ (n : Nat) (i : Nat) (H1 : xH), uNp u - i < n → i ≤ uNp u → Off (fun q => 16 ≤ q ∧ q ≤ 19) H H1 → i ≤ 6 ∧ MiP H1 (t + i) → hI H1 16 5 = hI H 16 5 → ColS H H1 (uZ u) k (fun p => !(bada H u x p i)) → Xq mX4_knownByAll 1 0 0 29 [some (.ref 16), some (.ref a), some (vN x), some (vN k), some (vN i), none, none] [] S H1 (fun R => ∃ H', (fun H' => Off (fun q => 16 ≤ q ∧ q ≤ 19) H H' ∧ (∃ t2, t2 ≤ t + 6 ∧ MiP H' t2) ∧ hI H' 16 5 = hI H 16 5 ∧ ColS H H' (uZ u) k (fun p => !(bada H u x p (uNp u)))) H' ∧ R = (none, S, H')) := by
    intro n
    induction n with
    | zero => intro i  H1  hn; exact absurd hn (by omega)
    | succ n ih =>
      intro i  H1  hn hi ho hmt h5 hc
      have hu1 := hu.off ho (fun j hj => by omega); have ih0 := ih
      refine xq_iload dX4_knownByAll_29 rfl ?_
      refine xq_aload_n dX4_knownByAll_31 rfl rfl ?_
      refine xq_getIE clX7 (by decide) rfl fl_RX4_99 dX4_knownByAll_32 (St.s0 ha) hu1.f6 ?_
      refine xq_icmp_geN dX4_knownByAll_35 rfl (by omega) (by omega) ⟨fun h35 => ?_, fun h35 => ?_⟩
      · skip
        refine xq_vret dX4_knownByAll_113 rfl ?_
        exact ⟨H1, ⟨ho, ⟨t + i, by omega, hmt.2⟩, h5, by rw [show uNp u = i by omega]; exact hc⟩, rfl⟩
      · skip
        refine xq_aload_n dX4_knownByAll_38 rfl rfl ?_
        refine xq_aload_n dX4_knownByAll_39 rfl rfl ?_
        refine xq_iload dX4_knownByAll_40 rfl ?_
        refine xq_iload_n dX4_knownByAll_42 rfl rfl ?_
        refine xq_callV3N clX4 gd_X4_stampFalse dX4_knownByAll_43 ml_RX4_108 im_X4_stampFalse se_X4_stampFalse rfl (Fx.s16 hF) (by exact Nat.le_of_ble_eq_true rfl) (by decide) (c_stampFalse hF ha h67 hu1 ok hmt.2 (by omega) (by omega) hx) ?_
        intro H43 p43
        obtain ⟨o43, q2, q5, qg⟩ := p43
        have hu43 := hu1.off o43 (fun j hj => by omega)
        have qg2 : Stm H43 H u i x (t + i) (uZ u) := fun key hkey => by
          obtain ⟨s, hs, e, q⟩ := qg key hkey
          exact ⟨s, hs, e, by rw [bad_cong (fun q hq => hc.ot hx hxk q)] at q; exact q⟩
        refine xq_aload_n dX4_knownByAll_46 rfl rfl ?_
        refine xq_getF clX7 (by decide) rfl fl_RX4_105 dX4_knownByAll_47 (St.s0 ha) (St.r2 ha) ?_
        refine xq_iload dX4_knownByAll_50 rfl ?_
        refine xq_ialdN dX4_knownByAll_52 (St.s3 ha) (by omega) (by decide) (hu43.vi (by omega)) ?_
        refine xq_istore dX4_knownByAll_53 rfl ?_
        have lr : ∀ (n : Nat) (p : Nat) (H1 : xH), uZ u - p < n → p ≤ uZ u → Off (fun q => 16 ≤ q ∧ q ≤ 19) H H1 → hI H1 16 2 = nI (t + i + 1) → hI H1 16 5 = hI H 16 5 → Stm H1 H u i x (t + i) (uZ u) → ColS H H1 (uZ u) k (fun q => !(bada H u x q (if q < p then i + 1 else i))) → Xq mX4_knownByAll 1 0 0 58 [some (.ref 16), some (.ref a), some (vN x), some (vN k), some (vN i), some (vN (vm (uSe u i))), some (vN p)] [] S H1 (fun R => ∃ H', (fun H' => Off (fun q => 16 ≤ q ∧ q ≤ 19) H H' ∧ (∃ t2, t2 ≤ t + 6 ∧ MiP H' t2) ∧ hI H' 16 5 = hI H 16 5 ∧ ColS H H' (uZ u) k (fun p => !(bada H u x p (uNp u)))) H' ∧ R = (none, S, H')) := by
          intro n
          induction n with
          | zero => intro p  H1  hn; exact absurd hn (by omega)
          | succ n ih =>
            intro p  H1  hn hp ho1 h2 h5 hg hc1
            have hu1 := hu.off ho1 (fun j hj => by omega)
            refine xq_iload dX4_knownByAll_58 rfl ?_
            refine xq_aload_n dX4_knownByAll_60 rfl rfl ?_
            refine xq_getIE clX7 (by decide) rfl fl_RX4_85 dX4_knownByAll_61 (St.s0 ha) hu1.sz ?_
            refine xq_icmp_geN dX4_knownByAll_64 rfl (by omega) (by omega) ⟨fun h64 => ?_, fun h64 => ?_⟩
            · skip
              refine xq_iincN dX4_knownByAll_107 ic1 rfl rfl ?_
              refine xq_goto dX4_knownByAll_110 rfl ?_
              exact xq_fgt (ih0 (i + 1) H1 (by omega) (by omega) ho1 ⟨by omega, by rw [← Nat.add_assoc]; exact hg.mi h2⟩ h5 (hc1.cong (fun q hq => by rw [if_pos (by omega)]))) (by exact And.intro rfl (And.intro rfl (And.intro rfl (And.intro rfl (And.intro rfl (trivial))))))
            · skip
              have hkl2 : uW u p &&& vm (uSe u i) &&& 4095 < 4096 := ky_lt u i p
              have hv := hg.eq (by omega) (ky_lt u i p)
              refine xq_aload_n dX4_knownByAll_67 rfl rfl ?_
              refine xq_getF clX4 (by decide) rfl fl_RX4_9 dX4_knownByAll_68 (Fx.s16 hF) (Fx.r16_0 hF) ?_
              refine xq_aload_n dX4_knownByAll_71 rfl rfl ?_
              refine xq_getF clX7 (by decide) rfl fl_RX4_88 dX4_knownByAll_72 (St.s0 ha) (St.r0 ha) ?_
              refine xq_iload dX4_knownByAll_75 rfl ?_
              refine xq_ialdN dX4_knownByAll_77 (St.s1 ha) (by omega) (by decide) (hu1.w h64) ?_
              refine xq_iload dX4_knownByAll_78 rfl ?_
              refine xq_iandN dX4_knownByAll_80 ?_
              refine xq_sipush dX4_knownByAll_81 sp4095 ?_
              refine xq_iandN dX4_knownByAll_84 ?_
              refine xq_ialdN dX4_knownByAll_85 (Fx.s17 hF) hkl2 (by decide) rfl ?_
              refine xq_aload_n dX4_knownByAll_86 rfl rfl ?_
              refine xq_getIE clX4 (by decide) rfl fl_RX4_102 dX4_knownByAll_87 (Fx.s16 hF) h2 ?_
              refine xq_icmp_ne dX4_knownByAll_90 rfl ⟨fun h90 => ?_, fun h90 => ?_⟩
              · skip
                refine xq_iincN dX4_knownByAll_101 ic1 rfl rfl ?_
                refine xq_goto dX4_knownByAll_104 rfl ?_
                exact ih (p + 1) H1 (by omega) (by omega) ho1 h2 h5 hg (hc1.cong (fun q hq => by
                  by_cases e : q = p
                  · subst e
                    rw [if_neg (by omega), if_pos (by omega)]
                    show _ = !(ex _ (i + 1))
                    rw [ex_s, show bad H u i x (ky u i q) (uZ u) = false from Bool.eq_false_iff.mpr (fun z => h90 (hv.mpr z)), Bool.or_false]; rfl
                  · rw [show (if q < p + 1 then i + 1 else i) = (if q < p then i + 1 else i) by by_cases z : q < p <;> simp [z] <;> omega]))
              · skip
                refine xq_aload_n dX4_knownByAll_93 rfl rfl ?_
                refine xq_iload dX4_knownByAll_94 rfl ?_
                refine xq_iload_n dX4_knownByAll_96 rfl rfl ?_
                refine xq_iconst dX4_knownByAll_97 ic0 ?_
                refine xq_callV3N clX4 gd_X4_set dX4_knownByAll_98 ml_RX4_95 im_X4_set se_X4_set rfl (Fx.s16 hF) (by exact Nat.le_of_ble_eq_true rfl) (by decide) (c_set0 hF (by omega) hk) ?_
                intro H98 p98
                refine xq_iincN dX4_knownByAll_101 ic1 rfl rfl ?_
                refine xq_goto dX4_knownByAll_104 rfl ?_
                exact ih (p + 1) H98 (by omega) (by omega) (ho1.tr (p98.1.mo (fun q h => by omega))) ((p98.1.I (by omega) 2).trans h2) ((p98.1.I (by omega) 5).trans h5) (fun key hkey => by obtain ⟨s, hs, e, q⟩ := hg key hkey; exact ⟨s, hs, (p98.1.I (by omega) key).trans e, q⟩) ((hc1.upd p98.2 h64).cong (fun q hq => by
                  by_cases e : q = p
                  · subst e
                    rw [if_pos rfl, if_pos (by omega)]
                    show _ = !(ex _ (i + 1))
                    rw [ex_s, hv.mp h90, Bool.or_true]; rfl
                  · rw [if_neg e, show (if q < p + 1 then i + 1 else i) = (if q < p then i + 1 else i) by by_cases z : q < p <;> simp [z] <;> omega]))
        refine xq_iconst dX4_knownByAll_55 ic0 ?_
        refine xq_istore dX4_knownByAll_56 rfl ?_
        exact lr (uZ u + 1) 0 H43 (by omega) (by omega) (ho.tr (o43.mo (fun q h => by omega))) q2 (q5.trans h5) qg2 (fun q j hj => by show rb (hL H43 19 q) j = _; rw [o43.L (by omega)]; show rx H1 q j = _; rw [hc q j hj]; simp)
  have lp : ∀ (n : Nat) (p : Nat) (H1 : xH), uZ u - p < n → p ≤ uZ u → Off (fun q => q = 19) H H1 → ColS H H1 p k (fun _ => true) → Xq mX4_knownByAll 1 0 0 3 [some (.ref 16), some (.ref a), some (vN x), some (vN k), some (vN p), none, none] [] S H1 (fun R => ∃ H', (fun H' => Off (fun q => 16 ≤ q ∧ q ≤ 19) H H' ∧ (∃ t2, t2 ≤ t + 6 ∧ MiP H' t2) ∧ hI H' 16 5 = hI H 16 5 ∧ ColS H H' (uZ u) k (fun p => !(bada H u x p (uNp u)))) H' ∧ R = (none, S, H')) := by
    intro n
    induction n with
    | zero => intro p  H1  hn; exact absurd hn (by omega)
    | succ n ih =>
      intro p  H1  hn hp ho hc
      have hu1 := hu.off ho (fun j hj => by omega)
      refine xq_iload dX4_knownByAll_3 rfl ?_
      refine xq_aload_n dX4_knownByAll_5 rfl rfl ?_
      refine xq_getIE clX7 (by decide) rfl fl_RX4_85 dX4_knownByAll_6 (St.s0 ha) hu1.sz ?_
      refine xq_icmp_geN dX4_knownByAll_9 rfl (by omega) (by omega) ⟨fun h9 => ?_, fun h9 => ?_⟩
      · skip
        refine xq_iconst dX4_knownByAll_26 ic0 ?_
        refine xq_istore dX4_knownByAll_27 rfl ?_
        exact lq (uNp u + 1) 0 H1 (by omega) (by omega) (ho.mo (fun q h => by omega)) ⟨by omega, hm.off ho (by omega) (by omega)⟩ (ho.I (by omega) 5) (by rw [show uZ u = p by omega]; exact hc.cong (fun q _ => rfl))
      · skip
        refine xq_aload_n dX4_knownByAll_12 rfl rfl ?_
        refine xq_iload dX4_knownByAll_13 rfl ?_
        refine xq_iload_n dX4_knownByAll_15 rfl rfl ?_
        refine xq_iconst dX4_knownByAll_16 ic1 ?_
        refine xq_callV3N clX4 gd_X4_set dX4_knownByAll_17 ml_RX4_95 im_X4_set se_X4_set rfl (Fx.s16 hF) (by exact Nat.le_of_ble_eq_true rfl) (by decide) (c_set1 hF (by omega) hk) ?_
        intro H17 p17
        refine xq_iincN dX4_knownByAll_20 ic1 rfl rfl ?_
        refine xq_goto dX4_knownByAll_23 rfl ?_
        exact ih (p + 1) H17 (by omega) (by omega) (ho.tr p17.1) (hc.step p17.2 rfl)
  refine vq_intro (by decide) (by exact Nat.le_of_ble_eq_true rfl) rfl ?_
  refine xq_iconst dX4_knownByAll_0 ic0 ?_
  refine xq_istore dX4_knownByAll_1 rfl ?_
  exact lp (uZ u + 1) 0 H (by omega) (by omega) Off.rf ColS.z
theorem c_judgeOwn (hF : gFx S) (ha : gSt S a) (h67 : 67 ≤ a) (hu : StP H a u) (ok : StOk u) (hm : MiP H t) (ht : t + 6 < 2147483648) : Nv mX4_judgeOwn 3 [.ref 16, .ref a] S H (fun H' => Off (fun q => 16 ≤ q ∧ q ≤ 19) H H' ∧ (∃ t2, t2 ≤ t + 6 ∧ MiP H' t2) ∧ hI H' 16 5 = hI H 16 5 ∧ ∀ p, p < uZ u → ∀ j, j < uNp u → rx H' p j = own u j p) := by
  have hz := ok.n; have hnp := ok.np
  have lp : ∀ (n : Nat) (i : Nat) (H1 : xH), uNp u - i < n → i ≤ uNp u → Off (fun q => 16 ≤ q ∧ q ≤ 19) H H1 → MiP H1 (t + i) → hI H1 16 5 = hI H 16 5 → (∀ p, p < uZ u → ∀ j, j < i → rx H1 p j = own u j p) → Xq mX4_judgeOwn 3 0 0 2 [some (.ref 16), some (.ref a), some (vN i)] [] S H1 (fun R => ∃ H', (fun H' => Off (fun q => 16 ≤ q ∧ q ≤ 19) H H' ∧ (∃ t2, t2 ≤ t + 6 ∧ MiP H' t2) ∧ hI H' 16 5 = hI H 16 5 ∧ ∀ p, p < uZ u → ∀ j, j < uNp u → rx H' p j = own u j p) H' ∧ R = (none, S, H')) := by
    intro n
    induction n with
    | zero => intro i  H1  hn; exact absurd hn (by omega)
    | succ n ih =>
      intro i  H1  hn hi ho hmt h5 hc
      have hu1 := hu.off ho (fun j hj => by omega)
      refine xq_iload_n dX4_judgeOwn_2 rfl rfl ?_
      refine xq_aload_n dX4_judgeOwn_3 rfl rfl ?_
      refine xq_getIE clX7 (by decide) rfl fl_RX4_99 dX4_judgeOwn_4 (St.s0 ha) hu1.f6 ?_
      refine xq_icmp_geN dX4_judgeOwn_7 rfl (by omega) (by omega) ⟨fun h7 => ?_, fun h7 => ?_⟩
      · skip
        refine xq_vret dX4_judgeOwn_23 rfl ?_
        exact ⟨H1, ⟨ho, ⟨t + i, by omega, hmt⟩, h5, fun p hp j hj => hc p hp j (by omega)⟩, rfl⟩
      · skip
        refine xq_aload_n dX4_judgeOwn_10 rfl rfl ?_
        refine xq_aload_n dX4_judgeOwn_11 rfl rfl ?_
        refine xq_iload_n dX4_judgeOwn_12 rfl rfl ?_
        refine xq_iload_n dX4_judgeOwn_13 rfl rfl ?_
        refine xq_callV3N clX4 gd_X4_knowsOwn dX4_judgeOwn_14 ml_RX4_60 im_X4_knowsOwn se_X4_knowsOwn rfl (Fx.s16 hF) (by exact Nat.le_of_ble_eq_true rfl) (by decide) (c_knowsOwn hF ha h67 hu1 ok hmt (by omega) (by omega) (by omega)) ?_
        intro H14 p14
        refine xq_iincN dX4_judgeOwn_17 ic1 rfl rfl ?_
        refine xq_goto dX4_judgeOwn_20 rfl ?_
        exact ih (i + 1) H14 (by omega) (by omega) (ho.tr p14.1) (by rw [← Nat.add_assoc]; exact p14.2.1) (p14.2.2.1.trans h5) (fun p hp j hj => by
          by_cases e : j = i
          · subst e; exact p14.2.2.2.in hp (by omega)
          · rw [p14.2.2.2.ot (by omega) e]; exact hc p hp j (by omega))
  refine vq_intro (by decide) (by exact Nat.le_of_ble_eq_true rfl) rfl ?_
  refine xq_iconst dX4_judgeOwn_0 ic0 ?_
  refine xq_istore_n dX4_judgeOwn_1 rfl rfl ?_
  exact lp (uNp u + 1) 0 H (by omega) (by omega) Off.rf hm rfl (fun p _ j hj => absurd hj (by omega))
end MT
