/-! ===== State: seeAll, retain, copy ===== -/
section ST3
variable {S : xS} {H H' : xH} {a b : Nat} {u v : uSt} {i j p n kb : Nat}
def am (n i : Nat) : Nat := (1 <<< n - 1) &&& (63 ^^^ (1 <<< i))
theorem am_ok (hn : n ≤ 6) (hi : i < 6) : nI (1 <<< n - 1) &&& (nI (1 <<< i) ^^^ (-1)) = nI (am n i) := by
  have : ∀ (n : Fin 7) (i : Fin 6), nI (1 <<< n.val - 1) &&& (nI (1 <<< i.val) ^^^ (-1)) = nI (am n.val i.val) := by decide +kernel
  exact this ⟨n, by omega⟩ ⟨i, hi⟩
theorem am_lt (hn : n ≤ 6) (hi : i < 6) : am n i < 64 := by
  have : ∀ (n : Fin 7) (i : Fin 6), am n.val i.val < 64 := by decide +kernel
  exact this ⟨n, by omega⟩ ⟨i, hi⟩
theorem shl_pos (n : Nat) : 1 ≤ 1 <<< n := by rw [Nat.one_shiftLeft]; exact Nat.two_pow_pos n
def uAll (u : uSt) (n : Nat) : uSt := fo (fun i w => uSetSe w i (sbs (am (uNp u) i) (uNp u) (uSe w i))) u n
theorem uAll_np (u : uSt) : ∀ n, uNp (uAll u n) = uNp u
  | 0 => rfl
  | n + 1 => uAll_np u n
theorem uAll_ok {u : uSt} (ok : StOk u) : ∀ n, n ≤ 6 → StOk (uAll u n)
  | 0, _ => ok
  | n + 1, h => (uAll_ok ok n (by omega)).setSe (sbs_lt ok.np ((uAll_ok ok n (by omega)).se (by omega)))
theorem c_seeAll (ha : gSt S a) (hu : StP H a u) (ok : StOk u) : Nv mX7_seeAll 3 [.ref a] S H (fun H' => StP H' a (uAll u (uNp u)) ∧ Off (fun q => q = a + 2 ∨ q = a + 3) H H') := by
  have hnp := ok.np
  have lp : ∀ (fz : Nat) (i : Nat) (H1 : xH), uNp u - i < fz → i ≤ uNp u → StP H1 a (uAll u i) → Off (fun q => q = a + 2 ∨ q = a + 3) H H1 → Xq mX7_seeAll 3 0 0 2 [some (.ref a), some (vN i)] [] S H1 (fun R => ∃ H', (fun H' => StP H' a (uAll u (uNp u)) ∧ Off (fun q => q = a + 2 ∨ q = a + 3) H H') H' ∧ R = (none, S, H')) := by
    intro fz
    induction fz with
    | zero => intro i  H1  hfz; exact absurd hfz (by omega)
    | succ fz ih =>
      intro i  H1  hfz hi hu1 ho
      refine xq_iload_n dX7_seeAll_2 rfl rfl ?_
      refine xq_aload_n dX7_seeAll_3 rfl rfl ?_
      refine xq_getIE clX7 (by decide) rfl fl_RX7_36 dX7_seeAll_4 (St.s0 ha) (hu1.f6.trans (congrArg nI (uAll_np u i))) ?_
      refine xq_icmp_geN dX7_seeAll_7 rfl (by omega) (by omega) ⟨fun h7 => ?_, fun h7 => ?_⟩
      · skip
        refine xq_vret dX7_seeAll_35 rfl ?_
        exact ⟨H1, ⟨by rw [show uNp u = i by omega]; exact hu1, ho⟩, rfl⟩
      · skip
        refine xq_aload_n dX7_seeAll_10 rfl rfl ?_
        refine xq_iload_n dX7_seeAll_11 rfl rfl ?_
        refine xq_iconst dX7_seeAll_12 ic1 ?_
        refine xq_aload_n dX7_seeAll_13 rfl rfl ?_
        refine xq_getIE clX7 (by decide) rfl fl_RX7_36 dX7_seeAll_14 (St.s0 ha) (hu1.f6.trans (congrArg nI (uAll_np u i))) ?_
        refine xq_ishlN dX7_seeAll_17 (by omega) ?_
        refine xq_iconst dX7_seeAll_18 ic1 ?_
        refine xq_isubN dX7_seeAll_19 (shl_pos _) ?_
        refine xq_iconst dX7_seeAll_20 ic1 ?_
        refine xq_iload_n dX7_seeAll_21 rfl rfl ?_
        refine xq_ishlN dX7_seeAll_22 (by omega) ?_
        refine xq_iconst dX7_seeAll_23 icm1 ?_
        refine xq_ixor dX7_seeAll_24 ?_
        refine xq_iand dX7_seeAll_25 ?_
        rw [am_ok hnp (by omega)]
        refine xq_callV2N clX7 gd_X7_seeThese dX7_seeAll_26 ml_RX7_58 im_X7_seeThese se_X7_seeThese rfl (St.s0 ha) (by exact Nat.le_of_ble_eq_true rfl) (by decide) (c_seeThese ha hu1 (uAll_ok ok i (by omega)) (by omega) (am_lt hnp (by omega))) ?_
        intro H26 p26
        refine xq_iincN dX7_seeAll_29 ic1 rfl rfl ?_
        refine xq_goto dX7_seeAll_32 rfl ?_
        exact ih (i + 1) H26 (by omega) (by omega) (by have := p26.1; rw [uAll_np] at this; exact this) (ho.tr p26.2)
  refine vq_intro (by decide) (by exact Nat.le_of_ble_eq_true rfl) rfl ?_
  refine xq_iconst dX7_seeAll_0 ic0 ?_
  refine xq_istore_n dX7_seeAll_1 rfl rfl ?_
  exact lp (uNp u + 1) 0 H (by omega) (by omega) hu Off.rf
def rb (x : Int64) (k : Nat) : Bool := x.toBitVec.getLsbD k
theorem rb_z {w : Int64} {k : Nat} (hk : k < 64) : ((w.toUInt64 >>> ((nI k).toInt64.toUInt64 &&& Int64.toUInt64 63)).toInt64 &&& lN 1) = lN 0 ↔ rb w k = false := ts_bit hk (by rw [wb_cu k hk]; exact u_tn (by omega))
def rbs (H : xH) (k : Nat) : Nat → Bool := fun p => rb (hL H 19 p) k
def kep (u : uSt) (f : Nat → Bool) (n : Nat) : List Nat := ((List.range n).filter f).map (uW u)
theorem kep_t {u : uSt} {f : Nat → Bool} {n : Nat} (h : f n = true) : kep u f (n + 1) = kep u f n ++ [uW u n] := by simp [kep, List.range_succ, List.filter_append, h]
theorem kep_f {u : uSt} {f : Nat → Bool} {n : Nat} (h : f n = false) : kep u f (n + 1) = kep u f n := by simp [kep, List.range_succ, List.filter_append, h]
theorem kep_len (u : uSt) (f : Nat → Bool) : ∀ n, (kep u f n).length = ct f n
  | 0 => rfl
  | n + 1 => by
    cases h : f n
    · rw [kep_f h, ct_f h, kep_len u f n]
    · rw [kep_t h, ct_t h, List.length_append, kep_len u f n]; rfl
def uKeep (u : uSt) (f : Nat → Bool) : uSt := uSetF (uSetLf u (kep u f (uZ u))) 5 (ct f (uRl u))
theorem pl_no {rl p c pl : Nat} (h : pl = if rl < p then c else 0) (hne : rl ≠ p) : pl = if rl < p + 1 then c else 0 := by
  rw [h]
  by_cases q : rl < p
  · rw [if_pos q, if_pos (by omega)]
  · rw [if_neg q, if_neg (by omega)]
theorem keep_in {u : uSt} {f : Nat → Bool} {H1 : xH} {a p stay : Nat} (hs : stay = ct f p) (hk : ∀ j, j < stay → hI H1 (a + 1) j = nI ((kep u f p).getD j 0)) (hf : f p = true) (j : Nat) (hj : j < stay + 1) : hI (sI H1 (a + 1) stay (nI (uW u p))) (a + 1) j = nI ((kep u f (p + 1)).getD j 0) := by
  have hl := kep_len u f p
  rw [hI_sI, kep_t hf]
  by_cases e : j = stay
  · subst e
    rw [if_pos ⟨rfl, rfl⟩, List.getD_eq_getElem?_getD, List.getElem?_append_right (by omega), hl, hs]
    simp
  · rw [if_neg (fun q => e q.2), hk j (by omega), List.getD_eq_getElem?_getD, List.getD_eq_getElem?_getD, List.getElem?_append_left (by omega)]
theorem keep_end {u : uSt} {f : Nat → Bool} {H1 : xH} {a : Nat} {stay place : Nat} (hu : StP H a u) (ho : Off (fun q => q = a + 1) H H1) (hs : stay = ct f (uZ u)) (hk : ∀ j, j < stay → hI H1 (a + 1) j = nI ((kep u f (uZ u)).getD j 0)) (hp : place = ct f (uRl u)) : StP (sI (sI H1 a 4 (nI stay)) a 5 (nI place)) a (uKeep u f) := by
  have hz : uZ (uKeep u f) = stay := (kep_len u f _).trans hs.symm
  refine ⟨?_, fun k h1 h2 => ?_, ?_, fun p hp => ?_, fun p hp => ⟨?_, ?_, ?_⟩⟩
  · rw [hI_sI, if_neg (by omega), hI_sI, if_pos ⟨rfl, rfl⟩, hz]
  · rw [hI_sI]
    by_cases e : k = 5
    · rw [if_pos ⟨rfl, e⟩, hp, e]; rfl
    · rw [if_neg (fun q => e q.2), hI_sI, if_neg (by omega), ho.I (by omega), hu.f h1 h2]
      show _ = nI (if k = 5 then _ else _)
      rw [if_neg e]; rfl
  · rw [hL_sI, hL_sI, ho.L (by omega)]; exact hu.la
  · rw [hI_sI, if_neg (by omega), hI_sI, if_neg (by omega)]; exact hk p (by omega)
  · rw [hI_sI, if_neg (by omega), hI_sI, if_neg (by omega), ho.I (by omega)]; exact hu.se hp
  · rw [hI_sI, if_neg (by omega), hI_sI, if_neg (by omega), ho.I (by omega)]; exact hu.vi hp
  · rw [hI_sI, if_neg (by omega), hI_sI, if_neg (by omega), ho.I (by omega)]; exact hu.pz hp
theorem c_retain (hF : gFx S) (ha : gSt S a) (h67 : 67 ≤ a) (hu : StP H a u) (ok : StOk u) (hkb : kb < 64) (hrl : rb (hL H 19 (uRl u)) kb = true) : Nv mX7_retain 0 [.ref a, .ref 19, vN kb] S H (fun H' => StP H' a (uKeep u (rbs H kb)) ∧ Off (fun q => q = a ∨ q = a + 1) H H') := by
  have hz := ok.n; have hrz := ok.rl
  have lp : ∀ (fz : Nat) (p stay place : Nat) (H1 : xH), uZ u - p < fz → p ≤ uZ u → stay = ct (rbs H kb) p → place = (if uRl u < p then ct (rbs H kb) (uRl u) else 0) → (∀ j, j < stay → hI H1 (a + 1) j = nI ((kep u (rbs H kb) p).getD j 0)) → (∀ j, p ≤ j → hI H1 (a + 1) j = hI H (a + 1) j) → Off (fun q => q = a + 1) H H1 → Xq mX7_retain 0 0 0 8 [some (.ref a), some (.ref 19), some (vN kb), some (vN stay), some (vN place), some (vN p)] [] S H1 (fun R => ∃ H', (fun H' => StP H' a (uKeep u (rbs H kb)) ∧ Off (fun q => q = a ∨ q = a + 1) H H') H' ∧ R = (none, S, H')) := by
    intro fz
    induction fz with
    | zero => intro p stay place  H1  hfz; exact absurd hfz (by omega)
    | succ fz ih =>
      intro p stay place  H1  hfz hp hs hpl hk hr ho
      have hsp := ct_le (rbs H kb) p
      refine xq_iload dX7_retain_8 rfl ?_
      refine xq_aload_n dX7_retain_10 rfl rfl ?_
      refine xq_getIE clX7 (by decide) rfl fl_RX7_69 dX7_retain_11 (St.s0 ha) ((ho.I (by omega) 4).trans hu.sz) ?_
      refine xq_icmp_geN dX7_retain_14 rfl (by omega) (by omega) ⟨fun h14 => ?_, fun h14 => ?_⟩
      · skip
        refine xq_aload_n dX7_retain_69 rfl rfl ?_
        refine xq_iload_n dX7_retain_70 rfl rfl ?_
        refine xq_putI clX7 (by decide) rfl fl_RX7_69 (Or.inl rfl) dX7_retain_71 ⟨rfl, rfl⟩ (St.s0 ha) ?_
        refine xq_aload_n dX7_retain_74 rfl rfl ?_
        refine xq_iload dX7_retain_75 rfl ?_
        refine xq_putI clX7 (by decide) rfl fl_RX7_70 (Or.inl rfl) dX7_retain_77 ⟨rfl, rfl⟩ (St.s0 ha) ?_
        refine xq_vret dX7_retain_80 rfl ?_
        have hpz : uZ u = p := by omega
        exact ⟨_, ⟨keep_end hu ho (by rw [hpz]; exact hs) (by rw [hpz]; exact hk) (by rw [hpl, if_pos (by omega)]), ((Off.pI (A := fun q => q = a ∨ q = a + 1) (ho.mo (fun q h => Or.inr h)) (Or.inl rfl) _ _).pI (Or.inl rfl) _ _)⟩, rfl⟩
      · skip
        refine xq_aload_n dX7_retain_17 rfl rfl ?_
        refine xq_iload dX7_retain_18 rfl ?_
        refine xq_laldN dX7_retain_20 (Fx.s19 hF) (by omega) (by decide) rfl ?_
        refine xq_iload_n dX7_retain_21 rfl rfl ?_
        refine xq_lushr dX7_retain_22 ?_
        refine xq_lconst dX7_retain_23 lc1 ?_
        refine xq_land dX7_retain_24 ?_
        refine xq_lconst dX7_retain_25 lc0 ?_
        refine xq_lcmp dX7_retain_26 ?_
        refine xq_if_eq dX7_retain_27 rfl ⟨fun h27 => ?_, fun h27 => ?_⟩
        · skip
          refine xq_iincN dX7_retain_63 ic1 rfl rfl ?_
          refine xq_goto dX7_retain_66 rfl ?_
          have hb : (rbs H kb) p = false := by show rb _ _ = _; have := (rb_z hkb).mp ((lg_cmp_eq _ _).mp h27); rw [ho.L (by omega)] at this; exact this
          exact ih (p + 1) stay place H1 (by omega) (by omega) (by rw [ct_f hb]; exact hs) (pl_no hpl (fun e => by have hrl2 : rbs H kb (uRl u) = true := hrl; rw [e, hb] at hrl2; cases hrl2)) (by rw [kep_f hb]; exact hk) (fun j hj => hr j (by omega)) ho
        · skip
          refine xq_iload dX7_retain_30 rfl ?_
          refine xq_aload_n dX7_retain_32 rfl rfl ?_
          refine xq_getIE clX7 (by decide) rfl fl_RX7_70 dX7_retain_33 (St.s0 ha) ((ho.I (by omega) 5).trans hu.f5) ?_
          refine xq_icmp_neN dX7_retain_36 rfl (by omega) (by omega) ⟨fun h36 => ?_, fun h36 => ?_⟩
          · skip
            refine xq_iload dX7_retain_43 rfl ?_
            refine xq_istore dX7_retain_45 rfl ?_
            refine xq_aload_n dX7_retain_47 rfl rfl ?_
            refine xq_getF clX7 (by decide) rfl fl_RX7_9 dX7_retain_48 (St.s0 ha) (St.r0 ha) ?_
            refine xq_iload_n dX7_retain_51 rfl rfl ?_
            refine xq_aload_n dX7_retain_52 rfl rfl ?_
            refine xq_getF clX7 (by decide) rfl fl_RX7_9 dX7_retain_53 (St.s0 ha) (St.r0 ha) ?_
            refine xq_iload dX7_retain_56 rfl ?_
            refine xq_ialdN dX7_retain_58 (St.s1 ha) (by omega) (by decide) ((hr p (Nat.le_refl _)).trans (hu.w h14)) ?_
            refine xq_iastN dX7_retain_59 (St.s1 ha) (by omega) (by decide) ?_
            refine xq_iincN dX7_retain_60 ic1 rfl rfl ?_
            refine xq_iincN dX7_retain_63 ic1 rfl rfl ?_
            refine xq_goto dX7_retain_66 rfl ?_
            have hb : (rbs H kb) p = true := Bool.not_eq_false _ ▸ (fun e => h27 ((lg_cmp_eq _ _).mpr ((rb_z hkb).mpr (by rw [ho.L (by omega)]; exact e))))
            exact ih (p + 1) (stay + 1) place _ (by omega) (by omega) (by rw [ct_t hb, hs]) (pl_no hpl (fun e => h36 e.symm)) (keep_in hs hk hb) (fun j hj => by rw [hI_sI, if_neg (by omega)]; exact hr j (by omega)) (Off.pI (A := fun q => q = a + 1) ho rfl _ _)
          · skip
            refine xq_iload_n dX7_retain_39 rfl rfl ?_
            refine xq_goto dX7_retain_40 rfl ?_
            refine xq_istore dX7_retain_45 rfl ?_
            refine xq_aload_n dX7_retain_47 rfl rfl ?_
            refine xq_getF clX7 (by decide) rfl fl_RX7_9 dX7_retain_48 (St.s0 ha) (St.r0 ha) ?_
            refine xq_iload_n dX7_retain_51 rfl rfl ?_
            refine xq_aload_n dX7_retain_52 rfl rfl ?_
            refine xq_getF clX7 (by decide) rfl fl_RX7_9 dX7_retain_53 (St.s0 ha) (St.r0 ha) ?_
            refine xq_iload dX7_retain_56 rfl ?_
            refine xq_ialdN dX7_retain_58 (St.s1 ha) (by omega) (by decide) ((hr p (Nat.le_refl _)).trans (hu.w h14)) ?_
            refine xq_iastN dX7_retain_59 (St.s1 ha) (by omega) (by decide) ?_
            refine xq_iincN dX7_retain_60 ic1 rfl rfl ?_
            refine xq_iincN dX7_retain_63 ic1 rfl rfl ?_
            refine xq_goto dX7_retain_66 rfl ?_
            have hb : (rbs H kb) p = true := Bool.not_eq_false _ ▸ (fun e => h27 ((lg_cmp_eq _ _).mpr ((rb_z hkb).mpr (by rw [ho.L (by omega)]; exact e))))
            exact ih (p + 1) (stay + 1) stay _ (by omega) (by omega) (by rw [ct_t hb, hs]) (by rw [if_pos (by omega), hs, h36]) (keep_in hs hk hb) (fun j hj => by rw [hI_sI, if_neg (by omega)]; exact hr j (by omega)) (Off.pI (A := fun q => q = a + 1) ho rfl _ _)
  refine vq_intro (by decide) (by exact Nat.le_of_ble_eq_true rfl) rfl ?_
  refine xq_iconst dX7_retain_0 ic0 ?_
  refine xq_istore_n dX7_retain_1 rfl rfl ?_
  refine xq_iconst dX7_retain_2 ic0 ?_
  refine xq_istore dX7_retain_3 rfl ?_
  refine xq_iconst dX7_retain_5 ic0 ?_
  refine xq_istore dX7_retain_6 rfl ?_
  exact lp (uZ u + 1) 0 0 0 H (by omega) (by omega) rfl (by rw [if_neg (by omega)]) (fun j hj => absurd hj (by omega)) (fun j _ => rfl) Off.rf
theorem hI_sA (H : xH) (a q j : Nat) (f : Nat → Int32) : hI (sA H a f) q j = if q = a then f j else hI H q j := by
  show (if q = a then f else H.1 q) j = _
  split <;> rfl
theorem Off.pA {A : Nat → Prop} (h : Off A H H') {a : Nat} (ha : A a) (f : Nat → Int32) : Off A H (sA H' a f) := fun q hq => ⟨by
  have hne : ¬ q = a := fun e => hq (e ▸ ha)
  show (if q = a then f else H'.1 q) = _
  rw [if_neg hne]; exact (h q hq).1, (h q hq).2.1, (h q hq).2.2⟩
theorem copy_end {H1 : xH} (hl : ∀ j, j < uZ v → hI H1 (a + 1) j = nI (uW v j)) (hs : ∀ j, j < 6 → hI H1 (a + 2) j = nI (uSe v j) ∧ hI H1 (a + 3) j = nI (vm (uSe v j)) ∧ hI H1 (a + 4) j = nI (uPz v j)) : StP (sL (sI (sI (sI (sI (sI (sI (sI H1 a 4 (nI (uZ v))) a 5 (nI (uRl v))) a 6 (nI (uNp v))) a 7 (nI (uSd v))) a 8 (nI (uHd v))) a 9 (nI (uLi v))) a 10 (nI (uHr v))) a 11 (lN (uLa v))) a v := by
  refine ⟨by simp [hI_sI, hI_sL], fun k h1 h2 => ?_, by simp [hL_sL], fun p hp => ?_, fun p hp => ?_⟩
  · have : k = 5 ∨ k = 6 ∨ k = 7 ∨ k = 8 ∨ k = 9 ∨ k = 10 := by omega
    rcases this with rfl | rfl | rfl | rfl | rfl | rfl <;> simp [hI_sI, hI_sL]
  · simp only [hI_sL, hI_sI, show ¬ (a + 1 = a) by omega, false_and, if_false]; exact hl p hp
  · simp only [hI_sL, hI_sI, show ¬ (a + 2 = a) by omega, show ¬ (a + 3 = a) by omega, show ¬ (a + 4 = a) by omega, false_and, if_false]; exact hs p hp
theorem copy_in {H1 : xH} (hs : ∀ j, j < i → hI H1 (a + 2) j = nI (uSe v j) ∧ hI H1 (a + 3) j = nI (vm (uSe v j)) ∧ hI H1 (a + 4) j = nI (uPz v j)) (j : Nat) (hj : j < i + 1) : hI (sI (sI (sI H1 (a + 2) i (nI (uSe v i))) (a + 3) i (nI (vm (uSe v i)))) (a + 4) i (nI (uPz v i))) (a + 2) j = nI (uSe v j) ∧ hI (sI (sI (sI H1 (a + 2) i (nI (uSe v i))) (a + 3) i (nI (vm (uSe v i)))) (a + 4) i (nI (uPz v i))) (a + 3) j = nI (vm (uSe v j)) ∧ hI (sI (sI (sI H1 (a + 2) i (nI (uSe v i))) (a + 3) i (nI (vm (uSe v i)))) (a + 4) i (nI (uPz v i))) (a + 4) j = nI (uPz v j) := by
  by_cases e : j = i
  · subst e; simp [hI_sI]
  · have := hs j (by omega)
    simp [hI_sI, e, this]
theorem c_copy (ha : gSt S a) (hb : gSt S b) (hap : a + 5 ≤ b ∨ b + 5 ≤ a) (hv : StP H b v) (ok : StOk v) : Nv mX7_copy 1 [.ref a, .ref b] S H (fun H' => StP H' a v ∧ Off (fun q => a ≤ q ∧ q < a + 5) H H') := by
  have hz := ok.n
  have lp : ∀ (fz : Nat) (i : Nat) (H1 : xH), 6 - i < fz → i ≤ 6 → (∀ j, j < uZ v → hI H1 (a + 1) j = nI (uW v j)) → (∀ j, j < i → hI H1 (a + 2) j = nI (uSe v j) ∧ hI H1 (a + 3) j = nI (vm (uSe v j)) ∧ hI H1 (a + 4) j = nI (uPz v j)) → Off (fun q => a ≤ q ∧ q < a + 5) H H1 → Xq mX7_copy 1 0 0 19 [some (.ref a), some (.ref b), some (vN i)] [] S H1 (fun R => ∃ H', (fun H' => StP H' a v ∧ Off (fun q => a ≤ q ∧ q < a + 5) H H') H' ∧ R = (none, S, H')) := by
    intro fz
    induction fz with
    | zero => intro i  H1  hfz; exact absurd hfz (by omega)
    | succ fz ih =>
      intro i  H1  hfz hi hl hs ho
      refine xq_iload_n dX7_copy_19 rfl rfl ?_
      refine xq_bipush dX7_copy_20 bp6 ?_
      refine xq_icmp_geN dX7_copy_22 rfl (by omega) (by omega) ⟨fun h22 => ?_, fun h22 => ?_⟩
      · skip
        refine xq_aload_n dX7_copy_67 rfl rfl ?_
        refine xq_aload_n dX7_copy_68 rfl rfl ?_
        refine xq_getIE (v := nI (uZ v)) clX7 (by decide) rfl fl_RX7_69 dX7_copy_69 (St.s0 hb) (by exact (ho.I (by omega) _).trans hv.sz) ?_
        refine xq_putI clX7 (by decide) rfl fl_RX7_69 (Or.inl rfl) dX7_copy_72 ⟨rfl, rfl⟩ (St.s0 ha) ?_
        refine xq_aload_n dX7_copy_75 rfl rfl ?_
        refine xq_aload_n dX7_copy_76 rfl rfl ?_
        refine xq_getIE (v := nI (uRl v)) clX7 (by decide) rfl fl_RX7_70 dX7_copy_77 (St.s0 hb) (by rw [hI_sI, if_neg (by omega)]; exact (ho.I (by omega) _).trans hv.f5) ?_
        refine xq_putI clX7 (by decide) rfl fl_RX7_70 (Or.inl rfl) dX7_copy_80 ⟨rfl, rfl⟩ (St.s0 ha) ?_
        refine xq_aload_n dX7_copy_83 rfl rfl ?_
        refine xq_aload_n dX7_copy_84 rfl rfl ?_
        refine xq_getIE (v := nI (uNp v)) clX7 (by decide) rfl fl_RX7_36 dX7_copy_85 (St.s0 hb) (by rw [hI_sI, if_neg (by omega)]; rw [hI_sI, if_neg (by omega)]; exact (ho.I (by omega) _).trans hv.f6) ?_
        refine xq_putI clX7 (by decide) rfl fl_RX7_36 (Or.inl rfl) dX7_copy_88 ⟨rfl, rfl⟩ (St.s0 ha) ?_
        refine xq_aload_n dX7_copy_91 rfl rfl ?_
        refine xq_aload_n dX7_copy_92 rfl rfl ?_
        refine xq_getIE (v := nI (uSd v)) clX7 (by decide) rfl fl_RX7_38 dX7_copy_93 (St.s0 hb) (by rw [hI_sI, if_neg (by omega)]; rw [hI_sI, if_neg (by omega)]; rw [hI_sI, if_neg (by omega)]; exact (ho.I (by omega) _).trans hv.f7) ?_
        refine xq_putI clX7 (by decide) rfl fl_RX7_38 (Or.inl rfl) dX7_copy_96 ⟨rfl, rfl⟩ (St.s0 ha) ?_
        refine xq_aload_n dX7_copy_99 rfl rfl ?_
        refine xq_aload_n dX7_copy_100 rfl rfl ?_
        refine xq_getIE (v := nI (uHd v)) clX7 (by decide) rfl fl_RX7_41 dX7_copy_101 (St.s0 hb) (by rw [hI_sI, if_neg (by omega)]; rw [hI_sI, if_neg (by omega)]; rw [hI_sI, if_neg (by omega)]; rw [hI_sI, if_neg (by omega)]; exact (ho.I (by omega) _).trans hv.f8) ?_
        refine xq_putI clX7 (by decide) rfl fl_RX7_41 (Or.inl rfl) dX7_copy_104 ⟨rfl, rfl⟩ (St.s0 ha) ?_
        refine xq_aload_n dX7_copy_107 rfl rfl ?_
        refine xq_aload_n dX7_copy_108 rfl rfl ?_
        refine xq_getIE (v := nI (uLi v)) clX7 (by decide) rfl fl_RX7_44 dX7_copy_109 (St.s0 hb) (by rw [hI_sI, if_neg (by omega)]; rw [hI_sI, if_neg (by omega)]; rw [hI_sI, if_neg (by omega)]; rw [hI_sI, if_neg (by omega)]; rw [hI_sI, if_neg (by omega)]; exact (ho.I (by omega) _).trans hv.f9) ?_
        refine xq_putI clX7 (by decide) rfl fl_RX7_44 (Or.inl rfl) dX7_copy_112 ⟨rfl, rfl⟩ (St.s0 ha) ?_
        refine xq_aload_n dX7_copy_115 rfl rfl ?_
        refine xq_aload_n dX7_copy_116 rfl rfl ?_
        refine xq_getIE (v := nI (uHr v)) clX7 (by decide) rfl fl_RX7_47 dX7_copy_117 (St.s0 hb) (by rw [hI_sI, if_neg (by omega)]; rw [hI_sI, if_neg (by omega)]; rw [hI_sI, if_neg (by omega)]; rw [hI_sI, if_neg (by omega)]; rw [hI_sI, if_neg (by omega)]; rw [hI_sI, if_neg (by omega)]; exact (ho.I (by omega) _).trans hv.f10) ?_
        refine xq_putI clX7 (by decide) rfl fl_RX7_47 (Or.inl rfl) dX7_copy_120 ⟨rfl, rfl⟩ (St.s0 ha) ?_
        refine xq_aload_n dX7_copy_123 rfl rfl ?_
        refine xq_aload_n dX7_copy_124 rfl rfl ?_
        refine xq_getLE (v := lN (uLa v)) clX7 (by decide) rfl fl_RX7_53 dX7_copy_125 (St.s0 hb) (by show hL H1 b 11 = _; exact (ho.L (by omega) _).trans hv.la) ?_
        refine xq_putL clX7 (by decide) rfl fl_RX7_53 (Or.inl rfl) dX7_copy_128 ⟨rfl, rfl⟩ (St.s0 ha) ?_
        refine xq_vret dX7_copy_131 rfl ?_
        exact ⟨_, ⟨copy_end hl (fun j hj => hs j (by omega)), (Off.pL (A := (fun q => a ≤ q ∧ q < a + 5)) (Off.pI (A := (fun q => a ≤ q ∧ q < a + 5)) (Off.pI (A := (fun q => a ≤ q ∧ q < a + 5)) (Off.pI (A := (fun q => a ≤ q ∧ q < a + 5)) (Off.pI (A := (fun q => a ≤ q ∧ q < a + 5)) (Off.pI (A := (fun q => a ≤ q ∧ q < a + 5)) (Off.pI (A := (fun q => a ≤ q ∧ q < a + 5)) (Off.pI (A := (fun q => a ≤ q ∧ q < a + 5)) ho (by omega) _ _) (by omega) _ _) (by omega) _ _) (by omega) _ _) (by omega) _ _) (by omega) _ _) (by omega) _ _) (by omega) _ _)⟩, rfl⟩
      · skip
        refine xq_aload_n dX7_copy_25 rfl rfl ?_
        refine xq_getF clX7 (by decide) rfl fl_RX7_15 dX7_copy_26 (St.s0 ha) (St.r1 ha) ?_
        refine xq_iload_n dX7_copy_29 rfl rfl ?_
        refine xq_aload_n dX7_copy_30 rfl rfl ?_
        refine xq_getF clX7 (by decide) rfl fl_RX7_15 dX7_copy_31 (St.s0 hb) (St.r1 hb) ?_
        refine xq_iload_n dX7_copy_34 rfl rfl ?_
        refine xq_ialdN (v := nI (uSe v i)) dX7_copy_35 (St.s2 hb) (by omega) (by decide) (by exact (ho.I (by omega) _).trans (hv.se h22)) ?_
        refine xq_iastN dX7_copy_36 (St.s2 ha) (by omega) (by decide) ?_
        refine xq_aload_n dX7_copy_37 rfl rfl ?_
        refine xq_getF clX7 (by decide) rfl fl_RX7_18 dX7_copy_38 (St.s0 ha) (St.r2 ha) ?_
        refine xq_iload_n dX7_copy_41 rfl rfl ?_
        refine xq_aload_n dX7_copy_42 rfl rfl ?_
        refine xq_getF clX7 (by decide) rfl fl_RX7_18 dX7_copy_43 (St.s0 hb) (St.r2 hb) ?_
        refine xq_iload_n dX7_copy_46 rfl rfl ?_
        refine xq_ialdN (v := nI (vm (uSe v i))) dX7_copy_47 (St.s3 hb) (by omega) (by decide) (by rw [hI_sI, if_neg (by omega)]; exact (ho.I (by omega) _).trans (hv.vi h22)) ?_
        refine xq_iastN dX7_copy_48 (St.s3 ha) (by omega) (by decide) ?_
        refine xq_aload_n dX7_copy_49 rfl rfl ?_
        refine xq_getF clX7 (by decide) rfl fl_RX7_21 dX7_copy_50 (St.s0 ha) (St.r3 ha) ?_
        refine xq_iload_n dX7_copy_53 rfl rfl ?_
        refine xq_aload_n dX7_copy_54 rfl rfl ?_
        refine xq_getF clX7 (by decide) rfl fl_RX7_21 dX7_copy_55 (St.s0 hb) (St.r3 hb) ?_
        refine xq_iload_n dX7_copy_58 rfl rfl ?_
        refine xq_ialdN (v := nI (uPz v i)) dX7_copy_59 (St.s4 hb) (by omega) (by decide) (by rw [hI_sI, if_neg (by omega), hI_sI, if_neg (by omega)]; exact (ho.I (by omega) _).trans (hv.pz h22)) ?_
        refine xq_iastN dX7_copy_60 (St.s4 ha) (by omega) (by decide) ?_
        refine xq_iincN dX7_copy_61 ic1 rfl rfl ?_
        refine xq_goto dX7_copy_64 rfl ?_
        exact ih (i + 1) _ (by omega) (by omega) (fun j hj => by rw [hI_sI, if_neg (by omega), hI_sI, if_neg (by omega), hI_sI, if_neg (by omega)]; exact hl j hj) (copy_in hs) (Off.pI (A := (fun q => a ≤ q ∧ q < a + 5)) (Off.pI (A := (fun q => a ≤ q ∧ q < a + 5)) (Off.pI (A := (fun q => a ≤ q ∧ q < a + 5)) ho (by omega) _ _) (by omega) _ _) (by omega) _ _)
  refine vq_intro (by decide) (by exact Nat.le_of_ble_eq_true rfl) rfl ?_
  refine xq_aload_n dX7_copy_0 rfl rfl ?_
  refine xq_getF clX7 (by decide) rfl fl_RX7_9 dX7_copy_1 (St.s0 hb) (St.r0 hb) ?_
  refine xq_iconst dX7_copy_4 ic0 ?_
  refine xq_aload_n dX7_copy_5 rfl rfl ?_
  refine xq_getF clX7 (by decide) rfl fl_RX7_9 dX7_copy_6 (St.s0 ha) (St.r0 ha) ?_
  refine xq_iconst dX7_copy_9 ic0 ?_
  refine xq_aload_n dX7_copy_10 rfl rfl ?_
  refine xq_getIE clX7 (by decide) rfl fl_RX7_69 dX7_copy_11 (St.s0 hb) hv.sz ?_
  refine xq_copyi dX7_copy_14 mcp_RX7_80 cp_ini (St.s1 hb) (St.s1 ha) (by omega) (by omega) (by omega) (by decide) ?_
  refine xq_iconst dX7_copy_17 ic0 ?_
  refine xq_istore_n dX7_copy_18 rfl rfl ?_
  exact lp 7 0 _ (by omega) (by omega) (fun j hj => by rw [hI_sA, if_pos rfl, if_pos hj]; exact hv.w hj) (fun j hj => absurd hj (by omega)) (Off.pA (A := (fun q => a ≤ q ∧ q < a + 5)) Off.rf (by omega) _)
end ST3
