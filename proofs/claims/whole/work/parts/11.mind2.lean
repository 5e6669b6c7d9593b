/-! ===== Mind: who knows ===== -/
/-- the turn; no stamp is ahead of it -/
def MiP (H : xH) (t : Nat) : Prop := hI H 16 2 = nI t ∧ ∀ j, j < 4096 → ∃ s, s ≤ t ∧ hI H 17 j = nI s
section MS
variable {S : xS} {H H1 : xH} {a : Nat} {u : uSt} {i j c p k x y n t : Nat}
theorem ct_b (f : Nat → Bool) (n : Nat) : ct f (n + 1) = ct f n + (f n).toNat := by
  cases h : f n
  · rw [ct_f h]; rfl
  · rw [ct_t h]; rfl
theorem MiP.off {A : Nat → Prop} (h : MiP H t) (ho : Off A H H1) (h1 : ¬ A 16) (h2 : ¬ A 17) : MiP H1 t := ⟨(ho.I h1 2).trans h.1, fun j hj => by
  obtain ⟨s, hs, e⟩ := h.2 j hj
  exact ⟨s, hs, (ho.I h2 j).trans e⟩⟩
theorem rb_nat (b : Bool) {j : Nat} (hj : j < 64) : rb (lN b.toNat) j = (decide (j = 0) && b) := by
  have : ∀ (b : Bool) (j : Fin 64), rb (lN b.toNat) j.val = (decide (j.val = 0) && b) := by decide +kernel
  exact this b ⟨j, hj⟩
theorem c_keepOnly (hF : gFx S) (ha : gSt S a) (h67 : 67 ≤ a) (hu : StP H a u) (ok : StOk u) (hk : k < 64) : Nv mX4_keepOnly 0 [.ref 16, .ref a, vN k] S H (fun H' => Off (fun q => q = 19) H H' ∧ ∀ p, p < uZ u → ∀ j, j < 64 → rx H' p j = (decide (j = 0) && rx H p k)) := by
  have hz := ok.n
  have lp : ∀ (n : Nat) (p : Nat) (H1 : xH), uZ u - p < n → p ≤ uZ u → Off (fun q => q = 19) H H1 → (∀ q, q < p → ∀ j, j < 64 → rx H1 q j = (decide (j = 0) && rx H q k)) → (∀ q, p ≤ q → hL H1 19 q = hL H 19 q) → Xq mX4_keepOnly 0 0 0 2 [some (.ref 16), some (.ref a), some (vN k), some (vN p)] [] S H1 (fun R => ∃ H', (fun H' => Off (fun q => q = 19) H H' ∧ ∀ p, p < uZ u → ∀ j, j < 64 → rx H' p j = (decide (j = 0) && rx H p k)) H' ∧ R = (none, S, H')) := by
    intro n
    induction n with
    | zero => intro p  H1  hn; exact absurd hn (by omega)
    | succ n ih =>
      intro p  H1  hn hp ho hc hr
      have hu1 := hu.off ho (fun j hj => by omega)
      refine xq_iload_n dX4_keepOnly_2 rfl rfl ?_
      refine xq_aload_n dX4_keepOnly_3 rfl rfl ?_
      refine xq_getIE clX7 (by decide) rfl fl_RX4_85 dX4_keepOnly_4 (St.s0 ha) hu1.sz ?_
      refine xq_icmp_geN dX4_keepOnly_7 rfl (by omega) (by omega) ⟨fun h7 => ?_, fun h7 => ?_⟩
      · skip
        refine xq_vret dX4_keepOnly_32 rfl ?_
        exact ⟨H1, ⟨ho, fun q hq => hc q (by omega)⟩, rfl⟩
      · skip
        refine xq_aload_n dX4_keepOnly_10 rfl rfl ?_
        refine xq_getF clX4 (by decide) rfl fl_RX4_18 dX4_keepOnly_11 (Fx.s16 hF) (Fx.r16_3 hF) ?_
        refine xq_iload_n dX4_keepOnly_14 rfl rfl ?_
        refine xq_aload_n dX4_keepOnly_15 rfl rfl ?_
        refine xq_getF clX4 (by decide) rfl fl_RX4_18 dX4_keepOnly_16 (Fx.s16 hF) (Fx.r16_3 hF) ?_
        refine xq_iload_n dX4_keepOnly_19 rfl rfl ?_
        refine xq_laldN dX4_keepOnly_20 (Fx.s19 hF) (by omega) (by decide) rfl ?_
        refine xq_iload_n dX4_keepOnly_21 rfl rfl ?_
        refine xq_lushr dX4_keepOnly_22 ?_
        refine xq_lconst dX4_keepOnly_23 lc1 ?_
        refine xq_land dX4_keepOnly_24 ?_
        rw [rb_v _ hk]
        refine xq_lastN dX4_keepOnly_25 (Fx.s19 hF) (by omega) (by decide) ?_
        refine xq_iincN dX4_keepOnly_26 ic1 rfl rfl ?_
        refine xq_goto dX4_keepOnly_29 rfl ?_
        refine ih (p + 1) _ (by omega) (by omega) (Off.pL (A := fun q => q = 19) ho rfl _ _) (fun q hq j hj => ?_) (fun q hq => by rw [hL_sL, if_neg (by omega)]; exact hr q (by omega))
        show rb (hL (sL _ _ _ _) 19 q) j = _
        rw [hL_sL]
        by_cases e : q = p
        · subst e
          rw [if_pos ⟨rfl, rfl⟩, rb_nat _ hj, hr q (Nat.le_refl _)]
        · rw [if_neg (fun z => e z.2)]
          exact hc q (by omega) j hj
  refine vq_intro (by decide) (by exact Nat.le_of_ble_eq_true rfl) rfl ?_
  refine xq_iconst dX4_keepOnly_0 ic0 ?_
  refine xq_istore_n dX4_keepOnly_1 rfl rfl ?_
  exact lp (uZ u + 1) 0 H (by omega) (by omega) Off.rf (fun q hq => absurd hq (by omega)) (fun q _ => rfl)
theorem c_howMany (hF : gFx S) (ha : gSt S a) (h67 : 67 ≤ a) (hu : StP H a u) (ok : StOk u) (hk : k < 64) : Pv mX4_howMany 1 [.ref 16, .ref a, vN k] S H (vN (ct (fun p => rx H p k) (uZ u))) := by
  have hz := ok.n
  have lp : ∀ (n : Nat) (p m : Nat), uZ u - p < n → p ≤ uZ u → m = ct (fun p => rx H p k) p → Xq mX4_howMany 1 0 0 5 [some (.ref 16), some (.ref a), some (vN k), some (vN m), some (vN p)] [] S H (fun R => R = (some (vN (ct (fun p => rx H p k) (uZ u))), S, H)) := by
    intro n
    induction n with
    | zero => intro p m hn; exact absurd hn (by omega)
    | succ n ih =>
      intro p m hn hp hm
      refine xq_iload dX4_howMany_5 rfl ?_
      refine xq_aload_n dX4_howMany_7 rfl rfl ?_
      refine xq_getIE clX7 (by decide) rfl fl_RX4_85 dX4_howMany_8 (St.s0 ha) hu.sz ?_
      refine xq_icmp_geN dX4_howMany_11 rfl (by omega) (by omega) ⟨fun h11 => ?_, fun h11 => ?_⟩
      · skip
        refine xq_iload_n dX4_howMany_30 rfl rfl ?_
        refine xq_iret dX4_howMany_31 rfl ?_
        show _ = _; rw [hm, show p = uZ u by omega]
      · skip
        refine xq_iload_n dX4_howMany_14 rfl rfl ?_
        refine xq_aload_n dX4_howMany_15 rfl rfl ?_
        refine xq_iload dX4_howMany_16 rfl ?_
        refine xq_iload_n dX4_howMany_18 rfl rfl ?_
        refine xq_callV2P clX4 gd_X4_bit dX4_howMany_19 ml_RX4_127 im_X4_bit se_X4_bit rfl (Fx.s16 hF) (by exact Nat.le_of_ble_eq_true rfl) (by decide) (c_bit hF (by omega) hk) ?_
        refine xq_iaddN dX4_howMany_22 ?_
        refine xq_istore_n dX4_howMany_23 rfl rfl ?_
        refine xq_iincN dX4_howMany_24 ic1 rfl rfl ?_
        refine xq_goto dX4_howMany_27 rfl ?_
        exact ih (p + 1) _ (by omega) (by omega) (by rw [hm]; exact (ct_b (fun p => rx H p k) p).symm)
  refine vq_ev (vq_intro (by decide) (by exact Nat.le_of_ble_eq_true rfl) rfl ?_)
  refine xq_iconst dX4_howMany_0 ic0 ?_
  refine xq_istore_n dX4_howMany_1 rfl rfl ?_
  refine xq_iconst dX4_howMany_2 ic0 ?_
  refine xq_istore dX4_howMany_3 rfl ?_
  exact lp (uZ u + 1) 0 0 (by omega) (by omega) rfl
def surN (H : xH) (u : uSt) (i k n : Nat) : Bool := !(ex (fun p => alk u i p && rx H p k) n)
def surA (H : xH) (u : uSt) (i k n : Nat) : Bool := !(ex (fun p => alk u i p && !(rx H p k)) n)
def sur (H : xH) (u : uSt) (i k : Nat) : Nat := if surA H u i k (uZ u) then 1 else if surN H u i k (uZ u) then 0 else 2
theorem toNat_01 (b : Bool) : (b.toNat = 0 ↔ b = false) ∧ (b.toNat = 1 ↔ b = true) := by cases b <;> simp
theorem and_01 {n : Nat} (b : Bool) (h : n = b.toNat) (m : Nat) (hm : m = 0 ∨ m = 1) : n &&& m = if m = 1 then n else 0 := by
  subst h
  rcases hm with rfl | rfl <;> cases b <;> rfl
theorem c_sureness (hF : gFx S) (ha : gSt S a) (h67 : 67 ≤ a) (hu : StP H a u) (ok : StOk u) (hi : i < 6) (hk : k < 64) : Pv mX4_sureness 1 [.ref 16, .ref a, vN i, vN k] S H (vN (sur H u i k)) := by
  have hz := ok.n
  have lp : ∀ (n : Nat) (p nv al : Nat), uZ u - p < n → p ≤ uZ u → nv = (surN H u i k p).toNat → al = (surA H u i k p).toNat → Xq mX4_sureness 1 0 0 9 [some (.ref 16), some (.ref a), some (vN i), some (vN k), some (vN nv), some (vN al), some (vN p)] [] S H (fun R => R = (some (vN (sur H u i k)), S, H)) := by
    intro n
    induction n with
    | zero => intro p nv al hn; exact absurd hn (by omega)
    | succ n ih =>
      intro p nv al hn hp hn1 ha1
      refine xq_iload dX4_sureness_9 rfl ?_
      refine xq_aload_n dX4_sureness_11 rfl rfl ?_
      refine xq_getIE clX7 (by decide) rfl fl_RX4_85 dX4_sureness_12 (St.s0 ha) hu.sz ?_
      refine xq_icmp_geN dX4_sureness_15 rfl (by omega) (by omega) ⟨fun h15 => ?_, fun h15 => ?_⟩
      · skip
        have hb2 := (surN H u i k p).toNat_le; have hb3 := (surA H u i k p).toNat_le
        refine xq_iload dX4_sureness_75 rfl ?_
        refine xq_if_eqN dX4_sureness_77 rfl (by omega) ⟨fun h77 => ?_, fun h77 => ?_⟩
        · skip
          refine xq_iload dX4_sureness_84 rfl ?_
          refine xq_if_eqN dX4_sureness_86 rfl (by omega) ⟨fun h86 => ?_, fun h86 => ?_⟩
          · skip
            refine xq_iconst dX4_sureness_93 ic2 ?_
            refine xq_iret dX4_sureness_94 rfl ?_
            show _ = _; have h1 : surA H u i k (uZ u) = false := by
              rw [show p = uZ u by omega] at ha1
              exact (toNat_01 _).1.mp (ha1.symm.trans h77)
            have h2 : surN H u i k (uZ u) = false := by
              rw [show p = uZ u by omega] at hn1
              exact (toNat_01 _).1.mp (hn1.symm.trans h86)
            rw [show sur H u i k = 2 by simp [sur, h1, h2]]
          · skip
            refine xq_iconst dX4_sureness_89 ic0 ?_
            refine xq_goto dX4_sureness_90 rfl ?_
            refine xq_iret dX4_sureness_94 rfl ?_
            show _ = _; have h1 : surA H u i k (uZ u) = false := by
              rw [show p = uZ u by omega] at ha1
              exact (toNat_01 _).1.mp (ha1.symm.trans h77)
            have h2 : surN H u i k (uZ u) = true := by
              rw [show p = uZ u by omega] at hn1
              cases hz2 : surN H u i k (uZ u)
              · rw [hz2] at hn1; exact absurd hn1 h86
              · rfl
            rw [show sur H u i k = 0 by simp [sur, h1, h2]]
        · skip
          refine xq_iconst dX4_sureness_80 ic1 ?_
          refine xq_goto dX4_sureness_81 rfl ?_
          refine xq_iret dX4_sureness_94 rfl ?_
          show _ = _; have h1 : surA H u i k (uZ u) = true := by
            rw [show p = uZ u by omega] at ha1
            cases hz2 : surA H u i k (uZ u)
            · rw [hz2] at ha1; exact absurd ha1 h77
            · rfl
          rw [show sur H u i k = 1 by simp [sur, h1]]
      · skip
        refine xq_aload_n dX4_sureness_18 rfl rfl ?_
        refine xq_iload dX4_sureness_19 rfl ?_
        refine xq_iload_n dX4_sureness_21 rfl rfl ?_
        refine xq_callV2P clX7 gd_X7_isAlike dX4_sureness_22 ml_RX4_130 im_X7_isAlike se_X7_isAlike rfl (St.s0 ha) (by exact Nat.le_of_ble_eq_true rfl) (by decide) (c_isAlike ha hu ok h15 hi) ?_
        refine xq_if_eqB dX4_sureness_25 rfl ⟨fun h25 => ?_, fun h25 => ?_⟩
        · skip
          refine xq_iincN dX4_sureness_69 ic1 rfl rfl ?_
          refine xq_goto dX4_sureness_72 rfl ?_
          exact ih (p + 1) nv al (by omega) (by omega) (by rw [hn1]; simp [surN, ex_s, h25]) (by rw [ha1]; simp [surA, ex_s, h25])
        · skip
          refine xq_iload dX4_sureness_28 rfl ?_
          refine xq_aload_n dX4_sureness_30 rfl rfl ?_
          refine xq_iload dX4_sureness_31 rfl ?_
          refine xq_iload_n dX4_sureness_33 rfl rfl ?_
          refine xq_callV2P clX4 gd_X4_bit dX4_sureness_34 ml_RX4_127 im_X4_bit se_X4_bit rfl (Fx.s16 hF) (by exact Nat.le_of_ble_eq_true rfl) (by decide) (c_bit hF (by omega) hk) ?_
          have hb1 := (rx H p k).toNat_le
          refine xq_if_neN dX4_sureness_37 rfl (by omega) ⟨fun h37 => ?_, fun h37 => ?_⟩
          · skip
            refine xq_iconst dX4_sureness_44 ic0 ?_
            refine xq_iandN dX4_sureness_45 ?_
            refine xq_istore dX4_sureness_46 rfl ?_
            refine xq_iload dX4_sureness_48 rfl ?_
            refine xq_aload_n dX4_sureness_50 rfl rfl ?_
            refine xq_iload dX4_sureness_51 rfl ?_
            refine xq_iload_n dX4_sureness_53 rfl rfl ?_
            refine xq_callV2P clX4 gd_X4_bit dX4_sureness_54 ml_RX4_127 im_X4_bit se_X4_bit rfl (Fx.s16 hF) (by exact Nat.le_of_ble_eq_true rfl) (by decide) (c_bit hF (by omega) hk) ?_
            refine xq_iconst dX4_sureness_57 ic1 ?_
            refine xq_icmp_neN dX4_sureness_58 rfl (by omega) (by omega) ⟨fun h58 => ?_, fun h58 => ?_⟩
            · skip
              refine xq_iconst dX4_sureness_65 ic0 ?_
              refine xq_iandN dX4_sureness_66 ?_
              refine xq_istore dX4_sureness_67 rfl ?_
              refine xq_iincN dX4_sureness_69 ic1 rfl rfl ?_
              refine xq_goto dX4_sureness_72 rfl ?_
              exact absurd ((toNat_01 _).2.mpr (Bool.not_eq_false _ ▸ (fun z => h37 ((toNat_01 _).1.mpr z)))) h58
            · skip
              refine xq_iconst dX4_sureness_61 ic1 ?_
              refine xq_goto dX4_sureness_62 rfl ?_
              refine xq_iandN dX4_sureness_66 ?_
              refine xq_istore dX4_sureness_67 rfl ?_
              refine xq_iincN dX4_sureness_69 ic1 rfl rfl ?_
              refine xq_goto dX4_sureness_72 rfl ?_
              have hb : rx H p k = true := (toNat_01 _).2.mp h58
              exact ih (p + 1) _ _ (by omega) (by omega) (by rw [hn1]; simp [surN, ex_s, h25, hb]) (by rw [ha1, show surA H u i k (p + 1) = surA H u i k p by simp [surA, ex_s, hb]]; cases surA H u i k p <;> rfl)
          · skip
            refine xq_iconst dX4_sureness_40 ic1 ?_
            refine xq_goto dX4_sureness_41 rfl ?_
            refine xq_iandN dX4_sureness_45 ?_
            refine xq_istore dX4_sureness_46 rfl ?_
            refine xq_iload dX4_sureness_48 rfl ?_
            refine xq_aload_n dX4_sureness_50 rfl rfl ?_
            refine xq_iload dX4_sureness_51 rfl ?_
            refine xq_iload_n dX4_sureness_53 rfl rfl ?_
            refine xq_callV2P clX4 gd_X4_bit dX4_sureness_54 ml_RX4_127 im_X4_bit se_X4_bit rfl (Fx.s16 hF) (by exact Nat.le_of_ble_eq_true rfl) (by decide) (c_bit hF (by omega) hk) ?_
            refine xq_iconst dX4_sureness_57 ic1 ?_
            refine xq_icmp_neN dX4_sureness_58 rfl (by omega) (by omega) ⟨fun h58 => ?_, fun h58 => ?_⟩
            · skip
              refine xq_iconst dX4_sureness_65 ic0 ?_
              refine xq_iandN dX4_sureness_66 ?_
              refine xq_istore dX4_sureness_67 rfl ?_
              refine xq_iincN dX4_sureness_69 ic1 rfl rfl ?_
              refine xq_goto dX4_sureness_72 rfl ?_
              have hb : rx H p k = false := (toNat_01 _).1.mp h37
              exact ih (p + 1) _ _ (by omega) (by omega) (by rw [hn1, show surN H u i k (p + 1) = surN H u i k p by simp [surN, ex_s, hb]]; cases surN H u i k p <;> rfl) (by rw [ha1]; simp [surA, ex_s, h25, hb])
            · skip
              refine xq_iconst dX4_sureness_61 ic1 ?_
              refine xq_goto dX4_sureness_62 rfl ?_
              refine xq_iandN dX4_sureness_66 ?_
              refine xq_istore dX4_sureness_67 rfl ?_
              refine xq_iincN dX4_sureness_69 ic1 rfl rfl ?_
              refine xq_goto dX4_sureness_72 rfl ?_
              exact absurd ((toNat_01 _).2.mp h58) (by rw [(toNat_01 _).1.mp h37]; decide)
  refine vq_ev (vq_intro (by decide) (by exact Nat.le_of_ble_eq_true rfl) rfl ?_)
  refine xq_iconst dX4_sureness_0 ic1 ?_
  refine xq_istore dX4_sureness_1 rfl ?_
  refine xq_iconst dX4_sureness_3 ic1 ?_
  refine xq_istore dX4_sureness_4 rfl ?_
  refine xq_iconst dX4_sureness_6 ic0 ?_
  refine xq_istore dX4_sureness_7 rfl ?_
  exact lp (uZ u + 1) 0 1 1 (by omega) (by omega) rfl rfl
def acc (u : uSt) (i key n : Nat) : Nat := fo (fun p b => if ky u i p = key then b ||| (1 <<< col (uW u p) i) else b) 0 n
theorem acc_lt (u : uSt) (i key : Nat) : ∀ n, acc u i key n < 16
  | 0 => Nat.lt_of_sub_eq_succ rfl
  | n + 1 => by
    show (if _ then _ else _) < 16
    split
    · exact or16 (acc_lt u i key n) (shl16 (col_lt _ _))
    · exact acc_lt u i key n
theorem or_ne {a b : Nat} (h : b ≠ 0) : a ||| b ≠ 0 := fun e => h (Nat.or_eq_zero_iff.mp e).2
theorem shl_ne (c : Nat) : 1 <<< c ≠ 0 := by have := shl_pos c; omega
theorem acc_ne {u : uSt} {i p : Nat} : ∀ {n}, p < n → acc u i (ky u i p) n ≠ 0
  | n + 1, h => by
    show (if ky u i n = ky u i p then _ else _) ≠ 0
    by_cases e : ky u i n = ky u i p
    · rw [if_pos e]; exact or_ne (shl_ne _)
    · rw [if_neg e]
      exact acc_ne (by
        have : p ≠ n := fun z => e (by rw [z])
        omega)
def own (u : uSt) (i p : Nat) : Bool := (acc u i (ky u i p) (uZ u) &&& (acc u i (ky u i p) (uZ u) - 1)) == 0
/-- what the stamps and the pool hold, when the worlds ahead of n are gathered -/
def Gat (H1 : xH) (u : uSt) (i t n : Nat) : Prop := ∀ key, key < 4096 → (acc u i key n = 0 → ∃ s, s ≤ t ∧ hI H1 17 key = nI s) ∧ (acc u i key n ≠ 0 → hI H1 17 key = nI (t + 1) ∧ hI H1 18 key = nI (acc u i key n))
theorem Gat.step {v : Nat} (h : Gat H1 u i t n) (ht : t + 1 < 2147483648) (hv : v = (acc u i (ky u i n) n ||| (1 <<< col (uW u n) i))) : Gat (sI (sI H1 18 (ky u i n) (nI v)) 17 (ky u i n) (nI (t + 1))) u i t (n + 1) := by
  intro key hkey
  have hs : acc u i key (n + 1) = if ky u i n = key then acc u i key n ||| (1 <<< col (uW u n) i) else acc u i key n := rfl
  by_cases e : ky u i n = key
  · subst e
    rw [if_pos rfl] at hs
    refine ⟨fun z => absurd z (by rw [hs]; exact or_ne (shl_ne _)), fun _ => ⟨by simp [hI_sI], ?_⟩⟩
    rw [hs, ← hv]; simp [hI_sI]
  · rw [if_neg e] at hs
    rw [hs]
    have e2 : ¬ key = ky u i n := fun z => e z.symm
    simp only [hI_sI, e2, and_false, if_false, show ¬ (17 = 18) by decide, show ¬ (18 = 17) by decide, false_and]
    exact h key hkey
theorem nI_inj {x y : Nat} (hx : x < 2147483648) (hy : y < 2147483648) (h : nI x = nI y) : x = y := (nq_eq hx hy).mp h
theorem c_knowsOwn (hF : gFx S) (ha : gSt S a) (h67 : 67 ≤ a) (hu : StP H a u) (ok : StOk u) (hm : MiP H t) (ht : t + 1 < 2147483648) (hi : i < 6) (hk : k < 64) : Nv mX4_knowsOwn 2 [.ref 16, .ref a, vN i, vN k] S H (fun H' => Off (fun q => 16 ≤ q ∧ q ≤ 19) H H' ∧ MiP H' (t + 1) ∧ hI H' 16 5 = hI H 16 5 ∧ ColS H H' (uZ u) k (fun p => own u i p)) := by
  have hz := ok.n
  have lq : ∀ (n : Nat) (p : Nat) (H1 : xH), uZ u - p < n → p ≤ uZ u → Off (fun q => 16 ≤ q ∧ q ≤ 19) H H1 → hI H1 16 2 = nI (t + 1) → hI H1 16 5 = hI H 16 5 → MiP H1 (t + 1) → (∀ p, p < uZ u → hI H1 18 (ky u i p) = nI (acc u i (ky u i p) (uZ u))) → ColS H H1 p k (fun p => own u i p) → Xq mX4_knowsOwn 2 0 0 117 [some (.ref 16), some (.ref a), some (vN i), some (vN k), some (vN (vm (uSe u i))), some (vN p), none, none] [] S H1 (fun R => ∃ H', (fun H' => Off (fun q => 16 ≤ q ∧ q ≤ 19) H H' ∧ MiP H' (t + 1) ∧ hI H' 16 5 = hI H 16 5 ∧ ColS H H' (uZ u) k (fun p => own u i p)) H' ∧ R = (none, S, H')) := by
    intro n
    induction n with
    | zero => intro p  H1  hn; exact absurd hn (by omega)
    | succ n ih =>
      intro p  H1  hn hp ho h2 h5 hm1 hpo hc
      have hu1 := hu.off ho (fun j hj => by omega)
      refine xq_iload dX4_knowsOwn_117 rfl ?_
      refine xq_aload_n dX4_knowsOwn_119 rfl rfl ?_
      refine xq_getIE clX7 (by decide) rfl fl_RX4_85 dX4_knowsOwn_120 (St.s0 ha) hu1.sz ?_
      refine xq_icmp_geN dX4_knowsOwn_123 rfl (by omega) (by omega) ⟨fun h123 => ?_, fun h123 => ?_⟩
      · skip
        refine xq_vret dX4_knowsOwn_175 rfl ?_
        exact ⟨H1, ⟨ho, hm1, h5, by rw [show uZ u = p by omega]; exact hc⟩, rfl⟩
      · skip
        have hkl := ky_lt u i p; have hac := acc_lt u i (ky u i p) (uZ u); have hne := acc_ne (u := u) (i := i) h123; have hal := shr_le 0 0
        refine xq_aload_n dX4_knowsOwn_126 rfl rfl ?_
        refine xq_getF clX4 (by decide) rfl fl_RX4_15 dX4_knowsOwn_127 (Fx.s16 hF) (Fx.r16_1 hF) ?_
        refine xq_aload_n dX4_knowsOwn_130 rfl rfl ?_
        refine xq_getF clX7 (by decide) rfl fl_RX4_88 dX4_knowsOwn_131 (St.s0 ha) (St.r0 ha) ?_
        refine xq_iload dX4_knowsOwn_134 rfl ?_
        refine xq_ialdN dX4_knowsOwn_136 (St.s1 ha) (by omega) (by decide) (hu1.w h123) ?_
        refine xq_iload dX4_knowsOwn_137 rfl ?_
        refine xq_iandN dX4_knowsOwn_139 ?_
        refine xq_sipush dX4_knowsOwn_140 sp4095 ?_
        refine xq_iandN dX4_knowsOwn_143 ?_
        refine xq_ialdN dX4_knowsOwn_144 (Fx.s18 hF) (ky_lt u i p) (by decide) (hpo p h123) ?_
        refine xq_istore dX4_knowsOwn_145 rfl ?_
        refine xq_aload_n dX4_knowsOwn_147 rfl rfl ?_
        refine xq_iload dX4_knowsOwn_148 rfl ?_
        refine xq_iload_n dX4_knowsOwn_150 rfl rfl ?_
        refine xq_iload dX4_knowsOwn_151 rfl ?_
        refine xq_iload dX4_knowsOwn_153 rfl ?_
        refine xq_iconst dX4_knowsOwn_155 ic1 ?_
        refine xq_isubN dX4_knowsOwn_156 (by omega) ?_
        refine xq_iandN dX4_knowsOwn_157 ?_
        refine xq_if_neN dX4_knowsOwn_158 rfl (Nat.lt_of_le_of_lt Nat.and_le_left (Nat.lt_trans hac (by decide))) ⟨fun h158 => ?_, fun h158 => ?_⟩
        · skip
          refine xq_iconst dX4_knowsOwn_165 ic0 ?_
          refine xq_callV3N clX4 gd_X4_set dX4_knowsOwn_166 ml_RX4_95 im_X4_set se_X4_set rfl (Fx.s16 hF) (by exact Nat.le_of_ble_eq_true rfl) (by decide) (c_set0 hF (by omega) hk) ?_
          intro H166 p166
          refine xq_iincN dX4_knowsOwn_169 ic1 rfl rfl ?_
          refine xq_goto dX4_knowsOwn_172 rfl ?_
          refine xq_fgt (ih (p + 1) H166 (by omega) (by omega) (ho.tr (p166.1.mo (fun q h => by omega))) ((p166.1.I (by omega) 2).trans h2) ((p166.1.I (by omega) 5).trans h5) (hm1.off p166.1 (by omega) (by omega)) (fun q hq => (p166.1.I (by omega) _).trans (hpo q hq)) (hc.step p166.2 (by simp [own, h158]))) (by exact And.intro rfl (And.intro rfl (And.intro rfl (And.intro rfl (And.intro rfl (And.intro rfl trivial))))))
        · skip
          refine xq_iconst dX4_knowsOwn_161 ic1 ?_
          refine xq_goto dX4_knowsOwn_162 rfl ?_
          refine xq_callV3N clX4 gd_X4_set dX4_knowsOwn_166 ml_RX4_95 im_X4_set se_X4_set rfl (Fx.s16 hF) (by exact Nat.le_of_ble_eq_true rfl) (by decide) (c_set1 hF (by omega) hk) ?_
          intro H166 p166
          refine xq_iincN dX4_knowsOwn_169 ic1 rfl rfl ?_
          refine xq_goto dX4_knowsOwn_172 rfl ?_
          refine xq_fgt (ih (p + 1) H166 (by omega) (by omega) (ho.tr (p166.1.mo (fun q h => by omega))) ((p166.1.I (by omega) 2).trans h2) ((p166.1.I (by omega) 5).trans h5) (hm1.off p166.1 (by omega) (by omega)) (fun q hq => (p166.1.I (by omega) _).trans (hpo q hq)) (hc.step p166.2 (by simp [own, h158]))) (by exact And.intro rfl (And.intro rfl (And.intro rfl (And.intro rfl (And.intro rfl (And.intro rfl trivial))))))
  have lp : ∀ (n : Nat) (p : Nat) (H1 : xH), uZ u - p < n → p ≤ uZ u → Off (fun q => 16 ≤ q ∧ q ≤ 18) H H1 → hI H1 16 2 = nI (t + 1) → hI H1 16 5 = hI H 16 5 → Gat H1 u i t p → Xq mX4_knowsOwn 2 0 0 21 [some (.ref 16), some (.ref a), some (vN i), some (vN k), some (vN (vm (uSe u i))), some (vN p), none, none] [] S H1 (fun R => ∃ H', (fun H' => Off (fun q => 16 ≤ q ∧ q ≤ 19) H H' ∧ MiP H' (t + 1) ∧ hI H' 16 5 = hI H 16 5 ∧ ColS H H' (uZ u) k (fun p => own u i p)) H' ∧ R = (none, S, H')) := by
    intro n
    induction n with
    | zero => intro p  H1  hn; exact absurd hn (by omega)
    | succ n ih =>
      intro p  H1  hn hp ho h2 h5 hg
      have hu1 := hu.off ho (fun j hj => by omega)
      refine xq_iload dX4_knowsOwn_21 rfl ?_
      refine xq_aload_n dX4_knowsOwn_23 rfl rfl ?_
      refine xq_getIE clX7 (by decide) rfl fl_RX4_85 dX4_knowsOwn_24 (St.s0 ha) hu1.sz ?_
      refine xq_icmp_geN dX4_knowsOwn_27 rfl (by omega) (by omega) ⟨fun h27 => ?_, fun h27 => ?_⟩
      · skip
        refine xq_iconst dX4_knowsOwn_114 ic0 ?_
        refine xq_istore dX4_knowsOwn_115 rfl ?_
        have hpz : uZ u = p := by omega
        rw [← hpz] at hg
        refine xq_fgt (lq (uZ u + 1) 0 H1 (by omega) (by omega) (ho.mo (fun q h => by omega)) h2 h5 ⟨h2, fun key hkey => ?_⟩ (fun q hq => ((hg _ (ky_lt u i q)).2 (acc_ne hq)).2) (fun q j hj => by rw [if_neg (by omega)]; show rb (hL H1 19 q) j = _; rw [ho.L (by omega)])) (by exact And.intro rfl (And.intro rfl (And.intro rfl (And.intro rfl (And.intro rfl (And.intro rfl trivial))))))
        by_cases z : acc u i key (uZ u) = 0
        · obtain ⟨s, hs, e⟩ := (hg key hkey).1 z
          exact ⟨s, by omega, e⟩
        · exact ⟨t + 1, Nat.le_refl _, ((hg key hkey).2 z).1⟩
      · skip
        have hkl := ky_lt u i p; have hkl2 : uW u p &&& vm (uSe u i) &&& 4095 < 4096 := hkl
        refine xq_aload_n dX4_knowsOwn_30 rfl rfl ?_
        refine xq_getF clX7 (by decide) rfl fl_RX4_88 dX4_knowsOwn_31 (St.s0 ha) (St.r0 ha) ?_
        refine xq_iload dX4_knowsOwn_34 rfl ?_
        refine xq_ialdN dX4_knowsOwn_36 (St.s1 ha) (by omega) (by decide) (hu1.w h27) ?_
        refine xq_iload dX4_knowsOwn_37 rfl ?_
        refine xq_iandN dX4_knowsOwn_39 ?_
        refine xq_sipush dX4_knowsOwn_40 sp4095 ?_
        refine xq_iandN dX4_knowsOwn_43 ?_
        refine xq_istore dX4_knowsOwn_44 rfl ?_
        refine xq_iconst dX4_knowsOwn_46 ic1 ?_
        refine xq_aload_n dX4_knowsOwn_47 rfl rfl ?_
        refine xq_getF clX7 (by decide) rfl fl_RX4_88 dX4_knowsOwn_48 (St.s0 ha) (St.r0 ha) ?_
        refine xq_iload dX4_knowsOwn_51 rfl ?_
        refine xq_ialdN dX4_knowsOwn_53 (St.s1 ha) (by omega) (by decide) (hu1.w h27) ?_
        refine xq_iload_n dX4_knowsOwn_54 rfl rfl ?_
        refine xq_callSN2P gd_X10_colourIn dX4_knowsOwn_55 nl_RX4_91 im_X10_colourIn (by exact Nat.le_of_ble_eq_true rfl) (by decide) (c_colourIn (ok.w h27) hi) ?_
        have hcl := col_lt (uW u p) i
        refine xq_ishlN dX4_knowsOwn_58 (by omega) ?_
        refine xq_istore dX4_knowsOwn_59 rfl ?_
        refine xq_aload_n dX4_knowsOwn_61 rfl rfl ?_
        refine xq_getF clX4 (by decide) rfl fl_RX4_15 dX4_knowsOwn_62 (Fx.s16 hF) (Fx.r16_1 hF) ?_
        refine xq_iload dX4_knowsOwn_65 rfl ?_
        refine xq_aload_n dX4_knowsOwn_67 rfl rfl ?_
        refine xq_getF clX4 (by decide) rfl fl_RX4_9 dX4_knowsOwn_68 (Fx.s16 hF) (Fx.r16_0 hF) ?_
        refine xq_iload dX4_knowsOwn_71 rfl ?_
        refine xq_ialdN dX4_knowsOwn_73 (Fx.s17 hF) hkl2 (by decide) rfl ?_
        refine xq_aload_n dX4_knowsOwn_74 rfl rfl ?_
        refine xq_getIE clX4 (by decide) rfl fl_RX4_102 dX4_knowsOwn_75 (Fx.s16 hF) h2 ?_
        refine xq_icmp_ne dX4_knowsOwn_78 rfl ⟨fun h78 => ?_, fun h78 => ?_⟩
        · skip
          refine xq_iload dX4_knowsOwn_94 rfl ?_
          refine xq_iastN dX4_knowsOwn_96 (Fx.s18 hF) hkl2 (by decide) ?_
          refine xq_aload_n dX4_knowsOwn_97 rfl rfl ?_
          refine xq_getF clX4 (by decide) rfl fl_RX4_9 dX4_knowsOwn_98 (Fx.s16 hF) (Fx.r16_0 hF) ?_
          refine xq_iload dX4_knowsOwn_101 rfl ?_
          refine xq_aload_n dX4_knowsOwn_103 rfl rfl ?_
          refine xq_getIE (v := nI (t + 1)) clX4 (by decide) rfl fl_RX4_102 dX4_knowsOwn_104 (Fx.s16 hF) (by rw [hI_sI, if_neg (by omega)]; exact h2) ?_
          refine xq_iastN dX4_knowsOwn_107 (Fx.s17 hF) hkl2 (by decide) ?_
          refine xq_iincN dX4_knowsOwn_108 ic1 rfl rfl ?_
          refine xq_goto dX4_knowsOwn_111 rfl ?_
          have ha0 : acc u i (ky u i p) p = 0 := by
            by_cases z : acc u i (ky u i p) p = 0
            · exact z
            · exact absurd (hg _ (ky_lt u i p)).2 (fun w => h78 (w z).1)
          refine xq_fgt (ih (p + 1) _ (by omega) (by omega) (Off.pI (A := fun q => 16 ≤ q ∧ q ≤ 18) (Off.pI (A := fun q => 16 ≤ q ∧ q ≤ 18) ho (by omega) _ _) (by omega) _ _) (by simp [hI_sI, h2]) (by simp [hI_sI, h5]) (hg.step ht (by rw [ha0, Nat.zero_or]))) (by exact And.intro rfl (And.intro rfl (And.intro rfl (And.intro rfl (And.intro rfl (And.intro rfl trivial))))))
        · skip
          refine xq_aload_n dX4_knowsOwn_81 rfl rfl ?_
          refine xq_getF clX4 (by decide) rfl fl_RX4_15 dX4_knowsOwn_82 (Fx.s16 hF) (Fx.r16_1 hF) ?_
          refine xq_iload dX4_knowsOwn_85 rfl ?_
          refine xq_ialdN (v := nI (acc u i (ky u i p) p)) dX4_knowsOwn_87 (Fx.s18 hF) hkl2 (by decide) ((hg _ (ky_lt u i p)).2 (fun z => by obtain ⟨s, hs, e⟩ := (hg _ (ky_lt u i p)).1 z; have e2 : nI s = nI (t + 1) := e.symm.trans h78; have := nI_inj (by omega) (by omega) e2; omega)).2 ?_
          refine xq_iload dX4_knowsOwn_88 rfl ?_
          refine xq_iorN dX4_knowsOwn_90 ?_
          refine xq_goto dX4_knowsOwn_91 rfl ?_
          refine xq_iastN dX4_knowsOwn_96 (Fx.s18 hF) hkl2 (by decide) ?_
          refine xq_aload_n dX4_knowsOwn_97 rfl rfl ?_
          refine xq_getF clX4 (by decide) rfl fl_RX4_9 dX4_knowsOwn_98 (Fx.s16 hF) (Fx.r16_0 hF) ?_
          refine xq_iload dX4_knowsOwn_101 rfl ?_
          refine xq_aload_n dX4_knowsOwn_103 rfl rfl ?_
          refine xq_getIE (v := nI (t + 1)) clX4 (by decide) rfl fl_RX4_102 dX4_knowsOwn_104 (Fx.s16 hF) (by rw [hI_sI, if_neg (by omega)]; exact h2) ?_
          refine xq_iastN dX4_knowsOwn_107 (Fx.s17 hF) hkl2 (by decide) ?_
          refine xq_iincN dX4_knowsOwn_108 ic1 rfl rfl ?_
          refine xq_goto dX4_knowsOwn_111 rfl ?_
          have ha0 : acc u i (ky u i p) p ≠ 0 := fun z => by
            obtain ⟨s, hs, e⟩ := (hg _ (ky_lt u i p)).1 z
            have e2 : nI s = nI (t + 1) := e.symm.trans h78
            have := nI_inj (by omega) (by omega) e2
            omega
          refine xq_fgt (ih (p + 1) _ (by omega) (by omega) (Off.pI (A := fun q => 16 ≤ q ∧ q ≤ 18) (Off.pI (A := fun q => 16 ≤ q ∧ q ≤ 18) ho (by omega) _ _) (by omega) _ _) (by simp [hI_sI, h2]) (by simp [hI_sI, h5]) (hg.step ht (by rfl))) (by exact And.intro rfl (And.intro rfl (And.intro rfl (And.intro rfl (And.intro rfl (And.intro rfl trivial))))))
  refine vq_intro (by decide) (by exact Nat.le_of_ble_eq_true rfl) rfl ?_
  refine xq_aload_n dX4_knowsOwn_0 rfl rfl ?_
  refine xq_dup dX4_knowsOwn_1 rfl ?_
  refine xq_getIE clX4 (by decide) rfl fl_RX4_102 dX4_knowsOwn_2 (Fx.s16 hF) hm.1 ?_
  refine xq_iconst dX4_knowsOwn_5 ic1 ?_
  refine xq_iaddN dX4_knowsOwn_6 ?_
  refine xq_putI clX4 (by decide) rfl fl_RX4_102 (Or.inl rfl) dX4_knowsOwn_7 ⟨rfl, rfl⟩ (Fx.s16 hF) ?_
  refine xq_aload_n dX4_knowsOwn_10 rfl rfl ?_
  refine xq_getF clX7 (by decide) rfl fl_RX4_105 dX4_knowsOwn_11 (St.s0 ha) (St.r2 ha) ?_
  refine xq_iload_n dX4_knowsOwn_14 rfl rfl ?_
  refine xq_ialdN dX4_knowsOwn_15 (St.s3 ha) (by omega) (by decide) ((hI_sI _ _ _ _ _ _).trans ((if_neg (by omega)).trans (hu.vi hi))) ?_
  refine xq_istore dX4_knowsOwn_16 rfl ?_
  refine xq_iconst dX4_knowsOwn_18 ic0 ?_
  refine xq_istore dX4_knowsOwn_19 rfl ?_
  exact lp (uZ u + 1) 0 _ (by omega) (by omega) (Off.pI (A := fun q => 16 ≤ q ∧ q ≤ 18) Off.rf (by omega) _ _) (by simp [hI_sI]) (by simp [hI_sI]) (fun key hkey => ⟨fun _ => by obtain ⟨s, hs, e⟩ := hm.2 key hkey; exact ⟨s, hs, by simp [hI_sI, e]⟩, fun z => absurd rfl z⟩)
end MS
