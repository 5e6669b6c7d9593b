/-! ===== Mind: bits of rows ===== -/
def lsub : List (Option Value) → List (Option Value) → Prop
  | [], _ => True
  | none :: L', L => lsub L' L.tail
  | some v :: L', L => L.head? = some (some v) ∧ lsub L' L.tail
theorem lsub_ok : ∀ {L' L : List (Option Value)}, lsub L' L → ∀ (i : Nat) (v : Value), L'[i]? = some (some v) → L[i]? = some (some v)
  | [], _, _, i, v, h => by simp at h
  | none :: L', L, hl, i, v, h => by
    cases i with
    | zero => simp at h
    | succ i =>
      have := lsub_ok (L' := L') (L := L.tail) hl i v (by simpa using h)
      simpa using this
  | some w :: L', L, hl, i, v, h => by
    cases i with
    | zero =>
      have h1 : L.head? = some (some w) := hl.1
      simp at h
      subst h
      rw [List.head?_eq_getElem?] at h1
      exact h1
    | succ i =>
      have := lsub_ok (L' := L') (L := L.tail) hl.2 i v (by simpa using h)
      simpa using this
theorem xq_fgt {M : xM} {k b1 b2 pc : Nat} {L L' : List (Option Value)} {st : List Value} {S : xS} {H : xH} {Q : xR → Prop} (kk : Xq M k b1 b2 pc L' st S H Q) (hl : lsub L' L) : Xq M k b1 b2 pc L st S H Q := xq_forget (lsub_ok hl) kk
theorem bit0 (v : Int64) : (v &&& lN 1 = lN 0) ↔ v.toBitVec.getLsbD 0 = false := by
  have h : (v &&& (1 : Int64) = 0) ↔ uN v % 2 = 0 := uN_bit v
  refine h.trans ?_
  show v.toBitVec.toNat % 2 = 0 ↔ v.toBitVec.toNat.testBit 0 = false
  rw [Nat.testBit_zero]
  simp
theorem rb_sh (w : Int64) {k : Nat} (hk : k < 64) : ((w.toUInt64 >>> ((nI k).toInt64.toUInt64 &&& Int64.toUInt64 63)).toInt64).toBitVec.getLsbD 0 = rb w k := by
  have h1 := rb_z (w := w) hk
  have h2 := bit0 ((w.toUInt64 >>> ((nI k).toInt64.toUInt64 &&& Int64.toUInt64 63)).toInt64)
  have h3 := h2.symm.trans h1
  revert h3
  cases ((w.toUInt64 >>> ((nI k).toInt64.toUInt64 &&& Int64.toUInt64 63)).toInt64).toBitVec.getLsbD 0 <;> cases rb w k <;> simp
theorem rb_and {w : Int64} {x y : Nat} (hx : x < 64) (hy : y < 64) : (((w.toUInt64 >>> ((nI x).toInt64.toUInt64 &&& Int64.toUInt64 63)).toInt64 &&& (w.toUInt64 >>> ((nI y).toInt64.toUInt64 &&& Int64.toUInt64 63)).toInt64) &&& lN 1 = lN 0) ↔ (rb w x && rb w y) = false := by
  rw [bit0, Int64.toBitVec_and, BitVec.getLsbD_and, rb_sh w hx, rb_sh w hy]
theorem rb_or {w : Int64} {x y : Nat} (hx : x < 64) (hy : y < 64) : (((w.toUInt64 >>> ((nI x).toInt64.toUInt64 &&& Int64.toUInt64 63)).toInt64 ||| (w.toUInt64 >>> ((nI y).toInt64.toUInt64 &&& Int64.toUInt64 63)).toInt64) &&& lN 1 = lN 0) ↔ (rb w x || rb w y) = false := by
  rw [bit0, Int64.toBitVec_or, BitVec.getLsbD_or, rb_sh w hx, rb_sh w hy]
theorem rb_v (w : Int64) {k : Nat} (hk : k < 64) : ((w.toUInt64 >>> ((nI k).toInt64.toUInt64 &&& Int64.toUInt64 63)).toInt64 &&& lN 1) = lN (rb w k).toNat := by
  obtain ⟨n, hn, rfl⟩ := wb_of w
  have h1 := rb_z (w := lN n) hk
  have h2 := wb_bit hn hk
  have h3 : ((lN n).toUInt64 >>> ((nI k).toInt64.toUInt64 &&& Int64.toUInt64 63)).toInt64 &&& lN 1 = lN (n / 2 ^ k % 2) := h2
  rw [h3] at h1 ⊢
  cases h : rb (lN n) k
  · exact h1.mpr h
  · have h4 : n / 2 ^ k % 2 = 0 ∨ n / 2 ^ k % 2 = 1 := by omega
    rcases h4 with h4 | h4
    · rw [h4] at h1
      rw [h1.mp rfl] at h
      cases h
    · rw [h4]; rfl
theorem one_shl {k : Nat} (hk : k < 64) : (lN 1 <<< ((nI k).toInt64 &&& 63)).toBitVec = BitVec.twoPow 64 k := by
  rw [wb_shl 1 hk]
  show BitVec.ofNat 64 (1 * 2 ^ k) = _
  apply BitVec.eq_of_toNat_eq
  simp [BitVec.toNat_twoPow]
theorem rb_set (w : Int64) {k j : Nat} (hk : k < 64) : rb (w ||| (lN 1 <<< ((nI k).toInt64 &&& 63))) j = if j = k then true else rb w j := by
  unfold rb
  rw [Int64.toBitVec_or, BitVec.getLsbD_or, one_shl hk, BitVec.getLsbD_twoPow]
  by_cases h : j = k
  · simp [h, hk]
  · simp [h, Ne.symm h]
theorem rb_clr (w : Int64) {k j : Nat} (hk : k < 64) (hj : j < 64) : rb (w &&& ((lN 1 <<< ((nI k).toInt64 &&& 63)) ^^^ (-1))) j = if j = k then false else rb w j := by
  unfold rb
  rw [Int64.toBitVec_and, BitVec.getLsbD_and, Int64.toBitVec_xor, BitVec.getLsbD_xor, one_shl hk, BitVec.getLsbD_twoPow]
  have : ∀ j, j < 64 → (-1 : Int64).toBitVec.getLsbD j = true := by decide +kernel
  rw [this j hj]
  by_cases h : j = k
  · simp [h, hk]
  · simp [h, Ne.symm h]
abbrev rx (H : xH) (p j : Nat) : Bool := rb (hL H 19 p) j
/-- column k of the rows ahead of n is f, all else of them stays -/
def ColS (H H' : xH) (n k : Nat) (f : Nat → Bool) : Prop := ∀ p j, j < 64 → rx H' p j = if p < n ∧ j = k then f p else rx H p j
def SetS (H H' : xH) (p k : Nat) (so : Bool) : Prop := (∀ q, q ≠ p → hL H' 19 q = hL H 19 q) ∧ ∀ j, j < 64 → rx H' p j = if j = k then so else rx H p j
section CS
variable {H H1 H2 : xH} {n k p : Nat} {f g : Nat → Bool} {so : Bool}
theorem ColS.z : ColS H H 0 k f := fun p j _ => by rw [if_neg (by omega)]
theorem ColS.step (h : ColS H H1 p k f) (hs : SetS H1 H2 p k so) (e : so = f p) : ColS H H2 (p + 1) k f := by
  intro q j hj
  by_cases hq : q = p
  · subst hq
    rw [hs.2 j hj]
    by_cases hk : j = k
    · rw [if_pos hk, if_pos ⟨by omega, hk⟩, e]
    · rw [if_neg hk, if_neg (fun z => hk z.2), h q j hj, if_neg (fun z => hk z.2)]
  · show rb (hL H2 19 q) j = _
    rw [hs.1 q hq]
    show rx H1 q j = _
    rw [h q j hj]
    by_cases hk : q < p ∧ j = k
    · rw [if_pos hk, if_pos ⟨by omega, hk.2⟩]
    · rw [if_neg hk, if_neg (fun z => hk ⟨by omega, z.2⟩)]
theorem ColS.at (h : ColS H H1 n k f) (hp : n ≤ p) {j : Nat} (hj : j < 64) : rx H1 p j = rx H p j := by rw [h p j hj, if_neg (by omega)]
theorem ColS.ot (h : ColS H H1 n k f) {j : Nat} (hj : j < 64) (hk : j ≠ k) (p : Nat) : rx H1 p j = rx H p j := by rw [h p j hj, if_neg (fun z => hk z.2)]
theorem ColS.in (h : ColS H H1 n k f) (hp : p < n) (hk : k < 64) : rx H1 p k = f p := by rw [h p k hk, if_pos ⟨hp, rfl⟩]
theorem ColS.cong (h : ColS H H1 n k f) (e : ∀ p, p < n → f p = g p) : ColS H H1 n k g := fun p j hj => by
  rw [h p j hj]
  by_cases z : p < n ∧ j = k
  · rw [if_pos z, if_pos z, e p z.1]
  · rw [if_neg z, if_neg z]
end CS
def ky (u : uSt) (i p : Nat) : Nat := uW u p &&& vm (uSe u i) &&& 4095
theorem ky_lt (u : uSt) (i p : Nat) : ky u i p < 4096 := Nat.lt_of_le_of_lt Nat.and_le_right (by decide)
def ex (f : Nat → Bool) (n : Nat) : Bool := fo (fun p b => b || f p) false n
theorem ex_s (f : Nat → Bool) (n : Nat) : ex f (n + 1) = (ex f n || f n) := rfl
theorem ex_iff {f : Nat → Bool} : ∀ {n : Nat}, ex f n = true ↔ ∃ p, p < n ∧ f p = true
  | 0 => by simp [ex, fo]
  | n + 1 => by
    rw [ex_s, Bool.or_eq_true, ex_iff]
    constructor
    · rintro (⟨p, h1, h2⟩ | h)
      · exact ⟨p, by omega, h2⟩
      · exact ⟨n, by omega, h⟩
    · rintro ⟨p, h1, h2⟩
      by_cases e : p = n
      · subst e; exact Or.inr h2
      · exact Or.inl ⟨p, by omega, h2⟩
section MR
variable {S : xS} {H : xH} {a : Nat} {u : uSt} {i j c p k x y n : Nat}
theorem c_bit (hF : gFx S) (hp : p < 729) (hk : k < 64) : Pv mX4_bit 0 [.ref 16, vN p, vN k] S H (vN (rx H p k).toNat) := by
  refine vq_ev (vq_intro (by decide) (by exact Nat.le_of_ble_eq_true rfl) rfl ?_)
  refine xq_iload_n dX4_bit_0 rfl rfl ?_
  refine xq_if_ltN dX4_bit_1 rfl (by omega) ?_
  refine xq_iload_n dX4_bit_4 rfl rfl ?_
  refine xq_aload_n dX4_bit_5 rfl rfl ?_
  refine xq_getF clX4 (by decide) rfl fl_RX4_18 dX4_bit_6 (Fx.s16 hF) (Fx.r16_3 hF) ?_
  refine xq_alen (v := nI 729) dX4_bit_9 (Fx.s19 hF) (by decide) rfl ?_
  refine xq_icmp_geN dX4_bit_10 rfl (by omega) (by omega) ⟨fun h10 => ?_, fun h10 => ?_⟩
  · skip
    exact absurd h10 (by omega)
  · skip
    refine xq_aload_n dX4_bit_13 rfl rfl ?_
    refine xq_getF clX4 (by decide) rfl fl_RX4_18 dX4_bit_14 (Fx.s16 hF) (Fx.r16_3 hF) ?_
    refine xq_iload_n dX4_bit_17 rfl rfl ?_
    refine xq_laldN dX4_bit_18 (Fx.s19 hF) (by omega) (by decide) rfl ?_
    refine xq_iload_n dX4_bit_19 rfl rfl ?_
    refine xq_lushr dX4_bit_20 ?_
    refine xq_lconst dX4_bit_21 lc1 ?_
    refine xq_land dX4_bit_22 ?_
    refine xq_l2i dX4_bit_23 ?_
    refine xq_goto dX4_bit_24 rfl ?_
    refine xq_iret dX4_bit_28 rfl ?_
    show _ = _; rw [rb_v _ hk, lN_toI]
theorem c_set1 (hF : gFx S) (hp : p < 729) (hk : k < 64) : Nv mX4_set 0 [.ref 16, vN p, vN k, vN 1] S H (fun H' => Off (fun q => q = 19) H H' ∧ SetS H H' p k true) := by
  refine vq_intro (by decide) (by exact Nat.le_of_ble_eq_true rfl) rfl ?_
  refine xq_iload_n dX4_set_0 rfl rfl ?_
  refine xq_if_eqN dX4_set_1 rfl (by omega) ⟨fun h1 => ?_, fun h1 => ?_⟩
  · skip
    exact absurd h1 (by decide)
  · skip
    refine xq_aload_n dX4_set_4 rfl rfl ?_
    refine xq_getF clX4 (by decide) rfl fl_RX4_18 dX4_set_5 (Fx.s16 hF) (Fx.r16_3 hF) ?_
    refine xq_iload_n dX4_set_8 rfl rfl ?_
    refine xq_dup2 dX4_set_9 rfl rfl ?_
    refine xq_laldN dX4_set_10 (Fx.s19 hF) (by omega) (by decide) rfl ?_
    refine xq_lconst dX4_set_11 lc1 ?_
    refine xq_iload_n dX4_set_12 rfl rfl ?_
    refine xq_lshl dX4_set_13 ?_
    refine xq_lor dX4_set_14 ?_
    refine xq_lastN dX4_set_15 (Fx.s19 hF) (by omega) (by decide) ?_
    refine xq_goto dX4_set_16 rfl ?_
    refine xq_vret dX4_set_35 rfl ?_
    refine ⟨_, ⟨Off.pL (A := fun q => q = 19) Off.rf rfl _ _, fun q hq => by rw [hL_sL, if_neg (fun z => hq z.2)], fun j hj => ?_⟩, rfl⟩; show rb (hL (sL _ _ _ _) 19 p) j = _; rw [hL_sL, if_pos ⟨rfl, rfl⟩]; exact rb_set _ hk
theorem c_set0 (hF : gFx S) (hp : p < 729) (hk : k < 64) : Nv mX4_set 0 [.ref 16, vN p, vN k, vN 0] S H (fun H' => Off (fun q => q = 19) H H' ∧ SetS H H' p k false) := by
  refine vq_intro (by decide) (by exact Nat.le_of_ble_eq_true rfl) rfl ?_
  refine xq_iload_n dX4_set_0 rfl rfl ?_
  refine xq_if_eqN dX4_set_1 rfl (by omega) ⟨fun h1 => ?_, fun h1 => ?_⟩
  · skip
    refine xq_aload_n dX4_set_19 rfl rfl ?_
    refine xq_getF clX4 (by decide) rfl fl_RX4_18 dX4_set_20 (Fx.s16 hF) (Fx.r16_3 hF) ?_
    refine xq_iload_n dX4_set_23 rfl rfl ?_
    refine xq_dup2 dX4_set_24 rfl rfl ?_
    refine xq_laldN dX4_set_25 (Fx.s19 hF) (by omega) (by decide) rfl ?_
    refine xq_lconst dX4_set_26 lc1 ?_
    refine xq_iload_n dX4_set_27 rfl rfl ?_
    refine xq_lshl dX4_set_28 ?_
    refine xq_ldc2 dX4_set_29 kc_RX4_29 ?_
    refine xq_lxor dX4_set_32 ?_
    refine xq_land dX4_set_33 ?_
    refine xq_lastN dX4_set_34 (Fx.s19 hF) (by omega) (by decide) ?_
    refine xq_vret dX4_set_35 rfl ?_
    refine ⟨_, ⟨Off.pL (A := fun q => q = 19) Off.rf rfl _ _, fun q hq => by rw [hL_sL, if_neg (fun z => hq z.2)], fun j hj => ?_⟩, rfl⟩; show rb (hL (sL _ _ _ _) 19 p) j = _; rw [hL_sL, if_pos ⟨rfl, rfl⟩]; exact rb_clr _ hk hj
  · skip
    exact absurd h1 (by decide)
theorem c_wears (hF : gFx S) (ha : gSt S a) (h67 : 67 ≤ a) (hu : StP H a u) (ok : StOk u) (hi : i < 6) (hc4 : c < 4) (hk : k < 64) : Nv mX4_wears 2 [.ref 16, .ref a, vN i, vN c, vN k] S H (fun H' => Off (fun q => q = 19) H H' ∧ ColS H H' (uZ u) k (fun p => col (uW u p) i == c)) := by
  have hz := ok.n; have hnp := ok.np
  have lp : ∀ (n : Nat) (p : Nat) (H1 : xH), uZ u - p < n → p ≤ uZ u → Off (fun q => q = 19) H H1 → ColS H H1 p k (fun p => col (uW u p) i == c) → Xq mX4_wears 2 0 0 3 [some (.ref 16), some (.ref a), some (vN i), some (vN c), some (vN k), some (vN p)] [] S H1 (fun R => ∃ H', (fun H' => Off (fun q => q = 19) H H' ∧ ColS H H' (uZ u) k (fun p => col (uW u p) i == c)) H' ∧ R = (none, S, H')) := by
    intro n
    induction n with
    | zero => intro p  H1  hn; exact absurd hn (by omega)
    | succ n ih =>
      intro p  H1  hn hp ho hc
      have hu1 := hu.off ho (fun j hj => by omega)
      refine xq_iload dX4_wears_3 rfl ?_
      refine xq_aload_n dX4_wears_5 rfl rfl ?_
      refine xq_getIE clX7 (by decide) rfl fl_RX4_85 dX4_wears_6 (St.s0 ha) hu1.sz ?_
      refine xq_icmp_geN dX4_wears_9 rfl (by omega) (by omega) ⟨fun h9 => ?_, fun h9 => ?_⟩
      · skip
        refine xq_vret dX4_wears_46 rfl ?_
        have hpz : uZ u = p := by omega
        exact ⟨H1, ⟨ho, by rw [hpz]; exact hc⟩, rfl⟩
      · skip
        refine xq_aload_n dX4_wears_12 rfl rfl ?_
        refine xq_iload dX4_wears_13 rfl ?_
        refine xq_iload dX4_wears_15 rfl ?_
        refine xq_aload_n dX4_wears_17 rfl rfl ?_
        refine xq_getF clX7 (by decide) rfl fl_RX4_88 dX4_wears_18 (St.s0 ha) (St.r0 ha) ?_
        refine xq_iload dX4_wears_21 rfl ?_
        refine xq_ialdN dX4_wears_23 (St.s1 ha) (by omega) (by decide) (hu1.w h9) ?_
        refine xq_iload_n dX4_wears_24 rfl rfl ?_
        refine xq_callSN2P gd_X10_colourIn dX4_wears_25 nl_RX4_91 im_X10_colourIn (by exact Nat.le_of_ble_eq_true rfl) (by decide) (c_colourIn (ok.w h9) hi) ?_
        have hcl := col_lt (uW u p) i
        refine xq_iload_n dX4_wears_28 rfl rfl ?_
        refine xq_icmp_neN dX4_wears_29 rfl (by omega) (by omega) ⟨fun h29 => ?_, fun h29 => ?_⟩
        · skip
          refine xq_iconst dX4_wears_36 ic0 ?_
          refine xq_callV3N clX4 gd_X4_set dX4_wears_37 ml_RX4_95 im_X4_set se_X4_set rfl (Fx.s16 hF) (by exact Nat.le_of_ble_eq_true rfl) (by decide) (c_set0 hF (by omega) hk) ?_
          intro H37 p37
          refine xq_iincN dX4_wears_40 ic1 rfl rfl ?_
          refine xq_goto dX4_wears_43 rfl ?_
          exact ih (p + 1) H37 (by omega) (by omega) (ho.tr p37.1) (hc.step p37.2 (by simp [h29]))
        · skip
          refine xq_iconst dX4_wears_32 ic1 ?_
          refine xq_goto dX4_wears_33 rfl ?_
          refine xq_callV3N clX4 gd_X4_set dX4_wears_37 ml_RX4_95 im_X4_set se_X4_set rfl (Fx.s16 hF) (by exact Nat.le_of_ble_eq_true rfl) (by decide) (c_set1 hF (by omega) hk) ?_
          intro H37 p37
          refine xq_iincN dX4_wears_40 ic1 rfl rfl ?_
          refine xq_goto dX4_wears_43 rfl ?_
          exact ih (p + 1) H37 (by omega) (by omega) (ho.tr p37.1) (hc.step p37.2 (by simp [h29]))
  refine vq_intro (by decide) (by exact Nat.le_of_ble_eq_true rfl) rfl ?_
  refine xq_iconst dX4_wears_0 ic0 ?_
  refine xq_istore dX4_wears_1 rfl ?_
  exact lp (uZ u + 1) 0 H (by omega) (by omega) Off.rf ColS.z
theorem c_hasMany (hF : gFx S) (ha : gSt S a) (h67 : 67 ≤ a) (hu : StP H a u) (ok : StOk u) (hc4 : c < 4) (hy : y ≤ 6) (hk : k < 64) : Nv mX4_hasMany 2 [.ref 16, .ref a, vN c, vN y, vN k] S H (fun H' => Off (fun q => q = 19) H H' ∧ ColS H H' (uZ u) k (fun p => decide (y ≤ ct (fun i => col (uW u p) i == c) (uNp u)))) := by
  have hz := ok.n; have hnp := ok.np; have ha67 := h67
  have lp : ∀ (n : Nat) (p : Nat) (H1 : xH), uZ u - p < n → p ≤ uZ u → Off (fun q => q = 19) H H1 → ColS H H1 p k (fun p => decide (y ≤ ct (fun i => col (uW u p) i == c) (uNp u))) → Xq mX4_hasMany 2 0 0 3 [some (.ref 16), some (.ref a), some (vN c), some (vN y), some (vN k), some (vN p), none, none] [] S H1 (fun R => ∃ H', (fun H' => Off (fun q => q = 19) H H' ∧ ColS H H' (uZ u) k (fun p => decide (y ≤ ct (fun i => col (uW u p) i == c) (uNp u)))) H' ∧ R = (none, S, H')) := by
    intro n
    induction n with
    | zero => intro p  H1  hn; exact absurd hn (by omega)
    | succ n ih =>
      intro p  H1  hn hp ho hc
      have hu1 := hu.off ho (fun j hj => by omega)
      have ih0 := ih
      refine xq_iload dX4_hasMany_3 rfl ?_
      refine xq_aload_n dX4_hasMany_5 rfl rfl ?_
      refine xq_getIE clX7 (by decide) rfl fl_RX4_85 dX4_hasMany_6 (St.s0 ha) hu1.sz ?_
      refine xq_icmp_geN dX4_hasMany_9 rfl (by omega) (by omega) ⟨fun h9 => ?_, fun h9 => ?_⟩
      · skip
        refine xq_vret dX4_hasMany_84 rfl ?_
        have hpz : uZ u = p := by omega
        exact ⟨H1, ⟨ho, by rw [hpz]; exact hc⟩, rfl⟩
      · skip
        have lq : ∀ (n : Nat) (i m : Nat), uNp u - i < n → i ≤ uNp u → m = ct (fun i => col (uW u p) i == c) i → Xq mX4_hasMany 2 0 0 18 [some (.ref 16), some (.ref a), some (vN c), some (vN y), some (vN k), some (vN p), some (vN m), some (vN i)] [] S H1 (fun R => ∃ H', (fun H' => Off (fun q => q = 19) H H' ∧ ColS H H' (uZ u) k (fun p => decide (y ≤ ct (fun i => col (uW u p) i == c) (uNp u)))) H' ∧ R = (none, S, H')) := by
          intro n
          induction n with
          | zero => intro i m  hn; exact absurd hn (by omega)
          | succ n ih =>
            intro i m  hn hi hm
            refine xq_iload dX4_hasMany_18 rfl ?_
            refine xq_aload_n dX4_hasMany_20 rfl rfl ?_
            refine xq_getIE clX7 (by decide) rfl fl_RX4_99 dX4_hasMany_21 (St.s0 ha) hu1.f6 ?_
            refine xq_icmp_geN dX4_hasMany_24 rfl (by omega) (by omega) ⟨fun h24 => ?_, fun h24 => ?_⟩
            · skip
              have hml : m ≤ 6 := by have := ct_le (fun i => col (uW u p) i == c) i; omega
              refine xq_aload_n dX4_hasMany_59 rfl rfl ?_
              refine xq_iload dX4_hasMany_60 rfl ?_
              refine xq_iload dX4_hasMany_62 rfl ?_
              refine xq_iload dX4_hasMany_64 rfl ?_
              refine xq_iload_n dX4_hasMany_66 rfl rfl ?_
              refine xq_icmp_ltN dX4_hasMany_67 rfl (by omega) (by omega) ⟨fun h67 => ?_, fun h67 => ?_⟩
              · skip
                refine xq_iconst dX4_hasMany_74 ic0 ?_
                refine xq_callV3N clX4 gd_X4_set dX4_hasMany_75 ml_RX4_95 im_X4_set se_X4_set rfl (Fx.s16 hF) (by exact Nat.le_of_ble_eq_true rfl) (by decide) (c_set0 hF (by omega) hk) ?_
                intro H75 p75
                refine xq_iincN dX4_hasMany_78 ic1 rfl rfl ?_
                refine xq_goto dX4_hasMany_81 rfl ?_
                rw [hm, show i = uNp u by omega] at h67
                exact xq_fgt (ih0 (p + 1) H75 (by omega) (by omega) (ho.tr p75.1) (hc.step p75.2 (decide_eq_false (by omega)).symm)) (by exact And.intro rfl (And.intro rfl (And.intro rfl (And.intro rfl (And.intro rfl (And.intro rfl (trivial)))))))
              · skip
                refine xq_iconst dX4_hasMany_70 ic1 ?_
                refine xq_goto dX4_hasMany_71 rfl ?_
                refine xq_callV3N clX4 gd_X4_set dX4_hasMany_75 ml_RX4_95 im_X4_set se_X4_set rfl (Fx.s16 hF) (by exact Nat.le_of_ble_eq_true rfl) (by decide) (c_set1 hF (by omega) hk) ?_
                intro H75 p75
                refine xq_iincN dX4_hasMany_78 ic1 rfl rfl ?_
                refine xq_goto dX4_hasMany_81 rfl ?_
                rw [hm, show i = uNp u by omega] at h67
                exact xq_fgt (ih0 (p + 1) H75 (by omega) (by omega) (ho.tr p75.1) (hc.step p75.2 (decide_eq_true (by omega)).symm)) (by exact And.intro rfl (And.intro rfl (And.intro rfl (And.intro rfl (And.intro rfl (And.intro rfl (trivial)))))))
            · skip
              refine xq_iload dX4_hasMany_27 rfl ?_
              refine xq_aload_n dX4_hasMany_29 rfl rfl ?_
              refine xq_getF clX7 (by decide) rfl fl_RX4_88 dX4_hasMany_30 (St.s0 ha) (St.r0 ha) ?_
              refine xq_iload dX4_hasMany_33 rfl ?_
              refine xq_ialdN dX4_hasMany_35 (St.s1 ha) (by omega) (by decide) (hu1.w h9) ?_
              refine xq_iload dX4_hasMany_36 rfl ?_
              refine xq_callSN2P gd_X10_colourIn dX4_hasMany_38 nl_RX4_91 im_X10_colourIn (by exact Nat.le_of_ble_eq_true rfl) (by decide) (c_colourIn (ok.w h9) (by omega)) ?_
              have hcl := col_lt (uW u p) i
              refine xq_iload_n dX4_hasMany_41 rfl rfl ?_
              refine xq_icmp_neN dX4_hasMany_42 rfl (by omega) (by omega) ⟨fun h42 => ?_, fun h42 => ?_⟩
              · skip
                refine xq_iconst dX4_hasMany_49 ic0 ?_
                refine xq_iaddN dX4_hasMany_50 ?_
                refine xq_istore dX4_hasMany_51 rfl ?_
                refine xq_iincN dX4_hasMany_53 ic1 rfl rfl ?_
                refine xq_goto dX4_hasMany_56 rfl ?_
                exact ih (i + 1) (m + 0) (by omega) (by omega) (by rw [ct_f (by simp [h42])]; omega)
              · skip
                refine xq_iconst dX4_hasMany_45 ic1 ?_
                refine xq_goto dX4_hasMany_46 rfl ?_
                refine xq_iaddN dX4_hasMany_50 ?_
                refine xq_istore dX4_hasMany_51 rfl ?_
                refine xq_iincN dX4_hasMany_53 ic1 rfl rfl ?_
                refine xq_goto dX4_hasMany_56 rfl ?_
                exact ih (i + 1) (m + 1) (by omega) (by omega) (by rw [ct_t (by simp [h42])]; omega)
        refine xq_iconst dX4_hasMany_12 ic0 ?_
        refine xq_istore dX4_hasMany_13 rfl ?_
        refine xq_iconst dX4_hasMany_15 ic0 ?_
        refine xq_istore dX4_hasMany_16 rfl ?_
        exact lq (uNp u + 1) 0 0 (by omega) (by omega) rfl
  refine vq_intro (by decide) (by exact Nat.le_of_ble_eq_true rfl) rfl ?_
  refine xq_iconst dX4_hasMany_0 ic0 ?_
  refine xq_istore dX4_hasMany_1 rfl ?_
  exact lp (uZ u + 1) 0 H (by omega) (by omega) Off.rf ColS.z
theorem c_both (hF : gFx S) (ha : gSt S a) (h67 : 67 ≤ a) (hu : StP H a u) (ok : StOk u) (hx : x < 64) (hy : y < 64) (hk : k < 64) : Nv mX4_both 1 [.ref 16, .ref a, vN x, vN y, vN k] S H (fun H' => Off (fun q => q = 19) H H' ∧ ColS H H' (uZ u) k (fun p => (rx H p x && rx H p y))) := by
  have hz := ok.n; have hnp := ok.np
  have lp : ∀ (n : Nat) (p : Nat) (H1 : xH), uZ u - p < n → p ≤ uZ u → Off (fun q => q = 19) H H1 → ColS H H1 p k (fun p => (rx H p x && rx H p y)) → Xq mX4_both 1 0 0 3 [some (.ref 16), some (.ref a), some (vN x), some (vN y), some (vN k), some (vN p)] [] S H1 (fun R => ∃ H', (fun H' => Off (fun q => q = 19) H H' ∧ ColS H H' (uZ u) k (fun p => (rx H p x && rx H p y))) H' ∧ R = (none, S, H')) := by
    intro n
    induction n with
    | zero => intro p  H1  hn; exact absurd hn (by omega)
    | succ n ih =>
      intro p  H1  hn hp ho hc
      have hu1 := hu.off ho (fun j hj => by omega)
      refine xq_iload dX4_both_3 rfl ?_
      refine xq_aload_n dX4_both_5 rfl rfl ?_
      refine xq_getIE clX7 (by decide) rfl fl_RX4_85 dX4_both_6 (St.s0 ha) hu1.sz ?_
      refine xq_icmp_geN dX4_both_9 rfl (by omega) (by omega) ⟨fun h9 => ?_, fun h9 => ?_⟩
      · skip
        refine xq_vret dX4_both_57 rfl ?_
        have hpz : uZ u = p := by omega
        exact ⟨H1, ⟨ho, by rw [hpz]; exact hc⟩, rfl⟩
      · skip
        refine xq_aload_n dX4_both_12 rfl rfl ?_
        refine xq_iload dX4_both_13 rfl ?_
        refine xq_iload dX4_both_15 rfl ?_
        refine xq_aload_n dX4_both_17 rfl rfl ?_
        refine xq_getF clX4 (by decide) rfl fl_RX4_18 dX4_both_18 (Fx.s16 hF) (Fx.r16_3 hF) ?_
        refine xq_iload dX4_both_21 rfl ?_
        refine xq_laldN dX4_both_23 (Fx.s19 hF) (by omega) (by decide) rfl ?_
        refine xq_iload_n dX4_both_24 rfl rfl ?_
        refine xq_lushr dX4_both_25 ?_
        refine xq_aload_n dX4_both_26 rfl rfl ?_
        refine xq_getF clX4 (by decide) rfl fl_RX4_18 dX4_both_27 (Fx.s16 hF) (Fx.r16_3 hF) ?_
        refine xq_iload dX4_both_30 rfl ?_
        refine xq_laldN dX4_both_32 (Fx.s19 hF) (by omega) (by decide) rfl ?_
        refine xq_iload_n dX4_both_33 rfl rfl ?_
        refine xq_lushr dX4_both_34 ?_
        refine xq_land dX4_both_35 ?_
        refine xq_lconst dX4_both_36 lc1 ?_
        refine xq_land dX4_both_37 ?_
        refine xq_lconst dX4_both_38 lc0 ?_
        refine xq_lcmp dX4_both_39 ?_
        refine xq_if_eq dX4_both_40 rfl ⟨fun h40 => ?_, fun h40 => ?_⟩
        · skip
          refine xq_iconst dX4_both_47 ic0 ?_
          refine xq_callV3N clX4 gd_X4_set dX4_both_48 ml_RX4_95 im_X4_set se_X4_set rfl (Fx.s16 hF) (by exact Nat.le_of_ble_eq_true rfl) (by decide) (c_set0 hF (by omega) hk) ?_
          intro H48 p48
          refine xq_iincN dX4_both_51 ic1 rfl rfl ?_
          refine xq_goto dX4_both_54 rfl ?_
          have hv := rb_and (w := hL H1 19 p) hx hy; rw [← lg_cmp_eq] at hv
          exact ih (p + 1) H48 (by omega) (by omega) (ho.tr p48.1) (hc.step p48.2 (by show _ = _; rw [← hc.at (Nat.le_refl _) hx, ← hc.at (Nat.le_refl _) hy]; exact (hv.mp h40).symm))
        · skip
          refine xq_iconst dX4_both_43 ic1 ?_
          refine xq_goto dX4_both_44 rfl ?_
          refine xq_callV3N clX4 gd_X4_set dX4_both_48 ml_RX4_95 im_X4_set se_X4_set rfl (Fx.s16 hF) (by exact Nat.le_of_ble_eq_true rfl) (by decide) (c_set1 hF (by omega) hk) ?_
          intro H48 p48
          refine xq_iincN dX4_both_51 ic1 rfl rfl ?_
          refine xq_goto dX4_both_54 rfl ?_
          have hv := rb_and (w := hL H1 19 p) hx hy; rw [← lg_cmp_eq] at hv
          exact ih (p + 1) H48 (by omega) (by omega) (ho.tr p48.1) (hc.step p48.2 (by show _ = _; rw [← hc.at (Nat.le_refl _) hx, ← hc.at (Nat.le_refl _) hy]; exact (Bool.not_eq_false _ ▸ (fun z => h40 (hv.mpr z)) : _ = true).symm))
  refine vq_intro (by decide) (by exact Nat.le_of_ble_eq_true rfl) rfl ?_
  refine xq_iconst dX4_both_0 ic0 ?_
  refine xq_istore dX4_both_1 rfl ?_
  exact lp (uZ u + 1) 0 H (by omega) (by omega) Off.rf ColS.z
theorem c_either (hF : gFx S) (ha : gSt S a) (h67 : 67 ≤ a) (hu : StP H a u) (ok : StOk u) (hx : x < 64) (hy : y < 64) (hk : k < 64) : Nv mX4_either 1 [.ref 16, .ref a, vN x, vN y, vN k] S H (fun H' => Off (fun q => q = 19) H H' ∧ ColS H H' (uZ u) k (fun p => (rx H p x || rx H p y))) := by
  have hz := ok.n; have hnp := ok.np
  have lp : ∀ (n : Nat) (p : Nat) (H1 : xH), uZ u - p < n → p ≤ uZ u → Off (fun q => q = 19) H H1 → ColS H H1 p k (fun p => (rx H p x || rx H p y)) → Xq mX4_either 1 0 0 3 [some (.ref 16), some (.ref a), some (vN x), some (vN y), some (vN k), some (vN p)] [] S H1 (fun R => ∃ H', (fun H' => Off (fun q => q = 19) H H' ∧ ColS H H' (uZ u) k (fun p => (rx H p x || rx H p y))) H' ∧ R = (none, S, H')) := by
    intro n
    induction n with
    | zero => intro p  H1  hn; exact absurd hn (by omega)
    | succ n ih =>
      intro p  H1  hn hp ho hc
      have hu1 := hu.off ho (fun j hj => by omega)
      refine xq_iload dX4_either_3 rfl ?_
      refine xq_aload_n dX4_either_5 rfl rfl ?_
      refine xq_getIE clX7 (by decide) rfl fl_RX4_85 dX4_either_6 (St.s0 ha) hu1.sz ?_
      refine xq_icmp_geN dX4_either_9 rfl (by omega) (by omega) ⟨fun h9 => ?_, fun h9 => ?_⟩
      · skip
        refine xq_vret dX4_either_57 rfl ?_
        have hpz : uZ u = p := by omega
        exact ⟨H1, ⟨ho, by rw [hpz]; exact hc⟩, rfl⟩
      · skip
        refine xq_aload_n dX4_either_12 rfl rfl ?_
        refine xq_iload dX4_either_13 rfl ?_
        refine xq_iload dX4_either_15 rfl ?_
        refine xq_aload_n dX4_either_17 rfl rfl ?_
        refine xq_getF clX4 (by decide) rfl fl_RX4_18 dX4_either_18 (Fx.s16 hF) (Fx.r16_3 hF) ?_
        refine xq_iload dX4_either_21 rfl ?_
        refine xq_laldN dX4_either_23 (Fx.s19 hF) (by omega) (by decide) rfl ?_
        refine xq_iload_n dX4_either_24 rfl rfl ?_
        refine xq_lushr dX4_either_25 ?_
        refine xq_aload_n dX4_either_26 rfl rfl ?_
        refine xq_getF clX4 (by decide) rfl fl_RX4_18 dX4_either_27 (Fx.s16 hF) (Fx.r16_3 hF) ?_
        refine xq_iload dX4_either_30 rfl ?_
        refine xq_laldN dX4_either_32 (Fx.s19 hF) (by omega) (by decide) rfl ?_
        refine xq_iload_n dX4_either_33 rfl rfl ?_
        refine xq_lushr dX4_either_34 ?_
        refine xq_lor dX4_either_35 ?_
        refine xq_lconst dX4_either_36 lc1 ?_
        refine xq_land dX4_either_37 ?_
        refine xq_lconst dX4_either_38 lc0 ?_
        refine xq_lcmp dX4_either_39 ?_
        refine xq_if_eq dX4_either_40 rfl ⟨fun h40 => ?_, fun h40 => ?_⟩
        · skip
          refine xq_iconst dX4_either_47 ic0 ?_
          refine xq_callV3N clX4 gd_X4_set dX4_either_48 ml_RX4_95 im_X4_set se_X4_set rfl (Fx.s16 hF) (by exact Nat.le_of_ble_eq_true rfl) (by decide) (c_set0 hF (by omega) hk) ?_
          intro H48 p48
          refine xq_iincN dX4_either_51 ic1 rfl rfl ?_
          refine xq_goto dX4_either_54 rfl ?_
          have hv := rb_or (w := hL H1 19 p) hx hy; rw [← lg_cmp_eq] at hv
          exact ih (p + 1) H48 (by omega) (by omega) (ho.tr p48.1) (hc.step p48.2 (by show _ = _; rw [← hc.at (Nat.le_refl _) hx, ← hc.at (Nat.le_refl _) hy]; exact (hv.mp h40).symm))
        · skip
          refine xq_iconst dX4_either_43 ic1 ?_
          refine xq_goto dX4_either_44 rfl ?_
          refine xq_callV3N clX4 gd_X4_set dX4_either_48 ml_RX4_95 im_X4_set se_X4_set rfl (Fx.s16 hF) (by exact Nat.le_of_ble_eq_true rfl) (by decide) (c_set1 hF (by omega) hk) ?_
          intro H48 p48
          refine xq_iincN dX4_either_51 ic1 rfl rfl ?_
          refine xq_goto dX4_either_54 rfl ?_
          have hv := rb_or (w := hL H1 19 p) hx hy; rw [← lg_cmp_eq] at hv
          exact ih (p + 1) H48 (by omega) (by omega) (ho.tr p48.1) (hc.step p48.2 (by show _ = _; rw [← hc.at (Nat.le_refl _) hx, ← hc.at (Nat.le_refl _) hy]; exact (Bool.not_eq_false _ ▸ (fun z => h40 (hv.mpr z)) : _ = true).symm))
  refine vq_intro (by decide) (by exact Nat.le_of_ble_eq_true rfl) rfl ?_
  refine xq_iconst dX4_either_0 ic0 ?_
  refine xq_istore dX4_either_1 rfl ?_
  exact lp (uZ u + 1) 0 H (by omega) (by omega) Off.rf ColS.z
theorem c_isNot (hF : gFx S) (ha : gSt S a) (h67 : 67 ≤ a) (hu : StP H a u) (ok : StOk u) (hx : x < 64) (hk : k < 64) : Nv mX4_isNot 1 [.ref 16, .ref a, vN x, vN k] S H (fun H' => Off (fun q => q = 19) H H' ∧ ColS H H' (uZ u) k (fun p => !(rx H p x))) := by
  have hz := ok.n; have hnp := ok.np
  have lp : ∀ (n : Nat) (p : Nat) (H1 : xH), uZ u - p < n → p ≤ uZ u → Off (fun q => q = 19) H H1 → ColS H H1 p k (fun p => !(rx H p x)) → Xq mX4_isNot 1 0 0 3 [some (.ref 16), some (.ref a), some (vN x), some (vN k), some (vN p)] [] S H1 (fun R => ∃ H', (fun H' => Off (fun q => q = 19) H H' ∧ ColS H H' (uZ u) k (fun p => !(rx H p x))) H' ∧ R = (none, S, H')) := by
    intro n
    induction n with
    | zero => intro p  H1  hn; exact absurd hn (by omega)
    | succ n ih =>
      intro p  H1  hn hp ho hc
      have hu1 := hu.off ho (fun j hj => by omega)
      refine xq_iload dX4_isNot_3 rfl ?_
      refine xq_aload_n dX4_isNot_5 rfl rfl ?_
      refine xq_getIE clX7 (by decide) rfl fl_RX4_85 dX4_isNot_6 (St.s0 ha) hu1.sz ?_
      refine xq_icmp_geN dX4_isNot_9 rfl (by omega) (by omega) ⟨fun h9 => ?_, fun h9 => ?_⟩
      · skip
        refine xq_vret dX4_isNot_46 rfl ?_
        have hpz : uZ u = p := by omega
        exact ⟨H1, ⟨ho, by rw [hpz]; exact hc⟩, rfl⟩
      · skip
        refine xq_aload_n dX4_isNot_12 rfl rfl ?_
        refine xq_iload dX4_isNot_13 rfl ?_
        refine xq_iload_n dX4_isNot_15 rfl rfl ?_
        refine xq_aload_n dX4_isNot_16 rfl rfl ?_
        refine xq_getF clX4 (by decide) rfl fl_RX4_18 dX4_isNot_17 (Fx.s16 hF) (Fx.r16_3 hF) ?_
        refine xq_iload dX4_isNot_20 rfl ?_
        refine xq_laldN dX4_isNot_22 (Fx.s19 hF) (by omega) (by decide) rfl ?_
        refine xq_iload_n dX4_isNot_23 rfl rfl ?_
        refine xq_lushr dX4_isNot_24 ?_
        refine xq_lconst dX4_isNot_25 lc1 ?_
        refine xq_land dX4_isNot_26 ?_
        refine xq_lconst dX4_isNot_27 lc0 ?_
        refine xq_lcmp dX4_isNot_28 ?_
        refine xq_if_ne dX4_isNot_29 rfl ⟨fun h29 => ?_, fun h29 => ?_⟩
        · skip
          refine xq_iconst dX4_isNot_36 ic0 ?_
          refine xq_callV3N clX4 gd_X4_set dX4_isNot_37 ml_RX4_95 im_X4_set se_X4_set rfl (Fx.s16 hF) (by exact Nat.le_of_ble_eq_true rfl) (by decide) (c_set0 hF (by omega) hk) ?_
          intro H37 p37
          refine xq_iincN dX4_isNot_40 ic1 rfl rfl ?_
          refine xq_goto dX4_isNot_43 rfl ?_
          have hv := rb_z (w := hL H1 19 p) hx; rw [← lg_cmp_eq] at hv
          exact ih (p + 1) H37 (by omega) (by omega) (ho.tr p37.1) (hc.step p37.2 (by show _ = _; rw [← hc.at (Nat.le_refl _) hx]; rw [show rx H1 p x = true from Bool.not_eq_false _ ▸ (fun z => h29 (hv.mpr z))]; rfl))
        · skip
          refine xq_iconst dX4_isNot_32 ic1 ?_
          refine xq_goto dX4_isNot_33 rfl ?_
          refine xq_callV3N clX4 gd_X4_set dX4_isNot_37 ml_RX4_95 im_X4_set se_X4_set rfl (Fx.s16 hF) (by exact Nat.le_of_ble_eq_true rfl) (by decide) (c_set1 hF (by omega) hk) ?_
          intro H37 p37
          refine xq_iincN dX4_isNot_40 ic1 rfl rfl ?_
          refine xq_goto dX4_isNot_43 rfl ?_
          have hv := rb_z (w := hL H1 19 p) hx; rw [← lg_cmp_eq] at hv
          exact ih (p + 1) H37 (by omega) (by omega) (ho.tr p37.1) (hc.step p37.2 (by show _ = _; rw [← hc.at (Nat.le_refl _) hx]; rw [show rx H1 p x = false from hv.mp h29]; rfl))
  refine vq_intro (by decide) (by exact Nat.le_of_ble_eq_true rfl) rfl ?_
  refine xq_iconst dX4_isNot_0 ic0 ?_
  refine xq_istore dX4_isNot_1 rfl ?_
  exact lp (uZ u + 1) 0 H (by omega) (by omega) Off.rf ColS.z
end MR
