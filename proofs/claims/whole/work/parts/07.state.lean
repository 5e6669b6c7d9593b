/-! ===== what stays, pictures of a State, its reading methods ===== -/
def Off (A : Nat → Prop) (H H' : xH) : Prop := ∀ q, ¬ A q → H'.1 q = H.1 q ∧ H'.2.1 q = H.2.1 q ∧ H'.2.2 q = H.2.2 q
section OFF
variable {A B : Nat → Prop} {H H' H2 : xH} {a q k : Nat}
theorem Off.I (h : Off A H H') {q : Nat} (hq : ¬ A q) (k : Nat) : hI H' q k = hI H q k := congrFun (h q hq).1 k
theorem Off.L (h : Off A H H') {q : Nat} (hq : ¬ A q) (k : Nat) : hL H' q k = hL H q k := congrFun (h q hq).2.1 k
theorem Off.R (h : Off A H H') {q : Nat} (hq : ¬ A q) (k : Nat) : hR H' q k = hR H q k := congrFun (h q hq).2.2 k
theorem Off.rf : Off A H H := fun _ _ => ⟨rfl, rfl, rfl⟩
theorem Off.tr (h : Off A H H') (h2 : Off A H' H2) : Off A H H2 := fun q hq => ⟨(h2 q hq).1.trans (h q hq).1, (h2 q hq).2.1.trans (h q hq).2.1, (h2 q hq).2.2.trans (h q hq).2.2⟩
theorem Off.mo (h : Off A H H') (hm : ∀ q, A q → B q) : Off B H H' := fun q hq => h q (fun e => hq (hm q e))
theorem Off.pI (h : Off A H H') {a : Nat} (ha : A a) (k : Nat) (v : Int32) : Off A H (sI H' a k v) := fun q hq => ⟨by
  have : (sI H' a k v).1 q = H'.1 q := by
    funext j
    have hne : ¬ (q = a ∧ j = k) := fun e => hq (e.1 ▸ ha)
    exact up2_n hne
  rw [this]; exact (h q hq).1, (h q hq).2.1, (h q hq).2.2⟩
theorem Off.pL (h : Off A H H') {a : Nat} (ha : A a) (k : Nat) (v : Int64) : Off A H (sL H' a k v) := fun q hq => ⟨(h q hq).1, by
  have : (sL H' a k v).2.1 q = H'.2.1 q := by
    funext j
    have hne : ¬ (q = a ∧ j = k) := fun e => hq (e.1 ▸ ha)
    exact up2_n hne
  rw [this]; exact (h q hq).2.1, (h q hq).2.2⟩
theorem Off.pR (h : Off A H H') {a : Nat} (ha : A a) (k : Nat) (v : Option Nat) : Off A H (sR H' a k v) := fun q hq => ⟨(h q hq).1, (h q hq).2.1, by
  have : (sR H' a k v).2.2 q = H'.2.2 q := by
    funext j
    have hne : ¬ (q = a ∧ j = k) := fun e => hq (e.1 ▸ ha)
    exact up2_n hne
  rw [this]; exact (h q hq).2.2⟩
end OFF
theorem hI_sI (H : xH) (a k q j : Nat) (v : Int32) : hI (sI H a k v) q j = if q = a ∧ j = k then v else hI H q j := rfl
theorem hL_sL (H : xH) (a k q j : Nat) (v : Int64) : hL (sL H a k v) q j = if q = a ∧ j = k then v else hL H q j := rfl
theorem hR_sR (H : xH) (a k q j : Nat) (v : Option Nat) : hR (sR H a k v) q j = if q = a ∧ j = k then v else hR H q j := rfl
theorem hI_sL (H : xH) (a k q j : Nat) (v : Int64) : hI (sL H a k v) q j = hI H q j := rfl
theorem hI_sR (H : xH) (a k q j : Nat) (v : Option Nat) : hI (sR H a k v) q j = hI H q j := rfl
theorem hL_sI (H : xH) (a k q j : Nat) (v : Int32) : hL (sI H a k v) q j = hL H q j := rfl
theorem hL_sR (H : xH) (a k q j : Nat) (v : Option Nat) : hL (sR H a k v) q j = hL H q j := rfl
theorem hR_sI (H : xH) (a k q j : Nat) (v : Int32) : hR (sI H a k v) q j = hR H q j := rfl
theorem hR_sL (H : xH) (a k q j : Nat) (v : Int64) : hR (sL H a k v) q j = hR H q j := rfl
def ct (f : Nat → Bool) : Nat → Nat
  | 0 => 0
  | n + 1 => ct f n + (if f n then 1 else 0)
theorem ct_t {f : Nat → Bool} {n : Nat} (h : f n = true) : ct f (n + 1) = ct f n + 1 := by simp [ct, h]
theorem ct_f {f : Nat → Bool} {n : Nat} (h : f n = false) : ct f (n + 1) = ct f n := by simp [ct, h]
theorem ct_le (f : Nat → Bool) : ∀ n, ct f n ≤ n
  | 0 => Nat.le_refl _
  | n + 1 => by have := ct_le f n; unfold ct; split <;> omega
theorem ct_cong {f g : Nat → Bool} : ∀ {n : Nat}, (∀ k, k < n → f k = g k) → ct f n = ct g n
  | 0, _ => rfl
  | n + 1, h => by unfold ct; rw [ct_cong (fun k hk => h k (by omega)), h n (by omega)]
/-- the bits of a packed world that one sees who sees these (bits) -/
def vm (s : Nat) : Nat := (List.range 6).foldl (fun m q => if s.testBit q then m ||| (3 <<< (10 - 2 * q)) else m) 0
/-- a State: the worlds left; its numbers by their places 5 .. 10; whom each sees; prizes; the last draw -/
abbrev uSt : Type := List Nat × (Nat → Nat) × (Nat → Nat) × (Nat → Nat) × Nat
def uLf (u : uSt) : List Nat := u.1
def uF (u : uSt) (k : Nat) : Nat := u.2.1 k
def uSe (u : uSt) (p : Nat) : Nat := u.2.2.1 p
def uPz (u : uSt) (p : Nat) : Nat := u.2.2.2.1 p
def uLa (u : uSt) : Nat := u.2.2.2.2
abbrev uRl (u : uSt) : Nat := uF u 5
abbrev uNp (u : uSt) : Nat := uF u 6
abbrev uSd (u : uSt) : Nat := uF u 7
abbrev uHd (u : uSt) : Nat := uF u 8
abbrev uLi (u : uSt) : Nat := uF u 9
abbrev uHr (u : uSt) : Nat := uF u 10
abbrev uZ (u : uSt) : Nat := (uLf u).length
def uW (u : uSt) (p : Nat) : Nat := (uLf u).getD p 0
def StP (H : xH) (a : Nat) (u : uSt) : Prop := hI H a 4 = nI (uZ u) ∧ (∀ k, 5 ≤ k → k ≤ 10 → hI H a k = nI (uF u k)) ∧ hL H a 11 = lN (uLa u) ∧ (∀ p, p < uZ u → hI H (a + 1) p = nI (uW u p)) ∧ ∀ p, p < 6 → hI H (a + 2) p = nI (uSe u p) ∧ hI H (a + 3) p = nI (vm (uSe u p)) ∧ hI H (a + 4) p = nI (uPz u p)
def StOk (u : uSt) : Prop := uZ u ≤ 729 ∧ (∀ p, p < uZ u → uW u p < 4096) ∧ uRl u < uZ u ∧ uNp u ≤ 6 ∧ (∀ p, p < 6 → uSe u p < 64 ∧ uPz u p ≤ uPz u p) ∧ uSd u < 64 ∧ uHd u ≤ 100000000 ∧ uLi u ≤ 100000000 ∧ uHr u ≤ 10000 ∧ uLa u < 2147483648
section SP
variable {S : xS} {H H' : xH} {a : Nat} {u : uSt} {A : Nat → Prop}
theorem StP.sz (h : StP H a u) : hI H a 4 = nI (uZ u) := h.1
theorem StP.f (h : StP H a u) {k : Nat} (h1 : 5 ≤ k) (h2 : k ≤ 10) : hI H a k = nI (uF u k) := h.2.1 k h1 h2
theorem StP.f5 (h : StP H a u) : hI H a 5 = nI (uRl u) := h.2.1 5 (by omega) (by omega)
theorem StP.f6 (h : StP H a u) : hI H a 6 = nI (uNp u) := h.2.1 6 (by omega) (by omega)
theorem StP.f7 (h : StP H a u) : hI H a 7 = nI (uSd u) := h.2.1 7 (by omega) (by omega)
theorem StP.f8 (h : StP H a u) : hI H a 8 = nI (uHd u) := h.2.1 8 (by omega) (by omega)
theorem StP.f9 (h : StP H a u) : hI H a 9 = nI (uLi u) := h.2.1 9 (by omega) (by omega)
theorem StP.f10 (h : StP H a u) : hI H a 10 = nI (uHr u) := h.2.1 10 (by omega) (by omega)
theorem StP.la (h : StP H a u) : hL H a 11 = lN (uLa u) := h.2.2.1
theorem StP.w (h : StP H a u) {p : Nat} (hp : p < uZ u) : hI H (a + 1) p = nI (uW u p) := h.2.2.2.1 p hp
theorem StP.se (h : StP H a u) {p : Nat} (hp : p < 6) : hI H (a + 2) p = nI (uSe u p) := (h.2.2.2.2 p hp).1
theorem StP.vi (h : StP H a u) {p : Nat} (hp : p < 6) : hI H (a + 3) p = nI (vm (uSe u p)) := (h.2.2.2.2 p hp).2.1
theorem StP.pz (h : StP H a u) {p : Nat} (hp : p < 6) : hI H (a + 4) p = nI (uPz u p) := (h.2.2.2.2 p hp).2.2
theorem StP.off (h : StP H a u) (ho : Off A H H') (h0 : ∀ j, j < 5 → ¬ A (a + j)) : StP H' a u :=
  ⟨(ho.I (h0 0 (by omega)) 4).trans h.1, fun k h1 h2 => (ho.I (h0 0 (by omega)) k).trans (h.2.1 k h1 h2), (ho.L (h0 0 (by omega)) 11).trans h.2.2.1, fun p hp => (ho.I (h0 1 (by omega)) p).trans (h.2.2.2.1 p hp), fun p hp => ⟨(ho.I (h0 2 (by omega)) p).trans (h.2.2.2.2 p hp).1, (ho.I (h0 3 (by omega)) p).trans (h.2.2.2.2 p hp).2.1, (ho.I (h0 4 (by omega)) p).trans (h.2.2.2.2 p hp).2.2⟩⟩
theorem StOk.n (h : StOk u) : uZ u ≤ 729 := h.1
theorem StOk.w (h : StOk u) {p : Nat} (hp : p < uZ u) : uW u p < 4096 := h.2.1 p hp
theorem StOk.rl (h : StOk u) : uRl u < uZ u := h.2.2.1
theorem StOk.np (h : StOk u) : uNp u ≤ 6 := h.2.2.2.1
theorem StOk.se (h : StOk u) {p : Nat} (hp : p < 6) : uSe u p < 64 := (h.2.2.2.2.1 p hp).1
theorem StOk.pz (h : StOk u) {p : Nat} (hp : p < 6) : uPz u p ≤ uPz u p := (h.2.2.2.2.1 p hp).2
theorem StOk.sd (h : StOk u) : uSd u < 64 := h.2.2.2.2.2.1
theorem StOk.hr (h : StOk u) : uHr u ≤ 10000 := h.2.2.2.2.2.2.2.2.1
theorem StOk.la (h : StOk u) : uLa u < 2147483648 := h.2.2.2.2.2.2.2.2.2
end SP
/-- two worlds look alike through the bits m -/
def ake (m w w' : Nat) : Bool := (w &&& m) == (w' &&& m)
theorem xor_zero_iff {a b : Nat} : a ^^^ b = 0 ↔ a = b := ⟨fun h => by
  have := congrArg (fun z => z ^^^ b) h
  simpa [Nat.xor_assoc] using this, fun h => by rw [h, Nat.xor_self]⟩
theorem ake_xor (m w w' : Nat) : ((w ^^^ w') &&& m = 0) ↔ ake m w w' = true := by
  rw [Nat.and_xor_distrib_right, xor_zero_iff]
  simp [ake]
def alk (u : uSt) (i p : Nat) : Bool := ake (vm (uSe u i)) (uW u p) (uW u (uRl u))
def alikeN (u : uSt) (i : Nat) : Nat := ct (alk u i) (uZ u)
theorem vm_lt {s : Nat} (h : s < 64) : vm s < 4096 := by
  have : ∀ s : Fin 64, vm s.val < 4096 := by decide +kernel
  exact this ⟨s, h⟩
theorem and_lt4 {a b : Nat} (h : a < 4096) : a &&& b < 4096 := Nat.lt_of_le_of_lt Nat.and_le_left h
theorem and_lt4' {a b : Nat} (h : b < 4096) : a &&& b < 4096 := Nat.lt_of_le_of_lt Nat.and_le_right h
theorem xor_lt4 {a b : Nat} (ha : a < 4096) (hb : b < 4096) : a ^^^ b < 4096 := Nat.xor_lt_two_pow (n := 12) ha hb
def fo {α : Type} (f : Nat → α → α) (x : α) : Nat → α
  | 0 => x
  | n + 1 => f n (fo f x n)
def col (w i : Nat) : Nat := (w >>> (10 - 2 * i)) &&& 3
theorem col_lt (w i : Nat) : col w i < 4 := Nat.lt_of_le_of_lt Nat.and_le_right (by decide)
theorem shr_le (w i : Nat) : w >>> i ≤ w := by rw [Nat.shiftRight_eq_div_pow]; exact Nat.div_le_self _ _
def pop (x : Nat) : Nat := ct (fun i => x.testBit i) 10
theorem pop_le (x : Nat) : pop x ≤ 10 := ct_le _ _
def usx (x y : Int32) : Int32 := (x.toUInt32 >>> (y.toUInt32 &&& Int32.toUInt32 31)).toInt32
def bc1 (v : Int32) : Int32 := v - (usx v (nI 1) &&& nI 1431655765)
def bc2 (v : Int32) : Int32 := (v &&& nI 858993459) + (usx v (nI 2) &&& nI 858993459)
def bc3 (v : Int32) : Int32 := (v + usx v (nI 4)) &&& nI 252645135
def bc4 (v : Int32) : Int32 := v + usx v (nI 8)
def bc5 (v : Int32) : Int32 := v + usx v (nI 16)
theorem bc_ok {x : Nat} (hx : x < 1024) : bc5 (bc4 (bc3 (bc2 (bc1 (nI x))))) &&& nI 63 = nI (pop x) := by
  have : ∀ x : Fin 1024, bc5 (bc4 (bc3 (bc2 (bc1 (nI x.val))))) &&& nI 63 = nI (pop x.val) := by decide +kernel
  exact this ⟨x, hx⟩
def tal (u : uSt) (i j c : Nat) : Nat := ct (fun p => alk u i p && col (uW u p) j == c) (uZ u)
def mst (u : uSt) (i j : Nat) : Nat := fo (fun c m => max m (tal u i j c)) 0 3
def cfr (u : uSt) (i j : Nat) : Nat := fo (fun p b => if alk u i p then b ||| (1 <<< col (uW u p) j) else b) 0 (uZ u)
theorem or16 {a b : Nat} (ha : a < 16) (hb : b < 16) : a ||| b < 16 := Nat.or_lt_two_pow (n := 4) ha hb
theorem shl16 {c : Nat} (h : c < 4) : 1 <<< c < 16 := by
  have : ∀ c : Fin 4, 1 <<< c.val < 16 := by decide
  exact this ⟨c, h⟩
theorem cfr_lt (u : uSt) (i j : Nat) : cfr u i j < 16 := by
  have : ∀ n, fo (fun p b => if alk u i p then b ||| (1 <<< col (uW u p) j) else b) 0 n < 16 := by
    intro n
    induction n with
    | zero => exact Nat.lt_of_sub_eq_succ rfl
    | succ n ih =>
      unfold fo
      split
      · exact or16 ih (shl16 (col_lt _ _))
      · exact ih
  exact this _
def kn (u : uSt) (i j : Nat) : Bool := pop (cfr u i j) == 1
def kns (u : uSt) : Nat := fo (fun i b => b ||| (if kn u i i then 1 <<< i else 0)) 0 (uNp u)
theorem shl64 {c : Nat} (h : c < 6) : 1 <<< c < 64 := by
  have : ∀ c : Fin 6, 1 <<< c.val < 64 := by decide
  exact this ⟨c, h⟩
theorem or64 {a b : Nat} (ha : a < 64) (hb : b < 64) : a ||| b < 64 := Nat.or_lt_two_pow (n := 6) ha hb
theorem kns_lt {u : uSt} (h : uNp u ≤ 6) : kns u < 64 := by
  have : ∀ n, n ≤ 6 → fo (fun i b => b ||| (if kn u i i then 1 <<< i else 0)) 0 n < 64 := by
    intro n
    induction n with
    | zero => intro _; exact Nat.lt_of_sub_eq_succ rfl
    | succ n ih =>
      intro hn
      unfold fo
      refine or64 (ih (by omega)) ?_
      split
      · exact shl64 (by omega)
      · decide
  exact this _ h
def pzs (u : uSt) : Nat := fo (fun p s => s + uPz u p) 0 (uNp u)
theorem tal_le (u : uSt) (i j c : Nat) : tal u i j c ≤ uZ u := ct_le _ _
theorem alikeN_le (u : uSt) (i : Nat) : alikeN u i ≤ uZ u := ct_le _ _
theorem mst_le (u : uSt) (i j : Nat) : ∀ n, fo (fun c m => max m (tal u i j c)) 0 n ≤ uZ u
  | 0 => Nat.zero_le _
  | n + 1 => Nat.max_le.mpr ⟨mst_le u i j n, tal_le u i j n⟩
section J
variable {S : xS} {H : xH} {x y : Nat}
theorem c_bitCount (hx : x < 1024) : Pv mJ6_bitCount_0f7a4 0 [vN x] S H (vN (pop x)) := by
  refine vq_ev (vq_intro (by decide) (by exact Nat.le_of_ble_eq_true rfl) rfl ?_)
  refine xq_iload_n dJ6_bitCount_0f7a4_0 rfl rfl ?_
  refine xq_iload_n dJ6_bitCount_0f7a4_1 rfl rfl ?_
  refine xq_iconst dJ6_bitCount_0f7a4_2 ic1 ?_
  refine xq_iushr dJ6_bitCount_0f7a4_3 ?_
  refine xq_ldcw (v := nI 1431655765) dJ6_bitCount_0f7a4_4 kc_RJ6_265 ?_
  refine xq_iand dJ6_bitCount_0f7a4_7 ?_
  refine xq_isub dJ6_bitCount_0f7a4_8 ?_
  refine xq_istore_n dJ6_bitCount_0f7a4_9 rfl rfl ?_
  refine xq_iload_n dJ6_bitCount_0f7a4_10 rfl rfl ?_
  refine xq_ldcw (v := nI 858993459) dJ6_bitCount_0f7a4_11 kc_RJ6_266 ?_
  refine xq_iand dJ6_bitCount_0f7a4_14 ?_
  refine xq_iload_n dJ6_bitCount_0f7a4_15 rfl rfl ?_
  refine xq_iconst dJ6_bitCount_0f7a4_16 ic2 ?_
  refine xq_iushr dJ6_bitCount_0f7a4_17 ?_
  refine xq_ldcw (v := nI 858993459) dJ6_bitCount_0f7a4_18 kc_RJ6_266 ?_
  refine xq_iand dJ6_bitCount_0f7a4_21 ?_
  refine xq_iadd dJ6_bitCount_0f7a4_22 ?_
  refine xq_istore_n dJ6_bitCount_0f7a4_23 rfl rfl ?_
  refine xq_iload_n dJ6_bitCount_0f7a4_24 rfl rfl ?_
  refine xq_iload_n dJ6_bitCount_0f7a4_25 rfl rfl ?_
  refine xq_iconst dJ6_bitCount_0f7a4_26 ic4 ?_
  refine xq_iushr dJ6_bitCount_0f7a4_27 ?_
  refine xq_iadd dJ6_bitCount_0f7a4_28 ?_
  refine xq_ldcw (v := nI 252645135) dJ6_bitCount_0f7a4_29 kc_RJ6_267 ?_
  refine xq_iand dJ6_bitCount_0f7a4_32 ?_
  refine xq_istore_n dJ6_bitCount_0f7a4_33 rfl rfl ?_
  refine xq_iload_n dJ6_bitCount_0f7a4_34 rfl rfl ?_
  refine xq_iload_n dJ6_bitCount_0f7a4_35 rfl rfl ?_
  refine xq_bipush dJ6_bitCount_0f7a4_36 bp8 ?_
  refine xq_iushr dJ6_bitCount_0f7a4_38 ?_
  refine xq_iadd dJ6_bitCount_0f7a4_39 ?_
  refine xq_istore_n dJ6_bitCount_0f7a4_40 rfl rfl ?_
  refine xq_iload_n dJ6_bitCount_0f7a4_41 rfl rfl ?_
  refine xq_iload_n dJ6_bitCount_0f7a4_42 rfl rfl ?_
  refine xq_bipush dJ6_bitCount_0f7a4_43 bp16 ?_
  refine xq_iushr dJ6_bitCount_0f7a4_45 ?_
  refine xq_iadd dJ6_bitCount_0f7a4_46 ?_
  refine xq_istore_n dJ6_bitCount_0f7a4_47 rfl rfl ?_
  refine xq_iload_n dJ6_bitCount_0f7a4_48 rfl rfl ?_
  refine xq_bipush dJ6_bitCount_0f7a4_49 bp63 ?_
  refine xq_iand dJ6_bitCount_0f7a4_51 ?_
  refine xq_iret dJ6_bitCount_0f7a4_52 rfl ?_
  show (some (Value.int (bc5 (bc4 (bc3 (bc2 (bc1 (nI x))))) &&& nI 63)), S, H) = _; rw [bc_ok hx]
theorem c_shiftOf (hx : x < 6) : Pv mX10_shiftOf 0 [vN x] S H (vN (10 - 2 * x)) := by
  refine vq_ev (vq_intro (by decide) (by exact Nat.le_of_ble_eq_true rfl) rfl ?_)
  refine xq_bipush dX10_shiftOf_0 bp10 ?_
  refine xq_iconst dX10_shiftOf_2 ic2 ?_
  refine xq_iload_n dX10_shiftOf_3 rfl rfl ?_
  refine xq_imulN dX10_shiftOf_4 ?_
  refine xq_isubN dX10_shiftOf_5 (by omega) ?_
  refine xq_iret dX10_shiftOf_6 rfl ?_
  rfl
theorem c_colourIn (hx : x < 4096) (hy : y < 6) : Pv mX10_colourIn 1 [vN x, vN y] S H (vN (col x y)) := by
  refine vq_ev (vq_intro (by decide) (by exact Nat.le_of_ble_eq_true rfl) rfl ?_)
  refine xq_iload_n dX10_colourIn_0 rfl rfl ?_
  refine xq_iload_n dX10_colourIn_1 rfl rfl ?_
  refine xq_callS1P gd_X10_shiftOf dX10_colourIn_2 ml_RX10_329 im_X10_shiftOf (by exact Nat.le_of_ble_eq_true rfl) (by decide) (c_shiftOf hy) ?_
  refine xq_ishrN dX10_colourIn_5 (by omega) (by omega) ?_
  refine xq_iconst dX10_colourIn_6 ic3 ?_
  refine xq_iandN dX10_colourIn_7 ?_
  refine xq_iret dX10_colourIn_8 rfl ?_
  rfl
end J
section SR
variable {S : xS} {H : xH} {a : Nat} {u : uSt} {i j c p : Nat}
theorem c_isAlike (ha : gSt S a) (hu : StP H a u) (ok : StOk u) (hp : p < uZ u) (hi : i < 6) : Pv mX7_isAlike 0 [.ref a, vN p, vN i] S H (vB (alk u i p)) := by
  have hn := ok.n; have hrl := ok.rl; have hnp := ok.np; have hrw := ok.w hrl
  have h1 := ok.w hp; have h2 := xor_lt4 h1 hrw
  have h3 : (uW u p ^^^ uW u (uRl u)) &&& vm (uSe u i) < 4096 := and_lt4 h2
  refine vq_ev (vq_intro (by decide) (by exact Nat.le_of_ble_eq_true rfl) rfl ?_)
  refine xq_aload_n dX7_isAlike_0 rfl rfl ?_
  refine xq_getF clX7 (by decide) rfl fl_RX7_9 dX7_isAlike_1 (St.s0 ha) (St.r0 ha) ?_
  refine xq_iload_n dX7_isAlike_4 rfl rfl ?_
  refine xq_ialdN dX7_isAlike_5 (St.s1 ha) (by omega) (by decide) (hu.w hp) ?_
  refine xq_aload_n dX7_isAlike_6 rfl rfl ?_
  refine xq_getF clX7 (by decide) rfl fl_RX7_9 dX7_isAlike_7 (St.s0 ha) (St.r0 ha) ?_
  refine xq_aload_n dX7_isAlike_10 rfl rfl ?_
  refine xq_getIE clX7 (by decide) rfl fl_RX7_70 dX7_isAlike_11 (St.s0 ha) hu.f5 ?_
  refine xq_ialdN dX7_isAlike_14 (St.s1 ha) (by omega) (by decide) (hu.w hrl) ?_
  refine xq_ixorN dX7_isAlike_15 ?_
  refine xq_aload_n dX7_isAlike_16 rfl rfl ?_
  refine xq_getF clX7 (by decide) rfl fl_RX7_18 dX7_isAlike_17 (St.s0 ha) (St.r2 ha) ?_
  refine xq_iload_n dX7_isAlike_20 rfl rfl ?_
  refine xq_ialdN dX7_isAlike_21 (St.s3 ha) (by omega) (by decide) (hu.vi hi) ?_
  refine xq_iandN dX7_isAlike_22 ?_
  refine xq_if_neN dX7_isAlike_23 rfl (by omega) ⟨fun h23 => ?_, fun h23 => ?_⟩
  · skip
    refine xq_iconst dX7_isAlike_30 ic0 ?_
    refine xq_zret dX7_isAlike_31 rfl (by decide) ?_
    show _ = _; rw [show alk u i p = false from Bool.eq_false_iff.mpr (fun e => h23 ((ake_xor _ _ _).mpr e))]; rfl
  · skip
    refine xq_iconst dX7_isAlike_26 ic1 ?_
    refine xq_goto dX7_isAlike_27 rfl ?_
    refine xq_zret dX7_isAlike_31 rfl (by decide) ?_
    show _ = _; rw [show alk u i p = true from (ake_xor _ _ _).mp h23]; rfl
theorem c_alikeFor (ha : gSt S a) (hu : StP H a u) (ok : StOk u) (hi : i < 6) : Pv mX7_alikeFor 0 [.ref a, vN i] S H (vN (alikeN u i)) := by
  have hn := ok.n; have hrl := ok.rl; have hnp := ok.np; have hrw := ok.w hrl
  have h3 := and_lt4 (b := vm (uSe u i)) hrw
  have lp : ∀ (fz : Nat) (p many : Nat), uZ u - p < fz → p ≤ uZ u → many = ct (alk u i) p → Xq mX7_alikeFor 0 0 0 22 [some (.ref a), some (vN i), some (vN many), some (vN (uW u (uRl u) &&& vm (uSe u i))), some (vN p)] [] S H (fun R => R = (some (vN (alikeN u i)), S, H)) := by
    intro fz
    induction fz with
    | zero => intro p many hfz; exact absurd hfz (by omega)
    | succ fz ih =>
      intro p many hfz hp hm
      refine xq_iload dX7_alikeFor_22 rfl ?_
      refine xq_aload_n dX7_alikeFor_24 rfl rfl ?_
      refine xq_getIE clX7 (by decide) rfl fl_RX7_69 dX7_alikeFor_25 (St.s0 ha) hu.sz ?_
      refine xq_icmp_geN dX7_alikeFor_28 rfl (by omega) (by omega) ⟨fun h28 => ?_, fun h28 => ?_⟩
      · skip
        refine xq_iload_n dX7_alikeFor_63 rfl rfl ?_
        refine xq_iret dX7_alikeFor_64 rfl ?_
        show _ = _; rw [hm, show p = uZ u by omega]; rfl
      · skip
        have h4 := and_lt4 (b := vm (uSe u i)) (ok.w h28)
        refine xq_iload_n dX7_alikeFor_31 rfl rfl ?_
        refine xq_aload_n dX7_alikeFor_32 rfl rfl ?_
        refine xq_getF clX7 (by decide) rfl fl_RX7_9 dX7_alikeFor_33 (St.s0 ha) (St.r0 ha) ?_
        refine xq_iload dX7_alikeFor_36 rfl ?_
        refine xq_ialdN dX7_alikeFor_38 (St.s1 ha) (by omega) (by decide) (hu.w h28) ?_
        refine xq_aload_n dX7_alikeFor_39 rfl rfl ?_
        refine xq_getF clX7 (by decide) rfl fl_RX7_18 dX7_alikeFor_40 (St.s0 ha) (St.r2 ha) ?_
        refine xq_iload_n dX7_alikeFor_43 rfl rfl ?_
        refine xq_ialdN dX7_alikeFor_44 (St.s3 ha) (by omega) (by decide) (hu.vi hi) ?_
        refine xq_iandN dX7_alikeFor_45 ?_
        refine xq_iload_n dX7_alikeFor_46 rfl rfl ?_
        refine xq_icmp_neN dX7_alikeFor_47 rfl (by omega) (by omega) ⟨fun h47 => ?_, fun h47 => ?_⟩
        · skip
          refine xq_iconst dX7_alikeFor_54 ic0 ?_
          refine xq_iaddN dX7_alikeFor_55 ?_
          refine xq_istore_n dX7_alikeFor_56 rfl rfl ?_
          refine xq_iincN dX7_alikeFor_57 ic1 rfl rfl ?_
          refine xq_goto dX7_alikeFor_60 rfl ?_
          exact ih (p + 1) (many + 0) (by omega) (by omega) (by rw [ct_f (by simp [alk, ake, h47])]; omega)
        · skip
          refine xq_iconst dX7_alikeFor_50 ic1 ?_
          refine xq_goto dX7_alikeFor_51 rfl ?_
          refine xq_iaddN dX7_alikeFor_55 ?_
          refine xq_istore_n dX7_alikeFor_56 rfl rfl ?_
          refine xq_iincN dX7_alikeFor_57 ic1 rfl rfl ?_
          refine xq_goto dX7_alikeFor_60 rfl ?_
          exact ih (p + 1) (many + 1) (by omega) (by omega) (by rw [ct_t (by simp [alk, ake, h47])]; omega)
  refine vq_ev (vq_intro (by decide) (by exact Nat.le_of_ble_eq_true rfl) rfl ?_)
  refine xq_iconst dX7_alikeFor_0 ic0 ?_
  refine xq_istore_n dX7_alikeFor_1 rfl rfl ?_
  refine xq_aload_n dX7_alikeFor_2 rfl rfl ?_
  refine xq_getF clX7 (by decide) rfl fl_RX7_9 dX7_alikeFor_3 (St.s0 ha) (St.r0 ha) ?_
  refine xq_aload_n dX7_alikeFor_6 rfl rfl ?_
  refine xq_getIE clX7 (by decide) rfl fl_RX7_70 dX7_alikeFor_7 (St.s0 ha) hu.f5 ?_
  refine xq_ialdN dX7_alikeFor_10 (St.s1 ha) (by omega) (by decide) (hu.w hrl) ?_
  refine xq_aload_n dX7_alikeFor_11 rfl rfl ?_
  refine xq_getF clX7 (by decide) rfl fl_RX7_18 dX7_alikeFor_12 (St.s0 ha) (St.r2 ha) ?_
  refine xq_iload_n dX7_alikeFor_15 rfl rfl ?_
  refine xq_ialdN dX7_alikeFor_16 (St.s3 ha) (by omega) (by decide) (hu.vi hi) ?_
  refine xq_iandN dX7_alikeFor_17 ?_
  refine xq_istore_n dX7_alikeFor_18 rfl rfl ?_
  refine xq_iconst dX7_alikeFor_19 ic0 ?_
  refine xq_istore dX7_alikeFor_20 rfl ?_
  exact lp (uZ u + 1) 0 0 (by omega) (by omega) rfl
theorem c_tally (ha : gSt S a) (hu : StP H a u) (ok : StOk u) (hi : i < 6) (hj : j < 6) (hc : c < 4) : Pv mX7_tally 2 [.ref a, vN i, vN j, vN c] S H (vN (tal u i j c)) := by
  have hn := ok.n; have hrl := ok.rl; have hnp := ok.np; have hrw := ok.w hrl
  have lp : ∀ (fz : Nat) (p many : Nat), uZ u - p < fz → p ≤ uZ u → many = ct (fun p => alk u i p && col (uW u p) j == c) p → Xq mX7_tally 2 0 0 6 [some (.ref a), some (vN i), some (vN j), some (vN c), some (vN many), some (vN p)] [] S H (fun R => R = (some (vN (tal u i j c)), S, H)) := by
    intro fz
    induction fz with
    | zero => intro p many hfz; exact absurd hfz (by omega)
    | succ fz ih =>
      intro p many hfz hp hm
      refine xq_iload dX7_tally_6 rfl ?_
      refine xq_aload_n dX7_tally_8 rfl rfl ?_
      refine xq_getIE clX7 (by decide) rfl fl_RX7_69 dX7_tally_9 (St.s0 ha) hu.sz ?_
      refine xq_icmp_geN dX7_tally_12 rfl (by omega) (by omega) ⟨fun h12 => ?_, fun h12 => ?_⟩
      · skip
        refine xq_iload dX7_tally_56 rfl ?_
        refine xq_iret dX7_tally_58 rfl ?_
        show _ = _; rw [hm, show p = uZ u by omega]; rfl
      · skip
        refine xq_iload dX7_tally_15 rfl ?_
        refine xq_aload_n dX7_tally_17 rfl rfl ?_
        refine xq_iload dX7_tally_18 rfl ?_
        refine xq_iload_n dX7_tally_20 rfl rfl ?_
        refine xq_callV2P clX7 gd_X7_isAlike dX7_tally_21 ml_RX7_92 im_X7_isAlike se_X7_isAlike rfl (St.s0 ha) (by exact Nat.le_of_ble_eq_true rfl) (by decide) (c_isAlike ha hu ok h12 hi) ?_
        refine xq_if_eqB dX7_tally_24 rfl ⟨fun h24 => ?_, fun h24 => ?_⟩
        · skip
          refine xq_iconst dX7_tally_46 ic0 ?_
          refine xq_iaddN dX7_tally_47 ?_
          refine xq_istore dX7_tally_48 rfl ?_
          refine xq_iincN dX7_tally_50 ic1 rfl rfl ?_
          refine xq_goto dX7_tally_53 rfl ?_
          exact ih (p + 1) (many + 0) (by omega) (by omega) (by rw [ct_f (by simp [h24])]; omega)
        · skip
          refine xq_aload_n dX7_tally_27 rfl rfl ?_
          refine xq_getF clX7 (by decide) rfl fl_RX7_9 dX7_tally_28 (St.s0 ha) (St.r0 ha) ?_
          refine xq_iload dX7_tally_31 rfl ?_
          refine xq_ialdN dX7_tally_33 (St.s1 ha) (by omega) (by decide) (hu.w h12) ?_
          refine xq_iload_n dX7_tally_34 rfl rfl ?_
          refine xq_callSN2P gd_X10_colourIn dX7_tally_35 nl_RX7_96 im_X10_colourIn (by exact Nat.le_of_ble_eq_true rfl) (by decide) (c_colourIn (ok.w h12) hj) ?_
          have h35 := col_lt (uW u p) j
          refine xq_iload_n dX7_tally_38 rfl rfl ?_
          refine xq_icmp_neN dX7_tally_39 rfl (by omega) (by omega) ⟨fun h39 => ?_, fun h39 => ?_⟩
          · skip
            refine xq_iconst dX7_tally_46 ic0 ?_
            refine xq_iaddN dX7_tally_47 ?_
            refine xq_istore dX7_tally_48 rfl ?_
            refine xq_iincN dX7_tally_50 ic1 rfl rfl ?_
            refine xq_goto dX7_tally_53 rfl ?_
            exact ih (p + 1) (many + 0) (by omega) (by omega) (by rw [ct_f (by simp [h24, h39])]; omega)
          · skip
            refine xq_iconst dX7_tally_42 ic1 ?_
            refine xq_goto dX7_tally_43 rfl ?_
            refine xq_iaddN dX7_tally_47 ?_
            refine xq_istore dX7_tally_48 rfl ?_
            refine xq_iincN dX7_tally_50 ic1 rfl rfl ?_
            refine xq_goto dX7_tally_53 rfl ?_
            exact ih (p + 1) (many + 1) (by omega) (by omega) (by rw [ct_t (by simp [h24, h39])]; omega)
  refine vq_ev (vq_intro (by decide) (by exact Nat.le_of_ble_eq_true rfl) rfl ?_)
  refine xq_iconst dX7_tally_0 ic0 ?_
  refine xq_istore dX7_tally_1 rfl ?_
  refine xq_iconst dX7_tally_3 ic0 ?_
  refine xq_istore dX7_tally_4 rfl ?_
  exact lp (uZ u + 1) 0 0 (by omega) (by omega) rfl
theorem c_mostFor (ha : gSt S a) (hu : StP H a u) (ok : StOk u) (hi : i < 6) (hj : j < 6) : Pv mX7_mostFor 3 [.ref a, vN i, vN j] S H (vN (mst u i j)) := by
  have hn := ok.n; have hrl := ok.rl; have hnp := ok.np; have hrw := ok.w hrl
  have lp : ∀ (fz : Nat) (c m : Nat), 3 - c < fz → c ≤ 3 → m = fo (fun c m => max m (tal u i j c)) 0 c → Xq mX7_mostFor 3 0 0 5 [some (.ref a), some (vN i), some (vN j), some (vN m), some (vN c)] [] S H (fun R => R = (some (vN (mst u i j)), S, H)) := by
    intro fz
    induction fz with
    | zero => intro c m hfz; exact absurd hfz (by omega)
    | succ fz ih =>
      intro c m hfz hp hm
      refine xq_iload dX7_mostFor_5 rfl ?_
      refine xq_iconst dX7_mostFor_7 ic3 ?_
      refine xq_icmp_geN dX7_mostFor_8 rfl (by omega) (by omega) ⟨fun h8 => ?_, fun h8 => ?_⟩
      · skip
        refine xq_iload_n dX7_mostFor_30 rfl rfl ?_
        refine xq_iret dX7_mostFor_31 rfl ?_
        show _ = _; rw [hm, show c = 3 by omega]; rfl
      · skip
        refine xq_iload_n dX7_mostFor_11 rfl rfl ?_
        refine xq_aload_n dX7_mostFor_12 rfl rfl ?_
        refine xq_iload_n dX7_mostFor_13 rfl rfl ?_
        refine xq_iload_n dX7_mostFor_14 rfl rfl ?_
        refine xq_iload dX7_mostFor_15 rfl ?_
        refine xq_callV3P clX7 gd_X7_tally dX7_mostFor_17 ml_RX7_100 im_X7_tally se_X7_tally rfl (St.s0 ha) (by exact Nat.le_of_ble_eq_true rfl) (by decide) (c_tally ha hu ok hi hj (by omega)) ?_
        have ht := tal_le u i j c; have hz := mst_le u i j c
        refine xq_mmaxN dX7_mostFor_20 ml_RX7_104 (by exact Nat.le_of_ble_eq_true rfl) (by decide) (by omega) (by omega) ?_
        refine xq_istore_n dX7_mostFor_23 rfl rfl ?_
        refine xq_iincN dX7_mostFor_24 ic1 rfl rfl ?_
        refine xq_goto dX7_mostFor_27 rfl ?_
        exact ih (c + 1) _ (by omega) (by omega) (by rw [hm]; rfl)
  refine vq_ev (vq_intro (by decide) (by exact Nat.le_of_ble_eq_true rfl) rfl ?_)
  refine xq_iconst dX7_mostFor_0 ic0 ?_
  refine xq_istore_n dX7_mostFor_1 rfl rfl ?_
  refine xq_iconst dX7_mostFor_2 ic0 ?_
  refine xq_istore dX7_mostFor_3 rfl ?_
  exact lp 4 0 0 (by omega) (by omega) rfl
theorem c_coloursFor (ha : gSt S a) (hu : StP H a u) (ok : StOk u) (hi : i < 6) (hj : j < 6) : Pv mX7_coloursFor 2 [.ref a, vN i, vN j] S H (vN (cfr u i j)) := by
  have hn := ok.n; have hrl := ok.rl; have hnp := ok.np; have hrw := ok.w hrl
  have lp : ∀ (fz : Nat) (p m : Nat), uZ u - p < fz → p ≤ uZ u → m = fo (fun p b => if alk u i p then b ||| (1 <<< col (uW u p) j) else b) 0 p → Xq mX7_coloursFor 2 0 0 5 [some (.ref a), some (vN i), some (vN j), some (vN m), some (vN p)] [] S H (fun R => R = (some (vN (cfr u i j)), S, H)) := by
    intro fz
    induction fz with
    | zero => intro p m hfz; exact absurd hfz (by omega)
    | succ fz ih =>
      intro p m hfz hp hm
      refine xq_iload dX7_coloursFor_5 rfl ?_
      refine xq_aload_n dX7_coloursFor_7 rfl rfl ?_
      refine xq_getIE clX7 (by decide) rfl fl_RX7_69 dX7_coloursFor_8 (St.s0 ha) hu.sz ?_
      refine xq_icmp_geN dX7_coloursFor_11 rfl (by omega) (by omega) ⟨fun h11 => ?_, fun h11 => ?_⟩
      · skip
        refine xq_iload_n dX7_coloursFor_46 rfl rfl ?_
        refine xq_iret dX7_coloursFor_47 rfl ?_
        show _ = _; rw [hm, show p = uZ u by omega]; rfl
      · skip
        refine xq_aload_n dX7_coloursFor_14 rfl rfl ?_
        refine xq_iload dX7_coloursFor_15 rfl ?_
        refine xq_iload_n dX7_coloursFor_17 rfl rfl ?_
        refine xq_callV2P clX7 gd_X7_isAlike dX7_coloursFor_18 ml_RX7_92 im_X7_isAlike se_X7_isAlike rfl (St.s0 ha) (by exact Nat.le_of_ble_eq_true rfl) (by decide) (c_isAlike ha hu ok h11 hi) ?_
        refine xq_if_eqB dX7_coloursFor_21 rfl ⟨fun h21 => ?_, fun h21 => ?_⟩
        · skip
          refine xq_iincN dX7_coloursFor_40 ic1 rfl rfl ?_
          refine xq_goto dX7_coloursFor_43 rfl ?_
          exact ih (p + 1) _ (by omega) (by omega) (by rw [hm]; simp [fo, h21])
        · skip
          refine xq_iload_n dX7_coloursFor_24 rfl rfl ?_
          refine xq_iconst dX7_coloursFor_25 ic1 ?_
          refine xq_aload_n dX7_coloursFor_26 rfl rfl ?_
          refine xq_getF clX7 (by decide) rfl fl_RX7_9 dX7_coloursFor_27 (St.s0 ha) (St.r0 ha) ?_
          refine xq_iload dX7_coloursFor_30 rfl ?_
          refine xq_ialdN dX7_coloursFor_32 (St.s1 ha) (by omega) (by decide) (hu.w h11) ?_
          refine xq_iload_n dX7_coloursFor_33 rfl rfl ?_
          refine xq_callSN2P gd_X10_colourIn dX7_coloursFor_34 nl_RX7_96 im_X10_colourIn (by exact Nat.le_of_ble_eq_true rfl) (by decide) (c_colourIn (ok.w h11) hj) ?_
          have h34 := col_lt (uW u p) j
          refine xq_ishlN dX7_coloursFor_37 (by omega) ?_
          refine xq_iorN dX7_coloursFor_38 ?_
          refine xq_istore_n dX7_coloursFor_39 rfl rfl ?_
          refine xq_iincN dX7_coloursFor_40 ic1 rfl rfl ?_
          refine xq_goto dX7_coloursFor_43 rfl ?_
          exact ih (p + 1) _ (by omega) (by omega) (by rw [hm]; simp [fo, h21])
  refine vq_ev (vq_intro (by decide) (by exact Nat.le_of_ble_eq_true rfl) rfl ?_)
  refine xq_iconst dX7_coloursFor_0 ic0 ?_
  refine xq_istore_n dX7_coloursFor_1 rfl rfl ?_
  refine xq_iconst dX7_coloursFor_2 ic0 ?_
  refine xq_istore dX7_coloursFor_3 rfl ?_
  exact lp (uZ u + 1) 0 0 (by omega) (by omega) rfl
theorem c_knows (ha : gSt S a) (hu : StP H a u) (ok : StOk u) (hi : i < 6) (hj : j < 6) : Pv mX7_knows 3 [.ref a, vN i, vN j] S H (vB (kn u i j)) := by
  have h1 := cfr_lt u i j; have h2 := pop_le (cfr u i j)
  refine vq_ev (vq_intro (by decide) (by exact Nat.le_of_ble_eq_true rfl) rfl ?_)
  refine xq_aload_n dX7_knows_0 rfl rfl ?_
  refine xq_iload_n dX7_knows_1 rfl rfl ?_
  refine xq_iload_n dX7_knows_2 rfl rfl ?_
  refine xq_callV2P clX7 gd_X7_coloursFor dX7_knows_3 ml_RX7_109 im_X7_coloursFor se_X7_coloursFor rfl (St.s0 ha) (by exact Nat.le_of_ble_eq_true rfl) (by decide) (c_coloursFor ha hu ok hi hj) ?_
  refine xq_callS1P gd_J6_bitCount_0f7a4 dX7_knows_6 ml_RX7_112 im_J6_bitCount_0f7a4 (by exact Nat.le_of_ble_eq_true rfl) (by decide) (c_bitCount (by omega)) ?_
  refine xq_iconst dX7_knows_9 ic1 ?_
  refine xq_icmp_neN dX7_knows_10 rfl (by omega) (by omega) ⟨fun h10 => ?_, fun h10 => ?_⟩
  · skip
    refine xq_iconst dX7_knows_17 ic0 ?_
    refine xq_zret dX7_knows_18 rfl (by decide) ?_
    show _ = _; simp [kn, h10, bI, nI]
  · skip
    refine xq_iconst dX7_knows_13 ic1 ?_
    refine xq_goto dX7_knows_14 rfl ?_
    refine xq_zret dX7_knows_18 rfl (by decide) ?_
    show _ = _; simp [kn, h10, bI, nI]
theorem c_knowers (ha : gSt S a) (hu : StP H a u) (ok : StOk u) : Pv mX7_knowers 4 [.ref a] S H (vN (kns u)) := by
  have hn := ok.n; have hrl := ok.rl; have hnp := ok.np; have hrw := ok.w hrl
  have lp : ∀ (fz : Nat) (i m : Nat), uNp u - i < fz → i ≤ uNp u → m = fo (fun i b => b ||| (if kn u i i then 1 <<< i else 0)) 0 i → Xq mX7_knowers 4 0 0 4 [some (.ref a), some (vN m), some (vN i)] [] S H (fun R => R = (some (vN (kns u)), S, H)) := by
    intro fz
    induction fz with
    | zero => intro i m hfz; exact absurd hfz (by omega)
    | succ fz ih =>
      intro i m hfz hp hm
      refine xq_iload_n dX7_knowers_4 rfl rfl ?_
      refine xq_aload_n dX7_knowers_5 rfl rfl ?_
      refine xq_getIE clX7 (by decide) rfl fl_RX7_36 dX7_knowers_6 (St.s0 ha) hu.f6 ?_
      refine xq_icmp_geN dX7_knowers_9 rfl (by omega) (by omega) ⟨fun h9 => ?_, fun h9 => ?_⟩
      · skip
        refine xq_iload_n dX7_knowers_37 rfl rfl ?_
        refine xq_iret dX7_knowers_38 rfl ?_
        show _ = _; rw [hm, show i = uNp u by omega]; rfl
      · skip
        refine xq_iload_n dX7_knowers_12 rfl rfl ?_
        refine xq_aload_n dX7_knowers_13 rfl rfl ?_
        refine xq_iload_n dX7_knowers_14 rfl rfl ?_
        refine xq_iload_n dX7_knowers_15 rfl rfl ?_
        refine xq_callV2P clX7 gd_X7_knows dX7_knowers_16 ml_RX7_117 im_X7_knows se_X7_knows rfl (St.s0 ha) (by exact Nat.le_of_ble_eq_true rfl) (by decide) (c_knows ha hu ok (by omega) (by omega)) ?_
        refine xq_if_eqB dX7_knowers_19 rfl ⟨fun h19 => ?_, fun h19 => ?_⟩
        · skip
          refine xq_iconst dX7_knowers_28 ic0 ?_
          refine xq_iorN dX7_knowers_29 ?_
          refine xq_istore_n dX7_knowers_30 rfl rfl ?_
          refine xq_iincN dX7_knowers_31 ic1 rfl rfl ?_
          refine xq_goto dX7_knowers_34 rfl ?_
          exact ih (i + 1) _ (by omega) (by omega) (by rw [hm]; simp [fo, h19])
        · skip
          refine xq_iconst dX7_knowers_22 ic1 ?_
          refine xq_iload_n dX7_knowers_23 rfl rfl ?_
          refine xq_ishlN dX7_knowers_24 (by omega) ?_
          refine xq_goto dX7_knowers_25 rfl ?_
          refine xq_iorN dX7_knowers_29 ?_
          refine xq_istore_n dX7_knowers_30 rfl rfl ?_
          refine xq_iincN dX7_knowers_31 ic1 rfl rfl ?_
          refine xq_goto dX7_knowers_34 rfl ?_
          exact ih (i + 1) _ (by omega) (by omega) (by rw [hm]; simp [fo, h19])
  refine vq_ev (vq_intro (by decide) (by exact Nat.le_of_ble_eq_true rfl) rfl ?_)
  refine xq_iconst dX7_knowers_0 ic0 ?_
  refine xq_istore_n dX7_knowers_1 rfl rfl ?_
  refine xq_iconst dX7_knowers_2 ic0 ?_
  refine xq_istore_n dX7_knowers_3 rfl rfl ?_
  exact lp (uNp u + 1) 0 0 (by omega) (by omega) rfl
theorem c_prizesOfAll (ha : gSt S a) (hu : StP H a u) (ok : StOk u) : Pv mX7_prizesOfAll 0 [.ref a] S H (vN (pzs u)) := by
  have hn := ok.n; have hrl := ok.rl; have hnp := ok.np; have hrw := ok.w hrl
  have lp : ∀ (fz : Nat) (i m : Nat), uNp u - i < fz → i ≤ uNp u → m = fo (fun p s => s + uPz u p) 0 i → Xq mX7_prizesOfAll 0 0 0 4 [some (.ref a), some (vN m), some (vN i)] [] S H (fun R => R = (some (vN (pzs u)), S, H)) := by
    intro fz
    induction fz with
    | zero => intro i m hfz; exact absurd hfz (by omega)
    | succ fz ih =>
      intro i m hfz hp hm
      refine xq_iload_n dX7_prizesOfAll_4 rfl rfl ?_
      refine xq_aload_n dX7_prizesOfAll_5 rfl rfl ?_
      refine xq_getIE clX7 (by decide) rfl fl_RX7_36 dX7_prizesOfAll_6 (St.s0 ha) hu.f6 ?_
      refine xq_icmp_geN dX7_prizesOfAll_9 rfl (by omega) (by omega) ⟨fun h9 => ?_, fun h9 => ?_⟩
      · skip
        refine xq_iload_n dX7_prizesOfAll_27 rfl rfl ?_
        refine xq_iret dX7_prizesOfAll_28 rfl ?_
        show _ = _; rw [hm, show i = uNp u by omega]; rfl
      · skip
        refine xq_iload_n dX7_prizesOfAll_12 rfl rfl ?_
        refine xq_aload_n dX7_prizesOfAll_13 rfl rfl ?_
        refine xq_getF clX7 (by decide) rfl fl_RX7_21 dX7_prizesOfAll_14 (St.s0 ha) (St.r3 ha) ?_
        refine xq_iload_n dX7_prizesOfAll_17 rfl rfl ?_
        refine xq_ialdN dX7_prizesOfAll_18 (St.s4 ha) (by omega) (by decide) (hu.pz (by omega)) ?_
        refine xq_iaddN dX7_prizesOfAll_19 ?_
        refine xq_istore_n dX7_prizesOfAll_20 rfl rfl ?_
        refine xq_iincN dX7_prizesOfAll_21 ic1 rfl rfl ?_
        refine xq_goto dX7_prizesOfAll_24 rfl ?_
        exact ih (i + 1) _ (by omega) (by omega) (by rw [hm]; rfl)
  refine vq_ev (vq_intro (by decide) (by exact Nat.le_of_ble_eq_true rfl) rfl ?_)
  refine xq_iconst dX7_prizesOfAll_0 ic0 ?_
  refine xq_istore_n dX7_prizesOfAll_1 rfl rfl ?_
  refine xq_iconst dX7_prizesOfAll_2 ic0 ?_
  refine xq_istore_n dX7_prizesOfAll_3 rfl rfl ?_
  exact lp (uNp u + 1) 0 0 (by omega) (by omega) rfl
end SR
