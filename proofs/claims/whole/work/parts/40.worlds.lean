/-! ===== the reference: worlds, rooms, ranks ===== -/
def nW (T : uTx) : Nat := (wls T).length
def Wd (T : uTx) (w : Nat) : Nat := (wls T).getD w 0
def trW (T : uTx) : Nat := rlS T (wys T)
def cl (T : uTx) (w p : Nat) : Nat := col (Wd T w) p
def sdv (T : uTx) : Nat := if tSd T = 0 then 0 else tSd T - 1
section WD
variable {T : uTx} {w v p q n i j k s : Nat} {lf fb : Nat → Bool} {u : uSt}
theorem Wd_pk (h : w < nW T) : ∃ n, n < wys T ∧ inS T n = true ∧ Wd T w = pk T n := by
  have := getD_mem (l := wls T) h
  simp only [wls, gl, List.mem_map, List.mem_filter, List.mem_range] at this
  obtain ⟨n, ⟨h1, h2⟩, h3⟩ := this
  exact ⟨n, h1, h2, h3.symm⟩
theorem col_or (a b q : Nat) : col (a ||| b) q = col a q ||| col b q := by
  unfold col
  rw [Nat.shiftRight_or_distrib, Nat.and_or_distrib_right]
theorem col_sh {d p q : Nat} (hd : d < 4) (hp : p < 6) (hq : q < 6) : col (d <<< (10 - 2 * q)) p = if p = q then d else 0 := by
  have : ∀ (d : Fin 4) (p q : Fin 6), col (d.val <<< (10 - 2 * q.val)) p.val = if p.val = q.val then d.val else 0 := by decide +kernel
  exact this ⟨d, hd⟩ ⟨p, hp⟩ ⟨q, hq⟩
theorem col_pw (h3 : tNc T ≤ 3) (h0 : 0 < tNc T) (h6 : tNp T ≤ 6) (hp : p < 6) : ∀ j, j ≤ tNp T → col (pwS T n j) p = if tNp T - j ≤ p ∧ p < tNp T then dgt T n (tNp T - 1 - p) else 0
  | 0, _ => by
    rw [if_neg (by omega)]
    show col 0 p = 0
    simp [col]
  | j + 1, hj => by
    have ih := col_pw h3 h0 h6 hp j (by omega)
    have hd := dgt_lt h0 n j
    show col (pwS T n j ||| dgt T n j <<< (10 - 2 * (tNp T - 1 - j))) p = _
    rw [col_or, ih, col_sh (by omega) hp (by omega)]
    by_cases e : p = tNp T - 1 - j
    · rw [if_neg (by omega), if_pos e, if_pos (by omega)]
      have e2 : j = tNp T - 1 - p := by omega
      rw [← e2]; simp
    · rw [if_neg e, Nat.or_zero]
      exact ite_c (by omega)
theorem col_pk (h3 : tNc T ≤ 3) (h0 : tNp T = 0 ∨ 0 < tNc T) (h6 : tNp T ≤ 6) (hp : p < 6) : col (pk T n) p = if p < tNp T then dgt T n (tNp T - 1 - p) else 0 := by
  rcases h0 with e | e
  · rw [if_neg (by omega)]
    unfold pk
    rw [e]
    show col 0 p = 0
    simp [col]
  · have := col_pw h3 e h6 hp (n := n) (tNp T) (Nat.le_refl _)
    rw [show pk T n = pwS T n (tNp T) from rfl, this]
    exact ite_c (by omega)
/-- what is asked of a text, so that its worlds are as they should be -/
def TwOk (T : uTx) : Prop := tNc T ≤ 3 ∧ tNp T ≤ 6 ∧ (tNp T = 0 ∨ 0 < tNc T)
theorem cl_lt (h : TwOk T) (hw : w < nW T) (hp : p < tNp T) : cl T w p < tNc T := by
  obtain ⟨h3, h6, h0⟩ := h
  obtain ⟨n, _, _, e⟩ := Wd_pk hw
  unfold cl
  rw [e, col_pk h3 h0 h6 (by omega), if_pos hp]
  exact dgt_lt (by omega) _ _
theorem cl_0 (h : TwOk T) (hw : w < nW T) (hp : tNp T ≤ p) (hp6 : p < 6) : cl T w p = 0 := by
  obtain ⟨h3, h6, h0⟩ := h
  obtain ⟨n, _, _, e⟩ := Wd_pk hw
  unfold cl
  rw [e, col_pk h3 h0 h6 (by omega), if_neg (by omega)]
theorem cl_3 (h : TwOk T) (hw : w < nW T) (hp : p < 6) : cl T w p < 3 := by
  by_cases e : p < tNp T
  · have := cl_lt h hw e; have := h.1; omega
  · rw [cl_0 h hw (by omega) hp]; decide
theorem Wd_lt (h : TwOk T) (hw : w < nW T) : Wd T w < 4096 := by
  obtain ⟨n, _, _, e⟩ := Wd_pk hw
  rw [e]
  exact pkw_lt h.1 h.2.1 h.2.2 n
theorem nW_le (h : TwOk T) : nW T ≤ 729 := by
  have h1 := wys_le h.1 h.2.1
  have h2 : nW T = ct (inS T) (wys T) := gl_len _ _ _
  have h3 := ct_le (inS T) (wys T)
  omega
theorem col_tb (W q i : Nat) : (col W q).testBit i = (decide (i < 2) && W.testBit (10 - 2 * q + i)) := by
  unfold col
  rw [Nat.testBit_and, Nat.testBit_shiftRight, Bool.and_comm]
  congr 1
  match i with
  | 0 => rfl
  | 1 => rfl
  | i + 2 => rw [decide_eq_false (by omega)]; exact Nat.testBit_lt_two_pow (Nat.lt_of_lt_of_le (by decide : 3 < 2 ^ 2) (Nat.pow_le_pow_right (by decide) (by omega)))
theorem col_eq {W W2 : Nat} : col W q = col W2 q ↔ W.testBit (10 - 2 * q) = W2.testBit (10 - 2 * q) ∧ W.testBit (10 - 2 * q + 1) = W2.testBit (10 - 2 * q + 1) := by
  constructor
  · intro h
    have e0 := congrArg (fun x => x.testBit 0) h
    have e1 := congrArg (fun x => x.testBit 1) h
    simp only [col_tb] at e0 e1
    exact ⟨by simpa using e0, by simpa using e1⟩
  · rintro ⟨h0, h1⟩
    apply Nat.eq_of_testBit_eq
    intro i
    rw [col_tb, col_tb]
    match i with
    | 0 => simpa using h0
    | 1 => simpa using h1
    | i + 2 => rw [decide_eq_false (by omega)]; rfl
theorem vm_tb {s i : Nat} (hs : s < 64) (hi : i < 12) : (vm s).testBit i = s.testBit (5 - i / 2) := by
  have : ∀ (s : Fin 64) (i : Fin 12), (vm s.val).testBit i.val = s.val.testBit (5 - i.val / 2) := by decide +kernel
  exact this ⟨s, hs⟩ ⟨i, hi⟩
theorem ake_col {W W2 : Nat} (hs : s < 64) : ake (vm s) W W2 = true ↔ ∀ q, q < 6 → s.testBit q = true → col W q = col W2 q := by
  have hv := vm_lt hs
  unfold ake
  rw [beq_iff_eq]
  constructor
  · intro h q hq hb
    have g : ∀ i, i < 12 → 5 - i / 2 = q → W.testBit i = W2.testBit i := by
      intro i hi e
      have := congrArg (fun x => x.testBit i) h
      simp only [Nat.testBit_and, vm_tb hs hi, e, hb, Bool.and_true] at this
      exact this
    exact col_eq.mpr ⟨g _ (by omega) (by omega), g _ (by omega) (by omega)⟩
  · intro h
    apply Nat.eq_of_testBit_eq
    intro i
    rw [Nat.testBit_and, Nat.testBit_and]
    by_cases hi : i < 12
    · rw [vm_tb hs hi]
      cases hb : s.testBit (5 - i / 2)
      · simp
      · have := col_eq.mp (h _ (by omega) hb)
        rcases (by omega : i = 10 - 2 * (5 - i / 2) ∨ i = 10 - 2 * (5 - i / 2) + 1) with e | e
        · rw [← e] at this; rw [this.1]
        · rw [← e] at this; rw [this.2]
    · rw [Nat.testBit_lt_two_pow (x := vm s) (Nat.lt_of_lt_of_le hv (show 4096 ≤ 2 ^ i from Nat.pow_le_pow_right (show 2 > 0 by decide) (show 12 ≤ i by omega)))]
      simp
def sgF (c : Nat → Nat) (s n : Nat) : Nat := fo (fun q x => if s.testBit q then 3 * x + c q else x) 0 n
theorem sgF_s (c : Nat → Nat) (s n : Nat) : sgF c s (n + 1) = if s.testBit n then 3 * sgF c s n + c n else sgF c s n := rfl
theorem sgF_lt {c : Nat → Nat} : ∀ {n : Nat}, (∀ q, q < n → c q < 3) → sgF c s n < 3 ^ n
  | 0, _ => by show 0 < 1; omega
  | n + 1, h => by
    have ih := sgF_lt (n := n) (fun q hq => h q (by omega))
    have := h n (by omega)
    rw [sgF_s, Nat.pow_succ]
    split <;> omega
theorem sgF_inj {c d : Nat → Nat} : ∀ {n : Nat}, (∀ q, q < n → c q < 3 ∧ d q < 3) → (sgF c s n = sgF d s n ↔ ∀ q, q < n → s.testBit q = true → c q = d q)
  | 0, _ => ⟨fun _ q hq => absurd hq (by omega), fun _ => rfl⟩
  | n + 1, h => by
    have ih := sgF_inj (n := n) (fun q hq => h q (by omega))
    have hn := h n (by omega)
    rw [sgF_s, sgF_s]
    by_cases hb : s.testBit n = true
    · rw [if_pos hb, if_pos hb]
      constructor
      · intro e q hq hq2
        by_cases e2 : q = n
        · subst e2; omega
        · exact ih.mp (by omega) q (by omega) hq2
      · intro g
        have := ih.mpr (fun q hq hq2 => g q (by omega) hq2)
        have := g n (by omega) hb
        omega
    · rw [if_neg hb, if_neg hb, ih]
      constructor
      · intro g q hq hq2
        have : q ≠ n := fun e => hb (e ▸ hq2)
        exact g q (by omega) hq2
      · intro g q hq hq2; exact g q (by omega) hq2
def sgt (T : uTx) (s w : Nat) : Nat := sgF (cl T w) s (tNp T)
theorem sgt_lt (h : TwOk T) (hw : w < nW T) : sgt T s w < 729 := by
  have := sgF_lt (s := s) (c := cl T w) (n := tNp T) (fun q hq => cl_3 h hw (by have := h.2.1; omega))
  exact Nat.lt_of_lt_of_le this (Nat.pow_le_pow_right (by decide) h.2.1 : 3 ^ tNp T ≤ 3 ^ 6)
theorem sgt_eq (h : TwOk T) (hs : s < 64) (hw : w < nW T) (hv : v < nW T) : sgt T s w = sgt T s v ↔ ake (vm s) (Wd T w) (Wd T v) = true := by
  have h6 := h.2.1
  rw [ake_col hs, sgt, sgt, sgF_inj (fun q hq => ⟨cl_3 h hw (by omega), cl_3 h hv (by omega)⟩)]
  constructor
  · intro g q hq hb
    by_cases e : q < tNp T
    · exact g q e hb
    · exact (cl_0 h hw (by omega) hq).trans (cl_0 h hv (by omega) hq).symm
  · intro g q hq hb; exact g q (by omega) hb
theorem ct_kth : ∀ {n : Nat}, k < ct lf n → ∃ i, i < n ∧ lf i = true ∧ ct lf i = k
  | 0, h => absurd h (by show ¬ k < 0; omega)
  | n + 1, h => by
    by_cases hl : lf n = true
    · rw [ct_t hl] at h
      by_cases e : k = ct lf n
      · exact ⟨n, by omega, hl, e.symm⟩
      · obtain ⟨i, h1, h2, h3⟩ := ct_kth (n := n) (by omega)
        exact ⟨i, by omega, h2, h3⟩
    · rw [ct_f (Bool.not_eq_true _ ▸ hl)] at h
      obtain ⟨i, h1, h2, h3⟩ := ct_kth (n := n) h
      exact ⟨i, by omega, h2, h3⟩
theorem ct_inj (hw : lf w = true) (hv : lf v = true) (e : ct lf w = ct lf v) : w = v := by
  rcases Nat.lt_trichotomy w v with h | h | h
  · have := ct_lt h hw; omega
  · exact h
  · have := ct_lt h hv; omega
theorem gl_at {g : Nat → Nat} : ∀ {n : Nat}, w < n → lf w = true → (gl lf g n).getD (ct lf w) 0 = g w
  | n + 1, h, hw => by
    have hlen := gl_len lf g n
    by_cases hl : lf n = true
    · rw [gl_t hl]
      by_cases e : w = n
      · subst e
        rw [← hlen]
        simp
      · have h2 := ct_lt (fb := lf) (p := w) (n := n) (by omega) hw
        have ih := gl_at (g := g) (n := n) (by omega) hw
        rw [← ih]
        simp only [List.getD_eq_getElem?_getD]
        rw [List.getElem?_append_left (by omega)]
    · rw [gl_f (Bool.not_eq_true _ ▸ hl)]
      have : w ≠ n := fun e => hl (e ▸ hw)
      exact gl_at (by omega) hw
/-- the worlds left, as the reference says them and as a State does -/
def LfR (T : uTx) (lf : Nat → Bool) (u : uSt) : Prop := uLf u = gl lf (Wd T) (nW T) ∧ trW T < nW T ∧ lf (trW T) = true ∧ uRl u = ct lf (trW T) ∧ uNp u = tNp T
theorem LfR.z (h : LfR T lf u) : uZ u = ct lf (nW T) := by
  show (uLf u).length = _
  rw [h.1]; exact gl_len _ _ _
theorem LfR.lt (h : LfR T lf u) (hw : w < nW T) (hl : lf w = true) : ct lf w < uZ u := by rw [h.z]; exact ct_lt hw hl
theorem LfR.wd (h : LfR T lf u) (hw : w < nW T) (hl : lf w = true) : uW u (ct lf w) = Wd T w := by
  unfold uW
  rw [h.1]
  exact gl_at hw hl
theorem LfR.un (h : LfR T lf u) (hp : p < uZ u) : ∃ w, w < nW T ∧ lf w = true ∧ ct lf w = p := ct_kth (by rw [← h.z]; exact hp)
theorem LfR.rw_ (h : LfR T lf u) : uW u (uRl u) = Wd T (trW T) := by rw [h.2.2.2.1]; exact h.wd h.2.1 h.2.2.1
theorem LfR.ak (h : LfR T lf u) (hw : w < nW T) (hl : lf w = true) (i : Nat) : alk u i (ct lf w) = ake (vm (uSe u i)) (Wd T w) (Wd T (trW T)) := by
  unfold alk
  rw [h.wd hw hl, h.rw_]
theorem LfR.sg (h : LfR T lf u) (t : TwOk T) (hs : uSe u i < 64) (hw : w < nW T) (hl : lf w = true) : alk u i (ct lf w) = decide (sgt T (uSe u i) w = sgt T (uSe u i) (trW T)) := by
  rw [h.ak hw hl, Bool.eq_iff_iff, decide_eq_true_eq]
  exact (sgt_eq t hs hw h.2.1).symm
theorem LfR.kk (h : LfR T lf u) (t : TwOk T) (hs : uSe u i < 64) (hw : w < nW T) (hl : lf w = true) (hv : v < nW T) (hlv : lf v = true) : ky u i (ct lf w) = ky u i (ct lf v) ↔ sgt T (uSe u i) w = sgt T (uSe u i) v := by
  rw [sgt_eq t hs hw hv]
  unfold ky
  rw [h.wd hw hl, h.wd hv hlv]
  have g : ∀ x, x &&& vm (uSe u i) &&& 4095 = x &&& vm (uSe u i) := fun x => by
    have := vm_lt hs
    rw [show 4095 = 2 ^ 12 - 1 from rfl, Nat.and_two_pow_sub_one_eq_mod]
    exact Nat.mod_eq_of_lt (Nat.lt_of_le_of_lt Nat.and_le_right this)
  rw [g, g]
  simp [ake]
/-- a fold over the worlds left is one over their places -/
theorem fo_rank {α : Type} {f : Nat → α → α} {g : Nat → α → α} {x : α} : ∀ {n : Nat}, (∀ w, w < n → lf w = true → ∀ y, g w y = f (ct lf w) y) → (∀ w, w < n → lf w = false → ∀ y, g w y = y) → fo g x n = fo f x (ct lf n)
  | 0, _, _ => rfl
  | n + 1, h1, h2 => by
    have ih := fo_rank (x := x) (n := n) (fun w hw => h1 w (by omega)) (fun w hw => h2 w (by omega))
    show g n (fo g x n) = _
    cases hl : lf n
    · rw [ct_f hl, h2 n (by omega) hl, ih]
    · rw [ct_t hl, h1 n (by omega) hl, ih]; rfl
theorem ct_fo (fb : Nat → Bool) : ∀ n, ct fb n = fo (fun p m => m + (if fb p then 1 else 0)) 0 n
  | 0 => rfl
  | n + 1 => by
    show ct fb n + _ = fo _ 0 n + _
    rw [ct_fo fb n]
theorem ct_rank {f g : Nat → Bool} {n : Nat} (h : ∀ w, w < n → g w = (lf w && f (ct lf w))) : ct g n = ct f (ct lf n) := by
  rw [ct_fo, ct_fo]
  refine fo_rank (fun w hw hl y => ?_) (fun w hw hl y => ?_)
  · rw [h w hw, hl]; rfl
  · rw [h w hw, hl]; rfl
theorem ex_rank {f g : Nat → Bool} {n : Nat} (h : ∀ w, w < n → g w = (lf w && f (ct lf w))) : ex g n = ex f (ct lf n) := by
  refine fo_rank (fun w hw hl y => ?_) (fun w hw hl y => ?_)
  · show (y || g w) = (y || f _); rw [h w hw, hl]; rfl
  · show (y || g w) = y; rw [h w hw, hl]; simp
theorem bI_and (a b : Bool) : bI a &&& bI b = bI (a && b) := by cases a <;> cases b <;> decide +kernel
theorem bI_or (a b : Bool) : bI a ||| bI b = bI (a || b) := by cases a <;> cases b <;> decide +kernel
theorem bI_nat (b : Bool) : bI b = nI b.toNat := by cases b <;> rfl
theorem one_bit {x : Nat} (hx : x < 16) (h0 : x ≠ 0) : ((x &&& (x - 1)) == 0) = (pop x == 1) ∧ ((pop x == 1) = true ↔ ∀ i j, i < 4 → j < 4 → x.testBit i = true → x.testBit j = true → i = j) := by
  have : ∀ x : Fin 16, x.val ≠ 0 → ((x.val &&& (x.val - 1)) == 0) = (pop x.val == 1) ∧ ((pop x.val == 1) = true ↔ ∀ (i j : Fin 4), x.val.testBit i.val = true → x.val.testBit j.val = true → i = j) := by decide +kernel
  obtain ⟨a, b⟩ := this ⟨x, hx⟩ h0
  refine ⟨a, b.trans ⟨fun h i j hi hj h1 h2 => congrArg Fin.val (h ⟨i, hi⟩ ⟨j, hj⟩ h1 h2), fun h i j h1 h2 => Fin.ext (h i.val j.val i.isLt j.isLt h1 h2)⟩⟩
theorem fo_or_tb {c : Nat → Nat} {fb : Nat → Bool} (i : Nat) : ∀ n, (fo (fun p b => if fb p then b ||| (1 <<< c p) else b) 0 n).testBit i = true ↔ ∃ p, p < n ∧ fb p = true ∧ c p = i
  | 0 => ⟨fun h => by simp [fo] at h, fun ⟨p, hp, _⟩ => absurd hp (by omega)⟩
  | n + 1 => by
    have ih := fo_or_tb (c := c) (fb := fb) i n
    show (if fb n then _ else _ : Nat).testBit i = true ↔ _
    cases hb : fb n
    · rw [if_neg (by decide), ih]
      exact ⟨fun ⟨p, h1, h2⟩ => ⟨p, by omega, h2⟩, fun ⟨p, h1, h2, h3⟩ => ⟨p, by
        have : p ≠ n := fun e => by rw [e, hb] at h2; cases h2
        omega, h2, h3⟩⟩
    · rw [if_pos rfl, Nat.testBit_or, Bool.or_eq_true, ih, Nat.one_shiftLeft, Nat.testBit_two_pow]
      constructor
      · rintro (⟨p, h1, h2⟩ | h)
        · exact ⟨p, by omega, h2⟩
        · exact ⟨n, by omega, hb, of_decide_eq_true h⟩
      · rintro ⟨p, h1, h2, h3⟩
        by_cases e : p = n
        · right; subst e; exact decide_eq_true h3
        · left; exact ⟨p, by omega, h2, h3⟩
theorem acc_tb (u : uSt) (i key c n : Nat) : (acc u i key n).testBit c = true ↔ ∃ p, p < n ∧ ky u i p = key ∧ col (uW u p) i = c := by
  have := fo_or_tb (c := fun p => col (uW u p) i) (fb := fun p => decide (ky u i p = key)) c n
  simp only [decide_eq_true_eq] at this
  exact this
theorem cfr_tb (u : uSt) (i j c : Nat) : (cfr u i j).testBit c = true ↔ ∃ p, p < uZ u ∧ alk u i p = true ∧ col (uW u p) j = c := fo_or_tb (c := fun p => col (uW u p) j) (fb := fun p => alk u i p) c (uZ u)
theorem own_iff {p : Nat} (hp : p < uZ u) : own u i p = true ↔ ∀ q r, q < uZ u → r < uZ u → ky u i q = ky u i p → ky u i r = ky u i p → col (uW u q) i = col (uW u r) i := by
  have h0 := acc_ne (u := u) (i := i) hp
  have := one_bit (acc_lt u i (ky u i p) (uZ u)) h0
  unfold own
  rw [this.1, this.2]
  constructor
  · intro h q r hq hr e1 e2
    exact h _ _ (col_lt _ _) (col_lt _ _) ((acc_tb _ _ _ _ _).mpr ⟨q, hq, e1, rfl⟩) ((acc_tb _ _ _ _ _).mpr ⟨r, hr, e2, rfl⟩)
  · intro h a b _ _ h1 h2
    obtain ⟨q, a1, a2, a3⟩ := (acc_tb _ _ _ _ _).mp h1
    obtain ⟨r, b1, b2, b3⟩ := (acc_tb _ _ _ _ _).mp h2
    rw [← a3, ← b3]
    exact h q r a1 b1 a2 b2
theorem kn_iff {j : Nat} (hr : uRl u < uZ u) : kn u i j = true ↔ ∀ q r, q < uZ u → r < uZ u → alk u i q = true → alk u i r = true → col (uW u q) j = col (uW u r) j := by
  have hm : alk u i (uRl u) = true := by simp [alk, ake]
  have h0 : cfr u i j ≠ 0 := fun e => by
    have := (cfr_tb u i j (col (uW u (uRl u)) j)).mpr ⟨_, hr, hm, rfl⟩
    rw [e] at this; simp at this
  have := one_bit (cfr_lt u i j) h0
  unfold kn
  rw [this.2]
  constructor
  · intro h q r hq hr e1 e2
    exact h _ _ (col_lt _ _) (col_lt _ _) ((cfr_tb _ _ _ _).mpr ⟨q, hq, e1, rfl⟩) ((cfr_tb _ _ _ _).mpr ⟨r, hr, e2, rfl⟩)
  · intro h a b _ _ h1 h2
    obtain ⟨q, a1, a2, a3⟩ := (cfr_tb _ _ _ _).mp h1
    obtain ⟨r, b1, b2, b3⟩ := (cfr_tb _ _ _ _).mp h2
    rw [← a3, ← b3]
    exact h q r a1 b1 a2 b2
theorem own_kn (h : LfR T lf u) (t : TwOk T) (hs : uSe u i < 64) : own u i (uRl u) = kn u i i := by
  have hr : uRl u < uZ u := by rw [h.2.2.2.1]; exact h.lt h.2.1 h.2.2.1
  have g : ∀ q, q < uZ u → (ky u i q = ky u i (uRl u) ↔ alk u i q = true) := by
    intro q hq
    obtain ⟨w, h1, h2, h3⟩ := h.un hq
    rw [← h3, h.2.2.2.1, h.kk t hs h1 h2 h.2.1 h.2.2.1, h.sg t hs h1 h2, decide_eq_true_eq]
  rw [Bool.eq_iff_iff, own_iff hr, kn_iff hr]
  exact ⟨fun k q r hq hr e1 e2 => k q r hq hr ((g q hq).mpr e1) ((g r hr).mpr e2), fun k q r hq hr e1 e2 => k q r hq hr ((g q hq).mp e1) ((g r hr).mp e2)⟩
end WD
