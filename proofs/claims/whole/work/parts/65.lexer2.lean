/-! ===== the tokens of a whole text ===== -/
section LY
variable {b f g : Nat → Nat} {n p q i j k m w lt : Nat} {s : uTk}
theorem LI_0 (lt : Nat) : LI b 0 (s00 lt) := ⟨fun _ q hq => absurd hq (by omega), fun z => absurd z (by show ¬ 0 < 0; omega), fun j hj => absurd hj (by show ¬ j < 0; omega), fun j hj => absurd hj (by show ¬ j + 1 < 0; omega), fun z => absurd z (by show ¬ 0 < 0; omega), fun z => absurd z (by show ¬ 0 < 0; omega)⟩
theorem LI_all (lt : Nat) : ∀ i, LI b i (scS b (s00 lt) i)
  | 0 => LI_0 lt
  | i + 1 => LI_st (LI_all lt i)
def skp (b : Nat → Nat) (n p : Nat) : Nat := wnd isW b n p
/-- the kind with its word -/
def fiK (b : Nat → Nat) (n p : Nat) : Nat := if opK b n p = 39 then nmk (opV b n p) 28 else opK b n p
/-- tokens one behind another -/
def LexQ (b : Nat → Nat) (n : Nat) (s : uTk) : Prop :=
  0 < kSz s ∧ kPl s 0 = skp b n 0 ∧ (∀ j, j + 1 < kSz s → kPl s j < n ∧ kPl s (j + 1) = skp b n (opE b n (kPl s j)) ∧ kKd s j = fiK b n (kPl s j) ∧ kVl s j = opV b n (kPl s j)) ∧ kPl s (kSz s - 1) = n ∧ kKd s (kSz s - 1) = 44
theorem lex_all (lt n : Nat) : LexQ b n (scF b lt n) := by
  have h := LI_all (b := b) lt n
  have z : kSz (scF b lt n) = kSz (scS b (s00 lt) n) + 1 := rfl
  have pl : ∀ j, kPl (scF b lt n) j = if j = kSz (scS b (s00 lt) n) then n else kPl (scS b (s00 lt) n) j := fun j => rfl
  have kd : ∀ j, kKd (scF b lt n) j = if (if j = kSz (scS b (s00 lt) n) then 44 else kKd (scS b (s00 lt) n) j) = 39 then (if j < kSz (scS b (s00 lt) n) + 1 then nmk (if j = kSz (scS b (s00 lt) n) then 0 else kVl (scS b (s00 lt) n) j) 28 else if j = kSz (scS b (s00 lt) n) + 1 then nmk (if j = kSz (scS b (s00 lt) n) then 0 else kVl (scS b (s00 lt) n) j) 0 else (if j = kSz (scS b (s00 lt) n) then 44 else kKd (scS b (s00 lt) n) j)) else (if j = kSz (scS b (s00 lt) n) then 44 else kKd (scS b (s00 lt) n) j) := fun j => rfl
  have vl : ∀ j, kVl (scF b lt n) j = if j = kSz (scS b (s00 lt) n) then 0 else kVl (scS b (s00 lt) n) j := fun j => rfl
  generalize hs : scS b (s00 lt) n = s at h z pl kd vl
  generalize scF b lt n = t at z pl kd vl
  refine ⟨by omega, ?_, fun j hj => ?_, ?_, ?_⟩
  · rw [pl]
    by_cases e : 0 = kSz s
    · rw [if_pos e]
      refine Eq.symm (wnd_of (Nat.zero_le _) (Nat.le_refl _) (fun k _ h2 => h.1 e.symm k h2) (fun z => absurd z (by omega)))
    · rw [if_neg e]
      obtain ⟨a1, a2, -⟩ := h.2.2.1 0 (by omega)
      exact Eq.symm (wnd_of (Nat.zero_le _) (by omega) (fun k _ h2 => h.2.1 (by omega) k h2) (fun _ => a2))
  · obtain ⟨a1, a2, a3, a4⟩ := h.2.2.1 j (by omega)
    have ej : ¬ j = kSz s := by omega
    refine ⟨by rw [pl, if_neg ej]; exact a1, ?_, ?_, by rw [vl, pl, if_neg ej, if_neg ej]; exact a4⟩
    · rw [pl, pl, if_neg ej]
      have hle := opE_le (b := b) a1
      by_cases e : j + 1 = kSz s
      · rw [if_pos e]
        have hb := h.2.2.2.2.1 (by omega)
        rw [show kSz s - 1 = j by omega] at hb
        exact Eq.symm (wnd_of hle (Nat.le_refl _) hb (fun z => absurd z (by omega)))
      · rw [if_neg e]
        obtain ⟨c1, c2⟩ := h.2.2.2.1 j (by omega)
        obtain ⟨d1, d2, -⟩ := h.2.2.1 (j + 1) (by omega)
        exact Eq.symm (wnd_of c1 (by omega) c2 (fun _ => d2))
    · rw [kd, pl]
      simp only [if_neg ej]
      rw [a3, a4, if_pos (show j < kSz s + 1 by omega)]
      rfl
  · rw [z, Nat.add_sub_cancel, pl, if_pos rfl]
  · rw [z, Nat.add_sub_cancel, kd, if_pos rfl, if_neg (by decide)]
/-- letters as one number -/
def uU (f : Nat → Nat) : Nat → Nat
  | 0 => 0
  | m + 1 => uU f m * 32 + (f m - 96)
theorem pkL_U : ∀ m, m ≤ 6 → (∀ i, i < m → 97 ≤ b (p + i) ∧ b (p + i) ≤ 122) → pkL b p m = uU (fun i => b (p + i)) m * 2 ^ (30 - 5 * m)
  | 0, _, _ => by show 0 = 0 * _; rw [Nat.zero_mul]
  | m + 1, h, hc => by
    have ih := pkL_U m (by omega) (fun i hi => hc i (by omega))
    have hx := hc m (by omega)
    show (if m + 1 ≤ 6 then pkL b p m ||| (b (p + m) - 96) <<< (30 - 5 * (m + 1)) else pkL b p m) = (uU (fun i => b (p + i)) m * 32 + (b (p + m) - 96)) * 2 ^ (30 - 5 * (m + 1))
    rw [if_pos h, ih, Nat.shiftLeft_eq]
    have e : 30 - 5 * m = (30 - 5 * (m + 1)) + 5 := by omega
    have hlt : (b (p + m) - 96) * 2 ^ (30 - 5 * (m + 1)) < 2 ^ (30 - 5 * m) := by
      rw [e, Nat.pow_add, Nat.mul_comm]
      exact Nat.mul_lt_mul_of_pos_left (by omega) (Nat.two_pow_pos _)
    rw [Nat.mul_comm (uU (fun i => b (p + i)) m), ← Nat.two_pow_add_eq_or_of_lt hlt, Nat.add_mul, Nat.mul_assoc, Nat.mul_comm (2 ^ (30 - 5 * m))]
    congr 1
    rw [e, Nat.pow_add, Nat.mul_comm 32]
theorem uU_inj : ∀ m k, (∀ i, i < m → 97 ≤ f i ∧ f i ≤ 122) → (∀ i, i < k → 97 ≤ g i ∧ g i ≤ 122) → (uU f m = uU g k ↔ m = k ∧ ∀ i, i < m → f i = g i)
  | 0, 0, _, _ => ⟨fun _ => ⟨rfl, fun i hi => absurd hi (by omega)⟩, fun _ => rfl⟩
  | 0, k + 1, _, hg => by
    have := hg k (by omega)
    constructor
    · intro e
      have e : 0 = uU g k * 32 + (g k - 96) := e
      omega
    · intro e; omega
  | m + 1, 0, hf, _ => by
    have := hf m (by omega)
    constructor
    · intro e
      have e : uU f m * 32 + (f m - 96) = 0 := e
      omega
    · intro e; omega
  | m + 1, k + 1, hf, hg => by
    have h1 := hf m (by omega)
    have h2 := hg k (by omega)
    have ih := uU_inj m k (fun i hi => hf i (by omega)) (fun i hi => hg i (by omega))
    have e0 : uU f (m + 1) = uU f m * 32 + (f m - 96) := rfl
    have e1 : uU g (k + 1) = uU g k * 32 + (g k - 96) := rfl
    rw [e0, e1]
    constructor
    · intro e
      have a : uU f m = uU g k := by omega
      have c : f m = g k := by omega
      obtain ⟨x, y⟩ := ih.mp a
      refine ⟨by omega, fun i hi => ?_⟩
      by_cases z : i = m
      · subst z; rw [c, x]
      · exact y i (by omega)
    · rintro ⟨x, y⟩
      have x : m = k := by omega
      have a := ih.mpr ⟨x, fun i hi => y i (by omega)⟩
      have c := y m (by omega)
      rw [a, c, x]
theorem uU_sh (h : m ≤ 6) (hk : k ≤ 6) (hf : ∀ i, i < m → 97 ≤ f i ∧ f i ≤ 122) (hg : ∀ i, i < k → 97 ≤ g i ∧ g i ≤ 122) : uU f m * 2 ^ (30 - 5 * m) = uU g k * 2 ^ (30 - 5 * k) ↔ m = k ∧ ∀ i, i < m → f i = g i := by
  -- both written with six letters; zeros behind
  have key : ∀ (f g : Nat → Nat) (m d : Nat), m + d ≤ 6 → 0 < d → (∀ i, i < m + d → 97 ≤ g i ∧ g i ≤ 122) → ¬ uU f m * 2 ^ (30 - 5 * m) = uU g (m + d) * 2 ^ (30 - 5 * (m + d)) := fun f g m d h1 h2 h3 e => by
    have hx := h3 (m + d - 1) (by omega)
    have e1 : uU g (m + d) = uU g (m + d - 1) * 32 + (g (m + d - 1) - 96) := by
      have : m + d = (m + d - 1) + 1 := by omega
      rw [this]; rfl
    have e2 : 30 - 5 * m = 5 + (5 * (d - 1)) + (30 - 5 * (m + d)) := by omega
    rw [e2, Nat.pow_add, ← Nat.mul_assoc] at e
    have e3 := Nat.eq_of_mul_eq_mul_right (Nat.two_pow_pos _) e
    rw [Nat.pow_add, ← Nat.mul_assoc, Nat.mul_comm (uU f m), Nat.mul_assoc, e1] at e3
    have : (2 : Nat) ^ 5 = 32 := rfl
    rw [this] at e3
    omega
  constructor
  · intro e
    have hmk : m = k := by
      rcases Nat.lt_trichotomy m k with z | z | z
      · exfalso
        obtain ⟨d, rfl⟩ : ∃ d, k = m + d := ⟨k - m, by omega⟩
        exact key f g m d hk (by omega) hg e
      · exact z
      · exfalso
        obtain ⟨d, rfl⟩ : ∃ d, m = k + d := ⟨m - k, by omega⟩
        exact key g f k d h (by omega) hf e.symm
    subst hmk
    exact (uU_inj m m hf hg).mp (Nat.eq_of_mul_eq_mul_right (Nat.two_pow_pos _) e)
  · rintro ⟨x, y⟩
    subst x
    rw [(uU_inj m m hf hg).mpr ⟨rfl, y⟩]
/-- where the words stand in their text -/
def wofL : List Nat := [0, 7, 14, 19, 24, 29, 33, 37, 42, 46, 52, 57, 60, 64, 68, 72, 76, 82, 86, 93, 98, 101, 106, 111, 116, 121, 126, 131, 137]
def wof (w : Nat) : Nat := wofL.getD w 0
def wln (w : Nat) : Nat := wof (w + 1) - wof w - 1
theorem wof_ok : ∀ w, w < 28 → wof w + wln w + 1 = wof (w + 1) ∧ wof (w + 1) ≤ 137 ∧ wln w ≤ 6 ∧ tch (wof w + wln w) = 32 ∧ (∀ i, i < wln w → 97 ≤ tch (wof w + i) ∧ tch (wof w + i) ≤ 122) ∧ uU (fun i => tch (wof w + i)) (wln w) * 2 ^ (30 - 5 * wln w) = wdv w := by
  have : ∀ w : Fin 28, wof w.val + wln w.val + 1 = wof (w.val + 1) ∧ wof (w.val + 1) ≤ 137 ∧ wln w.val ≤ 6 ∧ tch (wof w.val + wln w.val) = 32 ∧ (∀ i : Fin 6, i.val < wln w.val → 97 ≤ tch (wof w.val + i.val) ∧ tch (wof w.val + i.val) ≤ 122) ∧ uU (fun i => tch (wof w.val + i)) (wln w.val) * 2 ^ (30 - 5 * wln w.val) = wdv w.val := by decide +kernel
  intro w hw
  obtain ⟨a1, a2, a3, a4, a5, a6⟩ := this ⟨w, hw⟩
  exact ⟨a1, a2, a3, a4, fun i hi => a5 ⟨i, by have : wln w ≤ 6 := a3; omega⟩ hi, a6⟩
/-- the letters from p up to e are word w -/
def wmt (b : Nat → Nat) (p e w : Nat) : Bool := decide (p + wln w = e) && !(ex (fun i => !(b (p + i) == tch (wof w + i))) (wln w))
theorem wmt_v {e : Nat} (hw : w < 28) (hp : p ≤ e) (h6 : e - p ≤ 6) (hc : ∀ i, i < e - p → 97 ≤ b (p + i) ∧ b (p + i) ≤ 122) : wmt b p e w = (wdv w == pkL b p (e - p)) := by
  obtain ⟨a1, a2, a3, a4, a5, a6⟩ := wof_ok w hw
  rw [Bool.eq_iff_iff, beq_iff_eq, pkL_U _ h6 hc, ← a6, uU_sh a3 h6 a5 hc]
  unfold wmt
  rw [Bool.and_eq_true, decide_eq_true_iff, Bool.not_eq_true', ← Bool.not_eq_true, ex_iff]
  constructor
  · rintro ⟨x, y⟩
    refine ⟨by omega, fun i hi => ?_⟩
    apply Classical.byContradiction
    intro z
    exact y ⟨i, hi, by rw [Bool.not_eq_true', beq_eq_false_iff_ne]; exact fun q => z q.symm⟩
  · rintro ⟨x, y⟩
    refine ⟨by omega, ?_⟩
    rintro ⟨i, hi, z⟩
    rw [Bool.not_eq_true', beq_eq_false_iff_ne] at z
    exact z (y i hi).symm
theorem wmt_no {e : Nat} (hw : w < 28) (h6 : 6 < e - p) : wmt b p e w = false := by
  obtain ⟨a1, a2, a3, -⟩ := wof_ok w hw
  unfold wmt
  rw [decide_eq_false (by omega), Bool.false_and]
end LY
