/-! ===== tokens, by the places where they begin ===== -/
section LX
variable {b : Nat → Nat} {g : Nat → Bool} {n p q i j k m c : Nat} {s : uTk}
theorem fnd_lo {f : Nat → Bool} : ∀ {n j : Nat}, j < fnd f n → f j = false
  | 0, j, h => absurd h (by show ¬ j < 0; omega)
  | n + 1, j, h => by
    have h0 : j < (if fnd f n < n then fnd f n else if f n then n else n + 1) := h
    have hle := fnd_le f n
    by_cases e : fnd f n < n
    · rw [if_pos e] at h0; exact fnd_lo h0
    · rw [if_neg e] at h0
      cases e2 : f n
      · rw [e2, if_neg (by decide)] at h0
        by_cases e3 : j = n
        · rw [e3]; exact e2
        · exact fnd_lo (n := n) (by omega)
      · rw [e2, if_pos rfl] at h0; exact fnd_lo (n := n) (by omega)
theorem fnd_hi {f : Nat → Bool} : ∀ {n : Nat}, fnd f n < n → f (fnd f n) = true
  | 0, h => absurd h (by show ¬ (0 : Nat) < 0; omega)
  | n + 1, h => by
    have h0 : fnd f (n + 1) = (if fnd f n < n then fnd f n else if f n then n else n + 1) := rfl
    by_cases e : fnd f n < n
    · rw [if_pos e] at h0; rw [h0]; exact fnd_hi e
    · rw [if_neg e] at h0
      cases e2 : f n
      · rw [e2, if_neg (by decide)] at h0; omega
      · rw [e2, if_pos rfl] at h0; rw [h0]; exact e2
/-- the end of the run of g's from p on -/
def wnd (g : Nat → Bool) (b : Nat → Nat) (n p : Nat) : Nat := p + fnd (fun k => !(g (b (p + k)))) (n - p)
theorem wnd_le (h : p ≤ n) : wnd g b n p ≤ n := by
  have := fnd_le (fun k => !(g (b (p + k)))) (n - p)
  unfold wnd; omega
theorem wnd_ge : p ≤ wnd g b n p := Nat.le_add_right _ _
theorem wnd_in (h1 : p ≤ q) (h2 : q < wnd g b n p) : g (b q) = true := by
  unfold wnd at h2
  have := fnd_lo (f := fun k => !(g (b (p + k)))) (n := n - p) (j := q - p) (by omega)
  simp only [Bool.not_eq_false'] at this
  rw [show p + (q - p) = q by omega] at this
  exact this
theorem wnd_end (h : wnd g b n p < n) : g (b (wnd g b n p)) = false := by
  unfold wnd at h
  have := fnd_hi (f := fun k => !(g (b (p + k)))) (n := n - p) (by omega)
  simp only [Bool.not_eq_true'] at this
  exact this
theorem wnd_of (h1 : p ≤ q) (h2 : q ≤ n) (h3 : ∀ k, p ≤ k → k < q → g (b k) = true) (h4 : q < n → g (b q) = false) : wnd g b n p = q := by
  have hl := wnd_le (g := g) (b := b) (Nat.le_trans h1 h2)
  have hg := wnd_ge (g := g) (b := b) (n := n) (p := p)
  rcases Nat.lt_trichotomy (wnd g b n p) q with h | h | h
  · have a := wnd_end (g := g) (b := b) (n := n) (p := p) (by omega)
    rw [h3 _ hg h] at a; cases a
  · exact h
  · have a := wnd_in h1 h
    rw [h4 (by omega)] at a; cases a
theorem wnd_s0 (hp : p ≤ i) (h : wnd g b i p < i) : wnd g b (i + 1) p = wnd g b i p := wnd_of wnd_ge (by omega) (fun k h1 h2 => wnd_in h1 h2) (fun _ => wnd_end h)
theorem wnd_s1 (hp : p ≤ i) (h : wnd g b i p = i) (hg : g (b i) = true) : wnd g b (i + 1) p = i + 1 := wnd_of (by omega) (Nat.le_refl _) (fun k h1 h2 => by
  by_cases e : k = i
  · rw [e]; exact hg
  · exact wnd_in (n := i) h1 (by omega)) (fun h => absurd h (by omega))
theorem wnd_s2 (hp : p ≤ i) (h : wnd g b i p = i) (hg : g (b i) = false) : wnd g b (i + 1) p = i := wnd_of hp (by omega) (fun k h1 h2 => wnd_in (n := i) h1 (by omega)) (fun _ => hg)
def isW (x : Nat) : Bool := decide (x = 10 ∨ x = 32)
def pr2 (x y : Nat) : Bool := (x == 60 && (y == 61 || y == 62)) || (x == 62 && y == 61)
def opE (b : Nat → Nat) (n p : Nat) : Nat := if isL (b p) then wnd isL b n p else if isD (b p) then wnd isD b n p else if decide (p + 1 < n) && pr2 (b p) (b (p + 1)) then p + 2 else p + 1
def opK (b : Nat → Nat) (n p : Nat) : Nat := if isL (b p) then (if wnd isL b n p - p ≤ 6 then 39 else 43) else if isD (b p) then 38 else if decide (p + 1 < n) && pr2 (b p) (b (p + 1)) then (if b p = 62 then 36 else if b (p + 1) = 61 then 33 else 35) else kof (b p)
def pkL (b : Nat → Nat) (p : Nat) : Nat → Nat
  | 0 => 0
  | m + 1 => if m + 1 ≤ 6 then pkL b p m ||| (b (p + m) - 96) <<< (30 - 5 * (m + 1)) else pkL b p m
def dgV (b : Nat → Nat) (p : Nat) : Nat → Nat
  | 0 => 0
  | m + 1 => min (dgV b p m * 10 + (b (p + m) - 48)) 1000000
def opV (b : Nat → Nat) (n p : Nat) : Nat := if isL (b p) then pkL b p (wnd isL b n p - p) else if isD (b p) then dgV b p (wnd isD b n p - p) else 0
theorem opE_le (h : p < n) : opE b n p ≤ n := by
  unfold opE
  split
  · exact wnd_le (by omega)
  · split
    · exact wnd_le (by omega)
    · split
      · next h2 => rw [Bool.and_eq_true, decide_eq_true_iff] at h2; omega
      · omega
theorem opE_gt (h : p < n) : p < opE b n p := by
  unfold opE
  split
  · next h2 =>
    have := wnd_ge (g := isL) (b := b) (n := n) (p := p)
    rcases Nat.lt_or_ge p (wnd isL b n p) with e | e
    · exact e
    · have e2 : wnd isL b n p = p := by omega
      have := wnd_end (g := isL) (b := b) (n := n) (p := p) (by omega)
      rw [e2, h2] at this; cases this
  · split
    · next h2 =>
      have := wnd_ge (g := isD) (b := b) (n := n) (p := p)
      rcases Nat.lt_or_ge p (wnd isD b n p) with e | e
      · exact e
      · have e2 : wnd isD b n p = p := by omega
        have := wnd_end (g := isD) (b := b) (n := n) (p := p) (by omega)
        rw [e2, h2] at this; cases this
    · split <;> omega
/-- whether byte i belongs to the token that begins at p and reaches up to i -/
def exb (b : Nat → Nat) (i p : Nat) : Bool := if isL (b p) then isL (b i) else if isD (b p) then isD (b i) else decide (p + 1 = i) && pr2 (b p) (b i)
theorem op_stab (hp : p < i) (hx : opE b i p = i → exb b i p = false) : opE b (i + 1) p = opE b i p ∧ opK b (i + 1) p = opK b i p ∧ opV b (i + 1) p = opV b i p := by
  have hle := opE_le (b := b) hp
  by_cases hL : isL (b p) = true
  · have ew : opE b i p = wnd isL b i p := by unfold opE; rw [if_pos hL]
    have e : wnd isL b (i + 1) p = wnd isL b i p := by
      rcases Nat.lt_or_ge (wnd isL b i p) i with h | h
      · exact wnd_s0 (by omega) h
      · have h2 : wnd isL b i p = i := by omega
        have := hx (by omega)
        unfold exb at this; rw [if_pos hL] at this
        rw [wnd_s2 (by omega) h2 this, h2]
    unfold opE opK opV
    rw [if_pos hL, if_pos hL, if_pos hL, if_pos hL, if_pos hL, if_pos hL, e]
    exact ⟨rfl, rfl, rfl⟩
  · by_cases hD : isD (b p) = true
    · have ew : opE b i p = wnd isD b i p := by unfold opE; rw [if_neg hL, if_pos hD]
      have e : wnd isD b (i + 1) p = wnd isD b i p := by
        rcases Nat.lt_or_ge (wnd isD b i p) i with h | h
        · exact wnd_s0 (by omega) h
        · have h2 : wnd isD b i p = i := by omega
          have := hx (by omega)
          unfold exb at this; rw [if_neg hL, if_pos hD] at this
          rw [wnd_s2 (by omega) h2 this, h2]
      unfold opE opK opV
      simp only [if_neg hL, if_pos hD, e]
      exact ⟨trivial, trivial, trivial⟩
    · have e : (decide (p + 1 < i + 1) && pr2 (b p) (b (p + 1))) = (decide (p + 1 < i) && pr2 (b p) (b (p + 1))) := by
        by_cases h : p + 1 < i
        · rw [decide_eq_true h, decide_eq_true (show p + 1 < i + 1 by omega)]
        · have h2 : p + 1 = i := by omega
          have ew : opE b i p = i := by
            unfold opE
            rw [if_neg hL, if_neg hD, decide_eq_false h, Bool.false_and, if_neg (by decide)]; exact h2
          have := hx ew
          unfold exb at this
          rw [if_neg hL, if_neg hD, decide_eq_true h2, Bool.true_and, ← h2] at this
          rw [this, Bool.and_false, Bool.and_false]
      unfold opE opK opV
      simp only [if_neg hL, if_neg hD, e]
      exact ⟨trivial, trivial, trivial⟩
def LI (b : Nat → Nat) (i : Nat) (s : uTk) : Prop :=
  (kSz s = 0 → ∀ q, q < i → isW (b q) = true) ∧
  (0 < kSz s → ∀ q, q < kPl s 0 → isW (b q) = true) ∧
  (∀ j, j < kSz s → kPl s j < i ∧ isW (b (kPl s j)) = false ∧ kKd s j = opK b i (kPl s j) ∧ kVl s j = opV b i (kPl s j)) ∧
  (∀ j, j + 1 < kSz s → opE b i (kPl s j) ≤ kPl s (j + 1) ∧ ∀ q, opE b i (kPl s j) ≤ q → q < kPl s (j + 1) → isW (b q) = true) ∧
  (0 < kSz s → ∀ q, opE b i (kPl s (kSz s - 1)) ≤ q → q < i → isW (b q) = true) ∧
  (0 < kSz s → isL (b (kPl s (kSz s - 1))) = true → wnd isL b i (kPl s (kSz s - 1)) = i → kLt s = i - kPl s (kSz s - 1))
/-- tokens that end ahead of i stay -/
theorem LI.old (h : LI b i s) (hj : j + 1 < kSz s) : opE b (i + 1) (kPl s j) = opE b i (kPl s j) ∧ opK b (i + 1) (kPl s j) = opK b i (kPl s j) ∧ opV b (i + 1) (kPl s j) = opV b i (kPl s j) := by
  have h1 := (h.2.2.1 j (by omega)).1
  have h2 := (h.2.2.2.1 j hj).1
  have h3 := (h.2.2.1 (j + 1) hj).1
  exact op_stab h1 (fun e => by omega)
/-- a blank -/
theorem LI.bl (h : LI b i s) (hw : isW (b i) = true) : LI b (i + 1) s := by
  have hb := of_decide_eq_true hw
  have nL : isL (b i) = false := decide_eq_false (by omega)
  have nD : isD (b i) = false := decide_eq_false (by omega)
  have st : ∀ j, j < kSz s → opE b (i + 1) (kPl s j) = opE b i (kPl s j) ∧ opK b (i + 1) (kPl s j) = opK b i (kPl s j) ∧ opV b (i + 1) (kPl s j) = opV b i (kPl s j) := fun j hj => by
    refine op_stab (h.2.2.1 j hj).1 (fun _ => ?_)
    unfold exb
    rw [nL, nD]
    split
    · rfl
    · split
      · rfl
      · have : pr2 (b (kPl s j)) (b i) = false := by unfold pr2; rcases hb with e | e <;> rw [e] <;> simp
        rw [this, Bool.and_false]
  refine ⟨fun z q hq => ?_, h.2.1, fun j hj => ?_, fun j hj => ?_, fun z q h1 h2 => ?_, fun z hl hw2 => ?_⟩
  · by_cases e : q = i
    · rw [e]; exact hw
    · exact h.1 z q (by omega)
  · obtain ⟨a1, a2, a3, a4⟩ := h.2.2.1 j hj
    obtain ⟨s1, s2, s3⟩ := st j hj
    exact ⟨by omega, a2, a3.trans s2.symm, a4.trans s3.symm⟩
  · rw [(st j (by omega)).1]; exact h.2.2.2.1 j hj
  · rw [(st _ (by omega)).1] at h1
    by_cases e : q = i
    · rw [e]; exact hw
    · exact h.2.2.2.2.1 z q h1 (by omega)
  · have h1 := (h.2.2.1 (kSz s - 1) (by omega)).1
    have := wnd_in (g := isL) (b := b) (n := i + 1) (p := kPl s (kSz s - 1)) (q := i) (by omega) (by omega)
    rw [nL] at this; cases this
/-- a token begins -/
theorem LI.nw (h : LI b i s) {s2 : uTk} (z2 : kSz s2 = kSz s + 1) (hpl : ∀ j, kPl s2 j = if j = kSz s then i else kPl s j) (hkd : ∀ j, kKd s2 j = if j = kSz s then opK b (i + 1) i else kKd s j) (hvl : ∀ j, kVl s2 j = if j = kSz s then opV b (i + 1) i else kVl s j) (hw : isW (b i) = false) (hlt : isL (b i) = true → kLt s2 = 1) (hx : 0 < kSz s → opE b i (kPl s (kSz s - 1)) = i → exb b i (kPl s (kSz s - 1)) = false) : LI b (i + 1) s2 := by
  have st : ∀ j, j < kSz s → opE b (i + 1) (kPl s j) = opE b i (kPl s j) ∧ opK b (i + 1) (kPl s j) = opK b i (kPl s j) ∧ opV b (i + 1) (kPl s j) = opV b i (kPl s j) := fun j hj => by
    by_cases e : j + 1 < kSz s
    · exact h.old e
    · have e2 : j = kSz s - 1 := by omega
      rw [e2]
      exact op_stab (h.2.2.1 _ (by omega)).1 (hx (by omega))
  have pn : ∀ j, j < kSz s → kPl s2 j = kPl s j := fun j hj => by rw [hpl, if_neg (by omega)]
  have pl : kPl s2 (kSz s) = i := by rw [hpl, if_pos rfl]
  refine ⟨fun z => absurd z (by omega), fun _ q hq => ?_, fun j hj => ?_, fun j hj => ?_, fun _ q h1 h2 => ?_, fun _ hl hw2 => ?_⟩
  · by_cases e : kSz s = 0
    · rw [← e, pl] at hq; exact h.1 e q hq
    · rw [pn 0 (by omega)] at hq; exact h.2.1 (by omega) q hq
  · by_cases e : j = kSz s
    · subst e
      rw [pl, hkd, if_pos rfl, hvl, if_pos rfl]
      exact ⟨by omega, hw, rfl, rfl⟩
    · obtain ⟨a1, a2, a3, a4⟩ := h.2.2.1 j (by omega)
      obtain ⟨s1, s2', s3⟩ := st j (by omega)
      rw [pn j (by omega), hkd, if_neg e, hvl, if_neg e]
      exact ⟨by omega, a2, a3.trans s2'.symm, a4.trans s3.symm⟩
  · rw [pn j (by omega), (st j (by omega)).1]
    by_cases e : j + 1 = kSz s
    · rw [e, pl]
      have e3 : j = kSz s - 1 := by omega
      have hb := h.2.2.2.2.1 (by omega)
      rw [← e3] at hb
      exact ⟨opE_le (h.2.2.1 j (by omega)).1, hb⟩
    · rw [pn (j + 1) (by omega)]; exact h.2.2.2.1 j (by omega)
  · rw [z2, Nat.add_sub_cancel, pl] at h1
    have := opE_gt (b := b) (n := i + 1) (p := i) (by omega)
    omega
  · rw [z2, Nat.add_sub_cancel, pl] at hl ⊢
    rw [hlt hl]; omega
/-- the last token goes on -/
theorem LI.ex (h : LI b i s) (h0 : 0 < kSz s) {s2 : uTk} (z2 : kSz s2 = kSz s) (hpl : ∀ j, kPl s2 j = kPl s j) (hkd : ∀ j, kKd s2 j = if j = kSz s - 1 then opK b (i + 1) (kPl s (kSz s - 1)) else kKd s j) (hvl : ∀ j, kVl s2 j = if j = kSz s - 1 then opV b (i + 1) (kPl s (kSz s - 1)) else kVl s j) (he : opE b (i + 1) (kPl s (kSz s - 1)) = i + 1) (hlt : isL (b (kPl s (kSz s - 1))) = true → kLt s2 = i + 1 - kPl s (kSz s - 1)) : LI b (i + 1) s2 := by
  refine ⟨fun z => absurd z (by omega), fun _ q hq => ?_, fun j hj => ?_, fun j hj => ?_, fun _ q h1 h2 => ?_, fun _ hl hw2 => ?_⟩
  · rw [hpl] at hq; exact h.2.1 h0 q hq
  · obtain ⟨a1, a2, a3, a4⟩ := h.2.2.1 j (by omega)
    rw [hpl, hkd, hvl]
    by_cases e : j = kSz s - 1
    · rw [if_pos e, if_pos e, e]
      rw [e] at a1 a2
      exact ⟨by omega, a2, rfl, rfl⟩
    · rw [if_neg e, if_neg e]
      obtain ⟨s1, s2', s3⟩ := h.old (j := j) (by omega)
      exact ⟨by omega, a2, a3.trans s2'.symm, a4.trans s3.symm⟩
  · rw [hpl, hpl, (h.old (j := j) (by omega)).1]
    exact h.2.2.2.1 j (by omega)
  · rw [z2, hpl, he] at h1; omega
  · rw [z2, hpl] at hl ⊢
    exact hlt hl
/-- the byte before i is of the last token, where it isn't blank -/
theorem LI.at (h : LI b i s) (hi : 0 < i) (hw : isW (b (i - 1)) = false) : 0 < kSz s ∧ opE b i (kPl s (kSz s - 1)) = i := by
  have h0 : 0 < kSz s := by
    apply Classical.byContradiction
    intro z
    have := h.1 (by omega) (i - 1) (by omega)
    rw [hw] at this; cases this
  refine ⟨h0, ?_⟩
  have hle := opE_le (b := b) (h.2.2.1 (kSz s - 1) (by omega)).1
  apply Classical.byContradiction
  intro z
  have := h.2.2.2.2.1 h0 (i - 1) (by omega) (by omega)
  rw [hw] at this; cases this
theorem isW_L {x : Nat} (h : isL x = true) : isW x = false := by
  have := of_decide_eq_true h
  exact decide_eq_false (by omega)
theorem isW_D {x : Nat} (h : isD x = true) : isW x = false := by
  have := of_decide_eq_true h
  exact decide_eq_false (by omega)
/-- where the byte before i is a letter, the last token is one of letters -/
theorem LI.atL (h : LI b i s) (hp : pvB isL b i = true) : 0 < kSz s ∧ isL (b (kPl s (kSz s - 1))) = true ∧ wnd isL b i (kPl s (kSz s - 1)) = i := by
  unfold pvB at hp
  rw [Bool.and_eq_true, decide_eq_true_iff] at hp
  obtain ⟨h0, he⟩ := h.at hp.1 (isW_L hp.2)
  have hpi := (h.2.2.1 (kSz s - 1) (by omega)).1
  have hl : isL (b (kPl s (kSz s - 1))) = true := by
    apply Classical.byContradiction
    intro hL
    unfold opE at he
    rw [if_neg hL] at he
    by_cases hD : isD (b (kPl s (kSz s - 1))) = true
    · rw [if_pos hD] at he
      have := wnd_in (g := isD) (b := b) (n := i) (p := kPl s (kSz s - 1)) (q := i - 1) (by omega) (by omega)
      rw [isLD hp.2] at this; cases this
    · rw [if_neg hD] at he
      by_cases hq : (decide (kPl s (kSz s - 1) + 1 < i) && pr2 (b (kPl s (kSz s - 1))) (b (kPl s (kSz s - 1) + 1))) = true
      · rw [if_pos hq] at he
        rw [Bool.and_eq_true] at hq
        have hx := of_decide_eq_true hp.2
        rw [show kPl s (kSz s - 1) + 1 = i - 1 by omega] at hq
        have := hq.2
        unfold pr2 at this
        simp at this
        omega
      · rw [if_neg hq] at he
        rw [show kPl s (kSz s - 1) = i - 1 by omega] at hL
        exact hL hp.2
  refine ⟨h0, hl, ?_⟩
  unfold opE at he
  rw [if_pos hl] at he
  exact he
theorem LI.atD (h : LI b i s) (hp : pvB isD b i = true) : 0 < kSz s ∧ isL (b (kPl s (kSz s - 1))) = false ∧ isD (b (kPl s (kSz s - 1))) = true ∧ wnd isD b i (kPl s (kSz s - 1)) = i := by
  unfold pvB at hp
  rw [Bool.and_eq_true, decide_eq_true_iff] at hp
  obtain ⟨h0, he⟩ := h.at hp.1 (isW_D hp.2)
  have hpi := (h.2.2.1 (kSz s - 1) (by omega)).1
  have hL : isL (b (kPl s (kSz s - 1))) = false := by
    cases hL : isL (b (kPl s (kSz s - 1)))
    · rfl
    · unfold opE at he
      rw [if_pos hL] at he
      have := wnd_in (g := isL) (b := b) (n := i) (p := kPl s (kSz s - 1)) (q := i - 1) (by omega) (by omega)
      rw [isLD this] at hp; cases hp.2
  have hD : isD (b (kPl s (kSz s - 1))) = true := by
    apply Classical.byContradiction
    intro hD
    unfold opE at he
    rw [hL, if_neg (by decide), if_neg hD] at he
    by_cases hq : (decide (kPl s (kSz s - 1) + 1 < i) && pr2 (b (kPl s (kSz s - 1))) (b (kPl s (kSz s - 1) + 1))) = true
    · rw [if_pos hq] at he
      rw [Bool.and_eq_true] at hq
      have hx := of_decide_eq_true hp.2
      rw [show kPl s (kSz s - 1) + 1 = i - 1 by omega] at hq
      have := hq.2
      unfold pr2 at this
      simp at this
      omega
    · rw [if_neg hq] at he
      rw [show kPl s (kSz s - 1) = i - 1 by omega] at hD
      exact hD hp.2
  refine ⟨h0, hL, hD, ?_⟩
  unfold opE at he
  rw [hL, if_neg (by decide), if_pos hD] at he
  exact he
theorem opK_L (h : isL (b p) = true) : opK b n p = if wnd isL b n p - p ≤ 6 then 39 else 43 := by unfold opK; rw [if_pos h]
theorem opV_L (h : isL (b p) = true) : opV b n p = pkL b p (wnd isL b n p - p) := by unfold opV; rw [if_pos h]
theorem opK_D (h0 : isL (b p) = false) (h : isD (b p) = true) : opK b n p = 38 := by unfold opK; rw [h0, if_neg (by decide), if_pos h]
theorem opV_D (h0 : isL (b p) = false) (h : isD (b p) = true) : opV b n p = dgV b p (wnd isD b n p - p) := by unfold opV; rw [h0, if_neg (by decide), if_pos h]
theorem wnd_1 (h : g (b i) = true) : wnd g b (i + 1) i = i + 1 := wnd_of (by omega) (Nat.le_refl _) (fun k h1 h2 => by rw [show k = i by omega]; exact h) (fun z => absurd z (by omega))
theorem dgV_le : ∀ m, dgV b p m ≤ 1000000
  | 0 => Nat.zero_le _
  | m + 1 => Nat.min_le_right _ _
theorem kof_32 {x : Nat} : kof x = 32 ↔ x = 60 := by
  unfold kof
  repeat' split
  all_goals omega
theorem kof_37 {x : Nat} : kof x = 37 ↔ x = 62 := by
  unfold kof
  repeat' split
  all_goals omega
theorem LI.kb (h : LI b i s) (hk : kBf i s = 32 ∨ kBf i s = 37) : 0 < kSz s ∧ kPl s (kSz s - 1) + 1 = i ∧ isL (b (kPl s (kSz s - 1))) = false ∧ isD (b (kPl s (kSz s - 1))) = false ∧ ((kBf i s = 32 ∧ b (kPl s (kSz s - 1)) = 60) ∨ (kBf i s = 37 ∧ b (kPl s (kSz s - 1)) = 62)) := by
  by_cases hn : 0 < kSz s ∧ kPl s (kSz s - 1) = i - 1
  · have hpi := (h.2.2.1 (kSz s - 1) (by omega)).1
    have e : kBf i s = kKd s (kSz s - 1) := if_pos hn
    have hK := (h.2.2.1 (kSz s - 1) (by omega)).2.2.1
    have h1 : kPl s (kSz s - 1) + 1 = i := by omega
    cases hL : isL (b (kPl s (kSz s - 1)))
    · cases hD : isD (b (kPl s (kSz s - 1)))
      · have eK : kBf i s = kof (b (kPl s (kSz s - 1))) := by
          rw [e, hK]
          unfold opK
          rw [hL, if_neg (by decide), hD, if_neg (by decide), decide_eq_false (by omega), Bool.false_and, if_neg (by decide)]
        refine ⟨hn.1, h1, rfl, rfl, ?_⟩
        rcases hk with z | z
        · exact Or.inl ⟨z, kof_32.mp (eK.symm.trans z)⟩
        · exact Or.inr ⟨z, kof_37.mp (eK.symm.trans z)⟩
      · exfalso
        rw [e, hK, opK_D hL hD] at hk
        omega
    · exfalso
      rw [e, hK, opK_L hL] at hk
      split at hk <;> omega
  · exfalso
    have e : kBf i s = 44 := if_neg hn
    omega
theorem LI.sg (h : LI b i s) (hL : isL (b i) = false) (hD : isD (b i) = false) (hw : isW (b i) = false) : LI b (i + 1) (kSg (b i) i s) := by
  have hex : ∀ K, 0 < kSz s → kPl s (kSz s - 1) + 1 = i → isL (b (kPl s (kSz s - 1))) = false → isD (b (kPl s (kSz s - 1))) = false → pr2 (b (kPl s (kSz s - 1))) (b i) = true → K = (if b (kPl s (kSz s - 1)) = 62 then 36 else if b i = 61 then 33 else 35) → LI b (i + 1) (kSz s, kLt s, uup (kKd s) (kSz s - 1) K, kPl s, kVl s) := fun K h0 h1 l d hp hK => by
    have hV := (h.2.2.1 (kSz s - 1) (by omega)).2.2.2
    have ec : (decide (kPl s (kSz s - 1) + 1 < i + 1) && pr2 (b (kPl s (kSz s - 1))) (b (kPl s (kSz s - 1) + 1))) = true := by
      rw [h1, hp, decide_eq_true (by omega)]; rfl
    refine h.ex h0 rfl (fun _ => rfl) (fun j => ?_) (fun j => ?_) ?_ (fun z => by rw [l] at z; cases z)
    · have e1 : opK b (i + 1) (kPl s (kSz s - 1)) = K := by
        unfold opK
        rw [l, if_neg (by decide), d, if_neg (by decide), ec, if_pos rfl, hK, h1]
      rw [e1]; rfl
    · have e1 : ∀ m, opV b m (kPl s (kSz s - 1)) = 0 := fun m => by
        unfold opV
        rw [l, if_neg (by decide), d, if_neg (by decide)]
      rw [e1] at hV ⊢
      by_cases e : j = kSz s - 1
      · rw [if_pos e, e]; exact hV
      · rw [if_neg e]
    · unfold opE
      rw [l, if_neg (by decide), d, if_neg (by decide), ec, if_pos rfl]
      omega
  have hnw : (∀ _ : 0 < kSz s, opE b i (kPl s (kSz s - 1)) = i → exb b i (kPl s (kSz s - 1)) = false) → LI b (i + 1) (kBeg (kof (b i)) i s) := fun hx => by
    refine h.nw rfl (fun j => rfl) (fun j => ?_) (fun j => ?_) hw (fun z => by rw [hL] at z; cases z) hx
    · have e1 : opK b (i + 1) i = kof (b i) := by
        unfold opK
        rw [hL, if_neg (by decide), hD, if_neg (by decide), decide_eq_false (by omega), Bool.false_and, if_neg (by decide)]
      rw [e1]; rfl
    · have e1 : opV b (i + 1) i = 0 := by
        unfold opV
        rw [hL, if_neg (by decide), hD, if_neg (by decide)]
      rw [e1]; rfl
  have p61 : pr2 60 61 = true := rfl
  have p62 : pr2 60 62 = true := rfl
  have p26 : pr2 62 61 = true := rfl
  unfold kSg
  by_cases c1 : b i = 61 ∧ (kBf i s = 32 ∨ kBf i s = 37)
  · rw [if_pos c1]
    obtain ⟨h0, h1, l, d, z⟩ := h.kb c1.2
    rcases z with ⟨z1, z2⟩ | ⟨z1, z2⟩
    · rw [if_pos z1]
      exact hex 33 h0 h1 l d (by rw [z2, c1.1]; exact p61) (by rw [z2, c1.1]; rfl)
    · rw [if_neg (by omega)]
      exact hex 36 h0 h1 l d (by rw [z2, c1.1]; exact p26) (by rw [z2]; rfl)
  · rw [if_neg c1]
    by_cases c2 : b i = 62 ∧ kBf i s = 32
    · rw [if_pos c2]
      obtain ⟨h0, h1, l, d, z⟩ := h.kb (Or.inl c2.2)
      have z2 : b (kPl s (kSz s - 1)) = 60 := by
        rcases z with z | z
        · exact z.2
        · omega
      exact hex 35 h0 h1 l d (by rw [z2, c2.1]; exact p62) (by rw [z2, c2.1]; rfl)
    · rw [if_neg c2]
      refine hnw (fun h0 he => ?_)
      unfold exb
      cases l : isL (b (kPl s (kSz s - 1)))
      · rw [if_neg (by decide)]
        cases d : isD (b (kPl s (kSz s - 1)))
        · rw [if_neg (by decide)]
          by_cases h1 : kPl s (kSz s - 1) + 1 = i
          · rw [decide_eq_true h1, Bool.true_and]
            have hpi := (h.2.2.1 (kSz s - 1) (by omega)).1
            have eK : kBf i s = kof (b (kPl s (kSz s - 1))) := by
              have e : kBf i s = kKd s (kSz s - 1) := if_pos ⟨h0, by omega⟩
              rw [e, (h.2.2.1 (kSz s - 1) (by omega)).2.2.1]
              unfold opK
              rw [l, if_neg (by decide), d, if_neg (by decide), decide_eq_false (by omega), Bool.false_and, if_neg (by decide)]
            have n1 : ¬ (b i = 61 ∧ (b (kPl s (kSz s - 1)) = 60 ∨ b (kPl s (kSz s - 1)) = 62)) := fun z => c1 ⟨z.1, by
              rw [eK]
              rcases z.2 with y | y
              · exact Or.inl (kof_32.mpr y)
              · exact Or.inr (kof_37.mpr y)⟩
            have n2 : ¬ (b i = 62 ∧ b (kPl s (kSz s - 1)) = 60) := fun z => c2 ⟨z.1, by rw [eK]; exact kof_32.mpr z.2⟩
            unfold pr2
            cases e : ((b (kPl s (kSz s - 1)) == 60 && (b i == 61 || b i == 62)) || (b (kPl s (kSz s - 1)) == 62 && b i == 61))
            · rfl
            · simp at e
              omega
          · rw [decide_eq_false h1, Bool.false_and]
        · rw [if_pos rfl]; exact hD
      · rw [if_pos rfl]; exact hL
theorem LI_st (h : LI b i s) : LI b (i + 1) (kSt b i s) := by
  unfold kSt
  by_cases hL : isL (b i) = true
  · rw [if_pos hL]
    have hD := isLD hL
    by_cases hp : pvB isL b i = true
    · rw [if_pos hp]
      obtain ⟨h0, hl, hw⟩ := h.atL hp
      have hpi := (h.2.2.1 (kSz s - 1) (by omega)).1
      have hlt := h.2.2.2.2.2 h0 hl hw
      have hw1 := wnd_s1 (g := isL) (b := b) (by omega : kPl s (kSz s - 1) ≤ i) hw hL
      have hK := (h.2.2.1 (kSz s - 1) (by omega)).2.2.1
      have hV := (h.2.2.1 (kSz s - 1) (by omega)).2.2.2
      rw [opK_L hl, hw] at hK
      rw [opV_L hl, hw] at hV
      have em : i + 1 - kPl s (kSz s - 1) = (i - kPl s (kSz s - 1)) + 1 := by omega
      unfold kLe
      rw [hlt]
      by_cases e6 : i - kPl s (kSz s - 1) + 1 ≤ 6
      · rw [if_pos e6]
        refine h.ex h0 rfl (fun _ => rfl) (fun j => ?_) (fun j => ?_) (by unfold opE; rw [if_pos hl, hw1]) (fun _ => em.symm)
        · rw [opK_L hl, hw1, em, if_pos e6]
          by_cases e : j = kSz s - 1
          · rw [if_pos e, e, hK, if_pos (by omega)]
          · rw [if_neg e]
        · rw [opV_L hl, hw1, em]
          show (if j = kSz s - 1 then _ else _) = _
          by_cases e : j = kSz s - 1
          · rw [if_pos e, if_pos e, hV]
            show _ = (if _ then _ else _)
            rw [if_pos e6, show kPl s (kSz s - 1) + (i - kPl s (kSz s - 1)) = i by omega]
          · rw [if_neg e, if_neg e]
      · rw [if_neg e6]
        refine h.ex h0 rfl (fun _ => rfl) (fun j => ?_) (fun j => ?_) (by unfold opE; rw [if_pos hl, hw1]) (fun _ => em.symm)
        · rw [opK_L hl, hw1, em, if_neg e6]
          rfl
        · rw [opV_L hl, hw1, em]
          by_cases e : j = kSz s - 1
          · rw [if_pos e, e]
            show kVl s (kSz s - 1) = (if _ then _ else _)
            rw [if_neg e6, hV]
          · rw [if_neg e]
    · rw [if_neg hp]
      have ez : kSz (kL0 i s) = kSz s + 1 := rfl
      have el : kLt (kL0 i s) = 0 := rfl
      unfold kLe
      rw [el, if_pos (by decide)]
      have hw1 := wnd_1 (g := isL) (b := b) hL
      refine h.nw rfl (fun j => rfl) (fun j => ?_) (fun j => ?_) (isW_L hL) (fun _ => rfl) (fun h0 he => ?_)
      · rw [opK_L hL, hw1, show (if i + 1 - i ≤ 6 then 39 else 43) = 39 from if_pos (by omega)]; rfl
      · rw [opV_L hL, hw1, show i + 1 - i = 0 + 1 by omega]
        show (if j = kSz s + 1 - 1 then (if kSz s + 1 - 1 = kSz s then 0 else kVl s (kSz s + 1 - 1)) ||| (b i - 96) <<< (30 - 5 * (0 + 1)) else (if j = kSz s then 0 else kVl s j)) = (if j = kSz s then (if 0 + 1 ≤ 6 then 0 ||| (b (i + 0) - 96) <<< (30 - 5 * (0 + 1)) else 0) else kVl s j)
        rw [Nat.add_sub_cancel, if_pos rfl, if_pos (by decide : 0 + 1 ≤ 6), Nat.add_zero]
        by_cases e : j = kSz s
        · rw [if_pos e, if_pos e]; rfl
        · rw [if_neg e, if_neg e, if_neg e]
      · have hpi := (h.2.2.1 (kSz s - 1) (by omega)).1
        unfold exb
        by_cases l2 : isL (b (kPl s (kSz s - 1))) = true
        · exfalso
          apply hp
          unfold opE at he
          rw [if_pos l2] at he
          unfold pvB
          rw [decide_eq_true (show 0 < i by omega), Bool.true_and]
          exact wnd_in (g := isL) (b := b) (n := i) (p := kPl s (kSz s - 1)) (by omega) (by omega)
        · rw [if_neg l2, hD]
          split
          · rfl
          · have hx := of_decide_eq_true hL
            have : pr2 (b (kPl s (kSz s - 1))) (b i) = false := by
              unfold pr2
              rw [show (b i == 61) = false from beq_eq_false_iff_ne.mpr (by omega), show (b i == 62) = false from beq_eq_false_iff_ne.mpr (by omega)]
              simp
            rw [this, Bool.and_false]
  · have hL : isL (b i) = false := by cases e : isL (b i); rfl; exact absurd e hL
    rw [hL, if_neg (by decide)]
    by_cases hD : isD (b i) = true
    · rw [if_pos hD]
      by_cases hp : pvB isD b i = true
      · rw [if_pos hp]
        obtain ⟨h0, hl, hd, hw⟩ := h.atD hp
        have hpi := (h.2.2.1 (kSz s - 1) (by omega)).1
        have hw1 := wnd_s1 (g := isD) (b := b) (by omega : kPl s (kSz s - 1) ≤ i) hw hD
        have hK := (h.2.2.1 (kSz s - 1) (by omega)).2.2.1
        have hV := (h.2.2.1 (kSz s - 1) (by omega)).2.2.2
        rw [opK_D hl hd] at hK
        rw [opV_D hl hd, hw] at hV
        have em : i + 1 - kPl s (kSz s - 1) = (i - kPl s (kSz s - 1)) + 1 := by omega
        refine h.ex h0 rfl (fun _ => rfl) (fun j => ?_) (fun j => ?_) (by unfold opE; rw [hl, if_neg (by decide), if_pos hd, hw1]) (fun z => by rw [hl] at z; cases z)
        · rw [opK_D hl hd]
          by_cases e : j = kSz s - 1
          · rw [if_pos e, e]; exact hK
          · rw [if_neg e]; rfl
        · rw [opV_D hl hd, hw1, em]
          show (if j = kSz s - 1 then _ else _) = _
          by_cases e : j = kSz s - 1
          · rw [if_pos e, if_pos e, hV]
            show _ = min _ _
            rw [show kPl s (kSz s - 1) + (i - kPl s (kSz s - 1)) = i by omega]
          · rw [if_neg e, if_neg e]
      · rw [if_neg hp]
        have hw1 := wnd_1 (g := isD) (b := b) hD
        refine h.nw rfl (fun j => rfl) (fun j => ?_) (fun j => ?_) (isW_D hD) (fun z => by rw [hL] at z; cases z) (fun h0 he => ?_)
        · rw [opK_D hL hD]; rfl
        · rw [opV_D hL hD, hw1, show i + 1 - i = 0 + 1 by omega]
          show (if j = kSz s + 1 - 1 then min ((if kSz s + 1 - 1 = kSz s then 0 else kVl s (kSz s + 1 - 1)) * 10 + (b i - 48)) 1000000 else (if j = kSz s then 0 else kVl s j)) = (if j = kSz s then min (0 * 10 + (b (i + 0) - 48)) 1000000 else kVl s j)
          rw [Nat.add_sub_cancel, if_pos rfl, Nat.add_zero]
          by_cases e : j = kSz s
          · rw [if_pos e, if_pos e]
          · rw [if_neg e, if_neg e, if_neg e]
        · have hpi := (h.2.2.1 (kSz s - 1) (by omega)).1
          unfold exb
          rw [hL]
          by_cases l2 : isL (b (kPl s (kSz s - 1))) = true
          · rw [if_pos l2]
          · rw [if_neg l2]
            by_cases d2 : isD (b (kPl s (kSz s - 1))) = true
            · exfalso
              apply hp
              unfold opE at he
              rw [if_neg l2, if_pos d2] at he
              unfold pvB
              rw [decide_eq_true (show 0 < i by omega), Bool.true_and]
              exact wnd_in (g := isD) (b := b) (n := i) (p := kPl s (kSz s - 1)) (by omega) (by omega)
            · rw [if_neg d2]
              have hx := of_decide_eq_true hD
              have : pr2 (b (kPl s (kSz s - 1))) (b i) = false := by
                unfold pr2
                rw [show (b i == 61) = false from beq_eq_false_iff_ne.mpr (by omega), show (b i == 62) = false from beq_eq_false_iff_ne.mpr (by omega)]
                simp
              rw [this, Bool.and_false]
    · have hD : isD (b i) = false := by cases e : isD (b i); rfl; exact absurd e hD
      rw [hD, if_neg (by decide)]
      by_cases hw : b i = 10 ∨ b i = 32
      · rw [if_pos hw]; exact h.bl (decide_eq_true hw)
      · rw [if_neg hw]
        have hw2 : isW (b i) = false := decide_eq_false hw
        exact h.sg hL hD hw2
end LX
