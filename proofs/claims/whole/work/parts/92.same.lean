/-! ===== the two ways to read a formula answer the same ===== -/
section SM1
variable {k p q i j l m n c t d st st2 n2 sl a : Nat} {s : uTk} {T T2 : uTx} {w : Int64} {x y z : rxT} {fc : Bool} {ws : List (Nat × Nat)} {hs : List Nat} {o b : Nat} {X X2 : fmT} {r : rdT}
def mcX (ws : List (Nat × Nat)) (hs : List Nat) (x : rxT) : fmT := (ws, hs, rxO x, rxX x, rxB x, rxW x)
def rtX (x : rxT) : Nat := tNk (rxX x) - 1
def mRel (s : uTk) (fc : Bool) (st n : Nat) (X : fmT) (r : rdT) : Prop := ∃ e0, ∀ e, e0 ≤ e → mR s fc e st n X = r
theorem mrel_f (h : ¬ (st = 2 ∧ fmO X = 0 ∧ kK s n = 40)) {e : Nat × Nat} (h2 : stpS s fc st n X = .inl e) : mRel s fc st n X (.inl e) := ⟨1, fun e1 h1 => by
  obtain ⟨d, rfl⟩ : ∃ d, e1 = d + 1 := ⟨e1 - 1, by omega⟩
  exact mR_f h h2⟩
theorem mrel_s (h : ¬ (st = 2 ∧ fmO X = 0 ∧ kK s n = 40)) (h2 : stpS s fc st n X = .inr (st2, n2, X2)) (h3 : mRel s fc st2 n2 X2 r) : mRel s fc st n X r := by
  obtain ⟨e0, h3⟩ := h3
  refine ⟨e0 + 1, fun e1 h1 => ?_⟩
  obtain ⟨d, rfl⟩ : ∃ d, e1 = d + 1 := ⟨e1 - 1, by omega⟩
  rw [mR_c h h2]
  exact h3 d (by omega)
theorem sgs_in (k : Nat) : (sgs k = 0) ∨ (sgs k = 1 ∧ k = 11) ∨ (sgs k = 2 ∧ k = 12) ∨ (sgs k = 4 ∧ 32 ≤ k ∧ k ≤ 37) ∨ (sgs k = 5 ∧ (k = 28 ∨ k = 29)) ∨ (sgs k = 6 ∧ (k = 30 ∨ k = 31)) ∨ (sgs k = 7 ∧ 16 ≤ k ∧ k ≤ 18) := by
  unfold sgs stg
  by_cases e13 : k = 13
  · rw [if_pos e13]; omega
  rw [if_neg e13]
  by_cases e11 : k = 11
  · rw [if_pos e11]; omega
  rw [if_neg e11]
  by_cases e12 : k = 12
  · rw [if_pos e12]; omega
  rw [if_neg e12, if_neg e13]
  by_cases e4 : 32 ≤ k ∧ k ≤ 37
  · rw [if_pos e4]; omega
  rw [if_neg e4]
  by_cases e5 : k = 28 ∨ k = 29
  · rw [if_pos e5]; omega
  rw [if_neg e5]
  by_cases e6 : k = 30 ∨ k = 31
  · rw [if_pos e6]; omega
  rw [if_neg e6]
  by_cases e7 : 16 ≤ k ∧ k ≤ 18
  · rw [if_pos e7]; omega
  rw [if_neg e7]; omega
theorem sgs_stg (h : sgs k ≠ 0) : stg k = sgs k := by
  unfold sgs at h ⊢
  by_cases e : k = 13
  · rw [if_pos e] at h; exact absurd rfl h
  · rw [if_neg e]
theorem tie_id (h : stg (topK ws) < st) : tieF st (ws, hs, o, T, b, w) = (ws, hs, o, T, b, w) := by
  cases ws with
  | nil => rfl
  | cons q ws =>
    obtain ⟨k, p⟩ := q
    rw [tieF_c, if_neg (show ¬ st ≤ stg k by have h : stg k < st := h; omega)]
def okT (fc : Bool) (sl k : Nat) : Prop := sgs k ≠ 0 → sgs k ≤ lmS fc → (sgs k = 4 → 5 ≤ sl) ∧ (sgs k ≠ 4 → sgs k ≤ sl)
theorem sig_t (h1 : 1 ≤ stg k) (hK : okT fc (stg k) (kK s n)) : sigS s fc n ((k, p) :: ws, hs, o, T, b, w) = sigS s fc n (ws, tNk T :: tkH k hs, o, knT T k (tkX k hs) (tkY k p hs), b, oB w (tNk T)) := by
  have ht : ∀ a, a ≤ stg k → tieF a ((k, p) :: ws, hs, o, T, b, w) = tieF a (ws, tNk T :: tkH k hs, o, knT T k (tkX k hs) (tkY k p hs), b, oB w (tNk T)) := fun a ha => by rw [tieF_c, if_pos ha]
  unfold sigS
  rw [ht 1 h1]
  by_cases c1 : kK s n = 42 ∧ 0 < o
  · rw [if_pos (show kK s n = 42 ∧ 0 < fmO ((k, p) :: ws, hs, o, T, b, w) from c1), if_pos (show kK s n = 42 ∧ 0 < fmO (ws, tNk T :: tkH k hs, o, knT T k (tkX k hs) (tkY k p hs), b, oB w (tNk T)) from c1)]
  · rw [if_neg (show ¬ (kK s n = 42 ∧ 0 < fmO ((k, p) :: ws, hs, o, T, b, w)) from c1), if_neg (show ¬ (kK s n = 42 ∧ 0 < fmO (ws, tNk T :: tkH k hs, o, knT T k (tkX k hs) (tkY k p hs), b, oB w (tNk T))) from c1)]
    by_cases c2 : sgs (kK s n) = 0 ∨ lmS fc < sgs (kK s n)
    · rw [if_pos c2, if_pos c2]
    · rw [if_neg c2, if_neg c2]
      obtain ⟨k4, k5⟩ := hK (fun z => c2 (Or.inl z)) (by omega)
      by_cases c3 : sgs (kK s n) = 4
      · rw [ht 5 (k4 c3), if_pos c3, ht 5 (k4 c3)]
        rfl
      · have m1 : ¬ (sgs (kK s n) = 4 ∧ stg (topK (fmW (tieF 5 ((k, p) :: ws, hs, o, T, b, w)))) = 4) := fun z => c3 z.1
        have m2 : ¬ (sgs (kK s n) = 4 ∧ stg (topK (fmW (tieF 5 (ws, tNk T :: tkH k hs, o, knT T k (tkX k hs) (tkY k p hs), b, oB w (tNk T))))) = 4) := fun z => c3 z.1
        rw [if_neg m1, if_neg m2, if_neg c3, ht _ (k5 c3)]
        rfl
theorem mrel_t (h1 : 1 ≤ stg k) (hK : okT fc (stg k) (kK s n)) (h : mRel s fc 2 n (ws, tNk T :: tkH k hs, o, knT T k (tkX k hs) (tkY k p hs), b, oB w (tNk T)) r) : mRel s fc 2 n ((k, p) :: ws, hs, o, T, b, w) r := by
  obtain ⟨e0, h⟩ := h
  refine ⟨e0 + 1, fun e1 he => ?_⟩
  obtain ⟨d, rfl⟩ : ∃ d, e1 = d + 1 := ⟨e1 - 1, by omega⟩
  rw [← h (d + 1) (by omega)]
  by_cases hf : o = 0 ∧ kK s n = 40
  · rw [mR_e (x := ((k, p) :: ws, hs, o, T, b, w)) ⟨rfl, hf.1, hf.2⟩, mR_e (x := (ws, tNk T :: tkH k hs, o, knT T k (tkX k hs) (tkY k p hs), b, oB w (tNk T))) ⟨rfl, hf.1, hf.2⟩, tieF_c, if_pos h1]
  · have e : stpS s fc 2 n ((k, p) :: ws, hs, o, T, b, w) = stpS s fc 2 n (ws, tNk T :: tkH k hs, o, knT T k (tkX k hs) (tkY k p hs), b, oB w (tNk T)) := sig_t h1 hK
    have f1 : ¬ (2 = 2 ∧ fmO ((k, p) :: ws, hs, o, T, b, w) = 0 ∧ kK s n = 40) := fun q => hf q.2
    have f2 : ¬ (2 = 2 ∧ fmO (ws, tNk T :: tkH k hs, o, knT T k (tkX k hs) (tkY k p hs), b, oB w (tNk T)) = 0 ∧ kK s n = 40) := fun q => hf q.2
    cases er : stpS s fc 2 n (ws, tNk T :: tkH k hs, o, knT T k (tkX k hs) (tkY k p hs), b, oB w (tNk T)) with
    | inl z => rw [mR_f f1 (e.trans er), mR_f f2 er]
    | inr z =>
      obtain ⟨a1, a2, a3⟩ := z
      rw [mR_c f1 (e.trans er), mR_c f2 er]
def badK (l k : Nat) : Prop := ((l = 0 ∨ l = 4) ∧ (k = 11 ∨ k = 12)) ∨ ((l = 1 ∨ l = 5) ∧ k = 12) ∨ ((l = 6 ∨ l = 12) ∧ (k = 11 ∨ k = 12 ∨ (28 ≤ k ∧ k ≤ 31))) ∨ ((l = 7 ∨ l = 13) ∧ (k = 12 ∨ (28 ≤ k ∧ k ≤ 31))) ∨ ((l = 8 ∨ l = 9 ∨ l = 14) ∧ (28 ≤ k ∧ k ≤ 31)) ∨ ((l = 10 ∨ l = 15) ∧ (30 ≤ k ∧ k ≤ 31))
def spc (l k : Nat) : Prop := (l = 6 ∨ l = 7 ∨ l = 8 ∨ l = 12 ∨ l = 13) ∧ 32 ≤ k ∧ k ≤ 37
def fcl (l : Nat) : Bool := decide (l < 6)
def tpl (l : Nat) : Nat := if l = 0 ∨ l = 4 ∨ l = 6 ∨ l = 12 then 1 else if l = 1 ∨ l = 5 ∨ l = 7 ∨ l = 13 then 2 else if l = 8 then 4 else if l = 9 ∨ l = 14 then 5 else if l = 10 ∨ l = 15 then 6 else 9
/-- how an answer of the descent shows in the machine that starts at (st, n, X) -/
def SimR (s : uTk) (fc : Bool) (l st n : Nat) (X : fmT) (ws : List (Nat × Nat)) (hs : List Nat) (r : rxR) : Prop := match r with
  | .inl e => e.1 = 0 ∨ mRel s fc st n X (.inl e)
  | .inr y => ¬ badK l (kK s (rxN y)) ∧ (spc l (kK s (rxN y)) → mRel s fc st n X (.inl (1, rxN y))) ∧ (¬ spc l (kK s (rxN y)) → ∀ r, mRel s fc 2 (rxN y) (mcX ws (rtX y :: hs) y) r → mRel s fc st n X r)
def SimQ (s : uTk) (l st : Nat) (x : rxT) (ws : List (Nat × Nat)) (hs : List Nat) (r : rxR) : Prop := SimR s (fcl l) l st (rxN x) (mcX ws hs x) ws hs r
def SimL (s : uTk) (l : Nat) (x : rxT) (ws : List (Nat × Nat)) (hs : List Nat) (r : rxR) : Prop := SimR s (fcl l) l 2 (rxN x) (mcX ws (rtX x :: hs) x) ws hs r
theorem SimR.pre {r : rxR} (h : SimR s fc l st2 n2 X2 ws hs r) (hp : ∀ r, mRel s fc st2 n2 X2 r → mRel s fc st n X r) : SimR s fc l st n X ws hs r := by
  cases r with
  | inl e => exact h.elim Or.inl (fun z => Or.inr (hp _ z))
  | inr y => exact ⟨h.1, fun z => hp _ (h.2.1 z), fun z r hr => hp _ (h.2.2 z r hr)⟩
/-- a part, then a part that goes on where it stood -/
theorem bnd_sim {f h : rxT → rxR} (h1 : SimR s fc a st n X ws hs (f x)) (hsp : ∀ k, spc a k ↔ spc l k)
    (hz : ∀ z, f x = .inr z → spc a (kK s (rxN z)) → (h z = .inr z ∨ h z = .inl (0, 0)) ∧ ¬ badK l (kK s (rxN z)))
    (hn : ∀ z, f x = .inr z → ¬ badK a (kK s (rxN z)) → ¬ spc a (kK s (rxN z)) → SimR s fc l 2 (rxN z) (mcX ws (rtX z :: hs) z) ws hs (h z)) : SimR s fc l st n X ws hs (bnd (f x) h) := by
  cases e : f x with
  | inl e => rw [‹f x = _›] at h1; exact h1
  | inr z =>
    rw [e] at h1
    obtain ⟨g1, g2, g3⟩ := h1
    show SimR s fc l st n X ws hs (h z)
    by_cases hs' : spc a (kK s (rxN z))
    · obtain ⟨e1 | e1, hb⟩ := hz z e hs'
      · rw [e1]
        exact ⟨hb, fun _ => g2 hs', fun z2 => absurd ((hsp _).mp hs') z2⟩
      · rw [e1]; exact Or.inl rfl
    · exact (hn z e g1 hs').pre (g3 hs')
theorem nf2 (h : sgs (kK s n) ≠ 0) : ¬ (2 = 2 ∧ fmO X = 0 ∧ kK s n = 40) := fun z => by
  rcases sgs_in (kK s n) with e | e | e | e | e | e | e <;> first | exact h e | (have := z.2.2; omega)
/-- a sign of two operands behind the first -/
theorem lop_step {g : Nat} (hg : sgs (kK s (rxN x)) = g) (hg0 : g ≠ 0) (hgl : g ≤ lmS fc) (htp : stg (topK ws) < g) (hg4 : g = 4 → stg (topK ws) < 4) (r : rdT) :
    (64 ≤ rxB x → mRel s fc 2 (rxN x) (mcX ws hs x) (.inl (2, rxN x))) ∧ (¬ 64 ≤ rxB x → mRel s fc (if g ≤ 2 then 0 else 1) (rxN x + 1) (mcX ((kK s (rxN x), 0) :: ws) hs (nxB x)) r → mRel s fc 2 (rxN x) (mcX ws hs x) r) := by
  have h42 : ¬ (kK s (rxN x) = 42 ∧ 0 < fmO (mcX ws hs x)) := fun z => by
    rw [z.1] at hg; exact hg0 (hg.symm.trans rfl)
  have hv : ¬ (sgs (kK s (rxN x)) = 0 ∨ lmS fc < sgs (kK s (rxN x))) := by omega
  have hti : ∀ a, g ≤ a → tieF a (mcX ws hs x) = mcX ws hs x := fun a ha => tie_id (Nat.lt_of_lt_of_le htp ha)
  have hc : ¬ (sgs (kK s (rxN x)) = 4 ∧ stg (topK (fmW (tieF 5 (mcX ws hs x)))) = 4) := fun z => by
    have h4 : g = 4 := by omega
    have h5 := z.2
    rw [hti 5 (by omega)] at h5
    have h5 : stg (topK ws) = 4 := h5
    have := hg4 h4
    omega
  have hf := nf2 (X := mcX ws hs x) (show sgs (kK s (rxN x)) ≠ 0 by omega)
  have he : stpS s fc 2 (rxN x) (mcX ws hs x) = if 64 ≤ rxB x then .inl (2, rxN x) else .inr (if sgs (kK s (rxN x)) ≤ 2 then 0 else 1, rxN x + 1, hldX (kK s (rxN x)) 0 (begX (tieF (if sgs (kK s (rxN x)) = 4 then 5 else sgs (kK s (rxN x))) (mcX ws hs x)))) := (if_neg h42).trans ((if_neg hv).trans (if_neg hc))
  refine ⟨fun h64 => mrel_f hf (he.trans (if_pos h64)), fun h64 h3 => ?_⟩
  rw [if_neg h64, hti _ (by split <;> omega), hg] at he
  exact mrel_s hf he h3
theorem tkB (h : un1 k = false) {u v : Nat} : tkH k (u :: v :: hs) = hs ∧ tkX k (u :: v :: hs) = v ∧ tkY k p (u :: v :: hs) = u := by
  unfold tkH tkX tkY
  rw [h]
  exact ⟨rfl, rfl, rfl⟩
theorem tkU (h : un1 k = true) {u : Nat} : tkH k (u :: hs) = hs ∧ tkX k (u :: hs) = u ∧ tkY k p (u :: hs) = p := by
  unfold tkH tkX tkY
  rw [h]
  exact ⟨rfl, rfl, rfl⟩
theorem mrel_b (h1 : 1 ≤ stg k) (hu : un1 k = false) (hK : okT fc (stg k) (kK s (rxN y))) (h : mRel s fc 2 (rxN y) (mcX ws (rtX (adB k x y) :: hs) (adB k x y)) r) : mRel s fc 2 (rxN y) (mcX ((k, p) :: ws) (rtX y :: rtX x :: hs) y) r := by
  refine mrel_t h1 hK ?_
  obtain ⟨e1, e2, e3⟩ := tkB (hs := hs) (p := p) hu (u := rtX y) (v := rtX x)
  rw [e1, e2, e3]
  exact h
theorem mrel_u (h1 : 1 ≤ stg k) (hu : un1 k = true) (hK : okT fc (stg k) (kK s (rxN y))) (h : mRel s fc 2 (rxN y) (mcX ws (rtX (adU k p y) :: hs) (adU k p y)) r) : mRel s fc 2 (rxN y) (mcX ((k, p) :: ws) (rtX y :: hs) y) r := by
  refine mrel_t h1 hK ?_
  obtain ⟨e1, e2, e3⟩ := tkU (hs := hs) (p := p) hu (u := rtX y)
  rw [e1, e2, e3]
  exact h
theorem un1_s (h : sgs k ≠ 0) (h7 : sgs k ≠ 7) : un1 k = false := decide_eq_false (by
  rcases sgs_in k with e | e | e | e | e | e | e <;> omega)
/-- the loop over signs of one strength -/
theorem lop_sim {g : Nat → Bool} {f h : rxT → rxR} (hg : ∀ k, g k = true → sgs k = sl) (hs0 : sl ≠ 0) (hs4 : sl ≠ 4) (hs7 : sl ≠ 7) (hsl : sl ≤ lmS fc) (htp : stg (topK ws) < sl)
    (hok : ∀ k, ¬ badK a k → ¬ spc a k → okT fc sl k) (hsp : ∀ k, spc a k ↔ spc l k) (hns : ¬ spc l (kK s (rxN x)))
    (hbad : ∀ k, ¬ badK a k → g k = false → ¬ badK l k) (hcg : ∀ k, 32 ≤ k ∧ k ≤ 37 → g k = false)
    (hbx : ¬ badK a (kK s (rxN x)))
    (hh : ∀ z, g (kK s (rxN z)) = false → h z = .inr z ∨ h z = .inl (0, 0))
    (hf : g (kK s (rxN x)) = true → ¬ 64 ≤ rxB x → SimR s fc a (if sl ≤ 2 then 0 else 1) (rxN x + 1) (mcX ((kK s (rxN x), 0) :: ws) (rtX x :: hs) (nxB x)) ((kK s (rxN x), 0) :: ws) (rtX x :: hs) (f (nxB x)))
    (hn : ¬ 64 ≤ rxB x → ∀ y, f (nxB x) = .inr y → ¬ badK a (kK s (rxN y)) → ¬ spc a (kK s (rxN y)) → SimR s fc l 2 (rxN y) (mcX ws (rtX (adB (kK s (rxN x)) x y) :: hs) (adB (kK s (rxN x)) x y)) ws hs (h (adB (kK s (rxN x)) x y))) :
    SimR s fc l 2 (rxN x) (mcX ws (rtX x :: hs) x) ws hs (lopG s g f h x) := by
  unfold lopG
  by_cases hgx : g (kK s (rxN x)) = true
  · rw [if_pos hgx]
    have hgs := hg _ hgx
    obtain ⟨st1, st2⟩ := lop_step (x := x) (ws := ws) (hs := rtX x :: hs) (fc := fc) hgs hs0 hsl htp (fun z => absurd z hs4) (.inl (0, 0))
    by_cases h64 : 64 ≤ rxB x
    · rw [if_pos h64]; exact Or.inr (st1 h64)
    · rw [if_neg h64]
      have hp : ∀ r, mRel s fc (if sl ≤ 2 then 0 else 1) (rxN x + 1) (mcX ((kK s (rxN x), 0) :: ws) (rtX x :: hs) (nxB x)) r → mRel s fc 2 (rxN x) (mcX ws (rtX x :: hs) x) r := fun r => (lop_step (x := x) (ws := ws) (hs := rtX x :: hs) (fc := fc) hgs hs0 hsl htp (fun z => absurd z hs4) r).2 h64
      have h1 := hf hgx h64
      cases e : f (nxB x) with
      | inl e => rw [‹f (nxB x) = _›] at h1; exact h1.elim Or.inl (fun z => Or.inr (hp _ z))
      | inr y =>
        rw [e] at h1
        obtain ⟨g1, g2, g3⟩ := h1
        show SimR s fc l 2 (rxN x) (mcX ws (rtX x :: hs) x) ws hs (h (adB (kK s (rxN x)) x y))
        by_cases hy : spc a (kK s (rxN y))
        · have hgf := hcg _ hy.2
          rcases hh (adB (kK s (rxN x)) x y) hgf with e1 | e1
          · rw [e1]
            exact ⟨hbad _ g1 hgf, fun _ => hp _ (g2 hy), fun z => absurd ((hsp _).mp hy) z⟩
          · rw [e1]; exact Or.inl rfl
        · refine (hn h64 y e g1 hy).pre (fun r hr => hp _ (g3 hy r (mrel_b (by rw [sgs_stg (by omega), hgs]; omega) (un1_s (by omega) (by omega)) ?_ hr)))
          rw [sgs_stg (by omega), hgs]
          exact hok _ g1 hy
  · rw [if_neg hgx]
    exact ⟨hbad _ hbx (by simpa using hgx), fun z => absurd z hns, fun _ r hr => hr⟩
/-- a sign before its operand -/
theorem prf_sim {f : rxT → rxR} (hk : kK s (rxN x) = k) (hu : un1 k = true) (h1 : 1 ≤ stg k) (hst : st ≠ 2) (hsp : ∀ k, spc a k ↔ spc l k)
    (hok : ∀ k2, ¬ badK a k2 → ¬ spc a k2 → okT fc (stg k) k2) (hbad : ∀ k2, ¬ badK a k2 → ¬ badK l k2)
    (h64 : 64 ≤ rxB x → stpS s fc st (rxN x) (mcX ws hs x) = .inl (2, rxN x)) (hb : ¬ 64 ≤ rxB x → stpS s fc st (rxN x) (mcX ws hs x) = .inr (st2, rxN x + 1, mcX ((k, 0) :: ws) hs (nxB x)))
    (hf : ¬ 64 ≤ rxB x → SimR s fc a st2 (rxN x + 1) (mcX ((k, 0) :: ws) hs (nxB x)) ((k, 0) :: ws) hs (f (nxB x))) :
    SimR s fc l st (rxN x) (mcX ws hs x) ws hs (prf s f x) := by
  unfold prf
  have nf : ¬ (st = 2 ∧ fmO (mcX ws hs x) = 0 ∧ kK s (rxN x) = 40) := fun z => hst z.1
  by_cases hc : 64 ≤ rxB x
  · rw [if_pos hc]; exact Or.inr (mrel_f nf (h64 hc))
  · rw [if_neg hc]
    have hp : ∀ r, mRel s fc st2 (rxN x + 1) (mcX ((k, 0) :: ws) hs (nxB x)) r → mRel s fc st (rxN x) (mcX ws hs x) r := fun r => mrel_s nf (hb hc)
    have h2 := hf hc
    cases e : f (nxB x) with
    | inl e => rw [‹f (nxB x) = _›] at h2; exact h2.elim Or.inl (fun z => Or.inr (hp _ z))
    | inr y =>
      rw [e] at h2
      obtain ⟨g1, g2, g3⟩ := h2
      show SimR s fc l st (rxN x) (mcX ws hs x) ws hs (.inr (adU (kK s (rxN x)) 0 y))
      rw [hk]
      exact ⟨hbad _ g1, fun z => hp _ (g2 ((hsp _).mpr z)), fun z r hr => hp _ (g3 (fun q => z ((hsp _).mp q)) r (mrel_u h1 hu (hok _ g1 (fun q => z ((hsp _).mp q))) hr))⟩
theorem stp_e (hst : st ≠ 2) (hf : fc = true → facS s st n X = eitS (kK s n) st n X) (hv : fc = false → valS s st n X = eitS (kK s n) st n X) : stpS s fc st n X = eitS (kK s n) st n X := by
  unfold stpS
  rw [if_neg hst]
  cases fc with
  | true => exact hf rfl
  | false => exact hv rfl
theorem stp_e2 (hst : st ≠ 2) (hk : fc = true → ¬ (14 ≤ kK s n ∧ kK s n ≤ 20)) (hk2 : fc = false → kK s n ≠ 38 ∧ ¬ (21 ≤ kK s n ∧ kK s n ≤ 27)) : stpS s fc st n X = eitS (kK s n) st n X := by
  refine stp_e hst (fun e => ?_) (fun e => ?_)
  · have := hk e
    unfold facS
    rw [if_neg (by omega), if_neg (by omega), if_neg (by omega)]
  · have := hk2 e
    unfold valS
    rw [if_pos this]
/-- a bracket -/
theorem brk_sim {f : rxT → rxR} (hk : kK s (rxN x) = 41) (hst : st ≠ 2) (hla : a = 0 ∧ fc = true ∨ a = 6 ∧ fc = false) (hsl : ∀ k, ¬ spc l k) (hbl : ∀ k, ¬ badK l k) (hO : ∀ y, f (rxN x + 1, rxX x, rxB x, rxO x + 1, rxW x) = .inr y → rxO y = rxO x + 1)
    (hf : ¬ 8 ≤ rxO x → SimR s fc a 0 (rxN x + 1) (mcX ((41, 0) :: ws) hs (rxN x + 1, rxX x, rxB x, rxO x + 1, rxW x)) ((41, 0) :: ws) hs (f (rxN x + 1, rxX x, rxB x, rxO x + 1, rxW x))) :
    SimR s fc l st (rxN x) (mcX ws hs x) ws hs (brk s f x) := by
  have es : stpS s fc st (rxN x) (mcX ws hs x) = eitS (kK s (rxN x)) st (rxN x) (mcX ws hs x) := stp_e2 hst (fun _ => by omega) (fun _ => by omega)
  have nf : ¬ (st = 2 ∧ fmO (mcX ws hs x) = 0 ∧ kK s (rxN x) = 40) := fun z => hst z.1
  have ee : eitS (kK s (rxN x)) st (rxN x) (mcX ws hs x) = if 8 ≤ rxO x then .inl (2, rxN x) else .inr (0, rxN x + 1, mcX ((41, 0) :: ws) hs (rxN x + 1, rxX x, rxB x, rxO x + 1, rxW x)) := (if_neg (by omega)).trans (if_neg (by omega))
  unfold brk
  by_cases h8 : 8 ≤ rxO x
  · rw [if_pos h8]; exact Or.inr (mrel_f nf (es.trans (ee.trans (if_pos h8))))
  · rw [if_neg h8]
    have hp : ∀ r, mRel s fc 0 (rxN x + 1) (mcX ((41, 0) :: ws) hs (rxN x + 1, rxX x, rxB x, rxO x + 1, rxW x)) r → mRel s fc st (rxN x) (mcX ws hs x) r := fun r => mrel_s nf (es.trans (ee.trans (if_neg h8)))
    have h2 := hf h8
    cases e : f (rxN x + 1, rxX x, rxB x, rxO x + 1, rxW x) with
    | inl e => rw [‹f _ = _›] at h2; exact h2.elim Or.inl (fun z => Or.inr (hp _ z))
    | inr y =>
      have hO := hO y e
      rw [e] at h2
      obtain ⟨g1, g2, g3⟩ := h2
      have nf2 : ¬ (2 = 2 ∧ fmO (mcX ((41, 0) :: ws) (rtX y :: hs) y) = 0 ∧ kK s (rxN y) = 40) := fun z => by have z2 : rxO y = 0 := z.2.1; omega
      show SimR s fc l st (rxN x) (mcX ws hs x) ws hs (if kK s (rxN y) = 42 then .inr (rxN y + 1, rxX y, rxB y, rxO y - 1, rxW y) else .inl (1, rxN y))
      by_cases h42 : kK s (rxN y) = 42
      · rw [if_pos h42]
        have hns : ¬ spc a (kK s (rxN y)) := fun z => by have := z.2; omega
        refine ⟨hbl _, fun z => absurd z (hsl _), fun _ r hr => hp _ (g3 hns r (mrel_s nf2 (st2 := 2) (n2 := rxN y + 1) (X2 := mcX ws (rtX y :: hs) (rxN y + 1, rxX y, rxB y, rxO y - 1, rxW y)) ?_ hr))⟩
        show sigS s fc (rxN y) (mcX ((41, 0) :: ws) (rtX y :: hs) y) = _
        unfold sigS
        rw [if_pos ⟨h42, show 0 < rxO y by omega⟩, show tieF 1 (mcX ((41, 0) :: ws) (rtX y :: hs) y) = mcX ((41, 0) :: ws) (rtX y :: hs) y from tie_id (show stg 41 < 1 by decide)]
        rfl
      · rw [if_neg h42]
        refine Or.inr ?_
        by_cases hsy : spc a (kK s (rxN y))
        · exact hp _ (g2 hsy)
        · refine hp _ (g3 hsy _ (mrel_f nf2 ?_))
          show sigS s fc (rxN y) (mcX ((41, 0) :: ws) (rtX y :: hs) y) = _
          unfold sigS
          rw [if_neg (fun z => h42 z.1)]
          refine if_pos ?_
          unfold badK at g1
          unfold spc at hsy
          unfold lmS
          rcases hla with ⟨ha, hc⟩ | ⟨ha, hc⟩
          · rw [hc, if_pos rfl]
            rcases sgs_in (kK s (rxN y)) with e | e | e | e | e | e | e <;> omega
          · rw [hc, if_neg (by decide)]
            rcases sgs_in (kK s (rxN y)) with e | e | e | e | e | e | e <;> omega
theorem lea_sim : leaS s k (rxN x) (begX (mcX ws hs x)) = match leaL s k x with
  | .inl e => .inl e
  | .inr y => .inr (2, rxN y, mcX ws (rtX y :: hs) y) := by
  unfold leaS leaL
  by_cases e14 : k = 14
  · rw [if_pos e14, if_pos e14]
    unfold hatS
    by_cases c1 : zP s (rxN x + 1) x = -1
    · rw [if_pos (show knP s (rxN x + 1) (begX (mcX ws hs x)) = -1 from c1), if_pos c1]
    · rw [if_neg (show ¬ knP s (rxN x + 1) (begX (mcX ws hs x)) = -1 from c1), if_neg c1]
      by_cases c2 : zC s (rxN x + 2) x = -1
      · rw [if_pos (show knC s (rxN x + 2) (begX (mcX ws hs x)) = -1 from c2), if_pos c2]
      · rw [if_neg (show ¬ knC s (rxN x + 2) (begX (mcX ws hs x)) = -1 from c2), if_neg c2]; rfl
  · rw [if_neg e14, if_neg e14]
    by_cases e15 : k = 15
    · rw [if_pos e15, if_pos e15]
      unfold ownS
      by_cases c1 : zP s (rxN x + 1) x = -1
      · rw [if_pos (show knP s (rxN x + 1) (begX (mcX ws hs x)) = -1 from c1), if_pos c1]
      · rw [if_neg (show ¬ knP s (rxN x + 1) (begX (mcX ws hs x)) = -1 from c1), if_neg c1]; rfl
    · rw [if_neg e15, if_neg e15]
      by_cases e19 : k = 19
      · rw [if_pos e19, if_pos e19]
        unfold mnyS
        by_cases c1 : zC s (rxN x + 1) x = -1
        · rw [if_pos (show knC s (rxN x + 1) (begX (mcX ws hs x)) = -1 from c1), if_pos c1]
        · rw [if_neg (show ¬ knC s (rxN x + 1) (begX (mcX ws hs x)) = -1 from c1), if_neg c1]
          by_cases c2 : numB s (rxN x + 2) 6 = false
          · rw [if_pos c2, if_pos c2]
          · rw [if_neg c2, if_neg c2]; rfl
      · rw [if_neg e19, if_neg e19]
        unfold asS
        by_cases c1 : zA s (rxN x + 1) x = -1
        · rw [if_pos (show knA s (rxN x + 1) (begX (mcX ws hs x)) = -1 from c1), if_pos c1]
        · rw [if_neg (show ¬ knA s (rxN x + 1) (begX (mcX ws hs x)) = -1 from c1), if_neg c1]; rfl
def okS (l st k : Nat) : Prop := if l = 3 ∨ l = 9 ∨ l = 10 ∨ l = 11 then st ≤ 1 ∧ (st = 1 ∨ k ≠ 13) else st = 0
def SmA (s : uTk) (d : Nat) : Prop := ∀ l st x ws hs, (l ≤ 3 ∨ (6 ≤ l ∧ l ≤ 11)) → rxB x ≤ 64 → okS l st (kK s (rxN x)) → stg (topK ws) < tpl l → SimQ s l st x ws hs (rd s d l x)
def sbl (l : Nat) : Nat := if l = 4 then 1 else if l = 5 then 2 else if l = 12 then 7 else if l = 13 then 8 else if l = 14 then 10 else 11
def SmL (s : uTk) (d : Nat) : Prop := ∀ l x ws hs, (l = 4 ∨ l = 5 ∨ l = 12 ∨ l = 13 ∨ l = 14 ∨ l = 15) → rxB x ≤ 64 → stg (topK ws) < tpl l → ¬ badK (sbl l) (kK s (rxN x)) → ¬ spc l (kK s (rxN x)) → SimL s l x ws hs (rd s d l x)
theorem lop_z {g : Nat → Bool} {f h : rxT → rxR} (hg : g (kK s (rxN z)) = false) : lopG s g f h z = .inr z := if_neg (by rw [hg]; decide)
theorem isE_f {u v : Nat} (h : ¬ (k = u ∨ k = v)) : isE u v k = false := decide_eq_false h
theorem isE_t {u v : Nat} (h : isE u v k = true) : k = u ∨ k = v := of_decide_eq_true h
theorem isE_n {u v : Nat} (h : isE u v k = false) : ¬ (k = u ∨ k = v) := of_decide_eq_false h
theorem rd_l {u v a l : Nat} (e : ∀ d x, rd s (d + 1) l x = lopG s (isE u v) (rd s d a) (rd s d l) x) (d : Nat) (z : rxT) (h : isE u v (kK s (rxN z)) = false) : rd s d l z = .inr z ∨ rd s d l z = .inl (0, 0) := by
  cases d with
  | zero => exact Or.inr rfl
  | succ d => rw [e]; exact Or.inl (lop_z h)
theorem sbl_sp (l : Nat) (hl : l = 4 ∨ l = 5 ∨ l = 12 ∨ l = 13 ∨ l = 14 ∨ l = 15) (k : Nat) : spc (sbl l) k ↔ spc l k := by
  rcases hl with rfl | rfl | rfl | rfl | rfl | rfl <;> (unfold spc sbl; simp)
theorem tpl_9 (h : l = 2 ∨ l = 3 ∨ l = 11) : stg (topK ws) < tpl l := by
  have := stg_7 (k := topK ws)
  rcases h with rfl | rfl | rfl <;> (show _ < 9; omega)
theorem sm_l (ihA : SmA s d) (ihL : SmL s d) : SmL s (d + 1) := by
  intro l x ws hs hl h64 htp hbx hns
  have G : ∀ (u v sl a : Nat), (∀ d x, rd s (d + 1) l x = lopG s (isE u v) (rd s d a) (rd s d l) x) → a = sbl l → fcl a = fcl l → sgs u = sl → sgs v = sl → sl ≠ 0 → sl ≠ 4 → sl ≠ 7 → sl ≤ lmS (fcl l) → tpl l = sl → (∀ k, ¬ badK a k → ¬ spc a k → okT (fcl l) sl k) → (∀ k, ¬ badK a k → isE u v k = false → ¬ badK l k) → (a ≤ 3 ∨ (6 ≤ a ∧ a ≤ 11)) → (∀ k, okS a (if sl ≤ 2 then 0 else 1) k) → (stg u < tpl a ∧ stg v < tpl a) → isL2 a = 1 → (∀ k, 32 ≤ k ∧ k ≤ 37 → isE u v k = false) → SimL s l x ws hs (rd s (d + 1) l x) := by
    intro u v sl a e1 e2 e3 e4 e5 e6 e7 e8 e9 e10 e11 e12 e13 e14 e15 e16 e17
    rw [e1]
    have hsp : ∀ k, spc a k ↔ spc l k := fun k => by rw [e2]; exact sbl_sp l hl k
    refine lop_sim (sl := sl) (a := a) (fun k hk => ?_) e6 e7 e8 e9 (by rw [← e10]; exact htp) e11 hsp hns e12 e17 (by rw [e2]; exact hbx) (fun z hz => rd_l e1 d z hz) (fun hg hb => ?_) (fun hb y hy b1 b2 => ?_)
    · rcases isE_t hk with e | e
      · rw [e]; exact e4
      · rw [e]; exact e5
    · have := ihA a (if sl ≤ 2 then 0 else 1) (nxB x) ((kK s (rxN x), 0) :: ws) (rtX x :: hs) e13 (show rxB x + 1 ≤ 64 by omega) (e14 _) (by
        show stg (kK s (rxN x)) < _
        rcases isE_t hg with e | e
        · rw [e]; exact e15.1
        · rw [e]; exact e15.2)
      unfold SimQ at this
      rw [e3] at this
      exact this
    · have hq := (rd_q d a (nxB x) _ (show rxB x + 1 ≤ 64 by omega) hy).b (k := kK s (rxN x))
      exact ihL l (adB (kK s (rxN x)) x y) ws hs hl hq.2.2.1 htp (by rw [← e2]; exact b1) (fun q => b2 ((hsp _).mpr q))
  have OK : ∀ (fc : Bool) (sl k : Nat), (∀ g, sgs k = g → g ≠ 0 → g ≤ lmS fc → (g = 4 → 5 ≤ sl) ∧ (g ≠ 4 → g ≤ sl)) → okT fc sl k := fun fc sl k h h0 h1 => h _ rfl h0 h1
  rcases hl with rfl | rfl | rfl | rfl | rfl | rfl
  · exact G 11 11 1 1 (fun _ _ => rfl) rfl rfl rfl rfl (by decide) (by decide) (by decide) (by decide) rfl (fun k h1 h2 h0 hl => by
      have hl : sgs k ≤ 2 := hl
      unfold badK at h1
      rcases sgs_in k with e | e | e | e | e | e | e <;> omega) (fun k h1 h2 => by have := isE_n h2; unfold badK at h1 ⊢; omega) (by decide) (fun k => rfl) (by decide) rfl (fun k h => isE_f (by omega))
  · exact G 12 12 2 2 (fun _ _ => rfl) rfl rfl rfl rfl (by decide) (by decide) (by decide) (by decide) rfl (fun k h1 h2 h0 hl => by
      have hl : sgs k ≤ 2 := hl
      rcases sgs_in k with e | e | e | e | e | e | e <;> omega) (fun k h1 h2 => by have := isE_n h2; unfold badK at h1 ⊢; omega) (by decide) (fun k => rfl) (by decide) rfl (fun k h => isE_f (by omega))
  · exact G 11 11 1 7 (fun _ _ => rfl) rfl rfl rfl rfl (by decide) (by decide) (by decide) (by decide) rfl (fun k h1 h2 h0 hl => by
      have hl : sgs k ≤ 6 := hl
      unfold badK at h1
      unfold spc at h2
      rcases sgs_in k with e | e | e | e | e | e | e <;> omega) (fun k h1 h2 => by have := isE_n h2; unfold badK at h1 ⊢; omega) (by decide) (fun k => rfl) (by decide) rfl (fun k h => isE_f (by omega))
  · exact G 12 12 2 8 (fun _ _ => rfl) rfl rfl rfl rfl (by decide) (by decide) (by decide) (by decide) rfl (fun k h1 h2 h0 hl => by
      have hl : sgs k ≤ 6 := hl
      unfold badK at h1
      unfold spc at h2
      rcases sgs_in k with e | e | e | e | e | e | e <;> omega) (fun k h1 h2 => by have := isE_n h2; unfold badK at h1 ⊢; omega) (by decide) (fun k => rfl) (by decide) rfl (fun k h => isE_f (by omega))
  · exact G 28 29 5 10 (fun _ _ => rfl) rfl rfl rfl rfl (by decide) (by decide) (by decide) (by decide) rfl (fun k h1 h2 h0 hl => by
      have hl : sgs k ≤ 6 := hl
      unfold badK at h1
      rcases sgs_in k with e | e | e | e | e | e | e <;> omega) (fun k h1 h2 => by have := isE_n h2; unfold badK at h1 ⊢; omega) (by decide) (fun k => ⟨Nat.le_refl _, Or.inl rfl⟩) (by decide) rfl (fun k h => isE_f (by omega))
  · exact G 30 31 6 11 (fun _ _ => rfl) rfl rfl rfl rfl (by decide) (by decide) (by decide) (by decide) rfl (fun k h1 h2 h0 hl => by
      have hl : sgs k ≤ 6 := hl
      rcases sgs_in k with e | e | e | e | e | e | e <;> omega) (fun k h1 h2 => by have := isE_n h2; unfold badK at h1 ⊢; omega) (by decide) (fun k => ⟨Nat.le_refl _, Or.inl rfl⟩) (by decide) rfl (fun k h => isE_f (by omega))
end SM1
