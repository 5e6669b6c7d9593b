/-! ===== the formulas by descent: the spec ===== -/
section RD1
variable {k p q i j l m n c t d : Nat} {s : uTk} {T T2 : uTx} {w : Int64}
/-- token, text, begun, open, needs -/
abbrev rxT : Type := Nat × uTx × Nat × Nat × Int64
abbrev rxR : Type := (Nat × Nat) ⊕ rxT
variable {x y z : rxT}
def rxN (x : rxT) : Nat := x.1
def rxX (x : rxT) : uTx := x.2.1
def rxB (x : rxT) : Nat := x.2.2.1
def rxO (x : rxT) : Nat := x.2.2.2.1
def rxW (x : rxT) : Int64 := x.2.2.2.2
def bnd (r : rxR) (f : rxT → rxR) : rxR := match r with
  | .inl e => .inl e
  | .inr y => f y
def nxB (x : rxT) : rxT := (rxN x + 1, rxX x, rxB x + 1, rxO x, rxW x)
def adU (k p : Nat) (y : rxT) : rxT := (rxN y, knT (rxX y) k (tNk (rxX y) - 1) p, rxB y, rxO y, oB (rxW y) (tNk (rxX y)))
def adB (k : Nat) (x y : rxT) : rxT := (rxN y, knT (rxX y) k (tNk (rxX x) - 1) (tNk (rxX y) - 1), rxB y, rxO y, oB (rxW y) (tNk (rxX y)))
def kpR (k a c n : Nat) (x : rxT) : rxT := (n, knT (rxX x) k a c, rxB x + 1, rxO x, oB (rxW x) (tNk (rxX x)))
def zP (s : uTk) (n : Nat) (x : rxT) : Int := knoZ s n (tPn (rxX x)) (tNp (rxX x))
def zC (s : uTk) (n : Nat) (x : rxT) : Int := knoZ s n (tCn (rxX x)) (tNc (rxX x))
def zA (s : uTk) (n : Nat) (x : rxT) : Int := knoZ s n (tFn (rxX x)) (tNf (rxX x))
def leaL (s : uTk) (k : Nat) (x : rxT) : rxR :=
  if k = 14 then (if zP s (rxN x + 1) x = -1 then .inl (knoF s (rxN x + 1), rxN x + 1) else if zC s (rxN x + 2) x = -1 then .inl (knoF s (rxN x + 2), rxN x + 2) else .inr (kpR 14 (zP s (rxN x + 1) x).toNat (zC s (rxN x + 2) x).toNat (rxN x + 3) x))
  else if k = 15 then (if zP s (rxN x + 1) x = -1 then .inl (knoF s (rxN x + 1), rxN x + 1) else .inr (kpR 15 (zP s (rxN x + 1) x).toNat 0 (rxN x + 2) x))
  else if k = 19 then (if zC s (rxN x + 1) x = -1 then .inl (knoF s (rxN x + 1), rxN x + 1) else if numB s (rxN x + 2) 6 = false then .inl (numF s (rxN x + 2), rxN x + 2) else .inr (kpR 19 (zC s (rxN x + 1) x).toNat (kV s (rxN x + 2)) (rxN x + 3) x))
  else (if zA s (rxN x + 1) x = -1 then .inl (knoF s (rxN x + 1), rxN x + 1) else .inr (kpR 20 (zA s (rxN x + 1) x).toNat (tRo (rxX x) (zA s (rxN x + 1) x).toNat) (rxN x + 2) (rxN x, rxX x, rxB x, rxO x, rxW x ||| tNe (rxX x) (zA s (rxN x + 1) x).toNat)))
def brk (s : uTk) (f : rxT → rxR) (x : rxT) : rxR := if 8 ≤ rxO x then .inl (2, rxN x) else bnd (f (rxN x + 1, rxX x, rxB x, rxO x + 1, rxW x)) (fun y => if kK s (rxN y) = 42 then .inr (rxN y + 1, rxX y, rxB y, rxO y - 1, rxW y) else .inl (1, rxN y))
def lopG (s : uTk) (g : Nat → Bool) (f h : rxT → rxR) (x : rxT) : rxR := if g (kK s (rxN x)) = true then (if 64 ≤ rxB x then .inl (2, rxN x) else bnd (f (nxB x)) (fun y => h (adB (kK s (rxN x)) x y))) else .inr x
def prf (s : uTk) (f : rxT → rxR) (x : rxT) : rxR := if 64 ≤ rxB x then .inl (2, rxN x) else bnd (f (nxB x)) (fun y => .inr (adU (kK s (rxN x)) 0 y))
def plnL (s : uTk) (f h : rxT → rxR) (x : rxT) : rxR := if kK s (rxN x) = 41 then brk s f x
  else if kK s (rxN x) < 14 ∨ 20 < kK s (rxN x) then .inl (1, rxN x)
  else if 64 ≤ rxB x then .inl (2, rxN x)
  else if kK s (rxN x) = 16 then (if zP s (rxN x + 1) x = -1 then .inl (knoF s (rxN x + 1), rxN x + 1) else bnd (h (rxN x + 2, rxX x, rxB x + 1, rxO x, rxW x)) (fun y => .inr (adU 16 (zP s (rxN x + 1) x).toNat y)))
  else if kK s (rxN x) = 17 ∨ kK s (rxN x) = 18 then bnd (h (nxB x)) (fun y => .inr (adU (kK s (rxN x)) 0 y))
  else leaL s (kK s (rxN x)) x
def prmL (s : uTk) (f : rxT → rxR) (x : rxT) : rxR := if kK s (rxN x) = 41 then brk s f x
  else if kK s (rxN x) = 38 then (if numB s (rxN x) 9999 = false then .inl (2, rxN x) else if 64 ≤ rxB x then .inl (2, rxN x) else .inr (kpR 38 (kV s (rxN x)) 0 (rxN x + 1) x))
  else if kK s (rxN x) < 21 ∨ 27 < kK s (rxN x) then .inl (1, rxN x)
  else if 64 ≤ rxB x then .inl (2, rxN x) else .inr (kpR (kK s (rxN x)) 0 0 (rxN x + 1) x)
def isC (k : Nat) : Bool := decide (32 ≤ k ∧ k ≤ 37)
def isE (a b k : Nat) : Bool := decide (k = a ∨ k = b)
def negL (s : uTk) (f h : rxT → rxR) (x : rxT) : rxR := if kK s (rxN x) = 13 then prf s f x else bnd (h x) (lopG s isC h .inr)
def rd (s : uTk) : Nat → Nat → rxT → rxR
  | 0, _, _ => .inl (0, 0)
  | d + 1, l, x =>
    if l = 0 then bnd (rd s d 1 x) (rd s d 4)
    else if l = 1 then bnd (rd s d 2 x) (rd s d 5)
    else if l = 2 then (if kK s (rxN x) = 13 then prf s (rd s d 2) x else rd s d 3 x)
    else if l = 3 then plnL s (rd s d 0) (rd s d 3) x
    else if l = 4 then lopG s (isE 11 11) (rd s d 1) (rd s d 4) x
    else if l = 5 then lopG s (isE 12 12) (rd s d 2) (rd s d 5) x
    else if l = 6 then bnd (rd s d 7 x) (rd s d 12)
    else if l = 7 then bnd (rd s d 8 x) (rd s d 13)
    else if l = 8 then negL s (rd s d 8) (rd s d 9) x
    else if l = 9 then bnd (rd s d 10 x) (rd s d 14)
    else if l = 10 then bnd (rd s d 11 x) (rd s d 15)
    else if l = 11 then prmL s (rd s d 6) x
    else if l = 12 then lopG s (isE 11 11) (rd s d 7) (rd s d 12) x
    else if l = 13 then lopG s (isE 12 12) (rd s d 8) (rd s d 13) x
    else if l = 14 then lopG s (isE 28 29) (rd s d 10) (rd s d 14) x
    else lopG s (isE 30 31) (rd s d 11) (rd s d 15) x
theorem rd_0 : rd s (d + 1) 0 x = bnd (rd s d 1 x) (rd s d 4) := rfl
theorem rd_1 : rd s (d + 1) 1 x = bnd (rd s d 2 x) (rd s d 5) := rfl
theorem rd_2 : rd s (d + 1) 2 x = (if kK s (rxN x) = 13 then prf s (rd s d 2) x else rd s d 3 x) := rfl
theorem rd_3 : rd s (d + 1) 3 x = plnL s (rd s d 0) (rd s d 3) x := rfl
theorem rd_4 : rd s (d + 1) 4 x = lopG s (isE 11 11) (rd s d 1) (rd s d 4) x := rfl
theorem rd_5 : rd s (d + 1) 5 x = lopG s (isE 12 12) (rd s d 2) (rd s d 5) x := rfl
theorem rd_6 : rd s (d + 1) 6 x = bnd (rd s d 7 x) (rd s d 12) := rfl
theorem rd_7 : rd s (d + 1) 7 x = bnd (rd s d 8 x) (rd s d 13) := rfl
theorem rd_8 : rd s (d + 1) 8 x = negL s (rd s d 8) (rd s d 9) x := rfl
theorem rd_9 : rd s (d + 1) 9 x = bnd (rd s d 10 x) (rd s d 14) := rfl
theorem rd_10 : rd s (d + 1) 10 x = bnd (rd s d 11 x) (rd s d 15) := rfl
theorem rd_11 : rd s (d + 1) 11 x = prmL s (rd s d 6) x := rfl
theorem rd_12 : rd s (d + 1) 12 x = lopG s (isE 11 11) (rd s d 7) (rd s d 12) x := rfl
theorem rd_13 : rd s (d + 1) 13 x = lopG s (isE 12 12) (rd s d 8) (rd s d 13) x := rfl
theorem rd_14 : rd s (d + 1) 14 x = lopG s (isE 28 29) (rd s d 10) (rd s d 14) x := rfl
theorem rd_15 : rd s (d + 1) 15 x = lopG s (isE 30 31) (rd s d 11) (rd s d 15) x := rfl
/-- what an answer keeps; e: whether a knot was surely begun -/
def RxQ (e : Nat) (x y : rxT) : Prop := rxO y = rxO x ∧ rxB x + e ≤ rxB y ∧ rxB y ≤ 64 ∧ tNk (rxX y) + rxB x = tNk (rxX x) + rxB y ∧ SmT (rxX x) (rxX y)
theorem RxQ.tr {e f g : Nat} (h : RxQ e x y) (h2 : RxQ f y z) (hg : g ≤ e + f) : RxQ g x z := ⟨h2.1.trans h.1, by have := h.2.1; have := h2.2.1; omega, h2.2.2.1, by have := h.2.2.2.1; have := h2.2.2.2.1; omega, h.2.2.2.2.tr h2.2.2.2.2⟩
theorem RxQ.kp {a c : Nat} (h : rxB x < 64) : RxQ 1 x (kpR k a c n x) := ⟨rfl, Nat.le_refl _, h, show tNk (rxX x) + 1 + rxB x = tNk (rxX x) + (rxB x + 1) by omega, SmT.kn⟩
theorem RxQ.u {e : Nat} (h : RxQ e (nxB x) y) : RxQ 1 x (adU k p y) := ⟨h.1, by have h2 : rxB x + 1 + e ≤ rxB y := h.2.1; show rxB x + 1 ≤ rxB y; omega, h.2.2.1, by have h2 : tNk (rxX y) + (rxB x + 1) = tNk (rxX x) + rxB y := h.2.2.2.1; show tNk (rxX y) + 1 + rxB x = tNk (rxX x) + rxB y; omega, h.2.2.2.2.tr SmT.kn⟩
theorem RxQ.b {e : Nat} (h : RxQ e (nxB x) y) : RxQ 1 x (adB k x y) := ⟨h.1, by have h2 : rxB x + 1 + e ≤ rxB y := h.2.1; show rxB x + 1 ≤ rxB y; omega, h.2.2.1, by have h2 : tNk (rxX y) + (rxB x + 1) = tNk (rxX x) + rxB y := h.2.2.2.1; show tNk (rxX y) + 1 + rxB x = tNk (rxX x) + rxB y; omega, h.2.2.2.2.tr SmT.kn⟩
theorem RxQ.rf (h : rxB x ≤ 64) : RxQ 0 x x := ⟨rfl, Nat.le_refl _, h, rfl, SmT.rf⟩
/-- a part that answers as it must from every start -/
def PtQ (e : Nat) (f : rxT → rxR) : Prop := ∀ x y, rxB x ≤ 64 → f x = .inr y → RxQ e x y
theorem bnd_r {r : rxR} {f : rxT → rxR} (h : bnd r f = .inr y) : ∃ z, r = .inr z ∧ f z = .inr y := by
  cases r with
  | inl e => cases h
  | inr z => exact ⟨z, rfl, h⟩
theorem brk_q {f : rxT → rxR} {e : Nat} (hf : PtQ e f) : PtQ e (brk s f) := fun x y hb h => by
  unfold brk at h
  split at h
  · cases h
  · obtain ⟨z, h1, h2⟩ := bnd_r h
    have hz := hf _ _ (show rxB (rxN x + 1, rxX x, rxB x, rxO x + 1, rxW x) ≤ 64 from hb) h1
    split at h2
    · cases h2
      have hO : rxO z = rxO x + 1 := hz.1
      exact ⟨show rxO z - 1 = rxO x by omega, hz.2.1, hz.2.2.1, hz.2.2.2.1, hz.2.2.2.2⟩
    · cases h2
theorem lopG_q {g : Nat → Bool} {f h : rxT → rxR} {e : Nat} (hf : PtQ e f) (hh : PtQ 0 h) : PtQ 0 (lopG s g f h) := fun x y hb h => by
  unfold lopG at h
  split at h
  · split at h
    · cases h
    · obtain ⟨z, h1, h2⟩ := bnd_r h
      have hz := (hf (nxB x) _ (show rxB x + 1 ≤ 64 by omega) h1).b (k := kK s (rxN x))
      exact hz.tr (hh _ _ hz.2.2.1 h2) (by omega)
  · cases h; exact RxQ.rf hb
theorem prf_q {f : rxT → rxR} {e : Nat} (hf : PtQ e f) : PtQ 1 (prf s f) := fun x y hb h => by
  unfold prf at h
  split at h
  · cases h
  · obtain ⟨z, h1, h2⟩ := bnd_r h
    cases h2
    exact (hf (nxB x) _ (show rxB x + 1 ≤ 64 by omega) h1).u
theorem bnd_q {f h : rxT → rxR} {e : Nat} (hf : PtQ e f) (hh : PtQ 0 h) : PtQ e (fun x => bnd (f x) h) := fun x y hb hx => by
  obtain ⟨z, h1, h2⟩ := bnd_r hx
  have hz := hf _ _ hb h1
  exact hz.tr (hh _ _ hz.2.2.1 h2) (by omega)
theorem lea_q : PtQ 1 (fun x => if 64 ≤ rxB x then .inl (2, rxN x) else leaL s k x) := fun x y hb h => by
  dsimp only at h
  split at h
  · cases h
  · rename_i h64
    unfold leaL at h
    split at h
    · split at h
      · cases h
      · split at h
        · cases h
        · cases h; exact RxQ.kp (by omega)
    · split at h
      · split at h
        · cases h
        · cases h; exact RxQ.kp (by omega)
      · split at h
        · split at h
          · cases h
          · split at h
            · cases h
            · cases h; exact RxQ.kp (by omega)
        · split at h
          · cases h
          · cases h; exact RxQ.kp (x := (rxN x, rxX x, rxB x, rxO x, _)) (by show rxB x < 64; omega)
theorem pln_q {f h : rxT → rxR} (hf : PtQ 1 f) (hh : PtQ 1 h) : PtQ 1 (plnL s f h) := fun x y hb e => by
  unfold plnL at e
  split at e
  · exact brk_q hf x y hb e
  · split at e
    · cases e
    · split at e
      · cases e
      · rename_i h1 h2 h64
        split at e
        · split at e
          · cases e
          · obtain ⟨z, h1, h2⟩ := bnd_r e
            cases h2
            exact RxQ.u (k := 16) (p := (zP s (rxN x + 1) x).toNat) (show RxQ 1 (nxB x) z from hh (rxN x + 2, rxX x, rxB x + 1, rxO x, rxW x) _ (show rxB x + 1 ≤ 64 by omega) h1)
        · split at e
          · obtain ⟨z, h1, h2⟩ := bnd_r e
            cases h2
            exact (hh (nxB x) _ (show rxB x + 1 ≤ 64 by omega) h1).u
          · exact lea_q (s := s) (k := kK s (rxN x)) x y hb ((if_neg h64).trans e)
theorem prm_q {f : rxT → rxR} (hf : PtQ 1 f) : PtQ 1 (prmL s f) := fun x y hb e => by
  unfold prmL at e
  split at e
  · exact brk_q hf x y hb e
  · split at e
    · split at e
      · cases e
      · split at e
        · cases e
        · cases e; exact RxQ.kp (by omega)
    · split at e
      · cases e
      · split at e
        · cases e
        · cases e; exact RxQ.kp (by omega)
theorem inr_q : PtQ 0 (fun x => .inr x) := fun x y hb e => by cases e; exact RxQ.rf hb
theorem neg_q {f h : rxT → rxR} (hf : PtQ 1 f) (hh : PtQ 1 h) : PtQ 1 (negL s f h) := fun x y hb e => by
  unfold negL at e
  split at e
  · exact prf_q hf x y hb e
  · exact bnd_q hh (lopG_q hh inr_q) x y hb e
def isL2 (l : Nat) : Nat := if l = 4 ∨ l = 5 ∨ 12 ≤ l then 0 else 1
theorem rd_q : ∀ d l, PtQ (isL2 l) (rd s d l)
  | 0, l => fun x y _ h => by cases h
  | d + 1, l => by
    have ih := fun l => rd_q d l
    have H : ∀ l, l ≤ 15 → PtQ (isL2 l) (rd s (d + 1) l) := by
      intro l hl
      have : l = 0 ∨ l = 1 ∨ l = 2 ∨ l = 3 ∨ l = 4 ∨ l = 5 ∨ l = 6 ∨ l = 7 ∨ l = 8 ∨ l = 9 ∨ l = 10 ∨ l = 11 ∨ l = 12 ∨ l = 13 ∨ l = 14 ∨ l = 15 := by omega
      rcases this with rfl | rfl | rfl | rfl | rfl | rfl | rfl | rfl | rfl | rfl | rfl | rfl | rfl | rfl | rfl | rfl
      · exact bnd_q (ih 1) (ih 4)
      · exact bnd_q (ih 2) (ih 5)
      · intro x y hb e
        rw [rd_2] at e
        split at e
        · exact prf_q (ih 2) x y hb e
        · exact ih 3 x y hb e
      · exact pln_q (ih 0) (ih 3)
      · exact lopG_q (ih 1) (ih 4)
      · exact lopG_q (ih 2) (ih 5)
      · exact bnd_q (ih 7) (ih 12)
      · exact bnd_q (ih 8) (ih 13)
      · exact neg_q (ih 8) (ih 9)
      · exact bnd_q (ih 10) (ih 14)
      · exact bnd_q (ih 11) (ih 15)
      · exact prm_q (ih 6)
      · exact lopG_q (ih 7) (ih 12)
      · exact lopG_q (ih 8) (ih 13)
      · exact lopG_q (ih 10) (ih 14)
      · exact lopG_q (ih 11) (ih 15)
    by_cases hl : l ≤ 15
    · exact H l hl
    · have e : rd s (d + 1) l = rd s (d + 1) 15 := by
        funext x
        show (if l = 0 then _ else if l = 1 then _ else if l = 2 then _ else if l = 3 then _ else if l = 4 then _ else if l = 5 then _ else if l = 6 then _ else if l = 7 then _ else if l = 8 then _ else if l = 9 then _ else if l = 10 then _ else if l = 11 then _ else if l = 12 then _ else if l = 13 then _ else if l = 14 then _ else _) = _
        rw [if_neg (by omega), if_neg (by omega), if_neg (by omega), if_neg (by omega), if_neg (by omega), if_neg (by omega), if_neg (by omega), if_neg (by omega), if_neg (by omega), if_neg (by omega), if_neg (by omega), if_neg (by omega), if_neg (by omega), if_neg (by omega), if_neg (by omega)]
        rfl
      have e2 : isL2 l = isL2 15 := by unfold isL2; rw [if_pos (by omega), if_pos (by omega)]
      rw [e, e2]
      exact H 15 (by decide)
/-- never out of breath -/
def NjQ (r : rxR) : Prop := ∀ m, r ≠ .inl (0, m)
theorem knoF_0 : knoF s n ≠ 0 := by unfold knoF; split <;> decide
theorem numF_0 : numF s n ≠ 0 := by unfold numF; split <;> decide
theorem nj_c (h : c ≠ 0) : NjQ (.inl (c, m)) := fun m2 e => by cases e; exact h rfl
theorem nj_r : NjQ (.inr x) := fun m e => by cases e
theorem bnd_nj {r : rxR} {f : rxT → rxR} (h : NjQ r) (h2 : ∀ z, r = .inr z → NjQ (f z)) : NjQ (bnd r f) := by
  cases r with
  | inl e => exact fun m z => h m z
  | inr y => exact h2 y rfl
def mu (x : rxT) : Nat := 9 * (64 - rxB x) + (8 - rxO x)
def rnk (l : Nat) : Nat := if l = 0 then 3 else if l = 1 then 2 else if l = 2 then 1 else if l = 6 then 5 else if l = 7 then 4 else if l = 8 then 3 else if l = 9 then 2 else if l = 10 then 1 else 0
def NjF (s : uTk) (d : Nat) : Prop := ∀ l, l ≤ 15 → ∀ x, 12 * mu x + rnk l < d → rxB x ≤ 64 → rxO x ≤ 8 → NjQ (rd s d l x)
theorem mu_b (h : rxB x < rxB y) (h2 : rxB y ≤ 64) (h3 : rxO y = rxO x) : mu y + 9 ≤ mu x := by unfold mu; omega
theorem mu_o (h : rxO y = rxO x + 1) (h2 : rxO y ≤ 8) (h3 : rxB y = rxB x) : mu y + 1 ≤ mu x := by unfold mu; omega
theorem lop_nj {g : Nat → Bool} {a l : Nat} (ih : NjF s d) (ha : a ≤ 15) (hl : l ≤ 15) (hra : rnk a ≤ 5) (hrl : rnk l = 0) (h1 : isL2 a = 1) (hd : 12 * mu x < d + 1) (hb : rxB x ≤ 64) (ho : rxO x ≤ 8) : NjQ (lopG s g (rd s d a) (rd s d l) x) := by
  unfold lopG
  split
  · split
    · exact nj_c (by decide)
    · rename_i h64
      have e1 : mu (nxB x) + 9 ≤ mu x := mu_b (show rxB x < rxB x + 1 by omega) (show rxB x + 1 ≤ 64 by omega) rfl
      refine bnd_nj (ih a ha _ (by omega) (show rxB x + 1 ≤ 64 by omega) ho) (fun z hz => ?_)
      have hq := (rd_q d a (nxB x) _ (show rxB x + 1 ≤ 64 by omega) hz).b (k := kK s (rxN x))
      have e2 := mu_b (x := x) (y := adB (kK s (rxN x)) x z) (by have := hq.2.1; omega) hq.2.2.1 hq.1
      exact ih l hl _ (by omega) hq.2.2.1 (by rw [hq.1]; exact ho)
  · exact nj_r
theorem bnd_nj2 {a l : Nat} (ih : NjF s d) (ha : a ≤ 15) (hl : l ≤ 15) (hrl : rnk l = 0) (h1 : isL2 a = 1) (hd : 12 * mu x + rnk a < d) (hb : rxB x ≤ 64) (ho : rxO x ≤ 8) : NjQ (bnd (rd s d a x) (rd s d l)) := by
  refine bnd_nj (ih a ha _ hd hb ho) (fun z hz => ?_)
  have hq := rd_q d a _ _ hb hz
  rw [h1] at hq
  have e2 := mu_b (x := x) (y := z) (by have := hq.2.1; omega) hq.2.2.1 hq.1
  exact ih l hl _ (by omega) hq.2.2.1 (by rw [hq.1]; exact ho)
theorem brk_nj {a : Nat} (ih : NjF s d) (ha : a ≤ 15) (hra : rnk a ≤ 5) (hd : 12 * mu x < d + 1) (hb : rxB x ≤ 64) (ho : rxO x ≤ 8) : NjQ (brk s (rd s d a) x) := by
  unfold brk
  split
  · exact nj_c (by decide)
  · have e1 : mu (rxN x + 1, rxX x, rxB x, rxO x + 1, rxW x) + 1 ≤ mu x := mu_o rfl (show rxO x + 1 ≤ 8 by omega) rfl
    refine bnd_nj (ih a ha _ (by omega) hb (show rxO x + 1 ≤ 8 by omega)) (fun z hz => ?_)
    split
    · exact nj_r
    · exact nj_c (by decide)
theorem prf_nj {a : Nat} (ih : NjF s d) (ha : a ≤ 15) (hra : rnk a ≤ 5) (hd : 12 * mu x < d + 1) (hb : rxB x ≤ 64) (ho : rxO x ≤ 8) : NjQ (prf s (rd s d a) x) := by
  unfold prf
  split
  · exact nj_c (by decide)
  · have e1 : mu (nxB x) + 9 ≤ mu x := mu_b (show rxB x < rxB x + 1 by omega) (show rxB x + 1 ≤ 64 by omega) rfl
    exact bnd_nj (ih a ha _ (by omega) (show rxB x + 1 ≤ 64 by omega) ho) (fun z hz => nj_r)
theorem lea_nj : NjQ (leaL s k x) := by
  unfold leaL
  repeat' split
  all_goals first | exact nj_c knoF_0 | exact nj_c numF_0 | exact nj_r
theorem pln_nj (ih : NjF s d) (hd : 12 * mu x < d + 1) (hb : rxB x ≤ 64) (ho : rxO x ≤ 8) : NjQ (plnL s (rd s d 0) (rd s d 3) x) := by
  unfold plnL
  split
  · exact brk_nj ih (by decide) (by decide) hd hb ho
  · split
    · exact nj_c (by decide)
    · split
      · exact nj_c (by decide)
      · have e1 : mu (nxB x) + 9 ≤ mu x := mu_b (show rxB x < rxB x + 1 by omega) (show rxB x + 1 ≤ 64 by omega) rfl
        split
        · split
          · exact nj_c knoF_0
          · exact bnd_nj (ih 3 (by decide) _ (by show 12 * mu (nxB x) + 0 < d; omega) (show rxB x + 1 ≤ 64 by omega) ho) (fun z hz => nj_r)
        · split
          · exact bnd_nj (ih 3 (by decide) _ (by show 12 * mu (nxB x) + 0 < d; omega) (show rxB x + 1 ≤ 64 by omega) ho) (fun z hz => nj_r)
          · exact lea_nj
theorem prm_nj (ih : NjF s d) (hd : 12 * mu x < d + 1) (hb : rxB x ≤ 64) (ho : rxO x ≤ 8) : NjQ (prmL s (rd s d 6) x) := by
  unfold prmL
  split
  · exact brk_nj ih (by decide) (by decide) hd hb ho
  · repeat' split
    all_goals first | exact nj_c (by decide) | exact nj_r
theorem neg_nj (ih : NjF s d) (hd : 12 * mu x + 3 < d + 1) (hb : rxB x ≤ 64) (ho : rxO x ≤ 8) : NjQ (negL s (rd s d 8) (rd s d 9) x) := by
  unfold negL
  split
  · exact prf_nj ih (by decide) (by decide) (by omega) hb ho
  · refine bnd_nj (ih 9 (by decide) _ (by show 12 * mu x + 2 < d; omega) hb ho) (fun z hz => ?_)
    have hq := rd_q d 9 _ _ hb hz
    have e2 := mu_b (x := x) (y := z) (by have : rxB x + 1 ≤ rxB z := hq.2.1; omega) hq.2.2.1 hq.1
    unfold lopG
    split
    · split
      · exact nj_c (by decide)
      · have e1 : mu (nxB z) + 9 ≤ mu z := mu_b (show rxB z < rxB z + 1 by omega) (show rxB z + 1 ≤ 64 by omega) rfl
        exact bnd_nj (ih 9 (by decide) _ (by show 12 * mu (nxB z) + 2 < d; omega) (show rxB z + 1 ≤ 64 by omega) (show rxO z ≤ 8 by rw [hq.1]; exact ho)) (fun z hz => nj_r)
    · exact nj_r
theorem rd_nj : ∀ d, NjF s d
  | 0 => fun l hl x h => absurd h (Nat.not_lt_zero _)
  | d + 1 => fun l hl x h hb ho => by
    have ih := rd_nj d
    have : l = 0 ∨ l = 1 ∨ l = 2 ∨ l = 3 ∨ l = 4 ∨ l = 5 ∨ l = 6 ∨ l = 7 ∨ l = 8 ∨ l = 9 ∨ l = 10 ∨ l = 11 ∨ l = 12 ∨ l = 13 ∨ l = 14 ∨ l = 15 := by omega
    rcases this with rfl | rfl | rfl | rfl | rfl | rfl | rfl | rfl | rfl | rfl | rfl | rfl | rfl | rfl | rfl | rfl
    · have h : 12 * mu x + 3 < d + 1 := h
      exact bnd_nj2 ih (by decide) (by decide) rfl rfl (show 12 * mu x + 2 < d by omega) hb ho
    · have h : 12 * mu x + 2 < d + 1 := h
      exact bnd_nj2 ih (by decide) (by decide) rfl rfl (show 12 * mu x + 1 < d by omega) hb ho
    · have h : 12 * mu x + 1 < d + 1 := h
      rw [rd_2]
      split
      · exact prf_nj ih (by decide) (by decide) (by omega) hb ho
      · exact ih 3 (by decide) _ (show 12 * mu x + 0 < d by omega) hb ho
    · exact pln_nj ih h hb ho
    · exact lop_nj ih (by decide) (by decide) (by decide) rfl rfl h hb ho
    · exact lop_nj ih (by decide) (by decide) (by decide) rfl rfl h hb ho
    · have h : 12 * mu x + 5 < d + 1 := h
      exact bnd_nj2 ih (by decide) (by decide) rfl rfl (show 12 * mu x + 4 < d by omega) hb ho
    · have h : 12 * mu x + 4 < d + 1 := h
      exact bnd_nj2 ih (by decide) (by decide) rfl rfl (show 12 * mu x + 3 < d by omega) hb ho
    · exact neg_nj ih h hb ho
    · have h : 12 * mu x + 2 < d + 1 := h
      exact bnd_nj2 ih (by decide) (by decide) rfl rfl (show 12 * mu x + 1 < d by omega) hb ho
    · have h : 12 * mu x + 1 < d + 1 := h
      exact bnd_nj2 ih (by decide) (by decide) rfl rfl (show 12 * mu x + 0 < d by omega) hb ho
    · exact prm_nj ih h hb ho
    · exact lop_nj ih (by decide) (by decide) (by decide) rfl rfl h hb ho
    · exact lop_nj ih (by decide) (by decide) (by decide) rfl rfl h hb ho
    · exact lop_nj ih (by decide) (by decide) (by decide) rfl rfl h hb ho
    · exact lop_nj ih (by decide) (by decide) (by decide) rfl rfl h hb ho
end RD1
