/-! ===== Formula: its numbers, its small methods ===== -/
section FA
variable {S : xS} {H H1 H2 H3 : xH} {k p q i j l m n c t v r sz : Nat} {s : uTk} {T : uTx} {w : Int64}
def lg {A : Type} (d : A) : List A → Nat → A
  | [], _ => d
  | x :: l, j => if j = l.length then x else lg d l j
theorem lg_c {A : Type} {d x : A} {l : List A} {j : Nat} (h : j < l.length) : lg d (x :: l) j = lg d l j := if_neg (by omega)
theorem lg_0 {A : Type} {d x : A} {l : List A} : lg d (x :: l) l.length = x := if_pos rfl
/-- signs that wait, operands, open, the text, begun, needs -/
abbrev fmT : Type := List (Nat × Nat) × List Nat × Nat × uTx × Nat × Int64
def fmW (x : fmT) : List (Nat × Nat) := x.1
def fmH (x : fmT) : List Nat := x.2.1
def fmO (x : fmT) : Nat := x.2.2.1
def fmX (x : fmT) : uTx := x.2.2.2.1
def fmB (x : fmT) : Nat := x.2.2.2.2.1
def fmN (x : fmT) : Int64 := x.2.2.2.2.2
def FmP (H : xH) (t : Nat) (x : fmT) : Prop := hI H 8 3 = nI (fmW x).length ∧ (∀ j, j < (fmW x).length → hI H 9 j = nI (lg (0, 0) (fmW x) j).1 ∧ hI H 10 j = nI (lg (0, 0) (fmW x) j).2) ∧ hI H 8 5 = nI (fmH x).length ∧ (∀ j, j < (fmH x).length → hI H 11 j = nI (lg 0 (fmH x) j)) ∧ hI H 8 6 = nI (fmO x) ∧ hR H 8 7 = some (t + 7) ∧ hL H 8 8 = fmN x ∧ hI H (t + 7) 4 = nI (fmB x) ∧ TxP H t (fmX x)
theorem FmP.wz {x : fmT} (h : FmP H t x) : hI H 8 3 = nI (fmW x).length := h.1
theorem FmP.wt {x : fmT} (h : FmP H t x) : ∀ j, j < (fmW x).length → hI H 9 j = nI (lg (0, 0) (fmW x) j).1 ∧ hI H 10 j = nI (lg (0, 0) (fmW x) j).2 := h.2.1
theorem FmP.hz {x : fmT} (h : FmP H t x) : hI H 8 5 = nI (fmH x).length := h.2.2.1
theorem FmP.ha {x : fmT} (h : FmP H t x) : ∀ j, j < (fmH x).length → hI H 11 j = nI (lg 0 (fmH x) j) := h.2.2.2.1
theorem FmP.op {x : fmT} (h : FmP H t x) : hI H 8 6 = nI (fmO x) := h.2.2.2.2.1
theorem FmP.kn {x : fmT} (h : FmP H t x) : hR H 8 7 = some (t + 7) := h.2.2.2.2.2.1
theorem FmP.nd {x : fmT} (h : FmP H t x) : hL H 8 8 = fmN x := h.2.2.2.2.2.2.1
theorem FmP.bg {x : fmT} (h : FmP H t x) : hI H (t + 7) 4 = nI (fmB x) := h.2.2.2.2.2.2.2.1
theorem FmP.tx {x : fmT} (h : FmP H t x) : TxP H t (fmX x) := h.2.2.2.2.2.2.2.2
theorem FmP.off {x : fmT} {A : Nat → Prop} (h : FmP H t x) (ho : Off A H H1) (h0 : ∀ q, 8 ≤ q ∧ q < 12 ∨ t ≤ q ∧ q < t + 21 → ¬ A q) : FmP H1 t x := ⟨(ho.I (h0 8 (by omega)) _).trans h.wz, fun j hj => ⟨(ho.I (h0 9 (by omega)) _).trans (h.wt j hj).1, (ho.I (h0 10 (by omega)) _).trans (h.wt j hj).2⟩, (ho.I (h0 8 (by omega)) _).trans h.hz, fun j hj => (ho.I (h0 11 (by omega)) _).trans (h.ha j hj), (ho.I (h0 8 (by omega)) _).trans h.op, (ho.R (h0 8 (by omega)) _).trans h.kn, (ho.L (h0 8 (by omega)) _).trans h.nd, (ho.I (h0 (t + 7) (by omega)) _).trans h.bg, h.tx.off ho (fun j hj => h0 _ (by omega))⟩
def stg (k : Nat) : Nat := if k = 11 then 1 else if k = 12 then 2 else if k = 13 then 3 else if 32 ≤ k ∧ k ≤ 37 then 4 else if k = 28 ∨ k = 29 then 5 else if k = 30 ∨ k = 31 then 6 else if 16 ≤ k ∧ k ≤ 18 then 7 else 0
theorem stg_d (h : ¬ (11 ≤ k ∧ k ≤ 37)) : stg k = 0 := by unfold stg; rw [if_neg (by omega), if_neg (by omega), if_neg (by omega), if_neg (by omega), if_neg (by omega), if_neg (by omega), if_neg (by omega)]
theorem stg_7 : stg k ≤ 7 := by
  unfold stg
  repeat' split
  all_goals omega
def oB (w : Int64) (r : Nat) : Int64 := w ||| (lN 1 <<< ((nI r).toInt64 &&& 63))
theorem rb_oB {r : Nat} (hk : r < 64) : rb (oB w r) j = if j = r then true else rb w j := rb_set w hk
def psH (H : xH) (w : Int64) (sz r : Nat) : xH := sI (sI (sL H 8 8 (oB w r)) 11 sz (nI r)) 8 5 (nI (sz + 1))
def ppH (H : xH) : List Nat → xH
  | [] => H
  | _ :: l => sI H 8 5 (nI l.length)
def knT (T : uTx) (i x y : Nat) : uTx := setT (setT (setT (setT T 1 (tNk T) i) 2 (tNk T) x) 3 (tNk T) y) 0 3 (tNk T + 1)
def knF (T : uTx) (j k : Nat) : Nat := if j = 0 then tK T k else if j = 1 then tX T k else tY T k
theorem TxP.kt (h : TxP H t T) : KtP H (t + 7) (tNk T) (knF T) := ⟨h.nk, fun k hk => ⟨(h.kn k hk).1, (h.kn k hk).2.1, (h.kn k hk).2.2⟩⟩
theorem knT_k {x y : Nat} : tK (knT T i x y) k = if k = tNk T then i else tK T k := by
  show (if 1 = 0 ∧ k = 3 then tNk T + 1 else if 1 = 3 ∧ k = tNk T then y else if 1 = 2 ∧ k = tNk T then x else if 1 = 1 ∧ k = tNk T then i else tK T k) = _
  rw [if_neg (by omega), if_neg (by omega), if_neg (by omega)]
  by_cases e : k = tNk T
  · rw [if_pos ⟨rfl, e⟩, if_pos e]
  · rw [if_neg (fun z => e z.2), if_neg e]
theorem knT_x {x y : Nat} : tX (knT T i x y) k = if k = tNk T then x else tX T k := by
  show (if 2 = 0 ∧ k = 3 then tNk T + 1 else if 2 = 3 ∧ k = tNk T then y else if 2 = 2 ∧ k = tNk T then x else if 2 = 1 ∧ k = tNk T then i else tX T k) = _
  rw [if_neg (by omega), if_neg (by omega)]
  by_cases e : k = tNk T
  · rw [if_pos ⟨rfl, e⟩, if_pos e]
  · rw [if_neg (fun z => e z.2), if_neg (by omega), if_neg e]
theorem knT_y {x y : Nat} : tY (knT T i x y) k = if k = tNk T then y else tY T k := by
  show (if 3 = 0 ∧ k = 3 then tNk T + 1 else if 3 = 3 ∧ k = tNk T then y else if 3 = 2 ∧ k = tNk T then x else if 3 = 1 ∧ k = tNk T then i else tY T k) = _
  rw [if_neg (by omega)]
  by_cases e : k = tNk T
  · rw [if_pos ⟨rfl, e⟩, if_pos e]
  · rw [if_neg (fun z => e z.2), if_neg (by omega), if_neg (by omega), if_neg e]
theorem knT_n {x y : Nat} : tNk (knT T i x y) = tNk T + 1 := rfl
/-- what isn't of the knots stays -/
theorem knT_o {x y a k : Nat} (h : a ≠ 1) (h2 : a ≠ 2) (h3 : a ≠ 3) (h4 : a = 0 → k ≠ 3) : (knT T i x y).1 a k = T.1 a k := by
  show (if a = 0 ∧ k = 3 then tNk T + 1 else if a = 3 ∧ k = tNk T then y else if a = 2 ∧ k = tNk T then x else if a = 1 ∧ k = tNk T then i else T.1 a k) = _
  rw [if_neg (fun z => h4 z.1 z.2), if_neg (fun z => h3 z.1), if_neg (fun z => h2 z.1), if_neg (fun z => h z.1)]
theorem TxP.kad {x y : Nat} (h : TxP H t T) (hn : KtP H3 (t + 7) (tNk T + 1) (fun j k => if k = tNk T then (if j = 0 then i else if j = 1 then x else y) else knF T j k)) (ho : Off (fun q => t + 7 ≤ q ∧ q < t + 7 + 4) H H3) : TxP H3 t (knT T i x y) := by
  obtain ⟨h1, h2, h3, h4, h5, h6, h7, h8, h9, h10, h11, h12, h13, h14, h15, h16, h17⟩ := h
  exact ⟨((ho.I (by omega) _).trans h1), ((ho.I (by omega) _).trans h2), ((ho.I (by omega) _).trans h3), (hn.1), (fun k hk => by
    obtain ⟨b1, b2, b3⟩ := hn.2 k hk
    rw [knT_k, knT_x, knT_y]
    exact ⟨b1, b2, b3⟩), (fun k hk => ⟨(ho.I (by omega) _).trans (h6 k hk).1, (ho.I (by omega) _).trans (h6 k hk).2⟩), (fun k hk => ⟨(ho.I (by omega) _).trans (h7 k hk).1, (ho.I (by omega) _).trans (h7 k hk).2⟩), (fun k hk => (ho.I (by omega) _).trans (h8 k hk)), (fun k hk => ⟨(ho.I (by omega) _).trans (h9 k hk).1, (ho.I (by omega) _).trans (h9 k hk).2.1, (ho.L (by omega) _).trans (h9 k hk).2.2⟩), ((ho.I (by omega) _).trans h10), (fun k hk => ⟨(ho.I (by omega) _).trans (h11 k hk).1, (ho.I (by omega) _).trans (h11 k hk).2⟩), ((ho.I (by omega) _).trans h12), (fun k hk => (ho.I (by omega) _).trans (h13 k hk)), (fun k hk => ⟨(ho.L (by omega) _).trans (h14 k hk).1, fun e => (ho.I (by omega) _).trans ((h14 k hk).2 e)⟩), ((ho.I (by omega) _).trans h15), ((ho.I (by omega) _).trans h16), ((ho.I (by omega) _).trans h17)⟩
variable {ws : List (Nat × Nat)} {hs : List Nat} {o b : Nat}
theorem FmP.add {x y : Nat} (h : FmP H t (ws, hs, o, T, b, w)) (ht24 : 24 ≤ t) (hn : KtP H3 (t + 7) (tNk T + 1) (fun j k => if k = tNk T then (if j = 0 then i else if j = 1 then x else y) else knF T j k)) (hb : hI H3 (t + 7) 4 = hI H (t + 7) 4) (ho : Off (fun q => t + 7 ≤ q ∧ q < t + 7 + 4) H H3) : FmP H3 t (ws, hs, o, knT T i x y, b, w) :=
  ⟨(ho.I (by omega) _).trans h.wz, fun j hj => ⟨(ho.I (by omega) _).trans (h.wt j hj).1, (ho.I (by omega) _).trans (h.wt j hj).2⟩, (ho.I (by omega) _).trans h.hz, fun j hj => (ho.I (by omega) _).trans (h.ha j hj), (ho.I (by omega) _).trans h.op, (ho.R (by omega) _).trans h.kn, (ho.L (by omega) _).trans h.nd, hb.trans h.bg, h.tx.kad hn ho⟩
theorem ht8 (h : TxP H t T) (ho : Off (fun q => q = 8 ∨ q = 9 ∨ q = 10 ∨ q = 11) H H1) (ht24 : 24 ≤ t) : TxP H1 t T := h.off ho (fun j hj => by omega)
theorem FmP.psh (h : FmP H t (ws, hs, o, T, b, w)) (ht24 : 24 ≤ t) : FmP (psH H w hs.length r) t (ws, r :: hs, o, T, b, oB w r) := by
  refine ⟨?_, fun j hj => ⟨?_, ?_⟩, ?_, fun j hj => ?_, ?_, h.kn, ?_, ?_, ht8 h.tx (Off.pI (Off.pI (Off.pL Off.rf (Or.inl rfl) _ _) (by omega) _ _) (by omega) _ _) ht24⟩
  · show hI (sI _ _ _ _) _ _ = _
    rw [hI_sI, if_neg (by omega), hI_sI, if_neg (by omega)]; exact h.wz
  · show hI (sI _ _ _ _) _ _ = _
    rw [hI_sI, if_neg (by omega), hI_sI, if_neg (by omega)]; exact (h.wt j hj).1
  · show hI (sI _ _ _ _) _ _ = _
    rw [hI_sI, if_neg (by omega), hI_sI, if_neg (by omega)]; exact (h.wt j hj).2
  · show hI (sI _ _ _ _) _ _ = _
    rw [hI_sI, if_pos ⟨rfl, rfl⟩]; rfl
  · show hI (sI _ _ _ _) _ _ = nI (if j = hs.length then r else lg 0 hs j)
    have hj : j < hs.length + 1 := hj
    rw [hI_sI, if_neg (by omega), hI_sI]
    by_cases e : j = hs.length
    · rw [if_pos ⟨rfl, e⟩, if_pos e]
    · rw [if_neg (fun z => e z.2), if_neg e]; exact h.ha j (show j < hs.length by omega)
  · show hI (sI _ _ _ _) _ _ = _
    rw [hI_sI, if_neg (by omega), hI_sI, if_neg (by omega)]; exact h.op
  · show hL (sI (sI (sL _ _ _ _) _ _ _) _ _ _) _ _ = _
    rw [hL_sI, hL_sI, hL_sL, if_pos ⟨rfl, rfl⟩]; rfl
  · show hI (sI _ _ _ _) _ _ = _
    rw [hI_sI, if_neg (by omega), hI_sI, if_neg (by omega)]; exact h.bg
theorem FmP.pop (h : FmP H t (ws, hs, o, T, b, w)) (ht24 : 24 ≤ t) : FmP (ppH H hs) t (ws, hs.tail, o, T, b, w) := by
  cases hs with
  | nil => exact h
  | cons a l =>
    refine ⟨?_, fun j hj => ⟨?_, ?_⟩, ?_, fun j hj => ?_, ?_, h.kn, h.nd, ?_, ht8 h.tx (Off.pI Off.rf (Or.inl rfl) _ _) ht24⟩
    · show hI (sI _ _ _ _) _ _ = _
      rw [hI_sI, if_neg (by omega)]; exact h.wz
    · show hI (sI _ _ _ _) _ _ = _
      rw [hI_sI, if_neg (by omega)]; exact (h.wt j hj).1
    · show hI (sI _ _ _ _) _ _ = _
      rw [hI_sI, if_neg (by omega)]; exact (h.wt j hj).2
    · show hI (sI _ _ _ _) _ _ = _
      rw [hI_sI, if_pos ⟨rfl, rfl⟩]; rfl
    · show hI (sI _ _ _ _) _ _ = nI (lg 0 l j)
      have hj : j < l.length := hj
      have e : lg 0 (a :: l) j = lg 0 l j := lg_c hj
      rw [hI_sI, if_neg (by omega), ← e]; exact h.ha j (Nat.lt_succ_of_lt hj)
    · show hI (sI _ _ _ _) _ _ = _
      rw [hI_sI, if_neg (by omega)]; exact h.op
    · show hI (sI _ _ _ _) _ _ = _
      rw [hI_sI, if_neg (by omega)]; exact h.bg
theorem FmP.wt2 {a : Nat × Nat} (h : FmP H t (a :: ws, hs, o, T, b, w)) (ht24 : 24 ≤ t) : FmP (sI H 8 3 (nI ws.length)) t (ws, hs, o, T, b, w) := by
  refine ⟨?_, fun j hj => ⟨?_, ?_⟩, ?_, fun j hj => ?_, ?_, h.kn, h.nd, ?_, ht8 h.tx (Off.pI Off.rf (Or.inl rfl) _ _) ht24⟩
  · show hI (sI _ _ _ _) _ _ = _
    rw [hI_sI, if_pos ⟨rfl, rfl⟩]; rfl
  · have hj : j < ws.length := hj
    have e : lg (0, 0) (a :: ws) j = lg (0, 0) ws j := lg_c hj
    show hI (sI _ _ _ _) _ _ = nI (lg (0, 0) ws j).1
    rw [hI_sI, if_neg (by omega), ← e]; exact (h.wt j (Nat.lt_succ_of_lt hj)).1
  · have hj : j < ws.length := hj
    have e : lg (0, 0) (a :: ws) j = lg (0, 0) ws j := lg_c hj
    show hI (sI _ _ _ _) _ _ = nI (lg (0, 0) ws j).2
    rw [hI_sI, if_neg (by omega), ← e]; exact (h.wt j (Nat.lt_succ_of_lt hj)).2
  · show hI (sI _ _ _ _) _ _ = _
    rw [hI_sI, if_neg (by omega)]; exact h.hz
  · show hI (sI _ _ _ _) _ _ = _
    rw [hI_sI, if_neg (by omega)]; exact h.ha j hj
  · show hI (sI _ _ _ _) _ _ = _
    rw [hI_sI, if_neg (by omega)]; exact h.op
  · show hI (sI _ _ _ _) _ _ = _
    rw [hI_sI, if_neg (by omega)]; exact h.bg
theorem FmP.hld (h : FmP H t (ws, hs, o, T, b, w)) (ht24 : 24 ≤ t) : FmP (sI (sI (sI H 9 ws.length (nI k)) 10 ws.length (nI p)) 8 3 (nI (ws.length + 1))) t ((k, p) :: ws, hs, o, T, b, w) := by
  refine ⟨?_, fun j hj => ⟨?_, ?_⟩, ?_, fun j hj => ?_, ?_, h.kn, h.nd, ?_, ht8 h.tx (Off.pI (Off.pI (Off.pI Off.rf (by omega) _ _) (by omega) _ _) (by omega) _ _) ht24⟩
  · rw [hI_sI, if_pos ⟨rfl, rfl⟩]; rfl
  · have hj : j < ws.length + 1 := hj
    show _ = nI (if j = ws.length then (k, p) else lg (0, 0) ws j).1
    rw [hI_sI, if_neg (by omega), hI_sI, if_neg (by omega), hI_sI]
    by_cases e : j = ws.length
    · rw [if_pos ⟨rfl, e⟩, if_pos e]
    · rw [if_neg (fun z => e z.2), if_neg e]; exact (h.wt j (show j < ws.length by omega)).1
  · have hj : j < ws.length + 1 := hj
    show _ = nI (if j = ws.length then (k, p) else lg (0, 0) ws j).2
    rw [hI_sI, if_neg (by omega), hI_sI]
    by_cases e : j = ws.length
    · rw [if_pos ⟨rfl, e⟩, if_pos e]
    · rw [if_neg (fun z => e z.2), if_neg e, hI_sI, if_neg (by omega)]; exact (h.wt j (show j < ws.length by omega)).2
  · rw [hI_sI, if_neg (by omega), hI_sI, if_neg (by omega), hI_sI, if_neg (by omega)]; exact h.hz
  · rw [hI_sI, if_neg (by omega), hI_sI, if_neg (by omega), hI_sI, if_neg (by omega)]; exact h.ha j hj
  · rw [hI_sI, if_neg (by omega), hI_sI, if_neg (by omega), hI_sI, if_neg (by omega)]; exact h.op
  · rw [hI_sI, if_neg (by omega), hI_sI, if_neg (by omega), hI_sI, if_neg (by omega)]; exact h.bg
theorem FmP.st2 {x : fmT} (h : FmP H t x) (ht24 : 24 ≤ t) : FmP (sI H 2 5 (nI v)) t x := h.off (A := fun q => q = 2) (Off.pI (A := fun q => q = 2) Off.rf rfl _ _) (fun q z => by omega)
theorem TxP.k4 (h : TxP H t T) (ht24 : 24 ≤ t) {z : Int32} : TxP (sI H (t + 7) 4 z) t T := by
  obtain ⟨h1, h2, h3, h4, h5, h6, h7, h8, h9, h10, h11, h12, h13, h14, h15, h16, h17⟩ := h
  have e : ∀ a k, ¬ (a = t + 7 ∧ k = 4) → hI (sI H (t + 7) 4 z) a k = hI H a k := fun a k hn => by rw [hI_sI, if_neg hn]
  exact ⟨(e _ _ (by omega)).trans h1, (e _ _ (by omega)).trans h2, (e _ _ (by omega)).trans h3, (e _ _ (by omega)).trans h4, fun k hk => ⟨(e _ _ (by omega)).trans (h5 k hk).1, (e _ _ (by omega)).trans (h5 k hk).2.1, (e _ _ (by omega)).trans (h5 k hk).2.2⟩, fun k hk => ⟨(e _ _ (by omega)).trans (h6 k hk).1, (e _ _ (by omega)).trans (h6 k hk).2⟩, fun k hk => ⟨(e _ _ (by omega)).trans (h7 k hk).1, (e _ _ (by omega)).trans (h7 k hk).2⟩, fun k hk => (e _ _ (by omega)).trans (h8 k hk), fun k hk => ⟨(e _ _ (by omega)).trans (h9 k hk).1, (e _ _ (by omega)).trans (h9 k hk).2.1, (h9 k hk).2.2⟩, (e _ _ (by omega)).trans h10, fun k hk => ⟨(e _ _ (by omega)).trans (h11 k hk).1, (e _ _ (by omega)).trans (h11 k hk).2⟩, (e _ _ (by omega)).trans h12, fun k hk => (e _ _ (by omega)).trans (h13 k hk), fun k hk => ⟨(h14 k hk).1, fun z => (e _ _ (by omega)).trans ((h14 k hk).2 z)⟩, (e _ _ (by omega)).trans h15, (e _ _ (by omega)).trans h16, (e _ _ (by omega)).trans h17⟩
theorem FmP.beg (h : FmP H t (ws, hs, o, T, b, w)) (ht24 : 24 ≤ t) : FmP (sI H (t + 7) 4 (nI v)) t (ws, hs, o, T, v, w) := by
  refine ⟨?_, fun j hj => ⟨?_, ?_⟩, ?_, fun j hj => ?_, ?_, h.kn, h.nd, ?_, h.tx.k4 ht24⟩
  · rw [hI_sI, if_neg (by omega)]; exact h.wz
  · rw [hI_sI, if_neg (by omega)]; exact (h.wt j hj).1
  · rw [hI_sI, if_neg (by omega)]; exact (h.wt j hj).2
  · rw [hI_sI, if_neg (by omega)]; exact h.hz
  · rw [hI_sI, if_neg (by omega)]; exact h.ha j hj
  · rw [hI_sI, if_neg (by omega)]; exact h.op
  · rw [hI_sI, if_pos ⟨rfl, rfl⟩]; rfl
theorem FmP.opn (h : FmP H t (ws, hs, o, T, b, w)) (ht24 : 24 ≤ t) : FmP (sI H 8 6 (nI v)) t (ws, hs, v, T, b, w) := by
  refine ⟨?_, fun j hj => ⟨?_, ?_⟩, ?_, fun j hj => ?_, ?_, h.kn, h.nd, ?_, ht8 h.tx (Off.pI Off.rf (Or.inl rfl) _ _) ht24⟩
  · rw [hI_sI, if_neg (by omega)]; exact h.wz
  · rw [hI_sI, if_neg (by omega)]; exact (h.wt j hj).1
  · rw [hI_sI, if_neg (by omega)]; exact (h.wt j hj).2
  · rw [hI_sI, if_neg (by omega)]; exact h.hz
  · rw [hI_sI, if_neg (by omega)]; exact h.ha j hj
  · rw [hI_sI, if_pos ⟨rfl, rfl⟩]; rfl
  · rw [hI_sI, if_neg (by omega)]; exact h.bg
theorem FmP.ned (h : FmP H t (ws, hs, o, T, b, w)) (ht24 : 24 ≤ t) {w2 : Int64} : FmP (sL H 8 8 w2) t (ws, hs, o, T, b, w2) := 
  ⟨h.wz, h.wt, h.hz, h.ha, h.op, h.kn, by rw [hL_sL, if_pos ⟨rfl, rfl⟩]; rfl, h.bg, ht8 h.tx (Off.pL Off.rf (Or.inl rfl) _ _) ht24⟩
theorem c_strengthOf (hk44 : k ≤ 44) : Pv mX1_strengthOf 0 [vN k] S H (vN (stg k)) := by
  refine vq_ev (vq_intro (by decide) (by exact Nat.le_of_ble_eq_true rfl) rfl ?_)
  refine xq_iload_n dX1_strengthOf_0 rfl rfl ?_
  by_cases hs1 : 11 ≤ k ∧ k ≤ 37
  · skip
    have hq1 : k = 11 ∨ k = 12 ∨ k = 13 ∨ k = 14 ∨ k = 15 ∨ k = 16 ∨ k = 17 ∨ k = 18 ∨ k = 19 ∨ k = 20 ∨ k = 21 ∨ k = 22 ∨ k = 23 ∨ k = 24 ∨ k = 25 ∨ k = 26 ∨ k = 27 ∨ k = 28 ∨ k = 29 ∨ k = 30 ∨ k = 31 ∨ k = 32 ∨ k = 33 ∨ k = 34 ∨ k = 35 ∨ k = 36 ∨ k = 37 := by omega
    rcases hq1 with rfl | rfl | rfl | rfl | rfl | rfl | rfl | rfl | rfl | rfl | rfl | rfl | rfl | rfl | rfl | rfl | rfl | rfl | rfl | rfl | rfl | rfl | rfl | rfl | rfl | rfl | rfl
    · skip
      refine xq_tableIn dX1_strengthOf_1 (by decide) (by decide) rfl rfl ?_
      refine xq_iconst dX1_strengthOf_124 ic1 ?_
      refine xq_iret dX1_strengthOf_125 rfl ?_
      rfl
    · skip
      refine xq_tableIn dX1_strengthOf_1 (by decide) (by decide) rfl rfl ?_
      refine xq_iconst dX1_strengthOf_126 ic2 ?_
      refine xq_iret dX1_strengthOf_127 rfl ?_
      rfl
    · skip
      refine xq_tableIn dX1_strengthOf_1 (by decide) (by decide) rfl rfl ?_
      refine xq_iconst dX1_strengthOf_128 ic3 ?_
      refine xq_iret dX1_strengthOf_129 rfl ?_
      rfl
    · skip
      refine xq_tableIn dX1_strengthOf_1 (by decide) (by decide) rfl rfl ?_
      refine xq_iconst dX1_strengthOf_140 ic0 ?_
      refine xq_iret dX1_strengthOf_141 rfl ?_
      rfl
    · skip
      refine xq_tableIn dX1_strengthOf_1 (by decide) (by decide) rfl rfl ?_
      refine xq_iconst dX1_strengthOf_140 ic0 ?_
      refine xq_iret dX1_strengthOf_141 rfl ?_
      rfl
    · skip
      refine xq_tableIn dX1_strengthOf_1 (by decide) (by decide) rfl rfl ?_
      refine xq_bipush dX1_strengthOf_137 bp7 ?_
      refine xq_iret dX1_strengthOf_139 rfl ?_
      rfl
    · skip
      refine xq_tableIn dX1_strengthOf_1 (by decide) (by decide) rfl rfl ?_
      refine xq_bipush dX1_strengthOf_137 bp7 ?_
      refine xq_iret dX1_strengthOf_139 rfl ?_
      rfl
    · skip
      refine xq_tableIn dX1_strengthOf_1 (by decide) (by decide) rfl rfl ?_
      refine xq_bipush dX1_strengthOf_137 bp7 ?_
      refine xq_iret dX1_strengthOf_139 rfl ?_
      rfl
    · skip
      refine xq_tableIn dX1_strengthOf_1 (by decide) (by decide) rfl rfl ?_
      refine xq_iconst dX1_strengthOf_140 ic0 ?_
      refine xq_iret dX1_strengthOf_141 rfl ?_
      rfl
    · skip
      refine xq_tableIn dX1_strengthOf_1 (by decide) (by decide) rfl rfl ?_
      refine xq_iconst dX1_strengthOf_140 ic0 ?_
      refine xq_iret dX1_strengthOf_141 rfl ?_
      rfl
    · skip
      refine xq_tableIn dX1_strengthOf_1 (by decide) (by decide) rfl rfl ?_
      refine xq_iconst dX1_strengthOf_140 ic0 ?_
      refine xq_iret dX1_strengthOf_141 rfl ?_
      rfl
    · skip
      refine xq_tableIn dX1_strengthOf_1 (by decide) (by decide) rfl rfl ?_
      refine xq_iconst dX1_strengthOf_140 ic0 ?_
      refine xq_iret dX1_strengthOf_141 rfl ?_
      rfl
    · skip
      refine xq_tableIn dX1_strengthOf_1 (by decide) (by decide) rfl rfl ?_
      refine xq_iconst dX1_strengthOf_140 ic0 ?_
      refine xq_iret dX1_strengthOf_141 rfl ?_
      rfl
    · skip
      refine xq_tableIn dX1_strengthOf_1 (by decide) (by decide) rfl rfl ?_
      refine xq_iconst dX1_strengthOf_140 ic0 ?_
      refine xq_iret dX1_strengthOf_141 rfl ?_
      rfl
    · skip
      refine xq_tableIn dX1_strengthOf_1 (by decide) (by decide) rfl rfl ?_
      refine xq_iconst dX1_strengthOf_140 ic0 ?_
      refine xq_iret dX1_strengthOf_141 rfl ?_
      rfl
    · skip
      refine xq_tableIn dX1_strengthOf_1 (by decide) (by decide) rfl rfl ?_
      refine xq_iconst dX1_strengthOf_140 ic0 ?_
      refine xq_iret dX1_strengthOf_141 rfl ?_
      rfl
    · skip
      refine xq_tableIn dX1_strengthOf_1 (by decide) (by decide) rfl rfl ?_
      refine xq_iconst dX1_strengthOf_140 ic0 ?_
      refine xq_iret dX1_strengthOf_141 rfl ?_
      rfl
    · skip
      refine xq_tableIn dX1_strengthOf_1 (by decide) (by decide) rfl rfl ?_
      refine xq_iconst dX1_strengthOf_132 ic5 ?_
      refine xq_iret dX1_strengthOf_133 rfl ?_
      rfl
    · skip
      refine xq_tableIn dX1_strengthOf_1 (by decide) (by decide) rfl rfl ?_
      refine xq_iconst dX1_strengthOf_132 ic5 ?_
      refine xq_iret dX1_strengthOf_133 rfl ?_
      rfl
    · skip
      refine xq_tableIn dX1_strengthOf_1 (by decide) (by decide) rfl rfl ?_
      refine xq_bipush dX1_strengthOf_134 bp6 ?_
      refine xq_iret dX1_strengthOf_136 rfl ?_
      rfl
    · skip
      refine xq_tableIn dX1_strengthOf_1 (by decide) (by decide) rfl rfl ?_
      refine xq_bipush dX1_strengthOf_134 bp6 ?_
      refine xq_iret dX1_strengthOf_136 rfl ?_
      rfl
    · skip
      refine xq_tableIn dX1_strengthOf_1 (by decide) (by decide) rfl rfl ?_
      refine xq_iconst dX1_strengthOf_130 ic4 ?_
      refine xq_iret dX1_strengthOf_131 rfl ?_
      rfl
    · skip
      refine xq_tableIn dX1_strengthOf_1 (by decide) (by decide) rfl rfl ?_
      refine xq_iconst dX1_strengthOf_130 ic4 ?_
      refine xq_iret dX1_strengthOf_131 rfl ?_
      rfl
    · skip
      refine xq_tableIn dX1_strengthOf_1 (by decide) (by decide) rfl rfl ?_
      refine xq_iconst dX1_strengthOf_130 ic4 ?_
      refine xq_iret dX1_strengthOf_131 rfl ?_
      rfl
    · skip
      refine xq_tableIn dX1_strengthOf_1 (by decide) (by decide) rfl rfl ?_
      refine xq_iconst dX1_strengthOf_130 ic4 ?_
      refine xq_iret dX1_strengthOf_131 rfl ?_
      rfl
    · skip
      refine xq_tableIn dX1_strengthOf_1 (by decide) (by decide) rfl rfl ?_
      refine xq_iconst dX1_strengthOf_130 ic4 ?_
      refine xq_iret dX1_strengthOf_131 rfl ?_
      rfl
    · skip
      refine xq_tableIn dX1_strengthOf_1 (by decide) (by decide) rfl rfl ?_
      refine xq_iconst dX1_strengthOf_130 ic4 ?_
      refine xq_iret dX1_strengthOf_131 rfl ?_
      rfl
  · skip
    refine xq_tableOut dX1_strengthOf_1 (swOut 11 37 hs1 (by omega)) rfl ?_
    refine xq_iconst dX1_strengthOf_140 ic0 ?_
    refine xq_iret dX1_strengthOf_141 rfl ?_
    rw [stg_d hs1]
theorem c_push (hF : gFx S) (hz : hI H 8 5 = nI sz) (hz64 : sz < 64) (hw : hL H 8 8 = w) : Nv mX1_push 0 [.ref 8, vN r] S H (fun H' => H' = psH H w sz r) := by
  refine vq_intro (by decide) (by exact Nat.le_of_ble_eq_true rfl) rfl ?_
  refine xq_aload_n dX1_push_0 rfl rfl ?_
  refine xq_dup dX1_push_1 rfl ?_
  refine xq_getLE clX1 (by decide) rfl fl_RX1_45 dX1_push_2 (Fx.s8 hF) hw ?_
  refine xq_lconst dX1_push_5 lc1 ?_
  refine xq_iload_n dX1_push_6 rfl rfl ?_
  refine xq_lshl dX1_push_7 ?_
  refine xq_lor dX1_push_8 ?_
  refine xq_putL clX1 (by decide) rfl fl_RX1_45 (Or.inl rfl) dX1_push_9 ⟨rfl, rfl⟩ (Fx.s8 hF) ?_
  refine xq_aload_n dX1_push_12 rfl rfl ?_
  refine xq_getIE clX1 (by decide) rfl fl_RX1_39 dX1_push_13 (Fx.s8 hF) hz ?_
  refine xq_aload_n dX1_push_16 rfl rfl ?_
  refine xq_getF clX1 (by decide) rfl fl_RX1_18 dX1_push_17 (Fx.s8 hF) (Fx.r8_4 hF) ?_
  refine xq_alen (v := nI 64) dX1_push_20 (Fx.s11 hF) (by decide) rfl ?_
  refine xq_icmp_geN dX1_push_21 rfl (by omega) (by omega) ⟨fun h21 => ?_, fun h21 => ?_⟩
  · skip
    exact absurd h21 (by omega)
  · skip
    refine xq_aload_n dX1_push_24 rfl rfl ?_
    refine xq_getF clX1 (by decide) rfl fl_RX1_18 dX1_push_25 (Fx.s8 hF) (Fx.r8_4 hF) ?_
    refine xq_aload_n dX1_push_28 rfl rfl ?_
    refine xq_getIE clX1 (by decide) rfl fl_RX1_39 dX1_push_29 (Fx.s8 hF) hz ?_
    refine xq_iload_n dX1_push_32 rfl rfl ?_
    refine xq_iastN dX1_push_33 (Fx.s11 hF) (by omega) (by decide) ?_
    refine xq_aload_n dX1_push_34 rfl rfl ?_
    refine xq_dup dX1_push_35 rfl ?_
    refine xq_getIE (v := nI sz) clX1 (by decide) rfl fl_RX1_39 dX1_push_36 (Fx.s8 hF) (by rw [hI_sI, if_neg (by omega)]; exact hz) ?_
    refine xq_iconst dX1_push_39 ic1 ?_
    refine xq_iaddN dX1_push_40 ?_
    refine xq_putI clX1 (by decide) rfl fl_RX1_39 (Or.inl rfl) dX1_push_41 ⟨rfl, rfl⟩ (Fx.s8 hF) ?_
    refine xq_vret dX1_push_44 rfl ?_
    exact ⟨_, rfl, rfl⟩
theorem c_pop0 (hF : gFx S) (hz : hI H 8 5 = nI 0) : Hv mX1_pop 0 [.ref 8] S H vN (fun x H' => x = 0 ∧ H' = H) := by
  refine vq_intro (by decide) (by exact Nat.le_of_ble_eq_true rfl) rfl ?_
  refine xq_aload_n dX1_pop_0 rfl rfl ?_
  refine xq_getIE clX1 (by decide) rfl fl_RX1_39 dX1_pop_1 (Fx.s8 hF) hz ?_
  refine xq_if_gtN dX1_pop_4 rfl (by omega) ⟨fun h4 => ?_, fun h4 => ?_⟩
  · skip
    exact absurd h4 (by omega)
  · skip
    refine xq_iconst dX1_pop_7 ic0 ?_
    refine xq_iret dX1_pop_8 rfl ?_
    exact ⟨0, _, ⟨rfl, rfl⟩, rfl⟩
theorem c_pop1 (hF : gFx S) (hz : hI H 8 5 = nI (sz + 1)) (hz64 : sz < 64) (hv : hI H 11 sz = nI v) : Hv mX1_pop 0 [.ref 8] S H vN (fun x H' => x = v ∧ H' = sI H 8 5 (nI sz)) := by
  refine vq_intro (by decide) (by exact Nat.le_of_ble_eq_true rfl) rfl ?_
  refine xq_aload_n dX1_pop_0 rfl rfl ?_
  refine xq_getIE clX1 (by decide) rfl fl_RX1_39 dX1_pop_1 (Fx.s8 hF) hz ?_
  refine xq_if_gtN dX1_pop_4 rfl (by omega) ⟨fun h4 => ?_, fun h4 => ?_⟩
  · skip
    refine xq_aload_n dX1_pop_9 rfl rfl ?_
    refine xq_dup dX1_pop_10 rfl ?_
    refine xq_getIE clX1 (by decide) rfl fl_RX1_39 dX1_pop_11 (Fx.s8 hF) hz ?_
    refine xq_iconst dX1_pop_14 ic1 ?_
    refine xq_isubN dX1_pop_15 (by omega) ?_
    refine xq_putI clX1 (by decide) rfl fl_RX1_39 (Or.inl rfl) dX1_pop_16 ⟨rfl, rfl⟩ (Fx.s8 hF) ?_
    refine xq_aload_n dX1_pop_19 rfl rfl ?_
    refine xq_getF clX1 (by decide) rfl fl_RX1_18 dX1_pop_20 (Fx.s8 hF) (Fx.r8_4 hF) ?_
    refine xq_aload_n dX1_pop_23 rfl rfl ?_
    refine xq_getIE (v := nI (sz + 1 - 1)) clX1 (by decide) rfl fl_RX1_39 dX1_pop_24 (Fx.s8 hF) (by rw [hI_sI, if_pos ⟨rfl, rfl⟩]) ?_
    refine xq_ialdN (v := nI v) dX1_pop_27 (Fx.s11 hF) (by omega) (by decide) (by rw [hI_sI, if_neg (by omega)]; exact hv) ?_
    refine xq_iret dX1_pop_28 rfl ?_
    exact ⟨v, _, ⟨rfl, rfl⟩, rfl⟩
  · skip
    exact absurd h4 (by omega)
theorem c_pop (hF : gFx S) (h : FmP H t (ws, hs, o, T, b, w)) (hz : hs.length ≤ 64) : Hv mX1_pop 0 [.ref 8] S H vN (fun x H' => x = hs.headD 0 ∧ H' = ppH H hs) := by
  cases hs with
  | nil => exact c_pop0 hF h.hz
  | cons a l => exact c_pop1 hF h.hz (Nat.lt_of_succ_le hz) ((h.ha l.length (Nat.lt_succ_self _)).trans (congrArg nI lg_0))
theorem c_mayBegin (hF : gFx S) (ht : gTx S t) (hs : TrP H s n) (hk : TrOk s) (hn : n ≤ 800) (h7 : hR H 8 7 = some (t + 7)) (hb : hI H (t + 7) 4 = nI b) (hb64 : b ≤ 64) : Hv mX1_mayBegin 1 [.ref 8] S H vB (fun x H' => x = decide (b < 64) ∧ (b < 64 → H' = sI H (t + 7) 4 (nI (b + 1))) ∧ (¬ b < 64 → FaQ H H' s n 2)) := by
  refine vq_intro (by decide) (by exact Nat.le_of_ble_eq_true rfl) rfl ?_
  refine xq_aload_n dX1_mayBegin_0 rfl rfl ?_
  refine xq_getR clX1 (by decide) rfl fl_RX1_24 dX1_mayBegin_1 (Fx.s8 hF) h7 ?_
  refine xq_getIE clX2 (by decide) rfl fl_RX1_75 dX1_mayBegin_4 (Kn.s0 (Tx.n7 ht)) hb ?_
  refine xq_bipush dX1_mayBegin_7 bp64 ?_
  refine xq_icmp_ltN dX1_mayBegin_9 rfl (by omega) (by omega) ⟨fun h9 => ?_, fun h9 => ?_⟩
  · skip
    refine xq_aload_n dX1_mayBegin_21 rfl rfl ?_
    refine xq_getR clX1 (by decide) rfl fl_RX1_24 dX1_mayBegin_22 (Fx.s8 hF) h7 ?_
    refine xq_dup dX1_mayBegin_25 rfl ?_
    refine xq_getIE clX2 (by decide) rfl fl_RX1_75 dX1_mayBegin_26 (Kn.s0 (Tx.n7 ht)) hb ?_
    refine xq_iconst dX1_mayBegin_29 ic1 ?_
    refine xq_iaddN dX1_mayBegin_30 ?_
    refine xq_putI clX2 (by decide) rfl fl_RX1_75 (Or.inl rfl) dX1_mayBegin_31 ⟨rfl, rfl⟩ (Kn.s0 (Tx.n7 ht)) ?_
    refine xq_iconst dX1_mayBegin_34 ic1 ?_
    refine xq_zret dX1_mayBegin_35 rfl (by decide) ?_
    exact ⟨true, _, ⟨(decide_eq_true h9).symm, fun _ => rfl, fun z => absurd h9 z⟩, rfl⟩
  · skip
    refine xq_aload_n dX1_mayBegin_12 rfl rfl ?_
    refine xq_getF clX1 (by decide) rfl fl_RX1_28 dX1_mayBegin_13 (Fx.s8 hF) (Fx.r8_0 hF) ?_
    refine xq_iconst dX1_mayBegin_16 ic2 ?_
    refine xq_callV1H clX9 gd_X9_fail dX1_mayBegin_17 ml_RX1_71 im_X9_fail se_X9_fail rfl (Fx.s2 hF) (by exact Nat.le_of_ble_eq_true rfl) (by decide) (c_fail hF hs hk (by omega) (c := 2) (by decide)) ?_
    intro x17 H17 p17
    obtain ⟨rfl, q17⟩ := p17
    refine xq_zret dX1_mayBegin_20 rfl (by decide) ?_
    exact ⟨false, H17, ⟨(decide_eq_false (by omega)).symm, fun z => absurd z (by omega), fun _ => q17⟩, rfl⟩
theorem c_wrong (hF : gFx S) (hs : TrP H s n) (hk : TrOk s) (hn : n ≤ 800) (hc : c ≤ 100) : Hv mX1_wrong 1 [.ref 8, vN c] S H vN (fun x H' => x = 3 ∧ FaQ H H' s n c) := by
  refine vq_intro (by decide) (by exact Nat.le_of_ble_eq_true rfl) rfl ?_
  refine xq_aload_n dX1_wrong_0 rfl rfl ?_
  refine xq_getF clX1 (by decide) rfl fl_RX1_28 dX1_wrong_1 (Fx.s8 hF) (Fx.r8_0 hF) ?_
  refine xq_iload_n dX1_wrong_4 rfl rfl ?_
  refine xq_callV1H clX9 gd_X9_fail dX1_wrong_5 ml_RX1_71 im_X9_fail se_X9_fail rfl (Fx.s2 hF) (by exact Nat.le_of_ble_eq_true rfl) (by decide) (c_fail hF hs hk (by omega) (c := c) hc) ?_
  intro x5 H5 p5
  obtain ⟨rfl, q5⟩ := p5
  refine xq_pop dX1_wrong_8 rfl ?_
  refine xq_iconst dX1_wrong_9 ic3 ?_
  refine xq_iret dX1_wrong_10 rfl ?_
  exact ⟨3, H5, ⟨rfl, q5⟩, rfl⟩
theorem c_hold (hF : gFx S) (hs : TrP H s n) (hk : TrOk s) (hn : n ≤ 800) (hz : hI H 8 3 = nI sz) (hz72 : sz < 72) : Hv mX1_hold 1 [.ref 8, vN k, vN p, vN v] S H vN (fun x H' => x = v ∧ H' = sI (sI (sI (sI H 9 sz (nI k)) 10 sz (nI p)) 8 3 (nI (sz + 1))) 2 5 (nI (n + 1))) := by
  refine vq_intro (by decide) (by exact Nat.le_of_ble_eq_true rfl) rfl ?_
  refine xq_aload_n dX1_hold_0 rfl rfl ?_
  refine xq_getIE clX1 (by decide) rfl fl_RX1_35 dX1_hold_1 (Fx.s8 hF) hz ?_
  refine xq_aload_n dX1_hold_4 rfl rfl ?_
  refine xq_getF clX1 (by decide) rfl fl_RX1_9 dX1_hold_5 (Fx.s8 hF) (Fx.r8_1 hF) ?_
  refine xq_alen (v := nI 72) dX1_hold_8 (Fx.s9 hF) (by decide) rfl ?_
  refine xq_icmp_geN dX1_hold_9 rfl (by omega) (by omega) ⟨fun h9 => ?_, fun h9 => ?_⟩
  · skip
    exact absurd h9 (by omega)
  · skip
    refine xq_aload_n dX1_hold_12 rfl rfl ?_
    refine xq_getF clX1 (by decide) rfl fl_RX1_9 dX1_hold_13 (Fx.s8 hF) (Fx.r8_1 hF) ?_
    refine xq_aload_n dX1_hold_16 rfl rfl ?_
    refine xq_getIE clX1 (by decide) rfl fl_RX1_35 dX1_hold_17 (Fx.s8 hF) hz ?_
    refine xq_iload_n dX1_hold_20 rfl rfl ?_
    refine xq_iastN dX1_hold_21 (Fx.s9 hF) (by omega) (by decide) ?_
    refine xq_aload_n dX1_hold_22 rfl rfl ?_
    refine xq_getF clX1 (by decide) rfl fl_RX1_15 dX1_hold_23 (Fx.s8 hF) (Fx.r8_2 hF) ?_
    refine xq_aload_n dX1_hold_26 rfl rfl ?_
    refine xq_getIE (v := nI sz) clX1 (by decide) rfl fl_RX1_35 dX1_hold_27 (Fx.s8 hF) (by rw [hI_sI, if_neg (by omega)]; exact hz) ?_
    refine xq_iload_n dX1_hold_30 rfl rfl ?_
    refine xq_iastN dX1_hold_31 (Fx.s10 hF) (by omega) (by decide) ?_
    refine xq_aload_n dX1_hold_32 rfl rfl ?_
    refine xq_dup dX1_hold_33 rfl ?_
    refine xq_getIE (v := nI sz) clX1 (by decide) rfl fl_RX1_35 dX1_hold_34 (Fx.s8 hF) (by rw [hI_sI, if_neg (by omega), hI_sI, if_neg (by omega)]; exact hz) ?_
    refine xq_iconst dX1_hold_37 ic1 ?_
    refine xq_iaddN dX1_hold_38 ?_
    refine xq_putI clX1 (by decide) rfl fl_RX1_35 (Or.inl rfl) dX1_hold_39 ⟨rfl, rfl⟩ (Fx.s8 hF) ?_
    refine xq_aload_n dX1_hold_42 rfl rfl ?_
    refine xq_getF clX1 (by decide) rfl fl_RX1_28 dX1_hold_43 (Fx.s8 hF) (Fx.r8_0 hF) ?_
    refine xq_callV0N clX9 gd_X9_step dX1_hold_46 ml_RX1_109 im_X9_step se_X9_step rfl (Fx.s2 hF) (by exact Nat.le_of_ble_eq_true rfl) (by decide) (c_step hF (((hs.pI (by omega) _ _).pI (by omega) _ _).pI (by omega) _ _) hk (by omega)) ?_
    intro H46 p46
    subst p46
    refine xq_iload_n dX1_hold_49 rfl rfl ?_
    refine xq_iret dX1_hold_50 rfl ?_
    exact ⟨v, _, ⟨rfl, rfl⟩, rfl⟩
end FA
