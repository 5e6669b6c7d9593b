/-! ===== a formula that was read is well formed ===== -/
section WF1
variable {k p q i j l m n c t d a e f0 : Nat} {s : uTk} {T T2 : uTx} {w w2 : Int64} {x y z : rxT} {fc : Bool} {r : List Nat}
def Cnd (fc : Bool) (T : uTx) (w : Int64) (k : Nat) : Prop := if fc = true then (KnOk T k ∧ (tK T k = 20 ∨ tK T k = 12 ∨ tK T k = 11 → rb w (tY T k) = true) ∧ (tK T k = 12 ∨ tK T k = 11 ∨ tK T k = 13 ∨ tK T k = 16 ∨ tK T k = 17 ∨ tK T k = 18 → rb w (tX T k) = true) ∧ (tK T k = 20 → tX T k < tNf T ∧ tY T k = tRo T (tX T k)) ∧ (tK T k = 14 ∨ tK T k = 15 → tX T k < tNp T) ∧ (tK T k = 16 → tY T k < tNp T)) else LwK T w k
def StK (T : uTx) (a k : Nat) : Prop := (arK (tK T k) = 1 → ∃ r, stk T a (k - a) = tX T k :: r) ∧ (arK (tK T k) = 2 → ∃ r, stk T a (k - a) = tY T k :: tX T k :: r)
def FsI (T : uTx) : Prop := tNp T ≤ 6 ∧ tNc T ≤ 3 ∧ ∀ f, f < tNf T → tRo T f < 64 ∧ rb (tNe T f) (tRo T f) = true ∧ NdOk T (tNe T f)
def WfI (fc : Bool) (a : Nat) (T : uTx) (w : Int64) : Prop := a ≤ tNk T ∧ (∀ k, a ≤ k → k < tNk T → rb w k = true ∧ Cnd fc T w k ∧ StK T a k) ∧ (∀ k, k < 64 → rb w k = true → (a ≤ k ∧ k < tNk T) ∨ (fc = true ∧ ∃ f, f < tNf T ∧ rb (tNe T f) k = true ∧ ∀ j, j < 64 → rb (tNe T f) j = true → rb w j = true)) ∧ FsI T
def sK (T : uTx) (a : Nat) : List Nat := stk T a (tNk T - a)
theorem stk_m (a : Nat) : ∀ n, ∀ q, q ∈ stk T a n → a ≤ q ∧ q < a + n
  | 0, q, h => by cases h
  | n + 1, q, h => by
    rcases List.mem_cons.mp h with e | e
    · omega
    · have := stk_m a n q (List.mem_of_mem_drop e)
      omega
theorem stk_kn {i x y : Nat} (a : Nat) : ∀ n, a + n ≤ tNk T → stk (knT T i x y) a n = stk T a n
  | 0, _ => rfl
  | n + 1, h => by
    show (a + n) :: (stk (knT T i x y) a n).drop (arK (tK (knT T i x y) (a + n))) = (a + n) :: (stk T a n).drop (arK (tK T (a + n)))
    rw [stk_kn a n (by omega), knT_k, if_neg (by omega)]
theorem sK_kn {i x y : Nat} (h : a ≤ tNk T) : sK (knT T i x y) a = tNk T :: (sK T a).drop (arK i) := by
  unfold sK
  rw [knT_n, show tNk T + 1 - a = (tNk T - a) + 1 by omega]
  show (a + (tNk T - a)) :: (stk (knT T i x y) a (tNk T - a)).drop (arK (tK (knT T i x y) (a + (tNk T - a)))) = _
  rw [stk_kn a _ (by omega), show a + (tNk T - a) = tNk T by omega, knT_k, if_pos rfl]
theorem KnOk.kn {i x y : Nat} (h : KnOk T k) (hk : k < tNk T) : KnOk (knT T i x y) k := by
  unfold KnOk at h ⊢
  rw [knT_k, knT_x, knT_y, if_neg (by omega), if_neg (by omega), if_neg (by omega)]
  exact h
theorem NdOk.kn {i x y : Nat} (h : NdOk T w) : NdOk (knT T i x y) w := fun k hk hb => by
  obtain ⟨h1, h2, h3, h4⟩ := h k hk hb
  refine ⟨Nat.lt_succ_of_lt h1, h2.kn h1, ?_, ?_⟩
  · rw [knT_k, knT_y, if_neg (by omega), if_neg (by omega)]; exact h3
  · rw [knT_k, knT_x, if_neg (by omega), if_neg (by omega)]; exact h4
theorem FsI.kn {i x y : Nat} (h : FsI T) : FsI (knT T i x y) := ⟨h.1, h.2.1, fun f hf => ⟨(h.2.2 f hf).1, (h.2.2 f hf).2.1, (h.2.2 f hf).2.2.kn⟩⟩
theorem Cnd.kn {i x y : Nat} (h : Cnd fc T w k) (hk : k < tNk T) (hw : ∀ j, j < 64 → rb w j = true → rb w2 j = true) (h64 : tNk T ≤ 64) (hf : FsI T) : Cnd fc (knT T i x y) w2 k := by
  unfold Cnd at h ⊢
  cases fc with
  | true =>
    rw [if_pos rfl] at h ⊢
    obtain ⟨h1, h2, h3, h4, h5, h6⟩ := h
    have hx : tX T k < 64 ∨ ¬ (tK T k = 12 ∨ tK T k = 11 ∨ tK T k = 13 ∨ tK T k = 16 ∨ tK T k = 17 ∨ tK T k = 18) := by
      rcases h1 with g | g | g | g | g | g | g | g | g | g <;> omega
    have hy : tY T k < 64 ∨ ¬ (tK T k = 20 ∨ tK T k = 12 ∨ tK T k = 11) := by
      rcases h1 with g | g | g | g | g | g | g | g | g | g <;> omega
    refine ⟨h1.kn hk, ?_⟩
    rw [knT_k, knT_x, knT_y, if_neg (by omega), if_neg (by omega), if_neg (by omega)]
    exact ⟨fun z => hw _ (hy.elim id (fun q => absurd z q)) (h2 z), fun z => hw _ (hx.elim id (fun q => absurd z q)) (h3 z), h4, h5, h6⟩
  | false =>
    rw [if_neg (by decide)] at h ⊢
    unfold LwK at h ⊢
    rw [knT_k, knT_x, knT_y, if_neg (by omega), if_neg (by omega), if_neg (by omega)]
    rcases h with g | g | ⟨g1, g2, g3, g4⟩ | ⟨g1, g2, g3, g4, g5, g6⟩
    · exact Or.inl g
    · exact Or.inr (Or.inl g)
    · exact Or.inr (Or.inr (Or.inl ⟨g1, g2, hw _ (by omega) g3, g4⟩))
    · exact Or.inr (Or.inr (Or.inr ⟨g1, g2, g3, hw _ (by omega) g4, g5, hw _ (by omega) g6⟩))
theorem StK.kn {i x y : Nat} (h : StK T a k) (hk : k < tNk T) (ha : a ≤ k) : StK (knT T i x y) a k := by
  unfold StK at h ⊢
  rw [stk_kn a _ (by omega), knT_k, knT_x, knT_y, if_neg (by omega), if_neg (by omega), if_neg (by omega)]
  exact h
/-- one knot more -/
theorem WfI.add {i x y : Nat} (h : WfI fc a T w) (h64 : tNk T < 64) (hw : ∀ j, j < 64 → rb w j = true → rb w2 j = true) (hw2 : ∀ j, j < 64 → rb w2 j = true → rb w j = true ∨ (fc = true ∧ ∃ f, f < tNf T ∧ rb (tNe T f) j = true ∧ ∀ j2, j2 < 64 → rb (tNe T f) j2 = true → rb w2 j2 = true))
    (hc : Cnd fc (knT T i x y) (oB w2 (tNk T)) (tNk T)) (h1 : arK i = 1 → ∃ r, sK T a = x :: r) (h2 : arK i = 2 → ∃ r, sK T a = y :: x :: r) : WfI fc a (knT T i x y) (oB w2 (tNk T)) := by
  obtain ⟨g1, g2, g3, g4⟩ := h
  have hb : ∀ j, rb (oB w2 (tNk T)) j = if j = tNk T then true else rb w2 j := fun j => rb_oB h64
  have hup : ∀ j, j < 64 → rb w j = true → rb (oB w2 (tNk T)) j = true := fun j hj z => by
    rw [hb]; split
    · rfl
    · exact hw j hj z
  refine ⟨Nat.le_succ_of_le g1, fun k hk hk2 => ?_, fun k hk hk2 => ?_, g4.kn⟩
  · have hk2 : k < tNk T + 1 := hk2
    by_cases e : k = tNk T
    · subst e
      refine ⟨by rw [hb, if_pos rfl], hc, ?_⟩
      unfold StK
      rw [stk_kn a _ (by omega), knT_k, knT_x, knT_y, if_pos rfl, if_pos rfl, if_pos rfl]
      exact ⟨h1, h2⟩
    · have hk3 : k < tNk T := by omega
      obtain ⟨b1, b2, b3⟩ := g2 k hk hk3
      exact ⟨hup k (by omega) b1, b2.kn hk3 hup (by omega) g4, b3.kn hk3 hk⟩
  · rw [hb] at hk2
    by_cases e : k = tNk T
    · exact Or.inl ⟨by omega, by show k < tNk T + 1; omega⟩
    · rw [if_neg e] at hk2
      rcases hw2 k hk hk2 with z | ⟨z1, f, z2, z3, z4⟩
      · rcases g3 k hk z with q | ⟨q1, f, q2, q3, q4⟩
        · exact Or.inl ⟨q.1, Nat.lt_succ_of_lt q.2⟩
        · exact Or.inr ⟨q1, f, q2, q3, fun j hj z => hup j hj (q4 j hj z)⟩
      · refine Or.inr ⟨z1, f, z2, z3, fun j hj z => ?_⟩
        rw [hb]; split
        · rfl
        · exact z4 j hj z
def Wfx (fc : Bool) (a : Nat) (x : rxT) : Prop := WfI fc a (rxX x) (rxW x) ∧ rxB x ≤ 64 ∧ tNk (rxX x) ≤ rxB x
/-- a part: one operand more -/
def WpQ (fc : Bool) (a : Nat) (f : rxT → rxR) : Prop := ∀ x y, Wfx fc a x → f x = .inr y → Wfx fc a y ∧ sK (rxX y) a = rtX y :: sK (rxX x) a
/-- a part that goes on behind an operand -/
def WlQ (fc : Bool) (a : Nat) (f : rxT → rxR) : Prop := ∀ x y r, Wfx fc a x → sK (rxX x) a = rtX x :: r → f x = .inr y → Wfx fc a y ∧ sK (rxX y) a = rtX y :: r
theorem Wfx.nx (h : Wfx fc a x) (hb : rxB x < 64) : Wfx fc a (nxB x) := ⟨h.1, hb, Nat.le_succ_of_le h.2.2⟩
theorem sK_in (h : WfI fc a T w) (hq : q ∈ sK T a) : a ≤ q ∧ q < tNk T ∧ rb w q = true := by
  have := stk_m a _ q hq
  have h1 := h.1
  exact ⟨this.1, by omega, (h.2.1 q this.1 (by omega)).1⟩
/-- a leaf -/
theorem wf_leaf {u v : Nat} (h : Wfx fc a x) (hb : rxB x < 64) (h0 : arK k = 0) (hc : Cnd fc (knT (rxX x) k u v) (oB (rxW x) (tNk (rxX x))) (tNk (rxX x))) : Wfx fc a (kpR k u v n x) ∧ sK (rxX (kpR k u v n x)) a = rtX (kpR k u v n x) :: sK (rxX x) a := by
  have hn : tNk (rxX x) < 64 := by have := h.2.2; omega
  refine ⟨⟨h.1.add hn (fun _ _ z => z) (fun _ _ z => Or.inl z) hc (fun z => by omega) (fun z => by omega), hb, show tNk (rxX x) + 1 ≤ rxB x + 1 by have := h.2.2; omega⟩, ?_⟩
  show sK (knT (rxX x) k u v) a = _
  rw [sK_kn h.1.1, h0]; rfl
/-- the new knot, seen in its own text -/
theorem kn_self {i x y : Nat} : tK (knT T i x y) (tNk T) = i ∧ tX (knT T i x y) (tNk T) = x ∧ tY (knT T i x y) (tNk T) = y := ⟨by rw [knT_k, if_pos rfl], by rw [knT_x, if_pos rfl], by rw [knT_y, if_pos rfl]⟩
theorem cnd_new {i u v : Nat} (hk : (i = 14 ∧ u < 6 ∧ v < 4) ∨ (i = 15 ∧ u < 6) ∨ (i = 19 ∧ u < 4 ∧ v ≤ 6) ∨ (i = 20 ∧ v < tNk T) ∨ (i = 12 ∧ u < tNk T ∧ v < tNk T) ∨ (i = 11 ∧ u < tNk T ∧ v < tNk T) ∨ (i = 13 ∧ u < tNk T) ∨ (i = 16 ∧ u < tNk T ∧ v < 6) ∨ (i = 17 ∧ u < tNk T) ∨ (i = 18 ∧ u < tNk T)) (h2 : i = 20 ∨ i = 12 ∨ i = 11 → rb w v = true) (h3 : i = 12 ∨ i = 11 ∨ i = 13 ∨ i = 16 ∨ i = 17 ∨ i = 18 → rb w u = true) (h4 : i = 20 → u < tNf T ∧ v = tRo T u) (h5 : i = 14 ∨ i = 15 → u < tNp T) (h6 : i = 16 → v < tNp T) : Cnd true (knT T i u v) w (tNk T) := by
  unfold Cnd
  rw [if_pos rfl]
  unfold KnOk
  obtain ⟨e1, e2, e3⟩ := kn_self (T := T) (i := i) (x := u) (y := v)
  rw [e1, e2, e3]
  exact ⟨hk, h2, h3, h4, h5, h6⟩
theorem cnd_lw {i u v : Nat} (hk : (21 ≤ i ∧ i ≤ 27) ∨ (i = 38 ∧ u ≤ 9999) ∨ (i = 13 ∧ u < tNk T ∧ rb w u = true ∧ v < 64) ∨ (WkK i ∧ i ≠ 13 ∧ u < tNk T ∧ rb w u = true ∧ v < tNk T ∧ rb w v = true)) : Cnd false (knT T i u v) w (tNk T) := by
  unfold Cnd
  rw [if_neg (by decide)]
  unfold LwK
  obtain ⟨e1, e2, e3⟩ := kn_self (T := T) (i := i) (x := u) (y := v)
  rw [e1, e2, e3]
  exact hk
def isU (fc : Bool) (k p np : Nat) : Prop := (k = 13 ∧ p = 0) ∨ (fc = true ∧ ((k = 16 ∧ p < np) ∨ ((k = 17 ∨ k = 18) ∧ p = 0)))
theorem ar_U (h : isU fc k p e) : arK k = 1 := by
  unfold arK
  rcases h with h | ⟨-, h | h⟩ <;> rw [if_pos (by omega)]
theorem rb_up {n : Nat} (hn : n < 64) (h : rb w q = true) : rb (oB w n) q = true := by
  rw [rb_oB hn]; split
  · rfl
  · exact h
theorem wf_u (h : Wfx fc a x) (h1 : Wfx fc a y) (hs : sK (rxX y) a = rtX y :: sK (rxX x) a) (hn : tNk (rxX y) < rxB y) (hu : isU fc k p (tNp (rxX y))) : Wfx fc a (adU k p y) ∧ sK (rxX (adU k p y)) a = rtX (adU k p y) :: sK (rxX x) a := by
  have hn64 : tNk (rxX y) < 64 := by have := h1.2.1; omega
  have hin := sK_in h1.1 (q := rtX y) (by rw [hs]; exact List.mem_cons_self)
  have hp6 := h1.1.2.2.2.1
  refine ⟨⟨h1.1.add hn64 (fun _ _ z => z) (fun _ _ z => Or.inl z) ?_ (fun _ => ⟨_, hs⟩) (fun z => by rw [ar_U hu] at z; cases z), h1.2.1, show tNk (rxX y) + 1 ≤ rxB y by omega⟩, ?_⟩
  · have hr : rb (oB (rxW y) (tNk (rxX y))) (tNk (rxX y) - 1) = true := rb_up hn64 hin.2.2
    have hlt : tNk (rxX y) - 1 < tNk (rxX y) := hin.2.1
    cases fc with
    | true =>
      refine cnd_new ?_ (fun z => ?_) (fun _ => hr) (fun z => ?_) (fun z => ?_) (fun z => ?_)
      · rcases hu with ⟨e1, e2⟩ | ⟨-, ⟨e1, e2⟩ | ⟨e1 | e1, e2⟩⟩ <;> omega
      · rcases hu with ⟨e1, e2⟩ | ⟨-, ⟨e1, e2⟩ | ⟨e1 | e1, e2⟩⟩ <;> omega
      · rcases hu with ⟨e1, e2⟩ | ⟨-, ⟨e1, e2⟩ | ⟨e1 | e1, e2⟩⟩ <;> omega
      · rcases hu with ⟨e1, e2⟩ | ⟨-, ⟨e1, e2⟩ | ⟨e1 | e1, e2⟩⟩ <;> omega
      · rcases hu with ⟨e1, e2⟩ | ⟨-, ⟨e1, e2⟩ | ⟨e1 | e1, e2⟩⟩
        · omega
        · exact e2
        · omega
        · omega
    | false =>
      rcases hu with ⟨e1, e2⟩ | ⟨e, -⟩
      · exact cnd_lw (Or.inr (Or.inr (Or.inl ⟨e1, hlt, hr, by omega⟩)))
      · cases e
  · show sK (knT (rxX y) k (tNk (rxX y) - 1) p) a = _
    rw [sK_kn h1.1.1, ar_U hu, hs]; rfl
def isB (fc : Bool) (k : Nat) : Prop := k = 11 ∨ k = 12 ∨ (fc = false ∧ 28 ≤ k ∧ k ≤ 37)
theorem ar_B (h : isB fc k) : arK k = 2 := by
  unfold isB at h
  unfold arK
  rw [if_neg (by omega), if_pos (by omega)]
theorem wf_b (h1 : Wfx fc a y) (hs : sK (rxX y) a = rtX y :: rtX x :: r) (hn : tNk (rxX y) < rxB y) (hb : isB fc k) : Wfx fc a (adB k x y) ∧ sK (rxX (adB k x y)) a = rtX (adB k x y) :: r := by
  have hn64 : tNk (rxX y) < 64 := by have := h1.2.1; omega
  have hin := sK_in h1.1 (q := rtX y) (by rw [hs]; exact List.mem_cons_self)
  have hix := sK_in h1.1 (q := rtX x) (by rw [hs]; exact List.mem_cons_of_mem _ List.mem_cons_self)
  have hr : rb (oB (rxW y) (tNk (rxX y))) (tNk (rxX y) - 1) = true := rb_up hn64 hin.2.2
  have hrx : rb (oB (rxW y) (tNk (rxX y))) (tNk (rxX x) - 1) = true := rb_up hn64 hix.2.2
  have hlt : tNk (rxX y) - 1 < tNk (rxX y) := hin.2.1
  have hlx : tNk (rxX x) - 1 < tNk (rxX y) := hix.2.1
  refine ⟨⟨h1.1.add hn64 (fun _ _ z => z) (fun _ _ z => Or.inl z) ?_ (fun z => by rw [ar_B hb] at z; cases z) (fun _ => ⟨_, hs⟩), h1.2.1, show tNk (rxX y) + 1 ≤ rxB y by omega⟩, ?_⟩
  · unfold isB at hb
    cases fc with
    | true => 
      have hb : k = 11 ∨ k = 12 := by
        rcases hb with e | e | ⟨e, -⟩
        · exact Or.inl e
        · exact Or.inr e
        · cases e
      exact cnd_new (by omega) (fun _ => hr) (fun _ => hrx) (fun z => by omega) (fun z => by omega) (fun z => by omega)
    | false => exact cnd_lw (Or.inr (Or.inr (Or.inr ⟨by unfold WkK; omega, by omega, hlx, hrx, hlt, hr⟩)))
  · show sK (knT (rxX y) k (tNk (rxX x) - 1) (tNk (rxX y) - 1)) a = _
    rw [sK_kn h1.1.1, ar_B hb, hs]; rfl
theorem brk_w {f : rxT → rxR} (hf : WpQ fc a f) : WpQ fc a (brk s f) := fun x y hx h => by
  unfold brk at h
  split at h
  · cases h
  · obtain ⟨z, h1, h2⟩ := bnd_r h
    have hz := hf (rxN x + 1, rxX x, rxB x, rxO x + 1, rxW x) _ hx h1
    split at h2
    · cases h2; exact hz
    · cases h2
/-- fewer knots than were begun, behind a sign -/
theorem nk_lt {e : Nat} (h : Wfx fc a x) (hq : RxQ e (nxB x) y) : tNk (rxX y) < rxB y := by
  have q4 : tNk (rxX y) + (rxB x + 1) = tNk (rxX x) + rxB y := hq.2.2.2.1
  have := h.2.2
  omega
theorem lopG_w {g : Nat → Bool} {f h : rxT → rxR} {e : Nat} (hfq : PtQ e f) (hf : WpQ fc a f) (hh : WlQ fc a h) (hg : ∀ k, g k = true → isB fc k) : WlQ fc a (lopG s g f h) := fun x y r hx hs e2 => by
  unfold lopG at e2
  split at e2
  · rename_i hgk
    split at e2
    · cases e2
    · obtain ⟨z, h1, h2⟩ := bnd_r e2
      have hz := hf (nxB x) _ (hx.nx (by omega)) h1
      have hq := hfq (nxB x) _ (show rxB x + 1 ≤ 64 by omega) h1
      obtain ⟨b1, b2⟩ := wf_b (x := x) (r := r) hz.1 (hz.2.trans (congrArg _ hs)) (nk_lt hx hq) (hg _ hgk)
      exact hh _ _ r b1 b2 h2
  · cases e2; exact ⟨hx, hs⟩
theorem prf_w {f : rxT → rxR} {e : Nat} (hfq : PtQ e f) (hf : WpQ fc a f) (x y : rxT) (hx : Wfx fc a x) (hk : kK s (rxN x) = 13 ∨ (fc = true ∧ (kK s (rxN x) = 17 ∨ kK s (rxN x) = 18))) (h : prf s f x = .inr y) : Wfx fc a y ∧ sK (rxX y) a = rtX y :: sK (rxX x) a := by
  unfold prf at h
  split at h
  · cases h
  · obtain ⟨z, h1, h2⟩ := bnd_r h
    cases h2
    have hz := hf (nxB x) _ (hx.nx (by omega)) h1
    have hq := hfq (nxB x) _ (show rxB x + 1 ≤ 64 by omega) h1
    refine wf_u hx hz.1 hz.2 (nk_lt hx hq) ?_
    rcases hk with e | ⟨e, e2⟩
    · exact Or.inl ⟨e, rfl⟩
    · exact Or.inr ⟨e, Or.inr ⟨e2, rfl⟩⟩
theorem bnd_w {f h : rxT → rxR} (hf : WpQ fc a f) (hh : WlQ fc a h) : WpQ fc a (fun x => bnd (f x) h) := fun x y hx e => by
  obtain ⟨z, h1, h2⟩ := bnd_r e
  have hz := hf _ _ hx h1
  exact hh _ _ _ hz.1 hz.2 h2
theorem knoZ_n {cd : Nat → Nat} {sz : Nat} (h : ¬ knoZ s n cd sz = -1) : (knoZ s n cd sz).toNat < sz := by
  obtain ⟨-, h2, h3⟩ := zP_v h
  rw [h3]; exact h2
theorem lea_w (hx : Wfx true a x) (hb : rxB x < 64) (hk : kK s (rxN x) = k) (hkk : k = 14 ∨ k = 15 ∨ k = 19 ∨ k = 20) (h : leaL s k x = .inr y) : Wfx true a y ∧ sK (rxX y) a = rtX y :: sK (rxX x) a := by
  obtain ⟨f1, f2, f3⟩ := hx.1.2.2.2
  unfold leaL at h
  by_cases e14 : k = 14
  · rw [if_pos e14] at h
    split at h
    · cases h
    · rename_i z1
      split at h
      · cases h
      · rename_i z2
        have a1 := knoZ_n z1; have a2 := knoZ_n z2
        cases h
        exact wf_leaf hx hb rfl (cnd_new (Or.inl ⟨rfl, Nat.lt_of_lt_of_le a1 f1, Nat.lt_of_lt_of_le a2 (by omega)⟩) (fun z => by omega) (fun z => by omega) (fun z => by omega) (fun _ => a1) (fun z => by omega))
  rw [if_neg e14] at h
  by_cases e15 : k = 15
  · rw [if_pos e15] at h
    split at h
    · cases h
    · rename_i z1
      have a1 := knoZ_n z1
      cases h
      exact wf_leaf hx hb rfl (cnd_new (Or.inr (Or.inl ⟨rfl, Nat.lt_of_lt_of_le a1 f1⟩)) (fun z => by omega) (fun z => by omega) (fun z => by omega) (fun _ => a1) (fun z => by omega))
  rw [if_neg e15] at h
  by_cases e19 : k = 19
  · rw [if_pos e19] at h
    split at h
    · cases h
    · rename_i z1
      split at h
      · cases h
      · rename_i z2
        have a1 := knoZ_n z1
        have a2 := (numB_t z2).2
        cases h
        exact wf_leaf hx hb rfl (cnd_new (Or.inr (Or.inr (Or.inl ⟨rfl, Nat.lt_of_lt_of_le a1 (by omega), a2⟩))) (fun z => by omega) (fun z => by omega) (fun z => by omega) (fun z => by omega) (fun z => by omega))
  rw [if_neg e19] at h
  split at h
  · cases h
  · rename_i z1
    have a1 := knoZ_n z1
    obtain ⟨r1, r2, r3⟩ := f3 _ a1
    have r4 := (r3 _ r1 r2).1
    have hn64 : tNk (rxX x) < 64 := by have := hx.2.2; omega
    have hor : ∀ j, rb (rxW x ||| tNe (rxX x) (zA s (rxN x + 1) x).toNat) j = (rb (rxW x) j || rb (tNe (rxX x) (zA s (rxN x + 1) x).toNat) j) := fun j => by
      unfold rb; rw [Int64.toBitVec_or, BitVec.getLsbD_or]
    cases h
    refine ⟨⟨hx.1.add hn64 (fun j hj z => by show rb (rxW x ||| tNe (rxX x) (zA s (rxN x + 1) x).toNat) j = true; rw [hor, z]; rfl) (fun j hj z => ?_) (cnd_new (Or.inr (Or.inr (Or.inr (Or.inl ⟨rfl, r4⟩)))) (fun _ => ?_) (fun z => by omega) (fun _ => ⟨a1, rfl⟩) (fun z => by omega) (fun z => by omega)) (fun z => by cases z) (fun z => by cases z), hb, show tNk (rxX x) + 1 ≤ rxB x + 1 by have := hx.2.2; omega⟩, ?_⟩
    · have z : rb (rxW x ||| tNe (rxX x) (zA s (rxN x + 1) x).toNat) j = true := z
      rw [hor] at z
      by_cases c : rb (rxW x) j = true
      · exact Or.inl c
      · have c2 : rb (rxW x) j = false := by simpa using c
        rw [c2, Bool.false_or] at z
        exact Or.inr ⟨rfl, (zA s (rxN x + 1) x).toNat, a1, z, fun j2 _ q => by
          have q : rb (tNe (rxX x) (zA s (rxN x + 1) x).toNat) j2 = true := q
          show rb (rxW x ||| tNe (rxX x) (zA s (rxN x + 1) x).toNat) j2 = true; rw [hor, q, Bool.or_true]⟩
    · exact rb_up hn64 (by show rb (rxW x ||| tNe (rxX x) (zA s (rxN x + 1) x).toNat) _ = true; rw [hor]; rw [show rb (tNe (rxX x) (zA s (rxN x + 1) x).toNat) (tRo (rxX x) (zA s (rxN x + 1) x).toNat) = true from r2, Bool.or_true])
    · show sK (knT (rxX x) 20 _ _) a = _
      rw [sK_kn hx.1.1]; rfl
theorem pln_w {f h : rxT → rxR} {e : Nat} (hf : WpQ true a f) (hq : PtQ e h) (hh : WpQ true a h) : WpQ true a (plnL s f h) := fun x y hx ey => by
  unfold plnL at ey
  split at ey
  · exact brk_w hf x y hx ey
  · split at ey
    · cases ey
    · split at ey
      · cases ey
      · rename_i h1 h2 h64
        split at ey
        · split at ey
          · cases ey
          · rename_i z1
            obtain ⟨z, g1, g2⟩ := bnd_r ey
            cases g2
            have hz := hh (rxN x + 2, rxX x, rxB x + 1, rxO x, rxW x) _ ⟨hx.1, show rxB x + 1 ≤ 64 by omega, Nat.le_succ_of_le hx.2.2⟩ g1
            have hqz := hq (rxN x + 2, rxX x, rxB x + 1, rxO x, rxW x) _ (show rxB x + 1 ≤ 64 by omega) g1
            refine wf_u hx hz.1 hz.2 ?_ (Or.inr ⟨rfl, Or.inl ⟨rfl, ?_⟩⟩)
            · have q4 : tNk (rxX z) + (rxB x + 1) = tNk (rxX x) + rxB z := hqz.2.2.2.1
              have := hx.2.2
              omega
            · rw [hqz.2.2.2.2.np]; exact knoZ_n z1
        · split at ey
          · rename_i h17
            exact prf_w hq hh x y hx (Or.inr ⟨rfl, h17⟩) ((if_neg h64).trans ey)
          · exact lea_w hx (by omega) rfl (by omega) ey
theorem prm_w {f : rxT → rxR} (hf : WpQ false a f) : WpQ false a (prmL s f) := fun x y hx e => by
  unfold prmL at e
  split at e
  · exact brk_w hf x y hx e
  · split at e
    · split at e
      · cases e
      · rename_i hb
        split at e
        · cases e
        · cases e
          have h9 : kV s (rxN x) ≤ 9999 := (numB_t hb).2
          exact wf_leaf hx (by omega) rfl (cnd_lw (Or.inr (Or.inl ⟨rfl, h9⟩)))
    · split at e
      · cases e
      · rename_i hr
        split at e
        · cases e
        · cases e
          exact wf_leaf hx (by omega) (by unfold arK; rw [if_neg (by omega), if_neg (by omega)]) (cnd_lw (Or.inl (by omega)))
theorem neg_w {f h : rxT → rxR} {e e2 : Nat} (hfq : PtQ e f) (hf : WpQ false a f) (hhq : PtQ e2 h) (hh : WpQ false a h) : WpQ false a (negL s f h) := fun x y hx ey => by
  unfold negL at ey
  split at ey
  · rename_i h13; exact prf_w hfq hf x y hx (Or.inl h13) ey
  · exact bnd_w hh (lopG_w hhq hh (fun x y r hx hs e => by cases e; exact ⟨hx, hs⟩) (fun k hk => Or.inr (Or.inr ⟨rfl, by have := isC_t hk; omega, by have := isC_t hk; omega⟩))) x y hx ey
def WfA (s : uTk) (a d : Nat) : Prop := (∀ l, l ≤ 3 → WpQ true a (rd s d l)) ∧ (∀ l, l = 4 ∨ l = 5 → WlQ true a (rd s d l)) ∧ (∀ l, 6 ≤ l → l ≤ 11 → WpQ false a (rd s d l)) ∧ (∀ l, 12 ≤ l → l ≤ 15 → WlQ false a (rd s d l))
theorem rd_wf : ∀ d, WfA s a d
  | 0 => ⟨fun l _ x y _ e => by (cases e), fun l _ x y r _ _ e => by (cases e), fun l _ _ x y _ e => by (cases e), fun l _ _ x y r _ _ e => by (cases e)⟩
  | d + 1 => by
    obtain ⟨i1, i2, i3, i4⟩ := rd_wf d
    have Q := fun l => rd_q (s := s) d l
    refine ⟨fun l hl => ?_, fun l hl => ?_, fun l hl hl2 => ?_, fun l hl hl2 => ?_⟩
    · have : l = 0 ∨ l = 1 ∨ l = 2 ∨ l = 3 := by omega
      rcases this with rfl | rfl | rfl | rfl
      · exact bnd_w (i1 1 (by decide)) (i2 4 (by decide))
      · exact bnd_w (i1 2 (by decide)) (i2 5 (by decide))
      · intro x y hx e
        rw [rd_2] at e
        split at e
        · rename_i h13; exact prf_w (Q 2) (i1 2 (by decide)) x y hx (Or.inl h13) e
        · exact i1 3 (by decide) x y hx e
      · exact pln_w (i1 0 (by decide)) (Q 3) (i1 3 (by decide))
    · rcases hl with rfl | rfl
      · exact lopG_w (Q 1) (i1 1 (by decide)) (i2 4 (by decide)) (fun k hk => by have := isE_t hk; unfold isB; omega)
      · exact lopG_w (Q 2) (i1 2 (by decide)) (i2 5 (by decide)) (fun k hk => by have := isE_t hk; unfold isB; omega)
    · have : l = 6 ∨ l = 7 ∨ l = 8 ∨ l = 9 ∨ l = 10 ∨ l = 11 := by omega
      rcases this with rfl | rfl | rfl | rfl | rfl | rfl
      · exact bnd_w (i3 7 (by decide) (by decide)) (i4 12 (by decide) (by decide))
      · exact bnd_w (i3 8 (by decide) (by decide)) (i4 13 (by decide) (by decide))
      · exact neg_w (Q 8) (i3 8 (by decide) (by decide)) (Q 9) (i3 9 (by decide) (by decide))
      · exact bnd_w (i3 10 (by decide) (by decide)) (i4 14 (by decide) (by decide))
      · exact bnd_w (i3 11 (by decide) (by decide)) (i4 15 (by decide) (by decide))
      · exact prm_w (i3 6 (by decide) (by decide))
    · have : l = 12 ∨ l = 13 ∨ l = 14 ∨ l = 15 := by omega
      rcases this with rfl | rfl | rfl | rfl
      · exact lopG_w (Q 7) (i3 7 (by decide) (by decide)) (i4 12 (by decide) (by decide)) (fun k hk => by have := isE_t hk; unfold isB; omega)
      · exact lopG_w (Q 8) (i3 8 (by decide) (by decide)) (i4 13 (by decide) (by decide)) (fun k hk => by have := isE_t hk; unfold isB; omega)
      · exact lopG_w (Q 10) (i3 10 (by decide) (by decide)) (i4 14 (by decide) (by decide)) (fun k hk => by have := isE_t hk; unfold isB; exact Or.inr (Or.inr ⟨rfl, by omega, by omega⟩))
      · exact lopG_w (Q 11) (i3 11 (by decide) (by decide)) (i4 15 (by decide) (by decide)) (fun k hk => by have := isE_t hk; unfold isB; exact Or.inr (Or.inr ⟨rfl, by omega, by omega⟩))
/-- a whole formula -/
theorem rd_wf0 (hf : FsI T) (h64 : tNk T ≤ 64) (e : rd s d (lvF fc) (rx0 n T) = .inr y) : WfI fc (tNk T) (rxX y) (rxW y) ∧ sK (rxX y) (tNk T) = [rtX y] ∧ tNk T < tNk (rxX y) ∧ tNk (rxX y) ≤ 64 ∧ SmT T (rxX y) := by
  have h0 : Wfx fc (tNk T) (rx0 n T) := ⟨⟨Nat.le_refl _, fun k h1 h2 => absurd h2 (by show ¬ k < tNk T; omega), (fun k hk hb => by
    have : rb (lN 0) k = false := by unfold rb; rw [show (lN 0).toBitVec = 0#64 from rfl]; exact BitVec.getLsbD_zero
    rw [show rxW (rx0 n T) = lN 0 from rfl, this] at hb; cases hb), hf⟩, h64, Nat.le_refl _⟩
  have hs0 : sK (rxX (rx0 n T)) (tNk T) = [] := by
    show stk T (tNk T) (tNk T - tNk T) = []
    rw [Nat.sub_self]; rfl
  have hq := rd_q d (lvF fc) (rx0 n T) y h64 e
  have hw : Wfx fc (tNk T) y ∧ sK (rxX y) (tNk T) = rtX y :: sK (rxX (rx0 n T)) (tNk T) := by
    cases fc with
    | true => exact (rd_wf d).1 0 (by decide) _ _ h0 e
    | false => exact (rd_wf d).2.2.1 6 (by decide) (by decide) _ _ h0 e
  have hl : isL2 (lvF fc) = 1 := by cases fc <;> rfl
  have q2 := hq.2.1
  rw [hl] at q2
  have q4 : tNk (rxX y) + tNk T = tNk T + rxB y := hq.2.2.2.1
  have q2 : tNk T + 1 ≤ rxB y := q2
  have q3 := hq.2.2.1
  exact ⟨hw.1.1, by rw [hw.2, hs0], by omega, by omega, hq.2.2.2.2⟩
end WF1
