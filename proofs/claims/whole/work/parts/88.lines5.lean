/-! ===== Reader: fact, law ===== -/
section LO
variable {S : xS} {H H1 H2 H3 : xH} {k p q f i j l m n c t v r st D : Nat} {s : uTk} {T T2 : uTx} {cd : Nat → Nat} {sz : Nat} {w : Int64} {fc : Bool} {x : fmT}
theorem mR_ok (hk : TrOk s) : ∀ {d st n : Nat} {x : fmT}, FI x → (st = 2 → fmH x ≠ []) → mR s fc d st n x = .inr (m, T2, w, r) → SmT (fmX x) T2 ∧ n ≤ m ∧ kK s m = 40
  | 0, _, _, _, _, _, e => by cases e
  | d + 1, st, n, x, h, hne, e => by
    by_cases hf : st = 2 ∧ fmO x = 0 ∧ kK s n = 40
    · rw [mR_e hf] at e; cases e
      exact ⟨tieF_s, Nat.le_refl _, hf.2.2⟩
    · cases er : stpS s fc st n x with
      | inl z => rw [mR_f hf er] at e; cases e
      | inr z =>
        obtain ⟨st2, n2, x2⟩ := z
        rw [mR_c hf er] at e
        obtain ⟨g1, g2, g3, g4, g5, g6⟩ := stp_ok h hne (kK_le hk) er
        obtain ⟨a1, a2, a3⟩ := mR_ok hk g1 g3 e
        exact ⟨g6.tr a1, by omega, a3⟩
def setU (T : uTx) (a k : Nat) (v : Int64) : uTx := (T.1, fun x y => if x = a ∧ y = k then v else T.2 x y)
def facT (T : uTx) (code root : Nat) (w : Int64) : uTx := setT (setU (setT (setT T 9 (tNf T) code) 10 (tNf T) root) 0 (tNf T) w) 0 2 (tNf T + 1)
def lawT (T : uTx) (law root : Nat) (w : Int64) : uTx := setU (setT T 14 law root) 1 law w
def fx0 (T : uTx) : fmT := ([], [], 0, T, tNk T, lN 0)
def facR (D : Nat) (s : uTk) (n : Nat) (T : uTx) : rLn := if 8 ≤ tNf T then .inl (2, n) else if freB s (n + 1) (tFn T) (tNf T) = false then .inl (freF s (n + 1), n + 1) else match mR s true D 0 (n + 2) (fx0 T) with
  | .inl e => .inl e
  | .inr z => .inr (z.1, facT z.2.1 (kV s (n + 1)) z.2.2.2 z.2.2.1)
def lawR (D : Nat) (s : uTk) (n : Nat) (T : uTx) : rLn := if kK s (n + 1) ≠ 9 ∧ kK s (n + 1) ≠ 10 then .inl (1, n + 1) else if tLn T (kK s (n + 1) - 9) ≠ 0 then .inl (3, n + 1) else match mR s false D 0 (n + 2) (fx0 T) with
  | .inl e => .inl e
  | .inr z => .inr (z.1, lawT z.2.1 (kK s (n + 1) - 9) z.2.2.2 z.2.2.1)
theorem fx0_i (h : tNk T ≤ 64) : FI (fx0 T) := ⟨rfl, h, Nat.zero_le _, rfl, Nat.zero_le _, fun q h => by cases h⟩
theorem facT_n (k : Nat) : tFn (facT T i v w) k = if k = tNf T then i else tFn T k := by
  show (if 9 = 0 ∧ k = 2 then tNf T + 1 else if 9 = 10 ∧ k = tNf T then v else if 9 = 9 ∧ k = tNf T then i else tFn T k) = _
  rw [if_neg (by omega), if_neg (by omega)]
  by_cases e : k = tNf T
  · rw [if_pos ⟨rfl, e⟩, if_pos e]
  · rw [if_neg (fun z => e z.2), if_neg e]
theorem facT_r (k : Nat) : tRo (facT T i v w) k = if k = tNf T then v else tRo T k := by
  show (if 10 = 0 ∧ k = 2 then tNf T + 1 else if 10 = 10 ∧ k = tNf T then v else if 10 = 9 ∧ k = tNf T then i else tRo T k) = _
  rw [if_neg (by omega)]
  by_cases e : k = tNf T
  · rw [if_pos ⟨rfl, e⟩, if_pos e]
  · rw [if_neg (fun z => e z.2), if_neg (by omega), if_neg e]
theorem facT_w (k : Nat) : tNe (facT T i v w) k = if k = tNf T then w else tNe T k := by
  show (if 0 = 0 ∧ k = tNf T then w else tNe T k) = _
  by_cases e : k = tNf T
  · rw [if_pos ⟨rfl, e⟩, if_pos e]
  · rw [if_neg (fun z => e z.2), if_neg e]
theorem lawT_l (k : Nat) : tLn (lawT T l v w) k = if k = l then w else tLn T k := by
  show (if 1 = 1 ∧ k = l then w else tLn T k) = _
  by_cases e : k = l
  · rw [if_pos ⟨rfl, e⟩, if_pos e]
  · rw [if_neg (fun z => e z.2), if_neg e]
theorem lawT_r (k : Nat) : tLr (lawT T l v w) k = if k = l then v else tLr T k := by
  show (if 14 = 14 ∧ k = l then v else tLr T k) = _
  by_cases e : k = l
  · rw [if_pos ⟨rfl, e⟩, if_pos e]
  · rw [if_neg (fun z => e z.2), if_neg e]
theorem TxP.fac (h : TxP H t T) (ht24 : 24 ≤ t) (hn : NmP H3 (t + 5) (tNf T + 1) (fun j => if j = tNf T then i else tFn T j)) (ho : Off (fun q => q = t + 5 ∨ q = t + 5 + 1) (sL (sI H (t + 14) (tNf T) (nI v)) (t + 15) (tNf T) w) H3) : TxP H3 t (facT T i v w) := by
  obtain ⟨h1, h2, h3, h4, h5, h6, h7, h8, h9, h10, h11, h12, h13, h14, h15, h16, h17⟩ := h
  exact ⟨((ho.I (by omega) _).trans (by rw [hI_sL, hI_sI, if_neg (by omega)]; exact h1)), ((ho.I (by omega) _).trans (by rw [hI_sL, hI_sI, if_neg (by omega)]; exact h2)), (hn.1), ((ho.I (by omega) _).trans (by rw [hI_sL, hI_sI, if_neg (by omega)]; exact h4)), (fun k hk => ⟨(ho.I (by omega) _).trans (by rw [hI_sL, hI_sI, if_neg (by omega)]; exact (h5 k hk).1), (ho.I (by omega) _).trans (by rw [hI_sL, hI_sI, if_neg (by omega)]; exact (h5 k hk).2.1), (ho.I (by omega) _).trans (by rw [hI_sL, hI_sI, if_neg (by omega)]; exact (h5 k hk).2.2)⟩), (fun k hk => ⟨(ho.I (by omega) _).trans (by rw [hI_sL, hI_sI, if_neg (by omega)]; exact (h6 k hk).1), (ho.I (by omega) _).trans (by rw [hI_sL, hI_sI, if_neg (by omega)]; exact (h6 k hk).2)⟩), (fun k hk => ⟨(ho.I (by omega) _).trans (by rw [hI_sL, hI_sI, if_neg (by omega)]; exact (h7 k hk).1), (ho.I (by omega) _).trans (by rw [hI_sL, hI_sI, if_neg (by omega)]; exact (h7 k hk).2)⟩), (fun k hk => (ho.I (by omega) _).trans (by rw [hI_sL, hI_sI, if_neg (by omega)]; exact (h8 k hk))), (fun k hk => by
    have hk : k < tNf T + 1 := hk
    rw [facT_n, facT_r, facT_w]
    refine ⟨hn.2 k hk, (ho.I (by omega) _).trans ?_, (ho.L (by omega) _).trans ?_⟩
    · rw [hI_sL, hI_sI]
      by_cases e : k = tNf T
      · rw [if_pos ⟨rfl, e⟩, if_pos e]
      · rw [if_neg (fun z => e z.2), if_neg e]; exact (h9 k (by omega)).2.1
    · rw [hL_sL]
      by_cases e : k = tNf T
      · rw [if_pos ⟨rfl, e⟩, if_pos e]
      · rw [if_neg (fun z => e z.2), if_neg e, hL_sI]; exact (h9 k (by omega)).2.2), ((ho.I (by omega) _).trans (by rw [hI_sL, hI_sI, if_neg (by omega)]; exact h10)), (fun k hk => ⟨(ho.I (by omega) _).trans (by rw [hI_sL, hI_sI, if_neg (by omega)]; exact (h11 k hk).1), (ho.I (by omega) _).trans (by rw [hI_sL, hI_sI, if_neg (by omega)]; exact (h11 k hk).2)⟩), ((ho.I (by omega) _).trans (by rw [hI_sL, hI_sI, if_neg (by omega)]; exact h12)), (fun k hk => (ho.I (by omega) _).trans (by rw [hI_sL, hI_sI, if_neg (by omega)]; exact (h13 k hk))), (fun k hk => ⟨(ho.L (by omega) _).trans (by rw [hL_sL, if_neg (by omega), hL_sI]; exact (h14 k hk).1), fun e => (ho.I (by omega) _).trans (by rw [hI_sL, hI_sI, if_neg (by omega)]; exact ((h14 k hk).2 e))⟩), ((ho.I (by omega) _).trans (by rw [hI_sL, hI_sI, if_neg (by omega)]; exact h15)), ((ho.I (by omega) _).trans (by rw [hI_sL, hI_sI, if_neg (by omega)]; exact h16)), ((ho.I (by omega) _).trans (by rw [hI_sL, hI_sI, if_neg (by omega)]; exact h17))⟩
theorem TxP.law (h : TxP H t T) (ht24 : 24 ≤ t) : TxP (sL (sI H (t + 19) l (nI v)) (t + 20) l w) t (lawT T l v w) := by
  obtain ⟨h1, h2, h3, h4, h5, h6, h7, h8, h9, h10, h11, h12, h13, h14, h15, h16, h17⟩ := h
  exact ⟨(by rw [hI_sL, hI_sI, if_neg (by omega)]; exact h1), (by rw [hI_sL, hI_sI, if_neg (by omega)]; exact h2), (by rw [hI_sL, hI_sI, if_neg (by omega)]; exact h3), (by rw [hI_sL, hI_sI, if_neg (by omega)]; exact h4), (fun k hk => ⟨(by rw [hI_sL, hI_sI, if_neg (by omega)]; exact (h5 k hk).1), (by rw [hI_sL, hI_sI, if_neg (by omega)]; exact (h5 k hk).2.1), (by rw [hI_sL, hI_sI, if_neg (by omega)]; exact (h5 k hk).2.2)⟩), (fun k hk => ⟨(by rw [hI_sL, hI_sI, if_neg (by omega)]; exact (h6 k hk).1), (by rw [hI_sL, hI_sI, if_neg (by omega)]; exact (h6 k hk).2)⟩), (fun k hk => ⟨(by rw [hI_sL, hI_sI, if_neg (by omega)]; exact (h7 k hk).1), (by rw [hI_sL, hI_sI, if_neg (by omega)]; exact (h7 k hk).2)⟩), (fun k hk => (by rw [hI_sL, hI_sI, if_neg (by omega)]; exact (h8 k hk))), (fun k hk => ⟨(by rw [hI_sL, hI_sI, if_neg (by omega)]; exact (h9 k hk).1), (by rw [hI_sL, hI_sI, if_neg (by omega)]; exact (h9 k hk).2.1), (by rw [hL_sL, if_neg (by omega), hL_sI]; exact (h9 k hk).2.2)⟩), (by rw [hI_sL, hI_sI, if_neg (by omega)]; exact h10), (fun k hk => ⟨(by rw [hI_sL, hI_sI, if_neg (by omega)]; exact (h11 k hk).1), (by rw [hI_sL, hI_sI, if_neg (by omega)]; exact (h11 k hk).2)⟩), (by rw [hI_sL, hI_sI, if_neg (by omega)]; exact h12), (fun k hk => (by rw [hI_sL, hI_sI, if_neg (by omega)]; exact (h13 k hk))), (fun k hk => by
    rw [lawT_l, lawT_r]
    by_cases e : k = l
    · subst e
      refine ⟨by rw [hL_sL, if_pos ⟨rfl, rfl⟩, if_pos rfl], fun _ => by rw [hI_sL, hI_sI, if_pos ⟨rfl, rfl⟩, if_pos rfl]⟩
    · refine ⟨by rw [hL_sL, if_neg (fun z => e z.2), if_neg e, hL_sI]; exact (h14 k hk).1, fun z => ?_⟩
      rw [if_neg e] at z
      rw [hI_sL, hI_sI, if_neg (fun z => e z.2), if_neg e]; exact (h14 k hk).2 z), (by rw [hI_sL, hI_sI, if_neg (by omega)]; exact h15), (by rw [hI_sL, hI_sI, if_neg (by omega)]; exact h16), (by rw [hI_sL, hI_sI, if_neg (by omega)]; exact h17)⟩
theorem lg_lt {b : Nat} : ∀ {l : List Nat} {j : Nat}, (∀ q, q ∈ l → q < b) → 0 < b → lg 0 l j < b
  | [], _, _, h => h
  | x :: l, j, h, h0 => by
    show (if j = l.length then x else lg 0 l j) < b
    split
    · exact h x List.mem_cons_self
    · exact lg_lt (fun q hq => h q (List.mem_cons_of_mem _ hq)) h0
def OpB (x : fmT) : Prop := ∀ q, q ∈ fmH x → q < 64
theorem tkH_m {l2 : List Nat} (h : ∀ q, q ∈ l2 → q < 64) : ∀ q, q ∈ tkH k l2 → q < 64 := by
  unfold tkH
  split
  · exact fun q hq => h q (List.mem_of_mem_tail hq)
  · exact fun q hq => h q (List.mem_of_mem_tail (List.mem_of_mem_tail hq))
theorem opB_t {st o b : Nat} : ∀ {ws : List (Nat × Nat)} {hs : List Nat} {T : uTx} {w : Int64}, tNk T + nop ws ≤ 64 → (∀ q, q ∈ hs → q < 64) → 1 ≤ st → ∀ q, q ∈ fmH (tiW st o b ws hs T w) → q < 64
  | [], _, _, _, _, h, _ => h
  | (k, p) :: ws, hs, T, w, hn, h, h1 => by
    unfold tiW
    by_cases e : st ≤ stg k
    · rw [if_pos e]
      have hn : tNk T + ((if stg k = 0 then 0 else 1) + nop ws) ≤ 64 := hn
      rw [if_neg (by omega)] at hn
      exact opB_t (show tNk T + 1 + nop ws ≤ 64 by omega) (fun q hq => by
        rcases List.mem_cons.mp hq with e | e
        · rw [e]; omega
        · exact tkH_m h q e) h1
    · rw [if_neg e]; exact h
theorem OpB.tie (h : OpB x) (hi : FI x) (h1 : 1 ≤ st) : OpB (tieF st x) := opB_t (Nat.le_trans (Nat.le_of_eq hi.1) hi.2.1) h h1
theorem OpB.kps {a c : Nat} (h : OpB x) (hi : FI x) (hb : fmB x < 64) : OpB (kpsX k a c (begX x)) := fun q hq => by
  have h1 := hi.1
  rcases List.mem_cons.mp hq with e | e
  · rw [e]; show tNk (fmX x) < 64; omega
  · exact h q e
variable {x2 : fmT} {st2 n2 : Nat}
theorem eit_op (h : OpB x) (hi : FI x) (e : eitS k st n x = .inr (st2, n2, x2)) : OpB x2 := by
  unfold eitS at e
  split at e
  · split at e
    · cases e
    · cases e; exact h
  · split at e
    · cases e
    · split at e
      · cases e
      · cases e; exact h
theorem knw_op (h : OpB x) (hi : FI x) (e : knwS s n (begX x) = .inr (st2, n2, x2)) : OpB x2 := by
  unfold knwS at e
  split at e
  · cases e
  · cases e; exact h
theorem hat_op (h : OpB x) (hi : FI x) (hb : fmB x < 64) (e : hatS s n (begX x) = .inr (st2, n2, x2)) : OpB x2 := by
  unfold hatS at e
  split at e
  · cases e
  · split at e
    · cases e
    · cases e; exact h.kps hi hb
theorem own_op (h : OpB x) (hi : FI x) (hb : fmB x < 64) (e : ownS s n (begX x) = .inr (st2, n2, x2)) : OpB x2 := by
  unfold ownS at e
  split at e
  · cases e
  · cases e; exact h.kps hi hb
theorem mny_op (h : OpB x) (hi : FI x) (hb : fmB x < 64) (e : mnyS s n (begX x) = .inr (st2, n2, x2)) : OpB x2 := by
  unfold mnyS at e
  split at e
  · cases e
  · split at e
    · cases e
    · cases e; exact h.kps hi hb
theorem as_op (h : OpB x) (hi : FI x) (hb : fmB x < 64) (e : asS s n (begX x) = .inr (st2, n2, x2)) : OpB x2 := by
  unfold asS at e
  split at e
  · cases e
  · cases e; exact (show ∀ q, q ∈ tNk (fmX x) :: fmH x → q < 64 from h.kps (k := 0) (a := 0) (c := 0) hi hb)
theorem stp_op (h : OpB x) (hi : FI x) (e : stpS s fc st n x = .inr (st2, n2, x2)) : OpB x2 := by
  unfold stpS at e
  split at e
  · unfold sigS at e
    split at e
    · cases e; exact h.tie hi (by decide)
    · split at e
      · cases e
      · rename_i h1 h2
        split at e
        · cases e
        · split at e
          · cases e
          · cases e
            have : OpB (tieF (if sgs (kK s n) = 4 then 5 else sgs (kK s n)) x) := h.tie hi (by split <;> omega)
            exact this
  · split at e
    · unfold facS at e
      split at e
      · split at e
        · cases e
        · have hb : fmB x < 64 := by omega
          unfold leaS at e
          split at e
          · exact hat_op h hi hb e
          · split at e
            · exact own_op h hi hb e
            · split at e
              · exact mny_op h hi hb e
              · exact as_op h hi hb e
      · split at e
        · split at e
          · cases e
          · exact knw_op h hi e
        · split at e
          · split at e
            · cases e
            · cases e; exact h
          · exact eit_op h hi e
    · unfold valS at e
      split at e
      · exact eit_op h hi e
      · split at e
        · cases e
        · split at e
          · cases e
          · cases e; exact h.kps hi (by omega)
theorem mR_r0 (hk : TrOk s) : ∀ {d st n : Nat} {x : fmT}, FI x → OpB x → (st = 2 → fmH x ≠ []) → mR s fc d st n x = .inr (m, T2, w, r) → r < 64
  | 0, _, _, _, _, _, _, e => by cases e
  | d + 1, st, n, x, h, hb, hne, e => by
    by_cases hf : st = 2 ∧ fmO x = 0 ∧ kK s n = 40
    · rw [mR_e hf] at e; cases e
      exact lg_lt (hb.tie h (by decide)) (by decide)
    · cases er : stpS s fc st n x with
      | inl z => rw [mR_f hf er] at e; cases e
      | inr z =>
        obtain ⟨st2, n2, x2⟩ := z
        rw [mR_c hf er] at e
        obtain ⟨g1, g2, g3, g4, g5, g6⟩ := stp_ok h hne (kK_le hk) er
        exact mR_r0 hk g1 (stp_op hb h er) g3 e
theorem mR_r (hk : TrOk s) (h : tNk T ≤ 64) (e : mR s fc D 0 n (fx0 T) = .inr (m, T2, w, r)) : r < 64 := mR_r0 hk (fx0_i h) (fun q hq => by cases hq) (fun z => by cases z) e
theorem freB_k (h : freB s n cd sz = true) : kK s n = 39 := (of_decide_eq_true h).1
theorem c_factLine (hF : gFx S) (ht : gTx S t) (ht24 : 24 ≤ t) (ht45 : t ≤ 45) (hs : TrP H s n) (hk : TrOk s) (hn : n ≤ 790) (hT : TxP H t T) (hbg : hI H (t + 7) 4 = nI (tNk T)) (hnp : tNp T ≤ 6) (hnc : tNc T ≤ 3) (hnf : tNf T ≤ 8) (hk64 : tNk T ≤ 64) (hD : 701 ≤ D) : Hv mX6_factLine 5 [.ref 7, .ref t] S H vB (fun x H' => x = lnB (facR D s n T) ∧ LnQ H H' t s (facR D s n T)) := by
  have hk0 := hk.1
  have hkv1 := kV_le (n := n + 1) hk
  have hs2 := hs.st (n + 1)
  have hs3 := hs2.st (n + 2)
  have hT2 : TxP (sI H 2 5 (nI (n + 1))) t T := hT.st2 ht24
  have hT3 : TxP (sI (sI H 2 5 (nI (n + 1))) 2 5 (nI (n + 2))) t T := hT2.st2 ht24
  have hb3 : hI (sI (sI H 2 5 (nI (n + 1))) 2 5 (nI (n + 2))) (t + 7) 4 = nI (tNk T) := by rw [hI_sI, if_neg (by omega), hI_sI, if_neg (by omega)]; exact hbg
  refine vq_intro (by decide) (by exact Nat.le_of_ble_eq_true rfl) rfl ?_
  refine xq_aload_n dX6_factLine_0 rfl rfl ?_
  refine xq_getF clX8 (by decide) rfl fl_RX6_135 dX6_factLine_1 (Tx.s0 ht) (Tx.r2 ht) ?_
  refine xq_callV0P clX5 gd_X5_isFull dX6_factLine_4 ml_RX6_79 im_X5_isFull se_X5_isFull rfl (Nm.s0 (Tx.n5 ht)) (by exact Nat.le_of_ble_eq_true rfl) (by decide) (c_isFull (Tx.n5 ht) hT.nmf (by decide) (by omega)) ?_
  refine xq_if_eqB dX6_factLine_7 rfl ⟨fun h7 => ?_, fun h7 => ?_⟩
  · skip
    refine xq_aload_n dX6_factLine_19 rfl rfl ?_
    refine xq_getF clX6 (by decide) rfl fl_RX6_9 dX6_factLine_20 (Fx.s7 hF) (Fx.r7_0 hF) ?_
    refine xq_callV0N clX9 gd_X9_step dX6_factLine_23 ml_RX6_84 im_X9_step se_X9_step rfl (Fx.s2 hF) (by exact Nat.le_of_ble_eq_true rfl) (by decide) (c_step hF hs hk (by omega)) ?_
    intro H23 p23
    subst p23
    refine xq_aload_n dX6_factLine_26 rfl rfl ?_
    refine xq_getF clX6 (by decide) rfl fl_RX6_9 dX6_factLine_27 (Fx.s7 hF) (Fx.r7_0 hF) ?_
    refine xq_aload_n dX6_factLine_30 rfl rfl ?_
    refine xq_getF clX8 (by decide) rfl fl_RX6_135 dX6_factLine_31 (Tx.s0 ht) (Tx.r2 ht) ?_
    refine xq_callV1H clX9 gd_X9_isFresh dX6_factLine_34 ml_RX6_87 im_X9_isFresh se_X9_isFresh rfl (Fx.s2 hF) (by exact Nat.le_of_ble_eq_true rfl) (by decide) (c_isFresh hF hs2 hk (by omega) (Tx.n5 ht) hT2.nmf (by omega) (by decide)) ?_
    intro x34 H34 p34
    obtain ⟨e34, q34, r34⟩ := p34
    refine xq_if_neB dX6_factLine_37 rfl ⟨fun h37 => ?_, fun h37 => ?_⟩
    · skip
      have ee := q34 h37
      subst ee
      have hn39 : kK s (n + 1) = 39 := freB_k (e34.symm.trans h37)
      have hnz : n + 2 ≤ kSz s := kK_lt (by omega)
      refine xq_aload_n dX6_factLine_42 rfl rfl ?_
      refine xq_getF clX6 (by decide) rfl fl_RX6_9 dX6_factLine_43 (Fx.s7 hF) (Fx.r7_0 hF) ?_
      refine xq_callV0P clX9 gd_X9_value dX6_factLine_46 ml_RX6_91 im_X9_value se_X9_value rfl (Fx.s2 hF) (by exact Nat.le_of_ble_eq_true rfl) (by decide) (c_value hF hs2 hk (by omega)) ?_
      refine xq_istore_n dX6_factLine_49 rfl rfl ?_
      refine xq_aload_n dX6_factLine_50 rfl rfl ?_
      refine xq_getF clX6 (by decide) rfl fl_RX6_9 dX6_factLine_51 (Fx.s7 hF) (Fx.r7_0 hF) ?_
      refine xq_callV0N clX9 gd_X9_step dX6_factLine_54 ml_RX6_84 im_X9_step se_X9_step rfl (Fx.s2 hF) (by exact Nat.le_of_ble_eq_true rfl) (by decide) (c_step hF hs2 hk (by omega)) ?_
      intro H54 p54
      subst p54
      refine xq_aload_n dX6_factLine_57 rfl rfl ?_
      refine xq_getF clX6 (by decide) rfl fl_RX6_20 dX6_factLine_58 (Fx.s7 hF) (Fx.r7_1 hF) ?_
      refine xq_aload_n dX6_factLine_61 rfl rfl ?_
      refine xq_iconst dX6_factLine_62 ic1 ?_
      refine xq_callV2H clX1 gd_X1_read dX6_factLine_63 ml_RX6_157 im_X1_read se_X1_read rfl (Fx.s8 hF) (by exact Nat.le_of_ble_eq_true rfl) (by decide) (c_fread (fc := true) (D := D) hD hF ht ht24 ht45 hs3 hk (by omega) hnz hT3 hb3 hnp hnc hnf hk64) ?_
      intro x63 H63 p63
      obtain ⟨e63, q63⟩ := p63
      have hc : ¬ 8 ≤ tNf T := of_decide_eq_false h7
      have eF : facR D s n T = (match mR s true D 0 (n + 2) (fx0 T) with | .inl e => .inl e | .inr z => .inr (z.1, facT z.2.1 (kV s (n + 1)) z.2.2.2 z.2.2.1)) := (if_neg hc).trans (if_neg (by rw [← e34, h37]; decide))
      have hmx : mR s true D 0 (n + 2) (fx0 T) = mR s true D 0 (n + 2) ([], [], 0, T, tNk T, lN 0) := rfl
      rw [← hmx] at e63 q63
      rw [eF]
      cases er : mR s true D 0 (n + 2) (fx0 T) with
      | inl z =>
        obtain ⟨c, m⟩ := z
        rw [er] at e63 q63
        subst e63
        refine xq_istore_n dX6_factLine_66 rfl rfl ?_
        refine xq_iload_n dX6_factLine_67 rfl rfl ?_
        refine xq_if_ge dX6_factLine_68 rfl ⟨fun h68 => ?_, fun h68 => ?_⟩
        · skip
          exact absurd (show (0 : Int32) ≤ -1 from h68) (by decide)
        · skip
          refine xq_iconst dX6_factLine_71 ic0 ?_
          refine xq_zret dX6_factLine_72 rfl (by decide) ?_
          exact ⟨false, H63, ⟨rfl, Off.tr (Off.pI (A := (fun q => q = 2 ∨ (8 ≤ q ∧ q < 16) ∨ (t ≤ q ∧ q < t + 21))) (Off.pI (A := (fun q => q = 2 ∨ (8 ≤ q ∧ q < 16) ∨ (t ≤ q ∧ q < t + 21))) Off.rf (by omega) _ _) (by omega) _ _) q63.1, q63.2.1, q63.2.2.1, q63.2.2.2.trans (by simp [hI_sI])⟩, rfl⟩
      | inr z =>
        obtain ⟨m, T2, w, r⟩ := z
        rw [er] at e63 q63
        subst e63
        obtain ⟨q1, q2, q3, q4, q5, q6, q7⟩ := q63
        obtain ⟨sm, hnm, hkm⟩ := mR_ok hk (fx0_i hk64) (fun z => by cases z) er
        have hr31 : r < 2147483648 := Nat.lt_trans (mR_r hk hk64 er) (by decide)
        have hnf2 : tNf T2 < 8 := by rw [show tNf T2 = tNf T from sm.nf]; omega
        refine xq_istore_n dX6_factLine_66 rfl rfl ?_
        refine xq_iload_n dX6_factLine_67 rfl rfl ?_
        refine xq_if_geN dX6_factLine_68 rfl hr31 ?_
        refine xq_aload_n dX6_factLine_73 rfl rfl ?_
        refine xq_getF clX8 (by decide) rfl fl_RX6_161 dX6_factLine_74 (Tx.s0 ht) (Tx.r7 ht) ?_
        refine xq_aload_n dX6_factLine_77 rfl rfl ?_
        refine xq_getF clX8 (by decide) rfl fl_RX6_135 dX6_factLine_78 (Tx.s0 ht) (Tx.r2 ht) ?_
        refine xq_getIE clX5 (by decide) rfl fl_RX6_101 dX6_factLine_81 (Nm.s0 (Tx.n5 ht)) q5.nf ?_
        refine xq_iload_n dX6_factLine_84 rfl rfl ?_
        refine xq_iastN dX6_factLine_85 (Tx.s14 ht) (by omega) (by decide) ?_
        refine xq_aload_n dX6_factLine_86 rfl rfl ?_
        refine xq_getF clX8 (by decide) rfl fl_RX6_164 dX6_factLine_87 (Tx.s0 ht) (Tx.r8 ht) ?_
        refine xq_aload_n dX6_factLine_90 rfl rfl ?_
        refine xq_getF clX8 (by decide) rfl fl_RX6_135 dX6_factLine_91 (Tx.s0 ht) (Tx.r2 ht) ?_
        refine xq_getIE (v := nI (tNf T2)) clX5 (by decide) rfl fl_RX6_101 dX6_factLine_94 (Nm.s0 (Tx.n5 ht)) (by rw [hI_sI, if_neg (by omega)]; exact q5.nf) ?_
        refine xq_aload_n dX6_factLine_97 rfl rfl ?_
        refine xq_getF clX6 (by decide) rfl fl_RX6_20 dX6_factLine_98 (Fx.s7 hF) (Fx.r7_1 hF) ?_
        refine xq_getLE (v := w) clX1 (by decide) rfl fl_RX6_168 dX6_factLine_101 (Fx.s8 hF) (by rw [hL_sI]; exact q7) ?_
        refine xq_lastN dX6_factLine_104 (Tx.s15 ht) (by omega) (by decide) ?_
        refine xq_aload_n dX6_factLine_105 rfl rfl ?_
        refine xq_getF clX8 (by decide) rfl fl_RX6_135 dX6_factLine_106 (Tx.s0 ht) (Tx.r2 ht) ?_
        refine xq_iload_n dX6_factLine_109 rfl rfl ?_
        refine xq_callV1N clX5 gd_X5_add dX6_factLine_110 ml_RX6_105 im_X5_add se_X5_add rfl (Nm.s0 (Tx.n5 ht)) (by exact Nat.le_of_ble_eq_true rfl) (by decide) (c_add (Tx.n5 ht) (show NmP (sL (sI H63 (t + 14) (tNf T2) (nI r)) (t + 15) (tNf T2) w) (t + 5) (tNf T2) (tFn T2) from ⟨by rw [hI_sL, hI_sI, if_neg (by omega)]; exact q5.nf, fun j hj => by rw [hI_sL, hI_sI, if_neg (by omega)]; exact (q5.fa j hj).1⟩) (by omega) (by decide)) ?_
        intro H110 p110
        obtain ⟨n110, o110⟩ := p110
        refine xq_iconst dX6_factLine_113 ic1 ?_
        refine xq_zret dX6_factLine_114 rfl (by decide) ?_
        exact ⟨true, H110, ⟨rfl, (Off.pL (A := (fun q => q = 2 ∨ (8 ≤ q ∧ q < 16) ∨ (t ≤ q ∧ q < t + 21))) (Off.pI (A := (fun q => q = 2 ∨ (8 ≤ q ∧ q < 16) ∨ (t ≤ q ∧ q < t + 21))) (Off.tr (Off.pI (A := (fun q => q = 2 ∨ (8 ≤ q ∧ q < 16) ∨ (t ≤ q ∧ q < t + 21))) (Off.pI (A := (fun q => q = 2 ∨ (8 ≤ q ∧ q < 16) ∨ (t ≤ q ∧ q < t + 21))) Off.rf (by omega) _ _) (by omega) _ _) q1) (by omega) (tNf T2) (nI r)) (by omega) (tNf T2) w).tr (o110.mo (fun q h => by omega)), ((q2.pI (a := t + 14) (by omega) (tNf T2) (nI r)).off (A := fun q => q = t + 15) (Off.pL (A := fun q => q = t + 15) Off.rf rfl (tNf T2) w) (fun q h => by omega)).off o110 (fun q h => by omega), (o110.I (by omega) 7).trans (by rw [hI_sL, hI_sI, if_neg (by omega)]; exact q3.trans (by simp [hI_sI])), (o110.I (by omega) 8).trans (by rw [hI_sL, hI_sI, if_neg (by omega)]; exact q4.trans (by simp [hI_sI])), TxP.fac q5 ht24 n110 o110, (o110.I (by omega) 4).trans (by rw [hI_sL, hI_sI, if_neg (by omega)]; exact q6)⟩, rfl⟩
    · skip
      refine xq_iconst dX6_factLine_40 ic0 ?_
      refine xq_zret dX6_factLine_41 rfl (by decide) ?_
      have hc : ¬ 8 ≤ tNf T := of_decide_eq_false h7
      have hf : x34 = false := by simpa using h37
      have q := r34 hf
      have e : facR D s n T = .inl (freF s (n + 1), n + 1) := (if_neg hc).trans (if_pos (e34.symm.trans hf))
      rw [e]
      exact ⟨false, H34, ⟨rfl, Off.tr (Off.pI (A := (fun q => q = 2 ∨ (8 ≤ q ∧ q < 16) ∨ (t ≤ q ∧ q < t + 21))) Off.rf (by omega) _ _) (q.2.2.2.mo (fun q h => Or.inl h)), q.1, q.2.1, (q.2.2.1 6 (by decide) (by decide)).trans (by simp [hI_sI])⟩, rfl⟩
  · skip
    refine xq_aload_n dX6_factLine_10 rfl rfl ?_
    refine xq_getF clX6 (by decide) rfl fl_RX6_9 dX6_factLine_11 (Fx.s7 hF) (Fx.r7_0 hF) ?_
    refine xq_iconst dX6_factLine_14 ic2 ?_
    refine xq_callV1H clX9 gd_X9_fail dX6_factLine_15 ml_RX6_71 im_X9_fail se_X9_fail rfl (Fx.s2 hF) (by exact Nat.le_of_ble_eq_true rfl) (by decide) (c_fail hF hs hk (by omega) (c := 2) (by decide)) ?_
    intro x15 H15 p15
    obtain ⟨rfl, q15⟩ := p15
    refine xq_zret dX6_factLine_18 rfl (by decide) ?_
    have e : facR D s n T = .inl (2, n) := if_pos (of_decide_eq_true h7)
    rw [e]
    exact ⟨false, H15, ⟨rfl, q15.2.2.2.mo (fun q h => Or.inl h), q15.1, q15.2.1, q15.2.2.1 6 (by decide) (by decide)⟩, rfl⟩
theorem c_lawLine (hF : gFx S) (ht : gTx S t) (ht24 : 24 ≤ t) (ht45 : t ≤ 45) (hs : TrP H s n) (hk : TrOk s) (hn : n ≤ 790) (hT : TxP H t T) (hbg : hI H (t + 7) 4 = nI (tNk T)) (hnp : tNp T ≤ 6) (hnc : tNc T ≤ 3) (hnf : tNf T ≤ 8) (hk64 : tNk T ≤ 64) (hD : 701 ≤ D) : Hv mX6_lawLine 5 [.ref 7, .ref t] S H vB (fun x H' => x = lnB (lawR D s n T) ∧ LnQ H H' t s (lawR D s n T)) := by
  have hk0 := hk.1
  have hkv1 := kV_le (n := n + 1) hk
  have hs2 := hs.st (n + 1)
  have hs3 := hs2.st (n + 2)
  have hT2 : TxP (sI H 2 5 (nI (n + 1))) t T := hT.st2 ht24
  have hT3 : TxP (sI (sI H 2 5 (nI (n + 1))) 2 5 (nI (n + 2))) t T := hT2.st2 ht24
  have hb3 : hI (sI (sI H 2 5 (nI (n + 1))) 2 5 (nI (n + 2))) (t + 7) 4 = nI (tNk T) := by rw [hI_sI, if_neg (by omega), hI_sI, if_neg (by omega)]; exact hbg
  have hkb : kK s (n + 1) ≤ 44 := kK_le hk
  refine vq_intro (by decide) (by exact Nat.le_of_ble_eq_true rfl) rfl ?_
  refine xq_aload_n dX6_lawLine_0 rfl rfl ?_
  refine xq_getF clX6 (by decide) rfl fl_RX6_9 dX6_lawLine_1 (Fx.s7 hF) (Fx.r7_0 hF) ?_
  refine xq_callV0N clX9 gd_X9_step dX6_lawLine_4 ml_RX6_84 im_X9_step se_X9_step rfl (Fx.s2 hF) (by exact Nat.le_of_ble_eq_true rfl) (by decide) (c_step hF hs hk (by omega)) ?_
  intro H4 p4
  subst p4
  refine xq_aload_n dX6_lawLine_7 rfl rfl ?_
  refine xq_getF clX6 (by decide) rfl fl_RX6_9 dX6_lawLine_8 (Fx.s7 hF) (Fx.r7_0 hF) ?_
  refine xq_callV0P clX9 gd_X9_kind dX6_lawLine_11 ml_RX6_29 im_X9_kind se_X9_kind rfl (Fx.s2 hF) (by exact Nat.le_of_ble_eq_true rfl) (by decide) (c_kind hF hs2 hk (by omega)) ?_
  refine xq_istore_n dX6_lawLine_14 rfl rfl ?_
  refine xq_iload_n dX6_lawLine_15 rfl rfl ?_
  refine xq_bipush dX6_lawLine_16 bp9 ?_
  refine xq_icmp_eqN dX6_lawLine_18 rfl (by omega) (by omega) ⟨fun h18 => ?_, fun h18 => ?_⟩
  · skip
    refine xq_iload_n dX6_lawLine_36 rfl rfl ?_
    refine xq_bipush dX6_lawLine_37 bp9 ?_
    refine xq_icmp_neN dX6_lawLine_39 rfl (by omega) (by omega) ⟨fun h39 => ?_, fun h39 => ?_⟩
    · skip
      refine xq_iconst dX6_lawLine_46 ic1 ?_
      refine xq_istore_n dX6_lawLine_47 rfl rfl ?_
      refine xq_aload_n dX6_lawLine_48 rfl rfl ?_
      refine xq_getF clX8 (by decide) rfl fl_RX6_171 dX6_lawLine_49 (Tx.s0 ht) (Tx.r15 ht) ?_
      refine xq_iload_n dX6_lawLine_52 rfl rfl ?_
      refine xq_laldN dX6_lawLine_53 (Tx.s20 ht) (by omega) (by decide) ((hT2.lw 1 (by decide)).1) ?_
      refine xq_lconst dX6_lawLine_54 lc0 ?_
      refine xq_lcmp dX6_lawLine_55 ?_
      refine xq_if_eq dX6_lawLine_56 rfl ⟨fun h56 => ?_, fun h56 => ?_⟩
      · skip
        have hnz : n + 2 ≤ kSz s := kK_lt (n := n + 1) (by omega)
        refine xq_aload_n dX6_lawLine_68 rfl rfl ?_
        refine xq_getF clX6 (by decide) rfl fl_RX6_9 dX6_lawLine_69 (Fx.s7 hF) (Fx.r7_0 hF) ?_
        refine xq_callV0N clX9 gd_X9_step dX6_lawLine_72 ml_RX6_84 im_X9_step se_X9_step rfl (Fx.s2 hF) (by exact Nat.le_of_ble_eq_true rfl) (by decide) (c_step hF hs2 hk (by omega)) ?_
        intro H72 p72
        subst p72
        refine xq_aload_n dX6_lawLine_75 rfl rfl ?_
        refine xq_getF clX6 (by decide) rfl fl_RX6_20 dX6_lawLine_76 (Fx.s7 hF) (Fx.r7_1 hF) ?_
        refine xq_aload_n dX6_lawLine_79 rfl rfl ?_
        refine xq_iconst dX6_lawLine_80 ic0 ?_
        refine xq_callV2H clX1 gd_X1_read dX6_lawLine_81 ml_RX6_157 im_X1_read se_X1_read rfl (Fx.s8 hF) (by exact Nat.le_of_ble_eq_true rfl) (by decide) (c_fread (fc := false) (D := D) hD hF ht ht24 ht45 hs3 hk (by omega) hnz hT3 hb3 hnp hnc hnf hk64) ?_
        intro x81 H81 p81
        obtain ⟨e81, q81⟩ := p81
        have el : kK s (n + 1) - 9 = 1 := by omega
        have eF : lawR D s n T = (match mR s false D 0 (n + 2) (fx0 T) with | .inl e => .inl e | .inr z => .inr (z.1, lawT z.2.1 1 z.2.2.2 z.2.2.1)) := (if_neg (by omega)).trans ((if_neg (by rw [el]; exact fun z => z ((lg_cmp_eq _ _).mp h56))).trans (by rw [el]))
        have hmx : mR s false D 0 (n + 2) (fx0 T) = mR s false D 0 (n + 2) ([], [], 0, T, tNk T, lN 0) := rfl
        rw [← hmx] at e81 q81
        rw [eF]
        cases er : mR s false D 0 (n + 2) (fx0 T) with
        | inl z =>
          obtain ⟨c, m⟩ := z
          rw [er] at e81 q81
          subst e81
          refine xq_istore dX6_lawLine_84 rfl ?_
          refine xq_iload dX6_lawLine_86 rfl ?_
          refine xq_if_ge dX6_lawLine_88 rfl ⟨fun h88 => ?_, fun h88 => ?_⟩
          · skip
            exact absurd (show (0 : Int32) ≤ -1 from h88) (by decide)
          · skip
            refine xq_iconst dX6_lawLine_91 ic0 ?_
            refine xq_zret dX6_lawLine_92 rfl (by decide) ?_
            exact ⟨false, H81, ⟨rfl, Off.tr (Off.pI (A := (fun q => q = 2 ∨ (8 ≤ q ∧ q < 16) ∨ (t ≤ q ∧ q < t + 21))) (Off.pI (A := (fun q => q = 2 ∨ (8 ≤ q ∧ q < 16) ∨ (t ≤ q ∧ q < t + 21))) Off.rf (by omega) _ _) (by omega) _ _) q81.1, q81.2.1, q81.2.2.1, q81.2.2.2.trans (by simp [hI_sI])⟩, rfl⟩
        | inr z =>
          obtain ⟨m, T2, w, r⟩ := z
          rw [er] at e81 q81
          subst e81
          obtain ⟨q1, q2, q3, q4, q5, q6, q7⟩ := q81
          have hr31 : r < 2147483648 := Nat.lt_trans (mR_r hk hk64 er) (by decide)
          refine xq_istore dX6_lawLine_84 rfl ?_
          refine xq_iload dX6_lawLine_86 rfl ?_
          refine xq_if_geN dX6_lawLine_88 rfl hr31 ?_
          refine xq_aload_n dX6_lawLine_93 rfl rfl ?_
          refine xq_getF clX8 (by decide) rfl fl_RX6_174 dX6_lawLine_94 (Tx.s0 ht) (Tx.r14 ht) ?_
          refine xq_iload_n dX6_lawLine_97 rfl rfl ?_
          refine xq_iload dX6_lawLine_98 rfl ?_
          refine xq_iastN dX6_lawLine_100 (Tx.s19 ht) (by omega) (by decide) ?_
          refine xq_aload_n dX6_lawLine_101 rfl rfl ?_
          refine xq_getF clX8 (by decide) rfl fl_RX6_171 dX6_lawLine_102 (Tx.s0 ht) (Tx.r15 ht) ?_
          refine xq_iload_n dX6_lawLine_105 rfl rfl ?_
          refine xq_aload_n dX6_lawLine_106 rfl rfl ?_
          refine xq_getF clX6 (by decide) rfl fl_RX6_20 dX6_lawLine_107 (Fx.s7 hF) (Fx.r7_1 hF) ?_
          refine xq_getLE (v := w) clX1 (by decide) rfl fl_RX6_168 dX6_lawLine_110 (Fx.s8 hF) (by rw [hL_sI]; exact q7) ?_
          refine xq_lastN dX6_lawLine_113 (Tx.s20 ht) (by omega) (by decide) ?_
          refine xq_iconst dX6_lawLine_114 ic1 ?_
          refine xq_zret dX6_lawLine_115 rfl (by decide) ?_
          exact ⟨true, _, ⟨rfl, (Off.pL (A := (fun q => q = 2 ∨ (8 ≤ q ∧ q < 16) ∨ (t ≤ q ∧ q < t + 21))) (Off.pI (A := (fun q => q = 2 ∨ (8 ≤ q ∧ q < 16) ∨ (t ≤ q ∧ q < t + 21))) (Off.tr (Off.pI (A := (fun q => q = 2 ∨ (8 ≤ q ∧ q < 16) ∨ (t ≤ q ∧ q < t + 21))) (Off.pI (A := (fun q => q = 2 ∨ (8 ≤ q ∧ q < 16) ∨ (t ≤ q ∧ q < t + 21))) Off.rf (by omega) _ _) (by omega) _ _) q1) (by omega) 1 (nI r)) (by omega) 1 w), ((q2.pI (a := t + 19) (by omega) 1 (nI r)).off (A := fun q => q = t + 20) (Off.pL (A := fun q => q = t + 20) Off.rf rfl 1 w) (fun q h => by omega)), (by rw [hI_sL, hI_sI, if_neg (by omega)]; exact q3.trans (by simp [hI_sI])), (by rw [hI_sL, hI_sI, if_neg (by omega)]; exact q4.trans (by simp [hI_sI])), TxP.law q5 ht24, (by rw [hI_sL, hI_sI, if_neg (by omega)]; exact q6)⟩, rfl⟩
      · skip
        refine xq_aload_n dX6_lawLine_59 rfl rfl ?_
        refine xq_getF clX6 (by decide) rfl fl_RX6_9 dX6_lawLine_60 (Fx.s7 hF) (Fx.r7_0 hF) ?_
        refine xq_iconst dX6_lawLine_63 ic3 ?_
        refine xq_callV1H clX9 gd_X9_fail dX6_lawLine_64 ml_RX6_71 im_X9_fail se_X9_fail rfl (Fx.s2 hF) (by exact Nat.le_of_ble_eq_true rfl) (by decide) (c_fail hF hs2 hk (by omega) (c := 3) (by decide)) ?_
        intro x64 H64 p64
        obtain ⟨rfl, q64⟩ := p64
        refine xq_zret dX6_lawLine_67 rfl (by decide) ?_
        have el : kK s (n + 1) - 9 = 1 := by omega
        have e : lawR D s n T = .inl (3, n + 1) := (if_neg (by omega)).trans (if_pos (by rw [el]; exact fun z => h56 ((lg_cmp_eq _ _).mpr z)))
        rw [e]
        exact ⟨false, H64, ⟨rfl, Off.tr (Off.pI (A := (fun q => q = 2 ∨ (8 ≤ q ∧ q < 16) ∨ (t ≤ q ∧ q < t + 21))) Off.rf (by omega) _ _) (q64.2.2.2.mo (fun q h => Or.inl h)), q64.1, q64.2.1, (q64.2.2.1 6 (by decide) (by decide)).trans (by simp [hI_sI])⟩, rfl⟩
    · skip
      refine xq_iconst dX6_lawLine_42 ic0 ?_
      refine xq_goto dX6_lawLine_43 rfl ?_
      refine xq_istore_n dX6_lawLine_47 rfl rfl ?_
      refine xq_aload_n dX6_lawLine_48 rfl rfl ?_
      refine xq_getF clX8 (by decide) rfl fl_RX6_171 dX6_lawLine_49 (Tx.s0 ht) (Tx.r15 ht) ?_
      refine xq_iload_n dX6_lawLine_52 rfl rfl ?_
      refine xq_laldN dX6_lawLine_53 (Tx.s20 ht) (by omega) (by decide) ((hT2.lw 0 (by decide)).1) ?_
      refine xq_lconst dX6_lawLine_54 lc0 ?_
      refine xq_lcmp dX6_lawLine_55 ?_
      refine xq_if_eq dX6_lawLine_56 rfl ⟨fun h56 => ?_, fun h56 => ?_⟩
      · skip
        have hnz : n + 2 ≤ kSz s := kK_lt (n := n + 1) (by omega)
        refine xq_aload_n dX6_lawLine_68 rfl rfl ?_
        refine xq_getF clX6 (by decide) rfl fl_RX6_9 dX6_lawLine_69 (Fx.s7 hF) (Fx.r7_0 hF) ?_
        refine xq_callV0N clX9 gd_X9_step dX6_lawLine_72 ml_RX6_84 im_X9_step se_X9_step rfl (Fx.s2 hF) (by exact Nat.le_of_ble_eq_true rfl) (by decide) (c_step hF hs2 hk (by omega)) ?_
        intro H72 p72
        subst p72
        refine xq_aload_n dX6_lawLine_75 rfl rfl ?_
        refine xq_getF clX6 (by decide) rfl fl_RX6_20 dX6_lawLine_76 (Fx.s7 hF) (Fx.r7_1 hF) ?_
        refine xq_aload_n dX6_lawLine_79 rfl rfl ?_
        refine xq_iconst dX6_lawLine_80 ic0 ?_
        refine xq_callV2H clX1 gd_X1_read dX6_lawLine_81 ml_RX6_157 im_X1_read se_X1_read rfl (Fx.s8 hF) (by exact Nat.le_of_ble_eq_true rfl) (by decide) (c_fread (fc := false) (D := D) hD hF ht ht24 ht45 hs3 hk (by omega) hnz hT3 hb3 hnp hnc hnf hk64) ?_
        intro x81 H81 p81
        obtain ⟨e81, q81⟩ := p81
        have el : kK s (n + 1) - 9 = 0 := by omega
        have eF : lawR D s n T = (match mR s false D 0 (n + 2) (fx0 T) with | .inl e => .inl e | .inr z => .inr (z.1, lawT z.2.1 0 z.2.2.2 z.2.2.1)) := (if_neg (by omega)).trans ((if_neg (by rw [el]; exact fun z => z ((lg_cmp_eq _ _).mp h56))).trans (by rw [el]))
        have hmx : mR s false D 0 (n + 2) (fx0 T) = mR s false D 0 (n + 2) ([], [], 0, T, tNk T, lN 0) := rfl
        rw [← hmx] at e81 q81
        rw [eF]
        cases er : mR s false D 0 (n + 2) (fx0 T) with
        | inl z =>
          obtain ⟨c, m⟩ := z
          rw [er] at e81 q81
          subst e81
          refine xq_istore dX6_lawLine_84 rfl ?_
          refine xq_iload dX6_lawLine_86 rfl ?_
          refine xq_if_ge dX6_lawLine_88 rfl ⟨fun h88 => ?_, fun h88 => ?_⟩
          · skip
            exact absurd (show (0 : Int32) ≤ -1 from h88) (by decide)
          · skip
            refine xq_iconst dX6_lawLine_91 ic0 ?_
            refine xq_zret dX6_lawLine_92 rfl (by decide) ?_
            exact ⟨false, H81, ⟨rfl, Off.tr (Off.pI (A := (fun q => q = 2 ∨ (8 ≤ q ∧ q < 16) ∨ (t ≤ q ∧ q < t + 21))) (Off.pI (A := (fun q => q = 2 ∨ (8 ≤ q ∧ q < 16) ∨ (t ≤ q ∧ q < t + 21))) Off.rf (by omega) _ _) (by omega) _ _) q81.1, q81.2.1, q81.2.2.1, q81.2.2.2.trans (by simp [hI_sI])⟩, rfl⟩
        | inr z =>
          obtain ⟨m, T2, w, r⟩ := z
          rw [er] at e81 q81
          subst e81
          obtain ⟨q1, q2, q3, q4, q5, q6, q7⟩ := q81
          have hr31 : r < 2147483648 := Nat.lt_trans (mR_r hk hk64 er) (by decide)
          refine xq_istore dX6_lawLine_84 rfl ?_
          refine xq_iload dX6_lawLine_86 rfl ?_
          refine xq_if_geN dX6_lawLine_88 rfl hr31 ?_
          refine xq_aload_n dX6_lawLine_93 rfl rfl ?_
          refine xq_getF clX8 (by decide) rfl fl_RX6_174 dX6_lawLine_94 (Tx.s0 ht) (Tx.r14 ht) ?_
          refine xq_iload_n dX6_lawLine_97 rfl rfl ?_
          refine xq_iload dX6_lawLine_98 rfl ?_
          refine xq_iastN dX6_lawLine_100 (Tx.s19 ht) (by omega) (by decide) ?_
          refine xq_aload_n dX6_lawLine_101 rfl rfl ?_
          refine xq_getF clX8 (by decide) rfl fl_RX6_171 dX6_lawLine_102 (Tx.s0 ht) (Tx.r15 ht) ?_
          refine xq_iload_n dX6_lawLine_105 rfl rfl ?_
          refine xq_aload_n dX6_lawLine_106 rfl rfl ?_
          refine xq_getF clX6 (by decide) rfl fl_RX6_20 dX6_lawLine_107 (Fx.s7 hF) (Fx.r7_1 hF) ?_
          refine xq_getLE (v := w) clX1 (by decide) rfl fl_RX6_168 dX6_lawLine_110 (Fx.s8 hF) (by rw [hL_sI]; exact q7) ?_
          refine xq_lastN dX6_lawLine_113 (Tx.s20 ht) (by omega) (by decide) ?_
          refine xq_iconst dX6_lawLine_114 ic1 ?_
          refine xq_zret dX6_lawLine_115 rfl (by decide) ?_
          exact ⟨true, _, ⟨rfl, (Off.pL (A := (fun q => q = 2 ∨ (8 ≤ q ∧ q < 16) ∨ (t ≤ q ∧ q < t + 21))) (Off.pI (A := (fun q => q = 2 ∨ (8 ≤ q ∧ q < 16) ∨ (t ≤ q ∧ q < t + 21))) (Off.tr (Off.pI (A := (fun q => q = 2 ∨ (8 ≤ q ∧ q < 16) ∨ (t ≤ q ∧ q < t + 21))) (Off.pI (A := (fun q => q = 2 ∨ (8 ≤ q ∧ q < 16) ∨ (t ≤ q ∧ q < t + 21))) Off.rf (by omega) _ _) (by omega) _ _) q1) (by omega) 0 (nI r)) (by omega) 0 w), ((q2.pI (a := t + 19) (by omega) 0 (nI r)).off (A := fun q => q = t + 20) (Off.pL (A := fun q => q = t + 20) Off.rf rfl 0 w) (fun q h => by omega)), (by rw [hI_sL, hI_sI, if_neg (by omega)]; exact q3.trans (by simp [hI_sI])), (by rw [hI_sL, hI_sI, if_neg (by omega)]; exact q4.trans (by simp [hI_sI])), TxP.law q5 ht24, (by rw [hI_sL, hI_sI, if_neg (by omega)]; exact q6)⟩, rfl⟩
      · skip
        refine xq_aload_n dX6_lawLine_59 rfl rfl ?_
        refine xq_getF clX6 (by decide) rfl fl_RX6_9 dX6_lawLine_60 (Fx.s7 hF) (Fx.r7_0 hF) ?_
        refine xq_iconst dX6_lawLine_63 ic3 ?_
        refine xq_callV1H clX9 gd_X9_fail dX6_lawLine_64 ml_RX6_71 im_X9_fail se_X9_fail rfl (Fx.s2 hF) (by exact Nat.le_of_ble_eq_true rfl) (by decide) (c_fail hF hs2 hk (by omega) (c := 3) (by decide)) ?_
        intro x64 H64 p64
        obtain ⟨rfl, q64⟩ := p64
        refine xq_zret dX6_lawLine_67 rfl (by decide) ?_
        have el : kK s (n + 1) - 9 = 0 := by omega
        have e : lawR D s n T = .inl (3, n + 1) := (if_neg (by omega)).trans (if_pos (by rw [el]; exact fun z => h56 ((lg_cmp_eq _ _).mpr z)))
        rw [e]
        exact ⟨false, H64, ⟨rfl, Off.tr (Off.pI (A := (fun q => q = 2 ∨ (8 ≤ q ∧ q < 16) ∨ (t ≤ q ∧ q < t + 21))) Off.rf (by omega) _ _) (q64.2.2.2.mo (fun q h => Or.inl h)), q64.1, q64.2.1, (q64.2.2.1 6 (by decide) (by decide)).trans (by simp [hI_sI])⟩, rfl⟩
  · skip
    refine xq_iload_n dX6_lawLine_21 rfl rfl ?_
    refine xq_bipush dX6_lawLine_22 bp10 ?_
    refine xq_icmp_eqN dX6_lawLine_24 rfl (by omega) (by omega) ⟨fun h24 => ?_, fun h24 => ?_⟩
    · skip
      refine xq_iload_n dX6_lawLine_36 rfl rfl ?_
      refine xq_bipush dX6_lawLine_37 bp9 ?_
      refine xq_icmp_neN dX6_lawLine_39 rfl (by omega) (by omega) ⟨fun h39 => ?_, fun h39 => ?_⟩
      · skip
        refine xq_iconst dX6_lawLine_46 ic1 ?_
        refine xq_istore_n dX6_lawLine_47 rfl rfl ?_
        refine xq_aload_n dX6_lawLine_48 rfl rfl ?_
        refine xq_getF clX8 (by decide) rfl fl_RX6_171 dX6_lawLine_49 (Tx.s0 ht) (Tx.r15 ht) ?_
        refine xq_iload_n dX6_lawLine_52 rfl rfl ?_
        refine xq_laldN dX6_lawLine_53 (Tx.s20 ht) (by omega) (by decide) ((hT2.lw 1 (by decide)).1) ?_
        refine xq_lconst dX6_lawLine_54 lc0 ?_
        refine xq_lcmp dX6_lawLine_55 ?_
        refine xq_if_eq dX6_lawLine_56 rfl ⟨fun h56 => ?_, fun h56 => ?_⟩
        · skip
          have hnz : n + 2 ≤ kSz s := kK_lt (n := n + 1) (by omega)
          refine xq_aload_n dX6_lawLine_68 rfl rfl ?_
          refine xq_getF clX6 (by decide) rfl fl_RX6_9 dX6_lawLine_69 (Fx.s7 hF) (Fx.r7_0 hF) ?_
          refine xq_callV0N clX9 gd_X9_step dX6_lawLine_72 ml_RX6_84 im_X9_step se_X9_step rfl (Fx.s2 hF) (by exact Nat.le_of_ble_eq_true rfl) (by decide) (c_step hF hs2 hk (by omega)) ?_
          intro H72 p72
          subst p72
          refine xq_aload_n dX6_lawLine_75 rfl rfl ?_
          refine xq_getF clX6 (by decide) rfl fl_RX6_20 dX6_lawLine_76 (Fx.s7 hF) (Fx.r7_1 hF) ?_
          refine xq_aload_n dX6_lawLine_79 rfl rfl ?_
          refine xq_iconst dX6_lawLine_80 ic0 ?_
          refine xq_callV2H clX1 gd_X1_read dX6_lawLine_81 ml_RX6_157 im_X1_read se_X1_read rfl (Fx.s8 hF) (by exact Nat.le_of_ble_eq_true rfl) (by decide) (c_fread (fc := false) (D := D) hD hF ht ht24 ht45 hs3 hk (by omega) hnz hT3 hb3 hnp hnc hnf hk64) ?_
          intro x81 H81 p81
          obtain ⟨e81, q81⟩ := p81
          have el : kK s (n + 1) - 9 = 1 := by omega
          have eF : lawR D s n T = (match mR s false D 0 (n + 2) (fx0 T) with | .inl e => .inl e | .inr z => .inr (z.1, lawT z.2.1 1 z.2.2.2 z.2.2.1)) := (if_neg (by omega)).trans ((if_neg (by rw [el]; exact fun z => z ((lg_cmp_eq _ _).mp h56))).trans (by rw [el]))
          have hmx : mR s false D 0 (n + 2) (fx0 T) = mR s false D 0 (n + 2) ([], [], 0, T, tNk T, lN 0) := rfl
          rw [← hmx] at e81 q81
          rw [eF]
          cases er : mR s false D 0 (n + 2) (fx0 T) with
          | inl z =>
            obtain ⟨c, m⟩ := z
            rw [er] at e81 q81
            subst e81
            refine xq_istore dX6_lawLine_84 rfl ?_
            refine xq_iload dX6_lawLine_86 rfl ?_
            refine xq_if_ge dX6_lawLine_88 rfl ⟨fun h88 => ?_, fun h88 => ?_⟩
            · skip
              exact absurd (show (0 : Int32) ≤ -1 from h88) (by decide)
            · skip
              refine xq_iconst dX6_lawLine_91 ic0 ?_
              refine xq_zret dX6_lawLine_92 rfl (by decide) ?_
              exact ⟨false, H81, ⟨rfl, Off.tr (Off.pI (A := (fun q => q = 2 ∨ (8 ≤ q ∧ q < 16) ∨ (t ≤ q ∧ q < t + 21))) (Off.pI (A := (fun q => q = 2 ∨ (8 ≤ q ∧ q < 16) ∨ (t ≤ q ∧ q < t + 21))) Off.rf (by omega) _ _) (by omega) _ _) q81.1, q81.2.1, q81.2.2.1, q81.2.2.2.trans (by simp [hI_sI])⟩, rfl⟩
          | inr z =>
            obtain ⟨m, T2, w, r⟩ := z
            rw [er] at e81 q81
            subst e81
            obtain ⟨q1, q2, q3, q4, q5, q6, q7⟩ := q81
            have hr31 : r < 2147483648 := Nat.lt_trans (mR_r hk hk64 er) (by decide)
            refine xq_istore dX6_lawLine_84 rfl ?_
            refine xq_iload dX6_lawLine_86 rfl ?_
            refine xq_if_geN dX6_lawLine_88 rfl hr31 ?_
            refine xq_aload_n dX6_lawLine_93 rfl rfl ?_
            refine xq_getF clX8 (by decide) rfl fl_RX6_174 dX6_lawLine_94 (Tx.s0 ht) (Tx.r14 ht) ?_
            refine xq_iload_n dX6_lawLine_97 rfl rfl ?_
            refine xq_iload dX6_lawLine_98 rfl ?_
            refine xq_iastN dX6_lawLine_100 (Tx.s19 ht) (by omega) (by decide) ?_
            refine xq_aload_n dX6_lawLine_101 rfl rfl ?_
            refine xq_getF clX8 (by decide) rfl fl_RX6_171 dX6_lawLine_102 (Tx.s0 ht) (Tx.r15 ht) ?_
            refine xq_iload_n dX6_lawLine_105 rfl rfl ?_
            refine xq_aload_n dX6_lawLine_106 rfl rfl ?_
            refine xq_getF clX6 (by decide) rfl fl_RX6_20 dX6_lawLine_107 (Fx.s7 hF) (Fx.r7_1 hF) ?_
            refine xq_getLE (v := w) clX1 (by decide) rfl fl_RX6_168 dX6_lawLine_110 (Fx.s8 hF) (by rw [hL_sI]; exact q7) ?_
            refine xq_lastN dX6_lawLine_113 (Tx.s20 ht) (by omega) (by decide) ?_
            refine xq_iconst dX6_lawLine_114 ic1 ?_
            refine xq_zret dX6_lawLine_115 rfl (by decide) ?_
            exact ⟨true, _, ⟨rfl, (Off.pL (A := (fun q => q = 2 ∨ (8 ≤ q ∧ q < 16) ∨ (t ≤ q ∧ q < t + 21))) (Off.pI (A := (fun q => q = 2 ∨ (8 ≤ q ∧ q < 16) ∨ (t ≤ q ∧ q < t + 21))) (Off.tr (Off.pI (A := (fun q => q = 2 ∨ (8 ≤ q ∧ q < 16) ∨ (t ≤ q ∧ q < t + 21))) (Off.pI (A := (fun q => q = 2 ∨ (8 ≤ q ∧ q < 16) ∨ (t ≤ q ∧ q < t + 21))) Off.rf (by omega) _ _) (by omega) _ _) q1) (by omega) 1 (nI r)) (by omega) 1 w), ((q2.pI (a := t + 19) (by omega) 1 (nI r)).off (A := fun q => q = t + 20) (Off.pL (A := fun q => q = t + 20) Off.rf rfl 1 w) (fun q h => by omega)), (by rw [hI_sL, hI_sI, if_neg (by omega)]; exact q3.trans (by simp [hI_sI])), (by rw [hI_sL, hI_sI, if_neg (by omega)]; exact q4.trans (by simp [hI_sI])), TxP.law q5 ht24, (by rw [hI_sL, hI_sI, if_neg (by omega)]; exact q6)⟩, rfl⟩
        · skip
          refine xq_aload_n dX6_lawLine_59 rfl rfl ?_
          refine xq_getF clX6 (by decide) rfl fl_RX6_9 dX6_lawLine_60 (Fx.s7 hF) (Fx.r7_0 hF) ?_
          refine xq_iconst dX6_lawLine_63 ic3 ?_
          refine xq_callV1H clX9 gd_X9_fail dX6_lawLine_64 ml_RX6_71 im_X9_fail se_X9_fail rfl (Fx.s2 hF) (by exact Nat.le_of_ble_eq_true rfl) (by decide) (c_fail hF hs2 hk (by omega) (c := 3) (by decide)) ?_
          intro x64 H64 p64
          obtain ⟨rfl, q64⟩ := p64
          refine xq_zret dX6_lawLine_67 rfl (by decide) ?_
          have el : kK s (n + 1) - 9 = 1 := by omega
          have e : lawR D s n T = .inl (3, n + 1) := (if_neg (by omega)).trans (if_pos (by rw [el]; exact fun z => h56 ((lg_cmp_eq _ _).mpr z)))
          rw [e]
          exact ⟨false, H64, ⟨rfl, Off.tr (Off.pI (A := (fun q => q = 2 ∨ (8 ≤ q ∧ q < 16) ∨ (t ≤ q ∧ q < t + 21))) Off.rf (by omega) _ _) (q64.2.2.2.mo (fun q h => Or.inl h)), q64.1, q64.2.1, (q64.2.2.1 6 (by decide) (by decide)).trans (by simp [hI_sI])⟩, rfl⟩
      · skip
        refine xq_iconst dX6_lawLine_42 ic0 ?_
        refine xq_goto dX6_lawLine_43 rfl ?_
        refine xq_istore_n dX6_lawLine_47 rfl rfl ?_
        refine xq_aload_n dX6_lawLine_48 rfl rfl ?_
        refine xq_getF clX8 (by decide) rfl fl_RX6_171 dX6_lawLine_49 (Tx.s0 ht) (Tx.r15 ht) ?_
        refine xq_iload_n dX6_lawLine_52 rfl rfl ?_
        refine xq_laldN dX6_lawLine_53 (Tx.s20 ht) (by omega) (by decide) ((hT2.lw 0 (by decide)).1) ?_
        refine xq_lconst dX6_lawLine_54 lc0 ?_
        refine xq_lcmp dX6_lawLine_55 ?_
        refine xq_if_eq dX6_lawLine_56 rfl ⟨fun h56 => ?_, fun h56 => ?_⟩
        · skip
          have hnz : n + 2 ≤ kSz s := kK_lt (n := n + 1) (by omega)
          refine xq_aload_n dX6_lawLine_68 rfl rfl ?_
          refine xq_getF clX6 (by decide) rfl fl_RX6_9 dX6_lawLine_69 (Fx.s7 hF) (Fx.r7_0 hF) ?_
          refine xq_callV0N clX9 gd_X9_step dX6_lawLine_72 ml_RX6_84 im_X9_step se_X9_step rfl (Fx.s2 hF) (by exact Nat.le_of_ble_eq_true rfl) (by decide) (c_step hF hs2 hk (by omega)) ?_
          intro H72 p72
          subst p72
          refine xq_aload_n dX6_lawLine_75 rfl rfl ?_
          refine xq_getF clX6 (by decide) rfl fl_RX6_20 dX6_lawLine_76 (Fx.s7 hF) (Fx.r7_1 hF) ?_
          refine xq_aload_n dX6_lawLine_79 rfl rfl ?_
          refine xq_iconst dX6_lawLine_80 ic0 ?_
          refine xq_callV2H clX1 gd_X1_read dX6_lawLine_81 ml_RX6_157 im_X1_read se_X1_read rfl (Fx.s8 hF) (by exact Nat.le_of_ble_eq_true rfl) (by decide) (c_fread (fc := false) (D := D) hD hF ht ht24 ht45 hs3 hk (by omega) hnz hT3 hb3 hnp hnc hnf hk64) ?_
          intro x81 H81 p81
          obtain ⟨e81, q81⟩ := p81
          have el : kK s (n + 1) - 9 = 0 := by omega
          have eF : lawR D s n T = (match mR s false D 0 (n + 2) (fx0 T) with | .inl e => .inl e | .inr z => .inr (z.1, lawT z.2.1 0 z.2.2.2 z.2.2.1)) := (if_neg (by omega)).trans ((if_neg (by rw [el]; exact fun z => z ((lg_cmp_eq _ _).mp h56))).trans (by rw [el]))
          have hmx : mR s false D 0 (n + 2) (fx0 T) = mR s false D 0 (n + 2) ([], [], 0, T, tNk T, lN 0) := rfl
          rw [← hmx] at e81 q81
          rw [eF]
          cases er : mR s false D 0 (n + 2) (fx0 T) with
          | inl z =>
            obtain ⟨c, m⟩ := z
            rw [er] at e81 q81
            subst e81
            refine xq_istore dX6_lawLine_84 rfl ?_
            refine xq_iload dX6_lawLine_86 rfl ?_
            refine xq_if_ge dX6_lawLine_88 rfl ⟨fun h88 => ?_, fun h88 => ?_⟩
            · skip
              exact absurd (show (0 : Int32) ≤ -1 from h88) (by decide)
            · skip
              refine xq_iconst dX6_lawLine_91 ic0 ?_
              refine xq_zret dX6_lawLine_92 rfl (by decide) ?_
              exact ⟨false, H81, ⟨rfl, Off.tr (Off.pI (A := (fun q => q = 2 ∨ (8 ≤ q ∧ q < 16) ∨ (t ≤ q ∧ q < t + 21))) (Off.pI (A := (fun q => q = 2 ∨ (8 ≤ q ∧ q < 16) ∨ (t ≤ q ∧ q < t + 21))) Off.rf (by omega) _ _) (by omega) _ _) q81.1, q81.2.1, q81.2.2.1, q81.2.2.2.trans (by simp [hI_sI])⟩, rfl⟩
          | inr z =>
            obtain ⟨m, T2, w, r⟩ := z
            rw [er] at e81 q81
            subst e81
            obtain ⟨q1, q2, q3, q4, q5, q6, q7⟩ := q81
            have hr31 : r < 2147483648 := Nat.lt_trans (mR_r hk hk64 er) (by decide)
            refine xq_istore dX6_lawLine_84 rfl ?_
            refine xq_iload dX6_lawLine_86 rfl ?_
            refine xq_if_geN dX6_lawLine_88 rfl hr31 ?_
            refine xq_aload_n dX6_lawLine_93 rfl rfl ?_
            refine xq_getF clX8 (by decide) rfl fl_RX6_174 dX6_lawLine_94 (Tx.s0 ht) (Tx.r14 ht) ?_
            refine xq_iload_n dX6_lawLine_97 rfl rfl ?_
            refine xq_iload dX6_lawLine_98 rfl ?_
            refine xq_iastN dX6_lawLine_100 (Tx.s19 ht) (by omega) (by decide) ?_
            refine xq_aload_n dX6_lawLine_101 rfl rfl ?_
            refine xq_getF clX8 (by decide) rfl fl_RX6_171 dX6_lawLine_102 (Tx.s0 ht) (Tx.r15 ht) ?_
            refine xq_iload_n dX6_lawLine_105 rfl rfl ?_
            refine xq_aload_n dX6_lawLine_106 rfl rfl ?_
            refine xq_getF clX6 (by decide) rfl fl_RX6_20 dX6_lawLine_107 (Fx.s7 hF) (Fx.r7_1 hF) ?_
            refine xq_getLE (v := w) clX1 (by decide) rfl fl_RX6_168 dX6_lawLine_110 (Fx.s8 hF) (by rw [hL_sI]; exact q7) ?_
            refine xq_lastN dX6_lawLine_113 (Tx.s20 ht) (by omega) (by decide) ?_
            refine xq_iconst dX6_lawLine_114 ic1 ?_
            refine xq_zret dX6_lawLine_115 rfl (by decide) ?_
            exact ⟨true, _, ⟨rfl, (Off.pL (A := (fun q => q = 2 ∨ (8 ≤ q ∧ q < 16) ∨ (t ≤ q ∧ q < t + 21))) (Off.pI (A := (fun q => q = 2 ∨ (8 ≤ q ∧ q < 16) ∨ (t ≤ q ∧ q < t + 21))) (Off.tr (Off.pI (A := (fun q => q = 2 ∨ (8 ≤ q ∧ q < 16) ∨ (t ≤ q ∧ q < t + 21))) (Off.pI (A := (fun q => q = 2 ∨ (8 ≤ q ∧ q < 16) ∨ (t ≤ q ∧ q < t + 21))) Off.rf (by omega) _ _) (by omega) _ _) q1) (by omega) 0 (nI r)) (by omega) 0 w), ((q2.pI (a := t + 19) (by omega) 0 (nI r)).off (A := fun q => q = t + 20) (Off.pL (A := fun q => q = t + 20) Off.rf rfl 0 w) (fun q h => by omega)), (by rw [hI_sL, hI_sI, if_neg (by omega)]; exact q3.trans (by simp [hI_sI])), (by rw [hI_sL, hI_sI, if_neg (by omega)]; exact q4.trans (by simp [hI_sI])), TxP.law q5 ht24, (by rw [hI_sL, hI_sI, if_neg (by omega)]; exact q6)⟩, rfl⟩
        · skip
          refine xq_aload_n dX6_lawLine_59 rfl rfl ?_
          refine xq_getF clX6 (by decide) rfl fl_RX6_9 dX6_lawLine_60 (Fx.s7 hF) (Fx.r7_0 hF) ?_
          refine xq_iconst dX6_lawLine_63 ic3 ?_
          refine xq_callV1H clX9 gd_X9_fail dX6_lawLine_64 ml_RX6_71 im_X9_fail se_X9_fail rfl (Fx.s2 hF) (by exact Nat.le_of_ble_eq_true rfl) (by decide) (c_fail hF hs2 hk (by omega) (c := 3) (by decide)) ?_
          intro x64 H64 p64
          obtain ⟨rfl, q64⟩ := p64
          refine xq_zret dX6_lawLine_67 rfl (by decide) ?_
          have el : kK s (n + 1) - 9 = 0 := by omega
          have e : lawR D s n T = .inl (3, n + 1) := (if_neg (by omega)).trans (if_pos (by rw [el]; exact fun z => h56 ((lg_cmp_eq _ _).mpr z)))
          rw [e]
          exact ⟨false, H64, ⟨rfl, Off.tr (Off.pI (A := (fun q => q = 2 ∨ (8 ≤ q ∧ q < 16) ∨ (t ≤ q ∧ q < t + 21))) Off.rf (by omega) _ _) (q64.2.2.2.mo (fun q h => Or.inl h)), q64.1, q64.2.1, (q64.2.2.1 6 (by decide) (by decide)).trans (by simp [hI_sI])⟩, rfl⟩
    · skip
      refine xq_aload_n dX6_lawLine_27 rfl rfl ?_
      refine xq_getF clX6 (by decide) rfl fl_RX6_9 dX6_lawLine_28 (Fx.s7 hF) (Fx.r7_0 hF) ?_
      refine xq_iconst dX6_lawLine_31 ic1 ?_
      refine xq_callV1H clX9 gd_X9_fail dX6_lawLine_32 ml_RX6_71 im_X9_fail se_X9_fail rfl (Fx.s2 hF) (by exact Nat.le_of_ble_eq_true rfl) (by decide) (c_fail hF hs2 hk (by omega) (c := 1) (by decide)) ?_
      intro x32 H32 p32
      obtain ⟨rfl, q32⟩ := p32
      refine xq_zret dX6_lawLine_35 rfl (by decide) ?_
      have e : lawR D s n T = .inl (1, n + 1) := if_pos ⟨by omega, by omega⟩
      rw [e]
      exact ⟨false, H32, ⟨rfl, Off.tr (Off.pI (A := (fun q => q = 2 ∨ (8 ≤ q ∧ q < 16) ∨ (t ≤ q ∧ q < t + 21))) Off.rf (by omega) _ _) (q32.2.2.2.mo (fun q h => Or.inl h)), q32.1, q32.2.1, (q32.2.2.1 6 (by decide) (by decide)).trans (by simp [hI_sI])⟩, rfl⟩
end LO
