/-! ===== what lines keep ===== -/
section KE1
variable {k p q i j l m n c t d a b e v D : Nat} {s : uTk} {T T1 T2 T3 : uTx} {w w2 : Int64} {x y z : rxT} {fc : Bool} {N : Nat → Nat → Nat}
/-- the knots there are stay -/
def KpT (T T2 : uTx) : Prop := tNk T ≤ tNk T2 ∧ ∀ k, k < tNk T → tK T2 k = tK T k ∧ tX T2 k = tX T k ∧ tY T2 k = tY T k
theorem KpT.rf : KpT T T := ⟨Nat.le_refl _, fun _ _ => ⟨rfl, rfl, rfl⟩⟩
theorem KpT.tr (h : KpT T T1) (h2 : KpT T1 T2) : KpT T T2 := ⟨Nat.le_trans h.1 h2.1, fun k hk => by
  obtain ⟨a1, a2, a3⟩ := h.2 k hk
  obtain ⟨b1, b2, b3⟩ := h2.2 k (Nat.lt_of_lt_of_le hk h.1)
  exact ⟨b1.trans a1, b2.trans a2, b3.trans a3⟩⟩
theorem KpT.kn {i x y : Nat} : KpT T (knT T i x y) := ⟨by rw [knT_n]; omega, fun k hk => by rw [knT_k, knT_x, knT_y, if_neg (by omega), if_neg (by omega), if_neg (by omega)]; exact ⟨rfl, rfl, rfl⟩⟩
def PtK (f : rxT → rxR) : Prop := ∀ x y, f x = .inr y → KpT (rxX x) (rxX y)
theorem brk_k {f : rxT → rxR} (hf : PtK f) : PtK (brk s f) := fun x y h => by
  unfold brk at h
  split at h
  · cases h
  · obtain ⟨z, h1, h2⟩ := bnd_r h
    have hz := hf _ _ h1
    split at h2
    · cases h2; exact hz
    · cases h2
theorem lopG_k {g : Nat → Bool} {f h : rxT → rxR} (hf : PtK f) (hh : PtK h) : PtK (lopG s g f h) := fun x y h => by
  unfold lopG at h
  split at h
  · split at h
    · cases h
    · obtain ⟨z, h1, h2⟩ := bnd_r h
      exact ((hf (nxB x) _ h1).tr KpT.kn).tr (hh _ _ h2)
  · cases h; exact KpT.rf
theorem prf_k {f : rxT → rxR} (hf : PtK f) : PtK (prf s f) := fun x y h => by
  unfold prf at h
  split at h
  · cases h
  · obtain ⟨z, h1, h2⟩ := bnd_r h
    cases h2
    exact (hf (nxB x) _ h1).tr KpT.kn
theorem bnd_k {f h : rxT → rxR} (hf : PtK f) (hh : PtK h) : PtK (fun x => bnd (f x) h) := fun x y hx => by
  obtain ⟨z, h1, h2⟩ := bnd_r hx
  exact (hf _ _ h1).tr (hh _ _ h2)
theorem lea_k : PtK (leaL s k) := fun x y h => by
  unfold leaL at h
  split at h
  · split at h
    · cases h
    · split at h
      · cases h
      · cases h; exact KpT.kn
  · split at h
    · split at h
      · cases h
      · cases h; exact KpT.kn
    · split at h
      · split at h
        · cases h
        · split at h
          · cases h
          · cases h; exact KpT.kn
      · split at h
        · cases h
        · cases h; exact KpT.kn
theorem pln_k {f h : rxT → rxR} (hf : PtK f) (hh : PtK h) : PtK (plnL s f h) := fun x y e => by
  unfold plnL at e
  split at e
  · exact brk_k hf x y e
  · split at e
    · cases e
    · split at e
      · cases e
      · split at e
        · split at e
          · cases e
          · obtain ⟨z, h1, h2⟩ := bnd_r e
            cases h2
            have hz := hh _ _ h1
            exact KpT.tr (show KpT (rxX x) (rxX z) from hz) KpT.kn
        · split at e
          · obtain ⟨z, h1, h2⟩ := bnd_r e
            cases h2
            have hz := hh _ _ h1
            exact KpT.tr (show KpT (rxX x) (rxX z) from hz) KpT.kn
          · exact lea_k x y e
theorem prm_k {f : rxT → rxR} (hf : PtK f) : PtK (prmL s f) := fun x y e => by
  unfold prmL at e
  split at e
  · exact brk_k hf x y e
  · split at e
    · split at e
      · cases e
      · split at e
        · cases e
        · cases e; exact KpT.kn
    · split at e
      · cases e
      · split at e
        · cases e
        · cases e; exact KpT.kn
theorem inr_k : PtK (fun x => .inr x) := fun x y e => by cases e; exact KpT.rf
theorem neg_k {f h : rxT → rxR} (hf : PtK f) (hh : PtK h) : PtK (negL s f h) := fun x y e => by
  unfold negL at e
  split at e
  · exact prf_k hf x y e
  · exact bnd_k hh (lopG_k hh inr_k) x y e
theorem rd_k : ∀ d l, l ≤ 15 → PtK (rd s d l)
  | 0, l, _ => fun x y h => by cases h
  | d + 1, l, hl => by
    have ih := fun l hl => rd_k d l hl
    have : l = 0 ∨ l = 1 ∨ l = 2 ∨ l = 3 ∨ l = 4 ∨ l = 5 ∨ l = 6 ∨ l = 7 ∨ l = 8 ∨ l = 9 ∨ l = 10 ∨ l = 11 ∨ l = 12 ∨ l = 13 ∨ l = 14 ∨ l = 15 := by omega
    rcases this with rfl | rfl | rfl | rfl | rfl | rfl | rfl | rfl | rfl | rfl | rfl | rfl | rfl | rfl | rfl | rfl
    · exact bnd_k (ih 1 (by decide)) (ih 4 (by decide))
    · exact bnd_k (ih 2 (by decide)) (ih 5 (by decide))
    · intro x y e
      rw [rd_2] at e
      split at e
      · exact prf_k (ih 2 (by decide)) x y e
      · exact ih 3 (by decide) x y e
    · exact pln_k (ih 0 (by decide)) (ih 3 (by decide))
    · exact lopG_k (ih 1 (by decide)) (ih 4 (by decide))
    · exact lopG_k (ih 2 (by decide)) (ih 5 (by decide))
    · exact bnd_k (ih 7 (by decide)) (ih 12 (by decide))
    · exact bnd_k (ih 8 (by decide)) (ih 13 (by decide))
    · exact neg_k (ih 8 (by decide)) (ih 9 (by decide))
    · exact bnd_k (ih 10 (by decide)) (ih 14 (by decide))
    · exact bnd_k (ih 11 (by decide)) (ih 15 (by decide))
    · exact prm_k (ih 6 (by decide))
    · exact lopG_k (ih 7 (by decide)) (ih 12 (by decide))
    · exact lopG_k (ih 8 (by decide)) (ih 13 (by decide))
    · exact lopG_k (ih 10 (by decide)) (ih 14 (by decide))
    · exact lopG_k (ih 11 (by decide)) (ih 15 (by decide))
theorem KnOk.kp (h : KnOk T k) (hk : KpT T T2) (h1 : k < tNk T) : KnOk T2 k := by
  obtain ⟨a1, a2, a3⟩ := hk.2 k h1
  unfold KnOk at h ⊢
  rw [a1, a2, a3]; exact h
theorem NdOk.kp (h : NdOk T w) (hk : KpT T T2) : NdOk T2 w := fun k h64 hb => by
  obtain ⟨h1, h2, h3, h4⟩ := h k h64 hb
  obtain ⟨a1, a2, a3⟩ := hk.2 k h1
  refine ⟨Nat.lt_of_lt_of_le h1 hk.1, h2.kp hk h1, ?_, ?_⟩
  · rw [a1, a3]; exact h3
  · rw [a1, a2]; exact h4
theorem stk_kp (hk : KpT T T2) (a : Nat) : ∀ n, a + n ≤ tNk T → stk T2 a n = stk T a n
  | 0, _ => rfl
  | n + 1, h => by
    show (a + n) :: (stk T2 a n).drop (arK (tK T2 (a + n))) = (a + n) :: (stk T a n).drop (arK (tK T (a + n)))
    rw [stk_kp hk a n (by omega), (hk.2 (a + n) (by omega)).1]
theorem RpnOk.kp (h : RpnOk T w a b) (hk : KpT T T2) (hb : b ≤ tNk T) : RpnOk T2 w a b := by
  obtain ⟨h1, h2, h3⟩ := h
  refine ⟨h1, fun n hn => ?_, ?_⟩
  · obtain ⟨a1, a2, a3⟩ := hk.2 (a + n) (by omega)
    rw [a1, a2, a3, stk_kp hk a n (by omega)]
    exact h2 n hn
  · rw [stk_kp hk a (b - a) (by omega)]; exact h3
theorem LwK.kp (h : LwK T w k) (hk : KpT T T2) (h1 : k < tNk T) : LwK T2 w k := by
  obtain ⟨a1, a2, a3⟩ := hk.2 k h1
  unfold LwK at h ⊢
  rw [a1, a2, a3]; exact h
/-- one fact, its formula's need w, its first knot a, its root r, f facts told ahead of it -/
def FctI (T : uTx) (w : Int64) (a r f : Nat) : Prop := r < 64 ∧ rb w r = true ∧ NdOk T w ∧ r < tNk T ∧ RpnOk T w a (r + 1) ∧ ∀ k, a ≤ k → k ≤ r → (tK T k = 20 → tX T k < f ∧ tY T k = tRo T (tX T k)) ∧ (tK T k = 14 ∨ tK T k = 15 → tX T k < tNp T) ∧ (tK T k = 16 → tY T k < tNp T)
def LwwI (T : uTx) (w : Int64) (a r : Nat) : Prop := r < 64 ∧ rb w r = true ∧ r < tNk T ∧ (∀ k, k < 64 → rb w k = true → k ≤ r ∧ k < tNk T ∧ LwK T w k) ∧ RpnOk T w a (r + 1) ∧ ∀ k, k < 64 → rb w k = true → a ≤ k
theorem FctI.kp {f r : Nat} (h : FctI T w a r f) (hk : KpT T T2) (hp : tNp T ≤ tNp T2) (hr : ∀ g, g < f → tRo T2 g = tRo T g) : FctI T2 w a r f := by
  obtain ⟨h1, h2, h3, h4, h5, h6⟩ := h
  refine ⟨h1, h2, h3.kp hk, by have := hk.1; omega, h5.kp hk (by omega), fun k k1 k2 => ?_⟩
  obtain ⟨a1, a2, a3⟩ := hk.2 k (by omega)
  obtain ⟨b1, b2, b3⟩ := h6 k k1 k2
  rw [a1, a2, a3]
  exact ⟨fun z => ⟨(b1 z).1, by rw [hr _ (b1 z).1]; exact (b1 z).2⟩, fun z => by have := b2 z; omega, fun z => by have := b3 z; omega⟩
theorem LwwI.kp {r : Nat} (h : LwwI T w a r) (hk : KpT T T2) : LwwI T2 w a r := by
  obtain ⟨h1, h2, h3, h4, h5, h6⟩ := h
  refine ⟨h1, h2, by have := hk.1; omega, fun k k1 k2 => ?_, h5.kp hk (by omega), h6⟩
  obtain ⟨b1, b2, b3⟩ := h4 k k1 k2
  exact ⟨b1, by have := hk.1; omega, b3.kp hk b2⟩
def SeI (T : uTx) : Prop := (∀ k, tNp T ≤ k → tSe T k = 0) ∧ ∀ p q, (tSe T p).testBit q = true → q < tNp T ∧ q ≠ p
/-- all that a text in progress keeps -/
def LnI (T : uTx) (N : Nat → Nat → Nat) : Prop := TiP T ∧ (tNp T = 0 ∨ 0 < tNc T) ∧ HtOk T ∧ SeI T ∧ (∀ f, f < tNf T → FctI T (tNe T f) (N 0 f) (tRo T f) f) ∧ (∀ k, k < tNt T → tTf T k < tNf T ∧ tTh T k ≤ 99) ∧ (∀ k, k < tNa T → tAh T k ≤ 99) ∧ ∀ l, l < 2 → tLn T l ≠ 0 → LwwI T (tLn T l) (N 1 l) (tLr T l)
theorem LnI.ti (h : LnI T N) : TiP T := h.1
theorem LnI.fs (h : LnI T N) : FsI T := ⟨h.1.2.1, h.1.1, fun f hf => by
  obtain ⟨h1, h2, h3, h4⟩ := h.2.2.2.2.1 f hf
  exact ⟨h1, h2, h3⟩⟩
theorem ct_0 : ∀ n, ct (fun _ => false) n = 0
  | 0 => rfl
  | n + 1 => (ct_f rfl).trans (ct_0 n)
theorem ln0 : LnI tx0 N := ⟨ti0, Or.inl rfl, ⟨fun p hp => absurd hp (Nat.not_lt_zero p), fun p hp => absurd hp (Nat.not_lt_zero p), fun p hp => absurd hp (Nat.not_lt_zero p), by decide, fun p hp => by
    show col 0 p = if p < 0 then _ else 0
    rw [if_neg (Nat.not_lt_zero p)]; simp [col]⟩, ⟨fun k _ => rfl, fun p q h => by
    have h : (0 : Nat).testBit q = true := h
    rw [Nat.zero_testBit] at h; cases h⟩, fun f hf => absurd hf (Nat.not_lt_zero f), fun f hf => absurd hf (Nat.not_lt_zero f), fun f hf => absurd hf (Nat.not_lt_zero f), fun l hl h => absurd rfl h⟩
theorem ask_ln (h : LnI T N) (e : askR s n T = .inr (m, T2)) : LnI T2 N := by
  have hti := (ask_ti h.ti e).1
  unfold askR at e
  split at e
  · cases e
  · split at e
    · cases e
    · rename_i h1 h2
      have hv := (numB_t h2).2
      cases e
      obtain ⟨a1, a2, a3, a4, a5, a6, a7, a8⟩ := h
      refine ⟨hti, a2, a3, a4, (fun f hf => (a5 f hf).kp ⟨Nat.le_refl _, fun _ _ => ⟨rfl, rfl, rfl⟩⟩ (Nat.le_refl _) (fun _ _ => rfl)), a6, fun k hk => ?_, (fun l hl h0 => (a8 l hl h0).kp ⟨Nat.le_refl _, fun _ _ => ⟨rfl, rfl, rfl⟩⟩)⟩
      have hk : k < tNa T + 1 := hk
      rw [askT_h]
      split
      · exact hv
      · exact a7 k (by omega)
theorem shy_ln (h : LnI T N) (e : shyR s n T = .inr (m, T2)) : LnI T2 N := by
  have hti := (shy_ti h.ti e).1
  unfold shyR at e
  split at e
  · cases e
  · split at e
    · cases e
    · cases e
      obtain ⟨a1, a2, a3, a4, a5, a6, a7, a8⟩ := h
      exact ⟨hti, a2, a3, a4, (fun f hf => (a5 f hf).kp ⟨Nat.le_refl _, fun _ _ => ⟨rfl, rfl, rfl⟩⟩ (Nat.le_refl _) (fun _ _ => rfl)), a6, a7, (fun l hl h0 => (a8 l hl h0).kp ⟨Nat.le_refl _, fun _ _ => ⟨rfl, rfl, rfl⟩⟩)⟩
theorem sed_ln (h : LnI T N) (e : sedR s n T = .inr (m, T2)) : LnI T2 N := by
  have hti := (sed_ti h.ti e).1
  unfold sedR at e
  split at e
  · cases e
  · split at e
    · cases e
    · cases e
      obtain ⟨a1, a2, a3, a4, a5, a6, a7, a8⟩ := h
      exact ⟨hti, a2, a3, a4, (fun f hf => (a5 f hf).kp ⟨Nat.le_refl _, fun _ _ => ⟨rfl, rfl, rfl⟩⟩ (Nat.le_refl _) (fun _ _ => rfl)), a6, a7, (fun l hl h0 => (a8 l hl h0).kp ⟨Nat.le_refl _, fun _ _ => ⟨rfl, rfl, rfl⟩⟩)⟩
theorem tel_ln (h : LnI T N) (e : telR s n T = .inr (m, T2)) : LnI T2 N := by
  have hti := (tel_ti h.ti e).1
  unfold telR at e
  split at e
  · cases e
  · split at e
    · cases e
    · rename_i hz
      obtain ⟨e39, hvv, ev⟩ := zP_v (s := s) (n := n + 1) (cd := tFn T) (sz := tNf T) hz
      split at e
      · cases e
      · rename_i h1 h2
        have hv := (numB_t h2).2
        cases e
        obtain ⟨a1, a2, a3, a4, a5, a6, a7, a8⟩ := h
        refine ⟨hti, a2, a3, a4, (fun f hf => (a5 f hf).kp ⟨Nat.le_refl _, fun _ _ => ⟨rfl, rfl, rfl⟩⟩ (Nat.le_refl _) (fun _ _ => rfl)), fun k hk => ?_, a7, (fun l hl h0 => (a8 l hl h0).kp ⟨Nat.le_refl _, fun _ _ => ⟨rfl, rfl, rfl⟩⟩)⟩
        have hk : k < tNt T + 1 := hk
        rw [telT_f, telT_h]
        split
        · exact ⟨by rw [ev]; exact hvv, hv⟩
        · exact a6 k (by omega)
theorem colT_s (k : Nat) : tSt (colT T i v) k = if k = tNc T then v else tSt T k := colT_st k
theorem col_ln (h : LnI T N) (e : colR s n T = .inr (m, T2)) : LnI T2 N := by
  have hti := (col_ti h.ti e).1
  unfold colR at e
  split at e
  · cases e
  · split at e
    · cases e
    · split at e
      · cases e
      · rename_i h1 h2 h3
        have hv := (numB_t h3).2
        cases e
        obtain ⟨a1, a2, ⟨b1, b2, b3, b4, b5⟩, a4, a5, a6, a7, a8⟩ := h
        refine ⟨hti, Or.inr (Nat.succ_pos _), ⟨fun p hp => Nat.lt_succ_of_lt (b1 p hp), fun c hc => ?_, fun c hc => ?_, b4, b5⟩, a4, (fun f hf => (a5 f hf).kp ⟨Nat.le_refl _, fun _ _ => ⟨rfl, rfl, rfl⟩⟩ (Nat.le_refl _) (fun _ _ => rfl)), a6, a7, (fun l hl h0 => (a8 l hl h0).kp ⟨Nat.le_refl _, fun _ _ => ⟨rfl, rfl, rfl⟩⟩)⟩
        · have hc : c < tNc T + 1 := hc
          rw [colT_s]
          split
          · rename_i ec
            have : ct (fun p => tHt T p == c) (tNp T) = ct (fun _ => false) (tNp T) := ct_cong (fun p hp => by
              have := b1 p hp
              exact beq_false_of_ne (by omega))
            show ct (fun p => tHt T p == c) (tNp T) ≤ _
            rw [this, ct_0]; omega
          · exact b2 c (by omega)
        · have hc : c < tNc T + 1 := hc
          rw [colT_s]
          split
          · exact hv
          · exact b3 c (by omega)
theorem per_ln (h : LnI T N) (e : perR s n T = .inr (m, T2)) : LnI T2 N := by
  have hti := (per_ti h.ti e).1
  unfold perR at e
  split at e
  · cases e
  · split at e
    · cases e
    · split at e
      · cases e
      · rename_i hz
        obtain ⟨e39, hvv, ev⟩ := zP_v (s := s) (n := n + 2) (cd := tCn T) (sz := tNc T) hz
        split at e
        · cases e
        · rename_i h1 h2 h3
          rw [ev] at e h3
          cases e
          obtain ⟨a1, a2, ⟨b1, b2, b3, b4, b5⟩, a4, a5, a6, a7, a8⟩ := h
          obtain ⟨c1, c2, c3, c4, c5, c6, c7, c8, c9, c10, c11⟩ := a1
          generalize fdn (tCn T) (tNc T) (kV s (n + 2)) = v at hvv h3 hti ⊢
          have e1 : ∀ c, ct (fun p => tHt (perT T (kV s (n + 1)) v) p == c) (tNp T) = ct (fun p => tHt T p == c) (tNp T) := fun c => ct_cong (fun p hp => by rw [perT_ht, if_neg (by omega)])
          refine ⟨hti, Or.inr (show 0 < tNc T by omega), ⟨fun p hp => ?_, fun c hc => ?_, b3, ?_, fun p hp => ?_⟩, ⟨fun k hk => a4.1 k (by have hk : tNp T + 1 ≤ k := hk; omega), fun p q hb => by have := a4.2 p q hb; exact ⟨Nat.lt_succ_of_lt this.1, this.2⟩⟩, fun f hf => (a5 f hf).kp ⟨Nat.le_refl _, fun _ _ => ⟨rfl, rfl, rfl⟩⟩ (Nat.le_succ _) (fun _ _ => rfl), a6, a7, (fun l hl h0 => (a8 l hl h0).kp ⟨Nat.le_refl _, fun _ _ => ⟨rfl, rfl, rfl⟩⟩)⟩
          · have hp : p < tNp T + 1 := hp
            show _ < tNc T
            rw [perT_ht]
            split
            · exact hvv
            · exact b1 p (by omega)
          · have hc : c < tNc T := hc
            have hb := b2 c hc
            show ct (fun p => tHt (perT T (kV s (n + 1)) v) p == c) (tNp T + 1) ≤ tSt T c
            by_cases ec : v = c
            · rw [ct_t (f := fun p => tHt (perT T (kV s (n + 1)) v) p == c) (show (tHt (perT T (kV s (n + 1)) v) (tNp T) == c) = true from by rw [perT_ht, if_pos rfl, ec]; exact beq_self_eq_true c), e1]
              subst ec
              omega
            · rw [ct_f (f := fun p => tHt (perT T (kV s (n + 1)) v) p == c) (show (tHt (perT T (kV s (n + 1)) v) (tNp T) == c) = false from by rw [perT_ht, if_pos rfl]; exact beq_false_of_ne ec), e1]
              exact hb
          · show tTr T ||| v <<< (10 - 2 * tNp T) < 4096
            refine Nat.or_lt_two_pow (n := 12) b4 ?_
            have h3 : v < 3 := by omega
            have h4 : (10 - 2 * tNp T) ≤ 10 := by omega
            rw [Nat.shiftLeft_eq]
            calc v * 2 ^ (10 - 2 * tNp T) ≤ 3 * 2 ^ 10 := Nat.mul_le_mul (by omega) (Nat.pow_le_pow_right (by decide) h4)
              _ < 2 ^ 12 := by decide
          · show col (tTr T ||| v <<< (10 - 2 * tNp T)) p = if p < tNp T + 1 then tHt (perT T (kV s (n + 1)) v) p else 0
            rw [col_or, b5 p hp, col_sh (by omega) hp (by omega), perT_ht]
            by_cases e1 : p = tNp T
            · rw [if_neg (by omega), if_pos e1, if_pos (by omega), if_pos e1, Nat.zero_or]
            · rw [if_neg e1, if_neg e1, Nat.or_zero]
              exact ite_c (by omega)
theorem see_w : ∀ {d i n w : Nat}, (∀ q, w.testBit q = true → q < tNp T ∧ q ≠ p) → seeL s T p d i n w = .inr (m, T2) → ∃ w2, T2 = setT T 8 p w2 ∧ ∀ q, w2.testBit q = true → q < tNp T ∧ q ≠ p
  | 0, i, n, w, hw, e => by cases e; exact ⟨w, rfl, hw⟩
  | d + 1, i, n, w, hw, e => by
    unfold seeL at e
    split at e
    · cases e; exact ⟨w, rfl, hw⟩
    · split at e
      · cases e
      · rename_i hz
        obtain ⟨e39, hvv, ev⟩ := zP_v (s := s) (n := n) (cd := tPn T) (sz := tNp T) hz
        rw [ev] at e
        split at e
        · cases e
        · rename_i hp
          split at e
          · cases e
          · refine see_w (fun q hq => ?_) e
            by_cases eq : q = fdn (tPn T) (tNp T) (kV s n)
            · exact ⟨by omega, by omega⟩
            · rw [tb_or1 eq] at hq; exact hw q hq
theorem see_ln (h : LnI T N) (e : seeR s n T = .inr (m, T2)) : LnI T2 N := by
  have hti := (see_ti h.ti e).1
  unfold seeR at e
  split at e
  · cases e
  · split at e
    · cases e
    · rename_i hz _
      obtain ⟨e39, hvv, ev⟩ := zP_v (s := s) (n := n + 1) (cd := tPn T) (sz := tNp T) hz
      rw [ev] at e
      obtain ⟨w2, rfl, hw2⟩ := see_w (fun q hq => by rw [Nat.zero_testBit] at hq; cases hq) e
      obtain ⟨a1, a2, a3, a4, a5, a6, a7, a8⟩ := h
      refine ⟨hti, a2, a3, ⟨fun k hk => ?_, fun p q hb => ?_⟩, (fun f hf => (a5 f hf).kp ⟨Nat.le_refl _, fun _ _ => ⟨rfl, rfl, rfl⟩⟩ (Nat.le_refl _) (fun _ _ => rfl)), a6, a7, (fun l hl h0 => (a8 l hl h0).kp ⟨Nat.le_refl _, fun _ _ => ⟨rfl, rfl, rfl⟩⟩)⟩
      · have hk : tNp T ≤ k := hk
        rw [setT_se, if_neg (by omega)]; exact a4.1 k hk
      · rw [setT_se] at hb
        split at hb
        · rename_i ep
          rw [ep]; exact hw2 q hb
        · exact a4.2 p q hb
theorem bit64 (h : KnOk T k) (hk : k < 64) : (tK T k = 20 ∨ tK T k = 12 ∨ tK T k = 11 → tY T k < 64) ∧ (tK T k = 12 ∨ tK T k = 11 ∨ tK T k = 13 ∨ tK T k = 16 ∨ tK T k = 17 ∨ tK T k = 18 → tX T k < 64) := by
  rcases h with g | g | g | g | g | g | g | g | g | g <;> exact ⟨fun z => by omega, fun z => by omega⟩
theorem HtOk.sm (h : HtOk T) (hs : SmT T T2) : HtOk T2 := by
  obtain ⟨b1, b2, b3, b4, b5⟩ := h
  have e7 : tHt T2 = tHt T := funext fun k => hs.1 7 k (by decide) (by decide) (by decide) (fun z => by cases z)
  have e5 : tSt T2 = tSt T := funext fun k => hs.1 5 k (by decide) (by decide) (by decide) (fun z => by cases z)
  have e8 : tTr T2 = tTr T := hs.1 0 8 (by decide) (by decide) (by decide) (by decide)
  unfold HtOk
  rw [hs.np, hs.nc, e7, e5, e8]
  exact ⟨b1, b2, b3, b4, b5⟩
/-- behind a formula: all but the facts and the laws -/
theorem LnI.rd (h : LnI T N) (e : rd s 8000 (lvF fc) (rx0 n T) = .inr y) : LnI (rxX y) N ∧ KpT T (rxX y) ∧ SmT T (rxX y) ∧ tNk (rxX y) ≤ 64 := by
  obtain ⟨y1, y2, y3, y4, y5, y6⟩ := rd_l0 (fc := fc) h.ti.2.2.2.1 e
  have hk : KpT T (rxX y) := rd_k 8000 (lvF fc) (by cases fc <;> decide) _ _ e
  obtain ⟨a1, a2, a3, a4, a5, a6, a7, a8⟩ := h
  have g : ∀ a k, a ≠ 1 → a ≠ 2 → a ≠ 3 → a ≠ 0 → (rxX y).1 a k = T.1 a k := fun a k b1 b2 b3 b4 => y5.1 a k b1 b2 b3 (fun z => absurd z b4)
  have eNe : tNe (rxX y) = tNe T := funext fun k => by show (rxX y).2 0 k = T.2 0 k; rw [y5.2]
  refine ⟨⟨a1.sm y5 y4, by rw [y5.np, y5.nc]; exact a2, a3.sm y5, ⟨fun k hk => ?_, fun p q hb => ?_⟩, fun f hf => ?_, fun k hk => ?_, fun k hk => ?_, fun l hl h0 => ?_⟩, hk, y5, y4⟩
  · rw [y5.np] at hk; rw [y5.se]; exact a4.1 k hk
  · rw [y5.se] at hb; rw [y5.np]; exact a4.2 p q hb
  · rw [y5.nf] at hf
    rw [eNe, show tRo (rxX y) f = tRo T f from g 10 f (by decide) (by decide) (by decide) (by decide)]
    exact (a5 f hf).kp hk (by rw [y5.np]; exact Nat.le_refl _) (fun q _ => g 10 q (by decide) (by decide) (by decide) (by decide))
  · rw [y5.nt] at hk
    rw [y5.nf, show tTf (rxX y) k = tTf T k from g 11 k (by decide) (by decide) (by decide) (by decide), show tTh (rxX y) k = tTh T k from g 12 k (by decide) (by decide) (by decide) (by decide)]
    exact a6 k hk
  · rw [show tNa (rxX y) = tNa T from y5.1 0 5 (by decide) (by decide) (by decide) (by decide)] at hk
    rw [show tAh (rxX y) k = tAh T k from g 13 k (by decide) (by decide) (by decide) (by decide)]
    exact a7 k hk
  · rw [y5.lnn] at h0 ⊢
    rw [y5.lr]
    exact (a8 l hl h0).kp hk
theorem fct_new (h : LnI T N) (e : rd s 8000 0 (rx0 n T) = .inr y) : FctI (rxX y) (rxW y) (tNk T) (rtX y) (tNf (rxX y)) := by
  obtain ⟨y1, y2, y3, y4, y5, y6⟩ := rd_l0 (fc := true) h.ti.2.2.2.1 e
  obtain ⟨⟨w1, w2, w3, w4⟩, w5, w6, w7, w8⟩ := rd_wf0 (fc := true) h.fs h.ti.2.2.2.1 e
  have hr : rtX y + 1 = tNk (rxX y) := y6
  refine ⟨by omega, (w2 (rtX y) (by omega) (by omega)).1, fun k h64 hb => ?_, by omega, ⟨by omega, fun n hn => ?_, ?_⟩, fun k k1 k2 => ?_⟩
  · rcases w3 k h64 hb with ⟨k1, k2⟩ | ⟨-, f, hf, f1, f2⟩
    · obtain ⟨-, cn, -⟩ := w2 k k1 k2
      unfold Cnd at cn
      rw [if_pos rfl] at cn
      exact ⟨k2, cn.1, cn.2.1, cn.2.2.1⟩
    · obtain ⟨g1, g2, g3, g4⟩ := (w4.2.2 f hf).2.2 k h64 f1
      have b := bit64 g2 h64
      exact ⟨g1, g2, fun z => f2 _ (b.1 z) (g3 z), fun z => f2 _ (b.2 z) (g4 z)⟩
  · obtain ⟨q1, -, q3⟩ := w2 (tNk T + n) (by omega) (by omega)
    unfold StK at q3
    rw [show tNk T + n - tNk T = n by omega] at q3
    exact ⟨q1, q3.1, q3.2⟩
  · rw [y6]; exact w5
  · obtain ⟨-, cn, -⟩ := w2 k k1 (by omega)
    unfold Cnd at cn
    rw [if_pos rfl] at cn
    exact ⟨cn.2.2.2.1, cn.2.2.2.2.1, cn.2.2.2.2.2⟩
theorem lww_new (h : LnI T N) (e : rd s 8000 6 (rx0 n T) = .inr y) : LwwI (rxX y) (rxW y) (tNk T) (rtX y) := by
  obtain ⟨y1, y2, y3, y4, y5, y6⟩ := rd_l0 (fc := false) h.ti.2.2.2.1 e
  obtain ⟨⟨w1, w2, w3, w4⟩, w5, w6, w7, w8⟩ := rd_wf0 (fc := false) h.fs h.ti.2.2.2.1 e
  have hr : rtX y + 1 = tNk (rxX y) := y6
  refine ⟨by omega, (w2 (rtX y) (by omega) (by omega)).1, by omega, fun k h64 hb => ?_, ⟨by omega, fun n hn => ?_, ?_⟩, fun k h64 hb => ?_⟩
  · rcases w3 k h64 hb with ⟨k1, k2⟩ | ⟨z, -⟩
    · obtain ⟨-, cn, -⟩ := w2 k k1 k2
      unfold Cnd at cn
      rw [if_neg (by decide)] at cn
      exact ⟨by omega, k2, cn⟩
    · cases z
  · obtain ⟨q1, -, q3⟩ := w2 (tNk T + n) (by omega) (by omega)
    unfold StK at q3
    rw [show tNk T + n - tNk T = n by omega] at q3
    exact ⟨q1, q3.1, q3.2⟩
  · rw [y6]; exact w5
  · rcases w3 k h64 hb with ⟨k1, k2⟩ | ⟨z, -⟩
    · exact k1
    · cases z
theorem mR_y {st : Nat} {r : Nat} (hk : TrOk s) (hD : 701 ≤ D) (hn : 1 ≤ n) (hnz : n ≤ kSz s) (h64 : tNk T ≤ 64) (e : mR s fc D 0 n (fx0 T) = .inr (m, T2, w, r)) : ∃ y, rd s 8000 (lvF fc) (rx0 n T) = .inr y ∧ T2 = rxX y ∧ w = rxW y ∧ r = rtX y ∧ m = rxN y ∧ kK s m = 40 := by
  rw [mR_rd hk hD hn hnz h64 (Nat.le_refl 8000)] at e
  cases e2 : rd s 8000 (lvF fc) (rx0 n T) with
  | inl z => rw [e2] at e; cases e
  | inr y =>
    by_cases h40 : kK s (rxN y) = 40
    · rw [e2, show fmF s (.inr y) = .inr (rxN y, rxX y, rxW y, rtX y) from if_pos h40] at e
      cases e
      exact ⟨y, rfl, rfl, rfl, rfl, rfl, h40⟩
    · rw [e2, show fmF s (.inr y) = .inl (1, rxN y) from if_neg h40] at e
      cases e
/-- where formulas begin, behind the line at n -/
def lnN (N : Nat → Nat → Nat) (s : uTk) (n : Nat) (T : uTx) : Nat → Nat → Nat := if kK s n = 3 then nfN N (tNf T) (tNk T) else if kK s n = 8 then nlN N (kK s (n + 1) - 9) (tNk T) else N
theorem nfN_1 {f v : Nat} (k : Nat) : nfN N f v 1 k = N 1 k := if_neg (fun z => by cases z.1)
theorem nlN_0 {f v : Nat} (k : Nat) : nlN N f v 0 k = N 0 k := if_neg (fun z => by cases z.1)
theorem fac_ln (h : LnI T N) (hk : TrOk s) (hD : 701 ≤ D) (e : facR D s n T = .inr (m, T2)) : LnI T2 (nfN N (tNf T) (tNk T)) := by
  have hti := (fac_ti hk h.ti e).1
  unfold facR at e
  split at e
  · cases e
  · rename_i h1
    split at e
    · cases e
    · rename_i h2
      have hnz : n + 2 ≤ kSz s := kK_lt (n := n + 1) (by rw [freB_k (by simpa using h2)]; decide)
      cases er : mR s true D 0 (n + 2) (fx0 T) with
      | inl z => rw [er] at e; cases e
      | inr z =>
        obtain ⟨m2, T3, w3, r3⟩ := z
        rw [er] at e
        obtain ⟨y, ey, rfl, rfl, rfl, rfl, h40⟩ := mR_y (st := 0) hk hD (by omega) hnz h.ti.2.2.2.1 er
        cases e
        obtain ⟨hy, kp, sm, n64⟩ := h.rd (fc := true) ey
        have hf := fct_new h ey
        obtain ⟨a1, a2, a3, a4, a5, a6, a7, a8⟩ := hy
        refine ⟨hti, a2, a3, a4, fun f hf2 => ?_, fun k hk => ⟨Nat.lt_succ_of_lt (a6 k hk).1, (a6 k hk).2⟩, a7, fun l hl h0 => ?_⟩
        · have hf2 : f < tNf (rxX y) + 1 := hf2
          rw [facT_w, facT_r, nfN_0, ← sm.nf]
          by_cases ef : f = tNf (rxX y)
          · rw [if_pos ef, if_pos ef, if_pos ef, ef]
            exact hf.kp ⟨Nat.le_refl _, fun _ _ => ⟨rfl, rfl, rfl⟩⟩ (Nat.le_refl _) (fun g hg => by rw [facT_r]; exact if_neg (show ¬ g = tNf (rxX y) by omega))
          · rw [if_neg ef, if_neg ef, if_neg ef]
            exact (a5 f (by omega)).kp ⟨Nat.le_refl _, fun _ _ => ⟨rfl, rfl, rfl⟩⟩ (Nat.le_refl _) (fun g hg => by rw [facT_r]; exact if_neg (show ¬ g = tNf (rxX y) by omega))
        · rw [nfN_1]; exact (a8 l hl h0).kp ⟨Nat.le_refl _, fun _ _ => ⟨rfl, rfl, rfl⟩⟩
theorem law_ln (h : LnI T N) (hk : TrOk s) (hD : 701 ≤ D) (e : lawR D s n T = .inr (m, T2)) : LnI T2 (nlN N (kK s (n + 1) - 9) (tNk T)) := by
  have hti := (law_ti hk h.ti e).1
  unfold lawR at e
  split at e
  · cases e
  · rename_i h1
    have hnz : n + 2 ≤ kSz s := kK_lt (n := n + 1) (by omega)
    split at e
    · cases e
    · cases er : mR s false D 0 (n + 2) (fx0 T) with
      | inl z => rw [er] at e; cases e
      | inr z =>
        obtain ⟨m2, T3, w3, r3⟩ := z
        rw [er] at e
        obtain ⟨y, ey, rfl, rfl, rfl, rfl, h40⟩ := mR_y (st := 0) hk hD (by omega) hnz h.ti.2.2.2.1 er
        cases e
        obtain ⟨hy, kp, sm, n64⟩ := h.rd (fc := false) ey
        have hf := lww_new h ey
        obtain ⟨a1, a2, a3, a4, a5, a6, a7, a8⟩ := hy
        refine ⟨hti, a2, a3, a4, fun f hf2 => ?_, a6, a7, fun l hl h0 => ?_⟩
        · rw [nlN_0]; exact (a5 f hf2).kp ⟨Nat.le_refl _, fun _ _ => ⟨rfl, rfl, rfl⟩⟩ (Nat.le_refl _) (fun _ _ => rfl)
        · rw [lawT_l] at h0 ⊢
          rw [lawT_r, nlN_1]
          by_cases el : l = kK s (n + 1) - 9
          · rw [if_pos el, if_pos el, if_pos el]; exact hf.kp ⟨Nat.le_refl _, fun _ _ => ⟨rfl, rfl, rfl⟩⟩
          · rw [if_neg el] at h0
            rw [if_neg el, if_neg el, if_neg el]; exact (a8 l hl h0).kp ⟨Nat.le_refl _, fun _ _ => ⟨rfl, rfl, rfl⟩⟩
theorem lin_ln (h : LnI T N) (hk : TrOk s) (hD : 701 ≤ D) (e : linR D s n T = .inr (m, T2)) : LnI T2 (lnN N s n T) := by
  unfold linR at e
  unfold lnN
  split at e
  · rename_i h3
    rw [if_pos h3]; exact fac_ln h hk hD e
  · rename_i h3
    rw [if_neg h3]
    split at e
    · rename_i h8
      rw [if_pos h8]; exact law_ln h hk hD e
    · rename_i h8
      rw [if_neg h8]
      unfold plnR at e
      split at e
      · exact col_ln h e
      split at e
      · exact per_ln h e
      split at e
      · exact see_ln h e
      split at e
      · exact tel_ln h e
      split at e
      · exact ask_ln h e
      split at e
      · exact shy_ln h e
      split at e
      · exact sed_ln h e
      · cases e
theorem LnI.tw (h : LnI T N) : TwOk T := ⟨h.1.1, h.1.2.1, h.2.1⟩
theorem LnI.ht (h : LnI T N) : HtOk T := h.2.2.1
theorem LnI.tt (h : LnI T N) : TtOk T := tt_of h.tw h.ht
theorem LnI.lw (h : LnI T N) (hl : l < 2) : LwOk T l := fun h0 => by
  obtain ⟨h1, h2, h3, h4, h5, h6⟩ := h.2.2.2.2.2.2.2 l hl h0
  exact ⟨h1, h2, h4⟩
theorem LnI.tx (h : LnI T N) : TxOk T := by
  have hw := fun l (hl : l < 2) => h.lw hl
  have hf := h.fs
  obtain ⟨⟨c1, c2, c3, c4, c5, c6, c7, c8, c9, c10, c11⟩, a2, ⟨b1, b2, b3, b4, b5⟩, a4, a5, a6, a7, a8⟩ := h
  exact ⟨c1, c2, c3, c4, c5, c6, c7, c8, hw 0 (by decide), hw 1 (by decide), hf.2.2, a6, a7, c10, b1, c11, b4⟩
theorem LnI.nx (h : LnI T N) : NxOk T N := by
  obtain ⟨a1, a2, a3, a4, a5, a6, a7, a8⟩ := h
  exact ⟨fun f hf => ⟨(a5 f hf).2.2.2.2.1, (a5 f hf).2.2.2.2.2⟩, fun l hl h0 => ⟨(a8 l hl h0).2.2.2.2.1, (a8 l hl h0).2.2.2.2.2⟩⟩
theorem rdL_ln (hk : TrOk s) (hD : 701 ≤ D) : ∀ {E l n T N}, LnI T N → rdL D s E l n T = .inr (m, T2) → ∃ N2, LnI T2 N2
  | 0, l, n, T, N, h, e => by cases e
  | E + 1, l, n, T, N, h, e => by
    unfold rdL at e
    split at e
    · cases e; exact ⟨N, h⟩
    · cases er : linR D s n T with
      | inl z => rw [er] at e; cases e
      | inr z =>
        obtain ⟨m2, T3⟩ := z
        rw [er] at e
        have e : (if kK s m2 = 40 then rdL D s E (l + 1) (m2 + 1) T3 else .inl (1, m2)) = .inr (m, T2) := e
        split at e
        · exact rdL_ln hk hD (lin_ln h hk hD er) e
        · cases e
end KE1
