/-! ===== the reference: the worlds are laid ===== -/
section WL
variable {S : xS} {H H1 H2 H3 : xH} {T : uTx} {N : Nat → Nat → Nat} {s a b c w p q n i j k x y m l f : Nat} {g d : Nat → Nat} {A F : Nat → Prop}
theorem ct_rev (f : Nat → Bool) (n : Nat) : ∀ k, k ≤ n → ct (fun p => f (n - 1 - p)) k + ct f (n - k) = ct f n
  | 0, _ => by rw [Nat.sub_zero]; show 0 + _ = _; omega
  | k + 1, h => by
    have ih := ct_rev f n k (by omega)
    have e : n - k = (n - (k + 1)) + 1 := by omega
    rw [e, ct_b f (n - (k + 1))] at ih
    rw [ct_b]
    have e2 : n - 1 - k = n - (k + 1) := by omega
    rw [e2]
    omega
/-- the colour of p in the n-th way -/
def cD (T : uTx) (n p : Nat) : Nat := dgt T n (tNp T - 1 - p)
theorem ct_dg (c : Nat) : ct (fun p => cD T n p == c) (tNp T) = ct (fun j => dgt T n j == c) (tNp T) := by
  have := ct_rev (fun j => dgt T n j == c) (tNp T) (tNp T) (Nat.le_refl _)
  rw [Nat.sub_self] at this
  exact this
theorem us_sum (h3 : tNc T ≤ 3) (h0 : 0 < tNc T) (n : Nat) : ∀ j, usS T n j = ct (fun i => dgt T n i == 0) j + 16 * ct (fun i => dgt T n i == 1) j + 256 * ct (fun i => dgt T n i == 2) j
  | 0 => rfl
  | j + 1 => by
    have ih := us_sum h3 h0 n j
    have hd := dgt_lt h0 n j
    show usS T n j + 1 <<< (4 * dgt T n j) = _
    rw [ih, ct_b, ct_b, ct_b]
    have h4 : ∀ d : Fin 3, 1 <<< (4 * d.val) = (d.val == 0).toNat + 16 * (d.val == 1).toNat + 256 * (d.val == 2).toNat := by decide
    have h5 := h4 ⟨dgt T n j, by omega⟩
    simp only at h5
    omega
theorem us_at (h3 : tNc T ≤ 3) (h0 : 0 < tNc T) (hj : j ≤ 6) (hc : c < 3) : usS T n j >>> (4 * c) &&& 15 = ct (fun i => dgt T n i == c) j := by
  rw [us_sum h3 h0, show (15 : Nat) = 2 ^ 4 - 1 from rfl, Nat.and_two_pow_sub_one_eq_mod, Nat.shiftRight_eq_div_pow]
  have a0 := ct_le (fun i => dgt T n i == 0) j
  have a1 := ct_le (fun i => dgt T n i == 1) j
  have a2 := ct_le (fun i => dgt T n i == 2) j
  rcases (by omega : c = 0 ∨ c = 1 ∨ c = 2) with e | e | e <;> subst e
  · show (_ / 1) % 16 = _
    omega
  · show (_ / 16) % 16 = _
    omega
  · show (_ / 256) % 16 = _
    omega
theorem inS_ct (t : TwOk T) (n : Nat) : inS T n = !(ex (fun c => decide (tSt T c < ct (fun p => cD T n p == c) (tNp T))) (tNc T)) := by
  obtain ⟨h3, h6, h0⟩ := t
  unfold inS
  congr 1
  refine ex_cong (fun c hc => ?_)
  rw [ct_dg, us_at h3 (by omega) h6 (by omega)]
theorem nW_ct (T : uTx) : nW T = ct (inS T) (wys T) := gl_len _ _ _
theorem Wd_at (hm : m < wys T) (hi : inS T m = true) : Wd T (ct (inS T) m) = pk T m := gl_at hm hi
theorem cl_at (t : TwOk T) (hm : m < wys T) (hi : inS T m = true) (hp : p < tNp T) : cl T (ct (inS T) m) p = cD T m p := by
  obtain ⟨h3, h6, h0⟩ := t
  unfold cl
  rw [Wd_at hm hi, col_pk h3 h0 h6 (by omega), if_pos hp]; rfl
theorem m_manyOfG (hF : gFx S) (hx : MxP H T N) (t : TwOk T) (hw : w < 729) (hc : ∀ p, p < tNp T → hI H 103 (6 * w + p) = nI (g p) ∧ g p < 4) (hc4 : c < 4) : Pv mX11_manyOf 0 [.ref 83, vN w, vN c] S H (vN (ct (fun p => g p == c) (tNp T))) := by
  have hnp := t.2.1
  have lp : ∀ (fz : Nat) (m p : Nat), tNp T - p < fz → p ≤ tNp T → m = ct (fun p => g p == c) p → Xq mX11_manyOf 0 0 0 5 [some (.ref 83), some (vN w), some (vN c), some (vN m), some (vN p)] [] S H (fun R => R = (some (vN (ct (fun p => g p == c) (tNp T))), S, H)) := by
    intro fz
    induction fz with
    | zero => intro m p  hfz; exact absurd hfz (by omega)
    | succ fz ih =>
      intro m p  hfz hp hm
      refine xq_iload dX11_manyOf_5 rfl ?_
      refine xq_aload_n dX11_manyOf_7 rfl rfl ?_
      refine xq_getF clX11 (by decide) rfl fl_RX11_13 dX11_manyOf_8 (Fx.s83 hF) (Fx.r83_3 hF) ?_
      refine xq_iconst dX11_manyOf_11 ic1 ?_
      refine xq_ialdN dX11_manyOf_12 (Fx.s85 hF) (by omega) (by decide) hx.np ?_
      refine xq_icmp_geN dX11_manyOf_13 rfl (by omega) (by omega) ⟨fun h13 => ?_, fun h13 => ?_⟩
      · skip
        refine xq_iload_n dX11_manyOf_46 rfl rfl ?_
        refine xq_iret dX11_manyOf_47 rfl ?_
        show _ = _; rw [hm, show p = tNp T by omega]
      · skip
        have hc2 := (hc p h13).2
        refine xq_iload_n dX11_manyOf_16 rfl rfl ?_
        refine xq_aload_n dX11_manyOf_17 rfl rfl ?_
        refine xq_getF clX11 (by decide) rfl fl_RX11_72 dX11_manyOf_18 (Fx.s83 hF) (Fx.r83_35 hF) ?_
        refine xq_bipush dX11_manyOf_21 bp6 ?_
        refine xq_iload_n dX11_manyOf_23 rfl rfl ?_
        refine xq_imulN dX11_manyOf_24 ?_
        refine xq_iload dX11_manyOf_25 rfl ?_
        refine xq_iaddN dX11_manyOf_27 ?_
        refine xq_ialdN dX11_manyOf_28 (Fx.s103 hF) (by omega) (by decide) ((hc p h13).1) ?_
        refine xq_iload_n dX11_manyOf_29 rfl rfl ?_
        refine xq_icmp_neN dX11_manyOf_30 rfl (by omega) (by omega) ⟨fun h30 => ?_, fun h30 => ?_⟩
        · skip
          refine xq_iconst dX11_manyOf_37 ic0 ?_
          refine xq_iaddN dX11_manyOf_38 ?_
          refine xq_istore_n dX11_manyOf_39 rfl rfl ?_
          refine xq_iincN dX11_manyOf_40 ic1 rfl rfl ?_
          refine xq_goto dX11_manyOf_43 rfl ?_
          exact ih (m + 0) (p + 1) (by omega) (by omega) (by rw [ct_f (by simpa using h30), hm]; rfl)
        · skip
          refine xq_iconst dX11_manyOf_33 ic1 ?_
          refine xq_goto dX11_manyOf_34 rfl ?_
          refine xq_iaddN dX11_manyOf_38 ?_
          refine xq_istore_n dX11_manyOf_39 rfl rfl ?_
          refine xq_iincN dX11_manyOf_40 ic1 rfl rfl ?_
          refine xq_goto dX11_manyOf_43 rfl ?_
          exact ih (m + 1) (p + 1) (by omega) (by omega) (by rw [ct_t (by simpa using h30), hm])
  refine vq_ev (vq_intro (by decide) (by exact Nat.le_of_ble_eq_true rfl) rfl ?_)
  refine xq_iconst dX11_manyOf_0 ic0 ?_
  refine xq_istore_n dX11_manyOf_1 rfl rfl ?_
  refine xq_iconst dX11_manyOf_2 ic0 ?_
  refine xq_istore dX11_manyOf_3 rfl ?_
  exact lp (tNp T + 1) 0 0 (by omega) (by omega) rfl
theorem m_isInStock (hF : gFx S) (hx : MxP H T N) (t : TwOk T) (hw : w < 729) (hc : ∀ p, p < tNp T → hI H 103 (6 * w + p) = nI (g p) ∧ g p < 4) (hst6 : ∀ k, k < tNc T → tSt T k ≤ 6) : Pv mX11_isInStock 1 [.ref 83, vN w] S H (vB (!(ex (fun c => decide (tSt T c < ct (fun p => g p == c) (tNp T))) (tNc T)))) := by
  have hnp := t.2.1; have hnc := t.1
  have lp : ∀ (fz : Nat) (c : Nat), tNc T - c < fz → c ≤ tNc T → ex (fun c => decide (tSt T c < ct (fun p => g p == c) (tNp T))) c = false → Xq mX11_isInStock 1 0 0 2 [some (.ref 83), some (vN w), some (vN c)] [] S H (fun R => R = (some (vB (!(ex (fun c => decide (tSt T c < ct (fun p => g p == c) (tNp T))) (tNc T)))), S, H)) := by
    intro fz
    induction fz with
    | zero => intro c  hfz; exact absurd hfz (by omega)
    | succ fz ih =>
      intro c  hfz hcc hno
      refine xq_iload_n dX11_isInStock_2 rfl rfl ?_
      refine xq_aload_n dX11_isInStock_3 rfl rfl ?_
      refine xq_getF clX11 (by decide) rfl fl_RX11_13 dX11_isInStock_4 (Fx.s83 hF) (Fx.r83_3 hF) ?_
      refine xq_iconst dX11_isInStock_7 ic0 ?_
      refine xq_ialdN dX11_isInStock_8 (Fx.s85 hF) (by omega) (by decide) hx.nc ?_
      refine xq_icmp_geN dX11_isInStock_9 rfl (by omega) (by omega) ⟨fun h9 => ?_, fun h9 => ?_⟩
      · skip
        refine xq_iconst dX11_isInStock_35 ic1 ?_
        refine xq_zret dX11_isInStock_36 rfl (by decide) ?_
        show _ = _; rw [show tNc T = c by omega, hno]; rfl
      · skip
        have hs6 := hst6 c h9; have hcl := ct_le (fun p => g p == c) (tNp T)
        refine xq_aload_n dX11_isInStock_12 rfl rfl ?_
        refine xq_iload_n dX11_isInStock_13 rfl rfl ?_
        refine xq_iload_n dX11_isInStock_14 rfl rfl ?_
        refine xq_callV2P clX11 gd_X11_manyOf dX11_isInStock_15 ml_RX11_344 im_X11_manyOf se_X11_manyOf rfl (Fx.s83 hF) (by exact Nat.le_of_ble_eq_true rfl) (by decide) (m_manyOfG hF hx t hw hc (by omega)) ?_
        refine xq_aload_n dX11_isInStock_18 rfl rfl ?_
        refine xq_getF clX11 (by decide) rfl fl_RX11_19 dX11_isInStock_19 (Fx.s83 hF) (Fx.r83_5 hF) ?_
        refine xq_iload_n dX11_isInStock_22 rfl rfl ?_
        refine xq_ialdN dX11_isInStock_23 (Fx.s87 hF) (by omega) (by decide) ((hx.co c h9).2) ?_
        refine xq_icmp_leN dX11_isInStock_24 rfl (by omega) (by omega) ⟨fun h24 => ?_, fun h24 => ?_⟩
        · skip
          refine xq_iincN dX11_isInStock_29 ic1 rfl rfl ?_
          refine xq_goto dX11_isInStock_32 rfl ?_
          exact ih (c + 1) (by omega) (by omega) (by rw [ex_s, hno, Bool.false_or]; exact decide_eq_false (by omega))
        · skip
          refine xq_iconst dX11_isInStock_27 ic0 ?_
          refine xq_zret dX11_isInStock_28 rfl (by decide) ?_
          show _ = _; rw [ex_iff.mpr ⟨c, h9, decide_eq_true h24⟩]; rfl
  refine vq_ev (vq_intro (by decide) (by exact Nat.le_of_ble_eq_true rfl) rfl ?_)
  refine xq_iconst dX11_isInStock_0 ic0 ?_
  refine xq_istore_n dX11_isInStock_1 rfl rfl ?_
  exact lp (tNc T + 1) 0 (by omega) (by omega) rfl
def HtOk (T : uTx) : Prop := (∀ p, p < tNp T → tHt T p < tNc T) ∧ (∀ c, c < tNc T → ct (fun p => tHt T p == c) (tNp T) ≤ tSt T c) ∧ (∀ k, k < tNc T → tSt T k ≤ 6) ∧ tTr T < 4096 ∧ ∀ p, p < 6 → col (tTr T) p = if p < tNp T then tHt T p else 0
theorem HtOk.h (h : HtOk T) : ∀ p, p < tNp T → tHt T p < tNc T := h.1
theorem HtOk.st (h : HtOk T) : ∀ c, c < tNc T → ct (fun p => tHt T p == c) (tNp T) ≤ tSt T c := h.2.1
theorem HtOk.s6 (h : HtOk T) : ∀ k, k < tNc T → tSt T k ≤ 6 := h.2.2.1
theorem HtOk.tr (h : HtOk T) : tTr T < 4096 := h.2.2.2.1
theorem HtOk.co (h : HtOk T) : ∀ p, p < 6 → col (tTr T) p = if p < tNp T then tHt T p else 0 := h.2.2.2.2
theorem col_ext {x y : Nat} (hx : x < 4096) (hy : y < 4096) (h : ∀ p, p < 6 → col x p = col y p) : x = y := by
  apply Nat.eq_of_testBit_eq
  intro i
  by_cases hi : i < 12
  · have := col_eq.mp (h (5 - i / 2) (by omega))
    rcases (by omega : i = 10 - 2 * (5 - i / 2) ∨ i = 10 - 2 * (5 - i / 2) + 1) with e | e
    · rw [← e] at this; exact this.1
    · rw [← e] at this; exact this.2
  · have h2 : (4096 : Nat) ≤ 2 ^ i := show 2 ^ 12 ≤ 2 ^ i from Nat.pow_le_pow_right (by decide) (by omega)
    rw [Nat.testBit_lt_two_pow (Nat.lt_of_lt_of_le hx h2), Nat.testBit_lt_two_pow (Nat.lt_of_lt_of_le hy h2)]
theorem pwS_lt (h3 : tNc T ≤ 3) (h0 : 0 < tNc T) (h6 : tNp T ≤ 6) (n : Nat) : ∀ j, j ≤ tNp T → pwS T n j < 4096
  | 0, _ => by show 0 < 4096; decide
  | j + 1, hj => by
    have ih := pwS_lt h3 h0 h6 n j (by omega)
    have hd := dgt_lt h0 n j
    have h4 : ∀ (d : Fin 4) (k : Fin 6), d.val <<< (10 - 2 * k.val) < 4096 := by decide
    have h5 : dgt T n j <<< (10 - 2 * (tNp T - 1 - j)) < 4096 := h4 ⟨dgt T n j, by omega⟩ ⟨tNp T - 1 - j, by omega⟩
    exact Nat.or_lt_two_pow (n := 12) ih h5
theorem pkT_lt (t : TwOk T) : pk T n < 4096 := by
  obtain ⟨h3, h6, h0⟩ := t
  unfold pk
  rcases h0 with e | e
  · rw [e]; show 0 < 4096; decide
  · exact pwS_lt h3 e h6 n _ (Nat.le_refl _)
theorem pk_tr (t : TwOk T) (h : HtOk T) : (pk T n == tTr T) = true ↔ ∀ p, p < tNp T → cD T n p = tHt T p := by
  have h6 := t.2.1
  rw [beq_iff_eq]
  constructor
  · intro e p hp
    have : col (pk T n) p = col (tTr T) p := congrArg (fun x => col x p) e
    rw [col_pk t.1 t.2.2 h6 (by omega), if_pos hp, h.co p (by omega), if_pos hp] at this
    exact this
  · intro g
    refine col_ext (pkT_lt t) h.tr (fun p hp => ?_)
    rw [col_pk t.1 t.2.2 h6 hp, h.co p hp]
    by_cases e : p < tNp T
    · rw [if_pos e, if_pos e]; exact g p e
    · rw [if_neg e, if_neg e]
theorem rlS_s (T : uTx) (n : Nat) : rlS T (n + 1) = if inS T n && pk T n == tTr T then ct (inS T) n else rlS T n := rfl
theorem rlS_sp : ∀ {n : Nat}, (∃ m, m < n ∧ inS T m = true ∧ (pk T m == tTr T) = true) → ∃ m, m < n ∧ inS T m = true ∧ (pk T m == tTr T) = true ∧ rlS T n = ct (inS T) m
  | 0, h => by obtain ⟨m, h, _⟩ := h; omega
  | n + 1, h => by
    rw [rlS_s]
    by_cases e : (inS T n && pk T n == tTr T) = true
    · rw [if_pos e]
      rw [Bool.and_eq_true] at e
      exact ⟨n, by omega, e.1, e.2, rfl⟩
    · rw [if_neg e]
      obtain ⟨m, h1, h2, h3⟩ := h
      have hm : m < n := by
        apply Classical.byContradiction
        intro z
        rw [show m = n by omega] at h2 h3
        rw [h2, h3] at e; exact e rfl
      obtain ⟨m2, a, b, c, d⟩ := rlS_sp (n := n) ⟨m, hm, h2, h3⟩
      exact ⟨m2, by omega, b, c, d⟩
def dn (T : uTx) : Nat → Nat
  | 0 => 0
  | p + 1 => dn T p * tNc T + tHt T p
theorem dn_lt (h : HtOk T) : ∀ p, p ≤ tNp T → dn T p < tNc T ^ p
  | 0, _ => by show 0 < 1; decide
  | p + 1, hp => by
    have ih := dn_lt h p (by omega)
    have hh := h.h p (by omega)
    show dn T p * tNc T + tHt T p < tNc T ^ (p + 1)
    rw [Nat.pow_succ]
    have : (dn T p + 1) * tNc T ≤ tNc T ^ p * tNc T := Nat.mul_le_mul_right _ ih
    rw [Nat.add_mul, Nat.one_mul] at this
    omega
theorem dn_dg (h : HtOk T) : ∀ k, k ≤ tNp T → ∀ j, j < k → dn T k / tNc T ^ j % tNc T = tHt T (k - 1 - j)
  | 0, _, j, hj => absurd hj (by omega)
  | k + 1, hk, j, hj => by
    have hh := h.h k (by omega)
    have e : dn T (k + 1) = dn T k * tNc T + tHt T k := rfl
    cases j with
    | zero =>
      rw [Nat.pow_zero, Nat.div_one, e, Nat.mul_comm, Nat.mul_add_mod, Nat.mod_eq_of_lt hh]; rfl
    | succ j =>
      rw [Nat.pow_succ, Nat.mul_comm (tNc T ^ j), ← Nat.div_div_eq_div_mul, e, Nat.mul_comm (dn T k), Nat.mul_add_div (by omega), Nat.div_eq_of_lt hh, Nat.add_zero, dn_dg h k (by omega) j (by omega)]
      congr 1
      omega
theorem tt_of (t : TwOk T) (h : HtOk T) : TtOk T := by
  have hc : ∀ p, p < tNp T → cD T (dn T (tNp T)) p = tHt T p := fun p hp => by
    unfold cD dgt
    rw [dn_dg h _ (Nat.le_refl _) _ (by omega)]
    congr 1
    omega
  have hi : inS T (dn T (tNp T)) = true := by
    rw [inS_ct t, Bool.not_eq_true', ← Bool.not_eq_true, ex_iff]
    rintro ⟨c, hc1, hc2⟩
    have e : ct (fun p => cD T (dn T (tNp T)) p == c) (tNp T) = ct (fun p => tHt T p == c) (tNp T) := ct_cong (fun p hp => by rw [hc p hp])
    rw [e, decide_eq_true_iff] at hc2
    have := h.st c hc1
    omega
  obtain ⟨m, h1, h2, h3, h4⟩ := rlS_sp (T := T) (n := wys T) ⟨dn T (tNp T), dn_lt h _ (Nat.le_refl _), hi, (pk_tr t h).mpr hc⟩
  have e : trW T = ct (inS T) m := h4
  refine ⟨?_, fun p hp => ?_⟩
  · rw [e, nW_ct]; exact ct_lt h1 h2
  · rw [e, cl_at t h1 h2 hp]; exact (pk_tr t h).mp h3 p hp
end WL
