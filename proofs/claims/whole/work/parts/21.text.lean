/-! ===== Names, Knots, ways to put hats on, State.begin ===== -/
def NmP (H : xH) (n sz : Nat) (cd : Nat → Nat) : Prop := hI H n 1 = nI sz ∧ ∀ j, j < sz → hI H (n + 1) j = nI (cd j)
/-- the first k below n with f k, else n -/
def fnd (f : Nat → Bool) : Nat → Nat
  | 0 => 0
  | n + 1 => if fnd f n < n then fnd f n else if f n then n else n + 1
def fdz (f : Nat → Bool) (n : Nat) : Int := if fnd f n < n then (fnd f n : Int) else -1
theorem fnd_le (f : Nat → Bool) : ∀ n, fnd f n ≤ n
  | 0 => Nat.le_refl _
  | n + 1 => by
    have := fnd_le f n
    unfold fnd
    split
    · omega
    · split <;> omega
theorem fnd_no {f : Nat → Bool} : ∀ {n : Nat}, (∀ j, j < n → f j = false) → fnd f n = n
  | 0, _ => rfl
  | n + 1, h => by
    have e := fnd_no (n := n) (fun j hj => h j (by omega))
    unfold fnd
    rw [e, if_neg (by omega), if_neg (by rw [h n (by omega)]; decide)]
theorem fnd_at {f : Nat → Bool} {i : Nat} (hi : ∀ j, j < i → f j = false) (hf : f i = true) : ∀ {n : Nat}, i < n → fnd f n = i
  | n + 1, h => by
    unfold fnd
    by_cases e : i = n
    · subst e
      rw [fnd_no hi, if_neg (by omega), if_pos hf]
    · rw [fnd_at hi hf (by omega), if_pos (by omega)]
def hasB (p : Int32) (n : Nat) : Bool := decide (0 ≤ p.toInt ∧ p.toInt < n)
theorem hasB_k {p : Int32} {n : Nat} (h : hasB p n = true) : ∃ k, k < n ∧ p = nI k := by
  have h2 := of_decide_eq_true h
  refine ⟨p.toInt.toNat, by omega, ?_⟩
  apply Int32.toInt_inj.mp
  have := Int32.toInt_lt p
  rw [nI_toInt (by omega)]
  omega
theorem hasB_n {k n : Nat} (h : k < 2147483648) : hasB (nI k) n = decide (k < n) := by
  unfold hasB
  rw [nI_toInt h]
  simp
section NM
variable {S : xS} {H : xH} {n c sz i j : Nat} {cd : Nat → Nat} {w : Int32}
theorem c_isFull (hg : gNm S n c) (hn : NmP H n sz cd) (hc : c ≤ 10) (hs : sz ≤ 10) : Pv mX5_isFull 0 [.ref n] S H (vB (decide (c ≤ sz))) := by
  refine vq_ev (vq_intro (by decide) (by exact Nat.le_of_ble_eq_true rfl) rfl ?_)
  refine xq_aload_n dX5_isFull_0 rfl rfl ?_
  refine xq_getIE clX5 (by decide) rfl fl_RX5_15 dX5_isFull_1 (Nm.s0 hg) hn.1 ?_
  refine xq_aload_n dX5_isFull_4 rfl rfl ?_
  refine xq_getF clX5 (by decide) rfl fl_RX5_9 dX5_isFull_5 (Nm.s0 hg) (Nm.r0 hg) ?_
  refine xq_alen (v := nI c) dX5_isFull_8 (Nm.s1 hg) (by decide) rfl ?_
  refine xq_icmp_ltN dX5_isFull_9 rfl (by omega) (by omega) ⟨fun h9 => ?_, fun h9 => ?_⟩
  · skip
    refine xq_iconst dX5_isFull_16 ic0 ?_
    refine xq_zret dX5_isFull_17 rfl (by decide) ?_
    show _ = _; rw [show decide (c ≤ sz) = false by simpa using h9]; rfl
  · skip
    refine xq_iconst dX5_isFull_12 ic1 ?_
    refine xq_goto dX5_isFull_13 rfl ?_
    refine xq_zret dX5_isFull_17 rfl (by decide) ?_
    show _ = _; rw [show decide (c ≤ sz) = true by simpa using h9]; rfl
theorem c_has (hg : gNm S n c) (hn : NmP H n sz cd) (hs : sz ≤ 10) : Pv mX5_has 0 [.ref n, .int w] S H (vB (hasB w sz)) := by
  refine vq_ev (vq_intro (by decide) (by exact Nat.le_of_ble_eq_true rfl) rfl ?_)
  refine xq_iload_n dX5_has_0 rfl rfl ?_
  refine xq_if_lt dX5_has_1 rfl ⟨fun h1 => ?_, fun h1 => ?_⟩
  · skip
    refine xq_iconst dX5_has_16 ic0 ?_
    refine xq_zret dX5_has_17 rfl (by decide) ?_
    show _ = _; have e0 : (0 : Int32).toInt = 0 := rfl; rw [Int32.lt_iff_toInt_lt] at h1; rw [show hasB w sz = false by unfold hasB; rw [decide_eq_false_iff_not]; omega]; rfl
  · skip
    refine xq_iload_n dX5_has_4 rfl rfl ?_
    refine xq_aload_n dX5_has_5 rfl rfl ?_
    refine xq_getIE clX5 (by decide) rfl fl_RX5_15 dX5_has_6 (Nm.s0 hg) hn.1 ?_
    refine xq_icmp_ge dX5_has_9 rfl ⟨fun h9 => ?_, fun h9 => ?_⟩
    · skip
      refine xq_iconst dX5_has_16 ic0 ?_
      refine xq_zret dX5_has_17 rfl (by decide) ?_
      show _ = _; have e0 : (0 : Int32).toInt = 0 := rfl; rw [Int32.lt_iff_toInt_lt] at h1; rw [Int32.le_iff_toInt_le, nI_toInt (by omega)] at h9; rw [show hasB w sz = false by unfold hasB; rw [decide_eq_false_iff_not]; omega]; rfl
    · skip
      refine xq_iconst dX5_has_12 ic1 ?_
      refine xq_goto dX5_has_13 rfl ?_
      refine xq_zret dX5_has_17 rfl (by decide) ?_
      show _ = _; have e0 : (0 : Int32).toInt = 0 := rfl; rw [Int32.lt_iff_toInt_lt] at h1; rw [Int32.le_iff_toInt_le, nI_toInt (by omega)] at h9; rw [show hasB w sz = true by unfold hasB; rw [decide_eq_true_iff]; omega]; rfl
theorem c_find (hg : gNm S n c) (hn : NmP H n sz cd) (hs : sz ≤ c) (hc : c ≤ 10) : Pv mX5_find 0 [.ref n, .int w] S H (vZ (fdz (fun j => decide (nI (cd j) = w)) sz)) := by
  have lp : ∀ (fz : Nat) (i : Nat), sz - i < fz → i ≤ sz → (∀ j, j < i → decide (nI (cd j) = w) = false) → Xq mX5_find 0 0 0 2 [some (.ref n), some (.int w), some (vN i)] [] S H (fun R => R = (some (vZ (fdz (fun j => decide (nI (cd j) = w)) sz)), S, H)) := by
    intro fz
    induction fz with
    | zero => intro i  hfz; exact absurd hfz (by omega)
    | succ fz ih =>
      intro i  hfz hi hno
      refine xq_iload_n dX5_find_2 rfl rfl ?_
      refine xq_aload_n dX5_find_3 rfl rfl ?_
      refine xq_getIE clX5 (by decide) rfl fl_RX5_15 dX5_find_4 (Nm.s0 hg) hn.1 ?_
      refine xq_icmp_geN dX5_find_7 rfl (by omega) (by omega) ⟨fun h7 => ?_, fun h7 => ?_⟩
      · skip
        refine xq_iconst dX5_find_28 icm1 ?_
        refine xq_iret dX5_find_29 rfl ?_
        show _ = _; have e := fnd_no (f := fun j => decide (nI (cd j) = w)) hno; rw [show sz = i by omega]; unfold fdz; rw [e, if_neg (by omega)]; rfl
      · skip
        refine xq_aload_n dX5_find_10 rfl rfl ?_
        refine xq_getF clX5 (by decide) rfl fl_RX5_9 dX5_find_11 (Nm.s0 hg) (Nm.r0 hg) ?_
        refine xq_iload_n dX5_find_14 rfl rfl ?_
        refine xq_ialdN dX5_find_15 (Nm.s1 hg) (by omega) (by omega) (hn.2 i h7) ?_
        refine xq_iload_n dX5_find_16 rfl rfl ?_
        refine xq_icmp_ne dX5_find_17 rfl ⟨fun h17 => ?_, fun h17 => ?_⟩
        · skip
          refine xq_iincN dX5_find_22 ic1 rfl rfl ?_
          refine xq_goto dX5_find_25 rfl ?_
          exact ih (i + 1) (by omega) (by omega) (fun j hj => by
            by_cases e : j = i
            · subst e; exact decide_eq_false h17
            · exact hno j (by omega))
        · skip
          refine xq_iload_n dX5_find_20 rfl rfl ?_
          refine xq_iret dX5_find_21 rfl ?_
          show _ = _; have e := fnd_at (f := fun j => decide (nI (cd j) = w)) hno (decide_eq_true h17) h7; unfold fdz; rw [e, if_pos h7]; rfl
  refine vq_ev (vq_intro (by decide) (by exact Nat.le_of_ble_eq_true rfl) rfl ?_)
  refine xq_iconst dX5_find_0 ic0 ?_
  refine xq_istore_n dX5_find_1 rfl rfl ?_
  exact lp (sz + 1) 0 (by omega) (by omega) (fun j hj => absurd hj (by omega))
theorem c_add (hg : gNm S n c) (hn : NmP H n sz cd) (hs : sz < c) (hc : c ≤ 10) : Nv mX5_add 1 [.ref n, vN i] S H (fun H' => NmP H' n (sz + 1) (fun j => if j = sz then i else cd j) ∧ Off (fun q => q = n ∨ q = n + 1) H H') := by
  refine vq_intro (by decide) (by exact Nat.le_of_ble_eq_true rfl) rfl ?_
  refine xq_aload_n dX5_add_0 rfl rfl ?_
  refine xq_callV0P clX5 gd_X5_isFull dX5_add_1 ml_RX5_19 im_X5_isFull se_X5_isFull rfl (Nm.s0 hg) (by exact Nat.le_of_ble_eq_true rfl) (by decide) (c_isFull hg hn hc (by omega)) ?_
  refine xq_if_neB dX5_add_4 rfl ⟨fun h4 => ?_, fun h4 => ?_⟩
  · skip
    exact absurd (of_decide_eq_true h4) (by omega)
  · skip
    refine xq_aload_n dX5_add_7 rfl rfl ?_
    refine xq_getF clX5 (by decide) rfl fl_RX5_9 dX5_add_8 (Nm.s0 hg) (Nm.r0 hg) ?_
    refine xq_aload_n dX5_add_11 rfl rfl ?_
    refine xq_getIE clX5 (by decide) rfl fl_RX5_15 dX5_add_12 (Nm.s0 hg) hn.1 ?_
    refine xq_iload_n dX5_add_15 rfl rfl ?_
    refine xq_iastN dX5_add_16 (Nm.s1 hg) (by omega) (by omega) ?_
    refine xq_aload_n dX5_add_17 rfl rfl ?_
    refine xq_dup dX5_add_18 rfl ?_
    refine xq_getIE clX5 (by decide) rfl fl_RX5_15 dX5_add_19 (Nm.s0 hg) ((hI_sI _ _ _ _ _ _).trans ((if_neg (by omega)).trans hn.1)) ?_
    refine xq_iconst dX5_add_22 ic1 ?_
    refine xq_iaddN dX5_add_23 ?_
    refine xq_putI clX5 (by decide) rfl fl_RX5_15 (Or.inl rfl) dX5_add_24 ⟨rfl, rfl⟩ (Nm.s0 hg) ?_
    refine xq_vret dX5_add_27 rfl ?_
    refine ⟨_, ⟨⟨by simp [hI_sI], fun j hj => ?_⟩, (Off.pI (A := fun q => q = n ∨ q = n + 1) (Off.pI (A := fun q => q = n ∨ q = n + 1) Off.rf (Or.inr rfl) _ _) (Or.inl rfl) _ _)⟩, rfl⟩; rw [hI_sI, if_neg (by omega), hI_sI]; by_cases e : j = sz
    · rw [if_pos ⟨rfl, e⟩]; simp only [if_pos e]
    · rw [if_neg (fun z => e z.2)]; simp only [if_neg e]; exact hn.2 j (by omega)
def KtP (H : xH) (n sz : Nat) (f : Nat → Nat → Nat) : Prop := hI H n 3 = nI sz ∧ ∀ k, k < sz → hI H (n + 1) k = nI (f 0 k) ∧ hI H (n + 2) k = nI (f 1 k) ∧ hI H (n + 3) k = nI (f 2 k)
theorem c_kadd {x y : Nat} {f : Nat → Nat → Nat} (hg : gKn S n) (hn : KtP H n sz f) (hs : sz < 64) : Hv mX2_add 0 [.ref n, vN i, vN x, vN y] S H vN (fun r H' => r = sz ∧ KtP H' n (sz + 1) (fun j k => if k = sz then (if j = 0 then i else if j = 1 then x else y) else f j k) ∧ hI H' n 4 = hI H n 4 ∧ Off (fun q => n ≤ q ∧ q < n + 4) H H') := by
  refine vq_intro (by decide) (by exact Nat.le_of_ble_eq_true rfl) rfl ?_
  refine xq_aload_n dX2_add_0 rfl rfl ?_
  refine xq_getIE clX2 (by decide) rfl fl_RX2_21 dX2_add_1 (Kn.s0 hg) hn.1 ?_
  refine xq_bipush dX2_add_4 bp64 ?_
  refine xq_icmp_ltN dX2_add_6 rfl (by omega) (by omega) ⟨fun h6 => ?_, fun h6 => ?_⟩
  · skip
    refine xq_aload_n dX2_add_12 rfl rfl ?_
    refine xq_getF clX2 (by decide) rfl fl_RX2_9 dX2_add_13 (Kn.s0 hg) (Kn.r0 hg) ?_
    refine xq_aload_n dX2_add_16 rfl rfl ?_
    refine xq_getIE clX2 (by decide) rfl fl_RX2_21 dX2_add_17 (Kn.s0 hg) hn.1 ?_
    refine xq_iload_n dX2_add_20 rfl rfl ?_
    refine xq_iastN dX2_add_21 (Kn.s1 hg) (by omega) (by decide) ?_
    refine xq_aload_n dX2_add_22 rfl rfl ?_
    refine xq_getF clX2 (by decide) rfl fl_RX2_15 dX2_add_23 (Kn.s0 hg) (Kn.r1 hg) ?_
    refine xq_aload_n dX2_add_26 rfl rfl ?_
    refine xq_getIE clX2 (by decide) rfl fl_RX2_21 dX2_add_27 (Kn.s0 hg) ((hI_sI _ _ _ _ _ _).trans ((if_neg (by omega)).trans hn.1)) ?_
    refine xq_iload_n dX2_add_30 rfl rfl ?_
    refine xq_iastN dX2_add_31 (Kn.s2 hg) (by omega) (by decide) ?_
    refine xq_aload_n dX2_add_32 rfl rfl ?_
    refine xq_getF clX2 (by decide) rfl fl_RX2_18 dX2_add_33 (Kn.s0 hg) (Kn.r2 hg) ?_
    refine xq_aload_n dX2_add_36 rfl rfl ?_
    refine xq_getIE (v := nI sz) clX2 (by decide) rfl fl_RX2_21 dX2_add_37 (Kn.s0 hg) (by rw [hI_sI, if_neg (by omega), hI_sI, if_neg (by omega)]; exact hn.1) ?_
    refine xq_iload_n dX2_add_40 rfl rfl ?_
    refine xq_iastN dX2_add_41 (Kn.s3 hg) (by omega) (by decide) ?_
    refine xq_aload_n dX2_add_42 rfl rfl ?_
    refine xq_dup dX2_add_43 rfl ?_
    refine xq_getIE (v := nI sz) clX2 (by decide) rfl fl_RX2_21 dX2_add_44 (Kn.s0 hg) (by rw [hI_sI, if_neg (by omega), hI_sI, if_neg (by omega), hI_sI, if_neg (by omega)]; exact hn.1) ?_
    refine xq_iconst dX2_add_47 ic1 ?_
    refine xq_iaddN dX2_add_48 ?_
    refine xq_putI clX2 (by decide) rfl fl_RX2_21 (Or.inl rfl) dX2_add_49 ⟨rfl, rfl⟩ (Kn.s0 hg) ?_
    refine xq_aload_n dX2_add_52 rfl rfl ?_
    refine xq_getIE (v := nI (sz + 1)) clX2 (by decide) rfl fl_RX2_21 dX2_add_53 (Kn.s0 hg) (by rw [hI_sI]; exact if_pos ⟨rfl, rfl⟩) ?_
    refine xq_iconst dX2_add_56 ic1 ?_
    refine xq_isubN dX2_add_57 (by omega) ?_
    refine xq_iret dX2_add_58 rfl ?_
    refine ⟨sz, _, ⟨rfl, ⟨by simp [hI_sI], fun k hk => ?_⟩, by simp [hI_sI], Off.pI (A := fun q => n ≤ q ∧ q < n + 4) (Off.pI (A := fun q => n ≤ q ∧ q < n + 4) (Off.pI (A := fun q => n ≤ q ∧ q < n + 4) (Off.pI (A := fun q => n ≤ q ∧ q < n + 4) Off.rf (by omega) _ _) (by omega) _ _) (by omega) _ _) (by omega) _ _⟩, rfl⟩
    by_cases e : k = sz
    · subst e; simp [hI_sI]
    · have := hn.2 k (by omega)
      simp [hI_sI, e, this]
  · skip
    exact absurd h6 (by omega)
end NM
section PK
variable {S : xS} {H : xH} {t i j n c m : Nat} {T : uTx}
def dgt (T : uTx) (n j : Nat) : Nat := n / tNc T ^ j % tNc T
def pwS (T : uTx) (n j : Nat) : Nat := fo (fun j w => w ||| dgt T n j <<< (10 - 2 * (tNp T - 1 - j))) 0 j
def usS (T : uTx) (n j : Nat) : Nat := fo (fun j s => s + 1 <<< (4 * dgt T n j)) 0 j
def pk (T : uTx) (n : Nat) : Nat := pwS T n (tNp T)
def inS (T : uTx) (n : Nat) : Bool := !(ex (fun c => decide (tSt T c < (usS T n (tNp T) >>> (4 * c) &&& 15))) (tNc T))
theorem dgt_lt (h : 0 < tNc T) (n j : Nat) : dgt T n j < tNc T := Nat.mod_lt _ h
theorem usS_le (h : tNc T ≤ 3) (h0 : 0 < tNc T) (n : Nat) : ∀ j, usS T n j ≤ 256 * j
  | 0 => Nat.le_refl _
  | j + 1 => by
    have h1 := usS_le h h0 n j
    have h2 := dgt_lt h0 n j
    have h3 : ∀ d : Fin 3, 1 <<< (4 * d.val) ≤ 256 := by decide
    have h4 := h3 ⟨dgt T n j, by omega⟩
    show usS T n j + 1 <<< (4 * dgt T n j) ≤ _
    simp only at h4
    omega
theorem zI_dec (z : Int) : zI z + (-1) = zI (z - 1) := by
  show Int32.ofInt z + Int32.ofInt (-1) = Int32.ofInt (z - 1)
  rw [← Int32.ofInt_add]; rfl
theorem nI_subZ (a : Nat) : nI a - nI 1 = zI ((a : Int) - 1) := by
  show Int32.ofInt a - Int32.ofInt 1 = Int32.ofInt (a - 1)
  rw [← Int32.ofInt_sub]
theorem dgt_s (n j : Nat) : n / tNc T ^ j / tNc T = n / tNc T ^ (j + 1) := by rw [Nat.div_div_eq_div_mul, Nat.pow_succ]
theorem c_packed (ht : gTx S t) (hT : TxP H t T) (hnc : tNc T ≤ 3) (hnp : tNp T ≤ 6) (h0 : tNp T = 0 ∨ 0 < tNc T) (hst6 : ∀ k, k < tNc T → tSt T k ≤ 6) (hn : n < 729) : Pv mX8_packed 1 [.ref t, vN n] S H (vZ (if inS T n then (pk T n : Int) else -1)) := by
  have hus : usS T n (tNp T) ≤ 1536 := by
    rcases h0 with e | e
    · rw [e]; exact Nat.zero_le _
    · have := usS_le hnc e n (tNp T); omega
  have l2 : ∀ (fz : Nat) (c : Nat), tNc T - c < fz → c ≤ tNc T → (ex (fun c => decide (tSt T c < (usS T n (tNp T) >>> (4 * c) &&& 15))) c = false) → Xq mX8_packed 1 0 0 80 [some (.ref t), none, some (vN (pk T n)), some (vN (usS T n (tNp T))), none, some (vN (tNc T)), some (vN c), none] [] S H (fun R => R = (some (vZ (if inS T n then (pk T n : Int) else -1)), S, H)) := by
    intro fz
    induction fz with
    | zero => intro c  hfz; exact absurd hfz (by omega)
    | succ fz ih =>
      intro c  hfz hc hno
      refine xq_iload dX8_packed_80 rfl ?_
      refine xq_iload dX8_packed_82 rfl ?_
      refine xq_icmp_geN dX8_packed_84 rfl (by omega) (by omega) ⟨fun h84 => ?_, fun h84 => ?_⟩
      · skip
        refine xq_iload_n dX8_packed_114 rfl rfl ?_
        refine xq_iret dX8_packed_115 rfl ?_
        show _ = _; rw [show inS T n = true by unfold inS; rw [show tNc T = c by omega, hno]; rfl]; rfl
      · skip
        have hst := (hT.co c h84).2; have hs6 := hst6 c h84
        have hua := shr_le (usS T n (tNp T)) (4 * c); have hub : usS T n (tNp T) >>> (4 * c) &&& 15 ≤ 15 := Nat.and_le_right
        refine xq_iload_n dX8_packed_87 rfl rfl ?_
        refine xq_iconst dX8_packed_88 ic4 ?_
        refine xq_iload dX8_packed_89 rfl ?_
        refine xq_imulN dX8_packed_91 ?_
        refine xq_ishrN dX8_packed_92 (by omega) (by omega) ?_
        refine xq_bipush dX8_packed_93 bp15 ?_
        refine xq_iandN dX8_packed_95 ?_
        refine xq_aload_n dX8_packed_96 rfl rfl ?_
        refine xq_getF clX8 (by decide) rfl fl_RX8_33 dX8_packed_97 (Tx.s0 ht) (Tx.r4 ht) ?_
        refine xq_iload dX8_packed_100 rfl ?_
        refine xq_ialdN dX8_packed_102 (Tx.s11 ht) (by omega) (by decide) hst ?_
        refine xq_icmp_leN dX8_packed_103 rfl (by omega) (by omega) ⟨fun h103 => ?_, fun h103 => ?_⟩
        · skip
          refine xq_iincN dX8_packed_108 ic1 rfl rfl ?_
          refine xq_goto dX8_packed_111 rfl ?_
          exact ih (c + 1) (by omega) (by omega) (by rw [ex_s, hno, Bool.false_or]; exact decide_eq_false (by omega))
        · skip
          refine xq_iconst dX8_packed_106 icm1 ?_
          refine xq_iret dX8_packed_107 rfl ?_
          show _ = _; rw [show inS T n = false by unfold inS; rw [ex_iff.mpr ⟨c, h84, decide_eq_true h103⟩]; rfl]; rfl
  have l1 : ∀ (fz : Nat) (j : Nat), tNp T - j < fz → j ≤ tNp T → Xq mX8_packed 1 0 0 27 [some (.ref t), none, some (vN (pwS T n j)), some (vN (usS T n j)), some (vN (n / tNc T ^ j)), some (vN (tNc T)), some (.int (zI ((tNp T : Int) - 1 - (j : Nat)))), none] [] S H (fun R => R = (some (vZ (if inS T n then (pk T n : Int) else -1)), S, H)) := by
    intro fz
    induction fz with
    | zero => intro j  hfz; exact absurd hfz (by omega)
    | succ fz ih =>
      intro j  hfz hj
      refine xq_iload dX8_packed_27 rfl ?_
      refine xq_if_lt dX8_packed_29 rfl ⟨fun h29 => ?_, fun h29 => ?_⟩
      · skip
        have hjn : j = tNp T := by
          have := (zI_lt0 (by omega) (by omega)).mp h29
          omega
        subst hjn
        refine xq_iconst dX8_packed_77 ic0 ?_
        refine xq_istore dX8_packed_78 rfl ?_
        exact xq_fgt (l2 (tNc T + 1) 0 (by omega) (by omega) rfl) (by exact And.intro rfl (And.intro rfl (And.intro rfl (And.intro rfl (And.intro rfl (trivial))))))
      · skip
        have hjn : j < tNp T := by
          have : ¬ ((tNp T : Int) - 1 - (j : Nat) < 0) := fun z => h29 ((zI_lt0 (by omega) (by omega)).mpr z)
          omega
        rw [show zI ((tNp T : Int) - 1 - (j : Nat)) = nI (tNp T - 1 - j) by rw [zI_nat (by omega)]; congr 1; omega]
        have hr : n / tNc T ^ j ≤ n := Nat.div_le_self _ _
        have hd : n / tNc T ^ j % tNc T < tNc T := Nat.mod_lt _ (by omega)
        refine xq_iload dX8_packed_32 rfl ?_
        refine xq_if_leN dX8_packed_34 rfl (by omega) ⟨fun h34 => ?_, fun h34 => ?_⟩
        · skip
          exact absurd h34 (by omega)
        · skip
          refine xq_iload dX8_packed_37 rfl ?_
          refine xq_iload dX8_packed_39 rfl ?_
          refine xq_iremN dX8_packed_41 (by omega) (by omega) (fun e => absurd ((nq_eq0 (by omega)).mp e) (by omega)) ?_
          refine xq_istore dX8_packed_42 rfl ?_
          refine xq_iload dX8_packed_44 rfl ?_
          refine xq_iload dX8_packed_46 rfl ?_
          refine xq_idivN dX8_packed_48 (by omega) (by omega) (fun e => absurd ((nq_eq0 (by omega)).mp e) (by omega)) ?_
          refine xq_istore dX8_packed_49 rfl ?_
          refine xq_iload_n dX8_packed_51 rfl rfl ?_
          refine xq_iload dX8_packed_52 rfl ?_
          refine xq_iload dX8_packed_54 rfl ?_
          refine xq_callSN1P gd_X10_shiftOf dX8_packed_56 nl_RX8_88 im_X10_shiftOf (by exact Nat.le_of_ble_eq_true rfl) (by decide) (c_shiftOf (by omega)) ?_
          refine xq_ishlN dX8_packed_59 (by omega) ?_
          refine xq_iorN dX8_packed_60 ?_
          refine xq_istore_n dX8_packed_61 rfl rfl ?_
          refine xq_iload_n dX8_packed_62 rfl rfl ?_
          refine xq_iconst dX8_packed_63 ic1 ?_
          refine xq_iconst dX8_packed_64 ic4 ?_
          refine xq_iload dX8_packed_65 rfl ?_
          refine xq_imulN dX8_packed_67 ?_
          refine xq_ishlN dX8_packed_68 (by omega) ?_
          refine xq_iaddN dX8_packed_69 ?_
          refine xq_istore_n dX8_packed_70 rfl rfl ?_
          rw [show nI (tNp T - 1 - j) = zI ((tNp T : Int) - 1 - (j : Nat)) by rw [zI_nat (by omega)]; congr 1; omega, dgt_s]
          refine xq_iinc dX8_packed_71 icm1 rfl rfl ?_
          refine xq_goto dX8_packed_74 rfl ?_
          rw [show zI ((tNp T : Int) - 1 - (j : Nat)) + (-1 : Int32) = zI ((tNp T : Int) - 1 - ((j + 1 : Nat) : Int)) by rw [zI_dec]; congr 1; omega]
          exact xq_fgt (ih (j + 1) (by omega) (by omega)) (by exact And.intro rfl (And.intro rfl (And.intro rfl (And.intro rfl (And.intro rfl (And.intro rfl (trivial)))))))
  refine vq_ev (vq_intro (by decide) (by exact Nat.le_of_ble_eq_true rfl) rfl ?_)
  refine xq_iconst dX8_packed_0 ic0 ?_
  refine xq_istore_n dX8_packed_1 rfl rfl ?_
  refine xq_iconst dX8_packed_2 ic0 ?_
  refine xq_istore_n dX8_packed_3 rfl rfl ?_
  refine xq_iload_n dX8_packed_4 rfl rfl ?_
  refine xq_istore dX8_packed_5 rfl ?_
  refine xq_aload_n dX8_packed_7 rfl rfl ?_
  refine xq_getF clX8 (by decide) rfl fl_RX8_14 dX8_packed_8 (Tx.s0 ht) (Tx.r0 ht) ?_
  refine xq_getIE clX5 (by decide) rfl fl_RX8_72 dX8_packed_11 (Nm.s0 (Tx.n1 ht)) hT.nc ?_
  refine xq_istore dX8_packed_14 rfl ?_
  refine xq_aload_n dX8_packed_16 rfl rfl ?_
  refine xq_getF clX8 (by decide) rfl fl_RX8_20 dX8_packed_17 (Tx.s0 ht) (Tx.r1 ht) ?_
  refine xq_getIE clX5 (by decide) rfl fl_RX8_72 dX8_packed_20 (Nm.s0 (Tx.n3 ht)) hT.np ?_
  refine xq_iconst dX8_packed_23 ic1 ?_
  refine xq_isub dX8_packed_24 ?_
  rw [nI_subZ]
  refine xq_istore dX8_packed_25 rfl ?_
  refine xq_fgt (L' := [some (.ref t), none, some (vN (pwS T n 0)), some (vN (usS T n 0)), some (vN (n / tNc T ^ 0)), some (vN (tNc T)), some (.int (zI ((tNp T : Int) - 1 - (0 : Nat)))), none]) (l1 (tNp T + 1) 0 (by omega) (by omega)) ?_
  rw [show ((tNp T : Int) - 1 - ((0 : Nat) : Int)) = (tNp T : Int) - 1 by omega, Nat.pow_zero, Nat.div_one]
  exact And.intro rfl (And.intro rfl (And.intro rfl (And.intro rfl (And.intro rfl (And.intro rfl (trivial))))))
theorem c_hatsOf (ht : gTx S t) (hT : TxP H t T) (hnp : tNp T ≤ 6) (hht : ∀ k, k < tNp T → tHt T k < 3) (hc : c ≤ 3) : Pv mX8_hatsOf 0 [.ref t, vN c] S H (vN (ct (fun i => tHt T i == c) (tNp T))) := by
  have lp : ∀ (fz : Nat) (i m : Nat), tNp T - i < fz → i ≤ tNp T → m = ct (fun i => tHt T i == c) i → Xq mX8_hatsOf 0 0 0 4 [some (.ref t), some (vN c), some (vN m), some (vN i)] [] S H (fun R => R = (some (vN (ct (fun i => tHt T i == c) (tNp T))), S, H)) := by
    intro fz
    induction fz with
    | zero => intro i m  hfz; exact absurd hfz (by omega)
    | succ fz ih =>
      intro i m  hfz hi hm
      refine xq_iload_n dX8_hatsOf_4 rfl rfl ?_
      refine xq_aload_n dX8_hatsOf_5 rfl rfl ?_
      refine xq_getF clX8 (by decide) rfl fl_RX8_20 dX8_hatsOf_6 (Tx.s0 ht) (Tx.r1 ht) ?_
      refine xq_getIE clX5 (by decide) rfl fl_RX8_72 dX8_hatsOf_9 (Nm.s0 (Tx.n3 ht)) hT.np ?_
      refine xq_icmp_geN dX8_hatsOf_12 rfl (by omega) (by omega) ⟨fun h12 => ?_, fun h12 => ?_⟩
      · skip
        refine xq_iload_n dX8_hatsOf_39 rfl rfl ?_
        refine xq_iret dX8_hatsOf_40 rfl ?_
        show _ = _; rw [hm, show tNp T = i by omega]
      · skip
        have hh := (hT.pe i h12).2; have hh3 := hht i h12
        refine xq_iload_n dX8_hatsOf_15 rfl rfl ?_
        refine xq_aload_n dX8_hatsOf_16 rfl rfl ?_
        refine xq_getF clX8 (by decide) rfl fl_RX8_37 dX8_hatsOf_17 (Tx.s0 ht) (Tx.r5 ht) ?_
        refine xq_iload_n dX8_hatsOf_20 rfl rfl ?_
        refine xq_ialdN dX8_hatsOf_21 (Tx.s12 ht) (by omega) (by decide) hh ?_
        refine xq_iload_n dX8_hatsOf_22 rfl rfl ?_
        refine xq_icmp_neN dX8_hatsOf_23 rfl (by omega) (by omega) ⟨fun h23 => ?_, fun h23 => ?_⟩
        · skip
          refine xq_iconst dX8_hatsOf_30 ic0 ?_
          refine xq_iaddN dX8_hatsOf_31 ?_
          refine xq_istore_n dX8_hatsOf_32 rfl rfl ?_
          refine xq_iincN dX8_hatsOf_33 ic1 rfl rfl ?_
          refine xq_goto dX8_hatsOf_36 rfl ?_
          exact ih (i + 1) (m + 0) (by omega) (by omega) (by rw [ct_f (by simpa using h23), hm]; rfl)
        · skip
          refine xq_iconst dX8_hatsOf_26 ic1 ?_
          refine xq_goto dX8_hatsOf_27 rfl ?_
          refine xq_iaddN dX8_hatsOf_31 ?_
          refine xq_istore_n dX8_hatsOf_32 rfl rfl ?_
          refine xq_iincN dX8_hatsOf_33 ic1 rfl rfl ?_
          refine xq_goto dX8_hatsOf_36 rfl ?_
          exact ih (i + 1) (m + 1) (by omega) (by omega) (by rw [ct_t (by simpa using h23), hm])
  refine vq_ev (vq_intro (by decide) (by exact Nat.le_of_ble_eq_true rfl) rfl ?_)
  refine xq_iconst dX8_hatsOf_0 ic0 ?_
  refine xq_istore_n dX8_hatsOf_1 rfl rfl ?_
  refine xq_iconst dX8_hatsOf_2 ic0 ?_
  refine xq_istore_n dX8_hatsOf_3 rfl rfl ?_
  exact lp (tNp T + 1) 0 0 (by omega) (by omega) rfl
end PK
