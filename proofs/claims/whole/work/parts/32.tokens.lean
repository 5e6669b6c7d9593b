/-! ===== Text.clear, Tokens ===== -/
section TK
variable {S : xS} {H H1 : xH} {t k p q f i j l m n c : Nat} {T : uTx}
/-- a text that says nothing yet -/
def tx0 : uTx := (fun _ _ => 0, fun _ _ => 0)
theorem c_clear (ht : gTx S t) (ht24 : 24 ≤ t) (ht45 : t ≤ 45) : Nv mX8_clear 0 [.ref t] S H (fun H' => TxP H' t tx0 ∧ hI H' (t + 7) 4 = nI 0 ∧ Off (fun q => t ≤ q ∧ q < t + 21) H H') := by
  have lp : ∀ (fz : Nat) (i : Nat) (H1 : xH), 6 - i < fz → i ≤ 6 → (hI H1 (t + 1) 1 = nI 0 ∧ hI H1 (t + 3) 1 = nI 0 ∧ hI H1 (t + 5) 1 = nI 0 ∧ hI H1 (t + 7) 3 = nI 0 ∧ hI H1 (t + 7) 4 = nI 0 ∧ hI H1 t 9 = nI 0 ∧ hI H1 t 12 = nI 0 ∧ hI H1 t 16 = -1 ∧ hI H1 t 17 = -1 ∧ hI H1 t 18 = nI 0) → (∀ k, k < i → hI H1 (t + 13) k = nI 0) → Off (fun q => t ≤ q ∧ q < t + 21) H H1 → Xq mX8_clear 0 0 0 67 [some (.ref t), some (vN i)] [] S H1 (fun R => ∃ H', (fun H' => TxP H' t tx0 ∧ hI H' (t + 7) 4 = nI 0 ∧ Off (fun q => t ≤ q ∧ q < t + 21) H H') H' ∧ R = (none, S, H')) := by
    intro fz
    induction fz with
    | zero => intro i  H1  hfz; exact absurd hfz (by omega)
    | succ fz ih =>
      intro i  H1  hfz hi hf hs ho
      refine xq_iload_n dX8_clear_67 rfl rfl ?_
      refine xq_bipush dX8_clear_68 bp6 ?_
      refine xq_icmp_geN dX8_clear_70 rfl (by omega) (by omega) ⟨fun h70 => ?_, fun h70 => ?_⟩
      · skip
        refine xq_aload_n dX8_clear_86 rfl rfl ?_
        refine xq_getF clX8 (by decide) rfl fl_RX8_62 dX8_clear_87 (Tx.s0 ht) (Tx.r15 ht) ?_
        refine xq_iconst dX8_clear_90 ic0 ?_
        refine xq_lconst dX8_clear_91 lc0 ?_
        refine xq_lastN dX8_clear_92 (Tx.s20 ht) (by omega) (by decide) ?_
        refine xq_aload_n dX8_clear_93 rfl rfl ?_
        refine xq_getF clX8 (by decide) rfl fl_RX8_62 dX8_clear_94 (Tx.s0 ht) (Tx.r15 ht) ?_
        refine xq_iconst dX8_clear_97 ic1 ?_
        refine xq_lconst dX8_clear_98 lc0 ?_
        refine xq_lastN dX8_clear_99 (Tx.s20 ht) (by omega) (by decide) ?_
        refine xq_vret dX8_clear_100 rfl ?_
        obtain ⟨f1, f2, f3, f4, f5, f6, f7, f8, f9, f10⟩ := hf
        refine ⟨sL (sL H1 (t + 20) 0 0) (t + 20) 1 0, ⟨⟨f1, f2, f3, f4, fun k hk => absurd hk (Nat.not_lt_zero k), fun k hk => absurd hk (Nat.not_lt_zero k), fun k hk => absurd hk (Nat.not_lt_zero k), fun k hk => hs k (by omega), fun k hk => absurd hk (Nat.not_lt_zero k), f6, fun k hk => absurd hk (Nat.not_lt_zero k), f7, fun k hk => absurd hk (Nat.not_lt_zero k), fun k hk => ⟨?_, fun e => absurd rfl e⟩, f8, f9, f10⟩, f5, Off.pL (A := fun q => t ≤ q ∧ q < t + 21) (Off.pL (A := fun q => t ≤ q ∧ q < t + 21) ho (by omega) _ _) (by omega) _ _⟩, rfl⟩
        show hL (sL (sL H1 (t + 20) 0 0) (t + 20) 1 0) (t + 20) k = 0
        rcases (by omega : k = 0 ∨ k = 1) with e | e <;> subst e <;> simp [hL_sL]
      · skip
        refine xq_aload_n dX8_clear_73 rfl rfl ?_
        refine xq_getF clX8 (by decide) rfl fl_RX8_40 dX8_clear_74 (Tx.s0 ht) (Tx.r6 ht) ?_
        refine xq_iload_n dX8_clear_77 rfl rfl ?_
        refine xq_iconst dX8_clear_78 ic0 ?_
        refine xq_iastN dX8_clear_79 (Tx.s13 ht) (by omega) (by decide) ?_
        refine xq_iincN dX8_clear_80 ic1 rfl rfl ?_
        refine xq_goto dX8_clear_83 rfl ?_
        refine ih (i + 1) _ (by omega) (by omega) ?_ (fun k hk => ?_) (Off.pI (A := fun q => t ≤ q ∧ q < t + 21) ho (by omega) _ _)
        · simp only [hI_sI]; simpa using hf
        · rw [hI_sI]
          by_cases e : k = i
          · rw [if_pos ⟨rfl, e⟩]
          · rw [if_neg (fun z => e z.2)]; exact hs k (by omega)
  refine vq_intro (by decide) (by exact Nat.le_of_ble_eq_true rfl) rfl ?_
  refine xq_aload_n dX8_clear_0 rfl rfl ?_
  refine xq_getF clX8 (by decide) rfl fl_RX8_14 dX8_clear_1 (Tx.s0 ht) (Tx.r0 ht) ?_
  refine xq_iconst dX8_clear_4 ic0 ?_
  refine xq_putI clX5 (by decide) rfl fl_RX8_72 (Or.inl rfl) dX8_clear_5 ⟨rfl, rfl⟩ (Nm.s0 (Tx.n1 ht)) ?_
  refine xq_aload_n dX8_clear_8 rfl rfl ?_
  refine xq_getF clX8 (by decide) rfl fl_RX8_20 dX8_clear_9 (Tx.s0 ht) (Tx.r1 ht) ?_
  refine xq_iconst dX8_clear_12 ic0 ?_
  refine xq_putI clX5 (by decide) rfl fl_RX8_72 (Or.inl rfl) dX8_clear_13 ⟨rfl, rfl⟩ (Nm.s0 (Tx.n3 ht)) ?_
  refine xq_aload_n dX8_clear_16 rfl rfl ?_
  refine xq_getF clX8 (by decide) rfl fl_RX8_23 dX8_clear_17 (Tx.s0 ht) (Tx.r2 ht) ?_
  refine xq_iconst dX8_clear_20 ic0 ?_
  refine xq_putI clX5 (by decide) rfl fl_RX8_72 (Or.inl rfl) dX8_clear_21 ⟨rfl, rfl⟩ (Nm.s0 (Tx.n5 ht)) ?_
  refine xq_aload_n dX8_clear_24 rfl rfl ?_
  refine xq_getF clX8 (by decide) rfl fl_RX8_29 dX8_clear_25 (Tx.s0 ht) (Tx.r3 ht) ?_
  refine xq_iconst dX8_clear_28 ic0 ?_
  refine xq_putI clX2 (by decide) rfl fl_RX8_75 (Or.inl rfl) dX8_clear_29 ⟨rfl, rfl⟩ (Kn.s0 (Tx.n7 ht)) ?_
  refine xq_aload_n dX8_clear_32 rfl rfl ?_
  refine xq_getF clX8 (by decide) rfl fl_RX8_29 dX8_clear_33 (Tx.s0 ht) (Tx.r3 ht) ?_
  refine xq_iconst dX8_clear_36 ic0 ?_
  refine xq_putI clX2 (by decide) rfl fl_RX8_76 (Or.inl rfl) dX8_clear_37 ⟨rfl, rfl⟩ (Kn.s0 (Tx.n7 ht)) ?_
  refine xq_aload_n dX8_clear_40 rfl rfl ?_
  refine xq_iconst dX8_clear_41 ic0 ?_
  refine xq_putI clX8 (by decide) rfl fl_RX8_79 (Or.inl rfl) dX8_clear_42 ⟨rfl, rfl⟩ (Tx.s0 ht) ?_
  refine xq_aload_n dX8_clear_45 rfl rfl ?_
  refine xq_iconst dX8_clear_46 ic0 ?_
  refine xq_putI clX8 (by decide) rfl fl_RX8_82 (Or.inl rfl) dX8_clear_47 ⟨rfl, rfl⟩ (Tx.s0 ht) ?_
  refine xq_aload_n dX8_clear_50 rfl rfl ?_
  refine xq_iconst dX8_clear_51 icm1 ?_
  refine xq_putI clX8 (by decide) rfl fl_RX8_65 (Or.inl rfl) dX8_clear_52 ⟨rfl, rfl⟩ (Tx.s0 ht) ?_
  refine xq_aload_n dX8_clear_55 rfl rfl ?_
  refine xq_iconst dX8_clear_56 icm1 ?_
  refine xq_putI clX8 (by decide) rfl fl_RX8_69 (Or.inl rfl) dX8_clear_57 ⟨rfl, rfl⟩ (Tx.s0 ht) ?_
  refine xq_aload_n dX8_clear_60 rfl rfl ?_
  refine xq_iconst dX8_clear_61 ic0 ?_
  refine xq_putI clX8 (by decide) rfl fl_RX8_85 (Or.inl rfl) dX8_clear_62 ⟨rfl, rfl⟩ (Tx.s0 ht) ?_
  refine xq_iconst dX8_clear_65 ic0 ?_
  refine xq_istore_n dX8_clear_66 rfl rfl ?_
  exact xq_fgt (lp 7 0 _ (by omega) (by omega) (by simp [hI_sI]) (fun k hk => absurd hk (Nat.not_lt_zero k)) (Off.pI (A := fun q => t ≤ q ∧ q < t + 21) (Off.pI (A := fun q => t ≤ q ∧ q < t + 21) (Off.pI (A := fun q => t ≤ q ∧ q < t + 21) (Off.pI (A := fun q => t ≤ q ∧ q < t + 21) (Off.pI (A := fun q => t ≤ q ∧ q < t + 21) (Off.pI (A := fun q => t ≤ q ∧ q < t + 21) (Off.pI (A := fun q => t ≤ q ∧ q < t + 21) (Off.pI (A := fun q => t ≤ q ∧ q < t + 21) (Off.pI (A := fun q => t ≤ q ∧ q < t + 21) (Off.pI (A := fun q => t ≤ q ∧ q < t + 21) Off.rf (by omega) _ _) (by omega) _ _) (by omega) _ _) (by omega) _ _) (by omega) _ _) (by omega) _ _) (by omega) _ _) (by omega) _ _) (by omega) _ _) (by omega) _ _)) (by exact And.intro rfl (And.intro rfl (trivial)))
/-- the tokens: how many, letters of the last name, kinds, places, values -/
abbrev uTk : Type := Nat × Nat × (Nat → Nat) × (Nat → Nat) × (Nat → Nat)
abbrev kSz (s : uTk) : Nat := s.1
abbrev kLt (s : uTk) : Nat := s.2.1
abbrev kKd (s : uTk) : Nat → Nat := s.2.2.1
abbrev kPl (s : uTk) : Nat → Nat := s.2.2.2.1
abbrev kVl (s : uTk) : Nat → Nat := s.2.2.2.2
def uup (f : Nat → Nat) (j v : Nat) : Nat → Nat := fun i => if i = j then v else f i
def TkP (H : xH) (s : uTk) : Prop := hI H 2 4 = nI (kSz s) ∧ hI H 2 6 = nI (kLt s) ∧ ∀ j, j < kSz s → hI H 4 j = nI (kKd s j) ∧ hI H 5 j = nI (kPl s j) ∧ hI H 6 j = nI (kVl s j)
variable {s s2 : uTk}
theorem TkP.kd (h : TkP H s) (v : Nat) : TkP (sI H 4 j (nI v)) (kSz s, kLt s, uup (kKd s) j v, kPl s, kVl s) := by
  refine ⟨by rw [hI_sI, if_neg (by omega)]; exact h.1, by rw [hI_sI, if_neg (by omega)]; exact h.2.1, fun i hi => ⟨?_, ?_, ?_⟩⟩
  · show _ = nI (if i = j then v else _)
    rw [hI_sI]
    by_cases e : i = j
    · rw [if_pos ⟨rfl, e⟩, if_pos e]
    · rw [if_neg (fun z => e z.2), if_neg e]; exact (h.2.2 i hi).1
  · rw [hI_sI, if_neg (by omega)]; exact (h.2.2 i hi).2.1
  · rw [hI_sI, if_neg (by omega)]; exact (h.2.2 i hi).2.2
theorem TkP.vl (h : TkP H s) (v : Nat) : TkP (sI H 6 j (nI v)) (kSz s, kLt s, kKd s, kPl s, uup (kVl s) j v) := by
  refine ⟨by rw [hI_sI, if_neg (by omega)]; exact h.1, by rw [hI_sI, if_neg (by omega)]; exact h.2.1, fun i hi => ⟨?_, ?_, ?_⟩⟩
  · rw [hI_sI, if_neg (by omega)]; exact (h.2.2 i hi).1
  · rw [hI_sI, if_neg (by omega)]; exact (h.2.2 i hi).2.1
  · show _ = nI (if i = j then v else _)
    rw [hI_sI]
    by_cases e : i = j
    · rw [if_pos ⟨rfl, e⟩, if_pos e]
    · rw [if_neg (fun z => e z.2), if_neg e]; exact (h.2.2 i hi).2.2
theorem TkP.lt (h : TkP H s) (v : Nat) : TkP (sI H 2 6 (nI v)) (kSz s, v, kKd s, kPl s, kVl s) := by
  refine ⟨by rw [hI_sI, if_neg (by omega)]; exact h.1, by rw [hI_sI, if_pos ⟨rfl, rfl⟩], fun i hi => ⟨?_, ?_, ?_⟩⟩
  · rw [hI_sI, if_neg (by omega)]; exact (h.2.2 i hi).1
  · rw [hI_sI, if_neg (by omega)]; exact (h.2.2 i hi).2.1
  · rw [hI_sI, if_neg (by omega)]; exact (h.2.2 i hi).2.2
def kBeg (k p : Nat) (s : uTk) : uTk := (kSz s + 1, kLt s, uup (kKd s) (kSz s) k, uup (kPl s) (kSz s) p, uup (kVl s) (kSz s) 0)
/-- after a step of the scan: the tokens, and what else it leaves -/
def TkQ (H H' : xH) (s : uTk) : Prop := TkP H' s ∧ (∀ k, k ≠ 4 → k ≠ 6 → hI H' 2 k = hI H 2 k) ∧ Off (fun q => q = 2 ∨ (4 ≤ q ∧ q < 7)) H H'
theorem TkQ.tr {H2 : xH} (h : TkQ H H1 s) (h2 : TkQ H1 H2 s2) : TkQ H H2 s2 := ⟨h2.1, fun k a b => (h2.2.1 k a b).trans (h.2.1 k a b), h.2.2.tr h2.2.2⟩
theorem TkQ.kd (h : TkQ H H1 s) (v : Nat) : TkQ H (sI H1 4 j (nI v)) (kSz s, kLt s, uup (kKd s) j v, kPl s, kVl s) := ⟨h.1.kd v, fun k a b => by rw [hI_sI, if_neg (by omega)]; exact h.2.1 k a b, Off.pI h.2.2 (Or.inr (by omega)) _ _⟩
theorem TkQ.vl (h : TkQ H H1 s) (v : Nat) : TkQ H (sI H1 6 j (nI v)) (kSz s, kLt s, kKd s, kPl s, uup (kVl s) j v) := ⟨h.1.vl v, fun k a b => by rw [hI_sI, if_neg (by omega)]; exact h.2.1 k a b, Off.pI h.2.2 (Or.inr (by omega)) _ _⟩
theorem TkQ.lt (h : TkQ H H1 s) (v : Nat) : TkQ H (sI H1 2 6 (nI v)) (kSz s, v, kKd s, kPl s, kVl s) := ⟨h.1.lt v, fun k a b => by rw [hI_sI, if_neg (by omega)]; exact h.2.1 k a b, Off.pI h.2.2 (Or.inl rfl) _ _⟩
theorem TkP.tq (h : TkP H s) : TkQ H H s := ⟨h, fun _ _ _ => rfl, Off.rf⟩
theorem c_beginT (hF : gFx S) (hs : TkP H s) (hz : kSz s < 701) : Nv mX9_begin 0 [.ref 2, vN k, vN p] S H (fun H' => TkQ H H' (kBeg k p s)) := by
  refine vq_intro (by decide) (by exact Nat.le_of_ble_eq_true rfl) rfl ?_
  refine xq_aload_n dX9_begin_0 rfl rfl ?_
  refine xq_getIE clX9 (by decide) rfl fl_RX9_40 dX9_begin_1 (Fx.s2 hF) hs.1 ?_
  refine xq_aload_n dX9_begin_4 rfl rfl ?_
  refine xq_getF clX9 (by decide) rfl fl_RX9_15 dX9_begin_5 (Fx.s2 hF) (Fx.r2_1 hF) ?_
  refine xq_alen (v := nI 701) dX9_begin_8 (Fx.s4 hF) (by decide) rfl ?_
  refine xq_icmp_geN dX9_begin_9 rfl (by omega) (by omega) ⟨fun h9 => ?_, fun h9 => ?_⟩
  · skip
    exact absurd h9 (by omega)
  · skip
    refine xq_aload_n dX9_begin_12 rfl rfl ?_
    refine xq_getF clX9 (by decide) rfl fl_RX9_15 dX9_begin_13 (Fx.s2 hF) (Fx.r2_1 hF) ?_
    refine xq_aload_n dX9_begin_16 rfl rfl ?_
    refine xq_getIE clX9 (by decide) rfl fl_RX9_40 dX9_begin_17 (Fx.s2 hF) hs.1 ?_
    refine xq_iload_n dX9_begin_20 rfl rfl ?_
    refine xq_iastN dX9_begin_21 (Fx.s4 hF) (by omega) (by decide) ?_
    refine xq_aload_n dX9_begin_22 rfl rfl ?_
    refine xq_getF clX9 (by decide) rfl fl_RX9_18 dX9_begin_23 (Fx.s2 hF) (Fx.r2_2 hF) ?_
    refine xq_aload_n dX9_begin_26 rfl rfl ?_
    refine xq_getIE clX9 (by decide) rfl fl_RX9_40 dX9_begin_27 (Fx.s2 hF) hs.1 ?_
    refine xq_iload_n dX9_begin_30 rfl rfl ?_
    refine xq_iastN dX9_begin_31 (Fx.s5 hF) (by omega) (by decide) ?_
    refine xq_aload_n dX9_begin_32 rfl rfl ?_
    refine xq_getF clX9 (by decide) rfl fl_RX9_21 dX9_begin_33 (Fx.s2 hF) (Fx.r2_3 hF) ?_
    refine xq_aload_n dX9_begin_36 rfl rfl ?_
    refine xq_getIE clX9 (by decide) rfl fl_RX9_40 dX9_begin_37 (Fx.s2 hF) hs.1 ?_
    refine xq_iconst dX9_begin_40 ic0 ?_
    refine xq_iastN dX9_begin_41 (Fx.s6 hF) (by omega) (by decide) ?_
    refine xq_aload_n dX9_begin_42 rfl rfl ?_
    refine xq_dup dX9_begin_43 rfl ?_
    refine xq_getIE clX9 (by decide) rfl fl_RX9_40 dX9_begin_44 (Fx.s2 hF) hs.1 ?_
    refine xq_iconst dX9_begin_47 ic1 ?_
    refine xq_iaddN dX9_begin_48 ?_
    refine xq_putI clX9 (by decide) rfl fl_RX9_40 (Or.inl rfl) dX9_begin_49 ⟨rfl, rfl⟩ (Fx.s2 hF) ?_
    refine xq_vret dX9_begin_52 rfl ?_
    refine ⟨_, ⟨⟨by simp [hI_sI, kBeg], by simp [hI_sI]; exact hs.2.1, fun j hj => ?_⟩, fun k a b => by simp only [hI_sI]; simp [a], Off.pI (Off.pI (Off.pI (Off.pI Off.rf (by omega) _ _) (by omega) _ _) (by omega) _ _) (by omega) _ _⟩, rfl⟩
    have hj : j < kSz s + 1 := hj
    show _ = nI (if j = kSz s then k else kKd s j) ∧ _ = nI (if j = kSz s then p else kPl s j) ∧ _ = nI (if j = kSz s then 0 else kVl s j)
    simp only [hI_sI]
    by_cases e : j = kSz s
    · simp [e]
    · have := hs.2.2 j (by omega)
      simp [e, this]
def kLe (c : Nat) (s : uTk) : uTk := if kLt s + 1 ≤ 6 then (kSz s, kLt s + 1, kKd s, kPl s, uup (kVl s) (kSz s - 1) (kVl s (kSz s - 1) ||| c <<< (30 - 5 * (kLt s + 1)))) else (kSz s, kLt s + 1, uup (kKd s) (kSz s - 1) 43, kPl s, kVl s)
def kL0 (p : Nat) (s : uTk) : uTk := (kSz s + 1, 0, kKd (kBeg 39 p s), kPl (kBeg 39 p s), kVl (kBeg 39 p s))
def kDi (d : Nat) (s : uTk) : uTk := (kSz s, kLt s, kKd s, kPl s, uup (kVl s) (kSz s - 1) (min (kVl s (kSz s - 1) * 10 + d) 1000000))
theorem c_addLetter0 (hF : gFx S) (hs : TkP H s) (hc : c < 32) (hz : kSz s < 701) : Nv mX9_addLetter 1 [.ref 2, vN c, vN p, vN 0] S H (fun H' => TkQ H H' (kLe c (kL0 p s))) := by
  have lp : ∀ (fz : Nat) (H1 : xH) (s2 : uTk), 0 < fz → TkQ H H1 s2 → 0 < kSz s2 → kSz s2 ≤ 701 → kLt s2 ≤ 700 → Xq mX9_addLetter 1 0 0 16 [some (.ref 2), some (vN c), some (vN p), some (vN 0)] [] S H1 (fun R => ∃ H', (fun H' => TkQ H H' (kLe c s2)) H' ∧ R = (none, S, H')) := by
    intro fz
    induction fz with
    | zero => intro H1  s2  hfz; exact absurd hfz (by omega)
    | succ fz ih =>
      intro H1  s2  hfz hq h0 h1 h2
      refine xq_aload_n dX9_addLetter_16 rfl rfl ?_
      refine xq_dup dX9_addLetter_17 rfl ?_
      refine xq_getIE clX9 (by decide) rfl fl_RX9_66 dX9_addLetter_18 (Fx.s2 hF) hq.1.2.1 ?_
      refine xq_iconst dX9_addLetter_21 ic1 ?_
      refine xq_iaddN dX9_addLetter_22 ?_
      refine xq_putI clX9 (by decide) rfl fl_RX9_66 (Or.inl rfl) dX9_addLetter_23 ⟨rfl, rfl⟩ (Fx.s2 hF) ?_
      refine xq_aload_n dX9_addLetter_26 rfl rfl ?_
      refine xq_getIE (v := nI (kSz s2)) clX9 (by decide) rfl fl_RX9_40 dX9_addLetter_27 (Fx.s2 hF) (hq.1.lt (kLt s2 + 1)).1 ?_
      refine xq_if_leN dX9_addLetter_30 rfl (by omega) ⟨fun h30 => ?_, fun h30 => ?_⟩
      · skip
        exact absurd h30 (by omega)
      · skip
        refine xq_aload_n dX9_addLetter_33 rfl rfl ?_
        refine xq_getIE (v := nI (kLt s2 + 1)) clX9 (by decide) rfl fl_RX9_66 dX9_addLetter_34 (Fx.s2 hF) (hq.1.lt (kLt s2 + 1)).2.1 ?_
        refine xq_bipush dX9_addLetter_37 bp6 ?_
        refine xq_icmp_gtN dX9_addLetter_39 rfl (by omega) (by omega) ⟨fun h39 => ?_, fun h39 => ?_⟩
        · skip
          refine xq_aload_n dX9_addLetter_70 rfl rfl ?_
          refine xq_getIE (v := nI (kSz s2)) clX9 (by decide) rfl fl_RX9_40 dX9_addLetter_71 (Fx.s2 hF) (hq.1.lt (kLt s2 + 1)).1 ?_
          refine xq_if_leN dX9_addLetter_74 rfl (by omega) ⟨fun h74 => ?_, fun h74 => ?_⟩
          · skip
            exact absurd h74 (by omega)
          · skip
            refine xq_aload_n dX9_addLetter_77 rfl rfl ?_
            refine xq_getF clX9 (by decide) rfl fl_RX9_15 dX9_addLetter_78 (Fx.s2 hF) (Fx.r2_1 hF) ?_
            refine xq_aload_n dX9_addLetter_81 rfl rfl ?_
            refine xq_getIE (v := nI (kSz s2)) clX9 (by decide) rfl fl_RX9_40 dX9_addLetter_82 (Fx.s2 hF) (hq.1.lt (kLt s2 + 1)).1 ?_
            refine xq_iconst dX9_addLetter_85 ic1 ?_
            refine xq_isubN dX9_addLetter_86 (by omega) ?_
            refine xq_bipush dX9_addLetter_87 bp43 ?_
            refine xq_iastN dX9_addLetter_89 (Fx.s4 hF) (by omega) (by decide) ?_
            refine xq_vret dX9_addLetter_90 rfl ?_
            have e : kLe c s2 = (kSz s2, kLt s2 + 1, uup (kKd s2) (kSz s2 - 1) 43, kPl s2, kVl s2) := if_neg (by omega)
            rw [e]
            exact ⟨_, (hq.lt (kLt s2 + 1)).kd 43, rfl⟩
        · skip
          refine xq_aload_n dX9_addLetter_42 rfl rfl ?_
          refine xq_getF clX9 (by decide) rfl fl_RX9_21 dX9_addLetter_43 (Fx.s2 hF) (Fx.r2_3 hF) ?_
          refine xq_aload_n dX9_addLetter_46 rfl rfl ?_
          refine xq_getIE (v := nI (kSz s2)) clX9 (by decide) rfl fl_RX9_40 dX9_addLetter_47 (Fx.s2 hF) (hq.1.lt (kLt s2 + 1)).1 ?_
          refine xq_iconst dX9_addLetter_50 ic1 ?_
          refine xq_isubN dX9_addLetter_51 (by omega) ?_
          refine xq_dup2 dX9_addLetter_52 rfl rfl ?_
          refine xq_ialdN dX9_addLetter_53 (Fx.s6 hF) (by omega) (by decide) (((hq.1.lt (kLt s2 + 1)).2.2 (kSz s2 - 1) (Nat.sub_lt h0 Nat.one_pos)).2.2) ?_
          refine xq_iload_n dX9_addLetter_54 rfl rfl ?_
          refine xq_bipush dX9_addLetter_55 bp30 ?_
          refine xq_iconst dX9_addLetter_57 ic5 ?_
          refine xq_aload_n dX9_addLetter_58 rfl rfl ?_
          refine xq_getIE (v := nI (kLt s2 + 1)) clX9 (by decide) rfl fl_RX9_66 dX9_addLetter_59 (Fx.s2 hF) (hq.1.lt (kLt s2 + 1)).2.1 ?_
          refine xq_imulN dX9_addLetter_62 ?_
          refine xq_isubN dX9_addLetter_63 (by omega) ?_
          refine xq_ishlN dX9_addLetter_64 (by omega) ?_
          refine xq_iorN dX9_addLetter_65 ?_
          refine xq_iastN dX9_addLetter_66 (Fx.s6 hF) (by omega) (by decide) ?_
          refine xq_goto dX9_addLetter_67 rfl ?_
          refine xq_vret dX9_addLetter_90 rfl ?_
          have e : kLe c s2 = (kSz s2, kLt s2 + 1, kKd s2, kPl s2, uup (kVl s2) (kSz s2 - 1) (kVl s2 (kSz s2 - 1) ||| c <<< (30 - 5 * (kLt s2 + 1)))) := if_pos (by omega)
          rw [e]
          exact ⟨_, (hq.lt (kLt s2 + 1)).vl _, rfl⟩
  refine vq_intro (by decide) (by exact Nat.le_of_ble_eq_true rfl) rfl ?_
  refine xq_iload_n dX9_addLetter_0 rfl rfl ?_
  refine xq_if_neN dX9_addLetter_1 rfl (by omega) ⟨fun h1 => ?_, fun h1 => ?_⟩
  · skip
    exact absurd h1 (by omega)
  · skip
    refine xq_aload_n dX9_addLetter_4 rfl rfl ?_
    refine xq_bipush dX9_addLetter_5 bp39 ?_
    refine xq_iload_n dX9_addLetter_7 rfl rfl ?_
    refine xq_callV2N clX9 gd_X9_begin dX9_addLetter_8 ml_RX9_60 im_X9_begin se_X9_begin rfl (Fx.s2 hF) (by exact Nat.le_of_ble_eq_true rfl) (by decide) (c_beginT hF hs hz) ?_
    intro H8 p8
    refine xq_aload_n dX9_addLetter_11 rfl rfl ?_
    refine xq_iconst dX9_addLetter_12 ic0 ?_
    refine xq_putI clX9 (by decide) rfl fl_RX9_66 (Or.inl rfl) dX9_addLetter_13 ⟨rfl, rfl⟩ (Fx.s2 hF) ?_
    exact lp 1 _ (kL0 p s) (by omega) (p8.lt 0) (by show 0 < kSz s + 1; omega) (by show kSz s + 1 ≤ 701; omega) (by show 0 ≤ 700; omega)
theorem c_addLetter1 (hF : gFx S) (hs : TkP H s) (hc : c < 32) (hl : kLt s ≤ 700) (hz : kSz s ≤ 701) (h0 : 0 < kSz s) : Nv mX9_addLetter 1 [.ref 2, vN c, vN p, vN 1] S H (fun H' => TkQ H H' (kLe c s)) := by
  have lp : ∀ (fz : Nat) (H1 : xH) (s2 : uTk), 0 < fz → TkQ H H1 s2 → 0 < kSz s2 → kSz s2 ≤ 701 → kLt s2 ≤ 700 → Xq mX9_addLetter 1 0 0 16 [some (.ref 2), some (vN c), some (vN p), some (vN 1)] [] S H1 (fun R => ∃ H', (fun H' => TkQ H H' (kLe c s2)) H' ∧ R = (none, S, H')) := by
    intro fz
    induction fz with
    | zero => intro H1  s2  hfz; exact absurd hfz (by omega)
    | succ fz ih =>
      intro H1  s2  hfz hq h0 h1 h2
      refine xq_aload_n dX9_addLetter_16 rfl rfl ?_
      refine xq_dup dX9_addLetter_17 rfl ?_
      refine xq_getIE clX9 (by decide) rfl fl_RX9_66 dX9_addLetter_18 (Fx.s2 hF) hq.1.2.1 ?_
      refine xq_iconst dX9_addLetter_21 ic1 ?_
      refine xq_iaddN dX9_addLetter_22 ?_
      refine xq_putI clX9 (by decide) rfl fl_RX9_66 (Or.inl rfl) dX9_addLetter_23 ⟨rfl, rfl⟩ (Fx.s2 hF) ?_
      refine xq_aload_n dX9_addLetter_26 rfl rfl ?_
      refine xq_getIE (v := nI (kSz s2)) clX9 (by decide) rfl fl_RX9_40 dX9_addLetter_27 (Fx.s2 hF) (hq.1.lt (kLt s2 + 1)).1 ?_
      refine xq_if_leN dX9_addLetter_30 rfl (by omega) ⟨fun h30 => ?_, fun h30 => ?_⟩
      · skip
        exact absurd h30 (by omega)
      · skip
        refine xq_aload_n dX9_addLetter_33 rfl rfl ?_
        refine xq_getIE (v := nI (kLt s2 + 1)) clX9 (by decide) rfl fl_RX9_66 dX9_addLetter_34 (Fx.s2 hF) (hq.1.lt (kLt s2 + 1)).2.1 ?_
        refine xq_bipush dX9_addLetter_37 bp6 ?_
        refine xq_icmp_gtN dX9_addLetter_39 rfl (by omega) (by omega) ⟨fun h39 => ?_, fun h39 => ?_⟩
        · skip
          refine xq_aload_n dX9_addLetter_70 rfl rfl ?_
          refine xq_getIE (v := nI (kSz s2)) clX9 (by decide) rfl fl_RX9_40 dX9_addLetter_71 (Fx.s2 hF) (hq.1.lt (kLt s2 + 1)).1 ?_
          refine xq_if_leN dX9_addLetter_74 rfl (by omega) ⟨fun h74 => ?_, fun h74 => ?_⟩
          · skip
            exact absurd h74 (by omega)
          · skip
            refine xq_aload_n dX9_addLetter_77 rfl rfl ?_
            refine xq_getF clX9 (by decide) rfl fl_RX9_15 dX9_addLetter_78 (Fx.s2 hF) (Fx.r2_1 hF) ?_
            refine xq_aload_n dX9_addLetter_81 rfl rfl ?_
            refine xq_getIE (v := nI (kSz s2)) clX9 (by decide) rfl fl_RX9_40 dX9_addLetter_82 (Fx.s2 hF) (hq.1.lt (kLt s2 + 1)).1 ?_
            refine xq_iconst dX9_addLetter_85 ic1 ?_
            refine xq_isubN dX9_addLetter_86 (by omega) ?_
            refine xq_bipush dX9_addLetter_87 bp43 ?_
            refine xq_iastN dX9_addLetter_89 (Fx.s4 hF) (by omega) (by decide) ?_
            refine xq_vret dX9_addLetter_90 rfl ?_
            have e : kLe c s2 = (kSz s2, kLt s2 + 1, uup (kKd s2) (kSz s2 - 1) 43, kPl s2, kVl s2) := if_neg (by omega)
            rw [e]
            exact ⟨_, (hq.lt (kLt s2 + 1)).kd 43, rfl⟩
        · skip
          refine xq_aload_n dX9_addLetter_42 rfl rfl ?_
          refine xq_getF clX9 (by decide) rfl fl_RX9_21 dX9_addLetter_43 (Fx.s2 hF) (Fx.r2_3 hF) ?_
          refine xq_aload_n dX9_addLetter_46 rfl rfl ?_
          refine xq_getIE (v := nI (kSz s2)) clX9 (by decide) rfl fl_RX9_40 dX9_addLetter_47 (Fx.s2 hF) (hq.1.lt (kLt s2 + 1)).1 ?_
          refine xq_iconst dX9_addLetter_50 ic1 ?_
          refine xq_isubN dX9_addLetter_51 (by omega) ?_
          refine xq_dup2 dX9_addLetter_52 rfl rfl ?_
          refine xq_ialdN dX9_addLetter_53 (Fx.s6 hF) (by omega) (by decide) (((hq.1.lt (kLt s2 + 1)).2.2 (kSz s2 - 1) (Nat.sub_lt h0 Nat.one_pos)).2.2) ?_
          refine xq_iload_n dX9_addLetter_54 rfl rfl ?_
          refine xq_bipush dX9_addLetter_55 bp30 ?_
          refine xq_iconst dX9_addLetter_57 ic5 ?_
          refine xq_aload_n dX9_addLetter_58 rfl rfl ?_
          refine xq_getIE (v := nI (kLt s2 + 1)) clX9 (by decide) rfl fl_RX9_66 dX9_addLetter_59 (Fx.s2 hF) (hq.1.lt (kLt s2 + 1)).2.1 ?_
          refine xq_imulN dX9_addLetter_62 ?_
          refine xq_isubN dX9_addLetter_63 (by omega) ?_
          refine xq_ishlN dX9_addLetter_64 (by omega) ?_
          refine xq_iorN dX9_addLetter_65 ?_
          refine xq_iastN dX9_addLetter_66 (Fx.s6 hF) (by omega) (by decide) ?_
          refine xq_goto dX9_addLetter_67 rfl ?_
          refine xq_vret dX9_addLetter_90 rfl ?_
          have e : kLe c s2 = (kSz s2, kLt s2 + 1, kKd s2, kPl s2, uup (kVl s2) (kSz s2 - 1) (kVl s2 (kSz s2 - 1) ||| c <<< (30 - 5 * (kLt s2 + 1)))) := if_pos (by omega)
          rw [e]
          exact ⟨_, (hq.lt (kLt s2 + 1)).vl _, rfl⟩
  refine vq_intro (by decide) (by exact Nat.le_of_ble_eq_true rfl) rfl ?_
  refine xq_iload_n dX9_addLetter_0 rfl rfl ?_
  refine xq_if_neN dX9_addLetter_1 rfl (by omega) ⟨fun h1 => ?_, fun h1 => ?_⟩
  · skip
    exact lp 1 _ s (by omega) hs.tq h0 hz hl
  · skip
    exact absurd h1 (by omega)
theorem c_addDigit0 (hF : gFx S) (hs : TkP H s) (hi : i < 10) (hz : kSz s < 701) : Nv mX9_addDigit 1 [.ref 2, vN i, vN p, vN 0] S H (fun H' => TkQ H H' (kDi i (kBeg 38 p s))) := by
  have lp : ∀ (fz : Nat) (H1 : xH) (s2 : uTk), 0 < fz → TkQ H H1 s2 → 0 < kSz s2 → kSz s2 ≤ 701 → kVl s2 (kSz s2 - 1) ≤ 1000000 → Xq mX9_addDigit 1 0 0 11 [some (.ref 2), some (vN i), some (vN p), some (vN 0)] [] S H1 (fun R => ∃ H', (fun H' => TkQ H H' (kDi i s2)) H' ∧ R = (none, S, H')) := by
    intro fz
    induction fz with
    | zero => intro H1  s2  hfz; exact absurd hfz (by omega)
    | succ fz ih =>
      intro H1  s2  hfz hq h0 h1 h2
      refine xq_aload_n dX9_addDigit_11 rfl rfl ?_
      refine xq_getIE clX9 (by decide) rfl fl_RX9_40 dX9_addDigit_12 (Fx.s2 hF) hq.1.1 ?_
      refine xq_if_leN dX9_addDigit_15 rfl (by omega) ⟨fun h15 => ?_, fun h15 => ?_⟩
      · skip
        exact absurd h15 (by omega)
      · skip
        refine xq_aload_n dX9_addDigit_18 rfl rfl ?_
        refine xq_getF clX9 (by decide) rfl fl_RX9_21 dX9_addDigit_19 (Fx.s2 hF) (Fx.r2_3 hF) ?_
        refine xq_aload_n dX9_addDigit_22 rfl rfl ?_
        refine xq_getIE clX9 (by decide) rfl fl_RX9_40 dX9_addDigit_23 (Fx.s2 hF) hq.1.1 ?_
        refine xq_iconst dX9_addDigit_26 ic1 ?_
        refine xq_isubN dX9_addDigit_27 (by omega) ?_
        refine xq_aload_n dX9_addDigit_28 rfl rfl ?_
        refine xq_getF clX9 (by decide) rfl fl_RX9_21 dX9_addDigit_29 (Fx.s2 hF) (Fx.r2_3 hF) ?_
        refine xq_aload_n dX9_addDigit_32 rfl rfl ?_
        refine xq_getIE clX9 (by decide) rfl fl_RX9_40 dX9_addDigit_33 (Fx.s2 hF) hq.1.1 ?_
        refine xq_iconst dX9_addDigit_36 ic1 ?_
        refine xq_isubN dX9_addDigit_37 (by omega) ?_
        refine xq_ialdN dX9_addDigit_38 (Fx.s6 hF) (by omega) (by decide) ((hq.1.2.2 (kSz s2 - 1) (Nat.sub_lt h0 Nat.one_pos)).2.2) ?_
        refine xq_bipush dX9_addDigit_39 bp10 ?_
        refine xq_imulN dX9_addDigit_41 ?_
        refine xq_iload_n dX9_addDigit_42 rfl rfl ?_
        refine xq_iaddN dX9_addDigit_43 ?_
        refine xq_ldc (v := nI 1000000) dX9_addDigit_44 kc_RX9_69 ?_
        refine xq_mminN dX9_addDigit_46 ml_RX9_70 (by exact Nat.le_of_ble_eq_true rfl) (by decide) (by omega) (by omega) ?_
        refine xq_iastN dX9_addDigit_49 (Fx.s6 hF) (by omega) (by decide) ?_
        refine xq_vret dX9_addDigit_50 rfl ?_
        exact ⟨_, hq.vl _, rfl⟩
  refine vq_intro (by decide) (by exact Nat.le_of_ble_eq_true rfl) rfl ?_
  refine xq_iload_n dX9_addDigit_0 rfl rfl ?_
  refine xq_if_neN dX9_addDigit_1 rfl (by omega) ⟨fun h1 => ?_, fun h1 => ?_⟩
  · skip
    exact absurd h1 (by omega)
  · skip
    refine xq_aload_n dX9_addDigit_4 rfl rfl ?_
    refine xq_bipush dX9_addDigit_5 bp38 ?_
    refine xq_iload_n dX9_addDigit_7 rfl rfl ?_
    refine xq_callV2N clX9 gd_X9_begin dX9_addDigit_8 ml_RX9_60 im_X9_begin se_X9_begin rfl (Fx.s2 hF) (by exact Nat.le_of_ble_eq_true rfl) (by decide) (c_beginT hF hs hz) ?_
    intro H8 p8
    exact lp 1 _ (kBeg 38 p s) (by omega) p8 (by show 0 < kSz s + 1; omega) (by show kSz s + 1 ≤ 701; omega) (by show (if kSz s + 1 - 1 = kSz s then 0 else _) ≤ 1000000; rw [if_pos (by omega)]; omega)
theorem c_addDigit1 (hF : gFx S) (hs : TkP H s) (hi : i < 10) (hz : kSz s ≤ 701) (h0 : 0 < kSz s) (h2 : kVl s (kSz s - 1) ≤ 1000000) : Nv mX9_addDigit 1 [.ref 2, vN i, vN p, vN 1] S H (fun H' => TkQ H H' (kDi i s)) := by
  have lp : ∀ (fz : Nat) (H1 : xH) (s2 : uTk), 0 < fz → TkQ H H1 s2 → 0 < kSz s2 → kSz s2 ≤ 701 → kVl s2 (kSz s2 - 1) ≤ 1000000 → Xq mX9_addDigit 1 0 0 11 [some (.ref 2), some (vN i), some (vN p), some (vN 1)] [] S H1 (fun R => ∃ H', (fun H' => TkQ H H' (kDi i s2)) H' ∧ R = (none, S, H')) := by
    intro fz
    induction fz with
    | zero => intro H1  s2  hfz; exact absurd hfz (by omega)
    | succ fz ih =>
      intro H1  s2  hfz hq h0 h1 h2
      refine xq_aload_n dX9_addDigit_11 rfl rfl ?_
      refine xq_getIE clX9 (by decide) rfl fl_RX9_40 dX9_addDigit_12 (Fx.s2 hF) hq.1.1 ?_
      refine xq_if_leN dX9_addDigit_15 rfl (by omega) ⟨fun h15 => ?_, fun h15 => ?_⟩
      · skip
        exact absurd h15 (by omega)
      · skip
        refine xq_aload_n dX9_addDigit_18 rfl rfl ?_
        refine xq_getF clX9 (by decide) rfl fl_RX9_21 dX9_addDigit_19 (Fx.s2 hF) (Fx.r2_3 hF) ?_
        refine xq_aload_n dX9_addDigit_22 rfl rfl ?_
        refine xq_getIE clX9 (by decide) rfl fl_RX9_40 dX9_addDigit_23 (Fx.s2 hF) hq.1.1 ?_
        refine xq_iconst dX9_addDigit_26 ic1 ?_
        refine xq_isubN dX9_addDigit_27 (by omega) ?_
        refine xq_aload_n dX9_addDigit_28 rfl rfl ?_
        refine xq_getF clX9 (by decide) rfl fl_RX9_21 dX9_addDigit_29 (Fx.s2 hF) (Fx.r2_3 hF) ?_
        refine xq_aload_n dX9_addDigit_32 rfl rfl ?_
        refine xq_getIE clX9 (by decide) rfl fl_RX9_40 dX9_addDigit_33 (Fx.s2 hF) hq.1.1 ?_
        refine xq_iconst dX9_addDigit_36 ic1 ?_
        refine xq_isubN dX9_addDigit_37 (by omega) ?_
        refine xq_ialdN dX9_addDigit_38 (Fx.s6 hF) (by omega) (by decide) ((hq.1.2.2 (kSz s2 - 1) (Nat.sub_lt h0 Nat.one_pos)).2.2) ?_
        refine xq_bipush dX9_addDigit_39 bp10 ?_
        refine xq_imulN dX9_addDigit_41 ?_
        refine xq_iload_n dX9_addDigit_42 rfl rfl ?_
        refine xq_iaddN dX9_addDigit_43 ?_
        refine xq_ldc (v := nI 1000000) dX9_addDigit_44 kc_RX9_69 ?_
        refine xq_mminN dX9_addDigit_46 ml_RX9_70 (by exact Nat.le_of_ble_eq_true rfl) (by decide) (by omega) (by omega) ?_
        refine xq_iastN dX9_addDigit_49 (Fx.s6 hF) (by omega) (by decide) ?_
        refine xq_vret dX9_addDigit_50 rfl ?_
        exact ⟨_, hq.vl _, rfl⟩
  refine vq_intro (by decide) (by exact Nat.le_of_ble_eq_true rfl) rfl ?_
  refine xq_iload_n dX9_addDigit_0 rfl rfl ?_
  refine xq_if_neN dX9_addDigit_1 rfl (by omega) ⟨fun h1 => ?_, fun h1 => ?_⟩
  · skip
    exact lp 1 _ s (by omega) hs.tq h0 hz h2
  · skip
    exact absurd h1 (by omega)
def kof (b : Nat) : Nat := if b = 40 then 41 else if b = 41 then 42 else if b = 42 then 30 else if b = 43 then 28 else if b = 45 then 29 else if b = 47 then 31 else if b = 59 then 40 else if b = 60 then 32 else if b = 61 then 34 else if b = 62 then 37 else 43
def kBf (p : Nat) (s : uTk) : Nat := if 0 < kSz s ∧ kPl s (kSz s - 1) = p - 1 then kKd s (kSz s - 1) else 44
def kSg (b p : Nat) (s : uTk) : uTk := if b = 61 ∧ (kBf p s = 32 ∨ kBf p s = 37) then (kSz s, kLt s, uup (kKd s) (kSz s - 1) (if kBf p s = 32 then 33 else 36), kPl s, kVl s) else if b = 62 ∧ kBf p s = 32 then (kSz s, kLt s, uup (kKd s) (kSz s - 1) 35, kPl s, kVl s) else kBeg (kof b) p s
theorem kof_hi {b : Nat} (h : 62 < b) : kof b = 43 := by unfold kof; iterate 10 rw [if_neg (by omega)]
theorem sby_neg {b : Nat} (h : 128 ≤ b) (h2 : b < 256) : (sby b).toInt = (b : Int) - 256 := by
  unfold sby
  rw [if_neg (by omega)]
  exact zI_toInt (by omega) (by omega)
theorem sby_pos {b : Nat} (h : b < 128) : sby b = nI b := if_pos h
theorem c_kindOf1 (hl : j < 128) : Pv mX9_kindOf 0 [vN j] S H (vN (kof j)) := by
  refine vq_ev (vq_intro (by decide) (by exact Nat.le_of_ble_eq_true rfl) rfl ?_)
  refine xq_iload_n dX9_kindOf_0 rfl rfl ?_
  by_cases hs1 : 40 ≤ j ∧ j ≤ 62
  · skip
    have hq1 : j = 40 ∨ j = 41 ∨ j = 42 ∨ j = 43 ∨ j = 44 ∨ j = 45 ∨ j = 46 ∨ j = 47 ∨ j = 48 ∨ j = 49 ∨ j = 50 ∨ j = 51 ∨ j = 52 ∨ j = 53 ∨ j = 54 ∨ j = 55 ∨ j = 56 ∨ j = 57 ∨ j = 58 ∨ j = 59 ∨ j = 60 ∨ j = 61 ∨ j = 62 := by omega
    rcases hq1 with rfl | rfl | rfl | rfl | rfl | rfl | rfl | rfl | rfl | rfl | rfl | rfl | rfl | rfl | rfl | rfl | rfl | rfl | rfl | rfl | rfl | rfl | rfl
    · skip
      refine xq_tableIn dX9_kindOf_1 (by decide) (by decide) rfl rfl ?_
      refine xq_bipush dX9_kindOf_111 bp41 ?_
      refine xq_iret dX9_kindOf_113 rfl ?_
      first | rfl | (show _ = _; unfold kof; iterate 10 rw [if_neg (by omega)])
    · skip
      refine xq_tableIn dX9_kindOf_1 (by decide) (by decide) rfl rfl ?_
      refine xq_bipush dX9_kindOf_114 bp42 ?_
      refine xq_iret dX9_kindOf_116 rfl ?_
      first | rfl | (show _ = _; unfold kof; iterate 10 rw [if_neg (by omega)])
    · skip
      refine xq_tableIn dX9_kindOf_1 (by decide) (by decide) rfl rfl ?_
      refine xq_bipush dX9_kindOf_123 bp30 ?_
      refine xq_iret dX9_kindOf_125 rfl ?_
      first | rfl | (show _ = _; unfold kof; iterate 10 rw [if_neg (by omega)])
    · skip
      refine xq_tableIn dX9_kindOf_1 (by decide) (by decide) rfl rfl ?_
      refine xq_bipush dX9_kindOf_117 bp28 ?_
      refine xq_iret dX9_kindOf_119 rfl ?_
      first | rfl | (show _ = _; unfold kof; iterate 10 rw [if_neg (by omega)])
    · skip
      refine xq_tableIn dX9_kindOf_1 (by decide) (by decide) rfl rfl ?_
      refine xq_bipush dX9_kindOf_138 bp43 ?_
      refine xq_iret dX9_kindOf_140 rfl ?_
      first | rfl | (show _ = _; unfold kof; iterate 10 rw [if_neg (by omega)])
    · skip
      refine xq_tableIn dX9_kindOf_1 (by decide) (by decide) rfl rfl ?_
      refine xq_bipush dX9_kindOf_120 bp29 ?_
      refine xq_iret dX9_kindOf_122 rfl ?_
      first | rfl | (show _ = _; unfold kof; iterate 10 rw [if_neg (by omega)])
    · skip
      refine xq_tableIn dX9_kindOf_1 (by decide) (by decide) rfl rfl ?_
      refine xq_bipush dX9_kindOf_138 bp43 ?_
      refine xq_iret dX9_kindOf_140 rfl ?_
      first | rfl | (show _ = _; unfold kof; iterate 10 rw [if_neg (by omega)])
    · skip
      refine xq_tableIn dX9_kindOf_1 (by decide) (by decide) rfl rfl ?_
      refine xq_bipush dX9_kindOf_126 bp31 ?_
      refine xq_iret dX9_kindOf_128 rfl ?_
      first | rfl | (show _ = _; unfold kof; iterate 10 rw [if_neg (by omega)])
    · skip
      refine xq_tableIn dX9_kindOf_1 (by decide) (by decide) rfl rfl ?_
      refine xq_bipush dX9_kindOf_138 bp43 ?_
      refine xq_iret dX9_kindOf_140 rfl ?_
      first | rfl | (show _ = _; unfold kof; iterate 10 rw [if_neg (by omega)])
    · skip
      refine xq_tableIn dX9_kindOf_1 (by decide) (by decide) rfl rfl ?_
      refine xq_bipush dX9_kindOf_138 bp43 ?_
      refine xq_iret dX9_kindOf_140 rfl ?_
      first | rfl | (show _ = _; unfold kof; iterate 10 rw [if_neg (by omega)])
    · skip
      refine xq_tableIn dX9_kindOf_1 (by decide) (by decide) rfl rfl ?_
      refine xq_bipush dX9_kindOf_138 bp43 ?_
      refine xq_iret dX9_kindOf_140 rfl ?_
      first | rfl | (show _ = _; unfold kof; iterate 10 rw [if_neg (by omega)])
    · skip
      refine xq_tableIn dX9_kindOf_1 (by decide) (by decide) rfl rfl ?_
      refine xq_bipush dX9_kindOf_138 bp43 ?_
      refine xq_iret dX9_kindOf_140 rfl ?_
      first | rfl | (show _ = _; unfold kof; iterate 10 rw [if_neg (by omega)])
    · skip
      refine xq_tableIn dX9_kindOf_1 (by decide) (by decide) rfl rfl ?_
      refine xq_bipush dX9_kindOf_138 bp43 ?_
      refine xq_iret dX9_kindOf_140 rfl ?_
      first | rfl | (show _ = _; unfold kof; iterate 10 rw [if_neg (by omega)])
    · skip
      refine xq_tableIn dX9_kindOf_1 (by decide) (by decide) rfl rfl ?_
      refine xq_bipush dX9_kindOf_138 bp43 ?_
      refine xq_iret dX9_kindOf_140 rfl ?_
      first | rfl | (show _ = _; unfold kof; iterate 10 rw [if_neg (by omega)])
    · skip
      refine xq_tableIn dX9_kindOf_1 (by decide) (by decide) rfl rfl ?_
      refine xq_bipush dX9_kindOf_138 bp43 ?_
      refine xq_iret dX9_kindOf_140 rfl ?_
      first | rfl | (show _ = _; unfold kof; iterate 10 rw [if_neg (by omega)])
    · skip
      refine xq_tableIn dX9_kindOf_1 (by decide) (by decide) rfl rfl ?_
      refine xq_bipush dX9_kindOf_138 bp43 ?_
      refine xq_iret dX9_kindOf_140 rfl ?_
      first | rfl | (show _ = _; unfold kof; iterate 10 rw [if_neg (by omega)])
    · skip
      refine xq_tableIn dX9_kindOf_1 (by decide) (by decide) rfl rfl ?_
      refine xq_bipush dX9_kindOf_138 bp43 ?_
      refine xq_iret dX9_kindOf_140 rfl ?_
      first | rfl | (show _ = _; unfold kof; iterate 10 rw [if_neg (by omega)])
    · skip
      refine xq_tableIn dX9_kindOf_1 (by decide) (by decide) rfl rfl ?_
      refine xq_bipush dX9_kindOf_138 bp43 ?_
      refine xq_iret dX9_kindOf_140 rfl ?_
      first | rfl | (show _ = _; unfold kof; iterate 10 rw [if_neg (by omega)])
    · skip
      refine xq_tableIn dX9_kindOf_1 (by decide) (by decide) rfl rfl ?_
      refine xq_bipush dX9_kindOf_138 bp43 ?_
      refine xq_iret dX9_kindOf_140 rfl ?_
      first | rfl | (show _ = _; unfold kof; iterate 10 rw [if_neg (by omega)])
    · skip
      refine xq_tableIn dX9_kindOf_1 (by decide) (by decide) rfl rfl ?_
      refine xq_bipush dX9_kindOf_108 bp40 ?_
      refine xq_iret dX9_kindOf_110 rfl ?_
      first | rfl | (show _ = _; unfold kof; iterate 10 rw [if_neg (by omega)])
    · skip
      refine xq_tableIn dX9_kindOf_1 (by decide) (by decide) rfl rfl ?_
      refine xq_bipush dX9_kindOf_129 bp32 ?_
      refine xq_iret dX9_kindOf_131 rfl ?_
      first | rfl | (show _ = _; unfold kof; iterate 10 rw [if_neg (by omega)])
    · skip
      refine xq_tableIn dX9_kindOf_1 (by decide) (by decide) rfl rfl ?_
      refine xq_bipush dX9_kindOf_132 bp34 ?_
      refine xq_iret dX9_kindOf_134 rfl ?_
      first | rfl | (show _ = _; unfold kof; iterate 10 rw [if_neg (by omega)])
    · skip
      refine xq_tableIn dX9_kindOf_1 (by decide) (by decide) rfl rfl ?_
      refine xq_bipush dX9_kindOf_135 bp37 ?_
      refine xq_iret dX9_kindOf_137 rfl ?_
      first | rfl | (show _ = _; unfold kof; iterate 10 rw [if_neg (by omega)])
  · skip
    refine xq_tableOut dX9_kindOf_1 (swOut 40 62 hs1 (by omega)) rfl ?_
    refine xq_bipush dX9_kindOf_138 bp43 ?_
    refine xq_iret dX9_kindOf_140 rfl ?_
    first | rfl | (show _ = _; unfold kof; iterate 10 rw [if_neg (by omega)])
theorem c_kindOf0 {w : Int32} (hw : w.toInt < 0) : Pv mX9_kindOf 0 [.int w] S H (vN 43) := by
  refine vq_ev (vq_intro (by decide) (by exact Nat.le_of_ble_eq_true rfl) rfl ?_)
  refine xq_iload_n dX9_kindOf_0 rfl rfl ?_
  refine xq_tableOut dX9_kindOf_1 (Or.inl (by omega)) rfl ?_
  refine xq_bipush dX9_kindOf_138 bp43 ?_
  refine xq_iret dX9_kindOf_140 rfl ?_
  rfl
theorem c_addSign1 (hF : gFx S) (hs : TkP H s) (hz : kSz s < 701) (hp : kSz s ≤ p) (hp2 : p ≤ 701) (hk : ∀ i, i < kSz s → kKd s i ≤ 44 ∧ kPl s i < p) (hj : j < 128) : Nv mX9_addSign 1 [.ref 2, vN j, vN p] S H (fun H' => TkQ H H' (kSg j p s)) := by
  refine vq_intro (by decide) (by exact Nat.le_of_ble_eq_true rfl) rfl ?_
  refine xq_aload_n dX9_addSign_0 rfl rfl ?_
  refine xq_getIE clX9 (by decide) rfl fl_RX9_40 dX9_addSign_1 (Fx.s2 hF) hs.1 ?_
  refine xq_if_leN dX9_addSign_4 rfl (by omega) ⟨fun h4 => ?_, fun h4 => ?_⟩
  · skip
    refine xq_iconst dX9_addSign_28 ic0 ?_
    refine xq_istore_n dX9_addSign_29 rfl rfl ?_
    refine xq_iload_n dX9_addSign_30 rfl rfl ?_
    refine xq_if_eqN dX9_addSign_31 rfl (by omega) ⟨fun h31 => ?_, fun h31 => ?_⟩
    · skip
      refine xq_bipush dX9_addSign_48 bp44 ?_
      refine xq_istore dX9_addSign_50 rfl ?_
      refine xq_iload_n dX9_addSign_52 rfl rfl ?_
      refine xq_bipush dX9_addSign_53 bp61 ?_
      refine xq_icmp_neN dX9_addSign_55 rfl (by omega) (by omega) ⟨fun h55 => ?_, fun h55 => ?_⟩
      · skip
        refine xq_iload_n dX9_addSign_100 rfl rfl ?_
        refine xq_bipush dX9_addSign_101 bp62 ?_
        refine xq_icmp_neN dX9_addSign_103 rfl (by omega) (by omega) ⟨fun h103 => ?_, fun h103 => ?_⟩
        · skip
          refine xq_aload_n dX9_addSign_129 rfl rfl ?_
          refine xq_iload_n dX9_addSign_130 rfl rfl ?_
          refine xq_callS1P gd_X9_kindOf dX9_addSign_131 ml_RX9_76 im_X9_kindOf (by exact Nat.le_of_ble_eq_true rfl) (by decide) (c_kindOf1 hj) ?_
          refine xq_iload_n dX9_addSign_134 rfl rfl ?_
          refine xq_callV2N clX9 gd_X9_begin dX9_addSign_135 ml_RX9_60 im_X9_begin se_X9_begin rfl (Fx.s2 hF) (by exact Nat.le_of_ble_eq_true rfl) (by decide) (c_beginT hF hs hz) ?_
          intro H135 p135
          refine xq_vret dX9_addSign_138 rfl ?_
          have hb : kBf p s = 44 := if_neg (fun e => by omega)
          have e : kSg j p s = kBeg (kof j) p s := by unfold kSg; rw [hb]; rw [if_neg (by omega), if_neg (by omega)]
          rw [e]; exact ⟨_, p135, rfl⟩
        · skip
          refine xq_iload dX9_addSign_106 rfl ?_
          refine xq_bipush dX9_addSign_108 bp32 ?_
          refine xq_icmp_neN dX9_addSign_110 rfl (by omega) (by omega) ⟨fun h110 => ?_, fun h110 => ?_⟩
          · skip
            refine xq_aload_n dX9_addSign_129 rfl rfl ?_
            refine xq_iload_n dX9_addSign_130 rfl rfl ?_
            refine xq_callS1P gd_X9_kindOf dX9_addSign_131 ml_RX9_76 im_X9_kindOf (by exact Nat.le_of_ble_eq_true rfl) (by decide) (c_kindOf1 hj) ?_
            refine xq_iload_n dX9_addSign_134 rfl rfl ?_
            refine xq_callV2N clX9 gd_X9_begin dX9_addSign_135 ml_RX9_60 im_X9_begin se_X9_begin rfl (Fx.s2 hF) (by exact Nat.le_of_ble_eq_true rfl) (by decide) (c_beginT hF hs hz) ?_
            intro H135 p135
            refine xq_vret dX9_addSign_138 rfl ?_
            have hb : kBf p s = 44 := if_neg (fun e => by omega)
            have e : kSg j p s = kBeg (kof j) p s := by unfold kSg; rw [hb]; rw [if_neg (by omega), if_neg (by omega)]
            rw [e]; exact ⟨_, p135, rfl⟩
          · skip
            first | exact absurd h110 (by decide) | exact absurd rfl h110
      · skip
        refine xq_iload dX9_addSign_58 rfl ?_
        refine xq_bipush dX9_addSign_60 bp32 ?_
        refine xq_icmp_eqN dX9_addSign_62 rfl (by omega) (by omega) ⟨fun h62 => ?_, fun h62 => ?_⟩
        · skip
          first | exact absurd h62 (by decide) | exact absurd rfl h62
        · skip
          refine xq_iload dX9_addSign_65 rfl ?_
          refine xq_bipush dX9_addSign_67 bp37 ?_
          refine xq_icmp_neN dX9_addSign_69 rfl (by omega) (by omega) ⟨fun h69 => ?_, fun h69 => ?_⟩
          · skip
            refine xq_iload_n dX9_addSign_100 rfl rfl ?_
            refine xq_bipush dX9_addSign_101 bp62 ?_
            refine xq_icmp_neN dX9_addSign_103 rfl (by omega) (by omega) ⟨fun h103 => ?_, fun h103 => ?_⟩
            · skip
              refine xq_aload_n dX9_addSign_129 rfl rfl ?_
              refine xq_iload_n dX9_addSign_130 rfl rfl ?_
              refine xq_callS1P gd_X9_kindOf dX9_addSign_131 ml_RX9_76 im_X9_kindOf (by exact Nat.le_of_ble_eq_true rfl) (by decide) (c_kindOf1 hj) ?_
              refine xq_iload_n dX9_addSign_134 rfl rfl ?_
              refine xq_callV2N clX9 gd_X9_begin dX9_addSign_135 ml_RX9_60 im_X9_begin se_X9_begin rfl (Fx.s2 hF) (by exact Nat.le_of_ble_eq_true rfl) (by decide) (c_beginT hF hs hz) ?_
              intro H135 p135
              refine xq_vret dX9_addSign_138 rfl ?_
              have hb : kBf p s = 44 := if_neg (fun e => by omega)
              have e : kSg j p s = kBeg (kof j) p s := by unfold kSg; rw [hb]; rw [if_neg (by omega), if_neg (by omega)]
              rw [e]; exact ⟨_, p135, rfl⟩
            · skip
              refine xq_iload dX9_addSign_106 rfl ?_
              refine xq_bipush dX9_addSign_108 bp32 ?_
              refine xq_icmp_neN dX9_addSign_110 rfl (by omega) (by omega) ⟨fun h110 => ?_, fun h110 => ?_⟩
              · skip
                refine xq_aload_n dX9_addSign_129 rfl rfl ?_
                refine xq_iload_n dX9_addSign_130 rfl rfl ?_
                refine xq_callS1P gd_X9_kindOf dX9_addSign_131 ml_RX9_76 im_X9_kindOf (by exact Nat.le_of_ble_eq_true rfl) (by decide) (c_kindOf1 hj) ?_
                refine xq_iload_n dX9_addSign_134 rfl rfl ?_
                refine xq_callV2N clX9 gd_X9_begin dX9_addSign_135 ml_RX9_60 im_X9_begin se_X9_begin rfl (Fx.s2 hF) (by exact Nat.le_of_ble_eq_true rfl) (by decide) (c_beginT hF hs hz) ?_
                intro H135 p135
                refine xq_vret dX9_addSign_138 rfl ?_
                have hb : kBf p s = 44 := if_neg (fun e => by omega)
                have e : kSg j p s = kBeg (kof j) p s := by unfold kSg; rw [hb]; rw [if_neg (by omega), if_neg (by omega)]
                rw [e]; exact ⟨_, p135, rfl⟩
              · skip
                first | exact absurd h110 (by decide) | exact absurd rfl h110
          · skip
            first | exact absurd h69 (by decide) | exact absurd rfl h69
    · skip
      first | exact absurd h31 (by decide) | exact absurd rfl h31
  · skip
    have hk1 := hk (kSz s - 1) (by omega)
    refine xq_aload_n dX9_addSign_7 rfl rfl ?_
    refine xq_getF clX9 (by decide) rfl fl_RX9_18 dX9_addSign_8 (Fx.s2 hF) (Fx.r2_2 hF) ?_
    refine xq_aload_n dX9_addSign_11 rfl rfl ?_
    refine xq_getIE clX9 (by decide) rfl fl_RX9_40 dX9_addSign_12 (Fx.s2 hF) hs.1 ?_
    refine xq_iconst dX9_addSign_15 ic1 ?_
    refine xq_isubN dX9_addSign_16 (by omega) ?_
    refine xq_ialdN dX9_addSign_17 (Fx.s5 hF) (by omega) (by decide) ((hs.2.2 (kSz s - 1) (by omega)).2.1) ?_
    refine xq_iload_n dX9_addSign_18 rfl rfl ?_
    refine xq_iconst dX9_addSign_19 ic1 ?_
    refine xq_isubN dX9_addSign_20 (by omega) ?_
    refine xq_icmp_neN dX9_addSign_21 rfl (by omega) (by omega) ⟨fun h21 => ?_, fun h21 => ?_⟩
    · skip
      refine xq_iconst dX9_addSign_28 ic0 ?_
      refine xq_istore_n dX9_addSign_29 rfl rfl ?_
      refine xq_iload_n dX9_addSign_30 rfl rfl ?_
      refine xq_if_eqN dX9_addSign_31 rfl (by omega) ⟨fun h31 => ?_, fun h31 => ?_⟩
      · skip
        refine xq_bipush dX9_addSign_48 bp44 ?_
        refine xq_istore dX9_addSign_50 rfl ?_
        refine xq_iload_n dX9_addSign_52 rfl rfl ?_
        refine xq_bipush dX9_addSign_53 bp61 ?_
        refine xq_icmp_neN dX9_addSign_55 rfl (by omega) (by omega) ⟨fun h55 => ?_, fun h55 => ?_⟩
        · skip
          refine xq_iload_n dX9_addSign_100 rfl rfl ?_
          refine xq_bipush dX9_addSign_101 bp62 ?_
          refine xq_icmp_neN dX9_addSign_103 rfl (by omega) (by omega) ⟨fun h103 => ?_, fun h103 => ?_⟩
          · skip
            refine xq_aload_n dX9_addSign_129 rfl rfl ?_
            refine xq_iload_n dX9_addSign_130 rfl rfl ?_
            refine xq_callS1P gd_X9_kindOf dX9_addSign_131 ml_RX9_76 im_X9_kindOf (by exact Nat.le_of_ble_eq_true rfl) (by decide) (c_kindOf1 hj) ?_
            refine xq_iload_n dX9_addSign_134 rfl rfl ?_
            refine xq_callV2N clX9 gd_X9_begin dX9_addSign_135 ml_RX9_60 im_X9_begin se_X9_begin rfl (Fx.s2 hF) (by exact Nat.le_of_ble_eq_true rfl) (by decide) (c_beginT hF hs hz) ?_
            intro H135 p135
            refine xq_vret dX9_addSign_138 rfl ?_
            have hb : kBf p s = 44 := if_neg (fun e => h21 e.2)
            have e : kSg j p s = kBeg (kof j) p s := by unfold kSg; rw [hb]; rw [if_neg (by omega), if_neg (by omega)]
            rw [e]; exact ⟨_, p135, rfl⟩
          · skip
            refine xq_iload dX9_addSign_106 rfl ?_
            refine xq_bipush dX9_addSign_108 bp32 ?_
            refine xq_icmp_neN dX9_addSign_110 rfl (by omega) (by omega) ⟨fun h110 => ?_, fun h110 => ?_⟩
            · skip
              refine xq_aload_n dX9_addSign_129 rfl rfl ?_
              refine xq_iload_n dX9_addSign_130 rfl rfl ?_
              refine xq_callS1P gd_X9_kindOf dX9_addSign_131 ml_RX9_76 im_X9_kindOf (by exact Nat.le_of_ble_eq_true rfl) (by decide) (c_kindOf1 hj) ?_
              refine xq_iload_n dX9_addSign_134 rfl rfl ?_
              refine xq_callV2N clX9 gd_X9_begin dX9_addSign_135 ml_RX9_60 im_X9_begin se_X9_begin rfl (Fx.s2 hF) (by exact Nat.le_of_ble_eq_true rfl) (by decide) (c_beginT hF hs hz) ?_
              intro H135 p135
              refine xq_vret dX9_addSign_138 rfl ?_
              have hb : kBf p s = 44 := if_neg (fun e => h21 e.2)
              have e : kSg j p s = kBeg (kof j) p s := by unfold kSg; rw [hb]; rw [if_neg (by omega), if_neg (by omega)]
              rw [e]; exact ⟨_, p135, rfl⟩
            · skip
              first | exact absurd h110 (by decide) | exact absurd rfl h110
        · skip
          refine xq_iload dX9_addSign_58 rfl ?_
          refine xq_bipush dX9_addSign_60 bp32 ?_
          refine xq_icmp_eqN dX9_addSign_62 rfl (by omega) (by omega) ⟨fun h62 => ?_, fun h62 => ?_⟩
          · skip
            first | exact absurd h62 (by decide) | exact absurd rfl h62
          · skip
            refine xq_iload dX9_addSign_65 rfl ?_
            refine xq_bipush dX9_addSign_67 bp37 ?_
            refine xq_icmp_neN dX9_addSign_69 rfl (by omega) (by omega) ⟨fun h69 => ?_, fun h69 => ?_⟩
            · skip
              refine xq_iload_n dX9_addSign_100 rfl rfl ?_
              refine xq_bipush dX9_addSign_101 bp62 ?_
              refine xq_icmp_neN dX9_addSign_103 rfl (by omega) (by omega) ⟨fun h103 => ?_, fun h103 => ?_⟩
              · skip
                refine xq_aload_n dX9_addSign_129 rfl rfl ?_
                refine xq_iload_n dX9_addSign_130 rfl rfl ?_
                refine xq_callS1P gd_X9_kindOf dX9_addSign_131 ml_RX9_76 im_X9_kindOf (by exact Nat.le_of_ble_eq_true rfl) (by decide) (c_kindOf1 hj) ?_
                refine xq_iload_n dX9_addSign_134 rfl rfl ?_
                refine xq_callV2N clX9 gd_X9_begin dX9_addSign_135 ml_RX9_60 im_X9_begin se_X9_begin rfl (Fx.s2 hF) (by exact Nat.le_of_ble_eq_true rfl) (by decide) (c_beginT hF hs hz) ?_
                intro H135 p135
                refine xq_vret dX9_addSign_138 rfl ?_
                have hb : kBf p s = 44 := if_neg (fun e => h21 e.2)
                have e : kSg j p s = kBeg (kof j) p s := by unfold kSg; rw [hb]; rw [if_neg (by omega), if_neg (by omega)]
                rw [e]; exact ⟨_, p135, rfl⟩
              · skip
                refine xq_iload dX9_addSign_106 rfl ?_
                refine xq_bipush dX9_addSign_108 bp32 ?_
                refine xq_icmp_neN dX9_addSign_110 rfl (by omega) (by omega) ⟨fun h110 => ?_, fun h110 => ?_⟩
                · skip
                  refine xq_aload_n dX9_addSign_129 rfl rfl ?_
                  refine xq_iload_n dX9_addSign_130 rfl rfl ?_
                  refine xq_callS1P gd_X9_kindOf dX9_addSign_131 ml_RX9_76 im_X9_kindOf (by exact Nat.le_of_ble_eq_true rfl) (by decide) (c_kindOf1 hj) ?_
                  refine xq_iload_n dX9_addSign_134 rfl rfl ?_
                  refine xq_callV2N clX9 gd_X9_begin dX9_addSign_135 ml_RX9_60 im_X9_begin se_X9_begin rfl (Fx.s2 hF) (by exact Nat.le_of_ble_eq_true rfl) (by decide) (c_beginT hF hs hz) ?_
                  intro H135 p135
                  refine xq_vret dX9_addSign_138 rfl ?_
                  have hb : kBf p s = 44 := if_neg (fun e => h21 e.2)
                  have e : kSg j p s = kBeg (kof j) p s := by unfold kSg; rw [hb]; rw [if_neg (by omega), if_neg (by omega)]
                  rw [e]; exact ⟨_, p135, rfl⟩
                · skip
                  first | exact absurd h110 (by decide) | exact absurd rfl h110
            · skip
              first | exact absurd h69 (by decide) | exact absurd rfl h69
      · skip
        first | exact absurd h31 (by decide) | exact absurd rfl h31
    · skip
      refine xq_iconst dX9_addSign_24 ic1 ?_
      refine xq_goto dX9_addSign_25 rfl ?_
      refine xq_istore_n dX9_addSign_29 rfl rfl ?_
      refine xq_iload_n dX9_addSign_30 rfl rfl ?_
      refine xq_if_eqN dX9_addSign_31 rfl (by omega) ⟨fun h31 => ?_, fun h31 => ?_⟩
      · skip
        first | exact absurd h31 (by decide) | exact absurd rfl h31
      · skip
        refine xq_aload_n dX9_addSign_34 rfl rfl ?_
        refine xq_getF clX9 (by decide) rfl fl_RX9_15 dX9_addSign_35 (Fx.s2 hF) (Fx.r2_1 hF) ?_
        refine xq_aload_n dX9_addSign_38 rfl rfl ?_
        refine xq_getIE clX9 (by decide) rfl fl_RX9_40 dX9_addSign_39 (Fx.s2 hF) hs.1 ?_
        refine xq_iconst dX9_addSign_42 ic1 ?_
        refine xq_isubN dX9_addSign_43 (by omega) ?_
        refine xq_ialdN dX9_addSign_44 (Fx.s4 hF) (by omega) (by decide) ((hs.2.2 (kSz s - 1) (by omega)).1) ?_
        refine xq_goto dX9_addSign_45 rfl ?_
        refine xq_istore dX9_addSign_50 rfl ?_
        refine xq_iload_n dX9_addSign_52 rfl rfl ?_
        refine xq_bipush dX9_addSign_53 bp61 ?_
        refine xq_icmp_neN dX9_addSign_55 rfl (by omega) (by omega) ⟨fun h55 => ?_, fun h55 => ?_⟩
        · skip
          refine xq_iload_n dX9_addSign_100 rfl rfl ?_
          refine xq_bipush dX9_addSign_101 bp62 ?_
          refine xq_icmp_neN dX9_addSign_103 rfl (by omega) (by omega) ⟨fun h103 => ?_, fun h103 => ?_⟩
          · skip
            refine xq_aload_n dX9_addSign_129 rfl rfl ?_
            refine xq_iload_n dX9_addSign_130 rfl rfl ?_
            refine xq_callS1P gd_X9_kindOf dX9_addSign_131 ml_RX9_76 im_X9_kindOf (by exact Nat.le_of_ble_eq_true rfl) (by decide) (c_kindOf1 hj) ?_
            refine xq_iload_n dX9_addSign_134 rfl rfl ?_
            refine xq_callV2N clX9 gd_X9_begin dX9_addSign_135 ml_RX9_60 im_X9_begin se_X9_begin rfl (Fx.s2 hF) (by exact Nat.le_of_ble_eq_true rfl) (by decide) (c_beginT hF hs hz) ?_
            intro H135 p135
            refine xq_vret dX9_addSign_138 rfl ?_
            have hb : kBf p s = kKd s (kSz s - 1) := if_pos ⟨by omega, h21⟩
            have e : kSg j p s = kBeg (kof j) p s := by unfold kSg; rw [hb]; rw [if_neg (by omega), if_neg (by omega)]
            rw [e]; exact ⟨_, p135, rfl⟩
          · skip
            refine xq_iload dX9_addSign_106 rfl ?_
            refine xq_bipush dX9_addSign_108 bp32 ?_
            refine xq_icmp_neN dX9_addSign_110 rfl (by omega) (by omega) ⟨fun h110 => ?_, fun h110 => ?_⟩
            · skip
              refine xq_aload_n dX9_addSign_129 rfl rfl ?_
              refine xq_iload_n dX9_addSign_130 rfl rfl ?_
              refine xq_callS1P gd_X9_kindOf dX9_addSign_131 ml_RX9_76 im_X9_kindOf (by exact Nat.le_of_ble_eq_true rfl) (by decide) (c_kindOf1 hj) ?_
              refine xq_iload_n dX9_addSign_134 rfl rfl ?_
              refine xq_callV2N clX9 gd_X9_begin dX9_addSign_135 ml_RX9_60 im_X9_begin se_X9_begin rfl (Fx.s2 hF) (by exact Nat.le_of_ble_eq_true rfl) (by decide) (c_beginT hF hs hz) ?_
              intro H135 p135
              refine xq_vret dX9_addSign_138 rfl ?_
              have hb : kBf p s = kKd s (kSz s - 1) := if_pos ⟨by omega, h21⟩
              have e : kSg j p s = kBeg (kof j) p s := by unfold kSg; rw [hb]; rw [if_neg (by omega), if_neg (by omega)]
              rw [e]; exact ⟨_, p135, rfl⟩
            · skip
              refine xq_aload_n dX9_addSign_113 rfl rfl ?_
              refine xq_getF clX9 (by decide) rfl fl_RX9_15 dX9_addSign_114 (Fx.s2 hF) (Fx.r2_1 hF) ?_
              refine xq_aload_n dX9_addSign_117 rfl rfl ?_
              refine xq_getIE clX9 (by decide) rfl fl_RX9_40 dX9_addSign_118 (Fx.s2 hF) hs.1 ?_
              refine xq_iconst dX9_addSign_121 ic1 ?_
              refine xq_isubN dX9_addSign_122 (by omega) ?_
              refine xq_bipush dX9_addSign_123 bp35 ?_
              refine xq_iastN dX9_addSign_125 (Fx.s4 hF) (by omega) (by decide) ?_
              refine xq_goto dX9_addSign_126 rfl ?_
              refine xq_vret dX9_addSign_138 rfl ?_
              have hb : kBf p s = kKd s (kSz s - 1) := if_pos ⟨by omega, h21⟩
              have e : kSg j p s = (kSz s, kLt s, uup (kKd s) (kSz s - 1) 35, kPl s, kVl s) := by unfold kSg; rw [hb]; rw [if_neg (by omega), if_pos ⟨h103, h110⟩]
              rw [e]; exact ⟨_, hs.tq.kd 35, rfl⟩
        · skip
          refine xq_iload dX9_addSign_58 rfl ?_
          refine xq_bipush dX9_addSign_60 bp32 ?_
          refine xq_icmp_eqN dX9_addSign_62 rfl (by omega) (by omega) ⟨fun h62 => ?_, fun h62 => ?_⟩
          · skip
            refine xq_aload_n dX9_addSign_72 rfl rfl ?_
            refine xq_getF clX9 (by decide) rfl fl_RX9_15 dX9_addSign_73 (Fx.s2 hF) (Fx.r2_1 hF) ?_
            refine xq_aload_n dX9_addSign_76 rfl rfl ?_
            refine xq_getIE clX9 (by decide) rfl fl_RX9_40 dX9_addSign_77 (Fx.s2 hF) hs.1 ?_
            refine xq_iconst dX9_addSign_80 ic1 ?_
            refine xq_isubN dX9_addSign_81 (by omega) ?_
            refine xq_iload dX9_addSign_82 rfl ?_
            refine xq_bipush dX9_addSign_84 bp32 ?_
            refine xq_icmp_neN dX9_addSign_86 rfl (by omega) (by omega) ⟨fun h86 => ?_, fun h86 => ?_⟩
            · skip
              refine xq_bipush dX9_addSign_94 bp36 ?_
              refine xq_iastN dX9_addSign_96 (Fx.s4 hF) (by omega) (by decide) ?_
              refine xq_goto dX9_addSign_97 rfl ?_
              refine xq_vret dX9_addSign_138 rfl ?_
              have hb : kBf p s = kKd s (kSz s - 1) := if_pos ⟨by omega, h21⟩
              have e : kSg j p s = (kSz s, kLt s, uup (kKd s) (kSz s - 1) 36, kPl s, kVl s) := by unfold kSg; rw [hb]; rw [if_pos ⟨h55, by omega⟩, if_neg h86]
              rw [e]; exact ⟨_, hs.tq.kd 36, rfl⟩
            · skip
              refine xq_bipush dX9_addSign_89 bp33 ?_
              refine xq_goto dX9_addSign_91 rfl ?_
              refine xq_iastN dX9_addSign_96 (Fx.s4 hF) (by omega) (by decide) ?_
              refine xq_goto dX9_addSign_97 rfl ?_
              refine xq_vret dX9_addSign_138 rfl ?_
              have hb : kBf p s = kKd s (kSz s - 1) := if_pos ⟨by omega, h21⟩
              have e : kSg j p s = (kSz s, kLt s, uup (kKd s) (kSz s - 1) 33, kPl s, kVl s) := by unfold kSg; rw [hb]; rw [if_pos ⟨h55, by omega⟩, if_pos h86]
              rw [e]; exact ⟨_, hs.tq.kd 33, rfl⟩
          · skip
            refine xq_iload dX9_addSign_65 rfl ?_
            refine xq_bipush dX9_addSign_67 bp37 ?_
            refine xq_icmp_neN dX9_addSign_69 rfl (by omega) (by omega) ⟨fun h69 => ?_, fun h69 => ?_⟩
            · skip
              refine xq_iload_n dX9_addSign_100 rfl rfl ?_
              refine xq_bipush dX9_addSign_101 bp62 ?_
              refine xq_icmp_neN dX9_addSign_103 rfl (by omega) (by omega) ⟨fun h103 => ?_, fun h103 => ?_⟩
              · skip
                refine xq_aload_n dX9_addSign_129 rfl rfl ?_
                refine xq_iload_n dX9_addSign_130 rfl rfl ?_
                refine xq_callS1P gd_X9_kindOf dX9_addSign_131 ml_RX9_76 im_X9_kindOf (by exact Nat.le_of_ble_eq_true rfl) (by decide) (c_kindOf1 hj) ?_
                refine xq_iload_n dX9_addSign_134 rfl rfl ?_
                refine xq_callV2N clX9 gd_X9_begin dX9_addSign_135 ml_RX9_60 im_X9_begin se_X9_begin rfl (Fx.s2 hF) (by exact Nat.le_of_ble_eq_true rfl) (by decide) (c_beginT hF hs hz) ?_
                intro H135 p135
                refine xq_vret dX9_addSign_138 rfl ?_
                have hb : kBf p s = kKd s (kSz s - 1) := if_pos ⟨by omega, h21⟩
                have e : kSg j p s = kBeg (kof j) p s := by unfold kSg; rw [hb]; rw [if_neg (by omega), if_neg (by omega)]
                rw [e]; exact ⟨_, p135, rfl⟩
              · skip
                refine xq_iload dX9_addSign_106 rfl ?_
                refine xq_bipush dX9_addSign_108 bp32 ?_
                refine xq_icmp_neN dX9_addSign_110 rfl (by omega) (by omega) ⟨fun h110 => ?_, fun h110 => ?_⟩
                · skip
                  refine xq_aload_n dX9_addSign_129 rfl rfl ?_
                  refine xq_iload_n dX9_addSign_130 rfl rfl ?_
                  refine xq_callS1P gd_X9_kindOf dX9_addSign_131 ml_RX9_76 im_X9_kindOf (by exact Nat.le_of_ble_eq_true rfl) (by decide) (c_kindOf1 hj) ?_
                  refine xq_iload_n dX9_addSign_134 rfl rfl ?_
                  refine xq_callV2N clX9 gd_X9_begin dX9_addSign_135 ml_RX9_60 im_X9_begin se_X9_begin rfl (Fx.s2 hF) (by exact Nat.le_of_ble_eq_true rfl) (by decide) (c_beginT hF hs hz) ?_
                  intro H135 p135
                  refine xq_vret dX9_addSign_138 rfl ?_
                  have hb : kBf p s = kKd s (kSz s - 1) := if_pos ⟨by omega, h21⟩
                  have e : kSg j p s = kBeg (kof j) p s := by unfold kSg; rw [hb]; rw [if_neg (by omega), if_neg (by omega)]
                  rw [e]; exact ⟨_, p135, rfl⟩
                · skip
                  refine xq_aload_n dX9_addSign_113 rfl rfl ?_
                  refine xq_getF clX9 (by decide) rfl fl_RX9_15 dX9_addSign_114 (Fx.s2 hF) (Fx.r2_1 hF) ?_
                  refine xq_aload_n dX9_addSign_117 rfl rfl ?_
                  refine xq_getIE clX9 (by decide) rfl fl_RX9_40 dX9_addSign_118 (Fx.s2 hF) hs.1 ?_
                  refine xq_iconst dX9_addSign_121 ic1 ?_
                  refine xq_isubN dX9_addSign_122 (by omega) ?_
                  refine xq_bipush dX9_addSign_123 bp35 ?_
                  refine xq_iastN dX9_addSign_125 (Fx.s4 hF) (by omega) (by decide) ?_
                  refine xq_goto dX9_addSign_126 rfl ?_
                  refine xq_vret dX9_addSign_138 rfl ?_
                  have hb : kBf p s = kKd s (kSz s - 1) := if_pos ⟨by omega, h21⟩
                  have e : kSg j p s = (kSz s, kLt s, uup (kKd s) (kSz s - 1) 35, kPl s, kVl s) := by unfold kSg; rw [hb]; rw [if_neg (by omega), if_pos ⟨h103, h110⟩]
                  rw [e]; exact ⟨_, hs.tq.kd 35, rfl⟩
            · skip
              refine xq_aload_n dX9_addSign_72 rfl rfl ?_
              refine xq_getF clX9 (by decide) rfl fl_RX9_15 dX9_addSign_73 (Fx.s2 hF) (Fx.r2_1 hF) ?_
              refine xq_aload_n dX9_addSign_76 rfl rfl ?_
              refine xq_getIE clX9 (by decide) rfl fl_RX9_40 dX9_addSign_77 (Fx.s2 hF) hs.1 ?_
              refine xq_iconst dX9_addSign_80 ic1 ?_
              refine xq_isubN dX9_addSign_81 (by omega) ?_
              refine xq_iload dX9_addSign_82 rfl ?_
              refine xq_bipush dX9_addSign_84 bp32 ?_
              refine xq_icmp_neN dX9_addSign_86 rfl (by omega) (by omega) ⟨fun h86 => ?_, fun h86 => ?_⟩
              · skip
                refine xq_bipush dX9_addSign_94 bp36 ?_
                refine xq_iastN dX9_addSign_96 (Fx.s4 hF) (by omega) (by decide) ?_
                refine xq_goto dX9_addSign_97 rfl ?_
                refine xq_vret dX9_addSign_138 rfl ?_
                have hb : kBf p s = kKd s (kSz s - 1) := if_pos ⟨by omega, h21⟩
                have e : kSg j p s = (kSz s, kLt s, uup (kKd s) (kSz s - 1) 36, kPl s, kVl s) := by unfold kSg; rw [hb]; rw [if_pos ⟨h55, by omega⟩, if_neg h86]
                rw [e]; exact ⟨_, hs.tq.kd 36, rfl⟩
              · skip
                refine xq_bipush dX9_addSign_89 bp33 ?_
                refine xq_goto dX9_addSign_91 rfl ?_
                refine xq_iastN dX9_addSign_96 (Fx.s4 hF) (by omega) (by decide) ?_
                refine xq_goto dX9_addSign_97 rfl ?_
                refine xq_vret dX9_addSign_138 rfl ?_
                have hb : kBf p s = kKd s (kSz s - 1) := if_pos ⟨by omega, h21⟩
                have e : kSg j p s = (kSz s, kLt s, uup (kKd s) (kSz s - 1) 33, kPl s, kVl s) := by unfold kSg; rw [hb]; rw [if_pos ⟨h55, by omega⟩, if_pos h86]
                rw [e]; exact ⟨_, hs.tq.kd 33, rfl⟩
theorem c_addSign0 (hF : gFx S) (hs : TkP H s) (hz : kSz s < 701) (hp : kSz s ≤ p) (hp2 : p ≤ 701) (hk : ∀ i, i < kSz s → kKd s i ≤ 44 ∧ kPl s i < p) (hj : 128 ≤ j) (hj2 : j < 256) : Nv mX9_addSign 1 [.ref 2, .int (sby j), vN p] S H (fun H' => TkQ H H' (kSg j p s)) := by
  have hw := sby_neg hj hj2
  have n1 : sby j ≠ nI 61 := fun e => by rw [e, nI_toInt (by omega)] at hw; omega
  have n2 : sby j ≠ nI 62 := fun e => by rw [e, nI_toInt (by omega)] at hw; omega
  refine vq_intro (by decide) (by exact Nat.le_of_ble_eq_true rfl) rfl ?_
  refine xq_aload_n dX9_addSign_0 rfl rfl ?_
  refine xq_getIE clX9 (by decide) rfl fl_RX9_40 dX9_addSign_1 (Fx.s2 hF) hs.1 ?_
  refine xq_if_leN dX9_addSign_4 rfl (by omega) ⟨fun h4 => ?_, fun h4 => ?_⟩
  · skip
    refine xq_iconst dX9_addSign_28 ic0 ?_
    refine xq_istore_n dX9_addSign_29 rfl rfl ?_
    refine xq_iload_n dX9_addSign_30 rfl rfl ?_
    refine xq_if_eqN dX9_addSign_31 rfl (by omega) ⟨fun h31 => ?_, fun h31 => ?_⟩
    · skip
      refine xq_bipush dX9_addSign_48 bp44 ?_
      refine xq_istore dX9_addSign_50 rfl ?_
      refine xq_iload_n dX9_addSign_52 rfl rfl ?_
      refine xq_bipush dX9_addSign_53 bp61 ?_
      refine xq_icmp_ne dX9_addSign_55 rfl ⟨fun h55 => ?_, fun h55 => ?_⟩
      · skip
        refine xq_iload_n dX9_addSign_100 rfl rfl ?_
        refine xq_bipush dX9_addSign_101 bp62 ?_
        refine xq_icmp_ne dX9_addSign_103 rfl ⟨fun h103 => ?_, fun h103 => ?_⟩
        · skip
          refine xq_aload_n dX9_addSign_129 rfl rfl ?_
          refine xq_iload_n dX9_addSign_130 rfl rfl ?_
          refine xq_callS1P gd_X9_kindOf dX9_addSign_131 ml_RX9_76 im_X9_kindOf (by exact Nat.le_of_ble_eq_true rfl) (by decide) (c_kindOf0 (by omega)) ?_
          refine xq_iload_n dX9_addSign_134 rfl rfl ?_
          refine xq_callV2N clX9 gd_X9_begin dX9_addSign_135 ml_RX9_60 im_X9_begin se_X9_begin rfl (Fx.s2 hF) (by exact Nat.le_of_ble_eq_true rfl) (by decide) (c_beginT hF hs hz) ?_
          intro H135 p135
          refine xq_vret dX9_addSign_138 rfl ?_
          have e : kSg j p s = kBeg 43 p s := by unfold kSg; rw [if_neg (by omega), if_neg (by omega), kof_hi (by omega)]
          rw [e]; exact ⟨_, p135, rfl⟩
        · skip
          exact absurd h103 n2
      · skip
        exact absurd h55 n1
    · skip
      first | exact absurd h31 (by decide) | exact absurd rfl h31
  · skip
    have hk1 := hk (kSz s - 1) (by omega)
    refine xq_aload_n dX9_addSign_7 rfl rfl ?_
    refine xq_getF clX9 (by decide) rfl fl_RX9_18 dX9_addSign_8 (Fx.s2 hF) (Fx.r2_2 hF) ?_
    refine xq_aload_n dX9_addSign_11 rfl rfl ?_
    refine xq_getIE clX9 (by decide) rfl fl_RX9_40 dX9_addSign_12 (Fx.s2 hF) hs.1 ?_
    refine xq_iconst dX9_addSign_15 ic1 ?_
    refine xq_isubN dX9_addSign_16 (by omega) ?_
    refine xq_ialdN dX9_addSign_17 (Fx.s5 hF) (by omega) (by decide) ((hs.2.2 (kSz s - 1) (by omega)).2.1) ?_
    refine xq_iload_n dX9_addSign_18 rfl rfl ?_
    refine xq_iconst dX9_addSign_19 ic1 ?_
    refine xq_isubN dX9_addSign_20 (by omega) ?_
    refine xq_icmp_neN dX9_addSign_21 rfl (by omega) (by omega) ⟨fun h21 => ?_, fun h21 => ?_⟩
    · skip
      refine xq_iconst dX9_addSign_28 ic0 ?_
      refine xq_istore_n dX9_addSign_29 rfl rfl ?_
      refine xq_iload_n dX9_addSign_30 rfl rfl ?_
      refine xq_if_eqN dX9_addSign_31 rfl (by omega) ⟨fun h31 => ?_, fun h31 => ?_⟩
      · skip
        refine xq_bipush dX9_addSign_48 bp44 ?_
        refine xq_istore dX9_addSign_50 rfl ?_
        refine xq_iload_n dX9_addSign_52 rfl rfl ?_
        refine xq_bipush dX9_addSign_53 bp61 ?_
        refine xq_icmp_ne dX9_addSign_55 rfl ⟨fun h55 => ?_, fun h55 => ?_⟩
        · skip
          refine xq_iload_n dX9_addSign_100 rfl rfl ?_
          refine xq_bipush dX9_addSign_101 bp62 ?_
          refine xq_icmp_ne dX9_addSign_103 rfl ⟨fun h103 => ?_, fun h103 => ?_⟩
          · skip
            refine xq_aload_n dX9_addSign_129 rfl rfl ?_
            refine xq_iload_n dX9_addSign_130 rfl rfl ?_
            refine xq_callS1P gd_X9_kindOf dX9_addSign_131 ml_RX9_76 im_X9_kindOf (by exact Nat.le_of_ble_eq_true rfl) (by decide) (c_kindOf0 (by omega)) ?_
            refine xq_iload_n dX9_addSign_134 rfl rfl ?_
            refine xq_callV2N clX9 gd_X9_begin dX9_addSign_135 ml_RX9_60 im_X9_begin se_X9_begin rfl (Fx.s2 hF) (by exact Nat.le_of_ble_eq_true rfl) (by decide) (c_beginT hF hs hz) ?_
            intro H135 p135
            refine xq_vret dX9_addSign_138 rfl ?_
            have e : kSg j p s = kBeg 43 p s := by unfold kSg; rw [if_neg (by omega), if_neg (by omega), kof_hi (by omega)]
            rw [e]; exact ⟨_, p135, rfl⟩
          · skip
            exact absurd h103 n2
        · skip
          exact absurd h55 n1
      · skip
        first | exact absurd h31 (by decide) | exact absurd rfl h31
    · skip
      refine xq_iconst dX9_addSign_24 ic1 ?_
      refine xq_goto dX9_addSign_25 rfl ?_
      refine xq_istore_n dX9_addSign_29 rfl rfl ?_
      refine xq_iload_n dX9_addSign_30 rfl rfl ?_
      refine xq_if_eqN dX9_addSign_31 rfl (by omega) ⟨fun h31 => ?_, fun h31 => ?_⟩
      · skip
        first | exact absurd h31 (by decide) | exact absurd rfl h31
      · skip
        refine xq_aload_n dX9_addSign_34 rfl rfl ?_
        refine xq_getF clX9 (by decide) rfl fl_RX9_15 dX9_addSign_35 (Fx.s2 hF) (Fx.r2_1 hF) ?_
        refine xq_aload_n dX9_addSign_38 rfl rfl ?_
        refine xq_getIE clX9 (by decide) rfl fl_RX9_40 dX9_addSign_39 (Fx.s2 hF) hs.1 ?_
        refine xq_iconst dX9_addSign_42 ic1 ?_
        refine xq_isubN dX9_addSign_43 (by omega) ?_
        refine xq_ialdN dX9_addSign_44 (Fx.s4 hF) (by omega) (by decide) ((hs.2.2 (kSz s - 1) (by omega)).1) ?_
        refine xq_goto dX9_addSign_45 rfl ?_
        refine xq_istore dX9_addSign_50 rfl ?_
        refine xq_iload_n dX9_addSign_52 rfl rfl ?_
        refine xq_bipush dX9_addSign_53 bp61 ?_
        refine xq_icmp_ne dX9_addSign_55 rfl ⟨fun h55 => ?_, fun h55 => ?_⟩
        · skip
          refine xq_iload_n dX9_addSign_100 rfl rfl ?_
          refine xq_bipush dX9_addSign_101 bp62 ?_
          refine xq_icmp_ne dX9_addSign_103 rfl ⟨fun h103 => ?_, fun h103 => ?_⟩
          · skip
            refine xq_aload_n dX9_addSign_129 rfl rfl ?_
            refine xq_iload_n dX9_addSign_130 rfl rfl ?_
            refine xq_callS1P gd_X9_kindOf dX9_addSign_131 ml_RX9_76 im_X9_kindOf (by exact Nat.le_of_ble_eq_true rfl) (by decide) (c_kindOf0 (by omega)) ?_
            refine xq_iload_n dX9_addSign_134 rfl rfl ?_
            refine xq_callV2N clX9 gd_X9_begin dX9_addSign_135 ml_RX9_60 im_X9_begin se_X9_begin rfl (Fx.s2 hF) (by exact Nat.le_of_ble_eq_true rfl) (by decide) (c_beginT hF hs hz) ?_
            intro H135 p135
            refine xq_vret dX9_addSign_138 rfl ?_
            have e : kSg j p s = kBeg 43 p s := by unfold kSg; rw [if_neg (by omega), if_neg (by omega), kof_hi (by omega)]
            rw [e]; exact ⟨_, p135, rfl⟩
          · skip
            exact absurd h103 n2
        · skip
          exact absurd h55 n1
/-- the words of the language, packed -/
def wdl : List Nat := [116801202, 542723566, 642960384, 202493952, 676737024, 53837824, 646742016, 642945024, 404455424, 556066976, 291086336, 522190848, 48365568, 486146048, 270139392, 527892480, 384294496, 46530560, 116831726, 437740544, 53477376, 284870656, 408113152, 642955264, 383966208, 638881792, 687214592, 46443680]
def wdv (w : Nat) : Nat := wdl.getD w 0
def WdP (H : xH) : Prop := ∀ w, w < 28 → hI H 3 w = nI (wdv w)
theorem wdv_lt (w : Nat) : wdv w < 1073741824 := by
  by_cases h : w < 28
  · have : ∀ i : Fin 28, wdv i.val < 1073741824 := by decide +kernel
    exact this ⟨w, h⟩
  · unfold wdv; rw [List.getD_eq_getElem?_getD, List.getElem?_eq_none (by exact Nat.le_of_not_lt h)]; decide
theorem fnd_st {f : Nat → Bool} {n : Nat} (h : fnd f n < n) : ∀ d, fnd f (n + d) = fnd f n
  | 0 => rfl
  | d + 1 => by
    have ih := fnd_st h d
    show (if fnd f (n + d) < n + d then fnd f (n + d) else if f (n + d) then n + d else n + d + 1) = fnd f n
    rw [ih, if_pos (by omega)]
/-- the word of a value among the first w, else the kind of a name -/
def nmk (v w : Nat) : Nat := if fnd (fun k => wdv k == v) w < w then fnd (fun k => wdv k == v) w else 39
theorem nmk_0 (v : Nat) : nmk v 0 = 39 := rfl
theorem nmk_n {v w : Nat} (h : w < 28) (h1 : nmk v w = 39) : ¬ fnd (fun k => wdv k == v) w < w := fun e => by unfold nmk at h1; rw [if_pos e] at h1; omega
theorem nmk_s1 {v w : Nat} (h : w < 28) (h1 : nmk v w = 39) (h2 : wdv w ≠ v) : nmk v (w + 1) = 39 := by
  have hn := nmk_n h h1
  have e : fnd (fun k => wdv k == v) (w + 1) = w + 1 := by
    show (if _ then _ else if (wdv w == v) = true then w else w + 1) = _
    rw [if_neg hn, if_neg (by rw [beq_iff_eq]; exact h2)]
  unfold nmk; rw [e, if_neg (Nat.lt_irrefl _)]
theorem nmk_s2 {v w : Nat} (h : w < 28) (h1 : nmk v w = 39) (h2 : wdv w = v) : nmk v (w + 1) = w := by
  have hn := nmk_n h h1
  have e : fnd (fun k => wdv k == v) (w + 1) = w := by
    show (if _ then _ else if (wdv w == v) = true then w else w + 1) = _
    rw [if_neg hn, if_pos (by rw [beq_iff_eq]; exact h2)]
  unfold nmk; rw [e, if_pos (Nat.lt_succ_self _)]
theorem nmk_st {v w : Nat} (h : nmk v w ≠ 39) (hw : w ≤ 28) : nmk v 28 = nmk v w := by
  unfold nmk at h ⊢
  by_cases e : fnd (fun k => wdv k == v) w < w
  · have e2 := fnd_st e (28 - w)
    rw [show w + (28 - w) = 28 by omega] at e2
    rw [e2, if_pos e, if_pos (by omega)]
  · rw [if_neg e] at h; exact absurd rfl h
def kN2 (s : uTk) (i w : Nat) : uTk := (kSz s, kLt s, fun j => if kKd s j = 39 then (if j < i then nmk (kVl s j) 28 else if j = i then nmk (kVl s j) w else kKd s j) else kKd s j, kPl s, kVl s)
theorem kN2_kd (s : uTk) (i w : Nat) : kKd (kN2 s i w) i = if kKd s i = 39 then nmk (kVl s i) w else kKd s i := by
  show (if _ then _ else _) = _
  rw [if_neg (Nat.lt_irrefl i), if_pos rfl]
theorem kN2_e {s : uTk} {i w v : Nat} (h : kKd s i = 39 → nmk (kVl s i) w = nmk (kVl s i) v) : kN2 s i w = kN2 s i v := by
  unfold kN2
  congr 3
  funext j
  by_cases e : kKd s j = 39
  · rw [if_pos e, if_pos e]
    by_cases e2 : j = i
    · subst e2; rw [if_neg (Nat.lt_irrefl j), if_neg (Nat.lt_irrefl j), if_pos rfl, if_pos rfl, h e]
    · rw [if_neg e2, if_neg e2]
  · rw [if_neg e, if_neg e]
theorem kN2_nx (s : uTk) (i : Nat) : kN2 s i 28 = kN2 s (i + 1) 0 := by
  unfold kN2
  congr 3
  funext j
  by_cases e : kKd s j = 39
  · rw [if_pos e, if_pos e]
    rcases Nat.lt_trichotomy j i with h | h | h
    · rw [if_pos h, if_pos (by omega)]
    · rw [if_neg (by omega), if_pos h, if_pos (by omega)]
    · rw [if_neg (by omega), if_neg (by omega), if_neg (by omega)]
      by_cases e2 : j = i + 1
      · rw [if_pos e2, nmk_0, e]
      · rw [if_neg e2]
  · rw [if_neg e, if_neg e]
theorem kN2_0 (s : uTk) : kN2 s 0 0 = s := by
  show (s.1, s.2.1, _, s.2.2.2.1, s.2.2.2.2) = s
  have : (fun j => if kKd s j = 39 then (if j < 0 then nmk (kVl s j) 28 else if j = 0 then nmk (kVl s j) 0 else kKd s j) else kKd s j) = kKd s := by
    funext j
    by_cases e : kKd s j = 39
    · rw [if_pos e, if_neg (Nat.not_lt_zero j), nmk_0, e]; split <;> rfl
    · rw [if_neg e]
  rw [this]
theorem kN2_put {s : uTk} {i w : Nat} (h39 : kKd s i = 39) (h : nmk (kVl s i) (w + 1) = w) : (kSz s, kLt s, uup (kKd (kN2 s i w)) i w, kPl s, kVl s) = kN2 s i (w + 1) := by
  unfold kN2
  congr 3
  funext j
  show (if j = i then w else _) = _
  by_cases e : j = i
  · subst e; rw [if_pos rfl, if_pos h39, if_neg (Nat.lt_irrefl j), if_pos rfl, h]
  · rw [if_neg e]
    by_cases e3 : kKd s j = 39
    · show (if _ then _ else _) = _
      rw [if_pos e3, if_pos e3, if_neg e, if_neg e]
    · show (if _ then _ else _) = _
      rw [if_neg e3, if_neg e3]
theorem c_nameWords (hF : gFx S) (hs : TkP H s) (hwd : WdP H) (hz : kSz s ≤ 701) (hk : ∀ i, i < kSz s → kKd s i ≤ 44 ∧ kVl s i < 1073741824) : Nv mX9_nameWords 0 [.ref 2] S H (fun H' => TkQ H H' (kN2 s (kSz s) 0)) := by
  have lp : ∀ (fz : Nat) (i : Nat) (H1 : xH), kSz s - i < fz → i ≤ kSz s → TkQ H H1 (kN2 s i 0) → Xq mX9_nameWords 0 0 0 2 [some (.ref 2), some (vN i), none] [] S H1 (fun R => ∃ H', (fun H' => TkQ H H' (kN2 s (kSz s) 0)) H' ∧ R = (none, S, H')) := by
    intro fz
    induction fz with
    | zero => intro i  H1  hfz; exact absurd hfz (by omega)
    | succ fz ih =>
      intro i  H1  hfz hi hq
      refine xq_iload_n dX9_nameWords_2 rfl rfl ?_
      refine xq_aload_n dX9_nameWords_3 rfl rfl ?_
      refine xq_getIE (v := nI (kSz s)) clX9 (by decide) rfl fl_RX9_40 dX9_nameWords_4 (Fx.s2 hF) hq.1.1 ?_
      refine xq_icmp_geN dX9_nameWords_7 rfl (by omega) (by omega) ⟨fun h7 => ?_, fun h7 => ?_⟩
      · skip
        refine xq_vret dX9_nameWords_63 rfl ?_
        have e : i = kSz s := by omega
        subst e
        exact ⟨H1, hq, rfl⟩
      · skip
        have hi2 : i < kSz s := by omega
        have oih := ih
        have li : ∀ (fz : Nat) (c : Nat) (H1 : xH), 28 - c < fz → c ≤ 28 → TkQ H H1 (kN2 s i c) → Xq mX9_nameWords 0 0 0 12 [some (.ref 2), some (vN i), some (vN c)] [] S H1 (fun R => ∃ H', (fun H' => TkQ H H' (kN2 s (kSz s) 0)) H' ∧ R = (none, S, H')) := by
          intro fz
          induction fz with
          | zero => intro c  H1  hfz; exact absurd hfz (by omega)
          | succ fz ih =>
            intro c  H1  hfz hc hq
            refine xq_iload_n dX9_nameWords_12 rfl rfl ?_
            refine xq_bipush dX9_nameWords_13 bp28 ?_
            refine xq_icmp_geN dX9_nameWords_15 rfl (by omega) (by omega) ⟨fun h15 => ?_, fun h15 => ?_⟩
            · skip
              refine xq_iincN dX9_nameWords_57 ic1 rfl rfl ?_
              refine xq_goto dX9_nameWords_60 rfl ?_
              have e : c = 28 := by omega
              subst e
              exact xq_fgt (oih (i + 1) H1 (by omega) (by omega) (by rw [← kN2_nx]; exact hq)) (by exact And.intro rfl (And.intro rfl (trivial)))
            · skip
              have hkd := hq.1.2.2 i hi2
              have hk1 := hk i hi2
              have hk2 := kN2_kd s i c
              have hk3 : kKd (kN2 s i c) i < 2147483648 := by
                rw [hk2]; split
                · unfold nmk; split <;> omega
                · omega
              have hw3 := wdv_lt c
              have hk4 : kVl (kN2 s i c) i < 1073741824 := hk1.2
              refine xq_aload_n dX9_nameWords_18 rfl rfl ?_
              refine xq_getF clX9 (by decide) rfl fl_RX9_15 dX9_nameWords_19 (Fx.s2 hF) (Fx.r2_1 hF) ?_
              refine xq_iload_n dX9_nameWords_22 rfl rfl ?_
              refine xq_ialdN dX9_nameWords_23 (Fx.s4 hF) (by omega) (by decide) hkd.1 ?_
              refine xq_bipush dX9_nameWords_24 bp39 ?_
              refine xq_icmp_neN dX9_nameWords_26 rfl (by omega) (by omega) ⟨fun h26 => ?_, fun h26 => ?_⟩
              · skip
                refine xq_iincN dX9_nameWords_57 ic1 rfl rfl ?_
                refine xq_goto dX9_nameWords_60 rfl ?_
                have e : kN2 s i c = kN2 s i 28 := kN2_e (fun h39 => (nmk_st (by rw [hk2, if_pos h39] at h26; exact h26) hc).symm)
                exact xq_fgt (oih (i + 1) H1 (by omega) (by omega) (by rw [← kN2_nx, ← e]; exact hq)) (by exact And.intro rfl (And.intro rfl (trivial)))
              · skip
                refine xq_aload_n dX9_nameWords_29 rfl rfl ?_
                refine xq_getF clX9 (by decide) rfl fl_RX9_21 dX9_nameWords_30 (Fx.s2 hF) (Fx.r2_3 hF) ?_
                refine xq_iload_n dX9_nameWords_33 rfl rfl ?_
                refine xq_ialdN dX9_nameWords_34 (Fx.s6 hF) (by omega) (by decide) hkd.2.2 ?_
                refine xq_aload_n dX9_nameWords_35 rfl rfl ?_
                refine xq_getF clX9 (by decide) rfl fl_RX9_9 dX9_nameWords_36 (Fx.s2 hF) (Fx.r2_0 hF) ?_
                refine xq_iload_n dX9_nameWords_39 rfl rfl ?_
                refine xq_ialdN (v := nI (wdv c)) dX9_nameWords_40 (Fx.s3 hF) (by omega) (by decide) ((hq.2.2.I (by omega) c).trans (hwd c h15)) ?_
                refine xq_icmp_neN dX9_nameWords_41 rfl (by omega) (by omega) ⟨fun h41 => ?_, fun h41 => ?_⟩
                · skip
                  refine xq_iincN dX9_nameWords_51 ic1 rfl rfl ?_
                  refine xq_goto dX9_nameWords_54 rfl ?_
                  have h39 : kKd s i = 39 := by
                    by_cases e : kKd s i = 39
                    · exact e
                    · rw [hk2, if_neg e] at h26; exact h26
                  have hn : nmk (kVl s i) c = 39 := by rw [hk2, if_pos h39] at h26; exact h26
                  exact ih (c + 1) H1 (by omega) (by omega) (by rw [show kN2 s i (c + 1) = kN2 s i c from kN2_e (fun _ => (nmk_s1 h15 hn (fun e => h41 e.symm)).trans hn.symm)]; exact hq)
                · skip
                  refine xq_aload_n dX9_nameWords_44 rfl rfl ?_
                  refine xq_getF clX9 (by decide) rfl fl_RX9_15 dX9_nameWords_45 (Fx.s2 hF) (Fx.r2_1 hF) ?_
                  refine xq_iload_n dX9_nameWords_48 rfl rfl ?_
                  refine xq_iload_n dX9_nameWords_49 rfl rfl ?_
                  refine xq_iastN dX9_nameWords_50 (Fx.s4 hF) (by omega) (by decide) ?_
                  refine xq_iincN dX9_nameWords_51 ic1 rfl rfl ?_
                  refine xq_goto dX9_nameWords_54 rfl ?_
                  have h39 : kKd s i = 39 := by
                    by_cases e : kKd s i = 39
                    · exact e
                    · rw [hk2, if_neg e] at h26; exact h26
                  have hn : nmk (kVl s i) c = 39 := by rw [hk2, if_pos h39] at h26; exact h26
                  exact ih (c + 1) _ (by omega) (by omega) (by rw [← kN2_put h39 (nmk_s2 h15 hn h41.symm)]; exact hq.kd c)
        refine xq_iconst dX9_nameWords_10 ic0 ?_
        refine xq_istore_n dX9_nameWords_11 rfl rfl ?_
        exact li 29 0 H1 (by omega) (by omega) hq
  refine vq_intro (by decide) (by exact Nat.le_of_ble_eq_true rfl) rfl ?_
  refine xq_iconst dX9_nameWords_0 ic0 ?_
  refine xq_istore_n dX9_nameWords_1 rfl rfl ?_
  exact lp 702 0 H (by omega) (by omega) (by rw [kN2_0]; exact hs.tq)
/-- the tokens in the hand of the reader: how far, fault -/
def TrP (H : xH) (s : uTk) (n : Nat) : Prop := TkP H s ∧ hI H 2 5 = nI n
def TrOk (s : uTk) : Prop := kSz s ≤ 701 ∧ ∀ i, i < kSz s → kKd s i ≤ 44 ∧ kPl s i ≤ 700 ∧ kVl s i < 1073741824
def kK (s : uTk) (n : Nat) : Nat := if n < kSz s then kKd s n else 44
def kV (s : uTk) (n : Nat) : Nat := if n < kSz s then kVl s n else 0
def kP (s : uTk) (n : Nat) : Int := if n < kSz s then (kPl s n : Int) else -1
theorem kK_le (h : TrOk s) : kK s n ≤ 44 := by
  unfold kK; split
  · exact (h.2 n ‹_›).1
  · omega
theorem kV_le (h : TrOk s) : kV s n < 1073741824 := by
  unfold kV; split
  · exact (h.2 n ‹_›).2.2
  · omega
/-- a fault is said: its code, its place -/
def FaQ (H H' : xH) (s : uTk) (n x : Nat) : Prop := hI H' 2 7 = nI x ∧ hI H' 2 8 = zI (kP s n) ∧ (∀ k, k ≠ 7 → k ≠ 8 → hI H' 2 k = hI H 2 k) ∧ Off (fun q => q = 2) H H'
theorem TrP.fa (h : TrP H s n) {x : Nat} (hq : FaQ H H1 s n x) : TrP H1 s n := ⟨⟨(hq.2.2.1 4 (by decide) (by decide)).trans h.1.1, (hq.2.2.1 6 (by decide) (by decide)).trans h.1.2.1, fun j hj => by rw [hq.2.2.2.I (by omega), hq.2.2.2.I (by omega), hq.2.2.2.I (by omega)]; exact h.1.2.2 j hj⟩, (hq.2.2.1 5 (by decide) (by decide)).trans h.2⟩
theorem c_kind (hF : gFx S) (hs : TrP H s n) (hk : TrOk s) (hn : n ≤ 800) : Pv mX9_kind 0 [.ref 2] S H (vN (kK s n)) := by
  have hk0 := hk.1
  refine vq_ev (vq_intro (by decide) (by exact Nat.le_of_ble_eq_true rfl) rfl ?_)
  refine xq_aload_n dX9_kind_0 rfl rfl ?_
  refine xq_getIE clX9 (by decide) rfl fl_RX9_43 dX9_kind_1 (Fx.s2 hF) hs.2 ?_
  refine xq_aload_n dX9_kind_4 rfl rfl ?_
  refine xq_getIE clX9 (by decide) rfl fl_RX9_40 dX9_kind_5 (Fx.s2 hF) hs.1.1 ?_
  refine xq_icmp_geN dX9_kind_8 rfl (by omega) (by omega) ⟨fun h8 => ?_, fun h8 => ?_⟩
  · skip
    refine xq_bipush dX9_kind_23 bp44 ?_
    refine xq_iret dX9_kind_25 rfl ?_
    show _ = _; rw [show kK s n = _ from if_neg (by omega)]
  · skip
    refine xq_aload_n dX9_kind_11 rfl rfl ?_
    refine xq_getF clX9 (by decide) rfl fl_RX9_15 dX9_kind_12 (Fx.s2 hF) (Fx.r2_1 hF) ?_
    refine xq_aload_n dX9_kind_15 rfl rfl ?_
    refine xq_getIE clX9 (by decide) rfl fl_RX9_43 dX9_kind_16 (Fx.s2 hF) hs.2 ?_
    refine xq_ialdN dX9_kind_19 (Fx.s4 hF) (by omega) (by decide) (hs.1.2.2 n h8).1 ?_
    refine xq_goto dX9_kind_20 rfl ?_
    refine xq_iret dX9_kind_25 rfl ?_
    show _ = _; rw [show kK s n = _ from if_pos h8]
theorem c_value (hF : gFx S) (hs : TrP H s n) (hk : TrOk s) (hn : n ≤ 800) : Pv mX9_value 0 [.ref 2] S H (vN (kV s n)) := by
  have hk0 := hk.1
  refine vq_ev (vq_intro (by decide) (by exact Nat.le_of_ble_eq_true rfl) rfl ?_)
  refine xq_aload_n dX9_value_0 rfl rfl ?_
  refine xq_getIE clX9 (by decide) rfl fl_RX9_43 dX9_value_1 (Fx.s2 hF) hs.2 ?_
  refine xq_aload_n dX9_value_4 rfl rfl ?_
  refine xq_getIE clX9 (by decide) rfl fl_RX9_40 dX9_value_5 (Fx.s2 hF) hs.1.1 ?_
  refine xq_icmp_geN dX9_value_8 rfl (by omega) (by omega) ⟨fun h8 => ?_, fun h8 => ?_⟩
  · skip
    refine xq_iconst dX9_value_23 ic0 ?_
    refine xq_iret dX9_value_24 rfl ?_
    show _ = _; rw [show kV s n = _ from if_neg (by omega)]
  · skip
    refine xq_aload_n dX9_value_11 rfl rfl ?_
    refine xq_getF clX9 (by decide) rfl fl_RX9_21 dX9_value_12 (Fx.s2 hF) (Fx.r2_3 hF) ?_
    refine xq_aload_n dX9_value_15 rfl rfl ?_
    refine xq_getIE clX9 (by decide) rfl fl_RX9_43 dX9_value_16 (Fx.s2 hF) hs.2 ?_
    refine xq_ialdN dX9_value_19 (Fx.s6 hF) (by omega) (by decide) (hs.1.2.2 n h8).2.2 ?_
    refine xq_goto dX9_value_20 rfl ?_
    refine xq_iret dX9_value_24 rfl ?_
    show _ = _; rw [show kV s n = _ from if_pos h8]
theorem c_step (hF : gFx S) (hs : TrP H s n) (hk : TrOk s) (hn : n ≤ 800) : Nv mX9_step 0 [.ref 2] S H (fun H' => H' = sI H 2 5 (nI (n + 1))) := by
  refine vq_intro (by decide) (by exact Nat.le_of_ble_eq_true rfl) rfl ?_
  refine xq_aload_n dX9_step_0 rfl rfl ?_
  refine xq_dup dX9_step_1 rfl ?_
  refine xq_getIE clX9 (by decide) rfl fl_RX9_43 dX9_step_2 (Fx.s2 hF) hs.2 ?_
  refine xq_iconst dX9_step_5 ic1 ?_
  refine xq_iaddN dX9_step_6 ?_
  refine xq_putI clX9 (by decide) rfl fl_RX9_43 (Or.inl rfl) dX9_step_7 ⟨rfl, rfl⟩ (Fx.s2 hF) ?_
  refine xq_vret dX9_step_10 rfl ?_
  exact ⟨_, rfl, rfl⟩
theorem c_fail (hF : gFx S) (hs : TrP H s n) (hk : TrOk s) (hn : n ≤ 800) (hc : c ≤ 100) : Hv mX9_fail 0 [.ref 2, vN c] S H vN (fun x H' => x = 0 ∧ FaQ H H' s n c) := by
  have hk0 := hk.1
  refine vq_intro (by decide) (by exact Nat.le_of_ble_eq_true rfl) rfl ?_
  refine xq_aload_n dX9_fail_0 rfl rfl ?_
  refine xq_iload_n dX9_fail_1 rfl rfl ?_
  refine xq_putI clX9 (by decide) rfl fl_RX9_46 (Or.inl rfl) dX9_fail_2 ⟨rfl, rfl⟩ (Fx.s2 hF) ?_
  refine xq_aload_n dX9_fail_5 rfl rfl ?_
  refine xq_aload_n dX9_fail_6 rfl rfl ?_
  refine xq_getIE (v := nI n) clX9 (by decide) rfl fl_RX9_43 dX9_fail_7 (Fx.s2 hF) (by rw [hI_sI, if_neg (by omega)]; exact hs.2) ?_
  refine xq_aload_n dX9_fail_10 rfl rfl ?_
  refine xq_getIE (v := nI (kSz s)) clX9 (by decide) rfl fl_RX9_40 dX9_fail_11 (Fx.s2 hF) (by rw [hI_sI, if_neg (by omega)]; exact hs.1.1) ?_
  refine xq_icmp_geN dX9_fail_14 rfl (by omega) (by omega) ⟨fun h14 => ?_, fun h14 => ?_⟩
  · skip
    refine xq_iconst dX9_fail_29 icm1 ?_
    refine xq_putI clX9 (by decide) rfl fl_RX9_24 (Or.inl rfl) dX9_fail_30 ⟨rfl, rfl⟩ (Fx.s2 hF) ?_
    refine xq_iconst dX9_fail_33 ic0 ?_
    refine xq_zret dX9_fail_34 rfl (by decide) ?_
    refine ⟨0, _, ⟨rfl, by rw [hI_sI, if_neg (by omega), hI_sI, if_pos ⟨rfl, rfl⟩], ?_, fun k a b => by rw [hI_sI, if_neg (by omega), hI_sI, if_neg (by omega)], Off.pI (A := fun q => q = 2) (Off.pI (A := fun q => q = 2) Off.rf rfl _ _) rfl _ _⟩, rfl⟩
    rw [hI_sI, if_pos ⟨rfl, rfl⟩]; unfold kP; rw [if_neg (by omega)]; exact zm1.symm ▸ rfl
  · skip
    refine xq_aload_n dX9_fail_17 rfl rfl ?_
    refine xq_getF clX9 (by decide) rfl fl_RX9_18 dX9_fail_18 (Fx.s2 hF) (Fx.r2_2 hF) ?_
    refine xq_aload_n dX9_fail_21 rfl rfl ?_
    refine xq_getIE clX9 (by decide) rfl fl_RX9_43 dX9_fail_22 (Fx.s2 hF) hs.2 ?_
    refine xq_ialdN dX9_fail_25 (Fx.s5 hF) (by omega) (by decide) (((hI_sI _ _ _ _ _ _).trans (if_neg (by omega))).trans (hs.1.2.2 n h14).2.1) ?_
    refine xq_goto dX9_fail_26 rfl ?_
    refine xq_putI clX9 (by decide) rfl fl_RX9_24 (Or.inl rfl) dX9_fail_30 ⟨rfl, rfl⟩ (Fx.s2 hF) ?_
    refine xq_iconst dX9_fail_33 ic0 ?_
    refine xq_zret dX9_fail_34 rfl (by decide) ?_
    refine ⟨0, _, ⟨rfl, by rw [hI_sI, if_neg (by omega), hI_sI, if_pos ⟨rfl, rfl⟩], ?_, fun k a b => by rw [hI_sI, if_neg (by omega), hI_sI, if_neg (by omega)], Off.pI (A := fun q => q = 2) (Off.pI (A := fun q => q = 2) Off.rf rfl _ _) rfl _ _⟩, rfl⟩
    rw [hI_sI, if_pos ⟨rfl, rfl⟩]; unfold kP; rw [if_pos h14]; rfl
def numB (s : uTk) (n m : Nat) : Bool := decide (kK s n = 38 ∧ kV s n ≤ m)
def numF (s : uTk) (n : Nat) : Nat := if kK s n = 38 then 2 else 1
def fdn (cd : Nat → Nat) (sz v : Nat) : Nat := fnd (fun j => decide (nI (cd j) = nI v)) sz
def freB (s : uTk) (n : Nat) (cd : Nat → Nat) (sz : Nat) : Bool := decide (kK s n = 39 ∧ ¬ fdn cd sz (kV s n) < sz)
def freF (s : uTk) (n : Nat) : Nat := if kK s n = 39 then 3 else 1
def knoF (s : uTk) (n : Nat) : Nat := if kK s n = 39 then 4 else 1
def knoZ (s : uTk) (n : Nat) (cd : Nat → Nat) (sz : Nat) : Int := if kK s n = 39 then fdz (fun j => decide (nI (cd j) = nI (kV s n))) sz else -1
theorem c_isNumber (hF : gFx S) (hs : TrP H s n) (hk : TrOk s) (hn : n ≤ 800) (hm : m < 2147483648) : Hv mX9_isNumber 1 [.ref 2, vN m] S H vB (fun x H' => x = numB s n m ∧ (x = true → H' = H) ∧ (x = false → FaQ H H' s n (numF s n))) := by
  have hk0 := hk.1
  have hkk := kK_le (n := n) hk
  have hkv := kV_le (n := n) hk
  refine vq_intro (by decide) (by exact Nat.le_of_ble_eq_true rfl) rfl ?_
  refine xq_aload_n dX9_isNumber_0 rfl rfl ?_
  refine xq_callV0P clX9 gd_X9_kind dX9_isNumber_1 ml_RX9_80 im_X9_kind se_X9_kind rfl (Fx.s2 hF) (by exact Nat.le_of_ble_eq_true rfl) (by decide) (c_kind hF hs hk hn) ?_
  refine xq_bipush dX9_isNumber_4 bp38 ?_
  refine xq_icmp_eqN dX9_isNumber_6 rfl (by omega) (by omega) ⟨fun h6 => ?_, fun h6 => ?_⟩
  · skip
    refine xq_aload_n dX9_isNumber_15 rfl rfl ?_
    refine xq_callV0P clX9 gd_X9_value dX9_isNumber_16 ml_RX9_87 im_X9_value se_X9_value rfl (Fx.s2 hF) (by exact Nat.le_of_ble_eq_true rfl) (by decide) (c_value hF hs hk hn) ?_
    refine xq_iload_n dX9_isNumber_19 rfl rfl ?_
    refine xq_icmp_leN dX9_isNumber_20 rfl (by omega) (by omega) ⟨fun h20 => ?_, fun h20 => ?_⟩
    · skip
      refine xq_iconst dX9_isNumber_31 ic1 ?_
      refine xq_goto dX9_isNumber_32 rfl ?_
      refine xq_zret dX9_isNumber_36 rfl (by decide) ?_
      exact ⟨true, H, ⟨by rw [show numB s n m = true from decide_eq_true ⟨h6, h20⟩], fun _ => rfl, fun e => absurd e (by decide)⟩, rfl⟩
    · skip
      refine xq_aload_n dX9_isNumber_23 rfl rfl ?_
      refine xq_iconst dX9_isNumber_24 ic2 ?_
      refine xq_callV1H clX9 gd_X9_fail dX9_isNumber_25 ml_RX9_83 im_X9_fail se_X9_fail rfl (Fx.s2 hF) (by exact Nat.le_of_ble_eq_true rfl) (by decide) (c_fail hF hs hk hn (c := 2) (by decide)) ?_
      intro x25 H25 p25
      obtain ⟨rfl, q25⟩ := p25
      refine xq_if_eqN dX9_isNumber_28 rfl (by omega) ⟨fun h28 => ?_, fun h28 => ?_⟩
      · skip
        refine xq_iconst dX9_isNumber_35 ic0 ?_
        refine xq_zret dX9_isNumber_36 rfl (by decide) ?_
        exact ⟨false, H25, ⟨by rw [show numB s n m = false from decide_eq_false (fun e => by omega)], fun e => absurd e (by decide), fun _ => by rw [show numF s n = _ from if_pos h6]; exact q25⟩, rfl⟩
      · skip
        exact absurd rfl h28
  · skip
    refine xq_aload_n dX9_isNumber_9 rfl rfl ?_
    refine xq_iconst dX9_isNumber_10 ic1 ?_
    refine xq_callV1H clX9 gd_X9_fail dX9_isNumber_11 ml_RX9_83 im_X9_fail se_X9_fail rfl (Fx.s2 hF) (by exact Nat.le_of_ble_eq_true rfl) (by decide) (c_fail hF hs hk hn (c := 1) (by decide)) ?_
    intro x11 H11 p11
    obtain ⟨rfl, q11⟩ := p11
    refine xq_zret dX9_isNumber_14 rfl (by decide) ?_
    exact ⟨false, H11, ⟨by rw [show numB s n m = false from decide_eq_false (fun e => h6 e.1)], fun e => absurd e (by decide), fun _ => by rw [show numF s n = _ from if_neg h6]; exact q11⟩, rfl⟩
theorem c_isFresh (hF : gFx S) (hs : TrP H s n) (hk : TrOk s) (hn : n ≤ 800) {cd : Nat → Nat} {sz : Nat} (hg : gNm S m c) (hnm : NmP H m sz cd) (hsz : sz ≤ c) (hc : c ≤ 10) : Hv mX9_isFresh 1 [.ref 2, .ref m] S H vB (fun x H' => x = freB s n cd sz ∧ (x = true → H' = H) ∧ (x = false → FaQ H H' s n (freF s n))) := by
  have hk0 := hk.1
  have hkk := kK_le (n := n) hk
  have hkv := kV_le (n := n) hk
  have hfl := fnd_le (fun j => decide (nI (cd j) = nI (kV s n))) sz
  have hfz : (fdz (fun j => decide (nI (cd j) = nI (kV s n))) sz < 0) ↔ ¬ fdn cd sz (kV s n) < sz := by
    unfold fdz fdn; split <;> omega
  have hfr : -1 ≤ fdz (fun j => decide (nI (cd j) = nI (kV s n))) sz ∧ fdz (fun j => decide (nI (cd j) = nI (kV s n))) sz < 100 := by
    unfold fdz; split <;> omega
  refine vq_intro (by decide) (by exact Nat.le_of_ble_eq_true rfl) rfl ?_
  refine xq_aload_n dX9_isFresh_0 rfl rfl ?_
  refine xq_callV0P clX9 gd_X9_kind dX9_isFresh_1 ml_RX9_80 im_X9_kind se_X9_kind rfl (Fx.s2 hF) (by exact Nat.le_of_ble_eq_true rfl) (by decide) (c_kind hF hs hk hn) ?_
  refine xq_bipush dX9_isFresh_4 bp39 ?_
  refine xq_icmp_eqN dX9_isFresh_6 rfl (by omega) (by omega) ⟨fun h6 => ?_, fun h6 => ?_⟩
  · skip
    refine xq_aload_n dX9_isFresh_15 rfl rfl ?_
    refine xq_aload_n dX9_isFresh_16 rfl rfl ?_
    refine xq_callV0P clX9 gd_X9_value dX9_isFresh_17 ml_RX9_87 im_X9_value se_X9_value rfl (Fx.s2 hF) (by exact Nat.le_of_ble_eq_true rfl) (by decide) (c_value hF hs hk hn) ?_
    refine xq_callV1P clX5 gd_X5_find dX9_isFresh_20 ml_RX9_90 im_X5_find se_X5_find rfl (Nm.s0 hg) (by exact Nat.le_of_ble_eq_true rfl) (by decide) (c_find hg hnm hsz hc) ?_
    refine xq_if_lt dX9_isFresh_23 rfl ⟨fun h23 => ?_, fun h23 => ?_⟩
    · skip
      refine xq_iconst dX9_isFresh_34 ic1 ?_
      refine xq_goto dX9_isFresh_35 rfl ?_
      refine xq_zret dX9_isFresh_39 rfl (by decide) ?_
      exact ⟨true, H, ⟨by rw [show freB s n cd sz = true from decide_eq_true ⟨h6, hfz.mp ((zI_lt0 (by omega) (by omega)).mp h23)⟩], fun _ => rfl, fun e => absurd e (by decide)⟩, rfl⟩
    · skip
      refine xq_aload_n dX9_isFresh_26 rfl rfl ?_
      refine xq_iconst dX9_isFresh_27 ic3 ?_
      refine xq_callV1H clX9 gd_X9_fail dX9_isFresh_28 ml_RX9_83 im_X9_fail se_X9_fail rfl (Fx.s2 hF) (by exact Nat.le_of_ble_eq_true rfl) (by decide) (c_fail hF hs hk hn (c := 3) (by decide)) ?_
      intro x28 H28 p28
      obtain ⟨rfl, q28⟩ := p28
      refine xq_if_eqN dX9_isFresh_31 rfl (by omega) ⟨fun h31 => ?_, fun h31 => ?_⟩
      · skip
        refine xq_iconst dX9_isFresh_38 ic0 ?_
        refine xq_zret dX9_isFresh_39 rfl (by decide) ?_
        exact ⟨false, H28, ⟨by rw [show freB s n cd sz = false from decide_eq_false (fun e => h23 ((zI_lt0 (by omega) (by omega)).mpr (hfz.mpr e.2)))], fun e => absurd e (by decide), fun _ => by rw [show freF s n = _ from if_pos h6]; exact q28⟩, rfl⟩
      · skip
        exact absurd rfl h31
  · skip
    refine xq_aload_n dX9_isFresh_9 rfl rfl ?_
    refine xq_iconst dX9_isFresh_10 ic1 ?_
    refine xq_callV1H clX9 gd_X9_fail dX9_isFresh_11 ml_RX9_83 im_X9_fail se_X9_fail rfl (Fx.s2 hF) (by exact Nat.le_of_ble_eq_true rfl) (by decide) (c_fail hF hs hk hn (c := 1) (by decide)) ?_
    intro x11 H11 p11
    obtain ⟨rfl, q11⟩ := p11
    refine xq_zret dX9_isFresh_14 rfl (by decide) ?_
    exact ⟨false, H11, ⟨by rw [show freB s n cd sz = false from decide_eq_false (fun e => h6 e.1)], fun e => absurd e (by decide), fun _ => by rw [show freF s n = _ from if_neg h6]; exact q11⟩, rfl⟩
theorem c_known (hF : gFx S) (hs : TrP H s n) (hk : TrOk s) (hn : n ≤ 800) {cd : Nat → Nat} {sz : Nat} (hg : gNm S m c) (hnm : NmP H m sz cd) (hsz : sz ≤ c) (hc : c ≤ 10) : Hv mX9_known 1 [.ref 2, .ref m] S H vZ (fun x H' => x = knoZ s n cd sz ∧ (0 ≤ x → H' = H) ∧ (x < 0 → FaQ H H' s n (knoF s n))) := by
  have hk0 := hk.1
  have hkk := kK_le (n := n) hk
  have hkv := kV_le (n := n) hk
  have hfl := fnd_le (fun j => decide (nI (cd j) = nI (kV s n))) sz
  have hfz : (fdz (fun j => decide (nI (cd j) = nI (kV s n))) sz < 0) ↔ ¬ fdn cd sz (kV s n) < sz := by
    unfold fdz fdn; split <;> omega
  have hfr : -1 ≤ fdz (fun j => decide (nI (cd j) = nI (kV s n))) sz ∧ fdz (fun j => decide (nI (cd j) = nI (kV s n))) sz < 100 := by
    unfold fdz; split <;> omega
  refine vq_intro (by decide) (by exact Nat.le_of_ble_eq_true rfl) rfl ?_
  refine xq_aload_n dX9_known_0 rfl rfl ?_
  refine xq_callV0P clX9 gd_X9_kind dX9_known_1 ml_RX9_80 im_X9_kind se_X9_kind rfl (Fx.s2 hF) (by exact Nat.le_of_ble_eq_true rfl) (by decide) (c_kind hF hs hk hn) ?_
  refine xq_bipush dX9_known_4 bp39 ?_
  refine xq_icmp_eqN dX9_known_6 rfl (by omega) (by omega) ⟨fun h6 => ?_, fun h6 => ?_⟩
  · skip
    refine xq_aload_n dX9_known_17 rfl rfl ?_
    refine xq_aload_n dX9_known_18 rfl rfl ?_
    refine xq_callV0P clX9 gd_X9_value dX9_known_19 ml_RX9_87 im_X9_value se_X9_value rfl (Fx.s2 hF) (by exact Nat.le_of_ble_eq_true rfl) (by decide) (c_value hF hs hk hn) ?_
    refine xq_callV1P clX5 gd_X5_find dX9_known_22 ml_RX9_90 im_X5_find se_X5_find rfl (Nm.s0 hg) (by exact Nat.le_of_ble_eq_true rfl) (by decide) (c_find hg hnm hsz hc) ?_
    refine xq_istore_n dX9_known_25 rfl rfl ?_
    refine xq_iload_n dX9_known_26 rfl rfl ?_
    refine xq_if_ge dX9_known_27 rfl ⟨fun h27 => ?_, fun h27 => ?_⟩
    · skip
      refine xq_iload_n dX9_known_36 rfl rfl ?_
      refine xq_iret dX9_known_37 rfl ?_
      refine ⟨knoZ s n cd sz, H, ⟨rfl, fun _ => rfl, fun e => ?_⟩, by rw [show knoZ s n cd sz = _ from if_pos h6]⟩
      rw [show knoZ s n cd sz = _ from if_pos h6] at e; exact absurd ((zI_lt0 (by omega) (by omega)).mpr e) (Int32.not_lt.mpr h27)
    · skip
      refine xq_aload_n dX9_known_30 rfl rfl ?_
      refine xq_iconst dX9_known_31 ic4 ?_
      refine xq_callV1H clX9 gd_X9_fail dX9_known_32 ml_RX9_83 im_X9_fail se_X9_fail rfl (Fx.s2 hF) (by exact Nat.le_of_ble_eq_true rfl) (by decide) (c_fail hF hs hk hn (c := 4) (by decide)) ?_
      intro x32 H32 p32
      obtain ⟨rfl, q32⟩ := p32
      refine xq_pop dX9_known_35 rfl ?_
      refine xq_iload_n dX9_known_36 rfl rfl ?_
      refine xq_iret dX9_known_37 rfl ?_
      refine ⟨knoZ s n cd sz, H32, ⟨rfl, fun e => ?_, fun _ => by rw [show knoF s n = 4 from if_pos h6]; exact q32⟩, by rw [show knoZ s n cd sz = _ from if_pos h6]⟩
      rw [show knoZ s n cd sz = _ from if_pos h6] at e; exact absurd ((zI_lt0 (by omega) (by omega)).mp (Int32.not_le.mp h27)) (by omega)
  · skip
    refine xq_aload_n dX9_known_9 rfl rfl ?_
    refine xq_iconst dX9_known_10 ic1 ?_
    refine xq_callV1H clX9 gd_X9_fail dX9_known_11 ml_RX9_83 im_X9_fail se_X9_fail rfl (Fx.s2 hF) (by exact Nat.le_of_ble_eq_true rfl) (by decide) (c_fail hF hs hk hn (c := 1) (by decide)) ?_
    intro x11 H11 p11
    obtain ⟨rfl, q11⟩ := p11
    refine xq_pop dX9_known_14 rfl ?_
    refine xq_iconst dX9_known_15 icm1 ?_
    refine xq_iret dX9_known_16 rfl ?_
    exact ⟨-1, H11, ⟨by rw [show knoZ s n cd sz = -1 from if_neg h6], fun e => absurd e (by decide), fun _ => by rw [show knoF s n = 1 from if_neg h6]; exact q11⟩, by rw [zm1]⟩
theorem c_endsLine (hF : gFx S) (hs : TrP H s n) (hk : TrOk s) (hn : n ≤ 800) : Hv mX9_endsLine 1 [.ref 2] S H vB (fun x H' => x = decide (kK s n = 40) ∧ (x = true → H' = sI H 2 5 (nI (n + 1))) ∧ (x = false → FaQ H H' s n 1)) := by
  have hk0 := hk.1
  have hkk := kK_le (n := n) hk
  have hkv := kV_le (n := n) hk
  refine vq_intro (by decide) (by exact Nat.le_of_ble_eq_true rfl) rfl ?_
  refine xq_aload_n dX9_endsLine_0 rfl rfl ?_
  refine xq_callV0P clX9 gd_X9_kind dX9_endsLine_1 ml_RX9_80 im_X9_kind se_X9_kind rfl (Fx.s2 hF) (by exact Nat.le_of_ble_eq_true rfl) (by decide) (c_kind hF hs hk hn) ?_
  refine xq_bipush dX9_endsLine_4 bp40 ?_
  refine xq_icmp_eqN dX9_endsLine_6 rfl (by omega) (by omega) ⟨fun h6 => ?_, fun h6 => ?_⟩
  · skip
    refine xq_aload_n dX9_endsLine_15 rfl rfl ?_
    refine xq_dup dX9_endsLine_16 rfl ?_
    refine xq_getIE clX9 (by decide) rfl fl_RX9_43 dX9_endsLine_17 (Fx.s2 hF) hs.2 ?_
    refine xq_iconst dX9_endsLine_20 ic1 ?_
    refine xq_iaddN dX9_endsLine_21 ?_
    refine xq_putI clX9 (by decide) rfl fl_RX9_43 (Or.inl rfl) dX9_endsLine_22 ⟨rfl, rfl⟩ (Fx.s2 hF) ?_
    refine xq_iconst dX9_endsLine_25 ic1 ?_
    refine xq_zret dX9_endsLine_26 rfl (by decide) ?_
    exact ⟨true, _, ⟨(decide_eq_true h6).symm, fun _ => rfl, fun e => absurd e (by decide)⟩, rfl⟩
  · skip
    refine xq_aload_n dX9_endsLine_9 rfl rfl ?_
    refine xq_iconst dX9_endsLine_10 ic1 ?_
    refine xq_callV1H clX9 gd_X9_fail dX9_endsLine_11 ml_RX9_83 im_X9_fail se_X9_fail rfl (Fx.s2 hF) (by exact Nat.le_of_ble_eq_true rfl) (by decide) (c_fail hF hs hk hn (c := 1) (by decide)) ?_
    intro x11 H11 p11
    obtain ⟨rfl, q11⟩ := p11
    refine xq_zret dX9_endsLine_14 rfl (by decide) ?_
    exact ⟨false, H11, ⟨(decide_eq_false h6).symm, fun e => absurd e (by decide), fun _ => q11⟩, rfl⟩
end TK
