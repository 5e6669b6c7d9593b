/-! ===== Text.clear, Tokens ===== -/
section TK
variable {S : xS} {H H1 : xH} {t k p q f i j l m n c : Nat} {T : uTx}
/-- a text that says nothing yet -/
def tx0 : uTx := (fun _ _ => 0, fun _ _ => 0)
theorem c_clear (ht : gTx S t) (ht24 : 24 ≤ t) (ht45 : t ≤ 45) : Nv mX8_clear 0 [.ref t] S H (fun H' => TxP H' t tx0 ∧ hI H' (t + 7) 4 = nI 0 ∧ Off (fun q => t ≤ q ∧ q < t + 21) H H') := by
  have lp : ∀ (fz : Nat) (i : Nat) (H1 : xH), 6 - i < fz → i ≤ 6 → (hI H1 (t + 1) 1 = nI 0 ∧ hI H1 (t + 3) 1 = nI 0 ∧ hI H1 (t + 5) 1 = nI 0 ∧ hI H1 (t + 7) 3 = nI 0 ∧ hI H1 (t + 7) 4 = nI 0 ∧ hI H1 t 9 = nI 0 ∧ hI H1 t 12 = nI 0 ∧ hI H1 t 16 = -1 ∧ hI H1 t 17 = -1 ∧ hI H1 t 18 = nI 0) → (∀ k, k < i → hI H1 (t + 13) k = nI 0) → Off (fun q => t ≤ q ∧ q < t + 21) H H1 → Xq mX8_clear 0 0 0 67 [some (.ref t), some (vN i)] [] S H1 (fun R => ∃ H', (fun H' => TxP H' t tx0 ∧ hI H' (t + 7) 4 = nI 0 ∧ Off (fun q => t ≤ q ∧ q < t + 21) H H') H' ∧ R = (none, S, H')) := by
    intro fz
    induction fz with
    | zero => intro i  H1  hfz; exact absurd hfz (by omega)
    | succ fz ih =>
      intro i  H1  hfz hi hf hs ho
      refine xq_iload_n dX8_clear_67 rfl rfl ?_
      refine xq_bipush dX8_clear_68 bp6 ?_
      refine xq_icmp_geN dX8_clear_70 rfl (by omega) (by omega) ⟨fun h70 => ?_, fun h70 => ?_⟩
      · skip
        refine xq_aload_n dX8_clear_86 rfl rfl ?_
        refine xq_getF clX8 (by decide) rfl fl_RX8_62 dX8_clear_87 (Tx.s0 ht) (Tx.r15 ht) ?_
        refine xq_iconst dX8_clear_90 ic0 ?_
        refine xq_lconst dX8_clear_91 lc0 ?_
        refine xq_lastN dX8_clear_92 (Tx.s20 ht) (by omega) (by decide) ?_
        refine xq_aload_n dX8_clear_93 rfl rfl ?_
        refine xq_getF clX8 (by decide) rfl fl_RX8_62 dX8_clear_94 (Tx.s0 ht) (Tx.r15 ht) ?_
        refine xq_iconst dX8_clear_97 ic1 ?_
        refine xq_lconst dX8_clear_98 lc0 ?_
        refine xq_lastN dX8_clear_99 (Tx.s20 ht) (by omega) (by decide) ?_
        refine xq_vret dX8_clear_100 rfl ?_
        obtain ⟨f1, f2, f3, f4, f5, f6, f7, f8, f9, f10⟩ := hf
        refine ⟨sL (sL H1 (t + 20) 0 0) (t + 20) 1 0, ⟨⟨f1, f2, f3, f4, fun k hk => absurd hk (Nat.not_lt_zero k), fun k hk => absurd hk (Nat.not_lt_zero k), fun k hk => absurd hk (Nat.not_lt_zero k), fun k hk => hs k (by omega), fun k hk => absurd hk (Nat.not_lt_zero k), f6, fun k hk => absurd hk (Nat.not_lt_zero k), f7, fun k hk => absurd hk (Nat.not_lt_zero k), fun k hk => ⟨?_, fun e => absurd rfl e⟩, f8, f9, f10⟩, f5, Off.pL (A := fun q => t ≤ q ∧ q < t + 21) (Off.pL (A := fun q => t ≤ q ∧ q < t + 21) ho (by omega) _ _) (by omega) _ _⟩, rfl⟩
        show hL (sL (sL H1 (t + 20) 0 0) (t + 20) 1 0) (t + 20) k = 0
        rcases (by omega : k = 0 ∨ k = 1) with e | e <;> subst e <;> simp [hL_sL]
      · skip
        refine xq_aload_n dX8_clear_73 rfl rfl ?_
        refine xq_getF clX8 (by decide) rfl fl_RX8_40 dX8_clear_74 (Tx.s0 ht) (Tx.r6 ht) ?_
        refine xq_iload_n dX8_clear_77 rfl rfl ?_
        refine xq_iconst dX8_clear_78 ic0 ?_
        refine xq_iastN dX8_clear_79 (Tx.s13 ht) (by omega) (by decide) ?_
        refine xq_iincN dX8_clear_80 ic1 rfl rfl ?_
        refine xq_goto dX8_clear_83 rfl ?_
        refine ih (i + 1) _ (by omega) (by omega) ?_ (fun k hk => ?_) (Off.pI (A := fun q => t ≤ q ∧ q < t + 21) ho (by omega) _ _)
        · simp only [hI_sI]; simpa using hf
        · rw [hI_sI]
          by_cases e : k = i
          · rw [if_pos ⟨rfl, e⟩]
          · rw [if_neg (fun z => e z.2)]; exact hs k (by omega)
  refine vq_intro (by decide) (by exact Nat.le_of_ble_eq_true rfl) rfl ?_
  refine xq_aload_n dX8_clear_0 rfl rfl ?_
  refine xq_getF clX8 (by decide) rfl fl_RX8_14 dX8_clear_1 (Tx.s0 ht) (Tx.r0 ht) ?_
  refine xq_iconst dX8_clear_4 ic0 ?_
  refine xq_putI clX5 (by decide) rfl fl_RX8_72 (Or.inl rfl) dX8_clear_5 ⟨rfl, rfl⟩ (Nm.s0 (Tx.n1 ht)) ?_
  refine xq_aload_n dX8_clear_8 rfl rfl ?_
  refine xq_getF clX8 (by decide) rfl fl_RX8_20 dX8_clear_9 (Tx.s0 ht) (Tx.r1 ht) ?_
  refine xq_iconst dX8_clear_12 ic0 ?_
  refine xq_putI clX5 (by decide) rfl fl_RX8_72 (Or.inl rfl) dX8_clear_13 ⟨rfl, rfl⟩ (Nm.s0 (Tx.n3 ht)) ?_
  refine xq_aload_n dX8_clear_16 rfl rfl ?_
  refine xq_getF clX8 (by decide) rfl fl_RX8_23 dX8_clear_17 (Tx.s0 ht) (Tx.r2 ht) ?_
  refine xq_iconst dX8_clear_20 ic0 ?_
  refine xq_putI clX5 (by decide) rfl fl_RX8_72 (Or.inl rfl) dX8_clear_21 ⟨rfl, rfl⟩ (Nm.s0 (Tx.n5 ht)) ?_
  refine xq_aload_n dX8_clear_24 rfl rfl ?_
  refine xq_getF clX8 (by decide) rfl fl_RX8_29 dX8_clear_25 (Tx.s0 ht) (Tx.r3 ht) ?_
  refine xq_iconst dX8_clear_28 ic0 ?_
  refine xq_putI clX2 (by decide) rfl fl_RX8_75 (Or.inl rfl) dX8_clear_29 ⟨rfl, rfl⟩ (Kn.s0 (Tx.n7 ht)) ?_
  refine xq_aload_n dX8_clear_32 rfl rfl ?_
  refine xq_getF clX8 (by decide) rfl fl_RX8_29 dX8_clear_33 (Tx.s0 ht) (Tx.r3 ht) ?_
  refine xq_iconst dX8_clear_36 ic0 ?_
  refine xq_putI clX2 (by decide) rfl fl_RX8_76 (Or.inl rfl) dX8_clear_37 ⟨rfl, rfl⟩ (Kn.s0 (Tx.n7 ht)) ?_
  refine xq_aload_n dX8_clear_40 rfl rfl ?_
  refine xq_iconst dX8_clear_41 ic0 ?_
  refine xq_putI clX8 (by decide) rfl fl_RX8_79 (Or.inl rfl) dX8_clear_42 ⟨rfl, rfl⟩ (Tx.s0 ht) ?_
  refine xq_aload_n dX8_clear_45 rfl rfl ?_
  refine xq_iconst dX8_clear_46 ic0 ?_
  refine xq_putI clX8 (by decide) rfl fl_RX8_82 (Or.inl rfl) dX8_clear_47 ⟨rfl, rfl⟩ (Tx.s0 ht) ?_
  refine xq_aload_n dX8_clear_50 rfl rfl ?_
  refine xq_iconst dX8_clear_51 icm1 ?_
  refine xq_putI clX8 (by decide) rfl fl_RX8_65 (Or.inl rfl) dX8_clear_52 ⟨rfl, rfl⟩ (Tx.s0 ht) ?_
  refine xq_aload_n dX8_clear_55 rfl rfl ?_
  refine xq_iconst dX8_clear_56 icm1 ?_
  refine xq_putI clX8 (by decide) rfl fl_RX8_69 (Or.inl rfl) dX8_clear_57 ⟨rfl, rfl⟩ (Tx.s0 ht) ?_
  refine xq_aload_n dX8_clear_60 rfl rfl ?_
  refine xq_iconst dX8_clear_61 ic0 ?_
  refine xq_putI clX8 (by decide) rfl fl_RX8_85 (Or.inl rfl) dX8_clear_62 ⟨rfl, rfl⟩ (Tx.s0 ht) ?_
  refine xq_iconst dX8_clear_65 ic0 ?_
  refine xq_istore_n dX8_clear_66 rfl rfl ?_
  exact xq_fgt (lp 7 0 _ (by omega) (by omega) (by simp [hI_sI]) (fun k hk => absurd hk (Nat.not_lt_zero k)) (Off.pI (A := fun q => t ≤ q ∧ q < t + 21) (Off.pI (A := fun q => t ≤ q ∧ q < t + 21) (Off.pI (A := fun q => t ≤ q ∧ q < t + 21) (Off.pI (A := fun q => t ≤ q ∧ q < t + 21) (Off.pI (A := fun q => t ≤ q ∧ q < t + 21) (Off.pI (A := fun q => t ≤ q ∧ q < t + 21) (Off.pI (A := fun q => t ≤ q ∧ q < t + 21) (Off.pI (A := fun q => t ≤ q ∧ q < t + 21) (Off.pI (A := fun q => t ≤ q ∧ q < t + 21) (Off.pI (A := fun q => t ≤ q ∧ q < t + 21) Off.rf (by omega) _ _) (by omega) _ _) (by omega) _ _) (by omega) _ _) (by omega) _ _) (by omega) _ _) (by omega) _ _) (by omega) _ _) (by omega) _ _) (by omega) _ _)) (by exact And.intro rfl (And.intro rfl (trivial)))
/-- the tokens: how many, letters of the last name, kinds, places, values -/
abbrev uTk : Type := Nat × Nat × (Nat → Nat) × (Nat → Nat) × (Nat → Nat)
abbrev kSz (s : uTk) : Nat := s.1
abbrev kLt (s : uTk) : Nat := s.2.1
abbrev kKd (s : uTk) : Nat → Nat := s.2.2.1
abbrev kPl (s : uTk) : Nat → Nat := s.2.2.2.1
abbrev kVl (s : uTk) : Nat → Nat := s.2.2.2.2
def uup (f : Nat → Nat) (j v : Nat) : Nat → Nat := fun i => if i = j then v else f i
def TkP (H : xH) (s : uTk) : Prop := hI H 2 4 = nI (kSz s) ∧ hI H 2 6 = nI (kLt s) ∧ ∀ j, j < kSz s → hI H 4 j = nI (kKd s j) ∧ hI H 5 j = nI (kPl s j) ∧ hI H 6 j = nI (kVl s j)
variable {s s2 : uTk}
theorem TkP.kd (h : TkP H s) (v : Nat) : TkP (sI H 4 j (nI v)) (kSz s, kLt s, uup (kKd s) j v, kPl s, kVl s) := by
  refine ⟨by rw [hI_sI, if_neg (by omega)]; exact h.1, by rw [hI_sI, if_neg (by omega)]; exact h.2.1, fun i hi => ⟨?_, ?_, ?_⟩⟩
  · show _ = nI (if i = j then v else _)
    rw [hI_sI]
    by_cases e : i = j
    · rw [if_pos ⟨rfl, e⟩, if_pos e]
    · rw [if_neg (fun z => e z.2), if_neg e]; exact (h.2.2 i hi).1
  · rw [hI_sI, if_neg (by omega)]; exact (h.2.2 i hi).2.1
  · rw [hI_sI, if_neg (by omega)]; exact (h.2.2 i hi).2.2
theorem TkP.vl (h : TkP H s) (v : Nat) : TkP (sI H 6 j (nI v)) (kSz s, kLt s, kKd s, kPl s, uup (kVl s) j v) := by
  refine ⟨by rw [hI_sI, if_neg (by omega)]; exact h.1, by rw [hI_sI, if_neg (by omega)]; exact h.2.1, fun i hi => ⟨?_, ?_, ?_⟩⟩
  · rw [hI_sI, if_neg (by omega)]; exact (h.2.2 i hi).1
  · rw [hI_sI, if_neg (by omega)]; exact (h.2.2 i hi).2.1
  · show _ = nI (if i = j then v else _)
    rw [hI_sI]
    by_cases e : i = j
    · rw [if_pos ⟨rfl, e⟩, if_pos e]
    · rw [if_neg (fun z => e z.2), if_neg e]; exact (h.2.2 i hi).2.2
theorem TkP.lt (h : TkP H s) (v : Nat) : TkP (sI H 2 6 (nI v)) (kSz s, v, kKd s, kPl s, kVl s) := by
  refine ⟨by rw [hI_sI, if_neg (by omega)]; exact h.1, by rw [hI_sI, if_pos ⟨rfl, rfl⟩], fun i hi => ⟨?_, ?_, ?_⟩⟩
  · rw [hI_sI, if_neg (by omega)]; exact (h.2.2 i hi).1
  · rw [hI_sI, if_neg (by omega)]; exact (h.2.2 i hi).2.1
  · rw [hI_sI, if_neg (by omega)]; exact (h.2.2 i hi).2.2
def kBeg (k p : Nat) (s : uTk) : uTk := (kSz s + 1, kLt s, uup (kKd s) (kSz s) k, uup (kPl s) (kSz s) p, uup (kVl s) (kSz s) 0)
/-- after a step of the scan: the tokens, and what else it leaves -/
def TkQ (H H' : xH) (s : uTk) : Prop := TkP H' s ∧ (∀ k, k ≠ 4 → k ≠ 6 → hI H' 2 k = hI H 2 k) ∧ Off (fun q => q = 2 ∨ (4 ≤ q ∧ q < 7)) H H'
theorem TkQ.tr {H2 : xH} (h : TkQ H H1 s) (h2 : TkQ H1 H2 s2) : TkQ H H2 s2 := ⟨h2.1, fun k a b => (h2.2.1 k a b).trans (h.2.1 k a b), h.2.2.tr h2.2.2⟩
theorem TkQ.kd (h : TkQ H H1 s) (v : Nat) : TkQ H (sI H1 4 j (nI v)) (kSz s, kLt s, uup (kKd s) j v, kPl s, kVl s) := ⟨h.1.kd v, fun k a b => by rw [hI_sI, if_neg (by omega)]; exact h.2.1 k a b, Off.pI h.2.2 (Or.inr (by omega)) _ _⟩
theorem TkQ.vl (h : TkQ H H1 s) (v : Nat) : TkQ H (sI H1 6 j (nI v)) (kSz s, kLt s, kKd s, kPl s, uup (kVl s) j v) := ⟨h.1.vl v, fun k a b => by rw [hI_sI, if_neg (by omega)]; exact h.2.1 k a b, Off.pI h.2.2 (Or.inr (by omega)) _ _⟩
theorem TkQ.lt (h : TkQ H H1 s) (v : Nat) : TkQ H (sI H1 2 6 (nI v)) (kSz s, v, kKd s, kPl s, kVl s) := ⟨h.1.lt v, fun k a b => by rw [hI_sI, if_neg (by omega)]; exact h.2.1 k a b, Off.pI h.2.2 (Or.inl rfl) _ _⟩
theorem TkP.tq (h : TkP H s) : TkQ H H s := ⟨h, fun _ _ _ => rfl, Off.rf⟩
theorem c_beginT (hF : gFx S) (hs : TkP H s) (hz : kSz s < 701) : Nv mX9_begin 0 [.ref 2, vN k, vN p] S H (fun H' => TkQ H H' (kBeg k p s)) := by
  refine vq_intro (by decide) (by exact Nat.le_of_ble_eq_true rfl) rfl ?_
  refine xq_aload_n dX9_begin_0 rfl rfl ?_
  refine xq_getIE clX9 (by decide) rfl fl_RX9_40 dX9_begin_1 (Fx.s2 hF) hs.1 ?_
  refine xq_aload_n dX9_begin_4 rfl rfl ?_
  refine xq_getF clX9 (by decide) rfl fl_RX9_15 dX9_begin_5 (Fx.s2 hF) (Fx.r2_1 hF) ?_
  refine xq_alen (v := nI 701) dX9_begin_8 (Fx.s4 hF) (by decide) rfl ?_
  refine xq_icmp_geN dX9_begin_9 rfl (by omega) (by omega) ⟨fun h9 => ?_, fun h9 => ?_⟩
  · skip
    exact absurd h9 (by omega)
  · skip
    refine xq_aload_n dX9_begin_12 rfl rfl ?_
    refine xq_getF clX9 (by decide) rfl fl_RX9_15 dX9_begin_13 (Fx.s2 hF) (Fx.r2_1 hF) ?_
    refine xq_aload_n dX9_begin_16 rfl rfl ?_
    refine xq_getIE clX9 (by decide) rfl fl_RX9_40 dX9_begin_17 (Fx.s2 hF) hs.1 ?_
    refine xq_iload_n dX9_begin_20 rfl rfl ?_
    refine xq_iastN dX9_begin_21 (Fx.s4 hF) (by omega) (by decide) ?_
    refine xq_aload_n dX9_begin_22 rfl rfl ?_
    refine xq_getF clX9 (by decide) rfl fl_RX9_18 dX9_begin_23 (Fx.s2 hF) (Fx.r2_2 hF) ?_
    refine xq_aload_n dX9_begin_26 rfl rfl ?_
    refine xq_getIE clX9 (by decide) rfl fl_RX9_40 dX9_begin_27 (Fx.s2 hF) hs.1 ?_
    refine xq_iload_n dX9_begin_30 rfl rfl ?_
    refine xq_iastN dX9_begin_31 (Fx.s5 hF) (by omega) (by decide) ?_
    refine xq_aload_n dX9_begin_32 rfl rfl ?_
    refine xq_getF clX9 (by decide) rfl fl_RX9_21 dX9_begin_33 (Fx.s2 hF) (Fx.r2_3 hF) ?_
    refine xq_aload_n dX9_begin_36 rfl rfl ?_
    refine xq_getIE clX9 (by decide) rfl fl_RX9_40 dX9_begin_37 (Fx.s2 hF) hs.1 ?_
    refine xq_iconst dX9_begin_40 ic0 ?_
    refine xq_iastN dX9_begin_41 (Fx.s6 hF) (by omega) (by decide) ?_
    refine xq_aload_n dX9_begin_42 rfl rfl ?_
    refine xq_dup dX9_begin_43 rfl ?_
    refine xq_getIE clX9 (by decide) rfl fl_RX9_40 dX9_begin_44 (Fx.s2 hF) hs.1 ?_
    refine xq_iconst dX9_begin_47 ic1 ?_
    refine xq_iaddN dX9_begin_48 ?_
    refine xq_putI clX9 (by decide) rfl fl_RX9_40 (Or.inl rfl) dX9_begin_49 ⟨rfl, rfl⟩ (Fx.s2 hF) ?_
    refine xq_vret dX9_begin_52 rfl ?_
    refine ⟨_, ⟨⟨by simp [hI_sI, kBeg], by simp [hI_sI]; exact hs.2.1, fun j hj => ?_⟩, fun k a b => by simp only [hI_sI]; simp [a], Off.pI (Off.pI (Off.pI (Off.pI Off.rf (by omega) _ _) (by omega) _ _) (by omega) _ _) (by omega) _ _⟩, rfl⟩
    have hj : j < kSz s + 1 := hj
    show _ = nI (if j = kSz s then k else kKd s j) ∧ _ = nI (if j = kSz s then p else kPl s j) ∧ _ = nI (if j = kSz s then 0 else kVl s j)
    simp only [hI_sI]
    by_cases e : j = kSz s
    · simp [e]
    · have := hs.2.2 j (by omega)
      simp [e, this]
def kLe (c : Nat) (s : uTk) : uTk := if kLt s + 1 ≤ 6 then (kSz s, kLt s + 1, kKd s, kPl s, uup (kVl s) (kSz s - 1) (kVl s (kSz s - 1) ||| c <<< (30 - 5 * (kLt s + 1)))) else (kSz s, kLt s + 1, uup (kKd s) (kSz s - 1) 43, kPl s, kVl s)
def kL0 (p : Nat) (s : uTk) : uTk := (kSz s + 1, 0, kKd (kBeg 39 p s), kPl (kBeg 39 p s), kVl (kBeg 39 p s))
def kDi (d : Nat) (s : uTk) : uTk := (kSz s, kLt s, kKd s, kPl s, uup (kVl s) (kSz s - 1) (min (kVl s (kSz s - 1) * 10 + d) 1000000))
theorem c_addLetter0 (hF : gFx S) (hs : TkP H s) (hl : kLt s ≤ 700) (hc : c < 32) (hz : kSz s < 701) : Nv mX9_addLetter 1 [.ref 2, vN c, vN p, vN 0] S H (fun H' => TkQ H H' (kLe c (kL0 p s))) := by
  have lp : ∀ (fz : Nat) (H1 : xH) (s2 : uTk), 0 < fz → TkQ H H1 s2 → 0 < kSz s2 → kSz s2 ≤ 701 → kLt s2 ≤ 700 → Xq mX9_addLetter 1 0 0 16 [some (.ref 2), some (vN c), some (vN p), some (vN 0)] [] S H1 (fun R => ∃ H', (fun H' => TkQ H H' (kLe c s2)) H' ∧ R = (none, S, H')) := by
    intro fz
    induction fz with
    | zero => intro H1  s2  hfz; exact absurd hfz (by omega)
    | succ fz ih =>
      intro H1  s2  hfz hq h0 h1 h2
      refine xq_aload_n dX9_addLetter_16 rfl rfl ?_
      refine xq_dup dX9_addLetter_17 rfl ?_
      refine xq_getIE clX9 (by decide) rfl fl_RX9_66 dX9_addLetter_18 (Fx.s2 hF) hq.1.2.1 ?_
      refine xq_iconst dX9_addLetter_21 ic1 ?_
      refine xq_iaddN dX9_addLetter_22 ?_
      refine xq_putI clX9 (by decide) rfl fl_RX9_66 (Or.inl rfl) dX9_addLetter_23 ⟨rfl, rfl⟩ (Fx.s2 hF) ?_
      refine xq_aload_n dX9_addLetter_26 rfl rfl ?_
      refine xq_getIE (v := nI (kSz s2)) clX9 (by decide) rfl fl_RX9_40 dX9_addLetter_27 (Fx.s2 hF) (hq.1.lt (kLt s2 + 1)).1 ?_
      refine xq_if_leN dX9_addLetter_30 rfl (by omega) ⟨fun h30 => ?_, fun h30 => ?_⟩
      · skip
        exact absurd h30 (by omega)
      · skip
        refine xq_aload_n dX9_addLetter_33 rfl rfl ?_
        refine xq_getIE (v := nI (kLt s2 + 1)) clX9 (by decide) rfl fl_RX9_66 dX9_addLetter_34 (Fx.s2 hF) (hq.1.lt (kLt s2 + 1)).2.1 ?_
        refine xq_bipush dX9_addLetter_37 bp6 ?_
        refine xq_icmp_gtN dX9_addLetter_39 rfl (by omega) (by omega) ⟨fun h39 => ?_, fun h39 => ?_⟩
        · skip
          refine xq_aload_n dX9_addLetter_70 rfl rfl ?_
          refine xq_getIE (v := nI (kSz s2)) clX9 (by decide) rfl fl_RX9_40 dX9_addLetter_71 (Fx.s2 hF) (hq.1.lt (kLt s2 + 1)).1 ?_
          refine xq_if_leN dX9_addLetter_74 rfl (by omega) ⟨fun h74 => ?_, fun h74 => ?_⟩
          · skip
            exact absurd h74 (by omega)
          · skip
            refine xq_aload_n dX9_addLetter_77 rfl rfl ?_
            refine xq_getF clX9 (by decide) rfl fl_RX9_15 dX9_addLetter_78 (Fx.s2 hF) (Fx.r2_1 hF) ?_
            refine xq_aload_n dX9_addLetter_81 rfl rfl ?_
            refine xq_getIE (v := nI (kSz s2)) clX9 (by decide) rfl fl_RX9_40 dX9_addLetter_82 (Fx.s2 hF) (hq.1.lt (kLt s2 + 1)).1 ?_
            refine xq_iconst dX9_addLetter_85 ic1 ?_
            refine xq_isubN dX9_addLetter_86 (by omega) ?_
            refine xq_bipush dX9_addLetter_87 bp43 ?_
            refine xq_iastN dX9_addLetter_89 (Fx.s4 hF) (by omega) (by decide) ?_
            refine xq_vret dX9_addLetter_90 rfl ?_
            have e : kLe c s2 = (kSz s2, kLt s2 + 1, uup (kKd s2) (kSz s2 - 1) 43, kPl s2, kVl s2) := if_neg (by omega)
            rw [e]
            exact ⟨_, (hq.lt (kLt s2 + 1)).kd 43, rfl⟩
        · skip
          refine xq_aload_n dX9_addLetter_42 rfl rfl ?_
          refine xq_getF clX9 (by decide) rfl fl_RX9_21 dX9_addLetter_43 (Fx.s2 hF) (Fx.r2_3 hF) ?_
          refine xq_aload_n dX9_addLetter_46 rfl rfl ?_
          refine xq_getIE (v := nI (kSz s2)) clX9 (by decide) rfl fl_RX9_40 dX9_addLetter_47 (Fx.s2 hF) (hq.1.lt (kLt s2 + 1)).1 ?_
          refine xq_iconst dX9_addLetter_50 ic1 ?_
          refine xq_isubN dX9_addLetter_51 (by omega) ?_
          refine xq_dup2 dX9_addLetter_52 rfl rfl ?_
          refine xq_ialdN dX9_addLetter_53 (Fx.s6 hF) (by omega) (by decide) (((hq.1.lt (kLt s2 + 1)).2.2 (kSz s2 - 1) (Nat.sub_lt h0 Nat.one_pos)).2.2) ?_
          refine xq_iload_n dX9_addLetter_54 rfl rfl ?_
          refine xq_bipush dX9_addLetter_55 bp30 ?_
          refine xq_iconst dX9_addLetter_57 ic5 ?_
          refine xq_aload_n dX9_addLetter_58 rfl rfl ?_
          refine xq_getIE (v := nI (kLt s2 + 1)) clX9 (by decide) rfl fl_RX9_66 dX9_addLetter_59 (Fx.s2 hF) (hq.1.lt (kLt s2 + 1)).2.1 ?_
          refine xq_imulN dX9_addLetter_62 ?_
          refine xq_isubN dX9_addLetter_63 (by omega) ?_
          refine xq_ishlN dX9_addLetter_64 (by omega) ?_
          refine xq_iorN dX9_addLetter_65 ?_
          refine xq_iastN dX9_addLetter_66 (Fx.s6 hF) (by omega) (by decide) ?_
          refine xq_goto dX9_addLetter_67 rfl ?_
          refine xq_vret dX9_addLetter_90 rfl ?_
          have e : kLe c s2 = (kSz s2, kLt s2 + 1, kKd s2, kPl s2, uup (kVl s2) (kSz s2 - 1) (kVl s2 (kSz s2 - 1) ||| c <<< (30 - 5 * (kLt s2 + 1)))) := if_pos (by omega)
          rw [e]
          exact ⟨_, (hq.lt (kLt s2 + 1)).vl _, rfl⟩
  refine vq_intro (by decide) (by exact Nat.le_of_ble_eq_true rfl) rfl ?_
  refine xq_iload_n dX9_addLetter_0 rfl rfl ?_
  refine xq_if_neN dX9_addLetter_1 rfl (by omega) ⟨fun h1 => ?_, fun h1 => ?_⟩
  · skip
    exact absurd h1 (by omega)
  · skip
    refine xq_aload_n dX9_addLetter_4 rfl rfl ?_
    refine xq_bipush dX9_addLetter_5 bp39 ?_
    refine xq_iload_n dX9_addLetter_7 rfl rfl ?_
    refine xq_callV2N clX9 gd_X9_begin dX9_addLetter_8 ml_RX9_60 im_X9_begin se_X9_begin rfl (Fx.s2 hF) (by exact Nat.le_of_ble_eq_true rfl) (by decide) (c_beginT hF hs hz) ?_
    intro H8 p8
    refine xq_aload_n dX9_addLetter_11 rfl rfl ?_
    refine xq_iconst dX9_addLetter_12 ic0 ?_
    refine xq_putI clX9 (by decide) rfl fl_RX9_66 (Or.inl rfl) dX9_addLetter_13 ⟨rfl, rfl⟩ (Fx.s2 hF) ?_
    exact lp 1 _ (kL0 p s) (by omega) (p8.lt 0) (by show 0 < kSz s + 1; omega) (by show kSz s + 1 ≤ 701; omega) (by show 0 ≤ 700; omega)
theorem c_addLetter1 (hF : gFx S) (hs : TkP H s) (hl : kLt s ≤ 700) (hc : c < 32) (hz : kSz s ≤ 701) (h0 : 0 < kSz s) : Nv mX9_addLetter 1 [.ref 2, vN c, vN p, vN 1] S H (fun H' => TkQ H H' (kLe c s)) := by
  have lp : ∀ (fz : Nat) (H1 : xH) (s2 : uTk), 0 < fz → TkQ H H1 s2 → 0 < kSz s2 → kSz s2 ≤ 701 → kLt s2 ≤ 700 → Xq mX9_addLetter 1 0 0 16 [some (.ref 2), some (vN c), some (vN p), some (vN 1)] [] S H1 (fun R => ∃ H', (fun H' => TkQ H H' (kLe c s2)) H' ∧ R = (none, S, H')) := by
    intro fz
    induction fz with
    | zero => intro H1  s2  hfz; exact absurd hfz (by omega)
    | succ fz ih =>
      intro H1  s2  hfz hq h0 h1 h2
      refine xq_aload_n dX9_addLetter_16 rfl rfl ?_
      refine xq_dup dX9_addLetter_17 rfl ?_
      refine xq_getIE clX9 (by decide) rfl fl_RX9_66 dX9_addLetter_18 (Fx.s2 hF) hq.1.2.1 ?_
      refine xq_iconst dX9_addLetter_21 ic1 ?_
      refine xq_iaddN dX9_addLetter_22 ?_
      refine xq_putI clX9 (by decide) rfl fl_RX9_66 (Or.inl rfl) dX9_addLetter_23 ⟨rfl, rfl⟩ (Fx.s2 hF) ?_
      refine xq_aload_n dX9_addLetter_26 rfl rfl ?_
      refine xq_getIE (v := nI (kSz s2)) clX9 (by decide) rfl fl_RX9_40 dX9_addLetter_27 (Fx.s2 hF) (hq.1.lt (kLt s2 + 1)).1 ?_
      refine xq_if_leN dX9_addLetter_30 rfl (by omega) ⟨fun h30 => ?_, fun h30 => ?_⟩
      · skip
        exact absurd h30 (by omega)
      · skip
        refine xq_aload_n dX9_addLetter_33 rfl rfl ?_
        refine xq_getIE (v := nI (kLt s2 + 1)) clX9 (by decide) rfl fl_RX9_66 dX9_addLetter_34 (Fx.s2 hF) (hq.1.lt (kLt s2 + 1)).2.1 ?_
        refine xq_bipush dX9_addLetter_37 bp6 ?_
        refine xq_icmp_gtN dX9_addLetter_39 rfl (by omega) (by omega) ⟨fun h39 => ?_, fun h39 => ?_⟩
        · skip
          refine xq_aload_n dX9_addLetter_70 rfl rfl ?_
          refine xq_getIE (v := nI (kSz s2)) clX9 (by decide) rfl fl_RX9_40 dX9_addLetter_71 (Fx.s2 hF) (hq.1.lt (kLt s2 + 1)).1 ?_
          refine xq_if_leN dX9_addLetter_74 rfl (by omega) ⟨fun h74 => ?_, fun h74 => ?_⟩
          · skip
            exact absurd h74 (by omega)
          · skip
            refine xq_aload_n dX9_addLetter_77 rfl rfl ?_
            refine xq_getF clX9 (by decide) rfl fl_RX9_15 dX9_addLetter_78 (Fx.s2 hF) (Fx.r2_1 hF) ?_
            refine xq_aload_n dX9_addLetter_81 rfl rfl ?_
            refine xq_getIE (v := nI (kSz s2)) clX9 (by decide) rfl fl_RX9_40 dX9_addLetter_82 (Fx.s2 hF) (hq.1.lt (kLt s2 + 1)).1 ?_
            refine xq_iconst dX9_addLetter_85 ic1 ?_
            refine xq_isubN dX9_addLetter_86 (by omega) ?_
            refine xq_bipush dX9_addLetter_87 bp43 ?_
            refine xq_iastN dX9_addLetter_89 (Fx.s4 hF) (by omega) (by decide) ?_
            refine xq_vret dX9_addLetter_90 rfl ?_
            have e : kLe c s2 = (kSz s2, kLt s2 + 1, uup (kKd s2) (kSz s2 - 1) 43, kPl s2, kVl s2) := if_neg (by omega)
            rw [e]
            exact ⟨_, (hq.lt (kLt s2 + 1)).kd 43, rfl⟩
        · skip
          refine xq_aload_n dX9_addLetter_42 rfl rfl ?_
          refine xq_getF clX9 (by decide) rfl fl_RX9_21 dX9_addLetter_43 (Fx.s2 hF) (Fx.r2_3 hF) ?_
          refine xq_aload_n dX9_addLetter_46 rfl rfl ?_
          refine xq_getIE (v := nI (kSz s2)) clX9 (by decide) rfl fl_RX9_40 dX9_addLetter_47 (Fx.s2 hF) (hq.1.lt (kLt s2 + 1)).1 ?_
          refine xq_iconst dX9_addLetter_50 ic1 ?_
          refine xq_isubN dX9_addLetter_51 (by omega) ?_
          refine xq_dup2 dX9_addLetter_52 rfl rfl ?_
          refine xq_ialdN dX9_addLetter_53 (Fx.s6 hF) (by omega) (by decide) (((hq.1.lt (kLt s2 + 1)).2.2 (kSz s2 - 1) (Nat.sub_lt h0 Nat.one_pos)).2.2) ?_
          refine xq_iload_n dX9_addLetter_54 rfl rfl ?_
          refine xq_bipush dX9_addLetter_55 bp30 ?_
          refine xq_iconst dX9_addLetter_57 ic5 ?_
          refine xq_aload_n dX9_addLetter_58 rfl rfl ?_
          refine xq_getIE (v := nI (kLt s2 + 1)) clX9 (by decide) rfl fl_RX9_66 dX9_addLetter_59 (Fx.s2 hF) (hq.1.lt (kLt s2 + 1)).2.1 ?_
          refine xq_imulN dX9_addLetter_62 ?_
          refine xq_isubN dX9_addLetter_63 (by omega) ?_
          refine xq_ishlN dX9_addLetter_64 (by omega) ?_
          refine xq_iorN dX9_addLetter_65 ?_
          refine xq_iastN dX9_addLetter_66 (Fx.s6 hF) (by omega) (by decide) ?_
          refine xq_goto dX9_addLetter_67 rfl ?_
          refine xq_vret dX9_addLetter_90 rfl ?_
          have e : kLe c s2 = (kSz s2, kLt s2 + 1, kKd s2, kPl s2, uup (kVl s2) (kSz s2 - 1) (kVl s2 (kSz s2 - 1) ||| c <<< (30 - 5 * (kLt s2 + 1)))) := if_pos (by omega)
          rw [e]
          exact ⟨_, (hq.lt (kLt s2 + 1)).vl _, rfl⟩
  refine vq_intro (by decide) (by exact Nat.le_of_ble_eq_true rfl) rfl ?_
  refine xq_iload_n dX9_addLetter_0 rfl rfl ?_
  refine xq_if_neN dX9_addLetter_1 rfl (by omega) ⟨fun h1 => ?_, fun h1 => ?_⟩
  · skip
    exact lp 1 _ s (by omega) hs.tq h0 hz hl
  · skip
    exact absurd h1 (by omega)
end TK
