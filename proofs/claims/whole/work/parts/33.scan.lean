/-! ===== Tokens.scan ===== -/
section SC
variable {S : xS} {H H1 : xH} {k p q f i j l m n c : Nat} {s s2 : uTk} {b : Nat → Nat}
def isL (x : Nat) : Bool := decide (97 ≤ x ∧ x ≤ 122)
def isD (x : Nat) : Bool := decide (48 ≤ x ∧ x ≤ 57)
/-- whether the byte before i is such a one -/
def pvB (g : Nat → Bool) (b : Nat → Nat) (i : Nat) : Bool := decide (0 < i) && g (b (i - 1))
def kSt (b : Nat → Nat) (i : Nat) (s : uTk) : uTk :=
  if isL (b i) = true then kLe (b i - 96) (if pvB isL b i = true then s else kL0 i s)
  else if isD (b i) = true then kDi (b i - 48) (if pvB isD b i = true then s else kBeg 38 i s)
  else if b i = 10 ∨ b i = 32 then s else kSg (b i) i s
def scS (b : Nat → Nat) (s : uTk) : Nat → uTk
  | 0 => s
  | i + 1 => kSt b i (scS b s i)
def ScI (b : Nat → Nat) (i : Nat) (s : uTk) : Prop := kSz s ≤ i ∧ (∀ j, j < kSz s → kKd s j ≤ 44 ∧ kPl s j < i ∧ kVl s j < 1073741824) ∧ (pvB isL b i = true → 0 < kSz s ∧ kLt s ≤ i) ∧ (pvB isD b i = true → 0 < kSz s ∧ kVl s (kSz s - 1) ≤ 1000000)
theorem pvB_s (g : Nat → Bool) (b : Nat → Nat) (i : Nat) : pvB g b (i + 1) = g (b i) := by simp [pvB]
theorem uup_eq (f : Nat → Nat) (j v : Nat) : uup f j v j = v := if_pos rfl
theorem uup_ne {f : Nat → Nat} {i j v : Nat} (h : i ≠ j) : uup f j v i = f i := if_neg h
theorem kof_le (x : Nat) : kof x ≤ 44 := by unfold kof; repeat' (first | omega | split)
theorem ScI.beg (h : ScI b i s) (hk : k ≤ 44) : kSz (kBeg k i s) ≤ i + 1 ∧ ∀ j, j < kSz (kBeg k i s) → kKd (kBeg k i s) j ≤ 44 ∧ kPl (kBeg k i s) j < i + 1 ∧ kVl (kBeg k i s) j < 1073741824 := by
  refine ⟨Nat.succ_le_succ h.1, fun j hj => ?_⟩
  have hj : j < kSz s + 1 := hj
  show (if j = kSz s then k else kKd s j) ≤ 44 ∧ (if j = kSz s then i else kPl s j) < i + 1 ∧ (if j = kSz s then 0 else kVl s j) < 1073741824
  by_cases e : j = kSz s
  · rw [if_pos e, if_pos e, if_pos e]; omega
  · rw [if_neg e, if_neg e, if_neg e]
    have := h.2.1 j (by omega)
    omega
theorem kLe_ok {m : Nat} (h0 : 0 < kSz s) (h1 : kSz s ≤ m) (h : ∀ j, j < kSz s → kKd s j ≤ 44 ∧ kPl s j < m ∧ kVl s j < 1073741824) (hc : c < 32) : kSz (kLe c s) = kSz s ∧ kLt (kLe c s) = kLt s + 1 ∧ ∀ j, j < kSz s → kKd (kLe c s) j ≤ 44 ∧ kPl (kLe c s) j < m ∧ kVl (kLe c s) j < 1073741824 := by
  unfold kLe
  by_cases e : kLt s + 1 ≤ 6
  · rw [if_pos e]
    refine ⟨rfl, rfl, fun j hj => ⟨(h j hj).1, (h j hj).2.1, ?_⟩⟩
    show (if j = kSz s - 1 then _ else _) < _
    by_cases e2 : j = kSz s - 1
    · rw [if_pos e2]
      have h3 : ∀ (x : Fin 32) (y : Fin 6), x.val <<< (30 - 5 * (y.val + 1)) < 1073741824 := by decide +kernel
      exact Nat.or_lt_two_pow (n := 30) (h _ (by omega)).2.2 (h3 ⟨c, hc⟩ ⟨kLt s, by omega⟩)
    · rw [if_neg e2]; exact (h j hj).2.2
  · rw [if_neg e]
    refine ⟨rfl, rfl, fun j hj => ⟨?_, (h j hj).2.1, (h j hj).2.2⟩⟩
    show (if j = kSz s - 1 then _ else _) ≤ _
    by_cases e2 : j = kSz s - 1
    · rw [if_pos e2]; omega
    · rw [if_neg e2]; exact (h j hj).1
theorem kDi_ok {m : Nat} (h0 : 0 < kSz s) (h : ∀ j, j < kSz s → kKd s j ≤ 44 ∧ kPl s j < m ∧ kVl s j < 1073741824) : kSz (kDi c s) = kSz s ∧ kVl (kDi c s) (kSz s - 1) ≤ 1000000 ∧ ∀ j, j < kSz s → kKd (kDi c s) j ≤ 44 ∧ kPl (kDi c s) j < m ∧ kVl (kDi c s) j < 1073741824 := by
  refine ⟨rfl, ?_, fun j hj => ⟨(h j hj).1, (h j hj).2.1, ?_⟩⟩
  · show (if kSz s - 1 = kSz s - 1 then _ else _) ≤ _
    rw [if_pos rfl]; exact Nat.min_le_right _ _
  · show (if j = kSz s - 1 then _ else _) < _
    by_cases e2 : j = kSz s - 1
    · rw [if_pos e2]; have := Nat.min_le_right (kVl s (kSz s - 1) * 10 + c) 1000000; omega
    · rw [if_neg e2]; exact (h j hj).2.2
theorem isLD {x : Nat} (h : isL x = true) : isD x = false := by
  have := of_decide_eq_true h
  exact decide_eq_false (by omega)
theorem kSg_ok (h : ScI b i s) (x : Nat) : kSz (kSg x i s) ≤ i + 1 ∧ ∀ j, j < kSz (kSg x i s) → kKd (kSg x i s) j ≤ 44 ∧ kPl (kSg x i s) j < i + 1 ∧ kVl (kSg x i s) j < 1073741824 := by
  have key : ∀ v, v ≤ 44 → kSz s ≤ i + 1 ∧ ∀ j, j < kSz s → uup (kKd s) (kSz s - 1) v j ≤ 44 ∧ kPl s j < i + 1 ∧ kVl s j < 1073741824 := fun v hv => ⟨by have := h.1; omega, fun j hj => by
    have := h.2.1 j hj
    refine ⟨?_, by omega, this.2.2⟩
    show (if j = kSz s - 1 then _ else _) ≤ _
    split <;> omega⟩
  unfold kSg
  split
  · exact key _ (by split <;> omega)
  · split
    · exact key _ (by omega)
    · exact h.beg (kof_le x)
theorem ScI_st (h : ScI b i s) : ScI b (i + 1) (kSt b i s) := by
  have hm : ∀ j, j < kSz s → kKd s j ≤ 44 ∧ kPl s j < i + 1 ∧ kVl s j < 1073741824 := fun j hj => by have := h.2.1 j hj; omega
  have h1 := h.1
  unfold kSt
  by_cases hL : isL (b i) = true
  · rw [if_pos hL]
    have hc : b i - 96 < 32 := by have := of_decide_eq_true hL; omega
    by_cases hp : pvB isL b i = true
    · rw [if_pos hp]
      obtain ⟨a1, a2⟩ := h.2.2.1 hp
      obtain ⟨k1, k2, k3⟩ := kLe_ok (c := b i - 96) a1 (m := i + 1) (by omega) hm hc
      exact ⟨by omega, fun j hj => k3 j (by omega), fun _ => ⟨by omega, by omega⟩, fun e => by rw [pvB_s, isLD hL] at e; cases e⟩
    · rw [if_neg hp]
      obtain ⟨b1, b2⟩ := h.beg (k := 39) (by omega)
      obtain ⟨k1, k2, k3⟩ := kLe_ok (s := kL0 i s) (c := b i - 96) (Nat.succ_pos _) (m := i + 1) b1 b2 hc
      have z1 : kSz (kL0 i s) = kSz s + 1 := rfl
      have z2 : kLt (kL0 i s) = 0 := rfl
      exact ⟨by omega, fun j hj => k3 j (by omega), fun _ => ⟨by omega, by omega⟩, fun e => by rw [pvB_s, isLD hL] at e; cases e⟩
  · rw [if_neg hL]
    by_cases hD : isD (b i) = true
    · rw [if_pos hD]
      by_cases hp : pvB isD b i = true
      · rw [if_pos hp]
        obtain ⟨a1, a2⟩ := h.2.2.2 hp
        obtain ⟨k1, k2, k3⟩ := kDi_ok (c := b i - 48) a1 (m := i + 1) hm
        exact ⟨by omega, fun j hj => k3 j (by omega), fun e => by rw [pvB_s] at e; exact absurd e hL, fun _ => ⟨by omega, by rw [k1]; exact k2⟩⟩
      · rw [if_neg hp]
        obtain ⟨b1, b2⟩ := h.beg (k := 38) (by omega)
        obtain ⟨k1, k2, k3⟩ := kDi_ok (s := kBeg 38 i s) (c := b i - 48) (Nat.succ_pos _) (m := i + 1) b2
        have z1 : kSz (kBeg 38 i s) = kSz s + 1 := rfl
        exact ⟨by omega, fun j hj => k3 j (by omega), fun e => by rw [pvB_s] at e; exact absurd e hL, fun _ => ⟨by omega, by rw [k1]; exact k2⟩⟩
    · rw [if_neg hD]
      have nl : ∀ X : Prop, pvB isL b (i + 1) = true → X := fun X e => by rw [pvB_s] at e; exact absurd e hL
      have nd : ∀ X : Prop, pvB isD b (i + 1) = true → X := fun X e => by rw [pvB_s] at e; exact absurd e hD
      split
      · exact ⟨by omega, hm, nl _, nd _⟩
      · exact ⟨(kSg_ok h _).1, (kSg_ok h _).2, nl _, nd _⟩
theorem ScI_0 (s : uTk) (h : kSz s = 0) : ScI b 0 s := ⟨by omega, fun j hj => absurd hj (by omega), fun e => by simp [pvB] at e, fun e => by simp [pvB] at e⟩
theorem ScI_all (s : uTk) (h : kSz s = 0) : ∀ i, ScI b i (scS b s i)
  | 0 => ScI_0 s h
  | i + 1 => ScI_st (ScI_all s h i)
theorem c_addLetter {w : Bool} (hF : gFx S) (hs : TkP H s) (hc : c < 32) (hz : kSz s < 701) (h1 : w = true → 0 < kSz s ∧ kLt s ≤ 700) : Nv mX9_addLetter 1 [.ref 2, vN c, vN p, vB w] S H (fun H' => TkQ H H' (kLe c (if w = true then s else kL0 p s))) := by
  cases w
  · exact c_addLetter0 hF hs hc hz
  · exact c_addLetter1 (s := s) hF hs hc (h1 rfl).2 (by omega) (h1 rfl).1
theorem c_addDigit {w : Bool} (hF : gFx S) (hs : TkP H s) (hi : i < 10) (hz : kSz s < 701) (h1 : w = true → 0 < kSz s ∧ kVl s (kSz s - 1) ≤ 1000000) : Nv mX9_addDigit 1 [.ref 2, vN i, vN p, vB w] S H (fun H' => TkQ H H' (kDi i (if w = true then s else kBeg 38 p s))) := by
  cases w
  · exact c_addDigit0 hF hs hi hz
  · exact c_addDigit1 (s := s) hF hs hi (by omega) (h1 rfl).1 (h1 rfl).2
/-- the tokens of the first n bytes -/
def s00 (lt : Nat) : uTk := (0, lt, fun _ => 0, fun _ => 0, fun _ => 0)
def scF (b : Nat → Nat) (lt n : Nat) : uTk := kN2 (kBeg 44 n (scS b (s00 lt) n)) (kSz (kBeg 44 n (scS b (s00 lt) n))) 0
theorem scF_ok {lt : Nat} (hn : n ≤ 700) : TrOk (scF b lt n) := by
  have h := ScI_all (b := b) (s00 lt) rfl n
  obtain ⟨h1, h2⟩ := h.beg (k := 44) (by omega)
  refine ⟨by show kSz (kBeg 44 n (scS b (s00 lt) n)) ≤ 701; omega, fun j hj => ?_⟩
  have q := h2 j hj
  refine ⟨?_, by show kPl (kBeg 44 n (scS b (s00 lt) n)) j ≤ 700; omega, q.2.2⟩
  show (if _ then (if _ then _ else if _ then _ else _) else _) ≤ 44
  have q1 := q.1
  split
  · split
    · unfold nmk; split <;> omega
    · split
      · unfold nmk; split <;> omega
      · omega
  · omega
theorem c_scanL {Hb : xH} (hF : gFx S) (hn : n ≤ 700) (hby0 : ∀ j, j < n → b j < 256) (hta : ∀ j, j < n → hI Hb 1 j = sby (b j)) (hwd : WdP Hb) (hb5 : hI Hb 2 5 = nI 0) (hb7 : hI Hb 2 7 = nI 0) (hb8 : hI Hb 2 8 = -1) (hbo : Off (fun q => q = 2 ∨ (4 ≤ q ∧ q < 7)) H Hb) (hq0 : TkP Hb (s00 q)) : Xq mX9_scan 2 0 0 28 [some (.ref 2), some (.ref 1), some (vN n), some (vB false), some (vB false), some (vN 0), none, none, none] [] S Hb (fun R => ∃ H', (fun H' => TrP H' (scF b q n) 0 ∧ hI H' 2 7 = nI 0 ∧ hI H' 2 8 = -1 ∧ Off (fun q => q = 2 ∨ (4 ≤ q ∧ q < 7)) H H') H' ∧ R = (none, S, H')) := by
  have lp : ∀ (fz : Nat) (i : Nat) (H1 : xH), n - i < fz → i ≤ n → TkQ Hb H1 (scS b (s00 q) i) → Xq mX9_scan 2 0 0 28 [some (.ref 2), some (.ref 1), some (vN n), some (vB (pvB isL b i)), some (vB (pvB isD b i)), some (vN i), none, none, none] [] S H1 (fun R => ∃ H', (fun H' => TrP H' (scF b q n) 0 ∧ hI H' 2 7 = nI 0 ∧ hI H' 2 8 = -1 ∧ Off (fun q => q = 2 ∨ (4 ≤ q ∧ q < 7)) H H') H' ∧ R = (none, S, H')) := by
    intro fz
    induction fz with
    | zero => intro i  H1  hfz; exact absurd hfz (by omega)
    | succ fz ih =>
      intro i  H1  hfz hi hq
      by_cases hlt : b i < 128
      · skip
        have hsc0 := ScI_all (b := b) (s00 q) rfl i; have hz0 := hsc0.1
        refine xq_iload dX9_scan_28 rfl ?_
        refine xq_iload_n dX9_scan_30 rfl rfl ?_
        refine xq_icmp_geN dX9_scan_31 rfl (by omega) (by omega) ⟨fun h31 => ?_, fun h31 => ?_⟩
        · skip
          have e0 : i = n := by omega
          subst e0
          obtain ⟨hb1, hb2⟩ := hsc0.beg (k := 44) (by omega)
          refine xq_aload_n dX9_scan_167 rfl rfl ?_
          refine xq_bipush dX9_scan_168 bp44 ?_
          refine xq_iload_n dX9_scan_170 rfl rfl ?_
          refine xq_callV2N clX9 gd_X9_begin dX9_scan_171 ml_RX9_60 im_X9_begin se_X9_begin rfl (Fx.s2 hF) (by exact Nat.le_of_ble_eq_true rfl) (by decide) (c_beginT hF hq.1 (by omega)) ?_
          intro H171 p171
          have hq3 := hq.tr p171
          refine xq_aload_n dX9_scan_174 rfl rfl ?_
          refine xq_callV0N clX9 gd_X9_nameWords dX9_scan_175 ml_RX9_63 im_X9_nameWords se_X9_nameWords rfl (Fx.s2 hF) (by exact Nat.le_of_ble_eq_true rfl) (by decide) (c_nameWords hF hq3.1 (fun w hw => (hq3.2.2.I (by omega) w).trans (hwd w hw)) (by omega) (fun j hj => ⟨(hb2 j hj).1, (hb2 j hj).2.2⟩)) ?_
          intro H175 p175
          refine xq_vret dX9_scan_178 rfl ?_
          have hq4 := hq3.tr p175
          exact ⟨_, ⟨⟨hq4.1, (hq4.2.1 5 (by decide) (by decide)).trans hb5⟩, (hq4.2.1 7 (by decide) (by decide)).trans hb7, (hq4.2.1 8 (by decide) (by decide)).trans hb8, hbo.tr hq4.2.2⟩, rfl⟩
        · skip
          refine xq_iload dX9_scan_34 rfl ?_
          refine xq_aload_n dX9_scan_36 rfl rfl ?_
          refine xq_alen (v := nI 700) dX9_scan_37 (Fx.s1 hF) (by decide) rfl ?_
          refine xq_icmp_geN dX9_scan_38 rfl (by omega) (by omega) ⟨fun h38 => ?_, fun h38 => ?_⟩
          · skip
            exact absurd h38 (by omega)
          · skip
            refine xq_aload_n dX9_scan_41 rfl rfl ?_
            refine xq_iload dX9_scan_42 rfl ?_
            have hsc := ScI_all (b := b) (s00 q) rfl i
            have hz1 := hsc.1
            have hby := hby0 i h31
            have htb : hI H1 1 i = sby (b i) := (hq.2.2.I (by omega) i).trans (hta i h31)
            refine xq_baldN dX9_scan_44 (Fx.s1 hF) (by omega) (by decide) (htb.trans (sby_pos hlt)) ?_
            refine xq_istore dX9_scan_45 rfl ?_
            refine xq_iload dX9_scan_47 rfl ?_
            refine xq_bipush dX9_scan_49 bp97 ?_
            refine xq_icmp_ltN dX9_scan_51 rfl (by omega) (by omega) ⟨fun h51 => ?_, fun h51 => ?_⟩
            · skip
              refine xq_iconst dX9_scan_65 ic0 ?_
              refine xq_istore dX9_scan_66 rfl ?_
              refine xq_iload dX9_scan_68 rfl ?_
              refine xq_bipush dX9_scan_70 bp48 ?_
              refine xq_icmp_ltN dX9_scan_72 rfl (by omega) (by omega) ⟨fun h72 => ?_, fun h72 => ?_⟩
              · skip
                refine xq_iconst dX9_scan_86 ic0 ?_
                refine xq_istore dX9_scan_87 rfl ?_
                refine xq_iload dX9_scan_89 rfl ?_
                refine xq_if_eqN dX9_scan_91 rfl (by omega) ⟨fun h91 => ?_, fun h91 => ?_⟩
                · skip
                  refine xq_iload dX9_scan_111 rfl ?_
                  refine xq_if_eqN dX9_scan_113 rfl (by omega) ⟨fun h113 => ?_, fun h113 => ?_⟩
                  · skip
                    refine xq_iload dX9_scan_132 rfl ?_
                    refine xq_bipush dX9_scan_134 bp10 ?_
                    refine xq_icmp_eqN dX9_scan_136 rfl (by omega) (by omega) ⟨fun h136 => ?_, fun h136 => ?_⟩
                    · skip
                      refine xq_iload dX9_scan_154 rfl ?_
                      refine xq_istore_n dX9_scan_156 rfl rfl ?_
                      refine xq_iload dX9_scan_157 rfl ?_
                      refine xq_istore dX9_scan_159 rfl ?_
                      refine xq_iincN dX9_scan_161 ic1 rfl rfl ?_
                      refine xq_goto dX9_scan_164 rfl ?_
                      have hL : ¬ isL (b i) = true := fun e => by have := of_decide_eq_true e; omega
                      have hD : ¬ isD (b i) = true := fun e => by have := of_decide_eq_true e; omega
                      have e : scS b (s00 q) (i + 1) = scS b (s00 q) i := by show kSt b i (scS b (s00 q) i) = _; unfold kSt; rw [if_neg hL, if_neg hD, if_pos (by omega)]
                      have hq2 := hq
                      rw [← e] at hq2
                      have r := ih (i + 1) H1 (by omega) (by omega) hq2
                      rw [pvB_s, pvB_s, Bool.eq_false_iff.mpr hL, Bool.eq_false_iff.mpr hD] at r
                      exact xq_fgt (r) (by exact And.intro rfl (And.intro rfl (And.intro rfl (And.intro rfl (And.intro rfl (And.intro rfl (trivial)))))))
                    · skip
                      refine xq_iload dX9_scan_139 rfl ?_
                      refine xq_bipush dX9_scan_141 bp32 ?_
                      refine xq_icmp_eqN dX9_scan_143 rfl (by omega) (by omega) ⟨fun h143 => ?_, fun h143 => ?_⟩
                      · skip
                        refine xq_iload dX9_scan_154 rfl ?_
                        refine xq_istore_n dX9_scan_156 rfl rfl ?_
                        refine xq_iload dX9_scan_157 rfl ?_
                        refine xq_istore dX9_scan_159 rfl ?_
                        refine xq_iincN dX9_scan_161 ic1 rfl rfl ?_
                        refine xq_goto dX9_scan_164 rfl ?_
                        have hL : ¬ isL (b i) = true := fun e => by have := of_decide_eq_true e; omega
                        have hD : ¬ isD (b i) = true := fun e => by have := of_decide_eq_true e; omega
                        have e : scS b (s00 q) (i + 1) = scS b (s00 q) i := by show kSt b i (scS b (s00 q) i) = _; unfold kSt; rw [if_neg hL, if_neg hD, if_pos (by omega)]
                        have hq2 := hq
                        rw [← e] at hq2
                        have r := ih (i + 1) H1 (by omega) (by omega) hq2
                        rw [pvB_s, pvB_s, Bool.eq_false_iff.mpr hL, Bool.eq_false_iff.mpr hD] at r
                        exact xq_fgt (r) (by exact And.intro rfl (And.intro rfl (And.intro rfl (And.intro rfl (And.intro rfl (And.intro rfl (trivial)))))))
                      · skip
                        refine xq_aload_n dX9_scan_146 rfl rfl ?_
                        refine xq_iload dX9_scan_147 rfl ?_
                        refine xq_iload dX9_scan_149 rfl ?_
                        refine xq_callV2N clX9 gd_X9_addSign dX9_scan_151 ml_RX9_56 im_X9_addSign se_X9_addSign rfl (Fx.s2 hF) (by exact Nat.le_of_ble_eq_true rfl) (by decide) (c_addSign1 hF hq.1 (by omega) hz1 (by omega) (fun j hj => by have := hsc.2.1 j hj; omega) hlt) ?_
                        intro H151 p151
                        refine xq_iload dX9_scan_154 rfl ?_
                        refine xq_istore_n dX9_scan_156 rfl rfl ?_
                        refine xq_iload dX9_scan_157 rfl ?_
                        refine xq_istore dX9_scan_159 rfl ?_
                        refine xq_iincN dX9_scan_161 ic1 rfl rfl ?_
                        refine xq_goto dX9_scan_164 rfl ?_
                        have hL : ¬ isL (b i) = true := fun e => by have := of_decide_eq_true e; omega
                        have hD : ¬ isD (b i) = true := fun e => by have := of_decide_eq_true e; omega
                        have e : scS b (s00 q) (i + 1) = kSg (b i) i (scS b (s00 q) i) := by show kSt b i (scS b (s00 q) i) = _; unfold kSt; rw [if_neg hL, if_neg hD, if_neg (by omega)]
                        have hq2 := hq.tr p151
                        rw [← e] at hq2
                        have r := ih (i + 1) H151 (by omega) (by omega) hq2
                        rw [pvB_s, pvB_s, Bool.eq_false_iff.mpr hL, Bool.eq_false_iff.mpr hD] at r
                        exact xq_fgt (r) (by exact And.intro rfl (And.intro rfl (And.intro rfl (And.intro rfl (And.intro rfl (And.intro rfl (trivial)))))))
                  · skip
                    first | exact absurd h113 (by decide) | exact absurd rfl h113
                · skip
                  first | exact absurd h91 (by decide) | exact absurd rfl h91
              · skip
                refine xq_iload dX9_scan_75 rfl ?_
                refine xq_bipush dX9_scan_77 bp57 ?_
                refine xq_icmp_gtN dX9_scan_79 rfl (by omega) (by omega) ⟨fun h79 => ?_, fun h79 => ?_⟩
                · skip
                  refine xq_iconst dX9_scan_86 ic0 ?_
                  refine xq_istore dX9_scan_87 rfl ?_
                  refine xq_iload dX9_scan_89 rfl ?_
                  refine xq_if_eqN dX9_scan_91 rfl (by omega) ⟨fun h91 => ?_, fun h91 => ?_⟩
                  · skip
                    refine xq_iload dX9_scan_111 rfl ?_
                    refine xq_if_eqN dX9_scan_113 rfl (by omega) ⟨fun h113 => ?_, fun h113 => ?_⟩
                    · skip
                      refine xq_iload dX9_scan_132 rfl ?_
                      refine xq_bipush dX9_scan_134 bp10 ?_
                      refine xq_icmp_eqN dX9_scan_136 rfl (by omega) (by omega) ⟨fun h136 => ?_, fun h136 => ?_⟩
                      · skip
                        refine xq_iload dX9_scan_154 rfl ?_
                        refine xq_istore_n dX9_scan_156 rfl rfl ?_
                        refine xq_iload dX9_scan_157 rfl ?_
                        refine xq_istore dX9_scan_159 rfl ?_
                        refine xq_iincN dX9_scan_161 ic1 rfl rfl ?_
                        refine xq_goto dX9_scan_164 rfl ?_
                        have hL : ¬ isL (b i) = true := fun e => by have := of_decide_eq_true e; omega
                        have hD : ¬ isD (b i) = true := fun e => by have := of_decide_eq_true e; omega
                        have e : scS b (s00 q) (i + 1) = scS b (s00 q) i := by show kSt b i (scS b (s00 q) i) = _; unfold kSt; rw [if_neg hL, if_neg hD, if_pos (by omega)]
                        have hq2 := hq
                        rw [← e] at hq2
                        have r := ih (i + 1) H1 (by omega) (by omega) hq2
                        rw [pvB_s, pvB_s, Bool.eq_false_iff.mpr hL, Bool.eq_false_iff.mpr hD] at r
                        exact xq_fgt (r) (by exact And.intro rfl (And.intro rfl (And.intro rfl (And.intro rfl (And.intro rfl (And.intro rfl (trivial)))))))
                      · skip
                        refine xq_iload dX9_scan_139 rfl ?_
                        refine xq_bipush dX9_scan_141 bp32 ?_
                        refine xq_icmp_eqN dX9_scan_143 rfl (by omega) (by omega) ⟨fun h143 => ?_, fun h143 => ?_⟩
                        · skip
                          refine xq_iload dX9_scan_154 rfl ?_
                          refine xq_istore_n dX9_scan_156 rfl rfl ?_
                          refine xq_iload dX9_scan_157 rfl ?_
                          refine xq_istore dX9_scan_159 rfl ?_
                          refine xq_iincN dX9_scan_161 ic1 rfl rfl ?_
                          refine xq_goto dX9_scan_164 rfl ?_
                          have hL : ¬ isL (b i) = true := fun e => by have := of_decide_eq_true e; omega
                          have hD : ¬ isD (b i) = true := fun e => by have := of_decide_eq_true e; omega
                          have e : scS b (s00 q) (i + 1) = scS b (s00 q) i := by show kSt b i (scS b (s00 q) i) = _; unfold kSt; rw [if_neg hL, if_neg hD, if_pos (by omega)]
                          have hq2 := hq
                          rw [← e] at hq2
                          have r := ih (i + 1) H1 (by omega) (by omega) hq2
                          rw [pvB_s, pvB_s, Bool.eq_false_iff.mpr hL, Bool.eq_false_iff.mpr hD] at r
                          exact xq_fgt (r) (by exact And.intro rfl (And.intro rfl (And.intro rfl (And.intro rfl (And.intro rfl (And.intro rfl (trivial)))))))
                        · skip
                          refine xq_aload_n dX9_scan_146 rfl rfl ?_
                          refine xq_iload dX9_scan_147 rfl ?_
                          refine xq_iload dX9_scan_149 rfl ?_
                          refine xq_callV2N clX9 gd_X9_addSign dX9_scan_151 ml_RX9_56 im_X9_addSign se_X9_addSign rfl (Fx.s2 hF) (by exact Nat.le_of_ble_eq_true rfl) (by decide) (c_addSign1 hF hq.1 (by omega) hz1 (by omega) (fun j hj => by have := hsc.2.1 j hj; omega) hlt) ?_
                          intro H151 p151
                          refine xq_iload dX9_scan_154 rfl ?_
                          refine xq_istore_n dX9_scan_156 rfl rfl ?_
                          refine xq_iload dX9_scan_157 rfl ?_
                          refine xq_istore dX9_scan_159 rfl ?_
                          refine xq_iincN dX9_scan_161 ic1 rfl rfl ?_
                          refine xq_goto dX9_scan_164 rfl ?_
                          have hL : ¬ isL (b i) = true := fun e => by have := of_decide_eq_true e; omega
                          have hD : ¬ isD (b i) = true := fun e => by have := of_decide_eq_true e; omega
                          have e : scS b (s00 q) (i + 1) = kSg (b i) i (scS b (s00 q) i) := by show kSt b i (scS b (s00 q) i) = _; unfold kSt; rw [if_neg hL, if_neg hD, if_neg (by omega)]
                          have hq2 := hq.tr p151
                          rw [← e] at hq2
                          have r := ih (i + 1) H151 (by omega) (by omega) hq2
                          rw [pvB_s, pvB_s, Bool.eq_false_iff.mpr hL, Bool.eq_false_iff.mpr hD] at r
                          exact xq_fgt (r) (by exact And.intro rfl (And.intro rfl (And.intro rfl (And.intro rfl (And.intro rfl (And.intro rfl (trivial)))))))
                    · skip
                      first | exact absurd h113 (by decide) | exact absurd rfl h113
                  · skip
                    first | exact absurd h91 (by decide) | exact absurd rfl h91
                · skip
                  refine xq_iconst dX9_scan_82 ic1 ?_
                  refine xq_goto dX9_scan_83 rfl ?_
                  refine xq_istore dX9_scan_87 rfl ?_
                  refine xq_iload dX9_scan_89 rfl ?_
                  refine xq_if_eqN dX9_scan_91 rfl (by omega) ⟨fun h91 => ?_, fun h91 => ?_⟩
                  · skip
                    refine xq_iload dX9_scan_111 rfl ?_
                    refine xq_if_eqN dX9_scan_113 rfl (by omega) ⟨fun h113 => ?_, fun h113 => ?_⟩
                    · skip
                      first | exact absurd h113 (by decide) | exact absurd rfl h113
                    · skip
                      refine xq_aload_n dX9_scan_116 rfl rfl ?_
                      refine xq_iload dX9_scan_117 rfl ?_
                      refine xq_bipush dX9_scan_119 bp48 ?_
                      refine xq_isubN dX9_scan_121 (by omega) ?_
                      refine xq_iload dX9_scan_122 rfl ?_
                      refine xq_iload dX9_scan_124 rfl ?_
                      refine xq_callV3N clX9 gd_X9_addDigit dX9_scan_126 ml_RX9_53 im_X9_addDigit se_X9_addDigit rfl (Fx.s2 hF) (by exact Nat.le_of_ble_eq_true rfl) (by decide) (c_addDigit hF hq.1 (by omega) (by omega) (fun e => hsc.2.2.2 e)) ?_
                      intro H126 p126
                      refine xq_goto dX9_scan_129 rfl ?_
                      refine xq_iload dX9_scan_154 rfl ?_
                      refine xq_istore_n dX9_scan_156 rfl rfl ?_
                      refine xq_iload dX9_scan_157 rfl ?_
                      refine xq_istore dX9_scan_159 rfl ?_
                      refine xq_iincN dX9_scan_161 ic1 rfl rfl ?_
                      refine xq_goto dX9_scan_164 rfl ?_
                      have hL : ¬ isL (b i) = true := fun e => by have := of_decide_eq_true e; omega
                      have hD : isD (b i) = true := decide_eq_true (by omega)
                      have e : scS b (s00 q) (i + 1) = kDi (b i - 48) (if pvB isD b i = true then scS b (s00 q) i else kBeg 38 i (scS b (s00 q) i)) := by show kSt b i (scS b (s00 q) i) = _; unfold kSt; rw [if_neg hL, if_pos hD]
                      have hq2 := hq.tr p126
                      rw [← e] at hq2
                      have r := ih (i + 1) H126 (by omega) (by omega) hq2
                      rw [pvB_s, pvB_s, Bool.eq_false_iff.mpr hL, hD] at r
                      exact xq_fgt (r) (by exact And.intro rfl (And.intro rfl (And.intro rfl (And.intro rfl (And.intro rfl (And.intro rfl (trivial)))))))
                  · skip
                    first | exact absurd h91 (by decide) | exact absurd rfl h91
            · skip
              refine xq_iload dX9_scan_54 rfl ?_
              refine xq_bipush dX9_scan_56 bp122 ?_
              refine xq_icmp_gtN dX9_scan_58 rfl (by omega) (by omega) ⟨fun h58 => ?_, fun h58 => ?_⟩
              · skip
                refine xq_iconst dX9_scan_65 ic0 ?_
                refine xq_istore dX9_scan_66 rfl ?_
                refine xq_iload dX9_scan_68 rfl ?_
                refine xq_bipush dX9_scan_70 bp48 ?_
                refine xq_icmp_ltN dX9_scan_72 rfl (by omega) (by omega) ⟨fun h72 => ?_, fun h72 => ?_⟩
                · skip
                  refine xq_iconst dX9_scan_86 ic0 ?_
                  refine xq_istore dX9_scan_87 rfl ?_
                  refine xq_iload dX9_scan_89 rfl ?_
                  refine xq_if_eqN dX9_scan_91 rfl (by omega) ⟨fun h91 => ?_, fun h91 => ?_⟩
                  · skip
                    refine xq_iload dX9_scan_111 rfl ?_
                    refine xq_if_eqN dX9_scan_113 rfl (by omega) ⟨fun h113 => ?_, fun h113 => ?_⟩
                    · skip
                      refine xq_iload dX9_scan_132 rfl ?_
                      refine xq_bipush dX9_scan_134 bp10 ?_
                      refine xq_icmp_eqN dX9_scan_136 rfl (by omega) (by omega) ⟨fun h136 => ?_, fun h136 => ?_⟩
                      · skip
                        refine xq_iload dX9_scan_154 rfl ?_
                        refine xq_istore_n dX9_scan_156 rfl rfl ?_
                        refine xq_iload dX9_scan_157 rfl ?_
                        refine xq_istore dX9_scan_159 rfl ?_
                        refine xq_iincN dX9_scan_161 ic1 rfl rfl ?_
                        refine xq_goto dX9_scan_164 rfl ?_
                        have hL : ¬ isL (b i) = true := fun e => by have := of_decide_eq_true e; omega
                        have hD : ¬ isD (b i) = true := fun e => by have := of_decide_eq_true e; omega
                        have e : scS b (s00 q) (i + 1) = scS b (s00 q) i := by show kSt b i (scS b (s00 q) i) = _; unfold kSt; rw [if_neg hL, if_neg hD, if_pos (by omega)]
                        have hq2 := hq
                        rw [← e] at hq2
                        have r := ih (i + 1) H1 (by omega) (by omega) hq2
                        rw [pvB_s, pvB_s, Bool.eq_false_iff.mpr hL, Bool.eq_false_iff.mpr hD] at r
                        exact xq_fgt (r) (by exact And.intro rfl (And.intro rfl (And.intro rfl (And.intro rfl (And.intro rfl (And.intro rfl (trivial)))))))
                      · skip
                        refine xq_iload dX9_scan_139 rfl ?_
                        refine xq_bipush dX9_scan_141 bp32 ?_
                        refine xq_icmp_eqN dX9_scan_143 rfl (by omega) (by omega) ⟨fun h143 => ?_, fun h143 => ?_⟩
                        · skip
                          refine xq_iload dX9_scan_154 rfl ?_
                          refine xq_istore_n dX9_scan_156 rfl rfl ?_
                          refine xq_iload dX9_scan_157 rfl ?_
                          refine xq_istore dX9_scan_159 rfl ?_
                          refine xq_iincN dX9_scan_161 ic1 rfl rfl ?_
                          refine xq_goto dX9_scan_164 rfl ?_
                          have hL : ¬ isL (b i) = true := fun e => by have := of_decide_eq_true e; omega
                          have hD : ¬ isD (b i) = true := fun e => by have := of_decide_eq_true e; omega
                          have e : scS b (s00 q) (i + 1) = scS b (s00 q) i := by show kSt b i (scS b (s00 q) i) = _; unfold kSt; rw [if_neg hL, if_neg hD, if_pos (by omega)]
                          have hq2 := hq
                          rw [← e] at hq2
                          have r := ih (i + 1) H1 (by omega) (by omega) hq2
                          rw [pvB_s, pvB_s, Bool.eq_false_iff.mpr hL, Bool.eq_false_iff.mpr hD] at r
                          exact xq_fgt (r) (by exact And.intro rfl (And.intro rfl (And.intro rfl (And.intro rfl (And.intro rfl (And.intro rfl (trivial)))))))
                        · skip
                          refine xq_aload_n dX9_scan_146 rfl rfl ?_
                          refine xq_iload dX9_scan_147 rfl ?_
                          refine xq_iload dX9_scan_149 rfl ?_
                          refine xq_callV2N clX9 gd_X9_addSign dX9_scan_151 ml_RX9_56 im_X9_addSign se_X9_addSign rfl (Fx.s2 hF) (by exact Nat.le_of_ble_eq_true rfl) (by decide) (c_addSign1 hF hq.1 (by omega) hz1 (by omega) (fun j hj => by have := hsc.2.1 j hj; omega) hlt) ?_
                          intro H151 p151
                          refine xq_iload dX9_scan_154 rfl ?_
                          refine xq_istore_n dX9_scan_156 rfl rfl ?_
                          refine xq_iload dX9_scan_157 rfl ?_
                          refine xq_istore dX9_scan_159 rfl ?_
                          refine xq_iincN dX9_scan_161 ic1 rfl rfl ?_
                          refine xq_goto dX9_scan_164 rfl ?_
                          have hL : ¬ isL (b i) = true := fun e => by have := of_decide_eq_true e; omega
                          have hD : ¬ isD (b i) = true := fun e => by have := of_decide_eq_true e; omega
                          have e : scS b (s00 q) (i + 1) = kSg (b i) i (scS b (s00 q) i) := by show kSt b i (scS b (s00 q) i) = _; unfold kSt; rw [if_neg hL, if_neg hD, if_neg (by omega)]
                          have hq2 := hq.tr p151
                          rw [← e] at hq2
                          have r := ih (i + 1) H151 (by omega) (by omega) hq2
                          rw [pvB_s, pvB_s, Bool.eq_false_iff.mpr hL, Bool.eq_false_iff.mpr hD] at r
                          exact xq_fgt (r) (by exact And.intro rfl (And.intro rfl (And.intro rfl (And.intro rfl (And.intro rfl (And.intro rfl (trivial)))))))
                    · skip
                      first | exact absurd h113 (by decide) | exact absurd rfl h113
                  · skip
                    first | exact absurd h91 (by decide) | exact absurd rfl h91
                · skip
                  refine xq_iload dX9_scan_75 rfl ?_
                  refine xq_bipush dX9_scan_77 bp57 ?_
                  refine xq_icmp_gtN dX9_scan_79 rfl (by omega) (by omega) ⟨fun h79 => ?_, fun h79 => ?_⟩
                  · skip
                    refine xq_iconst dX9_scan_86 ic0 ?_
                    refine xq_istore dX9_scan_87 rfl ?_
                    refine xq_iload dX9_scan_89 rfl ?_
                    refine xq_if_eqN dX9_scan_91 rfl (by omega) ⟨fun h91 => ?_, fun h91 => ?_⟩
                    · skip
                      refine xq_iload dX9_scan_111 rfl ?_
                      refine xq_if_eqN dX9_scan_113 rfl (by omega) ⟨fun h113 => ?_, fun h113 => ?_⟩
                      · skip
                        refine xq_iload dX9_scan_132 rfl ?_
                        refine xq_bipush dX9_scan_134 bp10 ?_
                        refine xq_icmp_eqN dX9_scan_136 rfl (by omega) (by omega) ⟨fun h136 => ?_, fun h136 => ?_⟩
                        · skip
                          refine xq_iload dX9_scan_154 rfl ?_
                          refine xq_istore_n dX9_scan_156 rfl rfl ?_
                          refine xq_iload dX9_scan_157 rfl ?_
                          refine xq_istore dX9_scan_159 rfl ?_
                          refine xq_iincN dX9_scan_161 ic1 rfl rfl ?_
                          refine xq_goto dX9_scan_164 rfl ?_
                          have hL : ¬ isL (b i) = true := fun e => by have := of_decide_eq_true e; omega
                          have hD : ¬ isD (b i) = true := fun e => by have := of_decide_eq_true e; omega
                          have e : scS b (s00 q) (i + 1) = scS b (s00 q) i := by show kSt b i (scS b (s00 q) i) = _; unfold kSt; rw [if_neg hL, if_neg hD, if_pos (by omega)]
                          have hq2 := hq
                          rw [← e] at hq2
                          have r := ih (i + 1) H1 (by omega) (by omega) hq2
                          rw [pvB_s, pvB_s, Bool.eq_false_iff.mpr hL, Bool.eq_false_iff.mpr hD] at r
                          exact xq_fgt (r) (by exact And.intro rfl (And.intro rfl (And.intro rfl (And.intro rfl (And.intro rfl (And.intro rfl (trivial)))))))
                        · skip
                          refine xq_iload dX9_scan_139 rfl ?_
                          refine xq_bipush dX9_scan_141 bp32 ?_
                          refine xq_icmp_eqN dX9_scan_143 rfl (by omega) (by omega) ⟨fun h143 => ?_, fun h143 => ?_⟩
                          · skip
                            refine xq_iload dX9_scan_154 rfl ?_
                            refine xq_istore_n dX9_scan_156 rfl rfl ?_
                            refine xq_iload dX9_scan_157 rfl ?_
                            refine xq_istore dX9_scan_159 rfl ?_
                            refine xq_iincN dX9_scan_161 ic1 rfl rfl ?_
                            refine xq_goto dX9_scan_164 rfl ?_
                            have hL : ¬ isL (b i) = true := fun e => by have := of_decide_eq_true e; omega
                            have hD : ¬ isD (b i) = true := fun e => by have := of_decide_eq_true e; omega
                            have e : scS b (s00 q) (i + 1) = scS b (s00 q) i := by show kSt b i (scS b (s00 q) i) = _; unfold kSt; rw [if_neg hL, if_neg hD, if_pos (by omega)]
                            have hq2 := hq
                            rw [← e] at hq2
                            have r := ih (i + 1) H1 (by omega) (by omega) hq2
                            rw [pvB_s, pvB_s, Bool.eq_false_iff.mpr hL, Bool.eq_false_iff.mpr hD] at r
                            exact xq_fgt (r) (by exact And.intro rfl (And.intro rfl (And.intro rfl (And.intro rfl (And.intro rfl (And.intro rfl (trivial)))))))
                          · skip
                            refine xq_aload_n dX9_scan_146 rfl rfl ?_
                            refine xq_iload dX9_scan_147 rfl ?_
                            refine xq_iload dX9_scan_149 rfl ?_
                            refine xq_callV2N clX9 gd_X9_addSign dX9_scan_151 ml_RX9_56 im_X9_addSign se_X9_addSign rfl (Fx.s2 hF) (by exact Nat.le_of_ble_eq_true rfl) (by decide) (c_addSign1 hF hq.1 (by omega) hz1 (by omega) (fun j hj => by have := hsc.2.1 j hj; omega) hlt) ?_
                            intro H151 p151
                            refine xq_iload dX9_scan_154 rfl ?_
                            refine xq_istore_n dX9_scan_156 rfl rfl ?_
                            refine xq_iload dX9_scan_157 rfl ?_
                            refine xq_istore dX9_scan_159 rfl ?_
                            refine xq_iincN dX9_scan_161 ic1 rfl rfl ?_
                            refine xq_goto dX9_scan_164 rfl ?_
                            have hL : ¬ isL (b i) = true := fun e => by have := of_decide_eq_true e; omega
                            have hD : ¬ isD (b i) = true := fun e => by have := of_decide_eq_true e; omega
                            have e : scS b (s00 q) (i + 1) = kSg (b i) i (scS b (s00 q) i) := by show kSt b i (scS b (s00 q) i) = _; unfold kSt; rw [if_neg hL, if_neg hD, if_neg (by omega)]
                            have hq2 := hq.tr p151
                            rw [← e] at hq2
                            have r := ih (i + 1) H151 (by omega) (by omega) hq2
                            rw [pvB_s, pvB_s, Bool.eq_false_iff.mpr hL, Bool.eq_false_iff.mpr hD] at r
                            exact xq_fgt (r) (by exact And.intro rfl (And.intro rfl (And.intro rfl (And.intro rfl (And.intro rfl (And.intro rfl (trivial)))))))
                      · skip
                        first | exact absurd h113 (by decide) | exact absurd rfl h113
                    · skip
                      first | exact absurd h91 (by decide) | exact absurd rfl h91
                  · skip
                    refine xq_iconst dX9_scan_82 ic1 ?_
                    refine xq_goto dX9_scan_83 rfl ?_
                    refine xq_istore dX9_scan_87 rfl ?_
                    refine xq_iload dX9_scan_89 rfl ?_
                    refine xq_if_eqN dX9_scan_91 rfl (by omega) ⟨fun h91 => ?_, fun h91 => ?_⟩
                    · skip
                      refine xq_iload dX9_scan_111 rfl ?_
                      refine xq_if_eqN dX9_scan_113 rfl (by omega) ⟨fun h113 => ?_, fun h113 => ?_⟩
                      · skip
                        first | exact absurd h113 (by decide) | exact absurd rfl h113
                      · skip
                        refine xq_aload_n dX9_scan_116 rfl rfl ?_
                        refine xq_iload dX9_scan_117 rfl ?_
                        refine xq_bipush dX9_scan_119 bp48 ?_
                        refine xq_isubN dX9_scan_121 (by omega) ?_
                        refine xq_iload dX9_scan_122 rfl ?_
                        refine xq_iload dX9_scan_124 rfl ?_
                        refine xq_callV3N clX9 gd_X9_addDigit dX9_scan_126 ml_RX9_53 im_X9_addDigit se_X9_addDigit rfl (Fx.s2 hF) (by exact Nat.le_of_ble_eq_true rfl) (by decide) (c_addDigit hF hq.1 (by omega) (by omega) (fun e => hsc.2.2.2 e)) ?_
                        intro H126 p126
                        refine xq_goto dX9_scan_129 rfl ?_
                        refine xq_iload dX9_scan_154 rfl ?_
                        refine xq_istore_n dX9_scan_156 rfl rfl ?_
                        refine xq_iload dX9_scan_157 rfl ?_
                        refine xq_istore dX9_scan_159 rfl ?_
                        refine xq_iincN dX9_scan_161 ic1 rfl rfl ?_
                        refine xq_goto dX9_scan_164 rfl ?_
                        have hL : ¬ isL (b i) = true := fun e => by have := of_decide_eq_true e; omega
                        have hD : isD (b i) = true := decide_eq_true (by omega)
                        have e : scS b (s00 q) (i + 1) = kDi (b i - 48) (if pvB isD b i = true then scS b (s00 q) i else kBeg 38 i (scS b (s00 q) i)) := by show kSt b i (scS b (s00 q) i) = _; unfold kSt; rw [if_neg hL, if_pos hD]
                        have hq2 := hq.tr p126
                        rw [← e] at hq2
                        have r := ih (i + 1) H126 (by omega) (by omega) hq2
                        rw [pvB_s, pvB_s, Bool.eq_false_iff.mpr hL, hD] at r
                        exact xq_fgt (r) (by exact And.intro rfl (And.intro rfl (And.intro rfl (And.intro rfl (And.intro rfl (And.intro rfl (trivial)))))))
                    · skip
                      first | exact absurd h91 (by decide) | exact absurd rfl h91
              · skip
                refine xq_iconst dX9_scan_61 ic1 ?_
                refine xq_goto dX9_scan_62 rfl ?_
                refine xq_istore dX9_scan_66 rfl ?_
                refine xq_iload dX9_scan_68 rfl ?_
                refine xq_bipush dX9_scan_70 bp48 ?_
                refine xq_icmp_ltN dX9_scan_72 rfl (by omega) (by omega) ⟨fun h72 => ?_, fun h72 => ?_⟩
                · skip
                  refine xq_iconst dX9_scan_86 ic0 ?_
                  refine xq_istore dX9_scan_87 rfl ?_
                  refine xq_iload dX9_scan_89 rfl ?_
                  refine xq_if_eqN dX9_scan_91 rfl (by omega) ⟨fun h91 => ?_, fun h91 => ?_⟩
                  · skip
                    first | exact absurd h91 (by decide) | exact absurd rfl h91
                  · skip
                    refine xq_aload_n dX9_scan_94 rfl rfl ?_
                    refine xq_iload dX9_scan_95 rfl ?_
                    refine xq_bipush dX9_scan_97 bp97 ?_
                    refine xq_isubN dX9_scan_99 (by omega) ?_
                    refine xq_iconst dX9_scan_100 ic1 ?_
                    refine xq_iaddN dX9_scan_101 ?_
                    refine xq_iload dX9_scan_102 rfl ?_
                    refine xq_iload_n dX9_scan_104 rfl rfl ?_
                    refine xq_callV3N clX9 gd_X9_addLetter dX9_scan_105 ml_RX9_49 im_X9_addLetter se_X9_addLetter rfl (Fx.s2 hF) (by exact Nat.le_of_ble_eq_true rfl) (by decide) (c_addLetter hF hq.1 (by omega) (by omega) (fun e => by have := hsc.2.2.1 e; omega)) ?_
                    intro H105 p105
                    refine xq_goto dX9_scan_108 rfl ?_
                    refine xq_iload dX9_scan_154 rfl ?_
                    refine xq_istore_n dX9_scan_156 rfl rfl ?_
                    refine xq_iload dX9_scan_157 rfl ?_
                    refine xq_istore dX9_scan_159 rfl ?_
                    refine xq_iincN dX9_scan_161 ic1 rfl rfl ?_
                    refine xq_goto dX9_scan_164 rfl ?_
                    have hL : isL (b i) = true := decide_eq_true (by omega)
                    have hD : ¬ isD (b i) = true := fun e => by have := of_decide_eq_true e; omega
                    have e : scS b (s00 q) (i + 1) = kLe (b i - 96) (if pvB isL b i = true then scS b (s00 q) i else kL0 i (scS b (s00 q) i)) := by show kSt b i (scS b (s00 q) i) = _; unfold kSt; rw [if_pos hL]
                    have hq2 := hq.tr p105
                    rw [show b i - 97 + 1 = b i - 96 by omega, ← e] at hq2
                    have r := ih (i + 1) H105 (by omega) (by omega) hq2
                    rw [pvB_s, pvB_s, hL, Bool.eq_false_iff.mpr hD] at r
                    exact xq_fgt (r) (by exact And.intro rfl (And.intro rfl (And.intro rfl (And.intro rfl (And.intro rfl (And.intro rfl (trivial)))))))
                · skip
                  refine xq_iload dX9_scan_75 rfl ?_
                  refine xq_bipush dX9_scan_77 bp57 ?_
                  refine xq_icmp_gtN dX9_scan_79 rfl (by omega) (by omega) ⟨fun h79 => ?_, fun h79 => ?_⟩
                  · skip
                    refine xq_iconst dX9_scan_86 ic0 ?_
                    refine xq_istore dX9_scan_87 rfl ?_
                    refine xq_iload dX9_scan_89 rfl ?_
                    refine xq_if_eqN dX9_scan_91 rfl (by omega) ⟨fun h91 => ?_, fun h91 => ?_⟩
                    · skip
                      first | exact absurd h91 (by decide) | exact absurd rfl h91
                    · skip
                      refine xq_aload_n dX9_scan_94 rfl rfl ?_
                      refine xq_iload dX9_scan_95 rfl ?_
                      refine xq_bipush dX9_scan_97 bp97 ?_
                      refine xq_isubN dX9_scan_99 (by omega) ?_
                      refine xq_iconst dX9_scan_100 ic1 ?_
                      refine xq_iaddN dX9_scan_101 ?_
                      refine xq_iload dX9_scan_102 rfl ?_
                      refine xq_iload_n dX9_scan_104 rfl rfl ?_
                      refine xq_callV3N clX9 gd_X9_addLetter dX9_scan_105 ml_RX9_49 im_X9_addLetter se_X9_addLetter rfl (Fx.s2 hF) (by exact Nat.le_of_ble_eq_true rfl) (by decide) (c_addLetter hF hq.1 (by omega) (by omega) (fun e => by have := hsc.2.2.1 e; omega)) ?_
                      intro H105 p105
                      refine xq_goto dX9_scan_108 rfl ?_
                      refine xq_iload dX9_scan_154 rfl ?_
                      refine xq_istore_n dX9_scan_156 rfl rfl ?_
                      refine xq_iload dX9_scan_157 rfl ?_
                      refine xq_istore dX9_scan_159 rfl ?_
                      refine xq_iincN dX9_scan_161 ic1 rfl rfl ?_
                      refine xq_goto dX9_scan_164 rfl ?_
                      have hL : isL (b i) = true := decide_eq_true (by omega)
                      have hD : ¬ isD (b i) = true := fun e => by have := of_decide_eq_true e; omega
                      have e : scS b (s00 q) (i + 1) = kLe (b i - 96) (if pvB isL b i = true then scS b (s00 q) i else kL0 i (scS b (s00 q) i)) := by show kSt b i (scS b (s00 q) i) = _; unfold kSt; rw [if_pos hL]
                      have hq2 := hq.tr p105
                      rw [show b i - 97 + 1 = b i - 96 by omega, ← e] at hq2
                      have r := ih (i + 1) H105 (by omega) (by omega) hq2
                      rw [pvB_s, pvB_s, hL, Bool.eq_false_iff.mpr hD] at r
                      exact xq_fgt (r) (by exact And.intro rfl (And.intro rfl (And.intro rfl (And.intro rfl (And.intro rfl (And.intro rfl (trivial)))))))
                  · skip
                    refine xq_iconst dX9_scan_82 ic1 ?_
                    refine xq_goto dX9_scan_83 rfl ?_
                    refine xq_istore dX9_scan_87 rfl ?_
                    refine xq_iload dX9_scan_89 rfl ?_
                    refine xq_if_eqN dX9_scan_91 rfl (by omega) ⟨fun h91 => ?_, fun h91 => ?_⟩
                    · skip
                      first | exact absurd h91 (by decide) | exact absurd rfl h91
                    · skip
                      refine xq_aload_n dX9_scan_94 rfl rfl ?_
                      refine xq_iload dX9_scan_95 rfl ?_
                      refine xq_bipush dX9_scan_97 bp97 ?_
                      refine xq_isubN dX9_scan_99 (by omega) ?_
                      refine xq_iconst dX9_scan_100 ic1 ?_
                      refine xq_iaddN dX9_scan_101 ?_
                      refine xq_iload dX9_scan_102 rfl ?_
                      refine xq_iload_n dX9_scan_104 rfl rfl ?_
                      refine xq_callV3N clX9 gd_X9_addLetter dX9_scan_105 ml_RX9_49 im_X9_addLetter se_X9_addLetter rfl (Fx.s2 hF) (by exact Nat.le_of_ble_eq_true rfl) (by decide) (c_addLetter hF hq.1 (by omega) (by omega) (fun e => by have := hsc.2.2.1 e; omega)) ?_
                      intro H105 p105
                      refine xq_goto dX9_scan_108 rfl ?_
                      refine xq_iload dX9_scan_154 rfl ?_
                      refine xq_istore_n dX9_scan_156 rfl rfl ?_
                      refine xq_iload dX9_scan_157 rfl ?_
                      refine xq_istore dX9_scan_159 rfl ?_
                      refine xq_iincN dX9_scan_161 ic1 rfl rfl ?_
                      refine xq_goto dX9_scan_164 rfl ?_
                      have hL : isL (b i) = true := decide_eq_true (by omega)
                      have hD : isD (b i) = true := decide_eq_true (by omega)
                      have e : scS b (s00 q) (i + 1) = kLe (b i - 96) (if pvB isL b i = true then scS b (s00 q) i else kL0 i (scS b (s00 q) i)) := by show kSt b i (scS b (s00 q) i) = _; unfold kSt; rw [if_pos hL]
                      have hq2 := hq.tr p105
                      rw [show b i - 97 + 1 = b i - 96 by omega, ← e] at hq2
                      have r := ih (i + 1) H105 (by omega) (by omega) hq2
                      rw [pvB_s, pvB_s, hL, hD] at r
                      exact xq_fgt (r) (by exact And.intro rfl (And.intro rfl (And.intro rfl (And.intro rfl (And.intro rfl (And.intro rfl (trivial)))))))
      · skip
        have hsc0 := ScI_all (b := b) (s00 q) rfl i; have hz0 := hsc0.1
        refine xq_iload dX9_scan_28 rfl ?_
        refine xq_iload_n dX9_scan_30 rfl rfl ?_
        refine xq_icmp_geN dX9_scan_31 rfl (by omega) (by omega) ⟨fun h31 => ?_, fun h31 => ?_⟩
        · skip
          have e0 : i = n := by omega
          subst e0
          obtain ⟨hb1, hb2⟩ := hsc0.beg (k := 44) (by omega)
          refine xq_aload_n dX9_scan_167 rfl rfl ?_
          refine xq_bipush dX9_scan_168 bp44 ?_
          refine xq_iload_n dX9_scan_170 rfl rfl ?_
          refine xq_callV2N clX9 gd_X9_begin dX9_scan_171 ml_RX9_60 im_X9_begin se_X9_begin rfl (Fx.s2 hF) (by exact Nat.le_of_ble_eq_true rfl) (by decide) (c_beginT hF hq.1 (by omega)) ?_
          intro H171 p171
          have hq3 := hq.tr p171
          refine xq_aload_n dX9_scan_174 rfl rfl ?_
          refine xq_callV0N clX9 gd_X9_nameWords dX9_scan_175 ml_RX9_63 im_X9_nameWords se_X9_nameWords rfl (Fx.s2 hF) (by exact Nat.le_of_ble_eq_true rfl) (by decide) (c_nameWords hF hq3.1 (fun w hw => (hq3.2.2.I (by omega) w).trans (hwd w hw)) (by omega) (fun j hj => ⟨(hb2 j hj).1, (hb2 j hj).2.2⟩)) ?_
          intro H175 p175
          refine xq_vret dX9_scan_178 rfl ?_
          have hq4 := hq3.tr p175
          exact ⟨_, ⟨⟨hq4.1, (hq4.2.1 5 (by decide) (by decide)).trans hb5⟩, (hq4.2.1 7 (by decide) (by decide)).trans hb7, (hq4.2.1 8 (by decide) (by decide)).trans hb8, hbo.tr hq4.2.2⟩, rfl⟩
        · skip
          refine xq_iload dX9_scan_34 rfl ?_
          refine xq_aload_n dX9_scan_36 rfl rfl ?_
          refine xq_alen (v := nI 700) dX9_scan_37 (Fx.s1 hF) (by decide) rfl ?_
          refine xq_icmp_geN dX9_scan_38 rfl (by omega) (by omega) ⟨fun h38 => ?_, fun h38 => ?_⟩
          · skip
            exact absurd h38 (by omega)
          · skip
            refine xq_aload_n dX9_scan_41 rfl rfl ?_
            refine xq_iload dX9_scan_42 rfl ?_
            have hsc := ScI_all (b := b) (s00 q) rfl i
            have hz1 := hsc.1
            have hby := hby0 i h31
            have htb : hI H1 1 i = sby (b i) := (hq.2.2.I (by omega) i).trans (hta i h31)
            refine xq_baldN dX9_scan_44 (Fx.s1 hF) (by omega) (by decide) htb ?_
            refine xq_istore dX9_scan_45 rfl ?_
            refine xq_iload dX9_scan_47 rfl ?_
            refine xq_bipush dX9_scan_49 bp97 ?_
            refine xq_icmp_lt dX9_scan_51 rfl ⟨fun h51 => ?_, fun h51 => ?_⟩
            · skip
              refine xq_iconst dX9_scan_65 ic0 ?_
              refine xq_istore dX9_scan_66 rfl ?_
              refine xq_iload dX9_scan_68 rfl ?_
              refine xq_bipush dX9_scan_70 bp48 ?_
              refine xq_icmp_lt dX9_scan_72 rfl ⟨fun h72 => ?_, fun h72 => ?_⟩
              · skip
                refine xq_iconst dX9_scan_86 ic0 ?_
                refine xq_istore dX9_scan_87 rfl ?_
                refine xq_iload dX9_scan_89 rfl ?_
                refine xq_if_eqN dX9_scan_91 rfl (by omega) ⟨fun h91 => ?_, fun h91 => ?_⟩
                · skip
                  refine xq_iload dX9_scan_111 rfl ?_
                  refine xq_if_eqN dX9_scan_113 rfl (by omega) ⟨fun h113 => ?_, fun h113 => ?_⟩
                  · skip
                    refine xq_iload dX9_scan_132 rfl ?_
                    refine xq_bipush dX9_scan_134 bp10 ?_
                    refine xq_icmp_eq dX9_scan_136 rfl ⟨fun h136 => ?_, fun h136 => ?_⟩
                    · skip
                      have := congrArg Int32.toInt h136; rw [sby_neg (by omega) hby, nI_toInt (by omega)] at this; omega
                    · skip
                      refine xq_iload dX9_scan_139 rfl ?_
                      refine xq_bipush dX9_scan_141 bp32 ?_
                      refine xq_icmp_eq dX9_scan_143 rfl ⟨fun h143 => ?_, fun h143 => ?_⟩
                      · skip
                        have := congrArg Int32.toInt h143; rw [sby_neg (by omega) hby, nI_toInt (by omega)] at this; omega
                      · skip
                        refine xq_aload_n dX9_scan_146 rfl rfl ?_
                        refine xq_iload dX9_scan_147 rfl ?_
                        refine xq_iload dX9_scan_149 rfl ?_
                        refine xq_callV2N clX9 gd_X9_addSign dX9_scan_151 ml_RX9_56 im_X9_addSign se_X9_addSign rfl (Fx.s2 hF) (by exact Nat.le_of_ble_eq_true rfl) (by decide) (c_addSign0 hF hq.1 (by omega) hz1 (by omega) (fun j hj => by have := hsc.2.1 j hj; omega) (by omega) hby) ?_
                        intro H151 p151
                        refine xq_iload dX9_scan_154 rfl ?_
                        refine xq_istore_n dX9_scan_156 rfl rfl ?_
                        refine xq_iload dX9_scan_157 rfl ?_
                        refine xq_istore dX9_scan_159 rfl ?_
                        refine xq_iincN dX9_scan_161 ic1 rfl rfl ?_
                        refine xq_goto dX9_scan_164 rfl ?_
                        have hL : ¬ isL (b i) = true := fun e => by have := of_decide_eq_true e; omega
                        have hD : ¬ isD (b i) = true := fun e => by have := of_decide_eq_true e; omega
                        have e : scS b (s00 q) (i + 1) = kSg (b i) i (scS b (s00 q) i) := by show kSt b i (scS b (s00 q) i) = _; unfold kSt; rw [if_neg hL, if_neg hD, if_neg (by omega)]
                        have hq2 := hq.tr p151
                        rw [← e] at hq2
                        have r := ih (i + 1) H151 (by omega) (by omega) hq2
                        rw [pvB_s, pvB_s, Bool.eq_false_iff.mpr hL, Bool.eq_false_iff.mpr hD] at r
                        exact xq_fgt (r) (by exact And.intro rfl (And.intro rfl (And.intro rfl (And.intro rfl (And.intro rfl (And.intro rfl (trivial)))))))
                  · skip
                    first | exact absurd h113 (by decide) | exact absurd rfl h113
                · skip
                  first | exact absurd h91 (by decide) | exact absurd rfl h91
              · skip
                exact absurd (by rw [Int32.lt_iff_toInt_lt, sby_neg (by omega) hby, nI_toInt (by omega)]; omega) h72
            · skip
              exact absurd (by rw [Int32.lt_iff_toInt_lt, sby_neg (by omega) hby, nI_toInt (by omega)]; omega) h51
  exact lp (n + 1) 0 Hb (by omega) (by omega) hq0.tq
theorem c_scan (hF : gFx S) (hn : n ≤ 700) (hby0 : ∀ j, j < n → b j < 256) (hta : TaP H n b) (hwd : WdP H) (hlt : hI H 2 6 = nI q) : Nv mX9_scan 2 [.ref 2, .ref 1, vN n] S H (fun H' => TrP H' (scF b q n) 0 ∧ hI H' 2 7 = nI 0 ∧ hI H' 2 8 = -1 ∧ Off (fun q => q = 2 ∨ (4 ≤ q ∧ q < 7)) H H') := by
  refine vq_intro (by decide) (by exact Nat.le_of_ble_eq_true rfl) rfl ?_
  refine xq_aload_n dX9_scan_0 rfl rfl ?_
  refine xq_iconst dX9_scan_1 ic0 ?_
  refine xq_putI clX9 (by decide) rfl fl_RX9_40 (Or.inl rfl) dX9_scan_2 ⟨rfl, rfl⟩ (Fx.s2 hF) ?_
  refine xq_aload_n dX9_scan_5 rfl rfl ?_
  refine xq_iconst dX9_scan_6 ic0 ?_
  refine xq_putI clX9 (by decide) rfl fl_RX9_43 (Or.inl rfl) dX9_scan_7 ⟨rfl, rfl⟩ (Fx.s2 hF) ?_
  refine xq_aload_n dX9_scan_10 rfl rfl ?_
  refine xq_iconst dX9_scan_11 ic0 ?_
  refine xq_putI clX9 (by decide) rfl fl_RX9_46 (Or.inl rfl) dX9_scan_12 ⟨rfl, rfl⟩ (Fx.s2 hF) ?_
  refine xq_aload_n dX9_scan_15 rfl rfl ?_
  refine xq_iconst dX9_scan_16 icm1 ?_
  refine xq_putI clX9 (by decide) rfl fl_RX9_24 (Or.inl rfl) dX9_scan_17 ⟨rfl, rfl⟩ (Fx.s2 hF) ?_
  refine xq_iconst dX9_scan_20 ic0 ?_
  refine xq_istore_n dX9_scan_21 rfl rfl ?_
  refine xq_iconst dX9_scan_22 ic0 ?_
  refine xq_istore dX9_scan_23 rfl ?_
  refine xq_iconst dX9_scan_25 ic0 ?_
  refine xq_istore dX9_scan_26 rfl ?_
  exact c_scanL (q := q) hF hn hby0 (fun j hj => by rw [hI_sI, if_neg (by omega), hI_sI, if_neg (by omega), hI_sI, if_neg (by omega), hI_sI, if_neg (by omega)]; exact hta.2 j hj) (fun w hw => by rw [hI_sI, if_neg (by omega), hI_sI, if_neg (by omega), hI_sI, if_neg (by omega), hI_sI, if_neg (by omega)]; exact hwd w hw) (by simp [hI_sI]) (by simp [hI_sI]) (by simp [hI_sI]) (Off.pI (A := fun q => q = 2 ∨ (4 ≤ q ∧ q < 7)) (Off.pI (A := fun q => q = 2 ∨ (4 ≤ q ∧ q < 7)) (Off.pI (A := fun q => q = 2 ∨ (4 ≤ q ∧ q < 7)) (Off.pI (A := fun q => q = 2 ∨ (4 ≤ q ∧ q < 7)) Off.rf (Or.inl rfl) _ _) (Or.inl rfl) _ _) (Or.inl rfl) _ _) (Or.inl rfl) _ _) ⟨by simp [hI_sI, s00], by simp [hI_sI]; exact hlt, fun j hj => absurd hj (Nat.not_lt_zero j)⟩
end SC
