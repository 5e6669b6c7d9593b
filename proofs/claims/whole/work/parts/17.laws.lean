/-! ===== Laws ===== -/
def zL (z : Int) : Int64 := Int64.ofInt z
theorem zL_toInt {z : Int} (h1 : -9223372036854775808 ≤ z) (h2 : z < 9223372036854775808) : (zL z).toInt = z := by
  show (Int64.ofInt z).toInt = z
  rw [Int64.toInt_ofInt]
  exact fb_bmodL h1 h2
abbrev inB (z : Int) : Prop := -9223372036854775808 ≤ z ∧ z < 9223372036854775808
theorem zL_lt {a b : Int} (ha : inB a) (hb : inB b) : zL a < zL b ↔ a < b := by rw [Int64.lt_iff_toInt_lt, zL_toInt ha.1 ha.2, zL_toInt hb.1 hb.2]
theorem zL_le {a b : Int} (ha : inB a) (hb : inB b) : zL a ≤ zL b ↔ a ≤ b := by rw [Int64.le_iff_toInt_le, zL_toInt ha.1 ha.2, zL_toInt hb.1 hb.2]
theorem zL_eq {a b : Int} (ha : inB a) (hb : inB b) : zL a = zL b ↔ a = b := by rw [← Int64.toInt_inj, zL_toInt ha.1 ha.2, zL_toInt hb.1 hb.2]
theorem zL_n (n : Nat) : zL (n : Int) = lN n := rfl
theorem zL_add (a b : Int) : zL a + zL b = zL (a + b) := (Int64.ofInt_add a b).symm
theorem zL_mul (a b : Int) : zL a * zL b = zL (a * b) := (Int64.ofInt_mul a b).symm
theorem zL_sub (a b : Int) : zL a - zL b = zL (a - b) := (Int64.ofInt_sub a b).symm
theorem zL_neg (a : Int) : -(zL a) = zL (-a) := (Int64.ofInt_neg a).symm
theorem zL_abs {a : Int} (ha : inB a) (ha2 : a ≠ -9223372036854775808) : (if 0 < zL a then zL a else -(zL a)) = zL a.natAbs := by
  have h0 : (0 : Int64) = zL 0 := rfl
  by_cases h : 0 < a
  · rw [if_pos (by rw [h0, zL_lt ⟨by omega, by omega⟩ ha]; exact h), show (a.natAbs : Int) = a by omega]
  · rw [if_neg (by rw [h0, zL_lt ⟨by omega, by omega⟩ ha]; exact h), zL_neg, show (a.natAbs : Int) = -a by omega]
theorem zL_div {a b : Int} (ha : inB a) (hb : inB b) (hb0 : b ≠ 0) (hab : a ≠ -9223372036854775808) : zL a / zL b = zL (a.tdiv b) := by
  rw [← Int64.toInt_inj, Int64.toInt_div, zL_toInt ha.1 ha.2, zL_toInt hb.1 hb.2]
  have h : (a.tdiv b).natAbs ≤ a.natAbs := by rw [Int.natAbs_tdiv]; exact Nat.div_le_self _ _
  have h1 := ha.1; have h2 := ha.2
  rw [zL_toInt (by omega) (by omega)]
  generalize a.tdiv b = d at h ⊢
  rw [Int.bmod_eq_of_le (by omega) (by omega)]
abbrev MB : Int := 1000000000000
abbrev MIN64 : Int := -9223372036854775808
def inR (z : Int) : Bool := decide (-1000000000000 ≤ z ∧ z ≤ 1000000000000)
def b2z (p : Prop) [Decidable p] : Int := if p then 1 else 0
def wkz (k : Nat) (a b : Int) : Int :=
  if k = 11 then b2z (a ≠ 0 ∨ b ≠ 0) else if k = 12 then b2z (a ≠ 0 ∧ b ≠ 0) else if k = 13 then b2z (a = 0)
  else if k = 32 then b2z (a < b) else if k = 33 then b2z (a ≤ b) else if k = 34 then b2z (a = b) else if k = 35 then b2z (a ≠ b) else if k = 36 then b2z (b ≤ a) else if k = 37 then b2z (b < a)
  else if k = 28 then a + b else if k = 29 then a - b
  else if k = 30 then (if (a * b).natAbs ≤ 1000000000000 then a * b else MIN64)
  else if b = 0 then MIN64 else a.tdiv b
def WkK (k : Nat) : Prop := k = 11 ∨ k = 12 ∨ k = 13 ∨ (28 ≤ k ∧ k ≤ 37)
section LW
variable {S : xS} {H H1 : xH} {i t k x y a n p z m : Nat} {u : uSt} {T : uTx} {A B : Int64} {c d : Int}
theorem b2z_1 {p : Prop} [Decidable p] (h : p) : b2z p = 1 := if_pos h
theorem b2z_0 {p : Prop} [Decidable p] (h : ¬ p) : b2z p = 0 := if_neg h
theorem c_truth0  : Pv mX3_truth 0 [vN 0] S H (.long (lN 0)) := by
  refine vq_ev (vq_intro (by decide) (by exact Nat.le_of_ble_eq_true rfl) rfl ?_)
  refine xq_iload_n dX3_truth_0 rfl rfl ?_
  refine xq_if_eqN dX3_truth_1 rfl (by omega) ⟨fun h1 => ?_, fun h1 => ?_⟩
  · skip
    refine xq_lconst dX3_truth_8 lc0 ?_
    refine xq_lret dX3_truth_9 rfl ?_
    rfl
  · skip
    first | exact absurd h1 (by decide) | exact absurd rfl h1
theorem c_truth1  : Pv mX3_truth 0 [vN 1] S H (.long (lN 1)) := by
  refine vq_ev (vq_intro (by decide) (by exact Nat.le_of_ble_eq_true rfl) rfl ?_)
  refine xq_iload_n dX3_truth_0 rfl rfl ?_
  refine xq_if_eqN dX3_truth_1 rfl (by omega) ⟨fun h1 => ?_, fun h1 => ?_⟩
  · skip
    first | exact absurd h1 (by decide) | exact absurd rfl h1
  · skip
    refine xq_lconst dX3_truth_4 lc1 ?_
    refine xq_goto dX3_truth_5 rfl ?_
    refine xq_lret dX3_truth_9 rfl ?_
    rfl
theorem mul_cmp (hd : d ≠ 0) : ((c.natAbs : Int) ≤ (Int.tdiv 1000000000000 d.natAbs)) ↔ (c * d).natAbs ≤ 1000000000000 := by
  have h : Int.tdiv 1000000000000 (d.natAbs : Int) = ((1000000000000 / d.natAbs : Nat) : Int) := (Int.ofNat_tdiv 1000000000000 d.natAbs).symm
  rw [h, Int.natAbs_mul]
  have hp : 0 < d.natAbs := Int.natAbs_pos.mpr hd
  rw [Int.ofNat_le, Nat.le_div_iff_mul_le hp]
theorem c_work (hk : WkK k) (hc : -1000000000000 ≤ c ∧ c ≤ 1000000000000) (hd : -1000000000000 ≤ d ∧ d ≤ 1000000000000) : Pv mX3_work 1 [vN k, .long (zL c), .long (zL d)] S H (.long (zL (wkz k c d))) := by
  have hca : inB c := ⟨by omega, by omega⟩; have hda : inB d := ⟨by omega, by omega⟩
  have z0 : inB 0 := ⟨by decide, by decide⟩
  have c0 : zL c = lN 0 ↔ c = 0 := zL_eq hca z0
  have d0 : zL d = lN 0 ↔ d = 0 := zL_eq hda z0
  refine vq_ev (vq_intro (by decide) (by exact Nat.le_of_ble_eq_true rfl) rfl ?_)
  refine xq_iload_n dX3_work_0 rfl rfl ?_
  by_cases hs1 : 11 ≤ k ∧ k ≤ 37
  · skip
    have hq1 : k = 11 ∨ k = 12 ∨ k = 13 ∨ k = 14 ∨ k = 15 ∨ k = 16 ∨ k = 17 ∨ k = 18 ∨ k = 19 ∨ k = 20 ∨ k = 21 ∨ k = 22 ∨ k = 23 ∨ k = 24 ∨ k = 25 ∨ k = 26 ∨ k = 27 ∨ k = 28 ∨ k = 29 ∨ k = 30 ∨ k = 31 ∨ k = 32 ∨ k = 33 ∨ k = 34 ∨ k = 35 ∨ k = 36 ∨ k = 37 := by omega
    rcases hq1 with rfl | rfl | rfl | rfl | rfl | rfl | rfl | rfl | rfl | rfl | rfl | rfl | rfl | rfl | rfl | rfl | rfl | rfl | rfl | rfl | rfl | rfl | rfl | rfl | rfl | rfl | rfl
    · skip
      refine xq_tableIn dX3_work_1 (by decide) (by decide) rfl rfl ?_
      refine xq_lload_n dX3_work_124 rfl rfl ?_
      refine xq_lconst dX3_work_125 lc0 ?_
      refine xq_lcmp dX3_work_126 ?_
      refine xq_if_ne dX3_work_127 rfl ⟨fun h127 => ?_, fun h127 => ?_⟩
      · skip
        refine xq_iconst dX3_work_136 ic1 ?_
        refine xq_goto dX3_work_137 rfl ?_
        refine xq_callS1P gd_X3_truth dX3_work_141 ml_RX3_80 im_X3_truth (by exact Nat.le_of_ble_eq_true rfl) (by decide) c_truth1 ?_
        refine xq_lret dX3_work_144 rfl ?_
        show _ = _
        rw [lg_cmp_eq] at h127; rw [c0] at h127
        have e : wkz 11 c d = 1 := (b2z_1 (by omega) : b2z (c ≠ 0 ∨ d ≠ 0) = 1)
        rw [e]; rfl
      · skip
        refine xq_lload_n dX3_work_130 rfl rfl ?_
        refine xq_lconst dX3_work_131 lc0 ?_
        refine xq_lcmp dX3_work_132 ?_
        refine xq_if_eq dX3_work_133 rfl ⟨fun h133 => ?_, fun h133 => ?_⟩
        · skip
          refine xq_iconst dX3_work_140 ic0 ?_
          refine xq_callS1P gd_X3_truth dX3_work_141 ml_RX3_80 im_X3_truth (by exact Nat.le_of_ble_eq_true rfl) (by decide) c_truth0 ?_
          refine xq_lret dX3_work_144 rfl ?_
          show _ = _
          rw [lg_cmp_eq] at h127; rw [c0] at h127
          rw [lg_cmp_eq] at h133; rw [d0] at h133
          have e : wkz 11 c d = 0 := (b2z_0 (by omega) : b2z (c ≠ 0 ∨ d ≠ 0) = 0)
          rw [e]; rfl
        · skip
          refine xq_iconst dX3_work_136 ic1 ?_
          refine xq_goto dX3_work_137 rfl ?_
          refine xq_callS1P gd_X3_truth dX3_work_141 ml_RX3_80 im_X3_truth (by exact Nat.le_of_ble_eq_true rfl) (by decide) c_truth1 ?_
          refine xq_lret dX3_work_144 rfl ?_
          show _ = _
          rw [lg_cmp_eq] at h127; rw [c0] at h127
          rw [lg_cmp_eq] at h133; rw [d0] at h133
          have e : wkz 11 c d = 1 := (b2z_1 (by omega) : b2z (c ≠ 0 ∨ d ≠ 0) = 1)
          rw [e]; rfl
    · skip
      refine xq_tableIn dX3_work_1 (by decide) (by decide) rfl rfl ?_
      refine xq_lload_n dX3_work_145 rfl rfl ?_
      refine xq_lconst dX3_work_146 lc0 ?_
      refine xq_lcmp dX3_work_147 ?_
      refine xq_if_eq dX3_work_148 rfl ⟨fun h148 => ?_, fun h148 => ?_⟩
      · skip
        refine xq_iconst dX3_work_161 ic0 ?_
        refine xq_callS1P gd_X3_truth dX3_work_162 ml_RX3_80 im_X3_truth (by exact Nat.le_of_ble_eq_true rfl) (by decide) c_truth0 ?_
        refine xq_lret dX3_work_165 rfl ?_
        show _ = _
        rw [lg_cmp_eq] at h148; rw [c0] at h148
        have e : wkz 12 c d = 0 := (b2z_0 (by omega) : b2z (c ≠ 0 ∧ d ≠ 0) = 0)
        rw [e]; rfl
      · skip
        refine xq_lload_n dX3_work_151 rfl rfl ?_
        refine xq_lconst dX3_work_152 lc0 ?_
        refine xq_lcmp dX3_work_153 ?_
        refine xq_if_eq dX3_work_154 rfl ⟨fun h154 => ?_, fun h154 => ?_⟩
        · skip
          refine xq_iconst dX3_work_161 ic0 ?_
          refine xq_callS1P gd_X3_truth dX3_work_162 ml_RX3_80 im_X3_truth (by exact Nat.le_of_ble_eq_true rfl) (by decide) c_truth0 ?_
          refine xq_lret dX3_work_165 rfl ?_
          show _ = _
          rw [lg_cmp_eq] at h148; rw [c0] at h148
          rw [lg_cmp_eq] at h154; rw [d0] at h154
          have e : wkz 12 c d = 0 := (b2z_0 (by omega) : b2z (c ≠ 0 ∧ d ≠ 0) = 0)
          rw [e]; rfl
        · skip
          refine xq_iconst dX3_work_157 ic1 ?_
          refine xq_goto dX3_work_158 rfl ?_
          refine xq_callS1P gd_X3_truth dX3_work_162 ml_RX3_80 im_X3_truth (by exact Nat.le_of_ble_eq_true rfl) (by decide) c_truth1 ?_
          refine xq_lret dX3_work_165 rfl ?_
          show _ = _
          rw [lg_cmp_eq] at h148; rw [c0] at h148
          rw [lg_cmp_eq] at h154; rw [d0] at h154
          have e : wkz 12 c d = 1 := (b2z_1 (by omega) : b2z (c ≠ 0 ∧ d ≠ 0) = 1)
          rw [e]; rfl
    · skip
      refine xq_tableIn dX3_work_1 (by decide) (by decide) rfl rfl ?_
      refine xq_lload_n dX3_work_166 rfl rfl ?_
      refine xq_lconst dX3_work_167 lc0 ?_
      refine xq_lcmp dX3_work_168 ?_
      refine xq_if_ne dX3_work_169 rfl ⟨fun h169 => ?_, fun h169 => ?_⟩
      · skip
        refine xq_iconst dX3_work_176 ic0 ?_
        refine xq_callS1P gd_X3_truth dX3_work_177 ml_RX3_80 im_X3_truth (by exact Nat.le_of_ble_eq_true rfl) (by decide) c_truth0 ?_
        refine xq_lret dX3_work_180 rfl ?_
        show _ = _
        rw [lg_cmp_eq] at h169; rw [c0] at h169
        have e : wkz 13 c d = 0 := (b2z_0 (by omega) : b2z (c = 0) = 0)
        rw [e]; rfl
      · skip
        refine xq_iconst dX3_work_172 ic1 ?_
        refine xq_goto dX3_work_173 rfl ?_
        refine xq_callS1P gd_X3_truth dX3_work_177 ml_RX3_80 im_X3_truth (by exact Nat.le_of_ble_eq_true rfl) (by decide) c_truth1 ?_
        refine xq_lret dX3_work_180 rfl ?_
        show _ = _
        rw [lg_cmp_eq] at h169; rw [c0] at h169
        have e : wkz 13 c d = 1 := (b2z_1 (by omega) : b2z (c = 0) = 1)
        rw [e]; rfl
    · skip
      exact absurd hk (by unfold WkK; omega)
    · skip
      exact absurd hk (by unfold WkK; omega)
    · skip
      exact absurd hk (by unfold WkK; omega)
    · skip
      exact absurd hk (by unfold WkK; omega)
    · skip
      exact absurd hk (by unfold WkK; omega)
    · skip
      exact absurd hk (by unfold WkK; omega)
    · skip
      exact absurd hk (by unfold WkK; omega)
    · skip
      exact absurd hk (by unfold WkK; omega)
    · skip
      exact absurd hk (by unfold WkK; omega)
    · skip
      exact absurd hk (by unfold WkK; omega)
    · skip
      exact absurd hk (by unfold WkK; omega)
    · skip
      exact absurd hk (by unfold WkK; omega)
    · skip
      exact absurd hk (by unfold WkK; omega)
    · skip
      exact absurd hk (by unfold WkK; omega)
    · skip
      refine xq_tableIn dX3_work_1 (by decide) (by decide) rfl rfl ?_
      refine xq_lload_n dX3_work_271 rfl rfl ?_
      refine xq_lload_n dX3_work_272 rfl rfl ?_
      refine xq_ladd dX3_work_273 ?_
      refine xq_lret dX3_work_274 rfl ?_
      show _ = _
      rw [zL_add]; rfl
    · skip
      refine xq_tableIn dX3_work_1 (by decide) (by decide) rfl rfl ?_
      refine xq_lload_n dX3_work_275 rfl rfl ?_
      refine xq_lload_n dX3_work_276 rfl rfl ?_
      refine xq_lsub dX3_work_277 ?_
      refine xq_lret dX3_work_278 rfl ?_
      show _ = _
      rw [zL_sub]; rfl
    · skip
      refine xq_tableIn dX3_work_1 (by decide) (by decide) rfl rfl ?_
      refine xq_lload_n dX3_work_279 rfl rfl ?_
      refine xq_lconst dX3_work_280 lc0 ?_
      refine xq_lcmp dX3_work_281 ?_
      refine xq_if_eq dX3_work_282 rfl ⟨fun h282 => ?_, fun h282 => ?_⟩
      · skip
        refine xq_lload_n dX3_work_301 rfl rfl ?_
        refine xq_lload_n dX3_work_302 rfl rfl ?_
        refine xq_lmul dX3_work_303 ?_
        refine xq_goto dX3_work_304 rfl ?_
        refine xq_lret dX3_work_310 rfl ?_
        show _ = _
        rw [lg_cmp_eq, d0] at h282; rw [zL_mul]; have e : wkz 30 c d = c * d := (if_pos (by rw [h282]; simp) : (if (c * d).natAbs ≤ 1000000000000 then c * d else MIN64) = c * d); rw [e]
      · skip
        refine xq_lload_n dX3_work_285 rfl rfl ?_
        refine xq_mabsL dX3_work_286 ml_RX3_84 (by exact Nat.le_of_ble_eq_true rfl) (by decide) ?_
        refine xq_ldc2 (v := lN 1000000000000) dX3_work_289 kc_RX3_49 ?_
        refine xq_lload_n dX3_work_292 rfl rfl ?_
        refine xq_mabsL dX3_work_293 ml_RX3_84 (by exact Nat.le_of_ble_eq_true rfl) (by decide) ?_
        refine xq_ldiv dX3_work_296 (fun w => h282 ((lg_cmp_eq _ _).mpr (d0.mpr (by rw [zL_abs hda (by omega), show (0 : Int64) = zL 0 from rfl, zL_eq ⟨by omega, by omega⟩ z0] at w; omega)))) ?_
        rw [show (lN 1000000000000) = zL 1000000000000 from rfl, zL_abs hca (by omega), zL_abs hda (by omega), zL_div ⟨by omega, by omega⟩ ⟨by omega, by omega⟩ (fun w => h282 ((lg_cmp_eq _ _).mpr (d0.mpr (by omega)))) (by omega)]
        have hq : (Int.tdiv 1000000000000 (d.natAbs : Int)).natAbs ≤ 1000000000000 := by rw [Int.natAbs_tdiv]; exact Nat.div_le_self _ _
        refine xq_lcmp dX3_work_297 ?_
        refine xq_if_gt dX3_work_298 rfl ⟨fun h298 => ?_, fun h298 => ?_⟩
        · skip
          refine xq_ldc2 dX3_work_307 kc_RX3_20 ?_
          refine xq_lret dX3_work_310 rfl ?_
          show _ = _
          rw [lg_cmp_eq, d0] at h282; have hm := mul_cmp (c := c) h282; rw [lg_cmp_gt, zL_lt ⟨by omega, by omega⟩ ⟨by omega, by omega⟩] at h298
          have e : wkz 30 c d = MIN64 := (if_neg (fun w => by rw [← hm] at w; omega) : (if (c * d).natAbs ≤ 1000000000000 then c * d else MIN64) = MIN64); rw [e]; rfl
        · skip
          refine xq_lload_n dX3_work_301 rfl rfl ?_
          refine xq_lload_n dX3_work_302 rfl rfl ?_
          refine xq_lmul dX3_work_303 ?_
          refine xq_goto dX3_work_304 rfl ?_
          refine xq_lret dX3_work_310 rfl ?_
          show _ = _
          rw [lg_cmp_eq, d0] at h282; have hm := mul_cmp (c := c) h282; rw [lg_cmp_gt, zL_lt ⟨by omega, by omega⟩ ⟨by omega, by omega⟩] at h298
          rw [zL_mul]; have e : wkz 30 c d = c * d := (if_pos (by rw [← hm]; omega) : (if (c * d).natAbs ≤ 1000000000000 then c * d else MIN64) = c * d); rw [e]
    · skip
      refine xq_tableIn dX3_work_1 (by decide) (by decide) rfl rfl ?_
      refine xq_lload_n dX3_work_311 rfl rfl ?_
      refine xq_lconst dX3_work_312 lc0 ?_
      refine xq_lcmp dX3_work_313 ?_
      refine xq_if_ne dX3_work_314 rfl ⟨fun h314 => ?_, fun h314 => ?_⟩
      · skip
        refine xq_lload_n dX3_work_323 rfl rfl ?_
        refine xq_lload_n dX3_work_324 rfl rfl ?_
        refine xq_ldiv dX3_work_325 (fun w => h314 ((lg_cmp_eq _ _).mpr w)) ?_
        refine xq_lret dX3_work_326 rfl ?_
        show _ = _
        rw [lg_cmp_eq, d0] at h314; have e : wkz 31 c d = c.tdiv d := (if_neg h314 : (if d = 0 then MIN64 else c.tdiv d) = c.tdiv d); rw [e, zL_div hca hda h314 (by omega)]
      · skip
        refine xq_ldc2 dX3_work_317 kc_RX3_20 ?_
        refine xq_goto dX3_work_320 rfl ?_
        refine xq_lret dX3_work_326 rfl ?_
        show _ = _
        rw [lg_cmp_eq, d0] at h314; have e : wkz 31 c d = MIN64 := (if_pos h314 : (if d = 0 then MIN64 else c.tdiv d) = MIN64); rw [e]; rfl
    · skip
      refine xq_tableIn dX3_work_1 (by decide) (by decide) rfl rfl ?_
      refine xq_lload_n dX3_work_181 rfl rfl ?_
      refine xq_lload_n dX3_work_182 rfl rfl ?_
      refine xq_lcmp dX3_work_183 ?_
      refine xq_if_ge dX3_work_184 rfl ⟨fun h184 => ?_, fun h184 => ?_⟩
      · skip
        refine xq_iconst dX3_work_191 ic0 ?_
        refine xq_callS1P gd_X3_truth dX3_work_192 ml_RX3_80 im_X3_truth (by exact Nat.le_of_ble_eq_true rfl) (by decide) c_truth0 ?_
        refine xq_lret dX3_work_195 rfl ?_
        show _ = _
        rw [lg_cmp_ge] at h184; rw [(zL_le hda hca)] at h184
        have e : wkz 32 c d = 0 := (b2z_0 (by omega) : b2z (c < d) = 0)
        rw [e]; rfl
      · skip
        refine xq_iconst dX3_work_187 ic1 ?_
        refine xq_goto dX3_work_188 rfl ?_
        refine xq_callS1P gd_X3_truth dX3_work_192 ml_RX3_80 im_X3_truth (by exact Nat.le_of_ble_eq_true rfl) (by decide) c_truth1 ?_
        refine xq_lret dX3_work_195 rfl ?_
        show _ = _
        rw [lg_cmp_ge] at h184; rw [(zL_le hda hca)] at h184
        have e : wkz 32 c d = 1 := (b2z_1 (by omega) : b2z (c < d) = 1)
        rw [e]; rfl
    · skip
      refine xq_tableIn dX3_work_1 (by decide) (by decide) rfl rfl ?_
      refine xq_lload_n dX3_work_196 rfl rfl ?_
      refine xq_lload_n dX3_work_197 rfl rfl ?_
      refine xq_lcmp dX3_work_198 ?_
      refine xq_if_gt dX3_work_199 rfl ⟨fun h199 => ?_, fun h199 => ?_⟩
      · skip
        refine xq_iconst dX3_work_206 ic0 ?_
        refine xq_callS1P gd_X3_truth dX3_work_207 ml_RX3_80 im_X3_truth (by exact Nat.le_of_ble_eq_true rfl) (by decide) c_truth0 ?_
        refine xq_lret dX3_work_210 rfl ?_
        show _ = _
        rw [lg_cmp_gt] at h199; rw [(zL_lt hda hca)] at h199
        have e : wkz 33 c d = 0 := (b2z_0 (by omega) : b2z (c ≤ d) = 0)
        rw [e]; rfl
      · skip
        refine xq_iconst dX3_work_202 ic1 ?_
        refine xq_goto dX3_work_203 rfl ?_
        refine xq_callS1P gd_X3_truth dX3_work_207 ml_RX3_80 im_X3_truth (by exact Nat.le_of_ble_eq_true rfl) (by decide) c_truth1 ?_
        refine xq_lret dX3_work_210 rfl ?_
        show _ = _
        rw [lg_cmp_gt] at h199; rw [(zL_lt hda hca)] at h199
        have e : wkz 33 c d = 1 := (b2z_1 (by omega) : b2z (c ≤ d) = 1)
        rw [e]; rfl
    · skip
      refine xq_tableIn dX3_work_1 (by decide) (by decide) rfl rfl ?_
      refine xq_lload_n dX3_work_211 rfl rfl ?_
      refine xq_lload_n dX3_work_212 rfl rfl ?_
      refine xq_lcmp dX3_work_213 ?_
      refine xq_if_ne dX3_work_214 rfl ⟨fun h214 => ?_, fun h214 => ?_⟩
      · skip
        refine xq_iconst dX3_work_221 ic0 ?_
        refine xq_callS1P gd_X3_truth dX3_work_222 ml_RX3_80 im_X3_truth (by exact Nat.le_of_ble_eq_true rfl) (by decide) c_truth0 ?_
        refine xq_lret dX3_work_225 rfl ?_
        show _ = _
        rw [lg_cmp_eq] at h214; rw [(zL_eq hca hda)] at h214
        have e : wkz 34 c d = 0 := (b2z_0 (by omega) : b2z (c = d) = 0)
        rw [e]; rfl
      · skip
        refine xq_iconst dX3_work_217 ic1 ?_
        refine xq_goto dX3_work_218 rfl ?_
        refine xq_callS1P gd_X3_truth dX3_work_222 ml_RX3_80 im_X3_truth (by exact Nat.le_of_ble_eq_true rfl) (by decide) c_truth1 ?_
        refine xq_lret dX3_work_225 rfl ?_
        show _ = _
        rw [lg_cmp_eq] at h214; rw [(zL_eq hca hda)] at h214
        have e : wkz 34 c d = 1 := (b2z_1 (by omega) : b2z (c = d) = 1)
        rw [e]; rfl
    · skip
      refine xq_tableIn dX3_work_1 (by decide) (by decide) rfl rfl ?_
      refine xq_lload_n dX3_work_226 rfl rfl ?_
      refine xq_lload_n dX3_work_227 rfl rfl ?_
      refine xq_lcmp dX3_work_228 ?_
      refine xq_if_eq dX3_work_229 rfl ⟨fun h229 => ?_, fun h229 => ?_⟩
      · skip
        refine xq_iconst dX3_work_236 ic0 ?_
        refine xq_callS1P gd_X3_truth dX3_work_237 ml_RX3_80 im_X3_truth (by exact Nat.le_of_ble_eq_true rfl) (by decide) c_truth0 ?_
        refine xq_lret dX3_work_240 rfl ?_
        show _ = _
        rw [lg_cmp_eq] at h229; rw [(zL_eq hca hda)] at h229
        have e : wkz 35 c d = 0 := (b2z_0 (by omega) : b2z (c ≠ d) = 0)
        rw [e]; rfl
      · skip
        refine xq_iconst dX3_work_232 ic1 ?_
        refine xq_goto dX3_work_233 rfl ?_
        refine xq_callS1P gd_X3_truth dX3_work_237 ml_RX3_80 im_X3_truth (by exact Nat.le_of_ble_eq_true rfl) (by decide) c_truth1 ?_
        refine xq_lret dX3_work_240 rfl ?_
        show _ = _
        rw [lg_cmp_eq] at h229; rw [(zL_eq hca hda)] at h229
        have e : wkz 35 c d = 1 := (b2z_1 (by omega) : b2z (c ≠ d) = 1)
        rw [e]; rfl
    · skip
      refine xq_tableIn dX3_work_1 (by decide) (by decide) rfl rfl ?_
      refine xq_lload_n dX3_work_241 rfl rfl ?_
      refine xq_lload_n dX3_work_242 rfl rfl ?_
      refine xq_lcmp dX3_work_243 ?_
      refine xq_if_lt dX3_work_244 rfl ⟨fun h244 => ?_, fun h244 => ?_⟩
      · skip
        refine xq_iconst dX3_work_251 ic0 ?_
        refine xq_callS1P gd_X3_truth dX3_work_252 ml_RX3_80 im_X3_truth (by exact Nat.le_of_ble_eq_true rfl) (by decide) c_truth0 ?_
        refine xq_lret dX3_work_255 rfl ?_
        show _ = _
        rw [lg_cmp_lt] at h244; rw [(zL_lt hca hda)] at h244
        have e : wkz 36 c d = 0 := (b2z_0 (by omega) : b2z (d ≤ c) = 0)
        rw [e]; rfl
      · skip
        refine xq_iconst dX3_work_247 ic1 ?_
        refine xq_goto dX3_work_248 rfl ?_
        refine xq_callS1P gd_X3_truth dX3_work_252 ml_RX3_80 im_X3_truth (by exact Nat.le_of_ble_eq_true rfl) (by decide) c_truth1 ?_
        refine xq_lret dX3_work_255 rfl ?_
        show _ = _
        rw [lg_cmp_lt] at h244; rw [(zL_lt hca hda)] at h244
        have e : wkz 36 c d = 1 := (b2z_1 (by omega) : b2z (d ≤ c) = 1)
        rw [e]; rfl
    · skip
      refine xq_tableIn dX3_work_1 (by decide) (by decide) rfl rfl ?_
      refine xq_lload_n dX3_work_256 rfl rfl ?_
      refine xq_lload_n dX3_work_257 rfl rfl ?_
      refine xq_lcmp dX3_work_258 ?_
      refine xq_if_le dX3_work_259 rfl ⟨fun h259 => ?_, fun h259 => ?_⟩
      · skip
        refine xq_iconst dX3_work_266 ic0 ?_
        refine xq_callS1P gd_X3_truth dX3_work_267 ml_RX3_80 im_X3_truth (by exact Nat.le_of_ble_eq_true rfl) (by decide) c_truth0 ?_
        refine xq_lret dX3_work_270 rfl ?_
        show _ = _
        rw [lg_cmp_le] at h259; rw [(zL_le hca hda)] at h259
        have e : wkz 37 c d = 0 := (b2z_0 (by omega) : b2z (d < c) = 0)
        rw [e]; rfl
      · skip
        refine xq_iconst dX3_work_262 ic1 ?_
        refine xq_goto dX3_work_263 rfl ?_
        refine xq_callS1P gd_X3_truth dX3_work_267 ml_RX3_80 im_X3_truth (by exact Nat.le_of_ble_eq_true rfl) (by decide) c_truth1 ?_
        refine xq_lret dX3_work_270 rfl ?_
        show _ = _
        rw [lg_cmp_le] at h259; rw [(zL_le hca hda)] at h259
        have e : wkz 37 c d = 1 := (b2z_1 (by omega) : b2z (d < c) = 1)
        rw [e]; rfl
  · skip
    exact absurd hk (by unfold WkK; omega)
theorem c_workNot (hc : -1000000000000 ≤ c ∧ c ≤ 1000000000000) : Pv mX3_work 1 [vN 13, .long (zL c), .long B] S H (.long (zL (wkz 13 c 0))) := by
  have hca : inB c := ⟨by omega, by omega⟩
  have z0 : inB 0 := ⟨by decide, by decide⟩
  have c0 : zL c = lN 0 ↔ c = 0 := zL_eq hca z0
  refine vq_ev (vq_intro (by decide) (by exact Nat.le_of_ble_eq_true rfl) rfl ?_)
  refine xq_iload_n dX3_work_0 rfl rfl ?_
  refine xq_tableIn dX3_work_1 (by decide) (by decide) rfl rfl ?_
  refine xq_lload_n dX3_work_166 rfl rfl ?_
  refine xq_lconst dX3_work_167 lc0 ?_
  refine xq_lcmp dX3_work_168 ?_
  refine xq_if_ne dX3_work_169 rfl ⟨fun h169 => ?_, fun h169 => ?_⟩
  · skip
    refine xq_iconst dX3_work_176 ic0 ?_
    refine xq_callS1P gd_X3_truth dX3_work_177 ml_RX3_80 im_X3_truth (by exact Nat.le_of_ble_eq_true rfl) (by decide) c_truth0 ?_
    refine xq_lret dX3_work_180 rfl ?_
    show _ = _
    rw [lg_cmp_eq] at h169; rw [c0] at h169
    have e : wkz 13 c 0 = 0 := (b2z_0 h169 : b2z (c = 0) = 0)
    rw [e]; rfl
  · skip
    refine xq_iconst dX3_work_172 ic1 ?_
    refine xq_goto dX3_work_173 rfl ?_
    refine xq_callS1P gd_X3_truth dX3_work_177 ml_RX3_80 im_X3_truth (by exact Nat.le_of_ble_eq_true rfl) (by decide) c_truth1 ?_
    refine xq_lret dX3_work_180 rfl ?_
    show _ = _
    rw [lg_cmp_eq] at h169; rw [c0] at h169
    have e : wkz 13 c 0 = 1 := (b2z_1 h169 : b2z (c = 0) = 1)
    rw [e]; rfl
def nmv (u : uSt) (i knew k : Nat) : Nat := if k = 21 then uHr u else if k = 22 then uZ u else if k = 23 then pop (uSe u i) else if k = 24 then knew else if k = 25 then pop (uSd u) else if k = 26 then uHd u else alikeN u i
theorem nI_toL {n : Nat} (h : n < 2147483648) : (nI n).toInt64 = lN n := by
  rw [← Int64.toInt_inj, Int32.toInt_toInt64, nI_toInt h, pf_lI (by omega)]
theorem c_nameValue (ha : gSt S a) (hu : StP H a u) (ok : StOk u) (hi : i < 6) (hk : k < 1000) (hm : m < 2147483648) : Pv mX3_nameValue 1 [vN k, .ref a, vN i, vN m] S H (.long (lN (nmv u i m k))) := by
  have hz := ok.n; have hse := ok.se hi; have hp1 := pop_le (uSe u i); have hp2 := pop_le (uSd u); have hal := alikeN_le u i; have hsd := ok.sd; have hhr := ok.hr; have hhd : uHd u ≤ 100000000 := ok.2.2.2.2.2.2.1
  refine vq_ev (vq_intro (by decide) (by exact Nat.le_of_ble_eq_true rfl) rfl ?_)
  refine xq_iload_n dX3_nameValue_0 rfl rfl ?_
  by_cases hs1 : 21 ≤ k ∧ k ≤ 26
  · skip
    have hq1 : k = 21 ∨ k = 22 ∨ k = 23 ∨ k = 24 ∨ k = 25 ∨ k = 26 := by omega
    rcases hq1 with rfl | rfl | rfl | rfl | rfl | rfl
    · skip
      refine xq_tableIn dX3_nameValue_1 (by decide) (by decide) rfl rfl ?_
      refine xq_aload_n dX3_nameValue_40 rfl rfl ?_
      refine xq_getIE clX7 (by decide) rfl fl_RX3_53 dX3_nameValue_41 (St.s0 ha) hu.f10 ?_
      refine xq_i2l dX3_nameValue_44 ?_
      refine xq_lret dX3_nameValue_45 rfl ?_
      show _ = _; rw [nI_toL (by omega)]; rfl
    · skip
      refine xq_tableIn dX3_nameValue_1 (by decide) (by decide) rfl rfl ?_
      refine xq_aload_n dX3_nameValue_46 rfl rfl ?_
      refine xq_getIE clX7 (by decide) rfl fl_RX3_59 dX3_nameValue_47 (St.s0 ha) hu.sz ?_
      refine xq_i2l dX3_nameValue_50 ?_
      refine xq_lret dX3_nameValue_51 rfl ?_
      show _ = _; rw [nI_toL (by omega)]; rfl
    · skip
      refine xq_tableIn dX3_nameValue_1 (by decide) (by decide) rfl rfl ?_
      refine xq_aload_n dX3_nameValue_52 rfl rfl ?_
      refine xq_getF clX7 (by decide) rfl fl_RX3_62 dX3_nameValue_53 (St.s0 ha) (St.r1 ha) ?_
      refine xq_iload_n dX3_nameValue_56 rfl rfl ?_
      refine xq_ialdN dX3_nameValue_57 (St.s2 ha) (by omega) (by decide) (hu.se hi) ?_
      refine xq_callS1P gd_J6_bitCount_0f7a4 dX3_nameValue_58 ml_RX3_65 im_J6_bitCount_0f7a4 (by exact Nat.le_of_ble_eq_true rfl) (by decide) (c_bitCount (by omega)) ?_
      refine xq_i2l dX3_nameValue_61 ?_
      refine xq_lret dX3_nameValue_62 rfl ?_
      show _ = _; rw [nI_toL (by omega)]; rfl
    · skip
      refine xq_tableIn dX3_nameValue_1 (by decide) (by decide) rfl rfl ?_
      refine xq_iload_n dX3_nameValue_63 rfl rfl ?_
      refine xq_i2l dX3_nameValue_64 ?_
      refine xq_lret dX3_nameValue_65 rfl ?_
      show _ = _; rw [nI_toL (by omega)]; rfl
    · skip
      refine xq_tableIn dX3_nameValue_1 (by decide) (by decide) rfl rfl ?_
      refine xq_aload_n dX3_nameValue_66 rfl rfl ?_
      refine xq_getIE clX7 (by decide) rfl fl_RX3_71 dX3_nameValue_67 (St.s0 ha) hu.f7 ?_
      refine xq_callS1P gd_J6_bitCount_0f7a4 dX3_nameValue_70 ml_RX3_65 im_J6_bitCount_0f7a4 (by exact Nat.le_of_ble_eq_true rfl) (by decide) (c_bitCount (by omega)) ?_
      refine xq_i2l dX3_nameValue_73 ?_
      refine xq_lret dX3_nameValue_74 rfl ?_
      show _ = _; rw [nI_toL (by omega)]; rfl
    · skip
      refine xq_tableIn dX3_nameValue_1 (by decide) (by decide) rfl rfl ?_
      refine xq_aload_n dX3_nameValue_75 rfl rfl ?_
      refine xq_getIE clX7 (by decide) rfl fl_RX3_74 dX3_nameValue_76 (St.s0 ha) hu.f8 ?_
      refine xq_i2l dX3_nameValue_79 ?_
      refine xq_lret dX3_nameValue_80 rfl ?_
      show _ = _; rw [nI_toL (by omega)]; rfl
  · skip
    refine xq_tableOut dX3_nameValue_1 (swOut 21 26 hs1 (by omega)) rfl ?_
    refine xq_aload_n dX3_nameValue_81 rfl rfl ?_
    refine xq_iload_n dX3_nameValue_82 rfl rfl ?_
    refine xq_callV1P clX7 gd_X7_alikeFor dX3_nameValue_83 ml_RX3_77 im_X7_alikeFor se_X7_alikeFor rfl (St.s0 ha) (by exact Nat.le_of_ble_eq_true rfl) (by decide) (c_alikeFor ha hu ok hi) ?_
    refine xq_i2l dX3_nameValue_86 ?_
    refine xq_lret dX3_nameValue_87 rfl ?_
    show _ = _; rw [nI_toL (by omega)]; rw [show nmv u i m k = alikeN u i by unfold nmv; rw [if_neg (by omega), if_neg (by omega), if_neg (by omega), if_neg (by omega), if_neg (by omega), if_neg (by omega)]]
def lcl (T : uTx) (nm : Nat → Nat) (V : Nat → Int) (k : Nat) : Int := if 21 ≤ tK T k ∧ tK T k ≤ 27 then (nm (tK T k) : Int) else if tK T k = 38 then (tX T k : Int) else wkz (tK T k) (V (tX T k)) (if tK T k = 13 then 0 else V (tY T k))
def lvt (T : uTx) (nm : Nat → Nat) : Nat → Nat → Int
  | 0 => fun _ => 0
  | n + 1 => fun k => if k = n then lcl T nm (lvt T nm n) n else lvt T nm n k
def lvv (T : uTx) (nm : Nat → Nat) (k : Nat) : Int := lcl T nm (lvt T nm k) k
theorem lvt_lt (T : uTx) (nm : Nat → Nat) : ∀ n k, k < n → lvt T nm n k = lvv T nm k
  | n + 1, k, h => by
    show (if k = n then _ else _) = _
    by_cases e : k = n
    · rw [if_pos e, e]; rfl
    · rw [if_neg e]; exact lvt_lt T nm n k (by omega)
/-- a knot of a law, as it may be -/
def LwK (T : uTx) (w : Int64) (k : Nat) : Prop := (21 ≤ tK T k ∧ tK T k ≤ 27) ∨ (tK T k = 38 ∧ tX T k ≤ 9999) ∨ (tK T k = 13 ∧ tX T k < k ∧ rb w (tX T k) = true ∧ tY T k < 64) ∨ (WkK (tK T k) ∧ tK T k ≠ 13 ∧ tX T k < k ∧ rb w (tX T k) = true ∧ tY T k < k ∧ rb w (tY T k) = true)
def LwOk (T : uTx) (l : Nat) : Prop := tLn T l ≠ 0 → tLr T l < 64 ∧ rb (tLn T l) (tLr T l) = true ∧ ∀ k, k < 64 → rb (tLn T l) k = true → k ≤ tLr T l ∧ k < tNk T ∧ LwK T (tLn T l) k
def lok (T : uTx) (nm : Nat → Nat) (w : Int64) (n : Nat) : Bool := !(ex (fun k => rb w k && !(inR (lvv T nm k))) n)
/-- E of a law, none: ERROR -/
def lawE (T : uTx) (nm : Nat → Nat) (l : Nat) : Option Int := if tLn T l = 0 then none else if lok T nm (tLn T l) (tLr T l + 1) then some (lvv T nm (tLr T l)) else none
def lawL (e : Option Int) : Int64 := match e with
  | some z => zL z
  | none => zL MIN64
theorem lok_in {nm : Nat → Nat} {w : Int64} {j : Nat} (h : lok T nm w n = true) (hj : j < n) (hb : rb w j = true) : -1000000000000 ≤ lvv T nm j ∧ lvv T nm j ≤ 1000000000000 := by
  have h1 : ¬ ex (fun k => rb w k && !(inR (lvv T nm k))) n = true := by
    intro e; unfold lok at h; rw [e] at h; cases h
  apply Classical.byContradiction
  intro hn
  exact h1 (ex_iff.mpr ⟨j, hj, by simp [hb, inR, hn]⟩)
theorem lcl_eq {nm : Nat → Nat} {w : Int64} {V : Nat → Int} (hk : LwK T w k) (hV : ∀ j, j < k → rb w j = true → V j = lvv T nm j) : lcl T nm V k = lvv T nm k := by
  unfold lvv lcl
  rcases hk with h | h | h | h
  · rw [if_pos h, if_pos h]
  · have n1 : ¬ (21 ≤ tK T k ∧ tK T k ≤ 27) := by omega
    rw [if_neg n1, if_neg n1, if_pos h.1, if_pos h.1]
  · have n1 : ¬ (21 ≤ tK T k ∧ tK T k ≤ 27) := by omega
    have n2 : ¬ tK T k = 38 := by omega
    rw [if_neg n1, if_neg n1, if_neg n2, if_neg n2, if_pos h.1, if_pos h.1, hV _ h.2.1 h.2.2.1, lvt_lt T nm k _ h.2.1]
  · have h1 := h.1
    unfold WkK at h1
    have n1 : ¬ (21 ≤ tK T k ∧ tK T k ≤ 27) := by omega
    have n2 : ¬ tK T k = 38 := by omega
    rw [if_neg n1, if_neg n1, if_neg n2, if_neg n2, if_neg h.2.1, if_neg h.2.1, hV _ h.2.2.1 h.2.2.2.1, lvt_lt T nm k _ h.2.2.1, hV _ h.2.2.2.2.1 h.2.2.2.2.2, lvt_lt T nm k _ h.2.2.2.2.1]
theorem nmv_lt (ok : StOk u) (hi : i < 6) (hm : m ≤ 100) (k : Nat) : nmv u i m k ≤ 100000000 := by
  have h1 := ok.n; have hp1 := pop_le (uSe u i); have hp2 := pop_le (uSd u); have hal := alikeN_le u i; have hhr := ok.hr; have hhd : uHd u ≤ 100000000 := ok.2.2.2.2.2.2.1
  unfold nmv
  repeat (first | omega | split)
theorem wkz_in (hc : -1000000000000 ≤ c ∧ c ≤ 1000000000000) (hd : -1000000000000 ≤ d ∧ d ≤ 1000000000000) (k : Nat) : inB (wkz k c d) := by
  have ht : (c.tdiv d).natAbs ≤ c.natAbs := by rw [Int.natAbs_tdiv]; exact Nat.div_le_self _ _
  have hb : ∀ (p : Prop) [Decidable p], inB (b2z p) := fun p _ => by unfold b2z; split <;> constructor <;> decide
  unfold wkz
  by_cases e11 : k = 11
  · rw [if_pos e11]; exact hb _
  rw [if_neg e11]
  by_cases e12 : k = 12
  · rw [if_pos e12]; exact hb _
  rw [if_neg e12]
  by_cases e13 : k = 13
  · rw [if_pos e13]; exact hb _
  rw [if_neg e13]
  by_cases e32 : k = 32
  · rw [if_pos e32]; exact hb _
  rw [if_neg e32]
  by_cases e33 : k = 33
  · rw [if_pos e33]; exact hb _
  rw [if_neg e33]
  by_cases e34 : k = 34
  · rw [if_pos e34]; exact hb _
  rw [if_neg e34]
  by_cases e35 : k = 35
  · rw [if_pos e35]; exact hb _
  rw [if_neg e35]
  by_cases e36 : k = 36
  · rw [if_pos e36]; exact hb _
  rw [if_neg e36]
  by_cases e37 : k = 37
  · rw [if_pos e37]; exact hb _
  rw [if_neg e37]
  by_cases e28 : k = 28
  · rw [if_pos e28]; constructor <;> omega
  rw [if_neg e28]
  by_cases e29 : k = 29
  · rw [if_pos e29]; constructor <;> omega
  rw [if_neg e29]
  by_cases e30 : k = 30
  · rw [if_pos e30]
    by_cases w : (c * d).natAbs ≤ 1000000000000
    · rw [if_pos w]; generalize c * d = e at w ⊢; constructor <;> omega
    · rw [if_neg w]; constructor <;> decide
  rw [if_neg e30]
  by_cases e0 : d = 0
  · rw [if_pos e0]; constructor <;> decide
  · rw [if_neg e0]; generalize c.tdiv d = e at ht ⊢; constructor <;> omega
theorem wk_in {l : Nat} {H1 : xH} (hK : LwK T (tLn T l) k) (hKw : tK T k = 13 ∨ (WkK (tK T k) ∧ tK T k ≠ 13)) (hxr : -1000000000000 ≤ lvv T (nmv u i m) (tX T k) ∧ lvv T (nmv u i m) (tX T k) ≤ 1000000000000) (hv : ∀ j, j < k → rb (tLn T l) j = true → hL H1 23 j = zL (lvv T (nmv u i m) j)) (hlk : lok T (nmv u i m) (tLn T l) k = true) (hle : lcl T (nmv u i m) (fun j => lvv T (nmv u i m) j) k = lvv T (nmv u i m) k) : inB (lvv T (nmv u i m) k) := by
  rw [← hle]
  unfold lcl
  have hK2 := hKw
  unfold WkK at hK2
  rw [if_neg (by omega), if_neg (by omega)]
  rcases hKw with h | h
  · rw [if_pos h]; exact wkz_in hxr ⟨by decide, by decide⟩ _
  · rw [if_neg h.2]
    refine wkz_in hxr (lok_in hlk ?_ ?_) _
    · unfold LwK at hK; omega
    · unfold LwK at hK
      rcases hK with w | w | w | w
      · omega
      · omega
      · omega
      · exact w.2.2.2.2.2
theorem wk_call {l : Nat} {H1 : xH} {v : Int64} (hK : LwK T (tLn T l) k) (hKw : tK T k = 13 ∨ (WkK (tK T k) ∧ tK T k ≠ 13)) (hxr : -1000000000000 ≤ lvv T (nmv u i m) (tX T k) ∧ lvv T (nmv u i m) (tX T k) ≤ 1000000000000) (hv : ∀ j, j < k → rb (tLn T l) j = true → hL H1 23 j = zL (lvv T (nmv u i m) j)) (hlk : lok T (nmv u i m) (tLn T l) k = true) (hle : lcl T (nmv u i m) (fun j => lvv T (nmv u i m) j) k = lvv T (nmv u i m) k) (hy : hL H1 23 (tY T k) = v) : Pv mX3_work 1 [vN (tK T k), .long (zL (lvv T (nmv u i m) (tX T k))), .long v] S H1 (.long (zL (lvv T (nmv u i m) k))) := by
  rw [← hle]
  unfold lcl
  have hK2 := hKw
  unfold WkK at hK2
  rw [if_neg (by omega), if_neg (by omega)]
  rcases hKw with h | h
  · rw [if_pos h, h]; exact c_workNot hxr
  · have hyk : tY T k < k ∧ rb (tLn T l) (tY T k) = true := by
      unfold LwK at hK
      rcases hK with w | w | w | w
      · omega
      · omega
      · omega
      · exact w.2.2.2.2
    rw [if_neg h.2, ← hy, hv _ hyk.1 hyk.2]
    exact c_work h.1 hxr (lok_in hlk hyk.1 hyk.2)
theorem c_valueOf {l : Nat} (hF : gFx S) (ha : gSt S a) (h67 : 67 ≤ a) (hu : StP H a u) (ok : StOk u) (ht : gTx S t) (ht24 : 24 ≤ t) (ht45 : t ≤ 45) (hT : TxP H t T) (hnk : tNk T ≤ 64) (hl : l < 2) (hlw : LwOk T l) (hi : i < 6) (hm8 : m ≤ 100) : Hv mX3_valueOf 2 [.ref 22, .ref t, vN l, .ref a, vN i, vN m] S H vL (fun (x : Int64) H' => Off (fun q => q = 23) H H' ∧ x = lawL (lawE T (nmv u i m) l)) := by
  by_cases hne : tLn T l = 0
  · refine vq_intro (by decide) (by exact Nat.le_of_ble_eq_true rfl) rfl ?_
    refine xq_aload_n dX3_valueOf_0 rfl rfl ?_
    refine xq_getF clX8 (by decide) rfl fl_RX3_15 dX3_valueOf_1 (Tx.s0 ht) (Tx.r15 ht) ?_
    refine xq_iload_n dX3_valueOf_4 rfl rfl ?_
    refine xq_laldN dX3_valueOf_5 (Tx.s20 ht) (by omega) (by decide) ((hT.lw l hl).1) ?_
    refine xq_lstoreX dX3_valueOf_6 rfl rfl ?_
    refine xq_lload dX3_valueOf_8 rfl ?_
    refine xq_lconst dX3_valueOf_10 lc0 ?_
    refine xq_lcmp dX3_valueOf_11 ?_
    refine xq_if_ne dX3_valueOf_12 rfl ⟨fun h12 => ?_, fun h12 => ?_⟩
    · skip
      exact absurd ((lg_cmp_eq _ _).mpr hne) h12
    · skip
      refine xq_ldc2 dX3_valueOf_15 kc_RX3_20 ?_
      refine xq_lret dX3_valueOf_18 rfl ?_
      exact ⟨_, H, ⟨Off.rf, by rw [lg_cmp_eq] at h12; rw [show lawE T (nmv u i m) l = none from if_pos h12]; rfl⟩, rfl⟩
  have hroot := hlw hne
  have lp : ∀ (fz : Nat) (k : Nat) (H1 : xH), tLr T l + 1 - k < fz → k ≤ tLr T l + 1 → Off (fun q => q = 23) H H1 → (∀ j, j < k → rb (tLn T l) j = true → hL H1 23 j = zL (lvv T (nmv u i m) j)) → lok T (nmv u i m) (tLn T l) k = true → Xq mX3_valueOf 2 0 0 30 [some (.ref 22), some (.ref t), some (vN l), some (.ref a), some (vN i), some (vN m), some (.long (tLn T l)), none, some (vN (tLr T l)), some (vN k), none, none, none, none] [] S H1 (fun R => ∃ x H', (fun (x : Int64) H' => Off (fun q => q = 23) H H' ∧ x = lawL (lawE T (nmv u i m) l)) x H' ∧ R = (some (vL x), S, H')) := by
    intro fz
    induction fz with
    | zero => intro k  H1  hn; exact absurd hn (by omega)
    | succ fz ih =>
      intro k  H1  hn hk ho hv hlk
      have hT1 := hT.off ho (fun j hj => by omega); have hu1 := hu.off ho (fun j hj => by omega)
      refine xq_iload dX3_valueOf_30 rfl ?_
      refine xq_iload dX3_valueOf_32 rfl ?_
      refine xq_icmp_gtN dX3_valueOf_34 rfl (by omega) (by omega) ⟨fun h34 => ?_, fun h34 => ?_⟩
      · skip
        refine xq_aload_n dX3_valueOf_186 rfl rfl ?_
        refine xq_getF clX3 (by decide) rfl fl_RX3_9 dX3_valueOf_187 (Fx.s22 hF) (Fx.r22_0 hF) ?_
        refine xq_iload dX3_valueOf_190 rfl ?_
        refine xq_laldN dX3_valueOf_192 (Fx.s23 hF) (by omega) (by decide) rfl ?_
        refine xq_lret dX3_valueOf_193 rfl ?_
        refine ⟨_, H1, ⟨ho, ?_⟩, rfl⟩
        have hkr : k = tLr T l + 1 := by omega
        rw [hv _ (by omega) hroot.2.1]
        have : lawE T (nmv u i m) l = some (lvv T (nmv u i m) (tLr T l)) := by
          unfold lawE
          rw [if_neg hne, if_pos (by rw [← hkr]; exact hlk)]
        rw [this]; rfl
      · skip
        refine xq_iload dX3_valueOf_37 rfl ?_
        refine xq_bipush dX3_valueOf_39 bp64 ?_
        refine xq_icmp_geN dX3_valueOf_41 rfl (by omega) (by omega) ⟨fun h41 => ?_, fun h41 => ?_⟩
        · skip
          refine xq_aload_n dX3_valueOf_186 rfl rfl ?_
          refine xq_getF clX3 (by decide) rfl fl_RX3_9 dX3_valueOf_187 (Fx.s22 hF) (Fx.r22_0 hF) ?_
          refine xq_iload dX3_valueOf_190 rfl ?_
          refine xq_laldN dX3_valueOf_192 (Fx.s23 hF) (by omega) (by decide) rfl ?_
          refine xq_lret dX3_valueOf_193 rfl ?_
          refine ⟨_, H1, ⟨ho, ?_⟩, rfl⟩
          have hkr : k = tLr T l + 1 := by omega
          rw [hv _ (by omega) hroot.2.1]
          have : lawE T (nmv u i m) l = some (lvv T (nmv u i m) (tLr T l)) := by
            unfold lawE
            rw [if_neg hne, if_pos (by rw [← hkr]; exact hlk)]
          rw [this]; rfl
        · skip
          have hvb := rb_z (w := tLn T l) (k := k) (by omega); rw [← lg_cmp_eq] at hvb
          refine xq_lload dX3_valueOf_44 rfl ?_
          refine xq_iload dX3_valueOf_46 rfl ?_
          refine xq_lushr dX3_valueOf_48 ?_
          refine xq_lconst dX3_valueOf_49 lc1 ?_
          refine xq_land dX3_valueOf_50 ?_
          refine xq_lconst dX3_valueOf_51 lc0 ?_
          refine xq_lcmp dX3_valueOf_52 ?_
          refine xq_if_eq dX3_valueOf_53 rfl ⟨fun h53 => ?_, fun h53 => ?_⟩
          · skip
            refine xq_iincN dX3_valueOf_180 ic1 rfl rfl ?_
            refine xq_goto dX3_valueOf_183 rfl ?_
            refine xq_fgt (ih (k + 1) H1 (by omega) (by omega) ho (fun j hj hb => hv j (by
              have : j ≠ k := fun e => by subst e; rw [hvb.mp h53] at hb; cases hb
              omega) hb) (by unfold lok at hlk ⊢; rw [ex_s, hvb.mp h53]; simpa using hlk)) (by exact And.intro rfl (And.intro rfl (And.intro rfl (And.intro rfl (And.intro rfl (And.intro rfl (And.intro rfl (And.intro rfl (And.intro rfl (trivial))))))))))
          · skip
            have hb : rb (tLn T l) k = true := Bool.not_eq_false _ ▸ (fun z => h53 (hvb.mpr z))
            have hk3 := hroot.2.2 k (by omega) hb
            have hK := hk3.2.2
            have hle : lcl T (nmv u i m) (fun j => lvv T (nmv u i m) j) k = lvv T (nmv u i m) k := lcl_eq hK (fun j _ _ => rfl)
            refine xq_aload_n dX3_valueOf_56 rfl rfl ?_
            refine xq_getF clX8 (by decide) rfl fl_RX3_26 dX3_valueOf_57 (Tx.s0 ht) (Tx.r3 ht) ?_
            refine xq_getF clX2 (by decide) rfl fl_RX3_30 dX3_valueOf_60 (Kn.s0 (Tx.n7 ht)) (Kn.r0 (Tx.n7 ht)) ?_
            refine xq_iload dX3_valueOf_63 rfl ?_
            refine xq_ialdN dX3_valueOf_65 (Kn.s1 (Tx.n7 ht)) (by omega) (by decide) ((hT1.kn k (by omega)).1) ?_
            refine xq_istore dX3_valueOf_66 rfl ?_
            refine xq_aload_n dX3_valueOf_68 rfl rfl ?_
            refine xq_getF clX8 (by decide) rfl fl_RX3_26 dX3_valueOf_69 (Tx.s0 ht) (Tx.r3 ht) ?_
            refine xq_getF clX2 (by decide) rfl fl_RX3_35 dX3_valueOf_72 (Kn.s0 (Tx.n7 ht)) (Kn.r1 (Tx.n7 ht)) ?_
            refine xq_iload dX3_valueOf_75 rfl ?_
            refine xq_ialdN dX3_valueOf_77 (Kn.s2 (Tx.n7 ht)) (by omega) (by decide) ((hT1.kn k (by omega)).2.1) ?_
            refine xq_istore dX3_valueOf_78 rfl ?_
            refine xq_iload dX3_valueOf_80 rfl ?_
            refine xq_bipush dX3_valueOf_82 bp21 ?_
            refine xq_icmp_ltN dX3_valueOf_84 rfl (by unfold LwK WkK at hK; omega) (by omega) ⟨fun h84 => ?_, fun h84 => ?_⟩
            · skip
              refine xq_iload dX3_valueOf_107 rfl ?_
              refine xq_bipush dX3_valueOf_109 bp38 ?_
              refine xq_icmp_neN dX3_valueOf_111 rfl (by unfold LwK WkK at hK; omega) (by omega) ⟨fun h111 => ?_, fun h111 => ?_⟩
              · skip
                have hKw : tK T k = 13 ∨ (WkK (tK T k) ∧ tK T k ≠ 13) := by unfold LwK WkK at hK; unfold WkK; omega
                have hxk : tX T k < k ∧ rb (tLn T l) (tX T k) = true := by unfold LwK at hK; rcases hK with w | w | w | w <;> first | exact absurd w (by omega) | exact ⟨w.2.1, w.2.2.1⟩ | exact ⟨w.2.2.1, w.2.2.2.1⟩
                have hy64 : tY T k < 64 := by unfold LwK at hK; omega
                have hxr := lok_in hlk hxk.1 hxk.2
                refine xq_iload dX3_valueOf_120 rfl ?_
                refine xq_aload_n dX3_valueOf_122 rfl rfl ?_
                refine xq_getF clX3 (by decide) rfl fl_RX3_9 dX3_valueOf_123 (Fx.s22 hF) (Fx.r22_0 hF) ?_
                refine xq_iload dX3_valueOf_126 rfl ?_
                refine xq_laldN (v := zL (lvv T (nmv u i m) (tX T k))) dX3_valueOf_128 (Fx.s23 hF) (by omega) (by decide) (hv _ hxk.1 hxk.2) ?_
                refine xq_aload_n dX3_valueOf_129 rfl rfl ?_
                refine xq_getF clX3 (by decide) rfl fl_RX3_9 dX3_valueOf_130 (Fx.s22 hF) (Fx.r22_0 hF) ?_
                refine xq_aload_n dX3_valueOf_133 rfl rfl ?_
                refine xq_getF clX8 (by decide) rfl fl_RX3_26 dX3_valueOf_134 (Tx.s0 ht) (Tx.r3 ht) ?_
                refine xq_getF clX2 (by decide) rfl fl_RX3_42 dX3_valueOf_137 (Kn.s0 (Tx.n7 ht)) (Kn.r2 (Tx.n7 ht)) ?_
                refine xq_iload dX3_valueOf_140 rfl ?_
                refine xq_ialdN dX3_valueOf_142 (Kn.s3 (Tx.n7 ht)) (by omega) (by decide) ((hT1.kn k (by omega)).2.2) ?_
                refine xq_laldN dX3_valueOf_143 (Fx.s23 hF) (by omega) (by decide) rfl ?_
                refine xq_callS3P gd_X3_work dX3_valueOf_144 ml_RX3_45 im_X3_work (by exact Nat.le_of_ble_eq_true rfl) (by decide) (wk_call hK hKw hxr hv hlk hle rfl) ?_
                have hvin : inB (lvv T (nmv u i m) k) := wk_in hK hKw hxr hv hlk hle
                skip
                refine xq_lstoreX dX3_valueOf_147 rfl rfl ?_
                refine xq_lload dX3_valueOf_149 rfl ?_
                refine xq_ldc2 (v := lN 1000000000000) dX3_valueOf_151 kc_RX3_49 ?_
                refine xq_lcmp dX3_valueOf_154 ?_
                refine xq_if_gt dX3_valueOf_155 rfl ⟨fun h155 => ?_, fun h155 => ?_⟩
                · skip
                  refine xq_ldc2 dX3_valueOf_167 kc_RX3_20 ?_
                  refine xq_lret dX3_valueOf_170 rfl ?_
                  refine ⟨_, H1, ⟨ho, ?_⟩, rfl⟩
                  have hbd : ¬ (-1000000000000 ≤ lvv T (nmv u i m) k ∧ lvv T (nmv u i m) k ≤ 1000000000000) := fun w => by
                    obtain ⟨w1, w2⟩ := w
                    rw [lg_cmp_gt, show (lN 1000000000000) = zL 1000000000000 from rfl, zL_lt ⟨by omega, by omega⟩ hvin] at h155; omega
                  have : lawE T (nmv u i m) l = none := by
                    unfold lawE
                    rw [if_neg hne, if_neg]
                    intro e
                    exact hbd (lok_in e (by omega) hb)
                  rw [this]; rfl
                · skip
                  refine xq_lload dX3_valueOf_158 rfl ?_
                  refine xq_ldc2 dX3_valueOf_160 kc_RX3_51 ?_
                  refine xq_lcmp dX3_valueOf_163 ?_
                  refine xq_if_ge dX3_valueOf_164 rfl ⟨fun h164 => ?_, fun h164 => ?_⟩
                  · skip
                    refine xq_aload_n dX3_valueOf_171 rfl rfl ?_
                    refine xq_getF clX3 (by decide) rfl fl_RX3_9 dX3_valueOf_172 (Fx.s22 hF) (Fx.r22_0 hF) ?_
                    refine xq_iload dX3_valueOf_175 rfl ?_
                    refine xq_lload dX3_valueOf_177 rfl ?_
                    refine xq_lastN dX3_valueOf_179 (Fx.s23 hF) (by omega) (by decide) ?_
                    refine xq_iincN dX3_valueOf_180 ic1 rfl rfl ?_
                    refine xq_goto dX3_valueOf_183 rfl ?_
                    have hin : -1000000000000 ≤ lvv T (nmv u i m) k ∧ lvv T (nmv u i m) k ≤ 1000000000000 := ⟨by rw [lg_cmp_ge, show (-1000000000000 : Int64) = zL (-1000000000000) by decide, zL_le ⟨by omega, by omega⟩ hvin] at h164; omega, by rw [lg_cmp_gt, show (lN 1000000000000) = zL 1000000000000 from rfl, zL_lt ⟨by omega, by omega⟩ hvin] at h155; omega⟩
                    refine xq_fgt (ih (k + 1) _ (by omega) (by omega) (Off.pL (A := fun q => q = 23) ho rfl _ _) (fun j hj hb => ?_) (by unfold lok at hlk ⊢; rw [ex_s, show inR (lvv T (nmv u i m) k) = true by simpa [inR] using hin]; simpa using hlk)) (by exact And.intro rfl (And.intro rfl (And.intro rfl (And.intro rfl (And.intro rfl (And.intro rfl (And.intro rfl (And.intro rfl (And.intro rfl (trivial))))))))))
                    rw [hL_sL]
                    by_cases e : j = k
                    · rw [if_pos ⟨rfl, e⟩, e]
                    · rw [if_neg (fun z => e z.2)]; exact hv j (by omega) hb
                  · skip
                    refine xq_ldc2 dX3_valueOf_167 kc_RX3_20 ?_
                    refine xq_lret dX3_valueOf_170 rfl ?_
                    refine ⟨_, H1, ⟨ho, ?_⟩, rfl⟩
                    have hbd : ¬ (-1000000000000 ≤ lvv T (nmv u i m) k ∧ lvv T (nmv u i m) k ≤ 1000000000000) := fun w => by
                      obtain ⟨w1, w2⟩ := w
                      rw [lg_cmp_ge, show (-1000000000000 : Int64) = zL (-1000000000000) by decide, zL_le ⟨by omega, by omega⟩ hvin] at h164; omega
                    have : lawE T (nmv u i m) l = none := by
                      unfold lawE
                      rw [if_neg hne, if_neg]
                      intro e
                      exact hbd (lok_in e (by omega) hb)
                    rw [this]; rfl
              · skip
                refine xq_iload dX3_valueOf_114 rfl ?_
                refine xq_i2l dX3_valueOf_116 ?_
                refine xq_goto dX3_valueOf_117 rfl ?_
                have ev : lvv T (nmv u i m) k = (tX T k : Int) := by rw [← hle]; unfold lcl; rw [if_neg (by omega), if_pos h111]
                have hvin : inB (lvv T (nmv u i m) k) := by rw [ev]; unfold LwK WkK at hK; constructor <;> omega
                rw [nI_toL (by unfold LwK WkK at hK; omega), ← zL_n, ← ev]
                refine xq_lstoreX dX3_valueOf_147 rfl rfl ?_
                refine xq_lload dX3_valueOf_149 rfl ?_
                refine xq_ldc2 (v := lN 1000000000000) dX3_valueOf_151 kc_RX3_49 ?_
                refine xq_lcmp dX3_valueOf_154 ?_
                refine xq_if_gt dX3_valueOf_155 rfl ⟨fun h155 => ?_, fun h155 => ?_⟩
                · skip
                  refine xq_ldc2 dX3_valueOf_167 kc_RX3_20 ?_
                  refine xq_lret dX3_valueOf_170 rfl ?_
                  refine ⟨_, H1, ⟨ho, ?_⟩, rfl⟩
                  have hbd : ¬ (-1000000000000 ≤ lvv T (nmv u i m) k ∧ lvv T (nmv u i m) k ≤ 1000000000000) := fun w => by
                    obtain ⟨w1, w2⟩ := w
                    rw [lg_cmp_gt, show (lN 1000000000000) = zL 1000000000000 from rfl, zL_lt ⟨by omega, by omega⟩ hvin] at h155; omega
                  have : lawE T (nmv u i m) l = none := by
                    unfold lawE
                    rw [if_neg hne, if_neg]
                    intro e
                    exact hbd (lok_in e (by omega) hb)
                  rw [this]; rfl
                · skip
                  refine xq_lload dX3_valueOf_158 rfl ?_
                  refine xq_ldc2 dX3_valueOf_160 kc_RX3_51 ?_
                  refine xq_lcmp dX3_valueOf_163 ?_
                  refine xq_if_ge dX3_valueOf_164 rfl ⟨fun h164 => ?_, fun h164 => ?_⟩
                  · skip
                    refine xq_aload_n dX3_valueOf_171 rfl rfl ?_
                    refine xq_getF clX3 (by decide) rfl fl_RX3_9 dX3_valueOf_172 (Fx.s22 hF) (Fx.r22_0 hF) ?_
                    refine xq_iload dX3_valueOf_175 rfl ?_
                    refine xq_lload dX3_valueOf_177 rfl ?_
                    refine xq_lastN dX3_valueOf_179 (Fx.s23 hF) (by omega) (by decide) ?_
                    refine xq_iincN dX3_valueOf_180 ic1 rfl rfl ?_
                    refine xq_goto dX3_valueOf_183 rfl ?_
                    have hin : -1000000000000 ≤ lvv T (nmv u i m) k ∧ lvv T (nmv u i m) k ≤ 1000000000000 := ⟨by rw [lg_cmp_ge, show (-1000000000000 : Int64) = zL (-1000000000000) by decide, zL_le ⟨by omega, by omega⟩ hvin] at h164; omega, by rw [lg_cmp_gt, show (lN 1000000000000) = zL 1000000000000 from rfl, zL_lt ⟨by omega, by omega⟩ hvin] at h155; omega⟩
                    refine xq_fgt (ih (k + 1) _ (by omega) (by omega) (Off.pL (A := fun q => q = 23) ho rfl _ _) (fun j hj hb => ?_) (by unfold lok at hlk ⊢; rw [ex_s, show inR (lvv T (nmv u i m) k) = true by simpa [inR] using hin]; simpa using hlk)) (by exact And.intro rfl (And.intro rfl (And.intro rfl (And.intro rfl (And.intro rfl (And.intro rfl (And.intro rfl (And.intro rfl (And.intro rfl (trivial))))))))))
                    rw [hL_sL]
                    by_cases e : j = k
                    · rw [if_pos ⟨rfl, e⟩, e]
                    · rw [if_neg (fun z => e z.2)]; exact hv j (by omega) hb
                  · skip
                    refine xq_ldc2 dX3_valueOf_167 kc_RX3_20 ?_
                    refine xq_lret dX3_valueOf_170 rfl ?_
                    refine ⟨_, H1, ⟨ho, ?_⟩, rfl⟩
                    have hbd : ¬ (-1000000000000 ≤ lvv T (nmv u i m) k ∧ lvv T (nmv u i m) k ≤ 1000000000000) := fun w => by
                      obtain ⟨w1, w2⟩ := w
                      rw [lg_cmp_ge, show (-1000000000000 : Int64) = zL (-1000000000000) by decide, zL_le ⟨by omega, by omega⟩ hvin] at h164; omega
                    have : lawE T (nmv u i m) l = none := by
                      unfold lawE
                      rw [if_neg hne, if_neg]
                      intro e
                      exact hbd (lok_in e (by omega) hb)
                    rw [this]; rfl
            · skip
              refine xq_iload dX3_valueOf_87 rfl ?_
              refine xq_bipush dX3_valueOf_89 bp27 ?_
              refine xq_icmp_gtN dX3_valueOf_91 rfl (by unfold LwK WkK at hK; omega) (by omega) ⟨fun h91 => ?_, fun h91 => ?_⟩
              · skip
                refine xq_iload dX3_valueOf_107 rfl ?_
                refine xq_bipush dX3_valueOf_109 bp38 ?_
                refine xq_icmp_neN dX3_valueOf_111 rfl (by unfold LwK WkK at hK; omega) (by omega) ⟨fun h111 => ?_, fun h111 => ?_⟩
                · skip
                  have hKw : tK T k = 13 ∨ (WkK (tK T k) ∧ tK T k ≠ 13) := by unfold LwK WkK at hK; unfold WkK; omega
                  have hxk : tX T k < k ∧ rb (tLn T l) (tX T k) = true := by unfold LwK at hK; rcases hK with w | w | w | w <;> first | exact absurd w (by omega) | exact ⟨w.2.1, w.2.2.1⟩ | exact ⟨w.2.2.1, w.2.2.2.1⟩
                  have hy64 : tY T k < 64 := by unfold LwK at hK; omega
                  have hxr := lok_in hlk hxk.1 hxk.2
                  refine xq_iload dX3_valueOf_120 rfl ?_
                  refine xq_aload_n dX3_valueOf_122 rfl rfl ?_
                  refine xq_getF clX3 (by decide) rfl fl_RX3_9 dX3_valueOf_123 (Fx.s22 hF) (Fx.r22_0 hF) ?_
                  refine xq_iload dX3_valueOf_126 rfl ?_
                  refine xq_laldN (v := zL (lvv T (nmv u i m) (tX T k))) dX3_valueOf_128 (Fx.s23 hF) (by omega) (by decide) (hv _ hxk.1 hxk.2) ?_
                  refine xq_aload_n dX3_valueOf_129 rfl rfl ?_
                  refine xq_getF clX3 (by decide) rfl fl_RX3_9 dX3_valueOf_130 (Fx.s22 hF) (Fx.r22_0 hF) ?_
                  refine xq_aload_n dX3_valueOf_133 rfl rfl ?_
                  refine xq_getF clX8 (by decide) rfl fl_RX3_26 dX3_valueOf_134 (Tx.s0 ht) (Tx.r3 ht) ?_
                  refine xq_getF clX2 (by decide) rfl fl_RX3_42 dX3_valueOf_137 (Kn.s0 (Tx.n7 ht)) (Kn.r2 (Tx.n7 ht)) ?_
                  refine xq_iload dX3_valueOf_140 rfl ?_
                  refine xq_ialdN dX3_valueOf_142 (Kn.s3 (Tx.n7 ht)) (by omega) (by decide) ((hT1.kn k (by omega)).2.2) ?_
                  refine xq_laldN dX3_valueOf_143 (Fx.s23 hF) (by omega) (by decide) rfl ?_
                  refine xq_callS3P gd_X3_work dX3_valueOf_144 ml_RX3_45 im_X3_work (by exact Nat.le_of_ble_eq_true rfl) (by decide) (wk_call hK hKw hxr hv hlk hle rfl) ?_
                  have hvin : inB (lvv T (nmv u i m) k) := wk_in hK hKw hxr hv hlk hle
                  skip
                  refine xq_lstoreX dX3_valueOf_147 rfl rfl ?_
                  refine xq_lload dX3_valueOf_149 rfl ?_
                  refine xq_ldc2 (v := lN 1000000000000) dX3_valueOf_151 kc_RX3_49 ?_
                  refine xq_lcmp dX3_valueOf_154 ?_
                  refine xq_if_gt dX3_valueOf_155 rfl ⟨fun h155 => ?_, fun h155 => ?_⟩
                  · skip
                    refine xq_ldc2 dX3_valueOf_167 kc_RX3_20 ?_
                    refine xq_lret dX3_valueOf_170 rfl ?_
                    refine ⟨_, H1, ⟨ho, ?_⟩, rfl⟩
                    have hbd : ¬ (-1000000000000 ≤ lvv T (nmv u i m) k ∧ lvv T (nmv u i m) k ≤ 1000000000000) := fun w => by
                      obtain ⟨w1, w2⟩ := w
                      rw [lg_cmp_gt, show (lN 1000000000000) = zL 1000000000000 from rfl, zL_lt ⟨by omega, by omega⟩ hvin] at h155; omega
                    have : lawE T (nmv u i m) l = none := by
                      unfold lawE
                      rw [if_neg hne, if_neg]
                      intro e
                      exact hbd (lok_in e (by omega) hb)
                    rw [this]; rfl
                  · skip
                    refine xq_lload dX3_valueOf_158 rfl ?_
                    refine xq_ldc2 dX3_valueOf_160 kc_RX3_51 ?_
                    refine xq_lcmp dX3_valueOf_163 ?_
                    refine xq_if_ge dX3_valueOf_164 rfl ⟨fun h164 => ?_, fun h164 => ?_⟩
                    · skip
                      refine xq_aload_n dX3_valueOf_171 rfl rfl ?_
                      refine xq_getF clX3 (by decide) rfl fl_RX3_9 dX3_valueOf_172 (Fx.s22 hF) (Fx.r22_0 hF) ?_
                      refine xq_iload dX3_valueOf_175 rfl ?_
                      refine xq_lload dX3_valueOf_177 rfl ?_
                      refine xq_lastN dX3_valueOf_179 (Fx.s23 hF) (by omega) (by decide) ?_
                      refine xq_iincN dX3_valueOf_180 ic1 rfl rfl ?_
                      refine xq_goto dX3_valueOf_183 rfl ?_
                      have hin : -1000000000000 ≤ lvv T (nmv u i m) k ∧ lvv T (nmv u i m) k ≤ 1000000000000 := ⟨by rw [lg_cmp_ge, show (-1000000000000 : Int64) = zL (-1000000000000) by decide, zL_le ⟨by omega, by omega⟩ hvin] at h164; omega, by rw [lg_cmp_gt, show (lN 1000000000000) = zL 1000000000000 from rfl, zL_lt ⟨by omega, by omega⟩ hvin] at h155; omega⟩
                      refine xq_fgt (ih (k + 1) _ (by omega) (by omega) (Off.pL (A := fun q => q = 23) ho rfl _ _) (fun j hj hb => ?_) (by unfold lok at hlk ⊢; rw [ex_s, show inR (lvv T (nmv u i m) k) = true by simpa [inR] using hin]; simpa using hlk)) (by exact And.intro rfl (And.intro rfl (And.intro rfl (And.intro rfl (And.intro rfl (And.intro rfl (And.intro rfl (And.intro rfl (And.intro rfl (trivial))))))))))
                      rw [hL_sL]
                      by_cases e : j = k
                      · rw [if_pos ⟨rfl, e⟩, e]
                      · rw [if_neg (fun z => e z.2)]; exact hv j (by omega) hb
                    · skip
                      refine xq_ldc2 dX3_valueOf_167 kc_RX3_20 ?_
                      refine xq_lret dX3_valueOf_170 rfl ?_
                      refine ⟨_, H1, ⟨ho, ?_⟩, rfl⟩
                      have hbd : ¬ (-1000000000000 ≤ lvv T (nmv u i m) k ∧ lvv T (nmv u i m) k ≤ 1000000000000) := fun w => by
                        obtain ⟨w1, w2⟩ := w
                        rw [lg_cmp_ge, show (-1000000000000 : Int64) = zL (-1000000000000) by decide, zL_le ⟨by omega, by omega⟩ hvin] at h164; omega
                      have : lawE T (nmv u i m) l = none := by
                        unfold lawE
                        rw [if_neg hne, if_neg]
                        intro e
                        exact hbd (lok_in e (by omega) hb)
                      rw [this]; rfl
                · skip
                  refine xq_iload dX3_valueOf_114 rfl ?_
                  refine xq_i2l dX3_valueOf_116 ?_
                  refine xq_goto dX3_valueOf_117 rfl ?_
                  have ev : lvv T (nmv u i m) k = (tX T k : Int) := by rw [← hle]; unfold lcl; rw [if_neg (by omega), if_pos h111]
                  have hvin : inB (lvv T (nmv u i m) k) := by rw [ev]; unfold LwK WkK at hK; constructor <;> omega
                  rw [nI_toL (by unfold LwK WkK at hK; omega), ← zL_n, ← ev]
                  refine xq_lstoreX dX3_valueOf_147 rfl rfl ?_
                  refine xq_lload dX3_valueOf_149 rfl ?_
                  refine xq_ldc2 (v := lN 1000000000000) dX3_valueOf_151 kc_RX3_49 ?_
                  refine xq_lcmp dX3_valueOf_154 ?_
                  refine xq_if_gt dX3_valueOf_155 rfl ⟨fun h155 => ?_, fun h155 => ?_⟩
                  · skip
                    refine xq_ldc2 dX3_valueOf_167 kc_RX3_20 ?_
                    refine xq_lret dX3_valueOf_170 rfl ?_
                    refine ⟨_, H1, ⟨ho, ?_⟩, rfl⟩
                    have hbd : ¬ (-1000000000000 ≤ lvv T (nmv u i m) k ∧ lvv T (nmv u i m) k ≤ 1000000000000) := fun w => by
                      obtain ⟨w1, w2⟩ := w
                      rw [lg_cmp_gt, show (lN 1000000000000) = zL 1000000000000 from rfl, zL_lt ⟨by omega, by omega⟩ hvin] at h155; omega
                    have : lawE T (nmv u i m) l = none := by
                      unfold lawE
                      rw [if_neg hne, if_neg]
                      intro e
                      exact hbd (lok_in e (by omega) hb)
                    rw [this]; rfl
                  · skip
                    refine xq_lload dX3_valueOf_158 rfl ?_
                    refine xq_ldc2 dX3_valueOf_160 kc_RX3_51 ?_
                    refine xq_lcmp dX3_valueOf_163 ?_
                    refine xq_if_ge dX3_valueOf_164 rfl ⟨fun h164 => ?_, fun h164 => ?_⟩
                    · skip
                      refine xq_aload_n dX3_valueOf_171 rfl rfl ?_
                      refine xq_getF clX3 (by decide) rfl fl_RX3_9 dX3_valueOf_172 (Fx.s22 hF) (Fx.r22_0 hF) ?_
                      refine xq_iload dX3_valueOf_175 rfl ?_
                      refine xq_lload dX3_valueOf_177 rfl ?_
                      refine xq_lastN dX3_valueOf_179 (Fx.s23 hF) (by omega) (by decide) ?_
                      refine xq_iincN dX3_valueOf_180 ic1 rfl rfl ?_
                      refine xq_goto dX3_valueOf_183 rfl ?_
                      have hin : -1000000000000 ≤ lvv T (nmv u i m) k ∧ lvv T (nmv u i m) k ≤ 1000000000000 := ⟨by rw [lg_cmp_ge, show (-1000000000000 : Int64) = zL (-1000000000000) by decide, zL_le ⟨by omega, by omega⟩ hvin] at h164; omega, by rw [lg_cmp_gt, show (lN 1000000000000) = zL 1000000000000 from rfl, zL_lt ⟨by omega, by omega⟩ hvin] at h155; omega⟩
                      refine xq_fgt (ih (k + 1) _ (by omega) (by omega) (Off.pL (A := fun q => q = 23) ho rfl _ _) (fun j hj hb => ?_) (by unfold lok at hlk ⊢; rw [ex_s, show inR (lvv T (nmv u i m) k) = true by simpa [inR] using hin]; simpa using hlk)) (by exact And.intro rfl (And.intro rfl (And.intro rfl (And.intro rfl (And.intro rfl (And.intro rfl (And.intro rfl (And.intro rfl (And.intro rfl (trivial))))))))))
                      rw [hL_sL]
                      by_cases e : j = k
                      · rw [if_pos ⟨rfl, e⟩, e]
                      · rw [if_neg (fun z => e z.2)]; exact hv j (by omega) hb
                    · skip
                      refine xq_ldc2 dX3_valueOf_167 kc_RX3_20 ?_
                      refine xq_lret dX3_valueOf_170 rfl ?_
                      refine ⟨_, H1, ⟨ho, ?_⟩, rfl⟩
                      have hbd : ¬ (-1000000000000 ≤ lvv T (nmv u i m) k ∧ lvv T (nmv u i m) k ≤ 1000000000000) := fun w => by
                        obtain ⟨w1, w2⟩ := w
                        rw [lg_cmp_ge, show (-1000000000000 : Int64) = zL (-1000000000000) by decide, zL_le ⟨by omega, by omega⟩ hvin] at h164; omega
                      have : lawE T (nmv u i m) l = none := by
                        unfold lawE
                        rw [if_neg hne, if_neg]
                        intro e
                        exact hbd (lok_in e (by omega) hb)
                      rw [this]; rfl
              · skip
                refine xq_iload dX3_valueOf_94 rfl ?_
                refine xq_aload_n dX3_valueOf_96 rfl rfl ?_
                refine xq_iload dX3_valueOf_97 rfl ?_
                refine xq_iload dX3_valueOf_99 rfl ?_
                refine xq_callS4P gd_X3_nameValue dX3_valueOf_101 ml_RX3_38 im_X3_nameValue (by exact Nat.le_of_ble_eq_true rfl) (by decide) (c_nameValue ha hu1 ok hi (by omega) (by omega)) ?_
                have hnb := nmv_lt ok hi hm8 (tK T k)
                refine xq_goto dX3_valueOf_104 rfl ?_
                have ev : lvv T (nmv u i m) k = (nmv u i m (tK T k) : Int) := by rw [← hle]; unfold lcl; rw [if_pos ⟨by omega, by omega⟩]
                have hvin : inB (lvv T (nmv u i m) k) := by rw [ev]; constructor <;> omega
                rw [← zL_n, ← ev]
                refine xq_lstoreX dX3_valueOf_147 rfl rfl ?_
                refine xq_lload dX3_valueOf_149 rfl ?_
                refine xq_ldc2 (v := lN 1000000000000) dX3_valueOf_151 kc_RX3_49 ?_
                refine xq_lcmp dX3_valueOf_154 ?_
                refine xq_if_gt dX3_valueOf_155 rfl ⟨fun h155 => ?_, fun h155 => ?_⟩
                · skip
                  refine xq_ldc2 dX3_valueOf_167 kc_RX3_20 ?_
                  refine xq_lret dX3_valueOf_170 rfl ?_
                  refine ⟨_, H1, ⟨ho, ?_⟩, rfl⟩
                  have hbd : ¬ (-1000000000000 ≤ lvv T (nmv u i m) k ∧ lvv T (nmv u i m) k ≤ 1000000000000) := fun w => by
                    obtain ⟨w1, w2⟩ := w
                    rw [lg_cmp_gt, show (lN 1000000000000) = zL 1000000000000 from rfl, zL_lt ⟨by omega, by omega⟩ hvin] at h155; omega
                  have : lawE T (nmv u i m) l = none := by
                    unfold lawE
                    rw [if_neg hne, if_neg]
                    intro e
                    exact hbd (lok_in e (by omega) hb)
                  rw [this]; rfl
                · skip
                  refine xq_lload dX3_valueOf_158 rfl ?_
                  refine xq_ldc2 dX3_valueOf_160 kc_RX3_51 ?_
                  refine xq_lcmp dX3_valueOf_163 ?_
                  refine xq_if_ge dX3_valueOf_164 rfl ⟨fun h164 => ?_, fun h164 => ?_⟩
                  · skip
                    refine xq_aload_n dX3_valueOf_171 rfl rfl ?_
                    refine xq_getF clX3 (by decide) rfl fl_RX3_9 dX3_valueOf_172 (Fx.s22 hF) (Fx.r22_0 hF) ?_
                    refine xq_iload dX3_valueOf_175 rfl ?_
                    refine xq_lload dX3_valueOf_177 rfl ?_
                    refine xq_lastN dX3_valueOf_179 (Fx.s23 hF) (by omega) (by decide) ?_
                    refine xq_iincN dX3_valueOf_180 ic1 rfl rfl ?_
                    refine xq_goto dX3_valueOf_183 rfl ?_
                    have hin : -1000000000000 ≤ lvv T (nmv u i m) k ∧ lvv T (nmv u i m) k ≤ 1000000000000 := ⟨by rw [lg_cmp_ge, show (-1000000000000 : Int64) = zL (-1000000000000) by decide, zL_le ⟨by omega, by omega⟩ hvin] at h164; omega, by rw [lg_cmp_gt, show (lN 1000000000000) = zL 1000000000000 from rfl, zL_lt ⟨by omega, by omega⟩ hvin] at h155; omega⟩
                    refine xq_fgt (ih (k + 1) _ (by omega) (by omega) (Off.pL (A := fun q => q = 23) ho rfl _ _) (fun j hj hb => ?_) (by unfold lok at hlk ⊢; rw [ex_s, show inR (lvv T (nmv u i m) k) = true by simpa [inR] using hin]; simpa using hlk)) (by exact And.intro rfl (And.intro rfl (And.intro rfl (And.intro rfl (And.intro rfl (And.intro rfl (And.intro rfl (And.intro rfl (And.intro rfl (trivial))))))))))
                    rw [hL_sL]
                    by_cases e : j = k
                    · rw [if_pos ⟨rfl, e⟩, e]
                    · rw [if_neg (fun z => e z.2)]; exact hv j (by omega) hb
                  · skip
                    refine xq_ldc2 dX3_valueOf_167 kc_RX3_20 ?_
                    refine xq_lret dX3_valueOf_170 rfl ?_
                    refine ⟨_, H1, ⟨ho, ?_⟩, rfl⟩
                    have hbd : ¬ (-1000000000000 ≤ lvv T (nmv u i m) k ∧ lvv T (nmv u i m) k ≤ 1000000000000) := fun w => by
                      obtain ⟨w1, w2⟩ := w
                      rw [lg_cmp_ge, show (-1000000000000 : Int64) = zL (-1000000000000) by decide, zL_le ⟨by omega, by omega⟩ hvin] at h164; omega
                    have : lawE T (nmv u i m) l = none := by
                      unfold lawE
                      rw [if_neg hne, if_neg]
                      intro e
                      exact hbd (lok_in e (by omega) hb)
                    rw [this]; rfl
  refine vq_intro (by decide) (by exact Nat.le_of_ble_eq_true rfl) rfl ?_
  refine xq_aload_n dX3_valueOf_0 rfl rfl ?_
  refine xq_getF clX8 (by decide) rfl fl_RX3_15 dX3_valueOf_1 (Tx.s0 ht) (Tx.r15 ht) ?_
  refine xq_iload_n dX3_valueOf_4 rfl rfl ?_
  refine xq_laldN dX3_valueOf_5 (Tx.s20 ht) (by omega) (by decide) ((hT.lw l hl).1) ?_
  refine xq_lstoreX dX3_valueOf_6 rfl rfl ?_
  refine xq_lload dX3_valueOf_8 rfl ?_
  refine xq_lconst dX3_valueOf_10 lc0 ?_
  refine xq_lcmp dX3_valueOf_11 ?_
  refine xq_if_ne dX3_valueOf_12 rfl ⟨fun h12 => ?_, fun h12 => ?_⟩
  · skip
    refine xq_aload_n dX3_valueOf_19 rfl rfl ?_
    refine xq_getF clX8 (by decide) rfl fl_RX3_22 dX3_valueOf_20 (Tx.s0 ht) (Tx.r14 ht) ?_
    refine xq_iload_n dX3_valueOf_23 rfl rfl ?_
    refine xq_ialdN dX3_valueOf_24 (Tx.s19 ht) (by omega) (by decide) ((hT.lw l hl).2 hne) ?_
    refine xq_istore dX3_valueOf_25 rfl ?_
    refine xq_iconst dX3_valueOf_27 ic0 ?_
    refine xq_istore dX3_valueOf_28 rfl ?_
    exact xq_fgt (lp (tLr T l + 2) 0 H (by omega) (by omega) Off.rf (fun j hj => absurd hj (by omega)) rfl) (by exact And.intro rfl (And.intro rfl (And.intro rfl (And.intro rfl (And.intro rfl (And.intro rfl (And.intro rfl (And.intro rfl (And.intro rfl (trivial))))))))))
  · skip
    exact absurd ((lg_cmp_eq _ _).mp h12) hne
end LW
