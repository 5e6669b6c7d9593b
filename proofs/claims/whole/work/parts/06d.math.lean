/-! ===== Math.max, min, abs ===== -/
theorem mt_ini : Cond.initialized "java/lang/Math" ∈ lw_g := lw_gin 17 (by decide +kernel) (by decide +kernel)
section MT
variable {M : xM} {k b1 b2 pc i : Nat} {L : List (Option Value)} {st : List Value} {S : xS} {H : xH} {R : xR} {Q : xR → Prop}
theorem mt_smax : Cond.static Lib.Math.max.name ∈ lw_g := lw_gin 878 (by decide +kernel) (by decide +kernel)
theorem mt_cmax : Cond.code Lib.Math.max.name Lib.Math.max.code 2 (some .int) ∈ lw_g := lw_gin 879 (by decide +kernel) (by decide +kernel)
theorem xq_mmax {x y : Int32} (d : decode (mC M) pc = .ok (.invokestatic i, 3)) (hl : Cond.methodLink (mY M).cls i Lib.Math.max.name ∈ lw_g) (hW : (st.map fun v => v.category).sum ≤ 8) (hk : 1 ≤ k) (kk : Xq M k b1 b2 (pc + 3) L (.int (if x < y then y else x) :: st) S H Q) : Xq M k b1 b2 pc L (.int y :: .int x :: st) S H Q := by
  obtain ⟨R, q, e0⟩ := kk
  refine ⟨R, q, ?_⟩
  intro l base D tc sa p e Rm s m args below meth c Hh locs cells slots ls C hRp hLv
  have hts := C.1.2.2.2.2.2.2.2.1
  have hr := C.2.1
  exact va_mmax C.1.1 C.1.2.1 (by rw [C.1.2.2.1]; exact hLv.1.symm) C.1.2.2.2.2.2.2.1 (hts _ hl) (hts _ mt_smax) (hts _ mt_ini) (hts _ mt_cmax) (by omega) (by rw [xV_sum]; omega) (by omega) (by omega) d (e0 l base D tc sa p e Rm s m args below meth c Hh locs cells slots ls C hRp hLv)
theorem xq_mmaxN {x y : Nat} (d : decode (mC M) pc = .ok (.invokestatic i, 3)) (hl : Cond.methodLink (mY M).cls i Lib.Math.max.name ∈ lw_g) (hW : (st.map fun v => v.category).sum ≤ 8) (hk : 1 ≤ k) (hx : x < 2147483648) (hy : y < 2147483648) (kk : Xq M k b1 b2 (pc + 3) L (.int (nI (max x y)) :: st) S H Q) : Xq M k b1 b2 pc L (.int (nI y) :: .int (nI x) :: st) S H Q := by
  refine xq_mmax d hl hW hk ?_
  have e : (if nI x < nI y then nI y else nI x) = nI (max x y) := by
    by_cases h : x < y
    · rw [if_pos ((nq_ltI hx hy).mpr h), show max x y = y by omega]
    · rw [if_neg (fun q => h ((nq_ltI hx hy).mp q)), show max x y = x by omega]
  rw [e]
  exact kk
theorem mt_smin : Cond.static Lib.Math.min.name ∈ lw_g := lw_gin 579 (by decide +kernel) (by decide +kernel)
theorem mt_cmin : Cond.code Lib.Math.min.name Lib.Math.min.code 2 (some .int) ∈ lw_g := lw_gin 580 (by decide +kernel) (by decide +kernel)
theorem xq_mmin {x y : Int32} (d : decode (mC M) pc = .ok (.invokestatic i, 3)) (hl : Cond.methodLink (mY M).cls i Lib.Math.min.name ∈ lw_g) (hW : (st.map fun v => v.category).sum ≤ 8) (hk : 1 ≤ k) (kk : Xq M k b1 b2 (pc + 3) L (.int (if y < x then y else x) :: st) S H Q) : Xq M k b1 b2 pc L (.int y :: .int x :: st) S H Q := by
  obtain ⟨R, q, e0⟩ := kk
  refine ⟨R, q, ?_⟩
  intro l base D tc sa p e Rm s m args below meth c Hh locs cells slots ls C hRp hLv
  have hts := C.1.2.2.2.2.2.2.2.1
  have hr := C.2.1
  exact va_mmin C.1.1 C.1.2.1 (by rw [C.1.2.2.1]; exact hLv.1.symm) C.1.2.2.2.2.2.2.1 (hts _ hl) (hts _ mt_smin) (hts _ mt_ini) (hts _ mt_cmin) (by omega) (by rw [xV_sum]; omega) (by omega) (by omega) d (e0 l base D tc sa p e Rm s m args below meth c Hh locs cells slots ls C hRp hLv)
theorem xq_mminN {x y : Nat} (d : decode (mC M) pc = .ok (.invokestatic i, 3)) (hl : Cond.methodLink (mY M).cls i Lib.Math.min.name ∈ lw_g) (hW : (st.map fun v => v.category).sum ≤ 8) (hk : 1 ≤ k) (hx : x < 2147483648) (hy : y < 2147483648) (kk : Xq M k b1 b2 (pc + 3) L (.int (nI (min x y)) :: st) S H Q) : Xq M k b1 b2 pc L (.int (nI y) :: .int (nI x) :: st) S H Q := by
  refine xq_mmin d hl hW hk ?_
  have e : (if nI y < nI x then nI y else nI x) = nI (min x y) := by
    by_cases h : y < x
    · rw [if_pos ((nq_ltI hy hx).mpr h), show min x y = y by omega]
    · rw [if_neg (fun q => h ((nq_ltI hy hx).mp q)), show min x y = x by omega]
  rw [e]
  exact kk
theorem mt_smaxL : Cond.static Lib.MathLoose.max_long.x ∈ lw_g := lw_gin 999 (by decide +kernel) (by decide +kernel)
theorem mt_cmaxL : Cond.code Lib.MathLoose.max_long.x Lib.MathLoose.max_long.code 4 (some .long) ∈ lw_g := lw_gin 1000 (by decide +kernel) (by decide +kernel)
theorem xq_mmaxL {x y : Int64} (d : decode (mC M) pc = .ok (.invokestatic i, 3)) (hl : Cond.methodLink (mY M).cls i Lib.MathLoose.max_long.x ∈ lw_g) (hW : (st.map fun v => v.category).sum ≤ 8) (hk : 1 ≤ k) (kk : Xq M k b1 b2 (pc + 3) L (.long (if y < x then x else y) :: st) S H Q) : Xq M k b1 b2 pc L (.long y :: .long x :: st) S H Q := by
  obtain ⟨R, q, e0⟩ := kk
  refine ⟨R, q, ?_⟩
  intro l base D tc sa p e Rm s m args below meth c Hh locs cells slots ls C hRp hLv
  have hts := C.1.2.2.2.2.2.2.2.1
  have hr := C.2.1
  exact va_mmax_long C.1.1 C.1.2.1 (by rw [C.1.2.2.1]; exact hLv.1.symm) C.1.2.2.2.2.2.2.1 (hts _ hl) (hts _ mt_smaxL) (hts _ mt_ini) (hts _ mt_cmaxL) (by omega) (by rw [xV_sum]; omega) (by omega) (by omega) d (e0 l base D tc sa p e Rm s m args below meth c Hh locs cells slots ls C hRp hLv)
theorem mt_sminL : Cond.static Lib.MathLoose.min_long.x ∈ lw_g := lw_gin 996 (by decide +kernel) (by decide +kernel)
theorem mt_cminL : Cond.code Lib.MathLoose.min_long.x Lib.MathLoose.min_long.code 4 (some .long) ∈ lw_g := lw_gin 997 (by decide +kernel) (by decide +kernel)
theorem xq_mminL {x y : Int64} (d : decode (mC M) pc = .ok (.invokestatic i, 3)) (hl : Cond.methodLink (mY M).cls i Lib.MathLoose.min_long.x ∈ lw_g) (hW : (st.map fun v => v.category).sum ≤ 8) (hk : 1 ≤ k) (kk : Xq M k b1 b2 (pc + 3) L (.long (if y < x then y else x) :: st) S H Q) : Xq M k b1 b2 pc L (.long y :: .long x :: st) S H Q := by
  obtain ⟨R, q, e0⟩ := kk
  refine ⟨R, q, ?_⟩
  intro l base D tc sa p e Rm s m args below meth c Hh locs cells slots ls C hRp hLv
  have hts := C.1.2.2.2.2.2.2.2.1
  have hr := C.2.1
  exact va_mmin_long C.1.1 C.1.2.1 (by rw [C.1.2.2.1]; exact hLv.1.symm) C.1.2.2.2.2.2.2.1 (hts _ hl) (hts _ mt_sminL) (hts _ mt_ini) (hts _ mt_cminL) (by omega) (by rw [xV_sum]; omega) (by omega) (by omega) d (e0 l base D tc sa p e Rm s m args below meth c Hh locs cells slots ls C hRp hLv)
theorem mt_sabsL : Cond.static Lib.MathLoose.abs_long.x ∈ lw_g := lw_gin 940 (by decide +kernel) (by decide +kernel)
theorem mt_cabsL : Cond.code Lib.MathLoose.abs_long.x Lib.MathLoose.abs_long.code 2 (some .long) ∈ lw_g := lw_gin 941 (by decide +kernel) (by decide +kernel)
theorem xq_mabsL {x : Int64} (d : decode (mC M) pc = .ok (.invokestatic i, 3)) (hl : Cond.methodLink (mY M).cls i Lib.MathLoose.abs_long.x ∈ lw_g) (hW : (st.map fun v => v.category).sum ≤ 8) (hk : 1 ≤ k) (kk : Xq M k b1 b2 (pc + 3) L (.long (if 0 < x then x else -x) :: st) S H Q) : Xq M k b1 b2 pc L (.long x :: st) S H Q := by
  obtain ⟨R, q, e0⟩ := kk
  refine ⟨R, q, ?_⟩
  intro l base D tc sa p e Rm s m args below meth c Hh locs cells slots ls C hRp hLv
  have hts := C.1.2.2.2.2.2.2.2.1
  have hr := C.2.1
  exact va_mabs_long C.1.1 C.1.2.1 (by rw [C.1.2.2.1]; exact hLv.1.symm) C.1.2.2.2.2.2.2.1 (hts _ hl) (hts _ mt_sabsL) (hts _ mt_ini) (hts _ mt_cabsL) (by omega) (by rw [xV_sum]; omega) (by omega) (by omega) d (e0 l base D tc sa p e Rm s m args below meth c Hh locs cells slots ls C hRp hLv)
end MT
