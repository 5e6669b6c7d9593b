/-! ===== System.arraycopy of ints, from 0 to 0 ===== -/
theorem cp_nat : Cond.native arraycopyName ∈ lw_g := lw_gin 954 (by decide +kernel) (by decide +kernel)
theorem cp_sta : Cond.static arraycopyName ∈ lw_g := lw_gin 953 (by decide +kernel) (by decide +kernel)
theorem cp_ini : Cond.initialized "java/lang/System" ∈ lw_g := lw_gin 24 (by decide +kernel) (by decide +kernel)
theorem mcp_RX7_80 : Cond.methodLink RX7 80 arraycopyName ∈ lw_g := lw_gin 952 (by decide +kernel) (by decide +kernel)
section CP
variable {M : xM} {k b1 b2 pc i a0 a n0 n1 n : Nat} {L : List (Option Value)} {S : xS} {H : xH} {R : xR} {Q : xR → Prop}
theorem ex_copyi (d : decode (mC M) pc = .ok (.invokestatic i, 3)) (hl : Cond.methodLink (mY M).cls i arraycopyName ∈ lw_g) (hini : Cond.initialized "java/lang/System" ∈ lw_g) (h0 : fS S a0 = (1, n0)) (h1 : fS S a = (1, n1)) (hn0 : n ≤ n0) (hn1 : n ≤ n1) (hn : n ≤ 100000) (hk : 1 ≤ k)
    (kk : Ex M k b1 b2 (pc + 3) L [] S (sA H a (fun j => if j < n then hI H a0 j else hI H a j)) R) : Ex M k b1 b2 pc L [.int (nI n), .int (nI 0), .ref a, .int (nI 0), .ref a0] S H R := by
  intro l base D tc sa p e Rm s m args below meth c Hh locs cells slots ls C hRp hLv
  have hts := C.1.2.2.2.2.2.2.2.1
  have hG := C.1.2.2.2.2.2.2.2.2
  have hr := C.2.1
  intro T hT X
  have hc0 : Hh[base + a0]? = some (vp_cell (tc 0) (n0, .inl (hI H a0))) := xAt_1 (hRp.2 a0) h0
  have hc1 : Hh[base + a]? = some (vp_cell (tc 0) (n1, .inl (hI H a))) := xAt_1 (hRp.2 a) h1
  obtain ⟨-, k0, hk0, cm0, hkk0⟩ := (xTy tc hG).1 n0 (fun j => .int (hI H a0 j))
  obtain ⟨-, k1, hk1, cm1, hkk1⟩ := (xTy tc hG).1 n1 (fun j => .int (hI H a j))
  have z0 : (nI 0).toNatClampNeg = 0 := rfl
  have zn : (nI n).toNatClampNeg = n := nI_clamp (by omega)
  have i0 : (nI 0).toInt = 0 := rfl
  have iz : (nI n).toInt = (n : Int) := nI_toInt (by omega)
  obtain ⟨vm', X', step⟩ := X.arraycopy C.1.1 C.1.2.2.2.2.2.2.1 (hts _ hl) (hts _ cp_nat) (hts _ cp_sta) (hts _ hini) (src := base + a0) (dst := base + a) (cs := vp_cell (tc 0) (n0, .inl (hI H a0))) (cd := vp_cell (tc 0) (n1, .inl (hI H a))) (srcPos := nI 0) (destPos := nI 0) (n := nI n) (by rw [hT]; exact hc0) (by rw [hT]; exact hc1)
    (fun _ h => by cases h) (fun _ h => by cases h) (fun h => by cases h) (fun h => by cases h) hk0 hk1 hkk0 hkk1 (by simp [refKind]) (nq_lt0 (by omega)) (nq_lt0 (by omega)) (nq_lt0 (by omega))
    (by rw [i0, iz]; show ¬ _ > ((arrV (tc 0) n0 (fun j => .int (hI H a0 j))).slots.size : Int); rw [arrV_size]; omega)
    (by rw [i0, iz]; show ¬ _ > ((arrV (tc 0) n1 (fun j => .int (hI H a j))).slots.size : Int); rw [arrV_size]; omega)
    (fun vm₁ _ i hi => by
      have e : (vp_cell (tc 0) (n0, .inl (hI H a0))).slots.getD ((nI 0).toNatClampNeg + i) .null = .int (hI H a0 ((nI 0).toNatClampNeg + i)) := by
        show (arrV (tc 0) n0 (fun j => .int (hI H a0 j))).slots.getD _ _ = _
        rw [Array.getD_eq_getD_getElem?, arrV_read _ _ (by rw [z0]; rw [zn] at hi; omega)]
        rfl
      refine ⟨?_, ?_⟩
      · rw [e]; rfl
      · rw [e]; exact trivial)
    (g := F0 m pc ls (([.int (nI n), .int (nI 0), .ref a, .int (nI 0), .ref a0] : List Value).map (xV base sa))) rfl (by rw [C.1.2.2.1]; exact hLv.1) (rest := []) rfl (by rw [C.1.2.1]; exact d) (by omega) (by
      have : nativeFrameWords "java/lang/System" "arraycopy" 5 + 11 ≤ 100 := by decide +kernel
      show 2 * 0 + 0 + _ ≤ _
      omega)
  have e1 : copied (vp_cell (tc 0) (n0, .inl (hI H a0))) (vp_cell (tc 0) (n1, .inl (hI H a))) (nI 0) (nI 0) (nI n) = vp_cell (tc 0) (n1, .inl (va_cpy (hI H a0) (hI H a) (nI 0).toNatClampNeg (nI 0).toNatClampNeg (nI n).toNatClampNeg)) := va_copied (fun z => .int z) (tc 0) (tc 0) (hI H a0) (hI H a) (by rw [z0, zn]; omega)
  rw [e1, z0, zn] at X' step
  generalize hH2 : Hh.setIfInBounds (base + a) (vp_cell (tc 0) (n1, .inl (va_cpy (hI H a0) (hI H a) 0 0 n))) = H2
  have hlt : base + a < Hh.size := (Array.getElem?_eq_some_iff.mp hc1).1
  have hheap : ((T.setVm vm').setCell (base + a) (vp_cell (tc 0) (n1, .inl (va_cpy (hI H a0) (hI H a) 0 0 n)))).heap = H2 := by rw [← hH2, ← hT]; rfl
  have e2 : H2.size = Hh.size := by rw [← hH2]; simp
  have e3 : ∀ q : Nat, q ≠ base + a → H2[q]? = Hh[q]? := fun q hq => by rw [← hH2]; simp [Array.getElem?_setIfInBounds, Ne.symm hq]
  have e4 : H2[base + a]? = some (vp_cell (tc 0) (n1, .inl (va_cpy (hI H a0) (hI H a) 0 0 n))) := by rw [← hH2]; simp [Array.getElem?_setIfInBounds, hlt]
  have hR2 : xRep base D tc S (sA H a (fun j => if j < n then hI H a0 j else hI H a j)) H2 := xRep_st hRp e2 e3 (fun q hq j => by simp [hI, sA, hq]) (fun _ _ _ => rfl) (fun _ _ _ => rfl) (by
    unfold xAt
    rw [h1, e4]
    show (some (arrV (tc 0) n1 (fun j => .int (va_cpy (hI H a0) (hI H a) 0 0 n j))) : Option Cell) = some (arrV (tc 0) n1 (fun j => .int (hI (sA H a (fun j => if j < n then hI H a0 j else hI H a j)) a j)))
    congr 2
    funext j
    simp [va_cpy, hI, sA])
  obtain ⟨t, a1, b1⟩ := kk l base D tc sa p e Rm s m args below meth c H2 _ cells slots ls ⟨C.1, hr, by
    refine ⟨by rw [e2]; exact C.2.2.1, fun q g1 g2 => ?_, fun q hq => ?_⟩
    · rw [e3 q (fun e => g2 (by rw [e]; exact Nat.le_add_right base a))]
      exact C.2.2.2.1 q g1 g2
    · rcases List.mem_append.mp hq with h | h
      · exact C.2.2.2.2 q h
      · obtain ⟨z, -, hz⟩ := List.mem_map.mp h
        rw [← hz]
        exact Nat.le_add_right base a⟩ hR2 hLv _ hheap X'
  exact ⟨t, step t a1, b1⟩
theorem xq_copyi (d : decode (mC M) pc = .ok (.invokestatic i, 3)) (hl : Cond.methodLink (mY M).cls i arraycopyName ∈ lw_g) (hini : Cond.initialized "java/lang/System" ∈ lw_g) (h0 : fS S a0 = (1, n0)) (h1 : fS S a = (1, n1)) (hn0 : n ≤ n0) (hn1 : n ≤ n1) (hn : n ≤ 100000) (hk : 1 ≤ k)
    (kk : Xq M k b1 b2 (pc + 3) L [] S (sA H a (fun j => if j < n then hI H a0 j else hI H a j)) Q) : Xq M k b1 b2 pc L [.int (nI n), .int (nI 0), .ref a, .int (nI 0), .ref a0] S H Q := by
  obtain ⟨R, q, e⟩ := kk
  exact ⟨R, q, ex_copyi d hl hini h0 h1 hn0 hn1 hn hk e⟩
end CP
