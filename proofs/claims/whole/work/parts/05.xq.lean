/-! ===== the same rows with a set of ends Q in place of one end R ===== -/
def Xq (M : xM) (k b1 b2 pc : Nat) (L : List (Option Value)) (st : List Value) (S : xS) (H : xH) (Q : xR → Prop) : Prop := ∃ R, Q R ∧ Ex M k b1 b2 pc L st S H R
def Vq (M : xM) (k b1 b2 : Nat) (args : List Value) (S : xS) (H : xH) (Q : xR → Prop) : Prop := ∃ R, Q R ∧ Ev M k b1 b2 args S H R
theorem Xq.to {M : xM} {k b1 b2 pc : Nat} {L : List (Option Value)} {st : List Value} {S : xS} {H : xH} {Q Q' : xR → Prop} (h : Xq M k b1 b2 pc L st S H Q) (hq : ∀ R, Q R → Q' R) : Xq M k b1 b2 pc L st S H Q' := by obtain ⟨R, q, e⟩ := h; exact ⟨R, hq R q, e⟩
theorem Vq.to {M : xM} {k b1 b2 : Nat} {args : List Value} {S : xS} {H : xH} {Q Q' : xR → Prop} (h : Vq M k b1 b2 args S H Q) (hq : ∀ R, Q R → Q' R) : Vq M k b1 b2 args S H Q' := by obtain ⟨R, q, e⟩ := h; exact ⟨R, hq R q, e⟩
def bI (b : Bool) : Int32 := if b then 1 else 0
theorem bI_t : bI true = 1 := rfl
theorem bI_f : bI false = 0 := rfl
theorem bI_01 (b : Bool) : bI b = 0 ∨ bI b = 1 := by cases b <;> simp [bI]
def zI (z : Int) : Int32 := Int32.ofInt z
section XQ
variable {M M' : xM} {k k' b1 b2 c1 c2 pc n i a : Nat} {L : List (Option Value)} {st : List Value} {S S1 : xS} {H H1 : xH} {Q : xR → Prop}
variable {C : String} {T : u_T} {N ci k0 : Nat} {ty : Nat → FieldType}

theorem xq_iconst {n : Int} {v : Int32} (d : decode (mC M) pc = .ok (.iconst n, 1)) (hv : Int32.ofInt n = v) (kk : Xq M k b1 b2 (pc + 1) L (.int v :: st) S H Q) : Xq M k b1 b2 pc L (st) S H Q := by
  obtain ⟨R, q, e⟩ := kk
  exact ⟨R, q, ex_iconst d hv e⟩
theorem xq_bipush {n : Int} {v : Int32} (d : decode (mC M) pc = .ok (.bipush n, 2)) (hv : (Int8.ofInt n).toInt32 = v) (kk : Xq M k b1 b2 (pc + 2) L (.int v :: st) S H Q) : Xq M k b1 b2 pc L (st) S H Q := by
  obtain ⟨R, q, e⟩ := kk
  exact ⟨R, q, ex_bipush d hv e⟩
theorem xq_sipush {n : Int} {v : Int32} (d : decode (mC M) pc = .ok (.sipush n, 3)) (hv : (Int16.ofInt n).toInt32 = v) (kk : Xq M k b1 b2 (pc + 3) L (.int v :: st) S H Q) : Xq M k b1 b2 pc L (st) S H Q := by
  obtain ⟨R, q, e⟩ := kk
  exact ⟨R, q, ex_sipush d hv e⟩
theorem xq_lconst {n : Fin 2} {v : Int64} (d : decode (mC M) pc = .ok (.lconst n, 1)) (hv : Int64.ofNat (n : Nat) = v) (kk : Xq M k b1 b2 (pc + 1) L (.long v :: st) S H Q) : Xq M k b1 b2 pc L (st) S H Q := by
  obtain ⟨R, q, e⟩ := kk
  exact ⟨R, q, ex_lconst d hv e⟩
theorem xq_ldc {i : Nat} {v : Int32} (d : decode (mC M) pc = .ok (.ldc i, 2)) (hw : Cond.constant (mY M).cls i v ∈ lw_g) (kk : Xq M k b1 b2 (pc + 2) L (.int v :: st) S H Q) : Xq M k b1 b2 pc L (st) S H Q := by
  obtain ⟨R, q, e⟩ := kk
  exact ⟨R, q, ex_ldc d hw e⟩
theorem xq_ldcw {i : Nat} {v : Int32} (d : decode (mC M) pc = .ok (.ldc_w i, 3)) (hw : Cond.constant (mY M).cls i v ∈ lw_g) (kk : Xq M k b1 b2 (pc + 3) L (.int v :: st) S H Q) : Xq M k b1 b2 pc L (st) S H Q := by
  obtain ⟨R, q, e⟩ := kk
  exact ⟨R, q, ex_ldcw d hw e⟩
theorem xq_ldc2 {i : Nat} {v : Int64} (d : decode (mC M) pc = .ok (.ldc2_w i, 3)) (hw : Cond.constantLong (mY M).cls i v ∈ lw_g) (kk : Xq M k b1 b2 (pc + 3) L (.long v :: st) S H Q) : Xq M k b1 b2 pc L (st) S H Q := by
  obtain ⟨R, q, e⟩ := kk
  exact ⟨R, q, ex_ldc2 d hw e⟩
theorem xq_iadd {x y : Int32} (d : decode (mC M) pc = .ok (.iadd, 1)) (kk : Xq M k b1 b2 (pc + 1) L (.int (x + y) :: st) S H Q) : Xq M k b1 b2 pc L (.int y :: .int x :: st) S H Q := by
  obtain ⟨R, q, e⟩ := kk
  exact ⟨R, q, ex_iadd d e⟩
theorem xq_isub {x y : Int32} (d : decode (mC M) pc = .ok (.isub, 1)) (kk : Xq M k b1 b2 (pc + 1) L (.int (x - y) :: st) S H Q) : Xq M k b1 b2 pc L (.int y :: .int x :: st) S H Q := by
  obtain ⟨R, q, e⟩ := kk
  exact ⟨R, q, ex_isub d e⟩
theorem xq_imul {x y : Int32} (d : decode (mC M) pc = .ok (.imul, 1)) (kk : Xq M k b1 b2 (pc + 1) L (.int (x * y) :: st) S H Q) : Xq M k b1 b2 pc L (.int y :: .int x :: st) S H Q := by
  obtain ⟨R, q, e⟩ := kk
  exact ⟨R, q, ex_imul d e⟩
theorem xq_iand {x y : Int32} (d : decode (mC M) pc = .ok (.iand, 1)) (kk : Xq M k b1 b2 (pc + 1) L (.int (x &&& y) :: st) S H Q) : Xq M k b1 b2 pc L (.int y :: .int x :: st) S H Q := by
  obtain ⟨R, q, e⟩ := kk
  exact ⟨R, q, ex_iand d e⟩
theorem xq_ior {x y : Int32} (d : decode (mC M) pc = .ok (.ior, 1)) (kk : Xq M k b1 b2 (pc + 1) L (.int (x ||| y) :: st) S H Q) : Xq M k b1 b2 pc L (.int y :: .int x :: st) S H Q := by
  obtain ⟨R, q, e⟩ := kk
  exact ⟨R, q, ex_ior d e⟩
theorem xq_ixor {x y : Int32} (d : decode (mC M) pc = .ok (.ixor, 1)) (kk : Xq M k b1 b2 (pc + 1) L (.int (x ^^^ y) :: st) S H Q) : Xq M k b1 b2 pc L (.int y :: .int x :: st) S H Q := by
  obtain ⟨R, q, e⟩ := kk
  exact ⟨R, q, ex_ixor d e⟩
theorem xq_ishl {x y : Int32} (d : decode (mC M) pc = .ok (.ishl, 1)) (kk : Xq M k b1 b2 (pc + 1) L (.int (x <<< (y &&& 31)) :: st) S H Q) : Xq M k b1 b2 pc L (.int y :: .int x :: st) S H Q := by
  obtain ⟨R, q, e⟩ := kk
  exact ⟨R, q, ex_ishl d e⟩
theorem xq_ishr {x y : Int32} (d : decode (mC M) pc = .ok (.ishr, 1)) (kk : Xq M k b1 b2 (pc + 1) L (.int (x >>> (y &&& 31)) :: st) S H Q) : Xq M k b1 b2 pc L (.int y :: .int x :: st) S H Q := by
  obtain ⟨R, q, e⟩ := kk
  exact ⟨R, q, ex_ishr d e⟩
theorem xq_iushr {x y : Int32} (d : decode (mC M) pc = .ok (.iushr, 1)) (kk : Xq M k b1 b2 (pc + 1) L (.int (x.toUInt32 >>> (y.toUInt32 &&& Int32.toUInt32 31)).toInt32 :: st) S H Q) : Xq M k b1 b2 pc L (.int y :: .int x :: st) S H Q := by
  obtain ⟨R, q, e⟩ := kk
  exact ⟨R, q, ex_iushr d e⟩
theorem xq_idiv {x y : Int32} (d : decode (mC M) pc = .ok (.idiv, 1)) (h : ¬ y = 0) (kk : Xq M k b1 b2 (pc + 1) L (.int (x / y) :: st) S H Q) : Xq M k b1 b2 pc L (.int y :: .int x :: st) S H Q := by
  obtain ⟨R, q, e⟩ := kk
  exact ⟨R, q, ex_idiv d h e⟩
theorem xq_irem {x y : Int32} (d : decode (mC M) pc = .ok (.irem, 1)) (h : ¬ y = 0) (kk : Xq M k b1 b2 (pc + 1) L (.int (x - x / y * y) :: st) S H Q) : Xq M k b1 b2 pc L (.int y :: .int x :: st) S H Q := by
  obtain ⟨R, q, e⟩ := kk
  exact ⟨R, q, ex_irem d h e⟩
theorem xq_ladd {x y : Int64} (d : decode (mC M) pc = .ok (.ladd, 1)) (kk : Xq M k b1 b2 (pc + 1) L (.long (x + y) :: st) S H Q) : Xq M k b1 b2 pc L (.long y :: .long x :: st) S H Q := by
  obtain ⟨R, q, e⟩ := kk
  exact ⟨R, q, ex_ladd d e⟩
theorem xq_lsub {x y : Int64} (d : decode (mC M) pc = .ok (.lsub, 1)) (kk : Xq M k b1 b2 (pc + 1) L (.long (x - y) :: st) S H Q) : Xq M k b1 b2 pc L (.long y :: .long x :: st) S H Q := by
  obtain ⟨R, q, e⟩ := kk
  exact ⟨R, q, ex_lsub d e⟩
theorem xq_lmul {x y : Int64} (d : decode (mC M) pc = .ok (.lmul, 1)) (kk : Xq M k b1 b2 (pc + 1) L (.long (x * y) :: st) S H Q) : Xq M k b1 b2 pc L (.long y :: .long x :: st) S H Q := by
  obtain ⟨R, q, e⟩ := kk
  exact ⟨R, q, ex_lmul d e⟩
theorem xq_land {x y : Int64} (d : decode (mC M) pc = .ok (.land, 1)) (kk : Xq M k b1 b2 (pc + 1) L (.long (x &&& y) :: st) S H Q) : Xq M k b1 b2 pc L (.long y :: .long x :: st) S H Q := by
  obtain ⟨R, q, e⟩ := kk
  exact ⟨R, q, ex_land d e⟩
theorem xq_lor {x y : Int64} (d : decode (mC M) pc = .ok (.lor, 1)) (kk : Xq M k b1 b2 (pc + 1) L (.long (x ||| y) :: st) S H Q) : Xq M k b1 b2 pc L (.long y :: .long x :: st) S H Q := by
  obtain ⟨R, q, e⟩ := kk
  exact ⟨R, q, ex_lor d e⟩
theorem xq_lxor {x y : Int64} (d : decode (mC M) pc = .ok (.lxor, 1)) (kk : Xq M k b1 b2 (pc + 1) L (.long (x ^^^ y) :: st) S H Q) : Xq M k b1 b2 pc L (.long y :: .long x :: st) S H Q := by
  obtain ⟨R, q, e⟩ := kk
  exact ⟨R, q, ex_lxor d e⟩
theorem xq_ldiv {x y : Int64} (d : decode (mC M) pc = .ok (.ldiv, 1)) (h : ¬ y = 0) (kk : Xq M k b1 b2 (pc + 1) L (.long (x / y) :: st) S H Q) : Xq M k b1 b2 pc L (.long y :: .long x :: st) S H Q := by
  obtain ⟨R, q, e⟩ := kk
  exact ⟨R, q, ex_ldiv d h e⟩
theorem xq_lneg {x : Int64} (d : decode (mC M) pc = .ok (.lneg, 1)) (kk : Xq M k b1 b2 (pc + 1) L (.long (-x) :: st) S H Q) : Xq M k b1 b2 pc L (.long x :: st) S H Q := by
  obtain ⟨R, q, e⟩ := kk
  exact ⟨R, q, ex_lneg d e⟩
theorem xq_lushr {x : Int64} {y : Int32} (d : decode (mC M) pc = .ok (.lushr, 1)) (kk : Xq M k b1 b2 (pc + 1) L (.long (x.toUInt64 >>> (y.toInt64.toUInt64 &&& Int64.toUInt64 63)).toInt64 :: st) S H Q) : Xq M k b1 b2 pc L (.int y :: .long x :: st) S H Q := by
  obtain ⟨R, q, e⟩ := kk
  exact ⟨R, q, ex_lushr d e⟩
theorem xq_lshl {x : Int64} {y : Int32} (d : decode (mC M) pc = .ok (.lshl, 1)) (kk : Xq M k b1 b2 (pc + 1) L (.long (x <<< (y.toInt64 &&& 63)) :: st) S H Q) : Xq M k b1 b2 pc L (.int y :: .long x :: st) S H Q := by
  obtain ⟨R, q, e⟩ := kk
  exact ⟨R, q, ex_lshl d e⟩
theorem xq_lcmp {x y : Int64} (d : decode (mC M) pc = .ok (.lcmp, 1)) (kk : Xq M k b1 b2 (pc + 1) L (.int (lg_cmp x y) :: st) S H Q) : Xq M k b1 b2 pc L (.long y :: .long x :: st) S H Q := by
  obtain ⟨R, q, e⟩ := kk
  exact ⟨R, q, ex_lcmp d e⟩
theorem xq_i2l {x : Int32} (d : decode (mC M) pc = .ok (.i2l, 1)) (kk : Xq M k b1 b2 (pc + 1) L (.long x.toInt64 :: st) S H Q) : Xq M k b1 b2 pc L (.int x :: st) S H Q := by
  obtain ⟨R, q, e⟩ := kk
  exact ⟨R, q, ex_i2l d e⟩
theorem xq_l2i {x : Int64} (d : decode (mC M) pc = .ok (.l2i, 1)) (kk : Xq M k b1 b2 (pc + 1) L (.int x.toInt32 :: st) S H Q) : Xq M k b1 b2 pc L (.long x :: st) S H Q := by
  obtain ⟨R, q, e⟩ := kk
  exact ⟨R, q, ex_l2i d e⟩
theorem xq_i2b {x : Int32} (d : decode (mC M) pc = .ok (.i2b, 1)) (kk : Xq M k b1 b2 (pc + 1) L (.int x.toInt8.toInt32 :: st) S H Q) : Xq M k b1 b2 pc L (.int x :: st) S H Q := by
  obtain ⟨R, q, e⟩ := kk
  exact ⟨R, q, ex_i2b d e⟩
theorem xq_i2c {x : Int32} (d : decode (mC M) pc = .ok (.i2c, 1)) (kk : Xq M k b1 b2 (pc + 1) L (.int (x.toUInt32 % 65536).toInt32 :: st) S H Q) : Xq M k b1 b2 pc L (.int x :: st) S H Q := by
  obtain ⟨R, q, e⟩ := kk
  exact ⟨R, q, ex_i2c d e⟩
theorem xq_dup {v : Value} (d : decode (mC M) pc = .ok (.dup, 1)) (hv : v.category = 1) (kk : Xq M k b1 b2 (pc + 1) L (v :: v :: st) S H Q) : Xq M k b1 b2 pc L (v :: st) S H Q := by
  obtain ⟨R, q, e⟩ := kk
  exact ⟨R, q, ex_dup d hv e⟩
theorem xq_pop {v : Value} (d : decode (mC M) pc = .ok (.pop, 1)) (hv : v.category = 1) (kk : Xq M k b1 b2 (pc + 1) L (st) S H Q) : Xq M k b1 b2 pc L (v :: st) S H Q := by
  obtain ⟨R, q, e⟩ := kk
  exact ⟨R, q, ex_pop d hv e⟩
theorem xq_dup2 {v w : Value} (d : decode (mC M) pc = .ok (.dup2, 1)) (hv : v.category = 1) (hw : w.category = 1) (kk : Xq M k b1 b2 (pc + 1) L (v :: w :: v :: w :: st) S H Q) : Xq M k b1 b2 pc L (v :: w :: st) S H Q := by
  obtain ⟨R, q, e⟩ := kk
  exact ⟨R, q, ex_dup2 d hv hw e⟩
theorem xq_dup2L {v : Value} (d : decode (mC M) pc = .ok (.dup2, 1)) (hv : v.category = 2) (kk : Xq M k b1 b2 (pc + 1) L (v :: v :: st) S H Q) : Xq M k b1 b2 pc L (v :: st) S H Q := by
  obtain ⟨R, q, e⟩ := kk
  exact ⟨R, q, ex_dup2L d hv e⟩
theorem xq_iload_n {j : Fin 4} {i : Nat} {x : Int32} (d : decode (mC M) pc = .ok (.iload_n j, 1)) (hi : (j : Nat) = i) (h : L[i]? = some (some (.int x))) (kk : Xq M k b1 b2 (pc + 1) L (.int x :: st) S H Q) : Xq M k b1 b2 pc L (st) S H Q := by
  obtain ⟨R, q, e⟩ := kk
  exact ⟨R, q, ex_iload_n d hi h e⟩
theorem xq_iload {i : Nat} {x : Int32} (d : decode (mC M) pc = .ok (.iload i, 2)) (h : L[i]? = some (some (.int x))) (kk : Xq M k b1 b2 (pc + 2) L (.int x :: st) S H Q) : Xq M k b1 b2 pc L (st) S H Q := by
  obtain ⟨R, q, e⟩ := kk
  exact ⟨R, q, ex_iload d h e⟩
theorem xq_lload_n {j : Fin 4} {i : Nat} {x : Int64} (d : decode (mC M) pc = .ok (.lload_n j, 1)) (hi : (j : Nat) = i) (h : L[i]? = some (some (.long x))) (kk : Xq M k b1 b2 (pc + 1) L (.long x :: st) S H Q) : Xq M k b1 b2 pc L (st) S H Q := by
  obtain ⟨R, q, e⟩ := kk
  exact ⟨R, q, ex_lload_n d hi h e⟩
theorem xq_lload {i : Nat} {x : Int64} (d : decode (mC M) pc = .ok (.lload i, 2)) (h : L[i]? = some (some (.long x))) (kk : Xq M k b1 b2 (pc + 2) L (.long x :: st) S H Q) : Xq M k b1 b2 pc L (st) S H Q := by
  obtain ⟨R, q, e⟩ := kk
  exact ⟨R, q, ex_lload d h e⟩
theorem xq_aload_n {j : Fin 4} {i : Nat} {x : Nat} (d : decode (mC M) pc = .ok (.aload_n j, 1)) (hi : (j : Nat) = i) (h : L[i]? = some (some (.ref x))) (kk : Xq M k b1 b2 (pc + 1) L (.ref x :: st) S H Q) : Xq M k b1 b2 pc L (st) S H Q := by
  obtain ⟨R, q, e⟩ := kk
  exact ⟨R, q, ex_aload_n d hi h e⟩
theorem xq_aload {i : Nat} {x : Nat} (d : decode (mC M) pc = .ok (.aload i, 2)) (h : L[i]? = some (some (.ref x))) (kk : Xq M k b1 b2 (pc + 2) L (.ref x :: st) S H Q) : Xq M k b1 b2 pc L (st) S H Q := by
  obtain ⟨R, q, e⟩ := kk
  exact ⟨R, q, ex_aload d h e⟩
theorem xq_sload_n {j : Fin 4} {i : Nat} {f : UInt32} (d : decode (mC M) pc = .ok (.aload_n j, 1)) (hi : (j : Nat) = i) (h : L[i]? = some (some (.float f))) (kk : Xq M k b1 b2 (pc + 1) L (.float f :: st) S H Q) : Xq M k b1 b2 pc L (st) S H Q := by
  obtain ⟨R, q, e⟩ := kk
  exact ⟨R, q, ex_sload_n d hi h e⟩
theorem xq_istore_n {j : Fin 4} {i : Nat} {x : Int32} (d : decode (mC M) pc = .ok (.istore_n j, 1)) (hi : (j : Nat) = i) (hf : xFits L i (mN M) = true) (kk : Xq M k b1 b2 (pc + 1) (L.set i (some (.int x))) st S H Q) : Xq M k b1 b2 pc L (.int x :: st) S H Q := by
  obtain ⟨R, q, e⟩ := kk
  exact ⟨R, q, ex_istore_n d hi hf e⟩
theorem xq_istore {i : Nat} {x : Int32} (d : decode (mC M) pc = .ok (.istore i, 2)) (hf : xFits L i (mN M) = true) (kk : Xq M k b1 b2 (pc + 2) (L.set i (some (.int x))) st S H Q) : Xq M k b1 b2 pc L (.int x :: st) S H Q := by
  obtain ⟨R, q, e⟩ := kk
  exact ⟨R, q, ex_istore d hf e⟩
theorem xq_lstore_n {j : Fin 4} {i : Nat} {x : Int64} (d : decode (mC M) pc = .ok (.lstore_n j, 1)) (hi : (j : Nat) = i) (hf : xFits L (i + 1) (mN M) = true) (hg : xPrev L i = true) (kk : Xq M k b1 b2 (pc + 1) ((L.set i (some (.long x))).set (i + 1) none) st S H Q) : Xq M k b1 b2 pc L (.long x :: st) S H Q := by
  obtain ⟨R, q, e⟩ := kk
  exact ⟨R, q, ex_lstore_n d hi hf hg e⟩
theorem xq_lstore {i : Nat} {x : Int64} (d : decode (mC M) pc = .ok (.lstore i, 2)) (hf : xFits L (i + 1) (mN M) = true) (hg : xPrev L i = true) (kk : Xq M k b1 b2 (pc + 2) ((L.set i (some (.long x))).set (i + 1) none) st S H Q) : Xq M k b1 b2 pc L (.long x :: st) S H Q := by
  obtain ⟨R, q, e⟩ := kk
  exact ⟨R, q, ex_lstore d hf hg e⟩
theorem xq_astore_n {j : Fin 4} {i : Nat} {x : Nat} (d : decode (mC M) pc = .ok (.astore_n j, 1)) (hi : (j : Nat) = i) (hf : xFits L i (mN M) = true) (kk : Xq M k b1 b2 (pc + 1) (L.set i (some (.ref x))) st S H Q) : Xq M k b1 b2 pc L (.ref x :: st) S H Q := by
  obtain ⟨R, q, e⟩ := kk
  exact ⟨R, q, ex_astore_n d hi hf e⟩
theorem xq_astore {i : Nat} {x : Nat} (d : decode (mC M) pc = .ok (.astore i, 2)) (hf : xFits L i (mN M) = true) (kk : Xq M k b1 b2 (pc + 2) (L.set i (some (.ref x))) st S H Q) : Xq M k b1 b2 pc L (.ref x :: st) S H Q := by
  obtain ⟨R, q, e⟩ := kk
  exact ⟨R, q, ex_astore d hf e⟩
theorem xq_iinc {i : Nat} {n : Int} {x v : Int32} (d : decode (mC M) pc = .ok (.iinc i n, 3)) (hv : Int32.ofInt n = v) (h : L[i]? = some (some (.int x))) (hf : xFits L i (mN M) = true) (kk : Xq M k b1 b2 (pc + 3) (L.set i (some (.int (x + v)))) st S H Q) : Xq M k b1 b2 pc L st S H Q := by
  obtain ⟨R, q, e⟩ := kk
  exact ⟨R, q, ex_iinc d hv h hf e⟩
theorem xq_if_eq {x : Int32} {off : Int} {tgt : Nat} (d : decode (mC M) pc = .ok (.ifCond .eq off, 3)) (ht : (pc : Int) + off = (tgt : Int)) (kk : (x = 0 → Xq M k b1 b2 tgt L st S H Q) ∧ (¬ x = 0 → Xq M k b1 b2 (pc + 3) L st S H Q)) : Xq M k b1 b2 pc L (.int x :: st) S H Q := by
  by_cases hc : x = 0
  · obtain ⟨R, q, e⟩ := kk.1 hc
    exact ⟨R, q, ex_if_eq d ht ⟨fun _ => e, fun h => absurd hc h⟩⟩
  · obtain ⟨R, q, e⟩ := kk.2 hc
    exact ⟨R, q, ex_if_eq d ht ⟨fun h => absurd h hc, fun _ => e⟩⟩
theorem xq_icmp_eq {x y : Int32} {off : Int} {tgt : Nat} (d : decode (mC M) pc = .ok (.if_icmp .eq off, 3)) (ht : (pc : Int) + off = (tgt : Int)) (kk : (x = y → Xq M k b1 b2 tgt L st S H Q) ∧ (¬ x = y → Xq M k b1 b2 (pc + 3) L st S H Q)) : Xq M k b1 b2 pc L (.int y :: .int x :: st) S H Q := by
  by_cases hc : x = y
  · obtain ⟨R, q, e⟩ := kk.1 hc
    exact ⟨R, q, ex_icmp_eq d ht ⟨fun _ => e, fun h => absurd hc h⟩⟩
  · obtain ⟨R, q, e⟩ := kk.2 hc
    exact ⟨R, q, ex_icmp_eq d ht ⟨fun h => absurd h hc, fun _ => e⟩⟩
theorem xq_if_ne {x : Int32} {off : Int} {tgt : Nat} (d : decode (mC M) pc = .ok (.ifCond .ne off, 3)) (ht : (pc : Int) + off = (tgt : Int)) (kk : (¬ x = 0 → Xq M k b1 b2 tgt L st S H Q) ∧ (x = 0 → Xq M k b1 b2 (pc + 3) L st S H Q)) : Xq M k b1 b2 pc L (.int x :: st) S H Q := by
  by_cases hc : x = 0
  · obtain ⟨R, q, e⟩ := kk.2 hc
    exact ⟨R, q, ex_if_ne d ht ⟨fun h => absurd hc h, fun _ => e⟩⟩
  · obtain ⟨R, q, e⟩ := kk.1 hc
    exact ⟨R, q, ex_if_ne d ht ⟨fun _ => e, fun h => absurd h hc⟩⟩
theorem xq_icmp_ne {x y : Int32} {off : Int} {tgt : Nat} (d : decode (mC M) pc = .ok (.if_icmp .ne off, 3)) (ht : (pc : Int) + off = (tgt : Int)) (kk : (¬ x = y → Xq M k b1 b2 tgt L st S H Q) ∧ (x = y → Xq M k b1 b2 (pc + 3) L st S H Q)) : Xq M k b1 b2 pc L (.int y :: .int x :: st) S H Q := by
  by_cases hc : x = y
  · obtain ⟨R, q, e⟩ := kk.2 hc
    exact ⟨R, q, ex_icmp_ne d ht ⟨fun h => absurd hc h, fun _ => e⟩⟩
  · obtain ⟨R, q, e⟩ := kk.1 hc
    exact ⟨R, q, ex_icmp_ne d ht ⟨fun _ => e, fun h => absurd h hc⟩⟩
theorem xq_if_lt {x : Int32} {off : Int} {tgt : Nat} (d : decode (mC M) pc = .ok (.ifCond .lt off, 3)) (ht : (pc : Int) + off = (tgt : Int)) (kk : (x < 0 → Xq M k b1 b2 tgt L st S H Q) ∧ (¬ x < 0 → Xq M k b1 b2 (pc + 3) L st S H Q)) : Xq M k b1 b2 pc L (.int x :: st) S H Q := by
  by_cases hc : x < 0
  · obtain ⟨R, q, e⟩ := kk.1 hc
    exact ⟨R, q, ex_if_lt d ht ⟨fun _ => e, fun h => absurd hc h⟩⟩
  · obtain ⟨R, q, e⟩ := kk.2 hc
    exact ⟨R, q, ex_if_lt d ht ⟨fun h => absurd h hc, fun _ => e⟩⟩
theorem xq_icmp_lt {x y : Int32} {off : Int} {tgt : Nat} (d : decode (mC M) pc = .ok (.if_icmp .lt off, 3)) (ht : (pc : Int) + off = (tgt : Int)) (kk : (x < y → Xq M k b1 b2 tgt L st S H Q) ∧ (¬ x < y → Xq M k b1 b2 (pc + 3) L st S H Q)) : Xq M k b1 b2 pc L (.int y :: .int x :: st) S H Q := by
  by_cases hc : x < y
  · obtain ⟨R, q, e⟩ := kk.1 hc
    exact ⟨R, q, ex_icmp_lt d ht ⟨fun _ => e, fun h => absurd hc h⟩⟩
  · obtain ⟨R, q, e⟩ := kk.2 hc
    exact ⟨R, q, ex_icmp_lt d ht ⟨fun h => absurd h hc, fun _ => e⟩⟩
theorem xq_if_ge {x : Int32} {off : Int} {tgt : Nat} (d : decode (mC M) pc = .ok (.ifCond .ge off, 3)) (ht : (pc : Int) + off = (tgt : Int)) (kk : (0 ≤ x → Xq M k b1 b2 tgt L st S H Q) ∧ (¬ 0 ≤ x → Xq M k b1 b2 (pc + 3) L st S H Q)) : Xq M k b1 b2 pc L (.int x :: st) S H Q := by
  by_cases hc : 0 ≤ x
  · obtain ⟨R, q, e⟩ := kk.1 hc
    exact ⟨R, q, ex_if_ge d ht ⟨fun _ => e, fun h => absurd hc h⟩⟩
  · obtain ⟨R, q, e⟩ := kk.2 hc
    exact ⟨R, q, ex_if_ge d ht ⟨fun h => absurd h hc, fun _ => e⟩⟩
theorem xq_icmp_ge {x y : Int32} {off : Int} {tgt : Nat} (d : decode (mC M) pc = .ok (.if_icmp .ge off, 3)) (ht : (pc : Int) + off = (tgt : Int)) (kk : (y ≤ x → Xq M k b1 b2 tgt L st S H Q) ∧ (¬ y ≤ x → Xq M k b1 b2 (pc + 3) L st S H Q)) : Xq M k b1 b2 pc L (.int y :: .int x :: st) S H Q := by
  by_cases hc : y ≤ x
  · obtain ⟨R, q, e⟩ := kk.1 hc
    exact ⟨R, q, ex_icmp_ge d ht ⟨fun _ => e, fun h => absurd hc h⟩⟩
  · obtain ⟨R, q, e⟩ := kk.2 hc
    exact ⟨R, q, ex_icmp_ge d ht ⟨fun h => absurd h hc, fun _ => e⟩⟩
theorem xq_if_gt {x : Int32} {off : Int} {tgt : Nat} (d : decode (mC M) pc = .ok (.ifCond .gt off, 3)) (ht : (pc : Int) + off = (tgt : Int)) (kk : (0 < x → Xq M k b1 b2 tgt L st S H Q) ∧ (¬ 0 < x → Xq M k b1 b2 (pc + 3) L st S H Q)) : Xq M k b1 b2 pc L (.int x :: st) S H Q := by
  by_cases hc : 0 < x
  · obtain ⟨R, q, e⟩ := kk.1 hc
    exact ⟨R, q, ex_if_gt d ht ⟨fun _ => e, fun h => absurd hc h⟩⟩
  · obtain ⟨R, q, e⟩ := kk.2 hc
    exact ⟨R, q, ex_if_gt d ht ⟨fun h => absurd h hc, fun _ => e⟩⟩
theorem xq_icmp_gt {x y : Int32} {off : Int} {tgt : Nat} (d : decode (mC M) pc = .ok (.if_icmp .gt off, 3)) (ht : (pc : Int) + off = (tgt : Int)) (kk : (y < x → Xq M k b1 b2 tgt L st S H Q) ∧ (¬ y < x → Xq M k b1 b2 (pc + 3) L st S H Q)) : Xq M k b1 b2 pc L (.int y :: .int x :: st) S H Q := by
  by_cases hc : y < x
  · obtain ⟨R, q, e⟩ := kk.1 hc
    exact ⟨R, q, ex_icmp_gt d ht ⟨fun _ => e, fun h => absurd hc h⟩⟩
  · obtain ⟨R, q, e⟩ := kk.2 hc
    exact ⟨R, q, ex_icmp_gt d ht ⟨fun h => absurd h hc, fun _ => e⟩⟩
theorem xq_if_le {x : Int32} {off : Int} {tgt : Nat} (d : decode (mC M) pc = .ok (.ifCond .le off, 3)) (ht : (pc : Int) + off = (tgt : Int)) (kk : (x ≤ 0 → Xq M k b1 b2 tgt L st S H Q) ∧ (¬ x ≤ 0 → Xq M k b1 b2 (pc + 3) L st S H Q)) : Xq M k b1 b2 pc L (.int x :: st) S H Q := by
  by_cases hc : x ≤ 0
  · obtain ⟨R, q, e⟩ := kk.1 hc
    exact ⟨R, q, ex_if_le d ht ⟨fun _ => e, fun h => absurd hc h⟩⟩
  · obtain ⟨R, q, e⟩ := kk.2 hc
    exact ⟨R, q, ex_if_le d ht ⟨fun h => absurd h hc, fun _ => e⟩⟩
theorem xq_icmp_le {x y : Int32} {off : Int} {tgt : Nat} (d : decode (mC M) pc = .ok (.if_icmp .le off, 3)) (ht : (pc : Int) + off = (tgt : Int)) (kk : (x ≤ y → Xq M k b1 b2 tgt L st S H Q) ∧ (¬ x ≤ y → Xq M k b1 b2 (pc + 3) L st S H Q)) : Xq M k b1 b2 pc L (.int y :: .int x :: st) S H Q := by
  by_cases hc : x ≤ y
  · obtain ⟨R, q, e⟩ := kk.1 hc
    exact ⟨R, q, ex_icmp_le d ht ⟨fun _ => e, fun h => absurd hc h⟩⟩
  · obtain ⟨R, q, e⟩ := kk.2 hc
    exact ⟨R, q, ex_icmp_le d ht ⟨fun h => absurd h hc, fun _ => e⟩⟩
theorem xq_goto {off : Int} {tgt : Nat} (d : decode (mC M) pc = .ok (.goto off, 3)) (ht : (pc : Int) + off = (tgt : Int)) (kk : Xq M k b1 b2 tgt L st S H Q) : Xq M k b1 b2 pc L st S H Q := by
  obtain ⟨R, q, e⟩ := kk
  exact ⟨R, q, ex_goto d ht e⟩
theorem xq_forget {L' : List (Option Value)} (hl : ∀ (i : Nat) (v : Value), L'[i]? = some (some v) → L[i]? = some (some v)) (kk : Xq M k b1 b2 pc L' st S H Q) : Xq M k b1 b2 pc L st S H Q := by
  obtain ⟨R, q, e⟩ := kk
  exact ⟨R, q, ex_forget hl e⟩
theorem xq_tableIn {dflt lo hi : Int} {offs : Array Int} {len : Nat} {x : Int32} {off : Int} {tgt : Nat} (d : decode (mC M) pc = .ok (.tableswitch dflt lo hi offs, len)) (h1 : ¬ x.toInt < lo) (h2 : ¬ hi < x.toInt) (ho : offs[(x.toInt - lo).toNat]? = some off) (ht : (pc : Int) + off = (tgt : Int)) (kk : Xq M k b1 b2 tgt L st S H Q) : Xq M k b1 b2 pc L (.int x :: st) S H Q := by
  obtain ⟨R, q, e⟩ := kk
  exact ⟨R, q, ex_tableIn d h1 h2 ho ht e⟩
theorem xq_tableOut {dflt lo hi : Int} {offs : Array Int} {len : Nat} {x : Int32} {tgt : Nat} (d : decode (mC M) pc = .ok (.tableswitch dflt lo hi offs, len)) (h : x.toInt < lo ∨ hi < x.toInt) (ht : (pc : Int) + dflt = (tgt : Int)) (kk : Xq M k b1 b2 tgt L st S H Q) : Xq M k b1 b2 pc L (.int x :: st) S H Q := by
  obtain ⟨R, q, e⟩ := kk
  exact ⟨R, q, ex_tableOut d h ht e⟩
theorem xq_lookup {dflt : Int} {ps : Array (Int × Int)} {len : Nat} {x : Int32} {off : Int} {tgt : Nat} (d : decode (mC M) pc = .ok (.lookupswitch dflt ps, len)) (hp : (ps.toList.zip (ps.toList.drop 1)).all (fun (a, next) => a.1 < next.1) = true) (ho : Op.lookupswitch.offset ps.toList dflt x.toInt = off) (ht : (pc : Int) + off = (tgt : Int)) (kk : Xq M k b1 b2 tgt L st S H Q) : Xq M k b1 b2 pc L (.int x :: st) S H Q := by
  obtain ⟨R, q, e⟩ := kk
  exact ⟨R, q, ex_lookup d hp ho ht e⟩
theorem xq_getI (cl : xCl ci C T N ty) (hk0 : k0 < N) (hf : fK ci k0 = 0) (hl : Cond.fieldLink (mY M).cls i C (T k0).2.1 (T k0).2.2.1 ∈ lw_g) (d : decode (mC M) pc = .ok (.getfield i, 3)) (hs : fS S a = (6, ci)) (kk : Xq M k b1 b2 (pc + 3) L (.int (hI H a k0) :: st) S H Q) : Xq M k b1 b2 pc L (.ref a :: st) S H Q := by
  obtain ⟨R, q, e⟩ := kk
  exact ⟨R, q, ex_getI cl hk0 hf hl d hs e⟩
theorem xq_getL (cl : xCl ci C T N ty) (hk0 : k0 < N) (hf : fK ci k0 = 1) (hl : Cond.fieldLink (mY M).cls i C (T k0).2.1 (T k0).2.2.1 ∈ lw_g) (d : decode (mC M) pc = .ok (.getfield i, 3)) (hs : fS S a = (6, ci)) (kk : Xq M k b1 b2 (pc + 3) L (.long (hL H a k0) :: st) S H Q) : Xq M k b1 b2 pc L (.ref a :: st) S H Q := by
  obtain ⟨R, q, e⟩ := kk
  exact ⟨R, q, ex_getL cl hk0 hf hl d hs e⟩
theorem xq_getR {r : Nat} (cl : xCl ci C T N ty) (hk0 : k0 < N) (hf : fK ci k0 = 2) (hl : Cond.fieldLink (mY M).cls i C (T k0).2.1 (T k0).2.2.1 ∈ lw_g) (d : decode (mC M) pc = .ok (.getfield i, 3)) (hs : fS S a = (6, ci)) (hr : hR H a k0 = some r) (kk : Xq M k b1 b2 (pc + 3) L (.ref r :: st) S H Q) : Xq M k b1 b2 pc L (.ref a :: st) S H Q := by
  obtain ⟨R, q, e⟩ := kk
  exact ⟨R, q, ex_getR cl hk0 hf hl d hs hr e⟩
theorem xq_getF {r : Nat} (cl : xCl ci C T N ty) (hk0 : k0 < N) (hf : fK ci k0 = 3) (hl : Cond.fieldLink (mY M).cls i C (T k0).2.1 (T k0).2.2.1 ∈ lw_g) (d : decode (mC M) pc = .ok (.getfield i, 3)) (hs : fS S a = (6, ci)) (hr : fR S a k0 = some r) (kk : Xq M k b1 b2 (pc + 3) L (.ref r :: st) S H Q) : Xq M k b1 b2 pc L (.ref a :: st) S H Q := by
  obtain ⟨R, q, e⟩ := kk
  exact ⟨R, q, ex_getF cl hk0 hf hl d hs hr e⟩
theorem xq_putI {x : Int32} (cl : xCl ci C T N ty) (hk0 : k0 < N) (hf : fK ci k0 = 0) (hl : Cond.fieldLink (mY M).cls i C (T k0).2.1 (T k0).2.2.1 ∈ lw_g) (hfin : (T k0).2.2.2 = false ∨ ((T k0).2.2.2 = true ∧ (mY M).cls = C ∧ (mY M).name = "<init>")) (d : decode (mC M) pc = .ok (.putfield i, 3)) (hn : narrow (ty k0) (.int x) = .int x ∧ fits (ty k0) (.int x) = true) (hs : fS S a = (6, ci)) (kk : Xq M k b1 b2 (pc + 3) L st S (sI H a k0 x) Q) : Xq M k b1 b2 pc L (.int x :: .ref a :: st) S H Q := by
  obtain ⟨R, q, e⟩ := kk
  exact ⟨R, q, ex_putI cl hk0 hf hl hfin d hn hs e⟩
theorem xq_putL {x : Int64} (cl : xCl ci C T N ty) (hk0 : k0 < N) (hf : fK ci k0 = 1) (hl : Cond.fieldLink (mY M).cls i C (T k0).2.1 (T k0).2.2.1 ∈ lw_g) (hfin : (T k0).2.2.2 = false ∨ ((T k0).2.2.2 = true ∧ (mY M).cls = C ∧ (mY M).name = "<init>")) (d : decode (mC M) pc = .ok (.putfield i, 3)) (hn : narrow (ty k0) (.long x) = .long x ∧ fits (ty k0) (.long x) = true) (hs : fS S a = (6, ci)) (kk : Xq M k b1 b2 (pc + 3) L st S (sL H a k0 x) Q) : Xq M k b1 b2 pc L (.long x :: .ref a :: st) S H Q := by
  obtain ⟨R, q, e⟩ := kk
  exact ⟨R, q, ex_putL cl hk0 hf hl hfin d hn hs e⟩
theorem xq_putR {x : Nat} (cl : xCl ci C T N ty) (hk0 : k0 < N) (hf : fK ci k0 = 2) (hl : Cond.fieldLink (mY M).cls i C (T k0).2.1 (T k0).2.2.1 ∈ lw_g) (hfin : (T k0).2.2.2 = false ∨ ((T k0).2.2.2 = true ∧ (mY M).cls = C ∧ (mY M).name = "<init>")) (d : decode (mC M) pc = .ok (.putfield i, 3)) (hn : ∀ z, narrow (ty k0) (.ref z) = .ref z ∧ fits (ty k0) (.ref z) = true) (hs : fS S a = (6, ci)) (kk : Xq M k b1 b2 (pc + 3) L st S (sR H a k0 (some x)) Q) : Xq M k b1 b2 pc L (.ref x :: .ref a :: st) S H Q := by
  obtain ⟨R, q, e⟩ := kk
  exact ⟨R, q, ex_putR cl hk0 hf hl hfin d hn hs e⟩
theorem xq_putF {x : Nat} (cl : xCl ci C T N ty) (hk0 : k0 < N) (hf : fK ci k0 = 3) (hl : Cond.fieldLink (mY M).cls i C (T k0).2.1 (T k0).2.2.1 ∈ lw_g) (hfin : (T k0).2.2.2 = false ∨ ((T k0).2.2.2 = true ∧ (mY M).cls = C ∧ (mY M).name = "<init>")) (d : decode (mC M) pc = .ok (.putfield i, 3)) (hn : ∀ z, narrow (ty k0) (.ref z) = .ref z ∧ fits (ty k0) (.ref z) = true) (hs : fS S a = (6, ci)) (kk : Xq M k b1 b2 (pc + 3) L st (sF S a k0 (some x)) H Q) : Xq M k b1 b2 pc L (.ref x :: .ref a :: st) S H Q := by
  obtain ⟨R, q, e⟩ := kk
  exact ⟨R, q, ex_putF cl hk0 hf hl hfin d hn hs e⟩
theorem xq_iald {i : Int32} (d : decode (mC M) pc = .ok (.iaload, 1)) (hs : fS S a = (1, n)) (hin : vp_in i n) (kk : Xq M k b1 b2 (pc + 1) L (.int (hI H a i.toNatClampNeg) :: st) S H Q) : Xq M k b1 b2 pc L (.int i :: .ref a :: st) S H Q := by
  obtain ⟨R, q, e⟩ := kk
  exact ⟨R, q, ex_iald d hs hin e⟩
theorem xq_bald {i : Int32} (d : decode (mC M) pc = .ok (.baload, 1)) (hs : fS S a = (2, n)) (hin : vp_in i n) (kk : Xq M k b1 b2 (pc + 1) L (.int (hI H a i.toNatClampNeg) :: st) S H Q) : Xq M k b1 b2 pc L (.int i :: .ref a :: st) S H Q := by
  obtain ⟨R, q, e⟩ := kk
  exact ⟨R, q, ex_bald d hs hin e⟩
theorem xq_zald {i : Int32} (d : decode (mC M) pc = .ok (.baload, 1)) (hs : fS S a = (3, n)) (hin : vp_in i n) (kk : Xq M k b1 b2 (pc + 1) L (.int (hI H a i.toNatClampNeg) :: st) S H Q) : Xq M k b1 b2 pc L (.int i :: .ref a :: st) S H Q := by
  obtain ⟨R, q, e⟩ := kk
  exact ⟨R, q, ex_zald d hs hin e⟩
theorem xq_lald {i : Int32} (d : decode (mC M) pc = .ok (.laload, 1)) (hs : fS S a = (4, n)) (hin : vp_in i n) (kk : Xq M k b1 b2 (pc + 1) L (.long (hL H a i.toNatClampNeg) :: st) S H Q) : Xq M k b1 b2 pc L (.int i :: .ref a :: st) S H Q := by
  obtain ⟨R, q, e⟩ := kk
  exact ⟨R, q, ex_lald d hs hin e⟩
theorem xq_aald {i : Int32} (d : decode (mC M) pc = .ok (.aaload, 1)) (hs : fS S a = (5, n)) (hin : vp_in i n) (kk : Xq M k b1 b2 (pc + 1) L (va_rf (hR H a i.toNatClampNeg) :: st) S H Q) : Xq M k b1 b2 pc L (.int i :: .ref a :: st) S H Q := by
  obtain ⟨R, q, e⟩ := kk
  exact ⟨R, q, ex_aald d hs hin e⟩
theorem xq_alen {v : Int32} (d : decode (mC M) pc = .ok (.arraylength, 1)) {t : Nat} (hs : fS S a = (t, n)) (ht : t = 1 ∨ t = 2 ∨ t = 3 ∨ t = 4 ∨ t = 5) (hv : Int32.ofNat n = v) (kk : Xq M k b1 b2 (pc + 1) L (.int v :: st) S H Q) : Xq M k b1 b2 pc L (.ref a :: st) S H Q := by
  obtain ⟨R, q, e⟩ := kk
  exact ⟨R, q, ex_alen d hs ht hv e⟩
theorem xq_iast {i : Int32} {x : Int32} (d : decode (mC M) pc = .ok (.iastore, 1)) (hs : fS S a = (1, n)) (hin : vp_in i n) (kk : Xq M k b1 b2 (pc + 1) L st S (sI H a i.toNatClampNeg x) Q) : Xq M k b1 b2 pc L (.int x :: .int i :: .ref a :: st) S H Q := by
  obtain ⟨R, q, e⟩ := kk
  exact ⟨R, q, ex_iast d hs hin e⟩
theorem xq_bast {i : Int32} {x : Int32} (d : decode (mC M) pc = .ok (.bastore, 1)) (hs : fS S a = (2, n)) (hin : vp_in i n) (kk : Xq M k b1 b2 (pc + 1) L st S (sI H a i.toNatClampNeg x.toInt8.toInt32) Q) : Xq M k b1 b2 pc L (.int x :: .int i :: .ref a :: st) S H Q := by
  obtain ⟨R, q, e⟩ := kk
  exact ⟨R, q, ex_bast d hs hin e⟩
theorem xq_zast {i : Int32} {x : Int32} (d : decode (mC M) pc = .ok (.bastore, 1)) (hs : fS S a = (3, n)) (hin : vp_in i n) (hz : x = 0 ∨ x = 1) (kk : Xq M k b1 b2 (pc + 1) L st S (sI H a i.toNatClampNeg x) Q) : Xq M k b1 b2 pc L (.int x :: .int i :: .ref a :: st) S H Q := by
  obtain ⟨R, q, e⟩ := kk
  exact ⟨R, q, ex_zast d hs hin hz e⟩
theorem xq_last {i : Int32} {x : Int64} (d : decode (mC M) pc = .ok (.lastore, 1)) (hs : fS S a = (4, n)) (hin : vp_in i n) (kk : Xq M k b1 b2 (pc + 1) L st S (sL H a i.toNatClampNeg x) Q) : Xq M k b1 b2 pc L (.long x :: .int i :: .ref a :: st) S H Q := by
  obtain ⟨R, q, e⟩ := kk
  exact ⟨R, q, ex_last d hs hin e⟩
theorem xq_aast {i : Int32} {x : Nat} (d : decode (mC M) pc = .ok (.aastore, 1)) (hs : fS S a = (5, n)) (hsx : fS S x = (6, 7)) (hin : vp_in i n) (kk : Xq M k b1 b2 (pc + 1) L st S (sR H a i.toNatClampNeg (some x)) Q) : Xq M k b1 b2 pc L (.ref x :: .int i :: .ref a :: st) S H Q := by
  obtain ⟨R, q, e⟩ := kk
  exact ⟨R, q, ex_aast d hs hsx hin e⟩
theorem xq_ifnonnull {x : Nat} {off : Int} {tgt : Nat} (d : decode (mC M) pc = .ok (.ifnonnull off, 3)) (ht : (pc : Int) + off = (tgt : Int)) (kk : Xq M k b1 b2 tgt L st S H Q) : Xq M k b1 b2 pc L (.ref x :: st) S H Q := by
  obtain ⟨R, q, e⟩ := kk
  exact ⟨R, q, ex_ifnonnull d ht e⟩
theorem xq_ifnonnullN {off : Int} (d : decode (mC M) pc = .ok (.ifnonnull off, 3)) (kk : Xq M k b1 b2 (pc + 3) L st S H Q) : Xq M k b1 b2 pc L (.null :: st) S H Q := by
  obtain ⟨R, q, e⟩ := kk
  exact ⟨R, q, ex_ifnonnullN d e⟩
theorem xq_ifnull {x : Nat} {off : Int} (d : decode (mC M) pc = .ok (.ifnull off, 3)) (kk : Xq M k b1 b2 (pc + 3) L st S H Q) : Xq M k b1 b2 pc L (.ref x :: st) S H Q := by
  obtain ⟨R, q, e⟩ := kk
  exact ⟨R, q, ex_ifnull d e⟩
theorem xq_ifnullN {off : Int} {tgt : Nat} (d : decode (mC M) pc = .ok (.ifnull off, 3)) (ht : (pc : Int) + off = (tgt : Int)) (kk : Xq M k b1 b2 tgt L st S H Q) : Xq M k b1 b2 pc L (.null :: st) S H Q := by
  obtain ⟨R, q, e⟩ := kk
  exact ⟨R, q, ex_ifnullN d ht e⟩
theorem xq_newi {x : Int32} (d : decode (mC M) pc = .ok (.newarray .int, 2)) (hw : Cond.arrayClass .int ∈ lw_g) (h0 : ¬ x < 0) (hN : x.toNatClampNeg = n) (hb : n ≤ 100000) (kk : Xq M k b1 b2 (pc + 2) L (.ref (fZ S) :: st) (nS S (1, n)) (nH S H) Q) : Xq M k (b1 + 1) (b2 + n) pc L (.int x :: st) S H Q := by
  obtain ⟨R, q, e⟩ := kk
  exact ⟨R, q, ex_newi d hw h0 hN hb e⟩
theorem xq_newb {x : Int32} (d : decode (mC M) pc = .ok (.newarray .byte, 2)) (hw : Cond.arrayClass .byte ∈ lw_g) (h0 : ¬ x < 0) (hN : x.toNatClampNeg = n) (hb : n ≤ 100000) (kk : Xq M k b1 b2 (pc + 2) L (.ref (fZ S) :: st) (nS S (2, n)) (nH S H) Q) : Xq M k (b1 + 1) (b2 + n) pc L (.int x :: st) S H Q := by
  obtain ⟨R, q, e⟩ := kk
  exact ⟨R, q, ex_newb d hw h0 hN hb e⟩
theorem xq_newz {x : Int32} (d : decode (mC M) pc = .ok (.newarray .boolean, 2)) (hw : Cond.arrayClass .boolean ∈ lw_g) (h0 : ¬ x < 0) (hN : x.toNatClampNeg = n) (hb : n ≤ 100000) (kk : Xq M k b1 b2 (pc + 2) L (.ref (fZ S) :: st) (nS S (3, n)) (nH S H) Q) : Xq M k (b1 + 1) (b2 + n) pc L (.int x :: st) S H Q := by
  obtain ⟨R, q, e⟩ := kk
  exact ⟨R, q, ex_newz d hw h0 hN hb e⟩
theorem xq_newl {x : Int32} (d : decode (mC M) pc = .ok (.newarray .long, 2)) (hw : Cond.arrayClass .long ∈ lw_g) (h0 : ¬ x < 0) (hN : x.toNatClampNeg = n) (hb : n ≤ 100000) (kk : Xq M k b1 b2 (pc + 2) L (.ref (fZ S) :: st) (nS S (4, n)) (nH S H) Q) : Xq M k (b1 + 1) (b2 + n) pc L (.int x :: st) S H Q := by
  obtain ⟨R, q, e⟩ := kk
  exact ⟨R, q, ex_newl d hw h0 hN hb e⟩
theorem xq_newq {x : Int32} (d : decode (mC M) pc = .ok (.anewarray i, 3)) (hw : Cond.classLink (mY M).cls i RX7 ∈ lw_g) (h0 : ¬ x < 0) (hN : x.toNatClampNeg = n) (hb : n ≤ 100000) (kk : Xq M k b1 b2 (pc + 3) L (.ref (fZ S) :: st) (nS S (5, n)) (nH S H) Q) : Xq M k (b1 + 1) (b2 + n) pc L (.int x :: st) S H Q := by
  obtain ⟨R, q, e⟩ := kk
  exact ⟨R, q, ex_newq d hw h0 hN hb e⟩
theorem xq_new {C : String} {T : u_T} {N ci : Nat} {ty : Nat → FieldType} (cl : xCl ci C T N ty) (d : decode (mC M) pc = .ok (.new i, 3)) (hw : Cond.classLink (mY M).cls i C ∈ lw_g) (hi : Cond.instantiable C N ∈ lw_g) (hn : Cond.initialized C ∈ lw_g) (hty : ∀ j, j < N → defaultValue (ty j) = match fK ci j with | 0 => .int 0 | 1 => .long 0 | _ => .null) (kk : Xq M k b1 b2 (pc + 3) L (.ref (fZ S) :: st) (nS S (6, ci)) (nH S H) Q) : Xq M k (b1 + 1) (b2 + N) pc L st S H Q := by
  obtain ⟨R, q, e⟩ := kk
  exact ⟨R, q, ex_new cl d hw hi hn hty e⟩
theorem xq_objInit (d : decode (mC M) pc = .ok (.invokespecial i, 3)) (hl : Cond.methodLink (mY M).cls i Lib.objectInit ∈ lw_g) (hi : Cond.instanceMethod Lib.objectInit ∈ lw_g) (hc : Cond.code Lib.objectInit ⟨#[0xb1]⟩ 1 none ∈ lw_g) (hst : st = []) (hk : 1 ≤ k) (kk : Xq M k b1 b2 (pc + 3) L st S H Q) : Xq M k b1 b2 pc L (.ref a :: st) S H Q := by
  obtain ⟨R, q, e⟩ := kk
  exact ⟨R, q, ex_objInit d hl hi hc hst hk e⟩
theorem xq_iret {v : Int32} (d : decode (mC M) pc = .ok (.ireturn, 1)) (hT : mT M = some .int) (kk : Q (some (.int v), S, H)) : Xq M k b1 b2 pc L [.int v] S H Q := ⟨_, kk, ex_iret d hT⟩
theorem xq_nret {v : Int32} {ty : FieldType} (d : decode (mC M) pc = .ok (.ireturn, 1)) (hT : mT M = some ty) (hn : narrow ty (.int v) = .int v) (kk : Q (some (.int v), S, H)) : Xq M k b1 b2 pc L [.int v] S H Q := ⟨_, kk, ex_nret d hT hn⟩
theorem xq_zret {v : Int32} (d : decode (mC M) pc = .ok (.ireturn, 1)) (hT : mT M = some .boolean) (hz : v = 0 ∨ v = 1) (kk : Q (some (.int v), S, H)) : Xq M k b1 b2 pc L [.int v] S H Q := ⟨_, kk, ex_zret d hT hz⟩
theorem xq_lret {v : Int64} (d : decode (mC M) pc = .ok (.lreturn, 1)) (hT : mT M = some .long) (kk : Q (some (.long v), S, H)) : Xq M k b1 b2 pc L [.long v] S H Q := ⟨_, kk, ex_lret d hT⟩
theorem xq_vret (d : decode (mC M) pc = .ok (.return_, 1)) (hT : mT M = none) (kk : Q (none, S, H)) : Xq M k b1 b2 pc L [] S H Q := ⟨_, kk, ex_vret d hT⟩
/-- entry: the locals padded with what is not said -/
def xPad (n : Nat) (L : List (Option Value)) : List (Option Value) := L ++ List.replicate (n - L.length) none
theorem xPad_ok {n : Nat} {L : List (Option Value)} (i : Nat) (v : Value) (h : (xPad n L)[i]? = some (some v)) : L[i]? = some (some v) := by
  unfold xPad at h
  by_cases hi : i < L.length
  · rwa [List.getElem?_append_left hi] at h
  · rw [List.getElem?_append_right (by omega)] at h
    simp [List.getElem?_replicate] at h
theorem vq_intro {args : List Value} (hp : plainName (mY M).cls = true) (hn : (args.map fun v => v.category).sum ≤ mN M) (hL : xPad (mN M) (xL0 args) = L) (h : Xq M k b1 b2 0 L [] S H Q) : Vq M k b1 b2 args S H Q := by
  obtain ⟨R, q, e⟩ := h
  subst hL
  exact ⟨R, q, ev_intro hp hn rfl (ex_forget xPad_ok e)⟩
theorem vq_ev {args : List Value} {R : xR} (h : Vq M k b1 b2 args S H (fun r => r = R)) : Ev M k b1 b2 args S H R := by
  obtain ⟨R', q, e⟩ := h
  subst q
  exact e
theorem ev_vq {args : List Value} {R : xR} (h : Ev M k b1 b2 args S H R) : Vq M k b1 b2 args S H (fun r => r = R) := ⟨R, rfl, h⟩
/-- ends of a contract without new cells: a value alone; a value and a heap; a heap -/
def Pv (M : xM) (k : Nat) (args : List Value) (S : xS) (H : xH) (v : Value) : Prop := Ev M k 0 0 args S H (some v, S, H)
def Hv (M : xM) (k : Nat) (args : List Value) (S : xS) (H : xH) {α : Type} (f : α → Value) (P : α → xH → Prop) : Prop := Vq M k 0 0 args S H (fun R => ∃ x H', P x H' ∧ R = (some (f x), S, H'))
def Nv (M : xM) (k : Nat) (args : List Value) (S : xS) (H : xH) (P : xH → Prop) : Prop := Vq M k 0 0 args S H (fun R => ∃ H', P H' ∧ R = (none, S, H'))
abbrev vI (x : Int32) : Value := .int x
abbrev vN (x : Nat) : Value := .int (nI x)
abbrev vB (x : Bool) : Value := .int (bI x)
abbrev vZ (x : Int) : Value := .int (zI x)
abbrev vL (x : Int64) : Value := .long x
theorem Hv.to {args : List Value} {α : Type} {f : α → Value} {P P' : α → xH → Prop} (h : Hv M k args S H f P) (hq : ∀ x H', P x H' → P' x H') : Hv M k args S H f P' := Vq.to h (fun _ ⟨x, H', p, e⟩ => ⟨x, H', hq x H' p, e⟩)
theorem Nv.to {args : List Value} {P P' : xH → Prop} (h : Nv M k args S H P) (hq : ∀ H', P H' → P' H') : Nv M k args S H P' := Vq.to h (fun _ ⟨H', p, e⟩ => ⟨H', hq H' p, e⟩)

theorem xq_callV_G {C : String} {T : u_T} {N ci : Nat} {ty : Nat → FieldType} {As rest : List Value} (cl : xCl ci C T N ty) (hg : xGd M' n) (d : decode (mC M) pc = .ok (.invokevirtual i, 3)) (hl : Cond.methodLink (mY M).cls i (mY M') ∈ lw_g) (hi : Cond.instanceMethod (mY M') ∈ lw_g) (hse : Cond.selects (mY M').cls (mY M') (mY M') ∈ lw_g) (hC : (mY M').cls = C) (hs : fS S a = (6, ci)) (hn : As.length = n) (hst : st = As.reverse ++ .ref a :: rest) (hW : (rest.map fun v => v.category).sum ≤ 8) (hk : k' < k) {Q' : xR → Prop} (hE : Vq M' k' c1 c2 (.ref a :: As) S H Q') (kk : ∀ r S1 H1, Q' (r, S1, H1) → Xq M k b1 b2 (pc + 3) L (r.toList ++ rest) S1 H1 Q) : Xq M k (b1 + c1) (b2 + c2) pc L st S H Q := by
  obtain ⟨⟨r, S1, H1⟩, q, e⟩ := hE
  obtain ⟨R, q', e'⟩ := kk r S1 H1 q
  exact ⟨R, q', ex_callV cl hg d hl hi hse hC hs hn hst hW hk e e'⟩
theorem xq_callV_P {C : String} {T : u_T} {N ci : Nat} {ty : Nat → FieldType} {As rest : List Value} (cl : xCl ci C T N ty) (hg : xGd M' n) (d : decode (mC M) pc = .ok (.invokevirtual i, 3)) (hl : Cond.methodLink (mY M).cls i (mY M') ∈ lw_g) (hi : Cond.instanceMethod (mY M') ∈ lw_g) (hse : Cond.selects (mY M').cls (mY M') (mY M') ∈ lw_g) (hC : (mY M').cls = C) (hs : fS S a = (6, ci)) (hn : As.length = n) (hst : st = As.reverse ++ .ref a :: rest) (hW : (rest.map fun v => v.category).sum ≤ 8) (hk : k' < k) {v : Value} (hE : Pv M' k' (.ref a :: As) S H v) (kk : Xq M k b1 b2 (pc + 3) L (v :: rest) S H Q) : Xq M k b1 b2 pc L st S H Q := by
  obtain ⟨R, q', e'⟩ := kk
  exact ⟨R, q', ex_callV (r := some v) (c1 := 0) (c2 := 0) cl hg d hl hi hse hC hs hn hst hW hk hE e'⟩
theorem xq_callV_H {C : String} {T : u_T} {N ci : Nat} {ty : Nat → FieldType} {As rest : List Value} (cl : xCl ci C T N ty) (hg : xGd M' n) (d : decode (mC M) pc = .ok (.invokevirtual i, 3)) (hl : Cond.methodLink (mY M).cls i (mY M') ∈ lw_g) (hi : Cond.instanceMethod (mY M') ∈ lw_g) (hse : Cond.selects (mY M').cls (mY M') (mY M') ∈ lw_g) (hC : (mY M').cls = C) (hs : fS S a = (6, ci)) (hn : As.length = n) (hst : st = As.reverse ++ .ref a :: rest) (hW : (rest.map fun v => v.category).sum ≤ 8) (hk : k' < k) {α : Type} {f : α → Value} {P : α → xH → Prop} (hE : Hv M' k' (.ref a :: As) S H f P) (kk : ∀ x H1, P x H1 → Xq M k b1 b2 (pc + 3) L (f x :: rest) S H1 Q) : Xq M k b1 b2 pc L st S H Q := by
  obtain ⟨R0, ⟨x, H1, p, rfl⟩, e⟩ := hE
  obtain ⟨R, q', e'⟩ := kk x H1 p
  exact ⟨R, q', ex_callV (r := some (f x)) (c1 := 0) (c2 := 0) cl hg d hl hi hse hC hs hn hst hW hk e e'⟩
theorem xq_callV_N {C : String} {T : u_T} {N ci : Nat} {ty : Nat → FieldType} {As rest : List Value} (cl : xCl ci C T N ty) (hg : xGd M' n) (d : decode (mC M) pc = .ok (.invokevirtual i, 3)) (hl : Cond.methodLink (mY M).cls i (mY M') ∈ lw_g) (hi : Cond.instanceMethod (mY M') ∈ lw_g) (hse : Cond.selects (mY M').cls (mY M') (mY M') ∈ lw_g) (hC : (mY M').cls = C) (hs : fS S a = (6, ci)) (hn : As.length = n) (hst : st = As.reverse ++ .ref a :: rest) (hW : (rest.map fun v => v.category).sum ≤ 8) (hk : k' < k) {P : xH → Prop} (hE : Nv M' k' (.ref a :: As) S H P) (kk : ∀ H1, P H1 → Xq M k b1 b2 (pc + 3) L rest S H1 Q) : Xq M k b1 b2 pc L st S H Q := by
  obtain ⟨R0, ⟨H1, p, rfl⟩, e⟩ := hE
  obtain ⟨R, q', e'⟩ := kk H1 p
  exact ⟨R, q', ex_callV (r := none) (c1 := 0) (c2 := 0) cl hg d hl hi hse hC hs hn hst hW hk e e'⟩
theorem xq_callS_G {As rest : List Value} (hg : xGd M' n) (d : decode (mC M) pc = .ok (.invokestatic i, 3)) (hl : Cond.methodLink (mY M).cls i (mY M') ∈ lw_g) (hi : Cond.static (mY M') ∈ lw_g) (hn : As.length = n) (hst : st = As.reverse ++ rest) (hW : (rest.map fun v => v.category).sum ≤ 8) (hk : k' < k) {Q' : xR → Prop} (hE : Vq M' k' c1 c2 As S H Q') (kk : ∀ r S1 H1, Q' (r, S1, H1) → Xq M k b1 b2 (pc + 3) L (r.toList ++ rest) S1 H1 Q) : Xq M k (b1 + c1) (b2 + c2) pc L st S H Q := by
  obtain ⟨⟨r, S1, H1⟩, q, e⟩ := hE
  obtain ⟨R, q', e'⟩ := kk r S1 H1 q
  exact ⟨R, q', ex_callS hg d hl hi hn hst hW hk e e'⟩
theorem xq_callS_P {As rest : List Value} (hg : xGd M' n) (d : decode (mC M) pc = .ok (.invokestatic i, 3)) (hl : Cond.methodLink (mY M).cls i (mY M') ∈ lw_g) (hi : Cond.static (mY M') ∈ lw_g) (hn : As.length = n) (hst : st = As.reverse ++ rest) (hW : (rest.map fun v => v.category).sum ≤ 8) (hk : k' < k) {v : Value} (hE : Pv M' k' As S H v) (kk : Xq M k b1 b2 (pc + 3) L (v :: rest) S H Q) : Xq M k b1 b2 pc L st S H Q := by
  obtain ⟨R, q', e'⟩ := kk
  exact ⟨R, q', ex_callS (r := some v) (c1 := 0) (c2 := 0) hg d hl hi hn hst hW hk hE e'⟩
theorem xq_callS_H {As rest : List Value} (hg : xGd M' n) (d : decode (mC M) pc = .ok (.invokestatic i, 3)) (hl : Cond.methodLink (mY M).cls i (mY M') ∈ lw_g) (hi : Cond.static (mY M') ∈ lw_g) (hn : As.length = n) (hst : st = As.reverse ++ rest) (hW : (rest.map fun v => v.category).sum ≤ 8) (hk : k' < k) {α : Type} {f : α → Value} {P : α → xH → Prop} (hE : Hv M' k' As S H f P) (kk : ∀ x H1, P x H1 → Xq M k b1 b2 (pc + 3) L (f x :: rest) S H1 Q) : Xq M k b1 b2 pc L st S H Q := by
  obtain ⟨R0, ⟨x, H1, p, rfl⟩, e⟩ := hE
  obtain ⟨R, q', e'⟩ := kk x H1 p
  exact ⟨R, q', ex_callS (r := some (f x)) (c1 := 0) (c2 := 0) hg d hl hi hn hst hW hk e e'⟩
theorem xq_callS_N {As rest : List Value} (hg : xGd M' n) (d : decode (mC M) pc = .ok (.invokestatic i, 3)) (hl : Cond.methodLink (mY M).cls i (mY M') ∈ lw_g) (hi : Cond.static (mY M') ∈ lw_g) (hn : As.length = n) (hst : st = As.reverse ++ rest) (hW : (rest.map fun v => v.category).sum ≤ 8) (hk : k' < k) {P : xH → Prop} (hE : Nv M' k' As S H P) (kk : ∀ H1, P H1 → Xq M k b1 b2 (pc + 3) L rest S H1 Q) : Xq M k b1 b2 pc L st S H Q := by
  obtain ⟨R0, ⟨H1, p, rfl⟩, e⟩ := hE
  obtain ⟨R, q', e'⟩ := kk H1 p
  exact ⟨R, q', ex_callS (r := none) (c1 := 0) (c2 := 0) hg d hl hi hn hst hW hk e e'⟩
theorem xq_callI_G {As rest : List Value} (hg : xGd M' n) (d : decode (mC M) pc = .ok (.invokespecial i, 3)) (hl : Cond.methodLink (mY M).cls i (mY M') ∈ lw_g) (hi : Cond.instanceMethod (mY M') ∈ lw_g) (hnm : (mY M').name = "<init>") (hmt : mT M' = none) (hn : As.length = n) (hst : st = As.reverse ++ .ref a :: rest) (hW : (rest.map fun v => v.category).sum ≤ 8) (hk : k' < k) {Q' : xR → Prop} (hE : Vq M' k' c1 c2 (.ref a :: As) S H Q') (kk : ∀ r S1 H1, Q' (r, S1, H1) → Xq M k b1 b2 (pc + 3) L (r.toList ++ rest) S1 H1 Q) : Xq M k (b1 + c1) (b2 + c2) pc L st S H Q := by
  obtain ⟨⟨r, S1, H1⟩, q, e⟩ := hE
  obtain ⟨R, q', e'⟩ := kk r S1 H1 q
  exact ⟨R, q', ex_callI hg d hl hi hnm hmt hn hst hW hk e e'⟩
theorem xq_callI_P {As rest : List Value} (hg : xGd M' n) (d : decode (mC M) pc = .ok (.invokespecial i, 3)) (hl : Cond.methodLink (mY M).cls i (mY M') ∈ lw_g) (hi : Cond.instanceMethod (mY M') ∈ lw_g) (hnm : (mY M').name = "<init>") (hmt : mT M' = none) (hn : As.length = n) (hst : st = As.reverse ++ .ref a :: rest) (hW : (rest.map fun v => v.category).sum ≤ 8) (hk : k' < k) {v : Value} (hE : Pv M' k' (.ref a :: As) S H v) (kk : Xq M k b1 b2 (pc + 3) L (v :: rest) S H Q) : Xq M k b1 b2 pc L st S H Q := by
  obtain ⟨R, q', e'⟩ := kk
  exact ⟨R, q', ex_callI (r := some v) (c1 := 0) (c2 := 0) hg d hl hi hnm hmt hn hst hW hk hE e'⟩
theorem xq_callI_H {As rest : List Value} (hg : xGd M' n) (d : decode (mC M) pc = .ok (.invokespecial i, 3)) (hl : Cond.methodLink (mY M).cls i (mY M') ∈ lw_g) (hi : Cond.instanceMethod (mY M') ∈ lw_g) (hnm : (mY M').name = "<init>") (hmt : mT M' = none) (hn : As.length = n) (hst : st = As.reverse ++ .ref a :: rest) (hW : (rest.map fun v => v.category).sum ≤ 8) (hk : k' < k) {α : Type} {f : α → Value} {P : α → xH → Prop} (hE : Hv M' k' (.ref a :: As) S H f P) (kk : ∀ x H1, P x H1 → Xq M k b1 b2 (pc + 3) L (f x :: rest) S H1 Q) : Xq M k b1 b2 pc L st S H Q := by
  obtain ⟨R0, ⟨x, H1, p, rfl⟩, e⟩ := hE
  obtain ⟨R, q', e'⟩ := kk x H1 p
  exact ⟨R, q', ex_callI (r := some (f x)) (c1 := 0) (c2 := 0) hg d hl hi hnm hmt hn hst hW hk e e'⟩
theorem xq_callI_N {As rest : List Value} (hg : xGd M' n) (d : decode (mC M) pc = .ok (.invokespecial i, 3)) (hl : Cond.methodLink (mY M).cls i (mY M') ∈ lw_g) (hi : Cond.instanceMethod (mY M') ∈ lw_g) (hnm : (mY M').name = "<init>") (hmt : mT M' = none) (hn : As.length = n) (hst : st = As.reverse ++ .ref a :: rest) (hW : (rest.map fun v => v.category).sum ≤ 8) (hk : k' < k) {P : xH → Prop} (hE : Nv M' k' (.ref a :: As) S H P) (kk : ∀ H1, P H1 → Xq M k b1 b2 (pc + 3) L rest S H1 Q) : Xq M k b1 b2 pc L st S H Q := by
  obtain ⟨R0, ⟨H1, p, rfl⟩, e⟩ := hE
  obtain ⟨R, q', e'⟩ := kk H1 p
  exact ⟨R, q', ex_callI (r := none) (c1 := 0) (c2 := 0) hg d hl hi hnm hmt hn hst hW hk e e'⟩
theorem xq_callSN_G {As rest : List Value} {host : String} (hg : xGd M' n) (d : decode (mC M) pc = .ok (.invokestatic i, 3)) (hl : ((mY M).cls, i, mY M', host) ∈ lw_nest) (hi : Cond.static (mY M') ∈ lw_g) (hn : As.length = n) (hst : st = As.reverse ++ rest) (hW : (rest.map fun v => v.category).sum ≤ 8) (hk : k' < k) {Q' : xR → Prop} (hE : Vq M' k' c1 c2 As S H Q') (kk : ∀ r S1 H1, Q' (r, S1, H1) → Xq M k b1 b2 (pc + 3) L (r.toList ++ rest) S1 H1 Q) : Xq M k (b1 + c1) (b2 + c2) pc L st S H Q := by
  obtain ⟨⟨r, S1, H1⟩, q, e⟩ := hE
  obtain ⟨R, q', e'⟩ := kk r S1 H1 q
  exact ⟨R, q', ex_callSN hg d hl hi hn hst hW hk e e'⟩
theorem xq_callSN_P {As rest : List Value} {host : String} (hg : xGd M' n) (d : decode (mC M) pc = .ok (.invokestatic i, 3)) (hl : ((mY M).cls, i, mY M', host) ∈ lw_nest) (hi : Cond.static (mY M') ∈ lw_g) (hn : As.length = n) (hst : st = As.reverse ++ rest) (hW : (rest.map fun v => v.category).sum ≤ 8) (hk : k' < k) {v : Value} (hE : Pv M' k' As S H v) (kk : Xq M k b1 b2 (pc + 3) L (v :: rest) S H Q) : Xq M k b1 b2 pc L st S H Q := by
  obtain ⟨R, q', e'⟩ := kk
  exact ⟨R, q', ex_callSN (r := some v) (c1 := 0) (c2 := 0) hg d hl hi hn hst hW hk hE e'⟩
theorem xq_callSN_H {As rest : List Value} {host : String} (hg : xGd M' n) (d : decode (mC M) pc = .ok (.invokestatic i, 3)) (hl : ((mY M).cls, i, mY M', host) ∈ lw_nest) (hi : Cond.static (mY M') ∈ lw_g) (hn : As.length = n) (hst : st = As.reverse ++ rest) (hW : (rest.map fun v => v.category).sum ≤ 8) (hk : k' < k) {α : Type} {f : α → Value} {P : α → xH → Prop} (hE : Hv M' k' As S H f P) (kk : ∀ x H1, P x H1 → Xq M k b1 b2 (pc + 3) L (f x :: rest) S H1 Q) : Xq M k b1 b2 pc L st S H Q := by
  obtain ⟨R0, ⟨x, H1, p, rfl⟩, e⟩ := hE
  obtain ⟨R, q', e'⟩ := kk x H1 p
  exact ⟨R, q', ex_callSN (r := some (f x)) (c1 := 0) (c2 := 0) hg d hl hi hn hst hW hk e e'⟩
theorem xq_callSN_N {As rest : List Value} {host : String} (hg : xGd M' n) (d : decode (mC M) pc = .ok (.invokestatic i, 3)) (hl : ((mY M).cls, i, mY M', host) ∈ lw_nest) (hi : Cond.static (mY M') ∈ lw_g) (hn : As.length = n) (hst : st = As.reverse ++ rest) (hW : (rest.map fun v => v.category).sum ≤ 8) (hk : k' < k) {P : xH → Prop} (hE : Nv M' k' As S H P) (kk : ∀ H1, P H1 → Xq M k b1 b2 (pc + 3) L rest S H1 Q) : Xq M k b1 b2 pc L st S H Q := by
  obtain ⟨R0, ⟨H1, p, rfl⟩, e⟩ := hE
  obtain ⟨R, q', e'⟩ := kk H1 p
  exact ⟨R, q', ex_callSN (r := none) (c1 := 0) (c2 := 0) hg d hl hi hn hst hW hk e e'⟩
theorem xq_callIN_G {As rest : List Value} {host : String} (hg : xGd M' n) (d : decode (mC M) pc = .ok (.invokespecial i, 3)) (hl : ((mY M).cls, i, mY M', host) ∈ lw_nest) (hi : Cond.instanceMethod (mY M') ∈ lw_g) (hnm : (mY M').name = "<init>") (hmt : mT M' = none) (hn : As.length = n) (hst : st = As.reverse ++ .ref a :: rest) (hW : (rest.map fun v => v.category).sum ≤ 8) (hk : k' < k) {Q' : xR → Prop} (hE : Vq M' k' c1 c2 (.ref a :: As) S H Q') (kk : ∀ r S1 H1, Q' (r, S1, H1) → Xq M k b1 b2 (pc + 3) L (r.toList ++ rest) S1 H1 Q) : Xq M k (b1 + c1) (b2 + c2) pc L st S H Q := by
  obtain ⟨⟨r, S1, H1⟩, q, e⟩ := hE
  obtain ⟨R, q', e'⟩ := kk r S1 H1 q
  exact ⟨R, q', ex_callIN hg d hl hi hnm hmt hn hst hW hk e e'⟩
theorem xq_callIN_P {As rest : List Value} {host : String} (hg : xGd M' n) (d : decode (mC M) pc = .ok (.invokespecial i, 3)) (hl : ((mY M).cls, i, mY M', host) ∈ lw_nest) (hi : Cond.instanceMethod (mY M') ∈ lw_g) (hnm : (mY M').name = "<init>") (hmt : mT M' = none) (hn : As.length = n) (hst : st = As.reverse ++ .ref a :: rest) (hW : (rest.map fun v => v.category).sum ≤ 8) (hk : k' < k) {v : Value} (hE : Pv M' k' (.ref a :: As) S H v) (kk : Xq M k b1 b2 (pc + 3) L (v :: rest) S H Q) : Xq M k b1 b2 pc L st S H Q := by
  obtain ⟨R, q', e'⟩ := kk
  exact ⟨R, q', ex_callIN (r := some v) (c1 := 0) (c2 := 0) hg d hl hi hnm hmt hn hst hW hk hE e'⟩
theorem xq_callIN_H {As rest : List Value} {host : String} (hg : xGd M' n) (d : decode (mC M) pc = .ok (.invokespecial i, 3)) (hl : ((mY M).cls, i, mY M', host) ∈ lw_nest) (hi : Cond.instanceMethod (mY M') ∈ lw_g) (hnm : (mY M').name = "<init>") (hmt : mT M' = none) (hn : As.length = n) (hst : st = As.reverse ++ .ref a :: rest) (hW : (rest.map fun v => v.category).sum ≤ 8) (hk : k' < k) {α : Type} {f : α → Value} {P : α → xH → Prop} (hE : Hv M' k' (.ref a :: As) S H f P) (kk : ∀ x H1, P x H1 → Xq M k b1 b2 (pc + 3) L (f x :: rest) S H1 Q) : Xq M k b1 b2 pc L st S H Q := by
  obtain ⟨R0, ⟨x, H1, p, rfl⟩, e⟩ := hE
  obtain ⟨R, q', e'⟩ := kk x H1 p
  exact ⟨R, q', ex_callIN (r := some (f x)) (c1 := 0) (c2 := 0) hg d hl hi hnm hmt hn hst hW hk e e'⟩
theorem xq_callIN_N {As rest : List Value} {host : String} (hg : xGd M' n) (d : decode (mC M) pc = .ok (.invokespecial i, 3)) (hl : ((mY M).cls, i, mY M', host) ∈ lw_nest) (hi : Cond.instanceMethod (mY M') ∈ lw_g) (hnm : (mY M').name = "<init>") (hmt : mT M' = none) (hn : As.length = n) (hst : st = As.reverse ++ .ref a :: rest) (hW : (rest.map fun v => v.category).sum ≤ 8) (hk : k' < k) {P : xH → Prop} (hE : Nv M' k' (.ref a :: As) S H P) (kk : ∀ H1, P H1 → Xq M k b1 b2 (pc + 3) L rest S H1 Q) : Xq M k b1 b2 pc L st S H Q := by
  obtain ⟨R0, ⟨H1, p, rfl⟩, e⟩ := hE
  obtain ⟨R, q', e'⟩ := kk H1 p
  exact ⟨R, q', ex_callIN (r := none) (c1 := 0) (c2 := 0) hg d hl hi hnm hmt hn hst hW hk e e'⟩
theorem nq_eq {x y : Nat} (hx : x < 2147483648) (hy : y < 2147483648) : nI x = nI y ↔ x = y := by
  rw [← Int32.toInt_inj, nI_toInt hx, nI_toInt hy]; omega
theorem nq_ltI {x y : Nat} (hx : x < 2147483648) (hy : y < 2147483648) : nI x < nI y ↔ x < y := by
  rw [Int32.lt_iff_toInt_lt, nI_toInt hx, nI_toInt hy]; omega
theorem nq_leI {x y : Nat} (hx : x < 2147483648) (hy : y < 2147483648) : nI x ≤ nI y ↔ x ≤ y := by
  rw [Int32.le_iff_toInt_le, nI_toInt hx, nI_toInt hy]; omega
theorem nq_0 : nI 0 = 0 := rfl
theorem nq_eq0 {x : Nat} (hx : x < 2147483648) : nI x = 0 ↔ x = 0 := nq_eq (y := 0) hx (by decide)
theorem nq_lt0 {x : Nat} (hx : x < 2147483648) : ¬ nI x < 0 := fun e => absurd ((nq_ltI (y := 0) hx (by decide)).mp e) (by omega)
theorem nq_0lt {x : Nat} (hx : x < 2147483648) : 0 < nI x ↔ 0 < x := nq_ltI (x := 0) (by decide) hx
theorem nq_le0 {x : Nat} (hx : x < 2147483648) : nI x ≤ 0 ↔ x = 0 := (nq_leI (y := 0) hx (by decide)).trans Nat.le_zero
theorem nq_0le {x : Nat} (hx : x < 2147483648) : 0 ≤ nI x := (nq_leI (x := 0) (by decide) hx).mpr (Nat.zero_le _)
theorem nq_add (x y : Nat) : nI x + nI y = nI (x + y) := (Int32.ofNat_add x y).symm
theorem nq_mul (x y : Nat) : nI x * nI y = nI (x * y) := (Int32.ofNat_mul x y).symm
theorem nq_sub {x y : Nat} (h : y ≤ x) : nI x - nI y = nI (x - y) := by
  have h2 : nI x = nI (x - y) + nI y := by rw [nq_add, Nat.sub_add_cancel h]
  rw [h2]
  simp
theorem nq_and (a b : Nat) : nI a &&& nI b = nI (a &&& b) := by
  apply Int32.toBitVec_inj.mp
  show BitVec.ofNat 32 a &&& BitVec.ofNat 32 b = BitVec.ofNat 32 (a &&& b)
  exact BitVec.ofNat_and.symm
theorem nq_or (a b : Nat) : nI a ||| nI b = nI (a ||| b) := by
  apply Int32.toBitVec_inj.mp
  show BitVec.ofNat 32 a ||| BitVec.ofNat 32 b = BitVec.ofNat 32 (a ||| b)
  exact BitVec.ofNat_or.symm
theorem nq_xor (a b : Nat) : nI a ^^^ nI b = nI (a ^^^ b) := by
  apply Int32.toBitVec_inj.mp
  show BitVec.ofNat 32 a ^^^ BitVec.ofNat 32 b = BitVec.ofNat 32 (a ^^^ b)
  exact BitVec.ofNat_xor.symm
theorem nq_sh : ∀ l, l < 32 → ((nI l &&& 31).toBitVec.smod 32).toNat = l := by decide +kernel
theorem nq_shl (x : Nat) {y : Nat} (h : y < 32) : nI x <<< (nI y &&& 31) = nI (x <<< y) := by
  apply Int32.toBitVec_inj.mp
  rw [Int32.toBitVec_shiftLeft]
  show (BitVec.ofNat 32 x) <<< ((nI y &&& 31).toBitVec.smod 32) = _
  rw [BitVec.shiftLeft_eq', nq_sh y h]
  show _ = BitVec.ofNat 32 (x <<< y)
  apply BitVec.eq_of_toNat_eq
  rw [BitVec.toNat_shiftLeft, BitVec.toNat_ofNat, BitVec.toNat_ofNat, Nat.shiftLeft_eq, Nat.shiftLeft_eq, Nat.mod_mul_mod]
theorem nq_shr {x y : Nat} (hx : x < 2147483648) (h : y < 32) : nI x >>> (nI y &&& 31) = nI (x >>> y) := by
  apply Int32.toBitVec_inj.mp
  rw [Int32.toBitVec_shiftRight]
  show BitVec.sshiftRight' (BitVec.ofNat 32 x) ((nI y &&& 31).toBitVec.smod 32) = _
  rw [BitVec.sshiftRight_eq', nq_sh y h]
  show _ = BitVec.ofNat 32 (x >>> y)
  have hm : (BitVec.ofNat 32 x).msb = false := by
    rw [BitVec.msb_eq_decide]
    simp
    omega
  rw [BitVec.sshiftRight_eq_of_msb_false hm]
  apply BitVec.eq_of_toNat_eq
  rw [BitVec.toNat_ushiftRight, BitVec.toNat_ofNat, BitVec.toNat_ofNat, Nat.mod_eq_of_lt (by omega), Nat.mod_eq_of_lt]
  exact Nat.lt_of_le_of_lt (by rw [Nat.shiftRight_eq_div_pow]; exact Nat.div_le_self _ _) (by omega : x < 2 ^ 32)
theorem nq_div {x y : Nat} (hx : x < 2147483648) (hy : y < 2147483648) : nI x / nI y = nI (x / y) := by
  rw [← Int32.toInt_inj, Int32.toInt_div, nI_toInt hx, nI_toInt hy, nI_toInt (Nat.lt_of_le_of_lt (Nat.div_le_self _ _) hx)]
  show Int.bmod (Int.tdiv x y) _ = _
  have h : x / y ≤ x := Nat.div_le_self _ _
  rw [← Int.ofNat_tdiv]
  generalize x / y = d at h ⊢
  rw [Int.bmod_eq_of_le (by omega) (by omega)]
theorem nq_rem {x y : Nat} (hx : x < 2147483648) (hy : y < 2147483648) : nI x - nI x / nI y * nI y = nI (x % y) := by
  rw [nq_div hx hy, nq_mul, nq_sub (by rw [Nat.mul_comm]; exact Nat.mul_div_le x y)]
  congr 1
  have := Nat.div_add_mod x y
  rw [Nat.mul_comm]
  omega
theorem vp_n {p n : Nat} (h : p < n) (hn : n ≤ 100000) : vp_in (nI p) n := by
  have := nI_clamp (n := p) (by omega)
  rintro (q | q)
  · rw [Int32.lt_iff_toInt_lt, nI_toInt (by omega)] at q
    have h0 : (0 : Int32).toInt = 0 := rfl
    omega
  · omega
theorem clampN {p n : Nat} (h : p < n) (hn : n ≤ 100000) : (nI p).toNatClampNeg = p := nI_clamp (by omega)

theorem xq_iaddN {x y : Nat} (d : decode (mC M) pc = .ok (.iadd, 1)) (kk : Xq M k b1 b2 (pc + 1) L (.int (nI (x + y)) :: st) S H Q) : Xq M k b1 b2 pc L (.int (nI y) :: .int (nI x) :: st) S H Q := xq_iadd d (by rw [nq_add]; exact kk)
theorem xq_isubN {x y : Nat} (d : decode (mC M) pc = .ok (.isub, 1)) (h : y ≤ x) (kk : Xq M k b1 b2 (pc + 1) L (.int (nI (x - y)) :: st) S H Q) : Xq M k b1 b2 pc L (.int (nI y) :: .int (nI x) :: st) S H Q := xq_isub d (by rw [nq_sub h]; exact kk)
theorem xq_imulN {x y : Nat} (d : decode (mC M) pc = .ok (.imul, 1)) (kk : Xq M k b1 b2 (pc + 1) L (.int (nI (x * y)) :: st) S H Q) : Xq M k b1 b2 pc L (.int (nI y) :: .int (nI x) :: st) S H Q := xq_imul d (by rw [nq_mul]; exact kk)
theorem xq_iandN {x y : Nat} (d : decode (mC M) pc = .ok (.iand, 1)) (kk : Xq M k b1 b2 (pc + 1) L (.int (nI (x &&& y)) :: st) S H Q) : Xq M k b1 b2 pc L (.int (nI y) :: .int (nI x) :: st) S H Q := xq_iand d (by rw [nq_and]; exact kk)
theorem xq_iorN {x y : Nat} (d : decode (mC M) pc = .ok (.ior, 1)) (kk : Xq M k b1 b2 (pc + 1) L (.int (nI (x ||| y)) :: st) S H Q) : Xq M k b1 b2 pc L (.int (nI y) :: .int (nI x) :: st) S H Q := xq_ior d (by rw [nq_or]; exact kk)
theorem xq_ixorN {x y : Nat} (d : decode (mC M) pc = .ok (.ixor, 1)) (kk : Xq M k b1 b2 (pc + 1) L (.int (nI (x ^^^ y)) :: st) S H Q) : Xq M k b1 b2 pc L (.int (nI y) :: .int (nI x) :: st) S H Q := xq_ixor d (by rw [nq_xor]; exact kk)
theorem xq_ishlN {x y : Nat} (d : decode (mC M) pc = .ok (.ishl, 1)) (h : y < 32) (kk : Xq M k b1 b2 (pc + 1) L (.int (nI (x <<< y)) :: st) S H Q) : Xq M k b1 b2 pc L (.int (nI y) :: .int (nI x) :: st) S H Q := xq_ishl d (by rw [nq_shl x h]; exact kk)
theorem xq_ishrN {x y : Nat} (d : decode (mC M) pc = .ok (.ishr, 1)) (hx : x < 2147483648) (h : y < 32) (kk : Xq M k b1 b2 (pc + 1) L (.int (nI (x >>> y)) :: st) S H Q) : Xq M k b1 b2 pc L (.int (nI y) :: .int (nI x) :: st) S H Q := xq_ishr d (by rw [nq_shr hx h]; exact kk)
theorem xq_idivN {x y : Nat} (d : decode (mC M) pc = .ok (.idiv, 1)) (hx : x < 2147483648) (hy : y < 2147483648) (h0 : ¬ nI y = 0) (kk : Xq M k b1 b2 (pc + 1) L (.int (nI (x / y)) :: st) S H Q) : Xq M k b1 b2 pc L (.int (nI y) :: .int (nI x) :: st) S H Q := xq_idiv d h0 (by rw [nq_div hx hy]; exact kk)
theorem xq_iremN {x y : Nat} (d : decode (mC M) pc = .ok (.irem, 1)) (hx : x < 2147483648) (hy : y < 2147483648) (h0 : ¬ nI y = 0) (kk : Xq M k b1 b2 (pc + 1) L (.int (nI (x % y)) :: st) S H Q) : Xq M k b1 b2 pc L (.int (nI y) :: .int (nI x) :: st) S H Q := xq_irem d h0 (by rw [nq_rem hx hy]; exact kk)
theorem xq_iincN {i m : Nat} {n : Int} {x : Nat} (d : decode (mC M) pc = .ok (.iinc i n, 3)) (hv : Int32.ofInt n = nI m) (h : L[i]? = some (some (.int (nI x)))) (hf : xFits L i (mN M) = true) (kk : Xq M k b1 b2 (pc + 3) (L.set i (some (.int (nI (x + m))))) st S H Q) : Xq M k b1 b2 pc L st S H Q := xq_iinc d hv h hf (by rw [nq_add]; exact kk)
theorem xq_iincD {i : Nat} {x : Nat} (d : decode (mC M) pc = .ok (.iinc i (-1), 3)) (h : L[i]? = some (some (.int (nI x)))) (hx : 1 ≤ x) (hf : xFits L i (mN M) = true) (kk : Xq M k b1 b2 (pc + 3) (L.set i (some (.int (nI (x - 1))))) st S H Q) : Xq M k b1 b2 pc L st S H Q := xq_iinc d rfl h hf (by
  have : nI x + Int32.ofInt (-1) = nI (x - 1) := by rw [show Int32.ofInt (-1) = -(nI 1) from rfl, ← Int32.sub_eq_add_neg, nq_sub hx]
  rw [this]; exact kk)
theorem xq_icmp_eqN {x y : Nat} {off : Int} {tgt : Nat} (d : decode (mC M) pc = .ok (.if_icmp .eq off, 3)) (ht : (pc : Int) + off = (tgt : Int)) (hx : x < 2147483648) (hy : y < 2147483648) (kk : (x = y → Xq M k b1 b2 tgt L st S H Q) ∧ (¬ x = y → Xq M k b1 b2 (pc + 3) L st S H Q)) : Xq M k b1 b2 pc L (.int (nI y) :: .int (nI x) :: st) S H Q := xq_icmp_eq d ht ⟨fun q => kk.1 ((nq_eq hx hy).mp q), fun q => kk.2 (fun e => q ((nq_eq hx hy).mpr e))⟩
theorem xq_icmp_neN {x y : Nat} {off : Int} {tgt : Nat} (d : decode (mC M) pc = .ok (.if_icmp .ne off, 3)) (ht : (pc : Int) + off = (tgt : Int)) (hx : x < 2147483648) (hy : y < 2147483648) (kk : (¬ x = y → Xq M k b1 b2 tgt L st S H Q) ∧ (x = y → Xq M k b1 b2 (pc + 3) L st S H Q)) : Xq M k b1 b2 pc L (.int (nI y) :: .int (nI x) :: st) S H Q := xq_icmp_ne d ht ⟨fun q => kk.1 (fun e => q ((nq_eq hx hy).mpr e)), fun q => kk.2 ((nq_eq hx hy).mp q)⟩
theorem xq_icmp_ltN {x y : Nat} {off : Int} {tgt : Nat} (d : decode (mC M) pc = .ok (.if_icmp .lt off, 3)) (ht : (pc : Int) + off = (tgt : Int)) (hx : x < 2147483648) (hy : y < 2147483648) (kk : (x < y → Xq M k b1 b2 tgt L st S H Q) ∧ (y ≤ x → Xq M k b1 b2 (pc + 3) L st S H Q)) : Xq M k b1 b2 pc L (.int (nI y) :: .int (nI x) :: st) S H Q := xq_icmp_lt d ht ⟨fun q => kk.1 ((nq_ltI hx hy).mp q), fun q => kk.2 (Nat.not_lt.mp (fun e => q ((nq_ltI hx hy).mpr e)))⟩
theorem xq_icmp_geN {x y : Nat} {off : Int} {tgt : Nat} (d : decode (mC M) pc = .ok (.if_icmp .ge off, 3)) (ht : (pc : Int) + off = (tgt : Int)) (hx : x < 2147483648) (hy : y < 2147483648) (kk : (y ≤ x → Xq M k b1 b2 tgt L st S H Q) ∧ (x < y → Xq M k b1 b2 (pc + 3) L st S H Q)) : Xq M k b1 b2 pc L (.int (nI y) :: .int (nI x) :: st) S H Q := xq_icmp_ge d ht ⟨fun q => kk.1 ((nq_leI hy hx).mp q), fun q => kk.2 (Nat.not_le.mp (fun e => q ((nq_leI hy hx).mpr e)))⟩
theorem xq_icmp_gtN {x y : Nat} {off : Int} {tgt : Nat} (d : decode (mC M) pc = .ok (.if_icmp .gt off, 3)) (ht : (pc : Int) + off = (tgt : Int)) (hx : x < 2147483648) (hy : y < 2147483648) (kk : (y < x → Xq M k b1 b2 tgt L st S H Q) ∧ (x ≤ y → Xq M k b1 b2 (pc + 3) L st S H Q)) : Xq M k b1 b2 pc L (.int (nI y) :: .int (nI x) :: st) S H Q := xq_icmp_gt d ht ⟨fun q => kk.1 ((nq_ltI hy hx).mp q), fun q => kk.2 (Nat.not_lt.mp (fun e => q ((nq_ltI hy hx).mpr e)))⟩
theorem xq_icmp_leN {x y : Nat} {off : Int} {tgt : Nat} (d : decode (mC M) pc = .ok (.if_icmp .le off, 3)) (ht : (pc : Int) + off = (tgt : Int)) (hx : x < 2147483648) (hy : y < 2147483648) (kk : (x ≤ y → Xq M k b1 b2 tgt L st S H Q) ∧ (y < x → Xq M k b1 b2 (pc + 3) L st S H Q)) : Xq M k b1 b2 pc L (.int (nI y) :: .int (nI x) :: st) S H Q := xq_icmp_le d ht ⟨fun q => kk.1 ((nq_leI hx hy).mp q), fun q => kk.2 (Nat.not_le.mp (fun e => q ((nq_leI hx hy).mpr e)))⟩
theorem xq_if_eqN {x : Nat} {off : Int} {tgt : Nat} (d : decode (mC M) pc = .ok (.ifCond .eq off, 3)) (ht : (pc : Int) + off = (tgt : Int)) (hx : x < 2147483648) (kk : (x = 0 → Xq M k b1 b2 tgt L st S H Q) ∧ (¬ x = 0 → Xq M k b1 b2 (pc + 3) L st S H Q)) : Xq M k b1 b2 pc L (.int (nI x) :: st) S H Q := xq_if_eq d ht ⟨fun q => kk.1 ((nq_eq0 hx).mp q), fun q => kk.2 (fun e => q ((nq_eq0 hx).mpr e))⟩
theorem xq_if_neN {x : Nat} {off : Int} {tgt : Nat} (d : decode (mC M) pc = .ok (.ifCond .ne off, 3)) (ht : (pc : Int) + off = (tgt : Int)) (hx : x < 2147483648) (kk : (¬ x = 0 → Xq M k b1 b2 tgt L st S H Q) ∧ (x = 0 → Xq M k b1 b2 (pc + 3) L st S H Q)) : Xq M k b1 b2 pc L (.int (nI x) :: st) S H Q := xq_if_ne d ht ⟨fun q => kk.1 (fun e => q ((nq_eq0 hx).mpr e)), fun q => kk.2 ((nq_eq0 hx).mp q)⟩
theorem xq_if_gtN {x : Nat} {off : Int} {tgt : Nat} (d : decode (mC M) pc = .ok (.ifCond .gt off, 3)) (ht : (pc : Int) + off = (tgt : Int)) (hx : x < 2147483648) (kk : (0 < x → Xq M k b1 b2 tgt L st S H Q) ∧ (x = 0 → Xq M k b1 b2 (pc + 3) L st S H Q)) : Xq M k b1 b2 pc L (.int (nI x) :: st) S H Q := xq_if_gt d ht ⟨fun q => kk.1 ((nq_0lt hx).mp q), fun q => kk.2 (Nat.eq_zero_of_not_pos (fun e => q ((nq_0lt hx).mpr e)))⟩
theorem xq_if_leN {x : Nat} {off : Int} {tgt : Nat} (d : decode (mC M) pc = .ok (.ifCond .le off, 3)) (ht : (pc : Int) + off = (tgt : Int)) (hx : x < 2147483648) (kk : (x = 0 → Xq M k b1 b2 tgt L st S H Q) ∧ (0 < x → Xq M k b1 b2 (pc + 3) L st S H Q)) : Xq M k b1 b2 pc L (.int (nI x) :: st) S H Q := xq_if_le d ht ⟨fun q => kk.1 ((nq_le0 hx).mp q), fun q => kk.2 (Nat.pos_of_ne_zero (fun e => q ((nq_le0 hx).mpr e)))⟩
theorem xq_if_ltN {x : Nat} {off : Int} {tgt : Nat} (d : decode (mC M) pc = .ok (.ifCond .lt off, 3)) (ht : (pc : Int) + off = (tgt : Int)) (hx : x < 2147483648) (kk : Xq M k b1 b2 (pc + 3) L st S H Q) : Xq M k b1 b2 pc L (.int (nI x) :: st) S H Q := xq_if_lt d ht ⟨fun q => absurd q (nq_lt0 hx), fun _ => kk⟩
theorem xq_if_geN {x : Nat} {off : Int} {tgt : Nat} (d : decode (mC M) pc = .ok (.ifCond .ge off, 3)) (ht : (pc : Int) + off = (tgt : Int)) (hx : x < 2147483648) (kk : Xq M k b1 b2 tgt L st S H Q) : Xq M k b1 b2 pc L (.int (nI x) :: st) S H Q := xq_if_ge d ht ⟨fun _ => kk, fun q => absurd (nq_0le hx) q⟩
theorem xq_if_eqB {c : Bool} {off : Int} {tgt : Nat} (d : decode (mC M) pc = .ok (.ifCond .eq off, 3)) (ht : (pc : Int) + off = (tgt : Int)) (kk : (c = false → Xq M k b1 b2 tgt L st S H Q) ∧ (c = true → Xq M k b1 b2 (pc + 3) L st S H Q)) : Xq M k b1 b2 pc L (.int (bI c) :: st) S H Q := xq_if_eq d ht ⟨fun q => kk.1 (by cases c <;> first | rfl | exact absurd q (by decide)), fun q => kk.2 (by cases c <;> first | rfl | exact absurd rfl q)⟩
theorem xq_if_neB {c : Bool} {off : Int} {tgt : Nat} (d : decode (mC M) pc = .ok (.ifCond .ne off, 3)) (ht : (pc : Int) + off = (tgt : Int)) (kk : (c = true → Xq M k b1 b2 tgt L st S H Q) ∧ (c = false → Xq M k b1 b2 (pc + 3) L st S H Q)) : Xq M k b1 b2 pc L (.int (bI c) :: st) S H Q := xq_if_ne d ht ⟨fun q => kk.1 (by cases c <;> first | rfl | exact absurd rfl q), fun q => kk.2 (by cases c <;> first | rfl | exact absurd q (by decide))⟩
theorem xq_ialdN {p : Nat} {v : Int32} (d : decode (mC M) pc = .ok (.iaload, 1)) (hs : fS S a = (1, n)) (hp : p < n) (hn : n ≤ 100000) (hv : hI H a p = v) (kk : Xq M k b1 b2 (pc + 1) L (.int v :: st) S H Q) : Xq M k b1 b2 pc L (.int (nI p) :: .ref a :: st) S H Q := xq_iald d hs (vp_n hp hn) (by rw [clampN hp hn, hv]; exact kk)
theorem xq_baldN {p : Nat} {v : Int32} (d : decode (mC M) pc = .ok (.baload, 1)) (hs : fS S a = (2, n)) (hp : p < n) (hn : n ≤ 100000) (hv : hI H a p = v) (kk : Xq M k b1 b2 (pc + 1) L (.int v :: st) S H Q) : Xq M k b1 b2 pc L (.int (nI p) :: .ref a :: st) S H Q := xq_bald d hs (vp_n hp hn) (by rw [clampN hp hn, hv]; exact kk)
theorem xq_zaldN {p : Nat} {v : Int32} (d : decode (mC M) pc = .ok (.baload, 1)) (hs : fS S a = (3, n)) (hp : p < n) (hn : n ≤ 100000) (hv : hI H a p = v) (kk : Xq M k b1 b2 (pc + 1) L (.int v :: st) S H Q) : Xq M k b1 b2 pc L (.int (nI p) :: .ref a :: st) S H Q := xq_zald d hs (vp_n hp hn) (by rw [clampN hp hn, hv]; exact kk)
theorem xq_laldN {p : Nat} {v : Int64} (d : decode (mC M) pc = .ok (.laload, 1)) (hs : fS S a = (4, n)) (hp : p < n) (hn : n ≤ 100000) (hv : hL H a p = v) (kk : Xq M k b1 b2 (pc + 1) L (.long v :: st) S H Q) : Xq M k b1 b2 pc L (.int (nI p) :: .ref a :: st) S H Q := xq_lald d hs (vp_n hp hn) (by rw [clampN hp hn, hv]; exact kk)
theorem xq_iastN {p : Nat} {x : Int32} (d : decode (mC M) pc = .ok (.iastore, 1)) (hs : fS S a = (1, n)) (hp : p < n) (hn : n ≤ 100000) (kk : Xq M k b1 b2 (pc + 1) L st S (sI H a p x) Q) : Xq M k b1 b2 pc L (.int x :: .int (nI p) :: .ref a :: st) S H Q := xq_iast d hs (vp_n hp hn) (by rw [clampN hp hn]; exact kk)
theorem xq_bastN {p : Nat} {x : Int32} (d : decode (mC M) pc = .ok (.bastore, 1)) (hs : fS S a = (2, n)) (hp : p < n) (hn : n ≤ 100000) (kk : Xq M k b1 b2 (pc + 1) L st S (sI H a p (x.toInt8.toInt32)) Q) : Xq M k b1 b2 pc L (.int x :: .int (nI p) :: .ref a :: st) S H Q := xq_bast d hs (vp_n hp hn) (by rw [clampN hp hn]; exact kk)
theorem xq_zastN {p : Nat} {x : Int32} (d : decode (mC M) pc = .ok (.bastore, 1)) (hs : fS S a = (3, n)) (hp : p < n) (hn : n ≤ 100000) (hz : x = 0 ∨ x = 1) (kk : Xq M k b1 b2 (pc + 1) L st S (sI H a p x) Q) : Xq M k b1 b2 pc L (.int x :: .int (nI p) :: .ref a :: st) S H Q := xq_zast d hs (vp_n hp hn) hz (by rw [clampN hp hn]; exact kk)
theorem xq_lastN {p : Nat} {x : Int64} (d : decode (mC M) pc = .ok (.lastore, 1)) (hs : fS S a = (4, n)) (hp : p < n) (hn : n ≤ 100000) (kk : Xq M k b1 b2 (pc + 1) L st S (sL H a p x) Q) : Xq M k b1 b2 pc L (.long x :: .int (nI p) :: .ref a :: st) S H Q := xq_last d hs (vp_n hp hn) (by rw [clampN hp hn]; exact kk)
theorem xq_getIE {C : String} {T : u_T} {N ci k0 i a : Nat} {ty : Nat → FieldType} {v : Int32} (cl : xCl ci C T N ty) (hk0 : k0 < N) (hf : fK ci k0 = 0) (hl : Cond.fieldLink (mY M).cls i C (T k0).2.1 (T k0).2.2.1 ∈ lw_g) (d : decode (mC M) pc = .ok (.getfield i, 3)) (hs : fS S a = (6, ci)) (hv : hI H a k0 = v) (kk : Xq M k b1 b2 (pc + 3) L (.int v :: st) S H Q) : Xq M k b1 b2 pc L (.ref a :: st) S H Q := xq_getI cl hk0 hf hl d hs (by rw [hv]; exact kk)
theorem xq_getLE {C : String} {T : u_T} {N ci k0 i a : Nat} {ty : Nat → FieldType} {v : Int64} (cl : xCl ci C T N ty) (hk0 : k0 < N) (hf : fK ci k0 = 1) (hl : Cond.fieldLink (mY M).cls i C (T k0).2.1 (T k0).2.2.1 ∈ lw_g) (d : decode (mC M) pc = .ok (.getfield i, 3)) (hs : fS S a = (6, ci)) (hv : hL H a k0 = v) (kk : Xq M k b1 b2 (pc + 3) L (.long v :: st) S H Q) : Xq M k b1 b2 pc L (.ref a :: st) S H Q := xq_getL cl hk0 hf hl d hs (by rw [hv]; exact kk)
end XQ
