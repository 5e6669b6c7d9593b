/-! ===== the text that holds the words ===== -/
section STX
variable {M M' : xM} {k k' b1 b2 c1 c2 pc i n j m : Nat} {L : List (Option Value)} {st : List Value} {S S1 : xS} {H H1 : xH} {R : xR} {Q : xR → Prop}
theorem ex_ldcT (d : decode (mC M) pc = .ok (.ldc i, 2)) (ho : ((mY M).cls = RX9 ∧ i = xPoolA) ∨ ((mY M).cls = RX11 ∧ i = xPoolB)) (kk : Ex M k b1 b2 (pc + 2) L (.float 0 :: st) S H R) : Ex M k b1 b2 pc L st S H R := by
  intro l base D tc sa p e Rm s m args below meth c Hh locs cells slots ls C hR hL
  have hG := C.1.2.2.2.2.2.2.2.2
  have hf := C.1.2.2.2.2.2.2.1
  have k2 := kk l base D tc sa p e Rm s m args below meth c Hh locs cells slots ls C hR hL
  rcases ho with ⟨e1, e2⟩ | ⟨e1, e2⟩
  · subst e2
    rw [e1] at hf
    exact va_ldcS C.1.1 C.1.2.1 hf hG.2.2.2.1.1 d k2
  · subst e2
    rw [e1] at hf
    exact va_ldcS C.1.1 C.1.2.1 hf hG.2.2.2.1.2 d k2
theorem ex_getTv (d : decode (mC M) pc = .ok (.getfield i, 3)) (hl : Cond.fieldLink (mY M).cls i "java/lang/String" "value" "[B" ∈ lw_g) (kk : Ex M k b1 b2 (pc + 3) L (.float 1 :: st) S H R) : Ex M k b1 b2 pc L (.float 0 :: st) S H R := by
  intro l base D tc sa p e Rm s m args below meth c Hh locs cells slots ls C hR hL
  have hG := C.1.2.2.2.2.2.2.2.2
  exact vk_getf C.1.1 C.1.2.1 (hG.2.2.2.2.1.1 0 (by decide)).2.2.1 C.2.2 C.1.2.2.2.2.2.2.1 (C.1.2.2.2.2.2.2.2.1 _ hl) (fun _ h => h) d (kk l base D tc sa p e Rm s m args below meth c Hh locs cells slots ls C hR hL)
theorem ex_getTc (d : decode (mC M) pc = .ok (.getfield i, 3)) (hl : Cond.fieldLink (mY M).cls i "java/lang/String" "coder" "B" ∈ lw_g) (kk : Ex M k b1 b2 (pc + 3) L (.int 0 :: st) S H R) : Ex M k b1 b2 pc L (.float 0 :: st) S H R := by
  intro l base D tc sa p e Rm s m args below meth c Hh locs cells slots ls C hR hL
  have hG := C.1.2.2.2.2.2.2.2.2
  exact vk_getf C.1.1 C.1.2.1 (hG.2.2.2.2.1.1 0 (by decide)).2.1 C.2.2 C.1.2.2.2.2.2.2.1 (C.1.2.2.2.2.2.2.2.1 _ hl) (fun _ h => h) d (kk l base D tc sa p e Rm s m args below meth c Hh locs cells slots ls C hR hL)
theorem ex_getS1 (d : decode (mC M) pc = .ok (.getstatic i, 3)) (hl : Cond.fieldLink (mY M).cls i "java/lang/String" "COMPACT_STRINGS" "Z" ∈ lw_g) (kk : Ex M k b1 b2 (pc + 3) L (.int 1 :: st) S H R) : Ex M k b1 b2 pc L st S H R := by
  intro l base D tc sa p e Rm s m args below meth c Hh locs cells slots ls C hR hL
  have hG := C.1.2.2.2.2.2.2.2.2
  exact va_gets C.1.1 C.1.2.1 hG.2.2.2.2.2.1 C.2.2 C.1.2.2.2.2.2.2.1 (C.1.2.2.2.2.2.2.2.1 _ hl) (fun _ h => h) d (kk l base D tc sa p e Rm s m args below meth c Hh locs cells slots ls C hR hL)
theorem ex_lenT (d : decode (mC M) pc = .ok (.arraylength, 1)) (kk : Ex M k b1 b2 (pc + 1) L (.int (nI 137) :: st) S H R) : Ex M k b1 b2 pc L (.float 1 :: st) S H R := by
  intro l base D tc sa p e Rm s m args below meth c Hh locs cells slots ls C hR hL
  have hG := C.1.2.2.2.2.2.2.2.2
  exact va_tlen (ty := .byte) C.1.1 C.1.2.1 (hG.2.2.2.2.1.1 0 (by decide)).2.2.2 C.2.2 (v := nI 137) (by decide +kernel) d (kk l base D tc sa p e Rm s m args below meth c Hh locs cells slots ls C hR hL)
theorem ex_baldT {x : Int32} (d : decode (mC M) pc = .ok (.baload, 1)) (hin : vp_in x 137) (kk : Ex M k b1 b2 (pc + 1) L (.int (xTextL.getD x.toNatClampNeg 0) :: st) S H R) : Ex M k b1 b2 pc L (.int x :: .float 1 :: st) S H R := by
  intro l base D tc sa p e Rm s m args below meth c Hh locs cells slots ls C hR hL
  have hG := C.1.2.2.2.2.2.2.2.2
  exact va_tb (v := .int (xTextL.getD x.toNatClampNeg 0)) C.1.1 C.1.2.1 (hG.2.2.2.2.1.1 0 (by decide)).2.2.2 C.2.2 hin rfl d (kk l base D tc sa p e Rm s m args below meth c Hh locs cells slots ls C hR hL)
theorem ex_callT {As rest : List Value} {r : Option Value} (hg : xGd M' n) (d : decode (mC M) pc = .ok (.invokevirtual i, 3)) (hl : Cond.methodLink (mY M).cls i (mY M') ∈ lw_g) (hi : Cond.instanceMethod (mY M') ∈ lw_g) (hse : Cond.selects (mY M').cls (mY M') (mY M') ∈ lw_g) (hC : (mY M').cls = "java/lang/String") (hn : As.length = n) (hst : st = As.reverse ++ .float 0 :: rest) (hW : (rest.map fun v => v.category).sum ≤ 8) (hk : k' < k)
    (hE : Ev M' k' c1 c2 (.float 0 :: As) S H (r, S1, H1)) (kk : Ex M k b1 b2 (pc + 3) L (r.toList ++ rest) S1 H1 R) : Ex M k (b1 + c1) (b2 + c2) pc L st S H R := by
  intro l base D tc sa p e Rm s m args below meth c Hh locs cells slots ls C0 hRp hLv
  have hts := C0.1.2.2.2.2.2.2.2.1
  have hG := C0.1.2.2.2.2.2.2.2.2
  have hr := C0.2.1
  subst hst
  have hmx := hg.2.2.2
  obtain ⟨cellB, g1, g2, g3⟩ := vk_recv hG.2.2.2.2.1 (by decide : 0 < 1) C0.2.2
  refine xW_call (va_runV (Ts := lw_g) (own := (mY M).cls) (C := (mY M').cls) (As := As.map (xV base sa)) (b := sa 0) (n := n) ⟨C0.1.1, C0.1.2.1, C0.1.2.2.1, C0.1.2.2.2.2.2.2.1, hts⟩ (hE l base D tc sa) ⟨callB_of n hts (xGood hg) rfl rfl rfl (hts _ hg.2.1) (hts _ hl) hg.2.2.1 ⟨by show k' + 1 ≤ _; omega, by show 8 + (mN M' + 11) + 100 * k' ≤ _; omega⟩, hts _ hi, hts _ hse⟩ ⟨xBlind, ⟨cellB, g1, g2, by rw [hC]; exact g3⟩, fun U hU hW => xPre (args := .float 0 :: As) hG C0.2.2 hRp hU hW⟩ rfl (by rw [List.length_map]; exact hn) hLv.1 (by simp [xV]) (lv_room (by rw [xV_sum]; exact hW)) d ⟨by omega, by omega⟩) C0 hLv kk
/-- a static whose reference nobody knows, among numbers -/
theorem ex_getSq (d : decode (mC M) pc = .ok (.getstatic i, 3)) (hl : Cond.fieldLink (mY M).cls i "jdk/internal/util/Preconditions" "SIOOBE_FORMATTER" "Ljava/util/function/BiFunction;" ∈ lw_g) (hLi : ∀ (q : Nat) (v : Value), L[q]? = some (some v) → ∃ x, v = .int x) (hsi : ∀ v ∈ st, ∃ x, v = .int x) (hr : R.1 = none) (k0 : Ex M k b1 b2 (pc + 3) L (.null :: st) S H R) (k1 : Ex M k b1 b2 (pc + 3) L (.float 4 :: st) S H R) : Ex M k b1 b2 pc L st S H R := by
  intro l base D tc sa p e Rm s m args below meth c Hh locs cells slots ls C hR hL
  have hG := C.1.2.2.2.2.2.2.2.2
  rcases hG.2.2.2.2.2.2.1 with h | ⟨t, h⟩
  · exact va_gets C.1.1 C.1.2.1 h C.2.2 C.1.2.2.2.2.2.2.1 (C.1.2.2.2.2.2.2.2.1 _ hl) (fun _ h => h) d (k0 l base D tc sa p e Rm s m args below meth c Hh locs cells slots ls C hR hL)
  · have k2 := k1 l base D tc (fun q => if q = 4 then t else sa q) p e Rm s m args below meth c Hh locs cells slots ls C hR ⟨hL.1, hL.2.1, fun q v hv => by
      obtain ⟨x, rfl⟩ := hLi q v hv
      exact hL.2.2 q _ hv⟩
    have e1 : (Value.float 4 :: st).map (xV base (fun q => if q = 4 then t else sa q)) = .ref t :: st.map (xV base sa) := by
      rw [List.map_cons]
      congr 1
      exact List.map_congr_left (fun v hv => by obtain ⟨x, rfl⟩ := hsi v hv; rfl)
    rw [e1] at k2
    obtain ⟨r1, r2, r3⟩ := R
    subst hr
    exact va_gets C.1.1 C.1.2.1 h C.2.2 C.1.2.2.2.2.2.2.1 (C.1.2.2.2.2.2.2.2.1 _ hl) (fun _ h => h) d k2
theorem xq_ldcT (d : decode (mC M) pc = .ok (.ldc i, 2)) (ho : ((mY M).cls = RX9 ∧ i = xPoolA) ∨ ((mY M).cls = RX11 ∧ i = xPoolB)) (kk : Xq M k b1 b2 (pc + 2) L (.float 0 :: st) S H Q) : Xq M k b1 b2 pc L st S H Q := by
  obtain ⟨R, q, e⟩ := kk
  exact ⟨R, q, ex_ldcT d ho e⟩
theorem xq_getTv (d : decode (mC M) pc = .ok (.getfield i, 3)) (hl : Cond.fieldLink (mY M).cls i "java/lang/String" "value" "[B" ∈ lw_g) (kk : Xq M k b1 b2 (pc + 3) L (.float 1 :: st) S H Q) : Xq M k b1 b2 pc L (.float 0 :: st) S H Q := by
  obtain ⟨R, q, e⟩ := kk
  exact ⟨R, q, ex_getTv d hl e⟩
theorem xq_getTc (d : decode (mC M) pc = .ok (.getfield i, 3)) (hl : Cond.fieldLink (mY M).cls i "java/lang/String" "coder" "B" ∈ lw_g) (kk : Xq M k b1 b2 (pc + 3) L (.int 0 :: st) S H Q) : Xq M k b1 b2 pc L (.float 0 :: st) S H Q := by
  obtain ⟨R, q, e⟩ := kk
  exact ⟨R, q, ex_getTc d hl e⟩
theorem xq_getS1 (d : decode (mC M) pc = .ok (.getstatic i, 3)) (hl : Cond.fieldLink (mY M).cls i "java/lang/String" "COMPACT_STRINGS" "Z" ∈ lw_g) (kk : Xq M k b1 b2 (pc + 3) L (.int 1 :: st) S H Q) : Xq M k b1 b2 pc L st S H Q := by
  obtain ⟨R, q, e⟩ := kk
  exact ⟨R, q, ex_getS1 d hl e⟩
theorem xq_lenT (d : decode (mC M) pc = .ok (.arraylength, 1)) (kk : Xq M k b1 b2 (pc + 1) L (.int (nI 137) :: st) S H Q) : Xq M k b1 b2 pc L (.float 1 :: st) S H Q := by
  obtain ⟨R, q, e⟩ := kk
  exact ⟨R, q, ex_lenT d e⟩
theorem xq_baldT {x : Int32} (d : decode (mC M) pc = .ok (.baload, 1)) (hin : vp_in x 137) (kk : Xq M k b1 b2 (pc + 1) L (.int (xTextL.getD x.toNatClampNeg 0) :: st) S H Q) : Xq M k b1 b2 pc L (.int x :: .float 1 :: st) S H Q := by
  obtain ⟨R, q, e⟩ := kk
  exact ⟨R, q, ex_baldT d hin e⟩
theorem xq_callT0 {rest : List Value} {v : Value} (hg : xGd M' 0) (d : decode (mC M) pc = .ok (.invokevirtual i, 3)) (hl : Cond.methodLink (mY M).cls i (mY M') ∈ lw_g) (hi : Cond.instanceMethod (mY M') ∈ lw_g) (hse : Cond.selects (mY M').cls (mY M') (mY M') ∈ lw_g) (hC : (mY M').cls = "java/lang/String") (hW : (rest.map fun v => v.category).sum ≤ 8) (hk : k' < k) (hE : Pv M' k' [.float 0] S H v) (kk : Xq M k b1 b2 (pc + 3) L (v :: rest) S H Q) : Xq M k b1 b2 pc L (.float 0 :: rest) S H Q := by
  obtain ⟨R, q, e⟩ := kk
  exact ⟨R, q, ex_callT (r := some v) (c1 := 0) (c2 := 0) (As := []) hg d hl hi hse hC rfl rfl hW hk hE e⟩
theorem xq_callT1 {rest : List Value} {x v : Value} (hg : xGd M' 1) (d : decode (mC M) pc = .ok (.invokevirtual i, 3)) (hl : Cond.methodLink (mY M).cls i (mY M') ∈ lw_g) (hi : Cond.instanceMethod (mY M') ∈ lw_g) (hse : Cond.selects (mY M').cls (mY M') (mY M') ∈ lw_g) (hC : (mY M').cls = "java/lang/String") (hW : (rest.map fun v => v.category).sum ≤ 8) (hk : k' < k) (hE : Pv M' k' [.float 0, x] S H v) (kk : Xq M k b1 b2 (pc + 3) L (v :: rest) S H Q) : Xq M k b1 b2 pc L (x :: .float 0 :: rest) S H Q := by
  obtain ⟨R, q, e⟩ := kk
  exact ⟨R, q, ex_callT (r := some v) (c1 := 0) (c2 := 0) (As := [x]) hg d hl hi hse hC rfl rfl hW hk hE e⟩
end STX
section STY
variable {S : xS} {H : xH} {i n : Nat} {v : Value}
theorem fl_RJ0_38 : Cond.fieldLink RJ0 38 "java/lang/String" "COMPACT_STRINGS" "Z" ∈ lw_g := lw_gin 48 (by decide +kernel) (by decide +kernel)
theorem fl_RJ0_1053 : Cond.fieldLink RJ0 1053 "jdk/internal/util/Preconditions" "SIOOBE_FORMATTER" "Ljava/util/function/BiFunction;" ∈ lw_g := lw_gin 64 (by decide +kernel) (by decide +kernel)
theorem fl_RJ0_9 : Cond.fieldLink RJ0 9 "java/lang/String" "value" "[B" ∈ lw_g := lw_gin 1970 (by decide +kernel) (by decide +kernel)
theorem fl_RJ0_15 : Cond.fieldLink RJ0 15 "java/lang/String" "coder" "B" ∈ lw_g := lw_gin 1971 (by decide +kernel) (by decide +kernel)
/-- a letter of the text -/
def tch (i : Nat) : Nat := (xTextL.getD i 0).toInt.toNat
theorem tch_lt : ∀ i, i < 137 → tch i < 123 := by
  have : ∀ i : Fin 137, tch i.val < 123 := by decide +kernel
  exact fun i hi => this ⟨i, hi⟩
theorem tch_c : ∀ i, i < 137 → ((xTextL.getD i 0 &&& nI 255).toUInt32 % 65536).toInt32 = nI (tch i) := by
  have : ∀ i : Fin 137, ((xTextL.getD i.val 0 &&& nI 255).toUInt32 % 65536).toInt32 = nI (tch i.val) := by decide +kernel
  exact fun i hi => this ⟨i, hi⟩
theorem tch_w : ∀ i, i < 137 → narrow .char (.int (nI (tch i))) = .int (nI (tch i)) := by
  have : ∀ i : Fin 123, narrow .char (.int (nI i.val)) = .int (nI i.val) := by decide +kernel
  exact fun i hi => this ⟨tch i, tch_lt i hi⟩
theorem s_coder : Pv mJ0_coder_7d493 0 [.float 0] S H (.int 0) := by
  refine vq_ev (vq_intro (by decide) (by exact Nat.le_of_ble_eq_true rfl) rfl ?_)
  refine xq_getS1 dJ0_coder_7d493_0 fl_RJ0_38 ?_
  refine xq_if_eq dJ0_coder_7d493_3 rfl ⟨fun h => absurd h (by decide), fun _ => ?_⟩
  refine xq_sload_n dJ0_coder_7d493_6 rfl rfl ?_
  refine xq_getTc dJ0_coder_7d493_7 fl_RJ0_15 ?_
  refine xq_goto dJ0_coder_7d493_10 rfl ?_
  exact xq_nret dJ0_coder_7d493_14 rfl rfl rfl
theorem s_isLatin1 : Pv mJ0_isLatin1_aae02 0 [.float 0] S H (.int 1) := by
  refine vq_ev (vq_intro (by decide) (by exact Nat.le_of_ble_eq_true rfl) rfl ?_)
  refine xq_getS1 dJ0_isLatin1_aae02_0 fl_RJ0_38 ?_
  refine xq_if_eq dJ0_isLatin1_aae02_3 rfl ⟨fun h => absurd h (by decide), fun _ => ?_⟩
  refine xq_sload_n dJ0_isLatin1_aae02_6 rfl rfl ?_
  refine xq_getTc dJ0_isLatin1_aae02_7 fl_RJ0_15 ?_
  refine xq_if_ne dJ0_isLatin1_aae02_10 rfl ⟨fun h => absurd rfl h, fun _ => ?_⟩
  refine xq_iconst dJ0_isLatin1_aae02_13 ic1 ?_
  refine xq_goto dJ0_isLatin1_aae02_14 rfl ?_
  exact xq_zret dJ0_isLatin1_aae02_18 rfl (Or.inr rfl) rfl
theorem s_length : Pv mJ0_length_8abf5 1 [.float 0] S H (vN 137) := by
  refine vq_ev (vq_intro (by decide) (by exact Nat.le_of_ble_eq_true rfl) rfl ?_)
  refine xq_sload_n dJ0_length_8abf5_0 rfl rfl ?_
  refine xq_getTv dJ0_length_8abf5_1 fl_RJ0_9 ?_
  refine xq_lenT dJ0_length_8abf5_4 ?_
  refine xq_sload_n dJ0_length_8abf5_5 rfl rfl ?_
  refine xq_callT0 gd_J0_coder_7d493 dJ0_length_8abf5_6 ml_RJ0_335 im_J0_coder_7d493 se_J0_coder_7d493 rfl (by exact Nat.le_of_ble_eq_true rfl) (by decide) s_coder ?_
  refine xq_ishr dJ0_length_8abf5_9 ?_
  exact xq_iret dJ0_length_8abf5_10 rfl rfl
theorem s_check3 (hi : i < n) (hn : n < 2147483648) (hv : v.category = 1) : Pv mJ3_checkIndex_8e157 0 [vN i, vN n, v] S H (vN i) := by
  refine vq_ev (vq_intro (L := [some (vN i), some (vN n), some v]) (by decide) ?_ ?_ ?_)
  · show (1 : Nat) + (1 + (v.category + 0)) ≤ 3
    rw [hv]; decide
  · show xPad 3 (xL0 [vN i, vN n, v]) = _
    have e : xL0 [vN i, vN n, v] = [some (vN i), some (vN n), some v] := by
      show some (vN i) :: some (vN n) :: (if v.category = 2 then some v :: none :: xL0 [] else some v :: xL0 []) = _
      rw [hv]; rfl
    rw [e]; rfl
  refine xq_iload_n dJ3_checkIndex_8e157_0 rfl rfl ?_
  refine xq_if_ltN dJ3_checkIndex_8e157_1 rfl (by omega) ?_
  refine xq_iload_n dJ3_checkIndex_8e157_4 rfl rfl ?_
  refine xq_iload_n dJ3_checkIndex_8e157_5 rfl rfl ?_
  refine xq_icmp_ltN dJ3_checkIndex_8e157_6 rfl (by omega) (by omega) ⟨fun h => ?_, fun h => absurd h (by omega)⟩
  refine xq_iload_n dJ3_checkIndex_8e157_16 rfl rfl ?_
  exact xq_iret dJ3_checkIndex_8e157_17 rfl rfl
theorem s_check (hi : i < n) (hn : n < 2147483648) : Ev mJ0_checkIndex_df160 1 0 0 [vN i, vN n] S H (none, S, H) := by
  refine vq_ev (vq_intro (by decide) (by exact Nat.le_of_ble_eq_true rfl) rfl ?_)
  refine xq_iload_n dJ0_checkIndex_df160_0 rfl rfl ?_
  refine xq_iload_n dJ0_checkIndex_df160_1 rfl rfl ?_
  have go : ∀ v : Value, v.category = 1 → Xq mJ0_checkIndex_df160 1 0 0 5 [some (vN i), some (vN n)] [v, vN n, vN i] S H (fun r => r = (none, S, H)) := fun v hv => by
    refine xq_callS3P gd_J3_checkIndex_8e157 dJ0_checkIndex_df160_5 ml_RJ0_1059 im_J3_checkIndex_8e157 (by exact Nat.le_of_ble_eq_true rfl) (by decide) (s_check3 hi hn hv) ?_
    refine xq_pop dJ0_checkIndex_df160_8 rfl ?_
    exact xq_vret dJ0_checkIndex_df160_9 rfl rfl
  obtain ⟨R0, q0, e0⟩ := go .null rfl
  obtain ⟨R2, q2, e2⟩ := go (.float 4) rfl
  subst q0; subst q2
  refine ⟨_, rfl, ex_getSq dJ0_checkIndex_df160_2 fl_RJ0_1053 (fun q v hv => ?_) (fun v hv => ?_) rfl e0 e2⟩
  · rcases q with _ | _ | q
    · exact ⟨_, (Option.some.inj (Option.some.inj hv)).symm⟩
    · exact ⟨_, (Option.some.inj (Option.some.inj hv)).symm⟩
    · cases hv
  · rcases List.mem_cons.mp hv with e | hv
    · exact ⟨_, e⟩
    · rcases List.mem_cons.mp hv with e | hv
      · exact ⟨_, e⟩
      · cases hv
theorem s_lat (hi : i < 137) : Pv mJ1_charAt_3b067 2 [.float 1, vN i] S H (vN (tch i)) := by
  refine vq_ev (vq_intro (by decide) (by exact Nat.le_of_ble_eq_true rfl) rfl ?_)
  refine xq_iload_n dJ1_charAt_3b067_0 rfl rfl ?_
  refine xq_sload_n dJ1_charAt_3b067_1 rfl rfl ?_
  refine xq_lenT dJ1_charAt_3b067_2 ?_
  refine xq_callS2N gd_J0_checkIndex_df160 dJ1_charAt_3b067_3 ml_RJ1_9 im_J0_checkIndex_df160 (by exact Nat.le_of_ble_eq_true rfl) (by decide) (P := fun H' => H' = H) ⟨_, ⟨H, rfl, rfl⟩, s_check hi (by decide)⟩ ?_
  intro H1 h1
  subst h1
  refine xq_sload_n dJ1_charAt_3b067_6 rfl rfl ?_
  refine xq_iload_n dJ1_charAt_3b067_7 rfl rfl ?_
  refine xq_baldT dJ1_charAt_3b067_8 (vp_in_nI hi (by decide)) ?_
  rw [nI_clamp (by omega)]
  refine xq_sipush dJ1_charAt_3b067_9 sp255 ?_
  refine xq_iand dJ1_charAt_3b067_12 ?_
  refine xq_i2c dJ1_charAt_3b067_13 ?_
  rw [tch_c i hi]
  exact xq_nret dJ1_charAt_3b067_14 rfl (tch_w i hi) rfl
theorem s_charAt (hi : i < 137) : Pv mJ0_charAt_5068e 3 [.float 0, vN i] S H (vN (tch i)) := by
  refine vq_ev (vq_intro (by decide) (by exact Nat.le_of_ble_eq_true rfl) rfl ?_)
  refine xq_sload_n dJ0_charAt_5068e_0 rfl rfl ?_
  refine xq_callT0 gd_J0_isLatin1_aae02 dJ0_charAt_5068e_1 ml_RJ0_492 im_J0_isLatin1_aae02 se_J0_isLatin1_aae02 rfl (by exact Nat.le_of_ble_eq_true rfl) (by decide) s_isLatin1 ?_
  refine xq_if_eq dJ0_charAt_5068e_4 rfl ⟨fun h => absurd h (by decide), fun _ => ?_⟩
  refine xq_sload_n dJ0_charAt_5068e_7 rfl rfl ?_
  refine xq_getTv dJ0_charAt_5068e_8 fl_RJ0_9 ?_
  refine xq_iload_n dJ0_charAt_5068e_11 rfl rfl ?_
  refine xq_callS2P gd_J1_charAt_3b067 dJ0_charAt_5068e_12 ml_RJ0_495 im_J1_charAt_3b067 (by exact Nat.le_of_ble_eq_true rfl) (by decide) (s_lat hi) ?_
  exact xq_nret dJ0_charAt_5068e_15 rfl (tch_w i hi) rfl
end STY
