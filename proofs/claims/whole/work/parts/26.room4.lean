/-! ===== HatRoom: count, fault, named, feed ===== -/
section R4
variable {S : xS} {H H1 : xH} {t z k p q f i j l m n ps : Nat} {u : uSt} {T : uTx} {w w2 w3 : Int32}
def cntV (T : uTx) (u : uSt) (ps l : Nat) : Nat := if l = 0 then tNc T else if l = 1 then tNp T else if l = 2 then tNf T else if l = 3 then tNt T else if l = 4 then tNa T else if l = 5 then tNk T else if l = 6 then uHr u else if l = 7 then uZ u else if l = 8 then pop (kns u) else if l = 9 then pop (uSd u) else if l = 10 then pzs u else if l = 11 then uHd u else if l = 12 then uLi u else ps
theorem c_count0 (hr : RdP S H t T u z) (hno : w.toInt < 0 ∨ 13 < w.toInt) : Pv mX10_count 5 [.ref 0, .int w] S H (vZ (-1)) := by
  have hF := hr.fx
  refine vq_ev (vq_intro (by decide) (by exact Nat.le_of_ble_eq_true rfl) rfl ?_)
  refine xq_iload_n dX10_count_0 rfl rfl ?_
  refine xq_tableOut dX10_count_1 hno rfl ?_
  refine xq_iconst dX10_count_199 icm1 ?_
  refine xq_iret dX10_count_200 rfl ?_
  show _ = _; rw [zm1]
theorem c_count1 (hr : RdP S H t T u z) (hps : hI H 0 14 = nI ps) (hl : l < 14) : Pv mX10_count 5 [.ref 0, vN l] S H (vN (cntV T u ps l)) := by
  have hF := hr.fx; have hT := hr.tx; have tk := hr.tk; have hu := hr.st; have ok := hr.ok; have hm := hr.mi; have ht := hr.gt; have ht24 := hr.t24; have ht45 := hr.t45; have hz := ok.n; have hnp := ok.np; have hrl := ok.rl; have hnpe := hr.np; have h67 : 67 ≤ 67 := Nat.le_refl _; have ha := Fx.g67 hF; have hzz := hr.zb; have hkl := kns_lt hnp; have hsd := ok.sd
  refine vq_ev (vq_intro (by decide) (by exact Nat.le_of_ble_eq_true rfl) rfl ?_)
  refine xq_iload_n dX10_count_0 rfl rfl ?_
  by_cases hs1 : 0 ≤ l ∧ l ≤ 13
  · skip
    have hq1 : l = 0 ∨ l = 1 ∨ l = 2 ∨ l = 3 ∨ l = 4 ∨ l = 5 ∨ l = 6 ∨ l = 7 ∨ l = 8 ∨ l = 9 ∨ l = 10 ∨ l = 11 ∨ l = 12 ∨ l = 13 := by omega
    rcases hq1 with rfl | rfl | rfl | rfl | rfl | rfl | rfl | rfl | rfl | rfl | rfl | rfl | rfl | rfl
    · skip
      refine xq_tableIn dX10_count_1 (by decide) (by decide) rfl rfl ?_
      refine xq_aload_n dX10_count_72 rfl rfl ?_
      refine xq_getR clX10 (by decide) rfl fl_RX10_48 dX10_count_73 (Fx.s0 hF) hr.sc ?_
      refine xq_getF clX8 (by decide) rfl fl_RX10_114 dX10_count_76 (Tx.s0 ht) (Tx.r0 ht) ?_
      refine xq_getIE clX5 (by decide) rfl fl_RX10_309 dX10_count_79 (Nm.s0 (Tx.n1 ht)) hT.nc ?_
      refine xq_iret dX10_count_82 rfl ?_
      rfl
    · skip
      refine xq_tableIn dX10_count_1 (by decide) (by decide) rfl rfl ?_
      refine xq_aload_n dX10_count_83 rfl rfl ?_
      refine xq_getR clX10 (by decide) rfl fl_RX10_48 dX10_count_84 (Fx.s0 hF) hr.sc ?_
      refine xq_getF clX8 (by decide) rfl fl_RX10_124 dX10_count_87 (Tx.s0 ht) (Tx.r1 ht) ?_
      refine xq_getIE clX5 (by decide) rfl fl_RX10_309 dX10_count_90 (Nm.s0 (Tx.n3 ht)) hT.np ?_
      refine xq_iret dX10_count_93 rfl ?_
      rfl
    · skip
      refine xq_tableIn dX10_count_1 (by decide) (by decide) rfl rfl ?_
      refine xq_aload_n dX10_count_94 rfl rfl ?_
      refine xq_getR clX10 (by decide) rfl fl_RX10_48 dX10_count_95 (Fx.s0 hF) hr.sc ?_
      refine xq_getF clX8 (by decide) rfl fl_RX10_127 dX10_count_98 (Tx.s0 ht) (Tx.r2 ht) ?_
      refine xq_getIE clX5 (by decide) rfl fl_RX10_309 dX10_count_101 (Nm.s0 (Tx.n5 ht)) hT.nf ?_
      refine xq_iret dX10_count_104 rfl ?_
      rfl
    · skip
      refine xq_tableIn dX10_count_1 (by decide) (by decide) rfl rfl ?_
      refine xq_aload_n dX10_count_105 rfl rfl ?_
      refine xq_getR clX10 (by decide) rfl fl_RX10_48 dX10_count_106 (Fx.s0 hF) hr.sc ?_
      refine xq_getIE clX8 (by decide) rfl fl_RX10_310 dX10_count_109 (Tx.s0 ht) hT.nt ?_
      refine xq_iret dX10_count_112 rfl ?_
      rfl
    · skip
      refine xq_tableIn dX10_count_1 (by decide) (by decide) rfl rfl ?_
      refine xq_aload_n dX10_count_113 rfl rfl ?_
      refine xq_getR clX10 (by decide) rfl fl_RX10_48 dX10_count_114 (Fx.s0 hF) hr.sc ?_
      refine xq_getIE clX8 (by decide) rfl fl_RX10_313 dX10_count_117 (Tx.s0 ht) hT.na ?_
      refine xq_iret dX10_count_120 rfl ?_
      rfl
    · skip
      refine xq_tableIn dX10_count_1 (by decide) (by decide) rfl rfl ?_
      refine xq_aload_n dX10_count_121 rfl rfl ?_
      refine xq_getR clX10 (by decide) rfl fl_RX10_48 dX10_count_122 (Fx.s0 hF) hr.sc ?_
      refine xq_getF clX8 (by decide) rfl fl_RX10_316 dX10_count_125 (Tx.s0 ht) (Tx.r3 ht) ?_
      refine xq_getIE clX2 (by decide) rfl fl_RX10_320 dX10_count_128 (Kn.s0 (Tx.n7 ht)) hT.nk ?_
      refine xq_iret dX10_count_131 rfl ?_
      rfl
    · skip
      refine xq_tableIn dX10_count_1 (by decide) (by decide) rfl rfl ?_
      refine xq_aload_n dX10_count_132 rfl rfl ?_
      refine xq_getF clX10 (by decide) rfl fl_RX10_67 dX10_count_133 (Fx.s0 hF) (Fx.r0_9 hF) ?_
      refine xq_getIE clX7 (by decide) rfl fl_RX10_260 dX10_count_136 (St.s0 (Fx.g67 hF)) hu.f10 ?_
      refine xq_iret dX10_count_139 rfl ?_
      rfl
    · skip
      refine xq_tableIn dX10_count_1 (by decide) (by decide) rfl rfl ?_
      refine xq_aload_n dX10_count_140 rfl rfl ?_
      refine xq_getF clX10 (by decide) rfl fl_RX10_67 dX10_count_141 (Fx.s0 hF) (Fx.r0_9 hF) ?_
      refine xq_getIE clX7 (by decide) rfl fl_RX10_167 dX10_count_144 (St.s0 (Fx.g67 hF)) hu.sz ?_
      refine xq_iret dX10_count_147 rfl ?_
      rfl
    · skip
      refine xq_tableIn dX10_count_1 (by decide) (by decide) rfl rfl ?_
      refine xq_aload_n dX10_count_148 rfl rfl ?_
      refine xq_getF clX10 (by decide) rfl fl_RX10_67 dX10_count_149 (Fx.s0 hF) (Fx.r0_9 hF) ?_
      refine xq_callV0P clX7 gd_X7_knowers dX10_count_152 ml_RX10_213 im_X7_knowers se_X7_knowers rfl (St.s0 (Fx.g67 hF)) (by exact Nat.le_of_ble_eq_true rfl) (by decide) (c_knowers ha hu ok) ?_
      refine xq_callS1P gd_J6_bitCount_0f7a4 dX10_count_155 ml_RX10_217 im_J6_bitCount_0f7a4 (by exact Nat.le_of_ble_eq_true rfl) (by decide) (c_bitCount (by omega)) ?_
      refine xq_iret dX10_count_158 rfl ?_
      rfl
    · skip
      refine xq_tableIn dX10_count_1 (by decide) (by decide) rfl rfl ?_
      refine xq_aload_n dX10_count_159 rfl rfl ?_
      refine xq_getF clX10 (by decide) rfl fl_RX10_67 dX10_count_160 (Fx.s0 hF) (Fx.r0_9 hF) ?_
      refine xq_getIE clX7 (by decide) rfl fl_RX10_147 dX10_count_163 (St.s0 (Fx.g67 hF)) hu.f7 ?_
      refine xq_callS1P gd_J6_bitCount_0f7a4 dX10_count_166 ml_RX10_217 im_J6_bitCount_0f7a4 (by exact Nat.le_of_ble_eq_true rfl) (by decide) (c_bitCount (by omega)) ?_
      refine xq_iret dX10_count_169 rfl ?_
      rfl
    · skip
      refine xq_tableIn dX10_count_1 (by decide) (by decide) rfl rfl ?_
      refine xq_aload_n dX10_count_170 rfl rfl ?_
      refine xq_getF clX10 (by decide) rfl fl_RX10_67 dX10_count_171 (Fx.s0 hF) (Fx.r0_9 hF) ?_
      refine xq_callV0P clX7 gd_X7_prizesOfAll dX10_count_174 ml_RX10_323 im_X7_prizesOfAll se_X7_prizesOfAll rfl (St.s0 (Fx.g67 hF)) (by exact Nat.le_of_ble_eq_true rfl) (by decide) (c_prizesOfAll ha hu ok) ?_
      refine xq_iret dX10_count_177 rfl ?_
      rfl
    · skip
      refine xq_tableIn dX10_count_1 (by decide) (by decide) rfl rfl ?_
      refine xq_aload_n dX10_count_178 rfl rfl ?_
      refine xq_getF clX10 (by decide) rfl fl_RX10_67 dX10_count_179 (Fx.s0 hF) (Fx.r0_9 hF) ?_
      refine xq_getIE clX7 (by decide) rfl fl_RX10_326 dX10_count_182 (St.s0 (Fx.g67 hF)) hu.f8 ?_
      refine xq_iret dX10_count_185 rfl ?_
      rfl
    · skip
      refine xq_tableIn dX10_count_1 (by decide) (by decide) rfl rfl ?_
      refine xq_aload_n dX10_count_186 rfl rfl ?_
      refine xq_getF clX10 (by decide) rfl fl_RX10_67 dX10_count_187 (Fx.s0 hF) (Fx.r0_9 hF) ?_
      refine xq_getIE clX7 (by decide) rfl fl_RX10_266 dX10_count_190 (St.s0 (Fx.g67 hF)) hu.f9 ?_
      refine xq_iret dX10_count_193 rfl ?_
      rfl
    · skip
      refine xq_tableIn dX10_count_1 (by decide) (by decide) rfl rfl ?_
      refine xq_aload_n dX10_count_194 rfl rfl ?_
      refine xq_getIE clX10 (by decide) rfl fl_RX10_105 dX10_count_195 (Fx.s0 hF) hps ?_
      refine xq_iret dX10_count_198 rfl ?_
      rfl
  · skip
    exact absurd hl (by omega)
theorem c_fault (hF : gFx S) {fa fp : Int32} (h7 : hI H 2 7 = fa) (h8 : hI H 2 8 = fp) : Pv mX10_fault 0 [.ref 0, .int w] S H (.int (if w = 0 then fa else if w = nI 1 then fp else -1)) := by
  refine vq_ev (vq_intro (by decide) (by exact Nat.le_of_ble_eq_true rfl) rfl ?_)
  refine xq_iload_n dX10_fault_0 rfl rfl ?_
  refine xq_if_ne dX10_fault_1 rfl ⟨fun h1 => ?_, fun h1 => ?_⟩
  · skip
    refine xq_iload_n dX10_fault_12 rfl rfl ?_
    refine xq_iconst dX10_fault_13 ic1 ?_
    refine xq_icmp_ne dX10_fault_14 rfl ⟨fun h14 => ?_, fun h14 => ?_⟩
    · skip
      refine xq_iconst dX10_fault_27 icm1 ?_
      refine xq_iret dX10_fault_28 rfl ?_
      show _ = _; rw [if_neg h1, if_neg h14]
    · skip
      refine xq_aload_n dX10_fault_17 rfl rfl ?_
      refine xq_getF clX10 (by decide) rfl fl_RX10_18 dX10_fault_18 (Fx.s0 hF) (Fx.r0_2 hF) ?_
      refine xq_getIE clX9 (by decide) rfl fl_RX10_111 dX10_fault_21 (Fx.s2 hF) h8 ?_
      refine xq_goto dX10_fault_24 rfl ?_
      refine xq_iret dX10_fault_28 rfl ?_
      show _ = _; rw [if_neg h1, if_pos h14]
  · skip
    refine xq_aload_n dX10_fault_4 rfl rfl ?_
    refine xq_getF clX10 (by decide) rfl fl_RX10_18 dX10_fault_5 (Fx.s0 hF) (Fx.r0_2 hF) ?_
    refine xq_getIE clX9 (by decide) rfl fl_RX10_108 dX10_fault_8 (Fx.s2 hF) h7 ?_
    refine xq_iret dX10_fault_11 rfl ?_
    show _ = _; rw [if_pos h1]
theorem c_named0 (hr : RdP S H t T u z) (hno : w.toInt < 0 ∨ 2 < w.toInt) : Pv mX10_named 1 [.ref 0, .int w, .int w2] S H (vZ (-1)) := by
  have hF := hr.fx
  refine vq_ev (vq_intro (by decide) (by exact Nat.le_of_ble_eq_true rfl) rfl ?_)
  refine xq_iload_n dX10_named_0 rfl rfl ?_
  refine xq_tableOut dX10_named_1 hno rfl ?_
  refine xq_iconst dX10_named_64 icm1 ?_
  refine xq_iret dX10_named_65 rfl ?_
  show _ = _; rw [zm1]
def namV (T : uTx) (l : Nat) (w : Int32) : Int := if l = 0 then fdz (fun j => decide (nI (tCn T j) = w)) (tNc T) else if l = 1 then fdz (fun j => decide (nI (tPn T j) = w)) (tNp T) else fdz (fun j => decide (nI (tFn T j) = w)) (tNf T)
theorem c_named1 (hr : RdP S H t T u z) (hl : l < 3) : Pv mX10_named 1 [.ref 0, vN l, .int w2] S H (vZ (namV T l w2)) := by
  have hF := hr.fx; have hT := hr.tx; have tk := hr.tk; have hu := hr.st; have ok := hr.ok; have hm := hr.mi; have ht := hr.gt; have ht24 := hr.t24; have ht45 := hr.t45; have hz := ok.n; have hnp := ok.np; have hrl := ok.rl; have hnpe := hr.np; have h67 : 67 ≤ 67 := Nat.le_refl _; have ha := Fx.g67 hF; have hzz := hr.zb; have h1c := tk.nc; have h2p := tk.np; have h3f := tk.nf
  refine vq_ev (vq_intro (by decide) (by exact Nat.le_of_ble_eq_true rfl) rfl ?_)
  refine xq_iload_n dX10_named_0 rfl rfl ?_
  by_cases hs1 : 0 ≤ l ∧ l ≤ 2
  · skip
    have hq1 : l = 0 ∨ l = 1 ∨ l = 2 := by omega
    rcases hq1 with rfl | rfl | rfl
    · skip
      refine xq_tableIn dX10_named_1 (by decide) (by decide) rfl rfl ?_
      refine xq_aload_n dX10_named_28 rfl rfl ?_
      refine xq_getR clX10 (by decide) rfl fl_RX10_48 dX10_named_29 (Fx.s0 hF) hr.sc ?_
      refine xq_getF clX8 (by decide) rfl fl_RX10_114 dX10_named_32 (Tx.s0 ht) (Tx.r0 ht) ?_
      refine xq_iload_n dX10_named_35 rfl rfl ?_
      refine xq_callV1P clX5 gd_X5_find dX10_named_36 ml_RX10_118 im_X5_find se_X5_find rfl (Nm.s0 (Tx.n1 ht)) (by exact Nat.le_of_ble_eq_true rfl) (by decide) (c_find (Tx.n1 ht) hT.nmc (by omega) (by omega)) ?_
      refine xq_iret dX10_named_39 rfl ?_
      rfl
    · skip
      refine xq_tableIn dX10_named_1 (by decide) (by decide) rfl rfl ?_
      refine xq_aload_n dX10_named_40 rfl rfl ?_
      refine xq_getR clX10 (by decide) rfl fl_RX10_48 dX10_named_41 (Fx.s0 hF) hr.sc ?_
      refine xq_getF clX8 (by decide) rfl fl_RX10_124 dX10_named_44 (Tx.s0 ht) (Tx.r1 ht) ?_
      refine xq_iload_n dX10_named_47 rfl rfl ?_
      refine xq_callV1P clX5 gd_X5_find dX10_named_48 ml_RX10_118 im_X5_find se_X5_find rfl (Nm.s0 (Tx.n3 ht)) (by exact Nat.le_of_ble_eq_true rfl) (by decide) (c_find (Tx.n3 ht) hT.nmp (by omega) (by omega)) ?_
      refine xq_iret dX10_named_51 rfl ?_
      rfl
    · skip
      refine xq_tableIn dX10_named_1 (by decide) (by decide) rfl rfl ?_
      refine xq_aload_n dX10_named_52 rfl rfl ?_
      refine xq_getR clX10 (by decide) rfl fl_RX10_48 dX10_named_53 (Fx.s0 hF) hr.sc ?_
      refine xq_getF clX8 (by decide) rfl fl_RX10_127 dX10_named_56 (Tx.s0 ht) (Tx.r2 ht) ?_
      refine xq_iload_n dX10_named_59 rfl rfl ?_
      refine xq_callV1P clX5 gd_X5_find dX10_named_60 ml_RX10_118 im_X5_find se_X5_find rfl (Nm.s0 (Tx.n5 ht)) (by exact Nat.le_of_ble_eq_true rfl) (by decide) (c_find (Tx.n5 ht) hT.nmf (by omega) (by omega)) ?_
      refine xq_iret dX10_named_63 rfl ?_
      rfl
  · skip
    exact absurd hl (by omega)
/-- a byte of an int, the first one is the highest -/
def byv (w : Int32) (k : Nat) : Nat := (w >>> (nI (24 - 8 * k) &&& 31) &&& 255).toInt.toNat
def sby (b : Nat) : Int32 := if b < 128 then nI b else zI ((b : Int) - 256)
theorem byv_lt (w : Int32) (k : Nat) : byv w k < 256 := by
  obtain ⟨m, hm, h2⟩ : ∃ m, m < 256 ∧ (w >>> (nI (24 - 8 * k) &&& 31) &&& 255) = nI m := by
    generalize w >>> (nI (24 - 8 * k) &&& 31) = v
    refine ⟨v.toBitVec.toNat % 256, Nat.mod_lt _ (by decide), ?_⟩
    apply Int32.toBitVec_inj.mp
    show v.toBitVec &&& 255#32 = BitVec.ofNat 32 (v.toBitVec.toNat % 256)
    apply BitVec.eq_of_toNat_eq
    rw [BitVec.toNat_and, BitVec.toNat_ofNat, BitVec.toNat_ofNat]
    show v.toBitVec.toNat &&& 255 = _
    rw [show (255 : Nat) = 2 ^ 8 - 1 from rfl, Nat.and_two_pow_sub_one_eq_mod]
    omega
  unfold byv
  rw [h2, nI_toInt (by omega)]
  omega
theorem fa_byte (x : Int32) : (x &&& 255).toInt8 = x.toInt8 := by
  apply Int8.toBitVec_inj.mp
  show (x.toBitVec &&& 255#32).signExtend 8 = x.toBitVec.signExtend 8
  rw [BitVec.signExtend_eq_setWidth_of_le _ (by decide), BitVec.signExtend_eq_setWidth_of_le _ (by decide)]
  apply BitVec.eq_of_getLsbD_eq
  intro i hi
  rw [BitVec.getLsbD_setWidth, BitVec.getLsbD_setWidth, BitVec.getLsbD_and]
  have : ∀ i, i < 8 → (255#32).getLsbD i = true := by decide
  rw [this i hi, Bool.and_true]
theorem sby_ok (v : Int32) : v.toInt8.toInt32 = sby (v &&& 255).toInt.toNat := by
  have hb := bp_b v
  have h : ∀ m : Fin 256, (nI m.val).toInt8.toInt32 = sby m.val := by decide +kernel
  obtain ⟨m, hm, h2⟩ : ∃ m, m < 256 ∧ (v &&& 255) = nI m := by
    refine ⟨v.toBitVec.toNat % 256, Nat.mod_lt _ (by decide), ?_⟩
    apply Int32.toBitVec_inj.mp
    show v.toBitVec &&& 255#32 = BitVec.ofNat 32 (v.toBitVec.toNat % 256)
    apply BitVec.eq_of_toNat_eq
    rw [BitVec.toNat_and, BitVec.toNat_ofNat, BitVec.toNat_ofNat]
    show v.toBitVec.toNat &&& 255 = _
    rw [show (255 : Nat) = 2 ^ 8 - 1 from rfl, Nat.and_two_pow_sub_one_eq_mod]
    omega
  have h3 : v.toInt8 = (nI m).toInt8 := by rw [← h2]; exact (fa_byte v).symm
  rw [h3, h ⟨m, hm⟩, h2, nI_toInt (by omega)]
  simp
theorem i8_i8 (x : Int8) : x.toInt32.toInt8 = x := Int8.toInt8_toInt32 x
def TaP (H : xH) (n : Nat) (by_ : Nat → Nat) : Prop := hI H 0 1 = nI n ∧ ∀ j, j < n → hI H 1 j = sby (by_ j)
def tapS (n : Nat) (b : Nat → Nat) (w : Int32) : Nat → Nat := fun j => if n ≤ j ∧ j < n + 4 then byv w (j - n) else b j
theorem c_put {b : Nat → Nat} (hF : gFx S) (hta : TaP H n b) (hn : n + 4 ≤ 700) : Nv mX10_put 0 [.ref 0, .int w] S H (fun H' => TaP H' (n + 4) (tapS n b w) ∧ (∀ k, k ≠ 1 → hI H' 0 k = hI H 0 k) ∧ (∀ k, hR H' 0 k = hR H 0 k) ∧ Off (fun q => q = 0 ∨ q = 1) H H') := by
  have lp : ∀ (fz : Nat) (c : Nat) (H1 : xH), 4 - c < fz → c ≤ 4 → hI H1 0 1 = nI (n + c) → (∀ j, j < n + c → hI H1 1 j = sby (tapS n b w j)) → (∀ k, k ≠ 1 → hI H1 0 k = hI H 0 k) → (∀ k, hR H1 0 k = hR H 0 k) → Off (fun q => q = 0 ∨ q = 1) H H1 → Xq mX10_put 0 0 0 3 [some (.ref 0), some (.int w), some (.int (zI (24 - 8 * (c : Int))))] [] S H1 (fun R => ∃ H', (fun H' => TaP H' (n + 4) (tapS n b w) ∧ (∀ k, k ≠ 1 → hI H' 0 k = hI H 0 k) ∧ (∀ k, hR H' 0 k = hR H 0 k) ∧ Off (fun q => q = 0 ∨ q = 1) H H') H' ∧ R = (none, S, H')) := by
    intro fz
    induction fz with
    | zero => intro c  H1  hfz; exact absurd hfz (by omega)
    | succ fz ih =>
      intro c  H1  hfz hc h1 hb hr hq ho
      refine xq_iload_n dX10_put_3 rfl rfl ?_
      refine xq_if_lt dX10_put_4 rfl ⟨fun h4 => ?_, fun h4 => ?_⟩
      · skip
        refine xq_vret dX10_put_46 rfl ?_
        have e4 : c = 4 := by
          have := (zI_lt0 (by omega) (by omega)).mp h4
          omega
        subst e4
        exact ⟨H1, ⟨⟨h1, hb⟩, hr, hq, ho⟩, rfl⟩
      · skip
        have hc4 : c < 4 := by
          have : ¬ (24 - 8 * (c : Int) < 0) := fun e => h4 ((zI_lt0 (by omega) (by omega)).mpr e)
          omega
        refine xq_aload_n dX10_put_7 rfl rfl ?_
        refine xq_getIE clX10 (by decide) rfl fl_RX10_85 dX10_put_8 (Fx.s0 hF) h1 ?_
        refine xq_sipush dX10_put_11 sp700 ?_
        refine xq_icmp_geN dX10_put_14 rfl (by omega) (by omega) ⟨fun h14 => ?_, fun h14 => ?_⟩
        · skip
          exact absurd h14 (by omega)
        · skip
          refine xq_aload_n dX10_put_17 rfl rfl ?_
          refine xq_getF clX10 (by decide) rfl fl_RX10_11 dX10_put_18 (Fx.s0 hF) (Fx.r0_0 hF) ?_
          refine xq_aload_n dX10_put_21 rfl rfl ?_
          refine xq_getIE clX10 (by decide) rfl fl_RX10_85 dX10_put_22 (Fx.s0 hF) h1 ?_
          refine xq_iload_n dX10_put_25 rfl rfl ?_
          rw [show zI (24 - 8 * (c : Int)) = nI (24 - 8 * c) by rw [zI_nat (by omega)]; congr 1; omega]
          refine xq_iload_n dX10_put_26 rfl rfl ?_
          refine xq_ishr dX10_put_27 ?_
          refine xq_i2b dX10_put_28 ?_
          refine xq_bastN dX10_put_29 (Fx.s1 hF) (by omega) (by decide) ?_
          refine xq_aload_n dX10_put_30 rfl rfl ?_
          refine xq_dup dX10_put_31 rfl ?_
          refine xq_getIE clX10 (by decide) rfl fl_RX10_85 dX10_put_32 (Fx.s0 hF) ((hI_sI _ _ _ _ _ _).trans ((if_neg (by omega)).trans h1)) ?_
          refine xq_iconst dX10_put_35 ic1 ?_
          refine xq_iaddN dX10_put_36 ?_
          refine xq_putI clX10 (by decide) rfl fl_RX10_85 (Or.inl rfl) dX10_put_37 ⟨rfl, rfl⟩ (Fx.s0 hF) ?_
          rw [show nI (24 - 8 * c) = zI (24 - 8 * (c : Int)) by rw [zI_nat (by omega)]; congr 1; omega]
          refine xq_iinc dX10_put_40 icm8 rfl rfl ?_
          refine xq_goto dX10_put_43 rfl ?_
          rw [show zI (24 - 8 * (c : Int)) + (-8 : Int32) = zI (24 - 8 * ((c + 1 : Nat) : Int)) by
            show Int32.ofInt _ + Int32.ofInt (-8) = Int32.ofInt _
            rw [← Int32.ofInt_add]; congr 1; omega]
          refine ih (c + 1) _ (by omega) (by omega) (by simp [hI_sI]; rfl) (fun j hj => ?_) (fun k hk => by rw [hI_sI, if_neg (fun e => hk e.2), hI_sI, if_neg (by omega)]; exact hr k hk) (fun k => hq k) (Off.pI (A := fun q => q = 0 ∨ q = 1) (Off.pI (A := fun q => q = 0 ∨ q = 1) ho (by omega) _ _) (by omega) _ _)
          rw [hI_sI, if_neg (by omega), hI_sI]
          by_cases e : j = n + c
          · subst e
            rw [if_pos ⟨rfl, rfl⟩, i8_i8, sby_ok]
            unfold tapS byv
            rw [if_pos (by omega), show n + c - n = c by omega, show zI (24 - 8 * (c : Int)) = nI (24 - 8 * c) by rw [zI_nat (by omega)]; congr 1; omega]
          · rw [if_neg (fun e2 => e e2.2)]; exact hb j (by omega)
  refine vq_intro (by decide) (by exact Nat.le_of_ble_eq_true rfl) rfl ?_
  refine xq_bipush dX10_put_0 bp24 ?_
  rw [show nI 24 = zI (24 - 8 * ((0 : Nat) : Int)) from rfl]
  refine xq_istore_n dX10_put_2 rfl rfl ?_
  exact lp 5 0 H (by omega) (by omega) hta.1 (fun j hj => by unfold tapS; rw [if_neg (by omega)]; exact hta.2 j (by omega)) (fun _ _ => rfl) (fun _ => rfl) Off.rf
def tap5 (n : Nat) (b : Nat → Nat) (v1 v2 v3 v4 v5 : Int32) : Nat → Nat := tapS (n + 4 + 4 + 4 + 4) (tapS (n + 4 + 4 + 4) (tapS (n + 4 + 4) (tapS (n + 4) (tapS n b v1) v2) v3) v4) v5
theorem c_feed0 {v1 v2 v3 v4 v5 : Int32} (hF : gFx S) (h1 : hI H 0 1 = nI n) (hn : 680 < n) (hn2 : n ≤ 700) : Pv mX10_feed 1 [.ref 0, .int v1, .int v2, .int v3, .int v4, .int v5] S H (vZ (-1)) := by
  refine vq_ev (vq_intro (by decide) (by exact Nat.le_of_ble_eq_true rfl) rfl ?_)
  refine xq_aload_n dX10_feed_0 rfl rfl ?_
  refine xq_getIE clX10 (by decide) rfl fl_RX10_85 dX10_feed_1 (Fx.s0 hF) h1 ?_
  refine xq_bipush dX10_feed_4 bp20 ?_
  refine xq_iaddN dX10_feed_6 ?_
  refine xq_sipush dX10_feed_7 sp700 ?_
  refine xq_icmp_leN dX10_feed_10 rfl (by omega) (by omega) ⟨fun h10 => ?_, fun h10 => ?_⟩
  · skip
    exact absurd h10 (by omega)
  · skip
    refine xq_iconst dX10_feed_13 icm1 ?_
    refine xq_iret dX10_feed_14 rfl ?_
    show _ = _; rw [zm1]
theorem c_feed1 {v1 v2 v3 v4 v5 : Int32} {b : Nat → Nat} (hF : gFx S) (hta : TaP H n b) (hn : n ≤ 680) : Hv mX10_feed 1 [.ref 0, .int v1, .int v2, .int v3, .int v4, .int v5] S H vN (fun x H' => x = n + 20 ∧ TaP H' (n + 20) (tap5 n b v1 v2 v3 v4 v5) ∧ (∀ k, k ≠ 1 → hI H' 0 k = hI H 0 k) ∧ (∀ k, hR H' 0 k = hR H 0 k) ∧ Off (fun q => q = 0 ∨ q = 1) H H') := by
  refine vq_intro (by decide) (by exact Nat.le_of_ble_eq_true rfl) rfl ?_
  refine xq_aload_n dX10_feed_0 rfl rfl ?_
  refine xq_getIE clX10 (by decide) rfl fl_RX10_85 dX10_feed_1 (Fx.s0 hF) hta.1 ?_
  refine xq_bipush dX10_feed_4 bp20 ?_
  refine xq_iaddN dX10_feed_6 ?_
  refine xq_sipush dX10_feed_7 sp700 ?_
  refine xq_icmp_leN dX10_feed_10 rfl (by omega) (by omega) ⟨fun h10 => ?_, fun h10 => ?_⟩
  · skip
    refine xq_aload_n dX10_feed_15 rfl rfl ?_
    refine xq_iload_n dX10_feed_16 rfl rfl ?_
    refine xq_callV1N clX10 gd_X10_put dX10_feed_17 ml_RX10_89 im_X10_put se_X10_put rfl (Fx.s0 hF) (by exact Nat.le_of_ble_eq_true rfl) (by decide) (c_put hF hta (by omega)) ?_
    intro H17 p17
    refine xq_aload_n dX10_feed_20 rfl rfl ?_
    refine xq_iload_n dX10_feed_21 rfl rfl ?_
    refine xq_callV1N clX10 gd_X10_put dX10_feed_22 ml_RX10_89 im_X10_put se_X10_put rfl (Fx.s0 hF) (by exact Nat.le_of_ble_eq_true rfl) (by decide) (c_put hF p17.1 (by omega)) ?_
    intro H22 p22
    refine xq_aload_n dX10_feed_25 rfl rfl ?_
    refine xq_iload_n dX10_feed_26 rfl rfl ?_
    refine xq_callV1N clX10 gd_X10_put dX10_feed_27 ml_RX10_89 im_X10_put se_X10_put rfl (Fx.s0 hF) (by exact Nat.le_of_ble_eq_true rfl) (by decide) (c_put hF p22.1 (by omega)) ?_
    intro H27 p27
    refine xq_aload_n dX10_feed_30 rfl rfl ?_
    refine xq_iload dX10_feed_31 rfl ?_
    refine xq_callV1N clX10 gd_X10_put dX10_feed_33 ml_RX10_89 im_X10_put se_X10_put rfl (Fx.s0 hF) (by exact Nat.le_of_ble_eq_true rfl) (by decide) (c_put hF p27.1 (by omega)) ?_
    intro H33 p33
    refine xq_aload_n dX10_feed_36 rfl rfl ?_
    refine xq_iload dX10_feed_37 rfl ?_
    refine xq_callV1N clX10 gd_X10_put dX10_feed_39 ml_RX10_89 im_X10_put se_X10_put rfl (Fx.s0 hF) (by exact Nat.le_of_ble_eq_true rfl) (by decide) (c_put hF p33.1 (by omega)) ?_
    intro H39 p39
    refine xq_aload_n dX10_feed_42 rfl rfl ?_
    refine xq_getIE clX10 (by decide) rfl fl_RX10_85 dX10_feed_43 (Fx.s0 hF) p39.1.1 ?_
    refine xq_iret dX10_feed_46 rfl ?_
    refine ⟨_, H39, ⟨rfl, p39.1, fun k hk => ?_, fun k => ?_, p17.2.2.2.tr (p22.2.2.2.tr (p27.2.2.2.tr (p33.2.2.2.tr p39.2.2.2)))⟩, rfl⟩
    · rw [p39.2.1 k hk, p33.2.1 k hk, p27.2.1 k hk, p22.2.1 k hk, p17.2.1 k hk]
    · rw [p39.2.2.1 k, p33.2.2.1 k, p27.2.2.1 k, p22.2.2.1 k, p17.2.2.1 k]
  · skip
    exact absurd h10 (by omega)
end R4
