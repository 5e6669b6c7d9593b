/-! ===== Course: a fact is heard, all are asked ===== -/
def TxOk (T : uTx) : Prop := tNc T ≤ 3 ∧ tNp T ≤ 6 ∧ tNf T ≤ 8 ∧ tNk T ≤ 64 ∧ tNt T ≤ 12 ∧ tNa T ≤ 12 ∧ tSh T ≤ 101 ∧ tSd T ≤ 100000 ∧ LwOk T 0 ∧ LwOk T 1 ∧ (∀ f, f < tNf T → tRo T f < 64 ∧ rb (tNe T f) (tRo T f) = true ∧ NdOk T (tNe T f)) ∧ (∀ k, k < tNt T → tTf T k < tNf T ∧ tTh T k ≤ 99) ∧ (∀ k, k < tNa T → tAh T k ≤ 99) ∧ (∀ k, k < tNc T → tSt T k ≤ 6) ∧ (∀ k, k < tNp T → tHt T k < tNc T) ∧ (∀ k, k < 6 → tSe T k < 64) ∧ tTr T < 4096
section CA
variable {S : xS} {H H1 : xH} {i t k x y a n p z m f : Nat} {u v : uSt} {T : uTx} {dr : Bool} {ow mu : Int} {fb gb : Nat → Bool}
theorem TxOk.nc (h : TxOk T) : tNc T ≤ 3 := h.1
theorem TxOk.np (h : TxOk T) : tNp T ≤ 6 := h.2.1
theorem TxOk.nf (h : TxOk T) : tNf T ≤ 8 := h.2.2.1
theorem TxOk.nk (h : TxOk T) : tNk T ≤ 64 := h.2.2.2.1
theorem TxOk.nt (h : TxOk T) : tNt T ≤ 12 := h.2.2.2.2.1
theorem TxOk.na (h : TxOk T) : tNa T ≤ 12 := h.2.2.2.2.2.1
theorem TxOk.sh (h : TxOk T) : tSh T ≤ 101 := h.2.2.2.2.2.2.1
theorem TxOk.sd (h : TxOk T) : tSd T ≤ 100000 := h.2.2.2.2.2.2.2.1
theorem TxOk.l0 (h : TxOk T) : LwOk T 0 := h.2.2.2.2.2.2.2.2.1
theorem TxOk.l1 (h : TxOk T) : LwOk T 1 := h.2.2.2.2.2.2.2.2.2.1
theorem TxOk.fa (h : TxOk T) : ∀ f, f < tNf T → tRo T f < 64 ∧ rb (tNe T f) (tRo T f) = true ∧ NdOk T (tNe T f) := h.2.2.2.2.2.2.2.2.2.2.1
theorem TxOk.te (h : TxOk T) : ∀ k, k < tNt T → tTf T k < tNf T ∧ tTh T k ≤ 99 := h.2.2.2.2.2.2.2.2.2.2.2.1
theorem TxOk.as (h : TxOk T) : ∀ k, k < tNa T → tAh T k ≤ 99 := h.2.2.2.2.2.2.2.2.2.2.2.2.1
theorem TxOk.st (h : TxOk T) : ∀ k, k < tNc T → tSt T k ≤ 6 := h.2.2.2.2.2.2.2.2.2.2.2.2.2.1
theorem TxOk.ht (h : TxOk T) : ∀ k, k < tNp T → tHt T k < tNc T := h.2.2.2.2.2.2.2.2.2.2.2.2.2.2.1
theorem TxOk.se (h : TxOk T) : ∀ k, k < 6 → tSe T k < 64 := h.2.2.2.2.2.2.2.2.2.2.2.2.2.2.2.1
theorem TxOk.tr (h : TxOk T) : tTr T < 4096 := h.2.2.2.2.2.2.2.2.2.2.2.2.2.2.2.2
theorem ct_mono (fb : Nat → Bool) {m n : Nat} (h : m ≤ n) : ct fb m ≤ ct fb n := by
  induction n with
  | zero => rw [Nat.le_zero.mp h]; exact Nat.le_refl _
  | succ n ih =>
    by_cases e : m = n + 1
    · rw [e]; exact Nat.le_refl _
    · have := ih (by omega); rw [ct_b]; omega
theorem ct_lt {p n : Nat} (h : p < n) (hf : fb p = true) : ct fb p < ct fb n := by
  have := ct_mono fb (show p + 1 ≤ n by omega)
  rw [ct_t hf] at this
  omega
theorem kep_mem {x : Nat} : ∀ {n : Nat}, x ∈ kep u fb n → ∃ q, q < n ∧ x = uW u q := by
  intro n h
  obtain ⟨q, hq, rfl⟩ := List.mem_map.mp h
  exact ⟨q, List.mem_range.mp (List.mem_filter.mp hq).1, rfl⟩
theorem getD_mem {l : List Nat} {p : Nat} (h : p < l.length) : l.getD p 0 ∈ l := by
  rw [List.getD_eq_getElem?_getD, List.getElem?_eq_getElem h]
  exact List.getElem_mem h
theorem kep_cong (h : ∀ p, p < n → fb p = gb p) : kep u fb n = kep u gb n := by
  unfold kep
  rw [List.filter_congr (fun q hq => h q (List.mem_range.mp hq))]
theorem uKeep_cong (hr : uRl u < uZ u) (h : ∀ p, p < uZ u → fb p = gb p) : uKeep u fb = uKeep u gb := by
  unfold uKeep
  rw [kep_cong h, ct_cong (fun p hp => h p (by omega))]
theorem StOk.keep (ok : StOk u) (hf : fb (uRl u) = true) : StOk (uKeep u fb) := by
  have hl : uZ (uKeep u fb) = ct fb (uZ u) := kep_len u fb _
  have hc := ct_le fb (uZ u)
  have hn := ok.n
  refine ⟨by omega, fun p hp => ?_, ?_, ok.np, ok.2.2.2.2.1, ok.2.2.2.2.2.1, ok.2.2.2.2.2.2.1, ok.2.2.2.2.2.2.2.1, ok.hr, ok.la⟩
  · have hm : uW (uKeep u fb) p ∈ kep u fb (uZ u) := getD_mem (by rw [kep_len]; omega)
    obtain ⟨q, hq, e⟩ := kep_mem hm
    rw [e]; exact ok.w hq
  · rw [hl]; show ct fb (uRl u) < _; exact ct_lt ok.rl hf
theorem StOk.setF (ok : StOk u) {k v : Nat} (h : k = 8 ∧ v ≤ 100000000 ∨ k = 9 ∧ v ≤ 100000000 ∨ k = 10 ∧ v ≤ 10000) : StOk (uSetF u k v) := by
  refine ⟨ok.1, ok.2.1, ?_, ?_, ok.2.2.2.2.1, ?_, ?_, ?_, ?_, ok.la⟩
  · show (if 5 = k then v else _) < _; rw [if_neg (by omega)]; exact ok.rl
  · show (if 6 = k then v else _) ≤ _; rw [if_neg (by omega)]; exact ok.np
  · show (if 7 = k then v else _) < _; rw [if_neg (by omega)]; exact ok.sd
  · show (if 8 = k then v else _) ≤ _
    have := ok.2.2.2.2.2.2.1
    split
    · omega
    · exact this
  · show (if 9 = k then v else _) ≤ _
    have := ok.2.2.2.2.2.2.2.1
    split
    · omega
    · exact this
  · show (if 10 = k then v else _) ≤ _
    have := ok.hr
    split
    · omega
    · exact this
def hearU (T : uTx) (u : uSt) (f : Nat) : uSt → uSt := fun _ => u
noncomputable def heaU (T : uTx) (u : uSt) (f : Nat) : uSt := uSetF (uKeep u (kv T u (tRo T f))) 8 (uHd u + 1)
noncomputable def hea (T : uTx) (u : uSt) (f : Nat) : uSt := if kv T u (tRo T f) (uRl u) = true then heaU T u f else u
theorem StOk.hea (ok : StOk u) (hb : uHd u + 1 ≤ 100000000) : StOk (hea T u f) := by
  show StOk (if _ then _ else _)
  split
  · rename_i h; exact (ok.keep h).setF (Or.inl ⟨rfl, hb⟩)
  · exact ok
theorem c_hear (hF : gFx S) (ha : gSt S a) (h67 : 67 ≤ a) (hu : StP H a u) (ok : StOk u) (ht : gTx S t) (ht24 : 24 ≤ t) (ht45 : t ≤ 45) (hT : TxP H t T) (tk : TxOk T) (hc : hR H 66 2 = some t) (hm : MiP H z) (hz7 : z + 500 < 2147483648) (hf : f < tNf T) : Hv mX0_hear 4 [.ref 66, .ref a, vN f] S H vB (fun x H' => x = kv T u (tRo T f) (uRl u) ∧ StP H' a (hea T u f) ∧ Off (fun q => (a ≤ q ∧ q < a + 5) ∨ (16 ≤ q ∧ q ≤ 23)) H H' ∧ ∃ t2, t2 ≤ z + 448 ∧ MiP H' t2) := by
  have hrl := ok.rl; have hz := ok.n; have hfa := tk.fa f hf; have hnf := tk.nf
  refine vq_intro (by decide) (by exact Nat.le_of_ble_eq_true rfl) rfl ?_
  refine xq_aload_n dX0_hear_0 rfl rfl ?_
  refine xq_getR clX0 (by decide) rfl fl_RX0_26 dX0_hear_1 (Fx.s66 hF) hc ?_
  refine xq_getF clX8 (by decide) rfl fl_RX0_72 dX0_hear_4 (Tx.s0 ht) (Tx.r7 ht) ?_
  refine xq_iload_n dX0_hear_7 rfl rfl ?_
  refine xq_ialdN dX0_hear_8 (Tx.s14 ht) (by omega) (by decide) ((hT.fa f hf).2.1) ?_
  refine xq_istore_n dX0_hear_9 rfl rfl ?_
  refine xq_aload_n dX0_hear_10 rfl rfl ?_
  refine xq_getF clX0 (by decide) rfl fl_RX0_18 dX0_hear_11 (Fx.s66 hF) (Fx.r66_0 hF) ?_
  refine xq_aload_n dX0_hear_14 rfl rfl ?_
  refine xq_getR clX0 (by decide) rfl fl_RX0_26 dX0_hear_15 (Fx.s66 hF) hc ?_
  refine xq_aload_n dX0_hear_18 rfl rfl ?_
  refine xq_aload_n dX0_hear_19 rfl rfl ?_
  refine xq_getR clX0 (by decide) rfl fl_RX0_26 dX0_hear_20 (Fx.s66 hF) hc ?_
  refine xq_getF clX8 (by decide) rfl fl_RX0_75 dX0_hear_23 (Tx.s0 ht) (Tx.r8 ht) ?_
  refine xq_iload_n dX0_hear_26 rfl rfl ?_
  refine xq_laldN dX0_hear_27 (Tx.s15 ht) (by omega) (by decide) ((hT.fa f hf).2.2) ?_
  refine xq_callV3N clX4 gd_X4_judge dX0_hear_28 ml_RX0_79 im_X4_judge se_X4_judge rfl (Fx.s16 hF) (by exact Nat.le_of_ble_eq_true rfl) (by decide) (c_judge hF ha h67 hu ok ht ht24 ht45 hT tk.nk hfa.2.2 hm hz7) ?_
  intro H28 p28
  obtain ⟨o28, m28, j28, r28⟩ := p28
  have hu28 := hu.off o28 (fun j hj => by omega)
  have hrr : rx H28 (uRl u) (tRo T f) = kv T u (tRo T f) (uRl u) := r28 _ hfa.1 hfa.2.1 _ hrl
  have hbt := (rx H28 (uRl u) (tRo T f)).toNat_le
  refine xq_aload_n dX0_hear_31 rfl rfl ?_
  refine xq_getF clX0 (by decide) rfl fl_RX0_18 dX0_hear_32 (Fx.s66 hF) (Fx.r66_0 hF) ?_
  refine xq_aload_n dX0_hear_35 rfl rfl ?_
  refine xq_getIE clX7 (by decide) rfl fl_RX0_85 dX0_hear_36 (St.s0 ha) hu28.f5 ?_
  refine xq_iload_n dX0_hear_39 rfl rfl ?_
  refine xq_callV2P clX4 gd_X4_bit dX0_hear_40 ml_RX0_88 im_X4_bit se_X4_bit rfl (Fx.s16 hF) (by exact Nat.le_of_ble_eq_true rfl) (by decide) (c_bit hF (by omega) hfa.1) ?_
  refine xq_if_neN dX0_hear_43 rfl (by omega) ⟨fun h43 => ?_, fun h43 => ?_⟩
  · skip
    have hv1x : rx H28 (uRl u) (tRo T f) = true := toNat_inj1 h43
    have hv1 : kv T u (tRo T f) (uRl u) = true := hrr ▸ hv1x
    refine xq_aload_n dX0_hear_48 rfl rfl ?_
    refine xq_aload_n dX0_hear_49 rfl rfl ?_
    refine xq_getF clX0 (by decide) rfl fl_RX0_18 dX0_hear_50 (Fx.s66 hF) (Fx.r66_0 hF) ?_
    refine xq_getF clX4 (by decide) rfl fl_RX0_92 dX0_hear_53 (Fx.s16 hF) (Fx.r16_3 hF) ?_
    refine xq_iload_n dX0_hear_56 rfl rfl ?_
    refine xq_callV2N clX7 gd_X7_retain dX0_hear_57 ml_RX0_95 im_X7_retain se_X7_retain rfl (St.s0 ha) (by exact Nat.le_of_ble_eq_true rfl) (by decide) (c_retain hF ha h67 hu28 ok hfa.1 hv1x) ?_
    intro H57 p57
    have hu57 := p57.1; rw [uKeep_cong (fb := rbs H28 (tRo T f)) (gb := kv T u (tRo T f)) hrl (fun p hp => r28 _ hfa.1 hfa.2.1 p hp)] at hu57
    refine xq_aload_n dX0_hear_60 rfl rfl ?_
    refine xq_dup dX0_hear_61 rfl ?_
    refine xq_getIE clX7 (by decide) rfl fl_RX0_99 dX0_hear_62 (St.s0 ha) hu57.f8 ?_
    refine xq_iconst dX0_hear_65 ic1 ?_
    refine xq_iaddN dX0_hear_66 ?_
    refine xq_putI clX7 (by decide) rfl fl_RX0_99 (Or.inl rfl) dX0_hear_67 ⟨rfl, rfl⟩ (St.s0 ha) ?_
    refine xq_iconst dX0_hear_70 ic1 ?_
    refine xq_zret dX0_hear_71 rfl (by decide) ?_
    refine ⟨true, _, ⟨hv1.symm, ?_, Off.pI (A := (fun q => (a ≤ q ∧ q < a + 5) ∨ (16 ≤ q ∧ q ≤ 23))) ((o28.mo (fun q h => by omega)).tr (p57.2.mo (fun q h => by omega))) (by omega) _ _, ?_⟩, rfl⟩
    · unfold hea
      rw [if_pos hv1]
      exact hu57.setF (k := 8) (by omega) (uHd u + 1)
    · obtain ⟨t2, a1, a2⟩ := m28
      exact ⟨t2, a1, (a2.off p57.2 (by omega) (by omega)).off (Off.pI (A := fun q => q = a) Off.rf rfl _ _) (by omega) (by omega)⟩
  · skip
    refine xq_iconst dX0_hear_46 ic0 ?_
    refine xq_zret dX0_hear_47 rfl (by decide) ?_
    have hv0 : kv T u (tRo T f) (uRl u) = false := by rw [← hrr]; exact toNat_inj0 h43
    refine ⟨false, H28, ⟨hv0.symm, ?_, o28.mo (fun q h => by omega), m28⟩, rfl⟩
    unfold hea
    rw [if_neg (by rw [hv0]; decide)]
    exact hu28
def kwN (fb : Nat → Bool) (n : Nat) : Nat := fo (fun i b => b ||| (fb i).toNat <<< i) 0 n
theorem toNat_tb (b : Bool) (k : Nat) : b.toNat.testBit k = (decide (k = 0) && b) := by
  cases b
  · simp
  · cases k with
    | zero => rfl
    | succ k => simp [Nat.testBit_succ]
theorem kwN_tb (j : Nat) : ∀ n, (kwN fb n).testBit j = (decide (j < n) && fb j)
  | 0 => by simp [kwN, fo]
  | n + 1 => by
    show (kwN fb n ||| (fb n).toNat <<< n).testBit j = _
    rw [Nat.testBit_or, kwN_tb j n, Nat.testBit_shiftLeft, toNat_tb]
    by_cases h1 : j < n
    · simp [h1, show j < n + 1 by omega, show ¬ n ≤ j by omega]
    · by_cases h2 : j = n
      · subst h2; simp
      · simp [h1, show ¬ j < n + 1 by omega, show ¬ j - n = 0 by omega]
theorem kwN_lt (n : Nat) : kwN fb n < 2 ^ n := Nat.lt_pow_two_of_testBit _ (fun j hj => by rw [kwN_tb]; simp; omega)
theorem kwN_64 (hn : n ≤ 6) : kwN fb n < 64 := Nat.lt_of_lt_of_le (kwN_lt n) (Nat.pow_le_pow_right (by decide) hn : 2 ^ n ≤ 2 ^ 6)
theorem bt_nI (m j : Nat) (hj : j < 32) : bt (nI m) j = m.testBit j := by
  show (BitVec.ofNat 32 m).getLsbD j = _
  rw [BitVec.getLsbD_ofNat]
  simp [hj]
theorem bt_l2i (w : Int64) {j : Nat} (hj : j < 32) : bt w.toInt32 j = rb w j := by
  show (BitVec.signExtend 32 w.toBitVec).getLsbD j = _
  rw [BitVec.signExtend_eq_setWidth_of_le _ (by decide), BitVec.getLsbD_setWidth]
  simp [hj, rb]
theorem know_ok {w : Int64} (hn : n ≤ 6) (h : ∀ j, j < n → rb w j = fb j) : w.toInt32 &&& nI (1 <<< n - 1) = nI (kwN fb n) := by
  apply b_ext
  intro j hj
  rw [b_and, bt_l2i w hj, bt_nI _ _ hj, bt_nI _ _ hj, kwN_tb, Nat.one_shiftLeft, Nat.testBit_two_pow_sub_one]
  by_cases e : j < n
  · rw [h j e]; simp [e]
  · simp [e]
theorem rb_lN (m j : Nat) (hj : j < 64) : rb (lN m) j = m.testBit j := by
  show (BitVec.ofNat 64 m).getLsbD j = _
  rw [BitVec.getLsbD_ofNat]
  simp [hj]
theorem row_ok {w : Int64} {s : Nat} (hm : m < 64) (hs : s < 64) (h : ∀ j, j < n → rb w j = fb j) (hmn : ∀ j, m.testBit j = true → j < n) : (w &&& lN m = lN s) ↔ (kwN fb n &&& m) = s := by
  have e : w &&& lN m = lN (kwN fb n &&& m) := by
    apply wb_inj
    apply BitVec.eq_of_getLsbD_eq
    intro j hj
    show (w &&& lN m).toBitVec.getLsbD j = rb (lN (kwN fb n &&& m)) j
    rw [Int64.toBitVec_and, BitVec.getLsbD_and, rb_lN _ _ hj, Nat.testBit_and, kwN_tb]
    show (rb w j && rb (lN m) j) = _
    rw [rb_lN _ _ hj]
    cases hb : m.testBit j
    · simp
    · rw [h j (hmn j hb)]; simp [hmn j hb]
  rw [e, fb_lN_inj (Nat.lt_of_le_of_lt Nat.and_le_right (by omega)) (by omega)]
abbrev aT : Type := Nat × Nat × uSt
def aStep (T : uTx) (dr : Bool) (ow mu : Int) (kw m i : Nat) (st : aT) : aT :=
  if kw.testBit i = true ∧ spk dr st.2.2 (hsh T st.2.2 ow mu i m) = true then (st.1 ||| 1 <<< i, st.2.1, rew T (spu dr st.2.2 (hsh T st.2.2 ow mu i m)) i m)
  else (st.1, if hsh T st.2.2 ow mu i m = 0 then st.2.1 ||| 1 <<< i else st.2.1, if kw.testBit i = true then spu dr st.2.2 (hsh T st.2.2 ow mu i m) else st.2.2)
def kwU (u : uSt) (p : Nat) : Nat := kwN (fun j => own u j p) (uNp u)
def aFo (T : uTx) (dr : Bool) (ow mu : Int) (u : uSt) (n : Nat) : aT := fo (aStep T dr ow mu (kwU u (uRl u)) (pop (kwU u (uRl u)))) (0, 0, u) n
def askF (T : uTx) (dr : Bool) (ow mu : Int) (u : uSt) (p : Nat) : Bool := (kwU u p &&& ((aFo T dr ow mu u (uNp u)).1 ||| (aFo T dr ow mu u (uNp u)).2.1)) == (aFo T dr ow mu u (uNp u)).1
def askU (T : uTx) (dr : Bool) (ow mu : Int) (u : uSt) : uSt := uKeep (aFo T dr ow mu u (uNp u)).2.2 (askF T dr ow mu u)
def askX (T : uTx) (dr : Bool) (ow mu : Int) (u : uSt) : Nat := (aFo T dr ow mu u (uNp u)).1
/-- what asking leaves as it is -/
def Sam (u v : uSt) : Prop := uLf v = uLf u ∧ uRl v = uRl u ∧ uNp v = uNp u ∧ uHr v = uHr u ∧ uHd v = uHd u ∧ uLi v = uLi u ∧ ∀ p, uSe v p = uSe u p
theorem Sam.tr {w : uSt} (h : Sam u v) (h2 : Sam v w) : Sam u w := ⟨h2.1.trans h.1, h2.2.1.trans h.2.1, h2.2.2.1.trans h.2.2.1, h2.2.2.2.1.trans h.2.2.2.1, h2.2.2.2.2.1.trans h.2.2.2.2.1, h2.2.2.2.2.2.1.trans h.2.2.2.2.2.1, fun p => (h2.2.2.2.2.2.2 p).trans (h.2.2.2.2.2.2 p)⟩
theorem Sam.rf : Sam u u := ⟨rfl, rfl, rfl, rfl, rfl, rfl, fun _ => rfl⟩
theorem Sam.rew : Sam u (rew T u i m) := by
  show Sam u (if _ then _ else _)
  split
  · exact Sam.rf
  · exact ⟨rfl, rfl, rfl, rfl, rfl, rfl, fun _ => rfl⟩
theorem spu_eq : spu dr u n = if dr = true ∧ n ≠ 0 ∧ n < 100 then uSetLa u (lcg (uLa u)) else u := rfl
theorem Sam.la (q : Nat) : Sam u (uSetLa u q) := ⟨rfl, rfl, rfl, rfl, rfl, rfl, fun _ => rfl⟩
theorem Sam.spu : Sam u (spu dr u n) := by
  rw [spu_eq]
  by_cases h : dr = true ∧ n ≠ 0 ∧ n < 100
  · rw [if_pos h]; exact Sam.la _
  · rw [if_neg h]; exact Sam.rf
theorem StOk.spu (ok : StOk u) : StOk (spu dr u n) := by
  rw [spu_eq]
  by_cases h : dr = true ∧ n ≠ 0 ∧ n < 100
  · rw [if_pos h]; exact ok.setLa (lcg_lt _)
  · rw [if_neg h]; exact ok
/-- what holds in the midst of asking -/
def aInv (u : uSt) (kw n : Nat) (st : aT) : Prop := Sam u st.2.2 ∧ StOk st.2.2 ∧ (∀ j, st.1.testBit j = true → j < n ∧ kw.testBit j = true) ∧ (∀ j, st.2.1.testBit j = true → j < n ∧ kw.testBit j = false)
theorem or_bit {x j i : Nat} : (x ||| 1 <<< i).testBit j = true ↔ x.testBit j = true ∨ j = i := by
  rw [Nat.testBit_or, Nat.one_shiftLeft, Nat.testBit_two_pow, Bool.or_eq_true, decide_eq_true_iff]
  constructor
  · rintro (h | h)
    · exact Or.inl h
    · exact Or.inr h.symm
  · rintro (h | h)
    · exact Or.inl h
    · exact Or.inr h.symm
theorem spk_0 : spk dr u 0 = true := by unfold spk; cases dr <;> rfl
theorem aInv.step {kw : Nat} {st : aT} (h : aInv u kw n st) (hn : n < 6) : aInv u kw (n + 1) (aStep T dr ow mu kw m n st) := by
  unfold aStep
  generalize hsh T st.2.2 ow mu n m = od
  by_cases c : kw.testBit n = true ∧ spk dr st.2.2 od = true
  · rw [if_pos c]
    refine ⟨h.1.tr (Sam.spu.tr Sam.rew), h.2.1.spu.rew hn, fun j hj => ?_, fun j hj => ?_⟩
    · rcases or_bit.mp hj with e | e
      · have := h.2.2.1 j e; exact ⟨by omega, this.2⟩
      · subst e; exact ⟨by omega, c.1⟩
    · have := h.2.2.2 j hj; exact ⟨by omega, this.2⟩
  · rw [if_neg c]
    refine ⟨?_, ?_, fun j hj => ?_, fun j hj => ?_⟩
    · show Sam u (if _ then _ else _)
      split
      · exact h.1.tr Sam.spu
      · exact h.1
    · show StOk (if _ then _ else _)
      split
      · exact h.2.1.spu
      · exact h.2.1
    · have := h.2.2.1 j hj; exact ⟨by omega, this.2⟩
    · have hj2 : (if od = 0 then st.2.1 ||| 1 <<< n else st.2.1).testBit j = true := hj
      by_cases e0 : od = 0
      · rw [if_pos e0] at hj2
        rcases or_bit.mp hj2 with e | e
        · have := h.2.2.2 j e; exact ⟨by omega, this.2⟩
        · subst e
          refine ⟨by omega, ?_⟩
          cases hk : kw.testBit j
          · rfl
          · exact absurd ⟨hk, by rw [e0]; exact spk_0⟩ c
      · rw [if_neg e0] at hj2
        have := h.2.2.2 j hj2; exact ⟨by omega, this.2⟩
theorem aFo_inv (ok : StOk u) : ∀ n, n ≤ 6 → aInv u (kwU u (uRl u)) n (aFo T dr ow mu u n)
  | 0, _ => ⟨Sam.rf, ok, fun j hj => absurd hj (by show ¬ (0 : Nat).testBit j = true; simp), fun j hj => absurd hj (by show ¬ (0 : Nat).testBit j = true; simp)⟩
  | n + 1, h => (aFo_inv ok n (by omega)).step (by omega)
theorem bits_lt {x n : Nat} (h : ∀ j, x.testBit j = true → j < n) (hn : n ≤ 6) : x < 64 := by
  refine Nat.lt_of_lt_of_le (Nat.lt_pow_two_of_testBit (n := n) _ (fun j hj => ?_)) (Nat.pow_le_pow_right (by decide) hn : 2 ^ n ≤ 2 ^ 6)
  cases e : x.testBit j
  · rfl
  · have := h j e; omega
theorem askF_rl (ok : StOk u) : askF T dr ow mu u (uRl u) = true := by
  have h := aFo_inv (T := T) (dr := dr) (ow := ow) (mu := mu) ok (uNp u) ok.np
  unfold askF
  rw [beq_iff_eq]
  apply Nat.eq_of_testBit_eq
  intro j
  rw [Nat.testBit_and, Nat.testBit_or]
  have h1 := h.2.2.1 j
  have h2 := h.2.2.2 j
  revert h1 h2
  cases (aFo T dr ow mu u (uNp u)).1.testBit j <;> cases (aFo T dr ow mu u (uNp u)).2.1.testBit j <;> cases (kwU u (uRl u)).testBit j <;> simp
theorem StOk.ask (ok : StOk u) : StOk (askU T dr ow mu u) := by
  have h := aFo_inv (T := T) (dr := dr) (ow := ow) (mu := mu) ok (uNp u) ok.np
  exact h.2.1.keep (by rw [h.1.2.1]; exact askF_rl ok)
theorem ask_end (hF : gFx S) (ha : gSt S a) (h67 : 67 ≤ a) (hu : StP H a u) (ok : StOk u) (ht : gTx S t) (ht24 : 24 ≤ t) (ht45 : t ≤ 45) (hT : TxP H t T) (tk : TxOk T) {st : aT} (hs : st = aFo T dr ow mu u (uNp u)) (hst : aInv u (kwU u (uRl u)) (uNp u) st) {H0 : xH} (hv0 : StP H0 a st.2.2) (ho0 : Off (fun q => (a ≤ q ∧ q < a + 5) ∨ (16 ≤ q ∧ q ≤ 23)) H H0) (hm0 : ∃ t2, t2 ≤ z + 6 ∧ MiP H0 t2) (hrw0 : ∀ p, p < uZ u → ∀ j, j < uNp u → rx H0 p j = own u j p) : Xq mX0_askAll 4 0 0 131 [some (.ref 66), some (.ref a), some (.ref 19), some (vN (kwU u (uRl u))), some (vN (pop (kwU u (uRl u)))), some (vN st.1), some (vN st.2.1), some (vN 0), none] [] S H0 (fun R => ∃ x H', (fun x H' => x = askX T dr ow mu u ∧ StP H' a (askU T dr ow mu u) ∧ Off (fun q => (a ≤ q ∧ q < a + 5) ∨ (16 ≤ q ∧ q ≤ 23)) H H' ∧ ∃ t2, t2 ≤ z + 6 ∧ MiP H' t2) x H' ∧ R = (some (vN x), S, H')) := by
  have hz := ok.n; have hnp := ok.np; have hrl := ok.rl
  have hzz : uZ st.2.2 = uZ u := by unfold uZ; rw [hst.1.1]
  have hsa : st.1 < 64 := bits_lt (fun j hj => (hst.2.2.1 j hj).1) hnp
  have hpl : st.2.1 < 64 := bits_lt (fun j hj => (hst.2.2.2 j hj).1) hnp
  have hor : st.1 ||| st.2.1 < 64 := or64 hsa hpl
  have hob : ∀ j, (st.1 ||| st.2.1).testBit j = true → j < uNp u := fun j hj => by
    rw [Nat.testBit_or, Bool.or_eq_true] at hj
    rcases hj with h | h
    · exact (hst.2.2.1 j h).1
    · exact (hst.2.2.2 j h).1
  have l2 : ∀ (fz : Nat) (p : Nat) (H1 : xH), uZ u - p < fz → p ≤ uZ u → StP H1 a st.2.2 → Off (fun q => (a ≤ q ∧ q < a + 5) ∨ (16 ≤ q ∧ q ≤ 23)) H H1 → (∃ t2, t2 ≤ z + 6 ∧ MiP H1 t2) → (∀ q, p ≤ q → q < uZ u → ∀ j, j < uNp u → rx H1 q j = own u j q) → (∀ q, q < p → rx H1 q 0 = askF T dr ow mu u q) → Xq mX0_askAll 4 0 0 131 [some (.ref 66), some (.ref a), some (.ref 19), some (vN (kwU u (uRl u))), some (vN (pop (kwU u (uRl u)))), some (vN st.1), some (vN st.2.1), some (vN p), none] [] S H1 (fun R => ∃ x H', (fun x H' => x = askX T dr ow mu u ∧ StP H' a (askU T dr ow mu u) ∧ Off (fun q => (a ≤ q ∧ q < a + 5) ∨ (16 ≤ q ∧ q ≤ 23)) H H' ∧ ∃ t2, t2 ≤ z + 6 ∧ MiP H' t2) x H' ∧ R = (some (vN x), S, H')) := by
      intro fz
      induction fz with
      | zero => intro p  H1  hn; exact absurd hn (by omega)
      | succ fz ih =>
        intro p  H1  hn hp hv ho hm1 hrw hrd
        refine xq_iload dX0_askAll_131 rfl ?_
        refine xq_aload_n dX0_askAll_133 rfl rfl ?_
        refine xq_getIE clX7 (by decide) rfl fl_RX0_125 dX0_askAll_134 (St.s0 ha) (hv.sz.trans (congrArg nI hzz)) ?_
        refine xq_icmp_geN dX0_askAll_137 rfl (by omega) (by omega) ⟨fun h137 => ?_, fun h137 => ?_⟩
        · skip
          refine xq_aload_n dX0_askAll_173 rfl rfl ?_
          refine xq_aload_n dX0_askAll_174 rfl rfl ?_
          refine xq_iconst dX0_askAll_175 ic0 ?_
          refine xq_callV2N clX7 gd_X7_retain dX0_askAll_176 ml_RX0_95 im_X7_retain se_X7_retain rfl (St.s0 ha) (by exact Nat.le_of_ble_eq_true rfl) (by decide) (c_retain hF ha h67 hv hst.2.1 (kb := 0) (by decide) (by rw [hst.1.2.1]; show rx H1 _ 0 = true; rw [hrd _ (by omega)]; exact askF_rl ok)) ?_
          intro H176 p176
          refine xq_iload dX0_askAll_179 rfl ?_
          refine xq_iret dX0_askAll_181 rfl ?_
          refine ⟨st.1, H176, ⟨by unfold askX; rw [← hs], ?_, ho.tr (p176.2.mo (fun q h => by omega)), ?_⟩, rfl⟩
          · have h1 := p176.1
            rw [uKeep_cong (fb := rbs H1 0) (gb := askF T dr ow mu u) hst.2.1.rl (fun q hq => hrd q (by omega))] at h1
            unfold askU
            rw [← hs]
            exact h1
          · obtain ⟨t2, a1, a2⟩ := hm1
            exact ⟨t2, a1, a2.off p176.2 (by omega) (by omega)⟩
        · skip
          have hro := row_ok (w := hL H1 19 p) (fb := fun j => own u j p) hor hsa (hrw p (Nat.le_refl _) h137) hob
          refine xq_aload_n dX0_askAll_140 rfl rfl ?_
          refine xq_iload dX0_askAll_141 rfl ?_
          refine xq_aload_n dX0_askAll_143 rfl rfl ?_
          refine xq_iload dX0_askAll_144 rfl ?_
          refine xq_laldN dX0_askAll_146 (Fx.s19 hF) (by omega) (by decide) rfl ?_
          refine xq_iload dX0_askAll_147 rfl ?_
          refine xq_iload dX0_askAll_149 rfl ?_
          refine xq_iorN dX0_askAll_151 ?_
          refine xq_i2l dX0_askAll_152 ?_
          refine xq_land dX0_askAll_153 ?_
          refine xq_iload dX0_askAll_154 rfl ?_
          refine xq_i2l dX0_askAll_156 ?_
          rw [nI_toL (by omega), nI_toL (by omega)]
          refine xq_lcmp dX0_askAll_157 ?_
          refine xq_if_ne dX0_askAll_158 rfl ⟨fun h158 => ?_, fun h158 => ?_⟩
          · skip
            refine xq_lconst dX0_askAll_165 lc0 ?_
            refine xq_lastN dX0_askAll_166 (Fx.s19 hF) (by omega) (by decide) ?_
            refine xq_iincN dX0_askAll_167 ic1 rfl rfl ?_
            refine xq_goto dX0_askAll_170 rfl ?_
            refine ih (p + 1) _ (by omega) (by omega) (hv.off (Off.pL (A := fun q => q = 19) Off.rf rfl _ _) (fun j hj => by omega)) (Off.pL (A := (fun q => (a ≤ q ∧ q < a + 5) ∨ (16 ≤ q ∧ q ≤ 23))) ho (by omega) _ _) (by obtain ⟨t2, a1, a2⟩ := hm1; exact ⟨t2, a1, a2.off (Off.pL (A := fun q => q = 19) Off.rf rfl _ _) (by omega) (by omega)⟩) (fun q hq hq2 j hj => by
              show rb (hL (sL _ _ _ _) 19 q) j = _
              rw [hL_sL, if_neg (by omega)]; exact hrw q (by omega) hq2 j hj) (fun q hq => ?_)
            show rb (hL (sL _ _ _ _) 19 q) 0 = _
            rw [hL_sL]
            by_cases e : q = p
            · subst e
              rw [if_pos ⟨rfl, rfl⟩]
              unfold askF
              rw [← hs]
              rw [show (kwU u q &&& (st.1 ||| st.2.1) == st.1) = false by rw [beq_eq_false_iff_ne]; exact fun w => h158 ((lg_cmp_eq _ _).mpr (hro.mpr w))]
              decide
            · rw [if_neg (fun z => e z.2)]; exact hrd q (by omega)
          · skip
            refine xq_lconst dX0_askAll_161 lc1 ?_
            refine xq_goto dX0_askAll_162 rfl ?_
            refine xq_lastN dX0_askAll_166 (Fx.s19 hF) (by omega) (by decide) ?_
            refine xq_iincN dX0_askAll_167 ic1 rfl rfl ?_
            refine xq_goto dX0_askAll_170 rfl ?_
            refine ih (p + 1) _ (by omega) (by omega) (hv.off (Off.pL (A := fun q => q = 19) Off.rf rfl _ _) (fun j hj => by omega)) (Off.pL (A := (fun q => (a ≤ q ∧ q < a + 5) ∨ (16 ≤ q ∧ q ≤ 23))) ho (by omega) _ _) (by obtain ⟨t2, a1, a2⟩ := hm1; exact ⟨t2, a1, a2.off (Off.pL (A := fun q => q = 19) Off.rf rfl _ _) (by omega) (by omega)⟩) (fun q hq hq2 j hj => by
              show rb (hL (sL _ _ _ _) 19 q) j = _
              rw [hL_sL, if_neg (by omega)]; exact hrw q (by omega) hq2 j hj) (fun q hq => ?_)
            show rb (hL (sL _ _ _ _) 19 q) 0 = _
            rw [hL_sL]
            by_cases e : q = p
            · subst e
              rw [if_pos ⟨rfl, rfl⟩]
              unfold askF
              rw [← hs]
              have hq2 := (lg_cmp_eq _ _).mp h158
              rw [show (kwU u q &&& (st.1 ||| st.2.1) == st.1) = true by rw [beq_iff_eq]; exact hro.mp hq2]
              decide
            · rw [if_neg (fun z => e z.2)]; exact hrd q (by omega)
  exact l2 (uZ u + 1) 0 H0 (by omega) (by omega) hv0 ho0 hm0 (fun q _ hq j hj => hrw0 q hq j hj) (fun q hq => absurd hq (by omega))
theorem hsh_le (h : tSh T ≤ 101) : hsh T u ow mu i m ≤ 100 := by
  unfold hsh
  split
  · omega
  · split
    · omega
    · have h2 : shv T ≤ 100 := by unfold shv; split <;> omega
      have := clp_le 100 (by decide) (lawE T (nmv u i m) 1) (shv T) (by omega)
      omega
theorem c_askAll (hF : gFx S) (ha : gSt S a) (h67 : 67 ≤ a) (hu : StP H a u) (ok : StOk u) (ht : gTx S t) (ht24 : 24 ≤ t) (ht45 : t ≤ 45) (hT : TxP H t T) (tk : TxOk T) (hc : CoP H t dr ow mu) (how : -1 ≤ ow ∧ ow ≤ 4) (hmu : -1 ≤ mu ∧ mu < 6) (hm : MiP H z) (hz7 : z + 7 < 2147483648) : Hv mX0_askAll 4 [.ref 66, .ref a] S H vN (fun x H' => x = askX T dr ow mu u ∧ StP H' a (askU T dr ow mu u) ∧ Off (fun q => (a ≤ q ∧ q < a + 5) ∨ (16 ≤ q ∧ q ≤ 23)) H H' ∧ ∃ t2, t2 ≤ z + 6 ∧ MiP H' t2) := by
  have hz := ok.n; have hnp := ok.np; have hrl := ok.rl; have hpo := pop_le (kwU u (uRl u)); have hkw : kwU u (uRl u) < 64 := kwN_64 hnp
  have l1 : ∀ (fz : Nat) (i : Nat) (st : aT) (H1 : xH), uNp u - i < fz → i ≤ uNp u → st = aFo T dr ow mu u i → StP H1 a st.2.2 → Off (fun q => (a ≤ q ∧ q < a + 5) ∨ (16 ≤ q ∧ q ≤ 23)) H H1 → (∃ t2, t2 ≤ z + 6 ∧ MiP H1 t2) → (∀ p, p < uZ u → ∀ j, j < uNp u → rx H1 p j = own u j p) → Xq mX0_askAll 4 0 0 48 [some (.ref 66), some (.ref a), some (.ref 19), some (vN (kwU u (uRl u))), some (vN (pop (kwU u (uRl u)))), some (vN st.1), some (vN st.2.1), some (vN i), none] [] S H1 (fun R => ∃ x H', (fun x H' => x = askX T dr ow mu u ∧ StP H' a (askU T dr ow mu u) ∧ Off (fun q => (a ≤ q ∧ q < a + 5) ∨ (16 ≤ q ∧ q ≤ 23)) H H' ∧ ∃ t2, t2 ≤ z + 6 ∧ MiP H' t2) x H' ∧ R = (some (vN x), S, H')) := by
    intro fz
    induction fz with
    | zero => intro i  st  H1  hn; exact absurd hn (by omega)
    | succ fz ih =>
      intro i  st  H1  hn hi hs hv ho hm1 hrw
      have hst := aFo_inv (T := T) (dr := dr) (ow := ow) (mu := mu) ok i (by omega); rw [← hs] at hst
      have hT1 := hT.off ho (fun j hj => by omega); have hc1 := hc.off ho (by omega)
      refine xq_iload dX0_askAll_48 rfl ?_
      refine xq_aload_n dX0_askAll_50 rfl rfl ?_
      refine xq_getIE clX7 (by decide) rfl fl_RX0_105 dX0_askAll_51 (St.s0 ha) (hv.f6.trans (congrArg nI hst.1.2.2.1)) ?_
      refine xq_icmp_geN dX0_askAll_54 rfl (by omega) (by omega) ⟨fun h54 => ?_, fun h54 => ?_⟩
      · skip
        refine xq_iconst dX0_askAll_128 ic0 ?_
        refine xq_istore dX0_askAll_129 rfl ?_
        refine xq_fgt (ask_end hF ha h67 hu ok ht ht24 ht45 hT tk (st := st) (by rw [hs, show uNp u = i by omega]) (by rw [show uNp u = i by omega]; exact hst) hv ho hm1 hrw) (by exact And.intro rfl (And.intro rfl (And.intro rfl (And.intro rfl (And.intro rfl (And.intro rfl (And.intro rfl (And.intro rfl (trivial)))))))))
      · skip
        refine xq_aload_n dX0_askAll_57 rfl rfl ?_
        refine xq_aload_n dX0_askAll_58 rfl rfl ?_
        refine xq_iload dX0_askAll_59 rfl ?_
        refine xq_iload dX0_askAll_61 rfl ?_
        refine xq_callV3H clX0 gd_X0_hushOf dX0_askAll_63 ml_RX0_114 im_X0_hushOf se_X0_hushOf rfl (Fx.s66 hF) (by exact Nat.le_of_ble_eq_true rfl) (by decide) (c_hushOf hF ha h67 hv hst.2.1 ht ht24 ht45 hT1 tk.nk tk.sh tk.l0 tk.l1 hc1 how hmu (by omega) (by omega)) ?_
        intro x63 H63 p63
        obtain ⟨rfl, p63b⟩ := p63
        have p63 := And.intro True.intro p63b
        have hu63 := hv.off p63.2 (fun j hj => by omega)
        have hT63 := hT1.off p63.2 (fun j hj => by omega); have hc63 := hc1.off p63.2 (by omega)
        have hod := hsh_le (u := st.2.2) (ow := ow) (mu := mu) (i := i) (m := pop (kwU u (uRl u))) tk.sh
        refine xq_istore dX0_askAll_66 rfl ?_
        have hbk := shr_le (kwU u (uRl u)) i; have hbk2 : kwU u (uRl u) >>> i &&& 1 ≤ 1 := Nat.and_le_right
        refine xq_iload_n dX0_askAll_68 rfl rfl ?_
        refine xq_iload dX0_askAll_69 rfl ?_
        refine xq_ishrN dX0_askAll_71 (by omega) (by omega) ?_
        refine xq_iconst dX0_askAll_72 ic1 ?_
        refine xq_iandN dX0_askAll_73 ?_
        refine xq_if_eqN dX0_askAll_74 rfl (by omega) ⟨fun h74 => ?_, fun h74 => ?_⟩
        · skip
          refine xq_iload dX0_askAll_108 rfl ?_
          refine xq_if_neN dX0_askAll_110 rfl (by omega) ⟨fun h110 => ?_, fun h110 => ?_⟩
          · skip
            refine xq_iincN dX0_askAll_122 ic1 rfl rfl ?_
            refine xq_goto dX0_askAll_125 rfl ?_
            have hkf : (kwU u (uRl u)).testBit i = false := (tb_shr _ _).mp h74
            have hes : aStep T dr ow mu (kwU u (uRl u)) (pop (kwU u (uRl u))) i st = (st.1, st.2.1, st.2.2) := by unfold aStep; rw [if_neg (by rw [hkf]; simp), if_neg h110, if_neg (by rw [hkf]; simp)]
            exact xq_fgt (ih (i + 1) (aStep T dr ow mu (kwU u (uRl u)) (pop (kwU u (uRl u))) i st) H63 (by omega) (by omega) (by rw [hs]; rfl) (by rw [hes]; exact hu63) (ho.tr (p63.2.mo (fun q h => by omega))) (by obtain ⟨t2, a1, a2⟩ := hm1; exact ⟨t2, a1, a2.off p63.2 (by omega) (by omega)⟩) (fun p hp j hj => by show rb (hL H63 19 p) j = _; rw [p63.2.L (by omega)]; exact hrw p hp j hj)) (by rw [hes]; exact And.intro rfl (And.intro rfl (And.intro rfl (And.intro rfl (And.intro rfl (And.intro rfl (And.intro rfl (And.intro rfl (trivial)))))))))
          · skip
            refine xq_iload dX0_askAll_113 rfl ?_
            refine xq_iconst dX0_askAll_115 ic1 ?_
            refine xq_iload dX0_askAll_116 rfl ?_
            refine xq_ishlN dX0_askAll_118 (by omega) ?_
            refine xq_iorN dX0_askAll_119 ?_
            refine xq_istore dX0_askAll_120 rfl ?_
            refine xq_iincN dX0_askAll_122 ic1 rfl rfl ?_
            refine xq_goto dX0_askAll_125 rfl ?_
            have hkf : (kwU u (uRl u)).testBit i = false := (tb_shr _ _).mp h74
            have hes : aStep T dr ow mu (kwU u (uRl u)) (pop (kwU u (uRl u))) i st = (st.1, st.2.1 ||| 1 <<< i, st.2.2) := by unfold aStep; rw [if_neg (by rw [hkf]; simp), if_pos h110, if_neg (by rw [hkf]; simp)]
            exact xq_fgt (ih (i + 1) (aStep T dr ow mu (kwU u (uRl u)) (pop (kwU u (uRl u))) i st) H63 (by omega) (by omega) (by rw [hs]; rfl) (by rw [hes]; exact hu63) (ho.tr (p63.2.mo (fun q h => by omega))) (by obtain ⟨t2, a1, a2⟩ := hm1; exact ⟨t2, a1, a2.off p63.2 (by omega) (by omega)⟩) (fun p hp j hj => by show rb (hL H63 19 p) j = _; rw [p63.2.L (by omega)]; exact hrw p hp j hj)) (by rw [hes]; exact And.intro rfl (And.intro rfl (And.intro rfl (And.intro rfl (And.intro rfl (And.intro rfl (And.intro rfl (And.intro rfl (trivial)))))))))
        · skip
          refine xq_aload_n dX0_askAll_77 rfl rfl ?_
          refine xq_aload_n dX0_askAll_78 rfl rfl ?_
          refine xq_iload dX0_askAll_79 rfl ?_
          refine xq_callV2H clX0 gd_X0_speaks dX0_askAll_81 ml_RX0_118 im_X0_speaks se_X0_speaks rfl (Fx.s66 hF) (by exact Nat.le_of_ble_eq_true rfl) (by decide) (c_speaks hF ha hu63 hst.2.1 hc63.2.1 (by omega)) ?_
          intro x81 H81 p81
          have hx81 : spk dr st.2.2 (hsh T st.2.2 ow mu i (pop (kwU u (uRl u)))) = x81 := p81.1.symm
          have o81 := (ho.tr (p63.2.mo (fun q h => by omega))).tr (p81.2.2.mo (B := fun q => (a ≤ q ∧ q < a + 5) ∨ (16 ≤ q ∧ q ≤ 23)) (fun q h => by omega))
          refine xq_if_eqB dX0_askAll_84 rfl ⟨fun h84 => ?_, fun h84 => ?_⟩
          · skip
            refine xq_iload dX0_askAll_108 rfl ?_
            refine xq_if_neN dX0_askAll_110 rfl (by omega) ⟨fun h110 => ?_, fun h110 => ?_⟩
            · skip
              refine xq_iincN dX0_askAll_122 ic1 rfl rfl ?_
              refine xq_goto dX0_askAll_125 rfl ?_
              have hkf : (kwU u (uRl u)).testBit i = true := Bool.not_eq_false _ ▸ (fun w => h74 ((tb_shr _ _).mpr w))
              have hes : aStep T dr ow mu (kwU u (uRl u)) (pop (kwU u (uRl u))) i st = (st.1, st.2.1, spu dr st.2.2 (hsh T st.2.2 ow mu i (pop (kwU u (uRl u))))) := by unfold aStep; rw [if_neg (by rw [hx81, h84]; simp), if_neg h110, if_pos hkf]
              exact xq_fgt (ih (i + 1) (aStep T dr ow mu (kwU u (uRl u)) (pop (kwU u (uRl u))) i st) H81 (by omega) (by omega) (by rw [hs]; rfl) (by rw [hes]; exact p81.2.1) (o81) (by obtain ⟨t2, a1, a2⟩ := hm1; exact ⟨t2, a1, (a2.off p63.2 (by omega) (by omega)).off p81.2.2 (by omega) (by omega)⟩) (fun p hp j hj => by show rb (hL H81 19 p) j = _; rw [p81.2.2.L (by omega), p63.2.L (by omega)]; exact hrw p hp j hj)) (by rw [hes]; exact And.intro rfl (And.intro rfl (And.intro rfl (And.intro rfl (And.intro rfl (And.intro rfl (And.intro rfl (And.intro rfl (trivial)))))))))
            · skip
              refine xq_iload dX0_askAll_113 rfl ?_
              refine xq_iconst dX0_askAll_115 ic1 ?_
              refine xq_iload dX0_askAll_116 rfl ?_
              refine xq_ishlN dX0_askAll_118 (by omega) ?_
              refine xq_iorN dX0_askAll_119 ?_
              refine xq_istore dX0_askAll_120 rfl ?_
              refine xq_iincN dX0_askAll_122 ic1 rfl rfl ?_
              refine xq_goto dX0_askAll_125 rfl ?_
              have hkf : (kwU u (uRl u)).testBit i = true := Bool.not_eq_false _ ▸ (fun w => h74 ((tb_shr _ _).mpr w))
              have hes : aStep T dr ow mu (kwU u (uRl u)) (pop (kwU u (uRl u))) i st = (st.1, st.2.1 ||| 1 <<< i, spu dr st.2.2 (hsh T st.2.2 ow mu i (pop (kwU u (uRl u))))) := by unfold aStep; rw [if_neg (by rw [hx81, h84]; simp), if_pos h110, if_pos hkf]
              exact xq_fgt (ih (i + 1) (aStep T dr ow mu (kwU u (uRl u)) (pop (kwU u (uRl u))) i st) H81 (by omega) (by omega) (by rw [hs]; rfl) (by rw [hes]; exact p81.2.1) (o81) (by obtain ⟨t2, a1, a2⟩ := hm1; exact ⟨t2, a1, (a2.off p63.2 (by omega) (by omega)).off p81.2.2 (by omega) (by omega)⟩) (fun p hp j hj => by show rb (hL H81 19 p) j = _; rw [p81.2.2.L (by omega), p63.2.L (by omega)]; exact hrw p hp j hj)) (by rw [hes]; exact And.intro rfl (And.intro rfl (And.intro rfl (And.intro rfl (And.intro rfl (And.intro rfl (And.intro rfl (And.intro rfl (trivial)))))))))
          · skip
            refine xq_iload dX0_askAll_87 rfl ?_
            refine xq_iconst dX0_askAll_89 ic1 ?_
            refine xq_iload dX0_askAll_90 rfl ?_
            refine xq_ishlN dX0_askAll_92 (by omega) ?_
            refine xq_iorN dX0_askAll_93 ?_
            refine xq_istore dX0_askAll_94 rfl ?_
            refine xq_aload_n dX0_askAll_96 rfl rfl ?_
            refine xq_aload_n dX0_askAll_97 rfl rfl ?_
            refine xq_iload dX0_askAll_98 rfl ?_
            refine xq_iload dX0_askAll_100 rfl ?_
            refine xq_callV3N clX0 gd_X0_reward dX0_askAll_102 ml_RX0_121 im_X0_reward se_X0_reward rfl (Fx.s66 hF) (by exact Nat.le_of_ble_eq_true rfl) (by decide) (c_reward hF ha h67 p81.2.1 hst.2.1.spu ht ht24 ht45 (hT63.off p81.2.2 (fun j hj => by omega)) tk.nk tk.sh tk.l0 tk.l1 ((p81.2.2.R (by omega) 2).trans hc63.1) (by omega) (by omega)) ?_
            intro H102 p102
            refine xq_goto dX0_askAll_105 rfl ?_
            refine xq_iincN dX0_askAll_122 ic1 rfl rfl ?_
            refine xq_goto dX0_askAll_125 rfl ?_
            have hkf : (kwU u (uRl u)).testBit i = true := Bool.not_eq_false _ ▸ (fun w => h74 ((tb_shr _ _).mpr w))
            have hes : aStep T dr ow mu (kwU u (uRl u)) (pop (kwU u (uRl u))) i st = (st.1 ||| 1 <<< i, st.2.1, rew T (spu dr st.2.2 (hsh T st.2.2 ow mu i (pop (kwU u (uRl u))))) i (pop (kwU u (uRl u)))) := by unfold aStep; rw [if_pos ⟨hkf, hx81.trans h84⟩]
            exact xq_fgt (ih (i + 1) (aStep T dr ow mu (kwU u (uRl u)) (pop (kwU u (uRl u))) i st) H102 (by omega) (by omega) (by rw [hs]; rfl) (by rw [hes]; exact p102.1) (o81.tr (p102.2.mo (fun q h => by omega))) (by obtain ⟨t2, a1, a2⟩ := hm1; exact ⟨t2, a1, ((a2.off p63.2 (by omega) (by omega)).off p81.2.2 (by omega) (by omega)).off p102.2 (by omega) (by omega)⟩) (fun p hp j hj => by show rb (hL H102 19 p) j = _; rw [p102.2.L (by omega), p81.2.2.L (by omega), p63.2.L (by omega)]; exact hrw p hp j hj)) (by rw [hes]; exact And.intro rfl (And.intro rfl (And.intro rfl (And.intro rfl (And.intro rfl (And.intro rfl (And.intro rfl (And.intro rfl (trivial)))))))))
  refine vq_intro (by decide) (by exact Nat.le_of_ble_eq_true rfl) rfl ?_
  refine xq_aload_n dX0_askAll_0 rfl rfl ?_
  refine xq_getF clX0 (by decide) rfl fl_RX0_18 dX0_askAll_1 (Fx.s66 hF) (Fx.r66_0 hF) ?_
  refine xq_aload_n dX0_askAll_4 rfl rfl ?_
  refine xq_callV1N clX4 gd_X4_judgeOwn dX0_askAll_5 ml_RX0_102 im_X4_judgeOwn se_X4_judgeOwn rfl (Fx.s16 hF) (by exact Nat.le_of_ble_eq_true rfl) (by decide) (c_judgeOwn hF ha h67 hu ok hm (by omega)) ?_
  intro H5 p5
  obtain ⟨o5, m5, q5⟩ := p5
  have q5 := And.intro True.intro (And.intro True.intro q5.2)
  have hu5 := hu.off o5 (fun j hj => by omega)
  refine xq_aload_n dX0_askAll_8 rfl rfl ?_
  refine xq_getF clX0 (by decide) rfl fl_RX0_18 dX0_askAll_9 (Fx.s66 hF) (Fx.r66_0 hF) ?_
  refine xq_getF clX4 (by decide) rfl fl_RX0_92 dX0_askAll_12 (Fx.s16 hF) (Fx.r16_3 hF) ?_
  refine xq_astore_n dX0_askAll_15 rfl rfl ?_
  refine xq_aload_n dX0_askAll_16 rfl rfl ?_
  refine xq_aload_n dX0_askAll_17 rfl rfl ?_
  refine xq_getIE clX7 (by decide) rfl fl_RX0_85 dX0_askAll_18 (St.s0 ha) hu5.f5 ?_
  refine xq_laldN dX0_askAll_21 (Fx.s19 hF) (by omega) (by decide) rfl ?_
  refine xq_l2i dX0_askAll_22 ?_
  refine xq_iconst dX0_askAll_23 ic1 ?_
  refine xq_aload_n dX0_askAll_24 rfl rfl ?_
  refine xq_getIE clX7 (by decide) rfl fl_RX0_105 dX0_askAll_25 (St.s0 ha) hu5.f6 ?_
  refine xq_ishlN dX0_askAll_28 (by omega) ?_
  refine xq_iconst dX0_askAll_29 ic1 ?_
  refine xq_isubN dX0_askAll_30 (shl_pos _) ?_
  refine xq_iand dX0_askAll_31 ?_
  rw [know_ok (fb := fun j => own u j (uRl u)) hnp (q5.2.2 _ hrl), show kwN (fun j => own u j (uRl u)) (uNp u) = kwU u (uRl u) from rfl]
  refine xq_istore_n dX0_askAll_32 rfl rfl ?_
  refine xq_iload_n dX0_askAll_33 rfl rfl ?_
  refine xq_callS1P gd_J6_bitCount_0f7a4 dX0_askAll_34 ml_RX0_108 im_J6_bitCount_0f7a4 (by exact Nat.le_of_ble_eq_true rfl) (by decide) (c_bitCount (by have := hkw; omega)) ?_
  refine xq_istore dX0_askAll_37 rfl ?_
  refine xq_iconst dX0_askAll_39 ic0 ?_
  refine xq_istore dX0_askAll_40 rfl ?_
  refine xq_iconst dX0_askAll_42 ic0 ?_
  refine xq_istore dX0_askAll_43 rfl ?_
  refine xq_iconst dX0_askAll_45 ic0 ?_
  refine xq_istore dX0_askAll_46 rfl ?_
  exact xq_fgt (l1 (uNp u + 1) 0 (0, 0, u) H5 (by omega) (by omega) rfl hu5 (o5.mo (fun q h => by omega)) m5 (fun p hp j hj => q5.2.2 p hp j hj)) (by exact And.intro rfl (And.intro rfl (And.intro rfl (And.intro rfl (And.intro rfl (And.intro rfl (And.intro rfl (And.intro rfl (trivial)))))))))
end CA
