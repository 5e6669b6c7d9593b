/-! ===== State: what changes it ===== -/
def uSetF (u : uSt) (k v : Nat) : uSt := (u.1, fun j => if j = k then v else u.2.1 j, u.2.2)
def uSetSe (u : uSt) (p v : Nat) : uSt := (u.1, u.2.1, fun j => if j = p then v else u.2.2.1 j, u.2.2.2)
def uSetPz (u : uSt) (p v : Nat) : uSt := (u.1, u.2.1, u.2.2.1, fun j => if j = p then v else u.2.2.2.1 j, u.2.2.2.2)
def uSetLa (u : uSt) (v : Nat) : uSt := (u.1, u.2.1, u.2.2.1, u.2.2.2.1, v)
def uSetLf (u : uSt) (l : List Nat) : uSt := (l, u.2)
section ST2
variable {S : xS} {H H' : xH} {a b : Nat} {u v : uSt} {i j p n : Nat}
theorem nL_add (x y : Nat) : lN x + lN y = lN (x + y) := (Int64.ofNat_add x y).symm
theorem nL_mul (x y : Nat) : lN x * lN y = lN (x * y) := (Int64.ofNat_mul x y).symm
theorem nL_and (a b : Nat) : lN a &&& lN b = lN (a &&& b) := fb_andL a b
theorem StP.setF (h : StP H a u) {k : Nat} (h1 : 5 ≤ k) (x : Nat) : StP (sI H a k (nI x)) a (uSetF u k x) := by
  refine ⟨?_, fun j j1 j2 => ?_, h.2.2.1, fun p hp => ?_, fun p hp => ?_⟩
  · rw [hI_sI, if_neg (by omega)]; exact h.1
  · rw [hI_sI]
    by_cases e : j = k
    · rw [if_pos ⟨rfl, e⟩]; show nI x = nI (if j = k then x else _); rw [if_pos e]
    · rw [if_neg (fun q => e q.2), h.2.1 j j1 j2]; show _ = nI (if j = k then x else _); rw [if_neg e]; rfl
  · rw [hI_sI, if_neg (by omega)]; exact h.2.2.2.1 p hp
  · rw [hI_sI, if_neg (by omega), hI_sI, if_neg (by omega), hI_sI, if_neg (by omega)]; exact h.2.2.2.2 p hp
theorem StP.setLa (h : StP H a u) (x : Nat) : StP (sL H a 11 (lN x)) a (uSetLa u x) := ⟨h.1, h.2.1, by rw [hL_sL, if_pos ⟨rfl, rfl⟩]; rfl, h.2.2.2.1, h.2.2.2.2⟩
theorem StP.setPz (h : StP H a u) (p x : Nat) : StP (sI H (a + 4) p (nI x)) a (uSetPz u p x) := by
  refine ⟨?_, fun j j1 j2 => ?_, h.2.2.1, fun p hp => ?_, fun q hq => ⟨?_, ?_, ?_⟩⟩
  · rw [hI_sI, if_neg (by omega)]; exact h.1
  · rw [hI_sI, if_neg (by omega)]; exact h.2.1 j j1 j2
  · rw [hI_sI, if_neg (by omega)]; exact h.2.2.2.1 p hp
  · rw [hI_sI, if_neg (by omega)]; exact (h.2.2.2.2 q hq).1
  · rw [hI_sI, if_neg (by omega)]; exact (h.2.2.2.2 q hq).2.1
  · rw [hI_sI]
    by_cases e : q = p
    · rw [if_pos ⟨rfl, e⟩]; show nI x = nI (if q = p then x else _); rw [if_pos e]
    · rw [if_neg (fun z => e z.2), (h.2.2.2.2 q hq).2.2]; show _ = nI (if q = p then x else _); rw [if_neg e]; rfl
theorem vm_or {s : Nat} (hs : s < 64) (hj : j < 6) : vm (s ||| 1 <<< j) = vm s ||| (3 <<< (10 - 2 * j)) := by
  have : ∀ (s : Fin 64) (j : Fin 6), vm (s.val ||| 1 <<< j.val) = vm s.val ||| (3 <<< (10 - 2 * j.val)) := by decide +kernel
  exact this ⟨s, hs⟩ ⟨j, hj⟩
def uSee (u : uSt) (i j : Nat) : uSt := uSetSe u i (uSe u i ||| 1 <<< j)
theorem StP.setSe (h : StP H a u) (p x : Nat) : StP (sI (sI H (a + 2) p (nI x)) (a + 3) p (nI (vm x))) a (uSetSe u p x) := by
  refine ⟨?_, fun j j1 j2 => ?_, h.2.2.1, fun p hp => ?_, fun q hq => ⟨?_, ?_, ?_⟩⟩
  · rw [hI_sI, if_neg (by omega), hI_sI, if_neg (by omega)]; exact h.1
  · rw [hI_sI, if_neg (by omega), hI_sI, if_neg (by omega)]; exact h.2.1 j j1 j2
  · rw [hI_sI, if_neg (by omega), hI_sI, if_neg (by omega)]; exact h.2.2.2.1 p hp
  · rw [hI_sI, if_neg (by omega), hI_sI]
    by_cases e : q = p
    · rw [if_pos ⟨rfl, e⟩]; show nI x = nI (if q = p then x else _); rw [if_pos e]
    · rw [if_neg (fun z => e z.2), (h.2.2.2.2 q hq).1]; show _ = nI (if q = p then x else _); rw [if_neg e]; rfl
  · rw [hI_sI]
    by_cases e : q = p
    · rw [if_pos ⟨rfl, e⟩]; show _ = nI (vm (if q = p then x else _)); rw [if_pos e]
    · rw [if_neg (fun z => e z.2), hI_sI, if_neg (by omega), (h.2.2.2.2 q hq).2.1]; show _ = nI (vm (if q = p then x else _)); rw [if_neg e]; rfl
  · rw [hI_sI, if_neg (by omega), hI_sI, if_neg (by omega)]; exact (h.2.2.2.2 q hq).2.2
def lcg (x : Nat) : Nat := (x * 1103515245 + 12345) % 2147483648
theorem lcg_lt (x : Nat) : lcg x < 2147483648 := Nat.mod_lt _ (by decide)
theorem lcg_L (x : Nat) : (lN x * lN 1103515245 + lN 12345) &&& lN 2147483647 = lN (lcg x) := by
  rw [nL_mul, nL_add, nL_and]
  exact congrArg lN (Nat.and_two_pow_sub_one_eq_mod _ 31)
theorem lN_div {x y : Nat} (hx : x < 2147483648) (hy : y < 2147483648) : lN x / lN y = lN (x / y) := by
  have e1 : (lN x).toInt = (x : Int) := pf_lI (by omega)
  have e2 : (lN y).toInt = (y : Int) := pf_lI (by omega)
  have h : x / y ≤ x := Nat.div_le_self _ _
  have e3 : (lN (x / y)).toInt = ((x / y : Nat) : Int) := pf_lI (by omega)
  rw [← Int64.toInt_inj, Int64.toInt_div, e1, e2, e3]
  show Int.bmod (Int.tdiv x y) _ = _
  rw [← Int.ofNat_tdiv]
  generalize x / y = d at h ⊢
  rw [Int.bmod_eq_of_le (by omega) (by omega)]
theorem lN_toI (x : Nat) : (lN x).toInt32 = nI x := by
  apply Int32.toBitVec_inj.mp
  show BitVec.signExtend 32 (BitVec.ofNat 64 x) = BitVec.ofNat 32 x
  rw [BitVec.signExtend_eq_setWidth_of_le _ (by decide)]
  apply BitVec.eq_of_toNat_eq
  simp
theorem c_draw (ha : gSt S a) (hu : StP H a u) (ok : StOk u) : Hv mX7_draw 0 [.ref a] S H vN (fun x H' => x = lcg (uLa u) / 65536 ∧ StP H' a (uSetLa u (lcg (uLa u))) ∧ Off (fun q => q = a) H H') := by
  have hl := lcg_lt (uLa u)
  refine vq_intro (by decide) (by exact Nat.le_of_ble_eq_true rfl) rfl ?_
  refine xq_aload_n dX7_draw_0 rfl rfl ?_
  refine xq_aload_n dX7_draw_1 rfl rfl ?_
  refine xq_getLE clX7 (by decide) rfl fl_RX7_53 dX7_draw_2 (St.s0 ha) hu.la ?_
  refine xq_ldc2 (v := lN 1103515245) dX7_draw_5 kc_RX7_120 ?_
  refine xq_lmul dX7_draw_8 ?_
  refine xq_ldc2 (v := lN 12345) dX7_draw_9 kc_RX7_122 ?_
  refine xq_ladd dX7_draw_12 ?_
  refine xq_ldc2 (v := lN 2147483647) dX7_draw_13 kc_RX7_124 ?_
  refine xq_land dX7_draw_16 ?_
  refine xq_putL clX7 (by decide) rfl fl_RX7_53 (Or.inl rfl) dX7_draw_17 ⟨rfl, rfl⟩ (St.s0 ha) ?_
  rw [lcg_L]
  refine xq_aload_n dX7_draw_20 rfl rfl ?_
  refine xq_getLE clX7 (by decide) rfl fl_RX7_53 dX7_draw_21 (St.s0 ha) (by rw [hL_sL, if_pos ⟨rfl, rfl⟩]) ?_
  refine xq_ldc2 (v := lN 65536) dX7_draw_24 kc_RX7_126 ?_
  refine xq_ldiv dX7_draw_27 (by decide) ?_
  refine xq_l2i dX7_draw_28 ?_
  refine xq_iret dX7_draw_29 rfl ?_
  refine ⟨lcg (uLa u) / 65536, _, ⟨rfl, hu.setLa _, Off.pL (A := fun q => q = a) Off.rf rfl _ _⟩, ?_⟩; rw [show lN 65536 = lN 65536 from rfl, lN_div hl (by decide), lN_toI]
theorem c_see (ha : gSt S a) (hu : StP H a u) (ok : StOk u) (hi : i < 6) (hj : j < 6) : Nv mX7_see 1 [.ref a, vN i, vN j] S H (fun H' => StP H' a (uSee u i j) ∧ Off (fun q => q = a + 2 ∨ q = a + 3) H H') := by
  have hse := ok.se hi
  refine vq_intro (by decide) (by exact Nat.le_of_ble_eq_true rfl) rfl ?_
  refine xq_iload_n dX7_see_0 rfl rfl ?_
  refine xq_if_ltN dX7_see_1 rfl (by omega) ?_
  refine xq_iload_n dX7_see_4 rfl rfl ?_
  refine xq_bipush dX7_see_5 bp6 ?_
  refine xq_icmp_geN dX7_see_7 rfl (by omega) (by omega) ⟨fun h7 => ?_, fun h7 => ?_⟩
  · skip
    exact absurd h7 (by omega)
  · skip
    refine xq_iload_n dX7_see_10 rfl rfl ?_
    refine xq_if_ltN dX7_see_11 rfl (by omega) ?_
    refine xq_iload_n dX7_see_14 rfl rfl ?_
    refine xq_bipush dX7_see_15 bp6 ?_
    refine xq_icmp_geN dX7_see_17 rfl (by omega) (by omega) ⟨fun h17 => ?_, fun h17 => ?_⟩
    · skip
      exact absurd h17 (by omega)
    · skip
      refine xq_aload_n dX7_see_20 rfl rfl ?_
      refine xq_getF clX7 (by decide) rfl fl_RX7_15 dX7_see_21 (St.s0 ha) (St.r1 ha) ?_
      refine xq_iload_n dX7_see_24 rfl rfl ?_
      refine xq_dup2 dX7_see_25 rfl rfl ?_
      refine xq_ialdN dX7_see_26 (St.s2 ha) (by omega) (by decide) (hu.se hi) ?_
      refine xq_iconst dX7_see_27 ic1 ?_
      refine xq_iload_n dX7_see_28 rfl rfl ?_
      refine xq_ishlN dX7_see_29 (by omega) ?_
      refine xq_iorN dX7_see_30 ?_
      refine xq_iastN dX7_see_31 (St.s2 ha) (by omega) (by decide) ?_
      refine xq_aload_n dX7_see_32 rfl rfl ?_
      refine xq_getF clX7 (by decide) rfl fl_RX7_18 dX7_see_33 (St.s0 ha) (St.r2 ha) ?_
      refine xq_iload_n dX7_see_36 rfl rfl ?_
      refine xq_dup2 dX7_see_37 rfl rfl ?_
      refine xq_ialdN dX7_see_38 (St.s3 ha) (by omega) (by decide) ((hI_sI _ _ _ _ _ _).trans ((if_neg (by omega)).trans (hu.vi hi))) ?_
      refine xq_iconst dX7_see_39 ic3 ?_
      refine xq_iload_n dX7_see_40 rfl rfl ?_
      refine xq_callSN1P gd_X10_shiftOf dX7_see_41 nl_RX7_86 im_X10_shiftOf (by exact Nat.le_of_ble_eq_true rfl) (by decide) (c_shiftOf hj) ?_
      refine xq_ishlN dX7_see_44 (by omega) ?_
      refine xq_iorN dX7_see_45 ?_
      refine xq_iastN dX7_see_46 (St.s3 ha) (by omega) (by decide) ?_
      refine xq_vret dX7_see_47 rfl ?_
      refine ⟨_, ⟨?_, (Off.rf.pI (Or.inl rfl) _ _).pI (Or.inr rfl) _ _⟩, rfl⟩; rw [← vm_or hse hj]; exact hu.setSe _ _
theorem tb_shr (s j : Nat) : (s >>> j &&& 1 = 0) ↔ s.testBit j = false := by
  unfold Nat.testBit
  rw [Nat.and_comm 1]
  simp
def sbs (s n e : Nat) : Nat := fo (fun j m => if s.testBit j then m ||| 1 <<< j else m) e n
theorem StOk.see {u : uSt} (ok : StOk u) {i j : Nat} (hj : j < 6) : StOk (uSee u i j) := ⟨ok.1, ok.2.1, ok.2.2.1, ok.2.2.2.1, fun p hp => ⟨by
  show (if p = i then uSe u i ||| 1 <<< j else uSe u p) < 64
  split
  · rename_i e
    exact or64 (e ▸ ok.se hp) (shl64 hj)
  · exact ok.se hp, ok.pz hp⟩, ok.2.2.2.2.2⟩
theorem uSetSe_2 (u : uSt) (i x y : Nat) : uSetSe (uSetSe u i x) i y = uSetSe u i y := by
  unfold uSetSe
  congr 3
  funext j
  by_cases h : j = i <;> simp [h]
theorem uSetSe_s (u : uSt) (i : Nat) : uSetSe u i (uSe u i) = u := by
  unfold uSetSe uSe
  obtain ⟨a, b, c, d⟩ := u
  congr 3
  funext j
  by_cases h : j = i <;> simp [h]
theorem uSe_set (u : uSt) (i x : Nat) : uSe (uSetSe u i x) i = x := by simp [uSetSe, uSe]
theorem sbs_lt {s n e : Nat} (hn : n ≤ 6) (he : e < 64) : sbs s n e < 64 := by
  induction n with
  | zero => exact he
  | succ n ih =>
    show (if _ then _ else _) < 64
    split
    · exact or64 (ih (by omega)) (shl64 (by omega))
    · exact ih (by omega)
theorem StOk.setSe {u : uSt} (ok : StOk u) {i x : Nat} (hx : x < 64) : StOk (uSetSe u i x) := ⟨ok.1, ok.2.1, ok.2.2.1, ok.2.2.2.1, fun p hp => ⟨by
  show (if p = i then x else uSe u p) < 64
  split
  · exact hx
  · exact ok.se hp, ok.pz hp⟩, ok.2.2.2.2.2⟩
theorem c_seeThese {s : Nat} (ha : gSt S a) (hu : StP H a u) (ok : StOk u) (hi : i < 6) (hs : s < 64) : Nv mX7_seeThese 2 [.ref a, vN i, vN s] S H (fun H' => StP H' a (uSetSe u i (sbs s (uNp u) (uSe u i))) ∧ Off (fun q => q = a + 2 ∨ q = a + 3) H H') := by
  have hse := ok.se hi; have hnp := ok.np
  have lp : ∀ (fz : Nat) (j : Nat) (H1 : xH), uNp u - j < fz → j ≤ uNp u → StP H1 a (uSetSe u i (sbs s j (uSe u i))) → Off (fun q => q = a + 2 ∨ q = a + 3) H H1 → Xq mX7_seeThese 2 0 0 2 [some (.ref a), some (vN i), some (vN s), some (vN j)] [] S H1 (fun R => ∃ H', (fun H' => StP H' a (uSetSe u i (sbs s (uNp u) (uSe u i))) ∧ Off (fun q => q = a + 2 ∨ q = a + 3) H H') H' ∧ R = (none, S, H')) := by
    intro fz
    induction fz with
    | zero => intro j  H1  hfz; exact absurd hfz (by omega)
    | succ fz ih =>
      intro j  H1  hfz hj hu1 ho
      refine xq_iload_n dX7_seeThese_2 rfl rfl ?_
      refine xq_aload_n dX7_seeThese_3 rfl rfl ?_
      refine xq_getIE clX7 (by decide) rfl fl_RX7_36 dX7_seeThese_4 (St.s0 ha) hu1.f6 ?_
      refine xq_icmp_geN dX7_seeThese_7 rfl (by omega) (by show uNp u < _; omega) ⟨fun h7 => ?_, fun h7 => ?_⟩
      · skip
        refine xq_vret dX7_seeThese_30 rfl ?_
        have h7 : uNp u ≤ j := h7; exact ⟨H1, ⟨by rw [show uNp u = j by omega]; exact hu1, ho⟩, rfl⟩
      · skip
        have h7 : j < uNp u := h7
        have hb := shr_le s j; have hb2 : s >>> j &&& 1 ≤ 1 := Nat.and_le_right
        refine xq_iload_n dX7_seeThese_10 rfl rfl ?_
        refine xq_iload_n dX7_seeThese_11 rfl rfl ?_
        refine xq_ishrN dX7_seeThese_12 (by omega) (by omega) ?_
        refine xq_iconst dX7_seeThese_13 ic1 ?_
        refine xq_iandN dX7_seeThese_14 ?_
        refine xq_if_eqN dX7_seeThese_15 rfl (by omega) ⟨fun h15 => ?_, fun h15 => ?_⟩
        · skip
          refine xq_iincN dX7_seeThese_24 ic1 rfl rfl ?_
          refine xq_goto dX7_seeThese_27 rfl ?_
          refine ih (j + 1) H1 (by omega) (by omega) ?_ ho; have := (tb_shr s j).mp h15; simpa [sbs, fo, this] using hu1
        · skip
          refine xq_aload_n dX7_seeThese_18 rfl rfl ?_
          refine xq_iload_n dX7_seeThese_19 rfl rfl ?_
          refine xq_iload_n dX7_seeThese_20 rfl rfl ?_
          refine xq_callV2N clX7 gd_X7_see dX7_seeThese_21 ml_RX7_89 im_X7_see se_X7_see rfl (St.s0 ha) (by exact Nat.le_of_ble_eq_true rfl) (by decide) (c_see ha hu1 (ok.setSe (sbs_lt (by omega) hse)) hi (by omega)) ?_
          intro H21 p21
          refine xq_iincN dX7_seeThese_24 ic1 rfl rfl ?_
          refine xq_goto dX7_seeThese_27 rfl ?_
          refine ih (j + 1) H21 (by omega) (by omega) ?_ (ho.tr p21.2); have := p21.1; unfold uSee at this; rw [uSetSe_2, uSe_set] at this; have hb : s.testBit j = true := Bool.not_eq_false _ ▸ (fun e => h15 ((tb_shr s j).mpr e)); simpa [sbs, fo, hb] using this
  refine vq_intro (by decide) (by exact Nat.le_of_ble_eq_true rfl) rfl ?_
  refine xq_iconst dX7_seeThese_0 ic0 ?_
  refine xq_istore_n dX7_seeThese_1 rfl rfl ?_
  exact lp (uNp u + 1) 0 H (by omega) (by omega) (by show StP H a (uSetSe u i (uSe u i)); rw [uSetSe_s]; exact hu) Off.rf
end ST2
