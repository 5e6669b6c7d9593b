/-! ===== the reference: all are asked ===== -/
def twN (ow : Int) : Nat := if ow = -1 then 0 else if ow = 0 then 5 else ow.toNat
def TwP (H : xH) (ow mu : Int) : Prop := hI H 83 57 = nI (twN ow) ∧ hI H 83 58 = zI mu
section AS
variable {S : xS} {H H1 H2 H3 : xH} {T : uTx} {N : Nat → Nat → Nat} {s a b c w p q n i j k x y m l f odds : Nat} {lf fb : Nat → Bool} {u v : uSt} {ow mu : Int} {dr : Bool} {A F : Nat → Prop}
theorem TwP.off (h : TwP H ow mu) (ho : MoF A F H H2) (h1 : ¬ F 57) (h2 : ¬ F 58) : TwP H2 ow mu := ⟨(ho.2 57 h1).trans h.1, (ho.2 58 h2).trans h.2⟩
theorem twN_lt (how : -1 ≤ ow ∧ ow ≤ 4) : twN ow ≤ 5 := by unfold twN; split; omega; split <;> omega
theorem twN_eq (how : -1 ≤ ow ∧ ow ≤ 4) : (twN ow = 5 ↔ ow = 0) ∧ (twN ow = 1 ↔ ow = 1) ∧ (twN ow = 2 ↔ ow = 2) ∧ (twN ow = 3 ↔ ow = 3) := by
  unfold twN
  split
  · omega
  · split <;> omega
theorem lcg_I (x : Nat) : (nI x * nI 1103515245 + nI 12345) &&& nI 2147483647 = nI (lcg x) := by
  rw [nq_mul, nq_add, nq_and]
  exact congrArg nI (Nat.and_two_pow_sub_one_eq_mod _ 31)
theorem RmP.la2 (h : RmP H T s lf u) (y : Nat) : RmP (sI H 105 s (nI y)) T s lf (uSetLa u y) := ⟨h.lf, h.hr, by rw [hI_sI, if_pos ⟨rfl, rfl⟩]; rfl, h.hd, h.li, h.sd, h.se, h.pz⟩
theorem m_isHushed (hF : gFx S) (hr : RmP H T s lf u) (h23 : s < 23) (hn : n ≤ 100) : Hv mX11_isHushed 0 [.ref 83, vN s, vN n, vB dr] S H vB (fun z H' => z = !(spk dr u n) ∧ RmP H' T s lf (spu dr u n) ∧ (∀ s', s' ≠ s → RmE H H' s') ∧ Off (fun q => q = 105) H H') := by
  have hlc := lcg_lt (uLa u)
  have hl2 : lcg (uLa u) >>> 16 = lcg (uLa u) / 65536 := by rw [Nat.shiftRight_eq_div_pow]
  refine vq_intro (by decide) (by exact Nat.le_of_ble_eq_true rfl) rfl ?_
  refine xq_iload_n dX11_isHushed_0 rfl rfl ?_
  refine xq_if_eqB dX11_isHushed_1 rfl ⟨fun h1 => ?_, fun h1 => ?_⟩
  · skip
    refine xq_iload_n dX11_isHushed_14 rfl rfl ?_
    refine xq_bipush dX11_isHushed_15 bp50 ?_
    refine xq_icmp_ltN dX11_isHushed_17 rfl (by omega) (by omega) ⟨fun h17 => ?_, fun h17 => ?_⟩
    · skip
      refine xq_iconst dX11_isHushed_24 ic0 ?_
      refine xq_zret dX11_isHushed_25 rfl (by decide) ?_
      refine ⟨false, H, ⟨by simp [spk, h1]; omega, by rw [show spu dr u n = u by simp [spu, h1]]; exact hr, fun _ _ => RmE.rf, Off.rf⟩, rfl⟩
    · skip
      refine xq_iconst dX11_isHushed_20 ic1 ?_
      refine xq_goto dX11_isHushed_21 rfl ?_
      refine xq_zret dX11_isHushed_25 rfl (by decide) ?_
      refine ⟨true, H, ⟨by simp [spk, h1]; omega, by rw [show spu dr u n = u by simp [spu, h1]]; exact hr, fun _ _ => RmE.rf, Off.rf⟩, rfl⟩
  · skip
    refine xq_iload_n dX11_isHushed_4 rfl rfl ?_
    refine xq_if_eqN dX11_isHushed_5 rfl (by omega) ⟨fun h5 => ?_, fun h5 => ?_⟩
    · skip
      refine xq_iload_n dX11_isHushed_14 rfl rfl ?_
      refine xq_bipush dX11_isHushed_15 bp50 ?_
      refine xq_icmp_ltN dX11_isHushed_17 rfl (by omega) (by omega) ⟨fun h17 => ?_, fun h17 => ?_⟩
      · skip
        refine xq_iconst dX11_isHushed_24 ic0 ?_
        refine xq_zret dX11_isHushed_25 rfl (by decide) ?_
        refine ⟨false, H, ⟨by simp [spk, h1, h5], by rw [show spu dr u n = u by simp [spu, h5]]; exact hr, fun _ _ => RmE.rf, Off.rf⟩, rfl⟩
      · skip
        refine xq_iconst dX11_isHushed_20 ic1 ?_
        refine xq_goto dX11_isHushed_21 rfl ?_
        refine xq_zret dX11_isHushed_25 rfl (by decide) ?_
        exact absurd h17 (by omega)
    · skip
      refine xq_iload_n dX11_isHushed_8 rfl rfl ?_
      refine xq_bipush dX11_isHushed_9 bp100 ?_
      refine xq_icmp_neN dX11_isHushed_11 rfl (by omega) (by omega) ⟨fun h11 => ?_, fun h11 => ?_⟩
      · skip
        refine xq_aload_n dX11_isHushed_26 rfl rfl ?_
        refine xq_getF clX11 (by decide) rfl fl_RX11_78 dX11_isHushed_27 (Fx.s83 hF) (Fx.r83_39 hF) ?_
        refine xq_iload_n dX11_isHushed_30 rfl rfl ?_
        refine xq_aload_n dX11_isHushed_31 rfl rfl ?_
        refine xq_getF clX11 (by decide) rfl fl_RX11_78 dX11_isHushed_32 (Fx.s83 hF) (Fx.r83_39 hF) ?_
        refine xq_iload_n dX11_isHushed_35 rfl rfl ?_
        refine xq_ialdN dX11_isHushed_36 (Fx.s105 hF) (by omega) (by decide) hr.la ?_
        refine xq_ldcw (v := nI 1103515245) dX11_isHushed_37 kc_RX11_438 ?_
        refine xq_imulN dX11_isHushed_40 ?_
        refine xq_sipush dX11_isHushed_41 sp12345 ?_
        refine xq_iaddN dX11_isHushed_44 ?_
        refine xq_ldcw (v := nI 2147483647) dX11_isHushed_45 kc_RX11_441 ?_
        refine xq_iandN dX11_isHushed_48 ?_
        rw [show nI (uLa u * 1103515245 + 12345 &&& 2147483647) = nI (lcg (uLa u)) from by rw [← nq_and, ← nq_add, ← nq_mul]; exact lcg_I _]
        refine xq_iastN dX11_isHushed_49 (Fx.s105 hF) (by omega) (by decide) ?_
        refine xq_aload_n dX11_isHushed_50 rfl rfl ?_
        refine xq_getF clX11 (by decide) rfl fl_RX11_78 dX11_isHushed_51 (Fx.s83 hF) (Fx.r83_39 hF) ?_
        refine xq_iload_n dX11_isHushed_54 rfl rfl ?_
        refine xq_ialdN (v := nI (lcg (uLa u))) dX11_isHushed_55 (Fx.s105 hF) (by omega) (by decide) (by rw [hI_sI, if_pos ⟨rfl, rfl⟩]) ?_
        refine xq_bipush dX11_isHushed_56 bp16 ?_
        refine xq_ishrN dX11_isHushed_58 (by omega) (by decide) ?_
        rw [hl2]
        refine xq_bipush dX11_isHushed_59 bp100 ?_
        refine xq_iremN dX11_isHushed_61 (by omega) (by omega) (by decide) ?_
        refine xq_iload_n dX11_isHushed_62 rfl rfl ?_
        refine xq_icmp_geN dX11_isHushed_63 rfl (by omega) (by omega) ⟨fun h63 => ?_, fun h63 => ?_⟩
        · skip
          refine xq_iconst dX11_isHushed_70 ic0 ?_
          refine xq_zret dX11_isHushed_71 rfl (by decide) ?_
          refine ⟨false, sI H 105 s (nI (lcg (uLa u))), ⟨by simp [spk, h1, h5]; omega, ?_, fun s' hs' => ⟨fun _ _ => rfl, fun q a b => by rw [hI_sI, if_neg (fun z => hs' z.2)], fun _ _ => ⟨rfl, rfl⟩⟩, Off.pI (A := fun q => q = 105) Off.rf rfl _ _⟩, rfl⟩
          rw [show spu dr u n = uSetLa u (lcg (uLa u)) by simp [spu, h1, h5]; omega]
          exact hr.la2 _
        · skip
          refine xq_iconst dX11_isHushed_66 ic1 ?_
          refine xq_goto dX11_isHushed_67 rfl ?_
          refine xq_zret dX11_isHushed_71 rfl (by decide) ?_
          refine ⟨true, sI H 105 s (nI (lcg (uLa u))), ⟨by simp [spk, h1, h5]; omega, ?_, fun s' hs' => ⟨fun _ _ => rfl, fun q a b => by rw [hI_sI, if_neg (fun z => hs' z.2)], fun _ _ => ⟨rfl, rfl⟩⟩, Off.pI (A := fun q => q = 105) Off.rf rfl _ _⟩, rfl⟩
          rw [show spu dr u n = uSetLa u (lcg (uLa u)) by simp [spu, h1, h5]; omega]
          exact hr.la2 _
      · skip
        refine xq_iload_n dX11_isHushed_14 rfl rfl ?_
        refine xq_bipush dX11_isHushed_15 bp50 ?_
        refine xq_icmp_ltN dX11_isHushed_17 rfl (by omega) (by omega) ⟨fun h17 => ?_, fun h17 => ?_⟩
        · skip
          refine xq_iconst dX11_isHushed_24 ic0 ?_
          refine xq_zret dX11_isHushed_25 rfl (by decide) ?_
          exact absurd h17 (by omega)
        · skip
          refine xq_iconst dX11_isHushed_20 ic1 ?_
          refine xq_goto dX11_isHushed_21 rfl ?_
          refine xq_zret dX11_isHushed_25 rfl (by decide) ?_
          refine ⟨true, H, ⟨by simp [spk, h1]; omega, by rw [show spu dr u n = u by simp [spu]; omega]; exact hr, fun _ _ => RmE.rf, Off.rf⟩, rfl⟩
theorem m_hushOf (hd : LdP S H T N lf u s) (hp : p < tNp T) (htw : TwP H ow mu) (how : -1 ≤ ow ∧ ow ≤ 4) (hmu : -1 ≤ mu ∧ mu < 6) (hnm : ¬ (ow = 2 ∧ (p : Int) = mu)) : Hv mX11_hushOf 5 [.ref 83, vN p] S H vN (fun z H' => z = hsh T u ow mu p (pop (kns u)) ∧ MoF (fun q => q = 83 ∨ q = 101 ∨ q = 102) (fun k => k = 34) H H') := by
  have hs := hd.ms; have hr := hd.rm; have hlr := hd.lr; have ok := hd.ok; have h23 := hd.s23; have hro := hd.ro; have hF := hs.fx; have hx := hs.mx; have hw := hs.mw; have tk := hs.tk; have tw := hs.tw; have hnp := tw.2.1; have hnc := tw.1; have hWn := nW_le tw; have htr := hlr.2.1; have hnf8 := tk.nf; have htt := hs.tt
  have htl := twN_lt how
  have hsv : shv T ≤ 100 := by have := tk.sh; unfold shv; split <;> omega
  refine vq_intro (by decide) (by exact Nat.le_of_ble_eq_true rfl) rfl ?_
  refine xq_aload_n dX11_hushOf_0 rfl rfl ?_
  refine xq_getIE clX11 (by decide) rfl fl_RX11_431 dX11_hushOf_1 (Fx.s83 hF) htw.1 ?_
  refine xq_iconst dX11_hushOf_4 ic5 ?_
  refine xq_icmp_neN dX11_hushOf_5 rfl (by omega) (by omega) ⟨fun h5 => ?_, fun h5 => ?_⟩
  · skip
    refine xq_aload_n dX11_hushOf_12 rfl rfl ?_
    refine xq_getIE clX11 (by decide) rfl fl_RX11_431 dX11_hushOf_13 (Fx.s83 hF) htw.1 ?_
    refine xq_iconst dX11_hushOf_16 ic1 ?_
    refine xq_icmp_neN dX11_hushOf_17 rfl (by omega) (by omega) ⟨fun h17 => ?_, fun h17 => ?_⟩
    · skip
      refine xq_aload_n dX11_hushOf_25 rfl rfl ?_
      refine xq_iconst dX11_hushOf_26 ic1 ?_
      refine xq_iload_n dX11_hushOf_27 rfl rfl ?_
      refine xq_bipush dX11_hushOf_28 bp100 ?_
      refine xq_aload_n dX11_hushOf_30 rfl rfl ?_
      refine xq_getF clX11 (by decide) rfl fl_RX11_13 dX11_hushOf_31 (Fx.s83 hF) (Fx.r83_3 hF) ?_
      refine xq_iconst dX11_hushOf_34 ic5 ?_
      refine xq_ialdN dX11_hushOf_35 (Fx.s85 hF) (by omega) (by decide) hx.sh ?_
      refine xq_callV4H clX11 gd_X11_within dX11_hushOf_36 ml_RX11_434 im_X11_within se_X11_within rfl (Fx.s83 hF) (by exact Nat.le_of_ble_eq_true rfl) (by decide) (m_within hd hp (l := 1) (by decide) (by decide) (by omega)) ?_
      intro x36 H36 p36
      refine xq_iret dX11_hushOf_39 rfl ?_
      obtain ⟨e36, q36⟩ := p36
      exact ⟨_, H36, ⟨by rw [e36]; unfold hsh; rw [if_neg (fun z => h5 ((twN_eq how).1.mpr z)), if_neg (fun z => by rcases z with z | z; exact h17 ((twN_eq how).2.1.mpr z); exact hnm z)]; rfl, q36⟩, rfl⟩
    · skip
      refine xq_bipush dX11_hushOf_20 bp100 ?_
      refine xq_goto dX11_hushOf_22 rfl ?_
      refine xq_iret dX11_hushOf_39 rfl ?_
      exact ⟨100, H, ⟨by unfold hsh; rw [if_neg (fun z => h5 ((twN_eq how).1.mpr z)), if_pos (Or.inl ((twN_eq how).2.1.mp h17))], MoF.rf⟩, rfl⟩
  · skip
    refine xq_iconst dX11_hushOf_8 ic0 ?_
    refine xq_goto dX11_hushOf_9 rfl ?_
    refine xq_iret dX11_hushOf_39 rfl ?_
    exact ⟨0, H, ⟨by unfold hsh; rw [if_pos ((twN_eq how).1.mp h5)], MoF.rf⟩, rfl⟩
/-- what is left of a world, when q persons are looked at -/
def akB (u : uSt) (sy qt r q : Nat) : Bool := !(ex (fun j => (sy.testBit j && !(own u j r)) || (qt.testBit j && own u j r)) q)
theorem akB_s (u : uSt) (sy qt r q : Nat) : akB u sy qt r (q + 1) = (akB u sy qt r q && !((sy.testBit q && !(own u q r)) || (qt.testBit q && own u q r))) := by
  unfold akB
  rw [ex_s, Bool.not_or]
theorem akB_f {st : aT} (ok : StOk u) (hst : aInv u (kwU u (uRl u)) (uNp u) st) (hs : st = aFo T dr ow mu u (uNp u)) (r : Nat) : akB u st.1 st.2.1 r (uNp u) = askF T dr ow mu u r := by
  unfold askF
  rw [← hs, Bool.eq_iff_iff, beq_iff_eq]
  obtain ⟨-, -, h1, h2⟩ := hst
  constructor
  · intro h
    apply Nat.eq_of_testBit_eq
    intro j
    rw [Nat.testBit_and, Nat.testBit_or]
    unfold kwU
    rw [kwN_tb]
    unfold akB at h
    rw [Bool.not_eq_true', ← Bool.not_eq_true, ex_iff] at h
    cases hj : st.1.testBit j
    · cases hq : st.2.1.testBit j
      · simp
      · have := h2 j hq
        cases ho : own u j r
        · simp
        · exact absurd ⟨j, this.1, by rw [hq, ho]; simp⟩ h
    · have := h1 j hj
      cases ho : own u j r
      · exact absurd ⟨j, this.1, by rw [hj, ho]; rfl⟩ h
      · simp [this.1]
  · intro h
    unfold akB
    rw [Bool.not_eq_true', ← Bool.not_eq_true, ex_iff]
    rintro ⟨j, hj, hb⟩
    have e := congrArg (fun z => z.testBit j) h
    simp only [Nat.testBit_and, Nat.testBit_or] at e
    unfold kwU at e
    rw [kwN_tb, decide_eq_true hj, Bool.true_and] at e
    cases hs1 : st.1.testBit j
    · rw [hs1] at e hb
      cases hq : st.2.1.testBit j
      · rw [hq] at hb; simp at hb
      · rw [hq] at e hb; simp at e hb; rw [e] at hb; cases hb
    · rw [hs1] at e hb
      have := h1 j hs1
      cases hq : st.2.1.testBit j
      · rw [hq] at hb; simp at e hb; rw [e] at hb; cases hb
      · have q2 := h2 j hq
        rw [this.2] at q2; cases q2.2
theorem kns_kw (h : LfR T lf u) (t : TwOk T) (ok : StOk u) : kns u = kwU u (uRl u) := by
  unfold kns kwU kwN
  refine fo_cong (fun i hi y => ?_)
  have hnp := ok.np
  show _ = y ||| (own u i (uRl u)).toNat <<< i
  rw [own_kn h t (ok.se (by omega))]
  cases kn u i i
  · simp
  · simp
theorem LfR.rn (h : LfR T lf u) : uRl u < uZ u := by rw [h.2.2.2.1]; exact h.lt h.2.1 h.2.2.1
theorem RmP.pz2 (h : RmP H T s lf u) (p y : Nat) : RmP (sI H 110 (6 * s + p) (nI y)) T s lf (uSetPz u p y) := by
  refine ⟨h.lf, h.hr, h.la, h.hd, h.li, h.sd, h.se, fun q hq => ?_⟩
  rw [hI_sI]
  show _ = nI (if q = p then y else uPz u q)
  by_cases e : q = p
  · rw [if_pos ⟨rfl, by omega⟩, if_pos e]
  · rw [if_neg (by omega), if_neg e]; exact h.pz q hq
theorem RmP.sd2 (h : RmP H T s lf u) (y : Nat) : RmP (sI H 108 s (nI y)) T s lf (uSetF u 7 y) := ⟨h.lf, h.hr, h.la, h.hd, h.li, by rw [hI_sI, if_pos ⟨rfl, rfl⟩]; rfl, h.se, h.pz⟩
/-- all of LdP but the room's picture -/
theorem LdP.wr0 (h : LdP S H T N lf u s) (hr : RmP H2 T s lf u) (ho : Off A H H2) (h0 : ∀ q, 83 ≤ q → q ≤ 103 → ¬ A q) (h2 : ∀ q, 112 ≤ q → q ≤ 118 → ¬ A q) : LdP S H2 T N lf u s := by
  have hm : MoF A (fun _ => False) H H2 := MoF.of ho (h0 83 (by decide) (by decide))
  refine ⟨h.ms.off hm (fun q a b => h0 q (by omega) (by omega)) (h0 103 (by decide) (by decide)) (fun e => e) (fun e => e), hr, h.lr, h.ok, h.s23, (ho.I (h0 83 (by decide) (by decide)) 48).trans h.ro, fun p hp w hw => (ho.I (h2 112 (by decide) (by decide)) _).trans (h.si p hp w hw), fun p hp w hw => (ho.I (h2 113 (by decide) (by decide)) _).trans (h.kn p hp w hw), ?_, h.jc, fun f hf => ?_⟩
  · obtain ⟨pf, a, b⟩ := h.pa
    exact ⟨pf, fun w hw => (ho.I (h2 114 (by decide) (by decide)) _).trans (a w hw), b⟩
  · obtain ⟨Rw, a, b⟩ := h.so f hf
    exact ⟨Rw, fun w hw => (ho.I (h2 117 (by decide) (by decide)) _).trans (a w hw), b⟩
/-- a State changed in what the lay doesn't hang on -/
theorem LdP.st (h : LdP S H T N lf u s) (hs : Sam u v) (hr : RmP H2 T s lf v) (ok : StOk v) (ho : Off A H H2) (h0 : ∀ q, 83 ≤ q → q ≤ 103 → ¬ A q) (h2 : ∀ q, 112 ≤ q → q ≤ 118 → ¬ A q) : LdP S H2 T N lf v s := by
  obtain ⟨e1, e2, e3, e4, e5, e6⟩ := sam_kv (T := T) hs
  have eS : uSe v = uSe u := funext hs.2.2.2.2.2.2
  have hm : MoF A (fun _ => False) H H2 := MoF.of ho (h0 83 (by decide) (by decide))
  refine ⟨h.ms.off hm (fun q a b => h0 q (by omega) (by omega)) (h0 103 (by decide) (by decide)) (fun e => e) (fun e => e), hr, h.lr.sam hs, ok, h.s23, (ho.I (h0 83 (by decide) (by decide)) 48).trans h.ro, fun p hp w hw => by rw [eS]; exact (ho.I (h2 112 (by decide) (by decide)) _).trans (h.si p hp w hw), fun p hp w hw => by rw [e2]; exact (ho.I (h2 113 (by decide) (by decide)) _).trans (h.kn p hp w hw), ?_, e6 h.jc, fun f hf => ?_⟩
  · obtain ⟨pf, a, b⟩ := h.pa
    exact ⟨pf, fun w hw => (ho.I (h2 114 (by decide) (by decide)) _).trans (a w hw), fun w hw => by rw [e3]; exact b w hw⟩
  · obtain ⟨Rw, a, b⟩ := h.so f hf
    exact ⟨Rw, fun w hw => (ho.I (h2 117 (by decide) (by decide)) _).trans (a w hw), fun w hw hl => by rw [e4]; exact b w hw hl⟩
theorem m_asks (hs : MsP S H T N) (hr : RmP H T s lf u) (hlr : LfR T lf u) (ok : StOk u) (h23 : s < 23) (htw : TwP H ow mu) (how : -1 ≤ ow ∧ ow ≤ 4) (hmu : -1 ≤ mu ∧ mu < 6) : Hv mX11_asks 6 [.ref 83, vN s, vB dr] S H vN (fun z H' => z = askX T dr ow mu u ∧ ∃ lf2, DyQ H H' T s lf2 (askU T dr ow mu u)) := by
  have hF := hs.fx; have hx := hs.mx; have hw := hs.mw; have tk := hs.tk; have tw := hs.tw; have hnp := tw.2.1; have hnc := tw.1; have hWn := nW_le tw; have htr := hlr.2.1; have hnf8 := tk.nf
  refine vq_intro (by decide) (by exact Nat.le_of_ble_eq_true rfl) rfl ?_
  refine xq_aload_n dX11_asks_0 rfl rfl ?_
  refine xq_iload_n dX11_asks_1 rfl rfl ?_
  refine xq_callV1N clX11 gd_X11_lays dX11_asks_2 ml_RX11_428 im_X11_lays se_X11_lays rfl (Fx.s83 hF) (by exact Nat.le_of_ble_eq_true rfl) (by decide) (m_lays hs hr hlr ok h23) ?_
  intro H2 p2
  obtain ⟨hd0, hm0⟩ := p2
  have lp : ∀ (fz : Nat) (p sy qt : Nat) (vv : uSt) (H1 : xH), tNp T - p < fz → p ≤ tNp T → aFo T dr ow mu u p = (sy, qt, vv) → LdP S H1 T N lf vv s → (∀ s', s' ≠ s → RmE H H1 s') → MoF (fun q => q = 83 ∨ q = 101 ∨ q = 102 ∨ (104 ≤ q ∧ q ≤ 118)) (fun k => k = 34 ∨ k = 48 ∨ k = 56) H H1 → TwP H1 ow mu → Xq mX11_asks 6 0 0 13 [some (.ref 83), some (vN s), some (vB dr), some (vN sy), some (vN qt), some (vN p), none, none] [] S H1 (fun R => ∃ x H', (fun z H' => z = askX T dr ow mu u ∧ ∃ lf2, DyQ H H' T s lf2 (askU T dr ow mu u)) x H' ∧ R = (some (vN x), S, H')) := by
    intro fz
    induction fz with
    | zero => intro p sy qt  vv  H1  hfz; exact absurd hfz (by omega)
    | succ fz ih =>
      intro p sy qt  vv  H1  hfz hi hst0 hd1 hre ho htw1
      have hs1 := hd1.ms; have hx1 := hs1.mx; have hw1 := hs1.mw; have hr1 := hd1.rm; have hok1 := hd1.ok
      have hinv0 := aFo_inv (T := T) (dr := dr) (ow := ow) (mu := mu) ok p (by omega)
      rw [hst0] at hinv0
      have hsam := hinv0.1
      refine xq_iload dX11_asks_13 rfl ?_
      refine xq_aload_n dX11_asks_15 rfl rfl ?_
      refine xq_getF clX11 (by decide) rfl fl_RX11_13 dX11_asks_16 (Fx.s83 hF) (Fx.r83_3 hF) ?_
      refine xq_iconst dX11_asks_19 ic1 ?_
      refine xq_ialdN dX11_asks_20 (Fx.s85 hF) (by omega) (by decide) hx1.np ?_
      refine xq_icmp_geN dX11_asks_21 rfl (by omega) (by omega) ⟨fun h21 => ?_, fun h21 => ?_⟩
      · skip
        refine xq_iconst dX11_asks_177 ic0 ?_
        refine xq_istore dX11_asks_178 rfl ?_
        skip
        have ep : p = tNp T := by omega
        subst ep
        have hst : (sy, qt, vv) = aFo T dr ow mu u (uNp u) := by rw [hlr.2.2.2.2]; exact hst0.symm
        have hinv : aInv u (kwU u (uRl u)) (uNp u) (sy, qt, vv) := by rw [hlr.2.2.2.2]; exact hinv0
        have hsy : sy = askX T dr ow mu u := by unfold askX; rw [← hst]
        have hsyd : (sy, qt, vv).1 = sy := rfl
        have hqtd : (sy, qt, vv).2.1 = qt := rfl
        have hvv : vv = (aFo T dr ow mu u (tNp T)).2.2 := by rw [hst0]
        have hsy64 : sy < 64 := bits_lt (fun j hj => (hinv0.2.2.1 j hj).1) (by omega)
        have hqt64 : qt < 64 := bits_lt (fun j hj => (hinv0.2.2.2 j hj).1) (by omega)
        have hkn1 : ∀ q, q < tNp T → ∀ w, w < nW T → hI H1 113 (729 * q + w) = bI (lf w && own u q (ct lf w)) := fun q hq w hw => by
          have := hd1.kn q hq w hw
          rw [(sam_kv (T := T) hsam).2.1] at this
          exact this
        have lw : ∀ (fz : Nat) (w : Nat) (H2 : xH), nW T - w < fz → w ≤ nW T → (∀ v, v < nW T → hI H2 111 (729 * s + v) = bI (if v < w then lf v && akB u sy qt (ct lf v) (tNp T) else lf v)) → (∀ k, (k < 729 * s ∨ 729 * s + 729 ≤ k) → hI H2 111 k = hI H1 111 k) → Off (fun q => q = 111) H1 H2 → Xq mX11_asks 6 0 0 180 [some (.ref 83), some (vN s), none, some (vN sy), some (vN qt), some (vN w), none, none] [] S H2 (fun R => ∃ x H', (fun z H' => z = askX T dr ow mu u ∧ ∃ lf2, DyQ H H' T s lf2 (askU T dr ow mu u)) x H' ∧ R = (some (vN x), S, H')) := by
          intro fz
          induction fz with
          | zero => intro w  H2  hfz; exact absurd hfz (by omega)
          | succ fz ih =>
            intro w  H2  hfz hi hg he ho2
            refine xq_iload dX11_asks_180 rfl ?_
            refine xq_aload_n dX11_asks_182 rfl rfl ?_
            refine xq_getIE clX11 (by decide) rfl fl_RX11_335 dX11_asks_183 (Fx.s83 hF) ((ho2.I (by omega) 36).trans hw1.ws) ?_
            refine xq_icmp_geN dX11_asks_186 rfl (by omega) (by omega) ⟨fun h186 => ?_, fun h186 => ?_⟩
            · skip
              refine xq_iload_n dX11_asks_276 rfl rfl ?_
              refine xq_iret dX11_asks_277 rfl ?_
              refine ⟨sy, H2, ⟨hsy, fun w => lf w && askF T dr ow mu u (ct lf w), ?_⟩, rfl⟩
              have hfin : ∀ v, v < nW T → hI H2 111 (729 * s + v) = bI (lf v && askF T dr ow mu u (ct lf v)) := fun v hv => by
                rw [hg v hv, if_pos (by omega), ← akB_f ok hinv hst (ct lf v), hlr.2.2.2.2, ← hsyd, ← hqtd]
              have hkp := hd1.lr.keep (fb := askF T dr ow mu u) (by rw [hinv.1.2.1]; exact askF_rl ok)
              have hrm : ∀ q, 104 ≤ q → q ≤ 110 → ∀ k, hI H2 q k = hI H1 q k := fun q a b k => ho2.I (by omega) k
              have hr1 := hd1.rm
              have hst3 : askU T dr ow mu u = uKeep vv (askF T dr ow mu u) := by unfold askU; rw [hlr.2.2.2.2, ← hvv]
              rw [hst3]
              refine ⟨⟨hfin, (hrm 104 (by decide) (by decide) s).trans hr1.hr, (hrm 105 (by decide) (by decide) s).trans hr1.la, (hrm 106 (by decide) (by decide) s).trans hr1.hd, (hrm 107 (by decide) (by decide) s).trans hr1.li, (hrm 108 (by decide) (by decide) s).trans hr1.sd, fun p hp => (hrm 109 (by decide) (by decide) _).trans (hr1.se p hp), fun p hp => (hrm 110 (by decide) (by decide) _).trans (hr1.pz p hp)⟩, hkp, fun s' hs' => (hre s' hs').tr ⟨fun v hv => he _ (by omega), fun q a b => hrm q a (by omega) _, fun p hp => ⟨hrm 109 (by decide) (by decide) _, hrm 110 (by decide) (by decide) _⟩⟩, ho.tr (MoF.mo (MoF.of (F := fun _ => False) ho2 (by omega)) (fun q h => by omega) (fun k h => absurd h (fun e => e)))⟩
            · skip
              have hww := h186
              have ih0 := ih
              have lq : ∀ (fz : Nat) (q : Nat) (H3 : xH), tNp T - q < fz → q ≤ tNp T → (∀ v, v < nW T → hI H3 111 (729 * s + v) = bI (if v = w then lf w && akB u sy qt (ct lf w) q else if v < w then lf v && akB u sy qt (ct lf v) (tNp T) else lf v)) → (∀ k, (k < 729 * s ∨ 729 * s + 729 ≤ k) → hI H3 111 k = hI H1 111 k) → Off (fun q => q = 111) H1 H3 → Xq mX11_asks 6 0 0 192 [some (.ref 83), some (vN s), none, some (vN sy), some (vN qt), some (vN w), some (vN q), none] [] S H3 (fun R => ∃ x H', (fun z H' => z = askX T dr ow mu u ∧ ∃ lf2, DyQ H H' T s lf2 (askU T dr ow mu u)) x H' ∧ R = (some (vN x), S, H')) := by
                intro fz
                induction fz with
                | zero => intro q  H3  hfz; exact absurd hfz (by omega)
                | succ fz ih =>
                  intro q  H3  hfz hq hg3 he3 ho3
                  refine xq_iload dX11_asks_192 rfl ?_
                  refine xq_aload_n dX11_asks_194 rfl rfl ?_
                  refine xq_getF clX11 (by decide) rfl fl_RX11_13 dX11_asks_195 (Fx.s83 hF) (Fx.r83_3 hF) ?_
                  refine xq_iconst dX11_asks_198 ic1 ?_
                  refine xq_ialdN dX11_asks_199 (Fx.s85 hF) (by omega) (by decide) ((ho3.I (by omega) 1).trans hx1.np) ?_
                  refine xq_icmp_geN dX11_asks_200 rfl (by omega) (by omega) ⟨fun h200 => ?_, fun h200 => ?_⟩
                  · skip
                    refine xq_iincN dX11_asks_270 ic1 rfl rfl ?_
                    refine xq_goto dX11_asks_273 rfl ?_
                    have eq0 : q = tNp T := by omega
                    subst eq0
                    exact xq_fgt (ih0 (w + 1) H3 (by omega) (by omega) (fun v hv => by
                      rw [hg3 v hv]
                      by_cases e : v = w
                      · subst e; rw [if_pos rfl, if_pos (by omega)]
                      · rw [if_neg e, ite_c (by omega : v < w ↔ v < w + 1)]) he3 ho3) (by exact And.intro rfl (And.intro rfl (And.intro rfl (And.intro rfl (And.intro rfl (trivial))))))
                  · skip
                    have hb1 := shr_le sy q; have hb2 : sy >>> q &&& 1 ≤ 1 := Nat.and_le_right; have hb3 := shr_le qt q; have hb4 : qt >>> q &&& 1 ≤ 1 := Nat.and_le_right
                    refine xq_aload_n dX11_asks_203 rfl rfl ?_
                    refine xq_getF clX11 (by decide) rfl fl_RX11_103 dX11_asks_204 (Fx.s83 hF) (Fx.r83_50 hF) ?_
                    refine xq_sipush dX11_asks_207 sp729 ?_
                    refine xq_iload dX11_asks_210 rfl ?_
                    refine xq_imulN dX11_asks_212 ?_
                    refine xq_iload dX11_asks_213 rfl ?_
                    refine xq_iaddN dX11_asks_215 ?_
                    refine xq_zaldN (v := bI (lf w && own u q (ct lf w))) dX11_asks_216 (Fx.s113 hF) (by omega) (by decide) ((ho3.I (by omega) _).trans (hkn1 q h200 w hww)) ?_
                    refine xq_istore dX11_asks_217 rfl ?_
                    refine xq_iload_n dX11_asks_219 rfl rfl ?_
                    refine xq_iload dX11_asks_220 rfl ?_
                    refine xq_ishrN dX11_asks_222 (by omega) (by omega) ?_
                    refine xq_iconst dX11_asks_223 ic1 ?_
                    refine xq_iandN dX11_asks_224 ?_
                    refine xq_iconst dX11_asks_225 ic1 ?_
                    refine xq_icmp_neN dX11_asks_226 rfl (by omega) (by omega) ⟨fun h226 => ?_, fun h226 => ?_⟩
                    · skip
                      refine xq_iload dX11_asks_234 rfl ?_
                      refine xq_iload dX11_asks_236 rfl ?_
                      refine xq_ishrN dX11_asks_238 (by omega) (by omega) ?_
                      refine xq_iconst dX11_asks_239 ic1 ?_
                      refine xq_iandN dX11_asks_240 ?_
                      refine xq_iconst dX11_asks_241 ic1 ?_
                      refine xq_icmp_neN dX11_asks_242 rfl (by omega) (by omega) ⟨fun h242 => ?_, fun h242 => ?_⟩
                      · skip
                        refine xq_iincN dX11_asks_264 ic1 rfl rfl ?_
                        refine xq_goto dX11_asks_267 rfl ?_
                        have hsy : sy.testBit q = false := Bool.eq_false_iff.mpr (fun z => h226 (tb1.mpr z))
                        have hqt : qt.testBit q = false := Bool.eq_false_iff.mpr (fun z => h242 (tb1.mpr z))
                        have hst : (lf w && akB u sy qt (ct lf w) (q + 1)) = (lf w && akB u sy qt (ct lf w) q) := by
                          rw [akB_s]
                          cases hl : lf w
                          · rfl
                          · rw [hsy, hqt]; simp
                        exact xq_fgt (ih (q + 1) H3 (by omega) (by omega) (fun v hv => by
                          rw [hg3 v hv]
                          by_cases e : v = w
                          · subst e; rw [if_pos rfl, if_pos rfl, hst]
                          · rw [if_neg e, if_neg e]) he3 ho3) (by exact And.intro rfl (And.intro rfl (And.intro rfl (And.intro rfl (And.intro rfl (And.intro rfl (trivial)))))))
                      · skip
                        refine xq_iload dX11_asks_245 rfl ?_
                        refine xq_if_eqB dX11_asks_247 rfl ⟨fun h247 => ?_, fun h247 => ?_⟩
                        · skip
                          refine xq_iincN dX11_asks_264 ic1 rfl rfl ?_
                          refine xq_goto dX11_asks_267 rfl ?_
                          have hsy : sy.testBit q = false := Bool.eq_false_iff.mpr (fun z => h226 (tb1.mpr z))
                          have hqt : qt.testBit q = true := tb1.mp h242
                          have hst : (lf w && akB u sy qt (ct lf w) (q + 1)) = (lf w && akB u sy qt (ct lf w) q) := by
                            rw [akB_s]
                            cases hl : lf w
                            · rfl
                            · have hdo : own u q (ct lf w) = false := by have := h247; rw [hl, Bool.true_and] at this; exact this
                              rw [hsy, hqt, hdo]; simp
                          exact xq_fgt (ih (q + 1) H3 (by omega) (by omega) (fun v hv => by
                            rw [hg3 v hv]
                            by_cases e : v = w
                            · subst e; rw [if_pos rfl, if_pos rfl, hst]
                            · rw [if_neg e, if_neg e]) he3 ho3) (by exact And.intro rfl (And.intro rfl (And.intro rfl (And.intro rfl (And.intro rfl (And.intro rfl (trivial)))))))
                        · skip
                          refine xq_aload_n dX11_asks_250 rfl rfl ?_
                          refine xq_getF clX11 (by decide) rfl fl_RX11_96 dX11_asks_251 (Fx.s83 hF) (Fx.r83_45 hF) ?_
                          refine xq_sipush dX11_asks_254 sp729 ?_
                          refine xq_iload_n dX11_asks_257 rfl rfl ?_
                          refine xq_imulN dX11_asks_258 ?_
                          refine xq_iload dX11_asks_259 rfl ?_
                          refine xq_iaddN dX11_asks_261 ?_
                          refine xq_iconst dX11_asks_262 ic0 ?_
                          refine xq_zastN dX11_asks_263 (Fx.s111 hF) (by omega) (by decide) (by decide) ?_
                          refine xq_iincN dX11_asks_264 ic1 rfl rfl ?_
                          refine xq_goto dX11_asks_267 rfl ?_
                          have hsy : sy.testBit q = false := Bool.eq_false_iff.mpr (fun z => h226 (tb1.mpr z))
                          have hqt : qt.testBit q = true := tb1.mp h242
                          have hst : (lf w && akB u sy qt (ct lf w) (q + 1)) = false := by
                            rw [akB_s]
                            cases hl : lf w
                            · rfl
                            · have hdo : own u q (ct lf w) = true := by have := h247; rw [hl, Bool.true_and] at this; exact this
                              rw [hsy, hqt, hdo]; simp
                          exact xq_fgt (ih (q + 1) _ (by omega) (by omega) (fun v hv => by
                            rw [hI_sI]
                            by_cases e : v = w
                            · subst e; rw [if_pos ⟨rfl, rfl⟩, if_pos rfl, hst]; rfl
                            · rw [if_neg (by omega), hg3 v hv, if_neg e, if_neg e]) (fun k hk => by rw [hI_sI, if_neg (by omega)]; exact he3 k hk) (Off.pI (A := fun q => q = 111) ho3 rfl _ _)) (by exact And.intro rfl (And.intro rfl (And.intro rfl (And.intro rfl (And.intro rfl (And.intro rfl (trivial)))))))
                    · skip
                      refine xq_iload dX11_asks_229 rfl ?_
                      refine xq_if_eqB dX11_asks_231 rfl ⟨fun h231 => ?_, fun h231 => ?_⟩
                      · skip
                        refine xq_aload_n dX11_asks_250 rfl rfl ?_
                        refine xq_getF clX11 (by decide) rfl fl_RX11_96 dX11_asks_251 (Fx.s83 hF) (Fx.r83_45 hF) ?_
                        refine xq_sipush dX11_asks_254 sp729 ?_
                        refine xq_iload_n dX11_asks_257 rfl rfl ?_
                        refine xq_imulN dX11_asks_258 ?_
                        refine xq_iload dX11_asks_259 rfl ?_
                        refine xq_iaddN dX11_asks_261 ?_
                        refine xq_iconst dX11_asks_262 ic0 ?_
                        refine xq_zastN dX11_asks_263 (Fx.s111 hF) (by omega) (by decide) (by decide) ?_
                        refine xq_iincN dX11_asks_264 ic1 rfl rfl ?_
                        refine xq_goto dX11_asks_267 rfl ?_
                        have hsy : sy.testBit q = true := tb1.mp h226
                        have hst : (lf w && akB u sy qt (ct lf w) (q + 1)) = false := by
                          rw [akB_s]
                          cases hl : lf w
                          · rfl
                          · have hdo : own u q (ct lf w) = false := by have := h231; rw [hl, Bool.true_and] at this; exact this
                            rw [hsy, hdo]; simp
                        exact xq_fgt (ih (q + 1) _ (by omega) (by omega) (fun v hv => by
                          rw [hI_sI]
                          by_cases e : v = w
                          · subst e; rw [if_pos ⟨rfl, rfl⟩, if_pos rfl, hst]; rfl
                          · rw [if_neg (by omega), hg3 v hv, if_neg e, if_neg e]) (fun k hk => by rw [hI_sI, if_neg (by omega)]; exact he3 k hk) (Off.pI (A := fun q => q = 111) ho3 rfl _ _)) (by exact And.intro rfl (And.intro rfl (And.intro rfl (And.intro rfl (And.intro rfl (And.intro rfl (trivial)))))))
                      · skip
                        refine xq_iload dX11_asks_234 rfl ?_
                        refine xq_iload dX11_asks_236 rfl ?_
                        refine xq_ishrN dX11_asks_238 (by omega) (by omega) ?_
                        refine xq_iconst dX11_asks_239 ic1 ?_
                        refine xq_iandN dX11_asks_240 ?_
                        refine xq_iconst dX11_asks_241 ic1 ?_
                        refine xq_icmp_neN dX11_asks_242 rfl (by omega) (by omega) ⟨fun h242 => ?_, fun h242 => ?_⟩
                        · skip
                          refine xq_iincN dX11_asks_264 ic1 rfl rfl ?_
                          refine xq_goto dX11_asks_267 rfl ?_
                          have hsy : sy.testBit q = true := tb1.mp h226
                          have hqt : qt.testBit q = false := Bool.eq_false_iff.mpr (fun z => h242 (tb1.mpr z))
                          have hst : (lf w && akB u sy qt (ct lf w) (q + 1)) = (lf w && akB u sy qt (ct lf w) q) := by
                            rw [akB_s]
                            cases hl : lf w
                            · rfl
                            · have hdo : own u q (ct lf w) = true := by have := h231; rw [hl, Bool.true_and] at this; exact this
                              rw [hsy, hqt, hdo]; simp
                          exact xq_fgt (ih (q + 1) H3 (by omega) (by omega) (fun v hv => by
                            rw [hg3 v hv]
                            by_cases e : v = w
                            · subst e; rw [if_pos rfl, if_pos rfl, hst]
                            · rw [if_neg e, if_neg e]) he3 ho3) (by exact And.intro rfl (And.intro rfl (And.intro rfl (And.intro rfl (And.intro rfl (And.intro rfl (trivial)))))))
                        · skip
                          refine xq_iload dX11_asks_245 rfl ?_
                          refine xq_if_eqB dX11_asks_247 rfl ⟨fun h247 => ?_, fun h247 => ?_⟩
                          · skip
                            refine xq_iincN dX11_asks_264 ic1 rfl rfl ?_
                            refine xq_goto dX11_asks_267 rfl ?_
                            rw [h231] at h247; cases h247
                          · skip
                            refine xq_aload_n dX11_asks_250 rfl rfl ?_
                            refine xq_getF clX11 (by decide) rfl fl_RX11_96 dX11_asks_251 (Fx.s83 hF) (Fx.r83_45 hF) ?_
                            refine xq_sipush dX11_asks_254 sp729 ?_
                            refine xq_iload_n dX11_asks_257 rfl rfl ?_
                            refine xq_imulN dX11_asks_258 ?_
                            refine xq_iload dX11_asks_259 rfl ?_
                            refine xq_iaddN dX11_asks_261 ?_
                            refine xq_iconst dX11_asks_262 ic0 ?_
                            refine xq_zastN dX11_asks_263 (Fx.s111 hF) (by omega) (by decide) (by decide) ?_
                            refine xq_iincN dX11_asks_264 ic1 rfl rfl ?_
                            refine xq_goto dX11_asks_267 rfl ?_
                            have hsy : sy.testBit q = true := tb1.mp h226
                            have hqt : qt.testBit q = true := tb1.mp h242
                            have hst : (lf w && akB u sy qt (ct lf w) (q + 1)) = false := by
                              rw [akB_s]
                              cases hl : lf w
                              · rfl
                              · have hdo : own u q (ct lf w) = true := by have := h247; rw [hl, Bool.true_and] at this; exact this
                                rw [hsy, hqt, hdo]; simp
                            exact xq_fgt (ih (q + 1) _ (by omega) (by omega) (fun v hv => by
                              rw [hI_sI]
                              by_cases e : v = w
                              · subst e; rw [if_pos ⟨rfl, rfl⟩, if_pos rfl, hst]; rfl
                              · rw [if_neg (by omega), hg3 v hv, if_neg e, if_neg e]) (fun k hk => by rw [hI_sI, if_neg (by omega)]; exact he3 k hk) (Off.pI (A := fun q => q = 111) ho3 rfl _ _)) (by exact And.intro rfl (And.intro rfl (And.intro rfl (And.intro rfl (And.intro rfl (And.intro rfl (trivial)))))))
              refine xq_iconst dX11_asks_189 ic0 ?_
              refine xq_istore dX11_asks_190 rfl ?_
              exact lq (tNp T + 1) 0 H2 (by omega) (by omega) (fun v hv => by
                rw [hg v hv]
                by_cases e : v = w
                · subst e; rw [if_pos rfl, if_neg (by omega)]; show _ = bI (lf v && true); rw [Bool.and_true]
                · rw [if_neg e]) he ho2
        exact xq_fgt (lw (nW T + 1) 0 H1 (by omega) (by omega) (fun v hv => by rw [if_neg (by omega)]; exact hr1.lf v hv) (fun _ _ => rfl) Off.rf) (by exact And.intro rfl (And.intro rfl (And.intro rfl (And.intro rfl (And.intro rfl (trivial))))))
      · skip
        have hknp := hd1.kn p h21 _ htr
        have hkm : kns vv = kwU u (uRl u) := by rw [(sam_kv (T := T) hsam).2.2.2.2.1, kns_kw hlr tw ok]
        have hno : own vv p (ct lf (trW T)) = (kwU u (uRl u)).testBit p := by
          rw [(sam_kv (T := T) hsam).2.1, ← hlr.2.2.2.1]
          unfold kwU
          rw [kwN_tb, decide_eq_true (by rw [hlr.2.2.2.2]; exact h21), Bool.true_and]
        rw [hlr.2.2.1, Bool.true_and, hno] at hknp
        have hsy64 : sy < 64 := bits_lt (fun j hj => (hinv0.2.2.1 j hj).1) (by omega)
        have hqt64 : qt < 64 := bits_lt (fun j hj => (hinv0.2.2.2 j hj).1) (by omega)
        have htl := twN_lt how
        have hstep : aFo T dr ow mu u (p + 1) = aStep T dr ow mu (kwU u (uRl u)) (pop (kwU u (uRl u))) p (sy, qt, vv) := by rw [← hst0]; rfl
        unfold aStep at hstep
        have hhle := hsh_le (T := T) (u := vv) (ow := ow) (mu := mu) (i := p) (m := pop (kwU u (uRl u))) tk.sh
        refine xq_aload_n dX11_asks_24 rfl rfl ?_
        refine xq_getIE clX11 (by decide) rfl fl_RX11_431 dX11_asks_25 (Fx.s83 hF) htw1.1 ?_
        refine xq_iconst dX11_asks_28 ic2 ?_
        refine xq_icmp_neN dX11_asks_29 rfl (by omega) (by omega) ⟨fun h29 => ?_, fun h29 => ?_⟩
        · skip
          have hnmu : ¬ (ow = 2 ∧ (p : Int) = mu) := fun z => h29 ((twN_eq how).2.2.1.mpr z.1)
          refine xq_aload_n dX11_asks_44 rfl rfl ?_
          refine xq_iload dX11_asks_45 rfl ?_
          refine xq_callV1H clX11 gd_X11_hushOf dX11_asks_47 ml_RX11_442 im_X11_hushOf se_X11_hushOf rfl (Fx.s83 hF) (by exact Nat.le_of_ble_eq_true rfl) (by decide) (m_hushOf hd1 h21 htw1 how hmu hnmu) ?_
          intro x47 H47 p47
          obtain ⟨e47, q47⟩ := p47
          rw [hkm] at e47
          have hd2 := hd1.off q47 (fun q a b c d => by omega) (by decide) (by decide) (by decide)
          have htw2 := htw1.off q47 (by decide) (by decide)
          have ho2 := ho.tr (MoF.mo q47 (fun q h => (by omega : q = 83 ∨ q = 101 ∨ q = 102 ∨ (104 ≤ q ∧ q ≤ 118))) (fun k h => (Or.inl h : k = 34 ∨ k = 48 ∨ k = 56)))
          have hre2 : ∀ s', s' ≠ s → RmE H H47 s' := fun s' hs' => (hre s' hs').tr (RmE.of q47.1 (fun q a b => by omega))
          have hw2 := hd2.ms.mw
          have hknp2 := (q47.1.I (by omega) (729 * p + trW T)).trans hknp
          refine xq_istore dX11_asks_50 rfl ?_
          refine xq_aload_n dX11_asks_52 rfl rfl ?_
          refine xq_getF clX11 (by decide) rfl fl_RX11_103 dX11_asks_53 (Fx.s83 hF) (Fx.r83_50 hF) ?_
          refine xq_sipush dX11_asks_56 sp729 ?_
          refine xq_iload dX11_asks_59 rfl ?_
          refine xq_imulN dX11_asks_61 ?_
          refine xq_aload_n dX11_asks_62 rfl rfl ?_
          refine xq_getIE clX11 (by decide) rfl fl_RX11_338 dX11_asks_63 (Fx.s83 hF) hw2.tr ?_
          refine xq_iaddN dX11_asks_66 ?_
          refine xq_zaldN dX11_asks_67 (Fx.s113 hF) (by omega) (by decide) hknp2 ?_
          refine xq_if_neB dX11_asks_68 rfl ⟨fun h68 => ?_, fun h68 => ?_⟩
          · skip
            refine xq_aload_n dX11_asks_92 rfl rfl ?_
            refine xq_iload_n dX11_asks_93 rfl rfl ?_
            refine xq_iload dX11_asks_94 rfl ?_
            refine xq_iload_n dX11_asks_96 rfl rfl ?_
            refine xq_callV3H clX11 gd_X11_isHushed dX11_asks_97 ml_RX11_445 im_X11_isHushed se_X11_isHushed rfl (Fx.s83 hF) (by exact Nat.le_of_ble_eq_true rfl) (by decide) (m_isHushed hF hd2.rm h23 (by omega)) ?_
            intro x97 H97 p97
            obtain ⟨e97, r97, s97, o97⟩ := p97
            have hsam3 : Sam vv (spu dr vv x47) := Sam.spu
            have hok4 : StOk (spu dr vv x47) := StOk.spu hok1
            have hd4 : LdP S H97 T N lf (spu dr vv x47) s := hd2.st hsam3 r97 hok4 o97 (fun q a b => by omega) (fun q a b => by omega)
            have hr4 := hd4.rm
            have hre4 : ∀ s', s' ≠ s → RmE H H97 s' := fun s' hs' => (hre2 s' hs').tr (s97 s' hs')
            have ho4 := ho2.tr (MoF.mo (MoF.of (F := fun k => k = 34 ∨ k = 48 ∨ k = 56) o97 (by omega)) (fun q h => (by omega : q = 83 ∨ q = 101 ∨ q = 102 ∨ (104 ≤ q ∧ q ≤ 118))) (fun k h => h))
            have htw4 := htw2.off (MoF.of (F := fun _ => False) o97 (by omega)) (fun e => e) (fun e => e)
            have hkm4 : kns (spu dr vv x47) = kwU u (uRl u) := ((sam_kv (T := T) hsam3).2.2.2.2.1).trans hkm
            have hsd4 := hok4.sd
            refine xq_if_eqB dX11_asks_100 rfl ⟨fun h100 => ?_, fun h100 => ?_⟩
            · skip
              refine xq_iload_n dX11_asks_106 rfl rfl ?_
              refine xq_iconst dX11_asks_107 ic1 ?_
              refine xq_iload dX11_asks_108 rfl ?_
              refine xq_ishlN dX11_asks_110 (by omega) ?_
              refine xq_iorN dX11_asks_111 ?_
              refine xq_istore_n dX11_asks_112 rfl rfl ?_
              refine xq_aload_n dX11_asks_113 rfl rfl ?_
              refine xq_getF clX11 (by decide) rfl fl_RX11_87 dX11_asks_114 (Fx.s83 hF) (Fx.r83_42 hF) ?_
              refine xq_iload_n dX11_asks_117 rfl rfl ?_
              refine xq_ialdN dX11_asks_118 (Fx.s108 hF) (by omega) (by decide) hr4.sd ?_
              have hb1 := shr_le (uSd (spu dr vv x47)) p; have hb2 : uSd (spu dr vv x47) >>> p &&& 1 ≤ 1 := Nat.and_le_right
              refine xq_iload dX11_asks_119 rfl ?_
              refine xq_ishrN dX11_asks_121 (by omega) (by omega) ?_
              refine xq_iconst dX11_asks_122 ic1 ?_
              refine xq_iandN dX11_asks_123 ?_
              refine xq_iconst dX11_asks_124 ic1 ?_
              refine xq_icmp_neN dX11_asks_125 rfl (by omega) (by omega) ⟨fun h125 => ?_, fun h125 => ?_⟩
              · skip
                refine xq_aload_n dX11_asks_131 rfl rfl ?_
                refine xq_getF clX11 (by decide) rfl fl_RX11_93 dX11_asks_132 (Fx.s83 hF) (Fx.r83_44 hF) ?_
                refine xq_bipush dX11_asks_135 bp6 ?_
                refine xq_iload_n dX11_asks_137 rfl rfl ?_
                refine xq_imulN dX11_asks_138 ?_
                refine xq_iload dX11_asks_139 rfl ?_
                refine xq_iaddN dX11_asks_141 ?_
                refine xq_dup2 dX11_asks_142 rfl rfl ?_
                refine xq_ialdN (v := nI (uPz (spu dr vv x47) p)) dX11_asks_143 (Fx.s110 hF) (by omega) (by decide) (hr4.pz p (by omega)) ?_
                refine xq_aload_n dX11_asks_144 rfl rfl ?_
                refine xq_iconst dX11_asks_145 ic0 ?_
                refine xq_iload dX11_asks_146 rfl ?_
                refine xq_sipush dX11_asks_148 sp999 ?_
                refine xq_bipush dX11_asks_151 bp10 ?_
                refine xq_callV4H clX11 gd_X11_within dX11_asks_153 ml_RX11_434 im_X11_within se_X11_within rfl (Fx.s83 hF) (by exact Nat.le_of_ble_eq_true rfl) (by decide) (m_within hd4 h21 (l := 0) (by decide) (by decide) (by decide)) ?_
                intro x153 H153 p153
                refine xq_iaddN dX11_asks_156 ?_
                refine xq_iastN dX11_asks_157 (Fx.s110 hF) (by omega) (by decide) ?_
                refine xq_aload_n dX11_asks_158 rfl rfl ?_
                refine xq_getF clX11 (by decide) rfl fl_RX11_87 dX11_asks_159 (Fx.s83 hF) (Fx.r83_42 hF) ?_
                refine xq_iload_n dX11_asks_162 rfl rfl ?_
                refine xq_dup2 dX11_asks_163 rfl rfl ?_
                refine xq_ialdN (v := nI (uSd (spu dr vv x47))) dX11_asks_164 (Fx.s108 hF) (by omega) (by decide) ((hI_sI _ _ _ _ _ _).trans ((if_neg (by omega)).trans ((p153.2.1.I (by omega) s).trans hr4.sd))) ?_
                refine xq_iconst dX11_asks_165 ic1 ?_
                refine xq_iload dX11_asks_166 rfl ?_
                refine xq_ishlN dX11_asks_168 (by omega) ?_
                refine xq_iorN dX11_asks_169 ?_
                refine xq_iastN dX11_asks_170 (Fx.s108 hF) (by omega) (by decide) ?_
                refine xq_iincN dX11_asks_171 ic1 rfl rfl ?_
                refine xq_goto dX11_asks_174 rfl ?_
                have hsp : spk dr vv x47 = true := by rw [e97] at h100; simpa using h100
                simp only [← e47, hsp, h68] at hstep
                rw [if_pos ⟨trivial, trivial⟩] at hstep
                have hb : ¬ (uSd (spu dr vv x47)).testBit p = true := fun z => h125 (tb1.mpr z)
                obtain ⟨e153, q153⟩ := p153
                rw [hkm4] at e153
                have er : rew T (spu dr vv x47) p (pop (kwU u (uRl u))) = uSetF (uSetPz (spu dr vv x47) p (uPz (spu dr vv x47) p + x153)) 7 (uSd (spu dr vv x47) ||| 1 <<< p) := by
                  rw [e153]; exact if_neg hb
                have hok6 : StOk (rew T (spu dr vv x47) p (pop (kwU u (uRl u)))) := StOk.rew hok4 (by omega)
                have hsam6 : Sam (spu dr vv x47) (rew T (spu dr vv x47) p (pop (kwU u (uRl u)))) := Sam.rew
                have hd5 := hd4.off q153 (fun q a b c d => by omega) (by decide) (by decide) (by decide)
                have hr5 := hd5.rm
                have hr6 := (hr5.pz2 p (uPz (spu dr vv x47) p + x153)).sd2 (uSd (spu dr vv x47) ||| 1 <<< p)
                rw [← er] at hr6
                have oo : Off (fun q => q = 108 ∨ q = 110) H153 (sI (sI H153 110 (6 * s + p) (nI (uPz (spu dr vv x47) p + x153))) 108 s (nI (uSd (spu dr vv x47) ||| 1 <<< p))) := Off.pI (Off.pI Off.rf (Or.inr rfl) _ _) (Or.inl rfl) _ _
                have hd7 : LdP S (sI (sI H153 110 (6 * s + p) (nI (uPz (spu dr vv x47) p + x153))) 108 s (nI (uSd (spu dr vv x47) ||| 1 <<< p))) T N lf (rew T (spu dr vv x47) p (pop (kwU u (uRl u)))) s := hd5.st hsam6 hr6 hok6 oo (fun q a b => by omega) (fun q a b => by omega)
                exact xq_fgt (ih (p + 1) _ qt _ _ (by omega) (by omega) hstep hd7 (fun s' hs' => ((hre4 s' hs').tr (RmE.of q153.1 (fun q a b => by omega))).tr ⟨fun _ _ => rfl, fun q a b => by rw [hI_sI, if_neg (fun z => hs' z.2), hI_sI, if_neg (by omega)], fun p' hp' => ⟨rfl, by rw [hI_sI, if_neg (by omega), hI_sI, if_neg (by omega)]⟩⟩) ((ho4.tr (MoF.mo q153 (fun q h => (by omega : q = 83 ∨ q = 101 ∨ q = 102 ∨ (104 ≤ q ∧ q ≤ 118))) (fun k h => (Or.inl h : k = 34 ∨ k = 48 ∨ k = 56)))).tr (MoF.mo (MoF.of (F := fun _ => False) oo (by omega)) (fun q h => by omega) (fun k h => absurd h (fun e => e)))) (TwP.off (TwP.off htw4 q153 (by decide) (by decide)) (MoF.of (F := fun _ => False) oo (by omega)) (fun e => e) (fun e => e))) (by exact And.intro rfl (And.intro rfl (And.intro rfl (And.intro rfl (And.intro rfl (And.intro rfl (trivial)))))))
              · skip
                refine xq_goto dX11_asks_128 rfl ?_
                refine xq_iincN dX11_asks_171 ic1 rfl rfl ?_
                refine xq_goto dX11_asks_174 rfl ?_
                have hsp : spk dr vv x47 = true := by rw [e97] at h100; simpa using h100
                simp only [← e47, hsp, h68] at hstep
                rw [if_pos ⟨trivial, trivial⟩] at hstep
                have hb : (uSd (spu dr vv x47)).testBit p = true := tb1.mp h125
                rw [show rew T (spu dr vv x47) p (pop (kwU u (uRl u))) = spu dr vv x47 from if_pos hb] at hstep
                exact xq_fgt (ih (p + 1) _ qt (spu dr vv x47) H97 (by omega) (by omega) hstep hd4 hre4 ho4 htw4) (by exact And.intro rfl (And.intro rfl (And.intro rfl (And.intro rfl (And.intro rfl (And.intro rfl (trivial)))))))
            · skip
              refine xq_goto dX11_asks_103 rfl ?_
              refine xq_iincN dX11_asks_171 ic1 rfl rfl ?_
              refine xq_goto dX11_asks_174 rfl ?_
              have hsp : spk dr vv x47 = false := by rw [e97] at h100; simpa using h100
              simp only [← e47, hsp, h68] at hstep
              rw [if_neg (by simp)] at hstep
              have hx0 : x47 ≠ 0 := fun e => by rw [e, spk_0] at hsp; cases hsp
              rw [if_neg hx0, if_pos trivial] at hstep
              exact xq_fgt (ih (p + 1) sy qt (spu dr vv x47) H97 (by omega) (by omega) hstep hd4 hre4 ho4 htw4) (by exact And.intro rfl (And.intro rfl (And.intro rfl (And.intro rfl (And.intro rfl (And.intro rfl (trivial)))))))
          · skip
            refine xq_iload dX11_asks_71 rfl ?_
            refine xq_iload dX11_asks_73 rfl ?_
            refine xq_if_neN dX11_asks_75 rfl (by omega) ⟨fun h75 => ?_, fun h75 => ?_⟩
            · skip
              refine xq_iconst dX11_asks_85 ic0 ?_
              refine xq_iorN dX11_asks_86 ?_
              refine xq_istore dX11_asks_87 rfl ?_
              refine xq_goto dX11_asks_89 rfl ?_
              refine xq_iincN dX11_asks_171 ic1 rfl rfl ?_
              refine xq_goto dX11_asks_174 rfl ?_
              rw [if_neg (by rw [h68]; simp)] at hstep
              rw [← e47, if_neg h75, h68, if_neg (by decide)] at hstep
              exact xq_fgt (ih (p + 1) sy (qt ||| 0) vv H47 (by omega) (by omega) (by rw [Nat.or_zero]; exact hstep) hd2 hre2 ho2 htw2) (by exact And.intro rfl (And.intro rfl (And.intro rfl (And.intro rfl (And.intro rfl (And.intro rfl (trivial)))))))
            · skip
              refine xq_iconst dX11_asks_78 ic1 ?_
              refine xq_iload dX11_asks_79 rfl ?_
              refine xq_ishlN dX11_asks_81 (by omega) ?_
              refine xq_goto dX11_asks_82 rfl ?_
              refine xq_iorN dX11_asks_86 ?_
              refine xq_istore dX11_asks_87 rfl ?_
              refine xq_goto dX11_asks_89 rfl ?_
              refine xq_iincN dX11_asks_171 ic1 rfl rfl ?_
              refine xq_goto dX11_asks_174 rfl ?_
              rw [if_neg (by rw [h68]; simp)] at hstep
              rw [← e47, if_pos h75, h68, if_neg (by decide)] at hstep
              exact xq_fgt (ih (p + 1) sy (qt ||| 1 <<< p) vv H47 (by omega) (by omega) hstep hd2 hre2 ho2 htw2) (by exact And.intro rfl (And.intro rfl (And.intro rfl (And.intro rfl (And.intro rfl (And.intro rfl (trivial)))))))
        · skip
          refine xq_iload dX11_asks_32 rfl ?_
          refine xq_aload_n dX11_asks_34 rfl rfl ?_
          refine xq_getIE clX11 (by decide) rfl fl_RX11_122 dX11_asks_35 (Fx.s83 hF) htw1.2 ?_
          refine xq_icmp_ne dX11_asks_38 rfl ⟨fun h38 => ?_, fun h38 => ?_⟩
          · skip
            have hnmu : ¬ (ow = 2 ∧ (p : Int) = mu) := fun z => h38 ((zI_eqc ⟨by omega, by omega⟩ ⟨by omega, by omega⟩).mpr z.2)
            refine xq_aload_n dX11_asks_44 rfl rfl ?_
            refine xq_iload dX11_asks_45 rfl ?_
            refine xq_callV1H clX11 gd_X11_hushOf dX11_asks_47 ml_RX11_442 im_X11_hushOf se_X11_hushOf rfl (Fx.s83 hF) (by exact Nat.le_of_ble_eq_true rfl) (by decide) (m_hushOf hd1 h21 htw1 how hmu hnmu) ?_
            intro x47 H47 p47
            obtain ⟨e47, q47⟩ := p47
            rw [hkm] at e47
            have hd2 := hd1.off q47 (fun q a b c d => by omega) (by decide) (by decide) (by decide)
            have htw2 := htw1.off q47 (by decide) (by decide)
            have ho2 := ho.tr (MoF.mo q47 (fun q h => (by omega : q = 83 ∨ q = 101 ∨ q = 102 ∨ (104 ≤ q ∧ q ≤ 118))) (fun k h => (Or.inl h : k = 34 ∨ k = 48 ∨ k = 56)))
            have hre2 : ∀ s', s' ≠ s → RmE H H47 s' := fun s' hs' => (hre s' hs').tr (RmE.of q47.1 (fun q a b => by omega))
            have hw2 := hd2.ms.mw
            have hknp2 := (q47.1.I (by omega) (729 * p + trW T)).trans hknp
            refine xq_istore dX11_asks_50 rfl ?_
            refine xq_aload_n dX11_asks_52 rfl rfl ?_
            refine xq_getF clX11 (by decide) rfl fl_RX11_103 dX11_asks_53 (Fx.s83 hF) (Fx.r83_50 hF) ?_
            refine xq_sipush dX11_asks_56 sp729 ?_
            refine xq_iload dX11_asks_59 rfl ?_
            refine xq_imulN dX11_asks_61 ?_
            refine xq_aload_n dX11_asks_62 rfl rfl ?_
            refine xq_getIE clX11 (by decide) rfl fl_RX11_338 dX11_asks_63 (Fx.s83 hF) hw2.tr ?_
            refine xq_iaddN dX11_asks_66 ?_
            refine xq_zaldN dX11_asks_67 (Fx.s113 hF) (by omega) (by decide) hknp2 ?_
            refine xq_if_neB dX11_asks_68 rfl ⟨fun h68 => ?_, fun h68 => ?_⟩
            · skip
              refine xq_aload_n dX11_asks_92 rfl rfl ?_
              refine xq_iload_n dX11_asks_93 rfl rfl ?_
              refine xq_iload dX11_asks_94 rfl ?_
              refine xq_iload_n dX11_asks_96 rfl rfl ?_
              refine xq_callV3H clX11 gd_X11_isHushed dX11_asks_97 ml_RX11_445 im_X11_isHushed se_X11_isHushed rfl (Fx.s83 hF) (by exact Nat.le_of_ble_eq_true rfl) (by decide) (m_isHushed hF hd2.rm h23 (by omega)) ?_
              intro x97 H97 p97
              obtain ⟨e97, r97, s97, o97⟩ := p97
              have hsam3 : Sam vv (spu dr vv x47) := Sam.spu
              have hok4 : StOk (spu dr vv x47) := StOk.spu hok1
              have hd4 : LdP S H97 T N lf (spu dr vv x47) s := hd2.st hsam3 r97 hok4 o97 (fun q a b => by omega) (fun q a b => by omega)
              have hr4 := hd4.rm
              have hre4 : ∀ s', s' ≠ s → RmE H H97 s' := fun s' hs' => (hre2 s' hs').tr (s97 s' hs')
              have ho4 := ho2.tr (MoF.mo (MoF.of (F := fun k => k = 34 ∨ k = 48 ∨ k = 56) o97 (by omega)) (fun q h => (by omega : q = 83 ∨ q = 101 ∨ q = 102 ∨ (104 ≤ q ∧ q ≤ 118))) (fun k h => h))
              have htw4 := htw2.off (MoF.of (F := fun _ => False) o97 (by omega)) (fun e => e) (fun e => e)
              have hkm4 : kns (spu dr vv x47) = kwU u (uRl u) := ((sam_kv (T := T) hsam3).2.2.2.2.1).trans hkm
              have hsd4 := hok4.sd
              refine xq_if_eqB dX11_asks_100 rfl ⟨fun h100 => ?_, fun h100 => ?_⟩
              · skip
                refine xq_iload_n dX11_asks_106 rfl rfl ?_
                refine xq_iconst dX11_asks_107 ic1 ?_
                refine xq_iload dX11_asks_108 rfl ?_
                refine xq_ishlN dX11_asks_110 (by omega) ?_
                refine xq_iorN dX11_asks_111 ?_
                refine xq_istore_n dX11_asks_112 rfl rfl ?_
                refine xq_aload_n dX11_asks_113 rfl rfl ?_
                refine xq_getF clX11 (by decide) rfl fl_RX11_87 dX11_asks_114 (Fx.s83 hF) (Fx.r83_42 hF) ?_
                refine xq_iload_n dX11_asks_117 rfl rfl ?_
                refine xq_ialdN dX11_asks_118 (Fx.s108 hF) (by omega) (by decide) hr4.sd ?_
                have hb1 := shr_le (uSd (spu dr vv x47)) p; have hb2 : uSd (spu dr vv x47) >>> p &&& 1 ≤ 1 := Nat.and_le_right
                refine xq_iload dX11_asks_119 rfl ?_
                refine xq_ishrN dX11_asks_121 (by omega) (by omega) ?_
                refine xq_iconst dX11_asks_122 ic1 ?_
                refine xq_iandN dX11_asks_123 ?_
                refine xq_iconst dX11_asks_124 ic1 ?_
                refine xq_icmp_neN dX11_asks_125 rfl (by omega) (by omega) ⟨fun h125 => ?_, fun h125 => ?_⟩
                · skip
                  refine xq_aload_n dX11_asks_131 rfl rfl ?_
                  refine xq_getF clX11 (by decide) rfl fl_RX11_93 dX11_asks_132 (Fx.s83 hF) (Fx.r83_44 hF) ?_
                  refine xq_bipush dX11_asks_135 bp6 ?_
                  refine xq_iload_n dX11_asks_137 rfl rfl ?_
                  refine xq_imulN dX11_asks_138 ?_
                  refine xq_iload dX11_asks_139 rfl ?_
                  refine xq_iaddN dX11_asks_141 ?_
                  refine xq_dup2 dX11_asks_142 rfl rfl ?_
                  refine xq_ialdN (v := nI (uPz (spu dr vv x47) p)) dX11_asks_143 (Fx.s110 hF) (by omega) (by decide) (hr4.pz p (by omega)) ?_
                  refine xq_aload_n dX11_asks_144 rfl rfl ?_
                  refine xq_iconst dX11_asks_145 ic0 ?_
                  refine xq_iload dX11_asks_146 rfl ?_
                  refine xq_sipush dX11_asks_148 sp999 ?_
                  refine xq_bipush dX11_asks_151 bp10 ?_
                  refine xq_callV4H clX11 gd_X11_within dX11_asks_153 ml_RX11_434 im_X11_within se_X11_within rfl (Fx.s83 hF) (by exact Nat.le_of_ble_eq_true rfl) (by decide) (m_within hd4 h21 (l := 0) (by decide) (by decide) (by decide)) ?_
                  intro x153 H153 p153
                  refine xq_iaddN dX11_asks_156 ?_
                  refine xq_iastN dX11_asks_157 (Fx.s110 hF) (by omega) (by decide) ?_
                  refine xq_aload_n dX11_asks_158 rfl rfl ?_
                  refine xq_getF clX11 (by decide) rfl fl_RX11_87 dX11_asks_159 (Fx.s83 hF) (Fx.r83_42 hF) ?_
                  refine xq_iload_n dX11_asks_162 rfl rfl ?_
                  refine xq_dup2 dX11_asks_163 rfl rfl ?_
                  refine xq_ialdN (v := nI (uSd (spu dr vv x47))) dX11_asks_164 (Fx.s108 hF) (by omega) (by decide) ((hI_sI _ _ _ _ _ _).trans ((if_neg (by omega)).trans ((p153.2.1.I (by omega) s).trans hr4.sd))) ?_
                  refine xq_iconst dX11_asks_165 ic1 ?_
                  refine xq_iload dX11_asks_166 rfl ?_
                  refine xq_ishlN dX11_asks_168 (by omega) ?_
                  refine xq_iorN dX11_asks_169 ?_
                  refine xq_iastN dX11_asks_170 (Fx.s108 hF) (by omega) (by decide) ?_
                  refine xq_iincN dX11_asks_171 ic1 rfl rfl ?_
                  refine xq_goto dX11_asks_174 rfl ?_
                  have hsp : spk dr vv x47 = true := by rw [e97] at h100; simpa using h100
                  simp only [← e47, hsp, h68] at hstep
                  rw [if_pos ⟨trivial, trivial⟩] at hstep
                  have hb : ¬ (uSd (spu dr vv x47)).testBit p = true := fun z => h125 (tb1.mpr z)
                  obtain ⟨e153, q153⟩ := p153
                  rw [hkm4] at e153
                  have er : rew T (spu dr vv x47) p (pop (kwU u (uRl u))) = uSetF (uSetPz (spu dr vv x47) p (uPz (spu dr vv x47) p + x153)) 7 (uSd (spu dr vv x47) ||| 1 <<< p) := by
                    rw [e153]; exact if_neg hb
                  have hok6 : StOk (rew T (spu dr vv x47) p (pop (kwU u (uRl u)))) := StOk.rew hok4 (by omega)
                  have hsam6 : Sam (spu dr vv x47) (rew T (spu dr vv x47) p (pop (kwU u (uRl u)))) := Sam.rew
                  have hd5 := hd4.off q153 (fun q a b c d => by omega) (by decide) (by decide) (by decide)
                  have hr5 := hd5.rm
                  have hr6 := (hr5.pz2 p (uPz (spu dr vv x47) p + x153)).sd2 (uSd (spu dr vv x47) ||| 1 <<< p)
                  rw [← er] at hr6
                  have oo : Off (fun q => q = 108 ∨ q = 110) H153 (sI (sI H153 110 (6 * s + p) (nI (uPz (spu dr vv x47) p + x153))) 108 s (nI (uSd (spu dr vv x47) ||| 1 <<< p))) := Off.pI (Off.pI Off.rf (Or.inr rfl) _ _) (Or.inl rfl) _ _
                  have hd7 : LdP S (sI (sI H153 110 (6 * s + p) (nI (uPz (spu dr vv x47) p + x153))) 108 s (nI (uSd (spu dr vv x47) ||| 1 <<< p))) T N lf (rew T (spu dr vv x47) p (pop (kwU u (uRl u)))) s := hd5.st hsam6 hr6 hok6 oo (fun q a b => by omega) (fun q a b => by omega)
                  exact xq_fgt (ih (p + 1) _ qt _ _ (by omega) (by omega) hstep hd7 (fun s' hs' => ((hre4 s' hs').tr (RmE.of q153.1 (fun q a b => by omega))).tr ⟨fun _ _ => rfl, fun q a b => by rw [hI_sI, if_neg (fun z => hs' z.2), hI_sI, if_neg (by omega)], fun p' hp' => ⟨rfl, by rw [hI_sI, if_neg (by omega), hI_sI, if_neg (by omega)]⟩⟩) ((ho4.tr (MoF.mo q153 (fun q h => (by omega : q = 83 ∨ q = 101 ∨ q = 102 ∨ (104 ≤ q ∧ q ≤ 118))) (fun k h => (Or.inl h : k = 34 ∨ k = 48 ∨ k = 56)))).tr (MoF.mo (MoF.of (F := fun _ => False) oo (by omega)) (fun q h => by omega) (fun k h => absurd h (fun e => e)))) (TwP.off (TwP.off htw4 q153 (by decide) (by decide)) (MoF.of (F := fun _ => False) oo (by omega)) (fun e => e) (fun e => e))) (by exact And.intro rfl (And.intro rfl (And.intro rfl (And.intro rfl (And.intro rfl (And.intro rfl (trivial)))))))
                · skip
                  refine xq_goto dX11_asks_128 rfl ?_
                  refine xq_iincN dX11_asks_171 ic1 rfl rfl ?_
                  refine xq_goto dX11_asks_174 rfl ?_
                  have hsp : spk dr vv x47 = true := by rw [e97] at h100; simpa using h100
                  simp only [← e47, hsp, h68] at hstep
                  rw [if_pos ⟨trivial, trivial⟩] at hstep
                  have hb : (uSd (spu dr vv x47)).testBit p = true := tb1.mp h125
                  rw [show rew T (spu dr vv x47) p (pop (kwU u (uRl u))) = spu dr vv x47 from if_pos hb] at hstep
                  exact xq_fgt (ih (p + 1) _ qt (spu dr vv x47) H97 (by omega) (by omega) hstep hd4 hre4 ho4 htw4) (by exact And.intro rfl (And.intro rfl (And.intro rfl (And.intro rfl (And.intro rfl (And.intro rfl (trivial)))))))
              · skip
                refine xq_goto dX11_asks_103 rfl ?_
                refine xq_iincN dX11_asks_171 ic1 rfl rfl ?_
                refine xq_goto dX11_asks_174 rfl ?_
                have hsp : spk dr vv x47 = false := by rw [e97] at h100; simpa using h100
                simp only [← e47, hsp, h68] at hstep
                rw [if_neg (by simp)] at hstep
                have hx0 : x47 ≠ 0 := fun e => by rw [e, spk_0] at hsp; cases hsp
                rw [if_neg hx0, if_pos trivial] at hstep
                exact xq_fgt (ih (p + 1) sy qt (spu dr vv x47) H97 (by omega) (by omega) hstep hd4 hre4 ho4 htw4) (by exact And.intro rfl (And.intro rfl (And.intro rfl (And.intro rfl (And.intro rfl (And.intro rfl (trivial)))))))
            · skip
              refine xq_iload dX11_asks_71 rfl ?_
              refine xq_iload dX11_asks_73 rfl ?_
              refine xq_if_neN dX11_asks_75 rfl (by omega) ⟨fun h75 => ?_, fun h75 => ?_⟩
              · skip
                refine xq_iconst dX11_asks_85 ic0 ?_
                refine xq_iorN dX11_asks_86 ?_
                refine xq_istore dX11_asks_87 rfl ?_
                refine xq_goto dX11_asks_89 rfl ?_
                refine xq_iincN dX11_asks_171 ic1 rfl rfl ?_
                refine xq_goto dX11_asks_174 rfl ?_
                rw [if_neg (by rw [h68]; simp)] at hstep
                rw [← e47, if_neg h75, h68, if_neg (by decide)] at hstep
                exact xq_fgt (ih (p + 1) sy (qt ||| 0) vv H47 (by omega) (by omega) (by rw [Nat.or_zero]; exact hstep) hd2 hre2 ho2 htw2) (by exact And.intro rfl (And.intro rfl (And.intro rfl (And.intro rfl (And.intro rfl (And.intro rfl (trivial)))))))
              · skip
                refine xq_iconst dX11_asks_78 ic1 ?_
                refine xq_iload dX11_asks_79 rfl ?_
                refine xq_ishlN dX11_asks_81 (by omega) ?_
                refine xq_goto dX11_asks_82 rfl ?_
                refine xq_iorN dX11_asks_86 ?_
                refine xq_istore dX11_asks_87 rfl ?_
                refine xq_goto dX11_asks_89 rfl ?_
                refine xq_iincN dX11_asks_171 ic1 rfl rfl ?_
                refine xq_goto dX11_asks_174 rfl ?_
                rw [if_neg (by rw [h68]; simp)] at hstep
                rw [← e47, if_pos h75, h68, if_neg (by decide)] at hstep
                exact xq_fgt (ih (p + 1) sy (qt ||| 1 <<< p) vv H47 (by omega) (by omega) hstep hd2 hre2 ho2 htw2) (by exact And.intro rfl (And.intro rfl (And.intro rfl (And.intro rfl (And.intro rfl (And.intro rfl (trivial)))))))
          · skip
            refine xq_goto dX11_asks_41 rfl ?_
            refine xq_iincN dX11_asks_171 ic1 rfl rfl ?_
            refine xq_goto dX11_asks_174 rfl ?_
            have hh : hsh T vv ow mu p (pop (kwU u (uRl u))) = 100 := by
              unfold hsh
              rw [if_neg (by have := (twN_eq how).2.2.1.mp h29; omega), if_pos (Or.inr ⟨(twN_eq how).2.2.1.mp h29, (zI_eqc (x := (p : Int)) (y := mu) ⟨by omega, by omega⟩ ⟨by omega, by omega⟩).mp h38⟩)]
            have hsp : spk dr vv 100 = false := by cases dr <;> rfl
            have hsu : spu dr vv 100 = vv := by unfold spu; rw [if_neg (by omega)]
            simp only [hh, hsp, hsu] at hstep
            rw [if_neg (by simp), if_neg (by decide), ite_self] at hstep
            exact xq_fgt (ih (p + 1) sy qt vv H1 (by omega) (by omega) hstep hd1 hre ho htw1) (by exact And.intro rfl (And.intro rfl (And.intro rfl (And.intro rfl (And.intro rfl (And.intro rfl (trivial)))))))
  refine xq_iconst dX11_asks_5 ic0 ?_
  refine xq_istore_n dX11_asks_6 rfl rfl ?_
  refine xq_iconst dX11_asks_7 ic0 ?_
  refine xq_istore dX11_asks_8 rfl ?_
  refine xq_iconst dX11_asks_10 ic0 ?_
  refine xq_istore dX11_asks_11 rfl ?_
  exact lp (tNp T + 1) 0 0 0 u H2 (by omega) (by omega) rfl hd0 (fun s' _ => RmE.of hm0.1 (fun q a b => by omega)) (MoF.mo hm0 (fun q h => by omega) (fun k h => Or.inr h)) (htw.off hm0 (by decide) (by decide))
end AS
