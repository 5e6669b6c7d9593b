/-! ===== Course: hushed, rewarded, drawn ===== -/
def CoP (H : xH) (t : Nat) (dr : Bool) (ow mu : Int) : Prop := hR H 66 2 = some t ∧ hI H 66 3 = bI dr ∧ hI H 66 4 = zI ow ∧ hI H 66 5 = zI mu
theorem CoP.off {H H1 : xH} {t : Nat} {dr : Bool} {ow mu : Int} {A : Nat → Prop} (h : CoP H t dr ow mu) (ho : Off A H H1) (h1 : ¬ A 66) : CoP H1 t dr ow mu := ⟨(ho.R h1 2).trans h.1, (ho.I h1 3).trans h.2.1, (ho.I h1 4).trans h.2.2.1, (ho.I h1 5).trans h.2.2.2⟩
section CO
variable {S : xS} {H H1 : xH} {i t k x y a n p z m : Nat} {u : uSt} {T : uTx} {dr : Bool} {ow mu : Int}
def shv (T : uTx) : Nat := if tSh T = 0 then 0 else tSh T - 1
def clp (most : Int) (e : Option Int) (d : Nat) : Nat := match e with
  | some z => (max 0 (min most z)).toNat
  | none => d
def hsh (T : uTx) (u : uSt) (ow mu : Int) (i m : Nat) : Nat := if ow = 0 then 0 else if ow = 1 ∨ (ow = 2 ∧ (i : Int) = mu) then 100 else clp 100 (lawE T (nmv u i m) 1) (shv T)
def prz (T : uTx) (u : uSt) (i m : Nat) : Nat := clp 999 (lawE T (nmv u i m) 0) 10
theorem clp_le (most : Int) (hm : 0 ≤ most) (e : Option Int) (d : Nat) (hd : (d : Int) ≤ most) : (clp most e d : Int) ≤ most := by
  unfold clp
  cases e with
  | none => exact hd
  | some z => simp only; omega
theorem lawE_in {nm : Nat → Nat} {l : Nat} (hl : LwOk T l) {z : Int} (h : lawE T nm l = some z) : -1000000000000 ≤ z ∧ z ≤ 1000000000000 := by
  unfold lawE at h
  by_cases e : tLn T l = 0
  · rw [if_pos e] at h; cases h
  · rw [if_neg e] at h
    by_cases w : lok T nm (tLn T l) (tLr T l + 1) = true
    · rw [if_pos w] at h
      cases h
      exact lok_in w (by omega) (hl e).2.1
    · rw [if_neg w] at h; cases h
theorem lawL_min {nm : Nat → Nat} {l : Nat} (hl : LwOk T l) : lawL (lawE T nm l) = (-9223372036854775808 : Int64) ↔ lawE T nm l = none := by
  cases h : lawE T nm l with
  | none => exact ⟨fun _ => rfl, fun _ => rfl⟩
  | some z =>
    have := lawE_in hl h
    have e : (-9223372036854775808 : Int64) = zL MIN64 := by decide
    constructor
    · intro w
      show _
      rw [e] at w
      have w2 : zL z = zL MIN64 := w
      rw [zL_eq ⟨by omega, by omega⟩ ⟨by decide, by decide⟩] at w2
      have w3 : MIN64 = -9223372036854775808 := rfl
      omega
    · intro w; cases w
theorem zL_toI {z : Int} (h0 : 0 ≤ z) : (zL z).toInt32 = nI z.toNat := by
  obtain ⟨n, rfl⟩ := Int.eq_ofNat_of_zero_le h0
  exact lN_toI n
/-- Math.max(0, Math.min(most, z)) on longs -/
theorem clp_L {z most : Int} (hz : -1000000000000 ≤ z ∧ z ≤ 1000000000000) (hm : 0 ≤ most ∧ most ≤ 1000) : (if (if zL z < zL most then zL z else zL most) < zL 0 then zL 0 else (if zL z < zL most then zL z else zL most)) = zL ((max 0 (min most z)).toNat : Int) := by
  by_cases h : z < most
  · rw [if_pos ((zL_lt ⟨by omega, by omega⟩ ⟨by omega, by omega⟩).mpr h)]
    by_cases h2 : z < 0
    · rw [if_pos ((zL_lt ⟨by omega, by omega⟩ ⟨by omega, by omega⟩).mpr h2)]; congr 1; omega
    · rw [if_neg (fun w => h2 ((zL_lt ⟨by omega, by omega⟩ ⟨by omega, by omega⟩).mp w))]; congr 1; omega
  · rw [if_neg (fun w => h ((zL_lt ⟨by omega, by omega⟩ ⟨by omega, by omega⟩).mp w)), if_neg (fun w => by have := (zL_lt ⟨by omega, by omega⟩ ⟨by omega, by omega⟩).mp w; omega)]; congr 1; omega
theorem zI_eqc {x y : Int} (hx : -2147483648 ≤ x ∧ x < 2147483648) (hy : -2147483648 ≤ y ∧ y < 2147483648) : zI x = zI y ↔ x = y := by
  rw [← Int32.toInt_inj, zI_toInt hx.1 hx.2, zI_toInt hy.1 hy.2]
theorem zI_0 : (0 : Int32) = zI 0 := rfl
theorem shy_v (T : uTx) (h : tSh T ≤ 101) : (if (if tSh T = 0 then (-1 : Int32) else nI (tSh T - 1)) < nI 0 then nI 0 else (if tSh T = 0 then (-1 : Int32) else nI (tSh T - 1))) = nI (shv T) := by
  unfold shv
  by_cases e : tSh T = 0
  · rw [if_pos e, if_pos e]; decide +kernel
  · rw [if_neg e, if_neg e, if_neg (show ¬ nI (tSh T - 1) < nI 0 from nq_lt0 (by omega))]
theorem c_hushOf (hF : gFx S) (ha : gSt S a) (h67 : 67 ≤ a) (hu : StP H a u) (ok : StOk u) (ht : gTx S t) (ht24 : 24 ≤ t) (ht45 : t ≤ 45) (hT : TxP H t T) (hnk : tNk T ≤ 64) (hsy : tSh T ≤ 101) (hl0 : LwOk T 0) (hl1 : LwOk T 1) (hc : CoP H t dr ow mu) (how : -1 ≤ ow ∧ ow ≤ 4) (hmu : -1 ≤ mu ∧ mu < 6) (hi : i < 6) (hm8 : m ≤ 100) : Hv mX0_hushOf 3 [.ref 66, .ref a, vN i, vN m] S H vN (fun x H' => x = hsh T u ow mu i m ∧ Off (fun q => q = 23) H H') := by
  have ow0 : zI ow = 0 ↔ ow = 0 := zI_eqc (y := 0) ⟨by omega, by omega⟩ ⟨by omega, by omega⟩
  have ow1 : zI ow = nI 1 ↔ ow = 1 := zI_eqc (y := 1) ⟨by omega, by omega⟩ ⟨by omega, by omega⟩
  have ow2 : zI ow = nI 2 ↔ ow = 2 := zI_eqc (y := 2) ⟨by omega, by omega⟩ ⟨by omega, by omega⟩
  have muq : nI i = zI mu ↔ (i : Int) = mu := zI_eqc (x := (i : Int)) ⟨by omega, by omega⟩ ⟨by omega, by omega⟩
  refine vq_intro (by decide) (by exact Nat.le_of_ble_eq_true rfl) rfl ?_
  refine xq_aload_n dX0_hushOf_0 rfl rfl ?_
  refine xq_getIE clX0 (by decide) rfl fl_RX0_9 dX0_hushOf_1 (Fx.s66 hF) hc.2.2.1 ?_
  refine xq_if_ne dX0_hushOf_4 rfl ⟨fun h4 => ?_, fun h4 => ?_⟩
  · skip
    refine xq_aload_n dX0_hushOf_9 rfl rfl ?_
    refine xq_getIE clX0 (by decide) rfl fl_RX0_9 dX0_hushOf_10 (Fx.s66 hF) hc.2.2.1 ?_
    refine xq_iconst dX0_hushOf_13 ic1 ?_
    refine xq_icmp_eq dX0_hushOf_14 rfl ⟨fun h14 => ?_, fun h14 => ?_⟩
    · skip
      refine xq_bipush dX0_hushOf_33 bp100 ?_
      refine xq_iret dX0_hushOf_35 rfl ?_
      have n0 : ¬ ow = 0 := fun w => h4 (ow0.mpr w)
      exact ⟨_, H, ⟨by unfold hsh; rw [if_neg n0, if_pos (Or.inl (ow1.mp h14))], Off.rf⟩, rfl⟩
    · skip
      refine xq_aload_n dX0_hushOf_17 rfl rfl ?_
      refine xq_getIE clX0 (by decide) rfl fl_RX0_9 dX0_hushOf_18 (Fx.s66 hF) hc.2.2.1 ?_
      refine xq_iconst dX0_hushOf_21 ic2 ?_
      refine xq_icmp_ne dX0_hushOf_22 rfl ⟨fun h22 => ?_, fun h22 => ?_⟩
      · skip
        refine xq_aload_n dX0_hushOf_36 rfl rfl ?_
        refine xq_getF clX0 (by decide) rfl fl_RX0_22 dX0_hushOf_37 (Fx.s66 hF) (Fx.r66_1 hF) ?_
        refine xq_aload_n dX0_hushOf_40 rfl rfl ?_
        refine xq_getR clX0 (by decide) rfl fl_RX0_26 dX0_hushOf_41 (Fx.s66 hF) hc.1 ?_
        refine xq_iconst dX0_hushOf_44 ic1 ?_
        refine xq_aload_n dX0_hushOf_45 rfl rfl ?_
        refine xq_iload_n dX0_hushOf_46 rfl rfl ?_
        refine xq_iload_n dX0_hushOf_47 rfl rfl ?_
        refine xq_callV5H clX3 gd_X3_valueOf dX0_hushOf_48 ml_RX0_135 im_X3_valueOf se_X3_valueOf rfl (Fx.s22 hF) (by exact Nat.le_of_ble_eq_true rfl) (by decide) (c_valueOf hF ha h67 hu ok ht ht24 ht45 hT hnk (l := 1) (by decide) hl1 hi hm8) ?_
        intro x48 H48 p48
        refine xq_lstoreX dX0_hushOf_51 rfl rfl ?_
        refine xq_lload dX0_hushOf_53 rfl ?_
        refine xq_ldc2 dX0_hushOf_55 kc_RX0_144 ?_
        refine xq_lcmp dX0_hushOf_58 ?_
        refine xq_if_ne dX0_hushOf_59 rfl ⟨fun h59 => ?_, fun h59 => ?_⟩
        · skip
          refine xq_lconst dX0_hushOf_74 lc0 ?_
          refine xq_ldc2 (v := lN 100) dX0_hushOf_75 kc_RX0_162 ?_
          refine xq_lload dX0_hushOf_78 rfl ?_
          refine xq_mminL dX0_hushOf_80 ml_RX0_148 (by exact Nat.le_of_ble_eq_true rfl) (by decide) ?_
          refine xq_mmaxL dX0_hushOf_83 ml_RX0_154 (by exact Nat.le_of_ble_eq_true rfl) (by decide) ?_
          refine xq_l2i dX0_hushOf_86 ?_
          refine xq_iret dX0_hushOf_87 rfl ?_
          have n0 : ¬ ow = 0 := fun w => h4 (ow0.mpr w)
          have n1 : ¬ (ow = 1 ∨ (ow = 2 ∧ (i : Int) = mu)) := by
            rintro (w | w)
            · exact h14 (ow1.mpr w)
            · exact h22 (ow2.mpr w.1)
          have q : ∃ z, lawE T (nmv u i m) 1 = some z := by
            cases e : lawE T (nmv u i m) 1 with
            | none => exact absurd ((lg_cmp_eq _ _).mpr (p48.2.trans ((lawL_min hl1).mpr e))) h59
            | some z => exact ⟨z, rfl⟩
          obtain ⟨z, hz0⟩ := q
          have hx : x48 = zL z := by rw [p48.2, hz0]; rfl
          have e1 := clp_L (most := 100) (lawE_in hl1 hz0) ⟨by decide, by decide⟩
          exact ⟨hsh T u ow mu i m, _, ⟨rfl, p48.1⟩, by rw [hx, show (lN 100) = zL 100 from rfl, show (lN 0) = zL 0 from rfl, e1, zL_n, lN_toI]; unfold hsh; rw [if_neg n0, if_neg n1, hz0]; rfl⟩
        · skip
          refine xq_aload_n dX0_hushOf_62 rfl rfl ?_
          refine xq_getR clX0 (by decide) rfl fl_RX0_26 dX0_hushOf_63 (Fx.s66 hF) ((p48.1.R (by omega) 2).trans hc.1) ?_
          refine xq_getIE clX8 (by decide) rfl fl_RX0_157 dX0_hushOf_66 (Tx.s0 ht) (hT.off p48.1 (fun j hj => by omega)).sh ?_
          refine xq_iconst dX0_hushOf_69 ic0 ?_
          refine xq_mmax dX0_hushOf_70 ml_RX0_160 (by exact Nat.le_of_ble_eq_true rfl) (by decide) ?_
          refine xq_iret dX0_hushOf_73 rfl ?_
          have n0 : ¬ ow = 0 := fun w => h4 (ow0.mpr w)
          have n1 : ¬ (ow = 1 ∨ (ow = 2 ∧ (i : Int) = mu)) := by
            rintro (w | w)
            · exact h14 (ow1.mpr w)
            · exact h22 (ow2.mpr w.1)
          have q := (lawL_min hl1).mp (p48.2.symm.trans ((lg_cmp_eq _ _).mp h59))
          exact ⟨hsh T u ow mu i m, _, ⟨rfl, p48.1⟩, by rw [shy_v T hsy]; unfold hsh; rw [if_neg n0, if_neg n1, q]; rfl⟩
      · skip
        refine xq_iload_n dX0_hushOf_25 rfl rfl ?_
        refine xq_aload_n dX0_hushOf_26 rfl rfl ?_
        refine xq_getIE clX0 (by decide) rfl fl_RX0_15 dX0_hushOf_27 (Fx.s66 hF) hc.2.2.2 ?_
        refine xq_icmp_ne dX0_hushOf_30 rfl ⟨fun h30 => ?_, fun h30 => ?_⟩
        · skip
          refine xq_aload_n dX0_hushOf_36 rfl rfl ?_
          refine xq_getF clX0 (by decide) rfl fl_RX0_22 dX0_hushOf_37 (Fx.s66 hF) (Fx.r66_1 hF) ?_
          refine xq_aload_n dX0_hushOf_40 rfl rfl ?_
          refine xq_getR clX0 (by decide) rfl fl_RX0_26 dX0_hushOf_41 (Fx.s66 hF) hc.1 ?_
          refine xq_iconst dX0_hushOf_44 ic1 ?_
          refine xq_aload_n dX0_hushOf_45 rfl rfl ?_
          refine xq_iload_n dX0_hushOf_46 rfl rfl ?_
          refine xq_iload_n dX0_hushOf_47 rfl rfl ?_
          refine xq_callV5H clX3 gd_X3_valueOf dX0_hushOf_48 ml_RX0_135 im_X3_valueOf se_X3_valueOf rfl (Fx.s22 hF) (by exact Nat.le_of_ble_eq_true rfl) (by decide) (c_valueOf hF ha h67 hu ok ht ht24 ht45 hT hnk (l := 1) (by decide) hl1 hi hm8) ?_
          intro x48 H48 p48
          refine xq_lstoreX dX0_hushOf_51 rfl rfl ?_
          refine xq_lload dX0_hushOf_53 rfl ?_
          refine xq_ldc2 dX0_hushOf_55 kc_RX0_144 ?_
          refine xq_lcmp dX0_hushOf_58 ?_
          refine xq_if_ne dX0_hushOf_59 rfl ⟨fun h59 => ?_, fun h59 => ?_⟩
          · skip
            refine xq_lconst dX0_hushOf_74 lc0 ?_
            refine xq_ldc2 (v := lN 100) dX0_hushOf_75 kc_RX0_162 ?_
            refine xq_lload dX0_hushOf_78 rfl ?_
            refine xq_mminL dX0_hushOf_80 ml_RX0_148 (by exact Nat.le_of_ble_eq_true rfl) (by decide) ?_
            refine xq_mmaxL dX0_hushOf_83 ml_RX0_154 (by exact Nat.le_of_ble_eq_true rfl) (by decide) ?_
            refine xq_l2i dX0_hushOf_86 ?_
            refine xq_iret dX0_hushOf_87 rfl ?_
            have n0 : ¬ ow = 0 := fun w => h4 (ow0.mpr w)
            have n1 : ¬ (ow = 1 ∨ (ow = 2 ∧ (i : Int) = mu)) := by
              rintro (w | w)
              · exact h14 (ow1.mpr w)
              · exact h30 (muq.mpr w.2)
            have q : ∃ z, lawE T (nmv u i m) 1 = some z := by
              cases e : lawE T (nmv u i m) 1 with
              | none => exact absurd ((lg_cmp_eq _ _).mpr (p48.2.trans ((lawL_min hl1).mpr e))) h59
              | some z => exact ⟨z, rfl⟩
            obtain ⟨z, hz0⟩ := q
            have hx : x48 = zL z := by rw [p48.2, hz0]; rfl
            have e1 := clp_L (most := 100) (lawE_in hl1 hz0) ⟨by decide, by decide⟩
            exact ⟨hsh T u ow mu i m, _, ⟨rfl, p48.1⟩, by rw [hx, show (lN 100) = zL 100 from rfl, show (lN 0) = zL 0 from rfl, e1, zL_n, lN_toI]; unfold hsh; rw [if_neg n0, if_neg n1, hz0]; rfl⟩
          · skip
            refine xq_aload_n dX0_hushOf_62 rfl rfl ?_
            refine xq_getR clX0 (by decide) rfl fl_RX0_26 dX0_hushOf_63 (Fx.s66 hF) ((p48.1.R (by omega) 2).trans hc.1) ?_
            refine xq_getIE clX8 (by decide) rfl fl_RX0_157 dX0_hushOf_66 (Tx.s0 ht) (hT.off p48.1 (fun j hj => by omega)).sh ?_
            refine xq_iconst dX0_hushOf_69 ic0 ?_
            refine xq_mmax dX0_hushOf_70 ml_RX0_160 (by exact Nat.le_of_ble_eq_true rfl) (by decide) ?_
            refine xq_iret dX0_hushOf_73 rfl ?_
            have n0 : ¬ ow = 0 := fun w => h4 (ow0.mpr w)
            have n1 : ¬ (ow = 1 ∨ (ow = 2 ∧ (i : Int) = mu)) := by
              rintro (w | w)
              · exact h14 (ow1.mpr w)
              · exact h30 (muq.mpr w.2)
            have q := (lawL_min hl1).mp (p48.2.symm.trans ((lg_cmp_eq _ _).mp h59))
            exact ⟨hsh T u ow mu i m, _, ⟨rfl, p48.1⟩, by rw [shy_v T hsy]; unfold hsh; rw [if_neg n0, if_neg n1, q]; rfl⟩
        · skip
          refine xq_bipush dX0_hushOf_33 bp100 ?_
          refine xq_iret dX0_hushOf_35 rfl ?_
          have n0 : ¬ ow = 0 := fun w => h4 (ow0.mpr w)
          exact ⟨_, H, ⟨by unfold hsh; rw [if_neg n0, if_pos (Or.inr ⟨ow2.mp h22, muq.mp h30⟩)], Off.rf⟩, rfl⟩
  · skip
    refine xq_iconst dX0_hushOf_7 ic0 ?_
    refine xq_iret dX0_hushOf_8 rfl ?_
    exact ⟨_, H, ⟨by unfold hsh; rw [if_pos (ow0.mp h4)], Off.rf⟩, rfl⟩
def rew (T : uTx) (u : uSt) (i m : Nat) : uSt := if (uSd u).testBit i then u else uSetF (uSetPz u i (uPz u i + prz T u i m)) 7 (uSd u ||| 1 <<< i)
theorem StOk.rew (ok : StOk u) (hi : i < 6) : StOk (rew T u i m) := by
  show StOk (if _ then _ else _)
  split
  · exact ok
  · exact ⟨ok.1, ok.2.1, ok.2.2.1, ok.2.2.2.1, fun p hp => ⟨ok.se hp, Nat.le_refl _⟩, or64 ok.sd (shl64 hi), ok.2.2.2.2.2.2⟩
theorem StOk.setLa (ok : StOk u) (h : z < 2147483648) : StOk (uSetLa u z) := ⟨ok.1, ok.2.1, ok.2.2.1, ok.2.2.2.1, ok.2.2.2.2.1, ok.2.2.2.2.2.1, ok.2.2.2.2.2.2.1, ok.2.2.2.2.2.2.2.1, ok.2.2.2.2.2.2.2.2.1, h⟩
theorem c_reward (hF : gFx S) (ha : gSt S a) (h67 : 67 ≤ a) (hu : StP H a u) (ok : StOk u) (ht : gTx S t) (ht24 : 24 ≤ t) (ht45 : t ≤ 45) (hT : TxP H t T) (hnk : tNk T ≤ 64) (hsy : tSh T ≤ 101) (hl0 : LwOk T 0) (hl1 : LwOk T 1) (hc : hR H 66 2 = some t) (hi : i < 6) (hm8 : m ≤ 100) : Nv mX0_reward 3 [.ref 66, .ref a, vN i, vN m] S H (fun H' => StP H' a (rew T u i m) ∧ Off (fun q => (a ≤ q ∧ q < a + 5) ∨ q = 23) H H') := by
  have hsd := ok.sd; have hb := shr_le (uSd u) i; have hb2 : uSd u >>> i &&& 1 ≤ 1 := Nat.and_le_right
  refine vq_intro (by decide) (by exact Nat.le_of_ble_eq_true rfl) rfl ?_
  refine xq_aload_n dX0_reward_0 rfl rfl ?_
  refine xq_getIE clX7 (by decide) rfl fl_RX0_132 dX0_reward_1 (St.s0 ha) hu.f7 ?_
  refine xq_iload_n dX0_reward_4 rfl rfl ?_
  refine xq_ishrN dX0_reward_5 (by omega) (by omega) ?_
  refine xq_iconst dX0_reward_6 ic1 ?_
  refine xq_iandN dX0_reward_7 ?_
  refine xq_if_eqN dX0_reward_8 rfl (by omega) ⟨fun h8 => ?_, fun h8 => ?_⟩
  · skip
    refine xq_aload_n dX0_reward_12 rfl rfl ?_
    refine xq_getF clX0 (by decide) rfl fl_RX0_22 dX0_reward_13 (Fx.s66 hF) (Fx.r66_1 hF) ?_
    refine xq_aload_n dX0_reward_16 rfl rfl ?_
    refine xq_getR clX0 (by decide) rfl fl_RX0_26 dX0_reward_17 (Fx.s66 hF) hc ?_
    refine xq_iconst dX0_reward_20 ic0 ?_
    refine xq_aload_n dX0_reward_21 rfl rfl ?_
    refine xq_iload_n dX0_reward_22 rfl rfl ?_
    refine xq_iload_n dX0_reward_23 rfl rfl ?_
    refine xq_callV5H clX3 gd_X3_valueOf dX0_reward_24 ml_RX0_135 im_X3_valueOf se_X3_valueOf rfl (Fx.s22 hF) (by exact Nat.le_of_ble_eq_true rfl) (by decide) (c_valueOf hF ha h67 hu ok ht ht24 ht45 hT hnk (l := 0) (by decide) hl0 hi hm8) ?_
    intro x24 H24 p24
    have hu24 := hu.off p24.1 (fun j hj => by omega)
    refine xq_lstoreX dX0_reward_27 rfl rfl ?_
    refine xq_aload_n dX0_reward_29 rfl rfl ?_
    refine xq_getF clX7 (by decide) rfl fl_RX0_141 dX0_reward_30 (St.s0 ha) (St.r3 ha) ?_
    refine xq_iload_n dX0_reward_33 rfl rfl ?_
    refine xq_dup2 dX0_reward_34 rfl rfl ?_
    refine xq_ialdN dX0_reward_35 (St.s4 ha) (by omega) (by decide) (hu24.pz hi) ?_
    refine xq_lload dX0_reward_36 rfl ?_
    refine xq_ldc2 dX0_reward_38 kc_RX0_144 ?_
    refine xq_lcmp dX0_reward_41 ?_
    refine xq_if_ne dX0_reward_42 rfl ⟨fun h42 => ?_, fun h42 => ?_⟩
    · skip
      have q : ∃ z, lawE T (nmv u i m) 0 = some z := by
        cases e : lawE T (nmv u i m) 0 with
        | none => exact absurd ((lg_cmp_eq _ _).mpr (p24.2.trans ((lawL_min hl0).mpr e))) h42
        | some z => exact ⟨z, rfl⟩
      obtain ⟨z, hz0⟩ := q
      have hx : x24 = zL z := by rw [p24.2, hz0]; rfl
      have e1 := clp_L (most := 999) (lawE_in hl0 hz0) ⟨by decide, by decide⟩
      have e0 : prz T u i m = (max 0 (min 999 z)).toNat := by unfold prz; rw [hz0]; rfl
      refine xq_lconst dX0_reward_50 lc0 ?_
      refine xq_ldc2 (v := lN 999) dX0_reward_51 kc_RX0_146 ?_
      refine xq_lload dX0_reward_54 rfl ?_
      refine xq_mminL dX0_reward_56 ml_RX0_148 (by exact Nat.le_of_ble_eq_true rfl) (by decide) ?_
      refine xq_mmaxL dX0_reward_59 ml_RX0_154 (by exact Nat.le_of_ble_eq_true rfl) (by decide) ?_
      skip
      refine xq_l2i dX0_reward_62 ?_
      rw [hx, show (lN 999) = zL 999 from rfl, show (lN 0) = zL 0 from rfl, e1, zL_n, lN_toI, ← e0]
      refine xq_iaddN dX0_reward_63 ?_
      refine xq_iastN dX0_reward_64 (St.s4 ha) (by omega) (by decide) ?_
      refine xq_aload_n dX0_reward_65 rfl rfl ?_
      refine xq_dup dX0_reward_66 rfl ?_
      refine xq_getIE (v := nI (uSd u)) clX7 (by decide) rfl fl_RX0_132 dX0_reward_67 (St.s0 ha) (by rw [hI_sI, if_neg (by omega)]; exact hu24.f7) ?_
      refine xq_iconst dX0_reward_70 ic1 ?_
      refine xq_iload_n dX0_reward_71 rfl rfl ?_
      refine xq_ishlN dX0_reward_72 (by omega) ?_
      refine xq_iorN dX0_reward_73 ?_
      refine xq_putI clX7 (by decide) rfl fl_RX0_132 (Or.inl rfl) dX0_reward_74 ⟨rfl, rfl⟩ (St.s0 ha) ?_
      refine xq_vret dX0_reward_77 rfl ?_
      have nb : ¬ (uSd u).testBit i = true := by rw [(tb_shr _ _).mp h8]; decide
      refine ⟨_, ⟨?_, Off.pI (A := fun q => (a ≤ q ∧ q < a + 5) ∨ q = 23) (Off.pI (A := fun q => (a ≤ q ∧ q < a + 5) ∨ q = 23) (p24.1.mo (fun q h => Or.inr h)) (by omega) _ _) (by omega) _ _⟩, rfl⟩
      unfold rew
      rw [if_neg nb]
      exact (hu24.setPz i (uPz u i + prz T u i m)).setF (k := 7) (by omega) (uSd u ||| 1 <<< i)
    · skip
      refine xq_bipush dX0_reward_45 bp10 ?_
      refine xq_goto dX0_reward_47 rfl ?_
      have e0 : prz T u i m = 10 := by unfold prz; rw [(lawL_min hl0).mp (p24.2.symm.trans ((lg_cmp_eq _ _).mp h42))]; rfl
      rw [← e0]
      refine xq_iaddN dX0_reward_63 ?_
      refine xq_iastN dX0_reward_64 (St.s4 ha) (by omega) (by decide) ?_
      refine xq_aload_n dX0_reward_65 rfl rfl ?_
      refine xq_dup dX0_reward_66 rfl ?_
      refine xq_getIE (v := nI (uSd u)) clX7 (by decide) rfl fl_RX0_132 dX0_reward_67 (St.s0 ha) (by rw [hI_sI, if_neg (by omega)]; exact hu24.f7) ?_
      refine xq_iconst dX0_reward_70 ic1 ?_
      refine xq_iload_n dX0_reward_71 rfl rfl ?_
      refine xq_ishlN dX0_reward_72 (by omega) ?_
      refine xq_iorN dX0_reward_73 ?_
      refine xq_putI clX7 (by decide) rfl fl_RX0_132 (Or.inl rfl) dX0_reward_74 ⟨rfl, rfl⟩ (St.s0 ha) ?_
      refine xq_vret dX0_reward_77 rfl ?_
      have nb : ¬ (uSd u).testBit i = true := by rw [(tb_shr _ _).mp h8]; decide
      refine ⟨_, ⟨?_, Off.pI (A := fun q => (a ≤ q ∧ q < a + 5) ∨ q = 23) (Off.pI (A := fun q => (a ≤ q ∧ q < a + 5) ∨ q = 23) (p24.1.mo (fun q h => Or.inr h)) (by omega) _ _) (by omega) _ _⟩, rfl⟩
      have e0 : prz T u i m = 10 := by unfold prz; rw [(lawL_min hl0).mp (p24.2.symm.trans ((lg_cmp_eq _ _).mp h42))]; rfl
      unfold rew
      rw [if_neg nb, e0]
      exact (hu24.setPz i (uPz u i + 10)).setF (k := 7) (by omega) (uSd u ||| 1 <<< i)
  · skip
    refine xq_vret dX0_reward_11 rfl ?_
    exact ⟨H, ⟨by unfold rew; rw [if_pos (Bool.not_eq_false _ ▸ (fun w => h8 ((tb_shr _ _).mpr w)) : (uSd u).testBit i = true)]; exact hu, Off.rf⟩, rfl⟩
def spk (dr : Bool) (u : uSt) (n : Nat) : Bool := if dr then (decide (n = 0) || (decide (n < 100) && decide (n ≤ lcg (uLa u) / 65536 % 100))) else decide (n < 50)
def spu (dr : Bool) (u : uSt) (n : Nat) : uSt := if dr = true ∧ n ≠ 0 ∧ n < 100 then uSetLa u (lcg (uLa u)) else u
theorem c_speaks (hF : gFx S) (ha : gSt S a) (hu : StP H a u) (ok : StOk u) (hc : hI H 66 3 = bI dr) (hn : n ≤ 1000) : Hv mX0_speaks 1 [.ref 66, .ref a, vN n] S H vB (fun x H' => x = spk dr u n ∧ StP H' a (spu dr u n) ∧ Off (fun q => q = a) H H') := by
  refine vq_intro (by decide) (by exact Nat.le_of_ble_eq_true rfl) rfl ?_
  refine xq_aload_n dX0_speaks_0 rfl rfl ?_
  refine xq_getIE clX0 (by decide) rfl fl_RX0_30 dX0_speaks_1 (Fx.s66 hF) hc ?_
  refine xq_if_neB dX0_speaks_4 rfl ⟨fun h4 => ?_, fun h4 => ?_⟩
  · skip
    refine xq_iload_n dX0_speaks_19 rfl rfl ?_
    refine xq_if_eqN dX0_speaks_20 rfl (by omega) ⟨fun h20 => ?_, fun h20 => ?_⟩
    · skip
      refine xq_iconst dX0_speaks_40 ic1 ?_
      refine xq_goto dX0_speaks_41 rfl ?_
      refine xq_zret dX0_speaks_45 rfl (by decide) ?_
      exact ⟨true, H, ⟨by simp [spk, h4, h20], by rw [show spu dr u n = u by simp [spu, h20]]; exact hu, Off.rf⟩, rfl⟩
    · skip
      refine xq_iload_n dX0_speaks_23 rfl rfl ?_
      refine xq_bipush dX0_speaks_24 bp100 ?_
      refine xq_icmp_geN dX0_speaks_26 rfl (by omega) (by omega) ⟨fun h26 => ?_, fun h26 => ?_⟩
      · skip
        refine xq_iconst dX0_speaks_44 ic0 ?_
        refine xq_zret dX0_speaks_45 rfl (by decide) ?_
        exact ⟨false, H, ⟨by simp [spk, h4, h20]; omega, by rw [show spu dr u n = u by simp [spu]; omega]; exact hu, Off.rf⟩, rfl⟩
      · skip
        refine xq_aload_n dX0_speaks_29 rfl rfl ?_
        refine xq_callV0H clX7 gd_X7_draw dX0_speaks_30 ml_RX0_128 im_X7_draw se_X7_draw rfl (St.s0 ha) (by exact Nat.le_of_ble_eq_true rfl) (by decide) (c_draw ha hu ok) ?_
        intro x30 H30 p30
        obtain ⟨rfl, p30⟩ := p30
        have hl := lcg_lt (uLa u)
        have hl2 : lcg (uLa u) / 65536 < 32768 := by omega
        refine xq_bipush dX0_speaks_33 bp100 ?_
        refine xq_iremN dX0_speaks_35 (by omega) (by omega) (by decide) ?_
        refine xq_iload_n dX0_speaks_36 rfl rfl ?_
        refine xq_icmp_ltN dX0_speaks_37 rfl (by omega) (by omega) ⟨fun h37 => ?_, fun h37 => ?_⟩
        · skip
          refine xq_iconst dX0_speaks_44 ic0 ?_
          refine xq_zret dX0_speaks_45 rfl (by decide) ?_
          exact ⟨false, H30, ⟨by simp [spk, h4, h20, h26]; omega, by rw [show spu dr u n = uSetLa u (lcg (uLa u)) by simp [spu, h4, h20, h26]]; exact p30.1, p30.2⟩, rfl⟩
        · skip
          refine xq_iconst dX0_speaks_40 ic1 ?_
          refine xq_goto dX0_speaks_41 rfl ?_
          refine xq_zret dX0_speaks_45 rfl (by decide) ?_
          exact ⟨true, H30, ⟨by simp [spk, h4, h20, h26]; omega, by rw [show spu dr u n = uSetLa u (lcg (uLa u)) by simp [spu, h4, h20, h26]]; exact p30.1, p30.2⟩, rfl⟩
  · skip
    refine xq_iload_n dX0_speaks_7 rfl rfl ?_
    refine xq_bipush dX0_speaks_8 bp50 ?_
    refine xq_icmp_geN dX0_speaks_10 rfl (by omega) (by omega) ⟨fun h10 => ?_, fun h10 => ?_⟩
    · skip
      refine xq_iconst dX0_speaks_17 ic0 ?_
      refine xq_zret dX0_speaks_18 rfl (by decide) ?_
      exact ⟨false, H, ⟨by simp [spk, h4]; omega, by rw [show spu dr u n = u by simp [spu, h4]]; exact hu, Off.rf⟩, rfl⟩
    · skip
      refine xq_iconst dX0_speaks_13 ic1 ?_
      refine xq_goto dX0_speaks_14 rfl ?_
      refine xq_zret dX0_speaks_18 rfl (by decide) ?_
      exact ⟨true, H, ⟨by simp [spk, h4]; omega, by rw [show spu dr u n = u by simp [spu, h4]]; exact hu, Off.rf⟩, rfl⟩
end CO
