/-! ===== HatRoom: what is remembered ===== -/
theorem inst_X7 : Cond.instantiable RX7 12 ∈ lw_g := lw_gin 404 (by decide +kernel) (by decide +kernel)
theorem ini_X7 : Cond.initialized RX7 ∈ lw_g := lw_gin 15 (by decide +kernel) (by decide +kernel)
theorem dflt_X7 : ∀ j, j < 12 → defaultValue (tyX7 j) = match fK 7 j with | 0 => .int 0 | 1 => .long 0 | _ => .null := by
  intro j hj
  have : j = 0 ∨ j = 1 ∨ j = 2 ∨ j = 3 ∨ j = 4 ∨ j = 5 ∨ j = 6 ∨ j = 7 ∨ j = 8 ∨ j = 9 ∨ j = 10 ∨ j = 11 := by omega
  rcases this with rfl | rfl | rfl | rfl | rfl | rfl | rfl | rfl | rfl | rfl | rfl | rfl <;> rfl
section PA
variable {S S1 : xS} {H H1 : xH} {M : xM} {kd b1 b2 pc a b p n pn ps i j : Nat} {L : List (Option Value)} {st : List Value} {Q : xR → Prop} {A : Nat → Option Nat} {u : uSt}
theorem xq_aaldN {v : Option Nat} (d : decode (mC M) pc = .ok (.aaload, 1)) (hs : fS S a = (5, n)) (hp : p < n) (hn : n ≤ 100000) (hv : hR H a p = v) (kk : Xq M kd b1 b2 (pc + 1) L (va_rf v :: st) S H Q) : Xq M kd b1 b2 pc L (.int (nI p) :: .ref a :: st) S H Q := xq_aald d hs (vp_n hp hn) (by rw [clampN hp hn, hv]; exact kk)
theorem xq_aastN {x : Nat} (d : decode (mC M) pc = .ok (.aastore, 1)) (hs : fS S a = (5, n)) (hsx : fS S x = (6, 7)) (hp : p < n) (hn : n ≤ 100000) (kk : Xq M kd b1 b2 (pc + 1) L st S (sR H a p (some x)) Q) : Xq M kd b1 b2 pc L (.ref x :: .int (nI p) :: .ref a :: st) S H Q := xq_aast d hs hsx (vp_n hp hn) (by rw [clampN hp hn]; exact kk)
/-- more places than before, those of before as they were -/
def SEx (S S1 : xS) : Prop := fZ S ≤ fZ S1 ∧ (∀ q, q < fZ S ∨ fZ S + 5 ≤ q → fS S1 q = fS S q ∧ ∀ k, fR S1 q k = fR S q k) ∧ fZ S1 ≤ fZ S + 5
theorem SEx.fx (h : SEx S S1) (hF : gFx S) : gFx S1 := by
  have h0 := hF.1
  refine ⟨Nat.le_trans h0 h.1, fun a ha => ((h.2.1 a (by omega)).1).trans (hF.2.1 a ha), fun q hq => ?_⟩
  have hb : ∀ q ∈ fxR, q.1 < 119 := by decide
  rw [(h.2.1 q.1 (by have := hb q hq; omega)).2]
  exact hF.2.2 q hq
theorem SEx.gst (h : SEx S S1) (hb : b + 5 ≤ fZ S) (hg : gSt S b) : gSt S1 b := by
  have e := fun j (hj : j < 5) => h.2.1 (b + j) (by omega)
  obtain ⟨g0, g1, g2, g3, g4, r0, r1, r2, r3⟩ := hg
  exact ⟨(e 0 (by omega)).1.trans g0, (e 1 (by omega)).1.trans g1, (e 2 (by omega)).1.trans g2, (e 3 (by omega)).1.trans g3, (e 4 (by omega)).1.trans g4, ((e 0 (by omega)).2 0).trans r0, ((e 0 (by omega)).2 1).trans r1, ((e 0 (by omega)).2 2).trans r2, ((e 0 (by omega)).2 3).trans r3⟩
theorem SEx.rf : SEx S S := ⟨Nat.le_refl _, fun _ _ => ⟨rfl, fun _ => rfl⟩, Nat.le_add_right _ _⟩
theorem fS_sF (S : xS) (a k : Nat) (v : Option Nat) (q : Nat) : fS (sF S a k v) q = fS S q := rfl
theorem fZ_sF (S : xS) (a k : Nat) (v : Option Nat) : fZ (sF S a k v) = fZ S := rfl
theorem fR_sF (S : xS) (a k : Nat) (v : Option Nat) (q j : Nat) : fR (sF S a k v) q j = if q = a ∧ j = k then v else fR S q j := rfl
theorem fZ_nS (S : xS) (sh : Nat × Nat) : fZ (nS S sh) = fZ S + 1 := rfl
theorem fR_nS (S : xS) (sh : Nat × Nat) (q k : Nat) : fR (nS S sh) q k = if q = fZ S then none else fR S q k := rfl
theorem hI_nH (S : xS) (H : xH) (q k : Nat) : hI (nH S H) q k = if q = fZ S then 0 else hI H q k := rfl
theorem hL_nH (S : xS) (H : xH) (q k : Nat) : hL (nH S H) q k = if q = fZ S then 0 else hL H q k := rfl
theorem hR_nH (S : xS) (H : xH) (q k : Nat) : hR (nH S H) q k = if q = fZ S then none else hR H q k := rfl
theorem Off.nH {AA : Nat → Prop} (h : Off AA H H1) (ha : AA (fZ S)) : Off AA H (nH S H1) := fun q hq => by
  have hne : ¬ q = S.2.2 := fun e => hq (by rw [e]; exact ha)
  refine ⟨?_, ?_, ?_⟩
  · show (fun k => if q = S.2.2 then 0 else H1.1 q k) = _
    simp only [if_neg hne]; exact (h q hq).1
  · show (fun k => if q = S.2.2 then 0 else H1.2.1 q k) = _
    simp only [if_neg hne]; exact (h q hq).2.1
  · show (fun k => if q = S.2.2 then none else H1.2.2 q k) = _
    simp only [if_neg hne]; exact (h q hq).2.2
theorem c_initSt (hsa : fS S a = (6, 7)) (hz : fZ S = a + 1) : Vq mX7_init 2 4 747 [.ref a] S H (fun R => ∃ S1 H1, R = (none, S1, H1) ∧ gSt S1 a ∧ fZ S1 = a + 5 ∧ (∀ q, q < a ∨ a + 5 ≤ q → fS S1 q = fS S q ∧ ∀ k, fR S1 q k = fR S q k) ∧ Off (fun q => a ≤ q ∧ q < a + 5) H H1) := by
  refine vq_intro (by decide) (by exact Nat.le_of_ble_eq_true rfl) rfl ?_
  refine xq_aload_n dX7_init_0 rfl rfl ?_
  refine xq_objInit dX7_init_1 mo_RX7_3 oi_im oi_cd rfl (by decide) ?_
  refine xq_aload_n dX7_init_4 rfl rfl ?_
  refine xq_sipush dX7_init_5 sp729 ?_
  refine xq_newi (n := 729) dX7_init_8 ac_int (nq_lt0 (by decide)) (nI_clamp (by decide)) (by decide) ?_
  refine xq_putF clX7 (by decide) rfl fl_RX7_9 (Or.inr ⟨rfl, rfl, rfl⟩) dX7_init_10 (fun _ => ⟨rfl, rfl⟩) (by simp [fS_new, fS_sF, fZ_sF, fZ_nS, fR_sF, fR_nS, hz, hsa, Nat.add_assoc]) ?_
  refine xq_aload_n dX7_init_13 rfl rfl ?_
  refine xq_bipush dX7_init_14 bp6 ?_
  refine xq_newi (n := 6) dX7_init_16 ac_int (nq_lt0 (by decide)) (nI_clamp (by decide)) (by decide) ?_
  refine xq_putF clX7 (by decide) rfl fl_RX7_15 (Or.inr ⟨rfl, rfl, rfl⟩) dX7_init_18 (fun _ => ⟨rfl, rfl⟩) (by simp [fS_new, fS_sF, fZ_sF, fZ_nS, fR_sF, fR_nS, hz, hsa, Nat.add_assoc]) ?_
  refine xq_aload_n dX7_init_21 rfl rfl ?_
  refine xq_bipush dX7_init_22 bp6 ?_
  refine xq_newi (n := 6) dX7_init_24 ac_int (nq_lt0 (by decide)) (nI_clamp (by decide)) (by decide) ?_
  refine xq_putF clX7 (by decide) rfl fl_RX7_18 (Or.inr ⟨rfl, rfl, rfl⟩) dX7_init_26 (fun _ => ⟨rfl, rfl⟩) (by simp [fS_new, fS_sF, fZ_sF, fZ_nS, fR_sF, fR_nS, hz, hsa, Nat.add_assoc]) ?_
  refine xq_aload_n dX7_init_29 rfl rfl ?_
  refine xq_bipush dX7_init_30 bp6 ?_
  refine xq_newi (n := 6) dX7_init_32 ac_int (nq_lt0 (by decide)) (nI_clamp (by decide)) (by decide) ?_
  refine xq_putF clX7 (by decide) rfl fl_RX7_21 (Or.inr ⟨rfl, rfl, rfl⟩) dX7_init_34 (fun _ => ⟨rfl, rfl⟩) (by simp [fS_new, fS_sF, fZ_sF, fZ_nS, fR_sF, fR_nS, hz, hsa, Nat.add_assoc]) ?_
  refine xq_vret dX7_init_37 rfl ?_
  refine ⟨_, _, rfl, ?_, by simp [fS_new, fS_sF, fZ_sF, fZ_nS, fR_sF, fR_nS, hz, hsa, Nat.add_assoc], fun q hq => ⟨?_, fun k => ?_⟩, Off.nH (S := _) (Off.nH (S := _) (Off.nH (S := _) (Off.nH (S := _) Off.rf (by simp [fS_new, fS_sF, fZ_sF, fZ_nS, fR_sF, fR_nS, hz, hsa, Nat.add_assoc])) (by simp [fS_new, fS_sF, fZ_sF, fZ_nS, fR_sF, fR_nS, hz, hsa, Nat.add_assoc])) (by simp [fS_new, fS_sF, fZ_sF, fZ_nS, fR_sF, fR_nS, hz, hsa, Nat.add_assoc])) (by simp [fS_new, fS_sF, fZ_sF, fZ_nS, fR_sF, fR_nS, hz, hsa, Nat.add_assoc])⟩
  · unfold gSt
    simp [fS_new, fS_sF, fZ_sF, fZ_nS, fR_sF, fR_nS, hz, hsa, Nat.add_assoc]
  · have e1 : ¬ q = a + 1 := by omega
    have e2 : ¬ q = a + 2 := by omega
    have e3 : ¬ q = a + 3 := by omega
    have e4 : ¬ q = a + 4 := by omega
    simp [fS_new, fS_sF, fZ_sF, fZ_nS, fR_sF, fR_nS, hz, hsa, Nat.add_assoc, e1, e2, e3, e4]
  · have e0 : ¬ q = a := by omega
    have e1 : ¬ q = a + 1 := by omega
    have e2 : ¬ q = a + 2 := by omega
    have e3 : ¬ q = a + 3 := by omega
    have e4 : ¬ q = a + 4 := by omega
    simp [fS_new, fS_sF, fZ_sF, fZ_nS, fR_sF, fR_nS, hz, hsa, Nat.add_assoc, e0, e1, e2, e3, e4]
theorem StP.cong {a : Nat} (h : StP H a u) (e : ∀ j, j < 5 → H1.1 (a + j) = H.1 (a + j) ∧ H1.2.1 (a + j) = H.2.1 (a + j)) : StP H1 a u := by
  have eI : ∀ j, j < 5 → ∀ k, hI H1 (a + j) k = hI H (a + j) k := fun j hj k => congrFun (e j hj).1 k
  have eL : ∀ k, hL H1 a k = hL H a k := fun k => congrFun (e 0 (by omega)).2 k
  exact ⟨(eI 0 (by omega) 4).trans h.1, fun k h1 h2 => (eI 0 (by omega) k).trans (h.2.1 k h1 h2), (eL 11).trans h.2.2.1, fun p hp => (eI 1 (by omega) p).trans (h.2.2.2.1 p hp), fun p hp => ⟨(eI 2 (by omega) p).trans (h.2.2.2.2 p hp).1, (eI 3 (by omega) p).trans (h.2.2.2.2 p hp).2.1, (eI 4 (by omega) p).trans (h.2.2.2.2 p hp).2.2⟩⟩
def PaP (S : xS) (H : xH) (pn ps : Nat) (A : Nat → Option Nat) : Prop := hI H 0 15 = nI pn ∧ hI H 0 14 = nI ps ∧ pn ≤ 20 ∧ ps ≤ 20 ∧ (∀ i, i < 20 → hR H 82 i = A i) ∧ (∀ i, i < 20 → ∀ b, A i = some b → gSt S b ∧ 119 ≤ b ∧ b + 5 ≤ fZ S) ∧ ∀ i, i < 20 → ∀ j, j < 20 → i ≠ j → ∀ b c, A i = some b → A j = some c → b + 5 ≤ c ∨ c + 5 ≤ b
def UnP (H : xH) (pn ps : Nat) (A : Nat → Option Nat) (L : Nat → uSt) : Prop := ∀ j, j < ps → ∃ b, A ((pn + 19 - j) % 20) = some b ∧ StP H b (L j) ∧ StOk (L j)
def wrp (pn : Nat) : Nat := if pn < 20 then pn else 0
theorem wrp_lt (pn : Nat) : wrp pn < 20 := by unfold wrp; split <;> omega
def RoF (H H1 : xH) (f : Nat → Prop) : Prop := (∀ k, f k → hI H1 0 k = hI H 0 k) ∧ ∀ k, hR H1 0 k = hR H 0 k
/-- what remembering a State u leaves -/
def RemQ (S : xS) (H : xH) (pn ps : Nat) (A : Nat → Option Nat) (u : uSt) (R : xR) : Prop := ∃ S1 H1 A1 b, R = (none, S1, H1) ∧ SEx S S1 ∧ PaP S1 H1 (wrp pn + 1) (min (ps + 1) 20) A1 ∧ A1 (wrp pn) = some b ∧ (∀ i, i < 20 → i ≠ wrp pn → A1 i = A i) ∧ StP H1 b u ∧ (∀ c, (c + 5 ≤ b ∨ b + 5 ≤ c) → 119 ≤ c → c + 5 ≤ fZ S → ∀ j, j < 5 → H1.1 (c + j) = H.1 (c + j) ∧ H1.2.1 (c + j) = H.2.1 (c + j)) ∧ RoF H H1 (fun k => k ≠ 14 ∧ k ≠ 15) ∧ Off (fun q => q = 0 ∨ q = 82 ∨ (119 ≤ q ∧ q < fZ S + 5)) H H1
theorem UnP.rem {L : Nat → uSt} {R : xR} (h : UnP H pn ps A L) (hp : PaP S H pn ps A) (ok : StOk u) (hq : RemQ S H pn ps A u R) : ∃ S1 H1 A1, R = (none, S1, H1) ∧ SEx S S1 ∧ PaP S1 H1 (wrp pn + 1) (min (ps + 1) 20) A1 ∧ UnP H1 (wrp pn + 1) (min (ps + 1) 20) A1 (fun j => if j = 0 then u else L (j - 1)) ∧ RoF H H1 (fun k => k ≠ 14 ∧ k ≠ 15) ∧ Off (fun q => q = 0 ∨ q = 82 ∨ (119 ≤ q ∧ q < fZ S + 5)) H H1 := by
  obtain ⟨S1, H1, A1, b, rfl, hS, hP, hb, hA, hu, hk, hr, ho⟩ := hq
  refine ⟨S1, H1, A1, rfl, hS, hP, fun j hj => ?_, hr, ho⟩
  have hw := wrp_lt pn
  have hpn := hp.2.2.1
  by_cases e : j = 0
  · subst e
    refine ⟨b, ?_, hu, ok⟩
    rw [show (wrp pn + 1 + 19 - 0) % 20 = wrp pn by omega]
    exact hb
  · simp only [if_neg e]
    obtain ⟨c, c1, c2, c3⟩ := h (j - 1) (by omega)
    have ei : (wrp pn + 1 + 19 - j) % 20 = (pn + 19 - (j - 1)) % 20 := by
      unfold wrp
      by_cases w : pn < 20
      · rw [if_pos w]; omega
      · rw [if_neg w]; omega
    have hi : (pn + 19 - (j - 1)) % 20 < 20 := Nat.mod_lt _ (by decide)
    have hne : (pn + 19 - (j - 1)) % 20 ≠ wrp pn := by
      unfold wrp
      by_cases w : pn < 20
      · rw [if_pos w]; omega
      · rw [if_neg w]; omega
    rw [ei]
    have c1' := (hA _ hi hne).trans c1
    refine ⟨c, c1', ?_, c3⟩
    have hg := (hp.2.2.2.2.2.1 _ hi c c1)
    have hap := hP.2.2.2.2.2.2 _ hi _ hw hne c b c1' hb
    have hkc := hk c hap hg.2.1 hg.2.2
    exact StP.cong c2 (fun j hj => hkc j hj)

theorem rem_tail {p : Nat} (hF : gFx S) (ha : gSt S a) (ha67 : 67 ≤ a) (ha114 : a ≤ 114) (hu : StP H a u) (ok : StOk u) (h15 : hI H 0 15 = nI p) (h14 : hI H 0 14 = nI ps) (hps : ps ≤ 20) (hp20 : p < 20) (hgb : gSt S b) (hb119 : 119 ≤ b) (hb82 : hR H 82 p = some b)
    (hfin : ∀ H59, StP H59 b u → Off (fun q => b ≤ q ∧ q < b + 5) H H59 → Q (none, S, sI (sI H59 0 15 (nI (p + 1))) 0 14 (nI (min (ps + 1) 20)))) : Xq mX10_remember 3 b1 b2 49 [some (.ref 0), some (.ref a)] [] S H Q := by
  refine xq_aload_n dX10_remember_49 rfl rfl ?_
  refine xq_getF clX10 (by decide) rfl fl_RX10_77 dX10_remember_50 (Fx.s0 hF) (Fx.r0_13 hF) ?_
  refine xq_aload_n dX10_remember_53 rfl rfl ?_
  refine xq_getIE clX10 (by decide) rfl fl_RX10_252 dX10_remember_54 (Fx.s0 hF) h15 ?_
  refine xq_aaldN dX10_remember_57 (Fx.s82 hF) hp20 (by decide) hb82 ?_
  skip
  refine xq_aload_n dX10_remember_58 rfl rfl ?_
  refine xq_callV1N clX7 gd_X7_copy dX10_remember_59 ml_RX10_226 im_X7_copy se_X7_copy rfl (St.s0 hgb) (by exact Nat.le_of_ble_eq_true rfl) (by decide) (c_copy hgb ha (by omega) hu ok) ?_
  intro H59 p59
  refine xq_aload_n dX10_remember_62 rfl rfl ?_
  refine xq_dup dX10_remember_63 rfl ?_
  refine xq_getIE clX10 (by decide) rfl fl_RX10_252 dX10_remember_64 (Fx.s0 hF) ((p59.2.I (by omega) 15).trans h15) ?_
  refine xq_iconst dX10_remember_67 ic1 ?_
  refine xq_iaddN dX10_remember_68 ?_
  refine xq_putI clX10 (by decide) rfl fl_RX10_252 (Or.inl rfl) dX10_remember_69 ⟨rfl, rfl⟩ (Fx.s0 hF) ?_
  refine xq_aload_n dX10_remember_72 rfl rfl ?_
  refine xq_aload_n dX10_remember_73 rfl rfl ?_
  refine xq_getIE (v := nI ps) clX10 (by decide) rfl fl_RX10_105 dX10_remember_74 (Fx.s0 hF) (by rw [hI_sI, if_neg (by omega)]; exact (p59.2.I (by omega) 14).trans h14) ?_
  refine xq_iconst dX10_remember_77 ic1 ?_
  refine xq_iaddN dX10_remember_78 ?_
  refine xq_bipush dX10_remember_79 bp20 ?_
  refine xq_mminN dX10_remember_81 ml_RX10_255 (by exact Nat.le_of_ble_eq_true rfl) (by decide) (by omega) (by omega) ?_
  refine xq_putI clX10 (by decide) rfl fl_RX10_105 (Or.inl rfl) dX10_remember_84 ⟨rfl, rfl⟩ (Fx.s0 hF) ?_
  refine xq_vret dX10_remember_87 rfl ?_
  exact hfin H59 p59.1 p59.2
end PA
