/-! ===== HatRoom.remember, undo, keep, back ===== -/
section PB
variable {S S1 : xS} {H H1 : xH} {a b p n pn ps i j : Nat} {Q : xR → Prop} {A : Nat → Option Nat} {u : uSt}
theorem rem_mid (hF : gFx S) (ha : gSt S a) (ha67 : 67 ≤ a) (ha114 : a ≤ 77) (hu : StP H a u) (ok : StOk u) (h15 : hI H 0 15 = nI p) (h14 : hI H 0 14 = nI ps) (hps : ps ≤ 20) (hp20 : p < 20) (hr82 : ∀ i, i < 20 → hR H 82 i = A i) (hAg : ∀ i, i < 20 → ∀ b, A i = some b → gSt S b ∧ 119 ≤ b ∧ b + 5 ≤ fZ S)
    (hfin : ∀ S1 H1 b, SEx S S1 → gSt S1 b → 119 ≤ b → b + 5 ≤ fZ S1 → (A p = some b ∧ S1 = S ∨ A p = none ∧ fZ S = b) → StP H1 b u → Off (fun q => q = 0 ∨ q = 82 ∨ (b ≤ q ∧ q < b + 5)) H H1 → (∀ i, i < 20 → hR H1 82 i = if i = p then some b else A i) → hI H1 0 15 = nI (p + 1) → hI H1 0 14 = nI (min (ps + 1) 20) → RoF H H1 (fun k => k ≠ 14 ∧ k ≠ 15) → Q (none, S1, H1)) : Xq mX10_remember 3 5 764 21 [some (.ref 0), some (.ref a)] [] S H Q := by
  cases hA : A p with
  | some b =>
    have hgb := hAg p hp20 b hA
    refine xq_aload_n dX10_remember_21 rfl rfl ?_
    refine xq_getF clX10 (by decide) rfl fl_RX10_77 dX10_remember_22 (Fx.s0 hF) (Fx.r0_13 hF) ?_
    refine xq_aload_n dX10_remember_25 rfl rfl ?_
    refine xq_getIE clX10 (by decide) rfl fl_RX10_252 dX10_remember_26 (Fx.s0 hF) h15 ?_
    refine xq_aaldN dX10_remember_29 (Fx.s82 hF) hp20 (by decide) ((hr82 p hp20).trans hA) ?_
    skip
    refine xq_ifnonnull dX10_remember_30 rfl ?_
    refine rem_tail hF ha ha67 (by omega) hu ok h15 h14 hps hp20 hgb.1 hgb.2.1 ((hr82 p hp20).trans hA) (fun H59 e1 e2 => ?_)
    refine hfin S _ b SEx.rf hgb.1 hgb.2.1 hgb.2.2 (Or.inl ⟨hA, rfl⟩) (e1.off (Off.pI (A := fun q => q = 0) (Off.pI (A := fun q => q = 0) Off.rf rfl _ _) rfl _ _) (fun j hj => by have := hgb.2.1; omega)) (Off.pI (A := (fun q => q = 0 ∨ q = 82 ∨ (b ≤ q ∧ q < b + 5))) (Off.pI (A := (fun q => q = 0 ∨ q = 82 ∨ (b ≤ q ∧ q < b + 5))) (e2.mo (fun q h => by omega)) (by omega) _ _) (by omega) _ _) (fun i hi => ?_) (by simp [hI_sI]) (by simp [hI_sI]) ⟨fun k hk => ?_, fun k => ?_⟩
    · rw [hR_sI, hR_sI, e2.R (by have := hgb.2.1; omega), hr82 i hi]
      by_cases e : i = p
      · rw [if_pos e, e, hA]
      · rw [if_neg e]
    · rw [hI_sI, if_neg (fun e => hk.1 e.2), hI_sI, if_neg (fun e => hk.2 e.2)]; exact e2.I (by have := hgb.2.1; omega) k
    · rw [hR_sI, hR_sI]; exact e2.R (by have := hgb.2.1; omega) k
  | none =>
    refine xq_aload_n dX10_remember_21 rfl rfl ?_
    refine xq_getF clX10 (by decide) rfl fl_RX10_77 dX10_remember_22 (Fx.s0 hF) (Fx.r0_13 hF) ?_
    refine xq_aload_n dX10_remember_25 rfl rfl ?_
    refine xq_getIE clX10 (by decide) rfl fl_RX10_252 dX10_remember_26 (Fx.s0 hF) h15 ?_
    refine xq_aaldN dX10_remember_29 (Fx.s82 hF) hp20 (by decide) ((hr82 p hp20).trans hA) ?_
    skip
    refine xq_ifnonnullN dX10_remember_30 ?_
    refine xq_aload_n dX10_remember_33 rfl rfl ?_
    refine xq_getF clX10 (by decide) rfl fl_RX10_77 dX10_remember_34 (Fx.s0 hF) (Fx.r0_13 hF) ?_
    refine xq_aload_n dX10_remember_37 rfl rfl ?_
    refine xq_getIE clX10 (by decide) rfl fl_RX10_252 dX10_remember_38 (Fx.s0 hF) h15 ?_
    refine xq_new clX7 dX10_remember_41 ck_RX10_64 inst_X7 ini_X7 dflt_X7 ?_
    refine xq_dup dX10_remember_44 rfl ?_
    refine xq_callIN0G (b1 := 0) (c1 := 4) (b2 := 5) (c2 := 747) gd_X7_init dX10_remember_45 nl_RX10_66 im_X7_init rfl rfl (by exact Nat.le_of_ble_eq_true rfl) (by decide) (c_initSt (by rw [fS_new]; exact if_pos rfl) (fZ_nS _ _)) ?_
    intro r S2 H2 hq
    obtain ⟨S3, H3, e0, hgb, hz3, hk3, ho3⟩ := hq
    cases e0
    have hS : SEx S S2 := ⟨by omega, fun q hq => ⟨(hk3 q hq).1.trans (by rw [fS_new]; exact if_neg (by omega)), fun k => ((hk3 q hq).2 k).trans (by rw [fR_nS]; exact if_neg (by omega))⟩, by omega⟩
    have hF0 := hF
    have hF := hS.fx hF0
    have ha := hS.gst (by have := hF0.1; omega) ha
    have hzF := hF0.1
    have oH : Off (fun q => fZ S ≤ q ∧ q < fZ S + 5) H H2 := (Off.nH (S := S) Off.rf (show fZ S ≤ fZ S ∧ fZ S < fZ S + 5 by omega)).tr ho3
    generalize hb : fZ S = b at *
    have hu := hu.off oH (fun j hj => by omega)
    simp only [Option.toList, List.nil_append]
    refine xq_aastN dX10_remember_48 (Fx.s82 hF) (St.s0 hgb) hp20 (by decide) ?_
    refine rem_tail (b := b) hF ha ha67 (by omega) (hu.off (Off.pR (A := fun q => q = 82) Off.rf rfl _ _) (fun j hj => by omega)) ok (by rw [hI_sR, oH.I (by omega)]; exact h15) (by rw [hI_sR, oH.I (by omega)]; exact h14) hps hp20 hgb (by omega) (by rw [hR_sR, if_pos ⟨rfl, rfl⟩]) (fun H59 e1 e2 => ?_)
    refine hfin S2 _ b hS hgb (by omega) (by omega) (Or.inr ⟨hA, by omega⟩) (e1.off (Off.pI (A := fun q => q = 0) (Off.pI (A := fun q => q = 0) Off.rf rfl _ _) rfl _ _) (fun j hj => by omega)) (Off.pI (A := fun q => q = 0 ∨ q = 82 ∨ (b ≤ q ∧ q < b + 5)) (Off.pI (A := fun q => q = 0 ∨ q = 82 ∨ (b ≤ q ∧ q < b + 5)) (((oH.mo (fun q h => Or.inr (Or.inr h))).tr (Off.pR (A := fun q => q = 0 ∨ q = 82 ∨ (b ≤ q ∧ q < b + 5)) Off.rf (by omega) _ _)).tr (e2.mo (fun q h => by omega))) (by omega) _ _) (by omega) _ _) (fun i hi => ?_) (by simp [hI_sI]) (by simp [hI_sI]) ⟨fun k hk => ?_, fun k => ?_⟩
    · rw [hR_sI, hR_sI, e2.R (by omega), hR_sR]
      by_cases e : i = p
      · rw [if_pos e, if_pos ⟨rfl, e⟩]
      · rw [if_neg e, if_neg (fun w => e w.2), oH.R (by omega), hr82 i hi]
    · rw [hI_sI, if_neg (fun e => hk.1 e.2), hI_sI, if_neg (fun e => hk.2 e.2), e2.I (by omega) k, hI_sR]; exact oH.I (by omega) k
    · rw [hR_sI, hR_sI, e2.R (by omega) k, hR_sR, if_neg (by omega)]; exact oH.R (by omega) k
theorem c_remember (hF : gFx S) (hp : PaP S H pn ps A) (ha : gSt S a) (ha67 : 67 ≤ a) (ha114 : a ≤ 77) (hu : StP H a u) (ok : StOk u) : Vq mX10_remember 3 5 764 [.ref 0, .ref a] S H (RemQ S H pn ps A u) := by
  have hpn := hp.2.2.1; have hps := hp.2.2.2.1
  refine vq_intro (by decide) (by exact Nat.le_of_ble_eq_true rfl) rfl ?_
  refine xq_aload_n dX10_remember_0 rfl rfl ?_
  refine xq_getIE clX10 (by decide) rfl fl_RX10_252 dX10_remember_1 (Fx.s0 hF) hp.1 ?_
  refine xq_if_ltN dX10_remember_4 rfl (by omega) ?_
  refine xq_aload_n dX10_remember_7 rfl rfl ?_
  refine xq_getIE clX10 (by decide) rfl fl_RX10_252 dX10_remember_8 (Fx.s0 hF) hp.1 ?_
  refine xq_bipush dX10_remember_11 bp20 ?_
  refine xq_icmp_ltN dX10_remember_13 rfl (by omega) (by omega) ⟨fun h13 => ?_, fun h13 => ?_⟩
  · skip
    have hw : wrp pn = pn := if_pos h13
    refine xq_fgt (rem_mid hF ha ha67 ha114 hu ok hp.1 hp.2.1 hp.2.2.2.1 h13 hp.2.2.2.2.1 hp.2.2.2.2.2.1 (fun S1 H1 b q1 q2 q3 q4 q5 q6 q7 q8 q9 q10 q11 => by
        have hbz : b + 5 ≤ fZ S + 5 := by
          rcases q5 with ⟨-, e⟩ | ⟨-, e⟩
          · rw [e] at q4; omega
          · omega
        refine ⟨S1, H1, fun i => if i = wrp pn then some b else A i, b, rfl, q1, ⟨by rw [hw]; exact q9, q10, by rw [hw]; omega, by omega, fun i hi => by rw [hw]; exact q8 i hi, fun i hi c hc => ?_, fun i hi j hj hne c d hc hd => ?_⟩, if_pos rfl, fun i hi hne => if_neg hne, q6, fun c hc h119 hz j hj => ?_, q11, q7.mo (fun q h => by omega)⟩
        · have hc2 : (if i = wrp pn then some b else A i) = some c := hc
          by_cases e : i = wrp pn
          · rw [if_pos e] at hc2; cases hc2; exact ⟨q2, q3, q4⟩
          · rw [if_neg e] at hc2
            have := hp.2.2.2.2.2.1 i hi c hc2
            have h1 := q1.1
            exact ⟨q1.gst this.2.2 this.1, this.2.1, by omega⟩
        · have hc2 : (if i = wrp pn then some b else A i) = some c := hc
          have hd2 : (if j = wrp pn then some b else A j) = some d := hd
          have key : ∀ i c, i < 20 → i ≠ wrp pn → A i = some c → b + 5 ≤ c ∨ c + 5 ≤ b := fun i c hi hne hc => by
            rcases q5 with ⟨e, -⟩ | ⟨-, e⟩
            · exact hp.2.2.2.2.2.2 (wrp pn) (wrp_lt pn) i hi (Ne.symm hne) b c (by rw [hw] at *; exact e) hc
            · have := (hp.2.2.2.2.2.1 i hi c hc).2.2; omega
          by_cases e : i = wrp pn
          · rw [if_pos e] at hc2; cases hc2
            have e2 : j ≠ wrp pn := fun w => hne (by rw [e, w])
            rw [if_neg e2] at hd2
            exact key j d hj e2 hd2
          · rw [if_neg e] at hc2
            by_cases e2 : j = wrp pn
            · rw [if_pos e2] at hd2; cases hd2
              have := key i c hi e hc2; omega
            · rw [if_neg e2] at hd2
              exact hp.2.2.2.2.2.2 i hi j hj hne c d hc2 hd2
        · have hq := q7 (c + j) (by omega)
          exact ⟨hq.1, hq.2.1⟩)) (by exact And.intro rfl (And.intro rfl trivial))
  · skip
    refine xq_aload_n dX10_remember_16 rfl rfl ?_
    refine xq_iconst dX10_remember_17 ic0 ?_
    refine xq_putI clX10 (by decide) rfl fl_RX10_252 (Or.inl rfl) dX10_remember_18 ⟨rfl, rfl⟩ (Fx.s0 hF) ?_
    have hw : wrp pn = 0 := if_neg (by omega)
    refine xq_fgt (rem_mid (p := 0) hF ha ha67 ha114 (hu.off (Off.pI (A := fun q => q = 0) Off.rf rfl _ _) (fun j hj => by omega)) ok (by simp [hI_sI]) (by simp [hI_sI, hp.2.1]) hp.2.2.2.1 (by omega) (fun i hi => (hR_sI _ _ _ _ _ _).trans (hp.2.2.2.2.1 i hi)) hp.2.2.2.2.2.1 (fun S1 H1 b q1 q2 q3 q4 q5 q6 q7 q8 q9 q10 q11 => by
        have hbz : b + 5 ≤ fZ S + 5 := by
          rcases q5 with ⟨-, e⟩ | ⟨-, e⟩
          · rw [e] at q4; omega
          · omega
        refine ⟨S1, H1, fun i => if i = wrp pn then some b else A i, b, rfl, q1, ⟨by rw [hw]; exact q9, q10, by rw [hw]; omega, by omega, fun i hi => by rw [hw]; exact q8 i hi, fun i hi c hc => ?_, fun i hi j hj hne c d hc hd => ?_⟩, if_pos rfl, fun i hi hne => if_neg hne, q6, fun c hc h119 hz j hj => ?_, ⟨fun k hk => (q11.1 k hk).trans (by rw [hI_sI, if_neg (fun e => hk.2 e.2)]), fun k => (q11.2 k).trans (hR_sI _ _ _ _ _ _)⟩, (Off.pI (A := fun q => q = 0 ∨ q = 82 ∨ (119 ≤ q ∧ q < fZ S + 5)) Off.rf (by omega) _ _).tr (q7.mo (fun q h => by omega))⟩
        · have hc2 : (if i = wrp pn then some b else A i) = some c := hc
          by_cases e : i = wrp pn
          · rw [if_pos e] at hc2; cases hc2; exact ⟨q2, q3, q4⟩
          · rw [if_neg e] at hc2
            have := hp.2.2.2.2.2.1 i hi c hc2
            have h1 := q1.1
            exact ⟨q1.gst this.2.2 this.1, this.2.1, by omega⟩
        · have hc2 : (if i = wrp pn then some b else A i) = some c := hc
          have hd2 : (if j = wrp pn then some b else A j) = some d := hd
          have key : ∀ i c, i < 20 → i ≠ wrp pn → A i = some c → b + 5 ≤ c ∨ c + 5 ≤ b := fun i c hi hne hc => by
            rcases q5 with ⟨e, -⟩ | ⟨-, e⟩
            · exact hp.2.2.2.2.2.2 (wrp pn) (wrp_lt pn) i hi (Ne.symm hne) b c (by rw [hw] at *; exact e) hc
            · have := (hp.2.2.2.2.2.1 i hi c hc).2.2; omega
          by_cases e : i = wrp pn
          · rw [if_pos e] at hc2; cases hc2
            have e2 : j ≠ wrp pn := fun w => hne (by rw [e, w])
            rw [if_neg e2] at hd2
            exact key j d hj e2 hd2
          · rw [if_neg e] at hc2
            by_cases e2 : j = wrp pn
            · rw [if_pos e2] at hd2; cases hd2
              have := key i c hi e hc2; omega
            · rw [if_neg e2] at hd2
              exact hp.2.2.2.2.2.2 i hi j hj hne c d hc2 hd2
        · have hq := q7 (c + j) (by omega)
          have hz0 := (Off.pI (A := fun q => q = 0) (H := H) Off.rf rfl 15 (nI 0)) (c + j) (by omega)
          exact ⟨hq.1.trans hz0.1, hq.2.1.trans hz0.2.1⟩)) (by exact And.intro rfl (And.intro rfl trivial))
end PB
