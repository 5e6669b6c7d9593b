/-! ===== the law: a person, its loop ===== -/
section LWP
variable {M : xM} {k k' b1 b2 c1 c2 i j Ls pc x y : Nat} {xs : Nat → Int32} {S S1 : xS} {H H1 H2 : xH} {Q : xR → Prop} {w w2 : Int32} {L : List (Option Value)} {st : List Value}
variable {n t sp z z1 pn ps p l q : Nat} {T : uTx} {u ui : uSt} {LU : Nat → uSt} {img : Bool} {b : Nat → Nat} {fa fp : Int32} {A : Nat → Option Nat} {N : Nat → Nat → Nat} {lf lfi : Nat → Bool} {LF : Nat → Nat → Bool} {AA : Nat → Prop}
theorem xq_callSW {As rest : List Value} {r : Option Value} (d : decode (mC M) pc = .ok (.invokestatic j, 3)) (hl : Cond.methodLink (mY M).cls j yL_person ∈ lw_g) (hi : Cond.static yL_person ∈ lw_g) (hn : As.length = 4) (hst : st = As.reverse ++ rest) (hW : (rest.map fun v => v.category).sum ≤ 8) (hk : k' < k)
    (hE : EvP k' c1 c2 As S H (r, S1, H1)) (kk : Xq M k b1 b2 (pc + 3) L (r.toList ++ rest) S1 H1 Q) : Xq M k (b1 + c1) (b2 + c2) pc L st S H Q := by
  obtain ⟨R, e, h⟩ := kk
  exact ⟨R, e, ex_callSW d hl hi hn hst hW hk hE h⟩
theorem KlI.ex (h : KlI S H T u ps LU img ui n b fa fp t sp z pn A) (hS : SEx S S1) : KlI S1 H T u ps LU img ui n b fa fp t sp z pn A := by
  obtain ⟨⟨r1, r2⟩, h2, h3, ⟨p1, p2, p3, p4, p5, p6, p7⟩, h5⟩ := h
  exact ⟨⟨hS.fx r1, r2⟩, h2, h3, ⟨p1, p2, p3, p4, p5, fun i hi b e => ⟨hS.gst (p6 i hi b e).2.2 (p6 i hi b e).1, (p6 i hi b e).2.1, Nat.le_trans (p6 i hi b e).2.2 hS.1⟩, p7⟩, h5⟩
theorem sex_j (hz : fZ S + 5 ≤ 5000000) : SEx S (nS S (0, 0)) := ⟨Nat.le_succ _, fun q hq => ⟨if_neg (show ¬ q = S.2.2 by have : fZ S = S.2.2 := rfl; omega), fun k => if_neg (show ¬ q = S.2.2 by have : fZ S = S.2.2 := rfl; omega)⟩, by show S.2.2 + 1 ≤ S.2.2 + 5; omega⟩
/-- the law's own array is written -/
theorem KlI.out (h : KlI S H T u ps LU img ui n b fa fp t sp z pn A) (hs : fS S 119 = (4, 1)) (ho : Off (fun q => q = 119) H H1) : KlI S H1 T u ps LU img ui n b fa fp t sp z pn A := by
  have hp := h.2.2.2.1
  obtain ⟨⟨r1, r2, r3, r4, r5, r6, r7, r8, r9, r10, r11, r12, r13⟩, h2, h3, h4, h5, h6, h7, h8, h9, h10, h11, h12⟩ := h
  refine ⟨⟨r1, r2, (ho.R (by omega) 6).trans r3, r4.off ho (fun j hj => by omega), r5, r6.off ho (fun j hj => by omega), r7, r8, r9.off ho (by omega) (by omega), r10, r11, r12, r13⟩, (ho.R (by omega) 7).trans h2, h3, h4.off ho (by omega) (by omega), fun j hj => ?_, (ho.I (by omega) 12).trans h6, fun e => ⟨(h7 e).1.off ho (fun j hj => by omega), (h7 e).2⟩, ⟨(ho.I (by omega) 1).trans h8.1, fun j hj => (ho.I (by omega) j).trans (h8.2 j hj)⟩, fun w hw => (ho.I (by omega) w).trans (h9 w hw), h10.imp (fun lt e => (ho.I (by omega) 6).trans e), (ho.I (by omega) 7).trans h11, (ho.I (by omega) 8).trans h12⟩
  obtain ⟨a, a1, a2, a3⟩ := h5 j hj
  obtain ⟨g1, g2, g3⟩ := hp.2.2.2.2.2.1 _ (Nat.mod_lt _ (by decide)) a a1
  have hne : a ≠ 119 := fun e => by
    have g0 := g1.1
    rw [e, hs] at g0
    cases g0
  exact ⟨a, a1, a2.off ho (fun j hj => by omega), a3⟩
theorem gi_q (hs : ScL Ls xs S H) (hZ : fZ S ≤ 120 + 5 * (i + 1)) (hk : KlI S H T u ps LU img ui n b fa fp t sp z pn A) (hm : MoI S H T u ps LU img ui n b fa fp N lf LF lfi) (hp : PuI i T u ps LU img ui n b) (hz : z ≤ 60000 * i) (ho2 : TrF (fun k => k = 0 ∨ k = 34 ∨ k = 48 ∨ k = 56) H H2) : GI Ls xs (i + 1) S H2 :=
  ⟨hs.off ho2.2.1 (by omega), hZ, T, u, ps, LU, img, ui, n, b, fa, fp, t, sp, z, pn, A, N, lf, LF, lfi, hk.off ho2.2.1 (fun q z => by omega), hm.q ho2, hp.s, by omega⟩
theorem lc_ptail (hs : ScL Ls xs S H) (hi : i < 512) (hl : 6 * i + 6 ≤ Ls) (h3 : Ls ≤ 3072) (hx : x < 3) (hP : Vq mX11_person 5 0 0 [.ref 83, .int (xs (6 * i + 1)), .int (xs (6 * i + 2))] S H (fun R => ∃ H2 y, R = (some (vN y), S, H2) ∧ hI H2 83 0 = nI x ∧ (x = 0 → hL H2 119 0 = (nI y).toInt64) ∧ GI Ls xs (i + 1) S H2))
    (kk : ∀ S1 H1, GI Ls xs (i + 1) S1 H1 → Xq mL_law 704 b1 b2 1295 (lL i) [] S1 H1 Q) : Xq mL_law 704 b1 b2 373 (lL i) [vN x] S H Q := by
  refine xq_istore dL_law_373 rfl ?_
  refine xq_aload_n dL_law_375 rfl rfl ?_
  refine xq_sload_n dL_law_376 rfl rfl ?_
  refine xq_iload dL_law_377 rfl ?_
  refine xq_iconst dL_law_379 ic1 ?_
  refine xq_iaddN dL_law_380 ?_
  refine xq_sald dL_law_381 hs.2.2.1 (by omega) (by omega) (hs.2.2.2.2 (6 * i + 1) (by omega)) ?_
  refine xq_sload_n dL_law_382 rfl rfl ?_
  refine xq_iload dL_law_383 rfl ?_
  refine xq_iconst dL_law_385 ic2 ?_
  refine xq_iaddN dL_law_386 ?_
  refine xq_sald dL_law_387 hs.2.2.1 (by omega) (by omega) (hs.2.2.2.2 (6 * i + 2) (by omega)) ?_
  refine xq_bud (b1 := b1 + 0) (b2 := b2 + 0) ?_ (Nat.le_refl _) (Nat.le_refl _)
  refine xq_callV2G clX11 gd_X11_person dL_law_388 ml_RL_44 im_X11_person se_X11_person rfl (Fx.s83 hs.1) (by exact Nat.le_of_ble_eq_true rfl) (by decide) hP ?_
  rintro r S1 H1 ⟨H2, y, e, h0, hL0, g4⟩
  cases e
  refine xq_istore dL_law_391 rfl ?_
  refine xq_aload_n dL_law_393 rfl rfl ?_
  refine xq_callV0H clX11 gd_X11_thrown dL_law_394 ml_RL_45 im_X11_thrown se_X11_thrown rfl (Fx.s83 hs.1) (by exact Nat.le_of_ble_eq_true rfl) (by decide) (m_thrown hs.1 h0) ?_
  rintro z9 H3 ⟨e1, e2⟩
  rw [e1, e2]
  refine xq_iload dL_law_397 rfl ?_
  refine xq_icmp_eq dL_law_399 rfl ⟨fun _ => ?_, fun h => absurd rfl h⟩
  refine xq_iload dL_law_404 rfl ?_
  refine xq_if_neN dL_law_406 rfl (by omega) ⟨fun h406 => ?_, fun h406 => ?_⟩
  · refine xq_goto dL_law_421 rfl ?_
    exact xq_fgt (L' := lL i) (kk _ _ g4) (by exact ⟨rfl, rfl, rfl, rfl, rfl, trivial⟩)
  · refine xq_aload_n dL_law_409 rfl rfl ?_
    refine xq_iconst dL_law_410 ic0 ?_
    refine xq_laldN dL_law_411 hs.2.1 (by omega) (by decide) (hL0 (by omega)) ?_
    refine xq_iload dL_law_412 rfl ?_
    refine xq_i2l dL_law_414 ?_
    refine xq_lcmp dL_law_415 ?_
    refine xq_if_eq dL_law_416 rfl ⟨fun _ => ?_, fun h => absurd (lcmp_z _) h⟩
    refine xq_goto dL_law_421 rfl ?_
    exact xq_fgt (L' := lL i) (kk _ _ g4) (by exact ⟨rfl, rfl, rfl, rfl, rfl, trivial⟩)
theorem lc_person (g : GI Ls xs i S H) (hi : i < 512) (hl : 6 * i + 6 ≤ Ls) (h3 : Ls ≤ 3072) (kk : ∀ S1 H1, GI Ls xs (i + 1) S1 H1 → Xq mL_law 704 b1 b2 1295 (lL i) [] S1 H1 Q) : Xq mL_law 704 (b1 + 5) (b2 + 764) 356 (lL i) [] S H Q := by
  have hs0 := g.1
  obtain ⟨hs, hZ, T, u, ps, LU, img, ui, n, b, fa, fp, t, sp, z, pn, A, N, lf, LF, lfi, hk, hm, hp, hz⟩ := g
  have hr := hk.1
  have go : ∀ (c1 c2 x : Nat) (S1 : xS) (H1 : xH), c1 ≤ 5 → c2 ≤ 764 → x < 3 → ScL Ls xs S1 H1 → EvP 9 c1 c2 [.ref 0, .int (xs (6 * i + 1)), .int (xs (6 * i + 2)), .ref 119] S H (some (vN x), S1, H1) → Vq mX11_person 5 0 0 [.ref 83, .int (xs (6 * i + 1)), .int (xs (6 * i + 2))] S1 H1 (fun R => ∃ H2 y, R = (some (vN y), S1, H2) ∧ hI H2 83 0 = nI x ∧ (x = 0 → hL H2 119 0 = (nI y).toInt64) ∧ GI Ls xs (i + 1) S1 H2) → Xq mL_law 704 (b1 + 5) (b2 + 764) 356 (lL i) [] S H Q := by
    intro c1 c2 x S1 H1 q1 q2 hx hs1 hE hP
    refine xq_bud (b1 := b1 + c1) (b2 := b2 + c2) ?_ (by omega) (by omega)
    refine xq_aload_n dL_law_356 rfl rfl ?_
    refine xq_sload_n dL_law_357 rfl rfl ?_
    refine xq_iload dL_law_358 rfl ?_
    refine xq_iconst dL_law_360 ic1 ?_
    refine xq_iaddN dL_law_361 ?_
    refine xq_sald dL_law_362 hs.2.2.1 (by omega) (by omega) (hs.2.2.2.2 (6 * i + 1) (by omega)) ?_
    refine xq_sload_n dL_law_363 rfl rfl ?_
    refine xq_iload dL_law_364 rfl ?_
    refine xq_iconst dL_law_366 ic2 ?_
    refine xq_iaddN dL_law_367 ?_
    refine xq_sald dL_law_368 hs.2.2.1 (by omega) (by omega) (hs.2.2.2.2 (6 * i + 2) (by omega)) ?_
    refine xq_aload_n dL_law_369 rfl rfl ?_
    refine xq_callSW (As := [.ref 0, .int (xs (6 * i + 1)), .int (xs (6 * i + 2)), .ref 119]) (rest := []) dL_law_370 ml_RL_39 (lw_gin 1167 (by decide +kernel) (by decide +kernel)) rfl rfl (by exact Nat.le_of_ble_eq_true rfl) (by decide) hE ?_
    exact lc_ptail hs1 hi hl h3 hx hP kk
  have hS : SEx S (nS S (0, 0)) := sex_j (by omega)
  have hsJ : ScL Ls xs (nS S (0, 0)) H := hs.ex hS (by omega)
  have hkJ := hk.ex hS
  have hmJ : MoI (nS S (0, 0)) H T u ps LU img ui n b fa fp N lf LF lfi := hm.off hsJ.1 (Off.rf (A := fun _ => False)) (fun q z => False.elim z)
  have hZJ : fZ (nS S (0, 0)) ≤ 120 + 5 * (i + 1) := by have := hS.2.2; omega
  by_cases hno : hasB (xs (6 * i + 1)) (tNp T) = false
  · refine go 1 6 1 _ H (by decide) (by decide) (by decide) hsJ (L_person_io hr hno 119) (vq_mo (m_person0 hmJ.1 hno) (fun R ⟨y, H2, ⟨q1, q2, q3⟩, e⟩ => ⟨H2, y, e, q2, (fun z => by cases z), gi_q hsJ hZJ hkJ hmJ hp hz (TrF.of q3)⟩))
  · have hyes : hasB (xs (6 * i + 1)) (tNp T) = true := by simpa using hno
    obtain ⟨p, hp9, e1⟩ := hasB_k hyes
    by_cases h2 : xs (6 * i + 2) < 0 ∨ nI 5 < xs (6 * i + 2)
    · have h2i : (xs (6 * i + 2)).toInt < 0 ∨ 5 < (xs (6 * i + 2)).toInt := h2.imp (fun e => Int32.lt_iff_toInt_lt.mp e) (fun e => by have h9 := Int32.lt_iff_toInt_lt.mp e; rw [nI_toInt (by decide)] at h9; omega)
      refine go 1 6 2 _ H (by decide) (by decide) (by decide) hsJ (L_person_ns hr hyes h2i 119) ?_
      rw [e1]
      exact vq_mo (m_person2 hmJ.1 hp9 h2) (fun R ⟨y, H2, ⟨q1, q2, q3⟩, e⟩ => ⟨H2, y, e, q2, (fun z => by cases z), gi_q hsJ hZJ hkJ hmJ hp hz (TrF.of q3)⟩)
    · obtain ⟨l, hl2, e2⟩ := le_n (fun e => h2 (Or.inl e)) (by decide) (fun e => h2 (Or.inr e))
      have hl6 : l < 6 := hl2
      have ho : Off (fun q => q = 119) H (sL H 119 0 (nI (perV T u p l)).toInt64) := Off.pL (A := fun q => q = 119) Off.rf rfl _ _
      have hs1 := hs.off ho (by omega)
      have hk1 := hk.out hs.2.1 ho
      have hm1 := hm.off hs.1 ho (fun q z => by omega)
      refine go 0 0 0 S _ (by decide) (by decide) (by decide) hs1 (by rw [e1, e2]; exact L_person1 hs.1 hs.2.1 (c_person1 hr hp9 hl6)) ?_
      rw [e1, e2]
      refine vq_mo (m_person1 hm1.1 hp9 hl6) (fun R ⟨y, H2, ⟨q1, q2, q3⟩, e⟩ => ⟨H2, y, e, q2, fun _ => ?_, gi_q hs1 (by omega) hk1 hm1 hp hz (TrF.of q3)⟩)
      rw [q3.1.L (by omega), q1]
      rw [hL_sL, if_pos ⟨rfl, rfl⟩]
theorem lw_sub (a b : Nat) : nI a - nI b = zI ((a : Int) - b) := by
  show Int32.ofInt a - Int32.ofInt b = Int32.ofInt (a - b)
  rw [← Int32.ofInt_sub]
theorem lw_gt {a b : Nat} (ha : a < 1000000) (hb : b < 1000000) : zI ((b : Int) - (6 : Nat)) < nI a ↔ b < a + 6 := by
  rw [← zI_n a, Int32.lt_iff_toInt_lt, zI_toInt (by omega) (by omega), zI_toInt (by omega) (by omega)]
  omega
theorem i63 (x : Int32) : ∃ k, k < 64 ∧ x &&& nI 63 = nI k := by
  refine ⟨(x.toBitVec &&& 63#32).toNat, ?_, ?_⟩
  · rw [BitVec.toNat_and]
    have : x.toBitVec.toNat &&& 63 ≤ 63 := Nat.and_le_right
    exact Nat.lt_succ_of_le this
  · apply Int32.toBitVec_inj.mp
    show x.toBitVec &&& 63#32 = BitVec.ofNat 32 (x.toBitVec &&& 63#32).toNat
    rw [BitVec.ofNat_toNat, BitVec.setWidth_eq]
theorem GI.s (g : GI Ls xs i S H) (hz : fZ S ≤ 120 + 5 * (i + 1)) : GI Ls xs (i + 1) S H := by
  obtain ⟨hs, hZ, T, u, ps, LU, img, ui, n, b, fa, fp, t, sp, z, pn, A, N, lf, LF, lfi, hk, hm, hp, hz⟩ := g
  exact ⟨hs, by omega, T, u, ps, LU, img, ui, n, b, fa, fp, t, sp, z, pn, A, N, lf, LF, lfi, hk, hm, hp.s, by omega⟩
theorem lw_round (g : GI Ls xs i S H) (hi : i < 512) (hl : 6 * i + 6 ≤ Ls) (h3 : Ls ≤ 3072) (k0 : ∀ S1 H1, GI Ls xs (i + 1) S1 H1 → Xq mL_law 704 b1 b2 23 (lL (i + 1)) [] S1 H1 Q) : Xq mL_law 704 (b1 + 5) (b2 + 764) 33 (lL i) [] S H Q := by
  have kk : ∀ S1 H1, GI Ls xs (i + 1) S1 H1 → Xq mL_law 704 b1 b2 1295 (lL i) [] S1 H1 Q := fun S1 H1 g1 => by
    refine xq_iincN (m := 6) dL_law_1295 rfl rfl rfl ?_
    refine xq_goto dL_law_1298 rfl ?_
    exact k0 S1 H1 g1
  have hs := g.1
  refine xq_sload_n dL_law_33 rfl rfl ?_
  refine xq_iload dL_law_34 rfl ?_
  refine xq_sald dL_law_36 hs.2.2.1 (by omega) (by omega) (hs.2.2.2.2 (6 * i) (by omega)) ?_
  refine xq_bipush dL_law_37 bp63 ?_
  refine xq_iand dL_law_39 ?_
  obtain ⟨c, hc, e⟩ := i63 (xs (6 * i))
  rw [e]
  by_cases h34 : 0 ≤ c ∧ c ≤ 34
  · have hq : c = 0 ∨ c = 1 ∨ c = 2 ∨ c = 3 ∨ c = 4 ∨ c = 5 ∨ c = 6 ∨ c = 7 ∨ c = 8 ∨ c = 9 ∨ c = 10 ∨ c = 11 ∨ c = 12 ∨ c = 13 ∨ c = 14 ∨ c = 15 ∨ c = 16 ∨ c = 17 ∨ c = 18 ∨ c = 19 ∨ c = 20 ∨ c = 21 ∨ c = 22 ∨ c = 23 ∨ c = 24 ∨ c = 25 ∨ c = 26 ∨ c = 27 ∨ c = 28 ∨ c = 29 ∨ c = 30 ∨ c = 31 ∨ c = 32 ∨ c = 33 ∨ c = 34 := by omega
    rcases hq with rfl | rfl | rfl | rfl | rfl | rfl | rfl | rfl | rfl | rfl | rfl | rfl | rfl | rfl | rfl | rfl | rfl | rfl | rfl | rfl | rfl | rfl | rfl | rfl | rfl | rfl | rfl | rfl | rfl | rfl | rfl | rfl | rfl | rfl | rfl
    · refine xq_tableIn dL_law_40 (by decide) (by decide) rfl rfl ?_
      exact lc_feed g hi hl h3 kk
    · refine xq_tableIn dL_law_40 (by decide) (by decide) rfl rfl ?_
      exact lc_text g hi hl h3 kk
    · refine xq_tableIn dL_law_40 (by decide) (by decide) rfl rfl ?_
      exact lc_fault g hi hl h3 kk
    · refine xq_tableIn dL_law_40 (by decide) (by decide) rfl rfl ?_
      exact lc_named g hi hl h3 kk
    · refine xq_tableIn dL_law_40 (by decide) (by decide) rfl rfl ?_
      exact lc_person g hi hl h3 kk
    · refine xq_tableIn dL_law_40 (by decide) (by decide) rfl rfl ?_
      exact lc_own g hi hl h3 kk
    · refine xq_tableIn dL_law_40 (by decide) (by decide) rfl rfl ?_
      exact lc_world g hi hl h3 kk
    · refine xq_tableIn dL_law_40 (by decide) (by decide) rfl rfl ?_
      exact lc_real g hi hl h3 kk
    · refine xq_tableIn dL_law_40 (by decide) (by decide) rfl rfl ?_
      exact lc_is g hi hl h3 kk
    · refine xq_tableIn dL_law_40 (by decide) (by decide) rfl rfl ?_
      exact lc_sure g hi hl h3 kk
    · refine xq_tableIn dL_law_40 (by decide) (by decide) rfl rfl ?_
      exact lc_common g hi hl h3 kk
    · refine xq_tableIn dL_law_40 (by decide) (by decide) rfl rfl ?_
      exact lc_depth g hi hl h3 kk
    · refine xq_tableIn dL_law_40 (by decide) (by decide) rfl rfl ?_
      exact lc_law g hi hl h3 kk
    · refine xq_tableIn dL_law_40 (by decide) (by decide) rfl rfl ?_
      exact lc_tell g hi hl h3 kk
    · refine xq_tableIn dL_law_40 (by decide) (by decide) rfl rfl ?_
      exact lc_ask g hi hl h3 kk
    · refine xq_tableIn dL_law_40 (by decide) (by decide) rfl rfl ?_
      exact lc_peep g hi hl h3 kk
    · refine xq_tableIn dL_law_40 (by decide) (by decide) rfl rfl ?_
      exact lc_go g hi hl h3 kk
    · refine xq_tableIn dL_law_40 (by decide) (by decide) rfl rfl ?_
      exact lc_ahead g hi hl h3 kk
    · refine xq_tableIn dL_law_40 (by decide) (by decide) rfl rfl ?_
      exact lc_willKnow g hi hl h3 kk
    · refine xq_tableIn dL_law_40 (by decide) (by decide) rfl rfl ?_
      exact lc_parts g hi hl h3 kk
    · refine xq_tableIn dL_law_40 (by decide) (by decide) rfl rfl ?_
      exact lc_rounds g hi hl h3 kk
    · refine xq_tableIn dL_law_40 (by decide) (by decide) rfl rfl ?_
      exact lc_teach g hi hl h3 kk
    · refine xq_tableIn dL_law_40 (by decide) (by decide) rfl rfl ?_
      exact lc_teachAll g hi hl h3 kk
    · refine xq_tableIn dL_law_40 (by decide) (by decide) rfl rfl ?_
      exact lc_look g hi hl h3 kk
    · refine xq_tableIn dL_law_40 (by decide) (by decide) rfl rfl ?_
      exact lc_guess g hi hl h3 kk
    · refine xq_tableIn dL_law_40 (by decide) (by decide) rfl rfl ?_
      exact lc_likely g hi hl h3 kk
    · refine xq_tableIn dL_law_40 (by decide) (by decide) rfl rfl ?_
      exact lc_secret g hi hl h3 kk
    · refine xq_tableIn dL_law_40 (by decide) (by decide) rfl rfl ?_
      exact lc_rests g hi hl h3 kk
    · refine xq_tableIn dL_law_40 (by decide) (by decide) rfl rfl ?_
      exact lc_rest g hi hl h3 kk
    · refine xq_tableIn dL_law_40 (by decide) (by decide) rfl rfl ?_
      exact lc_chance g hi hl h3 kk
    · refine xq_tableIn dL_law_40 (by decide) (by decide) rfl rfl ?_
      exact lc_tried g hi hl h3 kk
    · refine xq_tableIn dL_law_40 (by decide) (by decide) rfl rfl ?_
      exact lc_undo g hi hl h3 kk
    · refine xq_tableIn dL_law_40 (by decide) (by decide) rfl rfl ?_
      exact lc_keep g hi hl h3 kk
    · refine xq_tableIn dL_law_40 (by decide) (by decide) rfl rfl ?_
      exact lc_back g hi hl h3 kk
    · refine xq_tableIn dL_law_40 (by decide) (by decide) rfl rfl ?_
      exact lc_count g hi hl h3 kk
  · refine xq_tableOut dL_law_40 (swOut 0 34 h34 (by omega)) rfl ?_
    exact xq_bud (kk S H (g.s (by have := g.2.1; omega))) (by omega) (by omega)
theorem lw_loop (h3 : Ls ≤ 3072) (hQ : ∀ S1 H1, Q (some (.int 1), S1, H1)) : ∀ (m : Nat) {i : Nat} {S : xS} {H : xH}, i + m = 512 → GI Ls xs i S H → Xq mL_law 704 (b1 + 5 * m) (b2 + 764 * m) 23 (lL i) [] S H Q := by
  intro m
  induction m with
  | zero =>
    intro i S H e g
    have hs := g.1
    refine xq_iload dL_law_23 rfl ?_
    refine xq_sload_n dL_law_25 rfl rfl ?_
    refine xq_slen (v := nI Ls) dL_law_26 hs.2.2.1 rfl ?_
    refine xq_bipush dL_law_27 bp6 ?_
    refine xq_isub dL_law_29 ?_
    rw [lw_sub Ls 6]
    refine xq_icmp_gt dL_law_30 rfl ⟨fun _ => ?_, fun h => absurd ((lw_gt (by omega) (by omega)).mpr (by omega)) h⟩
    refine xq_iconst dL_law_1301 ic1 ?_
    exact xq_zret dL_law_1302 rfl (Or.inr rfl) (hQ _ _)
  | succ m ih =>
    intro i S H e g
    have hs := g.1
    refine xq_iload dL_law_23 rfl ?_
    refine xq_sload_n dL_law_25 rfl rfl ?_
    refine xq_slen (v := nI Ls) dL_law_26 hs.2.2.1 rfl ?_
    refine xq_bipush dL_law_27 bp6 ?_
    refine xq_isub dL_law_29 ?_
    rw [lw_sub Ls 6]
    refine xq_icmp_gt dL_law_30 rfl ⟨fun _ => ?_, fun h => ?_⟩
    · refine xq_iconst dL_law_1301 ic1 ?_
      exact xq_zret dL_law_1302 rfl (Or.inr rfl) (hQ _ _)
    · have hl : 6 * i + 6 ≤ Ls := by
        exact Nat.le_of_not_lt (fun z => h ((lw_gt (a := 6 * i) (b := Ls) (by omega) (by omega)).mpr z))
      exact xq_bud (lw_round g (by omega) hl h3 (fun S1 H1 g1 => ih (by omega) g1)) (by omega) (by omega)
end LWP
