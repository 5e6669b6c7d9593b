/-! ===== the reference: a line, whole ===== -/
section MN5
variable {S : xS} {H H1 H2 H3 : xH} {bt : Nat → Nat} {ln k p q i j l m n c t d a its v ls D w K r : Nat} {s : uTk} {T T2 : uTx} {N NN : Nat → Nat → Nat} {rr : rLn}
theorem line_wq (hF : gFx S) (hK : 100 ≤ K) (hw : wQ S H1 H2 bt ln s NN rr) (hlo : LoQ H H1) (hls : hI H1 83 20 = nI ls) : Xq mX11_line K 0 0 411 [some (.ref 83), none, none, none, none] [] S H2 (fun R => ∃ H2, (lQ S H H2 bt ln s (NN) ls (linT s rr)) ∧ R = (none, S, H2)) := by
  obtain ⟨h1, h2⟩ := hw
  cases rr with
  | inl z => obtain ⟨c, m⟩ := z; exact line_tailF hF h2 (hlo.tr h1)
  | inr z => obtain ⟨m, T'⟩ := z; exact line_tail hF hK h2.1 (h2.2.trans hls) (hlo.tr h1)
theorem w_person (hF : gFx S) (hK : 100 ≤ K) (hl : LiP S H1 bt ln s N (n + 1) T) (hti : TiP T) (hfu : ¬ 6 ≤ tNp T) (hse : tSe T (tNp T) = 0) (hst : ∀ c, c < tNc T → ct (fun i => tHt T i == c) (tNp T) ≤ tSt T c) (hls : hI H1 83 20 = nI ls) (hlo : LoQ H H1) : Xq mX11_line K 0 0 96 [some (.ref 83), some (vN 1), none, none, none] [] S H1 (fun R => ∃ H2, (lQ S H H2 bt ln s (N) ls (linT s (perR s n T))) ∧ R = (none, S, H2)) := by
  refine xq_iload_n dX11_line_96 rfl rfl ?_
  refine xq_tableIn dX11_line_97 (by decide) (by decide) rfl rfl ?_
  refine xq_aload_n dX11_line_200 rfl rfl ?_
  refine xq_callV0N clX11 gd_X11_personLine dX11_line_201 ml_RX11_223 im_X11_personLine se_X11_personLine rfl (Fx.s83 hF) (by exact Nat.le_of_ble_eq_true rfl) (by omega) (m_personLine hF hl hti hfu hse hst) ?_
  intro H201 p201
  refine xq_goto dX11_line_204 rfl ?_
  exact xq_fgt (L' := [some (.ref 83), none, none, none, none]) (line_wq (rr := perR s n T) hF (by omega) p201 hlo hls) (by exact And.intro rfl trivial)
theorem w_sees (hF : gFx S) (hK : 100 ≤ K) (hl : LiP S H1 bt ln s N (n + 1) T) (hti : TiP T) (hls : hI H1 83 20 = nI ls) (hlo : LoQ H H1) : Xq mX11_line K 0 0 96 [some (.ref 83), some (vN 2), none, none, none] [] S H1 (fun R => ∃ H2, (lQ S H H2 bt ln s (N) ls (linT s (seeR s n T))) ∧ R = (none, S, H2)) := by
  refine xq_iload_n dX11_line_96 rfl rfl ?_
  refine xq_tableIn dX11_line_97 (by decide) (by decide) rfl rfl ?_
  refine xq_aload_n dX11_line_207 rfl rfl ?_
  refine xq_callV0N clX11 gd_X11_seesLine dX11_line_208 ml_RX11_226 im_X11_seesLine se_X11_seesLine rfl (Fx.s83 hF) (by exact Nat.le_of_ble_eq_true rfl) (by omega) (m_seesLine hF hl hti) ?_
  intro H208 p208
  refine xq_goto dX11_line_211 rfl ?_
  exact xq_fgt (L' := [some (.ref 83), none, none, none, none]) (line_wq (rr := seeR s n T) hF (by omega) p208 hlo hls) (by exact And.intro rfl trivial)
theorem w_law (hF : gFx S) (hK : 702 ≤ K) (hlaw : Nv mX11_lawLine 701 [.ref 83] S H1 (fun H2 => wQ S H1 H2 bt ln s NN rr)) (hls : hI H1 83 20 = nI ls) (hlo : LoQ H H1) : Xq mX11_line K 0 0 96 [some (.ref 83), some (vN 8), none, none, none] [] S H1 (fun R => ∃ H2, (lQ S H H2 bt ln s (NN) ls (linT s (rr))) ∧ R = (none, S, H2)) := by
  refine xq_iload_n dX11_line_96 rfl rfl ?_
  refine xq_tableOut dX11_line_97 (by decide) rfl ?_
  refine xq_aload_n dX11_line_407 rfl rfl ?_
  refine xq_callV0N clX11 gd_X11_lawLine dX11_line_408 ml_RX11_238 im_X11_lawLine se_X11_lawLine rfl (Fx.s83 hF) (by exact Nat.le_of_ble_eq_true rfl) (by omega) (hlaw) ?_
  intro H408 p408
  exact xq_fgt (L' := [some (.ref 83), none, none, none, none]) (line_wq (rr := rr) hF (by omega) p408 hlo hls) (by exact And.intro rfl trivial)
theorem linS_e {rr : rLn} (h : linR D s n T = rr) : linS D s n T = linT s rr := by rw [← h]; rfl
theorem lnN_n (h3 : kK s n ≠ 3) (h8 : kK s n ≠ 8) : lnN N s n T = N := (if_neg h3).trans (if_neg h8)
theorem lnN_3 (h3 : kK s n = 3) : lnN N s n T = nfN N (tNf T) (tNk T) := if_pos h3
theorem lnN_8 (h8 : kK s n = 8) : lnN N s n T = nlN N (kK s (n + 1) - 9) (tNk T) := (if_neg (by omega)).trans (if_pos h8)
theorem linR_0 (h : kK s n = 0) : linR D s n T = colR s n T := by unfold linR plnR; rw [if_neg (by omega), if_neg (by omega), if_pos h]
theorem linR_1 (h : kK s n = 1) : linR D s n T = perR s n T := by unfold linR plnR; rw [if_neg (by omega), if_neg (by omega), if_neg (by omega), if_pos h]
theorem linR_2 (h : kK s n = 2) : linR D s n T = seeR s n T := by unfold linR plnR; rw [if_neg (by omega), if_neg (by omega), if_neg (by omega), if_neg (by omega), if_pos h]
theorem linR_3 (h : kK s n = 3) : linR D s n T = facR D s n T := if_pos h
theorem linR_4 (h : kK s n = 4) : linR D s n T = telR s n T := by unfold linR plnR; rw [if_neg (by omega), if_neg (by omega), if_neg (by omega), if_neg (by omega), if_neg (by omega), if_pos h]
theorem linR_5 (h : kK s n = 5) : linR D s n T = askR s n T := by unfold linR plnR; rw [if_neg (by omega), if_neg (by omega), if_neg (by omega), if_neg (by omega), if_neg (by omega), if_neg (by omega), if_pos h]
theorem linR_6 (h : kK s n = 6) : linR D s n T = shyR s n T := by unfold linR plnR; rw [if_neg (by omega), if_neg (by omega), if_neg (by omega), if_neg (by omega), if_neg (by omega), if_neg (by omega), if_neg (by omega), if_pos h]
theorem linR_7 (h : kK s n = 7) : linR D s n T = sedR s n T := by unfold linR plnR; rw [if_neg (by omega), if_neg (by omega), if_neg (by omega), if_neg (by omega), if_neg (by omega), if_neg (by omega), if_neg (by omega), if_neg (by omega), if_pos h]
theorem linR_8 (h : kK s n = 8) : linR D s n T = lawR D s n T := (if_neg (by omega)).trans (if_pos h)
theorem linR_b (h : 8 < kK s n) : linR D s n T = .inl (1, n) := by unfold linR plnR; rw [if_neg (by omega), if_neg (by omega), if_neg (by omega), if_neg (by omega), if_neg (by omega), if_neg (by omega), if_neg (by omega), if_neg (by omega), if_neg (by omega)]
theorem linR_full (h : fulB T (kK s n) = true) : linR D s n T = .inl (2, n) := by
  rcases of_decide_eq_true h with ⟨e, f⟩ | ⟨e, f⟩ | ⟨e, f⟩ | ⟨e, f⟩ | ⟨e, f⟩
  · rw [linR_0 e]; exact if_pos (by omega)
  · rw [linR_1 e]; exact if_pos (by omega)
  · rw [linR_3 e]; exact if_pos (by omega)
  · rw [linR_4 e]; exact if_pos (by omega)
  · rw [linR_5 e]; exact if_pos (by omega)
theorem m_lawLine (hF : gFx S) (hl : LiP S H bt ln s N (n + 1) T) (hi : LnI T N) (hD : 701 ≤ D) : ∃ rr, linT s rr = linT s (lawR D s n T) ∧ Nv mX11_lawLine 701 [.ref 83] S H (fun H2 => wQ S H H2 bt ln s (nlN N (kK s (n + 1) - 9) (tNk T)) rr) := by
  by_cases hw : kK s (n + 1) ≠ 9 ∧ kK s (n + 1) ≠ 10
  · exact ⟨_, rfl, m_law_a hF hl hi.ti hD hw⟩
  · obtain ⟨l, hl2, hw⟩ : ∃ l, l < 2 ∧ kK s (n + 1) = 9 + l := ⟨kK s (n + 1) - 9, by omega, by omega⟩
    have el : kK s (n + 1) - 9 = l := by omega
    rw [el]
    by_cases ht : tLn T l = 0
    · cases e : rd s 8000 6 (rx0 (n + 2) T) with
      | inl z => obtain ⟨c, m⟩ := z; exact ⟨_, rfl, m_law_c hF hl hi.ti hD hw hl2 ht e⟩
      | inr y =>
        refine ⟨_, ?_, m_law_d hF hl hi.ti hD hw hl2 ht hi.fs e⟩
        rw [lawR_r hw hl2 ht hl.mt.ok hD (by have := hl.mt.js; omega) hi.ti.2.2.2.1 e]
        rfl
    · exact ⟨_, rfl, m_law_b hF hl hi.ti hD hw hl2 ht⟩
theorem tb_eq {x y j : Nat} (hj : j < 32) (h : nI x = nI y) : x.testBit j = y.testBit j := by
  have e : x % 2 ^ 32 = y % 2 ^ 32 := by
    have h2 := congrArg (fun z => z.toBitVec.toNat) h
    have h2 : (BitVec.ofNat 32 x).toNat = (BitVec.ofNat 32 y).toNat := h2
    rwa [BitVec.toNat_ofNat, BitVec.toNat_ofNat] at h2
  have e1 := Nat.testBit_mod_two_pow x 32 j
  have e2 := Nat.testBit_mod_two_pow y 32 j
  rw [decide_eq_true hj, Bool.true_and] at e1 e2
  rw [← e1, ← e2, e]
theorem m_line (hF : gFx S) (hl : LiP S H bt ln s N n T) (hi : LnI T N) (hD : 701 ≤ D) (hls : hI H 83 20 = nI ls) : Nv mX11_line 702 [.ref 83] S H (fun H2 => lQ S H H2 bt ln s (lnN N s n T) ls (linS D s n T)) := by
  have hti := hi.ti
  refine vq_intro (by decide) (by exact Nat.le_of_ble_eq_true rfl) rfl ?_
  by_cases h8 : 8 < kK s n
  · rw [show linS D s n T = .inl (1, n) from linS_e (linR_b h8)]
    exact line_bad (N := N) (ls := ls) hF (by decide) hl hti h8
  have hw : kK s n ≤ 8 := by omega
  cases hfu : fulB T (kK s n) with
  | true =>
    rw [show linS D s n T = .inl (2, n) from linS_e (linR_full hfu)]
    exact line_full (N := N) (ls := ls) hF (by decide) hl hti rfl hw hfu
  | false =>
    obtain ⟨v0, c1, c2, c3, c4, c5, c6⟩ := hl.tol
    by_cases hag : (kK s n = 6 ∧ tSh T ≠ 0) ∨ (kK s n = 7 ∧ tSd T ≠ 0)
    · have e : linS D s n T = .inl (3, n) := by
        rcases hag with ⟨e, f⟩ | ⟨e, f⟩
        · exact linS_e ((linR_6 e).trans (if_pos f))
        · exact linS_e ((linR_7 e).trans (if_pos f))
      rw [e]
      exact line_again (N := N) (ls := ls) (i := v0) hF (by decide) hl hti rfl (by omega) hfu c1 (by
        rcases hag with ⟨e, f⟩ | ⟨e, f⟩
        · rw [e, c3]; exact decide_eq_true f
        · rw [e, c4]; exact decide_eq_true f) c2
    · refine line_head (N := N) hF (by decide) hl hti rfl hw hfu (fun v hv h67 => ?_) (fun H1 v g1 b1 bb mo t19 => ?_)
      · rw [tb_eq (x := v) (y := v0) (by omega) (hv.symm.trans c1)]
        rcases h67 with e | e
        · rw [e, c3]; exact decide_eq_false (fun z => hag (Or.inl ⟨e, z⟩))
        · rw [e, c4]; exact decide_eq_false (fun z => hag (Or.inr ⟨e, z⟩))
      have hfl : ¬ ((kK s n = 0 ∧ tNc T = 3) ∨ (kK s n = 1 ∧ tNp T = 6) ∨ (kK s n = 3 ∧ tNf T = 8) ∨ (kK s n = 4 ∧ tNt T = 12) ∨ (kK s n = 5 ∧ tNa T = 12)) := of_decide_eq_false hfu
      obtain ⟨z1, z2, z3, z4, z5, z6, z7, z8, z9, z10, z11⟩ := hi.ti
      have hq : kK s n = 0 ∨ kK s n = 1 ∨ kK s n = 2 ∨ kK s n = 3 ∨ kK s n = 4 ∨ kK s n = 5 ∨ kK s n = 6 ∨ kK s n = 7 ∨ kK s n = 8 := by omega
      rcases hq with e | e | e | e | e | e | e | e | e
      · rw [e] at t19 ⊢
        obtain ⟨hl1, lo1, l20⟩ := li_head (w := 0) hl g1 b1 bb mo t19 (by decide) (by decide) (by decide)
        rw [lnN_n (by omega) (by omega), linS_e (linR_0 e)]
        exact w_colour hF (by decide) hl1 hti (l20.trans hls) lo1 (by omega)
      · rw [e] at t19 ⊢
        obtain ⟨hl1, lo1, l20⟩ := li_head (w := 1) hl g1 b1 bb mo t19 (by decide) (by decide) (by decide)
        rw [lnN_n (by omega) (by omega), linS_e (linR_1 e)]
        exact w_person hF (by decide) hl1 hti (by omega) (hi.2.2.2.1.1 _ (Nat.le_refl _)) hi.ht.2.1 (l20.trans hls) lo1
      · rw [e] at t19 ⊢
        obtain ⟨hl1, lo1, l20⟩ := li_head (w := 2) hl g1 b1 bb mo t19 (by decide) (by decide) (by decide)
        rw [lnN_n (by omega) (by omega), linS_e (linR_2 e)]
        exact w_sees hF (by decide) hl1 hti (l20.trans hls) lo1
      · rw [e] at t19 ⊢
        obtain ⟨hl1, lo1, l20⟩ := li_head (w := 3) hl g1 b1 bb mo t19 (by decide) (by decide) (by decide)
        rw [lnN_3 e, linS_e (linR_3 e)]
        exact w_fact hF (by decide) hl1 hti hD (by have := hl1.mt.js; omega) (l20.trans hls) lo1 (by omega)
      · rw [e] at t19 ⊢
        obtain ⟨hl1, lo1, l20⟩ := li_head (w := 4) hl g1 b1 bb mo t19 (by decide) (by decide) (by decide)
        rw [lnN_n (by omega) (by omega), linS_e (linR_4 e)]
        exact w_tell hF (by decide) hl1 hti (l20.trans hls) lo1 (by omega)
      · rw [e] at t19 ⊢
        obtain ⟨hl1, lo1, l20⟩ := li_head (w := 5) hl g1 b1 bb mo t19 (by decide) (by decide) (by decide)
        rw [lnN_n (by omega) (by omega), linS_e (linR_5 e)]
        exact w_ask hF (by decide) hl1 hti (l20.trans hls) lo1 (by omega)
      · rw [e] at t19 ⊢
        rw [lnN_n (by omega) (by omega), linS_e (linR_6 e)]
        obtain ⟨v2, s1, s2⟩ := hl.srs
        exact w_shy (v := v ||| 1 <<< 6) hF (by decide) g1 (hl.mx.off mo.1 (fun q h1 h2 z => by omega)) ((mo.2 26 (by omega)).trans hl.f26) ((mo.2 30 (by omega)).trans hl.f30) ((mo.2 31 (by omega)).trans hl.f31) ⟨v2, (mo.1.I (by omega) 17).trans s1, s2⟩ t19 (or_18 bb.1 (by decide)) tb_or2 (by rw [tb_or1 (by decide)]; exact bb.2.2.1) (by rw [tb_or1 (by decide)]; exact bb.2.2.2.1) (by rw [tb_or1 (by decide)]; exact bb.2.2.2.2) ((mo.2 20 (by omega)).trans hls) (LoQ.of mo (fun k hk => by omega)) (fun z => hag (Or.inl ⟨e, z⟩))
      · rw [e] at t19 ⊢
        rw [lnN_n (by omega) (by omega), linS_e (linR_7 e)]
        obtain ⟨v2, s1, s2⟩ := hl.srs
        exact w_seed (v := v ||| 1 <<< 7) hF (by decide) g1 (hl.mx.off mo.1 (fun q h1 h2 z => by omega)) ((mo.2 26 (by omega)).trans hl.f26) ((mo.2 30 (by omega)).trans hl.f30) ((mo.2 31 (by omega)).trans hl.f31) ⟨v2, (mo.1.I (by omega) 17).trans s1, s2⟩ t19 (or_18 bb.1 (by decide)) tb_or2 (by rw [tb_or1 (by decide)]; exact bb.2.1) (by rw [tb_or1 (by decide)]; exact bb.2.2.2.1) (by rw [tb_or1 (by decide)]; exact bb.2.2.2.2) ((mo.2 20 (by omega)).trans hls) (LoQ.of mo (fun k hk => by omega)) (fun z => hag (Or.inr ⟨e, z⟩))
      · rw [e] at t19 ⊢
        obtain ⟨hl1, lo1, l20⟩ := li_head (w := 8) hl g1 b1 bb mo t19 (by decide) (by decide) (by decide)
        obtain ⟨rr, hr1, hr2⟩ := m_lawLine (D := D) hF hl1 hi hD
        rw [lnN_8 e, linS_e (linR_8 e), ← hr1]
        exact w_law hF (by decide) hr2 (l20.trans hls) lo1
end MN5
