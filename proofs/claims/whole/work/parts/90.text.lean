/-! ===== HatRoom: text ===== -/
section TE
variable {S : xS} {H H1 H2 : xH} {k p q i j l m n n0 c t sp D E : Nat} {s : uTk} {b : Nat → Nat} {w : Int32} {T : uTx}
theorem c_scan2 (hF : gFx S) (hn : n ≤ 700) (hby0 : ∀ j, j < n → b j < 256) (hta : ∀ j, j < n → hI H 1 j = sby (b j)) (hwd : WdP H) (hlt : hI H 2 6 = nI q) : Nv mX9_scan 2 [.ref 2, .ref 1, vN n] S H (fun H' => TrP H' (scF b q n) 0 ∧ hI H' 2 7 = nI 0 ∧ hI H' 2 8 = -1 ∧ Off (fun q => q = 2 ∨ (4 ≤ q ∧ q < 7)) H H') := by
  refine vq_intro (by decide) (by exact Nat.le_of_ble_eq_true rfl) rfl ?_
  refine xq_aload_n dX9_scan_0 rfl rfl ?_
  refine xq_iconst dX9_scan_1 ic0 ?_
  refine xq_putI clX9 (by decide) rfl fl_RX9_40 (Or.inl rfl) dX9_scan_2 ⟨rfl, rfl⟩ (Fx.s2 hF) ?_
  refine xq_aload_n dX9_scan_5 rfl rfl ?_
  refine xq_iconst dX9_scan_6 ic0 ?_
  refine xq_putI clX9 (by decide) rfl fl_RX9_43 (Or.inl rfl) dX9_scan_7 ⟨rfl, rfl⟩ (Fx.s2 hF) ?_
  refine xq_aload_n dX9_scan_10 rfl rfl ?_
  refine xq_iconst dX9_scan_11 ic0 ?_
  refine xq_putI clX9 (by decide) rfl fl_RX9_46 (Or.inl rfl) dX9_scan_12 ⟨rfl, rfl⟩ (Fx.s2 hF) ?_
  refine xq_aload_n dX9_scan_15 rfl rfl ?_
  refine xq_iconst dX9_scan_16 icm1 ?_
  refine xq_putI clX9 (by decide) rfl fl_RX9_24 (Or.inl rfl) dX9_scan_17 ⟨rfl, rfl⟩ (Fx.s2 hF) ?_
  refine xq_iconst dX9_scan_20 ic0 ?_
  refine xq_istore_n dX9_scan_21 rfl rfl ?_
  refine xq_iconst dX9_scan_22 ic0 ?_
  refine xq_istore dX9_scan_23 rfl ?_
  refine xq_iconst dX9_scan_25 ic0 ?_
  refine xq_istore dX9_scan_26 rfl ?_
  exact c_scanL (q := q) hF hn hby0 (fun j hj => by rw [hI_sI, if_neg (by omega), hI_sI, if_neg (by omega), hI_sI, if_neg (by omega), hI_sI, if_neg (by omega)]; exact hta j hj) (fun w hw => by rw [hI_sI, if_neg (by omega), hI_sI, if_neg (by omega), hI_sI, if_neg (by omega), hI_sI, if_neg (by omega)]; exact hwd w hw) (by simp [hI_sI]) (by simp [hI_sI]) (by simp [hI_sI]) (Off.pI (A := fun q => q = 2 ∨ (4 ≤ q ∧ q < 7)) (Off.pI (A := fun q => q = 2 ∨ (4 ≤ q ∧ q < 7)) (Off.pI (A := fun q => q = 2 ∨ (4 ≤ q ∧ q < 7)) (Off.pI (A := fun q => q = 2 ∨ (4 ≤ q ∧ q < 7)) Off.rf (Or.inl rfl) _ _) (Or.inl rfl) _ _) (Or.inl rfl) _ _) (Or.inl rfl) _ _) ⟨by simp [hI_sI, s00], by simp [hI_sI]; exact hlt, fun j hj => absurd hj (Nat.not_lt_zero j)⟩
theorem c_text0 (hF : gFx S) (hsc : hR H 0 6 = some t) (hsp : hR H 0 7 = some sp) (htt : (t = 24 ∧ sp = 45) ∨ (t = 45 ∧ sp = 24)) (h1 : hI H 0 1 = nI n0) (hn0 : n0 ≤ 700) (hno : w < 0 ∨ nI n0 < w) : Pv mX10_text 7 [.ref 0, .int w] S H (vZ (-2)) := by
  refine vq_ev (vq_intro (by decide) (by exact Nat.le_of_ble_eq_true rfl) rfl ?_)
  refine xq_iload_n dX10_text_0 rfl rfl ?_
  refine xq_if_lt dX10_text_1 rfl ⟨fun h1w => ?_, fun h1w => ?_⟩
  · skip
    refine xq_bipush dX10_text_12 bpm2 ?_
    refine xq_iret dX10_text_14 rfl ?_
    rw [zm2]
  · skip
    refine xq_iload_n dX10_text_4 rfl rfl ?_
    refine xq_aload_n dX10_text_5 rfl rfl ?_
    refine xq_getIE clX10 (by decide) rfl fl_RX10_85 dX10_text_6 (Fx.s0 hF) h1 ?_
    refine xq_icmp_le dX10_text_9 rfl ⟨fun h9 => ?_, fun h9 => ?_⟩
    · skip
      rcases hno with z | z
      · exact absurd z h1w
      · exact absurd h9 (by rw [Int32.not_le]; exact z)
    · skip
      refine xq_bipush dX10_text_12 bpm2 ?_
      refine xq_iret dX10_text_14 rfl ?_
      rw [zm2]
theorem c_text1 (hF : gFx S) (hsc : hR H 0 6 = some t) (hsp : hR H 0 7 = some sp) (htt : (t = 24 ∧ sp = 45) ∨ (t = 45 ∧ sp = 24)) (h1 : hI H 0 1 = nI n0) (hn0 : n0 ≤ 700) (hby0 : ∀ j, j < n0 → b j < 256) (hta : ∀ j, j < n0 → hI H 1 j = sby (b j)) (hwd : WdP H) (hlt : hI H 2 6 = nI q) (hD : 701 ≤ D) (hE : 701 ≤ E) (hn : n ≤ n0) (hr : rdL D (scF b q n) E 0 0 tx0 = .inl (c, m)) : Hv mX10_text 7 [.ref 0, vN n] S H vZ (fun x H' => x = -1 ∧ hI H' 0 1 = nI 0 ∧ (∀ k, k ≠ 1 → hI H' 0 k = hI H 0 k) ∧ (∀ k, hR H' 0 k = hR H 0 k) ∧ hI H' 2 6 = nI (kLt (scF b q n)) ∧ hI H' 2 7 = nI c ∧ hI H' 2 8 = zI (kP (scF b q n) m) ∧ Off (fun q => q = 0 ∨ q = 2 ∨ (4 ≤ q ∧ q < 7) ∨ (8 ≤ q ∧ q < 16) ∨ (sp ≤ q ∧ q < sp + 21)) H H') := by
  have hg : gTx S sp := by
    rcases htt with e | e
    · rw [e.2]; exact Fx.g45 hF
    · rw [e.2]; exact Fx.g24 hF
  have h24 : 24 ≤ sp := by omega
  have h45 : sp ≤ 45 := by omega
  have htsp : t ≠ sp := by omega
  have hok : TrOk (scF b q n) := scF_ok (by omega)
  refine vq_intro (by decide) (by exact Nat.le_of_ble_eq_true rfl) rfl ?_
  refine xq_iload_n dX10_text_0 rfl rfl ?_
  refine xq_if_ltN dX10_text_1 rfl (by omega) ?_
  refine xq_iload_n dX10_text_4 rfl rfl ?_
  refine xq_aload_n dX10_text_5 rfl rfl ?_
  refine xq_getIE clX10 (by decide) rfl fl_RX10_85 dX10_text_6 (Fx.s0 hF) h1 ?_
  refine xq_icmp_leN dX10_text_9 rfl (by omega) (by omega) ⟨fun h9 => ?_, fun h9 => ?_⟩
  · skip
    refine xq_aload_n dX10_text_15 rfl rfl ?_
    refine xq_getF clX10 (by decide) rfl fl_RX10_18 dX10_text_16 (Fx.s0 hF) (Fx.r0_2 hF) ?_
    refine xq_aload_n dX10_text_19 rfl rfl ?_
    refine xq_getF clX10 (by decide) rfl fl_RX10_11 dX10_text_20 (Fx.s0 hF) (Fx.r0_0 hF) ?_
    refine xq_iload_n dX10_text_23 rfl rfl ?_
    refine xq_callV2N clX9 gd_X9_scan dX10_text_24 ml_RX10_93 im_X9_scan se_X9_scan rfl (Fx.s2 hF) (by exact Nat.le_of_ble_eq_true rfl) (by decide) (c_scan2 (b := b) (q := q) hF (by omega) (fun j hj => hby0 j (by omega)) (fun j hj => hta j (by omega)) hwd hlt) ?_
    intro H24 p24
    obtain ⟨q1, q2, q3, q4⟩ := p24
    refine xq_aload_n dX10_text_27 rfl rfl ?_
    refine xq_iconst dX10_text_28 ic0 ?_
    refine xq_putI clX10 (by decide) rfl fl_RX10_85 (Or.inl rfl) dX10_text_29 ⟨rfl, rfl⟩ (Fx.s0 hF) ?_
    refine xq_aload_n dX10_text_32 rfl rfl ?_
    refine xq_getF clX10 (by decide) rfl fl_RX10_27 dX10_text_33 (Fx.s0 hF) (Fx.r0_3 hF) ?_
    refine xq_aload_n dX10_text_36 rfl rfl ?_
    refine xq_getR clX10 (by decide) rfl fl_RX10_52 dX10_text_37 (Fx.s0 hF) ((q4.R (by omega) 7).trans hsp) ?_
    refine xq_callV1H clX6 gd_X6_read dX10_text_40 ml_RX10_97 im_X6_read se_X6_read rfl (Fx.s7 hF) (by exact Nat.le_of_ble_eq_true rfl) (by decide) (c_rread (D := D) (E := E) hF hg h24 h45 (s := scF b q n) (q1.pI (a := 0) (by omega) 1 (nI 0)) hok hD hE) ?_
    intro x40 H40 p40
    obtain ⟨e40, o40, l40, r40⟩ := p40
    rw [hr] at e40 r40
    subst e40
    refine xq_istore_n dX10_text_43 rfl rfl ?_
    refine xq_iload_n dX10_text_44 rfl rfl ?_
    refine xq_if_ge dX10_text_45 rfl ⟨fun h45w => ?_, fun h45w => ?_⟩
    · skip
      exact absurd (show (0 : Int32) ≤ -1 from h45w) (by decide)
    · skip
      refine xq_iconst dX10_text_48 icm1 ?_
      refine xq_iret dX10_text_49 rfl ?_
      have oB : Off (fun q => q = 0 ∨ q = 2 ∨ (4 ≤ q ∧ q < 7) ∨ (8 ≤ q ∧ q < 16) ∨ (sp ≤ q ∧ q < sp + 21)) H H40 := ((q4.mo (B := fun q => q = 0 ∨ q = 2 ∨ (4 ≤ q ∧ q < 7) ∨ (8 ≤ q ∧ q < 16) ∨ (sp ≤ q ∧ q < sp + 21)) (fun q h => by omega)).pI (Or.inl rfl) 1 (nI 0)).tr (o40.mo (fun q h => by omega))
      exact ⟨-1, H40, ⟨rfl, (o40.I (by omega) 1).trans (by rw [hI_sI, if_pos ⟨rfl, rfl⟩]), fun k hk => (o40.I (by omega) k).trans (by rw [hI_sI, if_neg (fun z => hk z.2)]; exact q4.I (by omega) k), fun k => (o40.R (by omega) k).trans (q4.R (by omega) k), l40.trans (by rw [hI_sI, if_neg (by omega)]; exact q1.1.2.1), r40.1, r40.2, oB⟩, rfl⟩
  · skip
    exact absurd h9 (by omega)
theorem c_text2 (hF : gFx S) (hsc : hR H 0 6 = some t) (hsp : hR H 0 7 = some sp) (htt : (t = 24 ∧ sp = 45) ∨ (t = 45 ∧ sp = 24)) (h1 : hI H 0 1 = nI n0) (hn0 : n0 ≤ 700) (hby0 : ∀ j, j < n0 → b j < 256) (hta : ∀ j, j < n0 → hI H 1 j = sby (b j)) (hwd : WdP H) (hlt : hI H 2 6 = nI q) (hD : 701 ≤ D) (hE : 701 ≤ E) (hn : n ≤ n0) (hr : rdL D (scF b q n) E 0 0 tx0 = .inr (l, T)) (hti : TiP T) (hb : tNp T = 0 ∨ 0 < tNc T) (htr : tTr T < 4096) (hl : l < 2147483648) : Hv mX10_text 7 [.ref 0, vN n] S H vZ (fun x H' => x = (l : Int) ∧ hI H' 0 1 = nI 0 ∧ hI H' 0 12 = nI 0 ∧ hI H' 0 14 = nI 0 ∧ hI H' 0 15 = hI H 0 15 ∧ hR H' 0 6 = some sp ∧ hR H' 0 7 = some t ∧ (∀ k, k ≠ 6 → k ≠ 7 → hR H' 0 k = hR H 0 k) ∧ hI H' 2 6 = nI (kLt (scF b q n)) ∧ hI H' 2 7 = nI 0 ∧ hI H' 2 8 = -1 ∧ TxP H' sp T ∧ StP H' 67 (begU T) ∧ Off (fun q => q = 0 ∨ q = 2 ∨ (4 ≤ q ∧ q < 7) ∨ (8 ≤ q ∧ q < 16) ∨ (sp ≤ q ∧ q < sp + 21) ∨ (67 ≤ q ∧ q < 72)) H H') := by
  have hg : gTx S sp := by
    rcases htt with e | e
    · rw [e.2]; exact Fx.g45 hF
    · rw [e.2]; exact Fx.g24 hF
  have h24 : 24 ≤ sp := by omega
  have h45 : sp ≤ 45 := by omega
  have htsp : t ≠ sp := by omega
  have hok : TrOk (scF b q n) := scF_ok (by omega)
  obtain ⟨a1, a2, a3, a4, a5, a6, a7, a8, a9, a10, a11⟩ := hti
  refine vq_intro (by decide) (by exact Nat.le_of_ble_eq_true rfl) rfl ?_
  refine xq_iload_n dX10_text_0 rfl rfl ?_
  refine xq_if_ltN dX10_text_1 rfl (by omega) ?_
  refine xq_iload_n dX10_text_4 rfl rfl ?_
  refine xq_aload_n dX10_text_5 rfl rfl ?_
  refine xq_getIE clX10 (by decide) rfl fl_RX10_85 dX10_text_6 (Fx.s0 hF) h1 ?_
  refine xq_icmp_leN dX10_text_9 rfl (by omega) (by omega) ⟨fun h9 => ?_, fun h9 => ?_⟩
  · skip
    refine xq_aload_n dX10_text_15 rfl rfl ?_
    refine xq_getF clX10 (by decide) rfl fl_RX10_18 dX10_text_16 (Fx.s0 hF) (Fx.r0_2 hF) ?_
    refine xq_aload_n dX10_text_19 rfl rfl ?_
    refine xq_getF clX10 (by decide) rfl fl_RX10_11 dX10_text_20 (Fx.s0 hF) (Fx.r0_0 hF) ?_
    refine xq_iload_n dX10_text_23 rfl rfl ?_
    refine xq_callV2N clX9 gd_X9_scan dX10_text_24 ml_RX10_93 im_X9_scan se_X9_scan rfl (Fx.s2 hF) (by exact Nat.le_of_ble_eq_true rfl) (by decide) (c_scan2 (b := b) (q := q) hF (by omega) (fun j hj => hby0 j (by omega)) (fun j hj => hta j (by omega)) hwd hlt) ?_
    intro H24 p24
    obtain ⟨q1, q2, q3, q4⟩ := p24
    refine xq_aload_n dX10_text_27 rfl rfl ?_
    refine xq_iconst dX10_text_28 ic0 ?_
    refine xq_putI clX10 (by decide) rfl fl_RX10_85 (Or.inl rfl) dX10_text_29 ⟨rfl, rfl⟩ (Fx.s0 hF) ?_
    refine xq_aload_n dX10_text_32 rfl rfl ?_
    refine xq_getF clX10 (by decide) rfl fl_RX10_27 dX10_text_33 (Fx.s0 hF) (Fx.r0_3 hF) ?_
    refine xq_aload_n dX10_text_36 rfl rfl ?_
    refine xq_getR clX10 (by decide) rfl fl_RX10_52 dX10_text_37 (Fx.s0 hF) ((q4.R (by omega) 7).trans hsp) ?_
    refine xq_callV1H clX6 gd_X6_read dX10_text_40 ml_RX10_97 im_X6_read se_X6_read rfl (Fx.s7 hF) (by exact Nat.le_of_ble_eq_true rfl) (by decide) (c_rread (D := D) (E := E) hF hg h24 h45 (s := scF b q n) (q1.pI (a := 0) (by omega) 1 (nI 0)) hok hD hE) ?_
    intro x40 H40 p40
    obtain ⟨e40, o40, l40, r40⟩ := p40
    rw [hr] at e40 r40
    subst e40
    refine xq_istore_n dX10_text_43 rfl rfl ?_
    refine xq_iload_n dX10_text_44 rfl rfl ?_
    refine xq_if_geN dX10_text_45 rfl (by omega) ?_
    obtain ⟨r1, r2, hT40⟩ := r40
    refine xq_aload_n dX10_text_50 rfl rfl ?_
    refine xq_getR clX10 (by decide) rfl fl_RX10_48 dX10_text_51 (Fx.s0 hF) ((o40.R (by omega) 6).trans ((q4.R (by omega) 6).trans hsc)) ?_
    refine xq_astore_n dX10_text_54 rfl rfl ?_
    refine xq_aload_n dX10_text_55 rfl rfl ?_
    refine xq_aload_n dX10_text_56 rfl rfl ?_
    refine xq_getR clX10 (by decide) rfl fl_RX10_52 dX10_text_57 (Fx.s0 hF) ((o40.R (by omega) 7).trans ((q4.R (by omega) 7).trans hsp)) ?_
    refine xq_putR clX10 (by decide) rfl fl_RX10_48 (Or.inl rfl) dX10_text_60 (fun _ => ⟨rfl, rfl⟩) (Fx.s0 hF) ?_
    refine xq_aload_n dX10_text_63 rfl rfl ?_
    refine xq_aload_n dX10_text_64 rfl rfl ?_
    refine xq_putR clX10 (by decide) rfl fl_RX10_52 (Or.inl rfl) dX10_text_65 (fun _ => ⟨rfl, rfl⟩) (Fx.s0 hF) ?_
    refine xq_aload_n dX10_text_68 rfl rfl ?_
    refine xq_getF clX10 (by decide) rfl fl_RX10_67 dX10_text_69 (Fx.s0 hF) (Fx.r0_9 hF) ?_
    refine xq_aload_n dX10_text_72 rfl rfl ?_
    refine xq_getR clX10 (by decide) rfl fl_RX10_48 dX10_text_73 (Fx.s0 hF) (by rw [hR_sR, if_neg (by omega), hR_sR, if_pos ⟨rfl, rfl⟩]) ?_
    refine xq_callV1N clX7 gd_X7_begin dX10_text_76 ml_RX10_81 im_X7_begin se_X7_begin rfl (St.s0 (Fx.g67 hF)) (by exact Nat.le_of_ble_eq_true rfl) (by decide) (c_begin (T := T) (Fx.g67 hF) (by decide) hg h45 (hT40.off (A := fun q => q = 0) (Off.pR (A := fun q => q = 0) (Off.pR (A := fun q => q = 0) Off.rf rfl 6 (some sp)) rfl 7 (some t)) (fun j hj => by omega)) a1 a2 hb a10 htr a8 a11) ?_
    intro H76 p76
    obtain ⟨g76, o76⟩ := p76
    refine xq_aload_n dX10_text_79 rfl rfl ?_
    refine xq_iconst dX10_text_80 ic0 ?_
    refine xq_putI clX10 (by decide) rfl fl_RX10_101 (Or.inl rfl) dX10_text_81 ⟨rfl, rfl⟩ (Fx.s0 hF) ?_
    refine xq_aload_n dX10_text_84 rfl rfl ?_
    refine xq_iconst dX10_text_85 ic0 ?_
    refine xq_putI clX10 (by decide) rfl fl_RX10_105 (Or.inl rfl) dX10_text_86 ⟨rfl, rfl⟩ (Fx.s0 hF) ?_
    refine xq_iload_n dX10_text_89 rfl rfl ?_
    refine xq_iret dX10_text_90 rfl ?_
    have oB : Off (fun q => q = 0 ∨ q = 2 ∨ (4 ≤ q ∧ q < 7) ∨ (8 ≤ q ∧ q < 16) ∨ (sp ≤ q ∧ q < sp + 21) ∨ (67 ≤ q ∧ q < 72)) H H40 := ((q4.mo (B := fun q => q = 0 ∨ q = 2 ∨ (4 ≤ q ∧ q < 7) ∨ (8 ≤ q ∧ q < 16) ∨ (sp ≤ q ∧ q < sp + 21) ∨ (67 ≤ q ∧ q < 72)) (fun q h => by omega)).pI (Or.inl rfl) 1 (nI 0)).tr (o40.mo (fun q h => by omega))
    have oC : Off (fun q => q = 0 ∨ q = 2 ∨ (4 ≤ q ∧ q < 7) ∨ (8 ≤ q ∧ q < 16) ∨ (sp ≤ q ∧ q < sp + 21) ∨ (67 ≤ q ∧ q < 72)) H H76 := (Off.pR (Off.pR oB (Or.inl rfl) 6 (some sp)) (Or.inl rfl) 7 (some t)).tr (o76.mo (fun q h => by omega))
    have h40 : ∀ k, k ≠ 1 → hI H40 0 k = hI H 0 k := fun k hk => (o40.I (by omega) k).trans (by rw [hI_sI, if_neg (fun z => hk z.2)]; exact q4.I (by omega) k)
    have r76 : ∀ k, hR H76 0 k = hR (sR (sR H40 0 6 (some sp)) 0 7 (some t)) 0 k := fun k => o76.R (by omega) k
    exact ⟨(l : Int), sI (sI H76 0 12 (nI 0)) 0 14 (nI 0), ⟨rfl, by rw [hI_sI, if_neg (by omega), hI_sI, if_neg (by omega)]; exact (o76.I (by omega) 1).trans ((o40.I (by omega) 1).trans (by rw [hI_sI, if_pos ⟨rfl, rfl⟩])), by rw [hI_sI, if_neg (by omega), hI_sI, if_pos ⟨rfl, rfl⟩], by rw [hI_sI, if_pos ⟨rfl, rfl⟩], by rw [hI_sI, if_neg (by omega), hI_sI, if_neg (by omega)]; exact (o76.I (by omega) 15).trans (h40 15 (by decide)),
      (r76 6).trans (by rw [hR_sR, if_neg (by omega), hR_sR, if_pos ⟨rfl, rfl⟩]), (r76 7).trans (by rw [hR_sR, if_pos ⟨rfl, rfl⟩]), fun k k6 k7 => (r76 k).trans (by rw [hR_sR, if_neg (fun z => k7 z.2), hR_sR, if_neg (fun z => k6 z.2)]; exact (o40.R (by omega) k).trans (q4.R (by omega) k)),
      by rw [hI_sI, if_neg (by omega), hI_sI, if_neg (by omega)]; exact (o76.I (by omega) 6).trans (l40.trans (by rw [hI_sI, if_neg (by omega)]; exact q1.1.2.1)), by rw [hI_sI, if_neg (by omega), hI_sI, if_neg (by omega)]; exact (o76.I (by omega) 7).trans (r1.trans (by rw [hI_sI, if_neg (by omega)]; exact q2)), by rw [hI_sI, if_neg (by omega), hI_sI, if_neg (by omega)]; exact (o76.I (by omega) 8).trans (r2.trans (by rw [hI_sI, if_neg (by omega)]; exact q3)),
      ((hT40.off (A := fun q => q = 0) (Off.pR (A := fun q => q = 0) (Off.pR (A := fun q => q = 0) Off.rf rfl 6 (some sp)) rfl 7 (some t)) (fun j hj => by omega)).off o76 (fun j hj => by omega)).off (A := fun q => q = 0) (Off.pI (A := fun q => q = 0) (Off.pI (A := fun q => q = 0) Off.rf rfl 12 (nI 0)) rfl 14 (nI 0)) (fun j hj => by omega), g76.off (A := fun q => q = 0) (Off.pI (A := fun q => q = 0) (Off.pI (A := fun q => q = 0) Off.rf rfl 12 (nI 0)) rfl 14 (nI 0)) (fun j hj => by omega), Off.pI (Off.pI oC (Or.inl rfl) 12 (nI 0)) (Or.inl rfl) 14 (nI 0)⟩, rfl⟩
  · skip
    exact absurd h9 (by omega)
end TE
