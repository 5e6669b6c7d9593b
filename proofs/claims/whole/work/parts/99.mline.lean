/-! ===== the reference: a line, its head and its end ===== -/
section MN1
variable {S : xS} {H H1 H2 H3 : xH} {bt : Nat → Nat} {ln k p q i j l m n c t d a its v ls D w K : Nat} {s : uTk} {T T2 : uTx} {N : Nat → Nat → Nat} {A F : Nat → Prop}
def TolP (H : xH) (T : uTx) : Prop := ∃ v, hI H 83 19 = nI v ∧ v < 262144 ∧ v.testBit 6 = decide (tSh T ≠ 0) ∧ v.testBit 7 = decide (tSd T ≠ 0) ∧ v.testBit 16 = decide (tLn T 0 ≠ 0) ∧ v.testBit 17 = decide (tLn T 1 ≠ 0)
def SrsP (H : xH) (T : uTx) : Prop := ∃ v, hI H 85 17 = nI v ∧ v < 64 ∧ ∀ p, p < 6 → v.testBit p = decide (tSe T p ≠ 0)
/-- at token n of a text in progress, ahead of a line or behind its word -/
def LiP (S : xS) (H : xH) (bt : Nat → Nat) (ln : Nat) (s : uTk) (N : Nat → Nat → Nat) (n : Nat) (T : uTx) : Prop := MtP S H bt ln s n ∧ MxU H T N ∧ hI H 83 26 = nI 0 ∧ hI H 83 30 = nI 0 ∧ hI H 83 31 = nI (tNk T) ∧ TolP H T ∧ SrsP H T
theorem LiP.mt (h : LiP S H bt ln s N n T) : MtP S H bt ln s n := h.1
theorem LiP.mx (h : LiP S H bt ln s N n T) : MxU H T N := h.2.1
theorem LiP.f26 (h : LiP S H bt ln s N n T) : hI H 83 26 = nI 0 := h.2.2.1
theorem LiP.f30 (h : LiP S H bt ln s N n T) : hI H 83 30 = nI 0 := h.2.2.2.1
theorem LiP.f31 (h : LiP S H bt ln s N n T) : hI H 83 31 = nI (tNk T) := h.2.2.2.2.1
theorem LiP.tol (h : LiP S H bt ln s N n T) : TolP H T := h.2.2.2.2.2.1
theorem LiP.srs (h : LiP S H bt ln s N n T) : SrsP H T := h.2.2.2.2.2.2
def lQ (S : xS) (H H2 : xH) (bt : Nat → Nat) (ln : Nat) (s : uTk) (N : Nat → Nat → Nat) (ls : Nat) (r : rLn) : Prop := LoQ H H2 ∧ match r with
  | .inl (c, m) => FtQ H2 s c m
  | .inr (m, T') => LiP S H2 bt ln s N m T' ∧ hI H2 83 20 = nI (ls + 1)
def linS (D : Nat) (s : uTk) (n : Nat) (T : uTx) : rLn := match linR D s n T with
  | .inl e => .inl e
  | .inr z => if kK s z.1 = 40 then .inr (z.1 + 1, z.2) else .inl (1, z.1)
theorem TiP.sz (h : TiP T) : SzOk T := ⟨h.1, h.2.1, h.2.2.1, h.2.2.2.2.1, h.2.2.2.2.2.1, h.2.2.2.1⟩
/-- a change of the reference's own fields alone, those of tokens, told, lines -/
theorem LiP.sm (h : LiP S H bt ln s N n T) (hm : MtP S H2 bt ln s m) (ho : MoF (fun q => q = 83) F H H2) (hf : ∀ k, F k → 20 ≤ k ∧ k ≤ 25) : LiP S H2 bt ln s N m T := by
  obtain ⟨v, b1, b2⟩ := h.tol
  obtain ⟨v2, c1, c2⟩ := h.srs
  exact ⟨hm, h.mx.off ho.1 (fun q h1 h2 z => by omega), (ho.2 26 (fun z => by have := hf 26 z; omega)).trans h.f26, (ho.2 30 (fun z => by have := hf 30 z; omega)).trans h.f30, (ho.2 31 (fun z => by have := hf 31 z; omega)).trans h.f31, ⟨v, (ho.2 19 (fun z => by have := hf 19 z; omega)).trans b1, b2⟩, ⟨v2, (ho.1.I (by omega) 17).trans c1, c2⟩⟩
theorem FtQ.pf {z : Int32} (h : FtQ H s c m) (hk : k ≠ 26 ∧ k ≠ 27) : FtQ (sI H 83 k z) s c m := ⟨by rw [hI_sI, if_neg (by omega)]; exact h.1, by rw [hI_sI, if_neg (by omega)]; exact h.2.1, h.2.2⟩
theorem FtQ.pu {z : Int32} (h : FtQ H s c m) (ha : a ≠ 83) : FtQ (sI H a k z) s c m := ⟨by rw [hI_sI, if_neg (by omega)]; exact h.1, by rw [hI_sI, if_neg (by omega)]; exact h.2.1, h.2.2⟩
theorem line_tailF (hF : gFx S) (ft : FtQ H1 s c m) (hlo : LoQ H H1) : Xq mX11_line K 0 0 411 [some (.ref 83), none, none, none, none] [] S H1 (fun R => ∃ H2, (lQ S H H2 bt ln s (N) ls (.inl (c, m))) ∧ R = (none, S, H2)) := by
  refine xq_aload_n dX11_line_411 rfl rfl ?_
  refine xq_getIE (v := nI c) clX11 (by decide) rfl fl_RX11_182 dX11_line_412 (Fx.s83 hF) ft.1 ?_
  refine xq_if_eqN dX11_line_415 rfl (by have := ft.2.2.2.1; omega) ⟨fun h415 => ?_, fun h415 => ?_⟩
  · skip
    exact absurd h415 (by have := ft.2.2.1; omega)
  · skip
    refine xq_vret dX11_line_418 rfl ?_
    exact ⟨H1, ⟨hlo, ft⟩, rfl⟩
theorem line_tail (hF : gFx S) (hK : 100 ≤ K) (hl : LiP S H1 bt ln s N m T) (hls : hI H1 83 20 = nI ls) (hlo : LoQ H H1) : Xq mX11_line K 0 0 411 [some (.ref 83), none, none, none, none] [] S H1 (fun R => ∃ H2, (lQ S H H2 bt ln s (N) ls (if kK s m = 40 then .inr (m + 1, T) else .inl (1, m))) ∧ R = (none, S, H2)) := by
  by_cases h40 : kK s m = 40
  · rw [if_pos h40]
    refine xq_aload_n dX11_line_411 rfl rfl ?_
    refine xq_getIE (v := nI 0) clX11 (by decide) rfl fl_RX11_182 dX11_line_412 (Fx.s83 hF) hl.f26 ?_
    refine xq_if_eqN dX11_line_415 rfl (by omega) ⟨fun h415 => ?_, fun h415 => ?_⟩
    · skip
      refine xq_aload_n dX11_line_419 rfl rfl ?_
      refine xq_bipush dX11_line_420 bp59 ?_
      refine xq_callV1P clX11 gd_X11_isSign dX11_line_422 ml_RX11_241 im_X11_isSign se_X11_isSign rfl (Fx.s83 hF) (by exact Nat.le_of_ble_eq_true rfl) (by omega) (m_isSign (K := 40) hF hl.f26 hl.mt (by decide) (by decide)) ?_
      refine xq_if_neB dX11_line_425 rfl ⟨fun h425 => ?_, fun h425 => ?_⟩
      · skip
        refine xq_aload_n dX11_line_436 rfl rfl ?_
        refine xq_callV0N clX11 gd_X11_token dX11_line_437 ml_RX11_188 im_X11_token se_X11_token rfl (Fx.s83 hF) (by exact Nat.le_of_ble_eq_true rfl) (by omega) (m_tok hl.mt (kK_in (show kK s m ≠ 44 by omega) hl.mt.lx)) ?_
        intro H437 p437
        obtain ⟨g1, g2⟩ := p437
        refine xq_aload_n dX11_line_440 rfl rfl ?_
        refine xq_dup dX11_line_441 rfl ?_
        refine xq_getIE (v := nI ls) clX11 (by decide) rfl fl_RX11_244 dX11_line_442 (Fx.s83 hF) ((g2.2 20 (by decide)).trans hls) ?_
        refine xq_iconst dX11_line_445 ic1 ?_
        refine xq_iaddN dX11_line_446 ?_
        refine xq_putI clX11 (by decide) rfl fl_RX11_244 (Or.inl rfl) dX11_line_447 ⟨rfl, rfl⟩ (Fx.s83 hF) ?_
        refine xq_vret dX11_line_450 rfl ?_
        have hl2 := hl.sm g1 g2 (fun k hk => by omega)
        have g3 : MtP S (sI H437 83 20 (nI (ls + 1))) bt ln s (m + 1) := g1.off (A := fun q => q = 83) (F := fun k => k = 20) (MoF.pF (A := fun q => q = 83) (F := fun k => k = 20) (k := 20) MoF.rf rfl rfl _) (by decide) (fun k h1 h2 z => by omega)
        exact ⟨_, ⟨(hlo.tr (LoQ.of g2 (fun k hk => by omega))).pF (k := 20) (by decide) _, hl2.sm g3 (F := fun k => k = 20) (MoF.pF (A := fun q => q = 83) (F := fun k => k = 20) (k := 20) MoF.rf rfl rfl _) (fun k hk => by omega), by rw [hI_sI, if_pos ⟨rfl, rfl⟩]⟩, rfl⟩
      · skip
        exact absurd h40 (of_decide_eq_false h425)
    · skip
      exact absurd rfl h415
  · rw [if_neg h40]
    refine xq_aload_n dX11_line_411 rfl rfl ?_
    refine xq_getIE (v := nI 0) clX11 (by decide) rfl fl_RX11_182 dX11_line_412 (Fx.s83 hF) hl.f26 ?_
    refine xq_if_eqN dX11_line_415 rfl (by omega) ⟨fun h415 => ?_, fun h415 => ?_⟩
    · skip
      refine xq_aload_n dX11_line_419 rfl rfl ?_
      refine xq_bipush dX11_line_420 bp59 ?_
      refine xq_callV1P clX11 gd_X11_isSign dX11_line_422 ml_RX11_241 im_X11_isSign se_X11_isSign rfl (Fx.s83 hF) (by exact Nat.le_of_ble_eq_true rfl) (by omega) (m_isSign (K := 40) hF hl.f26 hl.mt (by decide) (by decide)) ?_
      refine xq_if_neB dX11_line_425 rfl ⟨fun h425 => ?_, fun h425 => ?_⟩
      · skip
        exact absurd (of_decide_eq_true h425) h40
      · skip
        refine xq_aload_n dX11_line_428 rfl rfl ?_
        refine xq_iconst dX11_line_429 ic1 ?_
        refine xq_callV1N clX11 gd_X11_wrong dX11_line_430 ml_RX11_191 im_X11_wrong se_X11_wrong rfl (Fx.s83 hF) (by exact Nat.le_of_ble_eq_true rfl) (by omega) (m_wrong0 hF hl.f26 hl.mt.pl) ?_
        intro H430 p430
        subst p430
        refine xq_goto dX11_line_433 rfl ?_
        refine xq_aload_n dX11_line_440 rfl rfl ?_
        refine xq_dup dX11_line_441 rfl ?_
        refine xq_getIE (v := nI ls) clX11 (by decide) rfl fl_RX11_244 dX11_line_442 (Fx.s83 hF) (by rw [hI_sI, if_neg (by omega), hI_sI, if_neg (by omega)]; exact hls) ?_
        refine xq_iconst dX11_line_445 ic1 ?_
        refine xq_iaddN dX11_line_446 ?_
        refine xq_putI clX11 (by decide) rfl fl_RX11_244 (Or.inl rfl) dX11_line_447 ⟨rfl, rfl⟩ (Fx.s83 hF) ?_
        refine xq_vret dX11_line_450 rfl ?_
        have mf := wr_mf (c := 1) hl.mt
        have ft := FtQ.mf mf (by decide) (by decide) hl.mt.js
        exact ⟨_, ⟨(hlo.tr (LoQ.of mf.2.2 (fun k hk => by omega))).pF (k := 20) (by decide) _, ft.pf (by decide)⟩, rfl⟩
    · skip
      exact absurd rfl h415
theorem line_full (hF : gFx S) (hK : 100 ≤ K) (hl : LiP S H bt ln s N n T) (hti : TiP T) (hk : kK s n = w) (hw : w ≤ 8) (hfu : fulB T w = true) : Xq mX11_line K 0 0 0 [some (.ref 83), none, none, none, none] [] S H (fun R => ∃ H2, (lQ S H H2 bt ln s (N) ls (.inl (2, n))) ∧ R = (none, S, H2)) := by
  have hms := hl.mt.ms.1 (show kK s n < 28 by omega)
  have hmv : hI H 83 25 = nI w := hms.2.trans (by rw [hk])
  obtain ⟨v, b1, b2, b3, b4, b5, b6⟩ := hl.tol
  have hsv := and1_le (v >>> w)
  refine xq_aload_n dX11_line_0 rfl rfl ?_
  refine xq_getIE (v := nI 0) clX11 (by decide) rfl fl_RX11_147 dX11_line_1 (Fx.s83 hF) hms.1 ?_
  refine xq_if_neN dX11_line_4 rfl (by omega) ⟨fun h4 => ?_, fun h4 => ?_⟩
  · skip
    exact absurd rfl h4
  · skip
    refine xq_aload_n dX11_line_7 rfl rfl ?_
    refine xq_getIE clX11 (by decide) rfl fl_RX11_157 dX11_line_8 (Fx.s83 hF) hmv ?_
    refine xq_bipush dX11_line_11 bp8 ?_
    refine xq_icmp_leN dX11_line_13 rfl (by omega) (by omega) ⟨fun h13 => ?_, fun h13 => ?_⟩
    · skip
      refine xq_aload_n dX11_line_22 rfl rfl ?_
      refine xq_getIE (v := nI w) clX11 (by decide) rfl fl_RX11_157 dX11_line_23 (Fx.s83 hF) hmv ?_
      refine xq_istore_n dX11_line_26 rfl rfl ?_
      refine xq_aload_n dX11_line_27 rfl rfl ?_
      refine xq_iload_n dX11_line_28 rfl rfl ?_
      refine xq_callV1P clX11 gd_X11_isFull dX11_line_29 ml_RX11_206 im_X11_isFull se_X11_isFull rfl (Fx.s83 hF) (by exact Nat.le_of_ble_eq_true rfl) (by omega) (m_isFull (w := w) hF hl.mx hti.sz (by omega)) ?_
      refine xq_if_eqB dX11_line_32 rfl ⟨fun h32 => ?_, fun h32 => ?_⟩
      · skip
        rw [hfu] at h32; cases h32
      · skip
        refine xq_aload_n dX11_line_35 rfl rfl ?_
        refine xq_iconst dX11_line_36 ic2 ?_
        refine xq_callV1N clX11 gd_X11_wrong dX11_line_37 ml_RX11_191 im_X11_wrong se_X11_wrong rfl (Fx.s83 hF) (by exact Nat.le_of_ble_eq_true rfl) (by omega) (m_wrong0 hF hl.f26 hl.mt.pl) ?_
        intro H37 p37
        subst p37
        have mf := wr_mf (c := 2) hl.mt
        have ft := FtQ.mf mf (by decide) (by decide) hl.mt.js
        refine xq_goto dX11_line_40 rfl ?_
        refine xq_aload_n dX11_line_72 rfl rfl ?_
        refine xq_getIE (v := nI 2) clX11 (by decide) rfl fl_RX11_182 dX11_line_73 (Fx.s83 hF) ft.1 ?_
        refine xq_if_eqN dX11_line_76 rfl (by omega) ⟨fun h76 => ?_, fun h76 => ?_⟩
        · skip
          exact absurd h76 (by decide)
        · skip
          refine xq_vret dX11_line_79 rfl ?_
          exact ⟨_, ⟨LoQ.of mf.2.2 (fun k hk => by omega), ft⟩, rfl⟩
    · skip
      exact absurd h13 (by omega)
theorem tb_shr1 (v j : Nat) : (v >>> j &&& 1 = 1) ↔ v.testBit j = true := by
  have h := tb_shr v j
  have h2 := and1_le (v >>> j)
  cases e : v.testBit j with
  | true =>
    rw [e] at h
    exact ⟨fun _ => rfl, fun _ => by
      have : ¬ v >>> j &&& 1 = 0 := fun z => by have := h.mp z; cases this
      omega⟩
  | false =>
    rw [e] at h
    exact ⟨fun z => by have := h.mpr rfl; omega, fun z => by cases z⟩
theorem nI_inj2 {x y : Nat} (hx : x < 262144) (hy : y < 262144) (h : nI x = nI y) : x = y := (nq_eq (by omega) (by omega)).mp h
theorem line_again (hF : gFx S) (hK : 100 ≤ K) (hl : LiP S H bt ln s N n T) (hti : TiP T) (hk : kK s n = w) (hw6 : w = 6 ∨ w = 7) (hfu : fulB T w = false) (hb1v : hI H 83 19 = nI i) (hbit2 : i.testBit w = true) (hi2 : i < 262144) : Xq mX11_line K 0 0 0 [some (.ref 83), none, none, none, none] [] S H (fun R => ∃ H2, (lQ S H H2 bt ln s (N) ls (.inl (3, n))) ∧ R = (none, S, H2)) := by
  have hms := hl.mt.ms.1 (show kK s n < 28 by omega)
  have hmv : hI H 83 25 = nI w := hms.2.trans (by rw [hk])
  obtain ⟨v, b1, b2, b3, b4, b5, b6⟩ := hl.tol
  have hsv := and1_le (v >>> w)
  have hvi : v = i := nI_inj2 b2 hi2 (b1.symm.trans hb1v)
  subst hvi
  have hbit := hbit2
  refine xq_aload_n dX11_line_0 rfl rfl ?_
  refine xq_getIE (v := nI 0) clX11 (by decide) rfl fl_RX11_147 dX11_line_1 (Fx.s83 hF) hms.1 ?_
  refine xq_if_neN dX11_line_4 rfl (by omega) ⟨fun h4 => ?_, fun h4 => ?_⟩
  · skip
    exact absurd rfl h4
  · skip
    refine xq_aload_n dX11_line_7 rfl rfl ?_
    refine xq_getIE clX11 (by decide) rfl fl_RX11_157 dX11_line_8 (Fx.s83 hF) hmv ?_
    refine xq_bipush dX11_line_11 bp8 ?_
    refine xq_icmp_leN dX11_line_13 rfl (by omega) (by omega) ⟨fun h13 => ?_, fun h13 => ?_⟩
    · skip
      refine xq_aload_n dX11_line_22 rfl rfl ?_
      refine xq_getIE (v := nI w) clX11 (by decide) rfl fl_RX11_157 dX11_line_23 (Fx.s83 hF) hmv ?_
      refine xq_istore_n dX11_line_26 rfl rfl ?_
      refine xq_aload_n dX11_line_27 rfl rfl ?_
      refine xq_iload_n dX11_line_28 rfl rfl ?_
      refine xq_callV1P clX11 gd_X11_isFull dX11_line_29 ml_RX11_206 im_X11_isFull se_X11_isFull rfl (Fx.s83 hF) (by exact Nat.le_of_ble_eq_true rfl) (by omega) (m_isFull (w := w) hF hl.mx hti.sz (by omega)) ?_
      refine xq_if_eqB dX11_line_32 rfl ⟨fun h32 => ?_, fun h32 => ?_⟩
      · skip
        refine xq_iload_n dX11_line_43 rfl rfl ?_
        refine xq_bipush dX11_line_44 bp6 ?_
        refine xq_icmp_eqN dX11_line_46 rfl (by omega) (by omega) ⟨fun h46 => ?_, fun h46 => ?_⟩
        · skip
          refine xq_aload_n dX11_line_55 rfl rfl ?_
          refine xq_getIE (v := nI v) clX11 (by decide) rfl fl_RX11_209 dX11_line_56 (Fx.s83 hF) b1 ?_
          refine xq_iload_n dX11_line_59 rfl rfl ?_
          refine xq_ishrN dX11_line_60 (by omega) (by omega) ?_
          refine xq_iconst dX11_line_61 ic1 ?_
          refine xq_iandN dX11_line_62 ?_
          refine xq_iconst dX11_line_63 ic1 ?_
          refine xq_icmp_neN dX11_line_64 rfl (by omega) (by omega) ⟨fun h64 => ?_, fun h64 => ?_⟩
          · skip
            exact absurd ((tb_shr1 v w).mpr hbit) h64
          · skip
            refine xq_aload_n dX11_line_67 rfl rfl ?_
            refine xq_iconst dX11_line_68 ic3 ?_
            refine xq_callV1N clX11 gd_X11_wrong dX11_line_69 ml_RX11_191 im_X11_wrong se_X11_wrong rfl (Fx.s83 hF) (by exact Nat.le_of_ble_eq_true rfl) (by omega) (m_wrong0 hF hl.f26 hl.mt.pl) ?_
            intro H69 p69
            subst p69
            have mf := wr_mf (c := 3) hl.mt
            have ft := FtQ.mf mf (by decide) (by decide) hl.mt.js
            refine xq_aload_n dX11_line_72 rfl rfl ?_
            refine xq_getIE (v := nI 3) clX11 (by decide) rfl fl_RX11_182 dX11_line_73 (Fx.s83 hF) ft.1 ?_
            refine xq_if_eqN dX11_line_76 rfl (by omega) ⟨fun h76 => ?_, fun h76 => ?_⟩
            · skip
              exact absurd h76 (by decide)
            · skip
              refine xq_vret dX11_line_79 rfl ?_
              exact ⟨_, ⟨LoQ.of mf.2.2 (fun k hk => by omega), ft⟩, rfl⟩
        · skip
          refine xq_iload_n dX11_line_49 rfl rfl ?_
          refine xq_bipush dX11_line_50 bp7 ?_
          refine xq_icmp_neN dX11_line_52 rfl (by omega) (by omega) ⟨fun h52 => ?_, fun h52 => ?_⟩
          · skip
            exact absurd hw6 (by omega)
          · skip
            refine xq_aload_n dX11_line_55 rfl rfl ?_
            refine xq_getIE (v := nI v) clX11 (by decide) rfl fl_RX11_209 dX11_line_56 (Fx.s83 hF) b1 ?_
            refine xq_iload_n dX11_line_59 rfl rfl ?_
            refine xq_ishrN dX11_line_60 (by omega) (by omega) ?_
            refine xq_iconst dX11_line_61 ic1 ?_
            refine xq_iandN dX11_line_62 ?_
            refine xq_iconst dX11_line_63 ic1 ?_
            refine xq_icmp_neN dX11_line_64 rfl (by omega) (by omega) ⟨fun h64 => ?_, fun h64 => ?_⟩
            · skip
              exact absurd ((tb_shr1 v w).mpr hbit) h64
            · skip
              refine xq_aload_n dX11_line_67 rfl rfl ?_
              refine xq_iconst dX11_line_68 ic3 ?_
              refine xq_callV1N clX11 gd_X11_wrong dX11_line_69 ml_RX11_191 im_X11_wrong se_X11_wrong rfl (Fx.s83 hF) (by exact Nat.le_of_ble_eq_true rfl) (by omega) (m_wrong0 hF hl.f26 hl.mt.pl) ?_
              intro H69 p69
              subst p69
              have mf := wr_mf (c := 3) hl.mt
              have ft := FtQ.mf mf (by decide) (by decide) hl.mt.js
              refine xq_aload_n dX11_line_72 rfl rfl ?_
              refine xq_getIE (v := nI 3) clX11 (by decide) rfl fl_RX11_182 dX11_line_73 (Fx.s83 hF) ft.1 ?_
              refine xq_if_eqN dX11_line_76 rfl (by omega) ⟨fun h76 => ?_, fun h76 => ?_⟩
              · skip
                exact absurd h76 (by decide)
              · skip
                refine xq_vret dX11_line_79 rfl ?_
                exact ⟨_, ⟨LoQ.of mf.2.2 (fun k hk => by omega), ft⟩, rfl⟩
      · skip
        rw [hfu] at h32; cases h32
    · skip
      exact absurd h13 (by omega)
/-- the line's word is taken -/
theorem line_head {QQ : xR → Prop} (hF : gFx S) (hK : 100 ≤ K) (hl : LiP S H bt ln s N n T) (hti : TiP T) (hk : kK s n = w) (hw : w ≤ 8) (hfu : fulB T w = false) (hbit : ∀ v, hI H 83 19 = nI v → w = 6 ∨ w = 7 → v.testBit w = false)
    (kk : ∀ H1 v, MtP S H1 bt ln s (n + 1) → hI H 83 19 = nI v → (v < 262144 ∧ v.testBit 6 = decide (tSh T ≠ 0) ∧ v.testBit 7 = decide (tSd T ≠ 0) ∧ v.testBit 16 = decide (tLn T 0 ≠ 0) ∧ v.testBit 17 = decide (tLn T 1 ≠ 0)) → MoF (fun q => q = 83) (fun k => k = 19 ∨ (22 ≤ k ∧ k ≤ 25)) H H1 → hI H1 83 19 = nI (v ||| 1 <<< w) → Xq mX11_line K 0 0 96 [some (.ref 83), some (vN w), none, none, none] [] S H1 QQ) : Xq mX11_line K 0 0 0 [some (.ref 83), none, none, none, none] [] S H QQ := by
  have hms := hl.mt.ms.1 (show kK s n < 28 by omega)
  have hmv : hI H 83 25 = nI w := hms.2.trans (by rw [hk])
  obtain ⟨v, b1, b2, b3, b4, b5, b6⟩ := hl.tol
  have hsv := and1_le (v >>> w)
  refine xq_aload_n dX11_line_0 rfl rfl ?_
  refine xq_getIE (v := nI 0) clX11 (by decide) rfl fl_RX11_147 dX11_line_1 (Fx.s83 hF) hms.1 ?_
  refine xq_if_neN dX11_line_4 rfl (by omega) ⟨fun h4 => ?_, fun h4 => ?_⟩
  · skip
    exact absurd rfl h4
  · skip
    refine xq_aload_n dX11_line_7 rfl rfl ?_
    refine xq_getIE clX11 (by decide) rfl fl_RX11_157 dX11_line_8 (Fx.s83 hF) hmv ?_
    refine xq_bipush dX11_line_11 bp8 ?_
    refine xq_icmp_leN dX11_line_13 rfl (by omega) (by omega) ⟨fun h13 => ?_, fun h13 => ?_⟩
    · skip
      refine xq_aload_n dX11_line_22 rfl rfl ?_
      refine xq_getIE (v := nI w) clX11 (by decide) rfl fl_RX11_157 dX11_line_23 (Fx.s83 hF) hmv ?_
      refine xq_istore_n dX11_line_26 rfl rfl ?_
      refine xq_aload_n dX11_line_27 rfl rfl ?_
      refine xq_iload_n dX11_line_28 rfl rfl ?_
      refine xq_callV1P clX11 gd_X11_isFull dX11_line_29 ml_RX11_206 im_X11_isFull se_X11_isFull rfl (Fx.s83 hF) (by exact Nat.le_of_ble_eq_true rfl) (by omega) (m_isFull (w := w) hF hl.mx hti.sz (by omega)) ?_
      refine xq_if_eqB dX11_line_32 rfl ⟨fun h32 => ?_, fun h32 => ?_⟩
      · skip
        refine xq_iload_n dX11_line_43 rfl rfl ?_
        refine xq_bipush dX11_line_44 bp6 ?_
        refine xq_icmp_eqN dX11_line_46 rfl (by omega) (by omega) ⟨fun h46 => ?_, fun h46 => ?_⟩
        · skip
          refine xq_aload_n dX11_line_55 rfl rfl ?_
          refine xq_getIE (v := nI v) clX11 (by decide) rfl fl_RX11_209 dX11_line_56 (Fx.s83 hF) b1 ?_
          refine xq_iload_n dX11_line_59 rfl rfl ?_
          refine xq_ishrN dX11_line_60 (by omega) (by omega) ?_
          refine xq_iconst dX11_line_61 ic1 ?_
          refine xq_iandN dX11_line_62 ?_
          refine xq_iconst dX11_line_63 ic1 ?_
          refine xq_icmp_neN dX11_line_64 rfl (by omega) (by omega) ⟨fun h64 => ?_, fun h64 => ?_⟩
          · skip
            refine xq_aload_n dX11_line_72 rfl rfl ?_
            refine xq_getIE (v := nI 0) clX11 (by decide) rfl fl_RX11_182 dX11_line_73 (Fx.s83 hF) hl.f26 ?_
            refine xq_if_eqN dX11_line_76 rfl (by omega) ⟨fun h76 => ?_, fun h76 => ?_⟩
            · skip
              refine xq_aload_n dX11_line_80 rfl rfl ?_
              refine xq_dup dX11_line_81 rfl ?_
              refine xq_getIE (v := nI v) clX11 (by decide) rfl fl_RX11_209 dX11_line_82 (Fx.s83 hF) b1 ?_
              refine xq_iconst dX11_line_85 ic1 ?_
              refine xq_iload_n dX11_line_86 rfl rfl ?_
              refine xq_ishlN dX11_line_87 (by omega) ?_
              refine xq_iorN dX11_line_88 ?_
              refine xq_putI clX11 (by decide) rfl fl_RX11_209 (Or.inl rfl) dX11_line_89 ⟨rfl, rfl⟩ (Fx.s83 hF) ?_
              refine xq_aload_n dX11_line_92 rfl rfl ?_
              refine xq_callV0N clX11 gd_X11_token dX11_line_93 ml_RX11_188 im_X11_token se_X11_token rfl (Fx.s83 hF) (by exact Nat.le_of_ble_eq_true rfl) (by omega) (m_tok (hl.mt.off (A := fun q => q = 83) (F := fun k => k = 19) (MoF.pF (A := fun q => q = 83) (F := fun k => k = 19) (k := 19) MoF.rf rfl rfl (nI (v ||| 1 <<< w))) (by decide) (fun k h1 h2 z => by omega)) (kK_in (show kK s n ≠ 44 by omega) hl.mt.lx)) ?_
              intro H93 p93
              obtain ⟨g1, g2⟩ := p93
              exact xq_fgt (L' := [some (.ref 83), some (vN w), none, none, none]) (kk _ v g1 b1 ⟨b2, b3, b4, b5, b6⟩ ((MoF.pF (A := fun q => q = 83) (F := fun k => k = 19 ∨ (22 ≤ k ∧ k ≤ 25)) (k := 19) MoF.rf rfl (Or.inl rfl) (nI (v ||| 1 <<< w))).tr (g2.mo (fun q h => h) (fun k h => by omega))) ((g2.2 19 (by decide)).trans (by rw [hI_sI, if_pos ⟨rfl, rfl⟩]))) (by exact And.intro rfl (And.intro rfl trivial))
            · skip
              exact absurd rfl h76
          · skip
            exact absurd ((tb_shr1 v w).mp h64) (by rw [hbit v b1 (by omega)]; decide)
        · skip
          refine xq_iload_n dX11_line_49 rfl rfl ?_
          refine xq_bipush dX11_line_50 bp7 ?_
          refine xq_icmp_neN dX11_line_52 rfl (by omega) (by omega) ⟨fun h52 => ?_, fun h52 => ?_⟩
          · skip
            refine xq_aload_n dX11_line_72 rfl rfl ?_
            refine xq_getIE (v := nI 0) clX11 (by decide) rfl fl_RX11_182 dX11_line_73 (Fx.s83 hF) hl.f26 ?_
            refine xq_if_eqN dX11_line_76 rfl (by omega) ⟨fun h76 => ?_, fun h76 => ?_⟩
            · skip
              refine xq_aload_n dX11_line_80 rfl rfl ?_
              refine xq_dup dX11_line_81 rfl ?_
              refine xq_getIE (v := nI v) clX11 (by decide) rfl fl_RX11_209 dX11_line_82 (Fx.s83 hF) b1 ?_
              refine xq_iconst dX11_line_85 ic1 ?_
              refine xq_iload_n dX11_line_86 rfl rfl ?_
              refine xq_ishlN dX11_line_87 (by omega) ?_
              refine xq_iorN dX11_line_88 ?_
              refine xq_putI clX11 (by decide) rfl fl_RX11_209 (Or.inl rfl) dX11_line_89 ⟨rfl, rfl⟩ (Fx.s83 hF) ?_
              refine xq_aload_n dX11_line_92 rfl rfl ?_
              refine xq_callV0N clX11 gd_X11_token dX11_line_93 ml_RX11_188 im_X11_token se_X11_token rfl (Fx.s83 hF) (by exact Nat.le_of_ble_eq_true rfl) (by omega) (m_tok (hl.mt.off (A := fun q => q = 83) (F := fun k => k = 19) (MoF.pF (A := fun q => q = 83) (F := fun k => k = 19) (k := 19) MoF.rf rfl rfl (nI (v ||| 1 <<< w))) (by decide) (fun k h1 h2 z => by omega)) (kK_in (show kK s n ≠ 44 by omega) hl.mt.lx)) ?_
              intro H93 p93
              obtain ⟨g1, g2⟩ := p93
              exact xq_fgt (L' := [some (.ref 83), some (vN w), none, none, none]) (kk _ v g1 b1 ⟨b2, b3, b4, b5, b6⟩ ((MoF.pF (A := fun q => q = 83) (F := fun k => k = 19 ∨ (22 ≤ k ∧ k ≤ 25)) (k := 19) MoF.rf rfl (Or.inl rfl) (nI (v ||| 1 <<< w))).tr (g2.mo (fun q h => h) (fun k h => by omega))) ((g2.2 19 (by decide)).trans (by rw [hI_sI, if_pos ⟨rfl, rfl⟩]))) (by exact And.intro rfl (And.intro rfl trivial))
            · skip
              exact absurd rfl h76
          · skip
            refine xq_aload_n dX11_line_55 rfl rfl ?_
            refine xq_getIE (v := nI v) clX11 (by decide) rfl fl_RX11_209 dX11_line_56 (Fx.s83 hF) b1 ?_
            refine xq_iload_n dX11_line_59 rfl rfl ?_
            refine xq_ishrN dX11_line_60 (by omega) (by omega) ?_
            refine xq_iconst dX11_line_61 ic1 ?_
            refine xq_iandN dX11_line_62 ?_
            refine xq_iconst dX11_line_63 ic1 ?_
            refine xq_icmp_neN dX11_line_64 rfl (by omega) (by omega) ⟨fun h64 => ?_, fun h64 => ?_⟩
            · skip
              refine xq_aload_n dX11_line_72 rfl rfl ?_
              refine xq_getIE (v := nI 0) clX11 (by decide) rfl fl_RX11_182 dX11_line_73 (Fx.s83 hF) hl.f26 ?_
              refine xq_if_eqN dX11_line_76 rfl (by omega) ⟨fun h76 => ?_, fun h76 => ?_⟩
              · skip
                refine xq_aload_n dX11_line_80 rfl rfl ?_
                refine xq_dup dX11_line_81 rfl ?_
                refine xq_getIE (v := nI v) clX11 (by decide) rfl fl_RX11_209 dX11_line_82 (Fx.s83 hF) b1 ?_
                refine xq_iconst dX11_line_85 ic1 ?_
                refine xq_iload_n dX11_line_86 rfl rfl ?_
                refine xq_ishlN dX11_line_87 (by omega) ?_
                refine xq_iorN dX11_line_88 ?_
                refine xq_putI clX11 (by decide) rfl fl_RX11_209 (Or.inl rfl) dX11_line_89 ⟨rfl, rfl⟩ (Fx.s83 hF) ?_
                refine xq_aload_n dX11_line_92 rfl rfl ?_
                refine xq_callV0N clX11 gd_X11_token dX11_line_93 ml_RX11_188 im_X11_token se_X11_token rfl (Fx.s83 hF) (by exact Nat.le_of_ble_eq_true rfl) (by omega) (m_tok (hl.mt.off (A := fun q => q = 83) (F := fun k => k = 19) (MoF.pF (A := fun q => q = 83) (F := fun k => k = 19) (k := 19) MoF.rf rfl rfl (nI (v ||| 1 <<< w))) (by decide) (fun k h1 h2 z => by omega)) (kK_in (show kK s n ≠ 44 by omega) hl.mt.lx)) ?_
                intro H93 p93
                obtain ⟨g1, g2⟩ := p93
                exact xq_fgt (L' := [some (.ref 83), some (vN w), none, none, none]) (kk _ v g1 b1 ⟨b2, b3, b4, b5, b6⟩ ((MoF.pF (A := fun q => q = 83) (F := fun k => k = 19 ∨ (22 ≤ k ∧ k ≤ 25)) (k := 19) MoF.rf rfl (Or.inl rfl) (nI (v ||| 1 <<< w))).tr (g2.mo (fun q h => h) (fun k h => by omega))) ((g2.2 19 (by decide)).trans (by rw [hI_sI, if_pos ⟨rfl, rfl⟩]))) (by exact And.intro rfl (And.intro rfl trivial))
              · skip
                exact absurd rfl h76
            · skip
              exact absurd ((tb_shr1 v w).mp h64) (by rw [hbit v b1 (by omega)]; decide)
      · skip
        rw [hfu] at h32; cases h32
    · skip
      exact absurd h13 (by omega)
theorem line_bad (hF : gFx S) (hK : 100 ≤ K) (hl : LiP S H bt ln s N n T) (hti : TiP T) (hk : 8 < kK s n) : Xq mX11_line K 0 0 0 [some (.ref 83), none, none, none, none] [] S H (fun R => ∃ H2, (lQ S H H2 bt ln s (N) ls (.inl (1, n))) ∧ R = (none, S, H2)) := by
  refine xq_aload_n dX11_line_0 rfl rfl ?_
  refine xq_getI clX11 (by decide) rfl fl_RX11_147 dX11_line_1 (Fx.s83 hF) ?_
  refine xq_if_ne dX11_line_4 rfl ⟨fun h4 => ?_, fun h4 => ?_⟩
  · skip
    refine xq_aload_n dX11_line_16 rfl rfl ?_
    refine xq_iconst dX11_line_17 ic1 ?_
    refine xq_callV1N clX11 gd_X11_wrong dX11_line_18 ml_RX11_191 im_X11_wrong se_X11_wrong rfl (Fx.s83 hF) (by exact Nat.le_of_ble_eq_true rfl) (by omega) (m_wrong0 hF hl.f26 hl.mt.pl) ?_
    intro H18 p18
    subst p18
    have mf := wr_mf (c := 1) hl.mt
    have ft := FtQ.mf mf (by decide) (by decide) hl.mt.js
    refine xq_vret dX11_line_21 rfl ?_
    exact ⟨_, ⟨LoQ.of mf.2.2 (fun k hk => by omega), ft⟩, rfl⟩
  · skip
    obtain ⟨hk28, hva⟩ := MsV_w hl.mt.ms (kK_le hl.mt.ok) (show _ = _ by simpa using h4)
    refine xq_aload_n dX11_line_7 rfl rfl ?_
    refine xq_getIE clX11 (by decide) rfl fl_RX11_157 dX11_line_8 (Fx.s83 hF) hva ?_
    refine xq_bipush dX11_line_11 bp8 ?_
    refine xq_icmp_leN dX11_line_13 rfl (by omega) (by omega) ⟨fun h13 => ?_, fun h13 => ?_⟩
    · skip
      exact absurd h13 (by omega)
    · skip
      refine xq_aload_n dX11_line_16 rfl rfl ?_
      refine xq_iconst dX11_line_17 ic1 ?_
      refine xq_callV1N clX11 gd_X11_wrong dX11_line_18 ml_RX11_191 im_X11_wrong se_X11_wrong rfl (Fx.s83 hF) (by exact Nat.le_of_ble_eq_true rfl) (by omega) (m_wrong0 hF hl.f26 hl.mt.pl) ?_
      intro H18 p18
      subst p18
      have mf := wr_mf (c := 1) hl.mt
      have ft := FtQ.mf mf (by decide) (by decide) hl.mt.js
      refine xq_vret dX11_line_21 rfl ?_
      exact ⟨_, ⟨LoQ.of mf.2.2 (fun k hk => by omega), ft⟩, rfl⟩
def nfN (N : Nat → Nat → Nat) (f v : Nat) : Nat → Nat → Nat := fun a k => if a = 0 ∧ k = f then v else N a k
def nlN (N : Nat → Nat → Nat) (l v : Nat) : Nat → Nat → Nat := fun a k => if a = 1 ∧ k = l then v else N a k
theorem nfN_0 (f v k : Nat) : nfN N f v 0 k = if k = f then v else N 0 k := by
  show (if 0 = 0 ∧ k = f then v else N 0 k) = _
  by_cases e : k = f
  · rw [if_pos ⟨rfl, e⟩, if_pos e]
  · rw [if_neg (fun z => e z.2), if_neg e]
theorem nlN_1 (f v k : Nat) : nlN N f v 1 k = if k = f then v else N 1 k := by
  show (if 1 = 1 ∧ k = f then v else N 1 k) = _
  by_cases e : k = f
  · rw [if_pos ⟨rfl, e⟩, if_pos e]
  · rw [if_neg (fun z => e z.2), if_neg e]
theorem MxU.cell {z : Int32} (h : MxU H T N) (ha : 86 ≤ a ∧ a ≤ 100) (hc : (a ≤ 87 → 3 + tNc T ≤ i) ∧ (88 ≤ a ∧ a ≤ 90 → 6 + tNp T ≤ i) ∧ (91 ≤ a ∧ a ≤ 93 → 8 + tNf T ≤ i) ∧ (94 ≤ a ∧ a ≤ 95 → 12 + tNt T ≤ i) ∧ (a = 96 → 12 + tNa T ≤ i) ∧ (97 ≤ a ∧ a ≤ 98 → 4 ≤ i) ∧ (99 ≤ a → 64 + tNk T ≤ i)) : MxU (sI H a i z) T N := by
  have e : ∀ q j, ¬ (q = a ∧ j = i) → hI (sI H a i z) q j = hI H q j := fun q j hn => by rw [hI_sI, if_neg hn]
  obtain ⟨c1, c2, c3, c4, c5, c6, c7⟩ := hc
  exact ⟨(e _ _ (by omega)).trans h.nc, (e _ _ (by omega)).trans h.np, (e _ _ (by omega)).trans h.nf, (e _ _ (by omega)).trans h.nt, (e _ _ (by omega)).trans h.na, (e _ _ (by omega)).trans h.sh, (e _ _ (by omega)).trans h.sd, (e _ _ (by omega)).trans h.nk, fun k hk => ⟨(e _ _ (by omega)).trans (h.co k hk).1, (e _ _ (by omega)).trans (h.co k hk).2⟩, fun k hk => ⟨(e _ _ (by omega)).trans (h.pe k hk).1, (e _ _ (by omega)).trans (h.pe k hk).2.1, (e _ _ (by omega)).trans (h.pe k hk).2.2⟩, fun k hk => ⟨(e _ _ (by omega)).trans (h.fa k hk).1, (e _ _ (by omega)).trans (h.fa k hk).2.1, (e _ _ (by omega)).trans (h.fa k hk).2.2⟩, fun k hk => ⟨(e _ _ (by omega)).trans (h.te k hk).1, (e _ _ (by omega)).trans (h.te k hk).2⟩, fun k hk => (e _ _ (by omega)).trans (h.as k hk), fun k hk => ⟨(e _ _ (by omega)).trans (h.lw k hk).1, (e _ _ (by omega)).trans (h.lw k hk).2⟩, fun k hk => ⟨(e _ _ (by omega)).trans (h.kn k hk).1, (e _ _ (by omega)).trans (h.kn k hk).2⟩⟩
theorem MxU.bCo (h : MxU H T N) (h1 : hI H 86 (3 + tNc T) = nI i) (h2 : hI H 87 (3 + tNc T) = nI v) : MxU (sI H 85 9 (nI (tNc T + 1))) (colT T i v) (N) := by
  have e : ∀ q i, ¬ (q = 85 ∧ i = 9) → hI (sI H 85 9 (nI (tNc T + 1))) q i = hI H q i := fun q i hn => by rw [hI_sI, if_neg hn]
  exact ⟨(by rw [hI_sI, if_pos ⟨rfl, rfl⟩]; rfl), ((e _ _ (by omega)).trans h.np), ((e _ _ (by omega)).trans h.nf), ((e _ _ (by omega)).trans h.nt), ((e _ _ (by omega)).trans h.na), ((e _ _ (by omega)).trans h.sh), ((e _ _ (by omega)).trans h.sd), ((e _ _ (by omega)).trans h.nk), (fun k hk => by
    have hk : k < tNc T + 1 := hk
    rw [colT_cn, colT_st, e _ _ (by omega), e _ _ (by omega)]
    by_cases c : k = tNc T
    · rw [if_pos c, if_pos c, c]; exact ⟨h1, h2⟩
    · rw [if_neg c, if_neg c]; exact h.co k (by omega)), (fun k hk => ⟨(e _ _ (by omega)).trans (h.pe k hk).1, (e _ _ (by omega)).trans (h.pe k hk).2.1, (e _ _ (by omega)).trans (h.pe k hk).2.2⟩), (fun k hk => ⟨(e _ _ (by omega)).trans (h.fa k hk).1, (e _ _ (by omega)).trans (h.fa k hk).2.1, (e _ _ (by omega)).trans (h.fa k hk).2.2⟩), (fun k hk => ⟨(e _ _ (by omega)).trans (h.te k hk).1, (e _ _ (by omega)).trans (h.te k hk).2⟩), (fun k hk => (e _ _ (by omega)).trans (h.as k hk)), (fun k hk => ⟨(e _ _ (by omega)).trans (h.lw k hk).1, (e _ _ (by omega)).trans (h.lw k hk).2⟩), (fun k hk => ⟨(e _ _ (by omega)).trans (h.kn k hk).1, (e _ _ (by omega)).trans (h.kn k hk).2⟩)⟩
theorem MxU.bPe (h : MxU H T N) (h1 : hI H 88 (6 + tNp T) = nI i) (h2 : hI H 89 (6 + tNp T) = nI v) (h3 : hI H 90 (6 + tNp T) = nI 0) (hs0 : tSe T (tNp T) = 0) : MxU (sI H 85 10 (nI (tNp T + 1))) (perT T i v) (N) := by
  have e : ∀ q i, ¬ (q = 85 ∧ i = 10) → hI (sI H 85 10 (nI (tNp T + 1))) q i = hI H q i := fun q i hn => by rw [hI_sI, if_neg hn]
  exact ⟨((e _ _ (by omega)).trans h.nc), (by rw [hI_sI, if_pos ⟨rfl, rfl⟩]; rfl), ((e _ _ (by omega)).trans h.nf), ((e _ _ (by omega)).trans h.nt), ((e _ _ (by omega)).trans h.na), ((e _ _ (by omega)).trans h.sh), ((e _ _ (by omega)).trans h.sd), ((e _ _ (by omega)).trans h.nk), (fun k hk => ⟨(e _ _ (by omega)).trans (h.co k hk).1, (e _ _ (by omega)).trans (h.co k hk).2⟩), (fun k hk => by
    have hk : k < tNp T + 1 := hk
    rw [perT_pn, perT_ht, e _ _ (by omega), e _ _ (by omega), e _ _ (by omega)]
    show _ ∧ _ ∧ _ = nI (tSe T k)
    by_cases c : k = tNp T
    · rw [if_pos c, if_pos c, c, hs0]; exact ⟨h1, h2, h3⟩
    · rw [if_neg c, if_neg c]; exact h.pe k (by omega)), (fun k hk => ⟨(e _ _ (by omega)).trans (h.fa k hk).1, (e _ _ (by omega)).trans (h.fa k hk).2.1, (e _ _ (by omega)).trans (h.fa k hk).2.2⟩), (fun k hk => ⟨(e _ _ (by omega)).trans (h.te k hk).1, (e _ _ (by omega)).trans (h.te k hk).2⟩), (fun k hk => (e _ _ (by omega)).trans (h.as k hk)), (fun k hk => ⟨(e _ _ (by omega)).trans (h.lw k hk).1, (e _ _ (by omega)).trans (h.lw k hk).2⟩), (fun k hk => ⟨(e _ _ (by omega)).trans (h.kn k hk).1, (e _ _ (by omega)).trans (h.kn k hk).2⟩)⟩
theorem telT_f (k : Nat) : tTf (telT T i v) k = if k = tNt T then i else tTf T k := by
  show (if 11 = 0 ∧ k = 4 then tNt T + 1 else if 11 = 12 ∧ k = tNt T then v else if 11 = 11 ∧ k = tNt T then i else tTf T k) = _
  rw [if_neg (by omega), if_neg (by omega)]
  by_cases e : k = tNt T
  · rw [if_pos ⟨rfl, e⟩, if_pos e]
  · rw [if_neg (fun z => e z.2), if_neg e]
theorem telT_h (k : Nat) : tTh (telT T i v) k = if k = tNt T then v else tTh T k := by
  show (if 12 = 0 ∧ k = 4 then tNt T + 1 else if 12 = 12 ∧ k = tNt T then v else if 12 = 11 ∧ k = tNt T then i else tTh T k) = _
  rw [if_neg (by omega)]
  by_cases e : k = tNt T
  · rw [if_pos ⟨rfl, e⟩, if_pos e]
  · rw [if_neg (fun z => e z.2), if_neg (by omega), if_neg e]
theorem askT_h (k : Nat) : tAh (askT T v) k = if k = tNa T then v else tAh T k := by
  show (if 13 = 0 ∧ k = 5 then tNa T + 1 else if 13 = 13 ∧ k = tNa T then v else tAh T k) = _
  rw [if_neg (by omega)]
  by_cases e : k = tNa T
  · rw [if_pos ⟨rfl, e⟩, if_pos e]
  · rw [if_neg (fun z => e z.2), if_neg e]
theorem MxU.bTe (h : MxU H T N) (h1 : hI H 94 (12 + tNt T) = nI i) (h2 : hI H 95 (12 + tNt T) = nI v) : MxU (sI H 85 12 (nI (tNt T + 1))) (telT T i v) (N) := by
  have e : ∀ q i, ¬ (q = 85 ∧ i = 12) → hI (sI H 85 12 (nI (tNt T + 1))) q i = hI H q i := fun q i hn => by rw [hI_sI, if_neg hn]
  exact ⟨((e _ _ (by omega)).trans h.nc), ((e _ _ (by omega)).trans h.np), ((e _ _ (by omega)).trans h.nf), (by rw [hI_sI, if_pos ⟨rfl, rfl⟩]; rfl), ((e _ _ (by omega)).trans h.na), ((e _ _ (by omega)).trans h.sh), ((e _ _ (by omega)).trans h.sd), ((e _ _ (by omega)).trans h.nk), (fun k hk => ⟨(e _ _ (by omega)).trans (h.co k hk).1, (e _ _ (by omega)).trans (h.co k hk).2⟩), (fun k hk => ⟨(e _ _ (by omega)).trans (h.pe k hk).1, (e _ _ (by omega)).trans (h.pe k hk).2.1, (e _ _ (by omega)).trans (h.pe k hk).2.2⟩), (fun k hk => ⟨(e _ _ (by omega)).trans (h.fa k hk).1, (e _ _ (by omega)).trans (h.fa k hk).2.1, (e _ _ (by omega)).trans (h.fa k hk).2.2⟩), (fun k hk => by
    have hk : k < tNt T + 1 := hk
    rw [telT_f, telT_h, e _ _ (by omega), e _ _ (by omega)]
    by_cases c : k = tNt T
    · rw [if_pos c, if_pos c, c]; exact ⟨h1, h2⟩
    · rw [if_neg c, if_neg c]; exact h.te k (by omega)), (fun k hk => (e _ _ (by omega)).trans (h.as k hk)), (fun k hk => ⟨(e _ _ (by omega)).trans (h.lw k hk).1, (e _ _ (by omega)).trans (h.lw k hk).2⟩), (fun k hk => ⟨(e _ _ (by omega)).trans (h.kn k hk).1, (e _ _ (by omega)).trans (h.kn k hk).2⟩)⟩
theorem MxU.bAs (h : MxU H T N) (h1 : hI H 96 (12 + tNa T) = nI v) : MxU (sI H 85 13 (nI (tNa T + 1))) (askT T v) (N) := by
  have e : ∀ q i, ¬ (q = 85 ∧ i = 13) → hI (sI H 85 13 (nI (tNa T + 1))) q i = hI H q i := fun q i hn => by rw [hI_sI, if_neg hn]
  exact ⟨((e _ _ (by omega)).trans h.nc), ((e _ _ (by omega)).trans h.np), ((e _ _ (by omega)).trans h.nf), ((e _ _ (by omega)).trans h.nt), (by rw [hI_sI, if_pos ⟨rfl, rfl⟩]; rfl), ((e _ _ (by omega)).trans h.sh), ((e _ _ (by omega)).trans h.sd), ((e _ _ (by omega)).trans h.nk), (fun k hk => ⟨(e _ _ (by omega)).trans (h.co k hk).1, (e _ _ (by omega)).trans (h.co k hk).2⟩), (fun k hk => ⟨(e _ _ (by omega)).trans (h.pe k hk).1, (e _ _ (by omega)).trans (h.pe k hk).2.1, (e _ _ (by omega)).trans (h.pe k hk).2.2⟩), (fun k hk => ⟨(e _ _ (by omega)).trans (h.fa k hk).1, (e _ _ (by omega)).trans (h.fa k hk).2.1, (e _ _ (by omega)).trans (h.fa k hk).2.2⟩), (fun k hk => ⟨(e _ _ (by omega)).trans (h.te k hk).1, (e _ _ (by omega)).trans (h.te k hk).2⟩), (fun k hk => by
    have hk : k < tNa T + 1 := hk
    rw [askT_h, e _ _ (by omega)]
    by_cases c : k = tNa T
    · rw [if_pos c, c]; exact h1
    · rw [if_neg c]; exact h.as k (by omega)), (fun k hk => ⟨(e _ _ (by omega)).trans (h.lw k hk).1, (e _ _ (by omega)).trans (h.lw k hk).2⟩), (fun k hk => ⟨(e _ _ (by omega)).trans (h.kn k hk).1, (e _ _ (by omega)).trans (h.kn k hk).2⟩)⟩
theorem MxU.bSh (h : MxU H T N)  : MxU (sI H 85 14 (nI v)) (shyT T v) (N) := by
  have e : ∀ q i, ¬ (q = 85 ∧ i = 14) → hI (sI H 85 14 (nI v)) q i = hI H q i := fun q i hn => by rw [hI_sI, if_neg hn]
  exact ⟨((e _ _ (by omega)).trans h.nc), ((e _ _ (by omega)).trans h.np), ((e _ _ (by omega)).trans h.nf), ((e _ _ (by omega)).trans h.nt), ((e _ _ (by omega)).trans h.na), (by rw [hI_sI, if_pos ⟨rfl, rfl⟩]; rfl), ((e _ _ (by omega)).trans h.sd), ((e _ _ (by omega)).trans h.nk), (fun k hk => ⟨(e _ _ (by omega)).trans (h.co k hk).1, (e _ _ (by omega)).trans (h.co k hk).2⟩), (fun k hk => ⟨(e _ _ (by omega)).trans (h.pe k hk).1, (e _ _ (by omega)).trans (h.pe k hk).2.1, (e _ _ (by omega)).trans (h.pe k hk).2.2⟩), (fun k hk => ⟨(e _ _ (by omega)).trans (h.fa k hk).1, (e _ _ (by omega)).trans (h.fa k hk).2.1, (e _ _ (by omega)).trans (h.fa k hk).2.2⟩), (fun k hk => ⟨(e _ _ (by omega)).trans (h.te k hk).1, (e _ _ (by omega)).trans (h.te k hk).2⟩), (fun k hk => (e _ _ (by omega)).trans (h.as k hk)), (fun k hk => ⟨(e _ _ (by omega)).trans (h.lw k hk).1, (e _ _ (by omega)).trans (h.lw k hk).2⟩), (fun k hk => ⟨(e _ _ (by omega)).trans (h.kn k hk).1, (e _ _ (by omega)).trans (h.kn k hk).2⟩)⟩
theorem MxU.bSd (h : MxU H T N)  : MxU (sI H 85 15 (nI v)) (seeT T v) (N) := by
  have e : ∀ q i, ¬ (q = 85 ∧ i = 15) → hI (sI H 85 15 (nI v)) q i = hI H q i := fun q i hn => by rw [hI_sI, if_neg hn]
  exact ⟨((e _ _ (by omega)).trans h.nc), ((e _ _ (by omega)).trans h.np), ((e _ _ (by omega)).trans h.nf), ((e _ _ (by omega)).trans h.nt), ((e _ _ (by omega)).trans h.na), ((e _ _ (by omega)).trans h.sh), (by rw [hI_sI, if_pos ⟨rfl, rfl⟩]; rfl), ((e _ _ (by omega)).trans h.nk), (fun k hk => ⟨(e _ _ (by omega)).trans (h.co k hk).1, (e _ _ (by omega)).trans (h.co k hk).2⟩), (fun k hk => ⟨(e _ _ (by omega)).trans (h.pe k hk).1, (e _ _ (by omega)).trans (h.pe k hk).2.1, (e _ _ (by omega)).trans (h.pe k hk).2.2⟩), (fun k hk => ⟨(e _ _ (by omega)).trans (h.fa k hk).1, (e _ _ (by omega)).trans (h.fa k hk).2.1, (e _ _ (by omega)).trans (h.fa k hk).2.2⟩), (fun k hk => ⟨(e _ _ (by omega)).trans (h.te k hk).1, (e _ _ (by omega)).trans (h.te k hk).2⟩), (fun k hk => (e _ _ (by omega)).trans (h.as k hk)), (fun k hk => ⟨(e _ _ (by omega)).trans (h.lw k hk).1, (e _ _ (by omega)).trans (h.lw k hk).2⟩), (fun k hk => ⟨(e _ _ (by omega)).trans (h.kn k hk).1, (e _ _ (by omega)).trans (h.kn k hk).2⟩)⟩
theorem MxU.bFa (h : MxU H T N) {r : Nat} {w : Int64} (h1 : hI H 91 (8 + tNf T) = nI i) (h2 : hI H 92 (8 + tNf T) = nI v) (h3 : hI H 93 (8 + tNf T) = nI (r + 1)) : MxU (sI H 85 11 (nI (tNf T + 1))) (facT T i r w) (nfN N (tNf T) v) := by
  have e : ∀ q i, ¬ (q = 85 ∧ i = 11) → hI (sI H 85 11 (nI (tNf T + 1))) q i = hI H q i := fun q i hn => by rw [hI_sI, if_neg hn]
  exact ⟨((e _ _ (by omega)).trans h.nc), ((e _ _ (by omega)).trans h.np), (by rw [hI_sI, if_pos ⟨rfl, rfl⟩]; rfl), ((e _ _ (by omega)).trans h.nt), ((e _ _ (by omega)).trans h.na), ((e _ _ (by omega)).trans h.sh), ((e _ _ (by omega)).trans h.sd), ((e _ _ (by omega)).trans h.nk), (fun k hk => ⟨(e _ _ (by omega)).trans (h.co k hk).1, (e _ _ (by omega)).trans (h.co k hk).2⟩), (fun k hk => ⟨(e _ _ (by omega)).trans (h.pe k hk).1, (e _ _ (by omega)).trans (h.pe k hk).2.1, (e _ _ (by omega)).trans (h.pe k hk).2.2⟩), (fun k hk => by
    have hk : k < tNf T + 1 := hk
    rw [facT_n, facT_r, nfN_0, e _ _ (by omega), e _ _ (by omega), e _ _ (by omega)]
    by_cases c : k = tNf T
    · rw [if_pos c, if_pos c, if_pos c, c]; exact ⟨h1, h2, h3⟩
    · rw [if_neg c, if_neg c, if_neg c]; exact h.fa k (by omega)), (fun k hk => ⟨(e _ _ (by omega)).trans (h.te k hk).1, (e _ _ (by omega)).trans (h.te k hk).2⟩), (fun k hk => (e _ _ (by omega)).trans (h.as k hk)), (fun k hk => ⟨(e _ _ (by omega)).trans (h.lw k hk).1, (e _ _ (by omega)).trans (h.lw k hk).2⟩), (fun k hk => ⟨(e _ _ (by omega)).trans (h.kn k hk).1, (e _ _ (by omega)).trans (h.kn k hk).2⟩)⟩
end MN1
