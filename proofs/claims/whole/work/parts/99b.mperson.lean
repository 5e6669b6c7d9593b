/-! ===== the reference: person, sees ===== -/
section MN3
variable {S : xS} {H H1 H2 H3 : xH} {bt : Nat → Nat} {ln k p q i j l m n c t d a its v ls D w K : Nat} {s : uTk} {T T2 : uTx} {N : Nat → Nat → Nat} {A F : Nat → Prop}
def wQ (S : xS) (H H2 : xH) (bt : Nat → Nat) (ln : Nat) (s : uTk) (N : Nat → Nat → Nat) (r : rLn) : Prop := LoQ H H2 ∧ match r with
  | .inl (c, m) => FtQ H2 s c m
  | .inr (m, T') => LiP S H2 bt ln s N m T' ∧ hI H2 83 20 = hI H 83 20
theorem per_tail (hF : gFx S) (hK : 8 ≤ K) (hnp : tNp T < 6) (ft : FtQ H1 s c m) (hlo : LoQ H H1) (h10 : hI H1 85 10 = nI (tNp T)) : Xq mX11_personLine K 0 0 108 [some (.ref 83), some (vN (6 + tNp T)), none, none] [] S H1 (fun R => ∃ H2, (wQ S H H2 bt ln s (N) (.inl (c, m))) ∧ R = (none, S, H2)) := by
  have fa := ft.1; have fb := ft.2.2.1; have fc := ft.2.2.2.1
  refine xq_aload_n dX11_personLine_108 rfl rfl ?_
  refine xq_callV0N clX11 gd_X11_goOn dX11_personLine_109 ml_RX11_235 im_X11_goOn se_X11_goOn rfl (Fx.s83 hF) (by exact Nat.le_of_ble_eq_true rfl) (by omega) (m_goOn1 hF fa fb fc) ?_
  intro H109 p109
  subst p109
  refine xq_aload_n dX11_personLine_112 rfl rfl ?_
  refine xq_getF clX11 (by decide) rfl fl_RX11_28 dX11_personLine_113 (Fx.s83 hF) (Fx.r83_8 hF) ?_
  refine xq_iload_n dX11_personLine_116 rfl rfl ?_
  refine xq_iconst dX11_personLine_117 ic0 ?_
  refine xq_iastN dX11_personLine_118 (Fx.s90 hF) (by omega) (by decide) ?_
  refine xq_aload_n dX11_personLine_119 rfl rfl ?_
  refine xq_iconst dX11_personLine_120 ic1 ?_
  refine xq_aload_n dX11_personLine_121 rfl rfl ?_
  refine xq_iconst dX11_personLine_122 ic1 ?_
  refine xq_callV1P clX11 gd_X11_fresher dX11_personLine_123 ml_RX11_198 im_X11_fresher se_X11_fresher rfl (Fx.s83 hF) (by exact Nat.le_of_ble_eq_true rfl) (by omega) (m_fresher (w := 1) hF (by rw [hI_sI, if_neg (by omega)]; exact h10) (by decide)) ?_
  refine xq_iconst dX11_personLine_126 ic1 ?_
  refine xq_iaddN dX11_personLine_127 ?_
  refine xq_callV2N clX11 gd_X11_reads dX11_personLine_128 ml_RX11_219 im_X11_reads se_X11_reads rfl (Fx.s83 hF) (by exact Nat.le_of_ble_eq_true rfl) (by omega) (m_reads (w := 1) hF (by decide)) ?_
  intro H128 p128
  subst p128
  refine xq_vret dX11_personLine_131 rfl ?_
  exact ⟨_, ⟨(hlo.pU (a := 90) (by decide) (show 6 ≤ _ by omega) _).pb (by decide), (ft.pu (a := 90) (by decide)).pu (a := 85) (by decide)⟩, rfl⟩
theorem per_loop {QQ : xR → Prop} (hF : gFx S) (hnp : tNp T < 6) (hm : ∀ k, k < tNp T → hI H1 89 (6 + k) = nI (tHt T k)) (hv : hI H1 89 (6 + tNp T) = nI v) (hv3 : v < 3) (hht : ∀ k, k < tNp T → tHt T k < 3) (kk : Xq mX11_personLine K 0 0 79 [some (.ref 83), some (vN (6 + tNp T)), some (vN (ct (fun i => tHt T i == v) (tNp T))), none] [] S H1 QQ) : Xq mX11_personLine K 0 0 45 [some (.ref 83), some (vN (6 + tNp T)), some (vN 0), some (vN 6)] [] S H1 QQ := by
  have lp : ∀ (fz : Nat) (i : Nat), tNp T - i < fz → i ≤ tNp T → Xq mX11_personLine K 0 0 45 [some (.ref 83), some (vN (6 + tNp T)), some (vN (ct (fun i => tHt T i == v) i)), some (vN (6 + i))] [] S H1 QQ := by
    intro fz
    induction fz with
    | zero => intro i  hfz; exact absurd hfz (by omega)
    | succ fz ih =>
      intro i  hfz hi
      refine xq_iload_n dX11_personLine_45 rfl rfl ?_
      refine xq_iload_n dX11_personLine_46 rfl rfl ?_
      refine xq_icmp_geN dX11_personLine_47 rfl (by omega) (by omega) ⟨fun h47 => ?_, fun h47 => ?_⟩
      · skip
        have e : i = tNp T := by omega
        subst e
        exact xq_fgt kk (by exact And.intro rfl (And.intro rfl (And.intro rfl trivial)))
      · skip
        have hh := hm i (by omega)
        have hh3 := hht i (by omega)
        refine xq_iload_n dX11_personLine_50 rfl rfl ?_
        refine xq_aload_n dX11_personLine_51 rfl rfl ?_
        refine xq_getF clX11 (by decide) rfl fl_RX11_25 dX11_personLine_52 (Fx.s83 hF) (Fx.r83_7 hF) ?_
        refine xq_iload_n dX11_personLine_55 rfl rfl ?_
        refine xq_ialdN dX11_personLine_56 (Fx.s89 hF) (by omega) (by decide) hh ?_
        refine xq_aload_n dX11_personLine_57 rfl rfl ?_
        refine xq_getF clX11 (by decide) rfl fl_RX11_25 dX11_personLine_58 (Fx.s83 hF) (Fx.r83_7 hF) ?_
        refine xq_iload_n dX11_personLine_61 rfl rfl ?_
        refine xq_ialdN dX11_personLine_62 (Fx.s89 hF) (by omega) (by decide) hv ?_
        refine xq_icmp_neN dX11_personLine_63 rfl (by omega) (by omega) ⟨fun h63 => ?_, fun h63 => ?_⟩
        · skip
          refine xq_iconst dX11_personLine_70 ic0 ?_
          refine xq_iaddN dX11_personLine_71 ?_
          refine xq_istore_n dX11_personLine_72 rfl rfl ?_
          refine xq_iincN dX11_personLine_73 ic1 rfl rfl ?_
          refine xq_goto dX11_personLine_76 rfl ?_
          have z := ih (i + 1) (by omega) (by omega)
          rw [ct_f (f := (fun i => tHt T i == v)) (show (tHt T i == v) = false from beq_false_of_ne h63)] at z
          exact z
        · skip
          refine xq_iconst dX11_personLine_66 ic1 ?_
          refine xq_goto dX11_personLine_67 rfl ?_
          refine xq_iaddN dX11_personLine_71 ?_
          refine xq_istore_n dX11_personLine_72 rfl rfl ?_
          refine xq_iincN dX11_personLine_73 ic1 rfl rfl ?_
          refine xq_goto dX11_personLine_76 rfl ?_
          have z := ih (i + 1) (by omega) (by omega)
          rw [ct_t (f := (fun i => tHt T i == v)) (show (tHt T i == v) = true from by rw [h63]; exact beq_self_eq_true v)] at z
          exact z
  exact lp (tNp T + 1) 0 (by omega) (by omega)
theorem m_per_a (hF : gFx S) (hl : LiP S H bt ln s N (n + 1) T) (hti : TiP T) (hfu : ¬ 6 ≤ tNp T) (hse : tSe T (tNp T) = 0) (hst : ∀ c, c < tNc T → ct (fun i => tHt T i == c) (tNp T) ≤ tSt T c) (hb : freB s (n + 1) (tPn T) (tNp T) = false) : Nv mX11_personLine 8 [.ref 83] S H (fun H2 => wQ S H H2 bt ln s (N) (perR s n T)) := by
  have hsz := hti.sz
  obtain ⟨t1, t2, t3, t4, t5, t6, t7, t8, t9, t10, t11⟩ := hti
  have e : perR s n T = .inl (freF s (n + 1), n + 1) := (if_neg hfu).trans (if_pos hb)
  rw [e]
  refine vq_intro (by decide) (by exact Nat.le_of_ble_eq_true rfl) rfl ?_
  refine xq_bipush dX11_personLine_0 bp6 ?_
  refine xq_aload_n dX11_personLine_2 rfl rfl ?_
  refine xq_iconst dX11_personLine_3 ic1 ?_
  refine xq_callV1P clX11 gd_X11_fresher dX11_personLine_4 ml_RX11_198 im_X11_fresher se_X11_fresher rfl (Fx.s83 hF) (by exact Nat.le_of_ble_eq_true rfl) (by omega) (m_fresher (w := 1) hF hl.mx.np (by decide)) ?_
  refine xq_iaddN dX11_personLine_7 ?_
  refine xq_istore_n dX11_personLine_8 rfl rfl ?_
  refine xq_aload_n dX11_personLine_9 rfl rfl ?_
  refine xq_getF clX11 (by decide) rfl fl_RX11_22 dX11_personLine_10 (Fx.s83 hF) (Fx.r83_6 hF) ?_
  refine xq_iload_n dX11_personLine_13 rfl rfl ?_
  refine xq_aload_n dX11_personLine_14 rfl rfl ?_
  refine xq_aload_n dX11_personLine_15 rfl rfl ?_
  refine xq_getF clX11 (by decide) rfl fl_RX11_22 dX11_personLine_16 (Fx.s83 hF) (Fx.r83_6 hF) ?_
  refine xq_bipush dX11_personLine_19 bp6 ?_
  refine xq_aload_n dX11_personLine_21 rfl rfl ?_
  refine xq_iconst dX11_personLine_22 ic1 ?_
  refine xq_callV1P clX11 gd_X11_fresher dX11_personLine_23 ml_RX11_198 im_X11_fresher se_X11_fresher rfl (Fx.s83 hF) (by exact Nat.le_of_ble_eq_true rfl) (by omega) (m_fresher (w := 1) hF hl.mx.np (by decide)) ?_
  refine xq_callV3H clX11 gd_X11_fresh dX11_personLine_26 ml_RX11_212 im_X11_fresh se_X11_fresh rfl (Fx.s83 hF) (by exact Nat.le_of_ble_eq_true rfl) (by omega) (m_fresh0 hl.f26 hl.mt (Fx.s88 hF) (by decide) (by omega) (fun k hk => (hl.mx.pe k hk).1) hb) ?_
  intro x26 H26 p26
  obtain ⟨rfl, mf⟩ := p26
  have ft := (hl.ft mf freF_p freF_l).pu (a := 88) (k := 6 + tNp T) (z := nI 0) (by decide)
  have lo := (mfL LoQ.rf mf).pU (a := 88) (by decide) (show 6 ≤ 6 + tNp T by omega) (nI 0)
  have hmx1 := (hl.mx.off mf.2.2.1 (fun q h1 h2 z => by omega)).cell (a := 88) (i := 6 + tNp T) (z := nI 0) (by decide) (by omega)
  have fa := ft.1
  have fb := ft.2.2.1
  have fc := ft.2.2.2.1
  refine xq_iastN dX11_personLine_29 (Fx.s88 hF) (by omega) (by decide) ?_
  refine xq_aload_n dX11_personLine_30 rfl rfl ?_
  refine xq_getF clX11 (by decide) rfl fl_RX11_25 dX11_personLine_31 (Fx.s83 hF) (Fx.r83_7 hF) ?_
  refine xq_iload_n dX11_personLine_34 rfl rfl ?_
  refine xq_aload_n dX11_personLine_35 rfl rfl ?_
  refine xq_callV0P clX11 gd_X11_colourAtHand dX11_personLine_36 ml_RX11_247 im_X11_colourAtHand se_X11_colourAtHand rfl (Fx.s83 hF) (by exact Nat.le_of_ble_eq_true rfl) (by omega) (m_colourAtHandF hmx1 hF fa fb fc) ?_
  refine xq_iastN dX11_personLine_39 (Fx.s89 hF) (by omega) (by decide) ?_
  refine xq_iconst dX11_personLine_40 ic0 ?_
  refine xq_istore_n dX11_personLine_41 rfl rfl ?_
  refine xq_bipush dX11_personLine_42 bp6 ?_
  refine xq_istore_n dX11_personLine_44 rfl rfl ?_
  exact per_loop (v := 0) hF (by omega) (fun k hk => by rw [hI_sI, if_neg (by omega)]; exact (hmx1.pe k hk).2.1) (by rw [hI_sI, if_pos ⟨rfl, rfl⟩]) (by decide) t9 (by
    have fc0 := (ft.pu (a := 89) (k := 6 + tNp T) (z := nI 0) (by decide)).2.2.2.1
    have fp0 := (ft.pu (a := 89) (k := 6 + tNp T) (z := nI 0) (by decide)).2.2.1
    refine xq_aload_n dX11_personLine_79 rfl rfl ?_
    refine xq_getIE (v := nI (freF s (n + 1))) clX11 (by decide) rfl fl_RX11_182 dX11_personLine_80 (Fx.s83 hF) (ft.pu (a := 89) (k := 6 + tNp T) (z := nI 0) (by decide)).1 ?_
    refine xq_if_neN dX11_personLine_83 rfl (by omega) ⟨fun h83 => ?_, fun h83 => ?_⟩
    · skip
      exact xq_fgt (per_tail (T := T) hF (by decide) (by omega) (ft.pu (a := 89) (k := 6 + tNp T) (z := nI 0) (by decide)) (lo.pU (a := 89) (by decide) (show 6 ≤ 6 + tNp T by omega) (nI 0)) (by rw [hI_sI, if_neg (by omega)]; exact hmx1.np)) (by exact And.intro rfl (And.intro rfl trivial))
    · skip
      exact absurd h83 (by omega))
theorem m_per_b (hF : gFx S) (hl : LiP S H bt ln s N (n + 1) T) (hti : TiP T) (hfu : ¬ 6 ≤ tNp T) (hse : tSe T (tNp T) = 0) (hst : ∀ c, c < tNc T → ct (fun i => tHt T i == c) (tNp T) ≤ tSt T c) (hb : freB s (n + 1) (tPn T) (tNp T) = true) (hz : knoZ s (n + 2) (tCn T) (tNc T) = -1) : Nv mX11_personLine 8 [.ref 83] S H (fun H2 => wQ S H H2 bt ln s (N) (perR s n T)) := by
  have hsz := hti.sz
  obtain ⟨t1, t2, t3, t4, t5, t6, t7, t8, t9, t10, t11⟩ := hti
  have e : perR s n T = .inl (knoF s (n + 2), n + 2) := (if_neg hfu).trans ((if_neg (by rw [hb]; decide)).trans (if_pos hz))
  rw [e]
  refine vq_intro (by decide) (by exact Nat.le_of_ble_eq_true rfl) rfl ?_
  refine xq_bipush dX11_personLine_0 bp6 ?_
  refine xq_aload_n dX11_personLine_2 rfl rfl ?_
  refine xq_iconst dX11_personLine_3 ic1 ?_
  refine xq_callV1P clX11 gd_X11_fresher dX11_personLine_4 ml_RX11_198 im_X11_fresher se_X11_fresher rfl (Fx.s83 hF) (by exact Nat.le_of_ble_eq_true rfl) (by omega) (m_fresher (w := 1) hF hl.mx.np (by decide)) ?_
  refine xq_iaddN dX11_personLine_7 ?_
  refine xq_istore_n dX11_personLine_8 rfl rfl ?_
  refine xq_aload_n dX11_personLine_9 rfl rfl ?_
  refine xq_getF clX11 (by decide) rfl fl_RX11_22 dX11_personLine_10 (Fx.s83 hF) (Fx.r83_6 hF) ?_
  refine xq_iload_n dX11_personLine_13 rfl rfl ?_
  refine xq_aload_n dX11_personLine_14 rfl rfl ?_
  refine xq_aload_n dX11_personLine_15 rfl rfl ?_
  refine xq_getF clX11 (by decide) rfl fl_RX11_22 dX11_personLine_16 (Fx.s83 hF) (Fx.r83_6 hF) ?_
  refine xq_bipush dX11_personLine_19 bp6 ?_
  refine xq_aload_n dX11_personLine_21 rfl rfl ?_
  refine xq_iconst dX11_personLine_22 ic1 ?_
  refine xq_callV1P clX11 gd_X11_fresher dX11_personLine_23 ml_RX11_198 im_X11_fresher se_X11_fresher rfl (Fx.s83 hF) (by exact Nat.le_of_ble_eq_true rfl) (by omega) (m_fresher (w := 1) hF hl.mx.np (by decide)) ?_
  refine xq_callV3H clX11 gd_X11_fresh dX11_personLine_26 ml_RX11_212 im_X11_fresh se_X11_fresh rfl (Fx.s83 hF) (by exact Nat.le_of_ble_eq_true rfl) (by omega) (m_fresh1 hl.f26 hl.mt (Fx.s88 hF) (by decide) (by omega) (fun k hk => (hl.mx.pe k hk).1) hb) ?_
  intro x26 H26 p26
  obtain ⟨rfl, g1, g2⟩ := p26
  have hl1 := hl.tk g1 g2
  have lo1 := tkL LoQ.rf g2
  have hl2 := hl1.cell (a := 88) (i := 6 + tNp T) (z := nI (kV s (n + 1))) (by decide) (by omega)
  have lo2 := lo1.pU (a := 88) (by decide) (show 6 ≤ 6 + tNp T by omega) (nI (kV s (n + 1)))
  refine xq_iastN dX11_personLine_29 (Fx.s88 hF) (by omega) (by decide) ?_
  refine xq_aload_n dX11_personLine_30 rfl rfl ?_
  refine xq_getF clX11 (by decide) rfl fl_RX11_25 dX11_personLine_31 (Fx.s83 hF) (Fx.r83_7 hF) ?_
  refine xq_iload_n dX11_personLine_34 rfl rfl ?_
  refine xq_aload_n dX11_personLine_35 rfl rfl ?_
  refine xq_callV0H clX11 gd_X11_colourAtHand dX11_personLine_36 ml_RX11_247 im_X11_colourAtHand se_X11_colourAtHand rfl (Fx.s83 hF) (by exact Nat.le_of_ble_eq_true rfl) (by omega) (m_colourAtHand0 hl2.mx hsz hl2.f26 hl2.mt hz) ?_
  intro x36 H36 p36
  obtain ⟨rfl, mf⟩ := p36
  have ft : FtQ H36 s (knoF s (n + 2)) (n + 2) := hl2.ft mf knoF_p knoF_l
  have lo := mfL lo2 mf
  have hmx1 := hl2.mx.off mf.2.2.1 (fun q h1 h2 z => by omega)
  refine xq_iastN dX11_personLine_39 (Fx.s89 hF) (by omega) (by decide) ?_
  refine xq_iconst dX11_personLine_40 ic0 ?_
  refine xq_istore_n dX11_personLine_41 rfl rfl ?_
  refine xq_bipush dX11_personLine_42 bp6 ?_
  refine xq_istore_n dX11_personLine_44 rfl rfl ?_
  exact per_loop (v := 0) hF (by omega) (fun k hk => by rw [hI_sI, if_neg (by omega)]; exact (hmx1.pe k hk).2.1) (by rw [hI_sI, if_pos ⟨rfl, rfl⟩]) (by decide) t9 (by
    have fc0 := (ft.pu (a := 89) (k := 6 + tNp T) (z := nI 0) (by decide)).2.2.2.1
    have fp0 := (ft.pu (a := 89) (k := 6 + tNp T) (z := nI 0) (by decide)).2.2.1
    refine xq_aload_n dX11_personLine_79 rfl rfl ?_
    refine xq_getIE (v := nI (knoF s (n + 2))) clX11 (by decide) rfl fl_RX11_182 dX11_personLine_80 (Fx.s83 hF) (ft.pu (a := 89) (k := 6 + tNp T) (z := nI 0) (by decide)).1 ?_
    refine xq_if_neN dX11_personLine_83 rfl (by omega) ⟨fun h83 => ?_, fun h83 => ?_⟩
    · skip
      exact xq_fgt (per_tail (T := T) hF (by decide) (by omega) (ft.pu (a := 89) (k := 6 + tNp T) (z := nI 0) (by decide)) (lo.pU (a := 89) (by decide) (show 6 ≤ 6 + tNp T by omega) (nI 0)) (by rw [hI_sI, if_neg (by omega)]; exact hmx1.np)) (by exact And.intro rfl (And.intro rfl trivial))
    · skip
      exact absurd h83 (by omega))
theorem m_per_c (hF : gFx S) (hl : LiP S H bt ln s N (n + 1) T) (hti : TiP T) (hfu : ¬ 6 ≤ tNp T) (hse : tSe T (tNp T) = 0) (hst : ∀ c, c < tNc T → ct (fun i => tHt T i == c) (tNp T) ≤ tSt T c) (hb : freB s (n + 1) (tPn T) (tNp T) = true) (e39 : kK s (n + 2) = 39) (hve : v = (fdn (tCn T) (tNc T) (kV s (n + 2)))) (hv : v < tNc T) (hz1 : ¬ knoZ s (n + 2) (tCn T) (tNc T) = -1) (hz2 : (knoZ s (n + 2) (tCn T) (tNc T)).toNat = v) : Nv mX11_personLine 8 [.ref 83] S H (fun H2 => wQ S H H2 bt ln s (N) (perR s n T)) := by
  have hsz := hti.sz
  obtain ⟨t1, t2, t3, t4, t5, t6, t7, t8, t9, t10, t11⟩ := hti

  refine vq_intro (by decide) (by exact Nat.le_of_ble_eq_true rfl) rfl ?_
  refine xq_bipush dX11_personLine_0 bp6 ?_
  refine xq_aload_n dX11_personLine_2 rfl rfl ?_
  refine xq_iconst dX11_personLine_3 ic1 ?_
  refine xq_callV1P clX11 gd_X11_fresher dX11_personLine_4 ml_RX11_198 im_X11_fresher se_X11_fresher rfl (Fx.s83 hF) (by exact Nat.le_of_ble_eq_true rfl) (by omega) (m_fresher (w := 1) hF hl.mx.np (by decide)) ?_
  refine xq_iaddN dX11_personLine_7 ?_
  refine xq_istore_n dX11_personLine_8 rfl rfl ?_
  refine xq_aload_n dX11_personLine_9 rfl rfl ?_
  refine xq_getF clX11 (by decide) rfl fl_RX11_22 dX11_personLine_10 (Fx.s83 hF) (Fx.r83_6 hF) ?_
  refine xq_iload_n dX11_personLine_13 rfl rfl ?_
  refine xq_aload_n dX11_personLine_14 rfl rfl ?_
  refine xq_aload_n dX11_personLine_15 rfl rfl ?_
  refine xq_getF clX11 (by decide) rfl fl_RX11_22 dX11_personLine_16 (Fx.s83 hF) (Fx.r83_6 hF) ?_
  refine xq_bipush dX11_personLine_19 bp6 ?_
  refine xq_aload_n dX11_personLine_21 rfl rfl ?_
  refine xq_iconst dX11_personLine_22 ic1 ?_
  refine xq_callV1P clX11 gd_X11_fresher dX11_personLine_23 ml_RX11_198 im_X11_fresher se_X11_fresher rfl (Fx.s83 hF) (by exact Nat.le_of_ble_eq_true rfl) (by omega) (m_fresher (w := 1) hF hl.mx.np (by decide)) ?_
  refine xq_callV3H clX11 gd_X11_fresh dX11_personLine_26 ml_RX11_212 im_X11_fresh se_X11_fresh rfl (Fx.s83 hF) (by exact Nat.le_of_ble_eq_true rfl) (by omega) (m_fresh1 hl.f26 hl.mt (Fx.s88 hF) (by decide) (by omega) (fun k hk => (hl.mx.pe k hk).1) hb) ?_
  intro x26 H26 p26
  obtain ⟨rfl, g1, g2⟩ := p26
  have hl1 := hl.tk g1 g2
  have lo1 := tkL LoQ.rf g2
  have hl2 := hl1.cell (a := 88) (i := 6 + tNp T) (z := nI (kV s (n + 1))) (by decide) (by omega)
  have lo2 := lo1.pU (a := 88) (by decide) (show 6 ≤ 6 + tNp T by omega) (nI (kV s (n + 1)))
  refine xq_iastN dX11_personLine_29 (Fx.s88 hF) (by omega) (by decide) ?_
  refine xq_aload_n dX11_personLine_30 rfl rfl ?_
  refine xq_getF clX11 (by decide) rfl fl_RX11_25 dX11_personLine_31 (Fx.s83 hF) (Fx.r83_7 hF) ?_
  refine xq_iload_n dX11_personLine_34 rfl rfl ?_
  refine xq_aload_n dX11_personLine_35 rfl rfl ?_
  refine xq_callV0P clX11 gd_X11_colourAtHand dX11_personLine_36 ml_RX11_247 im_X11_colourAtHand se_X11_colourAtHand rfl (Fx.s83 hF) (by exact Nat.le_of_ble_eq_true rfl) (by omega) (m_colourAtHand1 hl2.mx hsz hl2.f26 hl2.mt e39 (hve ▸ hv)) ?_
  rw [← hve]
  refine xq_iastN dX11_personLine_39 (Fx.s89 hF) (by omega) (by decide) ?_
  refine xq_iconst dX11_personLine_40 ic0 ?_
  refine xq_istore_n dX11_personLine_41 rfl rfl ?_
  refine xq_bipush dX11_personLine_42 bp6 ?_
  refine xq_istore_n dX11_personLine_44 rfl rfl ?_
  have hl3 := hl2.cell (a := 89) (i := 6 + tNp T) (z := nI v) (by decide) (by omega)
  have lo3 := lo2.pU (a := 89) (by decide) (show 6 ≤ 6 + tNp T by omega) (nI v)
  have h89 : hI (sI (sI H26 88 (6 + tNp T) (nI (kV s (n + 1)))) 89 (6 + tNp T) (nI v)) 89 (6 + tNp T) = nI v := by rw [hI_sI, if_pos ⟨rfl, rfl⟩]
  have h88 : hI (sI (sI H26 88 (6 + tNp T) (nI (kV s (n + 1)))) 89 (6 + tNp T) (nI v)) 88 (6 + tNp T) = nI (kV s (n + 1)) := by rw [hI_sI, if_neg (by omega), hI_sI, if_pos ⟨rfl, rfl⟩]
  have h20 : hI (sI (sI H26 88 (6 + tNp T) (nI (kV s (n + 1)))) 89 (6 + tNp T) (nI v)) 83 20 = hI H 83 20 := by rw [hI_sI, if_neg (by omega), hI_sI, if_neg (by omega)]; exact tk20 g2
  have hcl := ct_le (fun i => tHt T i == v) (tNp T)
  have hstv := hst v hv
  have hst6 := t10 v hv
  exact per_loop (v := v) hF (by omega) (fun k hk => (hl3.mx.pe k hk).2.1) h89 (by omega) t9 (by
    refine xq_aload_n dX11_personLine_79 rfl rfl ?_
    refine xq_getIE (v := nI 0) clX11 (by decide) rfl fl_RX11_182 dX11_personLine_80 (Fx.s83 hF) hl3.f26 ?_
    refine xq_if_neN dX11_personLine_83 rfl (by omega) ⟨fun h83 => ?_, fun h83 => ?_⟩
    · skip
      exact absurd rfl h83
    · skip
      refine xq_iload_n dX11_personLine_86 rfl rfl ?_
      refine xq_aload_n dX11_personLine_87 rfl rfl ?_
      refine xq_getF clX11 (by decide) rfl fl_RX11_19 dX11_personLine_88 (Fx.s83 hF) (Fx.r83_5 hF) ?_
      refine xq_iconst dX11_personLine_91 ic3 ?_
      refine xq_aload_n dX11_personLine_92 rfl rfl ?_
      refine xq_getF clX11 (by decide) rfl fl_RX11_25 dX11_personLine_93 (Fx.s83 hF) (Fx.r83_7 hF) ?_
      refine xq_iload_n dX11_personLine_96 rfl rfl ?_
      refine xq_ialdN dX11_personLine_97 (Fx.s89 hF) (by omega) (by decide) h89 ?_
      refine xq_iaddN dX11_personLine_98 ?_
      refine xq_ialdN dX11_personLine_99 (Fx.s87 hF) (by omega) (by decide) (hl3.mx.co v hv).2 ?_
      refine xq_icmp_neN dX11_personLine_100 rfl (by omega) (by omega) ⟨fun h100 => ?_, fun h100 => ?_⟩
      · skip
        refine xq_aload_n dX11_personLine_108 rfl rfl ?_
        refine xq_callV0N clX11 gd_X11_goOn dX11_personLine_109 ml_RX11_235 im_X11_goOn se_X11_goOn rfl (Fx.s83 hF) (by exact Nat.le_of_ble_eq_true rfl) (by omega) (m_goOn hl3.f26 hl3.mt (kK_in (ne39 e39) hl3.mt.lx)) ?_
        intro H109 p109
        obtain ⟨g1b, g2b⟩ := p109
        have hl4 := hl3.tk g1b g2b
        have lo4 := tkL lo3 g2b
        have hl5 := hl4.cell (a := 90) (i := 6 + tNp T) (z := nI 0) (by decide) (by omega)
        have lo5 := lo4.pU (a := 90) (by decide) (show 6 ≤ 6 + tNp T by omega) (nI 0)
        refine xq_aload_n dX11_personLine_112 rfl rfl ?_
        refine xq_getF clX11 (by decide) rfl fl_RX11_28 dX11_personLine_113 (Fx.s83 hF) (Fx.r83_8 hF) ?_
        refine xq_iload_n dX11_personLine_116 rfl rfl ?_
        refine xq_iconst dX11_personLine_117 ic0 ?_
        refine xq_iastN dX11_personLine_118 (Fx.s90 hF) (by omega) (by decide) ?_
        refine xq_aload_n dX11_personLine_119 rfl rfl ?_
        refine xq_iconst dX11_personLine_120 ic1 ?_
        refine xq_aload_n dX11_personLine_121 rfl rfl ?_
        refine xq_iconst dX11_personLine_122 ic1 ?_
        refine xq_callV1P clX11 gd_X11_fresher dX11_personLine_123 ml_RX11_198 im_X11_fresher se_X11_fresher rfl (Fx.s83 hF) (by exact Nat.le_of_ble_eq_true rfl) (by omega) (m_fresher (w := 1) hF hl5.mx.np (by decide)) ?_
        refine xq_iconst dX11_personLine_126 ic1 ?_
        refine xq_iaddN dX11_personLine_127 ?_
        refine xq_callV2N clX11 gd_X11_reads dX11_personLine_128 ml_RX11_219 im_X11_reads se_X11_reads rfl (Fx.s83 hF) (by exact Nat.le_of_ble_eq_true rfl) (by omega) (m_reads (w := 1) hF (by decide)) ?_
        intro H128 p128
        subst p128
        refine xq_vret dX11_personLine_131 rfl ?_
        have e : perR s n T = .inr (n + 3, perT T (kV s (n + 1)) v) := (if_neg hfu).trans ((if_neg (by rw [hb]; decide)).trans ((if_neg hz1).trans ((if_neg (by rw [hz2]; omega)).trans (by rw [hz2]))))
        rw [e]
        have a88 : hI (sI H109 90 (6 + tNp T) (nI 0)) 88 (6 + tNp T) = nI (kV s (n + 1)) := by rw [hI_sI, if_neg (by omega)]; exact (g2b.1.I (by omega) _).trans h88
        have a89 : hI (sI H109 90 (6 + tNp T) (nI 0)) 89 (6 + tNp T) = nI v := by rw [hI_sI, if_neg (by omega)]; exact (g2b.1.I (by omega) _).trans h89
        have hl6 := hl5.bump (T2 := perT T (kV s (n + 1)) v) (by decide) (hl5.mx.bPe a88 a89 (by rw [hI_sI, if_pos ⟨rfl, rfl⟩]) hse) rfl rfl rfl rfl rfl (fun p hp => rfl)
        exact ⟨_, ⟨lo5.pb (by decide), hl6, by rw [hI_sI, if_neg (by omega), hI_sI, if_neg (by omega)]; exact (tk20 g2b).trans h20⟩, rfl⟩
      · skip
        refine xq_aload_n dX11_personLine_103 rfl rfl ?_
        refine xq_iconst dX11_personLine_104 ic5 ?_
        refine xq_callV1N clX11 gd_X11_wrong dX11_personLine_105 ml_RX11_191 im_X11_wrong se_X11_wrong rfl (Fx.s83 hF) (by exact Nat.le_of_ble_eq_true rfl) (by omega) (m_wrong0 hF hl3.f26 hl3.mt.pl) ?_
        intro H105 p105
        subst p105
        have mf := wr_mf (c := 5) hl3.mt
        have ft := hl3.ft mf (by decide) (by decide)
        have e : perR s n T = .inl (5, n + 2) := (if_neg hfu).trans ((if_neg (by rw [hb]; decide)).trans ((if_neg hz1).trans (if_pos (by rw [hz2]; omega))))
        rw [e]
        exact xq_fgt (per_tail (T := T) hF (by decide) (by omega) (ft) (mfL lo3 mf) ((mf.2.2.1.I (by omega) 10).trans hl3.mx.np)) (by exact And.intro rfl (And.intro rfl trivial)))
theorem m_personLine (hF : gFx S) (hl : LiP S H bt ln s N (n + 1) T) (hti : TiP T) (hfu : ¬ 6 ≤ tNp T) (hse : tSe T (tNp T) = 0) (hst : ∀ c, c < tNc T → ct (fun i => tHt T i == c) (tNp T) ≤ tSt T c) : Nv mX11_personLine 8 [.ref 83] S H (fun H2 => wQ S H H2 bt ln s (N) (perR s n T)) := by
  by_cases hb : freB s (n + 1) (tPn T) (tNp T) = false
  · exact m_per_a hF hl hti hfu hse hst hb
  · have hb : freB s (n + 1) (tPn T) (tNp T) = true := by simpa using hb
    by_cases hz : knoZ s (n + 2) (tCn T) (tNc T) = -1
    · exact m_per_b hF hl hti hfu hse hst hb hz
    · obtain ⟨e39, hvv, ev⟩ := zP_v (s := s) (n := n + 2) (cd := tCn T) (sz := tNc T) hz
      exact m_per_c hF hl hti hfu hse hst hb e39 rfl hvv hz ev
theorem see_f (hF : gFx S) (ft : FtQ H1 s c m) (hlo : LoQ H H1) : Xq mX11_seesLine K 0 0 39 [some (.ref 83), none, none, none, none] [] S H1 (fun R => ∃ H2, (wQ S H H2 bt ln s (N) (.inl (c, m))) ∧ R = (none, S, H2)) := by
  have fa := ft.1; have fb := ft.2.2.1; have fc := ft.2.2.2.1
  refine xq_aload_n dX11_seesLine_39 rfl rfl ?_
  refine xq_getIE (v := nI c) clX11 (by decide) rfl fl_RX11_182 dX11_seesLine_40 (Fx.s83 hF) ft.1 ?_
  refine xq_if_neN dX11_seesLine_43 rfl (by omega) ⟨fun h43 => ?_, fun h43 => ?_⟩
  · skip
    refine xq_aload_n dX11_seesLine_124 rfl rfl ?_
    refine xq_getIE (v := nI c) clX11 (by decide) rfl fl_RX11_182 dX11_seesLine_125 (Fx.s83 hF) ft.1 ?_
    refine xq_if_eqN dX11_seesLine_128 rfl (by omega) ⟨fun h128 => ?_, fun h128 => ?_⟩
    · skip
      exact absurd h128 (by omega)
    · skip
      refine xq_vret dX11_seesLine_131 rfl ?_
      exact ⟨_, ⟨hlo, ft⟩, rfl⟩
  · skip
    exact absurd h43 (by omega)
theorem MxU.see {z : Int32} (h : MxU H T N) (hp : p < tNp T) : MxU (sI (sI H 90 (6 + p) (nI w)) 85 17 z) (setT T 8 p w) N := by
  have e : ∀ q j, ¬ (q = 85 ∧ j = 17) → ¬ (q = 90 ∧ j = 6 + p) → hI (sI (sI H 90 (6 + p) (nI w)) 85 17 z) q j = hI H q j := fun q j h1 h2 => by rw [hI_sI, if_neg h1, hI_sI, if_neg h2]
  exact ⟨(e _ _ (by omega) (by omega)).trans h.nc, (e _ _ (by omega) (by omega)).trans h.np, (e _ _ (by omega) (by omega)).trans h.nf, (e _ _ (by omega) (by omega)).trans h.nt, (e _ _ (by omega) (by omega)).trans h.na, (e _ _ (by omega) (by omega)).trans h.sh, (e _ _ (by omega) (by omega)).trans h.sd, (e _ _ (by omega) (by omega)).trans h.nk, fun k hk => ⟨(e _ _ (by omega) (by omega)).trans (h.co k hk).1, (e _ _ (by omega) (by omega)).trans (h.co k hk).2⟩, fun k hk => ⟨(e _ _ (by omega) (by omega)).trans (h.pe k hk).1, (e _ _ (by omega) (by omega)).trans (h.pe k hk).2.1, by
    rw [setT_se]
    by_cases ek : k = p
    · rw [if_pos ek, ek, hI_sI, if_neg (by omega), hI_sI, if_pos ⟨rfl, rfl⟩]
    · rw [if_neg ek]; exact (e _ _ (by omega) (by omega)).trans (h.pe k hk).2.2⟩, fun k hk => ⟨(e _ _ (by omega) (by omega)).trans (h.fa k hk).1, (e _ _ (by omega) (by omega)).trans (h.fa k hk).2.1, (e _ _ (by omega) (by omega)).trans (h.fa k hk).2.2⟩, fun k hk => ⟨(e _ _ (by omega) (by omega)).trans (h.te k hk).1, (e _ _ (by omega) (by omega)).trans (h.te k hk).2⟩, fun k hk => (e _ _ (by omega) (by omega)).trans (h.as k hk), fun k hk => ⟨(e _ _ (by omega) (by omega)).trans (h.lw k hk).1, (e _ _ (by omega) (by omega)).trans (h.lw k hk).2⟩, fun k hk => ⟨(e _ _ (by omega) (by omega)).trans (h.kn k hk).1, (e _ _ (by omega) (by omega)).trans (h.kn k hk).2⟩⟩
theorem LiP.see (h : LiP S H bt ln s N n T) (c1 : hI H 85 17 = nI v) (c2 : v < 64) (c3 : ∀ p, p < 6 → v.testBit p = decide (tSe T p ≠ 0)) (hp : p < tNp T ∧ p < 6) (hw0 : w ≠ 0) : LiP S (sI (sI H 90 (6 + p) (nI w)) 85 17 (nI (v ||| 1 <<< p))) bt ln s N n (setT T 8 p w) := by
  obtain ⟨v1, b1, b2⟩ := h.tol
  have e : ∀ k, hI (sI (sI H 90 (6 + p) (nI w)) 85 17 (nI (v ||| 1 <<< p))) 83 k = hI H 83 k := fun k => by rw [hI_sI, if_neg (by omega), hI_sI, if_neg (by omega)]
  refine ⟨h.mt.off (A := fun q => q = 85 ∨ q = 90) (F := fun k => False) ⟨Off.pI (A := fun q => q = 85 ∨ q = 90) (Off.pI (A := fun q => q = 85 ∨ q = 90) Off.rf (Or.inr rfl) _ _) (Or.inl rfl) _ _, fun k _ => e k⟩ (by decide) (fun k h1 h2 z => z), h.mx.see hp.1, (e _).trans h.f26, (e _).trans h.f30, (e _).trans h.f31, ⟨v1, (e _).trans b1, b2⟩, ⟨_, by rw [hI_sI, if_pos ⟨rfl, rfl⟩], or64 c2 (shl64 hp.2), fun q hq => ?_⟩⟩
  rw [setT_se]
  by_cases ek : q = p
  · rw [if_pos ek, ek, tb_or2]; exact (decide_eq_true hw0).symm
  · rw [if_neg ek, tb_or1 ek]; exact c3 q hq
theorem see_d (hF : gFx S) (hK : 2 ≤ K) (hl : LiP S H1 bt ln s N m T) (hlo : LoQ H H1) (h20 : hI H1 83 20 = hI H 83 20) (hp : p < tNp T ∧ p < 6) (hw : w < 64) (hw0 : w ≠ 0) : Xq mX11_seesLine K 0 0 39 [some (.ref 83), some (vN p), some (vN w), some (vN 0), none] [] S H1 (fun R => ∃ H2, (wQ S H H2 bt ln s (N) (.inr (m, setT T 8 p w))) ∧ R = (none, S, H2)) := by
  obtain ⟨v, b1, b2, b3⟩ := hl.srs
  refine xq_aload_n dX11_seesLine_39 rfl rfl ?_
  refine xq_getIE (v := nI 0) clX11 (by decide) rfl fl_RX11_182 dX11_seesLine_40 (Fx.s83 hF) hl.f26 ?_
  refine xq_if_neN dX11_seesLine_43 rfl (by omega) ⟨fun h43 => ?_, fun h43 => ?_⟩
  · skip
    exact absurd rfl h43
  · skip
    refine xq_iload_n dX11_seesLine_46 rfl rfl ?_
    refine xq_if_eqN dX11_seesLine_47 rfl (by omega) ⟨fun h47 => ?_, fun h47 => ?_⟩
    · skip
      refine xq_aload_n dX11_seesLine_124 rfl rfl ?_
      refine xq_getIE (v := nI 0) clX11 (by decide) rfl fl_RX11_182 dX11_seesLine_125 (Fx.s83 hF) hl.f26 ?_
      refine xq_if_eqN dX11_seesLine_128 rfl (by omega) ⟨fun h128 => ?_, fun h128 => ?_⟩
      · skip
        refine xq_aload_n dX11_seesLine_132 rfl rfl ?_
        refine xq_getF clX11 (by decide) rfl fl_RX11_28 dX11_seesLine_133 (Fx.s83 hF) (Fx.r83_8 hF) ?_
        refine xq_bipush dX11_seesLine_136 bp6 ?_
        refine xq_iload_n dX11_seesLine_138 rfl rfl ?_
        refine xq_iaddN dX11_seesLine_139 ?_
        refine xq_iload_n dX11_seesLine_140 rfl rfl ?_
        refine xq_iastN dX11_seesLine_141 (Fx.s90 hF) (by omega) (by decide) ?_
        refine xq_aload_n dX11_seesLine_142 rfl rfl ?_
        refine xq_bipush dX11_seesLine_143 bp8 ?_
        refine xq_aload_n dX11_seesLine_145 rfl rfl ?_
        refine xq_bipush dX11_seesLine_146 bp8 ?_
        refine xq_callV1P clX11 gd_X11_fresher dX11_seesLine_148 ml_RX11_198 im_X11_fresher se_X11_fresher rfl (Fx.s83 hF) (by exact Nat.le_of_ble_eq_true rfl) (by omega) (m_fresher (w := 8) hF (by rw [hI_sI, if_neg (by omega)]; exact b1) (by decide)) ?_
        refine xq_iconst dX11_seesLine_151 ic1 ?_
        refine xq_iload_n dX11_seesLine_152 rfl rfl ?_
        refine xq_ishlN dX11_seesLine_153 (by omega) ?_
        refine xq_iorN dX11_seesLine_154 ?_
        refine xq_callV2N clX11 gd_X11_reads dX11_seesLine_155 ml_RX11_219 im_X11_reads se_X11_reads rfl (Fx.s83 hF) (by exact Nat.le_of_ble_eq_true rfl) (by omega) (m_reads (w := 8) hF (by decide)) ?_
        intro H155 p155
        subst p155
        refine xq_vret dX11_seesLine_158 rfl ?_
        exact ⟨_, ⟨(hlo.pU (a := 90) (by decide) (show 6 ≤ 6 + p by omega) _).pb (by decide), LiP.see hl b1 b2 b3 hp hw0, by rw [hI_sI, if_neg (by omega), hI_sI, if_neg (by omega)]; exact h20⟩, rfl⟩
      · skip
        exact absurd rfl h128
    · skip
      first | exact absurd h47 (by decide) | exact absurd rfl h47
theorem or0 {a b : Nat} (hb : b ≠ 0) : a ||| b ≠ 0 := fun z => hb (by
  have := Nat.or_eq_zero_iff.mp z
  exact this.2)
theorem ct_or (w q : Nat) (h : w.testBit q = false) : ∀ n, ct (fun i => (w ||| 1 <<< q).testBit i) n = ct (fun i => w.testBit i) n + if q < n then 1 else 0
  | 0 => rfl
  | n + 1 => by
    have ih := ct_or w q h n
    by_cases e : n = q
    · rw [ct_t (f := fun i => (w ||| 1 <<< q).testBit i) (show (w ||| 1 <<< q).testBit n = true from e ▸ tb_or2), ih, ct_f (f := fun i => w.testBit i) (show w.testBit n = false from e ▸ h), if_neg (by omega), if_pos (by omega)]
    · have e1 : ((if q < n + 1 then 1 else 0) : Nat) = if q < n then 1 else 0 := ite_c (by omega)
      rw [e1]
      cases e2 : w.testBit n with
      | true => rw [ct_t (f := fun i => (w ||| 1 <<< q).testBit i) (show (w ||| 1 <<< q).testBit n = true from (tb_or1 e).trans e2), ih, ct_t (f := fun i => w.testBit i) e2]; omega
      | false => rw [ct_f (f := fun i => (w ||| 1 <<< q).testBit i) (show (w ||| 1 <<< q).testBit n = false from (tb_or1 e).trans e2), ih, ct_f (f := fun i => w.testBit i) e2]
theorem ct_5 {w p : Nat} (hp : p < 6) (h : w.testBit p = false) : ct (fun i => w.testBit i) 6 ≤ 5 := by
  have h1 := ct_or w p h 6
  have h2 := ct_le (fun i => (w ||| 1 <<< p).testBit i) 6
  rw [if_pos hp] at h1
  omega
theorem nb39 {so va : Int32} {K V : Nat} (h : MsV so va K V) (hs : ¬ so = nI 1) : K ≠ 39 := fun z => hs (h.2.1 z).1
theorem see_loop (hF : gFx S) (hl : LiP S H bt ln s N (n + 1) T) (hti : TiP T) (hp : p < tNp T ∧ p < 6) (heq : seeR s n T = seeL s T p 6 0 (n + 2) 0) (hl2 : LiP S H2 bt ln s N (n + 2) T) (hlo : LoQ H H2) (h20 : hI H2 83 20 = hI H 83 20) : Xq mX11_seesLine 8 0 0 39 [some (.ref 83), some (vN p), some (vN 0), some (vN 1), none] [] S H2 (fun R => ∃ H2, (wQ S H H2 bt ln s (N) (seeR s n T)) ∧ R = (none, S, H2)) := by
  have hsz := hti.sz
  obtain ⟨t1, t2, t3, t4, t5, t6, t7, t8, t9, t10, t11⟩ := hti
  have lp : ∀ (fz : Nat) (i : Nat) (H1 : xH) (m w : Nat), 6 - i < fz → LiP S H1 bt ln s N m T → LoQ H H1 → hI H1 83 20 = hI H 83 20 → w < 64 → ct (fun i => w.testBit i) 6 = i → w.testBit p = false → (i ≠ 0 → kK s m = 39) → seeR s n T = seeL s T p (6 - i) i m w → Xq mX11_seesLine 8 0 0 39 [some (.ref 83), some (vN p), some (vN w), some (vN 1), none] [] S H1 (fun R => ∃ H2, (wQ S H H2 bt ln s (N) (seeR s n T)) ∧ R = (none, S, H2)) := by
    intro fz
    induction fz with
    | zero => intro i  H1  m w  hfz; exact absurd hfz (by omega)
    | succ fz ih =>
      intro i  H1  m w  hfz hl hlo h20 hw hct hpb h39 heq
      have hi5 := ct_5 (w := w) hp.2 hpb
      have hd : 6 - i = (5 - i) + 1 := by omega
      have su : seeL s T p ((5 - i) + 1) i m w = (if i ≠ 0 ∧ kK s m ≠ 39 then .inr (m, setT T 8 p w) else if knoZ s m (tPn T) (tNp T) = -1 then .inl (knoF s m, m) else if (knoZ s m (tPn T) (tNp T)).toNat = p then .inl (5, m) else if w.testBit (knoZ s m (tPn T) (tNp T)).toNat = true then .inl (3, m) else seeL s T p (5 - i) (i + 1) (m + 1) (w ||| 1 <<< (knoZ s m (tPn T) (tNp T)).toNat)) := rfl
      have n0 : ¬ (i ≠ 0 ∧ kK s m ≠ 39) := fun z => z.2 (h39 z.1)
      by_cases hz : knoZ s m (tPn T) (tNp T) = -1
      · skip
        refine xq_aload_n dX11_seesLine_39 rfl rfl ?_
        refine xq_getIE (v := nI 0) clX11 (by decide) rfl fl_RX11_182 dX11_seesLine_40 (Fx.s83 hF) hl.f26 ?_
        refine xq_if_neN dX11_seesLine_43 rfl (by omega) ⟨fun h43 => ?_, fun h43 => ?_⟩
        · skip
          exact absurd rfl h43
        · skip
          refine xq_iload_n dX11_seesLine_46 rfl rfl ?_
          refine xq_if_eqN dX11_seesLine_47 rfl (by omega) ⟨fun h47 => ?_, fun h47 => ?_⟩
          · skip
            first | exact absurd h47 (by decide) | exact absurd rfl h47
          · skip
            skip
            refine xq_aload_n dX11_seesLine_50 rfl rfl ?_
            refine xq_callV0H clX11 gd_X11_personAtHand dX11_seesLine_51 ml_RX11_250 im_X11_personAtHand se_X11_personAtHand rfl (Fx.s83 hF) (by exact Nat.le_of_ble_eq_true rfl) (by omega) (m_personAtHand0 hl.mx hsz hl.f26 hl.mt hz) ?_
            intro x51 H51 p51
            obtain ⟨rfl, mf⟩ := p51
            have ft := hl.ft mf knoF_p knoF_l
            have lo := mfL hlo mf
            have e : seeR s n T = .inl (knoF s m, m) := by rw [heq, hd, su, if_neg n0, if_pos hz]
            rw [e]
            have fa := ft.1
            have fb := ft.2.2.1
            have fc := ft.2.2.2.1
            refine xq_istore dX11_seesLine_54 rfl ?_
            refine xq_aload_n dX11_seesLine_56 rfl rfl ?_
            refine xq_getIE (v := nI (knoF s m)) clX11 (by decide) rfl fl_RX11_182 dX11_seesLine_57 (Fx.s83 hF) ft.1 ?_
            refine xq_if_neN dX11_seesLine_60 rfl (by omega) ⟨fun h60 => ?_, fun h60 => ?_⟩
            · skip
              refine xq_aload_n dX11_seesLine_74 rfl rfl ?_
              refine xq_getIE (v := nI (knoF s m)) clX11 (by decide) rfl fl_RX11_182 dX11_seesLine_75 (Fx.s83 hF) ft.1 ?_
              refine xq_if_neN dX11_seesLine_78 rfl (by omega) ⟨fun h78 => ?_, fun h78 => ?_⟩
              · skip
                refine xq_aload_n dX11_seesLine_96 rfl rfl ?_
                refine xq_callV0N clX11 gd_X11_goOn dX11_seesLine_97 ml_RX11_235 im_X11_goOn se_X11_goOn rfl (Fx.s83 hF) (by exact Nat.le_of_ble_eq_true rfl) (by omega) (m_goOn1 hF fa fb fc) ?_
                intro H97 p97
                subst p97
                refine xq_iload_n dX11_seesLine_100 rfl rfl ?_
                refine xq_iconst dX11_seesLine_101 ic1 ?_
                refine xq_iload dX11_seesLine_102 rfl ?_
                refine xq_ishlN dX11_seesLine_104 (by omega) ?_
                refine xq_iorN dX11_seesLine_105 ?_
                refine xq_istore_n dX11_seesLine_106 rfl rfl ?_
                refine xq_aload_n dX11_seesLine_107 rfl rfl ?_
                refine xq_getI clX11 (by decide) rfl fl_RX11_147 dX11_seesLine_108 (Fx.s83 hF) ?_
                refine xq_iconst dX11_seesLine_111 ic1 ?_
                refine xq_icmp_ne dX11_seesLine_112 rfl ⟨fun h112 => ?_, fun h112 => ?_⟩
                · skip
                  refine xq_iconst dX11_seesLine_119 ic0 ?_
                  refine xq_istore_n dX11_seesLine_120 rfl rfl ?_
                  refine xq_goto dX11_seesLine_121 rfl ?_
                  exact xq_fgt (see_f hF (ft) (lo)) (by exact And.intro rfl trivial)
                · skip
                  refine xq_iconst dX11_seesLine_115 ic1 ?_
                  refine xq_goto dX11_seesLine_116 rfl ?_
                  refine xq_istore_n dX11_seesLine_120 rfl rfl ?_
                  refine xq_goto dX11_seesLine_121 rfl ?_
                  exact xq_fgt (see_f hF (ft) (lo)) (by exact And.intro rfl trivial)
              · skip
                exact absurd h78 (by omega)
            · skip
              exact absurd h60 (by omega)
      · obtain ⟨e39, hvv, ev⟩ := zP_v (s := s) (n := m) (cd := tPn T) (sz := tNp T) hz
        have nz := hz
        obtain ⟨q, hqe⟩ : ∃ q, q = fdn (tPn T) (tNp T) (kV s m) := ⟨_, rfl⟩
        have hq : q < tNp T := hqe ▸ hvv
        have ez : (knoZ s m (tPn T) (tNp T)).toNat = q := ev.trans hqe.symm
        by_cases hqp : q = p
        · skip
          refine xq_aload_n dX11_seesLine_39 rfl rfl ?_
          refine xq_getIE (v := nI 0) clX11 (by decide) rfl fl_RX11_182 dX11_seesLine_40 (Fx.s83 hF) hl.f26 ?_
          refine xq_if_neN dX11_seesLine_43 rfl (by omega) ⟨fun h43 => ?_, fun h43 => ?_⟩
          · skip
            exact absurd rfl h43
          · skip
            refine xq_iload_n dX11_seesLine_46 rfl rfl ?_
            refine xq_if_eqN dX11_seesLine_47 rfl (by omega) ⟨fun h47 => ?_, fun h47 => ?_⟩
            · skip
              first | exact absurd h47 (by decide) | exact absurd rfl h47
            · skip
              refine xq_aload_n dX11_seesLine_50 rfl rfl ?_
              refine xq_callV0P clX11 gd_X11_personAtHand dX11_seesLine_51 ml_RX11_250 im_X11_personAtHand se_X11_personAtHand rfl (Fx.s83 hF) (by exact Nat.le_of_ble_eq_true rfl) (by omega) (m_personAtHand1 hl.mx hsz hl.f26 hl.mt e39 (hqe ▸ hq)) ?_
              rw [← hqe]
              refine xq_istore dX11_seesLine_54 rfl ?_
              refine xq_aload_n dX11_seesLine_56 rfl rfl ?_
              refine xq_getIE (v := nI 0) clX11 (by decide) rfl fl_RX11_182 dX11_seesLine_57 (Fx.s83 hF) hl.f26 ?_
              refine xq_if_neN dX11_seesLine_60 rfl (by omega) ⟨fun h60 => ?_, fun h60 => ?_⟩
              · skip
                exact absurd rfl h60
              · skip
                refine xq_iload dX11_seesLine_63 rfl ?_
                refine xq_iload_n dX11_seesLine_65 rfl rfl ?_
                refine xq_icmp_neN dX11_seesLine_66 rfl (by omega) (by omega) ⟨fun h66 => ?_, fun h66 => ?_⟩
                · skip
                  exact absurd hqp h66
                · skip
                  refine xq_aload_n dX11_seesLine_69 rfl rfl ?_
                  refine xq_iconst dX11_seesLine_70 ic5 ?_
                  refine xq_callV1N clX11 gd_X11_wrong dX11_seesLine_71 ml_RX11_191 im_X11_wrong se_X11_wrong rfl (Fx.s83 hF) (by exact Nat.le_of_ble_eq_true rfl) (by omega) (m_wrong0 hF hl.f26 hl.mt.pl) ?_
                  intro H71 p71
                  subst p71
                  have mf := wr_mf (c := 5) hl.mt
                  have ft := hl.ft mf (by decide) (by decide)
                  have lo := mfL hlo mf
                  have e : seeR s n T = .inl (5, m) := by rw [heq, hd, su, if_neg n0, if_neg nz, if_pos (ez.trans hqp)]
                  rw [e]
                  have fa := ft.1
                  have fb := ft.2.2.1
                  have fc := ft.2.2.2.1
                  refine xq_aload_n dX11_seesLine_74 rfl rfl ?_
                  refine xq_getIE (v := nI 5) clX11 (by decide) rfl fl_RX11_182 dX11_seesLine_75 (Fx.s83 hF) ft.1 ?_
                  refine xq_if_neN dX11_seesLine_78 rfl (by omega) ⟨fun h78 => ?_, fun h78 => ?_⟩
                  · skip
                    refine xq_aload_n dX11_seesLine_96 rfl rfl ?_
                    refine xq_callV0N clX11 gd_X11_goOn dX11_seesLine_97 ml_RX11_235 im_X11_goOn se_X11_goOn rfl (Fx.s83 hF) (by exact Nat.le_of_ble_eq_true rfl) (by omega) (m_goOn1 hF fa fb fc) ?_
                    intro H97 p97
                    subst p97
                    refine xq_iload_n dX11_seesLine_100 rfl rfl ?_
                    refine xq_iconst dX11_seesLine_101 ic1 ?_
                    refine xq_iload dX11_seesLine_102 rfl ?_
                    refine xq_ishlN dX11_seesLine_104 (by omega) ?_
                    refine xq_iorN dX11_seesLine_105 ?_
                    refine xq_istore_n dX11_seesLine_106 rfl rfl ?_
                    refine xq_aload_n dX11_seesLine_107 rfl rfl ?_
                    refine xq_getI clX11 (by decide) rfl fl_RX11_147 dX11_seesLine_108 (Fx.s83 hF) ?_
                    refine xq_iconst dX11_seesLine_111 ic1 ?_
                    refine xq_icmp_ne dX11_seesLine_112 rfl ⟨fun h112 => ?_, fun h112 => ?_⟩
                    · skip
                      refine xq_iconst dX11_seesLine_119 ic0 ?_
                      refine xq_istore_n dX11_seesLine_120 rfl rfl ?_
                      refine xq_goto dX11_seesLine_121 rfl ?_
                      exact xq_fgt (see_f hF (ft) (lo)) (by exact And.intro rfl trivial)
                    · skip
                      refine xq_iconst dX11_seesLine_115 ic1 ?_
                      refine xq_goto dX11_seesLine_116 rfl ?_
                      refine xq_istore_n dX11_seesLine_120 rfl rfl ?_
                      refine xq_goto dX11_seesLine_121 rfl ?_
                      exact xq_fgt (see_f hF (ft) (lo)) (by exact And.intro rfl trivial)
                  · skip
                    exact absurd h78 (by decide)
        cases htb : w.testBit q with
        | true =>
          refine xq_aload_n dX11_seesLine_39 rfl rfl ?_
          refine xq_getIE (v := nI 0) clX11 (by decide) rfl fl_RX11_182 dX11_seesLine_40 (Fx.s83 hF) hl.f26 ?_
          refine xq_if_neN dX11_seesLine_43 rfl (by omega) ⟨fun h43 => ?_, fun h43 => ?_⟩
          · skip
            exact absurd rfl h43
          · skip
            refine xq_iload_n dX11_seesLine_46 rfl rfl ?_
            refine xq_if_eqN dX11_seesLine_47 rfl (by omega) ⟨fun h47 => ?_, fun h47 => ?_⟩
            · skip
              first | exact absurd h47 (by decide) | exact absurd rfl h47
            · skip
              refine xq_aload_n dX11_seesLine_50 rfl rfl ?_
              refine xq_callV0P clX11 gd_X11_personAtHand dX11_seesLine_51 ml_RX11_250 im_X11_personAtHand se_X11_personAtHand rfl (Fx.s83 hF) (by exact Nat.le_of_ble_eq_true rfl) (by omega) (m_personAtHand1 hl.mx hsz hl.f26 hl.mt e39 (hqe ▸ hq)) ?_
              rw [← hqe]
              refine xq_istore dX11_seesLine_54 rfl ?_
              refine xq_aload_n dX11_seesLine_56 rfl rfl ?_
              refine xq_getIE (v := nI 0) clX11 (by decide) rfl fl_RX11_182 dX11_seesLine_57 (Fx.s83 hF) hl.f26 ?_
              refine xq_if_neN dX11_seesLine_60 rfl (by omega) ⟨fun h60 => ?_, fun h60 => ?_⟩
              · skip
                exact absurd rfl h60
              · skip
                refine xq_iload dX11_seesLine_63 rfl ?_
                refine xq_iload_n dX11_seesLine_65 rfl rfl ?_
                refine xq_icmp_neN dX11_seesLine_66 rfl (by omega) (by omega) ⟨fun h66 => ?_, fun h66 => ?_⟩
                · skip
                  refine xq_aload_n dX11_seesLine_74 rfl rfl ?_
                  refine xq_getIE (v := nI 0) clX11 (by decide) rfl fl_RX11_182 dX11_seesLine_75 (Fx.s83 hF) hl.f26 ?_
                  refine xq_if_neN dX11_seesLine_78 rfl (by omega) ⟨fun h78 => ?_, fun h78 => ?_⟩
                  · skip
                    exact absurd rfl h78
                  · skip
                    refine xq_iload_n dX11_seesLine_81 rfl rfl ?_
                    refine xq_iload dX11_seesLine_82 rfl ?_
                    refine xq_ishrN dX11_seesLine_84 (by omega) (by omega) ?_
                    refine xq_iconst dX11_seesLine_85 ic1 ?_
                    refine xq_iandN dX11_seesLine_86 ?_
                    have ha1 := and1_le (w >>> q)
                    refine xq_iconst dX11_seesLine_87 ic1 ?_
                    refine xq_icmp_neN dX11_seesLine_88 rfl (by omega) (by omega) ⟨fun h88 => ?_, fun h88 => ?_⟩
                    · skip
                      exact absurd ((tb_shr1 w q).mpr htb) h88
                    · skip
                      refine xq_aload_n dX11_seesLine_91 rfl rfl ?_
                      refine xq_iconst dX11_seesLine_92 ic3 ?_
                      refine xq_callV1N clX11 gd_X11_wrong dX11_seesLine_93 ml_RX11_191 im_X11_wrong se_X11_wrong rfl (Fx.s83 hF) (by exact Nat.le_of_ble_eq_true rfl) (by omega) (m_wrong0 hF hl.f26 hl.mt.pl) ?_
                      intro H93 p93
                      subst p93
                      have mf := wr_mf (c := 3) hl.mt
                      have ft := hl.ft mf (by decide) (by decide)
                      have lo := mfL hlo mf
                      have e : seeR s n T = .inl (3, m) := by rw [heq, hd, su, if_neg n0, if_neg nz, if_neg (fun z => hqp (ez.symm.trans z)), if_pos (by rw [ez]; exact htb)]
                      rw [e]
                      have fa := ft.1
                      have fb := ft.2.2.1
                      have fc := ft.2.2.2.1
                      refine xq_aload_n dX11_seesLine_96 rfl rfl ?_
                      refine xq_callV0N clX11 gd_X11_goOn dX11_seesLine_97 ml_RX11_235 im_X11_goOn se_X11_goOn rfl (Fx.s83 hF) (by exact Nat.le_of_ble_eq_true rfl) (by omega) (m_goOn1 hF fa fb fc) ?_
                      intro H97 p97
                      subst p97
                      refine xq_iload_n dX11_seesLine_100 rfl rfl ?_
                      refine xq_iconst dX11_seesLine_101 ic1 ?_
                      refine xq_iload dX11_seesLine_102 rfl ?_
                      refine xq_ishlN dX11_seesLine_104 (by omega) ?_
                      refine xq_iorN dX11_seesLine_105 ?_
                      refine xq_istore_n dX11_seesLine_106 rfl rfl ?_
                      refine xq_aload_n dX11_seesLine_107 rfl rfl ?_
                      refine xq_getI clX11 (by decide) rfl fl_RX11_147 dX11_seesLine_108 (Fx.s83 hF) ?_
                      refine xq_iconst dX11_seesLine_111 ic1 ?_
                      refine xq_icmp_ne dX11_seesLine_112 rfl ⟨fun h112 => ?_, fun h112 => ?_⟩
                      · skip
                        refine xq_iconst dX11_seesLine_119 ic0 ?_
                        refine xq_istore_n dX11_seesLine_120 rfl rfl ?_
                        refine xq_goto dX11_seesLine_121 rfl ?_
                        exact xq_fgt (see_f hF (ft) (lo)) (by exact And.intro rfl trivial)
                      · skip
                        refine xq_iconst dX11_seesLine_115 ic1 ?_
                        refine xq_goto dX11_seesLine_116 rfl ?_
                        refine xq_istore_n dX11_seesLine_120 rfl rfl ?_
                        refine xq_goto dX11_seesLine_121 rfl ?_
                        exact xq_fgt (see_f hF (ft) (lo)) (by exact And.intro rfl trivial)
                · skip
                  exact absurd h66 hqp
        | false =>
          refine xq_aload_n dX11_seesLine_39 rfl rfl ?_
          refine xq_getIE (v := nI 0) clX11 (by decide) rfl fl_RX11_182 dX11_seesLine_40 (Fx.s83 hF) hl.f26 ?_
          refine xq_if_neN dX11_seesLine_43 rfl (by omega) ⟨fun h43 => ?_, fun h43 => ?_⟩
          · skip
            exact absurd rfl h43
          · skip
            refine xq_iload_n dX11_seesLine_46 rfl rfl ?_
            refine xq_if_eqN dX11_seesLine_47 rfl (by omega) ⟨fun h47 => ?_, fun h47 => ?_⟩
            · skip
              first | exact absurd h47 (by decide) | exact absurd rfl h47
            · skip
              refine xq_aload_n dX11_seesLine_50 rfl rfl ?_
              refine xq_callV0P clX11 gd_X11_personAtHand dX11_seesLine_51 ml_RX11_250 im_X11_personAtHand se_X11_personAtHand rfl (Fx.s83 hF) (by exact Nat.le_of_ble_eq_true rfl) (by omega) (m_personAtHand1 hl.mx hsz hl.f26 hl.mt e39 (hqe ▸ hq)) ?_
              rw [← hqe]
              refine xq_istore dX11_seesLine_54 rfl ?_
              refine xq_aload_n dX11_seesLine_56 rfl rfl ?_
              refine xq_getIE (v := nI 0) clX11 (by decide) rfl fl_RX11_182 dX11_seesLine_57 (Fx.s83 hF) hl.f26 ?_
              refine xq_if_neN dX11_seesLine_60 rfl (by omega) ⟨fun h60 => ?_, fun h60 => ?_⟩
              · skip
                exact absurd rfl h60
              · skip
                refine xq_iload dX11_seesLine_63 rfl ?_
                refine xq_iload_n dX11_seesLine_65 rfl rfl ?_
                refine xq_icmp_neN dX11_seesLine_66 rfl (by omega) (by omega) ⟨fun h66 => ?_, fun h66 => ?_⟩
                · skip
                  refine xq_aload_n dX11_seesLine_74 rfl rfl ?_
                  refine xq_getIE (v := nI 0) clX11 (by decide) rfl fl_RX11_182 dX11_seesLine_75 (Fx.s83 hF) hl.f26 ?_
                  refine xq_if_neN dX11_seesLine_78 rfl (by omega) ⟨fun h78 => ?_, fun h78 => ?_⟩
                  · skip
                    exact absurd rfl h78
                  · skip
                    refine xq_iload_n dX11_seesLine_81 rfl rfl ?_
                    refine xq_iload dX11_seesLine_82 rfl ?_
                    refine xq_ishrN dX11_seesLine_84 (by omega) (by omega) ?_
                    refine xq_iconst dX11_seesLine_85 ic1 ?_
                    refine xq_iandN dX11_seesLine_86 ?_
                    have ha1 := and1_le (w >>> q)
                    refine xq_iconst dX11_seesLine_87 ic1 ?_
                    refine xq_icmp_neN dX11_seesLine_88 rfl (by omega) (by omega) ⟨fun h88 => ?_, fun h88 => ?_⟩
                    · skip
                      refine xq_aload_n dX11_seesLine_96 rfl rfl ?_
                      refine xq_callV0N clX11 gd_X11_goOn dX11_seesLine_97 ml_RX11_235 im_X11_goOn se_X11_goOn rfl (Fx.s83 hF) (by exact Nat.le_of_ble_eq_true rfl) (by omega) (m_goOn hl.f26 hl.mt (kK_in (ne39 e39) hl.mt.lx)) ?_
                      intro H97 p97
                      obtain ⟨g1, g2⟩ := p97
                      have hl2 := hl.tk g1 g2
                      have lo2 := tkL hlo g2
                      refine xq_iload_n dX11_seesLine_100 rfl rfl ?_
                      refine xq_iconst dX11_seesLine_101 ic1 ?_
                      refine xq_iload dX11_seesLine_102 rfl ?_
                      refine xq_ishlN dX11_seesLine_104 (by omega) ?_
                      refine xq_iorN dX11_seesLine_105 ?_
                      refine xq_istore_n dX11_seesLine_106 rfl rfl ?_
                      refine xq_aload_n dX11_seesLine_107 rfl rfl ?_
                      refine xq_getI clX11 (by decide) rfl fl_RX11_147 dX11_seesLine_108 (Fx.s83 hF) ?_
                      refine xq_iconst dX11_seesLine_111 ic1 ?_
                      refine xq_icmp_ne dX11_seesLine_112 rfl ⟨fun h112 => ?_, fun h112 => ?_⟩
                      · skip
                        refine xq_iconst dX11_seesLine_119 ic0 ?_
                        refine xq_istore_n dX11_seesLine_120 rfl rfl ?_
                        refine xq_goto dX11_seesLine_121 rfl ?_
                        have hfin : seeR s n T = seeL s T p (6 - (i + 1)) (i + 1) (m + 1) (w ||| 1 <<< q) := by
                          rw [heq, hd, su, if_neg n0, if_neg nz, ez, if_neg hqp, if_neg (by rw [htb]; decide), show 6 - (i + 1) = 5 - i from by omega]
                        have hw' : w ||| 1 <<< q < 64 := or64 hw (shl64 (by omega))
                        have hct' : ct (fun i => (w ||| 1 <<< q).testBit i) 6 = i + 1 := by rw [ct_or w q htb, if_pos (by omega), hct]
                        have hpb' : (w ||| 1 <<< q).testBit p = false := (tb_or1 (fun z => hqp z.symm)).trans hpb
                        have h20' := (tk20 g2).trans h20
                        have hi5' := ct_5 (w := w ||| 1 <<< q) hp.2 hpb'
                        have hn := nb39 g1.ms h112
                        have hd2 : 6 - (i + 1) = (4 - i) + 1 := by omega
                        have e : seeR s n T = .inr (m + 1, setT T 8 p (w ||| 1 <<< q)) := by rw [hfin, hd2]; exact if_pos ⟨by omega, hn⟩
                        rw [e]
                        exact xq_fgt (see_d hF (by decide) hl2 lo2 h20' hp hw' (or0 (by rw [Nat.one_shiftLeft]; exact Nat.pos_iff_ne_zero.mp (Nat.two_pow_pos q)))) (by exact And.intro rfl (And.intro rfl (And.intro rfl (And.intro rfl trivial))))
                      · skip
                        refine xq_iconst dX11_seesLine_115 ic1 ?_
                        refine xq_goto dX11_seesLine_116 rfl ?_
                        refine xq_istore_n dX11_seesLine_120 rfl rfl ?_
                        refine xq_goto dX11_seesLine_121 rfl ?_
                        have hfin : seeR s n T = seeL s T p (6 - (i + 1)) (i + 1) (m + 1) (w ||| 1 <<< q) := by
                          rw [heq, hd, su, if_neg n0, if_neg nz, ez, if_neg hqp, if_neg (by rw [htb]; decide), show 6 - (i + 1) = 5 - i from by omega]
                        have hw' : w ||| 1 <<< q < 64 := or64 hw (shl64 (by omega))
                        have hct' : ct (fun i => (w ||| 1 <<< q).testBit i) 6 = i + 1 := by rw [ct_or w q htb, if_pos (by omega), hct]
                        have hpb' : (w ||| 1 <<< q).testBit p = false := (tb_or1 (fun z => hqp z.symm)).trans hpb
                        have h20' := (tk20 g2).trans h20
                        have hi5' := ct_5 (w := w ||| 1 <<< q) hp.2 hpb'
                        have hn := MsV_n g1.ms (kK_le g1.ok) h112
                        exact xq_fgt (ih (i + 1) _ (m + 1) (w ||| 1 <<< q) (by omega) hl2 lo2 h20' hw' hct' hpb' (fun _ => hn) hfin) (by exact And.intro rfl (And.intro rfl (And.intro rfl (And.intro rfl trivial))))
                    · skip
                      exact absurd ((tb_shr1 w q).mp h88) (by rw [htb]; decide)
                · skip
                  exact absurd h66 hqp
  exact lp 7 0 H2 (n + 2) 0 (by omega) hl2 hlo h20 (by decide) (by decide) (Nat.zero_testBit p) (fun z => absurd rfl z) heq
theorem m_see_a (hF : gFx S) (hl : LiP S H bt ln s N (n + 1) T) (hti : TiP T) (hz : knoZ s (n + 1) (tPn T) (tNp T) = -1) : Nv mX11_seesLine 8 [.ref 83] S H (fun H2 => wQ S H H2 bt ln s (N) (seeR s n T)) := by
  have hsz := hti.sz
  have hti2 := hti
  obtain ⟨t1, t2, t3, t4, t5, t6, t7, t8, t9, t10, t11⟩ := hti2
  have e : seeR s n T = .inl (knoF s (n + 1), n + 1) := if_pos hz
  rw [e]
  refine vq_intro (by decide) (by exact Nat.le_of_ble_eq_true rfl) rfl ?_
  refine xq_aload_n dX11_seesLine_0 rfl rfl ?_
  refine xq_callV0H clX11 gd_X11_personAtHand dX11_seesLine_1 ml_RX11_250 im_X11_personAtHand se_X11_personAtHand rfl (Fx.s83 hF) (by exact Nat.le_of_ble_eq_true rfl) (by omega) (m_personAtHand0 hl.mx hsz hl.f26 hl.mt hz) ?_
  intro x1 H1 p1
  obtain ⟨rfl, mf⟩ := p1
  have ft := hl.ft mf knoF_p knoF_l
  have lo := mfL LoQ.rf mf
  have fa := ft.1
  have fb := ft.2.2.1
  have fc := ft.2.2.2.1
  refine xq_istore_n dX11_seesLine_4 rfl rfl ?_
  refine xq_aload_n dX11_seesLine_5 rfl rfl ?_
  refine xq_getIE (v := nI (knoF s (n + 1))) clX11 (by decide) rfl fl_RX11_182 dX11_seesLine_6 (Fx.s83 hF) ft.1 ?_
  refine xq_if_neN dX11_seesLine_9 rfl (by omega) ⟨fun h9 => ?_, fun h9 => ?_⟩
  · skip
    refine xq_aload_n dX11_seesLine_31 rfl rfl ?_
    refine xq_callV0N clX11 gd_X11_goOn dX11_seesLine_32 ml_RX11_235 im_X11_goOn se_X11_goOn rfl (Fx.s83 hF) (by exact Nat.le_of_ble_eq_true rfl) (by omega) (m_goOn1 hF fa fb fc) ?_
    intro H32 p32
    subst p32
    refine xq_iconst dX11_seesLine_35 ic0 ?_
    refine xq_istore_n dX11_seesLine_36 rfl rfl ?_
    refine xq_iconst dX11_seesLine_37 ic1 ?_
    refine xq_istore_n dX11_seesLine_38 rfl rfl ?_
    exact xq_fgt (see_f hF (ft) (lo)) (by exact And.intro rfl trivial)
  · skip
    exact absurd h9 (by omega)
theorem m_see_b (hF : gFx S) (hl : LiP S H bt ln s N (n + 1) T) (hti : TiP T) (hz : ¬ knoZ s (n + 1) (tPn T) (tNp T) = -1) (e39 : kK s (n + 1) = 39) (hqe : p = fdn (tPn T) (tNp T) (kV s (n + 1))) (hp : p < tNp T ∧ p < 6) (ez : (knoZ s (n + 1) (tPn T) (tNp T)).toNat = p) (hs0 : tSe T p ≠ 0) : Nv mX11_seesLine 8 [.ref 83] S H (fun H2 => wQ S H H2 bt ln s (N) (seeR s n T)) := by
  have hsz := hti.sz
  have hti2 := hti
  obtain ⟨t1, t2, t3, t4, t5, t6, t7, t8, t9, t10, t11⟩ := hti2
  obtain ⟨v, b1, b2, b3⟩ := hl.srs
  have b3p := b3 p hp.2
  have ha1 := and1_le (v >>> p)
  rw [decide_eq_true hs0] at b3p
  have e : seeR s n T = .inl (3, n + 1) := (if_neg hz).trans (if_pos (by rw [ez]; exact hs0))
  rw [e]
  refine vq_intro (by decide) (by exact Nat.le_of_ble_eq_true rfl) rfl ?_
  refine xq_aload_n dX11_seesLine_0 rfl rfl ?_
  refine xq_callV0P clX11 gd_X11_personAtHand dX11_seesLine_1 ml_RX11_250 im_X11_personAtHand se_X11_personAtHand rfl (Fx.s83 hF) (by exact Nat.le_of_ble_eq_true rfl) (by omega) (m_personAtHand1 hl.mx hsz hl.f26 hl.mt e39 (hqe ▸ hp.1)) ?_
  rw [← hqe]
  refine xq_istore_n dX11_seesLine_4 rfl rfl ?_
  refine xq_aload_n dX11_seesLine_5 rfl rfl ?_
  refine xq_getIE (v := nI 0) clX11 (by decide) rfl fl_RX11_182 dX11_seesLine_6 (Fx.s83 hF) hl.f26 ?_
  refine xq_if_neN dX11_seesLine_9 rfl (by omega) ⟨fun h9 => ?_, fun h9 => ?_⟩
  · skip
    exact absurd rfl h9
  · skip
    refine xq_aload_n dX11_seesLine_12 rfl rfl ?_
    refine xq_bipush dX11_seesLine_13 bp8 ?_
    refine xq_callV1P clX11 gd_X11_fresher dX11_seesLine_15 ml_RX11_198 im_X11_fresher se_X11_fresher rfl (Fx.s83 hF) (by exact Nat.le_of_ble_eq_true rfl) (by omega) (m_fresher (w := 8) hF b1 (by decide)) ?_
    refine xq_iload_n dX11_seesLine_18 rfl rfl ?_
    refine xq_ishrN dX11_seesLine_19 (by omega) (by omega) ?_
    refine xq_iconst dX11_seesLine_20 ic1 ?_
    refine xq_iandN dX11_seesLine_21 ?_
    refine xq_iconst dX11_seesLine_22 ic1 ?_
    refine xq_icmp_neN dX11_seesLine_23 rfl (by omega) (by omega) ⟨fun h23 => ?_, fun h23 => ?_⟩
    · skip
      exact absurd ((tb_shr1 v p).mpr b3p) h23
    · skip
      refine xq_aload_n dX11_seesLine_26 rfl rfl ?_
      refine xq_iconst dX11_seesLine_27 ic3 ?_
      refine xq_callV1N clX11 gd_X11_wrong dX11_seesLine_28 ml_RX11_191 im_X11_wrong se_X11_wrong rfl (Fx.s83 hF) (by exact Nat.le_of_ble_eq_true rfl) (by omega) (m_wrong0 hF hl.f26 hl.mt.pl) ?_
      intro H28 p28
      subst p28
      have mf := wr_mf (c := 3) hl.mt
      have ft := hl.ft mf (by decide) (by decide)
      have lo := mfL LoQ.rf mf
      have fa := ft.1
      have fb := ft.2.2.1
      have fc := ft.2.2.2.1
      refine xq_aload_n dX11_seesLine_31 rfl rfl ?_
      refine xq_callV0N clX11 gd_X11_goOn dX11_seesLine_32 ml_RX11_235 im_X11_goOn se_X11_goOn rfl (Fx.s83 hF) (by exact Nat.le_of_ble_eq_true rfl) (by omega) (m_goOn1 hF fa fb fc) ?_
      intro H32 p32
      subst p32
      refine xq_iconst dX11_seesLine_35 ic0 ?_
      refine xq_istore_n dX11_seesLine_36 rfl rfl ?_
      refine xq_iconst dX11_seesLine_37 ic1 ?_
      refine xq_istore_n dX11_seesLine_38 rfl rfl ?_
      exact xq_fgt (see_f hF (ft) (lo)) (by exact And.intro rfl trivial)
theorem m_see_c (hF : gFx S) (hl : LiP S H bt ln s N (n + 1) T) (hti : TiP T) (hz : ¬ knoZ s (n + 1) (tPn T) (tNp T) = -1) (e39 : kK s (n + 1) = 39) (hqe : p = fdn (tPn T) (tNp T) (kV s (n + 1))) (hp : p < tNp T ∧ p < 6) (ez : (knoZ s (n + 1) (tPn T) (tNp T)).toNat = p) (hs0 : tSe T p = 0) : Nv mX11_seesLine 8 [.ref 83] S H (fun H2 => wQ S H H2 bt ln s (N) (seeR s n T)) := by
  have hsz := hti.sz
  have hti2 := hti
  obtain ⟨t1, t2, t3, t4, t5, t6, t7, t8, t9, t10, t11⟩ := hti2
  obtain ⟨v, b1, b2, b3⟩ := hl.srs
  have b3p := b3 p hp.2
  have ha1 := and1_le (v >>> p)
  rw [decide_eq_false (fun z => z hs0)] at b3p
  have e : seeR s n T = seeL s T p 6 0 (n + 2) 0 := (if_neg hz).trans ((if_neg (by rw [ez]; exact fun z => z hs0)).trans (by rw [ez]))
  refine vq_intro (by decide) (by exact Nat.le_of_ble_eq_true rfl) rfl ?_
  refine xq_aload_n dX11_seesLine_0 rfl rfl ?_
  refine xq_callV0P clX11 gd_X11_personAtHand dX11_seesLine_1 ml_RX11_250 im_X11_personAtHand se_X11_personAtHand rfl (Fx.s83 hF) (by exact Nat.le_of_ble_eq_true rfl) (by omega) (m_personAtHand1 hl.mx hsz hl.f26 hl.mt e39 (hqe ▸ hp.1)) ?_
  rw [← hqe]
  refine xq_istore_n dX11_seesLine_4 rfl rfl ?_
  refine xq_aload_n dX11_seesLine_5 rfl rfl ?_
  refine xq_getIE (v := nI 0) clX11 (by decide) rfl fl_RX11_182 dX11_seesLine_6 (Fx.s83 hF) hl.f26 ?_
  refine xq_if_neN dX11_seesLine_9 rfl (by omega) ⟨fun h9 => ?_, fun h9 => ?_⟩
  · skip
    exact absurd rfl h9
  · skip
    refine xq_aload_n dX11_seesLine_12 rfl rfl ?_
    refine xq_bipush dX11_seesLine_13 bp8 ?_
    refine xq_callV1P clX11 gd_X11_fresher dX11_seesLine_15 ml_RX11_198 im_X11_fresher se_X11_fresher rfl (Fx.s83 hF) (by exact Nat.le_of_ble_eq_true rfl) (by omega) (m_fresher (w := 8) hF b1 (by decide)) ?_
    refine xq_iload_n dX11_seesLine_18 rfl rfl ?_
    refine xq_ishrN dX11_seesLine_19 (by omega) (by omega) ?_
    refine xq_iconst dX11_seesLine_20 ic1 ?_
    refine xq_iandN dX11_seesLine_21 ?_
    refine xq_iconst dX11_seesLine_22 ic1 ?_
    refine xq_icmp_neN dX11_seesLine_23 rfl (by omega) (by omega) ⟨fun h23 => ?_, fun h23 => ?_⟩
    · skip
      refine xq_aload_n dX11_seesLine_31 rfl rfl ?_
      refine xq_callV0N clX11 gd_X11_goOn dX11_seesLine_32 ml_RX11_235 im_X11_goOn se_X11_goOn rfl (Fx.s83 hF) (by exact Nat.le_of_ble_eq_true rfl) (by omega) (m_goOn hl.f26 hl.mt (kK_in (ne39 e39) hl.mt.lx)) ?_
      intro H32 p32
      obtain ⟨g1, g2⟩ := p32
      have hl2 := hl.tk g1 g2
      have lo2 := tkL LoQ.rf g2
      refine xq_iconst dX11_seesLine_35 ic0 ?_
      refine xq_istore_n dX11_seesLine_36 rfl rfl ?_
      refine xq_iconst dX11_seesLine_37 ic1 ?_
      refine xq_istore_n dX11_seesLine_38 rfl rfl ?_
      exact see_loop hF hl hti hp e hl2 lo2 (tk20 g2)
    · skip
      exact absurd ((tb_shr1 v p).mp h23) (by rw [b3p]; decide)
theorem m_seesLine (hF : gFx S) (hl : LiP S H bt ln s N (n + 1) T) (hti : TiP T) : Nv mX11_seesLine 8 [.ref 83] S H (fun H2 => wQ S H H2 bt ln s (N) (seeR s n T)) := by
  by_cases hz : knoZ s (n + 1) (tPn T) (tNp T) = -1
  · exact m_see_a hF hl hti hz
  · obtain ⟨e39, hvv, ev⟩ := zP_v (s := s) (n := n + 1) (cd := tPn T) (sz := tNp T) hz
    have hp : fdn (tPn T) (tNp T) (kV s (n + 1)) < tNp T ∧ fdn (tPn T) (tNp T) (kV s (n + 1)) < 6 := ⟨hvv, by have := hti.2.1; omega⟩
    by_cases hs0 : tSe T (fdn (tPn T) (tNp T) (kV s (n + 1))) = 0
    · exact m_see_c hF hl hti hz e39 rfl hp ev hs0
    · exact m_see_b hF hl hti hz e39 rfl hp ev hs0
end MN3
