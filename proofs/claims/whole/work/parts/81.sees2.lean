/-! ===== Reader: sees ===== -/
section LN
variable {S : xS} {H H1 : xH} {f i j l m n c t v p w : Nat} {s : uTk} {T : uTx} {cd : Nat → Nat} {sz : Nat}
theorem setT_2 (T : uTx) (a k v w : Nat) : setT (setT T a k v) a k w = setT T a k w := by
  refine Prod.ext (funext fun x => funext fun y => ?_) rfl
  show (if x = a ∧ y = k then w else if x = a ∧ y = k then v else T.1 x y) = (if x = a ∧ y = k then w else T.1 x y)
  by_cases e : x = a ∧ y = k
  · rw [if_pos e, if_pos e]
  · rw [if_neg e, if_neg e, if_neg e]
theorem setT_id (T : uTx) (a k v : Nat) (h : T.1 a k = v) : setT T a k v = T := by
  refine Prod.ext (funext fun x => funext fun y => ?_) rfl
  show (if x = a ∧ y = k then v else T.1 x y) = T.1 x y
  by_cases e : x = a ∧ y = k
  · rw [if_pos e, e.1, e.2, h]
  · rw [if_neg e]
theorem and1_le (a : Nat) : a &&& 1 ≤ 1 := Nat.and_le_right
theorem c_seesLine0 (hF : gFx S) (ht : gTx S t) (ht24 : 24 ≤ t) (ht45 : t ≤ 45) (hs : TrP H s n) (hk : TrOk s) (hn : n ≤ 790) (hT : TxP H t T) (hbg : hI H (t + 7) 4 = nI (tNk T)) (hnp : tNp T ≤ 6) (hse : ∀ k, k < 6 → tSe T k < 64) (hz : knoZ s (n + 1) (tPn T) (tNp T) = -1) : Hv mX6_seesLine 2 [.ref 7, .ref t] S H vB (fun x H' => x = lnB (seeR s n T) ∧ LnQ H H' t s (seeR s n T)) := by
  have hk0 := hk.1
  have hs2 := hs.st (n + 1)
  have hs3 := hs2.st (n + 2)
  have hT2 : TxP (sI H 2 5 (nI (n + 1))) t T := hT.st2 ht24
  have hT3 : TxP (sI (sI H 2 5 (nI (n + 1))) 2 5 (nI (n + 2))) t T := hT2.st2 ht24
  refine vq_intro (by decide) (by exact Nat.le_of_ble_eq_true rfl) rfl ?_
  refine xq_aload_n dX6_seesLine_0 rfl rfl ?_
  refine xq_getF clX6 (by decide) rfl fl_RX6_9 dX6_seesLine_1 (Fx.s7 hF) (Fx.r7_0 hF) ?_
  refine xq_callV0N clX9 gd_X9_step dX6_seesLine_4 ml_RX6_84 im_X9_step se_X9_step rfl (Fx.s2 hF) (by exact Nat.le_of_ble_eq_true rfl) (by decide) (c_step hF hs hk (by omega)) ?_
  intro H4 p4
  subst p4
  refine xq_aload_n dX6_seesLine_7 rfl rfl ?_
  refine xq_getF clX6 (by decide) rfl fl_RX6_9 dX6_seesLine_8 (Fx.s7 hF) (Fx.r7_0 hF) ?_
  refine xq_aload_n dX6_seesLine_11 rfl rfl ?_
  refine xq_getF clX8 (by decide) rfl fl_RX6_109 dX6_seesLine_12 (Tx.s0 ht) (Tx.r1 ht) ?_
  refine xq_callV1H clX9 gd_X9_known dX6_seesLine_15 ml_RX6_112 im_X9_known se_X9_known rfl (Fx.s2 hF) (by exact Nat.le_of_ble_eq_true rfl) (by decide) (c_known0 hF hs2 hk (by omega) (Tx.n3 ht) hT2.nmp (by omega) (by decide) hz) ?_
  intro x15 H15 p15
  obtain ⟨rfl, q15⟩ := p15
  refine xq_istore_n dX6_seesLine_18 rfl rfl ?_
  refine xq_iload_n dX6_seesLine_19 rfl rfl ?_
  refine xq_if_ge dX6_seesLine_20 rfl ⟨fun h20 => ?_, fun h20 => ?_⟩
  · skip
    exact absurd h20 (by decide)
  · skip
    refine xq_iconst dX6_seesLine_23 ic0 ?_
    refine xq_zret dX6_seesLine_24 rfl (by decide) ?_
    have e : seeR s n T = .inl (knoF s (n + 1), n + 1) := if_pos hz
    rw [e]
    exact ⟨false, H15, ⟨rfl, Off.tr (Off.pI (A := (fun q => q = 2 ∨ (8 ≤ q ∧ q < 16) ∨ (t ≤ q ∧ q < t + 21))) Off.rf (by omega) _ _) (q15.2.2.2.mo (fun q h => Or.inl h)), q15.1, q15.2.1, (q15.2.2.1 6 (by decide) (by decide)).trans (by rw [hI_sI, if_neg (by omega)])⟩, rfl⟩
theorem c_seesLine1 (hF : gFx S) (ht : gTx S t) (ht24 : 24 ≤ t) (ht45 : t ≤ 45) (hs : TrP H s n) (hk : TrOk s) (hn : n ≤ 790) (hT : TxP H t T) (hbg : hI H (t + 7) 4 = nI (tNk T)) (hnp : tNp T ≤ 6) (hse : ∀ k, k < 6 → tSe T k < 64) (hz : knoZ s (n + 1) (tPn T) (tNp T) = (p : Nat)) (hp : p < tNp T) : Hv mX6_seesLine 2 [.ref 7, .ref t] S H vB (fun x H' => x = lnB (seeR s n T) ∧ LnQ H H' t s (seeR s n T)) := by
  have hk0 := hk.1
  have hs2 := hs.st (n + 1)
  have hs3 := hs2.st (n + 2)
  have hT2 : TxP (sI H 2 5 (nI (n + 1))) t T := hT.st2 ht24
  have hT3 : TxP (sI (sI H 2 5 (nI (n + 1))) 2 5 (nI (n + 2))) t T := hT2.st2 ht24
  have hsp := hse p (by omega)
  have lp : ∀ (fz : Nat) (i : Nat) (H1 : xH) (w : Nat), 6 - i < fz → i ≤ 6 → TrP H1 s (n + 2 + i) → TxP H1 t (setT T 8 p w) → Off (fun q => q = 2 ∨ (8 ≤ q ∧ q < 16) ∨ (t ≤ q ∧ q < t + 21)) H H1 → hI H1 2 7 = hI H 2 7 → hI H1 2 8 = hI H 2 8 → hI H1 2 6 = hI H 2 6 → hI H1 (t + 7) 4 = nI (tNk T) → w < 64 → seeR s n T = seeL s T p (6 - i) i (n + 2 + i) w → Xq mX6_seesLine 2 0 0 52 [some (.ref 7), some (.ref t), some (vN p), some (vN i), none] [] S H1 (fun R => ∃ x H', ((fun x H' => x = lnB (seeR s n T) ∧ LnQ H H' t s (seeR s n T))) x H' ∧ R = (some (vB x), S, H')) := by
    intro fz
    induction fz with
    | zero => intro i  H1  w  hfz; exact absurd hfz (by omega)
    | succ fz ih =>
      intro i  H1  w  hfz hi hs1 hT1 ho h7 h8 h6e hb1 hw heq
      have hkb := kK_le (n := n + 2 + i) hk
      refine xq_iload_n dX6_seesLine_52 rfl rfl ?_
      refine xq_bipush dX6_seesLine_53 bp6 ?_
      refine xq_icmp_geN dX6_seesLine_55 rfl (by omega) (by omega) ⟨fun h55 => ?_, fun h55 => ?_⟩
      · skip
        refine xq_iconst dX6_seesLine_158 ic1 ?_
        refine xq_zret dX6_seesLine_159 rfl (by decide) ?_
        have ei : i = 6 := by omega
        subst ei
        rw [heq]
        exact ⟨true, H1, ⟨rfl, ho, hs1, h7, h8, hT1, hb1⟩, rfl⟩
      · skip
        refine xq_iload_n dX6_seesLine_58 rfl rfl ?_
        refine xq_if_eqN dX6_seesLine_59 rfl (by omega) ⟨fun h59 => ?_, fun h59 => ?_⟩
        · skip
          have hd : 6 - i = (5 - i) + 1 := by omega
          have su : seeL s T p ((5 - i) + 1) i (n + 2 + i) w = (if i ≠ 0 ∧ kK s (n + 2 + i) ≠ 39 then .inr (n + 2 + i, setT T 8 p w) else if knoZ s (n + 2 + i) (tPn T) (tNp T) = -1 then .inl (knoF s (n + 2 + i), n + 2 + i) else if (knoZ s (n + 2 + i) (tPn T) (tNp T)).toNat = p then .inl (5, n + 2 + i) else if w.testBit (knoZ s (n + 2 + i) (tPn T) (tNp T)).toNat = true then .inl (3, n + 2 + i) else seeL s T p (5 - i) (i + 1) (n + 2 + i + 1) (w ||| 1 <<< (knoZ s (n + 2 + i) (tPn T) (tNp T)).toNat)) := rfl
          have n0 : ¬ (i ≠ 0 ∧ kK s (n + 2 + i) ≠ 39) := fun z => z.1 h59
          rcases knoZ_r s (n + 2 + i) (tPn T) (tNp T) with hz | ⟨q, hq, -, hz⟩
          · skip
            refine xq_aload_n dX6_seesLine_74 rfl rfl ?_
            refine xq_getF clX6 (by decide) rfl fl_RX6_9 dX6_seesLine_75 (Fx.s7 hF) (Fx.r7_0 hF) ?_
            refine xq_aload_n dX6_seesLine_78 rfl rfl ?_
            refine xq_getF clX8 (by decide) rfl fl_RX6_109 dX6_seesLine_79 (Tx.s0 ht) (Tx.r1 ht) ?_
            refine xq_callV1H clX9 gd_X9_known dX6_seesLine_82 ml_RX6_112 im_X9_known se_X9_known rfl (Fx.s2 hF) (by exact Nat.le_of_ble_eq_true rfl) (by decide) (c_known0 hF hs1 hk (by omega) (Tx.n3 ht) (show NmP H1 (t + 3) (tNp T) (tPn T) from hT1.nmp) (by omega) (by decide) hz) ?_
            intro x82 H82 p82
            obtain ⟨rfl, q82⟩ := p82
            refine xq_istore dX6_seesLine_85 rfl ?_
            refine xq_iload dX6_seesLine_87 rfl ?_
            refine xq_if_ge dX6_seesLine_89 rfl ⟨fun h89 => ?_, fun h89 => ?_⟩
            · skip
              exact absurd h89 (by decide)
            · skip
              refine xq_iconst dX6_seesLine_92 ic0 ?_
              refine xq_zret dX6_seesLine_93 rfl (by decide) ?_
              have e : seeL s T p (5 - i + 1) i (n + 2 + i) w = .inl (knoF s (n + 2 + i), n + 2 + i) := by rw [su, if_neg n0, if_pos hz]
              rw [heq, hd, e]
              exact ⟨false, H82, ⟨rfl, Off.tr ho (q82.2.2.2.mo (fun q h => Or.inl h)), q82.1, q82.2.1, (q82.2.2.1 6 (by decide) (by decide)).trans h6e⟩, rfl⟩
          · skip
            refine xq_aload_n dX6_seesLine_74 rfl rfl ?_
            refine xq_getF clX6 (by decide) rfl fl_RX6_9 dX6_seesLine_75 (Fx.s7 hF) (Fx.r7_0 hF) ?_
            refine xq_aload_n dX6_seesLine_78 rfl rfl ?_
            refine xq_getF clX8 (by decide) rfl fl_RX6_109 dX6_seesLine_79 (Tx.s0 ht) (Tx.r1 ht) ?_
            refine xq_callV1P clX9 gd_X9_known dX6_seesLine_82 ml_RX6_112 im_X9_known se_X9_known rfl (Fx.s2 hF) (by exact Nat.le_of_ble_eq_true rfl) (by decide) (c_known1 hF hs1 hk (by omega) (Tx.n3 ht) (show NmP H1 (t + 3) (tNp T) (tPn T) from hT1.nmp) (by omega) (by decide) hz) ?_
            refine xq_istore dX6_seesLine_85 rfl ?_
            refine xq_iload dX6_seesLine_87 rfl ?_
            refine xq_if_geN dX6_seesLine_89 rfl (by omega) ?_
            refine xq_iload dX6_seesLine_94 rfl ?_
            refine xq_iload_n dX6_seesLine_96 rfl rfl ?_
            refine xq_icmp_neN dX6_seesLine_97 rfl (by omega) (by omega) ⟨fun h97 => ?_, fun h97 => ?_⟩
            · skip
              refine xq_aload_n dX6_seesLine_109 rfl rfl ?_
              refine xq_getF clX8 (by decide) rfl fl_RX6_129 dX6_seesLine_110 (Tx.s0 ht) (Tx.r6 ht) ?_
              refine xq_iload_n dX6_seesLine_113 rfl rfl ?_
              refine xq_ialdN (v := nI w) dX6_seesLine_114 (Tx.s13 ht) (by omega) (by decide) ((hT1.se p (by omega)).trans (by rw [setT_se, if_pos rfl])) ?_
              refine xq_iload dX6_seesLine_115 rfl ?_
              refine xq_ishrN dX6_seesLine_117 (by omega) (by omega) ?_
              refine xq_iconst dX6_seesLine_118 ic1 ?_
              have hb119 := and1_le (w >>> q)
              refine xq_iandN dX6_seesLine_119 ?_
              refine xq_if_eqN dX6_seesLine_120 rfl (by omega) ⟨fun h120 => ?_, fun h120 => ?_⟩
              · skip
                refine xq_aload_n dX6_seesLine_132 rfl rfl ?_
                refine xq_getF clX8 (by decide) rfl fl_RX6_129 dX6_seesLine_133 (Tx.s0 ht) (Tx.r6 ht) ?_
                refine xq_iload_n dX6_seesLine_136 rfl rfl ?_
                refine xq_dup2 dX6_seesLine_137 rfl rfl ?_
                refine xq_ialdN (v := nI w) dX6_seesLine_138 (Tx.s13 ht) (by omega) (by decide) ((hT1.se p (by omega)).trans (by rw [setT_se, if_pos rfl])) ?_
                refine xq_iconst dX6_seesLine_139 ic1 ?_
                refine xq_iload dX6_seesLine_140 rfl ?_
                refine xq_ishlN dX6_seesLine_142 (by omega) ?_
                refine xq_iorN dX6_seesLine_143 ?_
                refine xq_iastN dX6_seesLine_144 (Tx.s13 ht) (by omega) (by decide) ?_
                refine xq_aload_n dX6_seesLine_145 rfl rfl ?_
                refine xq_getF clX6 (by decide) rfl fl_RX6_9 dX6_seesLine_146 (Fx.s7 hF) (Fx.r7_0 hF) ?_
                refine xq_callV0N clX9 gd_X9_step dX6_seesLine_149 ml_RX6_84 im_X9_step se_X9_step rfl (Fx.s2 hF) (by exact Nat.le_of_ble_eq_true rfl) (by decide) (c_step hF (hs1.pI (a := t + 13) (by omega) p (nI (w ||| 1 <<< q))) hk (by omega)) ?_
                intro H149 p149
                subst p149
                refine xq_iincN dX6_seesLine_152 ic1 rfl rfl ?_
                refine xq_goto dX6_seesLine_155 rfl ?_
                have nz : ¬ knoZ s (n + 2 + i) (tPn T) (tNp T) = -1 := by rw [hz]; omega
                have ez : (knoZ s (n + 2 + i) (tPn T) (tNp T)).toNat = q := by rw [hz]; rfl
                have hfin : seeR s n T = seeL s T p (6 - (i + 1)) (i + 1) (n + 2 + (i + 1)) (w ||| 1 <<< q) := by
                  rw [heq, hd, su, if_neg n0, if_neg nz, ez, if_neg h97, if_neg (by rw [(tb_shr w q).mp h120]; decide), show 6 - (i + 1) = 5 - i from by omega]; rfl
                have hT2 := TxP.se8 (p := p) (m := w ||| 1 <<< q) hT1 ht24
                rw [setT_2] at hT2
                exact xq_fgt (ih (i + 1) _ (w ||| 1 <<< q) (by omega) (by omega) ((hs1.pI (a := t + 13) (by omega) p (nI (w ||| 1 <<< q))).st (n + 2 + (i + 1))) (hT2.st2 ht24) (Off.pI (A := (fun q => q = 2 ∨ (8 ≤ q ∧ q < 16) ∨ (t ≤ q ∧ q < t + 21))) (Off.pI (A := (fun q => q = 2 ∨ (8 ≤ q ∧ q < 16) ∨ (t ≤ q ∧ q < t + 21))) ho (by omega) _ _) (by omega) _ _) (by rw [hI_sI, if_neg (by omega), hI_sI, if_neg (by omega)]; exact h7) (by rw [hI_sI, if_neg (by omega), hI_sI, if_neg (by omega)]; exact h8) (by rw [hI_sI, if_neg (by omega), hI_sI, if_neg (by omega)]; exact h6e) (by rw [hI_sI, if_neg (by omega), hI_sI, if_neg (by omega)]; exact hb1) (or64 hw (shl64 (by omega))) hfin) (by exact And.intro rfl (And.intro rfl (And.intro rfl (And.intro rfl (trivial)))))
              · skip
                refine xq_aload_n dX6_seesLine_123 rfl rfl ?_
                refine xq_getF clX6 (by decide) rfl fl_RX6_9 dX6_seesLine_124 (Fx.s7 hF) (Fx.r7_0 hF) ?_
                refine xq_iconst dX6_seesLine_127 ic3 ?_
                refine xq_callV1H clX9 gd_X9_fail dX6_seesLine_128 ml_RX6_71 im_X9_fail se_X9_fail rfl (Fx.s2 hF) (by exact Nat.le_of_ble_eq_true rfl) (by decide) (c_fail hF hs1 hk (by omega) (c := 3) (by decide)) ?_
                intro x128 H128 p128
                obtain ⟨rfl, q128⟩ := p128
                refine xq_zret dX6_seesLine_131 rfl (by decide) ?_
                have nz : ¬ knoZ s (n + 2 + i) (tPn T) (tNp T) = -1 := by rw [hz]; omega
                have ez : (knoZ s (n + 2 + i) (tPn T) (tNp T)).toNat = q := by rw [hz]; rfl
                have e : seeL s T p (5 - i + 1) i (n + 2 + i) w = .inl (3, n + 2 + i) := by rw [su, if_neg n0, if_neg nz, ez, if_neg h97, if_pos (by simpa using fun z => h120 ((tb_shr w q).mpr z))]
                rw [heq, hd, e]
                exact ⟨false, H128, ⟨rfl, Off.tr ho (q128.2.2.2.mo (fun q h => Or.inl h)), q128.1, q128.2.1, (q128.2.2.1 6 (by decide) (by decide)).trans h6e⟩, rfl⟩
            · skip
              refine xq_aload_n dX6_seesLine_100 rfl rfl ?_
              refine xq_getF clX6 (by decide) rfl fl_RX6_9 dX6_seesLine_101 (Fx.s7 hF) (Fx.r7_0 hF) ?_
              refine xq_iconst dX6_seesLine_104 ic5 ?_
              refine xq_callV1H clX9 gd_X9_fail dX6_seesLine_105 ml_RX6_71 im_X9_fail se_X9_fail rfl (Fx.s2 hF) (by exact Nat.le_of_ble_eq_true rfl) (by decide) (c_fail hF hs1 hk (by omega) (c := 5) (by decide)) ?_
              intro x105 H105 p105
              obtain ⟨rfl, q105⟩ := p105
              refine xq_zret dX6_seesLine_108 rfl (by decide) ?_
              have nz : ¬ knoZ s (n + 2 + i) (tPn T) (tNp T) = -1 := by rw [hz]; omega
              have ez : (knoZ s (n + 2 + i) (tPn T) (tNp T)).toNat = q := by rw [hz]; rfl
              have e : seeL s T p (5 - i + 1) i (n + 2 + i) w = .inl (5, n + 2 + i) := by rw [su, if_neg n0, if_neg nz, ez, if_pos h97]
              rw [heq, hd, e]
              exact ⟨false, H105, ⟨rfl, Off.tr ho (q105.2.2.2.mo (fun q h => Or.inl h)), q105.1, q105.2.1, (q105.2.2.1 6 (by decide) (by decide)).trans h6e⟩, rfl⟩
        · skip
          refine xq_aload_n dX6_seesLine_62 rfl rfl ?_
          refine xq_getF clX6 (by decide) rfl fl_RX6_9 dX6_seesLine_63 (Fx.s7 hF) (Fx.r7_0 hF) ?_
          refine xq_callV0P clX9 gd_X9_kind dX6_seesLine_66 ml_RX6_29 im_X9_kind se_X9_kind rfl (Fx.s2 hF) (by exact Nat.le_of_ble_eq_true rfl) (by decide) (c_kind hF hs1 hk (by omega)) ?_
          refine xq_bipush dX6_seesLine_69 bp39 ?_
          refine xq_icmp_neN dX6_seesLine_71 rfl (by omega) (by omega) ⟨fun h71 => ?_, fun h71 => ?_⟩
          · skip
            refine xq_iconst dX6_seesLine_158 ic1 ?_
            refine xq_zret dX6_seesLine_159 rfl (by decide) ?_
            have hd : 6 - i = (5 - i) + 1 := by omega
            have su : seeL s T p ((5 - i) + 1) i (n + 2 + i) w = (if i ≠ 0 ∧ kK s (n + 2 + i) ≠ 39 then .inr (n + 2 + i, setT T 8 p w) else if knoZ s (n + 2 + i) (tPn T) (tNp T) = -1 then .inl (knoF s (n + 2 + i), n + 2 + i) else if (knoZ s (n + 2 + i) (tPn T) (tNp T)).toNat = p then .inl (5, n + 2 + i) else if w.testBit (knoZ s (n + 2 + i) (tPn T) (tNp T)).toNat = true then .inl (3, n + 2 + i) else seeL s T p (5 - i) (i + 1) (n + 2 + i + 1) (w ||| 1 <<< (knoZ s (n + 2 + i) (tPn T) (tNp T)).toNat)) := rfl
            rw [heq, hd, su, if_pos ⟨h59, h71⟩]
            exact ⟨true, H1, ⟨rfl, ho, hs1, h7, h8, hT1, hb1⟩, rfl⟩
          · skip
            have hd : 6 - i = (5 - i) + 1 := by omega
            have su : seeL s T p ((5 - i) + 1) i (n + 2 + i) w = (if i ≠ 0 ∧ kK s (n + 2 + i) ≠ 39 then .inr (n + 2 + i, setT T 8 p w) else if knoZ s (n + 2 + i) (tPn T) (tNp T) = -1 then .inl (knoF s (n + 2 + i), n + 2 + i) else if (knoZ s (n + 2 + i) (tPn T) (tNp T)).toNat = p then .inl (5, n + 2 + i) else if w.testBit (knoZ s (n + 2 + i) (tPn T) (tNp T)).toNat = true then .inl (3, n + 2 + i) else seeL s T p (5 - i) (i + 1) (n + 2 + i + 1) (w ||| 1 <<< (knoZ s (n + 2 + i) (tPn T) (tNp T)).toNat)) := rfl
            have n0 : ¬ (i ≠ 0 ∧ kK s (n + 2 + i) ≠ 39) := fun z => z.2 h71
            rcases knoZ_r s (n + 2 + i) (tPn T) (tNp T) with hz | ⟨q, hq, -, hz⟩
            · skip
              refine xq_aload_n dX6_seesLine_74 rfl rfl ?_
              refine xq_getF clX6 (by decide) rfl fl_RX6_9 dX6_seesLine_75 (Fx.s7 hF) (Fx.r7_0 hF) ?_
              refine xq_aload_n dX6_seesLine_78 rfl rfl ?_
              refine xq_getF clX8 (by decide) rfl fl_RX6_109 dX6_seesLine_79 (Tx.s0 ht) (Tx.r1 ht) ?_
              refine xq_callV1H clX9 gd_X9_known dX6_seesLine_82 ml_RX6_112 im_X9_known se_X9_known rfl (Fx.s2 hF) (by exact Nat.le_of_ble_eq_true rfl) (by decide) (c_known0 hF hs1 hk (by omega) (Tx.n3 ht) (show NmP H1 (t + 3) (tNp T) (tPn T) from hT1.nmp) (by omega) (by decide) hz) ?_
              intro x82 H82 p82
              obtain ⟨rfl, q82⟩ := p82
              refine xq_istore dX6_seesLine_85 rfl ?_
              refine xq_iload dX6_seesLine_87 rfl ?_
              refine xq_if_ge dX6_seesLine_89 rfl ⟨fun h89 => ?_, fun h89 => ?_⟩
              · skip
                exact absurd h89 (by decide)
              · skip
                refine xq_iconst dX6_seesLine_92 ic0 ?_
                refine xq_zret dX6_seesLine_93 rfl (by decide) ?_
                have e : seeL s T p (5 - i + 1) i (n + 2 + i) w = .inl (knoF s (n + 2 + i), n + 2 + i) := by rw [su, if_neg n0, if_pos hz]
                rw [heq, hd, e]
                exact ⟨false, H82, ⟨rfl, Off.tr ho (q82.2.2.2.mo (fun q h => Or.inl h)), q82.1, q82.2.1, (q82.2.2.1 6 (by decide) (by decide)).trans h6e⟩, rfl⟩
            · skip
              refine xq_aload_n dX6_seesLine_74 rfl rfl ?_
              refine xq_getF clX6 (by decide) rfl fl_RX6_9 dX6_seesLine_75 (Fx.s7 hF) (Fx.r7_0 hF) ?_
              refine xq_aload_n dX6_seesLine_78 rfl rfl ?_
              refine xq_getF clX8 (by decide) rfl fl_RX6_109 dX6_seesLine_79 (Tx.s0 ht) (Tx.r1 ht) ?_
              refine xq_callV1P clX9 gd_X9_known dX6_seesLine_82 ml_RX6_112 im_X9_known se_X9_known rfl (Fx.s2 hF) (by exact Nat.le_of_ble_eq_true rfl) (by decide) (c_known1 hF hs1 hk (by omega) (Tx.n3 ht) (show NmP H1 (t + 3) (tNp T) (tPn T) from hT1.nmp) (by omega) (by decide) hz) ?_
              refine xq_istore dX6_seesLine_85 rfl ?_
              refine xq_iload dX6_seesLine_87 rfl ?_
              refine xq_if_geN dX6_seesLine_89 rfl (by omega) ?_
              refine xq_iload dX6_seesLine_94 rfl ?_
              refine xq_iload_n dX6_seesLine_96 rfl rfl ?_
              refine xq_icmp_neN dX6_seesLine_97 rfl (by omega) (by omega) ⟨fun h97 => ?_, fun h97 => ?_⟩
              · skip
                refine xq_aload_n dX6_seesLine_109 rfl rfl ?_
                refine xq_getF clX8 (by decide) rfl fl_RX6_129 dX6_seesLine_110 (Tx.s0 ht) (Tx.r6 ht) ?_
                refine xq_iload_n dX6_seesLine_113 rfl rfl ?_
                refine xq_ialdN (v := nI w) dX6_seesLine_114 (Tx.s13 ht) (by omega) (by decide) ((hT1.se p (by omega)).trans (by rw [setT_se, if_pos rfl])) ?_
                refine xq_iload dX6_seesLine_115 rfl ?_
                refine xq_ishrN dX6_seesLine_117 (by omega) (by omega) ?_
                refine xq_iconst dX6_seesLine_118 ic1 ?_
                have hb119 := and1_le (w >>> q)
                refine xq_iandN dX6_seesLine_119 ?_
                refine xq_if_eqN dX6_seesLine_120 rfl (by omega) ⟨fun h120 => ?_, fun h120 => ?_⟩
                · skip
                  refine xq_aload_n dX6_seesLine_132 rfl rfl ?_
                  refine xq_getF clX8 (by decide) rfl fl_RX6_129 dX6_seesLine_133 (Tx.s0 ht) (Tx.r6 ht) ?_
                  refine xq_iload_n dX6_seesLine_136 rfl rfl ?_
                  refine xq_dup2 dX6_seesLine_137 rfl rfl ?_
                  refine xq_ialdN (v := nI w) dX6_seesLine_138 (Tx.s13 ht) (by omega) (by decide) ((hT1.se p (by omega)).trans (by rw [setT_se, if_pos rfl])) ?_
                  refine xq_iconst dX6_seesLine_139 ic1 ?_
                  refine xq_iload dX6_seesLine_140 rfl ?_
                  refine xq_ishlN dX6_seesLine_142 (by omega) ?_
                  refine xq_iorN dX6_seesLine_143 ?_
                  refine xq_iastN dX6_seesLine_144 (Tx.s13 ht) (by omega) (by decide) ?_
                  refine xq_aload_n dX6_seesLine_145 rfl rfl ?_
                  refine xq_getF clX6 (by decide) rfl fl_RX6_9 dX6_seesLine_146 (Fx.s7 hF) (Fx.r7_0 hF) ?_
                  refine xq_callV0N clX9 gd_X9_step dX6_seesLine_149 ml_RX6_84 im_X9_step se_X9_step rfl (Fx.s2 hF) (by exact Nat.le_of_ble_eq_true rfl) (by decide) (c_step hF (hs1.pI (a := t + 13) (by omega) p (nI (w ||| 1 <<< q))) hk (by omega)) ?_
                  intro H149 p149
                  subst p149
                  refine xq_iincN dX6_seesLine_152 ic1 rfl rfl ?_
                  refine xq_goto dX6_seesLine_155 rfl ?_
                  have nz : ¬ knoZ s (n + 2 + i) (tPn T) (tNp T) = -1 := by rw [hz]; omega
                  have ez : (knoZ s (n + 2 + i) (tPn T) (tNp T)).toNat = q := by rw [hz]; rfl
                  have hfin : seeR s n T = seeL s T p (6 - (i + 1)) (i + 1) (n + 2 + (i + 1)) (w ||| 1 <<< q) := by
                    rw [heq, hd, su, if_neg n0, if_neg nz, ez, if_neg h97, if_neg (by rw [(tb_shr w q).mp h120]; decide), show 6 - (i + 1) = 5 - i from by omega]; rfl
                  have hT2 := TxP.se8 (p := p) (m := w ||| 1 <<< q) hT1 ht24
                  rw [setT_2] at hT2
                  exact xq_fgt (ih (i + 1) _ (w ||| 1 <<< q) (by omega) (by omega) ((hs1.pI (a := t + 13) (by omega) p (nI (w ||| 1 <<< q))).st (n + 2 + (i + 1))) (hT2.st2 ht24) (Off.pI (A := (fun q => q = 2 ∨ (8 ≤ q ∧ q < 16) ∨ (t ≤ q ∧ q < t + 21))) (Off.pI (A := (fun q => q = 2 ∨ (8 ≤ q ∧ q < 16) ∨ (t ≤ q ∧ q < t + 21))) ho (by omega) _ _) (by omega) _ _) (by rw [hI_sI, if_neg (by omega), hI_sI, if_neg (by omega)]; exact h7) (by rw [hI_sI, if_neg (by omega), hI_sI, if_neg (by omega)]; exact h8) (by rw [hI_sI, if_neg (by omega), hI_sI, if_neg (by omega)]; exact h6e) (by rw [hI_sI, if_neg (by omega), hI_sI, if_neg (by omega)]; exact hb1) (or64 hw (shl64 (by omega))) hfin) (by exact And.intro rfl (And.intro rfl (And.intro rfl (And.intro rfl (trivial)))))
                · skip
                  refine xq_aload_n dX6_seesLine_123 rfl rfl ?_
                  refine xq_getF clX6 (by decide) rfl fl_RX6_9 dX6_seesLine_124 (Fx.s7 hF) (Fx.r7_0 hF) ?_
                  refine xq_iconst dX6_seesLine_127 ic3 ?_
                  refine xq_callV1H clX9 gd_X9_fail dX6_seesLine_128 ml_RX6_71 im_X9_fail se_X9_fail rfl (Fx.s2 hF) (by exact Nat.le_of_ble_eq_true rfl) (by decide) (c_fail hF hs1 hk (by omega) (c := 3) (by decide)) ?_
                  intro x128 H128 p128
                  obtain ⟨rfl, q128⟩ := p128
                  refine xq_zret dX6_seesLine_131 rfl (by decide) ?_
                  have nz : ¬ knoZ s (n + 2 + i) (tPn T) (tNp T) = -1 := by rw [hz]; omega
                  have ez : (knoZ s (n + 2 + i) (tPn T) (tNp T)).toNat = q := by rw [hz]; rfl
                  have e : seeL s T p (5 - i + 1) i (n + 2 + i) w = .inl (3, n + 2 + i) := by rw [su, if_neg n0, if_neg nz, ez, if_neg h97, if_pos (by simpa using fun z => h120 ((tb_shr w q).mpr z))]
                  rw [heq, hd, e]
                  exact ⟨false, H128, ⟨rfl, Off.tr ho (q128.2.2.2.mo (fun q h => Or.inl h)), q128.1, q128.2.1, (q128.2.2.1 6 (by decide) (by decide)).trans h6e⟩, rfl⟩
              · skip
                refine xq_aload_n dX6_seesLine_100 rfl rfl ?_
                refine xq_getF clX6 (by decide) rfl fl_RX6_9 dX6_seesLine_101 (Fx.s7 hF) (Fx.r7_0 hF) ?_
                refine xq_iconst dX6_seesLine_104 ic5 ?_
                refine xq_callV1H clX9 gd_X9_fail dX6_seesLine_105 ml_RX6_71 im_X9_fail se_X9_fail rfl (Fx.s2 hF) (by exact Nat.le_of_ble_eq_true rfl) (by decide) (c_fail hF hs1 hk (by omega) (c := 5) (by decide)) ?_
                intro x105 H105 p105
                obtain ⟨rfl, q105⟩ := p105
                refine xq_zret dX6_seesLine_108 rfl (by decide) ?_
                have nz : ¬ knoZ s (n + 2 + i) (tPn T) (tNp T) = -1 := by rw [hz]; omega
                have ez : (knoZ s (n + 2 + i) (tPn T) (tNp T)).toNat = q := by rw [hz]; rfl
                have e : seeL s T p (5 - i + 1) i (n + 2 + i) w = .inl (5, n + 2 + i) := by rw [su, if_neg n0, if_neg nz, ez, if_pos h97]
                rw [heq, hd, e]
                exact ⟨false, H105, ⟨rfl, Off.tr ho (q105.2.2.2.mo (fun q h => Or.inl h)), q105.1, q105.2.1, (q105.2.2.1 6 (by decide) (by decide)).trans h6e⟩, rfl⟩
  refine vq_intro (by decide) (by exact Nat.le_of_ble_eq_true rfl) rfl ?_
  refine xq_aload_n dX6_seesLine_0 rfl rfl ?_
  refine xq_getF clX6 (by decide) rfl fl_RX6_9 dX6_seesLine_1 (Fx.s7 hF) (Fx.r7_0 hF) ?_
  refine xq_callV0N clX9 gd_X9_step dX6_seesLine_4 ml_RX6_84 im_X9_step se_X9_step rfl (Fx.s2 hF) (by exact Nat.le_of_ble_eq_true rfl) (by decide) (c_step hF hs hk (by omega)) ?_
  intro H4 p4
  subst p4
  refine xq_aload_n dX6_seesLine_7 rfl rfl ?_
  refine xq_getF clX6 (by decide) rfl fl_RX6_9 dX6_seesLine_8 (Fx.s7 hF) (Fx.r7_0 hF) ?_
  refine xq_aload_n dX6_seesLine_11 rfl rfl ?_
  refine xq_getF clX8 (by decide) rfl fl_RX6_109 dX6_seesLine_12 (Tx.s0 ht) (Tx.r1 ht) ?_
  refine xq_callV1P clX9 gd_X9_known dX6_seesLine_15 ml_RX6_112 im_X9_known se_X9_known rfl (Fx.s2 hF) (by exact Nat.le_of_ble_eq_true rfl) (by decide) (c_known1 hF hs2 hk (by omega) (Tx.n3 ht) hT2.nmp (by omega) (by decide) hz) ?_
  refine xq_istore_n dX6_seesLine_18 rfl rfl ?_
  refine xq_iload_n dX6_seesLine_19 rfl rfl ?_
  refine xq_if_geN dX6_seesLine_20 rfl (by omega) ?_
  refine xq_aload_n dX6_seesLine_25 rfl rfl ?_
  refine xq_getF clX8 (by decide) rfl fl_RX6_129 dX6_seesLine_26 (Tx.s0 ht) (Tx.r6 ht) ?_
  refine xq_iload_n dX6_seesLine_29 rfl rfl ?_
  refine xq_ialdN dX6_seesLine_30 (Tx.s13 ht) (by omega) (by decide) (hT2.se p (by omega)) ?_
  refine xq_if_eqN dX6_seesLine_31 rfl (by omega) ⟨fun h31 => ?_, fun h31 => ?_⟩
  · skip
    refine xq_aload_n dX6_seesLine_43 rfl rfl ?_
    refine xq_getF clX6 (by decide) rfl fl_RX6_9 dX6_seesLine_44 (Fx.s7 hF) (Fx.r7_0 hF) ?_
    refine xq_callV0N clX9 gd_X9_step dX6_seesLine_47 ml_RX6_84 im_X9_step se_X9_step rfl (Fx.s2 hF) (by exact Nat.le_of_ble_eq_true rfl) (by decide) (c_step hF hs2 hk (by omega)) ?_
    intro H47 p47
    subst p47
    refine xq_iconst dX6_seesLine_50 ic0 ?_
    refine xq_istore_n dX6_seesLine_51 rfl rfl ?_
    have nz : ¬ knoZ s (n + 1) (tPn T) (tNp T) = -1 := by rw [hz]; omega
    have ez : (knoZ s (n + 1) (tPn T) (tNp T)).toNat = p := by rw [hz]; rfl
    exact xq_fgt (lp 7 0 _ 0 (by omega) (by omega) (hs2.st (n + 2)) (by rw [setT_id T 8 p 0 (by exact h31)]; exact hT3) (Off.pI (A := (fun q => q = 2 ∨ (8 ≤ q ∧ q < 16) ∨ (t ≤ q ∧ q < t + 21))) (Off.pI (A := (fun q => q = 2 ∨ (8 ≤ q ∧ q < 16) ∨ (t ≤ q ∧ q < t + 21))) Off.rf (by omega) _ _) (by omega) _ _) (by rw [hI_sI, if_neg (by omega), hI_sI, if_neg (by omega)]) (by rw [hI_sI, if_neg (by omega), hI_sI, if_neg (by omega)]) (by rw [hI_sI, if_neg (by omega), hI_sI, if_neg (by omega)]) (by rw [hI_sI, if_neg (by omega), hI_sI, if_neg (by omega)]; exact hbg) (by decide) (by unfold seeR; rw [if_neg nz, ez, if_neg (fun z => z h31)])) (by exact And.intro rfl (And.intro rfl (And.intro rfl (And.intro rfl (trivial)))))
  · skip
    refine xq_aload_n dX6_seesLine_34 rfl rfl ?_
    refine xq_getF clX6 (by decide) rfl fl_RX6_9 dX6_seesLine_35 (Fx.s7 hF) (Fx.r7_0 hF) ?_
    refine xq_iconst dX6_seesLine_38 ic3 ?_
    refine xq_callV1H clX9 gd_X9_fail dX6_seesLine_39 ml_RX6_71 im_X9_fail se_X9_fail rfl (Fx.s2 hF) (by exact Nat.le_of_ble_eq_true rfl) (by decide) (c_fail hF hs2 hk (by omega) (c := 3) (by decide)) ?_
    intro x39 H39 p39
    obtain ⟨rfl, q39⟩ := p39
    refine xq_zret dX6_seesLine_42 rfl (by decide) ?_
    have nz : ¬ knoZ s (n + 1) (tPn T) (tNp T) = -1 := by rw [hz]; omega
    have ez : (knoZ s (n + 1) (tPn T) (tNp T)).toNat = p := by rw [hz]; rfl
    have e : seeR s n T = .inl (3, n + 1) := by unfold seeR; rw [if_neg nz, ez, if_pos h31]
    rw [e]
    exact ⟨false, H39, ⟨rfl, Off.tr (Off.pI (A := (fun q => q = 2 ∨ (8 ≤ q ∧ q < 16) ∨ (t ≤ q ∧ q < t + 21))) Off.rf (by omega) _ _) (q39.2.2.2.mo (fun q h => Or.inl h)), q39.1, q39.2.1, (q39.2.2.1 6 (by decide) (by decide)).trans (by rw [hI_sI, if_neg (by omega)])⟩, rfl⟩
theorem c_seesLine (hF : gFx S) (ht : gTx S t) (ht24 : 24 ≤ t) (ht45 : t ≤ 45) (hs : TrP H s n) (hk : TrOk s) (hn : n ≤ 790) (hT : TxP H t T) (hbg : hI H (t + 7) 4 = nI (tNk T)) (hnp : tNp T ≤ 6) (hse : ∀ k, k < 6 → tSe T k < 64) : Hv mX6_seesLine 2 [.ref 7, .ref t] S H vB (fun x H' => x = lnB (seeR s n T) ∧ LnQ H H' t s (seeR s n T)) := by
  rcases knoZ_r s (n + 1) (tPn T) (tNp T) with hz | ⟨p, hp, -, hz⟩
  · exact c_seesLine0 hF ht ht24 ht45 hs hk hn hT hbg hnp hse hz
  · exact c_seesLine1 hF ht ht24 ht45 hs hk hn hT hbg hnp hse hz hp
end LN
