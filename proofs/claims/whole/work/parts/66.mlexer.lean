/-! ===== the reference reads tokens ===== -/
section MLa
variable {S : xS} {H H1 H2 H3 : xH} {b : Nat → Nat} {n e e2 p q i j k x w m : Nat} {A F : Nat → Prop}
theorem hI_of (h : MoF A F H H2) (k : Nat) (hk : ¬ F k) : hI H2 83 k = hI H 83 k := h.2 k hk
def LxP (S : xS) (H : xH) (b : Nat → Nat) (n : Nat) (e : Nat) : Prop := (gFx S) ∧ (hI H 83 21 = nI n) ∧ (hI H 83 22 = nI e) ∧ (∀ j, j < n → hI H 84 j = nI (b j) ∧ b j < 256) ∧ (n ≤ 700) ∧ (e ≤ n)
theorem LxP.fx {S : xS} {H : xH} {b : Nat → Nat} {n : Nat} {e : Nat} (h : LxP S H b n e) : gFx S := h.1
theorem LxP.sz {S : xS} {H : xH} {b : Nat → Nat} {n : Nat} {e : Nat} (h : LxP S H b n e) : hI H 83 21 = nI n := h.2.1
theorem LxP.at {S : xS} {H : xH} {b : Nat → Nat} {n : Nat} {e : Nat} (h : LxP S H b n e) : hI H 83 22 = nI e := h.2.2.1
theorem LxP.ta {S : xS} {H : xH} {b : Nat → Nat} {n : Nat} {e : Nat} (h : LxP S H b n e) : ∀ j, j < n → hI H 84 j = nI (b j) ∧ b j < 256 := h.2.2.2.1
theorem LxP.n7 {S : xS} {H : xH} {b : Nat → Nat} {n : Nat} {e : Nat} (h : LxP S H b n e) : n ≤ 700 := h.2.2.2.2.1
theorem LxP.le {S : xS} {H : xH} {b : Nat → Nat} {n : Nat} {e : Nat} (h : LxP S H b n e) : e ≤ n := h.2.2.2.2.2
def hrv (b : Nat → Nat) (n e : Nat) : Int32 := if e < n then nI (b e) else -1
theorem LxP.mv (h : LxP S H b n e) (ho : Off A H H2) (h84 : ¬ A 84) (h21 : hI H2 83 21 = hI H 83 21) (h22 : hI H2 83 22 = nI e2) (hle : e2 ≤ n) : LxP S H2 b n e2 := ⟨h.fx, h21.trans h.sz, h22, fun j hj => by rw [ho.I h84]; exact h.ta j hj, h.n7, hle⟩
theorem m_here (hx : LxP S H b n e) : Pv mX11_here 0 [.ref 83] S H (.int (hrv b n e)) := by
  have hF := hx.fx; have hn7 := hx.n7; have hle := hx.le
  refine vq_ev (vq_intro (by decide) (by exact Nat.le_of_ble_eq_true rfl) rfl ?_)
  refine xq_aload_n dX11_here_0 rfl rfl ?_
  refine xq_getIE clX11 (by decide) rfl fl_RX11_134 dX11_here_1 (Fx.s83 hF) hx.at ?_
  refine xq_aload_n dX11_here_4 rfl rfl ?_
  refine xq_getIE clX11 (by decide) rfl fl_RX11_137 dX11_here_5 (Fx.s83 hF) hx.sz ?_
  refine xq_icmp_geN dX11_here_8 rfl (by omega) (by omega) ⟨fun h8 => ?_, fun h8 => ?_⟩
  · skip
    refine xq_iconst dX11_here_23 icm1 ?_
    refine xq_iret dX11_here_24 rfl ?_
    show _ = _; rw [show hrv b n e = -1 from if_neg (by omega)]
  · skip
    refine xq_aload_n dX11_here_11 rfl rfl ?_
    refine xq_getF clX11 (by decide) rfl fl_RX11_7 dX11_here_12 (Fx.s83 hF) (Fx.r83_1 hF) ?_
    refine xq_aload_n dX11_here_15 rfl rfl ?_
    refine xq_getIE clX11 (by decide) rfl fl_RX11_134 dX11_here_16 (Fx.s83 hF) hx.at ?_
    refine xq_ialdN (v := nI (b e)) dX11_here_19 (Fx.s84 hF) (by omega) (by decide) ((hx.ta e h8).1) ?_
    refine xq_goto dX11_here_20 rfl ?_
    refine xq_iret dX11_here_24 rfl ?_
    show _ = _; rw [show hrv b n e = nI (b e) from if_pos h8]
theorem m_isSmall0 (hx256 : x < 256) : Pv mX11_isSmall 0 [vN x] S H (vB (isL x)) := by
  refine vq_ev (vq_intro (by decide) (by exact Nat.le_of_ble_eq_true rfl) rfl ?_)
  refine xq_iload_n dX11_isSmall_0 rfl rfl ?_
  refine xq_bipush dX11_isSmall_1 bp97 ?_
  refine xq_icmp_ltN dX11_isSmall_3 rfl (by omega) (by omega) ⟨fun h3 => ?_, fun h3 => ?_⟩
  · skip
    refine xq_iconst dX11_isSmall_16 ic0 ?_
    refine xq_zret dX11_isSmall_17 rfl (by decide) ?_
    show _ = _; rw [show isL x = false from decide_eq_false (by omega)]; rfl
  · skip
    refine xq_iload_n dX11_isSmall_6 rfl rfl ?_
    refine xq_bipush dX11_isSmall_7 bp122 ?_
    refine xq_icmp_gtN dX11_isSmall_9 rfl (by omega) (by omega) ⟨fun h9 => ?_, fun h9 => ?_⟩
    · skip
      refine xq_iconst dX11_isSmall_16 ic0 ?_
      refine xq_zret dX11_isSmall_17 rfl (by decide) ?_
      show _ = _; rw [show isL x = false from decide_eq_false (by omega)]; rfl
    · skip
      refine xq_iconst dX11_isSmall_12 ic1 ?_
      refine xq_goto dX11_isSmall_13 rfl ?_
      refine xq_zret dX11_isSmall_17 rfl (by decide) ?_
      show _ = _; rw [show isL x = true from decide_eq_true (by omega)]; rfl
theorem m_isSmall1  : Pv mX11_isSmall 0 [.int (-1)] S H (vB false) := by
  refine vq_ev (vq_intro (by decide) (by exact Nat.le_of_ble_eq_true rfl) rfl ?_)
  refine xq_iload_n dX11_isSmall_0 rfl rfl ?_
  refine xq_bipush dX11_isSmall_1 bp97 ?_
  refine xq_icmp_lt dX11_isSmall_3 rfl ⟨fun h3 => ?_, fun h3 => ?_⟩
  · skip
    refine xq_iconst dX11_isSmall_16 ic0 ?_
    refine xq_zret dX11_isSmall_17 rfl (by decide) ?_
    rfl
  · skip
    exact absurd h3 (by decide)
theorem m_isSmall (hx : LxP S H b n e) : Pv mX11_isSmall 0 [.int (hrv b n e)] S H (vB (decide (e < n) && isL (b e))) := by
  unfold hrv
  by_cases h : e < n
  · rw [if_pos h, decide_eq_true h, Bool.true_and]; exact m_isSmall0 (hx.ta e h).2
  · rw [if_neg h, decide_eq_false h, Bool.false_and]; exact m_isSmall1
theorem m_isDigit0 (hx256 : x < 256) : Pv mX11_isDigit 0 [vN x] S H (vB (isD x)) := by
  refine vq_ev (vq_intro (by decide) (by exact Nat.le_of_ble_eq_true rfl) rfl ?_)
  refine xq_iload_n dX11_isDigit_0 rfl rfl ?_
  refine xq_bipush dX11_isDigit_1 bp48 ?_
  refine xq_icmp_ltN dX11_isDigit_3 rfl (by omega) (by omega) ⟨fun h3 => ?_, fun h3 => ?_⟩
  · skip
    refine xq_iconst dX11_isDigit_16 ic0 ?_
    refine xq_zret dX11_isDigit_17 rfl (by decide) ?_
    show _ = _; rw [show isD x = false from decide_eq_false (by omega)]; rfl
  · skip
    refine xq_iload_n dX11_isDigit_6 rfl rfl ?_
    refine xq_bipush dX11_isDigit_7 bp57 ?_
    refine xq_icmp_gtN dX11_isDigit_9 rfl (by omega) (by omega) ⟨fun h9 => ?_, fun h9 => ?_⟩
    · skip
      refine xq_iconst dX11_isDigit_16 ic0 ?_
      refine xq_zret dX11_isDigit_17 rfl (by decide) ?_
      show _ = _; rw [show isD x = false from decide_eq_false (by omega)]; rfl
    · skip
      refine xq_iconst dX11_isDigit_12 ic1 ?_
      refine xq_goto dX11_isDigit_13 rfl ?_
      refine xq_zret dX11_isDigit_17 rfl (by decide) ?_
      show _ = _; rw [show isD x = true from decide_eq_true (by omega)]; rfl
theorem m_isDigit1  : Pv mX11_isDigit 0 [.int (-1)] S H (vB false) := by
  refine vq_ev (vq_intro (by decide) (by exact Nat.le_of_ble_eq_true rfl) rfl ?_)
  refine xq_iload_n dX11_isDigit_0 rfl rfl ?_
  refine xq_bipush dX11_isDigit_1 bp48 ?_
  refine xq_icmp_lt dX11_isDigit_3 rfl ⟨fun h3 => ?_, fun h3 => ?_⟩
  · skip
    refine xq_iconst dX11_isDigit_16 ic0 ?_
    refine xq_zret dX11_isDigit_17 rfl (by decide) ?_
    rfl
  · skip
    exact absurd h3 (by decide)
theorem m_isDigit (hx : LxP S H b n e) : Pv mX11_isDigit 0 [.int (hrv b n e)] S H (vB (decide (e < n) && isD (b e))) := by
  unfold hrv
  by_cases h : e < n
  · rw [if_pos h, decide_eq_true h, Bool.true_and]; exact m_isDigit0 (hx.ta e h).2
  · rw [if_neg h, decide_eq_false h, Bool.false_and]; exact m_isDigit1
theorem m_word (hx : LxP S H b n e) (hp : hI H 83 23 = nI p) (hpe : p ≤ e) : Pv mX11_word 5 [.ref 83] S H (.int (if fnd (fun w => wmt b p e w) 28 < 28 then nI (fnd (fun w => wmt b p e w) 28) else -1)) := by
  have hF := hx.fx; have hn7 := hx.n7; have hle := hx.le
  have l1 : ∀ (fz : Nat) (w : Nat), 28 - w < fz → w ≤ 28 → (∀ v, v < w → wmt b p e v = false) → Xq mX11_word 5 0 0 4 [some (.ref 83), some (vN w), some (vN (wof w)), none] [] S H (fun R => R = (some (.int (if fnd (fun w => wmt b p e w) 28 < 28 then nI (fnd (fun w => wmt b p e w) 28) else -1)), S, H)) := by
    intro fz
    induction fz with
    | zero => intro w  hfz; exact absurd hfz (by omega)
    | succ fz ih =>
      intro w  hfz hw hno
      have ih0 := ih
      have hwc : wof w ≤ 137 ∧ (w < 28 ↔ wof w < 137) := by
        have : ∀ v : Fin 29, wof v.val ≤ 137 ∧ (v.val < 28 ↔ wof v.val < 137) := by decide
        exact this ⟨w, by omega⟩
      have hw137 := hwc.1
      refine xq_iload_n dX11_word_4 rfl rfl ?_
      refine xq_ldcT dX11_word_5 (Or.inr ⟨rfl, rfl⟩) ?_
      refine xq_callT0 gd_J0_length_8abf5 dX11_word_7 ml_RX11_173 im_J0_length_8abf5 se_J0_length_8abf5 rfl (by exact Nat.le_of_ble_eq_true rfl) (by decide) s_length ?_
      refine xq_icmp_geN dX11_word_10 rfl (by omega) (by omega) ⟨fun h10 => ?_, fun h10 => ?_⟩
      · skip
        refine xq_iconst dX11_word_123 icm1 ?_
        refine xq_iret dX11_word_124 rfl ?_
        have h28 : w = 28 := by
          rcases Nat.lt_or_ge w 28 with z | z
          · exact absurd (hwc.2.mp z) (by omega)
          · omega
        subst h28
        show _ = _
        rw [fnd_no (f := fun w => wmt b p e w) hno, if_neg (by decide)]
      · skip
        have hwl := hwc.2.mpr h10
        obtain ⟨w1, w2, w3, w4, w5, w6⟩ := wof_ok w hwl
        refine xq_iconst dX11_word_13 ic0 ?_
        refine xq_istore_n dX11_word_14 rfl rfl ?_
        have l2 : ∀ (fz : Nat) (i : Nat), wln w - i < fz → i ≤ wln w → p + i ≤ e → (∀ j, j < i → b (p + j) = tch (wof w + j)) → Xq mX11_word 5 0 0 15 [some (.ref 83), some (vN w), some (vN (wof w)), some (vN i)] [] S H (fun R => R = (some (.int (if fnd (fun w => wmt b p e w) 28 < 28 then nI (fnd (fun w => wmt b p e w) 28) else -1)), S, H)) := by
          intro fz
          induction fz with
          | zero => intro i  hfz; exact absurd hfz (by omega)
          | succ fz ih =>
            intro i  hfz hi hpi heq
            have hti : tch (wof w + i) < 123 := tch_lt _ (by omega)
            refine xq_ldcT dX11_word_15 (Or.inr ⟨rfl, rfl⟩) ?_
            refine xq_iload_n dX11_word_17 rfl rfl ?_
            refine xq_iload_n dX11_word_18 rfl rfl ?_
            refine xq_iaddN dX11_word_19 ?_
            refine xq_callT1 gd_J0_charAt_5068e dX11_word_20 ml_RX11_178 im_J0_charAt_5068e se_J0_charAt_5068e rfl (by exact Nat.le_of_ble_eq_true rfl) (by decide) (s_charAt (by omega)) ?_
            refine xq_bipush dX11_word_23 bp32 ?_
            refine xq_icmp_eqN dX11_word_25 rfl (by omega) (by omega) ⟨fun h25 => ?_, fun h25 => ?_⟩
            · skip
              refine xq_ldcT dX11_word_69 (Or.inr ⟨rfl, rfl⟩) ?_
              refine xq_iload_n dX11_word_71 rfl rfl ?_
              refine xq_iload_n dX11_word_72 rfl rfl ?_
              refine xq_iaddN dX11_word_73 ?_
              refine xq_callT1 gd_J0_charAt_5068e dX11_word_74 ml_RX11_178 im_J0_charAt_5068e se_J0_charAt_5068e rfl (by exact Nat.le_of_ble_eq_true rfl) (by decide) (s_charAt (by omega)) ?_
              refine xq_bipush dX11_word_77 bp32 ?_
              refine xq_icmp_neN dX11_word_79 rfl (by omega) (by omega) ⟨fun h79 => ?_, fun h79 => ?_⟩
              · skip
                have hwf : wmt b p e w = false := by
                  cases z : wmt b p e w
                  · rfl
                  · exfalso
                    unfold wmt at z
                    rw [Bool.and_eq_true, decide_eq_true_iff, Bool.not_eq_true', ← Bool.not_eq_true, ex_iff] at z
                    have hall : ∀ j, j < wln w → b (p + j) = tch (wof w + j) := fun j hj => by
                      apply Classical.byContradiction
                      intro y
                      exact z.2 ⟨j, hj, by rw [Bool.not_eq_true', beq_eq_false_iff_ne]; exact y⟩
                    exact absurd h25 h79
                have l3 : ∀ (fz : Nat) (q : Nat), wof w + wln w - q < fz → wof w ≤ q → q ≤ wof w + wln w → Xq mX11_word 5 0 0 97 [some (.ref 83), some (vN w), some (vN q), none] [] S H (fun R => R = (some (.int (if fnd (fun w => wmt b p e w) 28 < 28 then nI (fnd (fun w => wmt b p e w) 28) else -1)), S, H)) := by
                  intro fz
                  induction fz with
                  | zero => intro q  hfz; exact absurd hfz (by omega)
                  | succ fz ih =>
                    intro q  hfz hq1 hq2
                    refine xq_ldcT dX11_word_97 (Or.inr ⟨rfl, rfl⟩) ?_
                    refine xq_iload_n dX11_word_99 rfl rfl ?_
                    refine xq_callT1 gd_J0_charAt_5068e dX11_word_100 ml_RX11_178 im_J0_charAt_5068e se_J0_charAt_5068e rfl (by exact Nat.le_of_ble_eq_true rfl) (by decide) (s_charAt (by omega)) ?_
                    have hq3 : tch q < 123 := tch_lt q (by omega)
                    refine xq_bipush dX11_word_103 bp32 ?_
                    refine xq_icmp_eqN dX11_word_105 rfl (by omega) (by omega) ⟨fun h105 => ?_, fun h105 => ?_⟩
                    · skip
                      have eq1 : q = wof w + wln w := by
                        apply Classical.byContradiction
                        intro z
                        have := (w5 (q - wof w) (by omega)).1
                        rw [show wof w + (q - wof w) = q by omega] at this
                        omega
                      subst eq1
                      refine xq_iincN dX11_word_114 ic1 rfl rfl ?_
                      refine xq_iincN dX11_word_117 ic1 rfl rfl ?_
                      refine xq_goto dX11_word_120 rfl ?_
                      rw [w1]
                      have ihn := ih0 (w + 1) (by omega) (by omega) (fun v hv => by
                        by_cases z : v = w
                        · rw [z]; exact hwf
                        · exact hno v (by omega))
                      exact xq_fgt (ihn) (by exact And.intro rfl (And.intro rfl (And.intro rfl (trivial))))
                    · skip
                      refine xq_iincN dX11_word_108 ic1 rfl rfl ?_
                      refine xq_goto dX11_word_111 rfl ?_
                      have hql : q < wof w + wln w := by
                        rcases Nat.lt_or_ge q (wof w + wln w) with z | z
                        · exact z
                        · exact absurd (show tch q = 32 by rw [show q = wof w + wln w by omega]; exact w4) h105
                      exact ih (q + 1) (by omega) (by omega) (by omega)
                exact xq_fgt (l3 (wof w + wln w + 1) (wof w) (by omega) (Nat.le_refl _) (by omega)) (by exact And.intro rfl (And.intro rfl (And.intro rfl (trivial))))
              · skip
                refine xq_aload_n dX11_word_82 rfl rfl ?_
                refine xq_getIE clX11 (by decide) rfl fl_RX11_144 dX11_word_83 (Fx.s83 hF) hp ?_
                refine xq_iload_n dX11_word_86 rfl rfl ?_
                refine xq_iaddN dX11_word_87 ?_
                refine xq_aload_n dX11_word_88 rfl rfl ?_
                refine xq_getIE clX11 (by decide) rfl fl_RX11_134 dX11_word_89 (Fx.s83 hF) hx.at ?_
                refine xq_icmp_neN dX11_word_92 rfl (by omega) (by omega) ⟨fun h92 => ?_, fun h92 => ?_⟩
                · skip
                  have hwf : wmt b p e w = false := by
                    cases z : wmt b p e w
                    · rfl
                    · exfalso
                      unfold wmt at z
                      rw [Bool.and_eq_true, decide_eq_true_iff, Bool.not_eq_true', ← Bool.not_eq_true, ex_iff] at z
                      have hall : ∀ j, j < wln w → b (p + j) = tch (wof w + j) := fun j hj => by
                        apply Classical.byContradiction
                        intro y
                        exact z.2 ⟨j, hj, by rw [Bool.not_eq_true', beq_eq_false_iff_ne]; exact y⟩
                      have hii : i = wln w := by
                        apply Classical.byContradiction
                        intro y
                        have := (w5 i (by omega)).1
                        omega
                      omega
                  have l3 : ∀ (fz : Nat) (q : Nat), wof w + wln w - q < fz → wof w ≤ q → q ≤ wof w + wln w → Xq mX11_word 5 0 0 97 [some (.ref 83), some (vN w), some (vN q), none] [] S H (fun R => R = (some (.int (if fnd (fun w => wmt b p e w) 28 < 28 then nI (fnd (fun w => wmt b p e w) 28) else -1)), S, H)) := by
                    intro fz
                    induction fz with
                    | zero => intro q  hfz; exact absurd hfz (by omega)
                    | succ fz ih =>
                      intro q  hfz hq1 hq2
                      refine xq_ldcT dX11_word_97 (Or.inr ⟨rfl, rfl⟩) ?_
                      refine xq_iload_n dX11_word_99 rfl rfl ?_
                      refine xq_callT1 gd_J0_charAt_5068e dX11_word_100 ml_RX11_178 im_J0_charAt_5068e se_J0_charAt_5068e rfl (by exact Nat.le_of_ble_eq_true rfl) (by decide) (s_charAt (by omega)) ?_
                      have hq3 : tch q < 123 := tch_lt q (by omega)
                      refine xq_bipush dX11_word_103 bp32 ?_
                      refine xq_icmp_eqN dX11_word_105 rfl (by omega) (by omega) ⟨fun h105 => ?_, fun h105 => ?_⟩
                      · skip
                        have eq1 : q = wof w + wln w := by
                          apply Classical.byContradiction
                          intro z
                          have := (w5 (q - wof w) (by omega)).1
                          rw [show wof w + (q - wof w) = q by omega] at this
                          omega
                        subst eq1
                        refine xq_iincN dX11_word_114 ic1 rfl rfl ?_
                        refine xq_iincN dX11_word_117 ic1 rfl rfl ?_
                        refine xq_goto dX11_word_120 rfl ?_
                        rw [w1]
                        have ihn := ih0 (w + 1) (by omega) (by omega) (fun v hv => by
                          by_cases z : v = w
                          · rw [z]; exact hwf
                          · exact hno v (by omega))
                        exact xq_fgt (ihn) (by exact And.intro rfl (And.intro rfl (And.intro rfl (trivial))))
                      · skip
                        refine xq_iincN dX11_word_108 ic1 rfl rfl ?_
                        refine xq_goto dX11_word_111 rfl ?_
                        have hql : q < wof w + wln w := by
                          rcases Nat.lt_or_ge q (wof w + wln w) with z | z
                          · exact z
                          · exact absurd (show tch q = 32 by rw [show q = wof w + wln w by omega]; exact w4) h105
                        exact ih (q + 1) (by omega) (by omega) (by omega)
                  exact xq_fgt (l3 (wof w + wln w + 1) (wof w) (by omega) (Nat.le_refl _) (by omega)) (by exact And.intro rfl (And.intro rfl (And.intro rfl (trivial))))
                · skip
                  refine xq_iload_n dX11_word_95 rfl rfl ?_
                  refine xq_iret dX11_word_96 rfl ?_
                  have hii : i = wln w := by
                    apply Classical.byContradiction
                    intro z
                    have := (w5 i (by omega)).1
                    omega
                  have hwt : wmt b p e w = true := by
                    unfold wmt
                    rw [Bool.and_eq_true, decide_eq_true_iff, Bool.not_eq_true', ← Bool.not_eq_true, ex_iff]
                    refine ⟨by omega, ?_⟩
                    rintro ⟨j, hj, z⟩
                    rw [Bool.not_eq_true', beq_eq_false_iff_ne] at z
                    exact z (heq j (by omega))
                  show _ = _
                  rw [fnd_at (f := fun w => wmt b p e w) hno hwt hwl, if_pos hwl]
            · skip
              refine xq_aload_n dX11_word_28 rfl rfl ?_
              refine xq_getIE clX11 (by decide) rfl fl_RX11_144 dX11_word_29 (Fx.s83 hF) hp ?_
              refine xq_iload_n dX11_word_32 rfl rfl ?_
              refine xq_iaddN dX11_word_33 ?_
              refine xq_aload_n dX11_word_34 rfl rfl ?_
              refine xq_getIE clX11 (by decide) rfl fl_RX11_134 dX11_word_35 (Fx.s83 hF) hx.at ?_
              refine xq_icmp_geN dX11_word_38 rfl (by omega) (by omega) ⟨fun h38 => ?_, fun h38 => ?_⟩
              · skip
                refine xq_ldcT dX11_word_69 (Or.inr ⟨rfl, rfl⟩) ?_
                refine xq_iload_n dX11_word_71 rfl rfl ?_
                refine xq_iload_n dX11_word_72 rfl rfl ?_
                refine xq_iaddN dX11_word_73 ?_
                refine xq_callT1 gd_J0_charAt_5068e dX11_word_74 ml_RX11_178 im_J0_charAt_5068e se_J0_charAt_5068e rfl (by exact Nat.le_of_ble_eq_true rfl) (by decide) (s_charAt (by omega)) ?_
                refine xq_bipush dX11_word_77 bp32 ?_
                refine xq_icmp_neN dX11_word_79 rfl (by omega) (by omega) ⟨fun h79 => ?_, fun h79 => ?_⟩
                · skip
                  have hwf : wmt b p e w = false := by
                    cases z : wmt b p e w
                    · rfl
                    · exfalso
                      unfold wmt at z
                      rw [Bool.and_eq_true, decide_eq_true_iff, Bool.not_eq_true', ← Bool.not_eq_true, ex_iff] at z
                      have hall : ∀ j, j < wln w → b (p + j) = tch (wof w + j) := fun j hj => by
                        apply Classical.byContradiction
                        intro y
                        exact z.2 ⟨j, hj, by rw [Bool.not_eq_true', beq_eq_false_iff_ne]; exact y⟩
                      have hii : ¬ i = wln w := fun y => h25 (by rw [y]; exact w4)
                      omega
                  have l3 : ∀ (fz : Nat) (q : Nat), wof w + wln w - q < fz → wof w ≤ q → q ≤ wof w + wln w → Xq mX11_word 5 0 0 97 [some (.ref 83), some (vN w), some (vN q), none] [] S H (fun R => R = (some (.int (if fnd (fun w => wmt b p e w) 28 < 28 then nI (fnd (fun w => wmt b p e w) 28) else -1)), S, H)) := by
                    intro fz
                    induction fz with
                    | zero => intro q  hfz; exact absurd hfz (by omega)
                    | succ fz ih =>
                      intro q  hfz hq1 hq2
                      refine xq_ldcT dX11_word_97 (Or.inr ⟨rfl, rfl⟩) ?_
                      refine xq_iload_n dX11_word_99 rfl rfl ?_
                      refine xq_callT1 gd_J0_charAt_5068e dX11_word_100 ml_RX11_178 im_J0_charAt_5068e se_J0_charAt_5068e rfl (by exact Nat.le_of_ble_eq_true rfl) (by decide) (s_charAt (by omega)) ?_
                      have hq3 : tch q < 123 := tch_lt q (by omega)
                      refine xq_bipush dX11_word_103 bp32 ?_
                      refine xq_icmp_eqN dX11_word_105 rfl (by omega) (by omega) ⟨fun h105 => ?_, fun h105 => ?_⟩
                      · skip
                        have eq1 : q = wof w + wln w := by
                          apply Classical.byContradiction
                          intro z
                          have := (w5 (q - wof w) (by omega)).1
                          rw [show wof w + (q - wof w) = q by omega] at this
                          omega
                        subst eq1
                        refine xq_iincN dX11_word_114 ic1 rfl rfl ?_
                        refine xq_iincN dX11_word_117 ic1 rfl rfl ?_
                        refine xq_goto dX11_word_120 rfl ?_
                        rw [w1]
                        have ihn := ih0 (w + 1) (by omega) (by omega) (fun v hv => by
                          by_cases z : v = w
                          · rw [z]; exact hwf
                          · exact hno v (by omega))
                        exact xq_fgt (ihn) (by exact And.intro rfl (And.intro rfl (And.intro rfl (trivial))))
                      · skip
                        refine xq_iincN dX11_word_108 ic1 rfl rfl ?_
                        refine xq_goto dX11_word_111 rfl ?_
                        have hql : q < wof w + wln w := by
                          rcases Nat.lt_or_ge q (wof w + wln w) with z | z
                          · exact z
                          · exact absurd (show tch q = 32 by rw [show q = wof w + wln w by omega]; exact w4) h105
                        exact ih (q + 1) (by omega) (by omega) (by omega)
                  exact xq_fgt (l3 (wof w + wln w + 1) (wof w) (by omega) (Nat.le_refl _) (by omega)) (by exact And.intro rfl (And.intro rfl (And.intro rfl (trivial))))
                · skip
                  refine xq_aload_n dX11_word_82 rfl rfl ?_
                  refine xq_getIE clX11 (by decide) rfl fl_RX11_144 dX11_word_83 (Fx.s83 hF) hp ?_
                  refine xq_iload_n dX11_word_86 rfl rfl ?_
                  refine xq_iaddN dX11_word_87 ?_
                  refine xq_aload_n dX11_word_88 rfl rfl ?_
                  refine xq_getIE clX11 (by decide) rfl fl_RX11_134 dX11_word_89 (Fx.s83 hF) hx.at ?_
                  refine xq_icmp_neN dX11_word_92 rfl (by omega) (by omega) ⟨fun h92 => ?_, fun h92 => ?_⟩
                  · skip
                    have hwf : wmt b p e w = false := by
                      cases z : wmt b p e w
                      · rfl
                      · exfalso
                        unfold wmt at z
                        rw [Bool.and_eq_true, decide_eq_true_iff, Bool.not_eq_true', ← Bool.not_eq_true, ex_iff] at z
                        have hall : ∀ j, j < wln w → b (p + j) = tch (wof w + j) := fun j hj => by
                          apply Classical.byContradiction
                          intro y
                          exact z.2 ⟨j, hj, by rw [Bool.not_eq_true', beq_eq_false_iff_ne]; exact y⟩
                        exact absurd h79 h25
                    have l3 : ∀ (fz : Nat) (q : Nat), wof w + wln w - q < fz → wof w ≤ q → q ≤ wof w + wln w → Xq mX11_word 5 0 0 97 [some (.ref 83), some (vN w), some (vN q), none] [] S H (fun R => R = (some (.int (if fnd (fun w => wmt b p e w) 28 < 28 then nI (fnd (fun w => wmt b p e w) 28) else -1)), S, H)) := by
                      intro fz
                      induction fz with
                      | zero => intro q  hfz; exact absurd hfz (by omega)
                      | succ fz ih =>
                        intro q  hfz hq1 hq2
                        refine xq_ldcT dX11_word_97 (Or.inr ⟨rfl, rfl⟩) ?_
                        refine xq_iload_n dX11_word_99 rfl rfl ?_
                        refine xq_callT1 gd_J0_charAt_5068e dX11_word_100 ml_RX11_178 im_J0_charAt_5068e se_J0_charAt_5068e rfl (by exact Nat.le_of_ble_eq_true rfl) (by decide) (s_charAt (by omega)) ?_
                        have hq3 : tch q < 123 := tch_lt q (by omega)
                        refine xq_bipush dX11_word_103 bp32 ?_
                        refine xq_icmp_eqN dX11_word_105 rfl (by omega) (by omega) ⟨fun h105 => ?_, fun h105 => ?_⟩
                        · skip
                          have eq1 : q = wof w + wln w := by
                            apply Classical.byContradiction
                            intro z
                            have := (w5 (q - wof w) (by omega)).1
                            rw [show wof w + (q - wof w) = q by omega] at this
                            omega
                          subst eq1
                          refine xq_iincN dX11_word_114 ic1 rfl rfl ?_
                          refine xq_iincN dX11_word_117 ic1 rfl rfl ?_
                          refine xq_goto dX11_word_120 rfl ?_
                          rw [w1]
                          have ihn := ih0 (w + 1) (by omega) (by omega) (fun v hv => by
                            by_cases z : v = w
                            · rw [z]; exact hwf
                            · exact hno v (by omega))
                          exact xq_fgt (ihn) (by exact And.intro rfl (And.intro rfl (And.intro rfl (trivial))))
                        · skip
                          refine xq_iincN dX11_word_108 ic1 rfl rfl ?_
                          refine xq_goto dX11_word_111 rfl ?_
                          have hql : q < wof w + wln w := by
                            rcases Nat.lt_or_ge q (wof w + wln w) with z | z
                            · exact z
                            · exact absurd (show tch q = 32 by rw [show q = wof w + wln w by omega]; exact w4) h105
                          exact ih (q + 1) (by omega) (by omega) (by omega)
                    exact xq_fgt (l3 (wof w + wln w + 1) (wof w) (by omega) (Nat.le_refl _) (by omega)) (by exact And.intro rfl (And.intro rfl (And.intro rfl (trivial))))
                  · skip
                    refine xq_iload_n dX11_word_95 rfl rfl ?_
                    refine xq_iret dX11_word_96 rfl ?_
                    have hii : i = wln w := by
                      apply Classical.byContradiction
                      intro z
                      have := (w5 i (by omega)).1
                      omega
                    have hwt : wmt b p e w = true := by
                      unfold wmt
                      rw [Bool.and_eq_true, decide_eq_true_iff, Bool.not_eq_true', ← Bool.not_eq_true, ex_iff]
                      refine ⟨by omega, ?_⟩
                      rintro ⟨j, hj, z⟩
                      rw [Bool.not_eq_true', beq_eq_false_iff_ne] at z
                      exact z (heq j (by omega))
                    show _ = _
                    rw [fnd_at (f := fun w => wmt b p e w) hno hwt hwl, if_pos hwl]
              · skip
                refine xq_aload_n dX11_word_41 rfl rfl ?_
                refine xq_getF clX11 (by decide) rfl fl_RX11_7 dX11_word_42 (Fx.s83 hF) (Fx.r83_1 hF) ?_
                refine xq_aload_n dX11_word_45 rfl rfl ?_
                refine xq_getIE clX11 (by decide) rfl fl_RX11_144 dX11_word_46 (Fx.s83 hF) hp ?_
                refine xq_iload_n dX11_word_49 rfl rfl ?_
                refine xq_iaddN dX11_word_50 ?_
                refine xq_ialdN dX11_word_51 (Fx.s84 hF) (by omega) (by decide) ((hx.ta (p + i) (by omega)).1) ?_
                have hb2 := (hx.ta (p + i) (by omega)).2
                refine xq_ldcT dX11_word_52 (Or.inr ⟨rfl, rfl⟩) ?_
                refine xq_iload_n dX11_word_54 rfl rfl ?_
                refine xq_iload_n dX11_word_55 rfl rfl ?_
                refine xq_iaddN dX11_word_56 ?_
                refine xq_callT1 gd_J0_charAt_5068e dX11_word_57 ml_RX11_178 im_J0_charAt_5068e se_J0_charAt_5068e rfl (by exact Nat.le_of_ble_eq_true rfl) (by decide) (s_charAt (by omega)) ?_
                refine xq_icmp_neN dX11_word_60 rfl (by omega) (by omega) ⟨fun h60 => ?_, fun h60 => ?_⟩
                · skip
                  refine xq_ldcT dX11_word_69 (Or.inr ⟨rfl, rfl⟩) ?_
                  refine xq_iload_n dX11_word_71 rfl rfl ?_
                  refine xq_iload_n dX11_word_72 rfl rfl ?_
                  refine xq_iaddN dX11_word_73 ?_
                  refine xq_callT1 gd_J0_charAt_5068e dX11_word_74 ml_RX11_178 im_J0_charAt_5068e se_J0_charAt_5068e rfl (by exact Nat.le_of_ble_eq_true rfl) (by decide) (s_charAt (by omega)) ?_
                  refine xq_bipush dX11_word_77 bp32 ?_
                  refine xq_icmp_neN dX11_word_79 rfl (by omega) (by omega) ⟨fun h79 => ?_, fun h79 => ?_⟩
                  · skip
                    have hwf : wmt b p e w = false := by
                      cases z : wmt b p e w
                      · rfl
                      · exfalso
                        unfold wmt at z
                        rw [Bool.and_eq_true, decide_eq_true_iff, Bool.not_eq_true', ← Bool.not_eq_true, ex_iff] at z
                        have hall : ∀ j, j < wln w → b (p + j) = tch (wof w + j) := fun j hj => by
                          apply Classical.byContradiction
                          intro y
                          exact z.2 ⟨j, hj, by rw [Bool.not_eq_true', beq_eq_false_iff_ne]; exact y⟩
                        have hii : ¬ i = wln w := fun y => h25 (by rw [y]; exact w4)
                        exact h60 (hall i (by omega))
                    have l3 : ∀ (fz : Nat) (q : Nat), wof w + wln w - q < fz → wof w ≤ q → q ≤ wof w + wln w → Xq mX11_word 5 0 0 97 [some (.ref 83), some (vN w), some (vN q), none] [] S H (fun R => R = (some (.int (if fnd (fun w => wmt b p e w) 28 < 28 then nI (fnd (fun w => wmt b p e w) 28) else -1)), S, H)) := by
                      intro fz
                      induction fz with
                      | zero => intro q  hfz; exact absurd hfz (by omega)
                      | succ fz ih =>
                        intro q  hfz hq1 hq2
                        refine xq_ldcT dX11_word_97 (Or.inr ⟨rfl, rfl⟩) ?_
                        refine xq_iload_n dX11_word_99 rfl rfl ?_
                        refine xq_callT1 gd_J0_charAt_5068e dX11_word_100 ml_RX11_178 im_J0_charAt_5068e se_J0_charAt_5068e rfl (by exact Nat.le_of_ble_eq_true rfl) (by decide) (s_charAt (by omega)) ?_
                        have hq3 : tch q < 123 := tch_lt q (by omega)
                        refine xq_bipush dX11_word_103 bp32 ?_
                        refine xq_icmp_eqN dX11_word_105 rfl (by omega) (by omega) ⟨fun h105 => ?_, fun h105 => ?_⟩
                        · skip
                          have eq1 : q = wof w + wln w := by
                            apply Classical.byContradiction
                            intro z
                            have := (w5 (q - wof w) (by omega)).1
                            rw [show wof w + (q - wof w) = q by omega] at this
                            omega
                          subst eq1
                          refine xq_iincN dX11_word_114 ic1 rfl rfl ?_
                          refine xq_iincN dX11_word_117 ic1 rfl rfl ?_
                          refine xq_goto dX11_word_120 rfl ?_
                          rw [w1]
                          have ihn := ih0 (w + 1) (by omega) (by omega) (fun v hv => by
                            by_cases z : v = w
                            · rw [z]; exact hwf
                            · exact hno v (by omega))
                          exact xq_fgt (ihn) (by exact And.intro rfl (And.intro rfl (And.intro rfl (trivial))))
                        · skip
                          refine xq_iincN dX11_word_108 ic1 rfl rfl ?_
                          refine xq_goto dX11_word_111 rfl ?_
                          have hql : q < wof w + wln w := by
                            rcases Nat.lt_or_ge q (wof w + wln w) with z | z
                            · exact z
                            · exact absurd (show tch q = 32 by rw [show q = wof w + wln w by omega]; exact w4) h105
                          exact ih (q + 1) (by omega) (by omega) (by omega)
                    exact xq_fgt (l3 (wof w + wln w + 1) (wof w) (by omega) (Nat.le_refl _) (by omega)) (by exact And.intro rfl (And.intro rfl (And.intro rfl (trivial))))
                  · skip
                    refine xq_aload_n dX11_word_82 rfl rfl ?_
                    refine xq_getIE clX11 (by decide) rfl fl_RX11_144 dX11_word_83 (Fx.s83 hF) hp ?_
                    refine xq_iload_n dX11_word_86 rfl rfl ?_
                    refine xq_iaddN dX11_word_87 ?_
                    refine xq_aload_n dX11_word_88 rfl rfl ?_
                    refine xq_getIE clX11 (by decide) rfl fl_RX11_134 dX11_word_89 (Fx.s83 hF) hx.at ?_
                    refine xq_icmp_neN dX11_word_92 rfl (by omega) (by omega) ⟨fun h92 => ?_, fun h92 => ?_⟩
                    · skip
                      have hwf : wmt b p e w = false := by
                        cases z : wmt b p e w
                        · rfl
                        · exfalso
                          unfold wmt at z
                          rw [Bool.and_eq_true, decide_eq_true_iff, Bool.not_eq_true', ← Bool.not_eq_true, ex_iff] at z
                          have hall : ∀ j, j < wln w → b (p + j) = tch (wof w + j) := fun j hj => by
                            apply Classical.byContradiction
                            intro y
                            exact z.2 ⟨j, hj, by rw [Bool.not_eq_true', beq_eq_false_iff_ne]; exact y⟩
                          exact absurd h79 h25
                      have l3 : ∀ (fz : Nat) (q : Nat), wof w + wln w - q < fz → wof w ≤ q → q ≤ wof w + wln w → Xq mX11_word 5 0 0 97 [some (.ref 83), some (vN w), some (vN q), none] [] S H (fun R => R = (some (.int (if fnd (fun w => wmt b p e w) 28 < 28 then nI (fnd (fun w => wmt b p e w) 28) else -1)), S, H)) := by
                        intro fz
                        induction fz with
                        | zero => intro q  hfz; exact absurd hfz (by omega)
                        | succ fz ih =>
                          intro q  hfz hq1 hq2
                          refine xq_ldcT dX11_word_97 (Or.inr ⟨rfl, rfl⟩) ?_
                          refine xq_iload_n dX11_word_99 rfl rfl ?_
                          refine xq_callT1 gd_J0_charAt_5068e dX11_word_100 ml_RX11_178 im_J0_charAt_5068e se_J0_charAt_5068e rfl (by exact Nat.le_of_ble_eq_true rfl) (by decide) (s_charAt (by omega)) ?_
                          have hq3 : tch q < 123 := tch_lt q (by omega)
                          refine xq_bipush dX11_word_103 bp32 ?_
                          refine xq_icmp_eqN dX11_word_105 rfl (by omega) (by omega) ⟨fun h105 => ?_, fun h105 => ?_⟩
                          · skip
                            have eq1 : q = wof w + wln w := by
                              apply Classical.byContradiction
                              intro z
                              have := (w5 (q - wof w) (by omega)).1
                              rw [show wof w + (q - wof w) = q by omega] at this
                              omega
                            subst eq1
                            refine xq_iincN dX11_word_114 ic1 rfl rfl ?_
                            refine xq_iincN dX11_word_117 ic1 rfl rfl ?_
                            refine xq_goto dX11_word_120 rfl ?_
                            rw [w1]
                            have ihn := ih0 (w + 1) (by omega) (by omega) (fun v hv => by
                              by_cases z : v = w
                              · rw [z]; exact hwf
                              · exact hno v (by omega))
                            exact xq_fgt (ihn) (by exact And.intro rfl (And.intro rfl (And.intro rfl (trivial))))
                          · skip
                            refine xq_iincN dX11_word_108 ic1 rfl rfl ?_
                            refine xq_goto dX11_word_111 rfl ?_
                            have hql : q < wof w + wln w := by
                              rcases Nat.lt_or_ge q (wof w + wln w) with z | z
                              · exact z
                              · exact absurd (show tch q = 32 by rw [show q = wof w + wln w by omega]; exact w4) h105
                            exact ih (q + 1) (by omega) (by omega) (by omega)
                      exact xq_fgt (l3 (wof w + wln w + 1) (wof w) (by omega) (Nat.le_refl _) (by omega)) (by exact And.intro rfl (And.intro rfl (And.intro rfl (trivial))))
                    · skip
                      refine xq_iload_n dX11_word_95 rfl rfl ?_
                      refine xq_iret dX11_word_96 rfl ?_
                      have hii : i = wln w := by
                        apply Classical.byContradiction
                        intro z
                        have := (w5 i (by omega)).1
                        omega
                      have hwt : wmt b p e w = true := by
                        unfold wmt
                        rw [Bool.and_eq_true, decide_eq_true_iff, Bool.not_eq_true', ← Bool.not_eq_true, ex_iff]
                        refine ⟨by omega, ?_⟩
                        rintro ⟨j, hj, z⟩
                        rw [Bool.not_eq_true', beq_eq_false_iff_ne] at z
                        exact z (heq j (by omega))
                      show _ = _
                      rw [fnd_at (f := fun w => wmt b p e w) hno hwt hwl, if_pos hwl]
                · skip
                  refine xq_iincN dX11_word_63 ic1 rfl rfl ?_
                  refine xq_goto dX11_word_66 rfl ?_
                  have hil : i < wln w := by
                    rcases Nat.lt_or_ge i (wln w) with z | z
                    · exact z
                    · exact absurd (show tch (wof w + i) = 32 by rw [show i = wln w by omega]; exact w4) h25
                  exact ih (i + 1) (by omega) (by omega) (by omega) (fun j hj => by
                    by_cases z : j = i
                    · rw [z]; exact h60
                    · exact heq j (by omega))
        exact l2 (wln w + 1) 0 (by omega) (by omega) (by omega) (fun j hj => absurd hj (by omega))
  refine vq_ev (vq_intro (by decide) (by exact Nat.le_of_ble_eq_true rfl) rfl ?_)
  refine xq_iconst dX11_word_0 ic0 ?_
  refine xq_istore_n dX11_word_1 rfl rfl ?_
  refine xq_iconst dX11_word_2 ic0 ?_
  refine xq_istore_n dX11_word_3 rfl rfl ?_
  exact xq_fgt (l1 29 0 (by omega) (by omega) (fun v hv => absurd hv (by omega))) (by exact And.intro rfl (And.intro rfl (And.intro rfl (trivial))))
end MLa
