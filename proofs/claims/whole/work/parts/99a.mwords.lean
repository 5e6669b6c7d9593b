/-! ===== the reference: colour, tell, ask, shy, seed ===== -/
section MN2
variable {S : xS} {H H1 H2 H3 : xH} {bt : Nat → Nat} {ln k p q i j l m n c t d a its v ls D w K : Nat} {s : uTk} {T T2 : uTx} {N : Nat → Nat → Nat} {A F : Nat → Prop}
def linT (s : uTk) (r : rLn) : rLn := match r with
  | .inl e => .inl e
  | .inr z => if kK s z.1 = 40 then .inr (z.1 + 1, z.2) else .inl (1, z.1)
theorem tb_or1 {v w j : Nat} (h : j ≠ w) : (v ||| 1 <<< w).testBit j = v.testBit j := by
  rw [Nat.testBit_or, Nat.one_shiftLeft, Nat.testBit_two_pow_of_ne (Ne.symm h), Bool.or_false]
theorem tb_or2 {v w : Nat} : (v ||| 1 <<< w).testBit w = true := by
  rw [Nat.testBit_or, Nat.one_shiftLeft, Nat.testBit_two_pow_self, Bool.or_true]
theorem or_18 {v w : Nat} (hv : v < 262144) (hw : w < 18) : v ||| 1 <<< w < 262144 := Nat.or_lt_two_pow (n := 18) hv (by rw [Nat.one_shiftLeft]; exact Nat.pow_lt_pow_right (by decide) hw)
/-- the head is done: what holds at the next token -/
theorem li_head (hl : LiP S H bt ln s N n T) (g1 : MtP S H1 bt ln s (n + 1)) (b1 : hI H 83 19 = nI v) (bb : v < 262144 ∧ v.testBit 6 = decide (tSh T ≠ 0) ∧ v.testBit 7 = decide (tSd T ≠ 0) ∧ v.testBit 16 = decide (tLn T 0 ≠ 0) ∧ v.testBit 17 = decide (tLn T 1 ≠ 0)) (mo : MoF (fun q => q = 83) (fun k => k = 19 ∨ (22 ≤ k ∧ k ≤ 25)) H H1) (t19 : hI H1 83 19 = nI (v ||| 1 <<< w)) (hw : w ≤ 8) (hw6 : w ≠ 6) (hw7 : w ≠ 7) : LiP S H1 bt ln s N (n + 1) T ∧ LoQ H H1 ∧ hI H1 83 20 = hI H 83 20 := by
  obtain ⟨v2, c1, c2⟩ := hl.srs
  refine ⟨⟨g1, hl.mx.off mo.1 (fun q h1 h2 z => by omega), (mo.2 26 (by omega)).trans hl.f26, (mo.2 30 (by omega)).trans hl.f30, (mo.2 31 (by omega)).trans hl.f31, ⟨_, t19, or_18 bb.1 (by omega), ?_, ?_, ?_, ?_⟩, ⟨v2, (mo.1.I (by omega) 17).trans c1, c2⟩⟩, LoQ.of mo (fun k hk => by omega), mo.2 20 (by omega)⟩
  · rw [tb_or1 (by omega)]; exact bb.2.1
  · rw [tb_or1 (by omega)]; exact bb.2.2.1
  · rw [tb_or1 (by omega)]; exact bb.2.2.2.1
  · rw [tb_or1 (by omega)]; exact bb.2.2.2.2
theorem LiP.ft (hl : LiP S H bt ln s N n T) (hm : MfQ H H2 s n c) (hc : 0 < c) (hc2 : c < 100) : FtQ H2 s c n := FtQ.mf hm hc hc2 hl.mt.js
theorem LiP.tk (hl : LiP S H bt ln s N n T) (g1 : MtP S H2 bt ln s m) (g2 : MoF (fun q => q = 83) (fun k => k = 22 ∨ k = 23 ∨ k = 24 ∨ k = 25) H H2) : LiP S H2 bt ln s N m T := hl.sm g1 g2 (fun k hk => by omega)
theorem tkL (h : LoQ H H1) (g2 : MoF (fun q => q = 83) (fun k => k = 22 ∨ k = 23 ∨ k = 24 ∨ k = 25) H1 H2) : LoQ H H2 := h.tr (LoQ.of g2 (fun k hk => by omega))
theorem tk20 (g2 : MoF (fun q => q = 83) (fun k => k = 22 ∨ k = 23 ∨ k = 24 ∨ k = 25) H1 H2) : hI H2 83 20 = hI H1 83 20 := g2.2 20 (by omega)
theorem mfL (h : LoQ H H1) (g2 : MfQ H1 H2 s m c) : LoQ H H2 := h.tr (LoQ.of g2.2.2 (fun k hk => by omega))
/-- a cell of the upper halves, not counted yet -/
theorem LiP.cell {z : Int32} (h : LiP S H bt ln s N n T) (ha : 86 ≤ a ∧ a ≤ 100) (hc : (a ≤ 87 → 3 + tNc T ≤ i) ∧ (88 ≤ a ∧ a ≤ 90 → 6 + tNp T ≤ i) ∧ (91 ≤ a ∧ a ≤ 93 → 8 + tNf T ≤ i) ∧ (94 ≤ a ∧ a ≤ 95 → 12 + tNt T ≤ i) ∧ (a = 96 → 12 + tNa T ≤ i) ∧ (97 ≤ a ∧ a ≤ 98 → 4 ≤ i) ∧ (99 ≤ a → 64 + tNk T ≤ i)) : LiP S (sI H a i z) bt ln s N n T := by
  obtain ⟨v, b1, b2⟩ := h.tol
  obtain ⟨v2, c1, c2⟩ := h.srs
  have e : ∀ k, hI (sI H a i z) 83 k = hI H 83 k := fun k => by rw [hI_sI, if_neg (by omega)]
  exact ⟨h.mt.off (A := fun q => q = a) (F := fun k => False) ⟨Off.pI (A := fun q => q = a) Off.rf rfl _ _, fun k _ => e k⟩ (by omega) (fun k h1 h2 z => z), h.mx.cell ha hc, (e _).trans h.f26, (e _).trans h.f30, (e _).trans h.f31, ⟨v, (e _).trans b1, b2⟩, ⟨v2, by rw [hI_sI, if_neg (by omega)]; exact c1, c2⟩⟩
/-- a count of the upper halves; T2 is the text then -/
theorem LiP.bump {z : Int32} {N2 : Nat → Nat → Nat} (h : LiP S H bt ln s N n T) (hj : j ≠ 17) (hm : MxU (sI H 85 j z) T2 N2) (h1 : tNk T2 = tNk T) (h2 : tSh T2 = tSh T) (h3 : tSd T2 = tSd T) (h4 : tLn T2 0 = tLn T 0) (h5 : tLn T2 1 = tLn T 1) (h6 : ∀ p, p < 6 → tSe T2 p = tSe T p) : LiP S (sI H 85 j z) bt ln s N2 n T2 := by
  obtain ⟨v, b1, b2⟩ := h.tol
  obtain ⟨v2, c1, c2, c3⟩ := h.srs
  have e : ∀ k, hI (sI H 85 j z) 83 k = hI H 83 k := fun k => by rw [hI_sI, if_neg (by omega)]
  exact ⟨h.mt.off (A := fun q => q = 85) (F := fun k => False) ⟨Off.pI (A := fun q => q = 85) Off.rf rfl _ _, fun k _ => e k⟩ (by decide) (fun k h1 h2 z => z), hm, (e _).trans h.f26, (e _).trans h.f30, by rw [h1]; exact (e _).trans h.f31, ⟨v, (e _).trans b1, by rw [h2, h3, h4, h5]; exact b2⟩, ⟨v2, by rw [hI_sI, if_neg (by omega)]; exact c1, c2, fun p hp => by rw [h6 p hp]; exact c3 p hp⟩⟩
theorem LoQ.pb {z : Int32} (h : LoQ H H2) (hj : 9 ≤ j) : LoQ H (sI H2 85 j z) := h.pU (a := 85) (by omega) (show 9 ≤ j from hj) z
theorem freF_p : 0 < freF s n := by unfold freF; split <;> decide
theorem freF_l : freF s n < 100 := by unfold freF; split <;> decide
theorem w_colour (hF : gFx S) (hK : 100 ≤ K) (hl : LiP S H1 bt ln s N (n + 1) T) (hti : TiP T) (hls : hI H1 83 20 = nI ls) (hlo : LoQ H H1) (hfu : ¬ 3 ≤ tNc T) : Xq mX11_line K 0 0 96 [some (.ref 83), some (vN 0), none, none, none] [] S H1 (fun R => ∃ H2, (lQ S H H2 bt ln s (N) ls (linT s (colR s n T))) ∧ R = (none, S, H2)) := by
  obtain ⟨t1, t2, t3, t4, t5, t6, t7, t8, t9, t10, t11⟩ := hti
  unfold colR
  rw [if_neg hfu]
  by_cases hb : freB s (n + 1) (tCn T) (tNc T) = false
  · rw [if_pos hb]
    refine xq_iload_n dX11_line_96 rfl rfl ?_
    refine xq_tableIn dX11_line_97 (by decide) (by decide) rfl rfl ?_
    refine xq_iconst dX11_line_144 ic3 ?_
    refine xq_aload_n dX11_line_145 rfl rfl ?_
    refine xq_iconst dX11_line_146 ic0 ?_
    refine xq_callV1P clX11 gd_X11_fresher dX11_line_147 ml_RX11_198 im_X11_fresher se_X11_fresher rfl (Fx.s83 hF) (by exact Nat.le_of_ble_eq_true rfl) (by omega) (m_fresher (w := 0) hF hl.mx.nc (by decide)) ?_
    refine xq_iaddN dX11_line_150 ?_
    refine xq_istore_n dX11_line_151 rfl rfl ?_
    refine xq_aload_n dX11_line_152 rfl rfl ?_
    refine xq_getF clX11 (by decide) rfl fl_RX11_16 dX11_line_153 (Fx.s83 hF) (Fx.r83_4 hF) ?_
    refine xq_iload_n dX11_line_156 rfl rfl ?_
    refine xq_aload_n dX11_line_157 rfl rfl ?_
    refine xq_aload_n dX11_line_158 rfl rfl ?_
    refine xq_getF clX11 (by decide) rfl fl_RX11_16 dX11_line_159 (Fx.s83 hF) (Fx.r83_4 hF) ?_
    refine xq_iconst dX11_line_162 ic3 ?_
    refine xq_aload_n dX11_line_163 rfl rfl ?_
    refine xq_iconst dX11_line_164 ic0 ?_
    refine xq_callV1P clX11 gd_X11_fresher dX11_line_165 ml_RX11_198 im_X11_fresher se_X11_fresher rfl (Fx.s83 hF) (by exact Nat.le_of_ble_eq_true rfl) (by omega) (m_fresher (w := 0) hF hl.mx.nc (by decide)) ?_
    refine xq_callV3H clX11 gd_X11_fresh dX11_line_168 ml_RX11_212 im_X11_fresh se_X11_fresh rfl (Fx.s83 hF) (by exact Nat.le_of_ble_eq_true rfl) (by omega) (m_fresh0 hl.f26 hl.mt (Fx.s86 hF) (by decide) (by omega) (fun k hk => (hl.mx.co k hk).1) hb) ?_
    intro x168 H168 p168
    obtain ⟨rfl, mf⟩ := p168
    have ft := hl.ft mf freF_p freF_l
    have lo := mfL hlo mf
    have ft2 := ft.pu (a := 86) (k := 3 + tNc T) (z := nI 0) (by decide)
    have fa := ft2.1; have fb := ft.2.2.1; have fc := ft.2.2.2.1
    refine xq_iastN dX11_line_171 (Fx.s86 hF) (by omega) (by decide) ?_
    refine xq_aload_n dX11_line_172 rfl rfl ?_
    refine xq_getF clX11 (by decide) rfl fl_RX11_19 dX11_line_173 (Fx.s83 hF) (Fx.r83_5 hF) ?_
    refine xq_iload_n dX11_line_176 rfl rfl ?_
    refine xq_aload_n dX11_line_177 rfl rfl ?_
    refine xq_iconst dX11_line_178 ic0 ?_
    refine xq_bipush dX11_line_179 bp6 ?_
    refine xq_callV2P clX11 gd_X11_numeral dX11_line_181 ml_RX11_215 im_X11_numeral se_X11_numeral rfl (Fx.s83 hF) (by exact Nat.le_of_ble_eq_true rfl) (by omega) (m_numeralF hF fa fb fc) ?_
    refine xq_iastN dX11_line_184 (Fx.s87 hF) (by omega) (by decide) ?_
    refine xq_aload_n dX11_line_185 rfl rfl ?_
    refine xq_iconst dX11_line_186 ic0 ?_
    refine xq_aload_n dX11_line_187 rfl rfl ?_
    refine xq_iconst dX11_line_188 ic0 ?_
    refine xq_callV1P clX11 gd_X11_fresher dX11_line_189 ml_RX11_198 im_X11_fresher se_X11_fresher rfl (Fx.s83 hF) (by exact Nat.le_of_ble_eq_true rfl) (by omega) (m_fresher (w := 0) hF (by rw [hI_sI, if_neg (by omega)]; rw [hI_sI, if_neg (by omega)]; exact (mf.2.2.1.I (by omega) 9).trans hl.mx.nc) (by decide)) ?_
    refine xq_iconst dX11_line_192 ic1 ?_
    refine xq_iaddN dX11_line_193 ?_
    refine xq_callV2N clX11 gd_X11_reads dX11_line_194 ml_RX11_219 im_X11_reads se_X11_reads rfl (Fx.s83 hF) (by exact Nat.le_of_ble_eq_true rfl) (by omega) (m_reads (w := 0) hF (by decide)) ?_
    intro H194 p194
    subst p194
    refine xq_goto dX11_line_197 rfl ?_
    exact xq_fgt (L' := [some (.ref 83), none, none, none, none]) (line_tailF hF ((ft2.pu (a := 87) (by decide)).pu (a := 85) (by decide)) (((lo.pU (a := 86) (by decide) (show 3 ≤ _ by omega) _).pU (a := 87) (by decide) (show 3 ≤ _ by omega) _).pb (by decide))) (by exact And.intro rfl trivial)
  rw [if_neg hb]
  by_cases hb2 : numB s (n + 2) 6 = false
  · rw [if_pos hb2]
    refine xq_iload_n dX11_line_96 rfl rfl ?_
    refine xq_tableIn dX11_line_97 (by decide) (by decide) rfl rfl ?_
    refine xq_iconst dX11_line_144 ic3 ?_
    refine xq_aload_n dX11_line_145 rfl rfl ?_
    refine xq_iconst dX11_line_146 ic0 ?_
    refine xq_callV1P clX11 gd_X11_fresher dX11_line_147 ml_RX11_198 im_X11_fresher se_X11_fresher rfl (Fx.s83 hF) (by exact Nat.le_of_ble_eq_true rfl) (by omega) (m_fresher (w := 0) hF hl.mx.nc (by decide)) ?_
    refine xq_iaddN dX11_line_150 ?_
    refine xq_istore_n dX11_line_151 rfl rfl ?_
    refine xq_aload_n dX11_line_152 rfl rfl ?_
    refine xq_getF clX11 (by decide) rfl fl_RX11_16 dX11_line_153 (Fx.s83 hF) (Fx.r83_4 hF) ?_
    refine xq_iload_n dX11_line_156 rfl rfl ?_
    refine xq_aload_n dX11_line_157 rfl rfl ?_
    refine xq_aload_n dX11_line_158 rfl rfl ?_
    refine xq_getF clX11 (by decide) rfl fl_RX11_16 dX11_line_159 (Fx.s83 hF) (Fx.r83_4 hF) ?_
    refine xq_iconst dX11_line_162 ic3 ?_
    refine xq_aload_n dX11_line_163 rfl rfl ?_
    refine xq_iconst dX11_line_164 ic0 ?_
    refine xq_callV1P clX11 gd_X11_fresher dX11_line_165 ml_RX11_198 im_X11_fresher se_X11_fresher rfl (Fx.s83 hF) (by exact Nat.le_of_ble_eq_true rfl) (by omega) (m_fresher (w := 0) hF hl.mx.nc (by decide)) ?_
    refine xq_callV3H clX11 gd_X11_fresh dX11_line_168 ml_RX11_212 im_X11_fresh se_X11_fresh rfl (Fx.s83 hF) (by exact Nat.le_of_ble_eq_true rfl) (by omega) (m_fresh1 hl.f26 hl.mt (Fx.s86 hF) (by decide) (by omega) (fun k hk => (hl.mx.co k hk).1) (by simpa using hb)) ?_
    intro x168 H168 p168
    obtain ⟨rfl, g1, g2⟩ := p168
    have hl1 := hl.tk g1 g2
    have lo1 := tkL hlo g2
    have hl2 := hl1.cell (a := 86) (i := 3 + tNc T) (z := nI (kV s (n + 1))) (by decide) (by omega)
    have lo2 := lo1.pU (a := 86) (by decide) (show 3 ≤ 3 + tNc T by omega) (nI (kV s (n + 1)))
    refine xq_iastN dX11_line_171 (Fx.s86 hF) (by omega) (by decide) ?_
    refine xq_aload_n dX11_line_172 rfl rfl ?_
    refine xq_getF clX11 (by decide) rfl fl_RX11_19 dX11_line_173 (Fx.s83 hF) (Fx.r83_5 hF) ?_
    refine xq_iload_n dX11_line_176 rfl rfl ?_
    refine xq_aload_n dX11_line_177 rfl rfl ?_
    refine xq_iconst dX11_line_178 ic0 ?_
    refine xq_bipush dX11_line_179 bp6 ?_
    refine xq_callV2H clX11 gd_X11_numeral dX11_line_181 ml_RX11_215 im_X11_numeral se_X11_numeral rfl (Fx.s83 hF) (by exact Nat.le_of_ble_eq_true rfl) (by omega) (m_numeral0 hl2.f26 hl2.mt (by decide) hb2) ?_
    intro x181 H181 p181
    obtain ⟨rfl, mf⟩ := p181
    have ft := hl2.ft mf numF_p numF_l
    have lo := mfL lo2 mf
    refine xq_iastN dX11_line_184 (Fx.s87 hF) (by omega) (by decide) ?_
    refine xq_aload_n dX11_line_185 rfl rfl ?_
    refine xq_iconst dX11_line_186 ic0 ?_
    refine xq_aload_n dX11_line_187 rfl rfl ?_
    refine xq_iconst dX11_line_188 ic0 ?_
    refine xq_callV1P clX11 gd_X11_fresher dX11_line_189 ml_RX11_198 im_X11_fresher se_X11_fresher rfl (Fx.s83 hF) (by exact Nat.le_of_ble_eq_true rfl) (by omega) (m_fresher (w := 0) hF (by rw [hI_sI, if_neg (by omega)]; exact (mf.2.2.1.I (by omega) 9).trans hl2.mx.nc) (by decide)) ?_
    refine xq_iconst dX11_line_192 ic1 ?_
    refine xq_iaddN dX11_line_193 ?_
    refine xq_callV2N clX11 gd_X11_reads dX11_line_194 ml_RX11_219 im_X11_reads se_X11_reads rfl (Fx.s83 hF) (by exact Nat.le_of_ble_eq_true rfl) (by omega) (m_reads (w := 0) hF (by decide)) ?_
    intro H194 p194
    subst p194
    refine xq_goto dX11_line_197 rfl ?_
    exact xq_fgt (L' := [some (.ref 83), none, none, none, none]) (line_tailF hF ((ft.pu (a := 87) (by decide)).pu (a := 85) (by decide)) ((lo.pU (a := 87) (by decide) (show 3 ≤ _ by omega) _).pb (by decide))) (by exact And.intro rfl trivial)
  · rw [if_neg hb2]
    refine xq_iload_n dX11_line_96 rfl rfl ?_
    refine xq_tableIn dX11_line_97 (by decide) (by decide) rfl rfl ?_
    refine xq_iconst dX11_line_144 ic3 ?_
    refine xq_aload_n dX11_line_145 rfl rfl ?_
    refine xq_iconst dX11_line_146 ic0 ?_
    refine xq_callV1P clX11 gd_X11_fresher dX11_line_147 ml_RX11_198 im_X11_fresher se_X11_fresher rfl (Fx.s83 hF) (by exact Nat.le_of_ble_eq_true rfl) (by omega) (m_fresher (w := 0) hF hl.mx.nc (by decide)) ?_
    refine xq_iaddN dX11_line_150 ?_
    refine xq_istore_n dX11_line_151 rfl rfl ?_
    refine xq_aload_n dX11_line_152 rfl rfl ?_
    refine xq_getF clX11 (by decide) rfl fl_RX11_16 dX11_line_153 (Fx.s83 hF) (Fx.r83_4 hF) ?_
    refine xq_iload_n dX11_line_156 rfl rfl ?_
    refine xq_aload_n dX11_line_157 rfl rfl ?_
    refine xq_aload_n dX11_line_158 rfl rfl ?_
    refine xq_getF clX11 (by decide) rfl fl_RX11_16 dX11_line_159 (Fx.s83 hF) (Fx.r83_4 hF) ?_
    refine xq_iconst dX11_line_162 ic3 ?_
    refine xq_aload_n dX11_line_163 rfl rfl ?_
    refine xq_iconst dX11_line_164 ic0 ?_
    refine xq_callV1P clX11 gd_X11_fresher dX11_line_165 ml_RX11_198 im_X11_fresher se_X11_fresher rfl (Fx.s83 hF) (by exact Nat.le_of_ble_eq_true rfl) (by omega) (m_fresher (w := 0) hF hl.mx.nc (by decide)) ?_
    refine xq_callV3H clX11 gd_X11_fresh dX11_line_168 ml_RX11_212 im_X11_fresh se_X11_fresh rfl (Fx.s83 hF) (by exact Nat.le_of_ble_eq_true rfl) (by omega) (m_fresh1 hl.f26 hl.mt (Fx.s86 hF) (by decide) (by omega) (fun k hk => (hl.mx.co k hk).1) (by simpa using hb)) ?_
    intro x168 H168 p168
    obtain ⟨rfl, g1, g2⟩ := p168
    have hl1 := hl.tk g1 g2
    have lo1 := tkL hlo g2
    have hl2 := hl1.cell (a := 86) (i := 3 + tNc T) (z := nI (kV s (n + 1))) (by decide) (by omega)
    have lo2 := lo1.pU (a := 86) (by decide) (show 3 ≤ 3 + tNc T by omega) (nI (kV s (n + 1)))
    refine xq_iastN dX11_line_171 (Fx.s86 hF) (by omega) (by decide) ?_
    refine xq_aload_n dX11_line_172 rfl rfl ?_
    refine xq_getF clX11 (by decide) rfl fl_RX11_19 dX11_line_173 (Fx.s83 hF) (Fx.r83_5 hF) ?_
    refine xq_iload_n dX11_line_176 rfl rfl ?_
    refine xq_aload_n dX11_line_177 rfl rfl ?_
    refine xq_iconst dX11_line_178 ic0 ?_
    refine xq_bipush dX11_line_179 bp6 ?_
    refine xq_callV2H clX11 gd_X11_numeral dX11_line_181 ml_RX11_215 im_X11_numeral se_X11_numeral rfl (Fx.s83 hF) (by exact Nat.le_of_ble_eq_true rfl) (by omega) (m_numeral1 hl2.f26 hl2.mt (by decide) (by simpa using hb2)) ?_
    intro x181 H181 p181
    obtain ⟨rfl, g1b, g2b⟩ := p181
    have hl3 := hl2.tk g1b g2b
    have lo3 := tkL lo2 g2b
    have hl4 := hl3.cell (a := 87) (i := 3 + tNc T) (z := nI (kV s (n + 2))) (by decide) (by omega)
    have c86 : hI (sI H181 87 (3 + tNc T) (nI (kV s (n + 2)))) 86 (3 + tNc T) = nI (kV s (n + 1)) := by rw [hI_sI, if_neg (by omega)]; exact (g2b.1.I (by omega) _).trans (by rw [hI_sI, if_pos ⟨rfl, rfl⟩])
    refine xq_iastN dX11_line_184 (Fx.s87 hF) (by omega) (by decide) ?_
    refine xq_aload_n dX11_line_185 rfl rfl ?_
    refine xq_iconst dX11_line_186 ic0 ?_
    refine xq_aload_n dX11_line_187 rfl rfl ?_
    refine xq_iconst dX11_line_188 ic0 ?_
    refine xq_callV1P clX11 gd_X11_fresher dX11_line_189 ml_RX11_198 im_X11_fresher se_X11_fresher rfl (Fx.s83 hF) (by exact Nat.le_of_ble_eq_true rfl) (by omega) (m_fresher (w := 0) hF hl4.mx.nc (by decide)) ?_
    refine xq_iconst dX11_line_192 ic1 ?_
    refine xq_iaddN dX11_line_193 ?_
    refine xq_callV2N clX11 gd_X11_reads dX11_line_194 ml_RX11_219 im_X11_reads se_X11_reads rfl (Fx.s83 hF) (by exact Nat.le_of_ble_eq_true rfl) (by omega) (m_reads (w := 0) hF (by decide)) ?_
    intro H194 p194
    subst p194
    refine xq_goto dX11_line_197 rfl ?_
    have hl5 := hl4.bump (T2 := colT T (kV s (n + 1)) (kV s (n + 2))) (by decide) (hl4.mx.bCo c86 (by rw [hI_sI, if_pos ⟨rfl, rfl⟩])) rfl rfl rfl rfl rfl (fun p hp => rfl)
    exact xq_fgt (L' := [some (.ref 83), none, none, none, none]) (line_tail hF hK (hl5) (by rw [hI_sI, if_neg (by omega), hI_sI, if_neg (by omega)]; exact (tk20 g2b).trans (by rw [hI_sI, if_neg (by omega)]; exact (tk20 g2).trans hls)) ((lo3.pU (a := 87) (by decide) (show 3 ≤ _ by omega) _).pb (by decide))) (by exact And.intro rfl trivial)
theorem w_ask (hF : gFx S) (hK : 100 ≤ K) (hl : LiP S H1 bt ln s N (n + 1) T) (hti : TiP T) (hls : hI H1 83 20 = nI ls) (hlo : LoQ H H1) (hfu : ¬ 12 ≤ tNa T) : Xq mX11_line K 0 0 96 [some (.ref 83), some (vN 5), none, none, none] [] S H1 (fun R => ∃ H2, (lQ S H H2 bt ln s (N) ls (linT s (askR s n T))) ∧ R = (none, S, H2)) := by
  obtain ⟨t1, t2, t3, t4, t5, t6, t7, t8, t9, t10, t11⟩ := hti
  unfold askR
  rw [if_neg hfu]
  by_cases hb2 : numB s (n + 1) 99 = false
  · rw [if_pos hb2]
    refine xq_iload_n dX11_line_96 rfl rfl ?_
    refine xq_tableIn dX11_line_97 (by decide) (by decide) rfl rfl ?_
    refine xq_aload_n dX11_line_341 rfl rfl ?_
    refine xq_getF clX11 (by decide) rfl fl_RX11_46 dX11_line_342 (Fx.s83 hF) (Fx.r83_14 hF) ?_
    refine xq_bipush dX11_line_345 bp12 ?_
    refine xq_aload_n dX11_line_347 rfl rfl ?_
    refine xq_iconst dX11_line_348 ic4 ?_
    refine xq_callV1P clX11 gd_X11_fresher dX11_line_349 ml_RX11_198 im_X11_fresher se_X11_fresher rfl (Fx.s83 hF) (by exact Nat.le_of_ble_eq_true rfl) (by omega) (m_fresher (w := 4) hF hl.mx.na (by decide)) ?_
    refine xq_iaddN dX11_line_352 ?_
    refine xq_aload_n dX11_line_353 rfl rfl ?_
    refine xq_iconst dX11_line_354 ic0 ?_
    refine xq_bipush dX11_line_355 bp99 ?_
    refine xq_callV2H clX11 gd_X11_numeral dX11_line_357 ml_RX11_215 im_X11_numeral se_X11_numeral rfl (Fx.s83 hF) (by exact Nat.le_of_ble_eq_true rfl) (by omega) (m_numeral0 hl.f26 hl.mt (by decide) hb2) ?_
    intro x357 H357 p357
    obtain ⟨rfl, mf⟩ := p357
    have ft := hl.ft mf numF_p numF_l
    have lo := mfL hlo mf
    refine xq_iastN dX11_line_360 (Fx.s96 hF) (by omega) (by decide) ?_
    refine xq_aload_n dX11_line_361 rfl rfl ?_
    refine xq_iconst dX11_line_362 ic4 ?_
    refine xq_aload_n dX11_line_363 rfl rfl ?_
    refine xq_iconst dX11_line_364 ic4 ?_
    refine xq_callV1P clX11 gd_X11_fresher dX11_line_365 ml_RX11_198 im_X11_fresher se_X11_fresher rfl (Fx.s83 hF) (by exact Nat.le_of_ble_eq_true rfl) (by omega) (m_fresher (w := 4) hF (by rw [hI_sI, if_neg (by omega)]; exact (mf.2.2.1.I (by omega) 13).trans hl.mx.na) (by decide)) ?_
    refine xq_iconst dX11_line_368 ic1 ?_
    refine xq_iaddN dX11_line_369 ?_
    refine xq_callV2N clX11 gd_X11_reads dX11_line_370 ml_RX11_219 im_X11_reads se_X11_reads rfl (Fx.s83 hF) (by exact Nat.le_of_ble_eq_true rfl) (by omega) (m_reads (w := 4) hF (by decide)) ?_
    intro H370 p370
    subst p370
    refine xq_goto dX11_line_373 rfl ?_
    exact xq_fgt (L' := [some (.ref 83), none, none, none, none]) (line_tailF hF ((ft.pu (a := 96) (by decide)).pu (a := 85) (by decide)) ((lo.pU (a := 96) (by decide) (show 12 ≤ _ by omega) _).pb (by decide))) (by exact And.intro rfl trivial)
  · rw [if_neg hb2]
    refine xq_iload_n dX11_line_96 rfl rfl ?_
    refine xq_tableIn dX11_line_97 (by decide) (by decide) rfl rfl ?_
    refine xq_aload_n dX11_line_341 rfl rfl ?_
    refine xq_getF clX11 (by decide) rfl fl_RX11_46 dX11_line_342 (Fx.s83 hF) (Fx.r83_14 hF) ?_
    refine xq_bipush dX11_line_345 bp12 ?_
    refine xq_aload_n dX11_line_347 rfl rfl ?_
    refine xq_iconst dX11_line_348 ic4 ?_
    refine xq_callV1P clX11 gd_X11_fresher dX11_line_349 ml_RX11_198 im_X11_fresher se_X11_fresher rfl (Fx.s83 hF) (by exact Nat.le_of_ble_eq_true rfl) (by omega) (m_fresher (w := 4) hF hl.mx.na (by decide)) ?_
    refine xq_iaddN dX11_line_352 ?_
    refine xq_aload_n dX11_line_353 rfl rfl ?_
    refine xq_iconst dX11_line_354 ic0 ?_
    refine xq_bipush dX11_line_355 bp99 ?_
    refine xq_callV2H clX11 gd_X11_numeral dX11_line_357 ml_RX11_215 im_X11_numeral se_X11_numeral rfl (Fx.s83 hF) (by exact Nat.le_of_ble_eq_true rfl) (by omega) (m_numeral1 hl.f26 hl.mt (by decide) (by simpa using hb2)) ?_
    intro x357 H357 p357
    obtain ⟨rfl, g1, g2⟩ := p357
    have hl1 := hl.tk g1 g2
    have lo1 := tkL hlo g2
    have hl2 := hl1.cell (a := 96) (i := 12 + tNa T) (z := nI (kV s (n + 1))) (by decide) (by omega)
    refine xq_iastN dX11_line_360 (Fx.s96 hF) (by omega) (by decide) ?_
    refine xq_aload_n dX11_line_361 rfl rfl ?_
    refine xq_iconst dX11_line_362 ic4 ?_
    refine xq_aload_n dX11_line_363 rfl rfl ?_
    refine xq_iconst dX11_line_364 ic4 ?_
    refine xq_callV1P clX11 gd_X11_fresher dX11_line_365 ml_RX11_198 im_X11_fresher se_X11_fresher rfl (Fx.s83 hF) (by exact Nat.le_of_ble_eq_true rfl) (by omega) (m_fresher (w := 4) hF hl2.mx.na (by decide)) ?_
    refine xq_iconst dX11_line_368 ic1 ?_
    refine xq_iaddN dX11_line_369 ?_
    refine xq_callV2N clX11 gd_X11_reads dX11_line_370 ml_RX11_219 im_X11_reads se_X11_reads rfl (Fx.s83 hF) (by exact Nat.le_of_ble_eq_true rfl) (by omega) (m_reads (w := 4) hF (by decide)) ?_
    intro H370 p370
    subst p370
    refine xq_goto dX11_line_373 rfl ?_
    have hl5 := hl2.bump (T2 := askT T (kV s (n + 1))) (by decide) (hl2.mx.bAs (by rw [hI_sI, if_pos ⟨rfl, rfl⟩])) rfl rfl rfl rfl rfl (fun p hp => rfl)
    exact xq_fgt (L' := [some (.ref 83), none, none, none, none]) (line_tail hF hK (hl5) (by rw [hI_sI, if_neg (by omega), hI_sI, if_neg (by omega)]; exact (tk20 g2).trans hls) ((lo1.pU (a := 96) (by decide) (show 12 ≤ _ by omega) _).pb (by decide))) (by exact And.intro rfl trivial)
theorem w_tell (hF : gFx S) (hK : 100 ≤ K) (hl : LiP S H1 bt ln s N (n + 1) T) (hti : TiP T) (hls : hI H1 83 20 = nI ls) (hlo : LoQ H H1) (hfu : ¬ 12 ≤ tNt T) : Xq mX11_line K 0 0 96 [some (.ref 83), some (vN 4), none, none, none] [] S H1 (fun R => ∃ H2, (lQ S H H2 bt ln s (N) ls (linT s (telR s n T))) ∧ R = (none, S, H2)) := by
  have hsz := hti.sz
  unfold telR
  rw [if_neg hfu]
  by_cases hb : knoZ s (n + 1) (tFn T) (tNf T) = -1
  · rw [if_pos hb]
    have hti2 := hti
    obtain ⟨t1, t2, t3, t4, t5, t6, t7, t8, t9, t10, t11⟩ := hti2
    refine xq_iload_n dX11_line_96 rfl rfl ?_
    refine xq_tableIn dX11_line_97 (by decide) (by decide) rfl rfl ?_
    refine xq_bipush dX11_line_287 bp12 ?_
    refine xq_aload_n dX11_line_289 rfl rfl ?_
    refine xq_iconst dX11_line_290 ic3 ?_
    refine xq_callV1P clX11 gd_X11_fresher dX11_line_291 ml_RX11_198 im_X11_fresher se_X11_fresher rfl (Fx.s83 hF) (by exact Nat.le_of_ble_eq_true rfl) (by omega) (m_fresher (w := 3) hF hl.mx.nt (by decide)) ?_
    refine xq_iaddN dX11_line_294 ?_
    refine xq_istore dX11_line_295 rfl ?_
    refine xq_aload_n dX11_line_297 rfl rfl ?_
    refine xq_getF clX11 (by decide) rfl fl_RX11_40 dX11_line_298 (Fx.s83 hF) (Fx.r83_12 hF) ?_
    refine xq_iload dX11_line_301 rfl ?_
    refine xq_aload_n dX11_line_303 rfl rfl ?_
    refine xq_callV0H clX11 gd_X11_factAtHand dX11_line_304 ml_RX11_232 im_X11_factAtHand se_X11_factAtHand rfl (Fx.s83 hF) (by exact Nat.le_of_ble_eq_true rfl) (by omega) (m_factAtHand0 hl.mx hti.sz hl.f26 hl.mt hb) ?_
    intro x304 H304 p304
    obtain ⟨rfl, mf⟩ := p304
    have ft := hl.ft mf knoF_p knoF_l
    have lo := mfL hlo mf
    have ft2 := ft.pu (a := 94) (k := 12 + tNt T) (z := nI 0) (by decide)
    have fa := ft2.1; have fb := ft.2.2.1; have fc := ft.2.2.2.1
    refine xq_iastN dX11_line_307 (Fx.s94 hF) (by omega) (by decide) ?_
    refine xq_aload_n dX11_line_308 rfl rfl ?_
    refine xq_callV0N clX11 gd_X11_goOn dX11_line_309 ml_RX11_235 im_X11_goOn se_X11_goOn rfl (Fx.s83 hF) (by exact Nat.le_of_ble_eq_true rfl) (by omega) (m_goOn1 hF fa fb fc) ?_
    intro H309 p309
    subst p309
    refine xq_aload_n dX11_line_312 rfl rfl ?_
    refine xq_getF clX11 (by decide) rfl fl_RX11_43 dX11_line_313 (Fx.s83 hF) (Fx.r83_13 hF) ?_
    refine xq_iload dX11_line_316 rfl ?_
    refine xq_aload_n dX11_line_318 rfl rfl ?_
    refine xq_iconst dX11_line_319 ic0 ?_
    refine xq_bipush dX11_line_320 bp99 ?_
    refine xq_callV2P clX11 gd_X11_numeral dX11_line_322 ml_RX11_215 im_X11_numeral se_X11_numeral rfl (Fx.s83 hF) (by exact Nat.le_of_ble_eq_true rfl) (by omega) (m_numeralF hF fa fb fc) ?_
    refine xq_iastN dX11_line_325 (Fx.s95 hF) (by omega) (by decide) ?_
    refine xq_aload_n dX11_line_326 rfl rfl ?_
    refine xq_iconst dX11_line_327 ic3 ?_
    refine xq_aload_n dX11_line_328 rfl rfl ?_
    refine xq_iconst dX11_line_329 ic3 ?_
    refine xq_callV1P clX11 gd_X11_fresher dX11_line_330 ml_RX11_198 im_X11_fresher se_X11_fresher rfl (Fx.s83 hF) (by exact Nat.le_of_ble_eq_true rfl) (by omega) (m_fresher (w := 3) hF (by rw [hI_sI, if_neg (by omega)]; rw [hI_sI, if_neg (by omega)]; exact (mf.2.2.1.I (by omega) 12).trans hl.mx.nt) (by decide)) ?_
    refine xq_iconst dX11_line_333 ic1 ?_
    refine xq_iaddN dX11_line_334 ?_
    refine xq_callV2N clX11 gd_X11_reads dX11_line_335 ml_RX11_219 im_X11_reads se_X11_reads rfl (Fx.s83 hF) (by exact Nat.le_of_ble_eq_true rfl) (by omega) (m_reads (w := 3) hF (by decide)) ?_
    intro H335 p335
    subst p335
    refine xq_goto dX11_line_338 rfl ?_
    exact xq_fgt (L' := [some (.ref 83), none, none, none, none]) (line_tailF hF ((ft2.pu (a := 95) (by decide)).pu (a := 85) (by decide)) (((lo.pU (a := 94) (by decide) (show 12 ≤ _ by omega) _).pU (a := 95) (by decide) (show 12 ≤ _ by omega) _).pb (by decide))) (by exact And.intro rfl trivial)
  rw [if_neg hb]
  obtain ⟨t1, t2, t3, t4, t5, t6, t7, t8, t9, t10, t11⟩ := hti
  obtain ⟨e39, hvv, ev⟩ := zP_v (s := s) (n := n + 1) (cd := tFn T) (sz := tNf T) hb
  have hl1 := hl.cell (a := 94) (i := 12 + tNt T) (z := nI (fdn (tFn T) (tNf T) (kV s (n + 1)))) (by decide) (by omega)
  have lo1 := hlo.pU (a := 94) (by decide) (show 12 ≤ 12 + tNt T by omega) (nI (fdn (tFn T) (tNf T) (kV s (n + 1))))
  by_cases hb2 : numB s (n + 2) 99 = false
  · rw [if_pos hb2]
    refine xq_iload_n dX11_line_96 rfl rfl ?_
    refine xq_tableIn dX11_line_97 (by decide) (by decide) rfl rfl ?_
    refine xq_bipush dX11_line_287 bp12 ?_
    refine xq_aload_n dX11_line_289 rfl rfl ?_
    refine xq_iconst dX11_line_290 ic3 ?_
    refine xq_callV1P clX11 gd_X11_fresher dX11_line_291 ml_RX11_198 im_X11_fresher se_X11_fresher rfl (Fx.s83 hF) (by exact Nat.le_of_ble_eq_true rfl) (by omega) (m_fresher (w := 3) hF hl.mx.nt (by decide)) ?_
    refine xq_iaddN dX11_line_294 ?_
    refine xq_istore dX11_line_295 rfl ?_
    refine xq_aload_n dX11_line_297 rfl rfl ?_
    refine xq_getF clX11 (by decide) rfl fl_RX11_40 dX11_line_298 (Fx.s83 hF) (Fx.r83_12 hF) ?_
    refine xq_iload dX11_line_301 rfl ?_
    refine xq_aload_n dX11_line_303 rfl rfl ?_
    refine xq_callV0P clX11 gd_X11_factAtHand dX11_line_304 ml_RX11_232 im_X11_factAtHand se_X11_factAtHand rfl (Fx.s83 hF) (by exact Nat.le_of_ble_eq_true rfl) (by omega) (m_factAtHand1 hl.mx hsz hl.f26 hl.mt e39 hvv) ?_
    refine xq_iastN dX11_line_307 (Fx.s94 hF) (by omega) (by decide) ?_
    refine xq_aload_n dX11_line_308 rfl rfl ?_
    refine xq_callV0N clX11 gd_X11_goOn dX11_line_309 ml_RX11_235 im_X11_goOn se_X11_goOn rfl (Fx.s83 hF) (by exact Nat.le_of_ble_eq_true rfl) (by omega) (m_goOn hl1.f26 hl1.mt (kK_in (ne39 e39) hl1.mt.lx)) ?_
    intro H309 p309
    obtain ⟨g1, g2⟩ := p309
    have hl2 := hl1.tk g1 g2
    have lo2 := tkL lo1 g2
    refine xq_aload_n dX11_line_312 rfl rfl ?_
    refine xq_getF clX11 (by decide) rfl fl_RX11_43 dX11_line_313 (Fx.s83 hF) (Fx.r83_13 hF) ?_
    refine xq_iload dX11_line_316 rfl ?_
    refine xq_aload_n dX11_line_318 rfl rfl ?_
    refine xq_iconst dX11_line_319 ic0 ?_
    refine xq_bipush dX11_line_320 bp99 ?_
    refine xq_callV2H clX11 gd_X11_numeral dX11_line_322 ml_RX11_215 im_X11_numeral se_X11_numeral rfl (Fx.s83 hF) (by exact Nat.le_of_ble_eq_true rfl) (by omega) (m_numeral0 hl2.f26 hl2.mt (by decide) hb2) ?_
    intro x322 H322 p322
    obtain ⟨rfl, mf⟩ := p322
    have ft := hl2.ft mf numF_p numF_l
    have lo := mfL lo2 mf
    refine xq_iastN dX11_line_325 (Fx.s95 hF) (by omega) (by decide) ?_
    refine xq_aload_n dX11_line_326 rfl rfl ?_
    refine xq_iconst dX11_line_327 ic3 ?_
    refine xq_aload_n dX11_line_328 rfl rfl ?_
    refine xq_iconst dX11_line_329 ic3 ?_
    refine xq_callV1P clX11 gd_X11_fresher dX11_line_330 ml_RX11_198 im_X11_fresher se_X11_fresher rfl (Fx.s83 hF) (by exact Nat.le_of_ble_eq_true rfl) (by omega) (m_fresher (w := 3) hF (by rw [hI_sI, if_neg (by omega)]; exact (mf.2.2.1.I (by omega) 12).trans hl2.mx.nt) (by decide)) ?_
    refine xq_iconst dX11_line_333 ic1 ?_
    refine xq_iaddN dX11_line_334 ?_
    refine xq_callV2N clX11 gd_X11_reads dX11_line_335 ml_RX11_219 im_X11_reads se_X11_reads rfl (Fx.s83 hF) (by exact Nat.le_of_ble_eq_true rfl) (by omega) (m_reads (w := 3) hF (by decide)) ?_
    intro H335 p335
    subst p335
    refine xq_goto dX11_line_338 rfl ?_
    exact xq_fgt (L' := [some (.ref 83), none, none, none, none]) (line_tailF hF ((ft.pu (a := 95) (by decide)).pu (a := 85) (by decide)) ((lo.pU (a := 95) (by decide) (show 12 ≤ _ by omega) _).pb (by decide))) (by exact And.intro rfl trivial)
  · rw [if_neg hb2]
    refine xq_iload_n dX11_line_96 rfl rfl ?_
    refine xq_tableIn dX11_line_97 (by decide) (by decide) rfl rfl ?_
    refine xq_bipush dX11_line_287 bp12 ?_
    refine xq_aload_n dX11_line_289 rfl rfl ?_
    refine xq_iconst dX11_line_290 ic3 ?_
    refine xq_callV1P clX11 gd_X11_fresher dX11_line_291 ml_RX11_198 im_X11_fresher se_X11_fresher rfl (Fx.s83 hF) (by exact Nat.le_of_ble_eq_true rfl) (by omega) (m_fresher (w := 3) hF hl.mx.nt (by decide)) ?_
    refine xq_iaddN dX11_line_294 ?_
    refine xq_istore dX11_line_295 rfl ?_
    refine xq_aload_n dX11_line_297 rfl rfl ?_
    refine xq_getF clX11 (by decide) rfl fl_RX11_40 dX11_line_298 (Fx.s83 hF) (Fx.r83_12 hF) ?_
    refine xq_iload dX11_line_301 rfl ?_
    refine xq_aload_n dX11_line_303 rfl rfl ?_
    refine xq_callV0P clX11 gd_X11_factAtHand dX11_line_304 ml_RX11_232 im_X11_factAtHand se_X11_factAtHand rfl (Fx.s83 hF) (by exact Nat.le_of_ble_eq_true rfl) (by omega) (m_factAtHand1 hl.mx hsz hl.f26 hl.mt e39 hvv) ?_
    refine xq_iastN dX11_line_307 (Fx.s94 hF) (by omega) (by decide) ?_
    refine xq_aload_n dX11_line_308 rfl rfl ?_
    refine xq_callV0N clX11 gd_X11_goOn dX11_line_309 ml_RX11_235 im_X11_goOn se_X11_goOn rfl (Fx.s83 hF) (by exact Nat.le_of_ble_eq_true rfl) (by omega) (m_goOn hl1.f26 hl1.mt (kK_in (ne39 e39) hl1.mt.lx)) ?_
    intro H309 p309
    obtain ⟨g1, g2⟩ := p309
    have hl2 := hl1.tk g1 g2
    have lo2 := tkL lo1 g2
    refine xq_aload_n dX11_line_312 rfl rfl ?_
    refine xq_getF clX11 (by decide) rfl fl_RX11_43 dX11_line_313 (Fx.s83 hF) (Fx.r83_13 hF) ?_
    refine xq_iload dX11_line_316 rfl ?_
    refine xq_aload_n dX11_line_318 rfl rfl ?_
    refine xq_iconst dX11_line_319 ic0 ?_
    refine xq_bipush dX11_line_320 bp99 ?_
    refine xq_callV2H clX11 gd_X11_numeral dX11_line_322 ml_RX11_215 im_X11_numeral se_X11_numeral rfl (Fx.s83 hF) (by exact Nat.le_of_ble_eq_true rfl) (by omega) (m_numeral1 hl2.f26 hl2.mt (by decide) (by simpa using hb2)) ?_
    intro x322 H322 p322
    obtain ⟨rfl, g1b, g2b⟩ := p322
    have hl3 := hl2.tk g1b g2b
    have lo3 := tkL lo2 g2b
    have hl4 := hl3.cell (a := 95) (i := 12 + tNt T) (z := nI (kV s (n + 2))) (by decide) (by omega)
    have c94 : hI (sI H322 95 (12 + tNt T) (nI (kV s (n + 2)))) 94 (12 + tNt T) = nI (fdn (tFn T) (tNf T) (kV s (n + 1))) := by rw [hI_sI, if_neg (by omega)]; exact (g2b.1.I (by omega) _).trans ((g2.1.I (by omega) _).trans (by rw [hI_sI, if_pos ⟨rfl, rfl⟩]))
    refine xq_iastN dX11_line_325 (Fx.s95 hF) (by omega) (by decide) ?_
    refine xq_aload_n dX11_line_326 rfl rfl ?_
    refine xq_iconst dX11_line_327 ic3 ?_
    refine xq_aload_n dX11_line_328 rfl rfl ?_
    refine xq_iconst dX11_line_329 ic3 ?_
    refine xq_callV1P clX11 gd_X11_fresher dX11_line_330 ml_RX11_198 im_X11_fresher se_X11_fresher rfl (Fx.s83 hF) (by exact Nat.le_of_ble_eq_true rfl) (by omega) (m_fresher (w := 3) hF hl4.mx.nt (by decide)) ?_
    refine xq_iconst dX11_line_333 ic1 ?_
    refine xq_iaddN dX11_line_334 ?_
    refine xq_callV2N clX11 gd_X11_reads dX11_line_335 ml_RX11_219 im_X11_reads se_X11_reads rfl (Fx.s83 hF) (by exact Nat.le_of_ble_eq_true rfl) (by omega) (m_reads (w := 3) hF (by decide)) ?_
    intro H335 p335
    subst p335
    refine xq_goto dX11_line_338 rfl ?_
    rw [show (knoZ s (n + 1) (tFn T) (tNf T)).toNat = (fdn (tFn T) (tNf T) (kV s (n + 1))) from ev]
    have hl5 := hl4.bump (T2 := telT T (fdn (tFn T) (tNf T) (kV s (n + 1))) (kV s (n + 2))) (by decide) (hl4.mx.bTe c94 (by rw [hI_sI, if_pos ⟨rfl, rfl⟩])) rfl rfl rfl rfl rfl (fun p hp => rfl)
    exact xq_fgt (L' := [some (.ref 83), none, none, none, none]) (line_tail hF hK (hl5) (by rw [hI_sI, if_neg (by omega), hI_sI, if_neg (by omega)]; exact (tk20 g2b).trans ((tk20 g2).trans (by rw [hI_sI, if_neg (by omega)]; exact hls))) ((lo3.pU (a := 95) (by decide) (show 12 ≤ _ by omega) _).pb (by decide))) (by exact And.intro rfl trivial)
theorem w_shy (hF : gFx S) (hK : 100 ≤ K) (g1 : MtP S H1 bt ln s (n + 1)) (hmx : MxU H1 T N) (h26 : hI H1 83 26 = nI 0) (h30 : hI H1 83 30 = nI 0) (h31 : hI H1 83 31 = nI (tNk T)) (hsr : SrsP H1 T) (hv : hI H1 83 19 = nI v) (hv18 : v < 262144) (hvw : v.testBit 6 = true) (hvo : v.testBit 7 = decide (tSd T ≠ 0)) (hv16 : v.testBit 16 = decide (tLn T 0 ≠ 0)) (hv17 : v.testBit 17 = decide (tLn T 1 ≠ 0)) (hls : hI H1 83 20 = nI ls) (hlo : LoQ H H1) (hfu : ¬ tSh T ≠ 0) : Xq mX11_line K 0 0 96 [some (.ref 83), some (vN 6), none, none, none] [] S H1 (fun R => ∃ H2, (lQ S H H2 bt ln s (N) ls (linT s (shyR s n T))) ∧ R = (none, S, H2)) := by
  unfold shyR
  rw [if_neg hfu]
  by_cases hb2 : numB s (n + 1) 100 = false
  · rw [if_pos hb2]
    refine xq_iload_n dX11_line_96 rfl rfl ?_
    refine xq_tableIn dX11_line_97 (by decide) (by decide) rfl rfl ?_
    refine xq_aload_n dX11_line_376 rfl rfl ?_
    refine xq_iconst dX11_line_377 ic5 ?_
    refine xq_aload_n dX11_line_378 rfl rfl ?_
    refine xq_iconst dX11_line_379 ic0 ?_
    refine xq_bipush dX11_line_380 bp100 ?_
    refine xq_callV2H clX11 gd_X11_numeral dX11_line_382 ml_RX11_215 im_X11_numeral se_X11_numeral rfl (Fx.s83 hF) (by exact Nat.le_of_ble_eq_true rfl) (by omega) (m_numeral0 h26 g1 (by decide) hb2) ?_
    intro x382 H382 p382
    obtain ⟨rfl, mf⟩ := p382
    have ft := FtQ.mf mf numF_p numF_l g1.js
    have lo := mfL hlo mf
    refine xq_callV2N clX11 gd_X11_reads dX11_line_385 ml_RX11_219 im_X11_reads se_X11_reads rfl (Fx.s83 hF) (by exact Nat.le_of_ble_eq_true rfl) (by omega) (m_reads (w := 5) hF (by decide)) ?_
    intro H385 p385
    subst p385
    refine xq_goto dX11_line_388 rfl ?_
    exact xq_fgt (L' := [some (.ref 83), none, none, none, none]) (line_tailF hF (ft.pu (a := 85) (by decide)) (lo.pb (by decide))) (by exact And.intro rfl trivial)
  · rw [if_neg hb2]
    refine xq_iload_n dX11_line_96 rfl rfl ?_
    refine xq_tableIn dX11_line_97 (by decide) (by decide) rfl rfl ?_
    refine xq_aload_n dX11_line_376 rfl rfl ?_
    refine xq_iconst dX11_line_377 ic5 ?_
    refine xq_aload_n dX11_line_378 rfl rfl ?_
    refine xq_iconst dX11_line_379 ic0 ?_
    refine xq_bipush dX11_line_380 bp100 ?_
    refine xq_callV2H clX11 gd_X11_numeral dX11_line_382 ml_RX11_215 im_X11_numeral se_X11_numeral rfl (Fx.s83 hF) (by exact Nat.le_of_ble_eq_true rfl) (by omega) (m_numeral1 h26 g1 (by decide) (by simpa using hb2)) ?_
    intro x382 H382 p382
    obtain ⟨rfl, g1b, g2b⟩ := p382
    have lo1 := tkL hlo g2b
    refine xq_callV2N clX11 gd_X11_reads dX11_line_385 ml_RX11_219 im_X11_reads se_X11_reads rfl (Fx.s83 hF) (by exact Nat.le_of_ble_eq_true rfl) (by omega) (m_reads (w := 5) hF (by decide)) ?_
    intro H385 p385
    subst p385
    refine xq_goto dX11_line_388 rfl ?_
    obtain ⟨v2, c1, c2, c3⟩ := hsr
    have e : ∀ k, hI (sI H382 85 (9 + 5) (nI (kV s (n + 1)))) 83 k = hI H382 83 k := fun k => by rw [hI_sI, if_neg (by omega)]
    have hmz : MxU H382 T N := hmx.off g2b.1 (fun q h1 h2 z => by omega)
    have hl5 : LiP S (sI H382 85 (9 + 5) (nI (kV s (n + 1)))) bt ln s N (n + 2) (shyT T (kV s (n + 1))) := ⟨g1b.off (A := fun q => q = 85) (F := fun k => False) ⟨Off.pI (A := fun q => q = 85) Off.rf rfl _ _, fun k _ => e k⟩ (by decide) (fun k h1 h2 z => z), hmz.bSh, (e _).trans ((g2b.2 26 (by omega)).trans h26), (e _).trans ((g2b.2 30 (by omega)).trans h30), (e _).trans ((g2b.2 31 (by omega)).trans h31), ⟨v, (e _).trans ((g2b.2 19 (by omega)).trans hv), hv18, (by show v.testBit 6 = decide (kV s (n + 1) + 1 ≠ 0); rw [hvw]; exact (decide_eq_true (by omega)).symm), hvo, hv16, hv17⟩, ⟨v2, by rw [hI_sI, if_neg (by omega)]; exact (g2b.1.I (by omega) 17).trans c1, c2, c3⟩⟩
    exact xq_fgt (L' := [some (.ref 83), none, none, none, none]) (line_tail hF hK (hl5) (by rw [hI_sI, if_neg (by omega)]; exact (tk20 g2b).trans hls) (lo1.pb (by decide))) (by exact And.intro rfl trivial)
theorem w_seed (hF : gFx S) (hK : 100 ≤ K) (g1 : MtP S H1 bt ln s (n + 1)) (hmx : MxU H1 T N) (h26 : hI H1 83 26 = nI 0) (h30 : hI H1 83 30 = nI 0) (h31 : hI H1 83 31 = nI (tNk T)) (hsr : SrsP H1 T) (hv : hI H1 83 19 = nI v) (hv18 : v < 262144) (hvw : v.testBit 7 = true) (hvo : v.testBit 6 = decide (tSh T ≠ 0)) (hv16 : v.testBit 16 = decide (tLn T 0 ≠ 0)) (hv17 : v.testBit 17 = decide (tLn T 1 ≠ 0)) (hls : hI H1 83 20 = nI ls) (hlo : LoQ H H1) (hfu : ¬ tSd T ≠ 0) : Xq mX11_line K 0 0 96 [some (.ref 83), some (vN 7), none, none, none] [] S H1 (fun R => ∃ H2, (lQ S H H2 bt ln s (N) ls (linT s (sedR s n T))) ∧ R = (none, S, H2)) := by
  unfold sedR
  rw [if_neg hfu]
  by_cases hb2 : numB s (n + 1) 99999 = false
  · rw [if_pos hb2]
    refine xq_iload_n dX11_line_96 rfl rfl ?_
    refine xq_tableIn dX11_line_97 (by decide) (by decide) rfl rfl ?_
    refine xq_aload_n dX11_line_391 rfl rfl ?_
    refine xq_bipush dX11_line_392 bp6 ?_
    refine xq_aload_n dX11_line_394 rfl rfl ?_
    refine xq_iconst dX11_line_395 ic0 ?_
    refine xq_ldc (v := nI 99999) dX11_line_396 kc_RX11_166 ?_
    refine xq_callV2H clX11 gd_X11_numeral dX11_line_398 ml_RX11_215 im_X11_numeral se_X11_numeral rfl (Fx.s83 hF) (by exact Nat.le_of_ble_eq_true rfl) (by omega) (m_numeral0 h26 g1 (by decide) hb2) ?_
    intro x398 H398 p398
    obtain ⟨rfl, mf⟩ := p398
    have ft := FtQ.mf mf numF_p numF_l g1.js
    have lo := mfL hlo mf
    refine xq_callV2N clX11 gd_X11_reads dX11_line_401 ml_RX11_219 im_X11_reads se_X11_reads rfl (Fx.s83 hF) (by exact Nat.le_of_ble_eq_true rfl) (by omega) (m_reads (w := 6) hF (by decide)) ?_
    intro H401 p401
    subst p401
    refine xq_goto dX11_line_404 rfl ?_
    exact xq_fgt (L' := [some (.ref 83), none, none, none, none]) (line_tailF hF (ft.pu (a := 85) (by decide)) (lo.pb (by decide))) (by exact And.intro rfl trivial)
  · rw [if_neg hb2]
    refine xq_iload_n dX11_line_96 rfl rfl ?_
    refine xq_tableIn dX11_line_97 (by decide) (by decide) rfl rfl ?_
    refine xq_aload_n dX11_line_391 rfl rfl ?_
    refine xq_bipush dX11_line_392 bp6 ?_
    refine xq_aload_n dX11_line_394 rfl rfl ?_
    refine xq_iconst dX11_line_395 ic0 ?_
    refine xq_ldc (v := nI 99999) dX11_line_396 kc_RX11_166 ?_
    refine xq_callV2H clX11 gd_X11_numeral dX11_line_398 ml_RX11_215 im_X11_numeral se_X11_numeral rfl (Fx.s83 hF) (by exact Nat.le_of_ble_eq_true rfl) (by omega) (m_numeral1 h26 g1 (by decide) (by simpa using hb2)) ?_
    intro x398 H398 p398
    obtain ⟨rfl, g1b, g2b⟩ := p398
    have lo1 := tkL hlo g2b
    refine xq_callV2N clX11 gd_X11_reads dX11_line_401 ml_RX11_219 im_X11_reads se_X11_reads rfl (Fx.s83 hF) (by exact Nat.le_of_ble_eq_true rfl) (by omega) (m_reads (w := 6) hF (by decide)) ?_
    intro H401 p401
    subst p401
    refine xq_goto dX11_line_404 rfl ?_
    obtain ⟨v2, c1, c2, c3⟩ := hsr
    have e : ∀ k, hI (sI H398 85 (9 + 6) (nI (kV s (n + 1)))) 83 k = hI H398 83 k := fun k => by rw [hI_sI, if_neg (by omega)]
    have hmz : MxU H398 T N := hmx.off g2b.1 (fun q h1 h2 z => by omega)
    have hl5 : LiP S (sI H398 85 (9 + 6) (nI (kV s (n + 1)))) bt ln s N (n + 2) (seeT T (kV s (n + 1))) := ⟨g1b.off (A := fun q => q = 85) (F := fun k => False) ⟨Off.pI (A := fun q => q = 85) Off.rf rfl _ _, fun k _ => e k⟩ (by decide) (fun k h1 h2 z => z), hmz.bSd, (e _).trans ((g2b.2 26 (by omega)).trans h26), (e _).trans ((g2b.2 30 (by omega)).trans h30), (e _).trans ((g2b.2 31 (by omega)).trans h31), ⟨v, (e _).trans ((g2b.2 19 (by omega)).trans hv), hv18, hvo, (by show v.testBit 7 = decide (kV s (n + 1) + 1 ≠ 0); rw [hvw]; exact (decide_eq_true (by omega)).symm), hv16, hv17⟩, ⟨v2, by rw [hI_sI, if_neg (by omega)]; exact (g2b.1.I (by omega) 17).trans c1, c2, c3⟩⟩
    exact xq_fgt (L' := [some (.ref 83), none, none, none, none]) (line_tail hF hK (hl5) (by rw [hI_sI, if_neg (by omega)]; exact (tk20 g2b).trans hls) (lo1.pb (by decide))) (by exact And.intro rfl trivial)
end MN2
