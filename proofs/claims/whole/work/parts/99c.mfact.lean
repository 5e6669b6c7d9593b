/-! ===== the reference: fact, law ===== -/
section MN4
variable {S : xS} {H H1 H2 H3 : xH} {bt : Nat → Nat} {ln k p q i j l m n c t d a its v ls D w K r : Nat} {s : uTk} {T T2 : uTx} {N : Nat → Nat → Nat} {A F : Nat → Prop} {wl : Int64} {y : rxT}
theorem nI_sur (x : Int32) : ∃ v, x = nI v := ⟨x.toBitVec.toNat, by
  apply Int32.toBitVec_inj.mp
  apply BitVec.eq_of_toNat_eq
  show x.toBitVec.toNat = (BitVec.ofNat 32 x.toBitVec.toNat).toNat
  rw [BitVec.toNat_ofNat, Nat.mod_eq_of_lt x.toBitVec.isLt]⟩
theorem lwT_id {u : Nat → Nat} {v : Nat → Int64} (h1 : ∀ k, u k = tLr T k) (h2 : ∀ k, v k = tLn T k) : lwT u v T = T := by
  refine Prod.ext (funext fun a => funext fun k => ?_) (funext fun a => funext fun k => ?_)
  · show (if a = 14 then u k else T.1 a k) = T.1 a k
    by_cases e : a = 14
    · rw [if_pos e, e]; exact h1 k
    · rw [if_neg e]
  · show (if a = 1 then v k else T.2 a k) = T.2 a k
    by_cases e : a = 1
    · rw [if_pos e, e]; exact h2 k
    · rw [if_neg e]
theorem SmT.nt (h : SmT T T2) : tNt T2 = tNt T := h.1 0 4 (by decide) (by decide) (by decide) (by decide)
theorem SmT.sh (h : SmT T T2) : tSh T2 = tSh T := h.1 0 6 (by decide) (by decide) (by decide) (by decide)
theorem SmT.sd (h : SmT T T2) : tSd T2 = tSd T := h.1 0 7 (by decide) (by decide) (by decide) (by decide)
theorem SmT.se (h : SmT T T2) (k : Nat) : tSe T2 k = tSe T k := h.1 8 k (by decide) (by decide) (by decide) (fun z => by cases z)
theorem SmT.lr (h : SmT T T2) (k : Nat) : tLr T2 k = tLr T k := h.1 14 k (by decide) (by decide) (by decide) (fun z => by cases z)
theorem SmT.lnn (h : SmT T T2) (k : Nat) : tLn T2 k = tLn T k := by show T2.2 1 k = T.2 1 k; rw [h.2]
theorem nj0 (fc : Bool) (h64 : tNk T ≤ 64) : NjQ (rd s 8000 (lvF fc) (rx0 n T)) := by
  have hl : lvF fc = 0 ∨ lvF fc = 6 := by cases fc <;> decide
  have h1 : mu (rx0 n T) ≤ 9 * 64 + 8 := by
    show 9 * (64 - tNk T) + (8 - 0) ≤ _
    omega
  have h2 : rnk (lvF fc) ≤ 5 := by rcases hl with e | e <;> rw [e] <;> decide
  exact rd_nj 8000 (lvF fc) (by omega) (rx0 n T) (by omega) h64 (Nat.zero_le _)
/-- what a formula read leaves -/
theorem rd_l0 {fc : Bool} (h64 : tNk T ≤ 64) (e : rd s 8000 (lvF fc) (rx0 n T) = .inr y) : rxO y = 0 ∧ rxB y = tNk (rxX y) ∧ tNk T < tNk (rxX y) ∧ tNk (rxX y) ≤ 64 ∧ SmT T (rxX y) ∧ rtX y + 1 = tNk (rxX y) := by
  have hq := rd_q 8000 (lvF fc) (rx0 n T) y h64 e
  have hl : isL2 (lvF fc) = 1 := by cases fc <;> rfl
  have q2 := hq.2.1
  rw [hl] at q2
  have q4 : tNk (rxX y) + tNk T = tNk T + rxB y := hq.2.2.2.1
  have q2 : tNk T + 1 ≤ rxB y := q2
  have q3 := hq.2.2.1
  exact ⟨hq.1, by omega, by omega, by omega, hq.2.2.2.2, by show tNk (rxX y) - 1 + 1 = _; omega⟩
/-- a text in progress behind a formula: the same but for the knots -/
theorem LiP.of_rx {NN : NLt} (hl : LiP S H bt ln s N m T) (hk : SmK H H2) (hr : RxP S H2 bt ln s NN y) (h1 : ∀ k, NN.2.1 k = tLr T k) (h2 : ∀ k, NN.2.2 k = tLn T k) (hsm : SmT T (rxX y)) (hb : rxB y = tNk (rxX y)) (h0 : rxO y = 0) : LiP S H2 bt ln s NN.1 (rxN y) (rxX y) := by
  obtain ⟨v, b1, b2, b3, b4, b5, b6⟩ := hl.tol
  obtain ⟨v2, c1, c2, c3⟩ := hl.srs
  have e : lwT NN.2.1 NN.2.2 (rxX y) = rxX y := lwT_id (fun k => (h1 k).trans (hsm.lr k).symm) (fun k => (h2 k).trans (hsm.lnn k).symm)
  have hm := hr.2.1
  rw [e] at hm
  refine ⟨hr.1, hm, hr.2.2.1, by rw [hr.2.2.2.1, h0], by rw [hr.2.2.2.2, hb], ⟨v, hk.2.1.trans b1, b2, ?_, ?_, ?_, ?_⟩, ⟨v2, (hk.2.2.2.2 17 (by decide)).trans c1, c2, fun p hp => by rw [hsm.se]; exact c3 p hp⟩⟩
  · rw [hsm.sh]; exact b3
  · rw [hsm.sd]; exact b4
  · rw [hsm.lnn]; exact b5
  · rw [hsm.lnn]; exact b6
theorem facR_f (hfu : ¬ 8 ≤ tNf T) (hb : freB s (n + 1) (tFn T) (tNf T) = true) (hk : TrOk s) (hD : 701 ≤ D) (hnz : n + 2 ≤ kSz s) (h64 : tNk T ≤ 64) (e : rd s 8000 0 (rx0 (n + 2) T) = .inl (c, m)) : linT s (facR D s n T) = .inl (c, m) := by
  have h := mR_rd (fc := true) (n := n + 2) hk hD (by omega) hnz h64 (Nat.le_refl 8000)
  rw [show lvF true = 0 from rfl, e] at h
  have e2 : facR D s n T = .inl (c, m) := (if_neg hfu).trans ((if_neg (by rw [hb]; decide)).trans (by rw [h]; rfl))
  rw [e2]; rfl
theorem facR_r (hfu : ¬ 8 ≤ tNf T) (hb : freB s (n + 1) (tFn T) (tNf T) = true) (hk : TrOk s) (hD : 701 ≤ D) (hnz : n + 2 ≤ kSz s) (h64 : tNk T ≤ 64) (e : rd s 8000 0 (rx0 (n + 2) T) = .inr y) : linT s (facR D s n T) = if kK s (rxN y) = 40 then .inr (rxN y + 1, facT (rxX y) (kV s (n + 1)) (rtX y) (rxW y)) else .inl (1, rxN y) := by
  have h := mR_rd (fc := true) (n := n + 2) hk hD (by omega) hnz h64 (Nat.le_refl 8000)
  rw [show lvF true = 0 from rfl, e] at h
  have e2 : facR D s n T = (match fmF s (.inr y) with | .inl e => .inl e | .inr z => .inr (z.1, facT z.2.1 (kV s (n + 1)) z.2.2.2 z.2.2.1)) := (if_neg hfu).trans ((if_neg (by rw [hb]; decide)).trans (by rw [h]; rfl))
  by_cases h40 : kK s (rxN y) = 40
  · rw [e2, show fmF s (.inr y) = .inr (rxN y, rxX y, rxW y, rtX y) from if_pos h40]
    rw [if_pos h40]
    exact if_pos h40
  · rw [e2, show fmF s (.inr y) = .inl (1, rxN y) from if_neg h40, if_neg h40]; rfl
theorem lawR_f (hw : kK s (n + 1) = 9 + l) (hl2 : l < 2) (ht0 : tLn T l = 0) (hk : TrOk s) (hD : 701 ≤ D) (hnz : n + 2 ≤ kSz s) (h64 : tNk T ≤ 64) (e : rd s 8000 6 (rx0 (n + 2) T) = .inl (c, m)) : lawR D s n T = .inl (c, m) := by
  have h := mR_rd (fc := false) (n := n + 2) hk hD (by omega) hnz h64 (Nat.le_refl 8000)
  rw [show lvF false = 6 from rfl, e] at h
  have ek : kK s (n + 1) - 9 = l := by omega
  exact (if_neg (by omega)).trans ((if_neg (by rw [ek]; exact fun z => z ht0)).trans (by rw [h]; rfl))
theorem lawR_r (hw : kK s (n + 1) = 9 + l) (hl2 : l < 2) (ht0 : tLn T l = 0) (hk : TrOk s) (hD : 701 ≤ D) (hnz : n + 2 ≤ kSz s) (h64 : tNk T ≤ 64) (e : rd s 8000 6 (rx0 (n + 2) T) = .inr y) : linT s (lawR D s n T) = if kK s (rxN y) = 40 then .inr (rxN y + 1, lawT (rxX y) l (rtX y) (rxW y)) else .inl (1, rxN y) := by
  have h := mR_rd (fc := false) (n := n + 2) hk hD (by omega) hnz h64 (Nat.le_refl 8000)
  rw [show lvF false = 6 from rfl, e] at h
  have ek : kK s (n + 1) - 9 = l := by omega
  have e2 : lawR D s n T = (match fmF s (.inr y) with | .inl e => .inl e | .inr z => .inr (z.1, lawT z.2.1 l z.2.2.2 z.2.2.1)) := (if_neg (by omega)).trans ((if_neg (by rw [ek]; exact fun z => z ht0)).trans (by rw [h, ek]; rfl))
  by_cases h40 : kK s (rxN y) = 40
  · rw [e2, show fmF s (.inr y) = .inr (rxN y, rxX y, rxW y, rtX y) from if_pos h40]
    rw [if_pos h40]
    exact if_pos h40
  · rw [e2, show fmF s (.inr y) = .inl (1, rxN y) from if_neg h40, if_neg h40]; rfl
theorem w_fact0 (hF : gFx S) (hK : 700 ≤ K) (hl : LiP S H1 bt ln s N (n + 1) T) (hti : TiP T) (hD : 701 ≤ D) (hnz : n + 2 ≤ kSz s) (hls : hI H1 83 20 = nI ls) (hlo : LoQ H H1) (hfu : ¬ 8 ≤ tNf T) (hb : freB s (n + 1) (tFn T) (tNf T) = false) : Xq mX11_line K 0 0 96 [some (.ref 83), some (vN 3), none, none, none] [] S H1 (fun R => ∃ H2, (lQ S H H2 bt ln s (nfN N (tNf T) (tNk T)) ls (linT s (facR D s n T))) ∧ R = (none, S, H2)) := by
  obtain ⟨t1, t2, t3, t4, t5, t6, t7, t8, t9, t10, t11⟩ := hti
  refine xq_iload_n dX11_line_96 rfl rfl ?_
  refine xq_tableIn dX11_line_97 (by decide) (by decide) rfl rfl ?_
  refine xq_bipush dX11_line_214 bp8 ?_
  refine xq_aload_n dX11_line_216 rfl rfl ?_
  refine xq_iconst dX11_line_217 ic2 ?_
  refine xq_callV1P clX11 gd_X11_fresher dX11_line_218 ml_RX11_198 im_X11_fresher se_X11_fresher rfl (Fx.s83 hF) (by exact Nat.le_of_ble_eq_true rfl) (by omega) (m_fresher (w := 2) hF hl.mx.nf (by decide)) ?_
  refine xq_iaddN dX11_line_221 ?_
  refine xq_istore_n dX11_line_222 rfl rfl ?_
  refine xq_aload_n dX11_line_223 rfl rfl ?_
  refine xq_getF clX11 (by decide) rfl fl_RX11_31 dX11_line_224 (Fx.s83 hF) (Fx.r83_9 hF) ?_
  refine xq_iload_n dX11_line_227 rfl rfl ?_
  refine xq_aload_n dX11_line_228 rfl rfl ?_
  refine xq_aload_n dX11_line_229 rfl rfl ?_
  refine xq_getF clX11 (by decide) rfl fl_RX11_31 dX11_line_230 (Fx.s83 hF) (Fx.r83_9 hF) ?_
  refine xq_bipush dX11_line_233 bp8 ?_
  refine xq_aload_n dX11_line_235 rfl rfl ?_
  refine xq_iconst dX11_line_236 ic2 ?_
  refine xq_callV1P clX11 gd_X11_fresher dX11_line_237 ml_RX11_198 im_X11_fresher se_X11_fresher rfl (Fx.s83 hF) (by exact Nat.le_of_ble_eq_true rfl) (by omega) (m_fresher (w := 2) hF hl.mx.nf (by decide)) ?_
  refine xq_callV3H clX11 gd_X11_fresh dX11_line_240 ml_RX11_212 im_X11_fresh se_X11_fresh rfl (Fx.s83 hF) (by exact Nat.le_of_ble_eq_true rfl) (by omega) (m_fresh0 hl.f26 hl.mt (Fx.s91 hF) (by decide) (by omega) (fun k hk => (hl.mx.fa k hk).1) hb) ?_
  intro x240 H240 p240
  obtain ⟨rfl, mf⟩ := p240
  have ft := hl.ft mf freF_p freF_l
  have lo := mfL hlo mf
  have ft2 := (ft.pu (a := 91) (k := 8 + tNf T) (z := nI 0) (by decide)).pu (a := 92) (k := 8 + tNf T) (z := nI (tNk T)) (by decide)
  have fa := ft2.1; have fb := ft.2.2.1; have fc := ft.2.2.2.1
  have hk7 := (mf.2.2.1.I (by omega) 16).trans hl.mx.nk
  have hk2 := (mf.2.2.1.I (by omega) 11).trans hl.mx.nf
  refine xq_iastN dX11_line_243 (Fx.s91 hF) (by omega) (by decide) ?_
  refine xq_aload_n dX11_line_244 rfl rfl ?_
  refine xq_getF clX11 (by decide) rfl fl_RX11_34 dX11_line_245 (Fx.s83 hF) (Fx.r83_10 hF) ?_
  refine xq_iload_n dX11_line_248 rfl rfl ?_
  refine xq_aload_n dX11_line_249 rfl rfl ?_
  refine xq_bipush dX11_line_250 bp7 ?_
  refine xq_callV1P clX11 gd_X11_fresher dX11_line_252 ml_RX11_198 im_X11_fresher se_X11_fresher rfl (Fx.s83 hF) (by exact Nat.le_of_ble_eq_true rfl) (by omega) (m_fresher (w := 7) hF (by rw [hI_sI, if_neg (by omega)]; exact hk7) (by decide)) ?_
  refine xq_iastN dX11_line_255 (Fx.s92 hF) (by omega) (by decide) ?_
  refine xq_aload_n dX11_line_256 rfl rfl ?_
  refine xq_callV0N clX11 gd_X11_eithers dX11_line_257 ml_RX11_229 im_X11_eithers se_X11_eithers rfl (Fx.s83 hF) (by exact Nat.le_of_ble_eq_true rfl) (by omega) (m_eithersF hF fa fb fc) ?_
  intro H257 p257
  subst p257
  refine xq_aload_n dX11_line_260 rfl rfl ?_
  refine xq_getF clX11 (by decide) rfl fl_RX11_37 dX11_line_261 (Fx.s83 hF) (Fx.r83_11 hF) ?_
  refine xq_iload_n dX11_line_264 rfl rfl ?_
  refine xq_aload_n dX11_line_265 rfl rfl ?_
  refine xq_bipush dX11_line_266 bp7 ?_
  refine xq_callV1P clX11 gd_X11_fresher dX11_line_268 ml_RX11_198 im_X11_fresher se_X11_fresher rfl (Fx.s83 hF) (by exact Nat.le_of_ble_eq_true rfl) (by omega) (m_fresher (w := 7) hF (by rw [hI_sI, if_neg (by omega)]; rw [hI_sI, if_neg (by omega)]; exact hk7) (by decide)) ?_
  refine xq_iastN dX11_line_271 (Fx.s93 hF) (by omega) (by decide) ?_
  refine xq_aload_n dX11_line_272 rfl rfl ?_
  refine xq_iconst dX11_line_273 ic2 ?_
  refine xq_aload_n dX11_line_274 rfl rfl ?_
  refine xq_iconst dX11_line_275 ic2 ?_
  refine xq_callV1P clX11 gd_X11_fresher dX11_line_276 ml_RX11_198 im_X11_fresher se_X11_fresher rfl (Fx.s83 hF) (by exact Nat.le_of_ble_eq_true rfl) (by omega) (m_fresher (w := 2) hF (by rw [hI_sI, if_neg (by omega)]; rw [hI_sI, if_neg (by omega)]; rw [hI_sI, if_neg (by omega)]; exact hk2) (by decide)) ?_
  refine xq_iconst dX11_line_279 ic1 ?_
  refine xq_iaddN dX11_line_280 ?_
  refine xq_callV2N clX11 gd_X11_reads dX11_line_281 ml_RX11_219 im_X11_reads se_X11_reads rfl (Fx.s83 hF) (by exact Nat.le_of_ble_eq_true rfl) (by omega) (m_reads (w := 2) hF (by decide)) ?_
  intro H281 p281
  subst p281
  refine xq_goto dX11_line_284 rfl ?_
  have e : linT s (facR D s n T) = .inl (freF s (n + 1), n + 1) := by rw [show facR D s n T = .inl (freF s (n + 1), n + 1) from (if_neg hfu).trans (if_pos hb)]; rfl
  rw [e]
  exact xq_fgt (L' := [some (.ref 83), none, none, none, none]) (line_tailF hF ((ft2.pu (a := 93) (by decide)).pu (a := 85) (by decide)) (((((lo).pU (a := 91) (by decide) (show 8 ≤ 8 + tNf T by omega) (nI 0)).pU (a := 92) (by decide) (show 8 ≤ 8 + tNf T by omega) (nI (tNk T))).pU (a := 93) (by decide) (show 8 ≤ 8 + tNf T by omega) (nI (tNk T))).pb (by decide))) (by exact And.intro rfl trivial)
theorem w_fact1 (hF : gFx S) (hK : 700 ≤ K) (hl : LiP S H1 bt ln s N (n + 1) T) (hti : TiP T) (hD : 701 ≤ D) (hnz : n + 2 ≤ kSz s) (hls : hI H1 83 20 = nI ls) (hlo : LoQ H H1) (hfu : ¬ 8 ≤ tNf T) (hb : freB s (n + 1) (tFn T) (tNf T) = true) (e : rd s 8000 0 (rx0 (n + 2) T) = .inl (c, m)) : Xq mX11_line K 0 0 96 [some (.ref 83), some (vN 3), none, none, none] [] S H1 (fun R => ∃ H2, (lQ S H H2 bt ln s (nfN N (tNf T) (tNk T)) ls (linT s (facR D s n T))) ∧ R = (none, S, H2)) := by
  have hsz := hti.sz
  obtain ⟨t1, t2, t3, t4, t5, t6, t7, t8, t9, t10, t11⟩ := hti
  have h64 := t4
  refine xq_iload_n dX11_line_96 rfl rfl ?_
  refine xq_tableIn dX11_line_97 (by decide) (by decide) rfl rfl ?_
  refine xq_bipush dX11_line_214 bp8 ?_
  refine xq_aload_n dX11_line_216 rfl rfl ?_
  refine xq_iconst dX11_line_217 ic2 ?_
  refine xq_callV1P clX11 gd_X11_fresher dX11_line_218 ml_RX11_198 im_X11_fresher se_X11_fresher rfl (Fx.s83 hF) (by exact Nat.le_of_ble_eq_true rfl) (by omega) (m_fresher (w := 2) hF hl.mx.nf (by decide)) ?_
  refine xq_iaddN dX11_line_221 ?_
  refine xq_istore_n dX11_line_222 rfl rfl ?_
  refine xq_aload_n dX11_line_223 rfl rfl ?_
  refine xq_getF clX11 (by decide) rfl fl_RX11_31 dX11_line_224 (Fx.s83 hF) (Fx.r83_9 hF) ?_
  refine xq_iload_n dX11_line_227 rfl rfl ?_
  refine xq_aload_n dX11_line_228 rfl rfl ?_
  refine xq_aload_n dX11_line_229 rfl rfl ?_
  refine xq_getF clX11 (by decide) rfl fl_RX11_31 dX11_line_230 (Fx.s83 hF) (Fx.r83_9 hF) ?_
  refine xq_bipush dX11_line_233 bp8 ?_
  refine xq_aload_n dX11_line_235 rfl rfl ?_
  refine xq_iconst dX11_line_236 ic2 ?_
  refine xq_callV1P clX11 gd_X11_fresher dX11_line_237 ml_RX11_198 im_X11_fresher se_X11_fresher rfl (Fx.s83 hF) (by exact Nat.le_of_ble_eq_true rfl) (by omega) (m_fresher (w := 2) hF hl.mx.nf (by decide)) ?_
  refine xq_callV3H clX11 gd_X11_fresh dX11_line_240 ml_RX11_212 im_X11_fresh se_X11_fresh rfl (Fx.s83 hF) (by exact Nat.le_of_ble_eq_true rfl) (by omega) (m_fresh1 hl.f26 hl.mt (Fx.s91 hF) (by decide) (by omega) (fun k hk => (hl.mx.fa k hk).1) hb) ?_
  intro x240 H240 p240
  obtain ⟨rfl, g1, g2⟩ := p240
  have hl1 := hl.tk g1 g2
  have lo1 := tkL hlo g2
  have hl2 := (hl1.cell (a := 91) (i := 8 + tNf T) (z := nI (kV s (n + 1))) (by decide) (by omega)).cell (a := 92) (i := 8 + tNf T) (z := nI (tNk T)) (by decide) (by omega)
  have lo2 := (lo1.pU (a := 91) (by decide) (show 8 ≤ 8 + tNf T by omega) (nI (kV s (n + 1)))).pU (a := 92) (by decide) (show 8 ≤ 8 + tNf T by omega) (nI (tNk T))
  have h91 : hI (sI (sI H240 91 (8 + tNf T) (nI (kV s (n + 1)))) 92 (8 + tNf T) (nI (tNk T))) 91 (8 + tNf T) = nI (kV s (n + 1)) := by rw [hI_sI, if_neg (by omega), hI_sI, if_pos ⟨rfl, rfl⟩]
  have h92 : hI (sI (sI H240 91 (8 + tNf T) (nI (kV s (n + 1)))) 92 (8 + tNf T) (nI (tNk T))) 92 (8 + tNf T) = nI (tNk T) := by rw [hI_sI, if_pos ⟨rfl, rfl⟩]
  have h20 : hI (sI (sI H240 91 (8 + tNf T) (nI (kV s (n + 1)))) 92 (8 + tNf T) (nI (tNk T))) 83 20 = nI ls := by rw [hI_sI, if_neg (by omega), hI_sI, if_neg (by omega)]; exact (tk20 g2).trans hls
  have h11 : hI (sI (sI H240 91 (8 + tNf T) (nI (kV s (n + 1)))) 92 (8 + tNf T) (nI (tNk T))) 85 11 = nI (tNf T) := by rw [hI_sI, if_neg (by omega), hI_sI, if_neg (by omega)]; exact (g2.1.I (by omega) 11).trans hl.mx.nf
  have hrx : RxP S (sI (sI H240 91 (8 + tNf T) (nI (kV s (n + 1)))) 92 (8 + tNf T) (nI (tNk T))) bt ln s (N, tLr T, tLn T) (rx0 (n + 2) T) := ⟨hl2.mt, by show MxU _ (lwT (tLr T) (tLn T) T) N; rw [show lwT (tLr T) (tLn T) T = T from lwT_id (fun _ => rfl) (fun _ => rfl)]; exact hl2.mx, hl2.f26, hl2.f30, hl2.f31⟩
  have hmq := (m_fm (N := (N, tLr T, tLn T)) (s := s) (bt := bt) (ln := ln) hF 8000 8000 (Nat.le_refl _)).1 (rx0 (n + 2) T) 200 (sI (sI H240 91 (8 + tNf T) (nI (kV s (n + 1)))) 92 (8 + tNf T) (nI (tNk T))) (by show 6 * (8 - 0) + (64 - tNk T) + 13 ≤ 200; omega) hrx ⟨hsz, h64, Nat.zero_le _, Nat.le_refl _⟩ (nj0 (fc := true) h64)
  refine xq_iastN dX11_line_243 (Fx.s91 hF) (by omega) (by decide) ?_
  refine xq_aload_n dX11_line_244 rfl rfl ?_
  refine xq_getF clX11 (by decide) rfl fl_RX11_34 dX11_line_245 (Fx.s83 hF) (Fx.r83_10 hF) ?_
  refine xq_iload_n dX11_line_248 rfl rfl ?_
  refine xq_aload_n dX11_line_249 rfl rfl ?_
  refine xq_bipush dX11_line_250 bp7 ?_
  refine xq_callV1P clX11 gd_X11_fresher dX11_line_252 ml_RX11_198 im_X11_fresher se_X11_fresher rfl (Fx.s83 hF) (by exact Nat.le_of_ble_eq_true rfl) (by omega) (m_fresher (w := 7) hF (by rw [hI_sI, if_neg (by omega)]; exact hl1.mx.nk) (by decide)) ?_
  refine xq_iastN dX11_line_255 (Fx.s92 hF) (by omega) (by decide) ?_
  refine xq_aload_n dX11_line_256 rfl rfl ?_
  refine xq_callV0N clX11 gd_X11_eithers dX11_line_257 ml_RX11_229 im_X11_eithers se_X11_eithers rfl (Fx.s83 hF) (by exact Nat.le_of_ble_eq_true rfl) (by omega) hmq ?_
  intro H257 p257
  rw [e] at p257
  obtain ⟨sk, ft⟩ := p257
  have hk2 := (sk.2.2.2.2 11 (by decide)).trans h11
  obtain ⟨v7, hv7⟩ := nI_sur (hI H257 85 16)
  rw [facR_f hfu hb hl.mt.ok hD hnz h64 e]
  refine xq_aload_n dX11_line_260 rfl rfl ?_
  refine xq_getF clX11 (by decide) rfl fl_RX11_37 dX11_line_261 (Fx.s83 hF) (Fx.r83_11 hF) ?_
  refine xq_iload_n dX11_line_264 rfl rfl ?_
  refine xq_aload_n dX11_line_265 rfl rfl ?_
  refine xq_bipush dX11_line_266 bp7 ?_
  refine xq_callV1P clX11 gd_X11_fresher dX11_line_268 ml_RX11_198 im_X11_fresher se_X11_fresher rfl (Fx.s83 hF) (by exact Nat.le_of_ble_eq_true rfl) (by omega) (m_fresher (w := 7) hF hv7 (by decide)) ?_
  refine xq_iastN dX11_line_271 (Fx.s93 hF) (by omega) (by decide) ?_
  refine xq_aload_n dX11_line_272 rfl rfl ?_
  refine xq_iconst dX11_line_273 ic2 ?_
  refine xq_aload_n dX11_line_274 rfl rfl ?_
  refine xq_iconst dX11_line_275 ic2 ?_
  refine xq_callV1P clX11 gd_X11_fresher dX11_line_276 ml_RX11_198 im_X11_fresher se_X11_fresher rfl (Fx.s83 hF) (by exact Nat.le_of_ble_eq_true rfl) (by omega) (m_fresher (w := 2) hF (by rw [hI_sI, if_neg (by omega)]; exact hk2) (by decide)) ?_
  refine xq_iconst dX11_line_279 ic1 ?_
  refine xq_iaddN dX11_line_280 ?_
  refine xq_callV2N clX11 gd_X11_reads dX11_line_281 ml_RX11_219 im_X11_reads se_X11_reads rfl (Fx.s83 hF) (by exact Nat.le_of_ble_eq_true rfl) (by omega) (m_reads (w := 2) hF (by decide)) ?_
  intro H281 p281
  subst p281
  refine xq_goto dX11_line_284 rfl ?_
  exact xq_fgt (L' := [some (.ref 83), none, none, none, none]) (line_tailF hF ((ft.pu (a := 93) (by decide)).pu (a := 85) (by decide)) (((lo2.tr sk.1).pU (a := 93) (by decide) (show 8 ≤ 8 + tNf T by omega) (nI v7)).pb (by decide))) (by exact And.intro rfl trivial)
theorem w_fact2 (hF : gFx S) (hK : 700 ≤ K) (hl : LiP S H1 bt ln s N (n + 1) T) (hti : TiP T) (hD : 701 ≤ D) (hnz : n + 2 ≤ kSz s) (hls : hI H1 83 20 = nI ls) (hlo : LoQ H H1) (hfu : ¬ 8 ≤ tNf T) (hb : freB s (n + 1) (tFn T) (tNf T) = true) (e : rd s 8000 0 (rx0 (n + 2) T) = .inr y) : Xq mX11_line K 0 0 96 [some (.ref 83), some (vN 3), none, none, none] [] S H1 (fun R => ∃ H2, (lQ S H H2 bt ln s (nfN N (tNf T) (tNk T)) ls (linT s (facR D s n T))) ∧ R = (none, S, H2)) := by
  have hsz := hti.sz
  obtain ⟨t1, t2, t3, t4, t5, t6, t7, t8, t9, t10, t11⟩ := hti
  have h64 := t4
  refine xq_iload_n dX11_line_96 rfl rfl ?_
  refine xq_tableIn dX11_line_97 (by decide) (by decide) rfl rfl ?_
  refine xq_bipush dX11_line_214 bp8 ?_
  refine xq_aload_n dX11_line_216 rfl rfl ?_
  refine xq_iconst dX11_line_217 ic2 ?_
  refine xq_callV1P clX11 gd_X11_fresher dX11_line_218 ml_RX11_198 im_X11_fresher se_X11_fresher rfl (Fx.s83 hF) (by exact Nat.le_of_ble_eq_true rfl) (by omega) (m_fresher (w := 2) hF hl.mx.nf (by decide)) ?_
  refine xq_iaddN dX11_line_221 ?_
  refine xq_istore_n dX11_line_222 rfl rfl ?_
  refine xq_aload_n dX11_line_223 rfl rfl ?_
  refine xq_getF clX11 (by decide) rfl fl_RX11_31 dX11_line_224 (Fx.s83 hF) (Fx.r83_9 hF) ?_
  refine xq_iload_n dX11_line_227 rfl rfl ?_
  refine xq_aload_n dX11_line_228 rfl rfl ?_
  refine xq_aload_n dX11_line_229 rfl rfl ?_
  refine xq_getF clX11 (by decide) rfl fl_RX11_31 dX11_line_230 (Fx.s83 hF) (Fx.r83_9 hF) ?_
  refine xq_bipush dX11_line_233 bp8 ?_
  refine xq_aload_n dX11_line_235 rfl rfl ?_
  refine xq_iconst dX11_line_236 ic2 ?_
  refine xq_callV1P clX11 gd_X11_fresher dX11_line_237 ml_RX11_198 im_X11_fresher se_X11_fresher rfl (Fx.s83 hF) (by exact Nat.le_of_ble_eq_true rfl) (by omega) (m_fresher (w := 2) hF hl.mx.nf (by decide)) ?_
  refine xq_callV3H clX11 gd_X11_fresh dX11_line_240 ml_RX11_212 im_X11_fresh se_X11_fresh rfl (Fx.s83 hF) (by exact Nat.le_of_ble_eq_true rfl) (by omega) (m_fresh1 hl.f26 hl.mt (Fx.s91 hF) (by decide) (by omega) (fun k hk => (hl.mx.fa k hk).1) hb) ?_
  intro x240 H240 p240
  obtain ⟨rfl, g1, g2⟩ := p240
  have hl1 := hl.tk g1 g2
  have lo1 := tkL hlo g2
  have hl2 := (hl1.cell (a := 91) (i := 8 + tNf T) (z := nI (kV s (n + 1))) (by decide) (by omega)).cell (a := 92) (i := 8 + tNf T) (z := nI (tNk T)) (by decide) (by omega)
  have lo2 := (lo1.pU (a := 91) (by decide) (show 8 ≤ 8 + tNf T by omega) (nI (kV s (n + 1)))).pU (a := 92) (by decide) (show 8 ≤ 8 + tNf T by omega) (nI (tNk T))
  have h91 : hI (sI (sI H240 91 (8 + tNf T) (nI (kV s (n + 1)))) 92 (8 + tNf T) (nI (tNk T))) 91 (8 + tNf T) = nI (kV s (n + 1)) := by rw [hI_sI, if_neg (by omega), hI_sI, if_pos ⟨rfl, rfl⟩]
  have h92 : hI (sI (sI H240 91 (8 + tNf T) (nI (kV s (n + 1)))) 92 (8 + tNf T) (nI (tNk T))) 92 (8 + tNf T) = nI (tNk T) := by rw [hI_sI, if_pos ⟨rfl, rfl⟩]
  have h20 : hI (sI (sI H240 91 (8 + tNf T) (nI (kV s (n + 1)))) 92 (8 + tNf T) (nI (tNk T))) 83 20 = nI ls := by rw [hI_sI, if_neg (by omega), hI_sI, if_neg (by omega)]; exact (tk20 g2).trans hls
  have h11 : hI (sI (sI H240 91 (8 + tNf T) (nI (kV s (n + 1)))) 92 (8 + tNf T) (nI (tNk T))) 85 11 = nI (tNf T) := by rw [hI_sI, if_neg (by omega), hI_sI, if_neg (by omega)]; exact (g2.1.I (by omega) 11).trans hl.mx.nf
  have hrx : RxP S (sI (sI H240 91 (8 + tNf T) (nI (kV s (n + 1)))) 92 (8 + tNf T) (nI (tNk T))) bt ln s (N, tLr T, tLn T) (rx0 (n + 2) T) := ⟨hl2.mt, by show MxU _ (lwT (tLr T) (tLn T) T) N; rw [show lwT (tLr T) (tLn T) T = T from lwT_id (fun _ => rfl) (fun _ => rfl)]; exact hl2.mx, hl2.f26, hl2.f30, hl2.f31⟩
  have hmq := (m_fm (N := (N, tLr T, tLn T)) (s := s) (bt := bt) (ln := ln) hF 8000 8000 (Nat.le_refl _)).1 (rx0 (n + 2) T) 200 (sI (sI H240 91 (8 + tNf T) (nI (kV s (n + 1)))) 92 (8 + tNf T) (nI (tNk T))) (by show 6 * (8 - 0) + (64 - tNk T) + 13 ≤ 200; omega) hrx ⟨hsz, h64, Nat.zero_le _, Nat.le_refl _⟩ (nj0 (fc := true) h64)
  refine xq_iastN dX11_line_243 (Fx.s91 hF) (by omega) (by decide) ?_
  refine xq_aload_n dX11_line_244 rfl rfl ?_
  refine xq_getF clX11 (by decide) rfl fl_RX11_34 dX11_line_245 (Fx.s83 hF) (Fx.r83_10 hF) ?_
  refine xq_iload_n dX11_line_248 rfl rfl ?_
  refine xq_aload_n dX11_line_249 rfl rfl ?_
  refine xq_bipush dX11_line_250 bp7 ?_
  refine xq_callV1P clX11 gd_X11_fresher dX11_line_252 ml_RX11_198 im_X11_fresher se_X11_fresher rfl (Fx.s83 hF) (by exact Nat.le_of_ble_eq_true rfl) (by omega) (m_fresher (w := 7) hF (by rw [hI_sI, if_neg (by omega)]; exact hl1.mx.nk) (by decide)) ?_
  refine xq_iastN dX11_line_255 (Fx.s92 hF) (by omega) (by decide) ?_
  refine xq_aload_n dX11_line_256 rfl rfl ?_
  refine xq_callV0N clX11 gd_X11_eithers dX11_line_257 ml_RX11_229 im_X11_eithers se_X11_eithers rfl (Fx.s83 hF) (by exact Nat.le_of_ble_eq_true rfl) (by omega) hmq ?_
  intro H257 p257
  rw [e] at p257
  obtain ⟨sk, hry⟩ := p257
  obtain ⟨y1, y2, y3, y4, y5, y6⟩ := rd_l0 (fc := true) h64 e
  have hl3 := hl2.of_rx sk hry (fun _ => rfl) (fun _ => rfl) y5 y2 y1
  have ynf := y5.nf
  have hl4 := hl3.cell (a := 93) (i := 8 + tNf T) (z := nI (tNk (rxX y))) (by decide) (by omega)
  have lo4 := (lo2.tr sk.1).pU (a := 93) (by decide) (show 8 ≤ 8 + tNf T by omega) (nI (tNk (rxX y)))
  have a91 : hI (sI H257 93 (8 + tNf T) (nI (tNk (rxX y)))) 91 (8 + tNf (rxX y)) = nI (kV s (n + 1)) := by rw [ynf, hI_sI, if_neg (by omega)]; exact (sk.2.2.2.1 _ _ (by decide) (by decide)).trans h91
  have a92 : hI (sI H257 93 (8 + tNf T) (nI (tNk (rxX y)))) 92 (8 + tNf (rxX y)) = nI (tNk T) := by rw [ynf, hI_sI, if_neg (by omega)]; exact (sk.2.2.2.1 _ _ (by decide) (by decide)).trans h92
  have a93 : hI (sI H257 93 (8 + tNf T) (nI (tNk (rxX y)))) 93 (8 + tNf (rxX y)) = nI (rtX y + 1) := by rw [ynf, hI_sI, if_pos ⟨rfl, rfl⟩, y6]
  have hb5 := hl4.mx.bFa (w := rxW y) (r := rtX y) a91 a92 a93
  have hl5 := hl4.bump (T2 := facT (rxX y) (kV s (n + 1)) (rtX y) (rxW y)) (by decide) hb5 rfl rfl rfl rfl rfl (fun p hp => rfl)
  rw [ynf] at hl5
  rw [facR_r hfu hb hl.mt.ok hD hnz h64 e]
  refine xq_aload_n dX11_line_260 rfl rfl ?_
  refine xq_getF clX11 (by decide) rfl fl_RX11_37 dX11_line_261 (Fx.s83 hF) (Fx.r83_11 hF) ?_
  refine xq_iload_n dX11_line_264 rfl rfl ?_
  refine xq_aload_n dX11_line_265 rfl rfl ?_
  refine xq_bipush dX11_line_266 bp7 ?_
  refine xq_callV1P clX11 gd_X11_fresher dX11_line_268 ml_RX11_198 im_X11_fresher se_X11_fresher rfl (Fx.s83 hF) (by exact Nat.le_of_ble_eq_true rfl) (by omega) (m_fresher (w := 7) hF hry.nk (by decide)) ?_
  refine xq_iastN dX11_line_271 (Fx.s93 hF) (by omega) (by decide) ?_
  refine xq_aload_n dX11_line_272 rfl rfl ?_
  refine xq_iconst dX11_line_273 ic2 ?_
  refine xq_aload_n dX11_line_274 rfl rfl ?_
  refine xq_iconst dX11_line_275 ic2 ?_
  refine xq_callV1P clX11 gd_X11_fresher dX11_line_276 ml_RX11_198 im_X11_fresher se_X11_fresher rfl (Fx.s83 hF) (by exact Nat.le_of_ble_eq_true rfl) (by omega) (m_fresher (w := 2) hF (by rw [hI_sI, if_neg (by omega)]; exact ((sk.2.2.2.2 11 (by decide)).trans h11)) (by decide)) ?_
  refine xq_iconst dX11_line_279 ic1 ?_
  refine xq_iaddN dX11_line_280 ?_
  refine xq_callV2N clX11 gd_X11_reads dX11_line_281 ml_RX11_219 im_X11_reads se_X11_reads rfl (Fx.s83 hF) (by exact Nat.le_of_ble_eq_true rfl) (by omega) (m_reads (w := 2) hF (by decide)) ?_
  intro H281 p281
  subst p281
  refine xq_goto dX11_line_284 rfl ?_
  exact xq_fgt (L' := [some (.ref 83), none, none, none, none]) (line_tail hF (by omega) (hl5) (by rw [hI_sI, if_neg (by omega), hI_sI, if_neg (by omega)]; exact sk.2.2.1.trans h20) (lo4.pb (by decide))) (by exact And.intro rfl trivial)
theorem w_fact (hF : gFx S) (hK : 700 ≤ K) (hl : LiP S H1 bt ln s N (n + 1) T) (hti : TiP T) (hD : 701 ≤ D) (hnz : n + 2 ≤ kSz s) (hls : hI H1 83 20 = nI ls) (hlo : LoQ H H1) (hfu : ¬ 8 ≤ tNf T) : Xq mX11_line K 0 0 96 [some (.ref 83), some (vN 3), none, none, none] [] S H1 (fun R => ∃ H2, (lQ S H H2 bt ln s (nfN N (tNf T) (tNk T)) ls (linT s (facR D s n T))) ∧ R = (none, S, H2)) := by
  cases hb : freB s (n + 1) (tFn T) (tNf T) with
  | false => exact w_fact0 hF hK hl hti hD hnz hls hlo hfu hb
  | true =>
    cases e : rd s 8000 0 (rx0 (n + 2) T) with
    | inl z => obtain ⟨c, m⟩ := z; exact w_fact1 hF hK hl hti hD hnz hls hlo hfu hb e
    | inr y => exact w_fact2 hF hK hl hti hD hnz hls hlo hfu hb e
def lu1 (T : uTx) (l : Nat) : Nat → Nat := fun j => if j = l then 4294967295 else tLr T j
def lv1 (T : uTx) (l : Nat) : Nat → Int64 := fun j => if j = l then 1 else tLn T j
theorem lu1_l : lu1 T l l = 4294967295 := if_pos rfl
theorem lv1_l : lv1 T l l = 1 := if_pos rfl
theorem lu1_n (h : j ≠ l) : lu1 T l j = tLr T j := if_neg h
theorem lv1_n (h : j ≠ l) : lv1 T l j = tLn T j := if_neg h
theorem nI_wrap : nI (4294967295 + 1) = nI 0 := by decide
theorem one_ne0 : (1 : Int64) ≠ 0 := by decide
theorem MxU.law1 (h : MxU H T N) (hl : l < 2) (h0 : tLn T l = 0) : MxU (sI H 97 (2 + l) (nI v)) (lwT (lu1 T l) (lv1 T l) T) (nlN N l v) := by
  have e : ∀ q j, ¬ (q = 97 ∧ j = 2 + l) → hI (sI H 97 (2 + l) (nI v)) q j = hI H q j := fun q j hn => by rw [hI_sI, if_neg hn]
  refine ⟨(e _ _ (by omega)).trans h.nc, (e _ _ (by omega)).trans h.np, (e _ _ (by omega)).trans h.nf, (e _ _ (by omega)).trans h.nt, (e _ _ (by omega)).trans h.na, (e _ _ (by omega)).trans h.sh, (e _ _ (by omega)).trans h.sd, (e _ _ (by omega)).trans h.nk, fun k hk => ⟨(e _ _ (by omega)).trans (h.co k hk).1, (e _ _ (by omega)).trans (h.co k hk).2⟩, fun k hk => ⟨(e _ _ (by omega)).trans (h.pe k hk).1, (e _ _ (by omega)).trans (h.pe k hk).2.1, (e _ _ (by omega)).trans (h.pe k hk).2.2⟩, fun k hk => ⟨(e _ _ (by omega)).trans (h.fa k hk).1, (e _ _ (by omega)).trans (h.fa k hk).2.1, (e _ _ (by omega)).trans (h.fa k hk).2.2⟩, fun k hk => ⟨(e _ _ (by omega)).trans (h.te k hk).1, (e _ _ (by omega)).trans (h.te k hk).2⟩, fun k hk => (e _ _ (by omega)).trans (h.as k hk), fun j hj => ?_, fun k hk => ⟨(e _ _ (by omega)).trans (h.kn k hk).1, (e _ _ (by omega)).trans (h.kn k hk).2⟩⟩
  show _ = nI (if lv1 T l j = 0 then 0 else nlN N l v 1 j) ∧ _ = nI (if lv1 T l j = 0 then 0 else lu1 T l j + 1)
  have hj := h.lw j hj
  by_cases ej : j = l
  · subst ej
    rw [lv1_l, lu1_l, if_neg one_ne0, if_neg one_ne0, nlN_1, if_pos rfl, hI_sI, if_pos ⟨rfl, rfl⟩, e _ _ (by omega), hj.2, if_pos h0]
    exact ⟨rfl, nI_wrap.symm⟩
  · rw [lv1_n ej, lu1_n ej, nlN_1, if_neg ej, e _ _ (by omega), e _ _ (by omega)]
    exact hj
theorem MxU.law2 (h : MxU H (lwT (lu1 T l) (lv1 T l) T2) N) (hs : SmT T T2) (hw : wl ≠ 0) : MxU (sI H 98 (2 + l) (nI (r + 1))) (lawT T2 l r wl) N := by
  have e : ∀ q j, ¬ (q = 98 ∧ j = 2 + l) → hI (sI H 98 (2 + l) (nI (r + 1))) q j = hI H q j := fun q j hn => by rw [hI_sI, if_neg hn]
  refine ⟨(e _ _ (by omega)).trans h.nc, (e _ _ (by omega)).trans h.np, (e _ _ (by omega)).trans h.nf, (e _ _ (by omega)).trans h.nt, (e _ _ (by omega)).trans h.na, (e _ _ (by omega)).trans h.sh, (e _ _ (by omega)).trans h.sd, (e _ _ (by omega)).trans h.nk, fun k hk => ⟨(e _ _ (by omega)).trans (h.co k hk).1, (e _ _ (by omega)).trans (h.co k hk).2⟩, fun k hk => ⟨(e _ _ (by omega)).trans (h.pe k hk).1, (e _ _ (by omega)).trans (h.pe k hk).2.1, (e _ _ (by omega)).trans (h.pe k hk).2.2⟩, fun k hk => ⟨(e _ _ (by omega)).trans (h.fa k hk).1, (e _ _ (by omega)).trans (h.fa k hk).2.1, (e _ _ (by omega)).trans (h.fa k hk).2.2⟩, fun k hk => ⟨(e _ _ (by omega)).trans (h.te k hk).1, (e _ _ (by omega)).trans (h.te k hk).2⟩, fun k hk => (e _ _ (by omega)).trans (h.as k hk), fun j hj => ?_, fun k hk => ⟨(e _ _ (by omega)).trans (h.kn k hk).1, (e _ _ (by omega)).trans (h.kn k hk).2⟩⟩
  have hj : _ = nI (if lv1 T l j = 0 then 0 else N 1 j) ∧ _ = nI (if lv1 T l j = 0 then 0 else lu1 T l j + 1) := h.lw j hj
  rw [lawT_l, lawT_r, e _ _ (by omega)]
  by_cases ej : j = l
  · rw [if_pos ej, if_pos ej, if_neg hw, if_neg hw, hj.1, ej, lv1_l, if_neg one_ne0, hI_sI, if_pos ⟨rfl, rfl⟩]
    exact ⟨rfl, rfl⟩
  · rw [if_neg ej, if_neg ej, e _ _ (by omega)]
    rw [lv1_n ej, lu1_n ej] at hj
    rw [hs.lnn, hs.lr]
    exact hj
theorem MsV_wk {so va : Int32} {K V : Nat} (h : MsV so va K V) (hs : so = 0) (hw : w < 28) (hv : va = nI w) (hK : K ≤ 44) : K = w := by
  obtain ⟨hK2, hva⟩ := MsV_w h hK hs
  have := (nq_eq (by omega) (by omega)).mp (hva.symm.trans hv)
  exact this
theorem lw_k {so va : Int32} {K V : Nat} (h : MsV so va K V) (hk : K ≤ 44) (hw : w < 28) (hs : so = 0) (hv : va = nI w) : K = w := by
  exact MsV_wk h hs hw hv hk
theorem m_law_a (hF : gFx S) (hl : LiP S H bt ln s N (n + 1) T) (hti : TiP T) (hD : 701 ≤ D) (hw : kK s (n + 1) ≠ 9 ∧ kK s (n + 1) ≠ 10) : Nv mX11_lawLine 701 [.ref 83] S H (fun H2 => wQ S H H2 bt ln s (nlN N (kK s (n + 1) - 9) (tNk T)) (lawR D s n T)) := by
  have e : lawR D s n T = .inl (1, n + 1) := if_pos hw
  rw [e]

  refine vq_intro (by decide) (by exact Nat.le_of_ble_eq_true rfl) rfl ?_
  refine xq_aload_n dX11_lawLine_0 rfl rfl ?_
  refine xq_getI clX11 (by decide) rfl fl_RX11_147 dX11_lawLine_1 (Fx.s83 hF) ?_
  refine xq_if_ne dX11_lawLine_4 rfl ⟨fun h4 => ?_, fun h4 => ?_⟩
  · skip
    refine xq_aload_n dX11_lawLine_25 rfl rfl ?_
    refine xq_iconst dX11_lawLine_26 ic1 ?_
    refine xq_callV1N clX11 gd_X11_wrong dX11_lawLine_27 ml_RX11_191 im_X11_wrong se_X11_wrong rfl (Fx.s83 hF) (by exact Nat.le_of_ble_eq_true rfl) (by omega) (m_wrong0 hF hl.f26 hl.mt.pl) ?_
    intro H27 p27
    subst p27
    have mf := wr_mf (c := 1) hl.mt
    have ft := hl.ft mf (by decide) (by decide)
    refine xq_aload_n dX11_lawLine_30 rfl rfl ?_
    refine xq_getI clX11 (by decide) rfl fl_RX11_157 dX11_lawLine_31 (Fx.s83 hF) ?_
    refine xq_bipush dX11_lawLine_34 bp9 ?_
    refine xq_isub dX11_lawLine_36 ?_
    refine xq_istore_n dX11_lawLine_37 rfl rfl ?_
    refine xq_aload_n dX11_lawLine_38 rfl rfl ?_
    refine xq_getIE (v := nI 1) clX11 (by decide) rfl fl_RX11_182 dX11_lawLine_39 (Fx.s83 hF) ft.1 ?_
    refine xq_if_neN dX11_lawLine_42 rfl (by omega) ⟨fun h42 => ?_, fun h42 => ?_⟩
    · skip
      refine xq_aload_n dX11_lawLine_65 rfl rfl ?_
      refine xq_getIE (v := nI 1) clX11 (by decide) rfl fl_RX11_182 dX11_lawLine_66 (Fx.s83 hF) ft.1 ?_
      refine xq_if_eqN dX11_lawLine_69 rfl (by omega) ⟨fun h69 => ?_, fun h69 => ?_⟩
      · skip
        exact absurd h69 (by decide)
      · skip
        refine xq_vret dX11_lawLine_72 rfl ?_
        exact ⟨_, ⟨mfL LoQ.rf mf, ft⟩, rfl⟩
    · skip
      exact absurd h42 (by decide)
  · skip
    refine xq_aload_n dX11_lawLine_7 rfl rfl ?_
    refine xq_getI clX11 (by decide) rfl fl_RX11_157 dX11_lawLine_8 (Fx.s83 hF) ?_
    refine xq_bipush dX11_lawLine_11 bp9 ?_
    refine xq_icmp_eq dX11_lawLine_13 rfl ⟨fun h13 => ?_, fun h13 => ?_⟩
    · skip
      exact absurd (lw_k hl.mt.ms (kK_le hl.mt.ok) (by decide) h4 h13) hw.1
    · skip
      refine xq_aload_n dX11_lawLine_16 rfl rfl ?_
      refine xq_getI clX11 (by decide) rfl fl_RX11_157 dX11_lawLine_17 (Fx.s83 hF) ?_
      refine xq_bipush dX11_lawLine_20 bp10 ?_
      refine xq_icmp_eq dX11_lawLine_22 rfl ⟨fun h22 => ?_, fun h22 => ?_⟩
      · skip
        exact absurd (lw_k hl.mt.ms (kK_le hl.mt.ok) (by decide) h4 h22) hw.2
      · skip
        refine xq_aload_n dX11_lawLine_25 rfl rfl ?_
        refine xq_iconst dX11_lawLine_26 ic1 ?_
        refine xq_callV1N clX11 gd_X11_wrong dX11_lawLine_27 ml_RX11_191 im_X11_wrong se_X11_wrong rfl (Fx.s83 hF) (by exact Nat.le_of_ble_eq_true rfl) (by omega) (m_wrong0 hF hl.f26 hl.mt.pl) ?_
        intro H27 p27
        subst p27
        have mf := wr_mf (c := 1) hl.mt
        have ft := hl.ft mf (by decide) (by decide)
        refine xq_aload_n dX11_lawLine_30 rfl rfl ?_
        refine xq_getI clX11 (by decide) rfl fl_RX11_157 dX11_lawLine_31 (Fx.s83 hF) ?_
        refine xq_bipush dX11_lawLine_34 bp9 ?_
        refine xq_isub dX11_lawLine_36 ?_
        refine xq_istore_n dX11_lawLine_37 rfl rfl ?_
        refine xq_aload_n dX11_lawLine_38 rfl rfl ?_
        refine xq_getIE (v := nI 1) clX11 (by decide) rfl fl_RX11_182 dX11_lawLine_39 (Fx.s83 hF) ft.1 ?_
        refine xq_if_neN dX11_lawLine_42 rfl (by omega) ⟨fun h42 => ?_, fun h42 => ?_⟩
        · skip
          refine xq_aload_n dX11_lawLine_65 rfl rfl ?_
          refine xq_getIE (v := nI 1) clX11 (by decide) rfl fl_RX11_182 dX11_lawLine_66 (Fx.s83 hF) ft.1 ?_
          refine xq_if_eqN dX11_lawLine_69 rfl (by omega) ⟨fun h69 => ?_, fun h69 => ?_⟩
          · skip
            exact absurd h69 (by decide)
          · skip
            refine xq_vret dX11_lawLine_72 rfl ?_
            exact ⟨_, ⟨mfL LoQ.rf mf, ft⟩, rfl⟩
        · skip
          exact absurd h42 (by decide)
theorem m_law_b (hF : gFx S) (hl : LiP S H bt ln s N (n + 1) T) (hti : TiP T) (hD : 701 ≤ D) (hw : kK s (n + 1) = 9 + l) (hl2 : l < 2) (ht : tLn T l ≠ 0) : Nv mX11_lawLine 701 [.ref 83] S H (fun H2 => wQ S H H2 bt ln s (nlN N l (tNk T)) (lawR D s n T)) := by
  have hsz := hti.sz
  have hti2 := hti
  obtain ⟨t1, t2, t3, t4, t5, t6, t7, t8, t9, t10, t11⟩ := hti2
  have h64 := t4
  have hms := hl.mt.ms.1 (show kK s (n + 1) < 28 by omega)
  have hmv : hI H 83 25 = nI (9 + l) := hms.2.trans (by rw [hw])
  obtain ⟨v, b1, b2, b3, b4, b5, b6⟩ := hl.tol
  have hsv := and1_le (v >>> (16 + l))
  have hbl : v.testBit (16 + l) = decide (tLn T l ≠ 0) := by
    rcases (show l = 0 ∨ l = 1 by omega) with e | e <;> rw [e] <;> assumption
  have e : lawR D s n T = .inl (3, n + 1) := (if_neg (by omega)).trans (if_pos (by rw [hw, show 9 + l - 9 = l by omega]; exact ht))
  rw [e]
  rw [decide_eq_true ht] at hbl

  refine vq_intro (by decide) (by exact Nat.le_of_ble_eq_true rfl) rfl ?_
  refine xq_aload_n dX11_lawLine_0 rfl rfl ?_
  refine xq_getIE (v := nI 0) clX11 (by decide) rfl fl_RX11_147 dX11_lawLine_1 (Fx.s83 hF) hms.1 ?_
  refine xq_if_neN dX11_lawLine_4 rfl (by omega) ⟨fun h4 => ?_, fun h4 => ?_⟩
  · skip
    first | exact absurd h4 (by decide) | exact absurd rfl h4
  · skip
    refine xq_aload_n dX11_lawLine_7 rfl rfl ?_
    refine xq_getIE (v := nI (9 + l)) clX11 (by decide) rfl fl_RX11_157 dX11_lawLine_8 (Fx.s83 hF) hmv ?_
    refine xq_bipush dX11_lawLine_11 bp9 ?_
    refine xq_icmp_eqN dX11_lawLine_13 rfl (by omega) (by omega) ⟨fun h13 => ?_, fun h13 => ?_⟩
    · skip
      refine xq_aload_n dX11_lawLine_30 rfl rfl ?_
      refine xq_getIE (v := nI (9 + l)) clX11 (by decide) rfl fl_RX11_157 dX11_lawLine_31 (Fx.s83 hF) hmv ?_
      refine xq_bipush dX11_lawLine_34 bp9 ?_
      refine xq_isubN dX11_lawLine_36 (by omega) ?_
      refine xq_istore_n dX11_lawLine_37 rfl rfl ?_
      refine xq_aload_n dX11_lawLine_38 rfl rfl ?_
      refine xq_getIE (v := nI 0) clX11 (by decide) rfl fl_RX11_182 dX11_lawLine_39 (Fx.s83 hF) hl.f26 ?_
      refine xq_if_neN dX11_lawLine_42 rfl (by omega) ⟨fun h42 => ?_, fun h42 => ?_⟩
      · skip
        exact absurd rfl h42
      · skip
        refine xq_aload_n dX11_lawLine_45 rfl rfl ?_
        refine xq_getIE (v := nI v) clX11 (by decide) rfl fl_RX11_209 dX11_lawLine_46 (Fx.s83 hF) b1 ?_
        refine xq_bipush dX11_lawLine_49 bp16 ?_
        refine xq_iload_n dX11_lawLine_51 rfl rfl ?_
        refine xq_iaddN dX11_lawLine_52 ?_
        rw [show 9 + l - 9 = l by omega]
        refine xq_ishrN dX11_lawLine_53 (by omega) (by omega) ?_
        refine xq_iconst dX11_lawLine_54 ic1 ?_
        refine xq_iandN dX11_lawLine_55 ?_
        refine xq_iconst dX11_lawLine_56 ic1 ?_
        refine xq_icmp_neN dX11_lawLine_57 rfl (by omega) (by omega) ⟨fun h57 => ?_, fun h57 => ?_⟩
        · skip
          exact absurd ((tb_shr1 v (16 + l)).mpr hbl) h57
        · skip
          refine xq_aload_n dX11_lawLine_60 rfl rfl ?_
          refine xq_iconst dX11_lawLine_61 ic3 ?_
          refine xq_callV1N clX11 gd_X11_wrong dX11_lawLine_62 ml_RX11_191 im_X11_wrong se_X11_wrong rfl (Fx.s83 hF) (by exact Nat.le_of_ble_eq_true rfl) (by omega) (m_wrong0 hF hl.f26 hl.mt.pl) ?_
          intro H62 p62
          subst p62
          have mf := wr_mf (c := 3) hl.mt
          have ft := hl.ft mf (by decide) (by decide)
          refine xq_aload_n dX11_lawLine_65 rfl rfl ?_
          refine xq_getIE (v := nI 3) clX11 (by decide) rfl fl_RX11_182 dX11_lawLine_66 (Fx.s83 hF) ft.1 ?_
          refine xq_if_eqN dX11_lawLine_69 rfl (by omega) ⟨fun h69 => ?_, fun h69 => ?_⟩
          · skip
            exact absurd h69 (by decide)
          · skip
            refine xq_vret dX11_lawLine_72 rfl ?_
            exact ⟨_, ⟨mfL LoQ.rf mf, ft⟩, rfl⟩
    · skip
      refine xq_aload_n dX11_lawLine_16 rfl rfl ?_
      refine xq_getIE (v := nI (9 + l)) clX11 (by decide) rfl fl_RX11_157 dX11_lawLine_17 (Fx.s83 hF) hmv ?_
      refine xq_bipush dX11_lawLine_20 bp10 ?_
      refine xq_icmp_eqN dX11_lawLine_22 rfl (by omega) (by omega) ⟨fun h22 => ?_, fun h22 => ?_⟩
      · skip
        refine xq_aload_n dX11_lawLine_30 rfl rfl ?_
        refine xq_getIE (v := nI (9 + l)) clX11 (by decide) rfl fl_RX11_157 dX11_lawLine_31 (Fx.s83 hF) hmv ?_
        refine xq_bipush dX11_lawLine_34 bp9 ?_
        refine xq_isubN dX11_lawLine_36 (by omega) ?_
        refine xq_istore_n dX11_lawLine_37 rfl rfl ?_
        refine xq_aload_n dX11_lawLine_38 rfl rfl ?_
        refine xq_getIE (v := nI 0) clX11 (by decide) rfl fl_RX11_182 dX11_lawLine_39 (Fx.s83 hF) hl.f26 ?_
        refine xq_if_neN dX11_lawLine_42 rfl (by omega) ⟨fun h42 => ?_, fun h42 => ?_⟩
        · skip
          exact absurd rfl h42
        · skip
          refine xq_aload_n dX11_lawLine_45 rfl rfl ?_
          refine xq_getIE (v := nI v) clX11 (by decide) rfl fl_RX11_209 dX11_lawLine_46 (Fx.s83 hF) b1 ?_
          refine xq_bipush dX11_lawLine_49 bp16 ?_
          refine xq_iload_n dX11_lawLine_51 rfl rfl ?_
          refine xq_iaddN dX11_lawLine_52 ?_
          rw [show 9 + l - 9 = l by omega]
          refine xq_ishrN dX11_lawLine_53 (by omega) (by omega) ?_
          refine xq_iconst dX11_lawLine_54 ic1 ?_
          refine xq_iandN dX11_lawLine_55 ?_
          refine xq_iconst dX11_lawLine_56 ic1 ?_
          refine xq_icmp_neN dX11_lawLine_57 rfl (by omega) (by omega) ⟨fun h57 => ?_, fun h57 => ?_⟩
          · skip
            exact absurd ((tb_shr1 v (16 + l)).mpr hbl) h57
          · skip
            refine xq_aload_n dX11_lawLine_60 rfl rfl ?_
            refine xq_iconst dX11_lawLine_61 ic3 ?_
            refine xq_callV1N clX11 gd_X11_wrong dX11_lawLine_62 ml_RX11_191 im_X11_wrong se_X11_wrong rfl (Fx.s83 hF) (by exact Nat.le_of_ble_eq_true rfl) (by omega) (m_wrong0 hF hl.f26 hl.mt.pl) ?_
            intro H62 p62
            subst p62
            have mf := wr_mf (c := 3) hl.mt
            have ft := hl.ft mf (by decide) (by decide)
            refine xq_aload_n dX11_lawLine_65 rfl rfl ?_
            refine xq_getIE (v := nI 3) clX11 (by decide) rfl fl_RX11_182 dX11_lawLine_66 (Fx.s83 hF) ft.1 ?_
            refine xq_if_eqN dX11_lawLine_69 rfl (by omega) ⟨fun h69 => ?_, fun h69 => ?_⟩
            · skip
              exact absurd h69 (by decide)
            · skip
              refine xq_vret dX11_lawLine_72 rfl ?_
              exact ⟨_, ⟨mfL LoQ.rf mf, ft⟩, rfl⟩
      · skip
        exact absurd h22 (by omega)
theorem m_law_c (hF : gFx S) (hl : LiP S H bt ln s N (n + 1) T) (hti : TiP T) (hD : 701 ≤ D) (hw : kK s (n + 1) = 9 + l) (hl2 : l < 2) (ht : tLn T l = 0) (e : rd s 8000 6 (rx0 (n + 2) T) = .inl (c, m)) : Nv mX11_lawLine 701 [.ref 83] S H (fun H2 => wQ S H H2 bt ln s (nlN N l (tNk T)) (lawR D s n T)) := by
  have hsz := hti.sz
  have hti2 := hti
  obtain ⟨t1, t2, t3, t4, t5, t6, t7, t8, t9, t10, t11⟩ := hti2
  have h64 := t4
  have hms := hl.mt.ms.1 (show kK s (n + 1) < 28 by omega)
  have hmv : hI H 83 25 = nI (9 + l) := hms.2.trans (by rw [hw])
  obtain ⟨v, b1, b2, b3, b4, b5, b6⟩ := hl.tol
  have hsv := and1_le (v >>> (16 + l))
  have hbl : v.testBit (16 + l) = decide (tLn T l ≠ 0) := by
    rcases (show l = 0 ∨ l = 1 by omega) with e | e <;> rw [e] <;> assumption
  have hnz : n + 2 ≤ kSz s := by have := hl.mt.js; omega
  rw [decide_eq_false (fun z => z ht)] at hbl

  refine vq_intro (by decide) (by exact Nat.le_of_ble_eq_true rfl) rfl ?_
  refine xq_aload_n dX11_lawLine_0 rfl rfl ?_
  refine xq_getIE (v := nI 0) clX11 (by decide) rfl fl_RX11_147 dX11_lawLine_1 (Fx.s83 hF) hms.1 ?_
  refine xq_if_neN dX11_lawLine_4 rfl (by omega) ⟨fun h4 => ?_, fun h4 => ?_⟩
  · skip
    first | exact absurd h4 (by decide) | exact absurd rfl h4
  · skip
    refine xq_aload_n dX11_lawLine_7 rfl rfl ?_
    refine xq_getIE (v := nI (9 + l)) clX11 (by decide) rfl fl_RX11_157 dX11_lawLine_8 (Fx.s83 hF) hmv ?_
    refine xq_bipush dX11_lawLine_11 bp9 ?_
    refine xq_icmp_eqN dX11_lawLine_13 rfl (by omega) (by omega) ⟨fun h13 => ?_, fun h13 => ?_⟩
    · skip
      refine xq_aload_n dX11_lawLine_30 rfl rfl ?_
      refine xq_getIE (v := nI (9 + l)) clX11 (by decide) rfl fl_RX11_157 dX11_lawLine_31 (Fx.s83 hF) hmv ?_
      refine xq_bipush dX11_lawLine_34 bp9 ?_
      refine xq_isubN dX11_lawLine_36 (by omega) ?_
      refine xq_istore_n dX11_lawLine_37 rfl rfl ?_
      refine xq_aload_n dX11_lawLine_38 rfl rfl ?_
      refine xq_getIE (v := nI 0) clX11 (by decide) rfl fl_RX11_182 dX11_lawLine_39 (Fx.s83 hF) hl.f26 ?_
      refine xq_if_neN dX11_lawLine_42 rfl (by omega) ⟨fun h42 => ?_, fun h42 => ?_⟩
      · skip
        exact absurd rfl h42
      · skip
        refine xq_aload_n dX11_lawLine_45 rfl rfl ?_
        refine xq_getIE (v := nI v) clX11 (by decide) rfl fl_RX11_209 dX11_lawLine_46 (Fx.s83 hF) b1 ?_
        refine xq_bipush dX11_lawLine_49 bp16 ?_
        refine xq_iload_n dX11_lawLine_51 rfl rfl ?_
        refine xq_iaddN dX11_lawLine_52 ?_
        rw [show 9 + l - 9 = l by omega]
        refine xq_ishrN dX11_lawLine_53 (by omega) (by omega) ?_
        refine xq_iconst dX11_lawLine_54 ic1 ?_
        refine xq_iandN dX11_lawLine_55 ?_
        refine xq_iconst dX11_lawLine_56 ic1 ?_
        refine xq_icmp_neN dX11_lawLine_57 rfl (by omega) (by omega) ⟨fun h57 => ?_, fun h57 => ?_⟩
        · skip
          refine xq_aload_n dX11_lawLine_65 rfl rfl ?_
          refine xq_getIE (v := nI 0) clX11 (by decide) rfl fl_RX11_182 dX11_lawLine_66 (Fx.s83 hF) hl.f26 ?_
          refine xq_if_eqN dX11_lawLine_69 rfl (by omega) ⟨fun h69 => ?_, fun h69 => ?_⟩
          · skip
            refine xq_aload_n dX11_lawLine_73 rfl rfl ?_
            refine xq_dup dX11_lawLine_74 rfl ?_
            refine xq_getIE (v := nI v) clX11 (by decide) rfl fl_RX11_209 dX11_lawLine_75 (Fx.s83 hF) b1 ?_
            refine xq_iconst dX11_lawLine_78 ic1 ?_
            refine xq_bipush dX11_lawLine_79 bp16 ?_
            refine xq_iload_n dX11_lawLine_81 rfl rfl ?_
            refine xq_iaddN dX11_lawLine_82 ?_
            refine xq_ishlN dX11_lawLine_83 (by omega) ?_
            refine xq_iorN dX11_lawLine_84 ?_
            refine xq_putI clX11 (by decide) rfl fl_RX11_209 (Or.inl rfl) dX11_lawLine_85 ⟨rfl, rfl⟩ (Fx.s83 hF) ?_
            refine xq_aload_n dX11_lawLine_88 rfl rfl ?_
            refine xq_callV0N clX11 gd_X11_token dX11_lawLine_89 ml_RX11_188 im_X11_token se_X11_token rfl (Fx.s83 hF) (by exact Nat.le_of_ble_eq_true rfl) (by omega) (m_tok (hl.mt.off (A := fun q => q = 83) (F := fun k => k = 19) (MoF.pF (A := fun q => q = 83) (F := fun k => k = 19) (k := 19) MoF.rf rfl rfl (nI (v ||| 1 <<< (16 + l)))) (by decide) (fun k h1 h2 z => by omega)) (kK_in (show kK s (n + 1) ≠ 44 by omega) hl.mt.lx)) ?_
            intro H89 p89
            obtain ⟨g1, g2⟩ := p89
            have h19 : hI H89 83 19 = nI (v ||| 1 <<< (16 + l)) := (g2.2 19 (by decide)).trans (by rw [hI_sI, if_pos ⟨rfl, rfl⟩])
            have mo1 : MoF (fun q => q = 83) (fun k => k = 19 ∨ (22 ≤ k ∧ k ≤ 25)) H H89 := (MoF.pF (A := fun q => q = 83) (F := fun k => k = 19 ∨ (22 ≤ k ∧ k ≤ 25)) (k := 19) MoF.rf rfl (Or.inl rfl) (nI (v ||| 1 <<< (16 + l)))).tr (g2.mo (fun q h => h) (fun k h => by omega))
            have hmx1 : MxU H89 T N := hl.mx.off mo1.1 (fun q h1 h2 z => by omega)
            have lo1 : LoQ H H89 := LoQ.of mo1 (fun k hk => by omega)
            have hk7 : hI H89 85 16 = nI (tNk T) := hmx1.nk
            have hf26 : hI H89 83 26 = nI 0 := (mo1.2 26 (by omega)).trans hl.f26
            have hf30 : hI H89 83 30 = nI 0 := (mo1.2 30 (by omega)).trans hl.f30
            have hf31 : hI H89 83 31 = nI (tNk T) := (mo1.2 31 (by omega)).trans hl.f31
            have hf20 : hI H89 83 20 = hI H 83 20 := mo1.2 20 (by omega)
            obtain ⟨v2, c1, c2, c3⟩ := hl.srs
            have hf17 : hI H89 85 17 = nI v2 := (mo1.1.I (by omega) 17).trans c1
            have lo2 := lo1.pU (a := 97) (by decide) (show 2 ≤ 2 + l by omega) (nI (tNk T))
            have hmt2 : MtP S (sI H89 97 (2 + l) (nI (tNk T))) bt ln s (n + 2) := g1.off (A := fun q => q = 97) (F := fun k => False) ⟨Off.pI (A := fun q => q = 97) Off.rf rfl _ _, fun k _ => by rw [hI_sI, if_neg (by omega)]⟩ (by decide) (fun k h1 h2 z => z)
            have hrx : RxP S (sI H89 97 (2 + l) (nI (tNk T))) bt ln s (nlN N l (tNk T), lu1 T l, lv1 T l) (rx0 (n + 2) T) := ⟨hmt2, hmx1.law1 hl2 ht, by rw [hI_sI, if_neg (by omega)]; exact hf26, by rw [hI_sI, if_neg (by omega)]; exact hf30, by rw [hI_sI, if_neg (by omega)]; exact hf31⟩
            have hmq := (m_fm (N := (nlN N l (tNk T), lu1 T l, lv1 T l)) (s := s) (bt := bt) (ln := ln) hF 8000 8000 (Nat.le_refl _)).2.2.2.2.1 (rx0 (n + 2) T) 200 (sI H89 97 (2 + l) (nI (tNk T))) (by show 6 * (8 - 0) + (64 - tNk T) + 15 ≤ 200; omega) hrx ⟨hsz, h64, Nat.zero_le _, Nat.le_refl _⟩ (nj0 (fc := false) h64)
            refine xq_aload_n dX11_lawLine_92 rfl rfl ?_
            refine xq_getF clX11 (by decide) rfl fl_RX11_49 dX11_lawLine_93 (Fx.s83 hF) (Fx.r83_15 hF) ?_
            refine xq_iconst dX11_lawLine_96 ic2 ?_
            refine xq_iload_n dX11_lawLine_97 rfl rfl ?_
            refine xq_iaddN dX11_lawLine_98 ?_
            refine xq_aload_n dX11_lawLine_99 rfl rfl ?_
            refine xq_bipush dX11_lawLine_100 bp7 ?_
            refine xq_callV1P clX11 gd_X11_fresher dX11_lawLine_102 ml_RX11_198 im_X11_fresher se_X11_fresher rfl (Fx.s83 hF) (by exact Nat.le_of_ble_eq_true rfl) (by omega) (m_fresher (w := 7) hF hk7 (by decide)) ?_
            refine xq_iastN dX11_lawLine_105 (Fx.s97 hF) (by omega) (by decide) ?_
            refine xq_aload_n dX11_lawLine_106 rfl rfl ?_
            refine xq_callV0N clX11 gd_X11_expression dX11_lawLine_107 ml_RX11_253 im_X11_expression se_X11_expression rfl (Fx.s83 hF) (by exact Nat.le_of_ble_eq_true rfl) (by omega) hmq ?_
            intro H107 p107
            rw [e] at p107
            obtain ⟨sk, ft⟩ := p107
            obtain ⟨v7, hv7⟩ := nI_sur (hI H107 85 16)
            rw [lawR_f hw hl2 ht hl.mt.ok hD hnz h64 e]
            refine xq_aload_n dX11_lawLine_110 rfl rfl ?_
            refine xq_getF clX11 (by decide) rfl fl_RX11_52 dX11_lawLine_111 (Fx.s83 hF) (Fx.r83_16 hF) ?_
            refine xq_iconst dX11_lawLine_114 ic2 ?_
            refine xq_iload_n dX11_lawLine_115 rfl rfl ?_
            refine xq_iaddN dX11_lawLine_116 ?_
            refine xq_aload_n dX11_lawLine_117 rfl rfl ?_
            refine xq_bipush dX11_lawLine_118 bp7 ?_
            refine xq_callV1P clX11 gd_X11_fresher dX11_lawLine_120 ml_RX11_198 im_X11_fresher se_X11_fresher rfl (Fx.s83 hF) (by exact Nat.le_of_ble_eq_true rfl) (by omega) (m_fresher (w := 7) hF hv7 (by decide)) ?_
            refine xq_iastN dX11_lawLine_123 (Fx.s98 hF) (by omega) (by decide) ?_
            refine xq_vret dX11_lawLine_124 rfl ?_
            exact ⟨_, ⟨(lo2.tr sk.1).pU (a := 98) (by decide) (show 2 ≤ 2 + l by omega) _, ft.pu (a := 98) (by decide)⟩, rfl⟩
          · skip
            exact absurd rfl h69
        · skip
          exact absurd ((tb_shr1 v (16 + l)).mp h57) (by rw [hbl]; decide)
    · skip
      refine xq_aload_n dX11_lawLine_16 rfl rfl ?_
      refine xq_getIE (v := nI (9 + l)) clX11 (by decide) rfl fl_RX11_157 dX11_lawLine_17 (Fx.s83 hF) hmv ?_
      refine xq_bipush dX11_lawLine_20 bp10 ?_
      refine xq_icmp_eqN dX11_lawLine_22 rfl (by omega) (by omega) ⟨fun h22 => ?_, fun h22 => ?_⟩
      · skip
        refine xq_aload_n dX11_lawLine_30 rfl rfl ?_
        refine xq_getIE (v := nI (9 + l)) clX11 (by decide) rfl fl_RX11_157 dX11_lawLine_31 (Fx.s83 hF) hmv ?_
        refine xq_bipush dX11_lawLine_34 bp9 ?_
        refine xq_isubN dX11_lawLine_36 (by omega) ?_
        refine xq_istore_n dX11_lawLine_37 rfl rfl ?_
        refine xq_aload_n dX11_lawLine_38 rfl rfl ?_
        refine xq_getIE (v := nI 0) clX11 (by decide) rfl fl_RX11_182 dX11_lawLine_39 (Fx.s83 hF) hl.f26 ?_
        refine xq_if_neN dX11_lawLine_42 rfl (by omega) ⟨fun h42 => ?_, fun h42 => ?_⟩
        · skip
          exact absurd rfl h42
        · skip
          refine xq_aload_n dX11_lawLine_45 rfl rfl ?_
          refine xq_getIE (v := nI v) clX11 (by decide) rfl fl_RX11_209 dX11_lawLine_46 (Fx.s83 hF) b1 ?_
          refine xq_bipush dX11_lawLine_49 bp16 ?_
          refine xq_iload_n dX11_lawLine_51 rfl rfl ?_
          refine xq_iaddN dX11_lawLine_52 ?_
          rw [show 9 + l - 9 = l by omega]
          refine xq_ishrN dX11_lawLine_53 (by omega) (by omega) ?_
          refine xq_iconst dX11_lawLine_54 ic1 ?_
          refine xq_iandN dX11_lawLine_55 ?_
          refine xq_iconst dX11_lawLine_56 ic1 ?_
          refine xq_icmp_neN dX11_lawLine_57 rfl (by omega) (by omega) ⟨fun h57 => ?_, fun h57 => ?_⟩
          · skip
            refine xq_aload_n dX11_lawLine_65 rfl rfl ?_
            refine xq_getIE (v := nI 0) clX11 (by decide) rfl fl_RX11_182 dX11_lawLine_66 (Fx.s83 hF) hl.f26 ?_
            refine xq_if_eqN dX11_lawLine_69 rfl (by omega) ⟨fun h69 => ?_, fun h69 => ?_⟩
            · skip
              refine xq_aload_n dX11_lawLine_73 rfl rfl ?_
              refine xq_dup dX11_lawLine_74 rfl ?_
              refine xq_getIE (v := nI v) clX11 (by decide) rfl fl_RX11_209 dX11_lawLine_75 (Fx.s83 hF) b1 ?_
              refine xq_iconst dX11_lawLine_78 ic1 ?_
              refine xq_bipush dX11_lawLine_79 bp16 ?_
              refine xq_iload_n dX11_lawLine_81 rfl rfl ?_
              refine xq_iaddN dX11_lawLine_82 ?_
              refine xq_ishlN dX11_lawLine_83 (by omega) ?_
              refine xq_iorN dX11_lawLine_84 ?_
              refine xq_putI clX11 (by decide) rfl fl_RX11_209 (Or.inl rfl) dX11_lawLine_85 ⟨rfl, rfl⟩ (Fx.s83 hF) ?_
              refine xq_aload_n dX11_lawLine_88 rfl rfl ?_
              refine xq_callV0N clX11 gd_X11_token dX11_lawLine_89 ml_RX11_188 im_X11_token se_X11_token rfl (Fx.s83 hF) (by exact Nat.le_of_ble_eq_true rfl) (by omega) (m_tok (hl.mt.off (A := fun q => q = 83) (F := fun k => k = 19) (MoF.pF (A := fun q => q = 83) (F := fun k => k = 19) (k := 19) MoF.rf rfl rfl (nI (v ||| 1 <<< (16 + l)))) (by decide) (fun k h1 h2 z => by omega)) (kK_in (show kK s (n + 1) ≠ 44 by omega) hl.mt.lx)) ?_
              intro H89 p89
              obtain ⟨g1, g2⟩ := p89
              have h19 : hI H89 83 19 = nI (v ||| 1 <<< (16 + l)) := (g2.2 19 (by decide)).trans (by rw [hI_sI, if_pos ⟨rfl, rfl⟩])
              have mo1 : MoF (fun q => q = 83) (fun k => k = 19 ∨ (22 ≤ k ∧ k ≤ 25)) H H89 := (MoF.pF (A := fun q => q = 83) (F := fun k => k = 19 ∨ (22 ≤ k ∧ k ≤ 25)) (k := 19) MoF.rf rfl (Or.inl rfl) (nI (v ||| 1 <<< (16 + l)))).tr (g2.mo (fun q h => h) (fun k h => by omega))
              have hmx1 : MxU H89 T N := hl.mx.off mo1.1 (fun q h1 h2 z => by omega)
              have lo1 : LoQ H H89 := LoQ.of mo1 (fun k hk => by omega)
              have hk7 : hI H89 85 16 = nI (tNk T) := hmx1.nk
              have hf26 : hI H89 83 26 = nI 0 := (mo1.2 26 (by omega)).trans hl.f26
              have hf30 : hI H89 83 30 = nI 0 := (mo1.2 30 (by omega)).trans hl.f30
              have hf31 : hI H89 83 31 = nI (tNk T) := (mo1.2 31 (by omega)).trans hl.f31
              have hf20 : hI H89 83 20 = hI H 83 20 := mo1.2 20 (by omega)
              obtain ⟨v2, c1, c2, c3⟩ := hl.srs
              have hf17 : hI H89 85 17 = nI v2 := (mo1.1.I (by omega) 17).trans c1
              have lo2 := lo1.pU (a := 97) (by decide) (show 2 ≤ 2 + l by omega) (nI (tNk T))
              have hmt2 : MtP S (sI H89 97 (2 + l) (nI (tNk T))) bt ln s (n + 2) := g1.off (A := fun q => q = 97) (F := fun k => False) ⟨Off.pI (A := fun q => q = 97) Off.rf rfl _ _, fun k _ => by rw [hI_sI, if_neg (by omega)]⟩ (by decide) (fun k h1 h2 z => z)
              have hrx : RxP S (sI H89 97 (2 + l) (nI (tNk T))) bt ln s (nlN N l (tNk T), lu1 T l, lv1 T l) (rx0 (n + 2) T) := ⟨hmt2, hmx1.law1 hl2 ht, by rw [hI_sI, if_neg (by omega)]; exact hf26, by rw [hI_sI, if_neg (by omega)]; exact hf30, by rw [hI_sI, if_neg (by omega)]; exact hf31⟩
              have hmq := (m_fm (N := (nlN N l (tNk T), lu1 T l, lv1 T l)) (s := s) (bt := bt) (ln := ln) hF 8000 8000 (Nat.le_refl _)).2.2.2.2.1 (rx0 (n + 2) T) 200 (sI H89 97 (2 + l) (nI (tNk T))) (by show 6 * (8 - 0) + (64 - tNk T) + 15 ≤ 200; omega) hrx ⟨hsz, h64, Nat.zero_le _, Nat.le_refl _⟩ (nj0 (fc := false) h64)
              refine xq_aload_n dX11_lawLine_92 rfl rfl ?_
              refine xq_getF clX11 (by decide) rfl fl_RX11_49 dX11_lawLine_93 (Fx.s83 hF) (Fx.r83_15 hF) ?_
              refine xq_iconst dX11_lawLine_96 ic2 ?_
              refine xq_iload_n dX11_lawLine_97 rfl rfl ?_
              refine xq_iaddN dX11_lawLine_98 ?_
              refine xq_aload_n dX11_lawLine_99 rfl rfl ?_
              refine xq_bipush dX11_lawLine_100 bp7 ?_
              refine xq_callV1P clX11 gd_X11_fresher dX11_lawLine_102 ml_RX11_198 im_X11_fresher se_X11_fresher rfl (Fx.s83 hF) (by exact Nat.le_of_ble_eq_true rfl) (by omega) (m_fresher (w := 7) hF hk7 (by decide)) ?_
              refine xq_iastN dX11_lawLine_105 (Fx.s97 hF) (by omega) (by decide) ?_
              refine xq_aload_n dX11_lawLine_106 rfl rfl ?_
              refine xq_callV0N clX11 gd_X11_expression dX11_lawLine_107 ml_RX11_253 im_X11_expression se_X11_expression rfl (Fx.s83 hF) (by exact Nat.le_of_ble_eq_true rfl) (by omega) hmq ?_
              intro H107 p107
              rw [e] at p107
              obtain ⟨sk, ft⟩ := p107
              obtain ⟨v7, hv7⟩ := nI_sur (hI H107 85 16)
              rw [lawR_f hw hl2 ht hl.mt.ok hD hnz h64 e]
              refine xq_aload_n dX11_lawLine_110 rfl rfl ?_
              refine xq_getF clX11 (by decide) rfl fl_RX11_52 dX11_lawLine_111 (Fx.s83 hF) (Fx.r83_16 hF) ?_
              refine xq_iconst dX11_lawLine_114 ic2 ?_
              refine xq_iload_n dX11_lawLine_115 rfl rfl ?_
              refine xq_iaddN dX11_lawLine_116 ?_
              refine xq_aload_n dX11_lawLine_117 rfl rfl ?_
              refine xq_bipush dX11_lawLine_118 bp7 ?_
              refine xq_callV1P clX11 gd_X11_fresher dX11_lawLine_120 ml_RX11_198 im_X11_fresher se_X11_fresher rfl (Fx.s83 hF) (by exact Nat.le_of_ble_eq_true rfl) (by omega) (m_fresher (w := 7) hF hv7 (by decide)) ?_
              refine xq_iastN dX11_lawLine_123 (Fx.s98 hF) (by omega) (by decide) ?_
              refine xq_vret dX11_lawLine_124 rfl ?_
              exact ⟨_, ⟨(lo2.tr sk.1).pU (a := 98) (by decide) (show 2 ≤ 2 + l by omega) _, ft.pu (a := 98) (by decide)⟩, rfl⟩
            · skip
              exact absurd rfl h69
          · skip
            exact absurd ((tb_shr1 v (16 + l)).mp h57) (by rw [hbl]; decide)
      · skip
        exact absurd h22 (by omega)
def lawW (s : uTk) (l : Nat) (y : rxT) : rLn := .inr (rxN y, lawT (rxX y) l (rtX y) (rxW y))
theorem rb_n0 {w : Int64} (h : rb w k = true) : w ≠ 0 := fun z => by
  rw [z] at h
  unfold rb at h
  rw [show (0 : Int64).toBitVec = 0#64 from rfl, BitVec.getLsbD_zero] at h
  cases h
theorem lawW_0 (hf : FsI T) (h64 : tNk T ≤ 64) (e : rd s 8000 6 (rx0 n T) = .inr y) : rxW y ≠ 0 := by
  have h := rd_wf0 (fc := false) hf h64 (show rd s 8000 (lvF false) (rx0 n T) = .inr y from e)
  exact rb_n0 (h.1.2.1 (tNk T) (Nat.le_refl _) h.2.2.1).1
theorem tb_law (hl : l < 2) (hj : j < 2) : (v ||| 1 <<< (16 + l)).testBit (16 + j) = if j = l then true else v.testBit (16 + j) := by
  by_cases e : j = l
  · rw [if_pos e, e]; exact tb_or2
  · rw [if_neg e]; exact tb_or1 (by omega)
theorem m_law_d (hF : gFx S) (hl : LiP S H bt ln s N (n + 1) T) (hti : TiP T) (hD : 701 ≤ D) (hw : kK s (n + 1) = 9 + l) (hl2 : l < 2) (ht : tLn T l = 0) (hfs : FsI T) (e : rd s 8000 6 (rx0 (n + 2) T) = .inr y) : Nv mX11_lawLine 701 [.ref 83] S H (fun H2 => wQ S H H2 bt ln s (nlN N l (tNk T)) (lawW s l y)) := by
  have hsz := hti.sz
  have hti2 := hti
  obtain ⟨t1, t2, t3, t4, t5, t6, t7, t8, t9, t10, t11⟩ := hti2
  have h64 := t4
  have hms := hl.mt.ms.1 (show kK s (n + 1) < 28 by omega)
  have hmv : hI H 83 25 = nI (9 + l) := hms.2.trans (by rw [hw])
  obtain ⟨v, b1, b2, b3, b4, b5, b6⟩ := hl.tol
  have hsv := and1_le (v >>> (16 + l))
  have hbl : v.testBit (16 + l) = decide (tLn T l ≠ 0) := by
    rcases (show l = 0 ∨ l = 1 by omega) with e | e <;> rw [e] <;> assumption
  have hnz : n + 2 ≤ kSz s := by have := hl.mt.js; omega
  rw [decide_eq_false (fun z => z ht)] at hbl

  refine vq_intro (by decide) (by exact Nat.le_of_ble_eq_true rfl) rfl ?_
  refine xq_aload_n dX11_lawLine_0 rfl rfl ?_
  refine xq_getIE (v := nI 0) clX11 (by decide) rfl fl_RX11_147 dX11_lawLine_1 (Fx.s83 hF) hms.1 ?_
  refine xq_if_neN dX11_lawLine_4 rfl (by omega) ⟨fun h4 => ?_, fun h4 => ?_⟩
  · skip
    first | exact absurd h4 (by decide) | exact absurd rfl h4
  · skip
    refine xq_aload_n dX11_lawLine_7 rfl rfl ?_
    refine xq_getIE (v := nI (9 + l)) clX11 (by decide) rfl fl_RX11_157 dX11_lawLine_8 (Fx.s83 hF) hmv ?_
    refine xq_bipush dX11_lawLine_11 bp9 ?_
    refine xq_icmp_eqN dX11_lawLine_13 rfl (by omega) (by omega) ⟨fun h13 => ?_, fun h13 => ?_⟩
    · skip
      refine xq_aload_n dX11_lawLine_30 rfl rfl ?_
      refine xq_getIE (v := nI (9 + l)) clX11 (by decide) rfl fl_RX11_157 dX11_lawLine_31 (Fx.s83 hF) hmv ?_
      refine xq_bipush dX11_lawLine_34 bp9 ?_
      refine xq_isubN dX11_lawLine_36 (by omega) ?_
      refine xq_istore_n dX11_lawLine_37 rfl rfl ?_
      refine xq_aload_n dX11_lawLine_38 rfl rfl ?_
      refine xq_getIE (v := nI 0) clX11 (by decide) rfl fl_RX11_182 dX11_lawLine_39 (Fx.s83 hF) hl.f26 ?_
      refine xq_if_neN dX11_lawLine_42 rfl (by omega) ⟨fun h42 => ?_, fun h42 => ?_⟩
      · skip
        exact absurd rfl h42
      · skip
        refine xq_aload_n dX11_lawLine_45 rfl rfl ?_
        refine xq_getIE (v := nI v) clX11 (by decide) rfl fl_RX11_209 dX11_lawLine_46 (Fx.s83 hF) b1 ?_
        refine xq_bipush dX11_lawLine_49 bp16 ?_
        refine xq_iload_n dX11_lawLine_51 rfl rfl ?_
        refine xq_iaddN dX11_lawLine_52 ?_
        rw [show 9 + l - 9 = l by omega]
        refine xq_ishrN dX11_lawLine_53 (by omega) (by omega) ?_
        refine xq_iconst dX11_lawLine_54 ic1 ?_
        refine xq_iandN dX11_lawLine_55 ?_
        refine xq_iconst dX11_lawLine_56 ic1 ?_
        refine xq_icmp_neN dX11_lawLine_57 rfl (by omega) (by omega) ⟨fun h57 => ?_, fun h57 => ?_⟩
        · skip
          refine xq_aload_n dX11_lawLine_65 rfl rfl ?_
          refine xq_getIE (v := nI 0) clX11 (by decide) rfl fl_RX11_182 dX11_lawLine_66 (Fx.s83 hF) hl.f26 ?_
          refine xq_if_eqN dX11_lawLine_69 rfl (by omega) ⟨fun h69 => ?_, fun h69 => ?_⟩
          · skip
            refine xq_aload_n dX11_lawLine_73 rfl rfl ?_
            refine xq_dup dX11_lawLine_74 rfl ?_
            refine xq_getIE (v := nI v) clX11 (by decide) rfl fl_RX11_209 dX11_lawLine_75 (Fx.s83 hF) b1 ?_
            refine xq_iconst dX11_lawLine_78 ic1 ?_
            refine xq_bipush dX11_lawLine_79 bp16 ?_
            refine xq_iload_n dX11_lawLine_81 rfl rfl ?_
            refine xq_iaddN dX11_lawLine_82 ?_
            refine xq_ishlN dX11_lawLine_83 (by omega) ?_
            refine xq_iorN dX11_lawLine_84 ?_
            refine xq_putI clX11 (by decide) rfl fl_RX11_209 (Or.inl rfl) dX11_lawLine_85 ⟨rfl, rfl⟩ (Fx.s83 hF) ?_
            refine xq_aload_n dX11_lawLine_88 rfl rfl ?_
            refine xq_callV0N clX11 gd_X11_token dX11_lawLine_89 ml_RX11_188 im_X11_token se_X11_token rfl (Fx.s83 hF) (by exact Nat.le_of_ble_eq_true rfl) (by omega) (m_tok (hl.mt.off (A := fun q => q = 83) (F := fun k => k = 19) (MoF.pF (A := fun q => q = 83) (F := fun k => k = 19) (k := 19) MoF.rf rfl rfl (nI (v ||| 1 <<< (16 + l)))) (by decide) (fun k h1 h2 z => by omega)) (kK_in (show kK s (n + 1) ≠ 44 by omega) hl.mt.lx)) ?_
            intro H89 p89
            obtain ⟨g1, g2⟩ := p89
            have h19 : hI H89 83 19 = nI (v ||| 1 <<< (16 + l)) := (g2.2 19 (by decide)).trans (by rw [hI_sI, if_pos ⟨rfl, rfl⟩])
            have mo1 : MoF (fun q => q = 83) (fun k => k = 19 ∨ (22 ≤ k ∧ k ≤ 25)) H H89 := (MoF.pF (A := fun q => q = 83) (F := fun k => k = 19 ∨ (22 ≤ k ∧ k ≤ 25)) (k := 19) MoF.rf rfl (Or.inl rfl) (nI (v ||| 1 <<< (16 + l)))).tr (g2.mo (fun q h => h) (fun k h => by omega))
            have hmx1 : MxU H89 T N := hl.mx.off mo1.1 (fun q h1 h2 z => by omega)
            have lo1 : LoQ H H89 := LoQ.of mo1 (fun k hk => by omega)
            have hk7 : hI H89 85 16 = nI (tNk T) := hmx1.nk
            have hf26 : hI H89 83 26 = nI 0 := (mo1.2 26 (by omega)).trans hl.f26
            have hf30 : hI H89 83 30 = nI 0 := (mo1.2 30 (by omega)).trans hl.f30
            have hf31 : hI H89 83 31 = nI (tNk T) := (mo1.2 31 (by omega)).trans hl.f31
            have hf20 : hI H89 83 20 = hI H 83 20 := mo1.2 20 (by omega)
            obtain ⟨v2, c1, c2, c3⟩ := hl.srs
            have hf17 : hI H89 85 17 = nI v2 := (mo1.1.I (by omega) 17).trans c1
            have lo2 := lo1.pU (a := 97) (by decide) (show 2 ≤ 2 + l by omega) (nI (tNk T))
            have hmt2 : MtP S (sI H89 97 (2 + l) (nI (tNk T))) bt ln s (n + 2) := g1.off (A := fun q => q = 97) (F := fun k => False) ⟨Off.pI (A := fun q => q = 97) Off.rf rfl _ _, fun k _ => by rw [hI_sI, if_neg (by omega)]⟩ (by decide) (fun k h1 h2 z => z)
            have hrx : RxP S (sI H89 97 (2 + l) (nI (tNk T))) bt ln s (nlN N l (tNk T), lu1 T l, lv1 T l) (rx0 (n + 2) T) := ⟨hmt2, hmx1.law1 hl2 ht, by rw [hI_sI, if_neg (by omega)]; exact hf26, by rw [hI_sI, if_neg (by omega)]; exact hf30, by rw [hI_sI, if_neg (by omega)]; exact hf31⟩
            have hmq := (m_fm (N := (nlN N l (tNk T), lu1 T l, lv1 T l)) (s := s) (bt := bt) (ln := ln) hF 8000 8000 (Nat.le_refl _)).2.2.2.2.1 (rx0 (n + 2) T) 200 (sI H89 97 (2 + l) (nI (tNk T))) (by show 6 * (8 - 0) + (64 - tNk T) + 15 ≤ 200; omega) hrx ⟨hsz, h64, Nat.zero_le _, Nat.le_refl _⟩ (nj0 (fc := false) h64)
            refine xq_aload_n dX11_lawLine_92 rfl rfl ?_
            refine xq_getF clX11 (by decide) rfl fl_RX11_49 dX11_lawLine_93 (Fx.s83 hF) (Fx.r83_15 hF) ?_
            refine xq_iconst dX11_lawLine_96 ic2 ?_
            refine xq_iload_n dX11_lawLine_97 rfl rfl ?_
            refine xq_iaddN dX11_lawLine_98 ?_
            refine xq_aload_n dX11_lawLine_99 rfl rfl ?_
            refine xq_bipush dX11_lawLine_100 bp7 ?_
            refine xq_callV1P clX11 gd_X11_fresher dX11_lawLine_102 ml_RX11_198 im_X11_fresher se_X11_fresher rfl (Fx.s83 hF) (by exact Nat.le_of_ble_eq_true rfl) (by omega) (m_fresher (w := 7) hF hk7 (by decide)) ?_
            refine xq_iastN dX11_lawLine_105 (Fx.s97 hF) (by omega) (by decide) ?_
            refine xq_aload_n dX11_lawLine_106 rfl rfl ?_
            refine xq_callV0N clX11 gd_X11_expression dX11_lawLine_107 ml_RX11_253 im_X11_expression se_X11_expression rfl (Fx.s83 hF) (by exact Nat.le_of_ble_eq_true rfl) (by omega) hmq ?_
            intro H107 p107
            rw [e] at p107
            obtain ⟨sk, hry⟩ := p107
            obtain ⟨y1, y2, y3, y4, y5, y6⟩ := rd_l0 (fc := false) h64 e
            have hw0 := lawW_0 hfs h64 e
            refine xq_aload_n dX11_lawLine_110 rfl rfl ?_
            refine xq_getF clX11 (by decide) rfl fl_RX11_52 dX11_lawLine_111 (Fx.s83 hF) (Fx.r83_16 hF) ?_
            refine xq_iconst dX11_lawLine_114 ic2 ?_
            refine xq_iload_n dX11_lawLine_115 rfl rfl ?_
            refine xq_iaddN dX11_lawLine_116 ?_
            refine xq_aload_n dX11_lawLine_117 rfl rfl ?_
            refine xq_bipush dX11_lawLine_118 bp7 ?_
            refine xq_callV1P clX11 gd_X11_fresher dX11_lawLine_120 ml_RX11_198 im_X11_fresher se_X11_fresher rfl (Fx.s83 hF) (by exact Nat.le_of_ble_eq_true rfl) (by omega) (m_fresher (w := 7) hF hry.nk (by decide)) ?_
            refine xq_iastN dX11_lawLine_123 (Fx.s98 hF) (by omega) (by decide) ?_
            refine xq_vret dX11_lawLine_124 rfl ?_
            have ek : ∀ k, hI (sI H107 98 (2 + l) (nI (tNk (rxX y)))) 83 k = hI H107 83 k := fun k => by rw [hI_sI, if_neg (by omega)]
            have hmy : MxU (sI H107 98 (2 + l) (nI (tNk (rxX y)))) (lawT (rxX y) l (rtX y) (rxW y)) (nlN N l (tNk T)) := by
              rw [← y6]; exact MxU.law2 hry.2.1 y5 hw0
            have hmt3 : MtP S (sI H107 98 (2 + l) (nI (tNk (rxX y)))) bt ln s (rxN y) := hry.1.off (A := fun q => q = 98) (F := fun k => False) ⟨Off.pI (A := fun q => q = 98) Off.rf rfl _ _, fun k _ => ek k⟩ (by decide) (fun k h1 h2 z => z)
            have hb5 : (v ||| 1 <<< (16 + l)).testBit 16 = decide (tLn (lawT (rxX y) l (rtX y) (rxW y)) 0 ≠ 0) := by
              rw [lawT_l, tb_law (j := 0) hl2 (by decide)]
              by_cases e0 : 0 = l
              · rw [if_pos e0, if_pos e0]; exact (decide_eq_true hw0).symm
              · rw [if_neg e0, if_neg e0, y5.lnn]; exact b5
            have hb6 : (v ||| 1 <<< (16 + l)).testBit 17 = decide (tLn (lawT (rxX y) l (rtX y) (rxW y)) 1 ≠ 0) := by
              rw [lawT_l, tb_law (j := 1) hl2 (by decide)]
              by_cases e0 : 1 = l
              · rw [if_pos e0, if_pos e0]; exact (decide_eq_true hw0).symm
              · rw [if_neg e0, if_neg e0, y5.lnn]; exact b6
            refine ⟨_, ⟨(lo2.tr sk.1).pU (a := 98) (by decide) (show 2 ≤ 2 + l by omega) _, ⟨hmt3, hmy, (ek _).trans hry.2.2.1, (ek _).trans (hry.2.2.2.1.trans (by rw [y1])), (ek _).trans (hry.2.2.2.2.trans (by rw [y2]; rfl)), ⟨_, (ek _).trans (sk.2.1.trans (by rw [hI_sI, if_neg (by omega)]; exact h19)), or_18 b2 (by omega), ?_, ?_, hb5, hb6⟩, ⟨v2, ?_, c2, fun p hp => ?_⟩⟩, ?_⟩, rfl⟩
            · rw [tb_or1 (by omega)]; exact b3.trans (by rw [show tSh (lawT (rxX y) l (rtX y) (rxW y)) = tSh (rxX y) from rfl, y5.sh])
            · rw [tb_or1 (by omega)]; exact b4.trans (by rw [show tSd (lawT (rxX y) l (rtX y) (rxW y)) = tSd (rxX y) from rfl, y5.sd])
            · rw [hI_sI, if_neg (by omega)]; exact (sk.2.2.2.2 17 (by decide)).trans (by rw [hI_sI, if_neg (by omega)]; exact hf17)
            · rw [show tSe (lawT (rxX y) l (rtX y) (rxW y)) p = tSe (rxX y) p from rfl, y5.se]; exact c3 p hp
            · exact (ek _).trans (sk.2.2.1.trans (by rw [hI_sI, if_neg (by omega)]; exact hf20))
          · skip
            exact absurd rfl h69
        · skip
          exact absurd ((tb_shr1 v (16 + l)).mp h57) (by rw [hbl]; decide)
    · skip
      refine xq_aload_n dX11_lawLine_16 rfl rfl ?_
      refine xq_getIE (v := nI (9 + l)) clX11 (by decide) rfl fl_RX11_157 dX11_lawLine_17 (Fx.s83 hF) hmv ?_
      refine xq_bipush dX11_lawLine_20 bp10 ?_
      refine xq_icmp_eqN dX11_lawLine_22 rfl (by omega) (by omega) ⟨fun h22 => ?_, fun h22 => ?_⟩
      · skip
        refine xq_aload_n dX11_lawLine_30 rfl rfl ?_
        refine xq_getIE (v := nI (9 + l)) clX11 (by decide) rfl fl_RX11_157 dX11_lawLine_31 (Fx.s83 hF) hmv ?_
        refine xq_bipush dX11_lawLine_34 bp9 ?_
        refine xq_isubN dX11_lawLine_36 (by omega) ?_
        refine xq_istore_n dX11_lawLine_37 rfl rfl ?_
        refine xq_aload_n dX11_lawLine_38 rfl rfl ?_
        refine xq_getIE (v := nI 0) clX11 (by decide) rfl fl_RX11_182 dX11_lawLine_39 (Fx.s83 hF) hl.f26 ?_
        refine xq_if_neN dX11_lawLine_42 rfl (by omega) ⟨fun h42 => ?_, fun h42 => ?_⟩
        · skip
          exact absurd rfl h42
        · skip
          refine xq_aload_n dX11_lawLine_45 rfl rfl ?_
          refine xq_getIE (v := nI v) clX11 (by decide) rfl fl_RX11_209 dX11_lawLine_46 (Fx.s83 hF) b1 ?_
          refine xq_bipush dX11_lawLine_49 bp16 ?_
          refine xq_iload_n dX11_lawLine_51 rfl rfl ?_
          refine xq_iaddN dX11_lawLine_52 ?_
          rw [show 9 + l - 9 = l by omega]
          refine xq_ishrN dX11_lawLine_53 (by omega) (by omega) ?_
          refine xq_iconst dX11_lawLine_54 ic1 ?_
          refine xq_iandN dX11_lawLine_55 ?_
          refine xq_iconst dX11_lawLine_56 ic1 ?_
          refine xq_icmp_neN dX11_lawLine_57 rfl (by omega) (by omega) ⟨fun h57 => ?_, fun h57 => ?_⟩
          · skip
            refine xq_aload_n dX11_lawLine_65 rfl rfl ?_
            refine xq_getIE (v := nI 0) clX11 (by decide) rfl fl_RX11_182 dX11_lawLine_66 (Fx.s83 hF) hl.f26 ?_
            refine xq_if_eqN dX11_lawLine_69 rfl (by omega) ⟨fun h69 => ?_, fun h69 => ?_⟩
            · skip
              refine xq_aload_n dX11_lawLine_73 rfl rfl ?_
              refine xq_dup dX11_lawLine_74 rfl ?_
              refine xq_getIE (v := nI v) clX11 (by decide) rfl fl_RX11_209 dX11_lawLine_75 (Fx.s83 hF) b1 ?_
              refine xq_iconst dX11_lawLine_78 ic1 ?_
              refine xq_bipush dX11_lawLine_79 bp16 ?_
              refine xq_iload_n dX11_lawLine_81 rfl rfl ?_
              refine xq_iaddN dX11_lawLine_82 ?_
              refine xq_ishlN dX11_lawLine_83 (by omega) ?_
              refine xq_iorN dX11_lawLine_84 ?_
              refine xq_putI clX11 (by decide) rfl fl_RX11_209 (Or.inl rfl) dX11_lawLine_85 ⟨rfl, rfl⟩ (Fx.s83 hF) ?_
              refine xq_aload_n dX11_lawLine_88 rfl rfl ?_
              refine xq_callV0N clX11 gd_X11_token dX11_lawLine_89 ml_RX11_188 im_X11_token se_X11_token rfl (Fx.s83 hF) (by exact Nat.le_of_ble_eq_true rfl) (by omega) (m_tok (hl.mt.off (A := fun q => q = 83) (F := fun k => k = 19) (MoF.pF (A := fun q => q = 83) (F := fun k => k = 19) (k := 19) MoF.rf rfl rfl (nI (v ||| 1 <<< (16 + l)))) (by decide) (fun k h1 h2 z => by omega)) (kK_in (show kK s (n + 1) ≠ 44 by omega) hl.mt.lx)) ?_
              intro H89 p89
              obtain ⟨g1, g2⟩ := p89
              have h19 : hI H89 83 19 = nI (v ||| 1 <<< (16 + l)) := (g2.2 19 (by decide)).trans (by rw [hI_sI, if_pos ⟨rfl, rfl⟩])
              have mo1 : MoF (fun q => q = 83) (fun k => k = 19 ∨ (22 ≤ k ∧ k ≤ 25)) H H89 := (MoF.pF (A := fun q => q = 83) (F := fun k => k = 19 ∨ (22 ≤ k ∧ k ≤ 25)) (k := 19) MoF.rf rfl (Or.inl rfl) (nI (v ||| 1 <<< (16 + l)))).tr (g2.mo (fun q h => h) (fun k h => by omega))
              have hmx1 : MxU H89 T N := hl.mx.off mo1.1 (fun q h1 h2 z => by omega)
              have lo1 : LoQ H H89 := LoQ.of mo1 (fun k hk => by omega)
              have hk7 : hI H89 85 16 = nI (tNk T) := hmx1.nk
              have hf26 : hI H89 83 26 = nI 0 := (mo1.2 26 (by omega)).trans hl.f26
              have hf30 : hI H89 83 30 = nI 0 := (mo1.2 30 (by omega)).trans hl.f30
              have hf31 : hI H89 83 31 = nI (tNk T) := (mo1.2 31 (by omega)).trans hl.f31
              have hf20 : hI H89 83 20 = hI H 83 20 := mo1.2 20 (by omega)
              obtain ⟨v2, c1, c2, c3⟩ := hl.srs
              have hf17 : hI H89 85 17 = nI v2 := (mo1.1.I (by omega) 17).trans c1
              have lo2 := lo1.pU (a := 97) (by decide) (show 2 ≤ 2 + l by omega) (nI (tNk T))
              have hmt2 : MtP S (sI H89 97 (2 + l) (nI (tNk T))) bt ln s (n + 2) := g1.off (A := fun q => q = 97) (F := fun k => False) ⟨Off.pI (A := fun q => q = 97) Off.rf rfl _ _, fun k _ => by rw [hI_sI, if_neg (by omega)]⟩ (by decide) (fun k h1 h2 z => z)
              have hrx : RxP S (sI H89 97 (2 + l) (nI (tNk T))) bt ln s (nlN N l (tNk T), lu1 T l, lv1 T l) (rx0 (n + 2) T) := ⟨hmt2, hmx1.law1 hl2 ht, by rw [hI_sI, if_neg (by omega)]; exact hf26, by rw [hI_sI, if_neg (by omega)]; exact hf30, by rw [hI_sI, if_neg (by omega)]; exact hf31⟩
              have hmq := (m_fm (N := (nlN N l (tNk T), lu1 T l, lv1 T l)) (s := s) (bt := bt) (ln := ln) hF 8000 8000 (Nat.le_refl _)).2.2.2.2.1 (rx0 (n + 2) T) 200 (sI H89 97 (2 + l) (nI (tNk T))) (by show 6 * (8 - 0) + (64 - tNk T) + 15 ≤ 200; omega) hrx ⟨hsz, h64, Nat.zero_le _, Nat.le_refl _⟩ (nj0 (fc := false) h64)
              refine xq_aload_n dX11_lawLine_92 rfl rfl ?_
              refine xq_getF clX11 (by decide) rfl fl_RX11_49 dX11_lawLine_93 (Fx.s83 hF) (Fx.r83_15 hF) ?_
              refine xq_iconst dX11_lawLine_96 ic2 ?_
              refine xq_iload_n dX11_lawLine_97 rfl rfl ?_
              refine xq_iaddN dX11_lawLine_98 ?_
              refine xq_aload_n dX11_lawLine_99 rfl rfl ?_
              refine xq_bipush dX11_lawLine_100 bp7 ?_
              refine xq_callV1P clX11 gd_X11_fresher dX11_lawLine_102 ml_RX11_198 im_X11_fresher se_X11_fresher rfl (Fx.s83 hF) (by exact Nat.le_of_ble_eq_true rfl) (by omega) (m_fresher (w := 7) hF hk7 (by decide)) ?_
              refine xq_iastN dX11_lawLine_105 (Fx.s97 hF) (by omega) (by decide) ?_
              refine xq_aload_n dX11_lawLine_106 rfl rfl ?_
              refine xq_callV0N clX11 gd_X11_expression dX11_lawLine_107 ml_RX11_253 im_X11_expression se_X11_expression rfl (Fx.s83 hF) (by exact Nat.le_of_ble_eq_true rfl) (by omega) hmq ?_
              intro H107 p107
              rw [e] at p107
              obtain ⟨sk, hry⟩ := p107
              obtain ⟨y1, y2, y3, y4, y5, y6⟩ := rd_l0 (fc := false) h64 e
              have hw0 := lawW_0 hfs h64 e
              refine xq_aload_n dX11_lawLine_110 rfl rfl ?_
              refine xq_getF clX11 (by decide) rfl fl_RX11_52 dX11_lawLine_111 (Fx.s83 hF) (Fx.r83_16 hF) ?_
              refine xq_iconst dX11_lawLine_114 ic2 ?_
              refine xq_iload_n dX11_lawLine_115 rfl rfl ?_
              refine xq_iaddN dX11_lawLine_116 ?_
              refine xq_aload_n dX11_lawLine_117 rfl rfl ?_
              refine xq_bipush dX11_lawLine_118 bp7 ?_
              refine xq_callV1P clX11 gd_X11_fresher dX11_lawLine_120 ml_RX11_198 im_X11_fresher se_X11_fresher rfl (Fx.s83 hF) (by exact Nat.le_of_ble_eq_true rfl) (by omega) (m_fresher (w := 7) hF hry.nk (by decide)) ?_
              refine xq_iastN dX11_lawLine_123 (Fx.s98 hF) (by omega) (by decide) ?_
              refine xq_vret dX11_lawLine_124 rfl ?_
              have ek : ∀ k, hI (sI H107 98 (2 + l) (nI (tNk (rxX y)))) 83 k = hI H107 83 k := fun k => by rw [hI_sI, if_neg (by omega)]
              have hmy : MxU (sI H107 98 (2 + l) (nI (tNk (rxX y)))) (lawT (rxX y) l (rtX y) (rxW y)) (nlN N l (tNk T)) := by
                rw [← y6]; exact MxU.law2 hry.2.1 y5 hw0
              have hmt3 : MtP S (sI H107 98 (2 + l) (nI (tNk (rxX y)))) bt ln s (rxN y) := hry.1.off (A := fun q => q = 98) (F := fun k => False) ⟨Off.pI (A := fun q => q = 98) Off.rf rfl _ _, fun k _ => ek k⟩ (by decide) (fun k h1 h2 z => z)
              have hb5 : (v ||| 1 <<< (16 + l)).testBit 16 = decide (tLn (lawT (rxX y) l (rtX y) (rxW y)) 0 ≠ 0) := by
                rw [lawT_l, tb_law (j := 0) hl2 (by decide)]
                by_cases e0 : 0 = l
                · rw [if_pos e0, if_pos e0]; exact (decide_eq_true hw0).symm
                · rw [if_neg e0, if_neg e0, y5.lnn]; exact b5
              have hb6 : (v ||| 1 <<< (16 + l)).testBit 17 = decide (tLn (lawT (rxX y) l (rtX y) (rxW y)) 1 ≠ 0) := by
                rw [lawT_l, tb_law (j := 1) hl2 (by decide)]
                by_cases e0 : 1 = l
                · rw [if_pos e0, if_pos e0]; exact (decide_eq_true hw0).symm
                · rw [if_neg e0, if_neg e0, y5.lnn]; exact b6
              refine ⟨_, ⟨(lo2.tr sk.1).pU (a := 98) (by decide) (show 2 ≤ 2 + l by omega) _, ⟨hmt3, hmy, (ek _).trans hry.2.2.1, (ek _).trans (hry.2.2.2.1.trans (by rw [y1])), (ek _).trans (hry.2.2.2.2.trans (by rw [y2]; rfl)), ⟨_, (ek _).trans (sk.2.1.trans (by rw [hI_sI, if_neg (by omega)]; exact h19)), or_18 b2 (by omega), ?_, ?_, hb5, hb6⟩, ⟨v2, ?_, c2, fun p hp => ?_⟩⟩, ?_⟩, rfl⟩
              · rw [tb_or1 (by omega)]; exact b3.trans (by rw [show tSh (lawT (rxX y) l (rtX y) (rxW y)) = tSh (rxX y) from rfl, y5.sh])
              · rw [tb_or1 (by omega)]; exact b4.trans (by rw [show tSd (lawT (rxX y) l (rtX y) (rxW y)) = tSd (rxX y) from rfl, y5.sd])
              · rw [hI_sI, if_neg (by omega)]; exact (sk.2.2.2.2 17 (by decide)).trans (by rw [hI_sI, if_neg (by omega)]; exact hf17)
              · rw [show tSe (lawT (rxX y) l (rtX y) (rxW y)) p = tSe (rxX y) p from rfl, y5.se]; exact c3 p hp
              · exact (ek _).trans (sk.2.2.1.trans (by rw [hI_sI, if_neg (by omega)]; exact hf20))
            · skip
              exact absurd rfl h69
          · skip
            exact absurd ((tb_shr1 v (16 + l)).mp h57) (by rw [hbl]; decide)
      · skip
        exact absurd h22 (by omega)
end MN4
