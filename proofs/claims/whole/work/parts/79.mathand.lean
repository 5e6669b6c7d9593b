/-! ===== the reference: people, colours, facts at hand ===== -/
section MLj
variable {S : xS} {H H1 : xH} {T : uTx} {N : Nat → Nat → Nat} {b : Nat → Nat} {w m n j e : Nat} {s : uTk}
theorem m_personAtHandF (hu : MxU H T N) (hF : gFx S) (h26 : hI H 83 26 = nI m) (hm : 0 < m) (hm2 : m < 100) : Pv mX11_personAtHand 2 [.ref 83] S H (vN 0) := by
  refine vq_ev (vq_intro (by decide) (by exact Nat.le_of_ble_eq_true rfl) rfl ?_)
  refine xq_aload_n dX11_personAtHand_0 rfl rfl ?_
  refine xq_aload_n dX11_personAtHand_1 rfl rfl ?_
  refine xq_getF clX11 (by decide) rfl fl_RX11_22 dX11_personAtHand_2 (Fx.s83 hF) (Fx.r83_6 hF) ?_
  refine xq_bipush dX11_personAtHand_5 bp6 ?_
  refine xq_aload_n dX11_personAtHand_7 rfl rfl ?_
  refine xq_iconst dX11_personAtHand_8 ic1 ?_
  refine xq_callV1P clX11 gd_X11_fresher dX11_personAtHand_9 ml_RX11_198 im_X11_fresher se_X11_fresher rfl (Fx.s83 hF) (by exact Nat.le_of_ble_eq_true rfl) (by decide) (m_fresher (w := 1) hF hu.np (by decide)) ?_
  refine xq_callV3P clX11 gd_X11_atHand dX11_personAtHand_12 ml_RX11_202 im_X11_atHand se_X11_atHand rfl (Fx.s83 hF) (by exact Nat.le_of_ble_eq_true rfl) (by decide) (m_atHandF hF h26 hm hm2) ?_
  refine xq_iret dX11_personAtHand_15 rfl ?_
  rfl
theorem m_personAtHand1 (hu : MxU H T N) (hs : SzOk T) (h26 : hI H 83 26 = nI 0) (hm : MtP S H b n s j) (hk39 : kK s j = 39) (hv : fdn (tPn T) (tNp T) (kV s j) < tNp T) : Pv mX11_personAtHand 2 [.ref 83] S H (vN (fdn (tPn T) (tNp T) (kV s j))) := by
  have hF := hm.fx
  obtain ⟨s1, s2, s3, s4, s5, s6⟩ := hs
  refine vq_ev (vq_intro (by decide) (by exact Nat.le_of_ble_eq_true rfl) rfl ?_)
  refine xq_aload_n dX11_personAtHand_0 rfl rfl ?_
  refine xq_aload_n dX11_personAtHand_1 rfl rfl ?_
  refine xq_getF clX11 (by decide) rfl fl_RX11_22 dX11_personAtHand_2 (Fx.s83 hF) (Fx.r83_6 hF) ?_
  refine xq_bipush dX11_personAtHand_5 bp6 ?_
  refine xq_aload_n dX11_personAtHand_7 rfl rfl ?_
  refine xq_iconst dX11_personAtHand_8 ic1 ?_
  refine xq_callV1P clX11 gd_X11_fresher dX11_personAtHand_9 ml_RX11_198 im_X11_fresher se_X11_fresher rfl (Fx.s83 hF) (by exact Nat.le_of_ble_eq_true rfl) (by decide) (m_fresher (w := 1) hF hu.np (by decide)) ?_
  refine xq_callV3P clX11 gd_X11_atHand dX11_personAtHand_12 ml_RX11_202 im_X11_atHand se_X11_atHand rfl (Fx.s83 hF) (by exact Nat.le_of_ble_eq_true rfl) (by decide) (m_atHand1 h26 hm (Fx.s88 hF) (by decide) (by omega) (fun k hk => (hu.pe k hk).1) hk39 hv) ?_
  refine xq_iret dX11_personAtHand_15 rfl ?_
  rfl
theorem m_personAtHand0 (hu : MxU H T N) (hs : SzOk T) (h26 : hI H 83 26 = nI 0) (hm : MtP S H b n s j) (hb : knoZ s j (tPn T) (tNp T) = -1) : Hv mX11_personAtHand 2 [.ref 83] S H vN (fun z H' => z = 0 ∧ MfQ H H' s j (knoF s j)) := by
  have hF := hm.fx
  obtain ⟨s1, s2, s3, s4, s5, s6⟩ := hs
  refine vq_intro (by decide) (by exact Nat.le_of_ble_eq_true rfl) rfl ?_
  refine xq_aload_n dX11_personAtHand_0 rfl rfl ?_
  refine xq_aload_n dX11_personAtHand_1 rfl rfl ?_
  refine xq_getF clX11 (by decide) rfl fl_RX11_22 dX11_personAtHand_2 (Fx.s83 hF) (Fx.r83_6 hF) ?_
  refine xq_bipush dX11_personAtHand_5 bp6 ?_
  refine xq_aload_n dX11_personAtHand_7 rfl rfl ?_
  refine xq_iconst dX11_personAtHand_8 ic1 ?_
  refine xq_callV1P clX11 gd_X11_fresher dX11_personAtHand_9 ml_RX11_198 im_X11_fresher se_X11_fresher rfl (Fx.s83 hF) (by exact Nat.le_of_ble_eq_true rfl) (by decide) (m_fresher (w := 1) hF hu.np (by decide)) ?_
  refine xq_callV3H clX11 gd_X11_atHand dX11_personAtHand_12 ml_RX11_202 im_X11_atHand se_X11_atHand rfl (Fx.s83 hF) (by exact Nat.le_of_ble_eq_true rfl) (by decide) (m_atHand0 h26 hm (Fx.s88 hF) (by decide) (by omega) (fun k hk => (hu.pe k hk).1) hb) ?_
  intro x12 H12 p12
  refine xq_iret dX11_personAtHand_15 rfl ?_
  exact ⟨_, H12, p12, rfl⟩
theorem m_colourAtHandF (hu : MxU H T N) (hF : gFx S) (h26 : hI H 83 26 = nI m) (hm : 0 < m) (hm2 : m < 100) : Pv mX11_colourAtHand 2 [.ref 83] S H (vN 0) := by
  refine vq_ev (vq_intro (by decide) (by exact Nat.le_of_ble_eq_true rfl) rfl ?_)
  refine xq_aload_n dX11_colourAtHand_0 rfl rfl ?_
  refine xq_aload_n dX11_colourAtHand_1 rfl rfl ?_
  refine xq_getF clX11 (by decide) rfl fl_RX11_16 dX11_colourAtHand_2 (Fx.s83 hF) (Fx.r83_4 hF) ?_
  refine xq_iconst dX11_colourAtHand_5 ic3 ?_
  refine xq_aload_n dX11_colourAtHand_6 rfl rfl ?_
  refine xq_iconst dX11_colourAtHand_7 ic0 ?_
  refine xq_callV1P clX11 gd_X11_fresher dX11_colourAtHand_8 ml_RX11_198 im_X11_fresher se_X11_fresher rfl (Fx.s83 hF) (by exact Nat.le_of_ble_eq_true rfl) (by decide) (m_fresher (w := 0) hF hu.nc (by decide)) ?_
  refine xq_callV3P clX11 gd_X11_atHand dX11_colourAtHand_11 ml_RX11_202 im_X11_atHand se_X11_atHand rfl (Fx.s83 hF) (by exact Nat.le_of_ble_eq_true rfl) (by decide) (m_atHandF hF h26 hm hm2) ?_
  refine xq_iret dX11_colourAtHand_14 rfl ?_
  rfl
theorem m_colourAtHand1 (hu : MxU H T N) (hs : SzOk T) (h26 : hI H 83 26 = nI 0) (hm : MtP S H b n s j) (hk39 : kK s j = 39) (hv : fdn (tCn T) (tNc T) (kV s j) < tNc T) : Pv mX11_colourAtHand 2 [.ref 83] S H (vN (fdn (tCn T) (tNc T) (kV s j))) := by
  have hF := hm.fx
  obtain ⟨s1, s2, s3, s4, s5, s6⟩ := hs
  refine vq_ev (vq_intro (by decide) (by exact Nat.le_of_ble_eq_true rfl) rfl ?_)
  refine xq_aload_n dX11_colourAtHand_0 rfl rfl ?_
  refine xq_aload_n dX11_colourAtHand_1 rfl rfl ?_
  refine xq_getF clX11 (by decide) rfl fl_RX11_16 dX11_colourAtHand_2 (Fx.s83 hF) (Fx.r83_4 hF) ?_
  refine xq_iconst dX11_colourAtHand_5 ic3 ?_
  refine xq_aload_n dX11_colourAtHand_6 rfl rfl ?_
  refine xq_iconst dX11_colourAtHand_7 ic0 ?_
  refine xq_callV1P clX11 gd_X11_fresher dX11_colourAtHand_8 ml_RX11_198 im_X11_fresher se_X11_fresher rfl (Fx.s83 hF) (by exact Nat.le_of_ble_eq_true rfl) (by decide) (m_fresher (w := 0) hF hu.nc (by decide)) ?_
  refine xq_callV3P clX11 gd_X11_atHand dX11_colourAtHand_11 ml_RX11_202 im_X11_atHand se_X11_atHand rfl (Fx.s83 hF) (by exact Nat.le_of_ble_eq_true rfl) (by decide) (m_atHand1 h26 hm (Fx.s86 hF) (by decide) (by omega) (fun k hk => (hu.co k hk).1) hk39 hv) ?_
  refine xq_iret dX11_colourAtHand_14 rfl ?_
  rfl
theorem m_colourAtHand0 (hu : MxU H T N) (hs : SzOk T) (h26 : hI H 83 26 = nI 0) (hm : MtP S H b n s j) (hb : knoZ s j (tCn T) (tNc T) = -1) : Hv mX11_colourAtHand 2 [.ref 83] S H vN (fun z H' => z = 0 ∧ MfQ H H' s j (knoF s j)) := by
  have hF := hm.fx
  obtain ⟨s1, s2, s3, s4, s5, s6⟩ := hs
  refine vq_intro (by decide) (by exact Nat.le_of_ble_eq_true rfl) rfl ?_
  refine xq_aload_n dX11_colourAtHand_0 rfl rfl ?_
  refine xq_aload_n dX11_colourAtHand_1 rfl rfl ?_
  refine xq_getF clX11 (by decide) rfl fl_RX11_16 dX11_colourAtHand_2 (Fx.s83 hF) (Fx.r83_4 hF) ?_
  refine xq_iconst dX11_colourAtHand_5 ic3 ?_
  refine xq_aload_n dX11_colourAtHand_6 rfl rfl ?_
  refine xq_iconst dX11_colourAtHand_7 ic0 ?_
  refine xq_callV1P clX11 gd_X11_fresher dX11_colourAtHand_8 ml_RX11_198 im_X11_fresher se_X11_fresher rfl (Fx.s83 hF) (by exact Nat.le_of_ble_eq_true rfl) (by decide) (m_fresher (w := 0) hF hu.nc (by decide)) ?_
  refine xq_callV3H clX11 gd_X11_atHand dX11_colourAtHand_11 ml_RX11_202 im_X11_atHand se_X11_atHand rfl (Fx.s83 hF) (by exact Nat.le_of_ble_eq_true rfl) (by decide) (m_atHand0 h26 hm (Fx.s86 hF) (by decide) (by omega) (fun k hk => (hu.co k hk).1) hb) ?_
  intro x11 H11 p11
  refine xq_iret dX11_colourAtHand_14 rfl ?_
  exact ⟨_, H11, p11, rfl⟩
theorem m_factAtHandF (hu : MxU H T N) (hF : gFx S) (h26 : hI H 83 26 = nI m) (hm : 0 < m) (hm2 : m < 100) : Pv mX11_factAtHand 2 [.ref 83] S H (vN 0) := by
  refine vq_ev (vq_intro (by decide) (by exact Nat.le_of_ble_eq_true rfl) rfl ?_)
  refine xq_aload_n dX11_factAtHand_0 rfl rfl ?_
  refine xq_aload_n dX11_factAtHand_1 rfl rfl ?_
  refine xq_getF clX11 (by decide) rfl fl_RX11_31 dX11_factAtHand_2 (Fx.s83 hF) (Fx.r83_9 hF) ?_
  refine xq_bipush dX11_factAtHand_5 bp8 ?_
  refine xq_aload_n dX11_factAtHand_7 rfl rfl ?_
  refine xq_iconst dX11_factAtHand_8 ic2 ?_
  refine xq_callV1P clX11 gd_X11_fresher dX11_factAtHand_9 ml_RX11_198 im_X11_fresher se_X11_fresher rfl (Fx.s83 hF) (by exact Nat.le_of_ble_eq_true rfl) (by decide) (m_fresher (w := 2) hF hu.nf (by decide)) ?_
  refine xq_callV3P clX11 gd_X11_atHand dX11_factAtHand_12 ml_RX11_202 im_X11_atHand se_X11_atHand rfl (Fx.s83 hF) (by exact Nat.le_of_ble_eq_true rfl) (by decide) (m_atHandF hF h26 hm hm2) ?_
  refine xq_iret dX11_factAtHand_15 rfl ?_
  rfl
theorem m_factAtHand1 (hu : MxU H T N) (hs : SzOk T) (h26 : hI H 83 26 = nI 0) (hm : MtP S H b n s j) (hk39 : kK s j = 39) (hv : fdn (tFn T) (tNf T) (kV s j) < tNf T) : Pv mX11_factAtHand 2 [.ref 83] S H (vN (fdn (tFn T) (tNf T) (kV s j))) := by
  have hF := hm.fx
  obtain ⟨s1, s2, s3, s4, s5, s6⟩ := hs
  refine vq_ev (vq_intro (by decide) (by exact Nat.le_of_ble_eq_true rfl) rfl ?_)
  refine xq_aload_n dX11_factAtHand_0 rfl rfl ?_
  refine xq_aload_n dX11_factAtHand_1 rfl rfl ?_
  refine xq_getF clX11 (by decide) rfl fl_RX11_31 dX11_factAtHand_2 (Fx.s83 hF) (Fx.r83_9 hF) ?_
  refine xq_bipush dX11_factAtHand_5 bp8 ?_
  refine xq_aload_n dX11_factAtHand_7 rfl rfl ?_
  refine xq_iconst dX11_factAtHand_8 ic2 ?_
  refine xq_callV1P clX11 gd_X11_fresher dX11_factAtHand_9 ml_RX11_198 im_X11_fresher se_X11_fresher rfl (Fx.s83 hF) (by exact Nat.le_of_ble_eq_true rfl) (by decide) (m_fresher (w := 2) hF hu.nf (by decide)) ?_
  refine xq_callV3P clX11 gd_X11_atHand dX11_factAtHand_12 ml_RX11_202 im_X11_atHand se_X11_atHand rfl (Fx.s83 hF) (by exact Nat.le_of_ble_eq_true rfl) (by decide) (m_atHand1 h26 hm (Fx.s91 hF) (by decide) (by omega) (fun k hk => (hu.fa k hk).1) hk39 hv) ?_
  refine xq_iret dX11_factAtHand_15 rfl ?_
  rfl
theorem m_factAtHand0 (hu : MxU H T N) (hs : SzOk T) (h26 : hI H 83 26 = nI 0) (hm : MtP S H b n s j) (hb : knoZ s j (tFn T) (tNf T) = -1) : Hv mX11_factAtHand 2 [.ref 83] S H vN (fun z H' => z = 0 ∧ MfQ H H' s j (knoF s j)) := by
  have hF := hm.fx
  obtain ⟨s1, s2, s3, s4, s5, s6⟩ := hs
  refine vq_intro (by decide) (by exact Nat.le_of_ble_eq_true rfl) rfl ?_
  refine xq_aload_n dX11_factAtHand_0 rfl rfl ?_
  refine xq_aload_n dX11_factAtHand_1 rfl rfl ?_
  refine xq_getF clX11 (by decide) rfl fl_RX11_31 dX11_factAtHand_2 (Fx.s83 hF) (Fx.r83_9 hF) ?_
  refine xq_bipush dX11_factAtHand_5 bp8 ?_
  refine xq_aload_n dX11_factAtHand_7 rfl rfl ?_
  refine xq_iconst dX11_factAtHand_8 ic2 ?_
  refine xq_callV1P clX11 gd_X11_fresher dX11_factAtHand_9 ml_RX11_198 im_X11_fresher se_X11_fresher rfl (Fx.s83 hF) (by exact Nat.le_of_ble_eq_true rfl) (by decide) (m_fresher (w := 2) hF hu.nf (by decide)) ?_
  refine xq_callV3H clX11 gd_X11_atHand dX11_factAtHand_12 ml_RX11_202 im_X11_atHand se_X11_atHand rfl (Fx.s83 hF) (by exact Nat.le_of_ble_eq_true rfl) (by decide) (m_atHand0 h26 hm (Fx.s91 hF) (by decide) (by omega) (fun k hk => (hu.fa k hk).1) hb) ?_
  intro x12 H12 p12
  refine xq_iret dX11_factAtHand_15 rfl ?_
  exact ⟨_, H12, p12, rfl⟩
end MLj
