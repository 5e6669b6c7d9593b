/-! ===== the law: its beginning ===== -/
section LWS2
variable {Ls : Nat} {xs : Nat → Int32} {S S1 : xS} {H H1 H2 : xH} {Q : xR → Prop}
theorem sex_n (sh : Nat × Nat) : SEx S (nS S sh) := ⟨Nat.le_succ _, fun q hq => ⟨if_neg (show ¬ q = S.2.2 by have : fZ S = S.2.2 := rfl; omega), fun k => if_neg (show ¬ q = S.2.2 by have : fZ S = S.2.2 := rfl; omega)⟩, by show S.2.2 + 1 ≤ S.2.2 + 5; omega⟩
theorem tS_o : fS (nS (tS Ls 119 118) (4, 1)) 119 = (4, 1) := by
  show (if (119 : Nat) = 119 then ((4, 1) : Nat × Nat) else (tS Ls 119 118).1 119) = (4, 1)
  exact if_pos rfl
theorem tS_sc : fS (nS (tS Ls 119 118) (4, 1)) 5000000 = (0, Ls + 1) := by
  show (if (5000000 : Nat) = 119 then ((4, 1) : Nat × Nat) else if (5000000 : Nat) < 119 then fxT.getD 5000000 (0, 0) else if (5000000 : Nat) = 5000000 then (0, Ls + 1) else (0, 0)) = (0, Ls + 1)
  rw [if_neg (by decide), if_neg (by decide), if_pos rfl]
theorem lw_init (h3 : Ls ≤ 3072) (hz : ZaP 0 H) (hx : ∀ j, j < Ls → hI H 5000000 j = xs j) (hQ : ∀ S1 H1, Q (some (.int 1), S1, H1)) : Xq mL_law 704 (0 + 5 * 512 + 1 + 35 + 1 + 82 + 1) (0 + 764 * 512 + 1 + 87634 + 59 + 16157 + 16) 0 [some (.float 2), none, none, none, none, none, none] [] (tS Ls 0 0) H Q := by
  refine xq_new clX10 dL_law_0 ck_RL_8 inst_X10 ini_X10 dflt_X10 ?_
  rw [tS_z, tS_n (n := 0) (m := 0) (sh := (6, 10)) rfl (by decide +kernel), nH_id hz rfl (by decide)]
  refine xq_dup dL_law_3 rfl ?_
  refine xq_callI0G (c1 := 82) (c2 := 16157) gd_X10_init dL_law_4 ml_RL_17 im_X10_init rfl rfl (by exact Nat.le_of_ble_eq_true rfl) (by decide) (i_X10_init_0 (Ls := Ls) hz) ?_
  rintro r S9 H1 ⟨Hx, e, a1, a2, a3, a4, a5, a6, a7, a8, a9, a10, a11, a12⟩
  cases e
  refine xq_astore_n dL_law_7 rfl rfl ?_
  refine xq_new clX11 dL_law_8 ck_RL_18 inst_X11 ini_X11 dflt_X11 ?_
  rw [tS_z, tS_n (n := 83) (m := 83) (sh := (6, 11)) rfl (by decide +kernel), nH_id a11 rfl (by decide)]
  refine xq_dup dL_law_11 rfl ?_
  refine xq_callI0G (c1 := 35) (c2 := 87634) gd_X11_init dL_law_12 ml_RL_20 im_X11_init rfl rfl (by exact Nat.le_of_ble_eq_true rfl) (by decide) (i_X11_init_83 (Ls := Ls) a11) ?_
  rintro r S9 H2 ⟨Hy, e, b1, b2, b3, b4, b5, b6, b7⟩
  cases e
  refine xq_astore_n dL_law_15 rfl rfl ?_
  refine xq_iconst dL_law_16 ic1 ?_
  refine xq_newl (n := 1) dL_law_17 ac_long (nq_lt0 (by decide)) (nI_clamp (by decide)) (by decide) ?_
  have hz2 : ZaP 119 H2 := (a11.mo (by decide : 83 ≤ 119)).off b7 (fun q h1 h2 => by omega)
  rw [nH_id hz2 rfl (by decide), tS_z]
  refine xq_astore_n dL_law_19 rfl rfl ?_
  refine xq_iconst dL_law_20 ic0 ?_
  refine xq_istore dL_law_21 rfl ?_
  refine lw_loop (i := 0) (xs := xs) h3 hQ 512 rfl ?_
  have hF : gFx (nS (tS Ls 119 118) (4, 1)) := (sex_n (4, 1)).fx tS_fx
  have h0 : LnI tx0 (fun _ _ => 0) := ln0
  have g0 : ∀ k, hI H2 0 k = 0 := fun k => (b7.I (by omega) k).trans (a4 k)
  refine ⟨⟨hF, tS_o, tS_sc, Nat.le_refl _, fun j hj => ?_⟩, Nat.le_refl _, tx0, begU tx0, 0, fun _ => begU tx0, false, begU tx0, 0, fun _ => 0, 0, -1, 24, 45, 0, 0, fun _ => none, fun _ _ => 0, fun _ => true, fun _ _ => true, fun _ => true, ?_, ?_, ?_, Nat.le_refl _⟩
  · rw [b7.I (by omega), a12.I (by omega)]; exact hx j hj
  · exact ⟨⟨hF, Or.inl rfl, (b7.R (by omega) 6).trans a5, a8.off b7 (fun j hj => by omega), h0.tx, a9.off b7 (fun j hj => by omega), ok_beg h0, rfl, a10.off b7 (by omega) (by omega), by decide, by show 0 + 40000 ≤ 100000000; decide, by show 0 + 40000 ≤ 100000000; decide, by show 0 ≤ 9800; decide⟩, (b7.R (by omega) 7).trans a6, Or.inl ⟨rfl, rfl⟩, ⟨g0 15, g0 14, by decide, by decide, fun j hj => (b7.R (by omega) j).trans (a7 j), (fun j hj c hc => by cases hc), (fun j hj k hk hne c d hc hd => by cases hc)⟩, fun j hj => absurd hj (Nat.not_lt_zero j), g0 12, (fun e => by cases e), ⟨g0 1, fun j hj => absurd hj (Nat.not_lt_zero j)⟩, fun w hw => (b7.I (by omega) w).trans (a1 w hw), ⟨0, (b7.I (by omega) 6).trans (a3 6 (by decide))⟩, (b7.I (by omega) 7).trans (a3 7 (by decide)), (b7.I (by omega) 8).trans a2⟩
  · exact ⟨⟨⟨hF, b1, b2, h0.tx, h0.tw, h0.nx, h0.tt⟩, b3, LfR.beg h0.tt, ok_beg h0⟩, ⟨b6 47 (by decide) (by decide) (by decide) (by decide), by decide, fun j hj => absurd hj (Nat.not_lt_zero j)⟩, ⟨b6 57 (by decide) (by decide) (by decide) (by decide), b5⟩, b6 46 (by decide) (by decide) (by decide) (by decide), (fun e => by cases e), ⟨b6 2 (by decide) (by decide) (by decide) (by decide), fun j hj => absurd hj (Nat.not_lt_zero j)⟩, b6 28 (by decide) (by decide) (by decide) (by decide), b4⟩
  · exact ⟨⟨_, h0⟩, ⟨gd_beg h0, ok_beg h0, Nat.zero_le _, Nat.zero_le _, by show 0 ≤ 9800; decide⟩, fun j hj => absurd hj (Nat.not_lt_zero j), (fun e => by cases e), by decide, fun j hj => absurd hj (Nat.not_lt_zero j)⟩
end LWS2
