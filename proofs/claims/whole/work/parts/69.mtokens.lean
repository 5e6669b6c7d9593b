/-! ===== the reference among the tokens ===== -/
section MLd
variable {S : xS} {H H1 H2 H3 : xH} {b : Nat → Nat} {n e e2 p q i j k x w m K V : Nat} {A F : Nat → Prop} {so va : Int32} {s : uTk} {f : Nat → Nat}
theorem MsV.en (V : Nat) : MsV (nI 4) va 44 V := ⟨fun z => by omega, fun z => by omega, fun z => by omega, fun z => by omega, fun _ => rfl, fun z => absurd (sgc_0 (by omega)) z⟩
def MtP (S : xS) (H : xH) (b : Nat → Nat) (n : Nat) (s : uTk) (j : Nat) : Prop := (gFx S) ∧ (hI H 83 21 = nI n) ∧ (∀ i, i < n → hI H 84 i = nI (b i) ∧ b i < 256) ∧ (n ≤ 700) ∧ (LexQ b n s) ∧ (TrOk s) ∧ (j < kSz s) ∧ (hI H 83 23 = nI (kPl s j)) ∧ (hI H 83 22 = nI (if j + 1 < kSz s then opE b n (kPl s j) else n)) ∧ (MsV (hI H 83 24) (hI H 83 25) (kK s j) (kV s j)) ∧ (hI H 83 27 = -1)
theorem MtP.fx {S : xS} {H : xH} {b : Nat → Nat} {n : Nat} {s : uTk} {j : Nat} (h : MtP S H b n s j) : gFx S := h.1
theorem MtP.sz {S : xS} {H : xH} {b : Nat → Nat} {n : Nat} {s : uTk} {j : Nat} (h : MtP S H b n s j) : hI H 83 21 = nI n := h.2.1
theorem MtP.ta {S : xS} {H : xH} {b : Nat → Nat} {n : Nat} {s : uTk} {j : Nat} (h : MtP S H b n s j) : ∀ i, i < n → hI H 84 i = nI (b i) ∧ b i < 256 := h.2.2.1
theorem MtP.n7 {S : xS} {H : xH} {b : Nat → Nat} {n : Nat} {s : uTk} {j : Nat} (h : MtP S H b n s j) : n ≤ 700 := h.2.2.2.1
theorem MtP.lx {S : xS} {H : xH} {b : Nat → Nat} {n : Nat} {s : uTk} {j : Nat} (h : MtP S H b n s j) : LexQ b n s := h.2.2.2.2.1
theorem MtP.ok {S : xS} {H : xH} {b : Nat → Nat} {n : Nat} {s : uTk} {j : Nat} (h : MtP S H b n s j) : TrOk s := h.2.2.2.2.2.1
theorem MtP.js {S : xS} {H : xH} {b : Nat → Nat} {n : Nat} {s : uTk} {j : Nat} (h : MtP S H b n s j) : j < kSz s := h.2.2.2.2.2.2.1
theorem MtP.pl {S : xS} {H : xH} {b : Nat → Nat} {n : Nat} {s : uTk} {j : Nat} (h : MtP S H b n s j) : hI H 83 23 = nI (kPl s j) := h.2.2.2.2.2.2.2.1
theorem MtP.at {S : xS} {H : xH} {b : Nat → Nat} {n : Nat} {s : uTk} {j : Nat} (h : MtP S H b n s j) : hI H 83 22 = nI (if j + 1 < kSz s then opE b n (kPl s j) else n) := h.2.2.2.2.2.2.2.2.1
theorem MtP.ms {S : xS} {H : xH} {b : Nat → Nat} {n : Nat} {s : uTk} {j : Nat} (h : MtP S H b n s j) : MsV (hI H 83 24) (hI H 83 25) (kK s j) (kV s j) := h.2.2.2.2.2.2.2.2.2.1
theorem MtP.fp {S : xS} {H : xH} {b : Nat → Nat} {n : Nat} {s : uTk} {j : Nat} (h : MtP S H b n s j) : hI H 83 27 = -1 := h.2.2.2.2.2.2.2.2.2.2
theorem MtP.off (h : MtP S H b n s j) (ho : MoF A F H H2) (h84 : ¬ A 84) (hf : ∀ k, 21 ≤ k → k ≤ 27 → ¬ F k) : MtP S H2 b n s j := ⟨h.fx, (ho.2 21 (hf _ (by decide) (by decide))).trans h.sz, fun i hi => by rw [ho.1.I h84]; exact h.ta i hi, h.n7, h.lx, h.ok, h.js, (ho.2 23 (hf _ (by decide) (by decide))).trans h.pl, (ho.2 22 (hf _ (by decide) (by decide))).trans h.at, by rw [ho.2 24 (hf _ (by decide) (by decide)), ho.2 25 (hf _ (by decide) (by decide))]; exact h.ms, (ho.2 27 (hf _ (by decide) (by decide))).trans h.fp⟩
/-- behind a call of token -/
theorem tk_at (fx : gFx S) (sz : hI H2 83 21 = nI n) (ta : ∀ i, i < n → hI H2 84 i = nI (b i) ∧ b i < 256) (n7 : n ≤ 700) (lx : LexQ b n s) (ok : TrOk s) (hj : j < kSz s) (hp : kPl s j = p) (ht : TkM H2 b n p) (h27 : hI H2 83 27 = -1) : MtP S H2 b n s j := by
  subst hp
  by_cases e : j + 1 < kSz s
  · obtain ⟨a1, a2, a3, a4⟩ := lx.2.2.1 j e
    obtain ⟨c1, c2⟩ := ht.2.2 a1
    refine ⟨fx, sz, ta, n7, lx, ok, hj, ht.1, by rw [if_pos e]; exact c1, ?_, h27⟩
    unfold kK kV
    rw [if_pos hj, if_pos hj, a3, a4]
    exact c2
  · have ej : j = kSz s - 1 := by omega
    have ep : kPl s j = n := by rw [ej]; exact lx.2.2.2.1
    obtain ⟨c1, c2⟩ := ht.2.1 (by omega)
    refine ⟨fx, sz, ta, n7, lx, ok, hj, ht.1, by rw [if_neg e]; exact c1, ?_, h27⟩
    have ek : kK s j = 44 := by unfold kK; rw [if_pos hj, ej]; exact lx.2.2.2.2
    rw [ek, c2]
    exact MsV.en _
theorem m_tok0 (hx : LxP S H b n 0) (lx : LexQ b n s) (ok : TrOk s) (h27 : hI H 83 27 = -1) : Nv mX11_token 6 [.ref 83] S H (fun H' => MtP S H' b n s 0 ∧ MoF (fun q => q = 83) (fun k => k = 22 ∨ k = 23 ∨ k = 24 ∨ k = 25) H H') := by
  obtain ⟨R, ⟨H', hq, hR⟩, hE⟩ := m_token hx
  refine ⟨R, ⟨H', ⟨tk_at hx.fx ((hq.2.2 21 (by decide)).trans hx.sz) (fun i hi => by rw [hq.2.1.I (by decide)]; exact hx.ta i hi) hx.n7 lx ok lx.1 lx.2.1 hq.1 ((hq.2.2 27 (by decide)).trans h27), hq.2⟩, hR⟩, hE⟩
theorem m_tok (hm : MtP S H b n s j) (hj : j + 1 < kSz s) : Nv mX11_token 6 [.ref 83] S H (fun H' => MtP S H' b n s (j + 1) ∧ MoF (fun q => q = 83) (fun k => k = 22 ∨ k = 23 ∨ k = 24 ∨ k = 25) H H') := by
  obtain ⟨a1, a2, a3, a4⟩ := hm.lx.2.2.1 j hj
  have hx : LxP S H b n (opE b n (kPl s j)) := ⟨hm.fx, hm.sz, by have := hm.at; rw [if_pos hj] at this; exact this, hm.ta, hm.n7, opE_le a1⟩
  obtain ⟨R, ⟨H', hq, hR⟩, hE⟩ := m_token hx
  refine ⟨R, ⟨H', ⟨tk_at hx.fx ((hq.2.2 21 (by decide)).trans hx.sz) (fun i hi => by rw [hq.2.1.I (by decide)]; exact hx.ta i hi) hx.n7 hm.lx hm.ok hj a2 hq.1 ((hq.2.2 27 (by decide)).trans hm.fp), hq.2⟩, hR⟩, hE⟩
theorem kK_in (h : kK s j ≠ 44) (lx : LexQ b n s) : j + 1 < kSz s := by
  apply Classical.byContradiction
  intro z
  apply h
  unfold kK
  by_cases e : j < kSz s
  · rw [if_pos e, show j = kSz s - 1 by omega]; exact lx.2.2.2.2
  · rw [if_neg e]
theorem m_wrong0 (hF : gFx S) (h26 : hI H 83 26 = nI 0) (hp : hI H 83 23 = nI p) : Nv mX11_wrong 0 [.ref 83, vN x] S H (fun H' => H' = sI (sI H 83 26 (nI x)) 83 27 (nI p)) := by
  refine vq_intro (by decide) (by exact Nat.le_of_ble_eq_true rfl) rfl ?_
  refine xq_aload_n dX11_wrong_0 rfl rfl ?_
  refine xq_getIE (v := nI 0) clX11 (by decide) rfl fl_RX11_182 dX11_wrong_1 (Fx.s83 hF) h26 ?_
  refine xq_if_eqN dX11_wrong_4 rfl (by omega) ⟨fun h4 => ?_, fun h4 => ?_⟩
  · skip
    refine xq_aload_n dX11_wrong_8 rfl rfl ?_
    refine xq_iload_n dX11_wrong_9 rfl rfl ?_
    refine xq_putI clX11 (by decide) rfl fl_RX11_182 (Or.inl rfl) dX11_wrong_10 ⟨rfl, rfl⟩ (Fx.s83 hF) ?_
    refine xq_aload_n dX11_wrong_13 rfl rfl ?_
    refine xq_aload_n dX11_wrong_14 rfl rfl ?_
    refine xq_getIE (v := nI p) clX11 (by decide) rfl fl_RX11_144 dX11_wrong_15 (Fx.s83 hF) (by rw [hI_sI, if_neg (by omega)]; exact hp) ?_
    refine xq_putI clX11 (by decide) rfl fl_RX11_185 (Or.inl rfl) dX11_wrong_18 ⟨rfl, rfl⟩ (Fx.s83 hF) ?_
    refine xq_vret dX11_wrong_21 rfl ?_
    exact ⟨_, rfl, rfl⟩
  · skip
    exact absurd rfl h4
theorem m_wrong1 (hF : gFx S) (h26 : hI H 83 26 = nI m) (hm : 0 < m) (hm2 : m < 100) : Nv mX11_wrong 0 [.ref 83, vN x] S H (fun H' => H' = H) := by
  refine vq_intro (by decide) (by exact Nat.le_of_ble_eq_true rfl) rfl ?_
  refine xq_aload_n dX11_wrong_0 rfl rfl ?_
  refine xq_getIE (v := nI m) clX11 (by decide) rfl fl_RX11_182 dX11_wrong_1 (Fx.s83 hF) h26 ?_
  refine xq_if_eqN dX11_wrong_4 rfl (by omega) ⟨fun h4 => ?_, fun h4 => ?_⟩
  · skip
    exact absurd h4 (by omega)
  · skip
    refine xq_vret dX11_wrong_7 rfl ?_
    exact ⟨_, rfl, rfl⟩
/-- a word's sort stands only where a word stands -/
theorem MsV_w (h : MsV so va K V) (hK : K ≤ 44) (h0 : so = 0) : K < 28 ∧ va = nI K := by
  by_cases e : K < 28
  · exact ⟨e, (h.1 e).2⟩
  · exfalso
    have hs : ∀ y : Nat, y < 10 → 0 < y → so = nI y → False := fun y h1 h2 h3 => by
      rw [h0] at h3
      have := (nq_eq (x := 0) (y := y) (by decide) (by omega)).mp h3
      omega
    by_cases c1 : K = 39
    · exact hs 1 (by decide) (by decide) (h.2.1 c1).1
    by_cases c2 : K = 38
    · exact hs 2 (by decide) (by decide) (h.2.2.1 c2).1
    by_cases c3 : K = 43
    · exact hs 5 (by decide) (by decide) (h.2.2.2.1 c3)
    by_cases c4 : K = 44
    · exact hs 4 (by decide) (by decide) (h.2.2.2.2.1 c4)
    · have : sgc K ≠ 0 := by
        have : ∀ K : Fin 45, ¬ K.val < 28 → K.val ≠ 39 → K.val ≠ 38 → K.val ≠ 43 → K.val ≠ 44 → sgc K.val ≠ 0 := by decide
        exact this ⟨K, by omega⟩ e c1 c2 c3 c4
      exact hs 3 (by decide) (by decide) (h.2.2.2.2.2 this).1
theorem m_isWord (hF : gFx S) (h26 : hI H 83 26 = nI 0) (hm : MtP S H b n s j) (hw : w < 28) : Pv mX11_isWord 0 [.ref 83, vN w] S H (vB (decide (kK s j = w))) := by
  have hk : (hI H 83 24 = 0 ∧ hI H 83 25 = nI w) ↔ kK s j = w := by
    have hms := hm.ms
    have hkl : kK s j ≤ 44 := kK_le hm.ok
    constructor
    · rintro ⟨z1, z2⟩
      have g := MsV_w hms hkl z1
      rw [g.2, nq_eq (by omega) (by omega)] at z2
      exact z2
    · intro z
      have := hms.1 (by omega)
      exact ⟨this.1, by rw [this.2, z]⟩
  refine vq_ev (vq_intro (by decide) (by exact Nat.le_of_ble_eq_true rfl) rfl ?_)
  refine xq_aload_n dX11_isWord_0 rfl rfl ?_
  refine xq_getIE (v := nI 0) clX11 (by decide) rfl fl_RX11_182 dX11_isWord_1 (Fx.s83 hF) h26 ?_
  refine xq_if_neN dX11_isWord_4 rfl (by omega) ⟨fun h4 => ?_, fun h4 => ?_⟩
  · skip
    exact absurd rfl h4
  · skip
    refine xq_aload_n dX11_isWord_7 rfl rfl ?_
    refine xq_getI clX11 (by decide) rfl fl_RX11_147 dX11_isWord_8 (Fx.s83 hF) ?_
    refine xq_if_ne dX11_isWord_11 rfl ⟨fun h11 => ?_, fun h11 => ?_⟩
    · skip
      refine xq_iconst dX11_isWord_26 ic0 ?_
      refine xq_zret dX11_isWord_27 rfl (by decide) ?_
      show _ = _
      rw [decide_eq_false (fun z => h11 (hk.mpr z).1)]; rfl
    · skip
      refine xq_aload_n dX11_isWord_14 rfl rfl ?_
      refine xq_getI clX11 (by decide) rfl fl_RX11_157 dX11_isWord_15 (Fx.s83 hF) ?_
      refine xq_iload_n dX11_isWord_18 rfl rfl ?_
      refine xq_icmp_ne dX11_isWord_19 rfl ⟨fun h19 => ?_, fun h19 => ?_⟩
      · skip
        refine xq_iconst dX11_isWord_26 ic0 ?_
        refine xq_zret dX11_isWord_27 rfl (by decide) ?_
        show _ = _
        rw [decide_eq_false (fun z => h19 (hk.mpr z).2)]; rfl
      · skip
        refine xq_iconst dX11_isWord_22 ic1 ?_
        refine xq_goto dX11_isWord_23 rfl ?_
        refine xq_zret dX11_isWord_27 rfl (by decide) ?_
        show _ = _
        rw [decide_eq_true (hk.mp ⟨h11, h19⟩)]; rfl
end MLd
