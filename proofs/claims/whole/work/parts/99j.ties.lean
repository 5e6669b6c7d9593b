/-! ===== the queries, the class's and the reference's ===== -/
section TIQ
variable {Ls i : Nat} {xs : Nat → Int32} {S : xS} {H : xH} {w w2 w3 : Int32} {K n : Nat}
theorem toI_n (h : ¬ (w.toInt < 0 ∨ (K : Int) < w.toInt)) : ∃ l, l < K + 1 ∧ w = nI l := hasB_k (n := K + 1) (decide_eq_true ⟨by omega, by omega⟩)
theorem nn_n (h : ¬ w < 0) : ∃ k, k < 2147483648 ∧ w = nI k := by
  rw [Int32.lt_iff_toInt_lt] at h
  have h0 : (0 : Int32).toInt = 0 := rfl
  have := Int32.toInt_lt w
  exact hasB_k (n := 2147483648) (decide_eq_true ⟨by omega, by omega⟩)
theorem le_n (h : ¬ w < 0) (hK : K < 2147483648) (h2 : ¬ nI K < w) : ∃ k, k < K + 1 ∧ w = nI k := by
  obtain ⟨k, k1, rfl⟩ := nn_n h
  exact ⟨k, by rw [nq_ltI hK k1] at h2; omega, rfl⟩
theorem le_n2 (h : ¬ w < 0) (hK : K < 2147483648) (h2 : w ≤ nI K) : ∃ k, k < K + 1 ∧ w = nI k := by
  obtain ⟨k, k1, rfl⟩ := nn_n h
  exact ⟨k, by rw [nq_leI k1 hK] at h2; omega, rfl⟩
theorem one2 : (w = 0 ∨ w = nI 1) ↔ (¬ w < 0 ∧ w ≤ nI 1) := by
  constructor
  · rintro (rfl | rfl) <;> decide
  · rintro ⟨h1, h2⟩
    obtain ⟨k, k1, rfl⟩ := le_n2 h1 (by decide) h2
    rcases (show k = 0 ∨ k = 1 by omega) with rfl | rfl
    · exact Or.inl rfl
    · exact Or.inr rfl
theorem hasB_f {p : Int32} (h : ¬ hasB p n = true) : hasB p n = false := by simpa using h
theorem tie_fault (g : GI Ls xs i S H) (hi : i < 513) (w : Int32) : ∃ v : Int32, Tie Ls xs i mX10_fault mX11_fault 0 0 0 0 [.ref 0, .int w] [.ref 83, .int w] S H (.int v) := by
  obtain ⟨hs, hZ, T, u, ps, L, img, ui, n, b, fa, fp, t, sp, z, pn, A, N, lf, LF, lfi, hk, hm, hp, hz⟩ := g
  have hr := hk.1
  exact ⟨_, tie_q hs hZ hi hk hm hp hz (cq_p (c_fault hs.1 hk.2.2.2.2.2.2.2.2.2.2.1 hk.2.2.2.2.2.2.2.2.2.2.2) rfl hr.mi) (fun H1 hm1 => mq_h (m_fault hm1.1.ms.fx hm1.2.2.2.2.2.2.1 hm1.2.2.2.2.2.2.2) (fun y H2 q => q) rfl)⟩
theorem tie_named (g : GI Ls xs i S H) (hi : i < 513) (w w2 : Int32) : ∃ v : Int32, Tie Ls xs i mX10_named mX11_named 1 1 0 0 [.ref 0, .int w, .int w2] [.ref 83, .int w, .int w2] S H (.int v) := by
  obtain ⟨hs, hZ, T, u, ps, L, img, ui, n, b, fa, fp, t, sp, z, pn, A, N, lf, LF, lfi, hk, hm, hp, hz⟩ := g
  have hr := hk.1
  by_cases hno : w.toInt < 0 ∨ 2 < w.toInt
  · exact ⟨_, tie_q hs hZ hi hk hm hp hz (cq_p (c_named0 hr hno) rfl hr.mi) (fun H1 hm1 => mq_h (m_named0 hm1.1 hno) (fun y H2 q => q) rfl)⟩
  · obtain ⟨l, hl, rfl⟩ := toI_n (K := 2) hno
    exact ⟨_, tie_q hs hZ hi hk hm hp hz (cq_p (c_named1 hr hl) rfl hr.mi) (fun H1 hm1 => mq_h (m_named1 hm1.1 hl) (fun y H2 q => q) rfl)⟩
theorem tie_own (g : GI Ls xs i S H) (hi : i < 513) (w : Int32) : ∃ v : Int32, Tie Ls xs i mX10_own mX11_own 4 5 0 0 [.ref 0, .int w] [.ref 83, .int w] S H (.int v) := by
  obtain ⟨hs, hZ, T, u, ps, L, img, ui, n, b, fa, fp, t, sp, z, pn, A, N, lf, LF, lfi, hk, hm, hp, hz⟩ := g
  have hr := hk.1
  by_cases hno : hasB w (tNp T) = false
  · exact ⟨_, tie_q hs hZ hi hk hm hp hz (cq_p (c_own0 hr hno) rfl hr.mi) (fun H1 hm1 => mq_h (m_own0 hm1.1 hno) (fun y H2 q => q) rfl)⟩
  · obtain ⟨p, hp2, rfl⟩ := hasB_k (show hasB w (tNp T) = true by simpa using hno)
    exact ⟨_, tie_q hs hZ hi hk hm hp hz (cq_p (c_own1 hr hp2) rfl hr.mi) (fun H1 hm1 => mq_h (m_own1 hm1.1 hp2) (fun y H2 q => q) rfl)⟩
theorem tie_world (g : GI Ls xs i S H) (hi : i < 513) (w w2 : Int32) : ∃ v : Int32, Tie Ls xs i mX10_world mX11_world 2 1 0 0 [.ref 0, .int w, .int w2] [.ref 83, .int w, .int w2] S H (.int v) := by
  obtain ⟨hs, hZ, T, u, ps, L, img, ui, n, b, fa, fp, t, sp, z, pn, A, N, lf, LF, lfi, hk, hm, hp, hz⟩ := g
  have hr := hk.1
  by_cases hno : w < 0 ∨ hasB w2 (tNp T) = false
  · exact ⟨_, tie_q hs hZ hi hk hm hp hz (cq_p (c_world0 hr hno) rfl hr.mi) (fun H1 hm1 => mq_h (m_world0 hm1.1 hno) (fun y H2 q => q) rfl)⟩
  · obtain ⟨k, hk2, rfl⟩ := nn_n (fun z => hno (Or.inl z))
    obtain ⟨p, hp2, rfl⟩ := hasB_k (show hasB w2 (tNp T) = true by simpa using fun z => hno (Or.inr z))
    exact ⟨_, tie_q hs hZ hi hk hm hp hz (cq_p (c_world1 hr hk2 hp2) rfl hr.mi) (fun H1 hm1 => mq_h (m_world1 hm1.1 hk2 hp2) (fun y H2 q => q) rfl)⟩
theorem tie_real (g : GI Ls xs i S H) (hi : i < 513) : ∃ v : Int32, Tie Ls xs i mX10_real mX11_real 0 0 0 0 [.ref 0] [.ref 83] S H (.int v) := by
  obtain ⟨hs, hZ, T, u, ps, L, img, ui, n, b, fa, fp, t, sp, z, pn, A, N, lf, LF, lfi, hk, hm, hp, hz⟩ := g
  have hr := hk.1
  exact ⟨_, tie_q hs hZ hi hk hm hp hz (cq_p (c_real hr) rfl hr.mi) (fun H1 hm1 => mq_h (m_real hm1.1) (fun y H2 q => q) rfl)⟩
theorem tie_is (g : GI Ls xs i S H) (hi : i < 513) (w : Int32) : ∃ v : Int32, Tie Ls xs i mX10_is mX11_is 4 5 0 0 [.ref 0, .int w] [.ref 83, .int w] S H (.int v) := by
  obtain ⟨hs, hZ, T, u, ps, L, img, ui, n, b, fa, fp, t, sp, z, pn, A, N, lf, LF, lfi, hk, hm, hp, hz⟩ := g
  have hr := hk.1
  by_cases hno : hasB w (tNf T) = false
  · exact ⟨_, tie_q hs hZ hi hk hm hp hz (cq_p (c_is0 hr hno) rfl hr.mi) (fun H1 hm1 => mq_h (m_is0 hm1.1 hno) (fun y H2 q => q) rfl)⟩
  · obtain ⟨f, hf, rfl⟩ := hasB_k (show hasB w (tNf T) = true by simpa using hno)
    exact ⟨_, tie_q hs hZ hi hk hm hp hz (cq_h (c_is1 hr hf) (fun y H1 ⟨q1, q2, t2, q3, q4⟩ => ⟨q1, q2.mo (fun q z => by omega), t2, by omega, q4⟩) rfl) (fun H1 hm1 => mq_h (m_is1 hm1.1 hf) (fun y H2 q => q) rfl)⟩
theorem tie_common (g : GI Ls xs i S H) (hi : i < 513) (w : Int32) : ∃ v : Int32, Tie Ls xs i mX10_common mX11_common 4 6 0 0 [.ref 0, .int w] [.ref 83, .int w] S H (.int v) := by
  obtain ⟨hs, hZ, T, u, ps, L, img, ui, n, b, fa, fp, t, sp, z, pn, A, N, lf, LF, lfi, hk, hm, hp, hz⟩ := g
  have hr := hk.1
  by_cases hno : hasB w (tNf T) = false
  · exact ⟨_, tie_q hs hZ hi hk hm hp hz (cq_p (c_common0 hr hno) rfl hr.mi) (fun H1 hm1 => mq_h (m_common0 hm1.1 hno) (fun y H2 q => q) rfl)⟩
  · obtain ⟨f, hf, rfl⟩ := hasB_k (show hasB w (tNf T) = true by simpa using hno)
    exact ⟨_, tie_q hs hZ hi hk hm hp hz (cq_h (c_common1 hr hf) (fun y H1 ⟨q1, q2, t2, q3, q4⟩ => ⟨q1, q2.mo (fun q z => by omega), t2, by omega, q4⟩) rfl) (fun H1 hm1 => mq_h (m_common1 hm1.1 hf) (fun y H2 q => q) rfl)⟩
theorem tie_depth (g : GI Ls xs i S H) (hi : i < 513) (w : Int32) : ∃ v : Int32, Tie Ls xs i mX10_depth mX11_depth 4 6 0 0 [.ref 0, .int w] [.ref 83, .int w] S H (.int v) := by
  obtain ⟨hs, hZ, T, u, ps, L, img, ui, n, b, fa, fp, t, sp, z, pn, A, N, lf, LF, lfi, hk, hm, hp, hz⟩ := g
  have hr := hk.1
  by_cases hno : hasB w (tNf T) = false
  · exact ⟨_, tie_q hs hZ hi hk hm hp hz (cq_p (c_depth0 hr hno) rfl hr.mi) (fun H1 hm1 => mq_h (m_depth0 hm1.1 hno) (fun y H2 q => q) rfl)⟩
  · obtain ⟨f, hf, rfl⟩ := hasB_k (show hasB w (tNf T) = true by simpa using hno)
    exact ⟨_, tie_q hs hZ hi hk hm hp hz (cq_h (c_depth1 hr hf) (fun y H1 ⟨q1, q2, t2, q3, q4⟩ => ⟨q1, q2.mo (fun q z => by omega), t2, by omega, q4⟩) rfl) (fun H1 hm1 => mq_h (m_depth1 hm1.1 hf) (fun y H2 q => q) rfl)⟩
theorem tie_sure (g : GI Ls xs i S H) (hi : i < 513) (w w2 : Int32) : ∃ v : Int32, Tie Ls xs i mX10_sure mX11_sure 4 5 0 0 [.ref 0, .int w, .int w2] [.ref 83, .int w, .int w2] S H (.int v) := by
  obtain ⟨hs, hZ, T, u, ps, L, img, ui, n, b, fa, fp, t, sp, z, pn, A, N, lf, LF, lfi, hk, hm, hp, hz⟩ := g
  have hr := hk.1
  by_cases hno : ¬ (hasB w (tNp T) = true ∧ hasB w2 (tNf T) = true)
  · exact ⟨_, tie_q hs hZ hi hk hm hp hz (cq_p (c_sure0 hr hno) rfl hr.mi) (fun H1 hm1 => mq_h (m_sure0 hm1.1 hno) (fun y H2 q => q) rfl)⟩
  · obtain ⟨a1, a2⟩ := Classical.not_not.mp hno
    obtain ⟨p, hp2, rfl⟩ := hasB_k a1
    obtain ⟨f, hf, rfl⟩ := hasB_k a2
    exact ⟨_, tie_q hs hZ hi hk hm hp hz (cq_h (c_sure1 hr hp2 hf) (fun y H1 ⟨q1, q2, t2, q3, q4⟩ => ⟨q1, q2.mo (fun q z => by omega), t2, by omega, q4⟩) rfl) (fun H1 hm1 => mq_h (m_sure1 hm1.1 hp2 hf) (fun y H2 q => q) rfl)⟩
theorem tie_law (g : GI Ls xs i S H) (hi : i < 513) (w w2 : Int32) : ∃ v : Int64, Tie Ls xs i mX10_law mX11_law 5 5 0 0 [.ref 0, .int w, .int w2] [.ref 83, .int w, .int w2] S H (.long v) := by
  obtain ⟨hs, hZ, T, u, ps, L, img, ui, n, b, fa, fp, t, sp, z, pn, A, N, lf, LF, lfi, hk, hm, hp, hz⟩ := g
  have hr := hk.1
  by_cases hw : w = 0 ∨ w = nI 1
  · obtain ⟨l, hl, rfl⟩ : ∃ l, l < 2 ∧ w = nI l := by
      rcases hw with rfl | rfl
      · exact ⟨0, by decide, rfl⟩
      · exact ⟨1, by decide, rfl⟩
    by_cases hno : hasB w2 (tNp T) = false
    · exact ⟨_, tie_q hs hZ hi hk hm hp hz (cq_p (c_law0 hr (fun z => by rw [hno] at z; cases z.2)) rfl hr.mi) (fun H1 hm1 => mq_h (m_law0a hm1.1 hl hno) (fun y H2 q => q) rfl)⟩
    · obtain ⟨p, hp2, rfl⟩ := hasB_k (show hasB w2 (tNp T) = true by simpa using hno)
      exact ⟨_, tie_q hs hZ hi hk hm hp hz (cq_h (c_law1 hr hl hp2) (fun y H1 ⟨q1, q2⟩ => ⟨q1, q2.mo (fun q z => by omega), z, by omega, hr.mi.off q2 (by omega) (by omega)⟩) rfl) (fun H1 hm1 => mq_h (m_law1 hm1.1 hl hp2) (fun y H2 q => q) rfl)⟩
  · exact ⟨_, tie_q hs hZ hi hk hm hp hz (cq_p (c_law0 hr (fun z => hw z.1)) rfl hr.mi) (fun H1 hm1 => mq_h (m_law0b hm1.1 hw) (fun y H2 q => q) rfl)⟩
theorem tie_ahead (g : GI Ls xs i S H) (hi : i < 513) (w w2 w3 : Int32) : ∃ v : Int32, Tie Ls xs i mX10_ahead mX11_ahead 7 9 0 0 [.ref 0, .int w, .int w2, .int w3] [.ref 83, .int w, .int w2, .int w3] S H (.int v) := by
  obtain ⟨hs, hZ, T, u, ps, L, img, ui, n, b, fa, fp, t, sp, z, pn, A, N, lf, LF, lfi, hk, hm, hp, hz⟩ := g
  have hr := hk.1
  by_cases hno : ¬ (¬ w < 0 ∧ ¬ nI 200 < w ∧ ¬ w2 < 0 ∧ ¬ nI 4 < w2 ∧ (w2 = nI 3 → hasB w3 (tNp T) = true))
  · exact ⟨_, tie_q hs hZ hi hk hm hp hz (cq_p (c_ahead0 hr hno) rfl hr.mi) (fun H1 hm1 => mq_h (m_ahead0 hm1.1 hno) (fun y H2 q => q) rfl)⟩
  · obtain ⟨a1, a2, a3, a4, a5⟩ := Classical.not_not.mp hno
    obtain ⟨n9, hn9, rfl⟩ := le_n a1 (by decide) a2
    obtain ⟨l, hl, rfl⟩ := le_n a3 (by decide) a4
    have h3 : l = 3 → ∃ p, p < tNp T ∧ w3 = nI p := fun e => hasB_k (a5 (by rw [e]))
    exact ⟨_, tie_q hs hZ hi hk hm hp hz (cq_h (c_ahead1 hr (by omega) hl h3) (fun y H1 ⟨q1, q2, t2, q3, q4⟩ => ⟨q1, q2.mo (fun q z => by omega), t2, by omega, q4⟩) rfl) (fun H1 hm1 => mq_t (m_ahead1 hm1.1 hm1.2.2.1 hr.hd hr.li hr.h9 (by omega) hl h3) (fun y H2 q => q) rfl)⟩
theorem tie_willKnow (g : GI Ls xs i S H) (hi : i < 513) (w : Int32) : ∃ v : Int32, Tie Ls xs i mX10_willKnow mX11_willKnow 7 8 0 0 [.ref 0, .int w] [.ref 83, .int w] S H (.int v) := by
  obtain ⟨hs, hZ, T, u, ps, L, img, ui, n, b, fa, fp, t, sp, z, pn, A, N, lf, LF, lfi, hk, hm, hp, hz⟩ := g
  have hr := hk.1
  by_cases hno : hasB w (tNp T) = false
  · exact ⟨_, tie_q hs hZ hi hk hm hp hz (cq_p (c_willKnow0 hr hno) rfl hr.mi) (fun H1 hm1 => mq_h (m_willKnow0 hm1.1 hno) (fun y H2 q => q) rfl)⟩
  · obtain ⟨p, hp2, rfl⟩ := hasB_k (show hasB w (tNp T) = true by simpa using hno)
    exact ⟨_, tie_q hs hZ hi hk hm hp hz (cq_h (c_willKnow1 hr hp2) (fun y H1 ⟨q1, q2, t2, q3, q4⟩ => ⟨q1, q2.mo (fun q z => by omega), t2, by omega, q4⟩) rfl) (fun H1 hm1 => mq_t (m_willKnow1 hm1.1 hm1.2.2.1 hr.hd hr.li hr.h9 hp2) (fun y H2 q => q) rfl)⟩
theorem tie_parts (g : GI Ls xs i S H) (hi : i < 513) : ∃ v : Int32, Tie Ls xs i mX10_parts mX11_parts 2 5 0 0 [.ref 0] [.ref 83] S H (.int v) := by
  obtain ⟨hs, hZ, T, u, ps, L, img, ui, n, b, fa, fp, t, sp, z, pn, A, N, lf, LF, lfi, hk, hm, hp, hz⟩ := g
  have hr := hk.1
  exact ⟨_, tie_q hs hZ hi hk hm hp hz (cq_h (c_parts hr) (fun y H1 ⟨q1, q2, ⟨t2, q3, q4⟩, q5⟩ => ⟨q1, q2.mo (fun q z => by omega), t2, by omega, q4⟩) rfl) (fun H1 hm1 => mq_h (m_parts hm1.1) (fun y H2 q => q) rfl)⟩
theorem tie_rounds (g : GI Ls xs i S H) (hi : i < 513) (w : Int32) : ∃ v : Int32, Tie Ls xs i mX10_rounds mX11_rounds 5 7 0 0 [.ref 0, .int w] [.ref 83, .int w] S H (.int v) := by
  obtain ⟨hs, hZ, T, u, ps, L, img, ui, n, b, fa, fp, t, sp, z, pn, A, N, lf, LF, lfi, hk, hm, hp, hz⟩ := g
  have hr := hk.1
  by_cases hno : ¬ (¬ w < 0 ∧ w ≤ nI 2)
  · exact ⟨_, tie_q hs hZ hi hk hm hp hz (cq_p (c_rounds0 hr hno) rfl hr.mi) (fun H1 hm1 => mq_h (m_rounds0 hm1.1 hno) (fun y H2 q => q) rfl)⟩
  · obtain ⟨a1, a2⟩ := Classical.not_not.mp hno
    obtain ⟨l, hl, rfl⟩ := le_n2 a1 (by decide) a2
    exact ⟨_, tie_q hs hZ hi hk hm hp hz (cq_h (c_rounds1 hr hl) (fun y H1 ⟨q1, q2, t2, q3, q4⟩ => ⟨q1, q2.mo (fun q z => by omega), t2, by omega, q4⟩) rfl) (fun H1 hm1 => mq_t (m_rounds1 hm1.1 hm1.2.2.1 hr.hd hr.li hr.h9 hl) (fun y H2 q => q) rfl)⟩
theorem tie_teach (g : GI Ls xs i S H) (hi : i < 513) (w : Int32) : ∃ v : Int32, Tie Ls xs i mX10_teach mX11_teach 5 6 0 0 [.ref 0, .int w] [.ref 83, .int w] S H (.int v) := by
  obtain ⟨hs, hZ, T, u, ps, L, img, ui, n, b, fa, fp, t, sp, z, pn, A, N, lf, LF, lfi, hk, hm, hp, hz⟩ := g
  have hr := hk.1
  by_cases hno : hasB w (tNp T) = false
  · exact ⟨_, tie_q hs hZ hi hk hm hp hz (cq_p (c_teach0 hr hno) rfl hr.mi) (fun H1 hm1 => mq_h (m_teach0 hm1.1 hno) (fun y H2 q => q) rfl)⟩
  · obtain ⟨p, hp2, rfl⟩ := hasB_k (show hasB w (tNp T) = true by simpa using hno)
    exact ⟨_, tie_q hs hZ hi hk hm hp hz (cq_h (c_teach1 hr hp2) (fun y H1 ⟨q1, q2, t2, q3, q4⟩ => ⟨q1, q2.mo (fun q z => by omega), t2, by omega, q4⟩) rfl) (fun H1 hm1 => mq_h (m_teach1 hm1.1 hp2) (fun y H2 q => q) rfl)⟩
theorem tie_teachAll (g : GI Ls xs i S H) (hi : i < 513) : ∃ v : Int32, Tie Ls xs i mX10_teachAll mX11_teachAll 5 6 0 0 [.ref 0] [.ref 83] S H (.int v) := by
  obtain ⟨hs, hZ, T, u, ps, L, img, ui, n, b, fa, fp, t, sp, z, pn, A, N, lf, LF, lfi, hk, hm, hp, hz⟩ := g
  have hr := hk.1
  exact ⟨_, tie_q hs hZ hi hk hm hp hz (cq_h (c_teachAll hr) (fun y H1 ⟨q1, q2, t2, q3, q4⟩ => ⟨q1, q2.mo (fun q z => by omega), t2, by omega, q4⟩) rfl) (fun H1 hm1 => mq_h (m_teachAll hm1.1) (fun y H2 q => q) rfl)⟩
theorem tie_look (g : GI Ls xs i S H) (hi : i < 513) (w w2 : Int32) : ∃ v : Int32, Tie Ls xs i mX10_look mX11_look 4 5 0 0 [.ref 0, .int w, .int w2] [.ref 83, .int w, .int w2] S H (.int v) := by
  obtain ⟨hs, hZ, T, u, ps, L, img, ui, n, b, fa, fp, t, sp, z, pn, A, N, lf, LF, lfi, hk, hm, hp, hz⟩ := g
  have hr := hk.1
  by_cases hno : ¬ (hasB w (tNp T) = true ∧ (w2 = 0 ∨ w2 = nI 1))
  · exact ⟨_, tie_q hs hZ hi hk hm hp hz (cq_p (c_look0 hr hno) rfl hr.mi) (fun H1 hm1 => mq_h (m_look0 hm1.1 (by rw [one2] at hno; exact hno)) (fun y H2 q => q) rfl)⟩
  · obtain ⟨a1, a2⟩ := Classical.not_not.mp hno
    obtain ⟨p, hp2, rfl⟩ := hasB_k a1
    obtain ⟨l, hl, rfl⟩ := le_n2 (one2.mp a2).1 (by decide) (one2.mp a2).2
    exact ⟨_, tie_q hs hZ hi hk hm hp hz (cq_p (c_look1 hr hp2 hl) rfl hr.mi) (fun H1 hm1 => mq_h (m_look1 hm1.1 hp2 hl) (fun y H2 q => q) rfl)⟩
theorem tie_likely (g : GI Ls xs i S H) (hi : i < 513) (w w2 : Int32) : ∃ v : Int32, Tie Ls xs i mX10_likely mX11_likely 4 5 0 0 [.ref 0, .int w, .int w2] [.ref 83, .int w, .int w2] S H (.int v) := by
  obtain ⟨hs, hZ, T, u, ps, L, img, ui, n, b, fa, fp, t, sp, z, pn, A, N, lf, LF, lfi, hk, hm, hp, hz⟩ := g
  have hr := hk.1
  by_cases hno : ¬ (hasB w (tNf T) = true ∧ (w2 = 0 ∨ w2 = nI 1))
  · exact ⟨_, tie_q hs hZ hi hk hm hp hz (cq_p (c_likely0 hr hno) rfl hr.mi) (fun H1 hm1 => mq_h (m_likely0 hm1.1 (by rw [one2] at hno; exact hno)) (fun y H2 q => q) rfl)⟩
  · obtain ⟨a1, a2⟩ := Classical.not_not.mp hno
    obtain ⟨p, hp2, rfl⟩ := hasB_k a1
    obtain ⟨l, hl, rfl⟩ := le_n2 (one2.mp a2).1 (by decide) (one2.mp a2).2
    exact ⟨_, tie_q hs hZ hi hk hm hp hz (cq_h (c_likely1 hr hp2 hl) (fun y H1 ⟨q1, q2, t2, q3, q4⟩ => ⟨q1, q2.mo (fun q z => by omega), t2, by omega, q4⟩) rfl) (fun H1 hm1 => mq_h (m_likely1 hm1.1 hp2 hl) (fun y H2 q => q) rfl)⟩
theorem tie_guess (g : GI Ls xs i S H) (hi : i < 513) (w w2 : Int32) : ∃ v : Int32, Tie Ls xs i mX10_guess mX11_guess 4 5 0 0 [.ref 0, .int w, .int w2] [.ref 83, .int w, .int w2] S H (.int v) := by
  obtain ⟨hs, hZ, T, u, ps, L, img, ui, n, b, fa, fp, t, sp, z, pn, A, N, lf, LF, lfi, hk, hm, hp, hz⟩ := g
  have hr := hk.1
  by_cases hno : ¬ (hasB w (tNp T) = true ∧ ¬ w2 < 0 ∧ w2 ≤ nI 2)
  · exact ⟨_, tie_q hs hZ hi hk hm hp hz (cq_p (c_guess0 hr hno) rfl hr.mi) (fun H1 hm1 => mq_h (m_guess0 hm1.1 hno) (fun y H2 q => q) rfl)⟩
  · obtain ⟨a1, a2, a3⟩ := Classical.not_not.mp hno
    obtain ⟨p, hp2, rfl⟩ := hasB_k a1
    obtain ⟨l, hl, rfl⟩ := le_n2 a2 (by decide) a3
    exact ⟨_, tie_q hs hZ hi hk hm hp hz (cq_p (c_guess1 hr hp2 hl) rfl hr.mi) (fun H1 hm1 => mq_h (m_guess1 hm1.1 hp2 hl) (fun y H2 q => q) rfl)⟩
theorem tie_secret (g : GI Ls xs i S H) (hi : i < 513) (w w2 : Int32) : ∃ v : Int32, Tie Ls xs i mX10_secret mX11_secret 4 5 0 0 [.ref 0, .int w, .int w2] [.ref 83, .int w, .int w2] S H (.int v) := by
  obtain ⟨hs, hZ, T, u, ps, L, img, ui, n, b, fa, fp, t, sp, z, pn, A, N, lf, LF, lfi, hk, hm, hp, hz⟩ := g
  have hr := hk.1
  by_cases hno : ¬ (hasB w (tNp T) = true ∧ hasB w2 (tNp T) = true ∧ w ≠ w2)
  · exact ⟨_, tie_q hs hZ hi hk hm hp hz (cq_p (c_secret0 hr hno) rfl hr.mi) (fun H1 hm1 => mq_h (m_secret0 hm1.1 hno) (fun y H2 q => q) rfl)⟩
  · obtain ⟨a1, a2, a3⟩ := Classical.not_not.mp hno
    obtain ⟨p, hp2, rfl⟩ := hasB_k a1
    obtain ⟨q, hq2, rfl⟩ := hasB_k a2
    have hpq : p ≠ q := fun e => a3 (by rw [e])
    exact ⟨_, tie_q hs hZ hi hk hm hp hz (cq_p (c_secret1 hr hp2 hq2 hpq) rfl hr.mi) (fun H1 hm1 => mq_h (m_secret1 hm1.1 hp2 hq2 hpq) (fun y H2 q => q) rfl)⟩
theorem tie_rests (g : GI Ls xs i S H) (hi : i < 513) (w w2 : Int32) : ∃ v : Int32, Tie Ls xs i mX10_rests mX11_rests 3 6 0 0 [.ref 0, .int w, .int w2] [.ref 83, .int w, .int w2] S H (.int v) := by
  obtain ⟨hs, hZ, T, u, ps, L, img, ui, n, b, fa, fp, t, sp, z, pn, A, N, lf, LF, lfi, hk, hm, hp, hz⟩ := g
  have hr := hk.1
  by_cases hno : ¬ (hasB w (tNp T) = true ∧ hasB w2 (tNp T) = true ∧ w ≠ w2)
  · exact ⟨_, tie_q hs hZ hi hk hm hp hz (cq_p (c_rests0 hr hno) rfl hr.mi) (fun H1 hm1 => mq_h (m_rests0 hm1.1 hno) (fun y H2 q => q) rfl)⟩
  · obtain ⟨a1, a2, a3⟩ := Classical.not_not.mp hno
    obtain ⟨p, hp2, rfl⟩ := hasB_k a1
    obtain ⟨q, hq2, rfl⟩ := hasB_k a2
    have hpq : p ≠ q := fun e => a3 (by rw [e])
    exact ⟨_, tie_q hs hZ hi hk hm hp hz (cq_p (c_rests1 hr hp2 hq2 hpq) rfl hr.mi) (fun H1 hm1 => mq_h (m_rests1 hm1.1 hp2 hq2 hpq) (fun y H2 q => q) rfl)⟩
theorem tie_rest (g : GI Ls xs i S H) (hi : i < 513) (w w2 w3 : Int32) : ∃ v : Int32, Tie Ls xs i mX10_rest mX11_rest 3 6 0 0 [.ref 0, .int w, .int w2, .int w3] [.ref 83, .int w, .int w2, .int w3] S H (.int v) := by
  obtain ⟨hs, hZ, T, u, ps, L, img, ui, n, b, fa, fp, t, sp, z, pn, A, N, lf, LF, lfi, hk, hm, hp, hz⟩ := g
  have hr := hk.1
  by_cases hno : ¬ (hasB w (tNp T) = true ∧ hasB w2 (tNp T) = true ∧ w ≠ w2)
  · exact ⟨_, tie_q hs hZ hi hk hm hp hz (cq_p (c_rest0 hr hno) rfl hr.mi) (fun H1 hm1 => mq_h (m_rest0 hm1.1 hno) (fun y H2 q => q) rfl)⟩
  · obtain ⟨a1, a2, a3⟩ := Classical.not_not.mp hno
    obtain ⟨p, hp2, rfl⟩ := hasB_k a1
    obtain ⟨q, hq2, rfl⟩ := hasB_k a2
    have hpq : p ≠ q := fun e => a3 (by rw [e])
    by_cases h3 : w3 < 0
    · exact ⟨_, tie_q hs hZ hi hk hm hp hz (cq_p (c_rest0b hr hp2 hq2 hpq h3) rfl hr.mi) (fun H1 hm1 => mq_h (m_rest0b hm1.1 hp2 hq2 hpq h3) (fun y H2 q => q) rfl)⟩
    · obtain ⟨k, hk2, rfl⟩ := nn_n h3
      exact ⟨_, tie_q hs hZ hi hk hm hp hz (cq_p (c_rest1 hr hp2 hq2 hpq hk2) rfl hr.mi) (fun H1 hm1 => mq_h (m_rest1 hm1.1 hp2 hq2 hpq hk2) (fun y H2 q => q) rfl)⟩
theorem tie_chance (g : GI Ls xs i S H) (hi : i < 513) (w w2 w3 : Int32) : ∃ v : Int32, Tie Ls xs i mX10_chance mX11_chance 7 8 0 0 [.ref 0, .int w, .int w2, .int w3] [.ref 83, .int w, .int w2, .int w3] S H (.int v) := by
  obtain ⟨hs, hZ, T, u, ps, L, img, ui, n, b, fa, fp, t, sp, z, pn, A, N, lf, LF, lfi, hk, hm, hp, hz⟩ := g
  have hr := hk.1
  by_cases hno : ¬ (¬ w < 0 ∧ ¬ w2 < nI 1 ∧ ¬ nI 99 < w2 ∧ hasB w3 (tNp T) = true)
  · exact ⟨_, tie_q hs hZ hi hk hm hp hz (cq_p (c_chance0 hr hno) rfl hr.mi) (fun H1 hm1 => mq_h (m_chance0 hm1.1 hno) (fun y H2 q => q) rfl)⟩
  · obtain ⟨a1, a2, a3, a4⟩ := Classical.not_not.mp hno
    obtain ⟨q, hq2, rfl⟩ := nn_n a1
    obtain ⟨n9, hn9, rfl⟩ := le_n (w := w2) (fun z => a2 (Int32.lt_trans z (by decide))) (by decide) a3
    have h1n : 1 ≤ n9 := by rw [nq_ltI (by omega) (by decide)] at a2; omega
    obtain ⟨p, hp2, rfl⟩ := hasB_k a4
    exact ⟨_, tie_q hs hZ hi hk hm hp hz (cq_h (c_chance1 hr hq2 h1n (by omega) hp2) (fun y H1 ⟨q1, q2, t2, q3, q4⟩ => ⟨q1, q2.mo (fun q z => by omega), t2, by omega, q4⟩) rfl) (fun H1 hm1 => mq_t (m_chance1 hm1.1 hm1.2.2.1 hr.hd hr.li hr.h9 hq2 h1n (by omega) hp2) (fun y H2 q => q) rfl)⟩
theorem tie_tried (g : GI Ls xs i S H) (hi : i < 513) (w w2 w3 : Int32) : ∃ v : Int32, Tie Ls xs i mX10_tried mX11_tried 7 9 0 0 [.ref 0, .int w, .int w2, .int w3] [.ref 83, .int w, .int w2, .int w3] S H (.int v) := by
  obtain ⟨hs, hZ, T, u, ps, L, img, ui, n, b, fa, fp, t, sp, z, pn, A, N, lf, LF, lfi, hk, hm, hp, hz⟩ := g
  have hr := hk.1
  by_cases hno : ¬ (¬ w < 0 ∧ ¬ nI 4 < w ∧ ¬ w3 < 0 ∧ w3 ≤ nI 200 ∧ (w = nI 2 → hasB w2 (tNp T) = true) ∧ (¬ w = nI 2 → w2 = 0))
  · exact ⟨_, tie_q hs hZ hi hk hm hp hz (cq_p (c_tried0 hr hno) rfl hr.mi) (fun H1 hm1 => mq_h (m_tried0 hm1.1 hno) (fun y H2 q => q) rfl)⟩
  · obtain ⟨a1, a2, a3, a4, a5, a6⟩ := Classical.not_not.mp hno
    obtain ⟨l, hl, rfl⟩ := le_n a1 (by decide) a2
    obtain ⟨n9, hn9, rfl⟩ := le_n2 a3 (by decide) a4
    have hso := hp.2.1.1.so
    by_cases hl2 : l = 2
    · obtain ⟨p, hp2, rfl⟩ := hasB_k (a5 (by rw [hl2]))
      exact ⟨_, tie_q hs hZ hi hk hm hp hz (cq_h (c_tried1 hr hl (by omega) hl2 hp2) (fun y H1 ⟨q1, q2, t2, q3, q4⟩ => ⟨q1, q2.mo (fun q z => by omega), t2, by omega, q4⟩) rfl) (fun H1 hm1 => mq_t (m_tried1 hm1.1 hm1.2.2.1 hr.hd hr.li hr.h9 hso hl (by omega) hl2 hp2) (fun y H2 q => q) rfl)⟩
    · have e := a6 (fun z => hl2 ((nq_eq (by omega) (by decide)).mp z))
      rw [show w2 = nI 0 from e]
      exact ⟨_, tie_q hs hZ hi hk hm hp hz (cq_h (c_tried2 hr hl (by omega) hl2 rfl) (fun y H1 ⟨q1, q2, t2, q3, q4⟩ => ⟨q1, q2.mo (fun q z => by omega), t2, by omega, q4⟩) rfl) (fun H1 hm1 => mq_t (m_tried2 hm1.1 hm1.2.2.1 hr.hd hr.li hr.h9 hso hl (by omega) hl2 rfl) (fun y H2 q => q) rfl)⟩
theorem tie_count (g : GI Ls xs i S H) (hi : i < 513) (w : Int32) : ∃ v : Int32, Tie Ls xs i mX10_count mX11_count 5 6 0 0 [.ref 0, .int w] [.ref 83, .int w] S H (.int v) := by
  obtain ⟨hs, hZ, T, u, ps, L, img, ui, n, b, fa, fp, t, sp, z, pn, A, N, lf, LF, lfi, hk, hm, hp, hz⟩ := g
  have hr := hk.1
  by_cases hno : w.toInt < 0 ∨ 13 < w.toInt
  · exact ⟨_, tie_q hs hZ hi hk hm hp hz (cq_p (c_count0 hr hno) rfl hr.mi) (fun H1 hm1 => mq_h (m_count0 hm1.1 hno) (fun y H2 q => q) rfl)⟩
  · obtain ⟨l, hl, rfl⟩ := toI_n (K := 13) hno
    exact ⟨_, tie_q hs hZ hi hk hm hp hz (cq_p (c_count1 hr hk.2.2.2.1.2.1 hl) rfl hr.mi) (fun H1 hm1 => mq_h (m_count1 hm1.1 hm1.2.1.1 hp.2.1.1.z hl) (fun y H2 q => q) rfl)⟩
end TIQ
