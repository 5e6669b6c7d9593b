/-! ===== the calls that pass hours, go back, keep images, and read a text ===== -/
section TIM
variable {Ls i n n2 m t sp z z1 pn pn2 ps ps2 c1 c2 l D s E c : Nat} {xs : Nat → Int32} {S S1 : xS} {H H1 H2 : xH} {T : uTx} {u u1 ui ui2 : uSt} {L L2 : Nat → uSt} {img img2 : Bool} {b b2 : Nat → Nat} {fa fp : Int32} {A A2 : Nat → Option Nat} {N : Nat → Nat → Nat} {lf lf2 lfi lfi2 : Nat → Bool} {LF LF2 : Nat → Nat → Bool} {AA F : Nat → Prop} {w w2 : Int32}
theorem tie_go (g : GI Ls xs i S H) (hi : i < 513) (w : Int32) : TieB Ls xs i mX10_go mX11_go 7 8 [.ref 0, .int w] [.ref 83, .int w] S H := by
  obtain ⟨hs, hZ, T, u, ps, L, img, ui, n, b, fa, fp, t, sp, z, pn, A, N, lf, LF, lfi, hk, hm, hp, hz⟩ := g
  have hr := hk.1
  by_cases hno : w < 0 ∨ nI 200 < w
  · exact ⟨zI (-1), 0, 0, by decide, by decide, tie_q hs hZ hi hk hm hp hz (cq_p (c_go0 hr hno) rfl hr.mi) (fun H1 hm1 => mq_h (m_go0 hm1.1 hno) (fun y H2 q => q) rfl)⟩
  · obtain ⟨m, hm2, rfl⟩ := le_n (fun e => hno (Or.inl e)) (by decide) (fun e => hno (Or.inr e))
    have hm2 : m ≤ 200 := Nat.le_of_lt_succ hm2
    by_cases hh : 9800 < uHr u + m
    · exact ⟨zI (-1), 0, 0, by decide, by decide, tie_q hs hZ hi hk hm hp hz (cq_p (c_go0b hr hm2 hh) rfl hr.mi) (fun H1 hm1 => mq_h (m_go0b hm1.1 hm2 hh) (fun y H2 q => q) rfl)⟩
    · have hc : Hv mX10_go 7 [.ref 0, vN m] S H vN (fun x H' => x = uHr u + m ∧ StP H' 67 (pas T true (-1) (-1) u m) ∧ Off (fun q => (67 ≤ q ∧ q < 72) ∨ (16 ≤ q ∧ q ≤ 23) ∨ q = 66 ∨ q = 0) H H' ∧ (∃ t2, t2 ≤ z + 5640 ∧ MiP H' t2) ∧ hI H' 0 14 = (if 0 < m then nI 0 else hI H 0 14) ∧ RoF H H' (fun k => k ≠ 14)) := by
        by_cases h0 : 0 < m
        · exact c_go1 hr hm2 (by omega) h0
        · exact c_go2 hr hm2 (by omega) (by omega)
      have ho := hp.2.1.pas2 hi hr.tk hm2 (by omega)
      refine ⟨nI (uHr u + m), 0, 0, by decide, by decide, tie_c hc (fun R ⟨y, H1, ⟨q1, q2, q3, ⟨t2, q4, q5⟩, q6, q7⟩, e⟩ => ?_)⟩
      have hs1 := hs.off q3 (by omega)
      have hk1 : KlI S H1 T (pas T true (-1) (-1) u m) (if 0 < m then 0 else ps) L img ui n b fa fp t sp t2 pn A := by
        refine hk.upd hs.1 q3 (fun q z => by omega) q7.2 q2 ho.2.1 ho.1.1 q5 (by omega) (by have := ho.2.2.1; omega) (by have := ho.2.2.2.1; omega) ho.2.2.2.2 ⟨(q7.1 15 (by decide)).trans hk.2.2.2.1.1, ?_, hk.2.2.2.1.2.2.1, ?_, fun j hj => (q3.R (by omega) j).trans (hk.2.2.2.1.2.2.2.2.1 j hj), hk.2.2.2.1.2.2.2.2.2⟩ ?_ ((q7.1 12 (by decide)).trans hk.2.2.2.2.2.1) (fun e => ⟨(hk.2.2.2.2.2.2.1 e).1.off q3 (fun j hj => by omega), (hk.2.2.2.2.2.2.1 e).2⟩) (⟨(q7.1 1 (by decide)).trans hk.2.2.2.2.2.2.2.1.1, fun j hj => (q3.I (by omega) j).trans (hk.2.2.2.2.2.2.2.1.2 j hj)⟩ : TaP H1 n b)
        · rw [q6]
          by_cases h0 : 0 < m
          · rw [if_pos h0, if_pos h0]
          · rw [if_neg h0, if_neg h0]; exact hk.2.2.2.1.2.1
        · by_cases h0 : 0 < m
          · rw [if_pos h0]; omega
          · rw [if_neg h0]; exact hk.2.2.2.1.2.2.2.1
        · intro j hj
          by_cases h0 : 0 < m
          · rw [if_pos h0] at hj; omega
          · rw [if_neg h0] at hj
            exact (hk.2.2.2.2.1.off hk.2.2.2.1 hk.2.2.2.1.2.2.2.1 q3 (fun q hq => by omega)) j hj
      have hm1 := hm.off hs.1 q3 (fun q z => by omega)
      refine ⟨S, H1, by rw [e, q1], hs1, vq_mo (m_go1 hm1.1 hm1.2.2.1 hr.hd hr.li hr.h9 hm2 (by omega)) (fun R2 ⟨y2, H2, ⟨p1, ⟨lf2, p2, p3⟩, p4, p5, p6⟩, e2⟩ => ?_)⟩
      have hw := hm1.1.ms.tw
      have hud : UdP H2 T (if 0 < m then 0 else ps) L LF := by
        by_cases h0 : 0 < m
        · rw [if_pos h0] at p4 ⊢; exact ⟨p4, by omega, fun j hj => absurd hj (Nat.not_lt_zero j)⟩
        · rw [if_neg h0] at p4 ⊢; exact hm1.2.1.e hw p4 (fun s hs => p5 s (by omega))
      have hm2 := hm1.upd (p6.mo (fun q z => z) (fun k z => by omega)) p2 p3 ho.2.1 hud ((p6.2 46 (by omega)).trans hm1.2.2.2.1) (fun e => ⟨(hm1.2.2.2.2.1 e).1.e hw (p5 2 (by decide)), (hm1.2.2.2.2.1 e).2⟩)
      refine ⟨H2, by rw [e2, p1], hs1.off p6.1 (by omega), by omega, T, _, _, L, img, ui, n, b, fa, fp, t, sp, t2, pn, A, N, lf2, LF, lfi, hk1.off p6.1 (fun q z => by omega), hm2, ⟨hp.1, ho, fun j hj => ?_, fun e => (hp.2.2.2.1 e).s, hp.2.2.2.2⟩, by omega⟩
      by_cases h0 : 0 < m
      · rw [if_pos h0] at hj; omega
      · rw [if_neg h0] at hj; exact (hp.2.2.1 j hj).s
theorem tie_undo (g : GI Ls xs i S H) (hi : i < 513) : TieB Ls xs i mX10_undo mX11_undo 3 1 [.ref 0] [.ref 83] S H := by
  obtain ⟨hs, hZ, T, u, ps, L, img, ui, n, b, fa, fp, t, sp, z, pn, A, N, lf, LF, lfi, hk, hm, hp, hz⟩ := g
  have hr := hk.1
  obtain ⟨w1, w2, w3, w4, w5, w6, w7⟩ := hk.2.2.2.1
  by_cases h0 : ps = 0
  · subst h0
    exact ⟨zI (-1), 0, 0, by decide, by decide, tie_q hs hZ hi hk hm hp hz (cq_p (c_undo0 hs.1 w2) rfl hr.mi) (fun H1 hm1 => mq_h (m_undo0 hm1.1.ms.fx hm1.2.1.1) (fun y H2 q => q) rfl)⟩
  · obtain ⟨q, a1, a2, a3⟩ := hk.2.2.2.2.1 0 (by omega)
    have a1 : A ((pn + 19) % 20) = some q := a1
    obtain ⟨gb, gb2, _⟩ := w6 _ (Nat.mod_lt _ (by decide)) q a1
    have hA := (w5 _ (Nat.mod_lt (pn + 19) (by decide))).trans a1
    have hc : Hv mX10_undo 3 [.ref 0] S H vN (fun x H' => x = ps - 1 ∧ StP H' 67 (L 0) ∧ hI H' 0 14 = nI (ps - 1) ∧ hI H' 0 15 = nI ((pn + 19) % 20) ∧ RoF H H' (fun k => k ≠ 14 ∧ k ≠ 15) ∧ Off (fun q => q = 0 ∨ (67 ≤ q ∧ q < 72)) H H') := by
      by_cases h1 : 0 < pn
      · exact c_undo1a hs.1 w2 w1 (by omega) w4 w3 hA gb gb2 a2 a3 h1
      · exact c_undo1b hs.1 w2 w1 (by omega) w4 w3 hA gb gb2 a2 a3 (by omega)
    have ho := (hp.2.2.1 0 (by omega)).s
    refine ⟨nI (ps - 1), 0, 0, by decide, by decide, tie_c hc (fun R ⟨y, H1, ⟨q1, q2, q3, q4, q5, q6⟩, e⟩ => ?_)⟩
    have hs1 := hs.off q6 (by omega)
    have hk1 : KlI S H1 T (L 0) (ps - 1) (fun j => L (j + 1)) img ui n b fa fp t sp z ((pn + 19) % 20) A := by
      refine hk.upd hs.1 q6 (fun q z => by omega) q5.2 q2 a3 ho.1.1 (hr.mi.off q6 (by omega) (by omega)) hr.zb (by have := ho.2.2.1; omega) (by have := ho.2.2.2.1; omega) ho.2.2.2.2 ⟨q4, q3, by omega, by omega, fun j hj => (q6.R (by omega) j).trans (w5 j hj), w6, w7⟩ (fun j hj => ?_) ((q5.1 12 (by decide)).trans hk.2.2.2.2.2.1) (fun e => ⟨(hk.2.2.2.2.2.2.1 e).1.off q6 (fun j hj => by omega), (hk.2.2.2.2.2.2.1 e).2⟩) (⟨(q5.1 1 (by decide)).trans hk.2.2.2.2.2.2.2.1.1, fun j hj => (q6.I (by omega) j).trans (hk.2.2.2.2.2.2.2.1.2 j hj)⟩ : TaP H1 n b)
      have e0 : ((pn + 19) % 20 + 19 - j) % 20 = (pn + 19 - (j + 1)) % 20 := by omega
      rw [e0]
      exact (hk.2.2.2.2.1.off hk.2.2.2.1 w4 q6 (fun q hq => by omega)) (j + 1) (by omega)
    have hm1 := hm.off hs.1 q6 (fun q z => by omega)
    refine ⟨S, H1, by rw [e, q1], hs1, vq_mo (m_undo1 hm1.1 hm1.2.1 (by omega)) (fun R2 ⟨y2, H2, ⟨p1, p2, p3, p4, p5⟩, e2⟩ => ?_)⟩
    have hw := hm1.1.ms.tw
    have hm2 := hm1.upd (p5.mo (fun q z => z) (fun k z => by omega)) p2 (hm1.2.1.2.2 0 (by omega)).2.1 a3 p3 ((p5.2 46 (by omega)).trans hm1.2.2.2.1) (fun e => ⟨(hm1.2.2.2.2.1 e).1.e hw (p4 2 (by decide)), (hm1.2.2.2.2.1 e).2⟩)
    exact ⟨H2, by rw [e2, p1], hs1.off p5.1 (by omega), by omega, T, L 0, ps - 1, _, img, ui, n, b, fa, fp, t, sp, z, _, A, N, _, _, lfi, hk1.off p5.1 (fun q z => by omega), hm2, ⟨hp.1, ho, fun j hj => (hp.2.2.1 (j + 1) (by omega)).s, fun e => (hp.2.2.2.1 e).s, hp.2.2.2.2⟩, by omega⟩
theorem tie_keep (g : GI Ls xs i S H) (hi : i < 513) : TieB Ls xs i mX10_keep mX11_keep 3 1 [.ref 0] [.ref 83] S H := by
  obtain ⟨hs, hZ, T, u, ps, L, img, ui, n, b, fa, fp, t, sp, z, pn, A, N, lf, LF, lfi, hk, hm, hp, hz⟩ := g
  have hr := hk.1
  refine ⟨nI (uHr u), 0, 0, by decide, by decide, tie_c (c_keep hr) (fun R ⟨y, H1, ⟨q1, q2, q3, q4, q5⟩, e⟩ => ?_)⟩
  have hs1 := hs.off q5 (by omega)
  have hk1 : KlI S H1 T u ps L true u n b fa fp t sp z pn A := hk.upd hs.1 q5 (fun q z => by omega) q4.2 (hr.st.off q5 (fun j hj => by omega)) hr.ok hr.np (hr.mi.off q5 (by omega) (by omega)) hr.zb hr.hd hr.li hr.h9 (⟨(q4.1 15 (by decide)).trans hk.2.2.2.1.1, (q4.1 14 (by decide)).trans hk.2.2.2.1.2.1, hk.2.2.2.1.2.2.1, hk.2.2.2.1.2.2.2.1, fun j hj => (q5.R (by omega) j).trans (hk.2.2.2.1.2.2.2.2.1 j hj), hk.2.2.2.1.2.2.2.2.2⟩ : PaP S H1 pn ps A) (hk.2.2.2.2.1.off hk.2.2.2.1 hk.2.2.2.1.2.2.2.1 q5 (fun q hq => by omega)) q3 (fun e => ⟨q2, hr.ok⟩) (⟨(q4.1 1 (by decide)).trans hk.2.2.2.2.2.2.2.1.1, fun j hj => (q5.I (by omega) j).trans (hk.2.2.2.2.2.2.2.1.2 j hj)⟩ : TaP H1 n b)
  have hm1 := hm.off hs.1 q5 (fun q z => by omega)
  refine ⟨S, H1, by rw [e, q1], hs1, vq_mo (m_keep hm1.1) (fun R2 ⟨y2, H2, ⟨p1, p2, p3, p4, p5⟩, e2⟩ => ?_)⟩
  have hw := hm1.1.ms.tw
  have hm2 : MoI S H2 T u ps L true u n b fa fp N lf LF lf := hm1.upd (p5.mo (fun q z => z) (fun k z => by omega)) (hm1.1.rm.e hw (p4 0 (by decide))) hm1.1.lr hr.ok (hm1.2.1.e hw (p5.2 47 (by omega)) (fun s hs => p4 s (by omega))) p3 (fun e => ⟨p2, hm1.1.lr⟩)
  exact ⟨H2, by rw [e2, p1], hs1.off p5.1 (by omega), by omega, T, u, ps, L, true, u, n, b, fa, fp, t, sp, z, pn, A, N, lf, LF, lf, hk1.off p5.1 (fun q z => by omega), hm2, ⟨hp.1, hp.2.1.s, fun j hj => (hp.2.2.1 j hj).s, fun e => hp.2.1.s, hp.2.2.2.2⟩, by omega⟩
theorem tie_back (g : GI Ls xs i S H) (hi : i < 513) : TieB Ls xs i mX10_back mX11_back 3 1 [.ref 0] [.ref 83] S H := by
  obtain ⟨hs, hZ, T, u, ps, L, img, ui, n, b, fa, fp, t, sp, z, pn, A, N, lf, LF, lfi, hk, hm, hp, hz⟩ := g
  have hr := hk.1
  cases img with
  | false => exact ⟨zI (-1), 0, 0, by decide, by decide, tie_q hs hZ hi hk hm hp hz (cq_p (c_back0 hs.1 hk.2.2.2.2.2.1) rfl hr.mi) (fun H1 hm1 => mq_h (m_back0 hm1.1.ms.fx hm1.2.2.2.1) (fun y H2 q => q) rfl)⟩
  | true =>
    obtain ⟨hst, hok⟩ := hk.2.2.2.2.2.2.1 rfl
    have ho := (hp.2.2.2.1 rfl).s
    refine ⟨nI (uHr ui), 0, 0, by decide, by decide, tie_c (c_back1 hr hk.2.2.2.2.2.1 hst hok) (fun R ⟨y, H1, ⟨q1, q2, q3, q4, q5⟩, e⟩ => ?_)⟩
    have hs1 := hs.off q5 (by omega)
    have hk1 : KlI S H1 T ui 0 L true ui n b fa fp t sp z pn A := hk.upd hs.1 q5 (fun q z => by omega) q4.2 q2 hok ho.1.1 (hr.mi.off q5 (by omega) (by omega)) hr.zb (by have := ho.2.2.1; omega) (by have := ho.2.2.2.1; omega) ho.2.2.2.2 (⟨(q4.1 15 (by decide)).trans hk.2.2.2.1.1, q3, hk.2.2.2.1.2.2.1, by omega, fun j hj => (q5.R (by omega) j).trans (hk.2.2.2.1.2.2.2.2.1 j hj), hk.2.2.2.1.2.2.2.2.2⟩ : PaP S H1 pn 0 A) (fun j hj => absurd hj (Nat.not_lt_zero j)) ((q4.1 12 (by decide)).trans hk.2.2.2.2.2.1) (fun e => ⟨hst.off q5 (fun j hj => by omega), hok⟩) (⟨(q4.1 1 (by decide)).trans hk.2.2.2.2.2.2.2.1.1, fun j hj => (q5.I (by omega) j).trans (hk.2.2.2.2.2.2.2.1.2 j hj)⟩ : TaP H1 n b)
    have hm1 := hm.off hs.1 q5 (fun q z => by omega)
    obtain ⟨hri, hli⟩ := hm1.2.2.2.2.1 rfl
    refine ⟨S, H1, by rw [e, q1], hs1, vq_mo (m_back1 hm1.1 hm1.2.2.2.1 hri) (fun R2 ⟨y2, H2, ⟨p1, p2, p3, p4, p5⟩, e2⟩ => ?_)⟩
    have hw := hm1.1.ms.tw
    have hm2 : MoI S H2 T ui 0 L true ui n b fa fp N lfi LF lfi := hm1.upd (p5.mo (fun q z => z) (fun k z => by omega)) p2 hli hok ⟨p3, by omega, fun j hj => absurd hj (Nat.not_lt_zero j)⟩ ((p5.2 46 (by omega)).trans hm1.2.2.2.1) (fun e => ⟨hri.e hw (p4 2 (by decide)), hli⟩)
    exact ⟨H2, by rw [e2, p1], hs1.off p5.1 (by omega), by omega, T, ui, 0, L, true, ui, n, b, fa, fp, t, sp, z, pn, A, N, lfi, LF, lfi, hk1.off p5.1 (fun q z => by omega), hm2, ⟨hp.1, ho, fun j hj => absurd hj (Nat.not_lt_zero j), fun e => ho, hp.2.2.2.2⟩, by omega⟩
theorem rdL_le {D : Nat} {s : uTk} : ∀ {E l n : Nat} {T T2 : uTx} {m : Nat}, rdL D s E l n T = .inr (m, T2) → m ≤ l + E
  | 0, l, n, T, T2, m, e => by cases e
  | E + 1, l, n, T, T2, m, e => by
    unfold rdL at e
    split at e
    · cases e; omega
    · cases er : linR D s n T with
      | inl z => rw [er] at e; cases e
      | inr z =>
        obtain ⟨m2, T3⟩ := z
        rw [er] at e
        have e : (if kK s m2 = 40 then rdL D s E (l + 1) (m2 + 1) T3 else .inl (1, m2)) = .inr (m, T2) := e
        split at e
        · have := rdL_le e; omega
        · cases e
theorem ok_beg (h : LnI T N) : StOk (begU T) := by
  have tw := h.tw
  have hl := LfR.beg h.tt
  obtain ⟨t1, t2, t3, t4, t5, t6, t7, t8, t9, t10, t11⟩ := h.ti
  refine ⟨?_, fun p hp => ?_, hl.rn, t2, fun p hp => ⟨?_, Nat.le_refl _⟩, (by decide : (0 : Nat) < 64), Nat.zero_le _, Nat.zero_le _, Nat.zero_le _, ?_⟩
  · rw [hl.z]; exact Nat.le_trans (ct_le _ _) (nW_le tw)
  · obtain ⟨w, w1, w2, w3⟩ := hl.un hp
    rw [← w3, hl.wd w1 w2]; exact Wd_lt tw w1
  · show (if p < tNp T then sbs (tSe T p) (tNp T) 0 else 0) < 64
    split
    · exact sbs_lt t2 (by decide)
    · decide
  · show (if tSd T = 0 then 0 else tSd T - 1) < 2147483648
    split <;> omega
theorem gd_beg (h : LnI T N) : GdU (tNp T) (begU T) := GdU.beg h.ti.2.1 (fun p hp => ⟨h.ti.2.2.2.2.2.2.2.2.2.2 p (by have := h.ti.2.1; omega), by
  cases e : (tSe T p).testBit p with
  | false => rfl
  | true => exact absurd rfl (h.2.2.2.1.2 p p e).2⟩)
theorem MxP.lo (h : MxP H T N) (sz : TiP T) (g : ∀ q, 85 ≤ q → q ≤ 100 → ∀ i, i < hfo q → hI H2 q i = hI H q i) : MxP H2 T N := by
  obtain ⟨t1, t2, t3, t4, t5, t6, t7, t8, t9, t10, t11⟩ := sz
  have g85 : ∀ k, k < 9 → hI H2 85 k = hI H 85 k := fun k hk => g 85 (by decide) (by decide) k hk
  exact ⟨(g85 0 (by decide)).trans h.nc, (g85 1 (by decide)).trans h.np, (g85 2 (by decide)).trans h.nf, (g85 3 (by decide)).trans h.nt, (g85 4 (by decide)).trans h.na, (g85 5 (by decide)).trans h.sh, (g85 6 (by decide)).trans h.sd, (g85 7 (by decide)).trans h.nk,
    fun k hk => ⟨(g 86 (by decide) (by decide) k (by show k < 3; omega)).trans (h.co k hk).1, (g 87 (by decide) (by decide) k (by show k < 3; omega)).trans (h.co k hk).2⟩,
    fun k hk => ⟨(g 88 (by decide) (by decide) k (by show k < 6; omega)).trans (h.pe k hk).1, (g 89 (by decide) (by decide) k (by show k < 6; omega)).trans (h.pe k hk).2.1, (g 90 (by decide) (by decide) k (by show k < 6; omega)).trans (h.pe k hk).2.2⟩,
    fun k hk => ⟨(g 91 (by decide) (by decide) k (by show k < 8; omega)).trans (h.fa k hk).1, (g 92 (by decide) (by decide) k (by show k < 8; omega)).trans (h.fa k hk).2.1, (g 93 (by decide) (by decide) k (by show k < 8; omega)).trans (h.fa k hk).2.2⟩,
    fun k hk => ⟨(g 94 (by decide) (by decide) k (by show k < 12; omega)).trans (h.te k hk).1, (g 95 (by decide) (by decide) k (by show k < 12; omega)).trans (h.te k hk).2⟩,
    fun k hk => (g 96 (by decide) (by decide) k (by show k < 12; omega)).trans (h.as k hk),
    fun k hk => ⟨(g 97 (by decide) (by decide) k (by show k < 2; omega)).trans (h.lw k hk).1, (g 98 (by decide) (by decide) k (by show k < 2; omega)).trans (h.lw k hk).2⟩,
    fun k hk => ⟨(g 99 (by decide) (by decide) k (by show k < 64; omega)).trans (h.kn k hk).1, (g 100 (by decide) (by decide) k (by show k < 64; omega)).trans (h.kn k hk).2⟩⟩
theorem tie_text (g : GI Ls xs i S H) (hi : i < 513) (w : Int32) : TieB Ls xs i mX10_text mX11_text 7 703 [.ref 0, .int w] [.ref 83, .int w] S H := by
  obtain ⟨hs, hZ, T, u, ps, L, img, ui, n, b, fa, fp, t, sp, z, pn, A, N, lf, LF, lfi, hk, hm, hp, hz⟩ := g
  obtain ⟨hr, k2, k3, k4, k5, k6, k7, k8, k9, ⟨lt, k10⟩, k11, k12⟩ := hk
  obtain ⟨hN, hu, hL, hi2, hn, hby⟩ := hp
  by_cases hno : w < 0 ∨ nI n < w
  · exact ⟨zI (-2), 0, 0, by decide, by decide, tie_q hs hZ hi ⟨hr, k2, k3, k4, k5, k6, k7, k8, k9, ⟨lt, k10⟩, k11, k12⟩ hm ⟨hN, hu, hL, hi2, hn, hby⟩ hz (cq_p (c_text0 hs.1 hr.sc k2 k3 k8.1 hn hno) rfl hr.mi) (fun H1 hm1 => mq_h (m_text0 hm1.1.ms.fx hm1.2.2.2.2.2.1.1 hno) (fun y H2 q => ⟨q.1, by rw [q.2]; exact MoF.pF (A := fun q => q = 83 ∨ q = 101 ∨ q = 102 ∨ (112 ≤ q ∧ q ≤ 118)) (F := fun k => k = 0 ∨ k = 34 ∨ k = 48 ∨ k = 56) (k := 0) MoF.rf (Or.inl rfl) (Or.inl rfl) _⟩) rfl)⟩
  · obtain ⟨m, hm2, rfl⟩ := le_n (fun e => hno (Or.inl e)) (by omega) (fun e => hno (Or.inr e))
    have hm2 : m ≤ n := Nat.le_of_lt_succ hm2
    have hok : TrOk (scF b lt m) := scF_ok (by omega)
    cases hrd : rdL 701 (scF b lt m) 701 0 0 tx0 with
    | inl y =>
      obtain ⟨c, q⟩ := y
      refine ⟨zI (-1), 0, 0, by decide, by decide, tie_c (c_text1 (q := lt) hs.1 hr.sc k2 k3 k8.1 hn hby k8.2 k9 k10 (Nat.le_refl _) (Nat.le_refl _) hm2 hrd) (fun R ⟨y, H1, ⟨q1, q2, q3, q4, q5, q6, q7, q8⟩, e⟩ => ?_)⟩
      have hs1 := hs.off q8 (by omega)
      have hk1 : KlI S H1 T u ps L img ui 0 b (nI c) (zI (kP (scF b lt m) q)) t sp z pn A := ⟨⟨hs.1, hr.tt, (q4 6).trans hr.sc, hr.tx.off q8 (fun j hj => by omega), hr.tk, hr.st.off q8 (fun j hj => by omega), hr.ok, hr.np, hr.mi.off q8 (by omega) (by omega), hr.zb, hr.hd, hr.li, hr.h9⟩, (q4 7).trans k2, k3, ⟨(q3 15 (by decide)).trans k4.1, (q3 14 (by decide)).trans k4.2.1, k4.2.2.1, k4.2.2.2.1, fun j hj => (q8.R (by omega) j).trans (k4.2.2.2.2.1 j hj), k4.2.2.2.2.2⟩, k5.off k4 k4.2.2.2.1 q8 (fun q hq => by omega), (q3 12 (by decide)).trans k6, fun e => ⟨(k7 e).1.off q8 (fun j hj => by omega), (k7 e).2⟩, ⟨q2, fun j hj => absurd hj (Nat.not_lt_zero j)⟩, fun w hw => (q8.I (by omega) w).trans (k9 w hw), ⟨_, q5⟩, q6, q7⟩
      have hm1 := hm.off hs.1 q8 (fun q z => by omega)
      refine ⟨S, H1, by rw [e, q1], hs1, vq_mo (m_text1 hm1.1.ms.fx hm1.2.2.2.2.2.1.1 hn hm2 (fun j hj => hm1.2.2.2.2.2.1.2 j (by omega)) (fun j hj => hby j (by omega)) (lex_all lt m) hok (Nat.le_refl _) (Nat.le_refl _) hrd) (fun R2 ⟨y2, H2, ⟨p1, p2, p3, p4, p5⟩, e2⟩ => ?_)⟩
      obtain ⟨NN, hNN⟩ := hN
      have o5 : Off (fun q => q = 83 ∨ (85 ≤ q ∧ q ≤ 100)) H1 H2 := (Off.pI (A := fun q => q = 83 ∨ (85 ≤ q ∧ q ≤ 100)) (Off.pI (A := fun q => q = 83 ∨ (85 ≤ q ∧ q ≤ 100)) (Off.pI (A := fun q => q = 83 ∨ (85 ≤ q ∧ q ≤ 100)) Off.rf (Or.inl rfl) _ _) (Or.inl rfl) _ _) (Or.inl rfl) _ _).tr p5.1
      have g83 : ∀ k, ¬ (k = 0 ∨ k = 2 ∨ (19 ≤ k ∧ k ≤ 31)) → hI H2 83 k = hI H1 83 k := fun k hk => (p5.2.1 k (by omega)).trans (by rw [hI_sI, if_neg (by omega), hI_sI, if_neg (by omega), hI_sI, if_neg (by omega)])
      have low : ∀ q, 85 ≤ q → q ≤ 100 → ∀ i, i < hfo q → hI H2 q i = hI H1 q i := fun q a1 a2 i hi => (p5.2.2 q a1 a2 i hi).trans (by rw [hI_sI, if_neg (by omega), hI_sI, if_neg (by omega), hI_sI, if_neg (by omega)])
      have h20 : hI H2 83 2 = nI 0 := (p5.2.1 2 (by omega)).trans (by rw [hI_sI, if_pos ⟨rfl, rfl⟩])
      have mo : MoF (fun q => q = 83 ∨ (85 ≤ q ∧ q ≤ 100)) (fun k => k = 0 ∨ k = 2 ∨ (19 ≤ k ∧ k ≤ 31)) H1 H2 := ⟨o5, g83⟩
      obtain ⟨m1, m2, m3, m4, m5, m6, m7, m8⟩ := hm1
      have hw := m1.ms.tw
      have hre : ∀ s, RmE H1 H2 s := fun s => RmE.of o5 (fun q a1 a2 => by omega)
      have hm2 : MoI S H2 T u ps L img ui 0 b (nI c) (zI (kP (scF b lt m) q)) N lf LF lfi := ⟨⟨⟨hs.1, m1.ms.mx.lo hNN.ti low, m1.ms.mw.off mo (by omega) (by omega) (by omega), m1.ms.tk, m1.ms.tw, m1.ms.nx, m1.ms.tt⟩, m1.rm.e hw (hre 0), m1.lr, m1.ok⟩, m2.e hw (g83 47 (by omega)) (fun s _ => hre s), m3.off mo (by omega) (by omega), (g83 46 (by omega)).trans m4, fun e => ⟨(m5 e).1.e hw (hre 2), (m5 e).2⟩, ⟨h20, fun j hj => absurd hj (Nat.not_lt_zero j)⟩, p3, by rw [p4, kP, if_pos p2]; rfl⟩
      exact ⟨H2, by rw [e2, p1], hs1.off o5 (by omega), by omega, T, u, ps, L, img, ui, 0, b, _, _, t, sp, z, pn, A, N, lf, LF, lfi, hk1.off o5 (fun q z => by omega), hm2, ⟨⟨NN, hNN⟩, hu.s, fun j hj => (hL j hj).s, fun e => (hi2 e).s, by omega, fun j hj => absurd hj (Nat.not_lt_zero j)⟩, by omega⟩
    | inr y =>
      obtain ⟨l, T2⟩ := y
      obtain ⟨N0, h0⟩ := rdL_ln (N := fun _ _ => 0) hok (Nat.le_refl _) ln0 hrd
      have hl := rdL_le hrd
      have okb := ok_beg h0
      refine ⟨nI l, 0, 0, by decide, by decide, tie_c (c_text2 (q := lt) hs.1 hr.sc k2 k3 k8.1 hn hby k8.2 k9 k10 (Nat.le_refl _) (Nat.le_refl _) hm2 hrd h0.ti h0.2.1 h0.ht.tr (by omega)) (fun R ⟨y, H1, ⟨q1, q2, q3, q4, q5, q6, q7, q8, q9, q10, q11, q12, q13, q14⟩, e⟩ => ?_)⟩
      have hs1 := hs.off q14 (by omega)
      have hk1 : KlI S H1 T2 (begU T2) 0 L false ui 0 b (nI 0) (-1) sp t z pn A := ⟨⟨hs.1, by omega, q6, q12, h0.tx, q13, okb, rfl, hr.mi.off q14 (by omega) (by omega), hr.zb, by show 0 + 40000 ≤ 100000000; decide, by show 0 + 40000 ≤ 100000000; decide, by show 0 ≤ 9800; decide⟩, q7, by omega, ⟨q5.trans k4.1, q4, k4.2.2.1, by omega, fun j hj => (q14.R (by omega) j).trans (k4.2.2.2.2.1 j hj), k4.2.2.2.2.2⟩, fun j hj => absurd hj (Nat.not_lt_zero j), q3, fun e => (by cases e), ⟨q2, fun j hj => absurd hj (Nat.not_lt_zero j)⟩, fun w hw => (q14.I (by omega) w).trans (k9 w hw), ⟨_, q9⟩, q10, q11⟩
      have hm1 := hm.off hs.1 q14 (fun q z => by omega)
      refine ⟨S, H1, by rw [e, q1]; rfl, hs1, vq_mo (m_text2 hm1.1.ms.fx hm1.2.2.2.2.2.1.1 hn hm2 (fun j hj => hm1.2.2.2.2.2.1.2 j (by omega)) (fun j hj => hby j (by omega)) (lex_all lt m) hok (Nat.le_refl _) (Nat.le_refl _) hrd) (fun R2 ⟨y2, H2, ⟨p1, ⟨NN, hNN, p2⟩, p3, p4, p5, p6, p7, p8, p9, p10, p11, p12⟩, e2⟩ => ?_)⟩
      have hm2 : MoI S H2 T2 (begU T2) 0 L false ui 0 b (nI 0) (-1) NN (fun _ => true) LF lfi := ⟨⟨⟨hs.1, p2, p3, hNN.tx, hNN.tw, hNN.nx, hNN.tt⟩, p4, LfR.beg hNN.tt, okb⟩, ⟨p8, by omega, fun j hj => absurd hj (Nat.not_lt_zero j)⟩, ⟨(p9 57 (by decide) (by decide) (by decide) (by decide) (by decide) (by decide) (by decide)).trans hm1.2.2.1.1, (p9 58 (by decide) (by decide) (by decide) (by decide) (by decide) (by decide) (by decide)).trans hm1.2.2.1.2⟩, p7, fun e => (by cases e), ⟨p11, fun j hj => absurd hj (Nat.not_lt_zero j)⟩, p5, p6⟩
      exact ⟨H2, by rw [e2, p1], hs1.off p12 (by omega), by omega, T2, begU T2, 0, L, false, ui, 0, b, _, _, sp, t, z, pn, A, NN, _, LF, lfi, hk1.off p12 (fun q z => by omega), hm2, ⟨⟨NN, hNN⟩, ⟨gd_beg hNN, okb, Nat.zero_le _, Nat.zero_le _, by show 0 ≤ 9800; decide⟩, fun j hj => absurd hj (Nat.not_lt_zero j), fun e => (by cases e), by omega, fun j hj => absurd hj (Nat.not_lt_zero j)⟩, by omega⟩
end TIM
