/-! ===== the calls that change the room, the class's and the reference's ===== -/
section TIC
variable {Ls i n n2 t sp z z1 pn pn2 ps ps2 c1 c2 : Nat} {xs : Nat → Int32} {S S1 : xS} {H H1 H2 : xH} {T : uTx} {u u1 ui ui2 : uSt} {L L2 : Nat → uSt} {img img2 : Bool} {b b2 : Nat → Nat} {fa fp : Int32} {A A2 : Nat → Option Nat} {N : Nat → Nat → Nat} {lf lf2 lfi lfi2 : Nat → Bool} {LF LF2 : Nat → Nat → Bool} {AA F : Nat → Prop} {w w2 : Int32}
theorem KlI.upd (h : KlI S H T u ps L img ui n b fa fp t sp z pn A) (hF : gFx S1) (ho : Off AA H H1) (hA : ∀ q, AA q → q = 0 ∨ q = 1 ∨ (16 ≤ q ∧ q ≤ 23) ∨ (66 ≤ q ∧ q ≤ 82) ∨ 119 ≤ q) (hR : ∀ k, hR H1 0 k = hR H 0 k) (hu : StP H1 67 u1) (ok : StOk u1) (np : uNp u1 = tNp T) (hm : MiP H1 z1) (hz : z1 + 20000000 < 2147483648) (hd : uHd u1 + 40000 ≤ 100000000) (hl : uLi u1 + 40000 ≤ 100000000) (h9 : uHr u1 ≤ 9800) (hp : PaP S1 H1 pn2 ps2 A2) (hun : UnP H1 pn2 ps2 A2 L2) (hi : hI H1 0 12 = bI img2) (hui : img2 = true → StP H1 77 ui2 ∧ StOk ui2) (hta : TaP H1 n2 b2) : KlI S1 H1 T u1 ps2 L2 img2 ui2 n2 b2 fa fp t sp z1 pn2 A2 := by
  have g : ∀ q, 2 ≤ q → q < 66 → ¬ (16 ≤ q ∧ q ≤ 23) → ¬ AA q := fun q q1 q2 q3 z => by have := hA q z; omega
  obtain ⟨⟨r1, r2, r3, r4, r5, r6, r7, r8, r9, r10, r11, r12, r13⟩, h2, h3, h4, h5, h6, h7, h8, h9b, h10, h11, h12⟩ := h
  exact ⟨⟨hF, r2, (hR 6).trans r3, r4.off ho (fun j hj => g _ (by omega) (by omega) (by omega)), r5, hu, ok, np, hm, hz, hd, hl, h9⟩, (hR 7).trans h2, h3, hp, hun, hi, hui, hta, fun w hw => (ho.I (g 3 (by omega) (by omega) (by omega)) w).trans (h9b w hw), h10.imp (fun lt e => (ho.I (g 2 (by omega) (by omega) (by omega)) 6).trans e), (ho.I (g 2 (by omega) (by omega) (by omega)) 7).trans h11, (ho.I (g 2 (by omega) (by omega) (by omega)) 8).trans h12⟩
theorem MoI.upd (h : MoI S H T u ps L img ui n b fa fp N lf LF lfi) (ho : MoF (fun q => q = 83 ∨ q = 101 ∨ q = 102 ∨ (104 ≤ q ∧ q ≤ 118)) (fun k => k = 0 ∨ k = 34 ∨ k = 46 ∨ k = 47 ∨ k = 48 ∨ k = 56) H H1) (hr : RmP H1 T 0 lf2 u1) (hl : LfR T lf2 u1) (ok : StOk u1) (hud : UdP H1 T ps2 L2 LF2) (h46 : hI H1 83 46 = bI img2) (hi : img2 = true → RmP H1 T 2 lfi2 ui2 ∧ LfR T lfi2 ui2) : MoI S H1 T u1 ps2 L2 img2 ui2 n b fa fp N lf2 LF2 lfi2 := by
  obtain ⟨h1, h2, h3, h4, h5, h6, h7, h8⟩ := h
  have g83 : ∀ k, ¬ (k = 0 ∨ k = 34 ∨ k = 46 ∨ k = 47 ∨ k = 48 ∨ k = 56) → hI H1 83 k = hI H 83 k := ho.2
  exact ⟨⟨h1.ms.off ho (fun q a1 a2 => by omega) (by omega) (by omega) (by omega), hr, hl, ok⟩, hud, h3.off ho (by omega) (by omega), h46, hi, ⟨(g83 2 (by omega)).trans h6.1, fun j hj => (ho.1.I (by omega) j).trans (h6.2 j hj)⟩, (g83 28 (by omega)).trans h7, (g83 29 (by omega)).trans h8⟩
/-- two halves of a call that changes the room -/
theorem tie_c {Mc Mm : xM} {kc km : Nat} {ac am : List Value} {v : Value} {P : xR → Prop} (c : Vq Mc kc c1 c2 ac S H P) (h : ∀ R, P R → ∃ S1 H1, R = (some v, S1, H1) ∧ ScL Ls xs S1 H1 ∧ Vq Mm km 0 0 am S1 H1 (fun R2 => ∃ H2, R2 = (some v, S1, H2) ∧ GI Ls xs (i + 1) S1 H2)) : Tie Ls xs i Mc Mm kc km c1 c2 ac am S H v := vq_mo c h
theorem tie_feed (g : GI Ls xs i S H) (hi : i < 513) (v1 v2 v3 v4 v5 : Int32) : ∃ v : Int32, Tie Ls xs i mX10_feed mX11_feed 1 0 0 0 [.ref 0, .int v1, .int v2, .int v3, .int v4, .int v5] [.ref 83, .int v1, .int v2, .int v3, .int v4, .int v5] S H (.int v) := by
  obtain ⟨hs, hZ, T, u, ps, L, img, ui, n, b, fa, fp, t, sp, z, pn, A, N, lf, LF, lfi, hk, hm, hp, hz⟩ := g
  have hr := hk.1
  have hta := hk.2.2.2.2.2.2.2.1
  by_cases hn : 680 < n
  · refine ⟨zI (-1), tie_q hs hZ hi hk hm hp hz (cq_p (c_feed0 hs.1 hta.1 hn hp.2.2.2.2.1) rfl hr.mi) (fun H1 hm1 => mq_h (m_feed0 hm1.1.ms.fx hm1.2.2.2.2.2.1.1 hn hp.2.2.2.2.1) (fun y H2 q => ⟨q.1, q.2.mo (fun q z => by omega) (fun k z => by omega)⟩) rfl)⟩
  · refine ⟨nI (n + 20), tie_c (c_feed1 (v1 := v1) (v2 := v2) (v3 := v3) (v4 := v4) (v5 := v5) hs.1 hta (by omega)) (fun R ⟨y, H1, ⟨q1, q2, q3, q4, q5⟩, e⟩ => ?_)⟩
    have hs1 := hs.off q5 (by omega)
    have hk1 := hk.upd hs.1 q5 (fun q z => by omega) q4 (hr.st.off q5 (fun j hj => by omega)) hr.ok hr.np (hr.mi.off q5 (by omega) (by omega)) hr.zb hr.hd hr.li hr.h9 (⟨(q3 15 (by decide)).trans hk.2.2.2.1.1, (q3 14 (by decide)).trans hk.2.2.2.1.2.1, hk.2.2.2.1.2.2.1, hk.2.2.2.1.2.2.2.1, fun i hi => (q5.R (by omega) i).trans (hk.2.2.2.1.2.2.2.2.1 i hi), hk.2.2.2.1.2.2.2.2.2⟩ : PaP S H1 pn ps A) (hk.2.2.2.2.1.off hk.2.2.2.1 hk.2.2.2.1.2.2.2.1 q5 (fun q hq => by omega)) ((q3 12 (by decide)).trans hk.2.2.2.2.2.1) (fun e => ⟨(hk.2.2.2.2.2.2.1 e).1.off q5 (fun j hj => by omega), (hk.2.2.2.2.2.2.1 e).2⟩) q2
    have hm1 := hm.off hs.1 q5 (fun q z => by omega)
    refine ⟨S, H1, by rw [e, q1], hs1, vq_mo (m_feed1 (v1 := v1) (v2 := v2) (v3 := v3) (v4 := v4) (v5 := v5) hs.1 hm1.2.2.2.2.2.1 (by omega)) (fun R2 ⟨y2, H2, ⟨p1, p2, p3⟩, e2⟩ => ?_)⟩
    have hw := hm1.1.ms.tw
    have hre : ∀ s, RmE H1 H2 s := fun s => RmE.of p3.1 (fun q a1 a2 => by omega)
    refine ⟨H2, by rw [e2, p1], hs1.off p3.1 (by omega), by omega, T, u, ps, L, img, ui, n + 20, tap5 n b v1 v2 v3 v4 v5, fa, fp, t, sp, z, pn, A, N, lf, LF, lfi, hk1.off p3.1 (fun q z => by omega), ?_, ⟨hp.1, hp.2.1.s, fun j hj => (hp.2.2.1 j hj).s, fun e => (hp.2.2.2.1 e).s, by omega, fun j hj => ?_⟩, by omega⟩
    · obtain ⟨m1, m2, m3, m4, m5, m6, m7, m8⟩ := hm1
      have g83 : ∀ k, ¬ (k = 0 ∨ k = 2) → hI H2 83 k = hI H1 83 k := p3.2
      exact ⟨m1.off p3 (fun q a1 a2 a3 a4 => by omega) (by omega) (by omega), m2.e hw (g83 47 (by omega)) (fun s _ => hre s), m3.off p3 (by omega) (by omega), (g83 46 (by omega)).trans m4, fun e => ⟨(m5 e).1.e hw (hre 2), (m5 e).2⟩, p2, (g83 28 (by omega)).trans m7, (g83 29 (by omega)).trans m8⟩
    · by_cases hj2 : j < n
      · rw [tap5_lo hj2]; exact hp.2.2.2.2.2 j hj2
      · rw [show j = n + (j - n) by omega, tap5_at (by omega)]
        exact byv_lt _ _
theorem UoK.heaU2 {f : Nat} (h : UoK i T u) (hi : i < 513) (hkv : kv T u (tRo T f) (uRl u) = true) : UoK (i + 1) T (heaU T u f) := by
  obtain ⟨h1, h2, h3, h4, h5⟩ := h
  have ok := StOk.hea (T := T) (f := f) h2 (by omega)
  unfold hea at ok
  rw [if_pos hkv] at ok
  have e1 : uHd (heaU T u f) = uHd u + 1 := rfl
  have e2 : uLi (heaU T u f) = uLi u := rfl
  have e3 : uHr (heaU T u f) = uHr u := rfl
  exact ⟨h1.heaU_, ok, by omega, by omega, by omega⟩
theorem UoK.ask2 (h : UoK i T u) : UoK (i + 1) T (askU T false (-1) (-1) u) := by
  obtain ⟨h1, h2, h3, h4, h5⟩ := h
  obtain ⟨g1, g2, g3, g4, g5⟩ := askU_gro (T := T) (dr := false) (ow := -1) (mu := -1) h2
  exact ⟨h1.askU_, g1, by omega, by omega, by omega⟩
theorem UoK.see2 {p q : Nat} (h : UoK i T u) (hp : p < tNp T) (hq : q < tNp T) (hpq : p ≠ q) (h6 : tNp T ≤ 6) : UoK (i + 1) T (uSee u p q) := by
  obtain ⟨h1, h2, h3, h4, h5⟩ := h
  have e1 : uHd (uSee u p q) = uHd u := rfl
  have e2 : uLi (uSee u p q) = uLi u := rfl
  have e3 : uHr (uSee u p q) = uHr u := rfl
  exact ⟨h1.see h2 hp hq hpq, h2.see (by omega), by omega, by omega, by omega⟩
theorem UoK.pas2 {m : Nat} (h : UoK i T u) (hi : i < 513) (tk : TxOk T) (hn : m ≤ 200) (hh : uHr u + m ≤ 9800) : UoK (i + 1) T (pas T true (-1) (-1) u m) := by
  obtain ⟨h1, h2, h3, h4, h5⟩ := h
  obtain ⟨⟨g1, g2, g3, g4⟩, g5⟩ := pas_ok (T := T) (dr := true) (ow := -1) (mu := -1) h2 tk hn (by omega) (by omega) (by omega)
  exact ⟨h1.pas_, g1, by omega, by omega, by omega⟩
/-- behind a call that remembers -/
theorem tie_rem {Mm : xM} {km : Nat} {am : List Value} {v : Value} (hs : ScL Ls xs S H) (hZ : fZ S ≤ 120 + 5 * i) (hi : i < 513) (hk : KlI S H T u ps L img ui n b fa fp t sp z pn A) (hm : MoI S H T u ps L img ui n b fa fp N lf LF lfi) (hp : PuI i T u ps L img ui n b) (hz : z ≤ 60000 * i) (hq : RmQ S H pn ps L u u1 z S1 H1) (ho : UoK (i + 1) T u1)
    (m : MoI S1 H1 T u ps L img ui n b fa fp N lf LF lfi → Vq Mm km 0 0 am S1 H1 (fun R2 => ∃ H2, R2 = (some v, S1, H2) ∧ (∃ lf2, RmP H2 T 0 lf2 u1 ∧ LfR T lf2 u1) ∧ UdP H2 T (min (ps + 1) 20) (fun j => if j = 0 then u else L (j - 1)) (fun j => if j = 0 then lf else LF (j - 1)) ∧ RmE H1 H2 2 ∧ MoF (fun q => q = 83 ∨ q = 101 ∨ q = 102 ∨ (104 ≤ q ∧ q ≤ 118)) (fun k => k = 0 ∨ k = 34 ∨ k = 47 ∨ k = 48 ∨ k = 56) H1 H2)) :
    ScL Ls xs S1 H1 ∧ Vq Mm km 0 0 am S1 H1 (fun R2 => ∃ H2, R2 = (some v, S1, H2) ∧ GI Ls xs (i + 1) S1 H2) := by
  obtain ⟨hS, ⟨A1, hP, hU⟩, hst, hRo, hO, t2, ht2, hmi⟩ := hq
  have hr := hk.1
  have hs1 : ScL Ls xs S1 H1 := (hs.ex hS (by omega)).off hO (by omega)
  have hk1 := hk.upd hs1.1 hO (fun q z => by omega) hRo.2 hst ho.2.1 ho.1.1 hmi (by omega) (by have := ho.2.2.1; omega) (by have := ho.2.2.2.1; omega) ho.2.2.2.2 hP hU ((hRo.1 12 (by decide)).trans hk.2.2.2.2.2.1) (fun e => ⟨(hk.2.2.2.2.2.2.1 e).1.off hO (fun j hj => by omega), (hk.2.2.2.2.2.2.1 e).2⟩) (⟨(hRo.1 1 (by decide)).trans hk.2.2.2.2.2.2.2.1.1, fun j hj => (hO.I (by omega) j).trans (hk.2.2.2.2.2.2.2.1.2 j hj)⟩ : TaP H1 n b)
  have hm1 := hm.off (S1 := S1) hs1.1 hO (fun q z => by omega)
  refine ⟨hs1, vq_mo (m hm1) (fun R2 ⟨H2, e2, ⟨lf2, p1, p2⟩, p3, p4, p5⟩ => ?_)⟩
  have hw := hm1.1.ms.tw
  have hm2 := hm1.upd (p5.mo (fun q z => z) (fun k z => by omega)) p1 p2 ho.2.1 p3 ((p5.2 46 (by omega)).trans hm1.2.2.2.1) (fun e => ⟨(hm1.2.2.2.2.1 e).1.e hw p4, (hm1.2.2.2.2.1 e).2⟩)
  exact ⟨H2, e2, hs1.off p5.1 (by omega), by have := hS.2.2; omega, T, u1, min (ps + 1) 20, _, img, ui, n, b, fa, fp, t, sp, t2, _, A1, N, lf2, _, lfi, hk1.off p5.1 (fun q z => by omega), hm2, ⟨hp.1, ho, fun j hj => by
    show UoK (i + 1) T (if j = 0 then u else L (j - 1))
    by_cases e : j = 0
    · rw [if_pos e]; exact hp.2.1.s
    · rw [if_neg e]; exact (hp.2.2.1 (j - 1) (by omega)).s, fun e => (hp.2.2.2.1 e).s, hp.2.2.2.2⟩, by omega⟩
def TieB (Ls : Nat) (xs : Nat → Int32) (i : Nat) (Mc Mm : xM) (kc km : Nat) (ac am : List Value) (S : xS) (H : xH) : Prop := ∃ (v : Int32) (c1 c2 : Nat), c1 ≤ 5 ∧ c2 ≤ 764 ∧ Tie Ls xs i Mc Mm kc km c1 c2 ac am S H (.int v)
theorem tie_ask (g : GI Ls xs i S H) (hi : i < 513) : TieB Ls xs i mX10_ask mX11_ask 5 7 [.ref 0] [.ref 83] S H := by
  obtain ⟨hs, hZ, T, u, ps, L, img, ui, n, b, fa, fp, t, sp, z, pn, A, N, lf, LF, lfi, hk, hm, hp, hz⟩ := g
  have hr := hk.1
  refine ⟨nI (askX T false (-1) (-1) u), 5, 764, by decide, by decide, tie_c (c_ask hr hk.2.2.2.1 hk.2.2.2.2.1) (fun R ⟨x, S1, H1, hq, e, _⟩ => ?_)⟩
  obtain ⟨g1, g2⟩ := tie_rem (v := vN (askX T false (-1) (-1) u)) hs hZ hi hk hm hp hz hq hp.2.1.ask2 (fun hm1 => vq_mo (m_ask hm1.1 hm1.2.1 hm1.2.2.1) (fun R2 ⟨y, H2, ⟨p1, p2, p3, p4, p5⟩, e2⟩ => ⟨H2, by rw [e2, p1], p2, p3, p4, p5⟩))
  exact ⟨S1, H1, e, g1, g2⟩
theorem tie_tell (g : GI Ls xs i S H) (hi : i < 513) (w : Int32) : TieB Ls xs i mX10_tell mX11_tell 5 6 [.ref 0, .int w] [.ref 83, .int w] S H := by
  obtain ⟨hs, hZ, T, u, ps, L, img, ui, n, b, fa, fp, t, sp, z, pn, A, N, lf, LF, lfi, hk, hm, hp, hz⟩ := g
  have hr := hk.1
  by_cases hno : hasB w (tNf T) = false
  · exact ⟨_, 0, 0, by decide, by decide, tie_q hs hZ hi hk hm hp hz (cq_p (c_tell0 hr hno) rfl hr.mi) (fun H1 hm1 => mq_h (m_tell0 hm1.1 hno) (fun y H2 q => q) rfl)⟩
  · obtain ⟨f, hf, rfl⟩ := hasB_k (show hasB w (tNf T) = true by simpa using hno)
    cases hkv : kv T u (tRo T f) (uRl u) with
    | true =>
      refine ⟨nI (uZ (heaU T u f)), 5, 764, by decide, by decide, tie_c (c_tell2 hr hk.2.2.2.1 hk.2.2.2.2.1 hf hkv) (fun R ⟨x, S1, H1, hq, e, _⟩ => ?_)⟩
      obtain ⟨g1, g2⟩ := tie_rem (v := vN (uZ (heaU T u f))) hs hZ hi hk hm hp hz hq (hp.2.1.heaU2 hi hkv) (fun hm1 => vq_mo (m_tell2 hm1.1 hm1.2.1 hf hkv) (fun R2 ⟨y, H2, ⟨p1, p2, p3, p4, p5⟩, e2⟩ => ⟨H2, by rw [e2, p1], p2, p3, p4, p5⟩))
      exact ⟨S1, H1, e, g1, g2⟩
    | false =>
      refine ⟨zI (-2), 0, 0, by decide, by decide, tie_c (c_tell1 hr hf hkv) (fun R ⟨y, H1, ⟨q1, q2, q3, t2, q4, q5⟩, e⟩ => ?_)⟩
      have hs1 := hs.off q3 (by omega)
      have hk1 := hk.upd hs.1 q3 (fun q z => by omega) (fun k => q3.R (by omega) k) q2 hr.ok hr.np q5 (by omega) hr.hd hr.li hr.h9 (hk.2.2.2.1.off q3 (by omega) (by omega)) (hk.2.2.2.2.1.off hk.2.2.2.1 hk.2.2.2.1.2.2.2.1 q3 (fun q hq => by omega)) ((q3.I (by omega) 12).trans hk.2.2.2.2.2.1) (fun e => ⟨(hk.2.2.2.2.2.2.1 e).1.off q3 (fun j hj => by omega), (hk.2.2.2.2.2.2.1 e).2⟩) (⟨(q3.I (by omega) 1).trans hk.2.2.2.2.2.2.2.1.1, fun j hj => (q3.I (by omega) j).trans (hk.2.2.2.2.2.2.2.1.2 j hj)⟩ : TaP H1 n b)
      have hm1 := hm.off hs.1 q3 (fun q z => by omega)
      refine ⟨S, H1, by rw [e, q1], hs1, vq_mo (m_tell1 hm1.1 hf hkv) (fun R2 ⟨y2, H2, ⟨p1, p2⟩, e2⟩ => ?_)⟩
      exact ⟨H2, by rw [e2, p1], hs1.off p2.1 (by omega), by omega, T, u, ps, L, img, ui, n, b, fa, fp, t, sp, t2, pn, A, N, lf, LF, lfi, hk1.off p2.1 (fun q z => by omega), hm1.q (TrF.of p2), hp.s, by omega⟩
theorem tie_peep (g : GI Ls xs i S H) (hi : i < 513) (w w2 : Int32) : TieB Ls xs i mX10_peep mX11_peep 4 5 [.ref 0, .int w, .int w2] [.ref 83, .int w, .int w2] S H := by
  obtain ⟨hs, hZ, T, u, ps, L, img, ui, n, b, fa, fp, t, sp, z, pn, A, N, lf, LF, lfi, hk, hm, hp, hz⟩ := g
  have hr := hk.1
  by_cases hno : ¬ (hasB w (tNp T) = true ∧ hasB w2 (tNp T) = true ∧ w ≠ w2)
  · exact ⟨_, 0, 0, by decide, by decide, tie_q hs hZ hi hk hm hp hz (cq_p (c_peep0 hr hno) rfl hr.mi) (fun H1 hm1 => mq_h (m_peep0 hm1.1 hno) (fun y H2 q => q) rfl)⟩
  · obtain ⟨a1, a2, a3⟩ := Classical.not_not.mp hno
    obtain ⟨p, hp2, rfl⟩ := hasB_k a1
    obtain ⟨q, hq2, rfl⟩ := hasB_k a2
    have hpq : p ≠ q := fun e => a3 (by rw [e])
    cases hsb : (uSe u p).testBit q with
    | true => exact ⟨_, 0, 0, by decide, by decide, tie_q hs hZ hi hk hm hp hz (cq_p (c_peep1 hr hp2 hq2 hpq hsb) rfl hr.mi) (fun H1 hm1 => mq_h (m_peep1 hm1.1 hp2 hq2 hpq hsb) (fun y H2 q => q) rfl)⟩
    | false =>
      refine ⟨nI (alikeN (uSee u p q) p), 5, 764, by decide, by decide, tie_c (c_peep2 hr hp2 hq2 hpq hk.2.2.2.1 hk.2.2.2.2.1 hsb) (fun R ⟨x, S1, H1, hq, e, _⟩ => ?_)⟩
      obtain ⟨g1, g2⟩ := tie_rem (v := vN (alikeN (uSee u p q) p)) hs hZ hi hk hm hp hz hq (hp.2.1.see2 hp2 hq2 hpq hr.tk.2.1) (fun hm1 => vq_mo (m_peep2 hm1.1 hm1.2.1 hp2 hq2 hpq hsb) (fun R2 ⟨y, H2, ⟨p1, p2, p3, p4, p5⟩, e2⟩ => ⟨H2, by rw [e2, p1], p2, p3, p4, p5⟩))
      exact ⟨S1, H1, e, g1, g2⟩
end TIC
