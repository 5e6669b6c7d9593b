/-! ===== the reference: what its arrays hold ===== -/
def sgn (k : Nat) : Nat := if k = 11 then 262 else if k = 12 then 261 else if k = 13 then 260 else if k = 28 then 43 else if k = 29 then 45 else if k = 30 then 42 else if k = 31 then 47 else if k = 32 then 60 else if k = 33 then 256 else if k = 34 then 61 else if k = 35 then 257 else if k = 36 then 258 else 62
def mkS (T : uTx) (k : Nat) : Nat := if tK T k = 14 then 3 else if tK T k = 15 then 4 else if tK T k = 16 then 5 else if tK T k = 17 then 6 else if tK T k = 18 then 7 else if tK T k = 19 then 8 else if tK T k = 20 then 9 else if tK T k = 38 then 0 else if 21 ≤ tK T k ∧ tK T k ≤ 27 then 1 else 2
def mkV (T : uTx) (k : Nat) : Nat := if tK T k = 14 ∨ tK T k = 19 then 8 * tX T k + tY T k else if tK T k = 15 ∨ tK T k = 20 ∨ tK T k = 38 then tX T k else if tK T k = 16 then tY T k else if tK T k = 17 ∨ tK T k = 18 then 0 else if 21 ≤ tK T k ∧ tK T k ≤ 27 then tK T k - 21 else sgn (tK T k)
def arK (k : Nat) : Nat := if k = 13 ∨ k = 16 ∨ k = 17 ∨ k = 18 then 1 else if k = 11 ∨ k = 12 ∨ (28 ≤ k ∧ k ≤ 37) then 2 else 0
/-- the knots that wait, ahead of knot a + n, the latest first -/
def stk (T : uTx) (a : Nat) : Nat → List Nat
  | 0 => []
  | n + 1 => (a + n) :: (stk T a n).drop (arK (tK T (a + n)))
def RpnOk (T : uTx) (w : Int64) (a b : Nat) : Prop := a < b ∧ (∀ n, a + n < b → rb w (a + n) = true ∧ (arK (tK T (a + n)) = 1 → ∃ r, stk T a n = tX T (a + n) :: r) ∧ (arK (tK T (a + n)) = 2 → ∃ r, stk T a n = tY T (a + n) :: tX T (a + n) :: r)) ∧ stk T a (b - a) = [b - 1]
def NxOk (T : uTx) (N : Nat → Nat → Nat) : Prop := (∀ f, f < tNf T → RpnOk T (tNe T f) (N 0 f) (tRo T f + 1) ∧ ∀ k, N 0 f ≤ k → k ≤ tRo T f → (tK T k = 20 → tX T k < f ∧ tY T k = tRo T (tX T k)) ∧ (tK T k = 14 ∨ tK T k = 15 → tX T k < tNp T) ∧ (tK T k = 16 → tY T k < tNp T)) ∧ ∀ l, l < 2 → tLn T l ≠ 0 → RpnOk T (tLn T l) (N 1 l) (tLr T l + 1) ∧ ∀ k, k < 64 → rb (tLn T l) k = true → N 1 l ≤ k
/-- the true world is that of the hats -/
def TtOk (T : uTx) : Prop := trW T < nW T ∧ ∀ p, p < tNp T → cl T (trW T) p = tHt T p
/-- what is written: places A, of the reference's own fields F -/
def MoF (A F : Nat → Prop) (H H2 : xH) : Prop := Off A H H2 ∧ ∀ k, ¬ F k → hI H2 83 k = hI H 83 k
def MxP (H : xH) (T : uTx) (N : Nat → Nat → Nat) : Prop := (hI H 85 0 = nI (tNc T)) ∧ (hI H 85 1 = nI (tNp T)) ∧ (hI H 85 2 = nI (tNf T)) ∧ (hI H 85 3 = nI (tNt T)) ∧ (hI H 85 4 = nI (tNa T)) ∧ (hI H 85 5 = nI (shv T)) ∧ (hI H 85 6 = nI (sdv T)) ∧ (hI H 85 7 = nI (tNk T)) ∧ (∀ k, k < tNc T → hI H 86 k = nI (tCn T k) ∧ hI H 87 k = nI (tSt T k)) ∧ (∀ k, k < tNp T → hI H 88 k = nI (tPn T k) ∧ hI H 89 k = nI (tHt T k) ∧ hI H 90 k = nI (tSe T k)) ∧ (∀ k, k < tNf T → hI H 91 k = nI (tFn T k) ∧ hI H 92 k = nI (N 0 k) ∧ hI H 93 k = nI (tRo T k + 1)) ∧ (∀ k, k < tNt T → hI H 94 k = nI (tTf T k) ∧ hI H 95 k = nI (tTh T k)) ∧ (∀ k, k < tNa T → hI H 96 k = nI (tAh T k)) ∧ (∀ k, k < 2 → hI H 97 k = nI (if tLn T k = 0 then 0 else N 1 k) ∧ hI H 98 k = nI (if tLn T k = 0 then 0 else tLr T k + 1)) ∧ (∀ k, k < tNk T → hI H 99 k = nI (mkS T k) ∧ hI H 100 k = nI (mkV T k))
theorem MxP.nc {H : xH} {T : uTx} {N : Nat → Nat → Nat} (h : MxP H T N) : hI H 85 0 = nI (tNc T) := h.1
theorem MxP.np {H : xH} {T : uTx} {N : Nat → Nat → Nat} (h : MxP H T N) : hI H 85 1 = nI (tNp T) := h.2.1
theorem MxP.nf {H : xH} {T : uTx} {N : Nat → Nat → Nat} (h : MxP H T N) : hI H 85 2 = nI (tNf T) := h.2.2.1
theorem MxP.nt {H : xH} {T : uTx} {N : Nat → Nat → Nat} (h : MxP H T N) : hI H 85 3 = nI (tNt T) := h.2.2.2.1
theorem MxP.na {H : xH} {T : uTx} {N : Nat → Nat → Nat} (h : MxP H T N) : hI H 85 4 = nI (tNa T) := h.2.2.2.2.1
theorem MxP.sh {H : xH} {T : uTx} {N : Nat → Nat → Nat} (h : MxP H T N) : hI H 85 5 = nI (shv T) := h.2.2.2.2.2.1
theorem MxP.sd {H : xH} {T : uTx} {N : Nat → Nat → Nat} (h : MxP H T N) : hI H 85 6 = nI (sdv T) := h.2.2.2.2.2.2.1
theorem MxP.nk {H : xH} {T : uTx} {N : Nat → Nat → Nat} (h : MxP H T N) : hI H 85 7 = nI (tNk T) := h.2.2.2.2.2.2.2.1
theorem MxP.co {H : xH} {T : uTx} {N : Nat → Nat → Nat} (h : MxP H T N) : ∀ k, k < tNc T → hI H 86 k = nI (tCn T k) ∧ hI H 87 k = nI (tSt T k) := h.2.2.2.2.2.2.2.2.1
theorem MxP.pe {H : xH} {T : uTx} {N : Nat → Nat → Nat} (h : MxP H T N) : ∀ k, k < tNp T → hI H 88 k = nI (tPn T k) ∧ hI H 89 k = nI (tHt T k) ∧ hI H 90 k = nI (tSe T k) := h.2.2.2.2.2.2.2.2.2.1
theorem MxP.fa {H : xH} {T : uTx} {N : Nat → Nat → Nat} (h : MxP H T N) : ∀ k, k < tNf T → hI H 91 k = nI (tFn T k) ∧ hI H 92 k = nI (N 0 k) ∧ hI H 93 k = nI (tRo T k + 1) := h.2.2.2.2.2.2.2.2.2.2.1
theorem MxP.te {H : xH} {T : uTx} {N : Nat → Nat → Nat} (h : MxP H T N) : ∀ k, k < tNt T → hI H 94 k = nI (tTf T k) ∧ hI H 95 k = nI (tTh T k) := h.2.2.2.2.2.2.2.2.2.2.2.1
theorem MxP.as {H : xH} {T : uTx} {N : Nat → Nat → Nat} (h : MxP H T N) : ∀ k, k < tNa T → hI H 96 k = nI (tAh T k) := h.2.2.2.2.2.2.2.2.2.2.2.2.1
theorem MxP.lw {H : xH} {T : uTx} {N : Nat → Nat → Nat} (h : MxP H T N) : ∀ k, k < 2 → hI H 97 k = nI (if tLn T k = 0 then 0 else N 1 k) ∧ hI H 98 k = nI (if tLn T k = 0 then 0 else tLr T k + 1) := h.2.2.2.2.2.2.2.2.2.2.2.2.2.1
theorem MxP.kn {H : xH} {T : uTx} {N : Nat → Nat → Nat} (h : MxP H T N) : ∀ k, k < tNk T → hI H 99 k = nI (mkS T k) ∧ hI H 100 k = nI (mkV T k) := h.2.2.2.2.2.2.2.2.2.2.2.2.2.2
def MwP (H : xH) (T : uTx) : Prop := (hI H 83 36 = nI (nW T)) ∧ (hI H 83 37 = nI (trW T)) ∧ (∀ w, w < nW T → ∀ p, p < tNp T → hI H 103 (6 * w + p) = nI (cl T w p))
theorem MwP.ws {H : xH} {T : uTx} (h : MwP H T) : hI H 83 36 = nI (nW T) := h.1
theorem MwP.tr {H : xH} {T : uTx} (h : MwP H T) : hI H 83 37 = nI (trW T) := h.2.1
theorem MwP.cl {H : xH} {T : uTx} (h : MwP H T) : ∀ w, w < nW T → ∀ p, p < tNp T → hI H 103 (6 * w + p) = nI (cl T w p) := h.2.2
def RmP (H : xH) (T : uTx) (s : Nat) (lf : Nat → Bool) (u : uSt) : Prop := (∀ w, w < nW T → hI H 111 (729 * s + w) = bI (lf w)) ∧ (hI H 104 s = nI (uHr u)) ∧ (hI H 105 s = nI (uLa u)) ∧ (hI H 106 s = nI (uHd u)) ∧ (hI H 107 s = nI (uLi u)) ∧ (hI H 108 s = nI (uSd u)) ∧ (∀ p, p < 6 → hI H 109 (6 * s + p) = nI (uSe u p)) ∧ (∀ p, p < 6 → hI H 110 (6 * s + p) = nI (uPz u p))
theorem RmP.lf {H : xH} {T : uTx} {s : Nat} {lf : Nat → Bool} {u : uSt} (h : RmP H T s lf u) : ∀ w, w < nW T → hI H 111 (729 * s + w) = bI (lf w) := h.1
theorem RmP.hr {H : xH} {T : uTx} {s : Nat} {lf : Nat → Bool} {u : uSt} (h : RmP H T s lf u) : hI H 104 s = nI (uHr u) := h.2.1
theorem RmP.la {H : xH} {T : uTx} {s : Nat} {lf : Nat → Bool} {u : uSt} (h : RmP H T s lf u) : hI H 105 s = nI (uLa u) := h.2.2.1
theorem RmP.hd {H : xH} {T : uTx} {s : Nat} {lf : Nat → Bool} {u : uSt} (h : RmP H T s lf u) : hI H 106 s = nI (uHd u) := h.2.2.2.1
theorem RmP.li {H : xH} {T : uTx} {s : Nat} {lf : Nat → Bool} {u : uSt} (h : RmP H T s lf u) : hI H 107 s = nI (uLi u) := h.2.2.2.2.1
theorem RmP.sd {H : xH} {T : uTx} {s : Nat} {lf : Nat → Bool} {u : uSt} (h : RmP H T s lf u) : hI H 108 s = nI (uSd u) := h.2.2.2.2.2.1
theorem RmP.se {H : xH} {T : uTx} {s : Nat} {lf : Nat → Bool} {u : uSt} (h : RmP H T s lf u) : ∀ p, p < 6 → hI H 109 (6 * s + p) = nI (uSe u p) := h.2.2.2.2.2.2.1
theorem RmP.pz {H : xH} {T : uTx} {s : Nat} {lf : Nat → Bool} {u : uSt} (h : RmP H T s lf u) : ∀ p, p < 6 → hI H 110 (6 * s + p) = nI (uPz u p) := h.2.2.2.2.2.2.2
def MsP (S : xS) (H : xH) (T : uTx) (N : Nat → Nat → Nat) : Prop := (gFx S) ∧ (MxP H T N) ∧ (MwP H T) ∧ (TxOk T) ∧ (TwOk T) ∧ (NxOk T N) ∧ (TtOk T)
theorem MsP.fx {S : xS} {H : xH} {T : uTx} {N : Nat → Nat → Nat} (h : MsP S H T N) : gFx S := h.1
theorem MsP.mx {S : xS} {H : xH} {T : uTx} {N : Nat → Nat → Nat} (h : MsP S H T N) : MxP H T N := h.2.1
theorem MsP.mw {S : xS} {H : xH} {T : uTx} {N : Nat → Nat → Nat} (h : MsP S H T N) : MwP H T := h.2.2.1
theorem MsP.tk {S : xS} {H : xH} {T : uTx} {N : Nat → Nat → Nat} (h : MsP S H T N) : TxOk T := h.2.2.2.1
theorem MsP.tw {S : xS} {H : xH} {T : uTx} {N : Nat → Nat → Nat} (h : MsP S H T N) : TwOk T := h.2.2.2.2.1
theorem MsP.nx {S : xS} {H : xH} {T : uTx} {N : Nat → Nat → Nat} (h : MsP S H T N) : NxOk T N := h.2.2.2.2.2.1
theorem MsP.tt {S : xS} {H : xH} {T : uTx} {N : Nat → Nat → Nat} (h : MsP S H T N) : TtOk T := h.2.2.2.2.2.2
section MM
variable {S : xS} {H H2 H3 : xH} {A B F G : Nat → Prop} {T : uTx} {N : Nat → Nat → Nat} {s c w v p q n i j k x y : Nat} {lf : Nat → Bool} {u : uSt} {ww : Int32} {b : Bool}
theorem tb1 {x i : Nat} : (x >>> i &&& 1 = 1) ↔ x.testBit i = true := by
  have h := tb_shr x i
  have h2 : x >>> i &&& 1 ≤ 1 := Nat.and_le_right
  constructor
  · intro e
    cases hb : x.testBit i
    · rw [h.mpr hb] at e; cases e
    · rfl
  · intro e
    have : ¬ (x >>> i &&& 1 = 0) := fun z => by rw [h.mp z] at e; cases e
    omega
theorem MoF.rf : MoF A F H H := ⟨Off.rf, fun _ _ => rfl⟩
theorem MoF.tr (h : MoF A F H H2) (h2 : MoF A F H2 H3) : MoF A F H H3 := ⟨h.1.tr h2.1, fun k hk => (h2.2 k hk).trans (h.2 k hk)⟩
theorem MoF.mo (h : MoF A F H H2) (ha : ∀ q, A q → B q) (hf : ∀ k, F k → G k) : MoF B G H H2 := ⟨h.1.mo ha, fun k hk => h.2 k (fun e => hk (hf k e))⟩
theorem MoF.pI (h : MoF A F H H2) {a : Nat} (ha : A a) (hn : a ≠ 83) (k : Nat) (x : Int32) : MoF A F H (sI H2 a k x) := ⟨h.1.pI ha k x, fun j hj => by rw [hI_sI, if_neg (fun z => hn z.1.symm)]; exact h.2 j hj⟩
theorem MoF.pF (h : MoF A F H H2) (ha : A 83) {k : Nat} (hk : F k) (x : Int32) : MoF A F H (sI H2 83 k x) := ⟨h.1.pI ha k x, fun j hj => by
  have hne : ¬ (83 = 83 ∧ j = k) := fun z => hj (z.2 ▸ hk)
  rw [hI_sI, if_neg hne]; exact h.2 j hj⟩
theorem MoF.of (h : Off A H H2) (h2 : ¬ A 83) : MoF A F H H2 := ⟨h, fun k _ => h.I h2 k⟩
theorem MxP.off (h : MxP H T N) (ho : Off A H H2) (h0 : ∀ q, 85 ≤ q → q ≤ 100 → ¬ A q) : MxP H2 T N := by
  have g : ∀ q, 85 ≤ q → q ≤ 100 → ∀ k, hI H2 q k = hI H q k := fun q h1 h2 k => ho.I (h0 q h1 h2) k
  unfold MxP
  simp only [g 85 (by decide) (by decide), g 86 (by decide) (by decide), g 87 (by decide) (by decide), g 88 (by decide) (by decide), g 89 (by decide) (by decide), g 90 (by decide) (by decide), g 91 (by decide) (by decide), g 92 (by decide) (by decide), g 93 (by decide) (by decide), g 94 (by decide) (by decide), g 95 (by decide) (by decide), g 96 (by decide) (by decide), g 97 (by decide) (by decide), g 98 (by decide) (by decide), g 99 (by decide) (by decide), g 100 (by decide) (by decide)]
  exact h
theorem MwP.off (h : MwP H T) (ho : MoF A F H H2) (h0 : ¬ A 103) (h1 : ¬ F 36) (h2 : ¬ F 37) : MwP H2 T := ⟨(ho.2 36 h1).trans h.ws, (ho.2 37 h2).trans h.tr, fun w hw p hp => (ho.1.I h0 _).trans (h.cl w hw p hp)⟩
theorem MsP.off (h : MsP S H T N) (ho : MoF A F H H2) (h0 : ∀ q, 85 ≤ q → q ≤ 100 → ¬ A q) (h3 : ¬ A 103) (h1 : ¬ F 36) (h2 : ¬ F 37) : MsP S H2 T N := ⟨h.fx, h.mx.off ho.1 h0, h.mw.off ho h3 h1 h2, h.tk, h.tw, h.nx, h.tt⟩
theorem RmP.off (h : RmP H T s lf u) (ho : Off A H H2) (h0 : ∀ q, 104 ≤ q → q ≤ 111 → ¬ A q) : RmP H2 T s lf u := by
  have g : ∀ q, 104 ≤ q → q ≤ 111 → ∀ k, hI H2 q k = hI H q k := fun q h1 h2 k => ho.I (h0 q h1 h2) k
  unfold RmP
  simp only [g 104 (by decide) (by decide), g 105 (by decide) (by decide), g 106 (by decide) (by decide), g 107 (by decide) (by decide), g 108 (by decide) (by decide), g 109 (by decide) (by decide), g 110 (by decide) (by decide), g 111 (by decide) (by decide)]
  exact h
theorem m_isPerson (hs : MsP S H T N) : Pv mX11_isPerson 0 [.ref 83, .int ww] S H (vB (hasB ww (tNp T))) := by
  have hF := hs.fx; have hx := hs.mx; have hw := hs.mw; have tk := hs.tk; have tw := hs.tw; have hnp := tw.2.1; have hnc := tw.1; have hWn := nW_le tw; have hb1 := tk.np; have hb2 := tk.nf
  refine vq_ev (vq_intro (by decide) (by exact Nat.le_of_ble_eq_true rfl) rfl ?_)
  refine xq_iload_n dX11_isPerson_0 rfl rfl ?_
  refine xq_if_lt dX11_isPerson_1 rfl ⟨fun h1 => ?_, fun h1 => ?_⟩
  · skip
    refine xq_iconst dX11_isPerson_18 ic0 ?_
    refine xq_zret dX11_isPerson_19 rfl (by decide) ?_
    show _ = _; have e0 : (0 : Int32).toInt = 0 := rfl; rw [Int32.lt_iff_toInt_lt] at h1; rw [show hasB ww (tNp T) = false by unfold hasB; rw [decide_eq_false_iff_not]; omega]; rfl
  · skip
    refine xq_iload_n dX11_isPerson_4 rfl rfl ?_
    refine xq_aload_n dX11_isPerson_5 rfl rfl ?_
    refine xq_getF clX11 (by decide) rfl fl_RX11_13 dX11_isPerson_6 (Fx.s83 hF) (Fx.r83_3 hF) ?_
    refine xq_iconst dX11_isPerson_9 ic1 ?_
    refine xq_ialdN dX11_isPerson_10 (Fx.s85 hF) (by omega) (by decide) hx.np ?_
    refine xq_icmp_ge dX11_isPerson_11 rfl ⟨fun h11 => ?_, fun h11 => ?_⟩
    · skip
      refine xq_iconst dX11_isPerson_18 ic0 ?_
      refine xq_zret dX11_isPerson_19 rfl (by decide) ?_
      show _ = _; have e0 : (0 : Int32).toInt = 0 := rfl; rw [Int32.lt_iff_toInt_lt] at h1; rw [Int32.le_iff_toInt_le, nI_toInt (by omega)] at h11; rw [show hasB ww (tNp T) = false by unfold hasB; rw [decide_eq_false_iff_not]; omega]; rfl
    · skip
      refine xq_iconst dX11_isPerson_14 ic1 ?_
      refine xq_goto dX11_isPerson_15 rfl ?_
      refine xq_zret dX11_isPerson_19 rfl (by decide) ?_
      show _ = _; have e0 : (0 : Int32).toInt = 0 := rfl; rw [Int32.lt_iff_toInt_lt] at h1; rw [Int32.le_iff_toInt_le, nI_toInt (by omega)] at h11; rw [show hasB ww (tNp T) = true by unfold hasB; rw [decide_eq_true_iff]; omega]; rfl
theorem m_isPerson1 (hs : MsP S H T N) (hk : k < tNp T) : Pv mX11_isPerson 0 [.ref 83, vN k] S H (vN 1) := by
  have h := m_isPerson (ww := nI k) hs
  have tk := hs.tk; have h1 := tk.np; have h2 := tk.nf
  rw [hasB_n (by omega), decide_eq_true hk] at h
  exact h
theorem m_isFact (hs : MsP S H T N) : Pv mX11_isFact 0 [.ref 83, .int ww] S H (vB (hasB ww (tNf T))) := by
  have hF := hs.fx; have hx := hs.mx; have hw := hs.mw; have tk := hs.tk; have tw := hs.tw; have hnp := tw.2.1; have hnc := tw.1; have hWn := nW_le tw; have hb1 := tk.np; have hb2 := tk.nf
  refine vq_ev (vq_intro (by decide) (by exact Nat.le_of_ble_eq_true rfl) rfl ?_)
  refine xq_iload_n dX11_isFact_0 rfl rfl ?_
  refine xq_if_lt dX11_isFact_1 rfl ⟨fun h1 => ?_, fun h1 => ?_⟩
  · skip
    refine xq_iconst dX11_isFact_18 ic0 ?_
    refine xq_zret dX11_isFact_19 rfl (by decide) ?_
    show _ = _; have e0 : (0 : Int32).toInt = 0 := rfl; rw [Int32.lt_iff_toInt_lt] at h1; rw [show hasB ww (tNf T) = false by unfold hasB; rw [decide_eq_false_iff_not]; omega]; rfl
  · skip
    refine xq_iload_n dX11_isFact_4 rfl rfl ?_
    refine xq_aload_n dX11_isFact_5 rfl rfl ?_
    refine xq_getF clX11 (by decide) rfl fl_RX11_13 dX11_isFact_6 (Fx.s83 hF) (Fx.r83_3 hF) ?_
    refine xq_iconst dX11_isFact_9 ic2 ?_
    refine xq_ialdN dX11_isFact_10 (Fx.s85 hF) (by omega) (by decide) hx.nf ?_
    refine xq_icmp_ge dX11_isFact_11 rfl ⟨fun h11 => ?_, fun h11 => ?_⟩
    · skip
      refine xq_iconst dX11_isFact_18 ic0 ?_
      refine xq_zret dX11_isFact_19 rfl (by decide) ?_
      show _ = _; have e0 : (0 : Int32).toInt = 0 := rfl; rw [Int32.lt_iff_toInt_lt] at h1; rw [Int32.le_iff_toInt_le, nI_toInt (by omega)] at h11; rw [show hasB ww (tNf T) = false by unfold hasB; rw [decide_eq_false_iff_not]; omega]; rfl
    · skip
      refine xq_iconst dX11_isFact_14 ic1 ?_
      refine xq_goto dX11_isFact_15 rfl ?_
      refine xq_zret dX11_isFact_19 rfl (by decide) ?_
      show _ = _; have e0 : (0 : Int32).toInt = 0 := rfl; rw [Int32.lt_iff_toInt_lt] at h1; rw [Int32.le_iff_toInt_le, nI_toInt (by omega)] at h11; rw [show hasB ww (tNf T) = true by unfold hasB; rw [decide_eq_true_iff]; omega]; rfl
theorem m_isFact1 (hs : MsP S H T N) (hk : k < tNf T) : Pv mX11_isFact 0 [.ref 83, vN k] S H (vN 1) := by
  have h := m_isFact (ww := nI k) hs
  have tk := hs.tk; have h1 := tk.np; have h2 := tk.nf
  rw [hasB_n (by omega), decide_eq_true hk] at h
  exact h
theorem m_bitsOf (hx : x < 1024) : Pv mX11_bitsOf 0 [vN x] S H (vN (pop x)) := by
  have lp : ∀ (fz : Nat) (m k : Nat), 10 - k < fz → k ≤ 10 → m = ct (fun i => x.testBit i) k → Xq mX11_bitsOf 0 0 0 4 [some (vN x), some (vN m), some (vN k)] [] S H (fun R => R = (some (vN (pop x)), S, H)) := by
    intro fz
    induction fz with
    | zero => intro m k  hfz; exact absurd hfz (by omega)
    | succ fz ih =>
      intro m k  hfz hk hm
      refine xq_iload_n dX11_bitsOf_4 rfl rfl ?_
      refine xq_bipush dX11_bitsOf_5 bp10 ?_
      refine xq_icmp_geN dX11_bitsOf_7 rfl (by omega) (by omega) ⟨fun h7 => ?_, fun h7 => ?_⟩
      · skip
        refine xq_iload_n dX11_bitsOf_24 rfl rfl ?_
        refine xq_iret dX11_bitsOf_25 rfl ?_
        show _ = _; rw [hm, show k = 10 by omega]; rfl
      · skip
        have hb := shr_le x k; have hb2 : x >>> k &&& 1 ≤ 1 := Nat.and_le_right
        refine xq_iload_n dX11_bitsOf_10 rfl rfl ?_
        refine xq_iload_n dX11_bitsOf_11 rfl rfl ?_
        refine xq_iload_n dX11_bitsOf_12 rfl rfl ?_
        refine xq_ishrN dX11_bitsOf_13 (by omega) (by omega) ?_
        refine xq_iconst dX11_bitsOf_14 ic1 ?_
        refine xq_iandN dX11_bitsOf_15 ?_
        refine xq_iaddN dX11_bitsOf_16 ?_
        refine xq_istore_n dX11_bitsOf_17 rfl rfl ?_
        refine xq_iincN dX11_bitsOf_18 ic1 rfl rfl ?_
        refine xq_goto dX11_bitsOf_21 rfl ?_
        refine ih _ (k + 1) (by omega) (by omega) ?_
        rw [hm]
        show _ = ct _ k + _
        cases hb3 : x.testBit k
        · rw [(tb_shr x k).mpr hb3]; simp [hb3]
        · have : x >>> k &&& 1 = 1 := by
            have : ¬ (x >>> k &&& 1 = 0) := fun e => by rw [(tb_shr x k).mp e] at hb3; cases hb3
            omega
          rw [this]; simp [hb3]
  refine vq_ev (vq_intro (by decide) (by exact Nat.le_of_ble_eq_true rfl) rfl ?_)
  refine xq_iconst dX11_bitsOf_0 ic0 ?_
  refine xq_istore_n dX11_bitsOf_1 rfl rfl ?_
  refine xq_iconst dX11_bitsOf_2 ic0 ?_
  refine xq_istore_n dX11_bitsOf_3 rfl rfl ?_
  exact lp 11 0 0 (by omega) (by omega) rfl
theorem m_manyOf0 (hF : gFx S) (hnp0 : hI H 85 1 = nI (tNp T)) (hnp : tNp T ≤ 6) (hw : w < 729) (hc : ∀ p, p < tNp T → hI H 103 (6 * w + p) = nI (cl T w p) ∧ cl T w p < 4) (hc4 : c < 4) : Pv mX11_manyOf 0 [.ref 83, vN w, vN c] S H (vN (ct (fun p => cl T w p == c) (tNp T))) := by
  have lp : ∀ (fz : Nat) (m p : Nat), tNp T - p < fz → p ≤ tNp T → m = ct (fun p => cl T w p == c) p → Xq mX11_manyOf 0 0 0 5 [some (.ref 83), some (vN w), some (vN c), some (vN m), some (vN p)] [] S H (fun R => R = (some (vN (ct (fun p => cl T w p == c) (tNp T))), S, H)) := by
    intro fz
    induction fz with
    | zero => intro m p  hfz; exact absurd hfz (by omega)
    | succ fz ih =>
      intro m p  hfz hp hm
      refine xq_iload dX11_manyOf_5 rfl ?_
      refine xq_aload_n dX11_manyOf_7 rfl rfl ?_
      refine xq_getF clX11 (by decide) rfl fl_RX11_13 dX11_manyOf_8 (Fx.s83 hF) (Fx.r83_3 hF) ?_
      refine xq_iconst dX11_manyOf_11 ic1 ?_
      refine xq_ialdN dX11_manyOf_12 (Fx.s85 hF) (by omega) (by decide) hnp0 ?_
      refine xq_icmp_geN dX11_manyOf_13 rfl (by omega) (by omega) ⟨fun h13 => ?_, fun h13 => ?_⟩
      · skip
        refine xq_iload_n dX11_manyOf_46 rfl rfl ?_
        refine xq_iret dX11_manyOf_47 rfl ?_
        show _ = _; rw [hm, show p = tNp T by omega]
      · skip
        have hc2 := (hc p h13).2
        refine xq_iload_n dX11_manyOf_16 rfl rfl ?_
        refine xq_aload_n dX11_manyOf_17 rfl rfl ?_
        refine xq_getF clX11 (by decide) rfl fl_RX11_72 dX11_manyOf_18 (Fx.s83 hF) (Fx.r83_35 hF) ?_
        refine xq_bipush dX11_manyOf_21 bp6 ?_
        refine xq_iload_n dX11_manyOf_23 rfl rfl ?_
        refine xq_imulN dX11_manyOf_24 ?_
        refine xq_iload dX11_manyOf_25 rfl ?_
        refine xq_iaddN dX11_manyOf_27 ?_
        refine xq_ialdN dX11_manyOf_28 (Fx.s103 hF) (by omega) (by decide) ((hc p h13).1) ?_
        refine xq_iload_n dX11_manyOf_29 rfl rfl ?_
        refine xq_icmp_neN dX11_manyOf_30 rfl (by omega) (by omega) ⟨fun h30 => ?_, fun h30 => ?_⟩
        · skip
          refine xq_iconst dX11_manyOf_37 ic0 ?_
          refine xq_iaddN dX11_manyOf_38 ?_
          refine xq_istore_n dX11_manyOf_39 rfl rfl ?_
          refine xq_iincN dX11_manyOf_40 ic1 rfl rfl ?_
          refine xq_goto dX11_manyOf_43 rfl ?_
          exact ih (m + 0) (p + 1) (by omega) (by omega) (by rw [ct_f (by simpa using h30), hm]; rfl)
        · skip
          refine xq_iconst dX11_manyOf_33 ic1 ?_
          refine xq_goto dX11_manyOf_34 rfl ?_
          refine xq_iaddN dX11_manyOf_38 ?_
          refine xq_istore_n dX11_manyOf_39 rfl rfl ?_
          refine xq_iincN dX11_manyOf_40 ic1 rfl rfl ?_
          refine xq_goto dX11_manyOf_43 rfl ?_
          exact ih (m + 1) (p + 1) (by omega) (by omega) (by rw [ct_t (by simpa using h30), hm])
  refine vq_ev (vq_intro (by decide) (by exact Nat.le_of_ble_eq_true rfl) rfl ?_)
  refine xq_iconst dX11_manyOf_0 ic0 ?_
  refine xq_istore_n dX11_manyOf_1 rfl rfl ?_
  refine xq_iconst dX11_manyOf_2 ic0 ?_
  refine xq_istore dX11_manyOf_3 rfl ?_
  exact lp (tNp T + 1) 0 0 (by omega) (by omega) rfl
theorem m_manyOf (hs : MsP S H T N) (hv : w < nW T) (hc4 : c < 4) : Pv mX11_manyOf 0 [.ref 83, vN w, vN c] S H (vN (ct (fun p => cl T w p == c) (tNp T))) := by
  have hF := hs.fx; have hx := hs.mx; have hw := hs.mw; have tk := hs.tk; have tw := hs.tw; have hnp := tw.2.1; have hnc := tw.1; have hWn := nW_le tw
  exact m_manyOf0 hF hx.np (by omega) (by omega) (fun p hp => ⟨hw.cl w hv p hp, by have := cl_lt tw hv hp; omega⟩) hc4
theorem m_leftMany (hs : MsP S H T N) (hr : RmP H T s lf u) (h23 : s < 23) : Pv mX11_leftMany 0 [.ref 83, vN s] S H (vN (ct lf (nW T))) := by
  have hF := hs.fx; have hx := hs.mx; have hw := hs.mw; have tk := hs.tk; have tw := hs.tw; have hnp := tw.2.1; have hnc := tw.1; have hWn := nW_le tw
  have lp : ∀ (fz : Nat) (m w : Nat), nW T - w < fz → w ≤ nW T → m = ct lf w → Xq mX11_leftMany 0 0 0 4 [some (.ref 83), some (vN s), some (vN m), some (vN w)] [] S H (fun R => R = (some (vN (ct lf (nW T))), S, H)) := by
    intro fz
    induction fz with
    | zero => intro m w  hfz; exact absurd hfz (by omega)
    | succ fz ih =>
      intro m w  hfz hp hm
      refine xq_iload_n dX11_leftMany_4 rfl rfl ?_
      refine xq_aload_n dX11_leftMany_5 rfl rfl ?_
      refine xq_getIE clX11 (by decide) rfl fl_RX11_335 dX11_leftMany_6 (Fx.s83 hF) hw.ws ?_
      refine xq_icmp_geN dX11_leftMany_9 rfl (by omega) (by omega) ⟨fun h9 => ?_, fun h9 => ?_⟩
      · skip
        refine xq_iload_n dX11_leftMany_41 rfl rfl ?_
        refine xq_iret dX11_leftMany_42 rfl ?_
        show _ = _; rw [hm, show w = nW T by omega]
      · skip
        refine xq_iload_n dX11_leftMany_12 rfl rfl ?_
        refine xq_aload_n dX11_leftMany_13 rfl rfl ?_
        refine xq_getF clX11 (by decide) rfl fl_RX11_96 dX11_leftMany_14 (Fx.s83 hF) (Fx.r83_45 hF) ?_
        refine xq_sipush dX11_leftMany_17 sp729 ?_
        refine xq_iload_n dX11_leftMany_20 rfl rfl ?_
        refine xq_imulN dX11_leftMany_21 ?_
        refine xq_iload_n dX11_leftMany_22 rfl rfl ?_
        refine xq_iaddN dX11_leftMany_23 ?_
        refine xq_zaldN dX11_leftMany_24 (Fx.s111 hF) (by omega) (by decide) (hr.lf w h9) ?_
        refine xq_if_eqB dX11_leftMany_25 rfl ⟨fun h25 => ?_, fun h25 => ?_⟩
        · skip
          refine xq_iconst dX11_leftMany_32 ic0 ?_
          refine xq_iaddN dX11_leftMany_33 ?_
          refine xq_istore_n dX11_leftMany_34 rfl rfl ?_
          refine xq_iincN dX11_leftMany_35 ic1 rfl rfl ?_
          refine xq_goto dX11_leftMany_38 rfl ?_
          exact ih (m + 0) (w + 1) (by omega) (by omega) (by rw [ct_f h25, hm]; rfl)
        · skip
          refine xq_iconst dX11_leftMany_28 ic1 ?_
          refine xq_goto dX11_leftMany_29 rfl ?_
          refine xq_iaddN dX11_leftMany_33 ?_
          refine xq_istore_n dX11_leftMany_34 rfl rfl ?_
          refine xq_iincN dX11_leftMany_35 ic1 rfl rfl ?_
          refine xq_goto dX11_leftMany_38 rfl ?_
          exact ih (m + 1) (w + 1) (by omega) (by omega) (by rw [ct_t h25, hm])
  refine vq_ev (vq_intro (by decide) (by exact Nat.le_of_ble_eq_true rfl) rfl ?_)
  refine xq_iconst dX11_leftMany_0 ic0 ?_
  refine xq_istore_n dX11_leftMany_1 rfl rfl ?_
  refine xq_iconst dX11_leftMany_2 ic0 ?_
  refine xq_istore_n dX11_leftMany_3 rfl rfl ?_
  exact lp (nW T + 1) 0 0 (by omega) (by omega) rfl
theorem m_isHere (hF : gFx S) (hro : hI H 83 48 = nI s) (h23 : s < 23) (hw : w < 729) (hl : hI H 111 (729 * s + w) = bI b) : Pv mX11_isHere 0 [.ref 83, vN w] S H (vB b) := by
  refine vq_ev (vq_intro (by decide) (by exact Nat.le_of_ble_eq_true rfl) rfl ?_)
  refine xq_aload_n dX11_isHere_0 rfl rfl ?_
  refine xq_getF clX11 (by decide) rfl fl_RX11_96 dX11_isHere_1 (Fx.s83 hF) (Fx.r83_45 hF) ?_
  refine xq_sipush dX11_isHere_4 sp729 ?_
  refine xq_aload_n dX11_isHere_7 rfl rfl ?_
  refine xq_getIE clX11 (by decide) rfl fl_RX11_350 dX11_isHere_8 (Fx.s83 hF) hro ?_
  refine xq_imulN dX11_isHere_11 ?_
  refine xq_iload_n dX11_isHere_12 rfl rfl ?_
  refine xq_iaddN dX11_isHere_13 ?_
  refine xq_zaldN dX11_isHere_14 (Fx.s111 hF) (by omega) (by decide) hl ?_
  refine xq_zret dX11_isHere_15 rfl (bI_01 _) ?_
  rfl
/-- a room's cells stay -/
def RmE (H H2 : xH) (s : Nat) : Prop := (∀ w, w < 729 → hI H2 111 (729 * s + w) = hI H 111 (729 * s + w)) ∧ (∀ q, 104 ≤ q → q ≤ 108 → hI H2 q s = hI H q s) ∧ ∀ p, p < 6 → hI H2 109 (6 * s + p) = hI H 109 (6 * s + p) ∧ hI H2 110 (6 * s + p) = hI H 110 (6 * s + p)
theorem RmE.rf : RmE H H s := ⟨fun _ _ => rfl, fun _ _ _ => rfl, fun _ _ => ⟨rfl, rfl⟩⟩
theorem RmE.tr (h : RmE H H2 s) (h2 : RmE H2 H3 s) : RmE H H3 s := ⟨fun w hw => (h2.1 w hw).trans (h.1 w hw), fun q a b => (h2.2.1 q a b).trans (h.2.1 q a b), fun p hp => ⟨(h2.2.2 p hp).1.trans (h.2.2 p hp).1, (h2.2.2 p hp).2.trans (h.2.2 p hp).2⟩⟩
theorem RmE.of (ho : Off A H H2) (h0 : ∀ q, 104 ≤ q → q ≤ 111 → ¬ A q) : RmE H H2 s := ⟨fun w _ => ho.I (h0 111 (by decide) (by decide)) _, fun q a b => ho.I (h0 q a (by omega)) _, fun p _ => ⟨ho.I (h0 109 (by decide) (by decide)) _, ho.I (h0 110 (by decide) (by decide)) _⟩⟩
theorem RmP.e (h : RmP H T s lf u) (t : TwOk T) (he : RmE H H2 s) : RmP H2 T s lf u := ⟨fun w hw => (he.1 w (by have := nW_le t; omega)).trans (h.lf w hw), (he.2.1 104 (by decide) (by decide)).trans h.hr, (he.2.1 105 (by decide) (by decide)).trans h.la, (he.2.1 106 (by decide) (by decide)).trans h.hd, (he.2.1 107 (by decide) (by decide)).trans h.li, (he.2.1 108 (by decide) (by decide)).trans h.sd, fun p hp => (he.2.2 p hp).1.trans (h.se p hp), fun p hp => (he.2.2 p hp).2.trans (h.pz p hp)⟩
theorem m_copies (hs : MsP S H T N) (hr : RmP H T s lf u) (h23 : s < 23) (hx23 : x < 23) (hsx : s ≠ x) : Nv mX11_copies 0 [.ref 83, vN x, vN s] S H (fun H' => RmP H' T x lf u ∧ (∀ s', s' ≠ x → RmE H H' s') ∧ Off (fun q => 104 ≤ q ∧ q ≤ 111) H H') := by
  have hF := hs.fx; have hx := hs.mx; have hw := hs.mw; have tk := hs.tk; have tw := hs.tw; have hnp := tw.2.1; have hnc := tw.1; have hWn := nW_le tw
  have l2 : ∀ (fz : Nat) (w : Nat) (H1 : xH), nW T - w < fz → w ≤ nW T → (hI H1 104 x = nI (uHr u) ∧ hI H1 105 x = nI (uLa u) ∧ hI H1 106 x = nI (uHd u) ∧ hI H1 107 x = nI (uLi u) ∧ hI H1 108 x = nI (uSd u)) → (∀ q, q < 6 → hI H1 109 (6 * x + q) = nI (uSe u q) ∧ hI H1 110 (6 * x + q) = nI (uPz u q)) → (∀ v, v < w → hI H1 111 (729 * x + v) = bI (lf v)) → (∀ s', s' ≠ x → RmE H H1 s') → Off (fun q => 104 ≤ q ∧ q ≤ 111) H H1 → Xq mX11_copies 0 0 0 120 [some (.ref 83), some (vN x), some (vN s), some (vN w)] [] S H1 (fun R => ∃ H', (fun H' => RmP H' T x lf u ∧ (∀ s', s' ≠ x → RmE H H' s') ∧ Off (fun q => 104 ≤ q ∧ q ≤ 111) H H') H' ∧ R = (none, S, H')) := by
    intro fz
    induction fz with
    | zero => intro w  H1  hfz; exact absurd hfz (by omega)
    | succ fz ih =>
      intro w  H1  hfz hp hf hpp hl he ho
      have hq := hr.e tw (he s (by omega))
      refine xq_iload_n dX11_copies_120 rfl rfl ?_
      refine xq_aload_n dX11_copies_121 rfl rfl ?_
      refine xq_getIE clX11 (by decide) rfl fl_RX11_335 dX11_copies_122 (Fx.s83 hF) ((ho.I (by omega) 36).trans hw.ws) ?_
      refine xq_icmp_geN dX11_copies_125 rfl (by omega) (by omega) ⟨fun h125 => ?_, fun h125 => ?_⟩
      · skip
        refine xq_vret dX11_copies_158 rfl ?_
        exact ⟨H1, ⟨⟨fun v hv => hl v (by omega), hf.1, hf.2.1, hf.2.2.1, hf.2.2.2.1, hf.2.2.2.2, fun q hq2 => (hpp q hq2).1, fun q hq2 => (hpp q hq2).2⟩, he, ho⟩, rfl⟩
      · skip
        refine xq_aload_n dX11_copies_128 rfl rfl ?_
        refine xq_getF clX11 (by decide) rfl fl_RX11_96 dX11_copies_129 (Fx.s83 hF) (Fx.r83_45 hF) ?_
        refine xq_sipush dX11_copies_132 sp729 ?_
        refine xq_iload_n dX11_copies_135 rfl rfl ?_
        refine xq_imulN dX11_copies_136 ?_
        refine xq_iload_n dX11_copies_137 rfl rfl ?_
        refine xq_iaddN dX11_copies_138 ?_
        refine xq_aload_n dX11_copies_139 rfl rfl ?_
        refine xq_getF clX11 (by decide) rfl fl_RX11_96 dX11_copies_140 (Fx.s83 hF) (Fx.r83_45 hF) ?_
        refine xq_sipush dX11_copies_143 sp729 ?_
        refine xq_iload_n dX11_copies_146 rfl rfl ?_
        refine xq_imulN dX11_copies_147 ?_
        refine xq_iload_n dX11_copies_148 rfl rfl ?_
        refine xq_iaddN dX11_copies_149 ?_
        refine xq_zaldN dX11_copies_150 (Fx.s111 hF) (by omega) (by decide) (hq.lf w h125) ?_
        refine xq_zastN dX11_copies_151 (Fx.s111 hF) (by omega) (by decide) (bI_01 _) ?_
        refine xq_iincN dX11_copies_152 ic1 rfl rfl ?_
        refine xq_goto dX11_copies_155 rfl ?_
        refine ih (w + 1) _ (by omega) (by omega) (by simp [hI_sI]; exact hf) (fun q hq2 => by simp [hI_sI]; exact hpp q hq2) (fun v hv => ?_) (fun s' hs' => ⟨fun w' hw' => ?_, fun q a b => ?_, fun p hp' => ?_⟩) (Off.pI (A := (fun q => 104 ≤ q ∧ q ≤ 111)) ho (by omega) _ _)
        · rw [hI_sI]
          by_cases e : v = w
          · rw [if_pos ⟨rfl, by omega⟩, e]
          · rw [if_neg (by omega)]; exact hl v (by omega)
        · rw [hI_sI, if_neg (by omega)]; exact (he s' hs').1 w' hw'
        · rw [hI_sI, if_neg (by omega)]; exact (he s' hs').2.1 q a b
        · rw [hI_sI, if_neg (by omega), hI_sI, if_neg (by omega)]; exact (he s' hs').2.2 p hp'
  have l1 : ∀ (fz : Nat) (p : Nat) (H1 : xH), 6 - p < fz → p ≤ 6 → (hI H1 104 x = nI (uHr u) ∧ hI H1 105 x = nI (uLa u) ∧ hI H1 106 x = nI (uHd u) ∧ hI H1 107 x = nI (uLi u) ∧ hI H1 108 x = nI (uSd u)) → (∀ q, q < p → hI H1 109 (6 * x + q) = nI (uSe u q) ∧ hI H1 110 (6 * x + q) = nI (uPz u q)) → (∀ s', s' ≠ x → RmE H H1 s') → Off (fun q => 104 ≤ q ∧ q ≤ 111) H H1 → Xq mX11_copies 0 0 0 62 [some (.ref 83), some (vN x), some (vN s), some (vN p)] [] S H1 (fun R => ∃ H', (fun H' => RmP H' T x lf u ∧ (∀ s', s' ≠ x → RmE H H' s') ∧ Off (fun q => 104 ≤ q ∧ q ≤ 111) H H') H' ∧ R = (none, S, H')) := by
    intro fz
    induction fz with
    | zero => intro p  H1  hfz; exact absurd hfz (by omega)
    | succ fz ih =>
      intro p  H1  hfz hp hf hpp he ho
      have hq := hr.e tw (he s (by omega))
      refine xq_iload_n dX11_copies_62 rfl rfl ?_
      refine xq_bipush dX11_copies_63 bp6 ?_
      refine xq_icmp_geN dX11_copies_65 rfl (by omega) (by omega) ⟨fun h65 => ?_, fun h65 => ?_⟩
      · skip
        refine xq_iconst dX11_copies_118 ic0 ?_
        refine xq_istore_n dX11_copies_119 rfl rfl ?_
        exact l2 (nW T + 1) 0 H1 (by omega) (by omega) hf (fun q hq2 => hpp q (by omega)) (fun v hv => absurd hv (by omega)) he ho
      · skip
        refine xq_aload_n dX11_copies_68 rfl rfl ?_
        refine xq_getF clX11 (by decide) rfl fl_RX11_90 dX11_copies_69 (Fx.s83 hF) (Fx.r83_43 hF) ?_
        refine xq_bipush dX11_copies_72 bp6 ?_
        refine xq_iload_n dX11_copies_74 rfl rfl ?_
        refine xq_imulN dX11_copies_75 ?_
        refine xq_iload_n dX11_copies_76 rfl rfl ?_
        refine xq_iaddN dX11_copies_77 ?_
        refine xq_aload_n dX11_copies_78 rfl rfl ?_
        refine xq_getF clX11 (by decide) rfl fl_RX11_90 dX11_copies_79 (Fx.s83 hF) (Fx.r83_43 hF) ?_
        refine xq_bipush dX11_copies_82 bp6 ?_
        refine xq_iload_n dX11_copies_84 rfl rfl ?_
        refine xq_imulN dX11_copies_85 ?_
        refine xq_iload_n dX11_copies_86 rfl rfl ?_
        refine xq_iaddN dX11_copies_87 ?_
        refine xq_ialdN dX11_copies_88 (Fx.s109 hF) (by omega) (by decide) (hq.se p h65) ?_
        refine xq_iastN dX11_copies_89 (Fx.s109 hF) (by omega) (by decide) ?_
        refine xq_aload_n dX11_copies_90 rfl rfl ?_
        refine xq_getF clX11 (by decide) rfl fl_RX11_93 dX11_copies_91 (Fx.s83 hF) (Fx.r83_44 hF) ?_
        refine xq_bipush dX11_copies_94 bp6 ?_
        refine xq_iload_n dX11_copies_96 rfl rfl ?_
        refine xq_imulN dX11_copies_97 ?_
        refine xq_iload_n dX11_copies_98 rfl rfl ?_
        refine xq_iaddN dX11_copies_99 ?_
        refine xq_aload_n dX11_copies_100 rfl rfl ?_
        refine xq_getF clX11 (by decide) rfl fl_RX11_93 dX11_copies_101 (Fx.s83 hF) (Fx.r83_44 hF) ?_
        refine xq_bipush dX11_copies_104 bp6 ?_
        refine xq_iload_n dX11_copies_106 rfl rfl ?_
        refine xq_imulN dX11_copies_107 ?_
        refine xq_iload_n dX11_copies_108 rfl rfl ?_
        refine xq_iaddN dX11_copies_109 ?_
        refine xq_ialdN dX11_copies_110 (Fx.s110 hF) (by omega) (by decide) ((hI_sI _ _ _ _ _ _).trans ((if_neg (by omega)).trans (hq.pz p h65))) ?_
        refine xq_iastN dX11_copies_111 (Fx.s110 hF) (by omega) (by decide) ?_
        refine xq_iincN dX11_copies_112 ic1 rfl rfl ?_
        refine xq_goto dX11_copies_115 rfl ?_
        refine ih (p + 1) _ (by omega) (by omega) (by simp [hI_sI]; exact hf) (fun q hq2 => ?_) (fun s' hs' => ⟨fun w' hw' => ?_, fun q a b => ?_, fun p' hp' => ?_⟩) (Off.pI (A := (fun q => 104 ≤ q ∧ q ≤ 111)) (Off.pI (A := (fun q => 104 ≤ q ∧ q ≤ 111)) ho (by omega) _ _) (by omega) _ _)
        · by_cases e : q = p
          · subst e; simp [hI_sI]
          · rw [hI_sI, if_neg (by omega), hI_sI, if_neg (by omega), hI_sI, if_neg (by omega), hI_sI, if_neg (by omega)]; exact hpp q (by omega)
        · rw [hI_sI, if_neg (by omega), hI_sI, if_neg (by omega)]; exact (he s' hs').1 w' hw'
        · rw [hI_sI, if_neg (by omega), hI_sI, if_neg (by omega)]; exact (he s' hs').2.1 q a b
        · rw [hI_sI, if_neg (by omega), hI_sI, if_neg (by omega), hI_sI, if_neg (by omega), hI_sI, if_neg (by omega)]; exact (he s' hs').2.2 p' hp'
  refine vq_intro (by decide) (by exact Nat.le_of_ble_eq_true rfl) rfl ?_
  refine xq_aload_n dX11_copies_0 rfl rfl ?_
  refine xq_getF clX11 (by decide) rfl fl_RX11_75 dX11_copies_1 (Fx.s83 hF) (Fx.r83_38 hF) ?_
  refine xq_iload_n dX11_copies_4 rfl rfl ?_
  refine xq_aload_n dX11_copies_5 rfl rfl ?_
  refine xq_getF clX11 (by decide) rfl fl_RX11_75 dX11_copies_6 (Fx.s83 hF) (Fx.r83_38 hF) ?_
  refine xq_iload_n dX11_copies_9 rfl rfl ?_
  refine xq_ialdN dX11_copies_10 (Fx.s104 hF) (by omega) (by decide) hr.hr ?_
  refine xq_iastN dX11_copies_11 (Fx.s104 hF) (by omega) (by decide) ?_
  refine xq_aload_n dX11_copies_12 rfl rfl ?_
  refine xq_getF clX11 (by decide) rfl fl_RX11_78 dX11_copies_13 (Fx.s83 hF) (Fx.r83_39 hF) ?_
  refine xq_iload_n dX11_copies_16 rfl rfl ?_
  refine xq_aload_n dX11_copies_17 rfl rfl ?_
  refine xq_getF clX11 (by decide) rfl fl_RX11_78 dX11_copies_18 (Fx.s83 hF) (Fx.r83_39 hF) ?_
  refine xq_iload_n dX11_copies_21 rfl rfl ?_
  refine xq_ialdN dX11_copies_22 (Fx.s105 hF) (by omega) (by decide) ((hI_sI _ _ _ _ _ _).trans ((if_neg (by omega)).trans hr.la)) ?_
  refine xq_iastN dX11_copies_23 (Fx.s105 hF) (by omega) (by decide) ?_
  refine xq_aload_n dX11_copies_24 rfl rfl ?_
  refine xq_getF clX11 (by decide) rfl fl_RX11_81 dX11_copies_25 (Fx.s83 hF) (Fx.r83_40 hF) ?_
  refine xq_iload_n dX11_copies_28 rfl rfl ?_
  refine xq_aload_n dX11_copies_29 rfl rfl ?_
  refine xq_getF clX11 (by decide) rfl fl_RX11_81 dX11_copies_30 (Fx.s83 hF) (Fx.r83_40 hF) ?_
  refine xq_iload_n dX11_copies_33 rfl rfl ?_
  refine xq_ialdN dX11_copies_34 (Fx.s106 hF) (by omega) (by decide) ((hI_sI _ _ _ _ _ _).trans ((if_neg (by omega)).trans ((hI_sI _ _ _ _ _ _).trans ((if_neg (by omega)).trans hr.hd)))) ?_
  refine xq_iastN dX11_copies_35 (Fx.s106 hF) (by omega) (by decide) ?_
  refine xq_aload_n dX11_copies_36 rfl rfl ?_
  refine xq_getF clX11 (by decide) rfl fl_RX11_84 dX11_copies_37 (Fx.s83 hF) (Fx.r83_41 hF) ?_
  refine xq_iload_n dX11_copies_40 rfl rfl ?_
  refine xq_aload_n dX11_copies_41 rfl rfl ?_
  refine xq_getF clX11 (by decide) rfl fl_RX11_84 dX11_copies_42 (Fx.s83 hF) (Fx.r83_41 hF) ?_
  refine xq_iload_n dX11_copies_45 rfl rfl ?_
  refine xq_ialdN dX11_copies_46 (Fx.s107 hF) (by omega) (by decide) ((hI_sI _ _ _ _ _ _).trans ((if_neg (by omega)).trans ((hI_sI _ _ _ _ _ _).trans ((if_neg (by omega)).trans ((hI_sI _ _ _ _ _ _).trans ((if_neg (by omega)).trans hr.li)))))) ?_
  refine xq_iastN dX11_copies_47 (Fx.s107 hF) (by omega) (by decide) ?_
  refine xq_aload_n dX11_copies_48 rfl rfl ?_
  refine xq_getF clX11 (by decide) rfl fl_RX11_87 dX11_copies_49 (Fx.s83 hF) (Fx.r83_42 hF) ?_
  refine xq_iload_n dX11_copies_52 rfl rfl ?_
  refine xq_aload_n dX11_copies_53 rfl rfl ?_
  refine xq_getF clX11 (by decide) rfl fl_RX11_87 dX11_copies_54 (Fx.s83 hF) (Fx.r83_42 hF) ?_
  refine xq_iload_n dX11_copies_57 rfl rfl ?_
  refine xq_ialdN dX11_copies_58 (Fx.s108 hF) (by omega) (by decide) ((hI_sI _ _ _ _ _ _).trans ((if_neg (by omega)).trans ((hI_sI _ _ _ _ _ _).trans ((if_neg (by omega)).trans ((hI_sI _ _ _ _ _ _).trans ((if_neg (by omega)).trans ((hI_sI _ _ _ _ _ _).trans ((if_neg (by omega)).trans hr.sd)))))))) ?_
  refine xq_iastN dX11_copies_59 (Fx.s108 hF) (by omega) (by decide) ?_
  refine xq_iconst dX11_copies_60 ic0 ?_
  refine xq_istore_n dX11_copies_61 rfl rfl ?_
  refine l1 7 0 _ (by omega) (by omega) (by simp [hI_sI]) (fun q hq2 => absurd hq2 (by omega)) (fun s' hs' => ⟨fun w' hw' => ?_, fun q a b => ?_, fun p' hp' => ?_⟩) (Off.pI (A := (fun q => 104 ≤ q ∧ q ≤ 111)) (Off.pI (A := (fun q => 104 ≤ q ∧ q ≤ 111)) (Off.pI (A := (fun q => 104 ≤ q ∧ q ≤ 111)) (Off.pI (A := (fun q => 104 ≤ q ∧ q ≤ 111)) (Off.pI (A := (fun q => 104 ≤ q ∧ q ≤ 111)) Off.rf (by omega) _ _) (by omega) _ _) (by omega) _ _) (by omega) _ _) (by omega) _ _)
  · simp [hI_sI]
  · simp only [hI_sI, hs', and_false, if_false]
  · simp [hI_sI]
end MM
