/-! ===== the law: its script, what holds between its calls ===== -/
section LWS
variable {M : xM} {k b1 b2 c1 c2 pc n q p : Nat} {L : List (Option Value)} {st : List Value} {S : xS} {H : xH} {R : xR} {Q : xR → Prop} {base : Nat} {D : va_G} {tc : Nat → Nat} {Hh : Heap}
theorem xAt_0 (h : xAt base D tc S H Hh q) (hs : fS S q = (0, n + 1)) : tc 5 < base ∧ ∃ scr : Cell, Hh[tc 5]? = some scr ∧ xSc (tc 6) n (hI H q) scr := by
  unfold xAt at h
  rw [hs] at h
  rcases (show (n + 1 = 0 ∨ (tc 5 < base ∧ ∃ scr : Cell, Hh[tc 5]? = some scr ∧ xSc (tc 6) (n + 1 - 1) (hI H q) scr)) from h) with h | h
  · cases h
  · exact h
theorem xSc.arr {U : State} {cA : ClassId} {f : Nat → Int32} {scr : Cell} (h : xSc cA n f scr) (ha : ArrOfT U cA .int) : U.isArrayOf scr .int := by
  obtain ⟨h1, h2, h3, h4, h5⟩ := h
  obtain ⟨a1, k, a2, a3⟩ := ha 0 (fun _ => .null)
  exact ⟨h3, k, by rw [h1]; exact a2, a3⟩
theorem ex_slen {v : Int32} (d : decode (mC M) pc = .ok (.arraylength, 1)) (hs : fS S q = (0, n + 1)) (hv : Int32.ofNat n = v) (kk : Ex M k b1 b2 (pc + 1) L (.int v :: st) S H R) : Ex M k b1 b2 pc L (.float 2 :: st) S H R := by
  intro l base D tc sa p e Rm s m args below meth c Hh locs cells slots ls C hRp hLv
  have kk' := kk l base D tc sa p e Rm s m args below meth c Hh locs cells slots ls C hRp hLv
  have hG := C.1.2.2.2.2.2.2.2.2
  obtain ⟨h0, scr, h1, h2⟩ := xAt_0 (hRp.2 q) hs
  have e2 := hG.2.2.2.2.2.2.2.2.1
  rw [← e2.1] at h1
  exact W.alen C.1.1 C.1.2.1 h1 (h2.arr e2.2) (by rw [h2.2.2.2.1]; exact hv) rfl rfl d kk'
theorem ex_sald {i : Int32} (d : decode (mC M) pc = .ok (.iaload, 1)) (hs : fS S q = (0, n + 1)) (hin : vp_in i n) (kk : Ex M k b1 b2 (pc + 1) L (.int (hI H q i.toNatClampNeg) :: st) S H R) : Ex M k b1 b2 pc L (.int i :: .float 2 :: st) S H R := by
  intro l base D tc sa p e Rm s m args below meth c Hh locs cells slots ls C hRp hLv
  have hG := C.1.2.2.2.2.2.2.2.2
  obtain ⟨h0, scr, h1, h2⟩ := xAt_0 (hRp.2 q) hs
  have e2 := hG.2.2.2.2.2.2.2.2.1
  rw [← e2.1] at h1
  exact W.iald (v := .int (hI H q i.toNatClampNeg)) C.1.1 C.1.2.1 h1 (h2.arr e2.2) h2.2.1 (by rw [h2.2.2.2.1]; exact hin) (h2.2.2.2.2 _ (vp_lt hin)) rfl rfl d (kk l base D tc sa p e Rm s m args below meth c Hh locs cells slots ls C hRp hLv)
theorem xq_slen {v : Int32} (d : decode (mC M) pc = .ok (.arraylength, 1)) (hs : fS S q = (0, n + 1)) (hv : Int32.ofNat n = v) (kk : Xq M k b1 b2 (pc + 1) L (.int v :: st) S H Q) : Xq M k b1 b2 pc L (.float 2 :: st) S H Q := by
  obtain ⟨R, e, h⟩ := kk
  exact ⟨R, e, ex_slen d hs hv h⟩
theorem xq_sald {v : Int32} (d : decode (mC M) pc = .ok (.iaload, 1)) (hs : fS S q = (0, n + 1)) (hp : p < n) (hn : n ≤ 100000) (hv : hI H q p = v) (kk : Xq M k b1 b2 (pc + 1) L (.int v :: st) S H Q) : Xq M k b1 b2 pc L (.int (nI p) :: .float 2 :: st) S H Q := by
  obtain ⟨R, e, h⟩ := kk
  exact ⟨R, e, ex_sald d hs (vp_n hp hn) (by rw [clampN hp hn, hv]; exact h)⟩
theorem ex_bud (h : Ex M k b1 b2 pc L st S H R) (h1 : b1 ≤ c1) (h2 : b2 ≤ c2) : Ex M k c1 c2 pc L st S H R := fun l base D tc sa p e Rm s m args below meth c Hh locs cells slots ls C => h l base D tc sa p e Rm s m args below meth c Hh locs cells slots ls ⟨C.1, ⟨C.2.1.1, C.2.1.2.1, by have := C.2.1.2.2.1; omega, by have := C.2.1.2.2.2; omega⟩, C.2.2⟩
theorem xq_bud (h : Xq M k b1 b2 pc L st S H Q) (h1 : b1 ≤ c1) (h2 : b2 ≤ c2) : Xq M k c1 c2 pc L st S H Q := by
  obtain ⟨R, e, h⟩ := h
  exact ⟨R, e, ex_bud h h1 h2⟩
end LWS
section LWI
variable {Ls i n n2 t sp z z1 pn pn2 ps ps2 : Nat} {xs : Nat → Int32} {S S1 : xS} {H H1 H2 : xH} {T : uTx} {u u1 ui ui2 : uSt} {L L2 : Nat → uSt} {img img2 : Bool} {b b2 : Nat → Nat} {fa fp fa2 fp2 : Int32} {A A2 : Nat → Option Nat} {N : Nat → Nat → Nat} {lf lfi : Nat → Bool} {LF : Nat → Nat → Bool} {AA F : Nat → Prop}
def ScL (Ls : Nat) (xs : Nat → Int32) (S : xS) (H : xH) : Prop := gFx S ∧ fS S 119 = (4, 1) ∧ fS S 5000000 = (0, Ls + 1) ∧ 120 ≤ fZ S ∧ ∀ j, j < Ls → hI H 5000000 j = xs j
theorem ScL.off (h : ScL Ls xs S H) (ho : Off AA H H1) (h0 : ¬ AA 5000000) : ScL Ls xs S H1 := ⟨h.1, h.2.1, h.2.2.1, h.2.2.2.1, fun j hj => (ho.I h0 j).trans (h.2.2.2.2 j hj)⟩
theorem ScL.ex (h : ScL Ls xs S H) (hS : SEx S S1) (hz : fZ S + 5 ≤ 5000000) : ScL Ls xs S1 H := by
  obtain ⟨h1, h2, h3, h4, h5⟩ := h
  exact ⟨hS.fx h1, ((hS.2.1 119 (by omega)).1).trans h2, ((hS.2.1 5000000 (by omega)).1).trans h3, Nat.le_trans h4 hS.1, h5⟩
/-- the class's half -/
def KlI (S : xS) (H : xH) (T : uTx) (u : uSt) (ps : Nat) (L : Nat → uSt) (img : Bool) (ui : uSt) (n : Nat) (b : Nat → Nat) (fa fp : Int32) (t sp z pn : Nat) (A : Nat → Option Nat) : Prop :=
  RdP S H t T u z ∧ hR H 0 7 = some sp ∧ ((t = 24 ∧ sp = 45) ∨ (t = 45 ∧ sp = 24)) ∧ PaP S H pn ps A ∧ UnP H pn ps A L ∧ hI H 0 12 = bI img ∧ (img = true → StP H 77 ui ∧ StOk ui) ∧ TaP H n b ∧ WdP H ∧ (∃ lt, hI H 2 6 = nI lt) ∧ hI H 2 7 = fa ∧ hI H 2 8 = fp
/-- the reference's half -/
def MoI (S : xS) (H : xH) (T : uTx) (u : uSt) (ps : Nat) (L : Nat → uSt) (img : Bool) (ui : uSt) (n : Nat) (b : Nat → Nat) (fa fp : Int32) (N : Nat → Nat → Nat) (lf : Nat → Bool) (LF : Nat → Nat → Bool) (lfi : Nat → Bool) : Prop :=
  MnP S H T N lf u ∧ UdP H T ps L LF ∧ TwP H (-1) (-1) ∧ hI H 83 46 = bI img ∧ (img = true → RmP H T 2 lfi ui ∧ LfR T lfi ui) ∧ TaM H n b ∧ hI H 83 28 = fa ∧ hI H 83 29 = fp
def UoK (i : Nat) (T : uTx) (u : uSt) : Prop := GdU (tNp T) u ∧ StOk u ∧ uHd u ≤ 3000 * i ∧ uLi u ≤ 3000 * i ∧ uHr u ≤ 9800
theorem UoK.s (h : UoK i T u) : UoK (i + 1) T u := ⟨h.1, h.2.1, by have := h.2.2.1; omega, by have := h.2.2.2.1; omega, h.2.2.2.2⟩
def PuI (i : Nat) (T : uTx) (u : uSt) (ps : Nat) (L : Nat → uSt) (img : Bool) (ui : uSt) (n : Nat) (b : Nat → Nat) : Prop := (∃ N, LnI T N) ∧ UoK i T u ∧ (∀ j, j < ps → UoK i T (L j)) ∧ (img = true → UoK i T ui) ∧ n ≤ 700 ∧ ∀ j, j < n → b j < 256
theorem PuI.s (h : PuI i T u ps L img ui n b) : PuI (i + 1) T u ps L img ui n b := ⟨h.1, h.2.1.s, fun j hj => (h.2.2.1 j hj).s, fun z => (h.2.2.2.1 z).s, h.2.2.2.2⟩
def GI (Ls : Nat) (xs : Nat → Int32) (i : Nat) (S : xS) (H : xH) : Prop := ScL Ls xs S H ∧ fZ S ≤ 120 + 5 * i ∧ ∃ T u ps L img ui n b fa fp t sp z pn A N lf LF lfi, KlI S H T u ps L img ui n b fa fp t sp z pn A ∧ MoI S H T u ps L img ui n b fa fp N lf LF lfi ∧ PuI i T u ps L img ui n b ∧ z ≤ 60000 * i
/-- the class's numbers stay where the reference works -/
theorem KlI.off (h : KlI S H T u ps L img ui n b fa fp t sp z pn A) (ho : Off AA H H1) (h0 : ∀ q, AA q → 83 ≤ q ∧ q ≤ 118) : KlI S H1 T u ps L img ui n b fa fp t sp z pn A := by
  have g : ∀ q, (q < 83 ∨ 119 ≤ q) → ¬ AA q := fun q hq z => by have := h0 q z; omega
  obtain ⟨⟨r1, r2, r3, r4, r5, r6, r7, r8, r9, r10, r11, r12, r13⟩, h2, h3, h4, h5, h6, h7, h8, h9, h10, h11, h12⟩ := h
  exact ⟨⟨r1, r2, (ho.R (g 0 (by omega)) 6).trans r3, r4.off ho (fun j hj => g _ (by omega)), r5, r6.off ho (fun j hj => g _ (by omega)), r7, r8, r9.off ho (g _ (by omega)) (g _ (by omega)), r10, r11, r12, r13⟩, (ho.R (g 0 (by omega)) 7).trans h2, h3, h4.off ho (g _ (by omega)) (g _ (by omega)), h5.off h4 h4.2.2.2.1 ho (fun q hq => g q (by omega)), (ho.I (g 0 (by omega)) 12).trans h6, fun e => ⟨(h7 e).1.off ho (fun j hj => g _ (by omega)), (h7 e).2⟩, ⟨(ho.I (g 0 (by omega)) 1).trans h8.1, fun j hj => (ho.I (g 1 (by omega)) j).trans (h8.2 j hj)⟩, fun w hw => (ho.I (g 3 (by omega)) w).trans (h9 w hw), h10.imp (fun lt e => (ho.I (g 2 (by omega)) 6).trans e), (ho.I (g 2 (by omega)) 7).trans h11, (ho.I (g 2 (by omega)) 8).trans h12⟩
/-- a query of the class -/
theorem KlI.q (h : KlI S H T u ps L img ui n b fa fp t sp z pn A) (ho : Off (fun q => (72 ≤ q ∧ q < 77) ∨ (16 ≤ q ∧ q ≤ 23) ∨ q = 66) H H1) (hm : MiP H1 z1) (hz : z1 + 20000000 < 2147483648) : KlI S H1 T u ps L img ui n b fa fp t sp z1 pn A := by
  obtain ⟨⟨r1, r2, r3, r4, r5, r6, r7, r8, r9, r10, r11, r12, r13⟩, h2, h3, h4, h5, h6, h7, h8, h9, h10, h11, h12⟩ := h
  exact ⟨⟨r1, r2, (ho.R (by omega) 6).trans r3, r4.off ho (fun j hj => by omega), r5, r6.off ho (fun j hj => by omega), r7, r8, hm, hz, r11, r12, r13⟩, (ho.R (by omega) 7).trans h2, h3, h4.off ho (by omega) (by omega), h5.off h4 h4.2.2.2.1 ho (fun q hq => by omega), (ho.I (by omega) 12).trans h6, fun e => ⟨(h7 e).1.off ho (fun j hj => by omega), (h7 e).2⟩, ⟨(ho.I (by omega) 1).trans h8.1, fun j hj => (ho.I (by omega) j).trans (h8.2 j hj)⟩, fun w hw => (ho.I (by omega) w).trans (h9 w hw), h10.imp (fun lt e => (ho.I (by omega) 6).trans e), (ho.I (by omega) 7).trans h11, (ho.I (by omega) 8).trans h12⟩
/-- the reference's numbers stay where the class works -/
theorem MoI.off (h : MoI S H T u ps L img ui n b fa fp N lf LF lfi) (hF : gFx S1) (ho : Off AA H H1) (h0 : ∀ q, AA q → q < 83 ∨ 119 ≤ q) : MoI S1 H1 T u ps L img ui n b fa fp N lf LF lfi := by
  have g : ∀ q, 83 ≤ q → q ≤ 118 → ¬ AA q := fun q h1 h2 z => by have := h0 q z; omega
  have g83 : ∀ k, hI H1 83 k = hI H 83 k := fun k => ho.I (g 83 (by omega) (by omega)) k
  have mo : MoF AA (fun _ => False) H H1 := ⟨ho, fun k _ => g83 k⟩
  obtain ⟨h1, h2, h3, h4, h5, h6, h7, h8⟩ := h
  have hn : MnP S H1 T N lf u := h1.off mo (fun q a1 a2 a3 a4 => g q (by omega) (by omega)) (fun z => z) (fun z => z)
  have hw := h1.ms.tw
  have hre : ∀ s, RmE H H1 s := fun s => RmE.of ho (fun q a1 a2 => g q (by omega) (by omega))
  refine ⟨⟨⟨hF, hn.1.2⟩, hn.2⟩, h2.e hw (g83 47) (fun s _ => hre s), h3.off mo (fun z => z) (fun z => z), (g83 46).trans h4, fun e => ⟨(h5 e).1.e hw (hre 2), (h5 e).2⟩, ⟨(g83 2).trans h6.1, fun j hj => (ho.I (g 84 (by omega) (by omega)) j).trans (h6.2 j hj)⟩, (g83 28).trans h7, (g83 29).trans h8⟩
/-- a query of the reference -/
theorem MoI.q (h : MoI S H T u ps L img ui n b fa fp N lf LF lfi) (ho : TrF (fun k => k = 0 ∨ k = 34 ∨ k = 48 ∨ k = 56) H H1) : MoI S H1 T u ps L img ui n b fa fp N lf LF lfi := by
  obtain ⟨h1, h2, h3, h4, h5, h6, h7, h8⟩ := h
  have hw := h1.ms.tw
  have g83 : ∀ k, ¬ (k = 0 ∨ k = 34 ∨ k = 48 ∨ k = 56) → hI H1 83 k = hI H 83 k := ho.2.2
  exact ⟨⟨h1.ms.trf ho (by omega) (by omega), h1.rm.e hw (ho.1 0 (by decide)), h1.2.2⟩, h2.e hw (g83 47 (by omega)) (fun s hs => ho.1 s (by omega)), h3.off ho.2 (by omega) (by omega), (g83 46 (by omega)).trans h4, fun e => ⟨(h5 e).1.e hw (ho.1 2 (by decide)), (h5 e).2⟩, ⟨(g83 2 (by omega)).trans h6.1, fun j hj => (ho.2.1.I (by omega) j).trans (h6.2 j hj)⟩, (g83 28 (by omega)).trans h7, (g83 29 (by omega)).trans h8⟩
theorem TrF.of (h : MoF (fun q => q = 83 ∨ q = 101 ∨ q = 102 ∨ (112 ≤ q ∧ q ≤ 118)) F H H1) : TrF F H H1 := ⟨fun s _ => RmE.of h.1 (fun q a1 a2 => by omega), h.mo (fun q z => by omega) (fun k z => z)⟩
/-- both answer x, and what holds between the calls holds behind them -/
def Tie (Ls : Nat) (xs : Nat → Int32) (i : Nat) (Mc Mm : xM) (kc km b1 b2 : Nat) (ac am : List Value) (S : xS) (H : xH) (v : Value) : Prop :=
  Vq Mc kc b1 b2 ac S H (fun R => ∃ S1 H1, R = (some v, S1, H1) ∧ ScL Ls xs S1 H1 ∧ Vq Mm km 0 0 am S1 H1 (fun R2 => ∃ H2, R2 = (some v, S1, H2) ∧ GI Ls xs (i + 1) S1 H2))
def CQ (S : xS) (z : Nat) (Mc : xM) (kc : Nat) (ac : List Value) (H : xH) (v : Value) : Prop := Vq Mc kc 0 0 ac S H (fun R => ∃ H1, R = (some v, S, H1) ∧ Off (fun q => (72 ≤ q ∧ q < 77) ∨ (16 ≤ q ∧ q ≤ 23) ∨ q = 66) H H1 ∧ ∃ t2, t2 ≤ z + 60000 ∧ MiP H1 t2)
def MQ4 (S : xS) (Mm : xM) (km : Nat) (am : List Value) (H : xH) (v : Value) : Prop := Vq Mm km 0 0 am S H (fun R => ∃ H1, R = (some v, S, H1) ∧ TrF (fun k => k = 0 ∨ k = 34 ∨ k = 48 ∨ k = 56) H H1)
theorem vq_mo {M : xM} {k b1 b2 : Nat} {a : List Value} {P Q : xR → Prop} (h : Vq M k b1 b2 a S H P) (hpq : ∀ R, P R → Q R) : Vq M k b1 b2 a S H Q := by
  obtain ⟨R, e1, e2⟩ := h
  exact ⟨R, hpq R e1, e2⟩
theorem cq_p {Mc : xM} {kc : Nat} {ac : List Value} {v w : Value} (h : Pv Mc kc ac S H v) (hv : v = w) (hm : MiP H z) : CQ S z Mc kc ac H w := ⟨_, ⟨H, by rw [← hv], Off.rf, z, by omega, hm⟩, h⟩
theorem cq_h {Mc : xM} {kc : Nat} {ac : List Value} {α : Type} {f : α → Value} {P : α → xH → Prop} {x0 : α} {w : Value} (h : Hv Mc kc ac S H f P) (hP : ∀ y H1, P y H1 → y = x0 ∧ Off (fun q => (72 ≤ q ∧ q < 77) ∨ (16 ≤ q ∧ q ≤ 23) ∨ q = 66) H H1 ∧ ∃ t2, t2 ≤ z + 60000 ∧ MiP H1 t2) (hv : f x0 = w) : CQ S z Mc kc ac H w := vq_mo h (fun R ⟨y, H1, q, e⟩ => by
  obtain ⟨q1, q2, q3⟩ := hP y H1 q
  exact ⟨H1, by rw [e, q1, hv], q2, q3⟩)
theorem mq_h {Mm : xM} {km : Nat} {am : List Value} {α : Type} {f : α → Value} {P : α → xH → Prop} {x0 : α} {w : Value} (h : Hv Mm km am S H f P) (hP : ∀ y H1, P y H1 → y = x0 ∧ MoF (fun q => q = 83 ∨ q = 101 ∨ q = 102 ∨ (112 ≤ q ∧ q ≤ 118)) (fun k => k = 0 ∨ k = 34 ∨ k = 48 ∨ k = 56) H H1) (hv : f x0 = w) : MQ4 S Mm km am H w := vq_mo h (fun R ⟨y, H1, q, e⟩ => by
  obtain ⟨q1, q2⟩ := hP y H1 q
  exact ⟨H1, by rw [e, q1, hv], TrF.of q2⟩)
theorem mq_t {Mm : xM} {km : Nat} {am : List Value} {α : Type} {f : α → Value} {P : α → xH → Prop} {x0 : α} {w : Value} (h : Hv Mm km am S H f P) (hP : ∀ y H1, P y H1 → y = x0 ∧ TrF (fun k => k = 0 ∨ k = 34 ∨ k = 48 ∨ k = 56) H H1) (hv : f x0 = w) : MQ4 S Mm km am H w := vq_mo h (fun R ⟨y, H1, q, e⟩ => by
  obtain ⟨q1, q2⟩ := hP y H1 q
  exact ⟨H1, by rw [e, q1, hv], q2⟩)
/-- two queries -/
theorem tie_q {Mc Mm : xM} {kc km : Nat} {ac am : List Value} {v : Value} (hs : ScL Ls xs S H) (hZ : fZ S ≤ 120 + 5 * i) (hi : i < 513) (hk : KlI S H T u ps L img ui n b fa fp t sp z pn A) (hm : MoI S H T u ps L img ui n b fa fp N lf LF lfi) (hp : PuI i T u ps L img ui n b) (hz : z ≤ 60000 * i)
    (c : CQ S z Mc kc ac H v) (m : ∀ H1, MoI S H1 T u ps L img ui n b fa fp N lf LF lfi → MQ4 S Mm km am H1 v) : Tie Ls xs i Mc Mm kc km 0 0 ac am S H v := by
  refine vq_mo c (fun R ⟨H1, e, ho, t2, h2, hmi⟩ => ?_)
  have hs1 := hs.off ho (by omega)
  have hk1 := hk.q ho hmi (by omega)
  have hm1 := hm.off hs.1 ho (fun q z => by omega)
  refine ⟨S, H1, e, hs1, vq_mo (m H1 hm1) (fun R2 ⟨H2, e2, ho2⟩ => ⟨H2, e2, hs1.off ho2.2.1 (by omega), by omega, T, u, ps, L, img, ui, n, b, fa, fp, t, sp, t2, pn, A, N, lf, LF, lfi, hk1.off ho2.2.1 (fun q z => by omega), hm1.q ho2, hp.s, by omega⟩)⟩
end LWI
