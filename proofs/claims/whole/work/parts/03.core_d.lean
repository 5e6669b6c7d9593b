/-! ===== new cells, calls ===== -/
section XN
variable {M M' : xM} {k k' b1 b2 c1 c2 pc : Nat} {L : List (Option Value)} {st : List Value} {S S1 : xS} {H H1 : xH} {R : xR} {a n i : Nat}
theorem fS_new (sh : Nat × Nat) (q : Nat) : fS (nS S sh) q = if q = fZ S then sh else fS S q := rfl
/-- a new cell behind all others -/
theorem xRep_new {base : Nat} {D : va_G} {tc : Nat → Nat} {Hh Hh' : Heap} {sh : Nat × Nat} (hR0 : xRep base D tc S H Hh) (e2 : Hh'.size = Hh.size + 1) (e3 : ∀ q, q < Hh.size → Hh'[q]? = Hh[q]?) (hn : xAt base D tc (nS S sh) (nH S H) Hh' (fZ S)) : xRep base D tc (nS S sh) (nH S H) Hh' := by
  refine ⟨by rw [e2, hR0.1]; rfl, fun q => ?_⟩
  by_cases hq : q = fZ S
  · subst hq; exact hn
  · have hqS : ¬ q = S.2.2 := hq
    have eS : fS (nS S sh) q = fS S q := if_neg hqS
    by_cases hz : (fS S q).1 = 0
    · have h := hR0.2 q
      unfold xAt at h ⊢
      rw [eS, hz]
      rw [hz] at h
      refine Or.imp id (fun h => ⟨h.1, h.2.imp (fun scr z => ⟨by rw [e3 _ (Array.getElem?_eq_some_iff.mp z.1).1]; exact z.1, z.2.1, z.2.2.1, z.2.2.2.1, z.2.2.2.2.1, fun j hj => ?_⟩)⟩) (show (fS S q).2 = 0 ∨ (tc 5 < base ∧ ∃ scr : Cell, Hh[tc 5]? = some scr ∧ xSc (tc 6) ((fS S q).2 - 1) (hI H q) scr) from h)
      have eI : hI (nH S H) q j = hI H q j := if_neg hqS
      rw [eI]; exact z.2.2.2.2.2 j hj
    · exact (hR0.2 q).off (e3 _ ((hR0.2 q).lt hz)) (fun z hz2 => e3 z (by have := hR0.1; omega)) eS (fun _ => if_neg hqS) (fun _ => if_neg hqS) (fun _ => if_neg hqS) (fun _ => if_neg hqS)
theorem xNew_I (q : Nat) : hI (nH S H) (fZ S) q = 0 := if_pos rfl
theorem xNew_L (q : Nat) : hL (nH S H) (fZ S) q = 0 := if_pos rfl
theorem xNew_R (q : Nat) : hR (nH S H) (fZ S) q = none := if_pos rfl
theorem xNew_F (sh : Nat × Nat) (q : Nat) : fR (nS S sh) (fZ S) q = none := if_pos rfl
theorem xNew_S (sh : Nat × Nat) : fS (nS S sh) (fZ S) = sh := if_pos rfl
theorem ex_newi {x : Int32} (d : decode (mC M) pc = .ok (.newarray .int, 2)) (hw : Cond.arrayClass .int ∈ lw_g) (h0 : ¬ x < 0) (hN : x.toNatClampNeg = n) (hb : n ≤ 100000) (kk : Ex M k b1 b2 (pc + 2) L (.ref (fZ S) :: st) (nS S (1, n)) (nH S H) R) : Ex M k (b1 + 1) (b2 + n) pc L (.int x :: st) S H R := by
  intro l base D tc sa p e Rm s m args below meth c Hh locs cells slots ls C hRp hLv
  have hG := C.1.2.2.2.2.2.2.2.2
  have hr := C.2.1
  refine va_newaK (atype := .int) C.1.1 C.1.2.1 (C.1.2.2.2.2.2.2.2.1 _ hw) rfl d rfl h0 hN (by simp [newarray.typeOf, componentBytes]; omega) (by omega) (by omega) hRp.1 (fun H2 cA e1 e2 e3 hAr hNm => ?_)
  have hc : cA = tc 0 := Option.some.inj (hNm.symm.trans (hG.1.2 0 _ rfl).2)
  subst hc
  refine kk l base D tc sa p e Rm s m args below meth c H2 locs (cells + 1) (slots + n) ls ⟨C.1, ⟨hr.1, hr.2.1, by omega, by omega⟩, ⟨Nat.le_trans C.2.2.1 (by rw [e2, ← hRp.1]; omega), fun q h1 h2 => (e3 q (by rw [← hRp.1]; exact Nat.lt_of_lt_of_le h1 C.2.2.1)).trans (C.2.2.2.1 q h1 h2), C.2.2.2.2⟩⟩ (xRep_new hRp (by rw [e2, hRp.1]) (fun q hq => e3 q (by rw [← hRp.1]; exact hq)) ?_) hLv
  unfold xAt
  rw [xNew_S, e1]
  simp only [xNew_I]
  rfl
theorem ex_newb {x : Int32} (d : decode (mC M) pc = .ok (.newarray .byte, 2)) (hw : Cond.arrayClass .byte ∈ lw_g) (h0 : ¬ x < 0) (hN : x.toNatClampNeg = n) (hb : n ≤ 100000) (kk : Ex M k b1 b2 (pc + 2) L (.ref (fZ S) :: st) (nS S (2, n)) (nH S H) R) : Ex M k (b1 + 1) (b2 + n) pc L (.int x :: st) S H R := by
  intro l base D tc sa p e Rm s m args below meth c Hh locs cells slots ls C hRp hLv
  have hG := C.1.2.2.2.2.2.2.2.2
  have hr := C.2.1
  refine va_newaK (atype := .byte) C.1.1 C.1.2.1 (C.1.2.2.2.2.2.2.2.1 _ hw) rfl d rfl h0 hN (by simp [newarray.typeOf, componentBytes]; omega) (by omega) (by omega) hRp.1 (fun H2 cA e1 e2 e3 hAr hNm => ?_)
  have hc : cA = tc 1 := Option.some.inj (hNm.symm.trans (hG.1.2 1 _ rfl).2)
  subst hc
  refine kk l base D tc sa p e Rm s m args below meth c H2 locs (cells + 1) (slots + n) ls ⟨C.1, ⟨hr.1, hr.2.1, by omega, by omega⟩, ⟨Nat.le_trans C.2.2.1 (by rw [e2, ← hRp.1]; omega), fun q h1 h2 => (e3 q (by rw [← hRp.1]; exact Nat.lt_of_lt_of_le h1 C.2.2.1)).trans (C.2.2.2.1 q h1 h2), C.2.2.2.2⟩⟩ (xRep_new hRp (by rw [e2, hRp.1]) (fun q hq => e3 q (by rw [← hRp.1]; exact hq)) ?_) hLv
  unfold xAt
  rw [xNew_S, e1]
  simp only [xNew_I]
  rfl
theorem ex_newz {x : Int32} (d : decode (mC M) pc = .ok (.newarray .boolean, 2)) (hw : Cond.arrayClass .boolean ∈ lw_g) (h0 : ¬ x < 0) (hN : x.toNatClampNeg = n) (hb : n ≤ 100000) (kk : Ex M k b1 b2 (pc + 2) L (.ref (fZ S) :: st) (nS S (3, n)) (nH S H) R) : Ex M k (b1 + 1) (b2 + n) pc L (.int x :: st) S H R := by
  intro l base D tc sa p e Rm s m args below meth c Hh locs cells slots ls C hRp hLv
  have hG := C.1.2.2.2.2.2.2.2.2
  have hr := C.2.1
  refine va_newaK (atype := .boolean) C.1.1 C.1.2.1 (C.1.2.2.2.2.2.2.2.1 _ hw) rfl d rfl h0 hN (by simp [newarray.typeOf, componentBytes]; omega) (by omega) (by omega) hRp.1 (fun H2 cA e1 e2 e3 hAr hNm => ?_)
  have hc : cA = tc 2 := Option.some.inj (hNm.symm.trans (hG.1.2 2 _ rfl).2)
  subst hc
  refine kk l base D tc sa p e Rm s m args below meth c H2 locs (cells + 1) (slots + n) ls ⟨C.1, ⟨hr.1, hr.2.1, by omega, by omega⟩, ⟨Nat.le_trans C.2.2.1 (by rw [e2, ← hRp.1]; omega), fun q h1 h2 => (e3 q (by rw [← hRp.1]; exact Nat.lt_of_lt_of_le h1 C.2.2.1)).trans (C.2.2.2.1 q h1 h2), C.2.2.2.2⟩⟩ (xRep_new hRp (by rw [e2, hRp.1]) (fun q hq => e3 q (by rw [← hRp.1]; exact hq)) ?_) hLv
  unfold xAt
  rw [xNew_S, e1]
  simp only [xNew_I]
  rfl
theorem ex_newl {x : Int32} (d : decode (mC M) pc = .ok (.newarray .long, 2)) (hw : Cond.arrayClass .long ∈ lw_g) (h0 : ¬ x < 0) (hN : x.toNatClampNeg = n) (hb : n ≤ 100000) (kk : Ex M k b1 b2 (pc + 2) L (.ref (fZ S) :: st) (nS S (4, n)) (nH S H) R) : Ex M k (b1 + 1) (b2 + n) pc L (.int x :: st) S H R := by
  intro l base D tc sa p e Rm s m args below meth c Hh locs cells slots ls C hRp hLv
  have hG := C.1.2.2.2.2.2.2.2.2
  have hr := C.2.1
  refine va_newaK (atype := .long) C.1.1 C.1.2.1 (C.1.2.2.2.2.2.2.2.1 _ hw) rfl d rfl h0 hN (by simp [newarray.typeOf, componentBytes]; omega) (by omega) (by omega) hRp.1 (fun H2 cA e1 e2 e3 hAr hNm => ?_)
  have hc : cA = tc 3 := Option.some.inj (hNm.symm.trans (hG.1.2 3 _ rfl).2)
  subst hc
  refine kk l base D tc sa p e Rm s m args below meth c H2 locs (cells + 1) (slots + n) ls ⟨C.1, ⟨hr.1, hr.2.1, by omega, by omega⟩, ⟨Nat.le_trans C.2.2.1 (by rw [e2, ← hRp.1]; omega), fun q h1 h2 => (e3 q (by rw [← hRp.1]; exact Nat.lt_of_lt_of_le h1 C.2.2.1)).trans (C.2.2.2.1 q h1 h2), C.2.2.2.2⟩⟩ (xRep_new hRp (by rw [e2, hRp.1]) (fun q hq => e3 q (by rw [← hRp.1]; exact hq)) ?_) hLv
  unfold xAt
  rw [xNew_S, e1]
  simp only [xNew_L]
  rfl
/-- a row of States -/
theorem ex_newq {x : Int32} (d : decode (mC M) pc = .ok (.anewarray i, 3)) (hw : Cond.classLink (mY M).cls i RX7 ∈ lw_g) (h0 : ¬ x < 0) (hN : x.toNatClampNeg = n) (hb : n ≤ 100000) (kk : Ex M k b1 b2 (pc + 3) L (.ref (fZ S) :: st) (nS S (5, n)) (nH S H) R) : Ex M k (b1 + 1) (b2 + n) pc L (.int x :: st) S H R := by
  intro l base D tc sa p e Rm s m args below meth c Hh locs cells slots ls C hRp hLv
  have hG := C.1.2.2.2.2.2.2.2.2
  have hr := C.2.1
  subst hN
  refine W.anew C.1.1 C.1.2.1 C.1.2.2.2.2.2.2.1 (C.1.2.2.2.2.2.2.2.1 _ hw) (va_AO.use hG.2.2.1) rfl d rfl h0 (by omega) (by omega) (by omega) (fun cA kA comp f1 f2 f3 f4 => ?_)
  obtain ⟨kA', comp', g1, g2, g3, g4⟩ := (hG.1.2 4 _ rfl).2
  have hc : cA = tc 4 := Option.some.inj (f1.symm.trans g4)
  subst hc
  generalize hH2 : Hh.push ({ cls := tc 4, slots := Array.replicate x.toNatClampNeg .null, vm := .none } : Cell) = H2
  have z1 : H2.size = Hh.size + 1 := by rw [← hH2, Array.size_push]
  have e1 : H2[Hh.size]? = some (arrV (tc 4) x.toNatClampNeg (fun _ => .null)) := by rw [← hH2, Array.getElem?_push_size, ← arrV_new]
  have o1 : ∀ q : Nat, q < Hh.size → H2[q]? = Hh[q]? := fun q hq => by rw [← hH2, Array.getElem?_push, if_neg (Nat.ne_of_lt hq)]
  have kk' := kk l base D tc sa p e Rm s m args below meth c H2 locs (cells + 1) (slots + x.toNatClampNeg) ls ⟨C.1, ⟨hr.1, hr.2.1, by omega, by omega⟩, ⟨Nat.le_trans C.2.2.1 (by rw [z1]; omega), fun q h1 h2 => (o1 q (Nat.lt_of_lt_of_le h1 C.2.2.1)).trans (C.2.2.2.1 q h1 h2), C.2.2.2.2⟩⟩ (xRep_new hRp z1 o1 (by
    unfold xAt
    rw [xNew_S]
    show H2[base + fZ S]? = _
    rw [← hRp.1, e1]
    simp only [xNew_R]
    rfl)) hLv
  rw [hRp.1]
  exact kk'
theorem ex_new {C : String} {T : u_T} {N ci : Nat} {ty : Nat → FieldType} (cl : xCl ci C T N ty) (d : decode (mC M) pc = .ok (.new i, 3)) (hw : Cond.classLink (mY M).cls i C ∈ lw_g) (hi : Cond.instantiable C N ∈ lw_g) (hn : Cond.initialized C ∈ lw_g) (hty : ∀ j, j < N → defaultValue (ty j) = match fK ci j with | 0 => .int 0 | 1 => .long 0 | _ => .null) (kk : Ex M k b1 b2 (pc + 3) L (.ref (fZ S) :: st) (nS S (6, ci)) (nH S H) R) : Ex M k (b1 + 1) (b2 + N) pc L st S H R := by
  intro l base D tc sa p e Rm s m args below meth c Hh locs cells slots ls C hRp hLv
  have hG := C.1.2.2.2.2.2.2.2.2
  have hts := C.1.2.2.2.2.2.2.2.1
  have hr := C.2.1
  have hKn := hG.1.1 ci _ cl.1
  refine W.newcK C.1.1 C.1.2.1 C.1.2.2.2.2.2.2.1 (hts _ hw) (hts _ hi) (hts _ hn) rfl d (by omega) (by omega) hKn.2.1 hRp.1 (fun H2 kC hkC e1 e2 e3 => ?_)
  refine kk l base D tc sa p e Rm s m args below meth c H2 locs (cells + 1) (slots + N) ls ⟨C.1, ⟨hr.1, hr.2.1, by omega, by omega⟩, ⟨Nat.le_trans C.2.2.1 (by rw [e2, ← hRp.1]; omega), fun q h1 h2 => (e3 q (by rw [← hRp.1]; exact Nat.lt_of_lt_of_le h1 C.2.2.1)).trans (C.2.2.2.1 q h1 h2), C.2.2.2.2⟩⟩ (xRep_new hRp (by rw [e2, hRp.1]) (fun q hq => e3 q (by rw [← hRp.1]; exact hq)) ?_) hLv
  unfold xAt
  rw [xNew_S]
  refine ⟨_, cl.1, (u_born ty hts cl.2.1 hKn hkC e1 cl.2.2.1).to (fun j hj => ?_)⟩
  rw [hty j hj]
  unfold xF
  rw [xNew_I, xNew_L, xNew_R, xNew_F]
  rcases hf : fK ci j with _ | _ | _ | f <;> rfl
theorem ex_objInit (d : decode (mC M) pc = .ok (.invokespecial i, 3)) (hl : Cond.methodLink (mY M).cls i Lib.objectInit ∈ lw_g) (hi : Cond.instanceMethod Lib.objectInit ∈ lw_g) (hc : Cond.code Lib.objectInit ⟨#[0xb1]⟩ 1 none ∈ lw_g) (hst : st = []) (hk : 1 ≤ k) (kk : Ex M k b1 b2 (pc + 3) L st S H R) : Ex M k b1 b2 pc L (.ref a :: st) S H R := by
  intro l base D tc sa p e Rm s m args below meth c Hh locs cells slots ls C hRp hLv
  have hts := C.1.2.2.2.2.2.2.2.1
  have hr := C.2.1
  subst hst
  exact W.objInit C.1.1 C.1.2.1 C.1.2.2.2.2.2.2.1 (hts _ hl) (hts _ hi) (hts _ hc) rfl (by rw [hLv.1, C.1.2.2.1]) rfl d (by omega) (by show 2 * 0 + 0 + 12 ≤ _; omega) (kk l base D tc sa p e Rm s m args below meth c Hh locs cells slots ls C hRp hLv)
/-- what a call needs of the method that is called -/
def xGd (M : xM) (n : Nat) : Prop := Cond.code (mY M) (mC M) (mN M) (mT M) ∈ lw_g ∧ Cond.initialized (mY M).cls ∈ lw_g ∧ ((mY M).cls ≠ "java/lang/invoke/MethodHandle" ∧ (mY M).cls ≠ "java/lang/invoke/VarHandle" ∧ (parseMethodDescriptor (mY M).desc).map (fun d => d.parameters.length) = some n) ∧ mN M ≤ 40
theorem xGood (hg : xGd M n) : GoodIn lw_g (.code (mY M) (mC M) (mN M) (mT M) :: lw_g) := fun w h => by
  rcases List.mem_cons.mp h with rfl | h
  · exact lw_gG hg.1
  · exact lw_gG h
theorem xBlind {base : Nat} {D : va_G} {tc sa : Nat → Nat} {args : List Value} : FrameBlind (xPc base D tc sa args S H) := fun _ U g mk q => ⟨q.1, q.2.1, xGl.same (s := U) (U := U.calling g mk _) rfl q.2.2⟩
theorem xPre {base : Nat} {D : va_G} {tc sa : Nat → Nat} {args : List Value} {s U : State} {Hh : Heap} {locs : List Loc} (hG : xGl base D tc sa s s.heap) (hS : va_S (xBelow base) s.heap Hh locs) (hRp : xRep base D tc S H Hh) (hU : U.heap = Hh) (hW : s.WarmedH U.vm) : xPc base D tc sa args S H (args.map (xV base sa)).toArray U := by
  refine ⟨rfl, by rw [hU]; exact hRp, ?_⟩
  rw [hU]
  exact (hG.kept (fun q h1 h2 => hS.2.1 q h1 h2)).warm hW
/-- behind a call -/
theorem xW_call {l : xLa} {base : Nat} {D : va_G} {tc sa : Nat → Nat} {p : Program} {e : Env} {Rm : Room} {s : State} {m : MethodId} {args a0 : Array Value} {below : List Frame} {meth : Method} {c : Code} {Hh : Heap} {locs : List Loc} {cells slots : Nat} {ls : Array Slot} {st0 rest : List Value} {r : Option Value}
    (hrun : va_Run p l.1 e Rm s m args below meth c Hh locs cells slots c1 c2 (F0 m pc ls st0) (rest.map (xV base sa)) (xQ base D tc sa (r, S1, H1) a0) (xBelow base))
    (C0 : xC M k (b1 + c1) (b2 + c2) base D tc sa p Rm s m args meth c Hh locs cells slots) (hLv : xLv base sa (mN M) L ls) (kk : Ex M k b1 b2 (pc + 3) L (r.toList ++ rest) S1 H1 R) :
    W p l.1 e Rm s m args below meth c Hh locs cells slots (MQ below (xQ base D tc sa R) args s Rm.cells Rm.slots (xBelow base)) (F0 m pc ls st0) := by
  intro T hT X
  obtain ⟨v, st₀, t, T', Lc, h0, X', hLc, e1, e2, ⟨ho, hRep1, hF⟩, go⟩ := hrun T hT X
  have hv : v = r.map (xV base sa) := by cases ho; rfl
  subst hv
  have hr := C0.2.1
  have hS := C0.2.2
  rw [va_F, h0] at hF
  have hS1 : va_S (xBelow base) s.heap T'.heap (locs ++ Lc) := ⟨Nat.le_trans hS.1 (by rw [e1]; exact hF.1), fun q h1 h2 => by rw [e1, hF.2 q (Nat.lt_of_lt_of_le h1 hS.1) h2]; exact hS.2.1 q h1 h2, fun q hq => by
      rcases List.mem_append.mp hq with h | h
      · exact hS.2.2 q h
      · exact hLc q h⟩
  have K := kk l base D tc sa p e Rm s m args below meth c T'.heap (locs ++ Lc) (cells + c1) (slots + c2) ls ⟨C0.1, ⟨hr.1, hr.2.1, by omega, by omega⟩, hS1⟩ (by rw [e1]; exact hRep1) hLv T' rfl X'
  obtain ⟨t2, a1, q1⟩ := K
  refine ⟨t2, go t2 ?_, q1⟩
  have es : ((r.toList ++ rest).map (xV base sa)) = (r.map (xV base sa)).toList ++ rest.map (xV base sa) := by cases r <;> simp
  rw [es] at a1
  exact a1
theorem ex_callV {C : String} {T : u_T} {N ci : Nat} {ty : Nat → FieldType} {As rest : List Value} {r : Option Value} (cl : xCl ci C T N ty) (hg : xGd M' n) (d : decode (mC M) pc = .ok (.invokevirtual i, 3)) (hl : Cond.methodLink (mY M).cls i (mY M') ∈ lw_g) (hi : Cond.instanceMethod (mY M') ∈ lw_g) (hse : Cond.selects (mY M').cls (mY M') (mY M') ∈ lw_g) (hC : (mY M').cls = C) (hs : fS S a = (6, ci)) (hn : As.length = n) (hst : st = As.reverse ++ .ref a :: rest) (hW : (rest.map fun v => v.category).sum ≤ 8) (hk : k' < k)
    (hE : Ev M' k' c1 c2 (.ref a :: As) S H (r, S1, H1)) (kk : Ex M k b1 b2 (pc + 3) L (r.toList ++ rest) S1 H1 R) : Ex M k (b1 + c1) (b2 + c2) pc L st S H R := by
  intro l base D tc sa p e Rm s m args below meth c Hh locs cells slots ls C0 hRp hLv
  have hts := C0.1.2.2.2.2.2.2.2.1
  have hG := C0.1.2.2.2.2.2.2.2.2
  have hr := C0.2.1
  subst hst
  have hmx := hg.2.2.2
  obtain ⟨r', hr', cellB, g1, g2, g3, -⟩ := xAt_6 (hRp.2 a) hs
  refine xW_call (va_runV (Ts := lw_g) (own := (mY M).cls) (C := (mY M').cls) (As := As.map (xV base sa)) (b := base + a) (n := n) ⟨C0.1.1, C0.1.2.1, C0.1.2.2.1, C0.1.2.2.2.2.2.2.1, hts⟩ (hE l base D tc sa) ⟨callB_of n hts (xGood hg) rfl rfl rfl (hts _ hg.2.1) (hts _ hl) hg.2.2.1 ⟨by show k' + 1 ≤ _; omega, by show 8 + (mN M' + 11) + 100 * k' ≤ _; omega⟩, hts _ hi, hts _ hse⟩ ⟨xBlind, ⟨cellB, g1, by rw [g3]; rfl, by rw [g2, hC]; exact (hG.1.1 ci _ cl.1).2.1⟩, fun U hU hW => xPre (args := .ref a :: As) hG C0.2.2 hRp hU hW⟩ rfl (by rw [List.length_map]; exact hn) hLv.1 (by simp [xV]) (lv_room (by rw [xV_sum]; exact hW)) d ⟨by omega, by omega⟩) C0 hLv kk
theorem ex_callS {As rest : List Value} {r : Option Value} (hg : xGd M' n) (d : decode (mC M) pc = .ok (.invokestatic i, 3)) (hl : Cond.methodLink (mY M).cls i (mY M') ∈ lw_g) (hi : Cond.static (mY M') ∈ lw_g) (hn : As.length = n) (hst : st = As.reverse ++ rest) (hW : (rest.map fun v => v.category).sum ≤ 8) (hk : k' < k)
    (hE : Ev M' k' c1 c2 As S H (r, S1, H1)) (kk : Ex M k b1 b2 (pc + 3) L (r.toList ++ rest) S1 H1 R) : Ex M k (b1 + c1) (b2 + c2) pc L st S H R := by
  intro l base D tc sa p e Rm s m args below meth c Hh locs cells slots ls C0 hRp hLv
  have hts := C0.1.2.2.2.2.2.2.2.1
  have hG := C0.1.2.2.2.2.2.2.2.2
  have hr := C0.2.1
  subst hst
  have hmx := hg.2.2.2
  refine xW_call (va_runS (Ts := lw_g) (own := (mY M).cls) (As := As.map (xV base sa)) (n := n) ⟨C0.1.1, C0.1.2.1, C0.1.2.2.1, C0.1.2.2.2.2.2.2.1, hts⟩ (hE l base D tc sa) ⟨callB_of n hts (xGood hg) rfl rfl rfl (hts _ hg.2.1) (hts _ hl) hg.2.2.1 ⟨by show k' + 1 ≤ _; omega, by show 8 + (mN M' + 11) + 100 * k' ≤ _; omega⟩, hts _ hi⟩ ⟨xBlind, fun U hU hW => xPre hG C0.2.2 hRp hU hW⟩ rfl (by rw [List.length_map]; exact hn) hLv.1 (by simp) (lv_room (by rw [xV_sum]; exact hW)) d ⟨by omega, by omega⟩) C0 hLv kk
theorem ex_callI {As rest : List Value} {r : Option Value} (hg : xGd M' n) (d : decode (mC M) pc = .ok (.invokespecial i, 3)) (hl : Cond.methodLink (mY M).cls i (mY M') ∈ lw_g) (hi : Cond.instanceMethod (mY M') ∈ lw_g) (hnm : (mY M').name = "<init>") (hmt : mT M' = none) (hn : As.length = n) (hst : st = As.reverse ++ .ref a :: rest) (hW : (rest.map fun v => v.category).sum ≤ 8) (hk : k' < k)
    (hE : Ev M' k' c1 c2 (.ref a :: As) S H (r, S1, H1)) (kk : Ex M k b1 b2 (pc + 3) L (r.toList ++ rest) S1 H1 R) : Ex M k (b1 + c1) (b2 + c2) pc L st S H R := by
  intro l base D tc sa p e Rm s m args below meth c Hh locs cells slots ls C0 hRp hLv
  have hts := C0.1.2.2.2.2.2.2.2.1
  have hG := C0.1.2.2.2.2.2.2.2.2
  have hr := C0.2.1
  subst hst
  have hmx := hg.2.2.2
  have hE' := hE l base D tc sa
  have hG' := xGood hg
  rw [hmt] at hE' hG'
  refine xW_call (va_runI (Ts := lw_g) (own := (mY M).cls) (As := As.map (xV base sa)) (b := base + a) (n := n) ⟨C0.1.1, C0.1.2.1, C0.1.2.2.1, C0.1.2.2.2.2.2.2.1, hts⟩ hE' ⟨callB_of n hts hG' rfl rfl rfl (hts _ hg.2.1) (hts _ hl) hg.2.2.1 ⟨by show k' + 1 ≤ _; omega, by show 8 + (mN M' + 11) + 100 * k' ≤ _; omega⟩, hnm, hts _ hi⟩ ⟨xBlind, fun U hU hW => xPre (args := .ref a :: As) hG C0.2.2 hRp hU hW⟩ rfl (by rw [List.length_map]; exact hn) hLv.1 (by simp [xV]) (lv_room (by rw [xV_sum]; exact hW)) d ⟨by omega, by omega⟩) C0 hLv kk
theorem ex_callSN {As rest : List Value} {r : Option Value} {host : String} (hg : xGd M' n) (d : decode (mC M) pc = .ok (.invokestatic i, 3)) (hl : ((mY M).cls, i, mY M', host) ∈ lw_nest) (hi : Cond.static (mY M') ∈ lw_g) (hn : As.length = n) (hst : st = As.reverse ++ rest) (hW : (rest.map fun v => v.category).sum ≤ 8) (hk : k' < k)
    (hE : Ev M' k' c1 c2 As S H (r, S1, H1)) (kk : Ex M k b1 b2 (pc + 3) L (r.toList ++ rest) S1 H1 R) : Ex M k (b1 + c1) (b2 + c2) pc L st S H R := by
  intro l base D tc sa p e Rm s m args below meth c Hh locs cells slots ls C0 hRp hLv
  have hts := C0.1.2.2.2.2.2.2.2.1
  have hG := C0.1.2.2.2.2.2.2.2.2
  have hr := C0.2.1
  subst hst
  have hmx := hg.2.2.2
  refine xW_call (va_runSN (Ts := lw_g) (own := (mY M).cls) (host := host) (As := As.map (xV base sa)) (n := n) ⟨C0.1.1, C0.1.2.1, C0.1.2.2.1, C0.1.2.2.2.2.2.2.1, hts⟩ (hE l base D tc sa) ⟨va_cnB n hts (xGood hg) rfl rfl rfl (hG.2.1 _ hl) (hts _ hg.2.1) hg.2.2.1 ⟨by show k' + 1 ≤ _; omega, by show 8 + (mN M' + 11) + 100 * k' ≤ _; omega⟩, hts _ hi, trivial⟩ ⟨xBlind, fun U hU hW => xPre hG C0.2.2 hRp hU hW⟩ rfl (by rw [List.length_map]; exact hn) hLv.1 (by simp) (lv_room (by rw [xV_sum]; exact hW)) d ⟨by omega, by omega⟩) C0 hLv kk
theorem ex_callIN {As rest : List Value} {r : Option Value} {host : String} (hg : xGd M' n) (d : decode (mC M) pc = .ok (.invokespecial i, 3)) (hl : ((mY M).cls, i, mY M', host) ∈ lw_nest) (hi : Cond.instanceMethod (mY M') ∈ lw_g) (hnm : (mY M').name = "<init>") (hmt : mT M' = none) (hn : As.length = n) (hst : st = As.reverse ++ .ref a :: rest) (hW : (rest.map fun v => v.category).sum ≤ 8) (hk : k' < k)
    (hE : Ev M' k' c1 c2 (.ref a :: As) S H (r, S1, H1)) (kk : Ex M k b1 b2 (pc + 3) L (r.toList ++ rest) S1 H1 R) : Ex M k (b1 + c1) (b2 + c2) pc L st S H R := by
  intro l base D tc sa p e Rm s m args below meth c Hh locs cells slots ls C0 hRp hLv
  have hts := C0.1.2.2.2.2.2.2.2.1
  have hG := C0.1.2.2.2.2.2.2.2.2
  have hr := C0.2.1
  subst hst
  have hmx := hg.2.2.2
  have hE' := hE l base D tc sa
  have hG' := xGood hg
  rw [hmt] at hE' hG'
  refine xW_call (va_runIN (Ts := lw_g) (own := (mY M).cls) (host := host) (As := As.map (xV base sa)) (b := base + a) (n := n) ⟨C0.1.1, C0.1.2.1, C0.1.2.2.1, C0.1.2.2.2.2.2.2.1, hts⟩ hE' ⟨va_cnB n hts hG' rfl rfl rfl (hG.2.1 _ hl) (hts _ hg.2.1) hg.2.2.1 ⟨by show k' + 1 ≤ _; omega, by show 8 + (mN M' + 11) + 100 * k' ≤ _; omega⟩, hnm, hts _ hi⟩ ⟨xBlind, fun U hU hW => xPre (args := .ref a :: As) hG C0.2.2 hRp hU hW⟩ rfl (by rw [List.length_map]; exact hn) hLv.1 (by simp [xV]) (lv_room (by rw [xV_sum]; exact hW)) d ⟨by omega, by omega⟩) C0 hLv kk
end XN
