/-! THE CLAIM OUT OF ONE WALK OF THE LAW'S BODY. Your part is whole_start (and what it stands on); all else here is the same for every law, but numbers. -/
def R_law : String := "HatRoomLaw"
def lw_P (b : Addr) (xs : List Int32) (args : Array Value) (s : State) : Prop := args = #[.ref b] ∧ s.IntsAt b xs ∧ xs.length ≤ 3072 ∧ (Jvm.Cond.and given_1 narrow_1).before args s = true
def lw_Q (_ : Array Value) (s : State) (o : Outcome) (t : State) : Prop := o = .returned (some (.int 1)) ∧ Framed s o t [] 601024 7293034
def lw_Z (below : List Frame) (a : Array Value) (s : State) : State → Prop := fun t => ∃ o, t.status = .running ∧ Ended t below o ∧ lw_Q a s o t
/-- what holds at the law's entry: the machine, the code, the tables' words (any of lw_tbl by 'hts w (by decide +kernel)'), the script of L ints xs at the cell b, what the Statement gives of the start (any of its parts by flat_of_before) -/
def lw_At (p : Program) (s : State) (m : MethodId) (meth : Method) (c : Code) (b L : Nat) (xs : Nat → Int32) : Prop :=
  p.tables.exec = Jvm.exec ∧ c.code = code ∧ meth.sig.returnType = ret ∧ c.maxLocals = 7 ∧ meth.name = "law" ∧ s.vm.findClass R_law = some m.cls ∧ (∀ w ∈ lw_tbl, w.before #[Value.ref b] s = true) ∧ va_X b L xs s s.heap ∧ b < s.heap.size ∧ meth.locks = false ∧ (Jvm.Cond.and given_1 narrow_1).before #[Value.ref b] s = true
section FIN
theorem lt_in {w : Cond} (i : Nat) (h : tables_1[i]? = some w) : w ∈ lw_tbl := List.mem_append_right _ (List.mem_of_getElem? h)
theorem lg_in {w : Cond} (h : w ∈ lw_g) : w ∈ lw_tbl := (List.mem_filter.mp h).1
theorem st_el : ((flatC (Jvm.Cond.and given_1 narrow_1)).drop 41).take 137 = (List.range 137).map (fun j => Cond.eq (.elem (.field (.string RX9 xPoolA) "java/lang/String" "value" "[B") (.int (Int32.ofNat j))) (.int (([xTextL].getD 0 []).getD j 0))) := by decide +kernel
theorem st_in {j : Nat} (hj : j < 137) : Cond.eq (.elem (.field (.string RX9 xPoolA) "java/lang/String" "value" "[B") (.int (Int32.ofNat j))) (.int (([xTextL].getD 0 []).getD j 0)) ∈ flatC (Jvm.Cond.and given_1 narrow_1) := by
  have h : Cond.eq (.elem (.field (.string RX9 xPoolA) "java/lang/String" "value" "[B") (.int (Int32.ofNat j))) (.int (([xTextL].getD 0 []).getD j 0)) ∈ ((flatC (Jvm.Cond.and given_1 narrow_1)).drop 41).take 137 := by
    rw [st_el]
    exact List.mem_map.mpr ⟨j, List.mem_range.mpr hj, rfl⟩
  exact List.mem_of_mem_drop (List.mem_of_mem_take h)
theorem arr_at {s : State} {args : Array Value} {ty : FieldType} (h : (Cond.arrayClass ty).before args s = true) : ∃ cA : ClassId, ArrOfT s cA ty ∧ s.vm.findClass ("[" ++ ty.toString) = some cA := by
  obtain ⟨c, k, comp, h1, h2, h3⟩ := Cond.arrayClass_spec h
  exact ⟨c, fun n z => ⟨fun k h => (by cases h), k, h2, comp, h3⟩, h1⟩
theorem k_at {s : State} {args : Array Value} (hts : ∀ w ∈ lw_g, w.before args s = true) : ∃ D : va_G, ∀ (c : Nat) (q : vw_C), vwCl[c]? = some q → u_Kn s q.1 q.2.1 q.2.2 (D.1 c) (D.2 c) := by
  have h : ∀ c : Nat, ∃ x : ClassId × (Nat → Nat), ∀ q : vw_C, vwCl[c]? = some q → u_Kn s q.1 q.2.1 q.2.2 x.1 x.2 := fun c => match c with
    | 0 => by
      obtain ⟨c, iS, h⟩ := u_known hts clX0.2.1 (hts _ inst_X0)
      exact ⟨(c, iS), fun q hq => by cases hq; exact h⟩
    | 1 => by
      obtain ⟨c, iS, h⟩ := u_known hts clX1.2.1 (hts _ inst_X1)
      exact ⟨(c, iS), fun q hq => by cases hq; exact h⟩
    | 2 => by
      obtain ⟨c, iS, h⟩ := u_known hts clX2.2.1 (hts _ inst_X2)
      exact ⟨(c, iS), fun q hq => by cases hq; exact h⟩
    | 3 => by
      obtain ⟨c, iS, h⟩ := u_known hts clX3.2.1 (hts _ inst_X3)
      exact ⟨(c, iS), fun q hq => by cases hq; exact h⟩
    | 4 => by
      obtain ⟨c, iS, h⟩ := u_known hts clX4.2.1 (hts _ inst_X4)
      exact ⟨(c, iS), fun q hq => by cases hq; exact h⟩
    | 5 => by
      obtain ⟨c, iS, h⟩ := u_known hts clX5.2.1 (hts _ inst_X5)
      exact ⟨(c, iS), fun q hq => by cases hq; exact h⟩
    | 6 => by
      obtain ⟨c, iS, h⟩ := u_known hts clX6.2.1 (hts _ inst_X6)
      exact ⟨(c, iS), fun q hq => by cases hq; exact h⟩
    | 7 => by
      obtain ⟨c, iS, h⟩ := u_known hts clX7.2.1 (hts _ inst_X7)
      exact ⟨(c, iS), fun q hq => by cases hq; exact h⟩
    | 8 => by
      obtain ⟨c, iS, h⟩ := u_known hts clX8.2.1 (hts _ inst_X8)
      exact ⟨(c, iS), fun q hq => by cases hq; exact h⟩
    | 9 => by
      obtain ⟨c, iS, h⟩ := u_known hts clX9.2.1 (hts _ inst_X9)
      exact ⟨(c, iS), fun q hq => by cases hq; exact h⟩
    | 10 => by
      obtain ⟨c, iS, h⟩ := u_known hts clX10.2.1 (hts _ inst_X10)
      exact ⟨(c, iS), fun q hq => by cases hq; exact h⟩
    | 11 => by
      obtain ⟨c, iS, h⟩ := u_known hts clX11.2.1 (hts _ inst_X11)
      exact ⟨(c, iS), fun q hq => by cases hq; exact h⟩
    | c + 12 => ⟨(0, fun _ => 0), fun q hq => by simp [vwCl] at hq⟩
  obtain ⟨f, hf⟩ := Classical.axiomOfChoice h
  exact ⟨(fun c => (f c).1, fun c => (f c).2), fun c q hq => hf c q hq⟩
theorem xgl_start {s : State} {b : Nat} {cS : ClassId} (hts : ∀ w ∈ lw_tbl, w.before #[Value.ref b] s = true) (hgv : (Jvm.Cond.and given_1 narrow_1).before #[Value.ref b] s = true) (hcS : ArrOfT s cS .int) : ∃ (D : va_G) (tc sa : Nat → Nat), tc 5 = b ∧ tc 6 = cS ∧ sa 2 = b ∧ xGl s.heap.size D tc sa s s.heap := by
  have hs := flat_of_before _ hgv
  have hg : ∀ w ∈ lw_g, w.before #[Value.ref b] s = true := fun w hw => hts w (lg_in hw)
  have hA : ∀ a : Nat, a < s.heap.size → ¬ xBelow s.heap.size a := fun a h z => absurd h (Nat.not_lt.mpr z)
  obtain ⟨D, hD⟩ := k_at hg
  obtain ⟨c0, a0, n0⟩ := arr_at (hg _ ac_int)
  obtain ⟨c1, a1, n1⟩ := arr_at (hg _ ac_byte)
  obtain ⟨c2, a2, n2⟩ := arr_at (hg _ ac_boolean)
  obtain ⟨c3, a3, n3⟩ := arr_at (hg _ ac_long)
  have hAO : (Cond.arrayOver (.object RX7)).before #[Value.ref b] s = true := hts _ (lt_in 475 (by decide +kernel))
  obtain ⟨comp, c4, k4, h41, h42, h43, h44, h45⟩ := Cond.arrayOver_spec hAO
  have a4 : ArrOfT s c4 (.object RX7) := fun n z => ⟨fun k h => (by cases h), k4, h43, comp, h44⟩
  obtain ⟨adK, adV, hS, hev⟩ := vk_Sof (args := #[Value.ref b]) (s := s) (N := 1) (tm := fun _ => .string RX9 xPoolA) (len := [xTextL.length]) (byt := [xTextL]) (A := xBelow s.heap.size)
    (fun i hi => by have : i = 0 := by omega
                    subst this; decide +kernel)
    (fun i hi => hs (Cond.exactly (.string RX9 xPoolA) "java/lang/String") (by decide +kernel)) (fun i hi => hs (Cond.eq (.field (.string RX9 xPoolA) "java/lang/String" "coder" "B") (.int 0)) (by decide +kernel)) (fun i hi => hs (Cond.arrayOf (.field (.string RX9 xPoolA) "java/lang/String" "value" "[B") .byte) (by decide +kernel))
    (fun i hi => by have : i = 0 := by omega
                    subst this; exact hs (Cond.eq (.length (.field (.string RX9 xPoolA) "java/lang/String" "value" "[B")) (.int (Int32.ofNat ([xTextL.length].getD 0 0)))) (by decide +kernel))
    (fun i hi j hj => by have : i = 0 := by omega
                         subst this; exact hs _ (st_in hj))
    (fun i j hi hj hne => absurd (show i = j by omega) hne) hA
  have e1 := hev 0 (by decide)
  have e2 : (Term.string RX11 xPoolB).eval #[Value.ref b] s none [] s = some (.ref (adK 0)) := va_eqR (hs _ (by decide +kernel)) e1
  refine ⟨D, fun k => if k = 0 then c0 else if k = 1 then c1 else if k = 2 then c2 else if k = 3 then c3 else if k = 4 then c4 else if k = 5 then b else cS, fun k => if k = 0 then adK 0 else if k = 1 then adV 0 else b, rfl, rfl, rfl, ⟨hD, fun k q hq => ?_⟩, fun q hq => ?_, va_AO.of hAO, ⟨vk_R.of (hts _ (lt_in 39 (by decide +kernel))) e1, vk_R.of (hts _ (lt_in 1485 (by decide +kernel))) e2⟩, ⟨fun i hi => ?_, fun i j hi hj _ => by omega⟩, va_Zof (hts _ (lt_in 49 (by decide +kernel))) (hts _ (lt_in 3 (by decide +kernel))) (va_eqi (hs _ (by decide +kernel))) hA, va_Zqof (hts _ (lt_in 65 (by decide +kernel))) (hts _ (lt_in 5 (by decide +kernel))) (hs _ (by decide +kernel)) hA, ⟨vx_Zqof (hts _ (lt_in 1202 (by decide +kernel))) (hts _ (lt_in 18 (by decide +kernel))) (hs _ (by decide +kernel)) hA, vx_Zqof (hts _ (lt_in 1204 (by decide +kernel))) (hts _ (lt_in 18 (by decide +kernel))) (hs _ (by decide +kernel)) hA⟩, ⟨rfl, hcS⟩, va_Nc.of (hs _ (by decide +kernel)), fun w hw args => ?_⟩
  · match k, hq with
    | 0, hq => cases hq; exact ⟨a0, n0⟩
    | 1, hq => cases hq; exact ⟨a1, n1⟩
    | 2, hq => cases hq; exact ⟨a2, n2⟩
    | 3, hq => cases hq; exact ⟨a3, n3⟩
    | 4, hq => cases hq; exact ⟨a4, k4, comp, h43, h44, h41, h45⟩
    | k + 5, hq => simp at hq
  · have hin : ∀ q ∈ lw_nest, Cond.methodLinkNest q.1 q.2.1 q.2.2.1 q.2.2.2 ∈ lw_tbl := List.forall_mem_cons.mpr ⟨lt_in 134 (by decide +kernel), List.forall_mem_cons.mpr ⟨lt_in 202 (by decide +kernel), List.forall_mem_cons.mpr ⟨lt_in 233 (by decide +kernel), List.forall_mem_cons.mpr ⟨lt_in 243 (by decide +kernel), List.forall_mem_cons.mpr ⟨lt_in 266 (by decide +kernel), List.forall_mem_cons.mpr ⟨lt_in 405 (by decide +kernel), List.forall_mem_cons.mpr ⟨lt_in 488 (by decide +kernel), List.forall_mem_cons.mpr ⟨lt_in 499 (by decide +kernel), List.forall_mem_cons.mpr ⟨lt_in 733 (by decide +kernel), List.forall_mem_cons.mpr ⟨lt_in 792 (by decide +kernel), List.forall_mem_cons.mpr ⟨lt_in 827 (by decide +kernel), fun w h => by cases h⟩⟩⟩⟩⟩⟩⟩⟩⟩⟩⟩
    exact va_Nw.of rfl (hts _ (hin q hq))
  · have : i = 0 := by omega
    subst this
    exact hS.1 0 (by decide)
  · have hin : ∀ w ∈ lw_face, w ∈ lw_tbl := List.forall_mem_cons.mpr ⟨lt_in 1177 (by decide +kernel), List.forall_mem_cons.mpr ⟨lt_in 1240 (by decide +kernel), List.forall_mem_cons.mpr ⟨lt_in 1178 (by decide +kernel), List.forall_mem_cons.mpr ⟨lt_in 1180 (by decide +kernel), List.forall_mem_cons.mpr ⟨lt_in 1182 (by decide +kernel), fun w h => by cases h⟩⟩⟩⟩⟩
    exact va_any (lw_face_ok w hw).2 (hts w (hin w hw))
end FIN
/-- from the entry, for every script of at most 3072 ints, the law comes to its end with true -/
theorem whole_start {p : Program} {e : Env} {s : State} {m : MethodId} {below : List Frame} {meth : Method} {c : Code} (l : Launch) (hflags : l.flags = flags0) {b L : Nat} {xs : Nat → Int32} (hL : L ≤ 3072) (C0 : lw_At p s m meth c b L xs) : W p l e room_1 s m #[Value.ref b] below meth c s.heap [] 0 0 (lw_Z below #[Value.ref b] s) (entryFrame m ([Value.ref b] : List Value).toArray 7) := by
  obtain ⟨hx, hb, hr, hml, hnm, hown, hts, ⟨scr, hX1, hX2, hX3, hX4, hX5⟩, hbl, hlocks, hgv⟩ := C0
  have hst : l.stackTraces = false := by
    rw [Launch.stackTraces, hflags]; decide +kernel
  have hcS : ArrOfT s scr.cls .int := by
    obtain ⟨g1, k, g2, comp, g3⟩ := hX2
    exact fun n z => ⟨fun k h => (by cases h), k, g2, comp, g3⟩
  obtain ⟨D, tc, sa, e5, e6, es, hG⟩ := xgl_start hts hgv hcS
  obtain ⟨R, ⟨S1, H1, eR⟩, hE⟩ := lw_init (Q := fun R => ∃ S1 H1, R = (some (.int 1), S1, H1)) (Ls := L) (xs := xs) (H := (fun q k => if q = 5000000 then xs k else 0, fun _ _ => 0, fun _ _ => none)) hL
    (fun q h1 h2 => ⟨fun k => if_neg (by omega), fun _ => rfl, fun _ => rfl⟩) (fun j hj => by show (if (5000000 : Nat) = 5000000 then xs j else 0) = xs j; exact if_pos rfl) (fun S1 H1 => ⟨S1, H1, rfl⟩)
  subst eR
  have hl := lv_entry ([.ref b]) (n := 7) (Nat.le_of_ble_eq_true rfl)
  rw [lg_entry_eq]
  generalize (lg_sl ([.ref b]) ++ List.replicate (7 - (lg_sl ([.ref b])).length) Slot.unset).toArray = ls at hl ⊢
  have hl : lv_has ls 7 [(0, .ref b)] := hl
  have hRep : xRep s.heap.size D tc (tS L 0 0) ((fun q k => if q = 5000000 then xs k else 0, fun _ _ => 0, fun _ _ => none) : xH) s.heap := by
    refine ⟨rfl, fun q => ?_⟩
    have e0 : fS (tS L 0 0) q = if q = 5000000 then (0, L + 1) else (0, 0) := by
      show (if q < 0 then fxT.getD q (0, 0) else if q = 5000000 then (0, L + 1) else (0, 0)) = _
      rw [if_neg (Nat.not_lt_zero q)]
    unfold xAt
    rw [e0]
    by_cases hq : q = 5000000
    · rw [if_pos hq]
      refine (Or.inr ⟨by rw [e5]; exact hbl, scr, by rw [e5]; exact hX1, e6.symm, hX3, hX2.1, hX4, fun j hj => ?_⟩ : (L + 1 = 0 ∨ (tc 5 < s.heap.size ∧ ∃ scr : Cell, s.heap[tc 5]? = some scr ∧ xSc (tc 6) (L + 1 - 1) (hI _ q) scr)))
      have ej : hI ((fun q k => if q = 5000000 then xs k else 0, fun _ _ => 0, fun _ _ => none) : xH) q j = xs j := if_pos hq
      rw [ej]; exact hX5 j hj
    · rw [if_neg hq]
      exact Or.inl rfl
  have hLv : xLv s.heap.size sa 7 [some (.float 2), none, none, none, none, none, none] ls := ⟨hl.1, hl.2.1, fun i v hi => by
    match i, hi with
    | 0, hi =>
      cases hi
      have h0 := hl.2.2 (0, .ref b) List.mem_cons_self
      rw [show xV s.heap.size sa (.float 2) = .ref b from congrArg Value.ref es]
      exact h0
    | 1, hi => cases hi
    | 2, hi => cases hi
    | 3, hi => cases hi
    | 4, hi => cases hi
    | 5, hi => cases hi
    | 6, hi => cases hi
    | i + 7, hi => cases hi⟩
  have hW := hE ⟨l, hst⟩ s.heap.size D tc sa p e room_1 s m #[Value.ref b] below meth c s.heap [] 0 0 ls ⟨⟨hx, hb, hml, hr, hnm, hlocks, hown, fun w hw => hts w (lg_in hw), hG⟩, ⟨by decide, by decide, by decide, by decide⟩, va_S.rf⟩ hRep hLv
  intro T hT X
  obtain ⟨t, a1, o, b1, b2, ⟨b3, -, -⟩, Lc, ⟨c1, c2, c3⟩, c4⟩ := hW T hT X
  refine ⟨t, a1, o, b1, b2, b3, c1, c2, c3.1, c3.2.1, c3.2.2.1, c3.2.2.2.1, c3.2.2.2.2.1, fun a c hc => ?_⟩
  obtain ⟨c', g1, g2, g3, g4⟩ := c3.2.2.2.2.2 a c hc
  refine ⟨c', g1, g2, g3, fun i _ => g4 i (fun hm => ?_)⟩
  have h1 : s.heap.size ≤ a := c4 _ hm
  exact absurd (Array.getElem?_eq_some_iff.mp hc).1 (Nat.not_lt.mpr h1)
set_option maxHeartbeats 4000000 in
theorem lw_walk (l : Launch) (hflags : l.flags = flags0) (b : Addr) (xs : List Int32) : MetFree l x (headSpec (Jvm.Cond.code x code maxLocals ret :: tables_1) room_1) (lw_P b xs) (fun _ _ _ _ _ => True) lw_Q := by
  refine MetFree.of_bodyS (code := code) (maxLocals := maxLocals) (ret := ret) (by decide) ?_ ?_
  · intro args s m h hn
    obtain ⟨meth, c, h1, h2, h3, h4, h5, h6, -, -⟩ := Cond.code_spec hn (atoms_spec (ws := Jvm.Cond.code x code maxLocals ret :: tables_1) h _ List.mem_cons_self)
    exact ⟨meth, c, h1, h2, h3, h4, h5, h6⟩
  · intro p e s m args below meth c s₁ B hml0 hP _
    obtain ⟨rfl, hx, hbd, hgv⟩ := hP
    obtain ⟨scr, harrAt, hlist, hof, hsmall⟩ := hx
    obtain ⟨hcb, hkn, -, -⟩ := State.arrayAt?_spec harrAt
    have hown : s.vm.findClass R_law = some m.cls := findClass_of_methodNamed B.named
    have hts0 : ∀ c ∈ (Jvm.Cond.code x code maxLocals ret :: tables_1), c.before #[Value.ref b] s = true := atoms_spec (ws := Jvm.Cond.code x code maxLocals ret :: tables_1) B.pre
    have hts : ∀ w ∈ lw_tbl, w.before #[Value.ref b] s = true := k2_hts_sels lw_privs (fun w hw => hts0 w (List.mem_cons_of_mem _ hw)) lw_privs_ok
    have hml : c.maxLocals = 7 := B.maxLocals_eq (hts0 _ List.mem_cons_self)
    have X₀ : Stand p l e room_1 s m #[Value.ref b] below meth c s₁ [] 0 0 := Stand.of_body B
    have hh0 : s₁.heap = s.heap := by rw [B.state]; rfl
    have hsz : scr.slots.size = xs.length := by rw [← Array.length_toList, hlist, List.length_map]
    have hval : ∀ j : Nat, j < xs.length → scr.slots[j]? = some (.int (xs.getD j 0)) := fun j hj => by
      rw [← Array.getElem?_toList, hlist]
      simp [hj]
    have hbl : b < s.heap.size := (Array.getElem?_eq_some_iff.mp hcb).1
    have hX : va_X b xs.length (fun j => xs.getD j 0) s s.heap := ⟨scr, hcb, hof, hkn, hsz, hval⟩
    have K : W p l e room_1 s m #[Value.ref b] below meth c s₁.heap [] 0 0 (lw_Z below #[Value.ref b] s) (entryFrame m ([Value.ref b] : List Value).toArray 7) := by
      rw [hh0]
      exact whole_start l hflags hbd ⟨B.exec, B.bytes, B.returns, hml, (name_of_methodNamed B.named B.method).1, hown, hts, hX, hbl, B.notSynchronized, hgv⟩
    obtain ⟨t, a1, o, b1, b2, b3⟩ := K s₁ rfl X₀
    exact ⟨t, o, a1, b1, b2, b3⟩
theorem lw_pre_spec {args : Array Value} {s : State} (h : (Jvm.Cond.and given_1 narrow_1).before args s = true) (hr : rest_1_c.before args s = true) : ∃ (b : Addr) (xs : List Int32), lw_P b xs args s := by
  have hs := flat_of_before _ h
  have hq := flat_of_before _ hr
  have hc : (Cond.count 1).before args s = true := hs _ (by decide +kernel)
  have harr : (Cond.arrayOf (.arg 0) .int).before args s = true := hs _ (by decide +kernel)
  have hle : (Cond.le (.length (.arg 0)) (.int 3072)).before args s = true := hs _ (by decide +kernel)
  have hlen : (Cond.isInt (.length (.arg 0))).before args s = true := hq _ (by decide +kernel)
  have hall : (Cond.all (.arg 0) (.isInt (.elem (.arg 0) (.index 0)))).before args s = true := hq _ (by decide +kernel)
  obtain ⟨b, xs, hb, hx⟩ := State.ints_of_pre rfl harr hlen hall
  have hsm : xs.length < 2 ^ 31 := hx.choose_spec.2.2.2
  have hev : (Term.length (.arg 0)).eval args s none [] s = some (.int xs.length.toInt32) := hx.length_eval hb
  have hv := Cond.le_ints hev (show (Term.int 3072).eval args s none [] s = some (.int 3072) from rfl)
  have hd : xs.length.toInt32 ≤ 3072 := by
    simpa [Cond.before, Cond.holds, hv] using hle
  have hN : xs.length ≤ 3072 := (Int32.ofNat_le_ofNat hsm (by decide)).mp (show Int32.ofNat xs.length ≤ Int32.ofNat 3072 from hd)
  exact ⟨b, xs, Cond.one_arg hc (show args[0]? = some (.ref b) from hb), hx, hN, h⟩
theorem lw_comes (l : Launch) (hflags : l.flags = flags0) : Comes l x (Jvm.Cond.code x code maxLocals ret :: tables_1) room_1 (fun tb e args s => Calls_1 tb e args s ∧ rest_1 tb e args s ∧ Pre_1 tb e args s)
    (fun _ _ args s o t => lw_Q args s o t) := by
  intro p e ha hc hk s m args below hf hfit hheap happ hpre
  obtain ⟨b, xs, hP⟩ := lw_pre_spec hpre.2.2 hpre.2.1
  obtain ⟨k, o, h1, h2, h3, hQ⟩ := lw_walk l hflags b xs p e ha hc hk s m args below hf ((Spec.applies_iff_loose hf).mp happ).1 hP trivial
  exact ⟨k, o, h1, h2, h3, hQ⟩
theorem lw_frame {s t : State} {o : Outcome} {args : Array Value} (h : Framed s o t [] 601024 7293034) :
    Framed s o t (fieldLocs frame_1_writes args s ++ arrayLocs frame_1_arrays args s ++ staticLocs frame_1_statics s) 601024 7293034 := h
theorem lw_limb (L : Cond) (hL : ∀ (args : Array Value) (s t : State), L.after args s (.returned (some (.int 1))) t = true) :
    ArmFor flags0 classFile x code maxLocals ret World_1 tables_1 room_1 Calls_1 rest_1 Pre_1
      (fun tb e a s o t => postC L tb e a s o t ∧ Framed s o t (fieldLocs frame_1_writes a s ++ arrayLocs frame_1_arrays a s ++ staticLocs frame_1_statics s) 601024 7293034) := by
  intro l hflags _ _ p e ha hc hk s m args below hf hfit hheap happ hpre
  obtain ⟨k, o, h1, h2, h3, rfl, hF⟩ := lw_comes l hflags p e ha hc hk s m args below hf hfit hheap happ hpre
  exact ⟨k, _, h1, h2, h3, hL args s _, lw_frame hF⟩
theorem i_vc : Claimed_1_1 ∧ Claimed_1_2 := ⟨lw_limb limb_1_1 (fun args s t => by simp [limb_1_1, Cond.after, Cond.holds, Cond.value]), lw_limb limb_1_2 (fun args s t => Cond.after_iff.mpr (by
  first | (rw [show limb_1_2 = Cond.eq .result (.int 1) from rfl, Cond.eq_ints (x := 1) (y := 1) rfl rfl]; simp; done) | (simp [limb_1_2, Cond.value, Term.eval]; done)))⟩
