/-! ===== a person who is none: what is thrown, and caught ===== -/
section THR
variable {p : Program} {l : Launch} {e : Env} {R : Room} {s : State} {m : MethodId} {args : Array Value} {below : List Frame} {meth : Method} {c : Code} {H : Heap} {locs : List Loc} {cells slots : Nat} {Q : State → Prop}
variable {mc ms : Nat} {free : Addr → Prop} {A0 A1 : Nat → Prop} {H0 : Heap} {a : Array Value} {ls : Array Slot} {st0 rest : List Value}
variable {Qc : Array Value → State → Outcome → State → Prop} {XC : String → State → State → Prop}
/-- 'throw new E()': new; dup; invokespecial; athrow -/
theorem xx_throw0 {cc : ByteArray} {pc : Nat} (hexec : p.tables.exec = Jvm.exec) (hb : c.code = cc) (hl : l.stackTraces = false) {own cls : String} {names : List String} {ik ic mc ms : Nat} {A : Nat → Prop}
    (hown : s.vm.findClass own = some m.cls) (hcls : Bundle.fit cls = true) (hnames : ∀ n ∈ names, Bundle.fit n = true)
    (hk : (Cond.classLink own ik cls).before args s = true) (hini : (Cond.initialized cls).before args s = true) (hat : ∀ w ∈ vx_at0 own ic cls names, w.before args s = true)
    (hgood : ∀ w ∈ Cond.classLink own ik cls :: Cond.initialized cls :: vx_at0 own ic cls names, vx_ot w = true)
    (hU : vx_Zq Bundle.tN "UNASSIGNED_STACK" Bundle.steD A s s.heap) (hN : vx_Zq Bundle.tN "SUPPRESSED_SENTINEL" Bundle.listD A s s.heap) (hS : va_S A s.heap H locs) (hsize : ls.size = c.maxLocals)
    (d0 : decode cc pc = .ok (.new ik, 3)) (d3 : decode cc (pc + 3) = .ok (.dup, 1)) (d4 : decode cc (pc + 4) = .ok (.invokespecial ic, 3)) (d7 : decode cc (pc + 7) = .ok (.athrow, 1))
    (hout : ∀ x ∈ c.exceptionTable.toList, covers x (pc + 7) = false)
    (hRframes : names.length + 3 < R.frames) (hRlocals : (rest.map fun v => v.category).sum + (13 * (names.length + 1) + 42) ≤ R.locals) (hRcells : cells + 1 ≤ R.cells) (hRslots : slots + 6 ≤ R.slots) (hlocks : meth.locks = false)
    (hx : ∀ t : State, s.vm.Alike t.vm → t.heap.size = H.size + 1 → (∀ q : Nat, q < H.size → t.heap[q]? = H[q]?) → XC cls s t)
    (hf : ∀ z ∈ locs, free z.base) (hc : cells + 1 ≤ mc) (hs : slots + 6 ≤ ms) :
    W p l e R s m args below meth c H locs cells slots (vx_MQ below Qc XC args s mc ms free) (F0 m pc ls rest) := by
  intro T hT X
  have htr : e.platform.stackTraces = false := (show e.platform.stackTraces = l.stackTraces by rw [X.admits.platform]).trans hl
  have Y := vx_rebase X (R' := { frames := R.frames, locals := R.locals, cells := 1, slots := 6 }) (Nat.le_refl _) (Nat.le_refl _) hRcells hRslots
  obtain ⟨s', hA⟩ : ∃ z, z = (T.setVm s.vm).setFrames (.invoking m args :: below) := ⟨_, rfl⟩
  rw [← hA] at Y
  have hvm : s'.vm = s.vm := by rw [hA]; rfl
  have hhp : s'.heap = H := by rw [hA]; exact hT
  have hW0 : s.WarmedH s'.vm := by rw [hvm]; exact State.WarmedH.refl s
  have hat' : ∀ w ∈ vx_at0 own ic cls names, w.before args s' = true := fun w hw => vx_ot_at hW0 hvm.symm (hgood w (List.mem_cons_of_mem _ (List.mem_cons_of_mem _ hw))) (hat w hw)
  have hk' : (Cond.classLink own ik cls).before args s' = true := vx_ot_at hW0 hvm.symm (hgood _ List.mem_cons_self) hk
  have hini' : (Cond.initialized cls).before args s' = true := vx_ot_at hW0 hvm.symm (hgood _ (List.mem_cons_of_mem _ List.mem_cons_self)) hini
  have hU' : vx_Zq Bundle.tN "UNASSIGNED_STACK" Bundle.steD A s' s'.heap := by rw [hhp]; exact vx_Zq.moved hW0.alike (hU.kept hS.2.1)
  have hN' : vx_Zq Bundle.tN "SUPPRESSED_SENTINEL" Bundle.listD A s' s'.heap := by rw [hhp]; exact vx_Zq.moved hW0.alike (hN.kept hS.2.1)
  have h : ∀ w ∈ Bundle.ownAtoms0 own ic cls names, w.before args s' = true := vx_own hat' (vx_isRefq hU'.1) (vx_isRefq hN'.1) hU'.2.word hN'.2.word
  have hown' : s'.vm.findClass own = some m.cls := by rw [hvm]; exact hown
  have hins : (Cond.instantiable cls 6).before args s' = true := h _ (by simp [Bundle.ownAtoms0])
  obtain ⟨vm₁, cX, kX, hfX, hkX, -, -, X₁, st1⟩ := Y.newCold hexec (own := own) (C := cls) (index := ik) (n := 6) hown' hk' hins hini'
    (g := F0 m pc ls rest) rfl (by rw [hb]; exact d0) (Nat.le_refl _) (Nat.le_refl _)
  generalize hT1 : (T.setVm vm₁).pushCell { cls := cX, slots := kX.instanceTypes.map defaultValue, vm := .none } = T1 at X₁ st1
  have hcat : (Value.ref T.heap.size).category = 1 := rfl
  have hcellA : T1.heap[T.heap.size]? = some (freshCell cX kX) := by rw [← hT1]; exact State.heap_pushCell_size _ _
  have d3' : decode c.code (pc + 3) = .ok (.dup, 1) := by rw [hb]; exact d3
  obtain ⟨U, hsteps, hrun, hend, hW, hsame, ce, hce, hO⟩ := X₁.ctorThrow0 hexec htr (own := own) (cls := cls) (names := names) (ic := ic) hown' hcls hnames h (fun x hx => nomatch hx) hfX hkX hcellA (by rw [hhp, hT]; exact Nat.le_refl _)
    (g := { method := m, pc := pc + 4, locals := ls, stack := .ref T.heap.size :: .ref T.heap.size :: rest, locked := none }) rfl hsize rfl rfl (rest := rest) rfl
    (by rw [hb]; exact d4) (by rw [hb]; exact d7) hout hRframes (by simp only [List.map_cons, List.sum_cons, hcat]; omega) hlocks
  obtain ⟨f1, f2⟩ := vx_frame hsame
  rw [hhp] at f1 f2
  have hsz1 : U.heap.size = H.size + 1 := by
    have g1 : U.heap.size ≤ s'.heap.size + (0 + 1) := hsame.2.2.1
    rw [hhp] at g1
    have g2 := (Array.getElem?_eq_some_iff.mp hce).1
    rw [hT] at g2
    omega
  have hWs : s.WarmedH U.vm := State.WarmedH.trans hW0 hW
  have hcl : s.vm.findClass cls = some ce.cls := by
    have h9 := hO.cls
    rw [hvm] at h9
    exact h9
  have hall : s.sameButNew ({ U with vm := s.vm } : State) locs mc ms := by
    subst hA
    obtain ⟨e1, e2⟩ := hsame
    rw [State.setFrames_setFrames] at e1
    have h2 : (T.setVm s.vm).sameButNew ({ U with vm := s.vm } : State) [] (0 + 1) (0 + 6) := ⟨e1, e2⟩
    have h3 := X.same.trans h2
    rw [List.append_nil] at h3
    exact h3.mono hc hs
  refine ⟨U, ?_, .threw T.heap.size, hrun, hend, Or.inr ⟨T.heap.size, rfl, cls, ce, locs, hx U hWs.alike hsz1 (fun q hq => f2 q hq (fun z hz => nomatch hz)), hce, hO.vm, hcl, hWs, hall, hf⟩⟩
  refine st1 _ ?_
  show Steps p.tables e below (T1.setTop { method := m, pc := pc + 3, locals := ls, stack := .ref T.heap.size :: rest, locked := none }) _
  jvm_step X₁.here [X₁.here.top, hexec, d3', Value.category]
  exact hsteps
end THR
section TH2
variable {M : xM} {k k' b1 b2 c1 c2 pc : Nat} {L : List (Option Value)} {st : List Value} {S S1 : xS} {H H1 : xH} {R : xR} {n i q : Nat}
theorem xRep_junk {base : Nat} {D : va_G} {tc : Nat → Nat} {Hh Hh' : Heap} (hR0 : xRep base D tc S H Hh) (e2 : Hh'.size = Hh.size + 1) (e3 : ∀ q, q < Hh.size → Hh'[q]? = Hh[q]?) : xRep base D tc (nS S (0, 0)) H Hh' := by
  refine ⟨by rw [e2, hR0.1]; rfl, fun q => ?_⟩
  by_cases hq : q = fZ S
  · subst hq
    unfold xAt
    rw [xNew_S]
    exact Or.inl rfl
  · have hqS : ¬ q = S.2.2 := hq
    have eS : fS (nS S (0, 0)) q = fS S q := if_neg hqS
    by_cases hz : (fS S q).1 = 0
    · have h := hR0.2 q
      unfold xAt at h ⊢
      rw [eS, hz]
      rw [hz] at h
      exact Or.imp id (fun h => ⟨h.1, h.2.imp (fun scr z => ⟨by rw [e3 _ (Array.getElem?_eq_some_iff.mp z.1).1]; exact z.1, z.2⟩)⟩) (show (fS S q).2 = 0 ∨ (tc 5 < base ∧ ∃ scr : Cell, Hh[tc 5]? = some scr ∧ xSc (tc 6) ((fS S q).2 - 1) (hI H q) scr) from h)
    · exact (hR0.2 q).off (e3 _ ((hR0.2 q).lt hz)) (fun z hz2 => e3 z (by have := hR0.1; omega)) eS (fun _ => if_neg hqS) (fun _ => rfl) (fun _ => rfl) (fun _ => rfl)
/-- thrown: an E, one new cell, the picture as it was -/
def XP (base : Nat) (D : va_G) (tc : Nat → Nat) (S : xS) (H : xH) (E : String) : String → State → State → Prop := fun E2 st0 t => E2 = E ∧ xRep base D tc (nS S (0, 0)) H t.heap ∧ va_F (xBelow base) st0 t
/-- behind a call that changes nothing: any aim -/
theorem xW_callQ {l : xLa} {base : Nat} {D : va_G} {tc sa : Nat → Nat} {p : Program} {e : Env} {Rm : Room} {s : State} {m : MethodId} {args a0 : Array Value} {below : List Frame} {meth : Method} {c : Code} {Hh : Heap} {locs : List Loc} {cells slots : Nat} {ls : Array Slot} {st0 rest : List Value} {r : Option Value} {Q : State → Prop}
    (hrun : va_Run p l.1 e Rm s m args below meth c Hh locs cells slots 0 0 (F0 m pc ls st0) (rest.map (xV base sa)) (xQ base D tc sa (r, S1, H1) a0) (xBelow base))
    (C0 : xC M k b1 b2 base D tc sa p Rm s m args meth c Hh locs cells slots)
    (kk : ∀ Hh1 locs1, xC M k b1 b2 base D tc sa p Rm s m args meth c Hh1 locs1 cells slots → xRep base D tc S1 H1 Hh1 → W p l.1 e Rm s m args below meth c Hh1 locs1 cells slots Q (F0 m (pc + 3) ls ((r.toList ++ rest).map (xV base sa)))) :
    W p l.1 e Rm s m args below meth c Hh locs cells slots Q (F0 m pc ls st0) := by
  intro T hT X
  obtain ⟨v, st₀, t, T', Lc, h0, X', hLc, e1, e2, ⟨ho, hRep1, hF⟩, go⟩ := hrun T hT X
  have hv : v = r.map (xV base sa) := by cases ho; rfl
  subst hv
  have hS := C0.2.2
  rw [va_F, h0] at hF
  have hS1 : va_S (xBelow base) s.heap T'.heap (locs ++ Lc) := ⟨Nat.le_trans hS.1 (by rw [e1]; exact hF.1), fun q h1 h2 => by rw [e1, hF.2 q (Nat.lt_of_lt_of_le h1 hS.1) h2]; exact hS.2.1 q h1 h2, fun q hq => by
      rcases List.mem_append.mp hq with h | h
      · exact hS.2.2 q h
      · exact hLc q h⟩
  obtain ⟨t2, a1, q1⟩ := kk T'.heap (locs ++ Lc) ⟨C0.1, C0.2.1, hS1⟩ (by rw [e1]; exact hRep1) T' rfl X'
  refine ⟨t2, go t2 ?_, q1⟩
  have es : ((r.toList ++ rest).map (xV base sa)) = (r.map (xV base sa)).toList ++ rest.map (xV base sa) := by cases r <;> simp
  rw [es] at a1
  exact a1
/-- behind a call that throws -/
theorem xW_callX {l : xLa} {base : Nat} {D : va_G} {tc sa : Nat → Nat} {p : Program} {e : Env} {Rm : Room} {s : State} {m : MethodId} {args : Array Value} {below : List Frame} {meth : Method} {c : Code} {Hh : Heap} {locs : List Loc} {cells slots : Nat} {ls : Array Slot} {st0 rest : List Value} {Q : State → Prop} {E : String}
    (hrun : vx_Run p l.1 e Rm s m args below meth c Hh locs cells slots 1 6 (F0 m pc ls st0) rest (fun _ _ _ => False) (XP base D tc S H E) (xBelow base))
    (C0 : xC M k (b1 + 1) (b2 + 6) base D tc sa p Rm s m args meth c Hh locs cells slots)
    (kx : ∀ ce q9 Hh1 locs1, xC M k b1 b2 base D tc sa p Rm s m args meth c Hh1 locs1 (cells + 1) (slots + 6) → xRep base D tc (nS S (0, 0)) H Hh1 → Hh1[q9]? = some ce → ce.vm = .none → s.vm.findClass E = some ce.cls → vx_W p l.1 e Rm s m args below meth c Hh1 locs1 (cells + 1) (slots + 6) Q (F0 m pc ls rest) q9) :
    W p l.1 e Rm s m args below meth c Hh locs cells slots Q (F0 m pc ls st0) := by
  intro T hT X
  rcases hrun T hT X with ⟨v, st₀, t, T', Lc, h0, X', hLc, e1, e2, hq, go⟩ | ⟨q, st₀, t, T', Lc, E', ce, h0, X', hLc, e1, e2, ⟨rfl, hRep, hF⟩, hce, hcv, hcl, go⟩
  · exact absurd hq id
  · have hr := C0.2.1
    have hS := C0.2.2
    rw [va_F, h0] at hF
    have hS1 : va_S (xBelow base) s.heap T'.heap (locs ++ Lc) := ⟨Nat.le_trans hS.1 (by rw [e1]; exact hF.1), fun q h1 h2 => by rw [e1, hF.2 q (Nat.lt_of_lt_of_le h1 hS.1) h2]; exact hS.2.1 q h1 h2, fun q hq => by
      rcases List.mem_append.mp hq with h | h
      · exact hS.2.2 q h
      · exact hLc q h⟩
    obtain ⟨t2, a1, b1⟩ := kx ce q T'.heap (locs ++ Lc) ⟨C0.1, ⟨hr.1, hr.2.1, by omega, by omega⟩, hS1⟩ (by rw [e1]; exact hRep) (by rw [e1]; exact hce) hcv hcl T' rfl X'
    exact ⟨t2, go.trans a1, b1⟩
end TH2
def hw_io : List Cond := vx_at0 RX10 139 "java/lang/IndexOutOfBoundsException" ["java/lang/RuntimeException", "java/lang/Exception"]
theorem hw_io_g : ∀ w ∈ hw_io.filter goodWord, w ∈ lw_g := fun w hw => by
  have h := goodIn_r (big := tables_1) (hw_io.filter goodWord) [18, 1197, 1206, 1209, 1212, 1214, 1198, 1199, 31, 32, 1200, 1205, 1210, 1226, 1187, 1227, 1189, 1228, 1191, 1201, 1203, 1193, 1216, 1217, 1218, 1219, 1219, 1220, 1221, 1222, 1222, 1223, 1224, 1198, 1215, 1176, 1184, 1185, 1186, 1188, 1190, 1192, 1196, 1195, 1194] (by decide +kernel) (by decide +kernel) w hw
  exact List.mem_filter.mpr ⟨List.mem_append_right _ h.1, (List.mem_filter.mp hw).2⟩
theorem hw_io_f : ∀ w ∈ hw_io.filter (fun w => !goodWord w), w ∈ lw_face := by decide +kernel
theorem hw_io_o : ∀ w ∈ Cond.classLink RX10 137 "java/lang/IndexOutOfBoundsException" :: Cond.initialized "java/lang/IndexOutOfBoundsException" :: hw_io, vx_ot w = true := by decide +kernel
theorem hw_io_c : Cond.classLink RX10 137 "java/lang/IndexOutOfBoundsException" ∈ lw_g := lw_gin 1175 (by decide +kernel) (by decide +kernel)
theorem hw_io_i : Cond.initialized "java/lang/IndexOutOfBoundsException" ∈ lw_g := lw_gin 21 (by decide +kernel) (by decide +kernel)
theorem hw_io_b {base : Nat} {D : va_G} {tc sa : Nat → Nat} {s : State} {args : Array Value} (hts : ∀ w ∈ lw_g, w.before args s = true) (hG : xGl base D tc sa s s.heap) : ∀ w ∈ hw_io, w.before args s = true :=
  vx_hat (fun w hw => hts w (hw_io_g w hw)) hw_io_f (fun w hw => hG.2.2.2.2.2.2.2.2.2.2 w hw args)
def hw_ns : List Cond := vx_at0 RX10 162 "java/util/NoSuchElementException" ["java/lang/RuntimeException", "java/lang/Exception"]
theorem hw_ns_g : ∀ w ∈ hw_ns.filter goodWord, w ∈ lw_g := fun w hw => by
  have h := goodIn_r (big := tables_1) (hw_ns.filter goodWord) [18, 1197, 1206, 1209, 1212, 1214, 1198, 1199, 31, 32, 1200, 1205, 1210, 1226, 1187, 1227, 1189, 1228, 1191, 1201, 1203, 1193, 1248, 1249, 1250, 1219, 1219, 1220, 1221, 1222, 1222, 1223, 1224, 1198, 1247, 1239, 1241, 1208, 1242, 1243, 1244, 1245, 1196, 1195, 1246] (by decide +kernel) (by decide +kernel) w hw
  exact List.mem_filter.mpr ⟨List.mem_append_right _ h.1, (List.mem_filter.mp hw).2⟩
theorem hw_ns_f : ∀ w ∈ hw_ns.filter (fun w => !goodWord w), w ∈ lw_face := by decide +kernel
theorem hw_ns_o : ∀ w ∈ Cond.classLink RX10 160 "java/util/NoSuchElementException" :: Cond.initialized "java/util/NoSuchElementException" :: hw_ns, vx_ot w = true := by decide +kernel
theorem hw_ns_c : Cond.classLink RX10 160 "java/util/NoSuchElementException" ∈ lw_g := lw_gin 1238 (by decide +kernel) (by decide +kernel)
theorem hw_ns_i : Cond.initialized "java/util/NoSuchElementException" ∈ lw_g := lw_gin 22 (by decide +kernel) (by decide +kernel)
theorem hw_ns_b {base : Nat} {D : va_G} {tc sa : Nat → Nat} {s : State} {args : Array Value} (hts : ∀ w ∈ lw_g, w.before args s = true) (hG : xGl base D tc sa s s.heap) : ∀ w ∈ hw_ns, w.before args s = true :=
  vx_hat (fun w hw => hts w (hw_ns_g w hw)) hw_ns_f (fun w hw => hG.2.2.2.2.2.2.2.2.2.2 w hw args)
section TH3
variable {S : xS} {H : xH} {t z p q : Nat} {T : uTx} {u : uSt} {w w2 : Int32}
/-- a call of a method that changes nothing, from a frame with any aim -/
theorem xx_isPerson {l : xLa} {base : Nat} {D : va_G} {tc sa : Nat → Nat} {pp : Program} {e : Env} {Rm : Room} {s : State} {m : MethodId} {args : Array Value} {below : List Frame} {meth : Method} {c : Code} {Hh : Heap} {locs : List Loc} {cells slots b1 b2 : Nat} {ls : Array Slot} {Q : State → Prop}
    (hr : RdP S H t T u z) (C0 : xC mX10_person 8 b1 b2 base D tc sa pp Rm s m args meth c Hh locs cells slots) (hRp : xRep base D tc S H Hh) (hLv : xLv base sa 3 [some (.ref 0), some (.int w), some (.int w2)] ls)
    (kk : ∀ Hh1 locs1, xC mX10_person 8 b1 b2 base D tc sa pp Rm s m args meth c Hh1 locs1 cells slots → xRep base D tc S H Hh1 → W pp l.1 e Rm s m args below meth c Hh1 locs1 cells slots Q (F0 m 5 ls [.int (bI (hasB w (tNp T)))])) :
    W pp l.1 e Rm s m args below meth c Hh locs cells slots Q (F0 m 0 ls []) := by
  refine lv_aload_n C0.1.1 C0.1.2.1 dX10_person_0 rfl (hLv.2.2 0 (.ref 0) rfl) ?_
  refine lv_iload_n C0.1.1 C0.1.2.1 dX10_person_1 rfl (hLv.2.2 1 (.int w) rfl) ?_
  have hts := C0.1.2.2.2.2.2.2.2.1
  have hG := C0.1.2.2.2.2.2.2.2.2
  have hrm := C0.2.1
  have hs0 := Fx.s0 hr.fx
  obtain ⟨r', hr', cellB, g1, g2, g3, -⟩ := xAt_6 (hRp.2 0) hs0
  exact xW_callQ (r := some (vB (hasB w (tNp T)))) (rest := []) (S1 := S) (H1 := H) (va_runV (Ts := lw_g) (own := RX10) (C := RX10) (As := [Value.int w]) (b := base + 0) (n := 1) ⟨C0.1.1, C0.1.2.1, C0.1.2.2.1, C0.1.2.2.2.2.2.2.1, hts⟩ (c_isPerson hr l base D tc sa) ⟨callB_of 1 hts (xGood gd_X10_isPerson) rfl rfl rfl (hts _ gd_X10_isPerson.2.1) (hts _ ml_RX10_134) gd_X10_isPerson.2.2.1 ⟨by show 1 + 1 ≤ _; omega, by show 8 + (mN mX10_isPerson + 11) + 100 * 1 ≤ _; have := gd_X10_isPerson.2.2.2; omega⟩, hts _ im_X10_isPerson, hts _ se_X10_isPerson⟩ ⟨xBlind, ⟨cellB, g1, by rw [g3]; rfl, by rw [g2]; exact (hG.1.1 10 _ clX10.1).2.1⟩, fun U hU hW => xPre (args := [.ref 0, .int w]) hG C0.2.2 hRp hU hW⟩ rfl rfl hLv.1 (by simp [xV]) (lv_room (by simp)) dX10_person_2 ⟨by omega, by omega⟩) C0 kk

theorem c_person_io (hr : RdP S H t T u z) (hno : hasB w (tNp T) = false) (l : xLa) (base : Nat) (D : va_G) (tc sa : Nat → Nat) : vx_Met l.1 yX10_person (.code yX10_person cX10_person 3 (some .int) :: lw_g) { frames := 8, cells := 1, slots := 6, locals := 800 } (xPc base D tc sa [.ref 0, .int w, .int w2] S H) (fun _ _ _ _ => False) (XP base D tc S H "java/lang/IndexOutOfBoundsException") 1 6 (xBelow base) := by
  refine vx_ofW (cc := cX10_person) (maxL := 3) (ret := some .int) (by decide) rfl ?_
  intro p e s m args' below meth c s₁ B hml ht hv
  obtain ⟨rfl, hRep, hG⟩ := hv
  have hts := atoms_spec (ws := .code yX10_person cX10_person 3 (some .int) :: lw_g) B.pre
  have hown : s.vm.findClass (mY mX10_person).cls = some m.cls := findClass_of_methodNamed B.named
  have hin : meth.name = (mY mX10_person).name := (name_of_methodNamed B.named B.method).1
  have hlen : (lg_sl (([.ref 0, .int w, .int w2] : List Value).map (xV base sa))).length ≤ mN mX10_person := by simp [lg_sl, xV, Value.category]
  have hl := lv_entry (([.ref 0, .int w, .int w2] : List Value).map (xV base sa)) (n := mN mX10_person) hlen
  rw [lg_entry_eq]
  have C : xC mX10_person 8 1 6 base D tc sa p (headSpec (.code yX10_person cX10_person 3 (some .int) :: lw_g) { frames := 8, cells := 1, slots := 6, locals := 800 }).room s m _ meth c s.heap [] 0 0 := ⟨⟨B.exec, B.bytes, hml, B.returns, hin, B.notSynchronized, hown, fun w hw => hts w (List.mem_cons_of_mem _ hw), hG⟩, ⟨Nat.le_refl _, Nat.le_refl _, by simp [headSpec], by simp [headSpec]⟩, va_S.rf⟩
  have hLv : xLv base sa 3 [some (.ref 0), some (.int w), some (.int w2)] _ := ⟨hl.1, hl.2.1, fun i v hi => by
    have := xL0_args base sa [.ref 0, .int w, .int w2] 0 i v hi
    have := hl.2.2 _ this
    simpa using this⟩
  refine xx_isPerson hr C hRep hLv (fun Hh1 locs1 C1 hRp1 => ?_)
  rw [hno]
  refine lv_if_ne C1.1.1 C1.1.2.1 dX10_person_5 (tgt := 16) rfl (fun h => absurd rfl h) (fun _ => ?_)
  exact xx_throw0 (own := RX10) (cls := "java/lang/IndexOutOfBoundsException") (names := ["java/lang/RuntimeException", "java/lang/Exception"]) (ik := 137) (ic := 139) (A := xBelow base) C1.1.1 C1.1.2.1 l.2 C1.1.2.2.2.2.2.2.1 (by decide +kernel) (by decide +kernel) (hts _ (List.mem_cons_of_mem _ hw_io_c)) (hts _ (List.mem_cons_of_mem _ hw_io_i)) (hw_io_b (fun w hw => hts w (List.mem_cons_of_mem _ hw)) hG) hw_io_o hG.2.2.2.2.2.2.2.1.1 hG.2.2.2.2.2.2.2.1.2 C1.2.2 (hLv.1.trans hml.symm) dX10_person_8 dX10_person_11 dX10_person_12 dX10_person_15 (fun x hx => (ht x hx).elim) (by decide) (by decide) (by decide) (by decide) B.notSynchronized (fun t2 _ h1 h2 => ⟨rfl, xRep_junk hRp1 h1 h2, ⟨Nat.le_trans C1.2.2.1 (by omega), fun q h3 h4 => (h2 q (Nat.lt_of_lt_of_le h3 C1.2.2.1)).trans (C1.2.2.2.1 q h3 h4)⟩⟩) C1.2.2.2.2 (by decide) (by decide)
theorem c_person_ns (hr : RdP S H t T u z) (hyes : hasB w (tNp T) = true) (hno : w2.toInt < 0 ∨ 5 < w2.toInt) (l : xLa) (base : Nat) (D : va_G) (tc sa : Nat → Nat) : vx_Met l.1 yX10_person (.code yX10_person cX10_person 3 (some .int) :: lw_g) { frames := 8, cells := 1, slots := 6, locals := 800 } (xPc base D tc sa [.ref 0, .int w, .int w2] S H) (fun _ _ _ _ => False) (XP base D tc S H "java/util/NoSuchElementException") 1 6 (xBelow base) := by
  refine vx_ofW (cc := cX10_person) (maxL := 3) (ret := some .int) (by decide) rfl ?_
  intro p e s m args' below meth c s₁ B hml ht hv
  obtain ⟨rfl, hRep, hG⟩ := hv
  have hts := atoms_spec (ws := .code yX10_person cX10_person 3 (some .int) :: lw_g) B.pre
  have hown : s.vm.findClass (mY mX10_person).cls = some m.cls := findClass_of_methodNamed B.named
  have hin : meth.name = (mY mX10_person).name := (name_of_methodNamed B.named B.method).1
  have hlen : (lg_sl (([.ref 0, .int w, .int w2] : List Value).map (xV base sa))).length ≤ mN mX10_person := by simp [lg_sl, xV, Value.category]
  have hl := lv_entry (([.ref 0, .int w, .int w2] : List Value).map (xV base sa)) (n := mN mX10_person) hlen
  rw [lg_entry_eq]
  have C : xC mX10_person 8 1 6 base D tc sa p (headSpec (.code yX10_person cX10_person 3 (some .int) :: lw_g) { frames := 8, cells := 1, slots := 6, locals := 800 }).room s m _ meth c s.heap [] 0 0 := ⟨⟨B.exec, B.bytes, hml, B.returns, hin, B.notSynchronized, hown, fun w hw => hts w (List.mem_cons_of_mem _ hw), hG⟩, ⟨Nat.le_refl _, Nat.le_refl _, by simp [headSpec], by simp [headSpec]⟩, va_S.rf⟩
  have hLv : xLv base sa 3 [some (.ref 0), some (.int w), some (.int w2)] _ := ⟨hl.1, hl.2.1, fun i v hi => by
    have := xL0_args base sa [.ref 0, .int w, .int w2] 0 i v hi
    have := hl.2.2 _ this
    simpa using this⟩
  refine xx_isPerson hr C hRep hLv (fun Hh1 locs1 C1 hRp1 => ?_)
  rw [hyes]
  refine lv_if_ne C1.1.1 C1.1.2.1 dX10_person_5 (tgt := 16) rfl (fun _ => ?_) (fun h => absurd h (by decide))
  refine lv_iload_n C1.1.1 C1.1.2.1 dX10_person_16 rfl (hLv.2.2 2 (.int w2) rfl) ?_
  refine lv_tableOut C1.1.1 C1.1.2.1 dX10_person_17 (tgt := 117) hno rfl ?_
  exact xx_throw0 (own := RX10) (cls := "java/util/NoSuchElementException") (names := ["java/lang/RuntimeException", "java/lang/Exception"]) (ik := 160) (ic := 162) (A := xBelow base) C1.1.1 C1.1.2.1 l.2 C1.1.2.2.2.2.2.2.1 (by decide +kernel) (by decide +kernel) (hts _ (List.mem_cons_of_mem _ hw_ns_c)) (hts _ (List.mem_cons_of_mem _ hw_ns_i)) (hw_ns_b (fun w hw => hts w (List.mem_cons_of_mem _ hw)) hG) hw_ns_o hG.2.2.2.2.2.2.2.1.1 hG.2.2.2.2.2.2.2.1.2 C1.2.2 (hLv.1.trans hml.symm) dX10_person_117 dX10_person_120 dX10_person_121 dX10_person_124 (fun x hx => (ht x hx).elim) (by decide) (by decide) (by decide) (by decide) B.notSynchronized (fun t2 _ h1 h2 => ⟨rfl, xRep_junk hRp1 h1 h2, ⟨Nat.le_trans C1.2.2.1 (by omega), fun q h3 h4 => (h2 q (Nat.lt_of_lt_of_le h3 C1.2.2.1)).trans (C1.2.2.2.1 q h3 h4)⟩⟩) C1.2.2.2.2 (by decide) (by decide)
abbrev mL_person : xM := (yL_person, cL_person, 5, some .int)
abbrev mL_law : xM := (yL_law, cL_law, 7, some .boolean)
def EvP (k b1 b2 : Nat) (args : List Value) (S : xS) (H : xH) (R : xR) : Prop := ∀ (l : xLa) (base : Nat) (D : va_G) (tc sa : Nat → Nat), Met l.1 yL_person (.codeWith yL_person cL_person 5 (some .int) [(0, 10, 13, 13), (0, 10, 17, 15)] :: lw_g) { frames := k, cells := b1, slots := b2, locals := 100 * k } (xPc base D tc sa args S H) (xQ base D tc sa R) b1 b2 (xBelow base)
theorem cw_L : Cond.codeWith yL_person cL_person 5 (some .int) [(0, 10, 13, 13), (0, 10, 17, 15)] ∈ lw_g := lw_gin 1168 (by decide +kernel) (by decide +kernel)
theorem cl_L13 : Cond.classLink RL 13 "java/lang/IndexOutOfBoundsException" ∈ lw_g := lw_gin 1169 (by decide +kernel) (by decide +kernel)
theorem cl_L15 : Cond.classLink RL 15 "java/util/NoSuchElementException" ∈ lw_g := lw_gin 1170 (by decide +kernel) (by decide +kernel)
def evP_body (k b1 b2 : Nat) (A : List Value) (S : xS) (H : xH) (R : xR) : Prop := ∀ (l : xLa) (base : Nat) (D : va_G) (tc sa : Nat → Nat) (p : Program) (e : Env) (Rm : Room) (s : State) (m : MethodId) (args : Array Value) (below : List Frame) (meth : Method) (c : Code) (Hh : Heap) (locs : List Loc) (cells slots : Nat) (ls : Array Slot),
    xC mL_person k b1 b2 base D tc sa p Rm s m args meth c Hh locs cells slots → c.exceptionTable.toList = tableOf [(0, 10, 13, 13), (0, 10, 17, 15)] → xRep base D tc S H Hh → xLv base sa 5 (xL0 A) ls →
    W p l.1 e Rm s m args below meth c Hh locs cells slots (MQ below (xQ base D tc sa R) args s Rm.cells Rm.slots (xBelow base)) (F0 m 0 ls [])
theorem evP_of {k b1 b2 : Nat} {A : List Value} {S : xS} {H : xH} {R : xR} (hn : (A.map fun v => v.category).sum ≤ 5) (h : evP_body k b1 b2 A S H R) : EvP k b1 b2 A S H R := by
  intro l base D tc sa
  refine va_MetW (cc := cL_person) (maxL := 5) (ret := some .int) (hh := [(0, 10, 13, 13), (0, 10, 17, 15)]) (by decide) rfl ?_
  intro p e s m args' below meth c s₁ B hml hv
  obtain ⟨rfl, hRep, hG⟩ := hv
  have hts := atoms_spec (ws := .codeWith yL_person cL_person 5 (some .int) [(0, 10, 13, 13), (0, 10, 17, 15)] :: lw_g) B.pre
  have hown : s.vm.findClass (mY mL_person).cls = some m.cls := findClass_of_methodNamed B.named
  have hin : meth.name = (mY mL_person).name := (name_of_methodNamed B.named B.method).1
  have hlen : (lg_sl (A.map (xV base sa))).length ≤ mN mL_person := by
    have key : ∀ vs : List Value, (lg_sl vs).length = (vs.map fun v => v.category).sum := by
      intro vs
      induction vs with
      | nil => rfl
      | cons v vs ih =>
        simp only [lg_sl, List.length_flatMap] at ih
        rcases lv_cat v with hc | hc <;> simp [lg_sl, hc] <;> omega
    rw [key, xV_sum]
    exact hn
  have hl := lv_entry (A.map (xV base sa)) (n := mN mL_person) hlen
  rw [lg_entry_eq]
  refine h l base D tc sa p e _ s m _ below meth c s.heap [] 0 0 _ ⟨⟨B.exec, B.bytes, hml, B.returns, hin, B.notSynchronized, hown, fun w hw => hts w (List.mem_cons_of_mem _ hw), hG⟩, ⟨Nat.le_refl _, Nat.le_refl _, by simp [headSpec], by simp [headSpec]⟩, va_S.rf⟩ (vx_table (x := yL_person) B (hts _ List.mem_cons_self)) hRep ⟨hl.1, hl.2.1, fun i v hi => ?_⟩
  have := xL0_args base sa A 0 i v hi
  have := hl.2.2 _ this
  simpa using this
theorem L_ret {r : Nat} {S : xS} {H : xH} {pc : Nat} (d : decode (mC mL_person) pc = .ok (.ireturn, 1)) : Ex mL_person 9 0 0 pc [] [vN r] S H (some (vN r), S, H) := ex_iret d rfl
theorem L_throw {E : String} {S : xS} {H : xH} {w w2 : Int32} {a r : Nat} {pre suf : List ExceptionTableEntry} {x : ExceptionTableEntry} (hS0 : fS S 0 = (6, 10))
    (hcal : ∀ (l : xLa) (base : Nat) (D : va_G) (tc sa : Nat → Nat), vx_Met l.1 yX10_person (.code yX10_person cX10_person 3 (some .int) :: lw_g) { frames := 8, cells := 1, slots := 6, locals := 800 } (xPc base D tc sa [.ref 0, .int w, .int w2] S H) (fun _ _ _ _ => False) (XP base D tc S H E) 1 6 (xBelow base))
    (hcat : Cond.castable E E ∈ lw_face) (hsp : tableOf [(0, 10, 13, 13), (0, 10, 17, 15)] = pre ++ x :: suf) (hx : covers x 5 = true) (h0 : x.catchType ≠ 0) (hlk : Cond.classLink RL x.catchType E ∈ lw_g)
    (hpass : ∀ z ∈ pre, z.catchType ≠ 0 ∧ ∃ nm : String, Cond.classLink RL z.catchType nm ∈ lw_g ∧ E = "java/util/NoSuchElementException" ∧ nm = "java/lang/IndexOutOfBoundsException")
    (da : decode (mC mL_person) x.handlerPc = .ok (.astore 4, 2)) (di : decode (mC mL_person) (x.handlerPc + 2) = .ok (.iconst (r : Nat), 1)) (dr : decode (mC mL_person) (x.handlerPc + 2 + 1) = .ok (.ireturn, 1)) (hv9 : Int32.ofInt (r : Nat) = nI r) : EvP 9 1 6 [.ref 0, .int w, .int w2, .ref a] S H (some (vN r), nS S (0, 0), H) := by
  refine evP_of (by simp [Value.category]) ?_
  intro l base D tc sa p e Rm s m args below meth c Hh locs cells slots ls C0 htab hRp hLv
  refine lv_aload_n C0.1.1 C0.1.2.1 dL_person_0 rfl (hLv.2.2 3 (.ref a) rfl) ?_
  refine lv_iconst C0.1.1 C0.1.2.1 dL_person_1 ic0 ?_
  refine lv_aload_n C0.1.1 C0.1.2.1 dL_person_2 rfl (hLv.2.2 0 (.ref 0) rfl) ?_
  refine lv_iload_n C0.1.1 C0.1.2.1 dL_person_3 rfl (hLv.2.2 1 (.int w) rfl) ?_
  refine lv_iload_n C0.1.1 C0.1.2.1 dL_person_4 rfl (hLv.2.2 2 (.int w2) rfl) ?_
  have hts := C0.1.2.2.2.2.2.2.2.1
  have hG := C0.1.2.2.2.2.2.2.2.2
  have hrm := C0.2.1
  obtain ⟨r', hr', cellB, g1, g2, g3, -⟩ := xAt_6 (hRp.2 0) hS0
  refine xW_callX (b1 := 0) (b2 := 0) (M := mL_person) (k := 9) (rest := [.int (nI 0), .ref (base + a)]) (vx_runV (Ts := lw_g) (own := RL) (C := RX10) (As := [Value.int w, Value.int w2]) (b := base + 0) (n := 2) ⟨C0.1.1, C0.1.2.1, C0.1.2.2.1, C0.1.2.2.2.2.2.2.1, hts⟩ (hcal l base D tc sa) ⟨callB_of 2 hts (xGood gd_X10_person) rfl rfl rfl (hts _ gd_X10_person.2.1) (hts _ ml_RL_7) gd_X10_person.2.2.1 ⟨by show 8 + 1 ≤ _; omega, by show 8 + (mN mX10_person + 11) + 800 ≤ _; have := gd_X10_person.2.2.2; omega⟩, hts _ im_X10_person, hts _ se_X10_person⟩ ⟨xBlind, ⟨cellB, g1, by rw [g3]; rfl, by rw [g2]; exact (hG.1.1 10 _ clX10.1).2.1⟩, fun U hU hW => xPre (args := [.ref 0, .int w, .int w2]) hG C0.2.2 hRp hU hW⟩ rfl rfl hLv.1 (by simp [xV]) (lv_room (by simp [Value.category])) dL_person_5 ⟨by omega, by omega⟩) C0 (fun ce q9 Hh1 locs1 C1 hRp1 hce hcv hcl => ?_)
  refine vx_catch (own := RL) (name := E) C1.1.2.2.2.2.2.2.1 pre x suf (htab.trans hsp) (fun z hz => Or.inr ?_) hx h0 (hts _ hlk) (hG.2.2.2.2.2.2.2.2.2.2 _ hcat _) hce hcv hcl ?_
  · obtain ⟨z1, nm, z2, z3, z4⟩ := hpass z hz
    refine ⟨z1, nm, hts _ z2, ?_⟩
    rw [z3, z4]
    exact hG.2.2.2.2.2.2.2.2.2.1
  · refine lv_astore (lv := []) C1.1.1 C1.1.2.1 da ⟨hLv.1, hLv.2.1, fun q hq => nomatch hq⟩ (by decide) rfl (fun ls1 hl1 => ?_)
    refine lv_iconst C1.1.1 C1.1.2.1 di hv9 ?_
    exact L_ret dr l base D tc sa p e Rm s m args below meth c Hh1 locs1 (cells + 1) (slots + 6) ls1 C1 hRp1 ⟨hl1.1, hl1.2.1, fun i v hi => by simp at hi⟩
theorem L_person_io (hr : RdP S H t T u z) (hno : hasB w (tNp T) = false) (a : Nat) : EvP 9 1 6 [.ref 0, .int w, .int w2, .ref a] S H (some (vN 1), nS S (0, 0), H) :=
  L_throw (E := "java/lang/IndexOutOfBoundsException") (pre := []) (x := ⟨0, 10, 13, 13⟩) (suf := [⟨0, 10, 17, 15⟩]) (Fx.s0 hr.fx) (c_person_io hr hno) (by decide +kernel) rfl (by decide) (by decide) cl_L13 (fun z hz => nomatch hz) dL_person_13 dL_person_15 dL_person_16 (by decide)
theorem L_person_ns (hr : RdP S H t T u z) (hyes : hasB w (tNp T) = true) (hno : w2.toInt < 0 ∨ 5 < w2.toInt) (a : Nat) : EvP 9 1 6 [.ref 0, .int w, .int w2, .ref a] S H (some (vN 2), nS S (0, 0), H) :=
  L_throw (E := "java/util/NoSuchElementException") (pre := [⟨0, 10, 13, 13⟩]) (x := ⟨0, 10, 17, 15⟩) (suf := []) (Fx.s0 hr.fx) (c_person_ns hr hyes hno) (by decide +kernel) rfl (by decide) (by decide) cl_L15 (fun z hz => by
    rw [List.mem_singleton] at hz
    subst hz
    exact ⟨by decide, "java/lang/IndexOutOfBoundsException", cl_L13, rfl, rfl⟩) dL_person_17 dL_person_19 dL_person_20 (by decide)
/-- no throw -/
theorem L_person1 {S : xS} {H : xH} {p l a x : Nat} (hF : gFx S) (hsa : fS S a = (4, 1)) (hE : Pv mX10_person 7 [.ref 0, vN p, vN l] S H (vN x)) : EvP 9 0 0 [.ref 0, vN p, vN l, .ref a] S H (some (vN 0), S, sL H a 0 (nI x).toInt64) := by
  have h : Xq mL_person 9 0 0 0 [some (.ref 0), some (vN p), some (vN l), some (.ref a), none] [] S H (fun R => R = (some (vN 0), S, sL H a 0 (nI x).toInt64)) := by
    refine xq_aload_n dL_person_0 rfl rfl ?_
    refine xq_iconst dL_person_1 ic0 ?_
    refine xq_aload_n dL_person_2 rfl rfl ?_
    refine xq_iload_n dL_person_3 rfl rfl ?_
    refine xq_iload_n dL_person_4 rfl rfl ?_
    refine xq_callV2P clX10 gd_X10_person dL_person_5 ml_RL_7 im_X10_person se_X10_person rfl (Fx.s0 hF) (by exact Nat.le_of_ble_eq_true rfl) (by decide) hE ?_
    refine xq_i2l dL_person_8 ?_
    refine xq_lastN dL_person_9 hsa (by decide) (by decide) ?_
    refine xq_goto dL_person_10 rfl ?_
    refine xq_iconst dL_person_21 ic0 ?_
    refine xq_iret dL_person_22 rfl ?_
    exact rfl
  obtain ⟨R, e1, e2⟩ := h
  rw [e1] at e2
  refine evP_of (by simp [Value.category]) ?_
  intro l0 base D tc sa p0 e Rm s m args below meth c Hh locs cells slots ls C0 htab hRp hLv
  exact e2 l0 base D tc sa p0 e Rm s m args below meth c Hh locs cells slots ls C0 hRp (hLv.weak (fun i v hi => by
    match i, hi with
    | 0, h => exact h
    | 1, h => exact h
    | 2, h => exact h
    | 3, h => exact h
    | 4, h => cases h
    | i + 5, h => cases h))
/-- the law calls its person -/
theorem ex_callSW {M : xM} {k k' b1 b2 c1 c2 pc i : Nat} {L : List (Option Value)} {st : List Value} {S S1 : xS} {H H1 : xH} {R : xR} {As rest : List Value} {r : Option Value} (d : decode (mC M) pc = .ok (.invokestatic i, 3)) (hl : Cond.methodLink (mY M).cls i yL_person ∈ lw_g) (hi : Cond.static yL_person ∈ lw_g) (hn : As.length = 4) (hst : st = As.reverse ++ rest) (hW : (rest.map fun v => v.category).sum ≤ 8) (hk : k' < k)
    (hE : EvP k' c1 c2 As S H (r, S1, H1)) (kk : Ex M k b1 b2 (pc + 3) L (r.toList ++ rest) S1 H1 R) : Ex M k (b1 + c1) (b2 + c2) pc L st S H R := by
  intro l base D tc sa p e Rm s m args below meth c Hh locs cells slots ls C0 hRp hLv
  have hts := C0.1.2.2.2.2.2.2.2.1
  have hG := C0.1.2.2.2.2.2.2.2.2
  have hr := C0.2.1
  subst hst
  have hgw : GoodIn lw_g (.codeWith yL_person cL_person 5 (some .int) [(0, 10, 13, 13), (0, 10, 17, 15)] :: lw_g) := fun w h => by
    rcases List.mem_cons.mp h with rfl | h
    · exact lw_gG cw_L
    · exact lw_gG h
  have hd : (parseMethodDescriptor yL_person.desc).map (fun d => d.parameters.length) = some 4 := by decide +kernel
  refine xW_call (vx_runSW (Ts := lw_g) (own := (mY M).cls) (As := As.map (xV base sa)) (n := 4) (hh := [(0, 10, 13, 13), (0, 10, 17, 15)]) ⟨C0.1.1, C0.1.2.1, C0.1.2.2.1, C0.1.2.2.2.2.2.2.1, hts⟩ (hE l base D tc sa) ⟨⟨rfl, rfl, by show k' + 1 ≤ _; omega, by show 8 + (5 + 11) + 100 * k' ≤ _; omega, pay_in hts hgw, List.mem_cons_self⟩, hts _ cw_L, hts _ (lw_gin 0 (by decide +kernel) (by decide +kernel)), by decide +kernel, fun sig h => by
      rw [h] at hd
      exact (Option.some.inj hd).symm, hts _ hl, hts _ hi⟩ ⟨xBlind, fun U hU hW => xPre hG C0.2.2 hRp hU hW⟩ rfl (by rw [List.length_map]; exact hn) hLv.1 (by simp) (lv_room (by rw [xV_sum]; exact hW)) d ⟨by omega, by omega⟩) C0 hLv kk
end TH3
