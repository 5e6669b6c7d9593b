def fkT : List (List Nat) := [[3, 3, 2, 0, 0, 0], [3, 3, 3, 0, 3, 0, 0, 2, 1], [3, 3, 3, 0, 0], [3], [3, 3, 0, 3, 3, 0, 3], [3, 0], [3, 3], [3, 3, 3, 3, 0, 0, 0, 0, 0, 0, 0, 1], [3, 3, 3, 3, 3, 3, 3, 3, 3, 0, 3, 3, 0, 3, 3, 3, 0, 0, 0], [3, 3, 3, 3, 0, 0, 0, 0, 0], [3, 0, 3, 3, 3, 3, 2, 2, 3, 3, 3, 3, 0, 3, 0, 0], [0, 3, 0, 3, 3, 3, 3, 3, 3, 3, 3, 3, 3, 3, 3, 3, 3, 3, 3, 0, 0, 0, 0, 0, 0, 0, 0, 0, 0, 0, 0, 0, 3, 3, 0, 3, 0, 0, 3, 3, 3, 3, 3, 3, 3, 3, 0, 0, 0, 3, 3, 3, 3, 3, 3, 3, 0, 0, 0]]
def lw_nest : List (String × Nat × MethodName × String) := [(RX1, 23, yX2_init, RX10), (RX10, 33, yX4_init, RX10), (RX10, 40, yX3_init, RX10), (RX10, 47, yX8_init, RX10), (RX8, 28, yX2_init, RX10), (RX10, 66, yX7_init, RX10), (RX7, 86, yX10_shiftOf, RX10), (RX8, 88, yX10_shiftOf, RX10), (RX6, 126, yX10_shiftOf, RX10), (RX7, 96, yX10_colourIn, RX10), (RX4, 91, yX10_colourIn, RX10)]
def xPoolA : Nat := 28
def xPoolB : Nat := 171
def xText : String := "colour person sees fact tell ask shy seed law prize hush or and not hat own knows all common many as hour left seen knew said told alike "
def xTextL : List Int32 := [99, 111, 108, 111, 117, 114, 32, 112, 101, 114, 115, 111, 110, 32, 115, 101, 101, 115, 32, 102, 97, 99, 116, 32, 116, 101, 108, 108, 32, 97, 115, 107, 32, 115, 104, 121, 32, 115, 101, 101, 100, 32, 108, 97, 119, 32, 112, 114, 105, 122, 101, 32, 104, 117, 115, 104, 32, 111, 114, 32, 97, 110, 100, 32, 110, 111, 116, 32, 104, 97, 116, 32, 111, 119, 110, 32, 107, 110, 111, 119, 115, 32, 97, 108, 108, 32, 99, 111, 109, 109, 111, 110, 32, 109, 97, 110, 121, 32, 97, 115, 32, 104, 111, 117, 114, 32, 108, 101, 102, 116, 32, 115, 101, 101, 110, 32, 107, 110, 101, 119, 32, 115, 97, 105, 100, 32, 116, 111, 108, 100, 32, 97, 108, 105, 107, 101, 32]
/-! ===== the pictures: a method, the shapes, the numbers ===== -/
abbrev xM : Type := MethodName × ByteArray × Nat × Option FieldType
abbrev mY (M : xM) : MethodName := M.1
abbrev mC (M : xM) : ByteArray := M.2.1
abbrev mN (M : xM) : Nat := M.2.2.1
abbrev mT (M : xM) : Option FieldType := M.2.2.2
/-- shapes of the places, what the final references hold, how many places -/
abbrev xS : Type := (Nat → Nat × Nat) × (Nat → Nat → Option Nat) × Nat
/-- the ints, the longs, the references that may change -/
abbrev xH : Type := (Nat → Nat → Int32) × (Nat → Nat → Int64) × (Nat → Nat → Option Nat)
def fS (S : xS) (q : Nat) : Nat × Nat := S.1 q
def fR (S : xS) (q k : Nat) : Option Nat := S.2.1 q k
def fZ (S : xS) : Nat := S.2.2
def hI (H : xH) (q k : Nat) : Int32 := H.1 q k
def hL (H : xH) (q k : Nat) : Int64 := H.2.1 q k
def hR (H : xH) (q k : Nat) : Option Nat := H.2.2 q k
def up2 {α : Type} (f : Nat → Nat → α) (a k : Nat) (v : α) : Nat → Nat → α := fun q j => if q = a ∧ j = k then v else f q j
def sI (H : xH) (a k : Nat) (v : Int32) : xH := (up2 H.1 a k v, H.2)
def sL (H : xH) (a k : Nat) (v : Int64) : xH := (H.1, up2 H.2.1 a k v, H.2.2)
def sR (H : xH) (a k : Nat) (v : Option Nat) : xH := (H.1, H.2.1, up2 H.2.2 a k v)
def sA (H : xH) (a : Nat) (f : Nat → Int32) : xH := (fun q => if q = a then f else H.1 q, H.2)
def sF (S : xS) (a k : Nat) (v : Option Nat) : xS := (S.1, up2 S.2.1 a k v, S.2.2)
def nS (S : xS) (sh : Nat × Nat) : xS := (fun q => if q = S.2.2 then sh else S.1 q, fun q k => if q = S.2.2 then none else S.2.1 q k, S.2.2 + 1)
def nH (S : xS) (H : xH) : xH := (fun q k => if q = S.2.2 then 0 else H.1 q k, fun q k => if q = S.2.2 then 0 else H.2.1 q k, fun q k => if q = S.2.2 then none else H.2.2 q k)
def fK (ci k : Nat) : Nat := (fkT.getD ci []).getD k 0
/-- a value of the picture on the machine -/
def xV (base : Nat) (sa : Nat → Nat) : Value → Value
  | .ref q => .ref (base + q)
  | .float f => .ref (sa f.toNat)
  | v => v
theorem xV_cat (base : Nat) (sa : Nat → Nat) (v : Value) : (xV base sa v).category = v.category := by cases v <;> rfl
theorem xV_sum (base : Nat) (sa : Nat → Nat) (st : List Value) : ((st.map (xV base sa)).map fun v => v.category).sum = (st.map fun v => v.category).sum := by
  rw [List.map_map]
  congr 1
  exact List.map_congr_left (fun v _ => xV_cat base sa v)
def xr (base : Nat) (r : Option Nat) : Value := va_rf (r.map (fun q => base + q))
def xF (base : Nat) (S : xS) (H : xH) (q ci k : Nat) : Value := match fK ci k with
  | 0 => .int (hI H q k)
  | 1 => .long (hL H q k)
  | 2 => xr base (hR H q k)
  | _ => xr base (fR S q k)
/-- a cell that holds n ints, of the class cA -/
def xSc (cA : ClassId) (n : Nat) (f : Nat → Int32) (scr : Cell) : Prop := scr.cls = cA ∧ scr.vm ≠ .unknown ∧ (∀ k, scr.vm ≠ .statics k) ∧ scr.slots.size = n ∧ ∀ j, j < n → scr.slots[j]? = some (.int (f j))
def xAt (base : Nat) (D : va_G) (tc : Nat → Nat) (S : xS) (H : xH) (Hh : Heap) (q : Nat) : Prop := match (fS S q).1 with
  | 0 => (fS S q).2 = 0 ∨ (tc 5 < base ∧ ∃ scr : Cell, Hh[tc 5]? = some scr ∧ xSc (tc 6) ((fS S q).2 - 1) (hI H q) scr)
  | 1 => Hh[base + q]? = some (arrV (tc 0) (fS S q).2 (fun j => .int (hI H q j)))
  | 2 => Hh[base + q]? = some (arrV (tc 1) (fS S q).2 (fun j => .int (hI H q j)))
  | 3 => Hh[base + q]? = some (arrV (tc 2) (fS S q).2 (fun j => .int (hI H q j)))
  | 4 => Hh[base + q]? = some (arrV (tc 3) (fS S q).2 (fun j => .long (hL H q j)))
  | 5 => Hh[base + q]? = some (arrV (tc 4) (fS S q).2 (fun j => xr base (hR H q j)))
  | _ => ∃ r, vwCl[(fS S q).2]? = some r ∧ t_OB (base + q) (D.1 (fS S q).2) r.2.2 (D.2 (fS S q).2) Hh (xF base S H q (fS S q).2)
def xRep (base : Nat) (D : va_G) (tc : Nat → Nat) (S : xS) (H : xH) (Hh : Heap) : Prop := Hh.size = base + fZ S ∧ ∀ q, xAt base D tc S H Hh q
abbrev tyL (tc : Nat → Nat) : List (ClassId × FieldType) := [(tc 0, .int), (tc 1, .byte), (tc 2, .boolean), (tc 3, .long), (tc 4, .object RX7)]
def xBelow (base : Nat) : Nat → Prop := fun q => base ≤ q
/-- words of the tables that the machine keeps though they are not steady: casts, declared constructors -/
def lw_face : List Cond := [.castable "java/lang/IndexOutOfBoundsException" "java/lang/IndexOutOfBoundsException", .castable "java/util/NoSuchElementException" "java/util/NoSuchElementException", .declares ⟨"java/lang/RuntimeException", "<init>", "()V"⟩, .declares ⟨"java/lang/Exception", "<init>", "()V"⟩, .declares ⟨"java/lang/Throwable", "<init>", "()V"⟩]
theorem lw_face_ok : ∀ w ∈ lw_face, w.faceAtom = true ∧ w.onTables = true := by decide
def xFw (U : State) : Prop := ∀ w ∈ lw_face, ∀ args : Array Value, w.before args U = true
theorem xFw.moved {u U : State} (hvm : u.vm.Alike U.vm) (h : xFw u) : xFw U := fun w hw args => by
  obtain ⟨h1, h2⟩ := lw_face_ok w hw
  have e := Cond.onTables_vm (A := args) (A' := args) (U := U) (U' := u) U.vm w h2
  have e2 := Cond.faceAtom_setVm (args := args) hvm w h1 (h w hw args)
  exact (show w.before args (U.setVm U.vm) = true from e.trans e2)
/-- what the tables say, at any state -/
def xGl (base : Nat) (D : va_G) (tc sa : Nat → Nat) (U : State) (Hh : Heap) : Prop :=
  va_K D vwCl (tyL tc) U ∧ (∀ q ∈ lw_nest, va_Nw (.methodLinkNest q.1 q.2.1 q.2.2.1 q.2.2.2) U) ∧ va_AO RX7 U ∧
  (vk_R RX9 xPoolA xText (sa 0) U ∧ vk_R RX11 xPoolB xText (sa 0) U) ∧ vk_S 1 [xTextL.length] [xTextL] (fun _ => sa 0) (fun _ => sa 1) (xBelow base) U Hh ∧ va_Z "java/lang/String" "COMPACT_STRINGS" "Z" (.int 1) (xBelow base) U Hh ∧ va_Zq "jdk/internal/util/Preconditions" "SIOOBE_FORMATTER" "Ljava/util/function/BiFunction;" (xBelow base) U Hh ∧
  (vx_Zq Bundle.tN "UNASSIGNED_STACK" Bundle.steD (xBelow base) U Hh ∧ vx_Zq Bundle.tN "SUPPRESSED_SENTINEL" Bundle.listD (xBelow base) U Hh) ∧ (sa 2 = tc 5 ∧ ArrOfT U (tc 6) .int) ∧ va_Nc "java/util/NoSuchElementException" "java/lang/IndexOutOfBoundsException" U ∧ xFw U
theorem xGl.warm {base : Nat} {D : va_G} {tc sa : Nat → Nat} {s U : State} {Hh : Heap} (hW : s.WarmedH U.vm) (h : xGl base D tc sa s Hh) : xGl base D tc sa U Hh :=
  ⟨va_K.moved hW.alike h.1, fun q hq => va_Nw.warmM hW (h.2.1 q hq), va_AO.moved hW.alike h.2.2.1, ⟨vk_R.warm hW h.2.2.2.1.1, vk_R.warm hW h.2.2.2.1.2⟩, vk_S.moved hW.alike h.2.2.2.2.1, va_Z.moved hW.alike h.2.2.2.2.2.1, va_Zq.moved hW.alike h.2.2.2.2.2.2.1, ⟨vx_Zq.moved hW.alike h.2.2.2.2.2.2.2.1.1, vx_Zq.moved hW.alike h.2.2.2.2.2.2.2.1.2⟩, ⟨h.2.2.2.2.2.2.2.2.1.1, arrOfT_moved hW.alike h.2.2.2.2.2.2.2.2.1.2⟩, va_Nc.moved hW.alike h.2.2.2.2.2.2.2.2.2.1, xFw.moved hW.alike h.2.2.2.2.2.2.2.2.2.2⟩
theorem xGl.same {base : Nat} {D : va_G} {tc sa : Nat → Nat} {s U : State} {Hh : Heap} (hv : U.vm = s.vm) (h : xGl base D tc sa s Hh) : xGl base D tc sa U Hh := by
  have hA : s.vm.Alike U.vm := by rw [hv]; exact Vm.Alike.refl _
  exact ⟨va_K.moved hA h.1, fun q hq => va_Nw.same rfl hv.symm (h.2.1 q hq), va_AO.moved hA h.2.2.1, ⟨vk_R.same hv h.2.2.2.1.1, vk_R.same hv h.2.2.2.1.2⟩, vk_S.moved hA h.2.2.2.2.1, va_Z.moved hA h.2.2.2.2.2.1, va_Zq.moved hA h.2.2.2.2.2.2.1, ⟨vx_Zq.moved hA h.2.2.2.2.2.2.2.1.1, vx_Zq.moved hA h.2.2.2.2.2.2.2.1.2⟩, ⟨h.2.2.2.2.2.2.2.2.1.1, arrOfT_moved hA h.2.2.2.2.2.2.2.2.1.2⟩, va_Nc.moved hA h.2.2.2.2.2.2.2.2.2.1, xFw.moved hA h.2.2.2.2.2.2.2.2.2.2⟩
theorem xGl.kept {base : Nat} {D : va_G} {tc sa : Nat → Nat} {s : State} {Hh H1 : Heap} (h : xGl base D tc sa s Hh) (hq : ∀ a : Nat, a < Hh.size → ¬ xBelow base a → H1[a]? = Hh[a]?) : xGl base D tc sa s H1 :=
  ⟨h.1, h.2.1, h.2.2.1, h.2.2.2.1, vk_S.kept h.2.2.2.2.1 hq, va_Z.kept h.2.2.2.2.2.1 hq, va_Zq.kept h.2.2.2.2.2.2.1 hq, ⟨vx_Zq.kept h.2.2.2.2.2.2.2.1.1 hq, vx_Zq.kept h.2.2.2.2.2.2.2.1.2 hq⟩, h.2.2.2.2.2.2.2.2⟩
def xC (M : xM) (k b1 b2 base : Nat) (D : va_G) (tc sa : Nat → Nat) (p : Program) (Rm : Room) (s : State) (m : MethodId) (args : Array Value) (meth : Method) (c : Code) (Hh : Heap) (locs : List Loc) (cells slots : Nat) : Prop :=
  (p.tables.exec = Jvm.exec ∧ c.code = mC M ∧ c.maxLocals = mN M ∧ meth.sig.returnType = mT M ∧ meth.name = (mY M).name ∧ meth.locks = false ∧ s.vm.findClass (mY M).cls = some m.cls ∧ (∀ w ∈ lw_g, w.before args s = true) ∧ xGl base D tc sa s s.heap) ∧
  (k ≤ Rm.frames ∧ 100 * k ≤ Rm.locals ∧ cells + b1 ≤ Rm.cells ∧ slots + b2 ≤ Rm.slots) ∧ va_S (xBelow base) s.heap Hh locs
/-- the locals: those that are said, hold -/
def xLv (base : Nat) (sa : Nat → Nat) (n : Nat) (L : List (Option Value)) (ls : Array Slot) : Prop := ls.size = n ∧ lv_wf ls ∧ ∀ (i : Nat) (v : Value), L[i]? = some (some v) → ls[i]? = some (.val (xV base sa v))
abbrev xR : Type := Option Value × xS × xH
def xQ (base : Nat) (D : va_G) (tc sa : Nat → Nat) (R : xR) : Array Value → State → Outcome → State → Prop := fun _ st0 o t => o = .returned (R.1.map (xV base sa)) ∧ xRep base D tc R.2.1 R.2.2 t.heap ∧ va_F (xBelow base) st0 t
def xPc (base : Nat) (D : va_G) (tc sa : Nat → Nat) (args : List Value) (S : xS) (H : xH) : Array Value → State → Prop := fun a U => a = (args.map (xV base sa)).toArray ∧ xRep base D tc S H U.heap ∧ xGl base D tc sa U U.heap
/-- launches without stack traces -/
abbrev xLa : Type := {l : Launch // l.stackTraces = false}
/-- from here the method comes to its end with R -/
def Ex (M : xM) (k b1 b2 pc : Nat) (L : List (Option Value)) (st : List Value) (S : xS) (H : xH) (R : xR) : Prop :=
  ∀ (l : xLa) (base : Nat) (D : va_G) (tc sa : Nat → Nat) (p : Program) (e : Env) (Rm : Room) (s : State) (m : MethodId) (args : Array Value) (below : List Frame) (meth : Method) (c : Code) (Hh : Heap) (locs : List Loc) (cells slots : Nat) (ls : Array Slot),
    xC M k b1 b2 base D tc sa p Rm s m args meth c Hh locs cells slots → xRep base D tc S H Hh → xLv base sa (mN M) L ls →
    W p l.1 e Rm s m args below meth c Hh locs cells slots (MQ below (xQ base D tc sa R) args s Rm.cells Rm.slots (xBelow base)) (F0 m pc ls (st.map (xV base sa)))
def Ev (M : xM) (k b1 b2 : Nat) (args : List Value) (S : xS) (H : xH) (R : xR) : Prop :=
  ∀ (l : xLa) (base : Nat) (D : va_G) (tc sa : Nat → Nat), Met l.1 (mY M) (.code (mY M) (mC M) (mN M) (mT M) :: lw_g) { frames := k, cells := b1, slots := b2, locals := 100 * k } (xPc base D tc sa args S H) (xQ base D tc sa R) b1 b2 (xBelow base)
/-- the locals at the entry -/
def xL0 : List Value → List (Option Value)
  | [] => []
  | v :: vs => if v.category = 2 then some v :: none :: xL0 vs else some v :: xL0 vs
theorem xL0_args (base : Nat) (sa : Nat → Nat) : ∀ (vs : List Value) (n i : Nat) (v : Value), (xL0 vs)[i]? = some (some v) → (n + i, xV base sa v) ∈ lv_args n (vs.map (xV base sa))
  | [], n, i, v, h => by simp [xL0] at h
  | w :: vs, n, i, v, h => by
    by_cases hc : w.category = 2
    · have hc' : (xV base sa w).category = 2 := by rw [xV_cat]; exact hc
      simp only [xL0, hc, if_true] at h
      simp only [List.map_cons, lv_args, hc', if_true]
      match i, h with
      | 0, h => simp at h; subst h; simp
      | 1, h => simp at h
      | i + 2, h =>
        simp at h
        have := xL0_args base sa vs (n + 2) i v h
        rw [show n + (i + 2) = n + 2 + i by omega]
        exact List.mem_cons_of_mem _ this
    · have hc' : ¬ (xV base sa w).category = 2 := by rw [xV_cat]; exact hc
      simp only [xL0, hc, if_false] at h
      simp only [List.map_cons, lv_args, hc', if_false]
      match i, h with
      | 0, h => simp at h; subst h; simp
      | i + 1, h =>
        simp at h
        have := xL0_args base sa vs (n + 1) i v h
        rw [show n + (i + 1) = n + 1 + i by omega]
        exact List.mem_cons_of_mem _ this
theorem xLv.weak {base : Nat} {sa : Nat → Nat} {n : Nat} {L L' : List (Option Value)} {ls : Array Slot} (h : xLv base sa n L ls) (hl : ∀ (i : Nat) (v : Value), L'[i]? = some (some v) → L[i]? = some (some v)) : xLv base sa n L' ls := ⟨h.1, h.2.1, fun i v hv => h.2.2 i v (hl i v hv)⟩
theorem ev_intro {M : xM} {k b1 b2 : Nat} {args : List Value} {L : List (Option Value)} {S : xS} {H : xH} {R : xR} (hp : plainName (mY M).cls = true) (hn : (args.map fun v => v.category).sum ≤ mN M) (hL : xL0 args = L) (h : Ex M k b1 b2 0 L [] S H R) : Ev M k b1 b2 args S H R := by
  intro l base D tc sa
  refine Met.ofW (cc := mC M) (maxL := mN M) (ret := mT M) hp rfl ?_
  intro p e s m args' below meth c s₁ B hml hv
  obtain ⟨rfl, hRep, hG⟩ := hv
  have hts := atoms_spec (ws := .code (mY M) (mC M) (mN M) (mT M) :: lw_g) B.pre
  have hown : s.vm.findClass (mY M).cls = some m.cls := findClass_of_methodNamed B.named
  have hin : meth.name = (mY M).name := (name_of_methodNamed B.named B.method).1
  have hlen : (lg_sl (args.map (xV base sa))).length ≤ mN M := by
    have key : ∀ vs : List Value, (lg_sl vs).length = (vs.map fun v => v.category).sum := by
      intro vs
      induction vs with
      | nil => rfl
      | cons v vs ih =>
        simp only [lg_sl, List.length_flatMap] at ih
        rcases lv_cat v with hc | hc <;> simp [lg_sl, hc] <;> omega
    rw [key, xV_sum]
    exact hn
  have hl := lv_entry (args.map (xV base sa)) (n := mN M) hlen
  rw [lg_entry_eq]
  refine h l base D tc sa p e _ s m _ below meth c s.heap [] 0 0 _ ⟨⟨B.exec, B.bytes, hml, B.returns, hin, B.notSynchronized, hown, fun w hw => hts w (List.mem_cons_of_mem _ hw), hG⟩, ⟨Nat.le_refl _, Nat.le_refl _, by simp [headSpec], by simp [headSpec]⟩, va_S.rf⟩ hRep ⟨hl.1, hl.2.1, fun i v hi => ?_⟩
  have := xL0_args base sa args 0 i v (by rw [hL]; exact hi)
  have := hl.2.2 _ this
  simpa using this

section XR
variable {M : xM} {k b1 b2 pc : Nat} {L : List (Option Value)} {st : List Value} {S : xS} {H : xH} {R : xR}
theorem ex_iconst {n : Int} {v : Int32} (d : decode (mC M) pc = .ok (.iconst n, 1)) (hv : Int32.ofInt n = v) (kk : Ex M k b1 b2 (pc + 1) L (.int v :: st) S H R) : Ex M k b1 b2 pc L (st) S H R := by
  intro l base D tc sa p e Rm s m args below meth c Hh locs cells slots ls C hR hL
  exact lv_iconst C.1.1 C.1.2.1 d hv (kk l base D tc sa p e Rm s m args below meth c Hh locs cells slots ls C hR hL)
theorem ex_bipush {n : Int} {v : Int32} (d : decode (mC M) pc = .ok (.bipush n, 2)) (hv : (Int8.ofInt n).toInt32 = v) (kk : Ex M k b1 b2 (pc + 2) L (.int v :: st) S H R) : Ex M k b1 b2 pc L (st) S H R := by
  intro l base D tc sa p e Rm s m args below meth c Hh locs cells slots ls C hR hL
  exact lv_bipush C.1.1 C.1.2.1 d hv (kk l base D tc sa p e Rm s m args below meth c Hh locs cells slots ls C hR hL)
theorem ex_sipush {n : Int} {v : Int32} (d : decode (mC M) pc = .ok (.sipush n, 3)) (hv : (Int16.ofInt n).toInt32 = v) (kk : Ex M k b1 b2 (pc + 3) L (.int v :: st) S H R) : Ex M k b1 b2 pc L (st) S H R := by
  intro l base D tc sa p e Rm s m args below meth c Hh locs cells slots ls C hR hL
  exact lv_sipush C.1.1 C.1.2.1 d hv (kk l base D tc sa p e Rm s m args below meth c Hh locs cells slots ls C hR hL)
theorem ex_lconst {n : Fin 2} {v : Int64} (d : decode (mC M) pc = .ok (.lconst n, 1)) (hv : Int64.ofNat (n : Nat) = v) (kk : Ex M k b1 b2 (pc + 1) L (.long v :: st) S H R) : Ex M k b1 b2 pc L (st) S H R := by
  intro l base D tc sa p e Rm s m args below meth c Hh locs cells slots ls C hR hL
  exact lv_lconst C.1.1 C.1.2.1 d hv (kk l base D tc sa p e Rm s m args below meth c Hh locs cells slots ls C hR hL)
theorem ex_ldc {i : Nat} {v : Int32} (d : decode (mC M) pc = .ok (.ldc i, 2)) (hw : Cond.constant (mY M).cls i v ∈ lw_g) (kk : Ex M k b1 b2 (pc + 2) L (.int v :: st) S H R) : Ex M k b1 b2 pc L (st) S H R := by
  intro l base D tc sa p e Rm s m args below meth c Hh locs cells slots ls C hR hL
  exact lv_ldc C.1.1 C.1.2.1 C.1.2.2.2.2.2.2.1 (C.1.2.2.2.2.2.2.2.1 _ hw) d (kk l base D tc sa p e Rm s m args below meth c Hh locs cells slots ls C hR hL)
theorem ex_ldcw {i : Nat} {v : Int32} (d : decode (mC M) pc = .ok (.ldc_w i, 3)) (hw : Cond.constant (mY M).cls i v ∈ lw_g) (kk : Ex M k b1 b2 (pc + 3) L (.int v :: st) S H R) : Ex M k b1 b2 pc L (st) S H R := by
  intro l base D tc sa p e Rm s m args below meth c Hh locs cells slots ls C hR hL
  exact lv_ldcw C.1.1 C.1.2.1 C.1.2.2.2.2.2.2.1 (C.1.2.2.2.2.2.2.2.1 _ hw) d (kk l base D tc sa p e Rm s m args below meth c Hh locs cells slots ls C hR hL)
theorem ex_ldc2 {i : Nat} {v : Int64} (d : decode (mC M) pc = .ok (.ldc2_w i, 3)) (hw : Cond.constantLong (mY M).cls i v ∈ lw_g) (kk : Ex M k b1 b2 (pc + 3) L (.long v :: st) S H R) : Ex M k b1 b2 pc L (st) S H R := by
  intro l base D tc sa p e Rm s m args below meth c Hh locs cells slots ls C hR hL
  exact lv_ldc2 C.1.1 C.1.2.1 C.1.2.2.2.2.2.2.1 (C.1.2.2.2.2.2.2.2.1 _ hw) d (kk l base D tc sa p e Rm s m args below meth c Hh locs cells slots ls C hR hL)
theorem ex_iadd {x y : Int32} (d : decode (mC M) pc = .ok (.iadd, 1)) (kk : Ex M k b1 b2 (pc + 1) L (.int (x + y) :: st) S H R) : Ex M k b1 b2 pc L (.int y :: .int x :: st) S H R := by
  intro l base D tc sa p e Rm s m args below meth c Hh locs cells slots ls C hR hL
  exact lv_iadd C.1.1 C.1.2.1 d (kk l base D tc sa p e Rm s m args below meth c Hh locs cells slots ls C hR hL)
theorem ex_isub {x y : Int32} (d : decode (mC M) pc = .ok (.isub, 1)) (kk : Ex M k b1 b2 (pc + 1) L (.int (x - y) :: st) S H R) : Ex M k b1 b2 pc L (.int y :: .int x :: st) S H R := by
  intro l base D tc sa p e Rm s m args below meth c Hh locs cells slots ls C hR hL
  exact lv_isub C.1.1 C.1.2.1 d (kk l base D tc sa p e Rm s m args below meth c Hh locs cells slots ls C hR hL)
theorem ex_imul {x y : Int32} (d : decode (mC M) pc = .ok (.imul, 1)) (kk : Ex M k b1 b2 (pc + 1) L (.int (x * y) :: st) S H R) : Ex M k b1 b2 pc L (.int y :: .int x :: st) S H R := by
  intro l base D tc sa p e Rm s m args below meth c Hh locs cells slots ls C hR hL
  exact lv_imul C.1.1 C.1.2.1 d (kk l base D tc sa p e Rm s m args below meth c Hh locs cells slots ls C hR hL)
theorem ex_iand {x y : Int32} (d : decode (mC M) pc = .ok (.iand, 1)) (kk : Ex M k b1 b2 (pc + 1) L (.int (x &&& y) :: st) S H R) : Ex M k b1 b2 pc L (.int y :: .int x :: st) S H R := by
  intro l base D tc sa p e Rm s m args below meth c Hh locs cells slots ls C hR hL
  exact lv_iand C.1.1 C.1.2.1 d (kk l base D tc sa p e Rm s m args below meth c Hh locs cells slots ls C hR hL)
theorem ex_ior {x y : Int32} (d : decode (mC M) pc = .ok (.ior, 1)) (kk : Ex M k b1 b2 (pc + 1) L (.int (x ||| y) :: st) S H R) : Ex M k b1 b2 pc L (.int y :: .int x :: st) S H R := by
  intro l base D tc sa p e Rm s m args below meth c Hh locs cells slots ls C hR hL
  exact lv_ior C.1.1 C.1.2.1 d (kk l base D tc sa p e Rm s m args below meth c Hh locs cells slots ls C hR hL)
theorem ex_ixor {x y : Int32} (d : decode (mC M) pc = .ok (.ixor, 1)) (kk : Ex M k b1 b2 (pc + 1) L (.int (x ^^^ y) :: st) S H R) : Ex M k b1 b2 pc L (.int y :: .int x :: st) S H R := by
  intro l base D tc sa p e Rm s m args below meth c Hh locs cells slots ls C hR hL
  exact lv_ixor C.1.1 C.1.2.1 d (kk l base D tc sa p e Rm s m args below meth c Hh locs cells slots ls C hR hL)
theorem ex_ishl {x y : Int32} (d : decode (mC M) pc = .ok (.ishl, 1)) (kk : Ex M k b1 b2 (pc + 1) L (.int (x <<< (y &&& 31)) :: st) S H R) : Ex M k b1 b2 pc L (.int y :: .int x :: st) S H R := by
  intro l base D tc sa p e Rm s m args below meth c Hh locs cells slots ls C hR hL
  exact lv_ishl C.1.1 C.1.2.1 d (kk l base D tc sa p e Rm s m args below meth c Hh locs cells slots ls C hR hL)
theorem ex_ishr {x y : Int32} (d : decode (mC M) pc = .ok (.ishr, 1)) (kk : Ex M k b1 b2 (pc + 1) L (.int (x >>> (y &&& 31)) :: st) S H R) : Ex M k b1 b2 pc L (.int y :: .int x :: st) S H R := by
  intro l base D tc sa p e Rm s m args below meth c Hh locs cells slots ls C hR hL
  exact lv_ishr C.1.1 C.1.2.1 d (kk l base D tc sa p e Rm s m args below meth c Hh locs cells slots ls C hR hL)
theorem ex_iushr {x y : Int32} (d : decode (mC M) pc = .ok (.iushr, 1)) (kk : Ex M k b1 b2 (pc + 1) L (.int (x.toUInt32 >>> (y.toUInt32 &&& Int32.toUInt32 31)).toInt32 :: st) S H R) : Ex M k b1 b2 pc L (.int y :: .int x :: st) S H R := by
  intro l base D tc sa p e Rm s m args below meth c Hh locs cells slots ls C hR hL
  exact lv_iushr C.1.1 C.1.2.1 d rfl (kk l base D tc sa p e Rm s m args below meth c Hh locs cells slots ls C hR hL)
theorem ex_idiv {x y : Int32} (d : decode (mC M) pc = .ok (.idiv, 1)) (h : ¬ y = 0) (kk : Ex M k b1 b2 (pc + 1) L (.int (x / y) :: st) S H R) : Ex M k b1 b2 pc L (.int y :: .int x :: st) S H R := by
  intro l base D tc sa p e Rm s m args below meth c Hh locs cells slots ls C hR hL
  exact lv_idiv C.1.1 C.1.2.1 d h (kk l base D tc sa p e Rm s m args below meth c Hh locs cells slots ls C hR hL)
theorem ex_irem {x y : Int32} (d : decode (mC M) pc = .ok (.irem, 1)) (h : ¬ y = 0) (kk : Ex M k b1 b2 (pc + 1) L (.int (x - x / y * y) :: st) S H R) : Ex M k b1 b2 pc L (.int y :: .int x :: st) S H R := by
  intro l base D tc sa p e Rm s m args below meth c Hh locs cells slots ls C hR hL
  exact lv_irem C.1.1 C.1.2.1 d h (kk l base D tc sa p e Rm s m args below meth c Hh locs cells slots ls C hR hL)
theorem ex_ladd {x y : Int64} (d : decode (mC M) pc = .ok (.ladd, 1)) (kk : Ex M k b1 b2 (pc + 1) L (.long (x + y) :: st) S H R) : Ex M k b1 b2 pc L (.long y :: .long x :: st) S H R := by
  intro l base D tc sa p e Rm s m args below meth c Hh locs cells slots ls C hR hL
  exact lv_ladd C.1.1 C.1.2.1 d (kk l base D tc sa p e Rm s m args below meth c Hh locs cells slots ls C hR hL)
theorem ex_lsub {x y : Int64} (d : decode (mC M) pc = .ok (.lsub, 1)) (kk : Ex M k b1 b2 (pc + 1) L (.long (x - y) :: st) S H R) : Ex M k b1 b2 pc L (.long y :: .long x :: st) S H R := by
  intro l base D tc sa p e Rm s m args below meth c Hh locs cells slots ls C hR hL
  exact lv_lsub C.1.1 C.1.2.1 d (kk l base D tc sa p e Rm s m args below meth c Hh locs cells slots ls C hR hL)
theorem ex_lmul {x y : Int64} (d : decode (mC M) pc = .ok (.lmul, 1)) (kk : Ex M k b1 b2 (pc + 1) L (.long (x * y) :: st) S H R) : Ex M k b1 b2 pc L (.long y :: .long x :: st) S H R := by
  intro l base D tc sa p e Rm s m args below meth c Hh locs cells slots ls C hR hL
  exact lv_lmul C.1.1 C.1.2.1 d (kk l base D tc sa p e Rm s m args below meth c Hh locs cells slots ls C hR hL)
theorem ex_land {x y : Int64} (d : decode (mC M) pc = .ok (.land, 1)) (kk : Ex M k b1 b2 (pc + 1) L (.long (x &&& y) :: st) S H R) : Ex M k b1 b2 pc L (.long y :: .long x :: st) S H R := by
  intro l base D tc sa p e Rm s m args below meth c Hh locs cells slots ls C hR hL
  exact lv_land C.1.1 C.1.2.1 d (kk l base D tc sa p e Rm s m args below meth c Hh locs cells slots ls C hR hL)
theorem ex_lor {x y : Int64} (d : decode (mC M) pc = .ok (.lor, 1)) (kk : Ex M k b1 b2 (pc + 1) L (.long (x ||| y) :: st) S H R) : Ex M k b1 b2 pc L (.long y :: .long x :: st) S H R := by
  intro l base D tc sa p e Rm s m args below meth c Hh locs cells slots ls C hR hL
  exact lv_lor C.1.1 C.1.2.1 d (kk l base D tc sa p e Rm s m args below meth c Hh locs cells slots ls C hR hL)
theorem ex_lxor {x y : Int64} (d : decode (mC M) pc = .ok (.lxor, 1)) (kk : Ex M k b1 b2 (pc + 1) L (.long (x ^^^ y) :: st) S H R) : Ex M k b1 b2 pc L (.long y :: .long x :: st) S H R := by
  intro l base D tc sa p e Rm s m args below meth c Hh locs cells slots ls C hR hL
  exact lv_lxor C.1.1 C.1.2.1 d (kk l base D tc sa p e Rm s m args below meth c Hh locs cells slots ls C hR hL)
theorem ex_ldiv {x y : Int64} (d : decode (mC M) pc = .ok (.ldiv, 1)) (h : ¬ y = 0) (kk : Ex M k b1 b2 (pc + 1) L (.long (x / y) :: st) S H R) : Ex M k b1 b2 pc L (.long y :: .long x :: st) S H R := by
  intro l base D tc sa p e Rm s m args below meth c Hh locs cells slots ls C hR hL
  exact lv_ldiv C.1.1 C.1.2.1 d h (kk l base D tc sa p e Rm s m args below meth c Hh locs cells slots ls C hR hL)
theorem ex_lneg {x : Int64} (d : decode (mC M) pc = .ok (.lneg, 1)) (kk : Ex M k b1 b2 (pc + 1) L (.long (-x) :: st) S H R) : Ex M k b1 b2 pc L (.long x :: st) S H R := by
  intro l base D tc sa p e Rm s m args below meth c Hh locs cells slots ls C hR hL
  exact lv_lneg C.1.1 C.1.2.1 d (kk l base D tc sa p e Rm s m args below meth c Hh locs cells slots ls C hR hL)
theorem ex_lushr {x : Int64} {y : Int32} (d : decode (mC M) pc = .ok (.lushr, 1)) (kk : Ex M k b1 b2 (pc + 1) L (.long (x.toUInt64 >>> (y.toInt64.toUInt64 &&& Int64.toUInt64 63)).toInt64 :: st) S H R) : Ex M k b1 b2 pc L (.int y :: .long x :: st) S H R := by
  intro l base D tc sa p e Rm s m args below meth c Hh locs cells slots ls C hR hL
  exact lv_lushr C.1.1 C.1.2.1 d rfl (kk l base D tc sa p e Rm s m args below meth c Hh locs cells slots ls C hR hL)
theorem ex_lshl {x : Int64} {y : Int32} (d : decode (mC M) pc = .ok (.lshl, 1)) (kk : Ex M k b1 b2 (pc + 1) L (.long (x <<< (y.toInt64 &&& 63)) :: st) S H R) : Ex M k b1 b2 pc L (.int y :: .long x :: st) S H R := by
  intro l base D tc sa p e Rm s m args below meth c Hh locs cells slots ls C hR hL
  exact lv_lshl C.1.1 C.1.2.1 d rfl (kk l base D tc sa p e Rm s m args below meth c Hh locs cells slots ls C hR hL)
theorem ex_lcmp {x y : Int64} (d : decode (mC M) pc = .ok (.lcmp, 1)) (kk : Ex M k b1 b2 (pc + 1) L (.int (lg_cmp x y) :: st) S H R) : Ex M k b1 b2 pc L (.long y :: .long x :: st) S H R := by
  intro l base D tc sa p e Rm s m args below meth c Hh locs cells slots ls C hR hL
  exact W.lcmp C.1.1 C.1.2.1 d (kk l base D tc sa p e Rm s m args below meth c Hh locs cells slots ls C hR hL)
theorem ex_i2l {x : Int32} (d : decode (mC M) pc = .ok (.i2l, 1)) (kk : Ex M k b1 b2 (pc + 1) L (.long x.toInt64 :: st) S H R) : Ex M k b1 b2 pc L (.int x :: st) S H R := by
  intro l base D tc sa p e Rm s m args below meth c Hh locs cells slots ls C hR hL
  exact lv_i2l C.1.1 C.1.2.1 d rfl (kk l base D tc sa p e Rm s m args below meth c Hh locs cells slots ls C hR hL)
theorem ex_l2i {x : Int64} (d : decode (mC M) pc = .ok (.l2i, 1)) (kk : Ex M k b1 b2 (pc + 1) L (.int x.toInt32 :: st) S H R) : Ex M k b1 b2 pc L (.long x :: st) S H R := by
  intro l base D tc sa p e Rm s m args below meth c Hh locs cells slots ls C hR hL
  exact lv_l2i C.1.1 C.1.2.1 d rfl (kk l base D tc sa p e Rm s m args below meth c Hh locs cells slots ls C hR hL)
theorem ex_i2b {x : Int32} (d : decode (mC M) pc = .ok (.i2b, 1)) (kk : Ex M k b1 b2 (pc + 1) L (.int x.toInt8.toInt32 :: st) S H R) : Ex M k b1 b2 pc L (.int x :: st) S H R := by
  intro l base D tc sa p e Rm s m args below meth c Hh locs cells slots ls C hR hL
  exact lv_i2b C.1.1 C.1.2.1 d rfl (kk l base D tc sa p e Rm s m args below meth c Hh locs cells slots ls C hR hL)
theorem ex_i2c {x : Int32} (d : decode (mC M) pc = .ok (.i2c, 1)) (kk : Ex M k b1 b2 (pc + 1) L (.int (x.toUInt32 % 65536).toInt32 :: st) S H R) : Ex M k b1 b2 pc L (.int x :: st) S H R := by
  intro l base D tc sa p e Rm s m args below meth c Hh locs cells slots ls C hR hL
  exact lv_i2c C.1.1 C.1.2.1 d rfl (kk l base D tc sa p e Rm s m args below meth c Hh locs cells slots ls C hR hL)
theorem ex_dup {v : Value} (d : decode (mC M) pc = .ok (.dup, 1)) (hv : v.category = 1) (kk : Ex M k b1 b2 (pc + 1) L (v :: v :: st) S H R) : Ex M k b1 b2 pc L (v :: st) S H R := by
  intro l base D tc sa p e Rm s m args below meth c Hh locs cells slots ls C hR hL
  exact lv_dup C.1.1 C.1.2.1 d (by rw [xV_cat]; exact hv) (kk l base D tc sa p e Rm s m args below meth c Hh locs cells slots ls C hR hL)
theorem ex_pop {v : Value} (d : decode (mC M) pc = .ok (.pop, 1)) (hv : v.category = 1) (kk : Ex M k b1 b2 (pc + 1) L (st) S H R) : Ex M k b1 b2 pc L (v :: st) S H R := by
  intro l base D tc sa p e Rm s m args below meth c Hh locs cells slots ls C hR hL
  exact lv_pop C.1.1 C.1.2.1 d (by rw [xV_cat]; exact hv) (kk l base D tc sa p e Rm s m args below meth c Hh locs cells slots ls C hR hL)
theorem ex_dup2 {v w : Value} (d : decode (mC M) pc = .ok (.dup2, 1)) (hv : v.category = 1) (hw : w.category = 1) (kk : Ex M k b1 b2 (pc + 1) L (v :: w :: v :: w :: st) S H R) : Ex M k b1 b2 pc L (v :: w :: st) S H R := by
  intro l base D tc sa p e Rm s m args below meth c Hh locs cells slots ls C hR hL
  exact lv_dup2_11 C.1.1 C.1.2.1 d (by rw [xV_cat]; exact hv) (by rw [xV_cat]; exact hw) (kk l base D tc sa p e Rm s m args below meth c Hh locs cells slots ls C hR hL)
theorem ex_dup2L {v : Value} (d : decode (mC M) pc = .ok (.dup2, 1)) (hv : v.category = 2) (kk : Ex M k b1 b2 (pc + 1) L (v :: v :: st) S H R) : Ex M k b1 b2 pc L (v :: st) S H R := by
  intro l base D tc sa p e Rm s m args below meth c Hh locs cells slots ls C hR hL
  exact lv_dup2_2 C.1.1 C.1.2.1 d (by rw [xV_cat]; exact hv) (kk l base D tc sa p e Rm s m args below meth c Hh locs cells slots ls C hR hL)
theorem ex_iload_n {j : Fin 4} {i : Nat} {x : Int32} (d : decode (mC M) pc = .ok (.iload_n j, 1)) (hi : (j : Nat) = i) (h : L[i]? = some (some (.int x))) (kk : Ex M k b1 b2 (pc + 1) L (.int x :: st) S H R) : Ex M k b1 b2 pc L (st) S H R := by
  intro l base D tc sa p e Rm s m args below meth c Hh locs cells slots ls C hR hL
  exact lv_iload_n C.1.1 C.1.2.1 d hi (hL.2.2 _ _ h) (kk l base D tc sa p e Rm s m args below meth c Hh locs cells slots ls C hR hL)
theorem ex_iload {i : Nat} {x : Int32} (d : decode (mC M) pc = .ok (.iload i, 2)) (h : L[i]? = some (some (.int x))) (kk : Ex M k b1 b2 (pc + 2) L (.int x :: st) S H R) : Ex M k b1 b2 pc L (st) S H R := by
  intro l base D tc sa p e Rm s m args below meth c Hh locs cells slots ls C hR hL
  exact lv_iload C.1.1 C.1.2.1 d (hL.2.2 _ _ h) (kk l base D tc sa p e Rm s m args below meth c Hh locs cells slots ls C hR hL)
theorem ex_lload_n {j : Fin 4} {i : Nat} {x : Int64} (d : decode (mC M) pc = .ok (.lload_n j, 1)) (hi : (j : Nat) = i) (h : L[i]? = some (some (.long x))) (kk : Ex M k b1 b2 (pc + 1) L (.long x :: st) S H R) : Ex M k b1 b2 pc L (st) S H R := by
  intro l base D tc sa p e Rm s m args below meth c Hh locs cells slots ls C hR hL
  exact lv_lload_n C.1.1 C.1.2.1 d hi (hL.2.2 _ _ h) (kk l base D tc sa p e Rm s m args below meth c Hh locs cells slots ls C hR hL)
theorem ex_lload {i : Nat} {x : Int64} (d : decode (mC M) pc = .ok (.lload i, 2)) (h : L[i]? = some (some (.long x))) (kk : Ex M k b1 b2 (pc + 2) L (.long x :: st) S H R) : Ex M k b1 b2 pc L (st) S H R := by
  intro l base D tc sa p e Rm s m args below meth c Hh locs cells slots ls C hR hL
  exact lv_lload C.1.1 C.1.2.1 d (hL.2.2 _ _ h) (kk l base D tc sa p e Rm s m args below meth c Hh locs cells slots ls C hR hL)
theorem ex_aload_n {j : Fin 4} {i : Nat} {x : Nat} (d : decode (mC M) pc = .ok (.aload_n j, 1)) (hi : (j : Nat) = i) (h : L[i]? = some (some (.ref x))) (kk : Ex M k b1 b2 (pc + 1) L (.ref x :: st) S H R) : Ex M k b1 b2 pc L (st) S H R := by
  intro l base D tc sa p e Rm s m args below meth c Hh locs cells slots ls C hR hL
  exact lv_aload_n C.1.1 C.1.2.1 d hi (hL.2.2 _ _ h) (kk l base D tc sa p e Rm s m args below meth c Hh locs cells slots ls C hR hL)
theorem ex_aload {i : Nat} {x : Nat} (d : decode (mC M) pc = .ok (.aload i, 2)) (h : L[i]? = some (some (.ref x))) (kk : Ex M k b1 b2 (pc + 2) L (.ref x :: st) S H R) : Ex M k b1 b2 pc L (st) S H R := by
  intro l base D tc sa p e Rm s m args below meth c Hh locs cells slots ls C hR hL
  exact lv_aload C.1.1 C.1.2.1 d (hL.2.2 _ _ h) (kk l base D tc sa p e Rm s m args below meth c Hh locs cells slots ls C hR hL)
theorem ex_sload_n {j : Fin 4} {i : Nat} {f : UInt32} (d : decode (mC M) pc = .ok (.aload_n j, 1)) (hi : (j : Nat) = i) (h : L[i]? = some (some (.float f))) (kk : Ex M k b1 b2 (pc + 1) L (.float f :: st) S H R) : Ex M k b1 b2 pc L (st) S H R := by
  intro l base D tc sa p e Rm s m args below meth c Hh locs cells slots ls C hR hL
  exact lv_aload_n C.1.1 C.1.2.1 d hi (hL.2.2 _ _ h) (kk l base D tc sa p e Rm s m args below meth c Hh locs cells slots ls C hR hL)

theorem xLv_all {base : Nat} {sa : Nat → Nat} {n : Nat} {ls : Array Slot} (h : xLv base sa n L ls) : lv_has ls n ((List.range n).filterMap (fun i => match L[i]? with | some (some v) => some (i, xV base sa v) | _ => none)) := by
  refine ⟨h.1, h.2.1, fun q hq => ?_⟩
  obtain ⟨i, -, hi⟩ := List.mem_filterMap.mp hq
  revert hi
  cases hv : L[i]? with
  | none => simp
  | some o =>
    cases o with
    | none => simp
    | some v =>
      intro hi
      simp at hi
      subst hi
      exact h.2.2 i v hv
/-- storing at i a value of one slot: what stands at i - 1 must not be a long -/
theorem xLv_st1 {base : Nat} {sa : Nat → Nat} {n i : Nat} {ls ls' : Array Slot} {v : Value} (h : xLv base sa n L ls) (hi : i < L.length) (hn : L.length ≤ n) (hp : ∀ w, L[i - 1]? = some (some w) → i ≠ 0 → w.category = 1) (hl : lv_has ls' n ((i, xV base sa v) :: ((List.range n).filterMap (fun i => match L[i]? with | some (some v) => some (i, xV base sa v) | _ => none)).filter (fun q => !(q.1 == i) && !(q.1 + 1 == i && q.2.category == 2)))) : xLv base sa n (L.set i (some v)) ls' := by
  refine ⟨hl.1, hl.2.1, fun j w hj => ?_⟩
  by_cases hji : j = i
  · subst hji
    rw [List.getElem?_set_self hi] at hj
    cases hj
    exact hl.2.2 _ List.mem_cons_self
  · rw [List.getElem?_set_ne (Ne.symm hji)] at hj
    refine hl.2.2 (j, xV base sa w) (List.mem_cons_of_mem _ (List.mem_filter.mpr ⟨List.mem_filterMap.mpr ⟨j, List.mem_range.mpr ?_, ?_⟩, ?_⟩))
    · have := (List.getElem?_eq_some_iff.mp hj).1
      omega
    · rw [hj]
    · by_cases hj1 : j + 1 = i
      · subst hj1
        have := hp w (by simpa using hj) (by omega)
        simp [xV_cat, this]
      · simp [hji, hj1]
theorem xLv_st2 {base : Nat} {sa : Nat → Nat} {n i : Nat} {ls ls' : Array Slot} {v : Value} (h : xLv base sa n L ls) (hi : i + 1 < L.length) (hn : L.length ≤ n) (hp : ∀ w, L[i - 1]? = some (some w) → i ≠ 0 → w.category = 1) (hl : lv_has ls' n ((i, xV base sa v) :: ((List.range n).filterMap (fun i => match L[i]? with | some (some v) => some (i, xV base sa v) | _ => none)).filter (fun q => !(q.1 == i) && (!(q.1 == i + 1) && !(q.1 + 1 == i && q.2.category == 2))))) : xLv base sa n ((L.set i (some v)).set (i + 1) none) ls' := by
  refine ⟨hl.1, hl.2.1, fun j w hj => ?_⟩
  by_cases hj2 : j = i + 1
  · subst hj2
    rw [List.getElem?_set_self (by simpa using hi)] at hj
    cases hj
  rw [List.getElem?_set_ne (Ne.symm hj2)] at hj
  by_cases hji : j = i
  · subst hji
    rw [List.getElem?_set_self (by omega)] at hj
    cases hj
    exact hl.2.2 _ List.mem_cons_self
  · rw [List.getElem?_set_ne (Ne.symm hji)] at hj
    refine hl.2.2 (j, xV base sa w) (List.mem_cons_of_mem _ (List.mem_filter.mpr ⟨List.mem_filterMap.mpr ⟨j, List.mem_range.mpr ?_, ?_⟩, ?_⟩))
    · have := (List.getElem?_eq_some_iff.mp hj).1
      omega
    · rw [hj]
    · by_cases hj1 : j + 1 = i
      · subst hj1
        have := hp w (by simpa using hj) (by omega)
        simp [xV_cat, this, hj2]
      · simp [hji, hj1, hj2]
def xPrev (L : List (Option Value)) (i : Nat) : Bool := match i with
  | 0 => true
  | j + 1 => match L[j]? with
    | some (some w) => w.category == 1
    | _ => true
theorem xPrev_ok {i : Nat} (h : xPrev L i = true) : ∀ w, L[i - 1]? = some (some w) → i ≠ 0 → w.category = 1 := by
  intro w hw h0
  cases i with
  | zero => exact absurd rfl h0
  | succ j =>
    simp only [Nat.add_sub_cancel] at hw
    simp only [xPrev, hw, beq_iff_eq] at h
    exact h
def xFits (L : List (Option Value)) (i n : Nat) : Bool := decide (i < L.length) && decide (L.length ≤ n) && xPrev L i
theorem xFits_ok {i n : Nat} (h : xFits L i n = true) : i < L.length ∧ L.length ≤ n ∧ xPrev L i = true := by
  simp only [xFits, Bool.and_eq_true, decide_eq_true_eq] at h
  exact ⟨h.1.1, h.1.2, h.2⟩

theorem ex_istore_n {j : Fin 4} {i : Nat} {x : Int32} (d : decode (mC M) pc = .ok (.istore_n j, 1)) (hi : (j : Nat) = i) (hf : xFits L i (mN M) = true) (kk : Ex M k b1 b2 (pc + 1) (L.set i (some (.int x))) st S H R) : Ex M k b1 b2 pc L (.int x :: st) S H R := by
  intro l base D tc sa p e Rm s m args below meth c Hh locs cells slots ls C hR hL
  obtain ⟨f1, f2, f3⟩ := xFits_ok hf
  refine lv_istore_n C.1.1 C.1.2.1 d hi (xLv_all hL) (by omega) rfl (fun ls1 hl1 => kk l base D tc sa p e Rm s m args below meth c Hh locs cells slots ls1 C hR (xLv_st1 (v := .int x) hL f1 f2 (xPrev_ok f3) hl1))
theorem ex_istore {i : Nat} {x : Int32} (d : decode (mC M) pc = .ok (.istore i, 2)) (hf : xFits L i (mN M) = true) (kk : Ex M k b1 b2 (pc + 2) (L.set i (some (.int x))) st S H R) : Ex M k b1 b2 pc L (.int x :: st) S H R := by
  intro l base D tc sa p e Rm s m args below meth c Hh locs cells slots ls C hR hL
  obtain ⟨f1, f2, f3⟩ := xFits_ok hf
  refine lv_istore C.1.1 C.1.2.1 d (xLv_all hL) (by omega) rfl (fun ls1 hl1 => kk l base D tc sa p e Rm s m args below meth c Hh locs cells slots ls1 C hR (xLv_st1 (v := .int x) hL f1 f2 (xPrev_ok f3) hl1))
theorem ex_lstore_n {j : Fin 4} {i : Nat} {x : Int64} (d : decode (mC M) pc = .ok (.lstore_n j, 1)) (hi : (j : Nat) = i) (hf : xFits L (i + 1) (mN M) = true) (hg : xPrev L i = true) (kk : Ex M k b1 b2 (pc + 1) ((L.set i (some (.long x))).set (i + 1) none) st S H R) : Ex M k b1 b2 pc L (.long x :: st) S H R := by
  intro l base D tc sa p e Rm s m args below meth c Hh locs cells slots ls C hR hL
  obtain ⟨f1, f2, f3⟩ := xFits_ok hf
  refine lv_lstore_n C.1.1 C.1.2.1 d hi (xLv_all hL) (by omega) rfl (fun ls1 hl1 => kk l base D tc sa p e Rm s m args below meth c Hh locs cells slots ls1 C hR (xLv_st2 (v := .long x) hL f1 f2 (xPrev_ok hg) hl1))
theorem ex_lstore {i : Nat} {x : Int64} (d : decode (mC M) pc = .ok (.lstore i, 2)) (hf : xFits L (i + 1) (mN M) = true) (hg : xPrev L i = true) (kk : Ex M k b1 b2 (pc + 2) ((L.set i (some (.long x))).set (i + 1) none) st S H R) : Ex M k b1 b2 pc L (.long x :: st) S H R := by
  intro l base D tc sa p e Rm s m args below meth c Hh locs cells slots ls C hR hL
  obtain ⟨f1, f2, f3⟩ := xFits_ok hf
  refine lv_lstore C.1.1 C.1.2.1 d (xLv_all hL) (by omega) rfl (fun ls1 hl1 => kk l base D tc sa p e Rm s m args below meth c Hh locs cells slots ls1 C hR (xLv_st2 (v := .long x) hL f1 f2 (xPrev_ok hg) hl1))
theorem ex_astore_n {j : Fin 4} {i : Nat} {x : Nat} (d : decode (mC M) pc = .ok (.astore_n j, 1)) (hi : (j : Nat) = i) (hf : xFits L i (mN M) = true) (kk : Ex M k b1 b2 (pc + 1) (L.set i (some (.ref x))) st S H R) : Ex M k b1 b2 pc L (.ref x :: st) S H R := by
  intro l base D tc sa p e Rm s m args below meth c Hh locs cells slots ls C hR hL
  obtain ⟨f1, f2, f3⟩ := xFits_ok hf
  refine lv_astore_n C.1.1 C.1.2.1 d hi (xLv_all hL) (by omega) rfl (fun ls1 hl1 => kk l base D tc sa p e Rm s m args below meth c Hh locs cells slots ls1 C hR (xLv_st1 (v := .ref x) hL f1 f2 (xPrev_ok f3) hl1))
theorem ex_astore {i : Nat} {x : Nat} (d : decode (mC M) pc = .ok (.astore i, 2)) (hf : xFits L i (mN M) = true) (kk : Ex M k b1 b2 (pc + 2) (L.set i (some (.ref x))) st S H R) : Ex M k b1 b2 pc L (.ref x :: st) S H R := by
  intro l base D tc sa p e Rm s m args below meth c Hh locs cells slots ls C hR hL
  obtain ⟨f1, f2, f3⟩ := xFits_ok hf
  refine lv_astore C.1.1 C.1.2.1 d (xLv_all hL) (by omega) rfl (fun ls1 hl1 => kk l base D tc sa p e Rm s m args below meth c Hh locs cells slots ls1 C hR (xLv_st1 (v := .ref x) hL f1 f2 (xPrev_ok f3) hl1))
theorem ex_iinc {i : Nat} {n : Int} {x v : Int32} (d : decode (mC M) pc = .ok (.iinc i n, 3)) (hv : Int32.ofInt n = v) (h : L[i]? = some (some (.int x))) (hf : xFits L i (mN M) = true) (kk : Ex M k b1 b2 (pc + 3) (L.set i (some (.int (x + v)))) st S H R) : Ex M k b1 b2 pc L st S H R := by
  intro l base D tc sa p e Rm s m args below meth c Hh locs cells slots ls C hR hL
  obtain ⟨f1, f2, f3⟩ := xFits_ok hf
  have hm : (i, Value.int x) ∈ ((List.range (mN M)).filterMap (fun i => match L[i]? with | some (some v) => some (i, xV base sa v) | _ => none)) := List.mem_filterMap.mpr ⟨i, List.mem_range.mpr (by omega), by rw [h]; rfl⟩
  obtain ⟨k0, hk0⟩ := List.getElem?_of_mem hm
  exact lv_iinc C.1.1 C.1.2.1 d (xLv_all hL) hk0 (by rw [hv]) (by omega) rfl (fun ls1 hl1 => kk l base D tc sa p e Rm s m args below meth c Hh locs cells slots ls1 C hR (xLv_st1 (v := .int (x + v)) hL f1 f2 (xPrev_ok f3) hl1))
theorem ex_if_eq {x : Int32} {off : Int} {tgt : Nat} (d : decode (mC M) pc = .ok (.ifCond .eq off, 3)) (ht : (pc : Int) + off = (tgt : Int)) (kk : (x = 0 → Ex M k b1 b2 tgt L st S H R) ∧ (¬ x = 0 → Ex M k b1 b2 (pc + 3) L st S H R)) : Ex M k b1 b2 pc L (.int x :: st) S H R := by
  intro l base D tc sa p e Rm s m args below meth c Hh locs cells slots ls C hR hL
  exact lv_if_eq C.1.1 C.1.2.1 d ht (fun q => kk.1 q l base D tc sa p e Rm s m args below meth c Hh locs cells slots ls C hR hL) (fun q => kk.2 q l base D tc sa p e Rm s m args below meth c Hh locs cells slots ls C hR hL)
theorem ex_icmp_eq {x y : Int32} {off : Int} {tgt : Nat} (d : decode (mC M) pc = .ok (.if_icmp .eq off, 3)) (ht : (pc : Int) + off = (tgt : Int)) (kk : (x = y → Ex M k b1 b2 tgt L st S H R) ∧ (¬ x = y → Ex M k b1 b2 (pc + 3) L st S H R)) : Ex M k b1 b2 pc L (.int y :: .int x :: st) S H R := by
  intro l base D tc sa p e Rm s m args below meth c Hh locs cells slots ls C hR hL
  exact lv_icmp_eq C.1.1 C.1.2.1 d ht (fun q => kk.1 q l base D tc sa p e Rm s m args below meth c Hh locs cells slots ls C hR hL) (fun q => kk.2 q l base D tc sa p e Rm s m args below meth c Hh locs cells slots ls C hR hL)
theorem ex_if_ne {x : Int32} {off : Int} {tgt : Nat} (d : decode (mC M) pc = .ok (.ifCond .ne off, 3)) (ht : (pc : Int) + off = (tgt : Int)) (kk : (¬ x = 0 → Ex M k b1 b2 tgt L st S H R) ∧ (x = 0 → Ex M k b1 b2 (pc + 3) L st S H R)) : Ex M k b1 b2 pc L (.int x :: st) S H R := by
  intro l base D tc sa p e Rm s m args below meth c Hh locs cells slots ls C hR hL
  exact lv_if_ne C.1.1 C.1.2.1 d ht (fun q => kk.1 q l base D tc sa p e Rm s m args below meth c Hh locs cells slots ls C hR hL) (fun q => kk.2 q l base D tc sa p e Rm s m args below meth c Hh locs cells slots ls C hR hL)
theorem ex_icmp_ne {x y : Int32} {off : Int} {tgt : Nat} (d : decode (mC M) pc = .ok (.if_icmp .ne off, 3)) (ht : (pc : Int) + off = (tgt : Int)) (kk : (¬ x = y → Ex M k b1 b2 tgt L st S H R) ∧ (x = y → Ex M k b1 b2 (pc + 3) L st S H R)) : Ex M k b1 b2 pc L (.int y :: .int x :: st) S H R := by
  intro l base D tc sa p e Rm s m args below meth c Hh locs cells slots ls C hR hL
  exact lv_icmp_ne C.1.1 C.1.2.1 d ht (fun q => kk.1 q l base D tc sa p e Rm s m args below meth c Hh locs cells slots ls C hR hL) (fun q => kk.2 q l base D tc sa p e Rm s m args below meth c Hh locs cells slots ls C hR hL)
theorem ex_if_lt {x : Int32} {off : Int} {tgt : Nat} (d : decode (mC M) pc = .ok (.ifCond .lt off, 3)) (ht : (pc : Int) + off = (tgt : Int)) (kk : (x < 0 → Ex M k b1 b2 tgt L st S H R) ∧ (¬ x < 0 → Ex M k b1 b2 (pc + 3) L st S H R)) : Ex M k b1 b2 pc L (.int x :: st) S H R := by
  intro l base D tc sa p e Rm s m args below meth c Hh locs cells slots ls C hR hL
  exact lv_if_lt C.1.1 C.1.2.1 d ht (fun q => kk.1 q l base D tc sa p e Rm s m args below meth c Hh locs cells slots ls C hR hL) (fun q => kk.2 q l base D tc sa p e Rm s m args below meth c Hh locs cells slots ls C hR hL)
theorem ex_icmp_lt {x y : Int32} {off : Int} {tgt : Nat} (d : decode (mC M) pc = .ok (.if_icmp .lt off, 3)) (ht : (pc : Int) + off = (tgt : Int)) (kk : (x < y → Ex M k b1 b2 tgt L st S H R) ∧ (¬ x < y → Ex M k b1 b2 (pc + 3) L st S H R)) : Ex M k b1 b2 pc L (.int y :: .int x :: st) S H R := by
  intro l base D tc sa p e Rm s m args below meth c Hh locs cells slots ls C hR hL
  exact lv_icmp_lt C.1.1 C.1.2.1 d ht (fun q => kk.1 q l base D tc sa p e Rm s m args below meth c Hh locs cells slots ls C hR hL) (fun q => kk.2 q l base D tc sa p e Rm s m args below meth c Hh locs cells slots ls C hR hL)
theorem ex_if_ge {x : Int32} {off : Int} {tgt : Nat} (d : decode (mC M) pc = .ok (.ifCond .ge off, 3)) (ht : (pc : Int) + off = (tgt : Int)) (kk : (0 ≤ x → Ex M k b1 b2 tgt L st S H R) ∧ (¬ 0 ≤ x → Ex M k b1 b2 (pc + 3) L st S H R)) : Ex M k b1 b2 pc L (.int x :: st) S H R := by
  intro l base D tc sa p e Rm s m args below meth c Hh locs cells slots ls C hR hL
  exact lv_if_ge C.1.1 C.1.2.1 d ht (fun q => kk.1 q l base D tc sa p e Rm s m args below meth c Hh locs cells slots ls C hR hL) (fun q => kk.2 q l base D tc sa p e Rm s m args below meth c Hh locs cells slots ls C hR hL)
theorem ex_icmp_ge {x y : Int32} {off : Int} {tgt : Nat} (d : decode (mC M) pc = .ok (.if_icmp .ge off, 3)) (ht : (pc : Int) + off = (tgt : Int)) (kk : (y ≤ x → Ex M k b1 b2 tgt L st S H R) ∧ (¬ y ≤ x → Ex M k b1 b2 (pc + 3) L st S H R)) : Ex M k b1 b2 pc L (.int y :: .int x :: st) S H R := by
  intro l base D tc sa p e Rm s m args below meth c Hh locs cells slots ls C hR hL
  exact lv_icmp_ge C.1.1 C.1.2.1 d ht (fun q => kk.1 q l base D tc sa p e Rm s m args below meth c Hh locs cells slots ls C hR hL) (fun q => kk.2 q l base D tc sa p e Rm s m args below meth c Hh locs cells slots ls C hR hL)
theorem ex_if_gt {x : Int32} {off : Int} {tgt : Nat} (d : decode (mC M) pc = .ok (.ifCond .gt off, 3)) (ht : (pc : Int) + off = (tgt : Int)) (kk : (0 < x → Ex M k b1 b2 tgt L st S H R) ∧ (¬ 0 < x → Ex M k b1 b2 (pc + 3) L st S H R)) : Ex M k b1 b2 pc L (.int x :: st) S H R := by
  intro l base D tc sa p e Rm s m args below meth c Hh locs cells slots ls C hR hL
  exact lv_if_gt C.1.1 C.1.2.1 d ht (fun q => kk.1 q l base D tc sa p e Rm s m args below meth c Hh locs cells slots ls C hR hL) (fun q => kk.2 q l base D tc sa p e Rm s m args below meth c Hh locs cells slots ls C hR hL)
theorem ex_icmp_gt {x y : Int32} {off : Int} {tgt : Nat} (d : decode (mC M) pc = .ok (.if_icmp .gt off, 3)) (ht : (pc : Int) + off = (tgt : Int)) (kk : (y < x → Ex M k b1 b2 tgt L st S H R) ∧ (¬ y < x → Ex M k b1 b2 (pc + 3) L st S H R)) : Ex M k b1 b2 pc L (.int y :: .int x :: st) S H R := by
  intro l base D tc sa p e Rm s m args below meth c Hh locs cells slots ls C hR hL
  exact lv_icmp_gt C.1.1 C.1.2.1 d ht (fun q => kk.1 q l base D tc sa p e Rm s m args below meth c Hh locs cells slots ls C hR hL) (fun q => kk.2 q l base D tc sa p e Rm s m args below meth c Hh locs cells slots ls C hR hL)
theorem ex_if_le {x : Int32} {off : Int} {tgt : Nat} (d : decode (mC M) pc = .ok (.ifCond .le off, 3)) (ht : (pc : Int) + off = (tgt : Int)) (kk : (x ≤ 0 → Ex M k b1 b2 tgt L st S H R) ∧ (¬ x ≤ 0 → Ex M k b1 b2 (pc + 3) L st S H R)) : Ex M k b1 b2 pc L (.int x :: st) S H R := by
  intro l base D tc sa p e Rm s m args below meth c Hh locs cells slots ls C hR hL
  exact lv_if_le C.1.1 C.1.2.1 d ht (fun q => kk.1 q l base D tc sa p e Rm s m args below meth c Hh locs cells slots ls C hR hL) (fun q => kk.2 q l base D tc sa p e Rm s m args below meth c Hh locs cells slots ls C hR hL)
theorem ex_icmp_le {x y : Int32} {off : Int} {tgt : Nat} (d : decode (mC M) pc = .ok (.if_icmp .le off, 3)) (ht : (pc : Int) + off = (tgt : Int)) (kk : (x ≤ y → Ex M k b1 b2 tgt L st S H R) ∧ (¬ x ≤ y → Ex M k b1 b2 (pc + 3) L st S H R)) : Ex M k b1 b2 pc L (.int y :: .int x :: st) S H R := by
  intro l base D tc sa p e Rm s m args below meth c Hh locs cells slots ls C hR hL
  exact lv_icmp_le C.1.1 C.1.2.1 d ht (fun q => kk.1 q l base D tc sa p e Rm s m args below meth c Hh locs cells slots ls C hR hL) (fun q => kk.2 q l base D tc sa p e Rm s m args below meth c Hh locs cells slots ls C hR hL)
theorem ex_goto {off : Int} {tgt : Nat} (d : decode (mC M) pc = .ok (.goto off, 3)) (ht : (pc : Int) + off = (tgt : Int)) (kk : Ex M k b1 b2 tgt L st S H R) : Ex M k b1 b2 pc L st S H R := by
  intro l base D tc sa p e Rm s m args below meth c Hh locs cells slots ls C hR hL
  exact lv_goto C.1.1 C.1.2.1 d ht (kk l base D tc sa p e Rm s m args below meth c Hh locs cells slots ls C hR hL)
theorem ex_forget {L' : List (Option Value)} (hl : ∀ (i : Nat) (v : Value), L'[i]? = some (some v) → L[i]? = some (some v)) (kk : Ex M k b1 b2 pc L' st S H R) : Ex M k b1 b2 pc L st S H R := by
  intro l base D tc sa p e Rm s m args below meth c Hh locs cells slots ls C hR hL
  exact kk l base D tc sa p e Rm s m args below meth c Hh locs cells slots ls C hR (hL.weak hl)
theorem ex_tableIn {dflt lo hi : Int} {offs : Array Int} {len : Nat} {x : Int32} {off : Int} {tgt : Nat} (d : decode (mC M) pc = .ok (.tableswitch dflt lo hi offs, len)) (h1 : ¬ x.toInt < lo) (h2 : ¬ hi < x.toInt) (ho : offs[(x.toInt - lo).toNat]? = some off) (ht : (pc : Int) + off = (tgt : Int)) (kk : Ex M k b1 b2 tgt L st S H R) : Ex M k b1 b2 pc L (.int x :: st) S H R := by
  intro l base D tc sa p e Rm s m args below meth c Hh locs cells slots ls C hR hL
  exact lv_tableIn C.1.1 C.1.2.1 d h1 h2 ho ht (kk l base D tc sa p e Rm s m args below meth c Hh locs cells slots ls C hR hL)
theorem ex_tableOut {dflt lo hi : Int} {offs : Array Int} {len : Nat} {x : Int32} {tgt : Nat} (d : decode (mC M) pc = .ok (.tableswitch dflt lo hi offs, len)) (h : x.toInt < lo ∨ hi < x.toInt) (ht : (pc : Int) + dflt = (tgt : Int)) (kk : Ex M k b1 b2 tgt L st S H R) : Ex M k b1 b2 pc L (.int x :: st) S H R := by
  intro l base D tc sa p e Rm s m args below meth c Hh locs cells slots ls C hR hL
  exact lv_tableOut C.1.1 C.1.2.1 d h ht (kk l base D tc sa p e Rm s m args below meth c Hh locs cells slots ls C hR hL)
theorem ex_lookup {dflt : Int} {ps : Array (Int × Int)} {len : Nat} {x : Int32} {off : Int} {tgt : Nat} (d : decode (mC M) pc = .ok (.lookupswitch dflt ps, len)) (hp : (ps.toList.zip (ps.toList.drop 1)).all (fun (a, next) => a.1 < next.1) = true) (ho : Op.lookupswitch.offset ps.toList dflt x.toInt = off) (ht : (pc : Int) + off = (tgt : Int)) (kk : Ex M k b1 b2 tgt L st S H R) : Ex M k b1 b2 pc L (.int x :: st) S H R := by
  intro l base D tc sa p e Rm s m args below meth c Hh locs cells slots ls C hR hL
  exact lv_lookup C.1.1 C.1.2.1 d hp ho ht (kk l base D tc sa p e Rm s m args below meth c Hh locs cells slots ls C hR hL)
end XR
