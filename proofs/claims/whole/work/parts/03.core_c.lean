/-! ===== arrays, ends, new objects, calls ===== -/
section XD
variable {M : xM} {k b1 b2 pc : Nat} {L : List (Option Value)} {st : List Value} {S S' : xS} {H H' : xH} {R : xR} {a n : Nat} {i : Int32}
theorem vp_lt {i : Int32} {n : Nat} (h : vp_in i n) : i.toNatClampNeg < n := Nat.not_le.mp fun q => h (Or.inr q)
theorem xTy (tc : Nat → Nat) {base : Nat} {D : va_G} {sa : Nat → Nat} {s : State} {Hx : Heap} (hG : xGl base D tc sa s Hx) : ArrOfT s (tc 0) .int ∧ ArrOfT s (tc 1) .byte ∧ ArrOfT s (tc 2) .boolean ∧ ArrOfT s (tc 3) .long ∧ ArrOfT s (tc 4) (.object RX7) :=
  ⟨(hG.1.2 0 _ rfl).1, (hG.1.2 1 _ rfl).1, (hG.1.2 2 _ rfl).1, (hG.1.2 3 _ rfl).1, (hG.1.2 4 _ rfl).1⟩
theorem ex_iald (d : decode (mC M) pc = .ok (.iaload, 1)) (hs : fS S a = (1, n)) (hin : vp_in i n) (kk : Ex M k b1 b2 (pc + 1) L (.int (hI H a i.toNatClampNeg) :: st) S H R) : Ex M k b1 b2 pc L (.int i :: .ref a :: st) S H R := by
  intro l base D tc sa p e Rm s m args below meth c Hh locs cells slots ls C hRp hLv
  exact W.iald (v := .int (hI H a i.toNatClampNeg)) C.1.1 C.1.2.1 (xAt_1 (hRp.2 a) hs) ((xTy tc C.1.2.2.2.2.2.2.2.2).1 n _) (fun q => by cases q) (by rw [arrV_size]; exact hin) (arrV_read _ _ (vp_lt hin)) rfl rfl d (kk l base D tc sa p e Rm s m args below meth c Hh locs cells slots ls C hRp hLv)
theorem ex_bald (d : decode (mC M) pc = .ok (.baload, 1)) (hs : fS S a = (2, n)) (hin : vp_in i n) (kk : Ex M k b1 b2 (pc + 1) L (.int (hI H a i.toNatClampNeg) :: st) S H R) : Ex M k b1 b2 pc L (.int i :: .ref a :: st) S H R := by
  intro l base D tc sa p e Rm s m args below meth c Hh locs cells slots ls C hRp hLv
  exact W.bald (v := .int (hI H a i.toNatClampNeg)) C.1.1 C.1.2.1 (xAt_2 (hRp.2 a) hs) ((xTy tc C.1.2.2.2.2.2.2.2.2).2.1 n _) (fun q => by cases q) (by rw [arrV_size]; exact hin) (arrV_read _ _ (vp_lt hin)) rfl rfl d (kk l base D tc sa p e Rm s m args below meth c Hh locs cells slots ls C hRp hLv)
theorem ex_zald (d : decode (mC M) pc = .ok (.baload, 1)) (hs : fS S a = (3, n)) (hin : vp_in i n) (kk : Ex M k b1 b2 (pc + 1) L (.int (hI H a i.toNatClampNeg) :: st) S H R) : Ex M k b1 b2 pc L (.int i :: .ref a :: st) S H R := by
  intro l base D tc sa p e Rm s m args below meth c Hh locs cells slots ls C hRp hLv
  exact W.zald (v := .int (hI H a i.toNatClampNeg)) C.1.1 C.1.2.1 (xAt_3 (hRp.2 a) hs) ((xTy tc C.1.2.2.2.2.2.2.2.2).2.2.1 n _) (fun q => by cases q) (by rw [arrV_size]; exact hin) (arrV_read _ _ (vp_lt hin)) rfl rfl d (kk l base D tc sa p e Rm s m args below meth c Hh locs cells slots ls C hRp hLv)
theorem ex_lald (d : decode (mC M) pc = .ok (.laload, 1)) (hs : fS S a = (4, n)) (hin : vp_in i n) (kk : Ex M k b1 b2 (pc + 1) L (.long (hL H a i.toNatClampNeg) :: st) S H R) : Ex M k b1 b2 pc L (.int i :: .ref a :: st) S H R := by
  intro l base D tc sa p e Rm s m args below meth c Hh locs cells slots ls C hRp hLv
  exact W.lald (v := .long (hL H a i.toNatClampNeg)) C.1.1 C.1.2.1 (xAt_4 (hRp.2 a) hs) ((xTy tc C.1.2.2.2.2.2.2.2.2).2.2.2.1 n _) (fun q => by cases q) (by rw [arrV_size]; exact hin) (arrV_read _ _ (vp_lt hin)) rfl rfl d (kk l base D tc sa p e Rm s m args below meth c Hh locs cells slots ls C hRp hLv)
theorem ex_aald (d : decode (mC M) pc = .ok (.aaload, 1)) (hs : fS S a = (5, n)) (hin : vp_in i n) (kk : Ex M k b1 b2 (pc + 1) L (va_rf (hR H a i.toNatClampNeg) :: st) S H R) : Ex M k b1 b2 pc L (.int i :: .ref a :: st) S H R := by
  intro l base D tc sa p e Rm s m args below meth c Hh locs cells slots ls C hRp hLv
  have kk' := kk l base D tc sa p e Rm s m args below meth c Hh locs cells slots ls C hRp hLv
  rw [List.map_cons, xV_rf] at kk'
  exact W.aald (v := xr base (hR H a i.toNatClampNeg)) (ty := .object RX7) C.1.1 C.1.2.1 (xAt_5 (hRp.2 a) hs) ((xTy tc C.1.2.2.2.2.2.2.2.2).2.2.2.2 n _) rfl (fun q => by cases q) (by rw [arrV_size]; exact hin) (arrV_read _ _ (vp_lt hin)) rfl rfl d kk'
theorem ex_alen {v : Int32} (d : decode (mC M) pc = .ok (.arraylength, 1)) {t : Nat} (hs : fS S a = (t, n)) (ht : t = 1 ∨ t = 2 ∨ t = 3 ∨ t = 4 ∨ t = 5) (hv : Int32.ofNat n = v) (kk : Ex M k b1 b2 (pc + 1) L (.int v :: st) S H R) : Ex M k b1 b2 pc L (.ref a :: st) S H R := by
  intro l base D tc sa p e Rm s m args below meth c Hh locs cells slots ls C hRp hLv
  have kk' := kk l base D tc sa p e Rm s m args below meth c Hh locs cells slots ls C hRp hLv
  have T := xTy tc C.1.2.2.2.2.2.2.2.2
  have sz : ∀ (x : Nat) (f : Nat → Value), (arrV x n f).slots.size.toInt32 = v := fun x f => by rw [arrV_size]; exact hv
  rcases ht with rfl | rfl | rfl | rfl | rfl
  · exact W.alen C.1.1 C.1.2.1 (xAt_1 (hRp.2 a) hs) (T.1 n _) (sz _ _) rfl rfl d kk'
  · exact W.alen C.1.1 C.1.2.1 (xAt_2 (hRp.2 a) hs) (T.2.1 n _) (sz _ _) rfl rfl d kk'
  · exact W.alen C.1.1 C.1.2.1 (xAt_3 (hRp.2 a) hs) (T.2.2.1 n _) (sz _ _) rfl rfl d kk'
  · exact W.alen C.1.1 C.1.2.1 (xAt_4 (hRp.2 a) hs) (T.2.2.2.1 n _) (sz _ _) rfl rfl d kk'
  · exact W.alen C.1.1 C.1.2.1 (xAt_5 (hRp.2 a) hs) (T.2.2.2.2 n _) (sz _ _) rfl rfl d kk'
/-- a store into a row: the rest of the picture stays -/
theorem xRep_st {base : Nat} {D : va_G} {tc : Nat → Nat} {Hh Hh' : Heap} (hR0 : xRep base D tc S H Hh) (e2 : Hh'.size = Hh.size) (e3 : ∀ q, q ≠ base + a → Hh'[q]? = Hh[q]?) (eI : ∀ q, q ≠ a → ∀ k, hI H' q k = hI H q k) (eL : ∀ q, q ≠ a → ∀ k, hL H' q k = hL H q k) (eR : ∀ q, q ≠ a → ∀ k, hR H' q k = hR H q k) (hn : xAt base D tc S H' Hh' a) : xRep base D tc S H' Hh' := by
  refine ⟨by rw [e2, hR0.1], fun q => ?_⟩
  by_cases hq : q = a
  · subst hq; exact hn
  · exact (hR0.2 q).off (e3 _ (by omega)) (fun z hz => e3 z (by omega)) rfl (fun _ => rfl) (eI q hq) (eL q hq) (eR q hq)
theorem xI_upd (j x) : (fun q => Value.int (hI (sI H a j x) a q)) = updV (fun q => Value.int (hI H a q)) j (.int x) := by
  funext q
  by_cases hq : q = j <;> simp [hI, sI, up2, updV, hq]
theorem xL_upd (j x) : (fun q => Value.long (hL (sL H a j x) a q)) = updV (fun q => Value.long (hL H a q)) j (.long x) := by
  funext q
  by_cases hq : q = j <;> simp [hL, sL, up2, updV, hq]
theorem xR_upd (base j : Nat) (x : Option Nat) : (fun q => xr base (hR (sR H a j x) a q)) = updV (fun q => xr base (hR H a q)) j (xr base x) := by
  funext q
  by_cases hq : q = j <;> simp [hR, sR, up2, updV, hq]
theorem ex_iast {x : Int32} (d : decode (mC M) pc = .ok (.iastore, 1)) (hs : fS S a = (1, n)) (hin : vp_in i n) (kk : Ex M k b1 b2 (pc + 1) L st S (sI H a i.toNatClampNeg x) R) : Ex M k b1 b2 pc L (.int x :: .int i :: .ref a :: st) S H R := by
  intro l base D tc sa p e Rm s m args below meth c Hh locs cells slots ls C hRp hLv
  refine W.iast C.1.1 C.1.2.1 (xAt_1 (hRp.2 a) hs) ((xTy tc C.1.2.2.2.2.2.2.2.2).1 n _) (fun q => by cases q) (by rw [arrV_size]; exact hin) rfl rfl d (fun H1 e1 e2 e3 => ?_)
  refine kk l base D tc sa p e Rm s m args below meth c H1 _ cells slots ls ⟨C.1, C.2.1, C.2.2.put e2 e3 (Nat.le_add_right base a)⟩ (xRep_st hRp e2 e3 (fun q hq j => up2_n (fun h => hq h.1)) (fun _ _ _ => rfl) (fun _ _ _ => rfl) ?_) hLv
  unfold xAt
  rw [hs, e1, arrV_store, ← xI_upd]
  rfl
theorem ex_bast {x : Int32} (d : decode (mC M) pc = .ok (.bastore, 1)) (hs : fS S a = (2, n)) (hin : vp_in i n) (kk : Ex M k b1 b2 (pc + 1) L st S (sI H a i.toNatClampNeg x.toInt8.toInt32) R) : Ex M k b1 b2 pc L (.int x :: .int i :: .ref a :: st) S H R := by
  intro l base D tc sa p e Rm s m args below meth c Hh locs cells slots ls C hRp hLv
  refine W.bast C.1.1 C.1.2.1 (xAt_2 (hRp.2 a) hs) ((xTy tc C.1.2.2.2.2.2.2.2.2).2.1 n _) (fun q => by cases q) (by rw [arrV_size]; exact hin) rfl rfl d (fun H1 e1 e2 e3 => ?_)
  refine kk l base D tc sa p e Rm s m args below meth c H1 _ cells slots ls ⟨C.1, C.2.1, C.2.2.put e2 e3 (Nat.le_add_right base a)⟩ (xRep_st hRp e2 e3 (fun q hq j => up2_n (fun h => hq h.1)) (fun _ _ _ => rfl) (fun _ _ _ => rfl) ?_) hLv
  unfold xAt
  rw [hs, e1, show narrow .byte (.int x) = .int x.toInt8.toInt32 from rfl, arrV_store, ← xI_upd]
  rfl
theorem ex_zast {x : Int32} (d : decode (mC M) pc = .ok (.bastore, 1)) (hs : fS S a = (3, n)) (hin : vp_in i n) (hz : x = 0 ∨ x = 1) (kk : Ex M k b1 b2 (pc + 1) L st S (sI H a i.toNatClampNeg x) R) : Ex M k b1 b2 pc L (.int x :: .int i :: .ref a :: st) S H R := by
  intro l base D tc sa p e Rm s m args below meth c Hh locs cells slots ls C hRp hLv
  refine W.zast C.1.1 C.1.2.1 (xAt_3 (hRp.2 a) hs) ((xTy tc C.1.2.2.2.2.2.2.2.2).2.2.1 n _) (fun q => by cases q) (by rw [arrV_size]; exact hin) rfl rfl d (fun H1 e1 e2 e3 => ?_)
  refine kk l base D tc sa p e Rm s m args below meth c H1 _ cells slots ls ⟨C.1, C.2.1, C.2.2.put e2 e3 (Nat.le_add_right base a)⟩ (xRep_st hRp e2 e3 (fun q hq j => up2_n (fun h => hq h.1)) (fun _ _ _ => rfl) (fun _ _ _ => rfl) ?_) hLv
  have hn : narrow .boolean (.int x) = .int x := by rcases hz with rfl | rfl <;> rfl
  unfold xAt
  rw [hs, e1, hn, arrV_store, ← xI_upd]
  rfl
theorem ex_last {x : Int64} (d : decode (mC M) pc = .ok (.lastore, 1)) (hs : fS S a = (4, n)) (hin : vp_in i n) (kk : Ex M k b1 b2 (pc + 1) L st S (sL H a i.toNatClampNeg x) R) : Ex M k b1 b2 pc L (.long x :: .int i :: .ref a :: st) S H R := by
  intro l base D tc sa p e Rm s m args below meth c Hh locs cells slots ls C hRp hLv
  refine W.last C.1.1 C.1.2.1 (xAt_4 (hRp.2 a) hs) ((xTy tc C.1.2.2.2.2.2.2.2.2).2.2.2.1 n _) (fun q => by cases q) (by rw [arrV_size]; exact hin) rfl rfl d (fun H1 e1 e2 e3 => ?_)
  refine kk l base D tc sa p e Rm s m args below meth c H1 _ cells slots ls ⟨C.1, C.2.1, C.2.2.put e2 e3 (Nat.le_add_right base a)⟩ (xRep_st hRp e2 e3 (fun _ _ _ => rfl) (fun q hq j => up2_n (fun h => hq h.1)) (fun _ _ _ => rfl) ?_) hLv
  unfold xAt
  rw [hs, e1, arrV_store, ← xL_upd]
  rfl
/-- a State into the row of States -/
theorem ex_aast {x : Nat} (d : decode (mC M) pc = .ok (.aastore, 1)) (hs : fS S a = (5, n)) (hsx : fS S x = (6, 7)) (hin : vp_in i n) (kk : Ex M k b1 b2 (pc + 1) L st S (sR H a i.toNatClampNeg (some x)) R) : Ex M k b1 b2 pc L (.ref x :: .int i :: .ref a :: st) S H R := by
  intro l base D tc sa p e Rm s m args below meth c Hh locs cells slots ls C hRp hLv
  have hG := C.1.2.2.2.2.2.2.2.2
  have hlt := vp_lt hin
  have h0 : ¬ i < 0 := fun q => hin (Or.inl q)
  obtain ⟨r', hr', cellV, g1, g2, g3, -⟩ := xAt_6 (hRp.2 x) hsx
  have hcls := (hG.1.1 7 _ (rfl : vwCl[7]? = some (RX7, TX7, 12))).2
  obtain ⟨kA, comp, k1, k2, k3, -⟩ := (hG.1.2 4 _ rfl).2
  have hcomp : comp = D.1 7 := Option.some.inj (k3.symm.trans hcls.1)
  subst hcomp
  obtain ⟨kC, hkC, -⟩ := hcls.2
  refine W.aast C.1.1 C.1.2.1 (xAt_5 (hRp.2 a) hs) (fun q h => by cases h) (fun h => by cases h) k1 k2 rfl hkC ⟨h0, by rw [arrV_size]; exact hlt⟩ g1 (fun q h => by rw [g3] at h; cases h) (by rw [g2]; exact hkC) (by rw [g2]; exact va_assign hcls) rfl rfl d (fun H1 e1 e2 e3 => ?_)
  refine kk l base D tc sa p e Rm s m args below meth c H1 _ cells slots ls ⟨C.1, C.2.1, C.2.2.put e2 e3 (Nat.le_add_right base a)⟩ (xRep_st hRp e2 e3 (fun _ _ _ => rfl) (fun _ _ _ => rfl) (fun q hq j => up2_n (fun h => hq h.1)) ?_) hLv
  unfold xAt
  rw [hs, e1, arrV_store, xR_upd]
  rfl
theorem ex_ifnonnull {x : Nat} {off : Int} {tgt : Nat} (d : decode (mC M) pc = .ok (.ifnonnull off, 3)) (ht : (pc : Int) + off = (tgt : Int)) (kk : Ex M k b1 b2 tgt L st S H R) : Ex M k b1 b2 pc L (.ref x :: st) S H R := by
  intro l base D tc sa p e Rm s m args below meth c Hh locs cells slots ls C hRp hLv
  exact lv_ifnonnull C.1.1 C.1.2.1 d ht (kk l base D tc sa p e Rm s m args below meth c Hh locs cells slots ls C hRp hLv)
theorem ex_ifnonnullN {off : Int} (d : decode (mC M) pc = .ok (.ifnonnull off, 3)) (kk : Ex M k b1 b2 (pc + 3) L st S H R) : Ex M k b1 b2 pc L (.null :: st) S H R := by
  intro l base D tc sa p e Rm s m args below meth c Hh locs cells slots ls C hRp hLv
  exact lv_ifnonnullN C.1.1 C.1.2.1 d (kk l base D tc sa p e Rm s m args below meth c Hh locs cells slots ls C hRp hLv)
theorem ex_ifnull {x : Nat} {off : Int} (d : decode (mC M) pc = .ok (.ifnull off, 3)) (kk : Ex M k b1 b2 (pc + 3) L st S H R) : Ex M k b1 b2 pc L (.ref x :: st) S H R := by
  intro l base D tc sa p e Rm s m args below meth c Hh locs cells slots ls C hRp hLv
  exact lv_ifnull C.1.1 C.1.2.1 d (kk l base D tc sa p e Rm s m args below meth c Hh locs cells slots ls C hRp hLv)
theorem ex_ifnullN {off : Int} {tgt : Nat} (d : decode (mC M) pc = .ok (.ifnull off, 3)) (ht : (pc : Int) + off = (tgt : Int)) (kk : Ex M k b1 b2 tgt L st S H R) : Ex M k b1 b2 pc L (.null :: st) S H R := by
  intro l base D tc sa p e Rm s m args below meth c Hh locs cells slots ls C hRp hLv
  exact lv_ifnullN C.1.1 C.1.2.1 d ht (kk l base D tc sa p e Rm s m args below meth c Hh locs cells slots ls C hRp hLv)
/-! ends -/
theorem xEnd {base : Nat} {D : va_G} {tc sa : Nat → Nat} {s : State} {Hh : Heap} {locs : List Loc} {v : Option Value} {args : Array Value} (hS : va_S (xBelow base) s.heap Hh locs) (hRp : xRep base D tc S H Hh) (t : State) (ht : t.heap = Hh) : xQ base D tc sa (v, S, H) args s (.returned (v.map (xV base sa))) t := ⟨rfl, by rw [ht]; exact hRp, hS.F ht⟩
theorem ex_nret {v : Int32} {ty : FieldType} (d : decode (mC M) pc = .ok (.ireturn, 1)) (hT : mT M = some ty) (hn : narrow ty (.int v) = .int v) : Ex M k b1 b2 pc L [.int v] S H (some (.int v), S, H) := by
  intro l base D tc sa p e Rm s m args below meth c Hh locs cells slots ls C hRp hLv
  refine W.widen (k := Rm.cells) (n := Rm.slots) (by have := C.2.1.2.2.1; omega) (by have := C.2.1.2.2.2; omega) ?_
  exact W.zret C.1.1 C.1.2.1 (C.1.2.2.2.1.trans hT) hn (fun t ht _ => xEnd (v := some (.int v)) C.2.2 hRp t ht) C.2.2.2.2 d C.1.2.2.2.2.2.1
theorem ex_iret {v : Int32} (d : decode (mC M) pc = .ok (.ireturn, 1)) (hT : mT M = some .int) : Ex M k b1 b2 pc L [.int v] S H (some (.int v), S, H) := ex_nret d hT rfl
theorem ex_zret {v : Int32} (d : decode (mC M) pc = .ok (.ireturn, 1)) (hT : mT M = some .boolean) (hz : v = 0 ∨ v = 1) : Ex M k b1 b2 pc L [.int v] S H (some (.int v), S, H) := ex_nret d hT (by rcases hz with rfl | rfl <;> rfl)
theorem ex_lret {v : Int64} (d : decode (mC M) pc = .ok (.lreturn, 1)) (hT : mT M = some .long) : Ex M k b1 b2 pc L [.long v] S H (some (.long v), S, H) := by
  intro l base D tc sa p e Rm s m args below meth c Hh locs cells slots ls C hRp hLv
  refine W.widen (k := Rm.cells) (n := Rm.slots) (by have := C.2.1.2.2.1; omega) (by have := C.2.1.2.2.2; omega) ?_
  exact W.lret C.1.1 C.1.2.1 (C.1.2.2.2.1.trans hT) (fun t ht _ => xEnd (v := some (.long v)) C.2.2 hRp t ht) C.2.2.2.2 d C.1.2.2.2.2.2.1
theorem ex_vret (d : decode (mC M) pc = .ok (.return_, 1)) (hT : mT M = none) : Ex M k b1 b2 pc L [] S H (none, S, H) := by
  intro l base D tc sa p e Rm s m args below meth c Hh locs cells slots ls C hRp hLv
  refine W.widen (k := Rm.cells) (n := Rm.slots) (by have := C.2.1.2.2.1; omega) (by have := C.2.1.2.2.2; omega) ?_
  exact W.vret C.1.1 C.1.2.1 (C.1.2.2.2.1.trans hT) (fun t ht _ => xEnd (v := none) C.2.2 hRp t ht) C.2.2.2.2 d C.1.2.2.2.2.2.1
end XD
