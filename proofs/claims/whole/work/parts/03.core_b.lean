/-! ===== heap: reading, storing ===== -/
section XB
variable {M : xM} {k b1 b2 pc : Nat} {L : List (Option Value)} {st : List Value} {S S' : xS} {H H' : xH} {R : xR}
variable {base : Nat} {D : va_G} {tc sa : Nat → Nat} {Hh Hh' : Heap} {q n : Nat}
theorem xAt_1 (h : xAt base D tc S H Hh q) (hs : fS S q = (1, n)) : Hh[base + q]? = some (arrV (tc 0) n (fun j => .int (hI H q j))) := by
  unfold xAt at h; rw [hs] at h; exact h
theorem xAt_2 (h : xAt base D tc S H Hh q) (hs : fS S q = (2, n)) : Hh[base + q]? = some (arrV (tc 1) n (fun j => .int (hI H q j))) := by
  unfold xAt at h; rw [hs] at h; exact h
theorem xAt_3 (h : xAt base D tc S H Hh q) (hs : fS S q = (3, n)) : Hh[base + q]? = some (arrV (tc 2) n (fun j => .int (hI H q j))) := by
  unfold xAt at h; rw [hs] at h; exact h
theorem xAt_4 (h : xAt base D tc S H Hh q) (hs : fS S q = (4, n)) : Hh[base + q]? = some (arrV (tc 3) n (fun j => .long (hL H q j))) := by
  unfold xAt at h; rw [hs] at h; exact h
theorem xAt_5 (h : xAt base D tc S H Hh q) (hs : fS S q = (5, n)) : Hh[base + q]? = some (arrV (tc 4) n (fun j => xr base (hR H q j))) := by
  unfold xAt at h; rw [hs] at h; exact h
theorem xAt_6 (h : xAt base D tc S H Hh q) (hs : fS S q = (6, n)) : ∃ r, vwCl[n]? = some r ∧ t_OB (base + q) (D.1 n) r.2.2 (D.2 n) Hh (xF base S H q n) := by
  unfold xAt at h; rw [hs] at h; exact h
theorem xAt.off (h : xAt base D tc S H Hh q) (e : Hh'[base + q]? = Hh[base + q]?) (ex : ∀ z : Nat, z < base → Hh'[z]? = Hh[z]?) (eS : fS S' q = fS S q) (eF : ∀ k, fR S' q k = fR S q k) (eI : ∀ k, hI H' q k = hI H q k) (eL : ∀ k, hL H' q k = hL H q k) (eR : ∀ k, hR H' q k = hR H q k) : xAt base D tc S' H' Hh' q := by
  unfold xAt at h ⊢
  rw [eS]
  generalize fS S q = sh at h ⊢
  obtain ⟨a, n⟩ := sh
  have fI : (fun j => Value.int (hI H' q j)) = (fun j => Value.int (hI H q j)) := by funext j; rw [eI]
  have fL : (fun j => Value.long (hL H' q j)) = (fun j => Value.long (hL H q j)) := by funext j; rw [eL]
  have fQ : (fun j => xr base (hR H' q j)) = (fun j => xr base (hR H q j)) := by funext j; rw [eR]
  match a, h with
  | 0, h => exact ((show n = 0 ∨ (tc 5 < base ∧ ∃ scr : Cell, Hh[tc 5]? = some scr ∧ xSc (tc 6) (n - 1) (hI H q) scr) from h).imp id (fun h => ⟨h.1, h.2.imp (fun scr z => ⟨by rw [ex _ h.1]; exact z.1, z.2.1, z.2.2.1, z.2.2.2.1, z.2.2.2.2.1, fun j hj => by rw [eI]; exact z.2.2.2.2.2 j hj⟩)⟩) : n = 0 ∨ (tc 5 < base ∧ ∃ scr : Cell, Hh'[tc 5]? = some scr ∧ xSc (tc 6) (n - 1) (hI H' q) scr))
  | 1, h => exact (by rw [fI, e]; exact h : Hh'[base + q]? = some (arrV (tc 0) n (fun j => .int (hI H' q j))))
  | 2, h => exact (by rw [fI, e]; exact h : Hh'[base + q]? = some (arrV (tc 1) n (fun j => .int (hI H' q j))))
  | 3, h => exact (by rw [fI, e]; exact h : Hh'[base + q]? = some (arrV (tc 2) n (fun j => .int (hI H' q j))))
  | 4, h => exact (by rw [fL, e]; exact h : Hh'[base + q]? = some (arrV (tc 3) n (fun j => .long (hL H' q j))))
  | 5, h => exact (by rw [fQ, e]; exact h : Hh'[base + q]? = some (arrV (tc 4) n (fun j => xr base (hR H' q j))))
  | a + 6, h =>
    obtain ⟨r, h1, h2⟩ := h
    exact ⟨r, h1, (h2.kept e).to (fun k _ => by unfold xF; rw [eI, eL, eR, eF])⟩
theorem xAt.lt (h : xAt base D tc S H Hh q) (hs : (fS S q).1 ≠ 0) : base + q < Hh.size := by
  unfold xAt at h
  generalize fS S q = sh at h hs
  obtain ⟨a, n⟩ := sh
  match a, h, hs with
  | 0, _, hs => exact absurd rfl hs
  | 1, h, _ => exact (Array.getElem?_eq_some_iff.mp h).1
  | 2, h, _ => exact (Array.getElem?_eq_some_iff.mp h).1
  | 3, h, _ => exact (Array.getElem?_eq_some_iff.mp h).1
  | 4, h, _ => exact (Array.getElem?_eq_some_iff.mp h).1
  | 5, h, _ => exact (Array.getElem?_eq_some_iff.mp h).1
  | a + 6, h, _ =>
    obtain ⟨r, h1, cell, h2, -⟩ := h
    exact (Array.getElem?_eq_some_iff.mp h2).1
/-- the class of number ci, as the tables have it -/
def xCl (ci : Nat) (C : String) (T : u_T) (N : Nat) (ty : Nat → FieldType) : Prop :=
  vwCl[ci]? = some (C, T, N) ∧ (∀ w ∈ u_ws C T N, w ∈ lw_g) ∧ (∀ k, k < N → parseFieldDescriptor (T k).2.2.1 = some (ty k)) ∧ (∀ a, a < N → ∀ b, b < N → a ≠ b → (T a).2.1 ≠ (T b).2.1) ∧ ∀ k, k < N → (T k).1 = C
theorem xV_rf (r : Option Nat) : xV base sa (va_rf r) = xr base r := by cases r <;> rfl
section GET
variable {C : String} {T : u_T} {N ci k0 i a : Nat} {ty : Nat → FieldType}
theorem xW_get {p : Program} {l : Launch} {e : Env} {Rm : Room} {s : State} {m : MethodId} {args : Array Value} {below : List Frame} {meth : Method} {c : Code} {locs : List Loc} {cells slots : Nat} {Q : State → Prop} {ls : Array Slot} {rest : List Value} (cl : xCl ci C T N ty) (hk0 : k0 < N) (hl : Cond.fieldLink (mY M).cls i C (T k0).2.1 (T k0).2.2.1 ∈ lw_g) (d : decode (mC M) pc = .ok (.getfield i, 3)) (hs : fS S a = (6, ci)) (C0 : xC M k b1 b2 base D tc sa p Rm s m args meth c Hh locs cells slots) (hR : xRep base D tc S H Hh)
    (kk : W p l e Rm s m args below meth c Hh locs cells slots Q (F0 m (pc + 3) ls (xF base S H a ci k0 :: rest))) : W p l e Rm s m args below meth c Hh locs cells slots Q (F0 m pc ls (.ref (base + a) :: rest)) := by
  obtain ⟨⟨hx, hb, hml, hret, hnm, hlk, hown, hts, hG⟩, -, hS⟩ := C0
  obtain ⟨hc, hin, hty, hnmm, hT⟩ := cl
  obtain ⟨r, h1, cell, q1, q2, q3, q4⟩ := xAt_6 (hR.2 a) hs
  have hr : r = (C, T, N) := Option.some.inj (h1.symm.trans hc)
  subst hr
  obtain ⟨hS, hfc, kC, hkC, hkind⟩ := hG.1.1 ci _ hc
  obtain ⟨cf, kf, fi, f, hi, hsl⟩ := hS k0 hk0
  refine W.getf hx hb hown (hts _ hl) (by rw [hT k0 hk0] at hi; exact hi) (u_facts hfc hkC (u_lays hts hin hk0) hi).1 q1 (by rw [q3]; exact fun h => by cases h) (v := xF base S H a ci k0) ?_ rfl rfl d kk
  rw [hsl, q4 k0 hk0]
theorem ex_getI (cl : xCl ci C T N ty) (hk0 : k0 < N) (hf : fK ci k0 = 0) (hl : Cond.fieldLink (mY M).cls i C (T k0).2.1 (T k0).2.2.1 ∈ lw_g) (d : decode (mC M) pc = .ok (.getfield i, 3)) (hs : fS S a = (6, ci)) (kk : Ex M k b1 b2 (pc + 3) L (.int (hI H a k0) :: st) S H R) : Ex M k b1 b2 pc L (.ref a :: st) S H R := by
  intro l base D tc sa p e Rm s m args below meth c Hh locs cells slots ls C hR hL
  refine xW_get cl hk0 hl d hs C hR ?_
  rw [show xF base S H a ci k0 = .int (hI H a k0) by unfold xF; rw [hf]; rfl]
  exact kk l base D tc sa p e Rm s m args below meth c Hh locs cells slots ls C hR hL
theorem ex_getL (cl : xCl ci C T N ty) (hk0 : k0 < N) (hf : fK ci k0 = 1) (hl : Cond.fieldLink (mY M).cls i C (T k0).2.1 (T k0).2.2.1 ∈ lw_g) (d : decode (mC M) pc = .ok (.getfield i, 3)) (hs : fS S a = (6, ci)) (kk : Ex M k b1 b2 (pc + 3) L (.long (hL H a k0) :: st) S H R) : Ex M k b1 b2 pc L (.ref a :: st) S H R := by
  intro l base D tc sa p e Rm s m args below meth c Hh locs cells slots ls C hR hL'
  refine xW_get cl hk0 hl d hs C hR ?_
  rw [show xF base S H a ci k0 = .long (hL H a k0) by unfold xF; rw [hf]; rfl]
  exact kk l base D tc sa p e Rm s m args below meth c Hh locs cells slots ls C hR hL'
theorem ex_getR {r : Nat} (cl : xCl ci C T N ty) (hk0 : k0 < N) (hf : fK ci k0 = 2) (hl : Cond.fieldLink (mY M).cls i C (T k0).2.1 (T k0).2.2.1 ∈ lw_g) (d : decode (mC M) pc = .ok (.getfield i, 3)) (hs : fS S a = (6, ci)) (hr : hR H a k0 = some r) (kk : Ex M k b1 b2 (pc + 3) L (.ref r :: st) S H R) : Ex M k b1 b2 pc L (.ref a :: st) S H R := by
  intro l base D tc sa p e Rm s m args below meth c Hh locs cells slots ls C hR' hL
  refine xW_get cl hk0 hl d hs C hR' ?_
  rw [show xF base S H a ci k0 = .ref (base + r) by unfold xF; rw [hf]; show xr base (hR H a k0) = _; rw [hr]; rfl]
  exact kk l base D tc sa p e Rm s m args below meth c Hh locs cells slots ls C hR' hL
theorem ex_getF {r : Nat} (cl : xCl ci C T N ty) (hk0 : k0 < N) (hf : fK ci k0 = 3) (hl : Cond.fieldLink (mY M).cls i C (T k0).2.1 (T k0).2.2.1 ∈ lw_g) (d : decode (mC M) pc = .ok (.getfield i, 3)) (hs : fS S a = (6, ci)) (hr : fR S a k0 = some r) (kk : Ex M k b1 b2 (pc + 3) L (.ref r :: st) S H R) : Ex M k b1 b2 pc L (.ref a :: st) S H R := by
  intro l base D tc sa p e Rm s m args below meth c Hh locs cells slots ls C hR' hL
  refine xW_get cl hk0 hl d hs C hR' ?_
  rw [show xF base S H a ci k0 = .ref (base + r) by unfold xF; rw [hf]; show xr base (fR S a k0) = _; rw [hr]; rfl]
  exact kk l base D tc sa p e Rm s m args below meth c Hh locs cells slots ls C hR' hL
/-- putfield: the new picture agrees elsewhere, and holds the value there -/
theorem xW_put {p : Program} {l : Launch} {e : Env} {Rm : Room} {s : State} {m : MethodId} {args : Array Value} {below : List Frame} {meth : Method} {c : Code} {locs : List Loc} {cells slots : Nat} {Q : State → Prop} {ls : Array Slot} {rest : List Value} {v : Value} (cl : xCl ci C T N ty) (hk0 : k0 < N) (hl : Cond.fieldLink (mY M).cls i C (T k0).2.1 (T k0).2.2.1 ∈ lw_g) (d : decode (mC M) pc = .ok (.putfield i, 3)) (hs : fS S a = (6, ci)) (hfin : (T k0).2.2.2 = false ∨ ((T k0).2.2.2 = true ∧ (mY M).cls = C ∧ (mY M).name = "<init>")) (hn : narrow (ty k0) v = v) (hft : fits (ty k0) v = true)
    (eZ : fZ S' = fZ S) (eS : ∀ q, fS S' q = fS S q) (eF : ∀ q, q ≠ a → ∀ k, fR S' q k = fR S q k) (eI : ∀ q, q ≠ a → ∀ k, hI H' q k = hI H q k) (eL : ∀ q, q ≠ a → ∀ k, hL H' q k = hL H q k) (eR : ∀ q, q ≠ a → ∀ k, hR H' q k = hR H q k) (hnew : ∀ j, j < N → updV (xF base S H a ci) k0 v j = xF base S' H' a ci j)
    (C0 : xC M k b1 b2 base D tc sa p Rm s m args meth c Hh locs cells slots) (hR : xRep base D tc S H Hh)
    (kk : ∀ Hh1 locs1, xC M k b1 b2 base D tc sa p Rm s m args meth c Hh1 locs1 cells slots → xRep base D tc S' H' Hh1 → W p l e Rm s m args below meth c Hh1 locs1 cells slots Q (F0 m (pc + 3) ls rest)) : W p l e Rm s m args below meth c Hh locs cells slots Q (F0 m pc ls (v :: .ref (base + a) :: rest)) := by
  have C1 := C0
  obtain ⟨⟨hx, hb, hml, hret, hnm, hlk, hown, hts, hG⟩, hrm, hS⟩ := C0
  obtain ⟨hc, hin, hty, hnmm, hT⟩ := cl
  have hap := va_apart (own := C) hts hin ty hty hnmm hG.1 hc
  obtain ⟨r, h1, cell, q1, q2, q3, q4⟩ := xAt_6 (hR.2 a) hs
  have hr : r = (C, T, N) := Option.some.inj (h1.symm.trans hc)
  subst hr
  obtain ⟨hSl, hfc, kC, hkC, hkind⟩ := hG.1.1 ci _ hc
  obtain ⟨cf, kf, fi, f, hi, hsl⟩ := hSl k0 hk0
  have hd := hty k0 hk0
  have hst := (u_facts hfc hkC (u_lays hts hin hk0) hi).1
  have hi' : s.fieldFound? C (T k0).2.1 (T k0).2.2.1 = some (cf, kf, fi, f) := by rw [hT k0 hk0] at hi; exact hi
  have fin : ∀ H' : Heap, H'[base + a]? = some (cell.setSlot f.slot v) → H'.size = Hh.size → (∀ q, q ≠ base + a → H'[q]? = Hh[q]?) → W p l e Rm s m args below meth c H' (locs ++ [⟨base + a, f.slot⟩]) cells slots Q (F0 m (pc + 3) ls rest) := by
    intro H1 e1 e2 e3
    refine kk H1 _ ⟨C1.1, hrm, hS.put e2 e3 (Nat.le_add_right base a)⟩ ⟨by rw [e2, hR.1, eZ], fun q => ?_⟩
    by_cases hq : q = a
    · subst hq
      unfold xAt
      rw [eS, hs]
      rw [hsl] at e1
      exact ⟨_, hc, t_OB.to (V := updV (xF base S H q ci) k0 v) ⟨_, e1, q2, q3, t_set q4 hap hk0 v⟩ hnew⟩
    · exact (hR.2 q).off (e3 _ (by omega)) (fun z hz => e3 z (by omega)) (eS q) (eF q hq) (eI q hq) (eL q hq) (eR q hq)
  rcases hfin with hfin | ⟨hfin, hc1, hc2⟩
  · have hlay := hts _ (hin _ (u_in_lay hk0))
    unfold u_lay at hlay
    rw [if_neg (by rw [hfin]; decide)] at hlay
    have h6 := u_store hfc hkC hkind hlay hi hd hn hft
    exact W.putK hx hb (f := f) ⟨hown, hts _ hl, ⟨_, _, _, hi'⟩, hst⟩ (by rw [q2]; exact h6) q1 q3 (by rw [hsl]; exact k2_hasslot (q4 k0 hk0)) rfl rfl d fin
  · have hlay := hts _ (hin _ (u_in_lay hk0))
    unfold u_lay at hlay
    rw [if_pos hfin] at hlay
    have hcf : m.cls = cf := by
      obtain ⟨_, _, c', _, _, _, -, -, hf', -, -, -, hown2, -⟩ := Cond.laysFinal_spec hlay
      have e1 : c' = cf := by have := hi.symm.trans hf'; simp at this; exact this.1.symm
      rw [hT k0 hk0] at hown2
      rw [hc1] at hown
      rw [← e1]; exact Option.some.inj (hown.symm.trans hown2)
    have h6 := u_fits hfc hkC hkind (Or.inr hlay) hi hd hn hft
    exact W.putFinK hx hb hown (hts _ hl) hi' hst hcf (by rw [hnm]; exact hc2) (by rw [q2]; exact h6) q1 q3 (by rw [hsl]; exact k2_hasslot (q4 k0 hk0)) rfl rfl d fin
theorem up2_s {α : Type} {f : Nat → Nat → α} {a k : Nat} {v : α} : up2 f a k v a k = v := by simp [up2]
theorem up2_n {α : Type} {f : Nat → Nat → α} {a k q j : Nat} {v : α} (h : ¬ (q = a ∧ j = k)) : up2 f a k v q j = f q j := by simp [up2, h]
theorem ex_putI {x : Int32} (cl : xCl ci C T N ty) (hk0 : k0 < N) (hf : fK ci k0 = 0) (hl : Cond.fieldLink (mY M).cls i C (T k0).2.1 (T k0).2.2.1 ∈ lw_g) (hfin : (T k0).2.2.2 = false ∨ ((T k0).2.2.2 = true ∧ (mY M).cls = C ∧ (mY M).name = "<init>")) (d : decode (mC M) pc = .ok (.putfield i, 3)) (hn : narrow (ty k0) (.int x) = .int x ∧ fits (ty k0) (.int x) = true) (hs : fS S a = (6, ci)) (kk : Ex M k b1 b2 (pc + 3) L st S (sI H a k0 x) R) : Ex M k b1 b2 pc L (.int x :: .ref a :: st) S H R := by
  intro l base D tc sa p e Rm s m args below meth c Hh locs cells slots ls C hRp hLv
  refine xW_put (S := S) (H := H) (S' := S) (H' := sI H a k0 x) (v := .int x) cl hk0 hl d hs hfin hn.1 hn.2 rfl (fun _ => rfl) (fun _ _ _ => rfl) (fun q hq j => up2_n (fun h => hq h.1)) (fun _ _ _ => rfl) (fun _ _ _ => rfl) (fun j _ => ?_) C hRp (fun Hh1 locs1 C1 hR1 => kk l base D tc sa p e Rm s m args below meth c Hh1 locs1 cells slots ls C1 hR1 hLv)
  by_cases hj : j = k0
  · subst hj; unfold xF; rw [hf]; simp [updV, hI, sI, up2]
  · unfold xF; simp [updV, hj, hI, sI, up2, hL, hR]
theorem ex_putL {x : Int64} (cl : xCl ci C T N ty) (hk0 : k0 < N) (hf : fK ci k0 = 1) (hl : Cond.fieldLink (mY M).cls i C (T k0).2.1 (T k0).2.2.1 ∈ lw_g) (hfin : (T k0).2.2.2 = false ∨ ((T k0).2.2.2 = true ∧ (mY M).cls = C ∧ (mY M).name = "<init>")) (d : decode (mC M) pc = .ok (.putfield i, 3)) (hn : narrow (ty k0) (.long x) = .long x ∧ fits (ty k0) (.long x) = true) (hs : fS S a = (6, ci)) (kk : Ex M k b1 b2 (pc + 3) L st S (sL H a k0 x) R) : Ex M k b1 b2 pc L (.long x :: .ref a :: st) S H R := by
  intro l base D tc sa p e Rm s m args below meth c Hh locs cells slots ls C hRp hLv
  refine xW_put (S := S) (H := H) (S' := S) (H' := sL H a k0 x) (v := .long x) cl hk0 hl d hs hfin hn.1 hn.2 rfl (fun _ => rfl) (fun _ _ _ => rfl) (fun _ _ _ => rfl) (fun q hq j => up2_n (fun h => hq h.1)) (fun _ _ _ => rfl) (fun j _ => ?_) C hRp (fun Hh1 locs1 C1 hR1 => kk l base D tc sa p e Rm s m args below meth c Hh1 locs1 cells slots ls C1 hR1 hLv)
  by_cases hj : j = k0
  · subst hj; unfold xF; rw [hf]; simp [updV, hL, sL, up2]
  · unfold xF; simp [updV, hj, hI, sL, up2, hL, hR]
theorem ex_putR {x : Nat} (cl : xCl ci C T N ty) (hk0 : k0 < N) (hf : fK ci k0 = 2) (hl : Cond.fieldLink (mY M).cls i C (T k0).2.1 (T k0).2.2.1 ∈ lw_g) (hfin : (T k0).2.2.2 = false ∨ ((T k0).2.2.2 = true ∧ (mY M).cls = C ∧ (mY M).name = "<init>")) (d : decode (mC M) pc = .ok (.putfield i, 3)) (hn : ∀ z, narrow (ty k0) (.ref z) = .ref z ∧ fits (ty k0) (.ref z) = true) (hs : fS S a = (6, ci)) (kk : Ex M k b1 b2 (pc + 3) L st S (sR H a k0 (some x)) R) : Ex M k b1 b2 pc L (.ref x :: .ref a :: st) S H R := by
  intro l base D tc sa p e Rm s m args below meth c Hh locs cells slots ls C hRp hLv
  refine xW_put (S := S) (H := H) (S' := S) (H' := sR H a k0 (some x)) (v := .ref (base + x)) cl hk0 hl d hs hfin (hn _).1 (hn _).2 rfl (fun _ => rfl) (fun _ _ _ => rfl) (fun _ _ _ => rfl) (fun _ _ _ => rfl) (fun q hq j => up2_n (fun h => hq h.1)) (fun j _ => ?_) C hRp (fun Hh1 locs1 C1 hR1 => kk l base D tc sa p e Rm s m args below meth c Hh1 locs1 cells slots ls C1 hR1 hLv)
  by_cases hj : j = k0
  · subst hj; unfold xF; rw [hf]; simp [updV, hR, sR, up2, xr, va_rf]
  · unfold xF; simp [updV, hj, hI, sR, up2, hL, hR]
theorem ex_putF {x : Nat} (cl : xCl ci C T N ty) (hk0 : k0 < N) (hf : fK ci k0 = 3) (hl : Cond.fieldLink (mY M).cls i C (T k0).2.1 (T k0).2.2.1 ∈ lw_g) (hfin : (T k0).2.2.2 = false ∨ ((T k0).2.2.2 = true ∧ (mY M).cls = C ∧ (mY M).name = "<init>")) (d : decode (mC M) pc = .ok (.putfield i, 3)) (hn : ∀ z, narrow (ty k0) (.ref z) = .ref z ∧ fits (ty k0) (.ref z) = true) (hs : fS S a = (6, ci)) (kk : Ex M k b1 b2 (pc + 3) L st (sF S a k0 (some x)) H R) : Ex M k b1 b2 pc L (.ref x :: .ref a :: st) S H R := by
  intro l base D tc sa p e Rm s m args below meth c Hh locs cells slots ls C hRp hLv
  refine xW_put (S := S) (H := H) (S' := sF S a k0 (some x)) (H' := H) (v := .ref (base + x)) cl hk0 hl d hs hfin (hn _).1 (hn _).2 rfl (fun _ => rfl) (fun q hq j => up2_n (fun h => hq h.1)) (fun _ _ _ => rfl) (fun _ _ _ => rfl) (fun _ _ _ => rfl) (fun j _ => ?_) C hRp (fun Hh1 locs1 C1 hR1 => kk l base D tc sa p e Rm s m args below meth c Hh1 locs1 cells slots ls C1 hR1 hLv)
  by_cases hj : j = k0
  · subst hj; unfold xF; rw [hf]; simp [updV, fR, sF, up2, xr, va_rf]
  · unfold xF; simp [updV, hj, fR, sF, up2]
end GET
end XB
