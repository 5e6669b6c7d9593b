/-! ===== the objects' beginnings ===== -/
section INI
variable {Ls n m q k v t : Nat} {H H1 : xH} {sh : Nat × Nat} {l : List (Nat × Nat × Nat)} {z : Int32} {r : Option Nat} {A : Nat → Prop}
/-- the final fields in the order in which they are written -/
def fxO : List (Nat × Nat × Nat) := [(0, 0, 1), (2, 0, 3), (2, 1, 4), (2, 2, 5), (2, 3, 6), (0, 2, 2), (7, 0, 2), (8, 1, 9), (8, 2, 10), (8, 4, 11), (12, 0, 13), (12, 1, 14), (12, 2, 15), (8, 0, 2), (7, 1, 8), (0, 3, 7), (16, 0, 17), (16, 1, 18), (16, 3, 19), (16, 4, 20), (16, 6, 21), (0, 4, 16), (22, 0, 23), (0, 5, 22), (25, 0, 26), (24, 0, 25), (27, 0, 28), (24, 1, 27), (29, 0, 30), (24, 2, 29), (31, 0, 32), (31, 1, 33), (31, 2, 34), (24, 3, 31), (24, 4, 35), (24, 5, 36), (24, 6, 37), (24, 7, 38), (24, 8, 39), (24, 10, 40), (24, 11, 41), (24, 13, 42), (24, 14, 43), (24, 15, 44), (46, 0, 47), (45, 0, 46), (48, 0, 49), (45, 1, 48), (50, 0, 51), (45, 2, 50), (52, 0, 53), (52, 1, 54), (52, 2, 55), (45, 3, 52), (45, 4, 56), (45, 5, 57), (45, 6, 58), (45, 7, 59), (45, 8, 60), (45, 10, 61), (45, 11, 62), (45, 13, 63), (45, 14, 64), (45, 15, 65), (66, 0, 16), (66, 1, 22), (0, 8, 66), (67, 0, 68), (67, 1, 69), (67, 2, 70), (67, 3, 71), (0, 9, 67), (72, 0, 73), (72, 1, 74), (72, 2, 75), (72, 3, 76), (0, 10, 72), (77, 0, 78), (77, 1, 79), (77, 2, 80), (77, 3, 81), (0, 11, 77), (0, 13, 82), (83, 1, 84), (83, 3, 85), (83, 4, 86), (83, 5, 87), (83, 6, 88), (83, 7, 89), (83, 8, 90), (83, 9, 91), (83, 10, 92), (83, 11, 93), (83, 12, 94), (83, 13, 95), (83, 14, 96), (83, 15, 97), (83, 16, 98), (83, 17, 99), (83, 18, 100), (83, 32, 101), (83, 33, 102), (83, 35, 103), (83, 38, 104), (83, 39, 105), (83, 40, 106), (83, 41, 107), (83, 42, 108), (83, 43, 109), (83, 44, 110), (83, 45, 111), (83, 49, 112), (83, 50, 113), (83, 51, 114), (83, 52, 115), (83, 53, 116), (83, 54, 117), (83, 55, 118)]
def fzL (l : List (Nat × Nat × Nat)) (q k : Nat) : Option Nat := l.foldl (fun r e => if q = e.1 ∧ k = e.2.1 then some e.2.2 else r) none
/-- the first n places made, the first m final fields written; the script of Ls ints -/
def tS (Ls n m : Nat) : xS := (fun q => if q < n then fxT.getD q (0, 0) else if q = 5000000 then (0, Ls + 1) else (0, 0), fzL (fxO.take m), n)
theorem fzL_none0 : ∀ (l : List (Nat × Nat × Nat)) (r : Option Nat), (∀ e ∈ l, e.1 ≠ q) → l.foldl (fun r e => if q = e.1 ∧ k = e.2.1 then some e.2.2 else r) r = r
  | [], _, _ => rfl
  | e :: l, r, h => by
    show l.foldl _ (if q = e.1 ∧ k = e.2.1 then some e.2.2 else r) = r
    rw [if_neg (fun z => h e List.mem_cons_self z.1.symm)]
    exact fzL_none0 l r (fun e2 h2 => h e2 (List.mem_cons_of_mem _ h2))
theorem fzL_none (h : ∀ e ∈ l, e.1 ≠ q) : fzL l q k = none := fzL_none0 l none h
theorem tS_n (hT : fxT.getD n (0, 0) = sh) (hf : (fxO.take m).all (fun e => decide (e.1 ≠ n)) = true) : nS (tS Ls n m) sh = tS Ls (n + 1) m := by
  have hf : ∀ e ∈ fxO.take m, e.1 ≠ n := fun e he => of_decide_eq_true (List.all_eq_true.mp hf e he)
  refine Prod.ext (funext fun q => ?_) (Prod.ext (funext fun q => funext fun k => ?_) rfl)
  · show (if q = n then sh else if q < n then fxT.getD q (0, 0) else if q = 5000000 then (0, Ls + 1) else (0, 0)) = (if q < n + 1 then fxT.getD q (0, 0) else if q = 5000000 then (0, Ls + 1) else (0, 0))
    by_cases e : q = n
    · rw [if_pos e, if_pos (by omega), e, hT]
    · rw [if_neg e]
      by_cases e2 : q < n
      · rw [if_pos e2, if_pos (by omega)]
      · rw [if_neg e2, if_neg (show ¬ q < n + 1 by omega)]
  · show (if q = n then none else fzL (fxO.take m) q k) = fzL (fxO.take m) q k
    by_cases e : q = n
    · rw [if_pos e, e, fzL_none hf]
    · rw [if_neg e]
theorem tS_f {a : Nat} (he : fxO[m]? = some (a, k, v)) : sF (tS Ls n m) a k (some v) = tS Ls n (m + 1) := by
  refine Prod.ext rfl (Prod.ext (funext fun q => funext fun j => ?_) rfl)
  show (if q = a ∧ j = k then some v else fzL (fxO.take m) q j) = fzL (fxO.take (m + 1)) q j
  rw [List.take_succ, he]
  unfold fzL
  rw [List.foldl_append]
  rfl
theorem tS_z : fZ (tS Ls n m) = n := rfl
def ZaP (n : Nat) (H : xH) : Prop := ∀ q, n ≤ q → q < 5000000 → (∀ k, hI H q k = 0) ∧ (∀ k, hL H q k = 0) ∧ ∀ k, hR H q k = none
theorem ZaP.mo {n2 : Nat} (h : ZaP n H) (hn : n ≤ n2) : ZaP n2 H := fun q h1 h2 => h q (Nat.le_trans hn h1) h2
theorem ZaP.sI {a : Nat} (h : ZaP n H) (ha : a < n) : ZaP n (sI H a k z) := fun q h1 h2 => ⟨fun j => by rw [hI_sI, if_neg (by omega)]; exact (h q h1 h2).1 j, fun j => by rw [hL_sI]; exact (h q h1 h2).2.1 j, fun j => by rw [hR_sI]; exact (h q h1 h2).2.2 j⟩
theorem ZaP.sR {a : Nat} (h : ZaP n H) (ha : a < n) : ZaP n (sR H a k r) := fun q h1 h2 => ⟨fun j => by rw [hI_sR]; exact (h q h1 h2).1 j, fun j => by rw [hL_sR]; exact (h q h1 h2).2.1 j, fun j => by rw [hR_sR, if_neg (by omega)]; exact (h q h1 h2).2.2 j⟩
theorem ZaP.off (h : ZaP n H) (ho : Off A H H1) (h0 : ∀ q, n ≤ q → q < 5000000 → ¬ A q) : ZaP n H1 := fun q h1 h2 => ⟨fun j => (ho.I (h0 q h1 h2) j).trans ((h q h1 h2).1 j), fun j => (ho.L (h0 q h1 h2) j).trans ((h q h1 h2).2.1 j), fun j => (ho.R (h0 q h1 h2) j).trans ((h q h1 h2).2.2 j)⟩
theorem nH_id {S : xS} (h : ZaP n H) (hz : fZ S = n) (h5 : n < 5000000) : nH S H = H := by
  obtain ⟨h1, h2, h3⟩ := h n (Nat.le_refl n) h5
  have hz2 : S.2.2 = n := hz
  refine Prod.ext (funext fun q => funext fun j => ?_) (Prod.ext (funext fun q => funext fun j => ?_) (funext fun q => funext fun j => ?_))
  · show (if q = S.2.2 then 0 else H.1 q j) = H.1 q j
    by_cases e : q = S.2.2
    · rw [if_pos e, e, hz2]; exact (h1 j).symm
    · rw [if_neg e]
  · show (if q = S.2.2 then 0 else H.2.1 q j) = H.2.1 q j
    by_cases e : q = S.2.2
    · rw [if_pos e, e, hz2]; exact (h2 j).symm
    · rw [if_neg e]
  · show (if q = S.2.2 then none else H.2.2 q j) = H.2.2 q j
    by_cases e : q = S.2.2
    · rw [if_pos e, e, hz2]; exact (h3 j).symm
    · rw [if_neg e]
theorem inst_X0 : Cond.instantiable RX0 6 ∈ lw_g := lw_gin 379 (by decide +kernel) (by decide +kernel)
theorem ini_X0 : Cond.initialized RX0 ∈ lw_g := lw_gin 14 (by decide +kernel) (by decide +kernel)
theorem dflt_X0 : ∀ j, j < 6 → defaultValue (tyX0 j) = match fK 0 j with | 0 => .int 0 | 1 => .long 0 | _ => .null := by
  intro j hj
  have : j = 0 ∨ j = 1 ∨ j = 2 ∨ j = 3 ∨ j = 4 ∨ j = 5 := by omega
  rcases this with rfl | rfl | rfl | rfl | rfl | rfl <;> rfl
theorem inst_X1 : Cond.instantiable RX1 9 ∈ lw_g := lw_gin 127 (by decide +kernel) (by decide +kernel)
theorem ini_X1 : Cond.initialized RX1 ∈ lw_g := lw_gin 8 (by decide +kernel) (by decide +kernel)
theorem dflt_X1 : ∀ j, j < 9 → defaultValue (tyX1 j) = match fK 1 j with | 0 => .int 0 | 1 => .long 0 | _ => .null := by
  intro j hj
  have : j = 0 ∨ j = 1 ∨ j = 2 ∨ j = 3 ∨ j = 4 ∨ j = 5 ∨ j = 6 ∨ j = 7 ∨ j = 8 := by omega
  rcases this with rfl | rfl | rfl | rfl | rfl | rfl | rfl | rfl | rfl <;> rfl
theorem inst_X2 : Cond.instantiable RX2 5 ∈ lw_g := lw_gin 133 (by decide +kernel) (by decide +kernel)
theorem ini_X2 : Cond.initialized RX2 ∈ lw_g := lw_gin 9 (by decide +kernel) (by decide +kernel)
theorem dflt_X2 : ∀ j, j < 5 → defaultValue (tyX2 j) = match fK 2 j with | 0 => .int 0 | 1 => .long 0 | _ => .null := by
  intro j hj
  have : j = 0 ∨ j = 1 ∨ j = 2 ∨ j = 3 ∨ j = 4 := by omega
  rcases this with rfl | rfl | rfl | rfl | rfl <;> rfl
theorem inst_X3 : Cond.instantiable RX3 1 ∈ lw_g := lw_gin 232 (by decide +kernel) (by decide +kernel)
theorem ini_X3 : Cond.initialized RX3 ∈ lw_g := lw_gin 11 (by decide +kernel) (by decide +kernel)
theorem dflt_X3 : ∀ j, j < 1 → defaultValue (tyX3 j) = match fK 3 j with | 0 => .int 0 | 1 => .long 0 | _ => .null := by
  intro j hj
  have : j = 0 := by omega
  rcases this with rfl <;> rfl
theorem inst_X4 : Cond.instantiable RX4 7 ∈ lw_g := lw_gin 201 (by decide +kernel) (by decide +kernel)
theorem ini_X4 : Cond.initialized RX4 ∈ lw_g := lw_gin 10 (by decide +kernel) (by decide +kernel)
theorem dflt_X4 : ∀ j, j < 7 → defaultValue (tyX4 j) = match fK 4 j with | 0 => .int 0 | 1 => .long 0 | _ => .null := by
  intro j hj
  have : j = 0 ∨ j = 1 ∨ j = 2 ∨ j = 3 ∨ j = 4 ∨ j = 5 ∨ j = 6 := by omega
  rcases this with rfl | rfl | rfl | rfl | rfl | rfl | rfl <;> rfl
theorem inst_X5 : Cond.instantiable RX5 2 ∈ lw_g := lw_gin 248 (by decide +kernel) (by decide +kernel)
theorem ini_X5 : Cond.initialized RX5 ∈ lw_g := lw_gin 13 (by decide +kernel) (by decide +kernel)
theorem dflt_X5 : ∀ j, j < 2 → defaultValue (tyX5 j) = match fK 5 j with | 0 => .int 0 | 1 => .long 0 | _ => .null := by
  intro j hj
  have : j = 0 ∨ j = 1 := by omega
  rcases this with rfl | rfl <;> rfl
theorem inst_X6 : Cond.instantiable RX6 2 ∈ lw_g := lw_gin 121 (by decide +kernel) (by decide +kernel)
theorem ini_X6 : Cond.initialized RX6 ∈ lw_g := lw_gin 7 (by decide +kernel) (by decide +kernel)
theorem dflt_X6 : ∀ j, j < 2 → defaultValue (tyX6 j) = match fK 6 j with | 0 => .int 0 | 1 => .long 0 | _ => .null := by
  intro j hj
  have : j = 0 ∨ j = 1 := by omega
  rcases this with rfl | rfl <;> rfl
theorem inst_X8 : Cond.instantiable RX8 19 ∈ lw_g := lw_gin 242 (by decide +kernel) (by decide +kernel)
theorem ini_X8 : Cond.initialized RX8 ∈ lw_g := lw_gin 12 (by decide +kernel) (by decide +kernel)
theorem dflt_X8 : ∀ j, j < 19 → defaultValue (tyX8 j) = match fK 8 j with | 0 => .int 0 | 1 => .long 0 | _ => .null := by
  intro j hj
  have : j = 0 ∨ j = 1 ∨ j = 2 ∨ j = 3 ∨ j = 4 ∨ j = 5 ∨ j = 6 ∨ j = 7 ∨ j = 8 ∨ j = 9 ∨ j = 10 ∨ j = 11 ∨ j = 12 ∨ j = 13 ∨ j = 14 ∨ j = 15 ∨ j = 16 ∨ j = 17 ∨ j = 18 := by omega
  rcases this with rfl | rfl | rfl | rfl | rfl | rfl | rfl | rfl | rfl | rfl | rfl | rfl | rfl | rfl | rfl | rfl | rfl | rfl | rfl <;> rfl
theorem inst_X9 : Cond.instantiable RX9 9 ∈ lw_g := lw_gin 34 (by decide +kernel) (by decide +kernel)
theorem ini_X9 : Cond.initialized RX9 ∈ lw_g := lw_gin 2 (by decide +kernel) (by decide +kernel)
theorem dflt_X9 : ∀ j, j < 9 → defaultValue (tyX9 j) = match fK 9 j with | 0 => .int 0 | 1 => .long 0 | _ => .null := by
  intro j hj
  have : j = 0 ∨ j = 1 ∨ j = 2 ∨ j = 3 ∨ j = 4 ∨ j = 5 ∨ j = 6 ∨ j = 7 ∨ j = 8 := by omega
  rcases this with rfl | rfl | rfl | rfl | rfl | rfl | rfl | rfl | rfl <;> rfl
theorem inst_X10 : Cond.instantiable RX10 16 ∈ lw_g := lw_gin 26 (by decide +kernel) (by decide +kernel)
theorem ini_X10 : Cond.initialized RX10 ∈ lw_g := lw_gin 1 (by decide +kernel) (by decide +kernel)
theorem dflt_X10 : ∀ j, j < 16 → defaultValue (tyX10 j) = match fK 10 j with | 0 => .int 0 | 1 => .long 0 | _ => .null := by
  intro j hj
  have : j = 0 ∨ j = 1 ∨ j = 2 ∨ j = 3 ∨ j = 4 ∨ j = 5 ∨ j = 6 ∨ j = 7 ∨ j = 8 ∨ j = 9 ∨ j = 10 ∨ j = 11 ∨ j = 12 ∨ j = 13 ∨ j = 14 ∨ j = 15 := by omega
  rcases this with rfl | rfl | rfl | rfl | rfl | rfl | rfl | rfl | rfl | rfl | rfl | rfl | rfl | rfl | rfl | rfl <;> rfl
theorem inst_X11 : Cond.instantiable RX11 59 ∈ lw_g := lw_gin 1254 (by decide +kernel) (by decide +kernel)
theorem ini_X11 : Cond.initialized RX11 ∈ lw_g := lw_gin 16 (by decide +kernel) (by decide +kernel)
theorem dflt_X11 : ∀ j, j < 59 → defaultValue (tyX11 j) = match fK 11 j with | 0 => .int 0 | 1 => .long 0 | _ => .null := by
  intro j hj
  have : j = 0 ∨ j = 1 ∨ j = 2 ∨ j = 3 ∨ j = 4 ∨ j = 5 ∨ j = 6 ∨ j = 7 ∨ j = 8 ∨ j = 9 ∨ j = 10 ∨ j = 11 ∨ j = 12 ∨ j = 13 ∨ j = 14 ∨ j = 15 ∨ j = 16 ∨ j = 17 ∨ j = 18 ∨ j = 19 ∨ j = 20 ∨ j = 21 ∨ j = 22 ∨ j = 23 ∨ j = 24 ∨ j = 25 ∨ j = 26 ∨ j = 27 ∨ j = 28 ∨ j = 29 ∨ j = 30 ∨ j = 31 ∨ j = 32 ∨ j = 33 ∨ j = 34 ∨ j = 35 ∨ j = 36 ∨ j = 37 ∨ j = 38 ∨ j = 39 ∨ j = 40 ∨ j = 41 ∨ j = 42 ∨ j = 43 ∨ j = 44 ∨ j = 45 ∨ j = 46 ∨ j = 47 ∨ j = 48 ∨ j = 49 ∨ j = 50 ∨ j = 51 ∨ j = 52 ∨ j = 53 ∨ j = 54 ∨ j = 55 ∨ j = 56 ∨ j = 57 ∨ j = 58 := by omega
  rcases this with rfl | rfl | rfl | rfl | rfl | rfl | rfl | rfl | rfl | rfl | rfl | rfl | rfl | rfl | rfl | rfl | rfl | rfl | rfl | rfl | rfl | rfl | rfl | rfl | rfl | rfl | rfl | rfl | rfl | rfl | rfl | rfl | rfl | rfl | rfl | rfl | rfl | rfl | rfl | rfl | rfl | rfl | rfl | rfl | rfl | rfl | rfl | rfl | rfl | rfl | rfl | rfl | rfl | rfl | rfl | rfl | rfl | rfl | rfl <;> rfl
theorem tS_fx : gFx (tS Ls 119 118) := by
  have h2 : ∀ q ∈ fxR, fzL (fxO.take 118) q.1 q.2.1 = some q.2.2 := by decide +kernel
  exact ⟨Nat.le_refl _, fun a ha => if_pos ha, h2⟩
theorem i_X2_init_12 (hz : ZaP 13 H) : Vq mX2_init 2 3 192 [.ref 12] (tS Ls 13 10) H (fun R => R = (none, tS Ls 16 13, H)) := by
  refine vq_intro (by decide) (by exact Nat.le_of_ble_eq_true rfl) rfl ?_
  refine xq_aload_n dX2_init_0 rfl rfl ?_
  refine xq_objInit dX2_init_1 mo_RX2_3 oi_im oi_cd rfl (by decide) ?_
  refine xq_aload_n dX2_init_4 rfl rfl ?_
  refine xq_bipush dX2_init_5 bp64 ?_
  refine xq_newi (n := 64) dX2_init_7 ac_int (nq_lt0 (by decide)) (nI_clamp (by decide)) (by decide) ?_
  rw [tS_z, tS_n (n := 13) (m := 10) (sh := (1, 64)) rfl (by decide +kernel), nH_id (hz.mo (by decide : 13 ≤ 13)) rfl (by decide)]
  refine xq_putF clX2 (by decide) rfl fl_RX2_9 (Or.inr ⟨rfl, rfl, rfl⟩) dX2_init_9 (fun _ => ⟨rfl, rfl⟩) (by rfl) ?_
  rw [tS_f (m := 10) rfl]
  refine xq_aload_n dX2_init_12 rfl rfl ?_
  refine xq_bipush dX2_init_13 bp64 ?_
  refine xq_newi (n := 64) dX2_init_15 ac_int (nq_lt0 (by decide)) (nI_clamp (by decide)) (by decide) ?_
  rw [tS_z, tS_n (n := 14) (m := 11) (sh := (1, 64)) rfl (by decide +kernel), nH_id (hz.mo (by decide : 13 ≤ 14)) rfl (by decide)]
  refine xq_putF clX2 (by decide) rfl fl_RX2_15 (Or.inr ⟨rfl, rfl, rfl⟩) dX2_init_17 (fun _ => ⟨rfl, rfl⟩) (by rfl) ?_
  rw [tS_f (m := 11) rfl]
  refine xq_aload_n dX2_init_20 rfl rfl ?_
  refine xq_bipush dX2_init_21 bp64 ?_
  refine xq_newi (n := 64) dX2_init_23 ac_int (nq_lt0 (by decide)) (nI_clamp (by decide)) (by decide) ?_
  rw [tS_z, tS_n (n := 15) (m := 12) (sh := (1, 64)) rfl (by decide +kernel), nH_id (hz.mo (by decide : 13 ≤ 15)) rfl (by decide)]
  refine xq_putF clX2 (by decide) rfl fl_RX2_18 (Or.inr ⟨rfl, rfl, rfl⟩) dX2_init_25 (fun _ => ⟨rfl, rfl⟩) (by rfl) ?_
  rw [tS_f (m := 12) rfl]
  refine xq_vret dX2_init_28 rfl ?_
  exact rfl
theorem i_X1_init_8 (hz : ZaP 9 H) : Vq mX1_init 3 7 405 [.ref 8, .ref 2] (tS Ls 9 7) H (fun R => R = (none, tS Ls 16 14, (sR H 8 7 (some 12)))) := by
  refine vq_intro (by decide) (by exact Nat.le_of_ble_eq_true rfl) rfl ?_
  refine xq_aload_n dX1_init_0 rfl rfl ?_
  refine xq_objInit dX1_init_1 mo_RX1_3 oi_im oi_cd rfl (by decide) ?_
  refine xq_aload_n dX1_init_4 rfl rfl ?_
  refine xq_bipush dX1_init_5 bp72 ?_
  refine xq_newi (n := 72) dX1_init_7 ac_int (nq_lt0 (by decide)) (nI_clamp (by decide)) (by decide) ?_
  rw [tS_z, tS_n (n := 9) (m := 7) (sh := (1, 72)) rfl (by decide +kernel), nH_id (hz.mo (by decide : 9 ≤ 9)) rfl (by decide)]
  refine xq_putF clX1 (by decide) rfl fl_RX1_9 (Or.inr ⟨rfl, rfl, rfl⟩) dX1_init_9 (fun _ => ⟨rfl, rfl⟩) (by rfl) ?_
  rw [tS_f (m := 7) rfl]
  refine xq_aload_n dX1_init_12 rfl rfl ?_
  refine xq_bipush dX1_init_13 bp72 ?_
  refine xq_newi (n := 72) dX1_init_15 ac_int (nq_lt0 (by decide)) (nI_clamp (by decide)) (by decide) ?_
  rw [tS_z, tS_n (n := 10) (m := 8) (sh := (1, 72)) rfl (by decide +kernel), nH_id (hz.mo (by decide : 9 ≤ 10)) rfl (by decide)]
  refine xq_putF clX1 (by decide) rfl fl_RX1_15 (Or.inr ⟨rfl, rfl, rfl⟩) dX1_init_17 (fun _ => ⟨rfl, rfl⟩) (by rfl) ?_
  rw [tS_f (m := 8) rfl]
  refine xq_aload_n dX1_init_20 rfl rfl ?_
  refine xq_bipush dX1_init_21 bp64 ?_
  refine xq_newi (n := 64) dX1_init_23 ac_int (nq_lt0 (by decide)) (nI_clamp (by decide)) (by decide) ?_
  rw [tS_z, tS_n (n := 11) (m := 9) (sh := (1, 64)) rfl (by decide +kernel), nH_id (hz.mo (by decide : 9 ≤ 11)) rfl (by decide)]
  refine xq_putF clX1 (by decide) rfl fl_RX1_18 (Or.inr ⟨rfl, rfl, rfl⟩) dX1_init_25 (fun _ => ⟨rfl, rfl⟩) (by rfl) ?_
  rw [tS_f (m := 9) rfl]
  refine xq_aload_n dX1_init_28 rfl rfl ?_
  refine xq_new clX2 dX1_init_29 ck_RX1_21 inst_X2 ini_X2 dflt_X2 ?_
  rw [tS_z, tS_n (n := 12) (m := 10) (sh := (6, 2)) rfl (by decide +kernel), nH_id (hz.mo (by decide : 9 ≤ 12)) rfl (by decide)]
  refine xq_dup dX1_init_32 rfl ?_
  refine xq_callIN0G (b1 := 0) (c1 := 3) (b2 := 0) (c2 := 192) gd_X2_init dX1_init_33 nl_RX1_23 im_X2_init rfl rfl (by exact Nat.le_of_ble_eq_true rfl) (by decide) (i_X2_init_12 (Ls := Ls) (hz.mo (by decide : 9 ≤ 13))) ?_
  intro r33 S33 H33 hq
  cases hq
  simp only [Option.toList, List.nil_append]
  refine xq_putR clX1 (by decide) rfl fl_RX1_24 (Or.inl rfl) dX1_init_36 (fun _ => ⟨rfl, rfl⟩) (by rfl) ?_
  refine xq_aload_n dX1_init_39 rfl rfl ?_
  refine xq_aload_n dX1_init_40 rfl rfl ?_
  refine xq_putF clX1 (by decide) rfl fl_RX1_28 (Or.inr ⟨rfl, rfl, rfl⟩) dX1_init_41 (fun _ => ⟨rfl, rfl⟩) (by rfl) ?_
  rw [tS_f (m := 13) rfl]
  refine xq_vret dX1_init_44 rfl ?_
  exact rfl
theorem i_X6_init_7 (hz : ZaP 8 H) : Vq mX6_init 4 8 414 [.ref 7, .ref 2] (tS Ls 8 6) H (fun R => R = (none, tS Ls 16 15, (sR H 8 7 (some 12)))) := by
  refine vq_intro (by decide) (by exact Nat.le_of_ble_eq_true rfl) rfl ?_
  refine xq_aload_n dX6_init_0 rfl rfl ?_
  refine xq_objInit dX6_init_1 mo_RX6_3 oi_im oi_cd rfl (by decide) ?_
  refine xq_aload_n dX6_init_4 rfl rfl ?_
  refine xq_aload_n dX6_init_5 rfl rfl ?_
  refine xq_putF clX6 (by decide) rfl fl_RX6_9 (Or.inr ⟨rfl, rfl, rfl⟩) dX6_init_6 (fun _ => ⟨rfl, rfl⟩) (by rfl) ?_
  rw [tS_f (m := 6) rfl]
  refine xq_aload_n dX6_init_9 rfl rfl ?_
  refine xq_new clX1 dX6_init_10 ck_RX6_15 inst_X1 ini_X1 dflt_X1 ?_
  rw [tS_z, tS_n (n := 8) (m := 7) (sh := (6, 1)) rfl (by decide +kernel), nH_id (hz.mo (by decide : 8 ≤ 8)) rfl (by decide)]
  refine xq_dup dX6_init_13 rfl ?_
  refine xq_aload_n dX6_init_14 rfl rfl ?_
  refine xq_callI1G (b1 := 0) (c1 := 7) (b2 := 0) (c2 := 405) gd_X1_init dX6_init_15 ml_RX6_17 im_X1_init rfl rfl (by exact Nat.le_of_ble_eq_true rfl) (by decide) (i_X1_init_8 (Ls := Ls) (hz.mo (by decide : 8 ≤ 9))) ?_
  intro r15 S15 H15 hq
  cases hq
  simp only [Option.toList, List.nil_append]
  refine xq_putF clX6 (by decide) rfl fl_RX6_20 (Or.inr ⟨rfl, rfl, rfl⟩) dX6_init_18 (fun _ => ⟨rfl, rfl⟩) (by rfl) ?_
  rw [tS_f (m := 14) rfl]
  refine xq_vret dX6_init_21 rfl ?_
  exact rfl
theorem i_X4_init_16 (hz : ZaP 17 H) : Vq mX4_init 2 5 9906 [.ref 16] (tS Ls 17 16) H (fun R => R = (none, tS Ls 22 21, H)) := by
  refine vq_intro (by decide) (by exact Nat.le_of_ble_eq_true rfl) rfl ?_
  refine xq_aload_n dX4_init_0 rfl rfl ?_
  refine xq_objInit dX4_init_1 mo_RX4_3 oi_im oi_cd rfl (by decide) ?_
  refine xq_aload_n dX4_init_4 rfl rfl ?_
  refine xq_sipush dX4_init_5 sp4096 ?_
  refine xq_newi (n := 4096) dX4_init_8 ac_int (nq_lt0 (by decide)) (nI_clamp (by decide)) (by decide) ?_
  rw [tS_z, tS_n (n := 17) (m := 16) (sh := (1, 4096)) rfl (by decide +kernel), nH_id (hz.mo (by decide : 17 ≤ 17)) rfl (by decide)]
  refine xq_putF clX4 (by decide) rfl fl_RX4_9 (Or.inr ⟨rfl, rfl, rfl⟩) dX4_init_10 (fun _ => ⟨rfl, rfl⟩) (by rfl) ?_
  rw [tS_f (m := 16) rfl]
  refine xq_aload_n dX4_init_13 rfl rfl ?_
  refine xq_sipush dX4_init_14 sp4096 ?_
  refine xq_newi (n := 4096) dX4_init_17 ac_int (nq_lt0 (by decide)) (nI_clamp (by decide)) (by decide) ?_
  rw [tS_z, tS_n (n := 18) (m := 17) (sh := (1, 4096)) rfl (by decide +kernel), nH_id (hz.mo (by decide : 17 ≤ 18)) rfl (by decide)]
  refine xq_putF clX4 (by decide) rfl fl_RX4_15 (Or.inr ⟨rfl, rfl, rfl⟩) dX4_init_19 (fun _ => ⟨rfl, rfl⟩) (by rfl) ?_
  rw [tS_f (m := 17) rfl]
  refine xq_aload_n dX4_init_22 rfl rfl ?_
  refine xq_sipush dX4_init_23 sp729 ?_
  refine xq_newl (n := 729) dX4_init_26 ac_long (nq_lt0 (by decide)) (nI_clamp (by decide)) (by decide) ?_
  rw [tS_z, tS_n (n := 19) (m := 18) (sh := (4, 729)) rfl (by decide +kernel), nH_id (hz.mo (by decide : 17 ≤ 19)) rfl (by decide)]
  refine xq_putF clX4 (by decide) rfl fl_RX4_18 (Or.inr ⟨rfl, rfl, rfl⟩) dX4_init_28 (fun _ => ⟨rfl, rfl⟩) (by rfl) ?_
  rw [tS_f (m := 18) rfl]
  refine xq_aload_n dX4_init_31 rfl rfl ?_
  refine xq_sipush dX4_init_32 sp729 ?_
  refine xq_newi (n := 729) dX4_init_35 ac_int (nq_lt0 (by decide)) (nI_clamp (by decide)) (by decide) ?_
  rw [tS_z, tS_n (n := 20) (m := 19) (sh := (1, 729)) rfl (by decide +kernel), nH_id (hz.mo (by decide : 17 ≤ 20)) rfl (by decide)]
  refine xq_putF clX4 (by decide) rfl fl_RX4_22 (Or.inr ⟨rfl, rfl, rfl⟩) dX4_init_37 (fun _ => ⟨rfl, rfl⟩) (by rfl) ?_
  rw [tS_f (m := 19) rfl]
  refine xq_aload_n dX4_init_40 rfl rfl ?_
  refine xq_sipush dX4_init_41 sp256 ?_
  refine xq_newz (n := 256) dX4_init_44 ac_boolean (nq_lt0 (by decide)) (nI_clamp (by decide)) (by decide) ?_
  rw [tS_z, tS_n (n := 21) (m := 20) (sh := (3, 256)) rfl (by decide +kernel), nH_id (hz.mo (by decide : 17 ≤ 21)) rfl (by decide)]
  refine xq_putF clX4 (by decide) rfl fl_RX4_25 (Or.inr ⟨rfl, rfl, rfl⟩) dX4_init_46 (fun _ => ⟨rfl, rfl⟩) (by rfl) ?_
  rw [tS_f (m := 20) rfl]
  refine xq_vret dX4_init_49 rfl ?_
  exact rfl
theorem i_X3_init_22 (hz : ZaP 23 H) : Vq mX3_init 2 1 64 [.ref 22] (tS Ls 23 22) H (fun R => R = (none, tS Ls 24 23, H)) := by
  refine vq_intro (by decide) (by exact Nat.le_of_ble_eq_true rfl) rfl ?_
  refine xq_aload_n dX3_init_0 rfl rfl ?_
  refine xq_objInit dX3_init_1 mo_RX3_3 oi_im oi_cd rfl (by decide) ?_
  refine xq_aload_n dX3_init_4 rfl rfl ?_
  refine xq_bipush dX3_init_5 bp64 ?_
  refine xq_newl (n := 64) dX3_init_7 ac_long (nq_lt0 (by decide)) (nI_clamp (by decide)) (by decide) ?_
  rw [tS_z, tS_n (n := 23) (m := 22) (sh := (4, 64)) rfl (by decide +kernel), nH_id (hz.mo (by decide : 23 ≤ 23)) rfl (by decide)]
  refine xq_putF clX3 (by decide) rfl fl_RX3_9 (Or.inr ⟨rfl, rfl, rfl⟩) dX3_init_9 (fun _ => ⟨rfl, rfl⟩) (by rfl) ?_
  rw [tS_f (m := 22) rfl]
  refine xq_vret dX3_init_12 rfl ?_
  exact rfl
theorem i_X5_init_25 (hz : ZaP 26 H) : Vq mX5_init 2 1 3 [.ref 25, vN 3] (tS Ls 26 24) H (fun R => R = (none, tS Ls 27 25, H)) := by
  refine vq_intro (by decide) (by exact Nat.le_of_ble_eq_true rfl) rfl ?_
  refine xq_aload_n dX5_init_0 rfl rfl ?_
  refine xq_objInit dX5_init_1 mo_RX5_3 oi_im oi_cd rfl (by decide) ?_
  refine xq_aload_n dX5_init_4 rfl rfl ?_
  refine xq_iload_n dX5_init_5 rfl rfl ?_
  refine xq_if_leN dX5_init_6 rfl (by omega) ⟨fun h6 => ?_, fun h6 => ?_⟩
  · skip
    first | exact absurd h6 (by decide) | exact absurd rfl h6
  · skip
    refine xq_iload_n dX5_init_9 rfl rfl ?_
    refine xq_goto dX5_init_10 rfl ?_
    refine xq_newi (n := 3) dX5_init_14 ac_int (nq_lt0 (by decide)) (nI_clamp (by decide)) (by decide) ?_
    rw [tS_z, tS_n (n := 26) (m := 24) (sh := (1, 3)) rfl (by decide +kernel), nH_id (hz.mo (by decide : 26 ≤ 26)) rfl (by decide)]
    refine xq_putF clX5 (by decide) rfl fl_RX5_9 (Or.inr ⟨rfl, rfl, rfl⟩) dX5_init_16 (fun _ => ⟨rfl, rfl⟩) (by rfl) ?_
    rw [tS_f (m := 24) rfl]
    refine xq_vret dX5_init_19 rfl ?_
    exact rfl
theorem i_X5_init_27 (hz : ZaP 28 H) : Vq mX5_init 2 1 6 [.ref 27, vN 6] (tS Ls 28 26) H (fun R => R = (none, tS Ls 29 27, H)) := by
  refine vq_intro (by decide) (by exact Nat.le_of_ble_eq_true rfl) rfl ?_
  refine xq_aload_n dX5_init_0 rfl rfl ?_
  refine xq_objInit dX5_init_1 mo_RX5_3 oi_im oi_cd rfl (by decide) ?_
  refine xq_aload_n dX5_init_4 rfl rfl ?_
  refine xq_iload_n dX5_init_5 rfl rfl ?_
  refine xq_if_leN dX5_init_6 rfl (by omega) ⟨fun h6 => ?_, fun h6 => ?_⟩
  · skip
    first | exact absurd h6 (by decide) | exact absurd rfl h6
  · skip
    refine xq_iload_n dX5_init_9 rfl rfl ?_
    refine xq_goto dX5_init_10 rfl ?_
    refine xq_newi (n := 6) dX5_init_14 ac_int (nq_lt0 (by decide)) (nI_clamp (by decide)) (by decide) ?_
    rw [tS_z, tS_n (n := 28) (m := 26) (sh := (1, 6)) rfl (by decide +kernel), nH_id (hz.mo (by decide : 28 ≤ 28)) rfl (by decide)]
    refine xq_putF clX5 (by decide) rfl fl_RX5_9 (Or.inr ⟨rfl, rfl, rfl⟩) dX5_init_16 (fun _ => ⟨rfl, rfl⟩) (by rfl) ?_
    rw [tS_f (m := 26) rfl]
    refine xq_vret dX5_init_19 rfl ?_
    exact rfl
theorem i_X5_init_29 (hz : ZaP 30 H) : Vq mX5_init 2 1 8 [.ref 29, vN 8] (tS Ls 30 28) H (fun R => R = (none, tS Ls 31 29, H)) := by
  refine vq_intro (by decide) (by exact Nat.le_of_ble_eq_true rfl) rfl ?_
  refine xq_aload_n dX5_init_0 rfl rfl ?_
  refine xq_objInit dX5_init_1 mo_RX5_3 oi_im oi_cd rfl (by decide) ?_
  refine xq_aload_n dX5_init_4 rfl rfl ?_
  refine xq_iload_n dX5_init_5 rfl rfl ?_
  refine xq_if_leN dX5_init_6 rfl (by omega) ⟨fun h6 => ?_, fun h6 => ?_⟩
  · skip
    first | exact absurd h6 (by decide) | exact absurd rfl h6
  · skip
    refine xq_iload_n dX5_init_9 rfl rfl ?_
    refine xq_goto dX5_init_10 rfl ?_
    refine xq_newi (n := 8) dX5_init_14 ac_int (nq_lt0 (by decide)) (nI_clamp (by decide)) (by decide) ?_
    rw [tS_z, tS_n (n := 30) (m := 28) (sh := (1, 8)) rfl (by decide +kernel), nH_id (hz.mo (by decide : 30 ≤ 30)) rfl (by decide)]
    refine xq_putF clX5 (by decide) rfl fl_RX5_9 (Or.inr ⟨rfl, rfl, rfl⟩) dX5_init_16 (fun _ => ⟨rfl, rfl⟩) (by rfl) ?_
    rw [tS_f (m := 28) rfl]
    refine xq_vret dX5_init_19 rfl ?_
    exact rfl
theorem i_X2_init_31 (hz : ZaP 32 H) : Vq mX2_init 2 3 192 [.ref 31] (tS Ls 32 30) H (fun R => R = (none, tS Ls 35 33, H)) := by
  refine vq_intro (by decide) (by exact Nat.le_of_ble_eq_true rfl) rfl ?_
  refine xq_aload_n dX2_init_0 rfl rfl ?_
  refine xq_objInit dX2_init_1 mo_RX2_3 oi_im oi_cd rfl (by decide) ?_
  refine xq_aload_n dX2_init_4 rfl rfl ?_
  refine xq_bipush dX2_init_5 bp64 ?_
  refine xq_newi (n := 64) dX2_init_7 ac_int (nq_lt0 (by decide)) (nI_clamp (by decide)) (by decide) ?_
  rw [tS_z, tS_n (n := 32) (m := 30) (sh := (1, 64)) rfl (by decide +kernel), nH_id (hz.mo (by decide : 32 ≤ 32)) rfl (by decide)]
  refine xq_putF clX2 (by decide) rfl fl_RX2_9 (Or.inr ⟨rfl, rfl, rfl⟩) dX2_init_9 (fun _ => ⟨rfl, rfl⟩) (by rfl) ?_
  rw [tS_f (m := 30) rfl]
  refine xq_aload_n dX2_init_12 rfl rfl ?_
  refine xq_bipush dX2_init_13 bp64 ?_
  refine xq_newi (n := 64) dX2_init_15 ac_int (nq_lt0 (by decide)) (nI_clamp (by decide)) (by decide) ?_
  rw [tS_z, tS_n (n := 33) (m := 31) (sh := (1, 64)) rfl (by decide +kernel), nH_id (hz.mo (by decide : 32 ≤ 33)) rfl (by decide)]
  refine xq_putF clX2 (by decide) rfl fl_RX2_15 (Or.inr ⟨rfl, rfl, rfl⟩) dX2_init_17 (fun _ => ⟨rfl, rfl⟩) (by rfl) ?_
  rw [tS_f (m := 31) rfl]
  refine xq_aload_n dX2_init_20 rfl rfl ?_
  refine xq_bipush dX2_init_21 bp64 ?_
  refine xq_newi (n := 64) dX2_init_23 ac_int (nq_lt0 (by decide)) (nI_clamp (by decide)) (by decide) ?_
  rw [tS_z, tS_n (n := 34) (m := 32) (sh := (1, 64)) rfl (by decide +kernel), nH_id (hz.mo (by decide : 32 ≤ 34)) rfl (by decide)]
  refine xq_putF clX2 (by decide) rfl fl_RX2_18 (Or.inr ⟨rfl, rfl, rfl⟩) dX2_init_25 (fun _ => ⟨rfl, rfl⟩) (by rfl) ?_
  rw [tS_f (m := 32) rfl]
  refine xq_vret dX2_init_28 rfl ?_
  exact rfl
theorem i_X8_init_24 (hz : ZaP 25 H) : Vq mX8_init 3 20 291 [.ref 24] (tS Ls 25 24) H (fun R => R = (none, tS Ls 45 44, (sI (sI H 24 16 (-1)) 24 17 (-1)))) := by
  refine vq_intro (by decide) (by exact Nat.le_of_ble_eq_true rfl) rfl ?_
  refine xq_aload_n dX8_init_0 rfl rfl ?_
  refine xq_objInit dX8_init_1 mo_RX8_3 oi_im oi_cd rfl (by decide) ?_
  refine xq_aload_n dX8_init_4 rfl rfl ?_
  refine xq_new clX5 dX8_init_5 ck_RX8_9 inst_X5 ini_X5 dflt_X5 ?_
  rw [tS_z, tS_n (n := 25) (m := 24) (sh := (6, 5)) rfl (by decide +kernel), nH_id (hz.mo (by decide : 25 ≤ 25)) rfl (by decide)]
  refine xq_dup dX8_init_8 rfl ?_
  refine xq_iconst dX8_init_9 ic3 ?_
  refine xq_callI1G (b1 := 18) (c1 := 1) (b2 := 286) (c2 := 3) gd_X5_init dX8_init_10 ml_RX8_11 im_X5_init rfl rfl (by exact Nat.le_of_ble_eq_true rfl) (by decide) (i_X5_init_25 (Ls := Ls) (hz.mo (by decide : 25 ≤ 26))) ?_
  intro r10 S10 H10 hq
  cases hq
  simp only [Option.toList, List.nil_append]
  refine xq_putF clX8 (by decide) rfl fl_RX8_14 (Or.inr ⟨rfl, rfl, rfl⟩) dX8_init_13 (fun _ => ⟨rfl, rfl⟩) (by rfl) ?_
  rw [tS_f (m := 25) rfl]
  refine xq_aload_n dX8_init_16 rfl rfl ?_
  refine xq_new clX5 dX8_init_17 ck_RX8_9 inst_X5 ini_X5 dflt_X5 ?_
  rw [tS_z, tS_n (n := 27) (m := 26) (sh := (6, 5)) rfl (by decide +kernel), nH_id (hz.mo (by decide : 25 ≤ 27)) rfl (by decide)]
  refine xq_dup dX8_init_20 rfl ?_
  refine xq_bipush dX8_init_21 bp6 ?_
  refine xq_callI1G (b1 := 16) (c1 := 1) (b2 := 278) (c2 := 6) gd_X5_init dX8_init_23 ml_RX8_11 im_X5_init rfl rfl (by exact Nat.le_of_ble_eq_true rfl) (by decide) (i_X5_init_27 (Ls := Ls) (hz.mo (by decide : 25 ≤ 28))) ?_
  intro r23 S23 H23 hq
  cases hq
  simp only [Option.toList, List.nil_append]
  refine xq_putF clX8 (by decide) rfl fl_RX8_20 (Or.inr ⟨rfl, rfl, rfl⟩) dX8_init_26 (fun _ => ⟨rfl, rfl⟩) (by rfl) ?_
  rw [tS_f (m := 27) rfl]
  refine xq_aload_n dX8_init_29 rfl rfl ?_
  refine xq_new clX5 dX8_init_30 ck_RX8_9 inst_X5 ini_X5 dflt_X5 ?_
  rw [tS_z, tS_n (n := 29) (m := 28) (sh := (6, 5)) rfl (by decide +kernel), nH_id (hz.mo (by decide : 25 ≤ 29)) rfl (by decide)]
  refine xq_dup dX8_init_33 rfl ?_
  refine xq_bipush dX8_init_34 bp8 ?_
  refine xq_callI1G (b1 := 14) (c1 := 1) (b2 := 268) (c2 := 8) gd_X5_init dX8_init_36 ml_RX8_11 im_X5_init rfl rfl (by exact Nat.le_of_ble_eq_true rfl) (by decide) (i_X5_init_29 (Ls := Ls) (hz.mo (by decide : 25 ≤ 30))) ?_
  intro r36 S36 H36 hq
  cases hq
  simp only [Option.toList, List.nil_append]
  refine xq_putF clX8 (by decide) rfl fl_RX8_23 (Or.inr ⟨rfl, rfl, rfl⟩) dX8_init_39 (fun _ => ⟨rfl, rfl⟩) (by rfl) ?_
  rw [tS_f (m := 29) rfl]
  refine xq_aload_n dX8_init_42 rfl rfl ?_
  refine xq_new clX2 dX8_init_43 ck_RX8_26 inst_X2 ini_X2 dflt_X2 ?_
  rw [tS_z, tS_n (n := 31) (m := 30) (sh := (6, 2)) rfl (by decide +kernel), nH_id (hz.mo (by decide : 25 ≤ 31)) rfl (by decide)]
  refine xq_dup dX8_init_46 rfl ?_
  refine xq_callIN0G (b1 := 10) (c1 := 3) (b2 := 71) (c2 := 192) gd_X2_init dX8_init_47 nl_RX8_28 im_X2_init rfl rfl (by exact Nat.le_of_ble_eq_true rfl) (by decide) (i_X2_init_31 (Ls := Ls) (hz.mo (by decide : 25 ≤ 32))) ?_
  intro r47 S47 H47 hq
  cases hq
  simp only [Option.toList, List.nil_append]
  refine xq_putF clX8 (by decide) rfl fl_RX8_29 (Or.inr ⟨rfl, rfl, rfl⟩) dX8_init_50 (fun _ => ⟨rfl, rfl⟩) (by rfl) ?_
  rw [tS_f (m := 33) rfl]
  refine xq_aload_n dX8_init_53 rfl rfl ?_
  refine xq_iconst dX8_init_54 ic3 ?_
  refine xq_newi (n := 3) dX8_init_55 ac_int (nq_lt0 (by decide)) (nI_clamp (by decide)) (by decide) ?_
  rw [tS_z, tS_n (n := 35) (m := 34) (sh := (1, 3)) rfl (by decide +kernel), nH_id (hz.mo (by decide : 25 ≤ 35)) rfl (by decide)]
  refine xq_putF clX8 (by decide) rfl fl_RX8_33 (Or.inr ⟨rfl, rfl, rfl⟩) dX8_init_57 (fun _ => ⟨rfl, rfl⟩) (by rfl) ?_
  rw [tS_f (m := 34) rfl]
  refine xq_aload_n dX8_init_60 rfl rfl ?_
  refine xq_bipush dX8_init_61 bp6 ?_
  refine xq_newi (n := 6) dX8_init_63 ac_int (nq_lt0 (by decide)) (nI_clamp (by decide)) (by decide) ?_
  rw [tS_z, tS_n (n := 36) (m := 35) (sh := (1, 6)) rfl (by decide +kernel), nH_id (hz.mo (by decide : 25 ≤ 36)) rfl (by decide)]
  refine xq_putF clX8 (by decide) rfl fl_RX8_37 (Or.inr ⟨rfl, rfl, rfl⟩) dX8_init_65 (fun _ => ⟨rfl, rfl⟩) (by rfl) ?_
  rw [tS_f (m := 35) rfl]
  refine xq_aload_n dX8_init_68 rfl rfl ?_
  refine xq_bipush dX8_init_69 bp6 ?_
  refine xq_newi (n := 6) dX8_init_71 ac_int (nq_lt0 (by decide)) (nI_clamp (by decide)) (by decide) ?_
  rw [tS_z, tS_n (n := 37) (m := 36) (sh := (1, 6)) rfl (by decide +kernel), nH_id (hz.mo (by decide : 25 ≤ 37)) rfl (by decide)]
  refine xq_putF clX8 (by decide) rfl fl_RX8_40 (Or.inr ⟨rfl, rfl, rfl⟩) dX8_init_73 (fun _ => ⟨rfl, rfl⟩) (by rfl) ?_
  rw [tS_f (m := 36) rfl]
  refine xq_aload_n dX8_init_76 rfl rfl ?_
  refine xq_bipush dX8_init_77 bp8 ?_
  refine xq_newi (n := 8) dX8_init_79 ac_int (nq_lt0 (by decide)) (nI_clamp (by decide)) (by decide) ?_
  rw [tS_z, tS_n (n := 38) (m := 37) (sh := (1, 8)) rfl (by decide +kernel), nH_id (hz.mo (by decide : 25 ≤ 38)) rfl (by decide)]
  refine xq_putF clX8 (by decide) rfl fl_RX8_43 (Or.inr ⟨rfl, rfl, rfl⟩) dX8_init_81 (fun _ => ⟨rfl, rfl⟩) (by rfl) ?_
  rw [tS_f (m := 37) rfl]
  refine xq_aload_n dX8_init_84 rfl rfl ?_
  refine xq_bipush dX8_init_85 bp8 ?_
  refine xq_newl (n := 8) dX8_init_87 ac_long (nq_lt0 (by decide)) (nI_clamp (by decide)) (by decide) ?_
  rw [tS_z, tS_n (n := 39) (m := 38) (sh := (4, 8)) rfl (by decide +kernel), nH_id (hz.mo (by decide : 25 ≤ 39)) rfl (by decide)]
  refine xq_putF clX8 (by decide) rfl fl_RX8_46 (Or.inr ⟨rfl, rfl, rfl⟩) dX8_init_89 (fun _ => ⟨rfl, rfl⟩) (by rfl) ?_
  rw [tS_f (m := 38) rfl]
  refine xq_aload_n dX8_init_92 rfl rfl ?_
  refine xq_bipush dX8_init_93 bp12 ?_
  refine xq_newi (n := 12) dX8_init_95 ac_int (nq_lt0 (by decide)) (nI_clamp (by decide)) (by decide) ?_
  rw [tS_z, tS_n (n := 40) (m := 39) (sh := (1, 12)) rfl (by decide +kernel), nH_id (hz.mo (by decide : 25 ≤ 40)) rfl (by decide)]
  refine xq_putF clX8 (by decide) rfl fl_RX8_50 (Or.inr ⟨rfl, rfl, rfl⟩) dX8_init_97 (fun _ => ⟨rfl, rfl⟩) (by rfl) ?_
  rw [tS_f (m := 39) rfl]
  refine xq_aload_n dX8_init_100 rfl rfl ?_
  refine xq_bipush dX8_init_101 bp12 ?_
  refine xq_newi (n := 12) dX8_init_103 ac_int (nq_lt0 (by decide)) (nI_clamp (by decide)) (by decide) ?_
  rw [tS_z, tS_n (n := 41) (m := 40) (sh := (1, 12)) rfl (by decide +kernel), nH_id (hz.mo (by decide : 25 ≤ 41)) rfl (by decide)]
  refine xq_putF clX8 (by decide) rfl fl_RX8_53 (Or.inr ⟨rfl, rfl, rfl⟩) dX8_init_105 (fun _ => ⟨rfl, rfl⟩) (by rfl) ?_
  rw [tS_f (m := 40) rfl]
  refine xq_aload_n dX8_init_108 rfl rfl ?_
  refine xq_bipush dX8_init_109 bp12 ?_
  refine xq_newi (n := 12) dX8_init_111 ac_int (nq_lt0 (by decide)) (nI_clamp (by decide)) (by decide) ?_
  rw [tS_z, tS_n (n := 42) (m := 41) (sh := (1, 12)) rfl (by decide +kernel), nH_id (hz.mo (by decide : 25 ≤ 42)) rfl (by decide)]
  refine xq_putF clX8 (by decide) rfl fl_RX8_56 (Or.inr ⟨rfl, rfl, rfl⟩) dX8_init_113 (fun _ => ⟨rfl, rfl⟩) (by rfl) ?_
  rw [tS_f (m := 41) rfl]
  refine xq_aload_n dX8_init_116 rfl rfl ?_
  refine xq_iconst dX8_init_117 ic2 ?_
  refine xq_newi (n := 2) dX8_init_118 ac_int (nq_lt0 (by decide)) (nI_clamp (by decide)) (by decide) ?_
  rw [tS_z, tS_n (n := 43) (m := 42) (sh := (1, 2)) rfl (by decide +kernel), nH_id (hz.mo (by decide : 25 ≤ 43)) rfl (by decide)]
  refine xq_putF clX8 (by decide) rfl fl_RX8_59 (Or.inr ⟨rfl, rfl, rfl⟩) dX8_init_120 (fun _ => ⟨rfl, rfl⟩) (by rfl) ?_
  rw [tS_f (m := 42) rfl]
  refine xq_aload_n dX8_init_123 rfl rfl ?_
  refine xq_iconst dX8_init_124 ic2 ?_
  refine xq_newl (n := 2) dX8_init_125 ac_long (nq_lt0 (by decide)) (nI_clamp (by decide)) (by decide) ?_
  rw [tS_z, tS_n (n := 44) (m := 43) (sh := (4, 2)) rfl (by decide +kernel), nH_id (hz.mo (by decide : 25 ≤ 44)) rfl (by decide)]
  refine xq_putF clX8 (by decide) rfl fl_RX8_62 (Or.inr ⟨rfl, rfl, rfl⟩) dX8_init_127 (fun _ => ⟨rfl, rfl⟩) (by rfl) ?_
  rw [tS_f (m := 43) rfl]
  refine xq_aload_n dX8_init_130 rfl rfl ?_
  refine xq_iconst dX8_init_131 icm1 ?_
  refine xq_putI clX8 (by decide) rfl fl_RX8_65 (Or.inl rfl) dX8_init_132 ⟨rfl, rfl⟩ (by rfl) ?_
  refine xq_aload_n dX8_init_135 rfl rfl ?_
  refine xq_iconst dX8_init_136 icm1 ?_
  refine xq_putI clX8 (by decide) rfl fl_RX8_69 (Or.inl rfl) dX8_init_137 ⟨rfl, rfl⟩ (by rfl) ?_
  refine xq_vret dX8_init_140 rfl ?_
  exact rfl
theorem i_X5_init_46 (hz : ZaP 47 H) : Vq mX5_init 2 1 3 [.ref 46, vN 3] (tS Ls 47 44) H (fun R => R = (none, tS Ls 48 45, H)) := by
  refine vq_intro (by decide) (by exact Nat.le_of_ble_eq_true rfl) rfl ?_
  refine xq_aload_n dX5_init_0 rfl rfl ?_
  refine xq_objInit dX5_init_1 mo_RX5_3 oi_im oi_cd rfl (by decide) ?_
  refine xq_aload_n dX5_init_4 rfl rfl ?_
  refine xq_iload_n dX5_init_5 rfl rfl ?_
  refine xq_if_leN dX5_init_6 rfl (by omega) ⟨fun h6 => ?_, fun h6 => ?_⟩
  · skip
    first | exact absurd h6 (by decide) | exact absurd rfl h6
  · skip
    refine xq_iload_n dX5_init_9 rfl rfl ?_
    refine xq_goto dX5_init_10 rfl ?_
    refine xq_newi (n := 3) dX5_init_14 ac_int (nq_lt0 (by decide)) (nI_clamp (by decide)) (by decide) ?_
    rw [tS_z, tS_n (n := 47) (m := 44) (sh := (1, 3)) rfl (by decide +kernel), nH_id (hz.mo (by decide : 47 ≤ 47)) rfl (by decide)]
    refine xq_putF clX5 (by decide) rfl fl_RX5_9 (Or.inr ⟨rfl, rfl, rfl⟩) dX5_init_16 (fun _ => ⟨rfl, rfl⟩) (by rfl) ?_
    rw [tS_f (m := 44) rfl]
    refine xq_vret dX5_init_19 rfl ?_
    exact rfl
theorem i_X5_init_48 (hz : ZaP 49 H) : Vq mX5_init 2 1 6 [.ref 48, vN 6] (tS Ls 49 46) H (fun R => R = (none, tS Ls 50 47, H)) := by
  refine vq_intro (by decide) (by exact Nat.le_of_ble_eq_true rfl) rfl ?_
  refine xq_aload_n dX5_init_0 rfl rfl ?_
  refine xq_objInit dX5_init_1 mo_RX5_3 oi_im oi_cd rfl (by decide) ?_
  refine xq_aload_n dX5_init_4 rfl rfl ?_
  refine xq_iload_n dX5_init_5 rfl rfl ?_
  refine xq_if_leN dX5_init_6 rfl (by omega) ⟨fun h6 => ?_, fun h6 => ?_⟩
  · skip
    first | exact absurd h6 (by decide) | exact absurd rfl h6
  · skip
    refine xq_iload_n dX5_init_9 rfl rfl ?_
    refine xq_goto dX5_init_10 rfl ?_
    refine xq_newi (n := 6) dX5_init_14 ac_int (nq_lt0 (by decide)) (nI_clamp (by decide)) (by decide) ?_
    rw [tS_z, tS_n (n := 49) (m := 46) (sh := (1, 6)) rfl (by decide +kernel), nH_id (hz.mo (by decide : 49 ≤ 49)) rfl (by decide)]
    refine xq_putF clX5 (by decide) rfl fl_RX5_9 (Or.inr ⟨rfl, rfl, rfl⟩) dX5_init_16 (fun _ => ⟨rfl, rfl⟩) (by rfl) ?_
    rw [tS_f (m := 46) rfl]
    refine xq_vret dX5_init_19 rfl ?_
    exact rfl
theorem i_X5_init_50 (hz : ZaP 51 H) : Vq mX5_init 2 1 8 [.ref 50, vN 8] (tS Ls 51 48) H (fun R => R = (none, tS Ls 52 49, H)) := by
  refine vq_intro (by decide) (by exact Nat.le_of_ble_eq_true rfl) rfl ?_
  refine xq_aload_n dX5_init_0 rfl rfl ?_
  refine xq_objInit dX5_init_1 mo_RX5_3 oi_im oi_cd rfl (by decide) ?_
  refine xq_aload_n dX5_init_4 rfl rfl ?_
  refine xq_iload_n dX5_init_5 rfl rfl ?_
  refine xq_if_leN dX5_init_6 rfl (by omega) ⟨fun h6 => ?_, fun h6 => ?_⟩
  · skip
    first | exact absurd h6 (by decide) | exact absurd rfl h6
  · skip
    refine xq_iload_n dX5_init_9 rfl rfl ?_
    refine xq_goto dX5_init_10 rfl ?_
    refine xq_newi (n := 8) dX5_init_14 ac_int (nq_lt0 (by decide)) (nI_clamp (by decide)) (by decide) ?_
    rw [tS_z, tS_n (n := 51) (m := 48) (sh := (1, 8)) rfl (by decide +kernel), nH_id (hz.mo (by decide : 51 ≤ 51)) rfl (by decide)]
    refine xq_putF clX5 (by decide) rfl fl_RX5_9 (Or.inr ⟨rfl, rfl, rfl⟩) dX5_init_16 (fun _ => ⟨rfl, rfl⟩) (by rfl) ?_
    rw [tS_f (m := 48) rfl]
    refine xq_vret dX5_init_19 rfl ?_
    exact rfl
theorem i_X2_init_52 (hz : ZaP 53 H) : Vq mX2_init 2 3 192 [.ref 52] (tS Ls 53 50) H (fun R => R = (none, tS Ls 56 53, H)) := by
  refine vq_intro (by decide) (by exact Nat.le_of_ble_eq_true rfl) rfl ?_
  refine xq_aload_n dX2_init_0 rfl rfl ?_
  refine xq_objInit dX2_init_1 mo_RX2_3 oi_im oi_cd rfl (by decide) ?_
  refine xq_aload_n dX2_init_4 rfl rfl ?_
  refine xq_bipush dX2_init_5 bp64 ?_
  refine xq_newi (n := 64) dX2_init_7 ac_int (nq_lt0 (by decide)) (nI_clamp (by decide)) (by decide) ?_
  rw [tS_z, tS_n (n := 53) (m := 50) (sh := (1, 64)) rfl (by decide +kernel), nH_id (hz.mo (by decide : 53 ≤ 53)) rfl (by decide)]
  refine xq_putF clX2 (by decide) rfl fl_RX2_9 (Or.inr ⟨rfl, rfl, rfl⟩) dX2_init_9 (fun _ => ⟨rfl, rfl⟩) (by rfl) ?_
  rw [tS_f (m := 50) rfl]
  refine xq_aload_n dX2_init_12 rfl rfl ?_
  refine xq_bipush dX2_init_13 bp64 ?_
  refine xq_newi (n := 64) dX2_init_15 ac_int (nq_lt0 (by decide)) (nI_clamp (by decide)) (by decide) ?_
  rw [tS_z, tS_n (n := 54) (m := 51) (sh := (1, 64)) rfl (by decide +kernel), nH_id (hz.mo (by decide : 53 ≤ 54)) rfl (by decide)]
  refine xq_putF clX2 (by decide) rfl fl_RX2_15 (Or.inr ⟨rfl, rfl, rfl⟩) dX2_init_17 (fun _ => ⟨rfl, rfl⟩) (by rfl) ?_
  rw [tS_f (m := 51) rfl]
  refine xq_aload_n dX2_init_20 rfl rfl ?_
  refine xq_bipush dX2_init_21 bp64 ?_
  refine xq_newi (n := 64) dX2_init_23 ac_int (nq_lt0 (by decide)) (nI_clamp (by decide)) (by decide) ?_
  rw [tS_z, tS_n (n := 55) (m := 52) (sh := (1, 64)) rfl (by decide +kernel), nH_id (hz.mo (by decide : 53 ≤ 55)) rfl (by decide)]
  refine xq_putF clX2 (by decide) rfl fl_RX2_18 (Or.inr ⟨rfl, rfl, rfl⟩) dX2_init_25 (fun _ => ⟨rfl, rfl⟩) (by rfl) ?_
  rw [tS_f (m := 52) rfl]
  refine xq_vret dX2_init_28 rfl ?_
  exact rfl
theorem i_X8_init_45 (hz : ZaP 46 H) : Vq mX8_init 3 20 291 [.ref 45] (tS Ls 46 44) H (fun R => R = (none, tS Ls 66 64, (sI (sI H 45 16 (-1)) 45 17 (-1)))) := by
  refine vq_intro (by decide) (by exact Nat.le_of_ble_eq_true rfl) rfl ?_
  refine xq_aload_n dX8_init_0 rfl rfl ?_
  refine xq_objInit dX8_init_1 mo_RX8_3 oi_im oi_cd rfl (by decide) ?_
  refine xq_aload_n dX8_init_4 rfl rfl ?_
  refine xq_new clX5 dX8_init_5 ck_RX8_9 inst_X5 ini_X5 dflt_X5 ?_
  rw [tS_z, tS_n (n := 46) (m := 44) (sh := (6, 5)) rfl (by decide +kernel), nH_id (hz.mo (by decide : 46 ≤ 46)) rfl (by decide)]
  refine xq_dup dX8_init_8 rfl ?_
  refine xq_iconst dX8_init_9 ic3 ?_
  refine xq_callI1G (b1 := 18) (c1 := 1) (b2 := 286) (c2 := 3) gd_X5_init dX8_init_10 ml_RX8_11 im_X5_init rfl rfl (by exact Nat.le_of_ble_eq_true rfl) (by decide) (i_X5_init_46 (Ls := Ls) (hz.mo (by decide : 46 ≤ 47))) ?_
  intro r10 S10 H10 hq
  cases hq
  simp only [Option.toList, List.nil_append]
  refine xq_putF clX8 (by decide) rfl fl_RX8_14 (Or.inr ⟨rfl, rfl, rfl⟩) dX8_init_13 (fun _ => ⟨rfl, rfl⟩) (by rfl) ?_
  rw [tS_f (m := 45) rfl]
  refine xq_aload_n dX8_init_16 rfl rfl ?_
  refine xq_new clX5 dX8_init_17 ck_RX8_9 inst_X5 ini_X5 dflt_X5 ?_
  rw [tS_z, tS_n (n := 48) (m := 46) (sh := (6, 5)) rfl (by decide +kernel), nH_id (hz.mo (by decide : 46 ≤ 48)) rfl (by decide)]
  refine xq_dup dX8_init_20 rfl ?_
  refine xq_bipush dX8_init_21 bp6 ?_
  refine xq_callI1G (b1 := 16) (c1 := 1) (b2 := 278) (c2 := 6) gd_X5_init dX8_init_23 ml_RX8_11 im_X5_init rfl rfl (by exact Nat.le_of_ble_eq_true rfl) (by decide) (i_X5_init_48 (Ls := Ls) (hz.mo (by decide : 46 ≤ 49))) ?_
  intro r23 S23 H23 hq
  cases hq
  simp only [Option.toList, List.nil_append]
  refine xq_putF clX8 (by decide) rfl fl_RX8_20 (Or.inr ⟨rfl, rfl, rfl⟩) dX8_init_26 (fun _ => ⟨rfl, rfl⟩) (by rfl) ?_
  rw [tS_f (m := 47) rfl]
  refine xq_aload_n dX8_init_29 rfl rfl ?_
  refine xq_new clX5 dX8_init_30 ck_RX8_9 inst_X5 ini_X5 dflt_X5 ?_
  rw [tS_z, tS_n (n := 50) (m := 48) (sh := (6, 5)) rfl (by decide +kernel), nH_id (hz.mo (by decide : 46 ≤ 50)) rfl (by decide)]
  refine xq_dup dX8_init_33 rfl ?_
  refine xq_bipush dX8_init_34 bp8 ?_
  refine xq_callI1G (b1 := 14) (c1 := 1) (b2 := 268) (c2 := 8) gd_X5_init dX8_init_36 ml_RX8_11 im_X5_init rfl rfl (by exact Nat.le_of_ble_eq_true rfl) (by decide) (i_X5_init_50 (Ls := Ls) (hz.mo (by decide : 46 ≤ 51))) ?_
  intro r36 S36 H36 hq
  cases hq
  simp only [Option.toList, List.nil_append]
  refine xq_putF clX8 (by decide) rfl fl_RX8_23 (Or.inr ⟨rfl, rfl, rfl⟩) dX8_init_39 (fun _ => ⟨rfl, rfl⟩) (by rfl) ?_
  rw [tS_f (m := 49) rfl]
  refine xq_aload_n dX8_init_42 rfl rfl ?_
  refine xq_new clX2 dX8_init_43 ck_RX8_26 inst_X2 ini_X2 dflt_X2 ?_
  rw [tS_z, tS_n (n := 52) (m := 50) (sh := (6, 2)) rfl (by decide +kernel), nH_id (hz.mo (by decide : 46 ≤ 52)) rfl (by decide)]
  refine xq_dup dX8_init_46 rfl ?_
  refine xq_callIN0G (b1 := 10) (c1 := 3) (b2 := 71) (c2 := 192) gd_X2_init dX8_init_47 nl_RX8_28 im_X2_init rfl rfl (by exact Nat.le_of_ble_eq_true rfl) (by decide) (i_X2_init_52 (Ls := Ls) (hz.mo (by decide : 46 ≤ 53))) ?_
  intro r47 S47 H47 hq
  cases hq
  simp only [Option.toList, List.nil_append]
  refine xq_putF clX8 (by decide) rfl fl_RX8_29 (Or.inr ⟨rfl, rfl, rfl⟩) dX8_init_50 (fun _ => ⟨rfl, rfl⟩) (by rfl) ?_
  rw [tS_f (m := 53) rfl]
  refine xq_aload_n dX8_init_53 rfl rfl ?_
  refine xq_iconst dX8_init_54 ic3 ?_
  refine xq_newi (n := 3) dX8_init_55 ac_int (nq_lt0 (by decide)) (nI_clamp (by decide)) (by decide) ?_
  rw [tS_z, tS_n (n := 56) (m := 54) (sh := (1, 3)) rfl (by decide +kernel), nH_id (hz.mo (by decide : 46 ≤ 56)) rfl (by decide)]
  refine xq_putF clX8 (by decide) rfl fl_RX8_33 (Or.inr ⟨rfl, rfl, rfl⟩) dX8_init_57 (fun _ => ⟨rfl, rfl⟩) (by rfl) ?_
  rw [tS_f (m := 54) rfl]
  refine xq_aload_n dX8_init_60 rfl rfl ?_
  refine xq_bipush dX8_init_61 bp6 ?_
  refine xq_newi (n := 6) dX8_init_63 ac_int (nq_lt0 (by decide)) (nI_clamp (by decide)) (by decide) ?_
  rw [tS_z, tS_n (n := 57) (m := 55) (sh := (1, 6)) rfl (by decide +kernel), nH_id (hz.mo (by decide : 46 ≤ 57)) rfl (by decide)]
  refine xq_putF clX8 (by decide) rfl fl_RX8_37 (Or.inr ⟨rfl, rfl, rfl⟩) dX8_init_65 (fun _ => ⟨rfl, rfl⟩) (by rfl) ?_
  rw [tS_f (m := 55) rfl]
  refine xq_aload_n dX8_init_68 rfl rfl ?_
  refine xq_bipush dX8_init_69 bp6 ?_
  refine xq_newi (n := 6) dX8_init_71 ac_int (nq_lt0 (by decide)) (nI_clamp (by decide)) (by decide) ?_
  rw [tS_z, tS_n (n := 58) (m := 56) (sh := (1, 6)) rfl (by decide +kernel), nH_id (hz.mo (by decide : 46 ≤ 58)) rfl (by decide)]
  refine xq_putF clX8 (by decide) rfl fl_RX8_40 (Or.inr ⟨rfl, rfl, rfl⟩) dX8_init_73 (fun _ => ⟨rfl, rfl⟩) (by rfl) ?_
  rw [tS_f (m := 56) rfl]
  refine xq_aload_n dX8_init_76 rfl rfl ?_
  refine xq_bipush dX8_init_77 bp8 ?_
  refine xq_newi (n := 8) dX8_init_79 ac_int (nq_lt0 (by decide)) (nI_clamp (by decide)) (by decide) ?_
  rw [tS_z, tS_n (n := 59) (m := 57) (sh := (1, 8)) rfl (by decide +kernel), nH_id (hz.mo (by decide : 46 ≤ 59)) rfl (by decide)]
  refine xq_putF clX8 (by decide) rfl fl_RX8_43 (Or.inr ⟨rfl, rfl, rfl⟩) dX8_init_81 (fun _ => ⟨rfl, rfl⟩) (by rfl) ?_
  rw [tS_f (m := 57) rfl]
  refine xq_aload_n dX8_init_84 rfl rfl ?_
  refine xq_bipush dX8_init_85 bp8 ?_
  refine xq_newl (n := 8) dX8_init_87 ac_long (nq_lt0 (by decide)) (nI_clamp (by decide)) (by decide) ?_
  rw [tS_z, tS_n (n := 60) (m := 58) (sh := (4, 8)) rfl (by decide +kernel), nH_id (hz.mo (by decide : 46 ≤ 60)) rfl (by decide)]
  refine xq_putF clX8 (by decide) rfl fl_RX8_46 (Or.inr ⟨rfl, rfl, rfl⟩) dX8_init_89 (fun _ => ⟨rfl, rfl⟩) (by rfl) ?_
  rw [tS_f (m := 58) rfl]
  refine xq_aload_n dX8_init_92 rfl rfl ?_
  refine xq_bipush dX8_init_93 bp12 ?_
  refine xq_newi (n := 12) dX8_init_95 ac_int (nq_lt0 (by decide)) (nI_clamp (by decide)) (by decide) ?_
  rw [tS_z, tS_n (n := 61) (m := 59) (sh := (1, 12)) rfl (by decide +kernel), nH_id (hz.mo (by decide : 46 ≤ 61)) rfl (by decide)]
  refine xq_putF clX8 (by decide) rfl fl_RX8_50 (Or.inr ⟨rfl, rfl, rfl⟩) dX8_init_97 (fun _ => ⟨rfl, rfl⟩) (by rfl) ?_
  rw [tS_f (m := 59) rfl]
  refine xq_aload_n dX8_init_100 rfl rfl ?_
  refine xq_bipush dX8_init_101 bp12 ?_
  refine xq_newi (n := 12) dX8_init_103 ac_int (nq_lt0 (by decide)) (nI_clamp (by decide)) (by decide) ?_
  rw [tS_z, tS_n (n := 62) (m := 60) (sh := (1, 12)) rfl (by decide +kernel), nH_id (hz.mo (by decide : 46 ≤ 62)) rfl (by decide)]
  refine xq_putF clX8 (by decide) rfl fl_RX8_53 (Or.inr ⟨rfl, rfl, rfl⟩) dX8_init_105 (fun _ => ⟨rfl, rfl⟩) (by rfl) ?_
  rw [tS_f (m := 60) rfl]
  refine xq_aload_n dX8_init_108 rfl rfl ?_
  refine xq_bipush dX8_init_109 bp12 ?_
  refine xq_newi (n := 12) dX8_init_111 ac_int (nq_lt0 (by decide)) (nI_clamp (by decide)) (by decide) ?_
  rw [tS_z, tS_n (n := 63) (m := 61) (sh := (1, 12)) rfl (by decide +kernel), nH_id (hz.mo (by decide : 46 ≤ 63)) rfl (by decide)]
  refine xq_putF clX8 (by decide) rfl fl_RX8_56 (Or.inr ⟨rfl, rfl, rfl⟩) dX8_init_113 (fun _ => ⟨rfl, rfl⟩) (by rfl) ?_
  rw [tS_f (m := 61) rfl]
  refine xq_aload_n dX8_init_116 rfl rfl ?_
  refine xq_iconst dX8_init_117 ic2 ?_
  refine xq_newi (n := 2) dX8_init_118 ac_int (nq_lt0 (by decide)) (nI_clamp (by decide)) (by decide) ?_
  rw [tS_z, tS_n (n := 64) (m := 62) (sh := (1, 2)) rfl (by decide +kernel), nH_id (hz.mo (by decide : 46 ≤ 64)) rfl (by decide)]
  refine xq_putF clX8 (by decide) rfl fl_RX8_59 (Or.inr ⟨rfl, rfl, rfl⟩) dX8_init_120 (fun _ => ⟨rfl, rfl⟩) (by rfl) ?_
  rw [tS_f (m := 62) rfl]
  refine xq_aload_n dX8_init_123 rfl rfl ?_
  refine xq_iconst dX8_init_124 ic2 ?_
  refine xq_newl (n := 2) dX8_init_125 ac_long (nq_lt0 (by decide)) (nI_clamp (by decide)) (by decide) ?_
  rw [tS_z, tS_n (n := 65) (m := 63) (sh := (4, 2)) rfl (by decide +kernel), nH_id (hz.mo (by decide : 46 ≤ 65)) rfl (by decide)]
  refine xq_putF clX8 (by decide) rfl fl_RX8_62 (Or.inr ⟨rfl, rfl, rfl⟩) dX8_init_127 (fun _ => ⟨rfl, rfl⟩) (by rfl) ?_
  rw [tS_f (m := 63) rfl]
  refine xq_aload_n dX8_init_130 rfl rfl ?_
  refine xq_iconst dX8_init_131 icm1 ?_
  refine xq_putI clX8 (by decide) rfl fl_RX8_65 (Or.inl rfl) dX8_init_132 ⟨rfl, rfl⟩ (by rfl) ?_
  refine xq_aload_n dX8_init_135 rfl rfl ?_
  refine xq_iconst dX8_init_136 icm1 ?_
  refine xq_putI clX8 (by decide) rfl fl_RX8_69 (Or.inl rfl) dX8_init_137 ⟨rfl, rfl⟩ (by rfl) ?_
  refine xq_vret dX8_init_140 rfl ?_
  exact rfl
theorem i_X0_init_66 (hz : ZaP 67 H) : Vq mX0_init 2 0 0 [.ref 66, .ref 16, .ref 22, .ref 24] (tS Ls 67 64) H (fun R => R = (none, tS Ls 67 66, (sR (sI (sI H 66 4 (-1)) 66 5 (-1)) 66 2 (some 24)))) := by
  refine vq_intro (by decide) (by exact Nat.le_of_ble_eq_true rfl) rfl ?_
  refine xq_aload_n dX0_init_0 rfl rfl ?_
  refine xq_objInit dX0_init_1 mo_RX0_3 oi_im oi_cd rfl (by decide) ?_
  refine xq_aload_n dX0_init_4 rfl rfl ?_
  refine xq_iconst dX0_init_5 icm1 ?_
  refine xq_putI clX0 (by decide) rfl fl_RX0_9 (Or.inl rfl) dX0_init_6 ⟨rfl, rfl⟩ (by rfl) ?_
  refine xq_aload_n dX0_init_9 rfl rfl ?_
  refine xq_iconst dX0_init_10 icm1 ?_
  refine xq_putI clX0 (by decide) rfl fl_RX0_15 (Or.inl rfl) dX0_init_11 ⟨rfl, rfl⟩ (by rfl) ?_
  refine xq_aload_n dX0_init_14 rfl rfl ?_
  refine xq_aload_n dX0_init_15 rfl rfl ?_
  refine xq_putF clX0 (by decide) rfl fl_RX0_18 (Or.inr ⟨rfl, rfl, rfl⟩) dX0_init_16 (fun _ => ⟨rfl, rfl⟩) (by rfl) ?_
  rw [tS_f (m := 64) rfl]
  refine xq_aload_n dX0_init_19 rfl rfl ?_
  refine xq_aload_n dX0_init_20 rfl rfl ?_
  refine xq_putF clX0 (by decide) rfl fl_RX0_22 (Or.inr ⟨rfl, rfl, rfl⟩) dX0_init_21 (fun _ => ⟨rfl, rfl⟩) (by rfl) ?_
  rw [tS_f (m := 65) rfl]
  refine xq_aload_n dX0_init_24 rfl rfl ?_
  refine xq_aload_n dX0_init_25 rfl rfl ?_
  refine xq_putR clX0 (by decide) rfl fl_RX0_26 (Or.inl rfl) dX0_init_26 (fun _ => ⟨rfl, rfl⟩) (by rfl) ?_
  refine xq_vret dX0_init_29 rfl ?_
  exact rfl
theorem i_X7_init_67 (hz : ZaP 68 H) : Vq mX7_init 2 4 747 [.ref 67] (tS Ls 68 67) H (fun R => R = (none, tS Ls 72 71, H)) := by
  refine vq_intro (by decide) (by exact Nat.le_of_ble_eq_true rfl) rfl ?_
  refine xq_aload_n dX7_init_0 rfl rfl ?_
  refine xq_objInit dX7_init_1 mo_RX7_3 oi_im oi_cd rfl (by decide) ?_
  refine xq_aload_n dX7_init_4 rfl rfl ?_
  refine xq_sipush dX7_init_5 sp729 ?_
  refine xq_newi (n := 729) dX7_init_8 ac_int (nq_lt0 (by decide)) (nI_clamp (by decide)) (by decide) ?_
  rw [tS_z, tS_n (n := 68) (m := 67) (sh := (1, 729)) rfl (by decide +kernel), nH_id (hz.mo (by decide : 68 ≤ 68)) rfl (by decide)]
  refine xq_putF clX7 (by decide) rfl fl_RX7_9 (Or.inr ⟨rfl, rfl, rfl⟩) dX7_init_10 (fun _ => ⟨rfl, rfl⟩) (by rfl) ?_
  rw [tS_f (m := 67) rfl]
  refine xq_aload_n dX7_init_13 rfl rfl ?_
  refine xq_bipush dX7_init_14 bp6 ?_
  refine xq_newi (n := 6) dX7_init_16 ac_int (nq_lt0 (by decide)) (nI_clamp (by decide)) (by decide) ?_
  rw [tS_z, tS_n (n := 69) (m := 68) (sh := (1, 6)) rfl (by decide +kernel), nH_id (hz.mo (by decide : 68 ≤ 69)) rfl (by decide)]
  refine xq_putF clX7 (by decide) rfl fl_RX7_15 (Or.inr ⟨rfl, rfl, rfl⟩) dX7_init_18 (fun _ => ⟨rfl, rfl⟩) (by rfl) ?_
  rw [tS_f (m := 68) rfl]
  refine xq_aload_n dX7_init_21 rfl rfl ?_
  refine xq_bipush dX7_init_22 bp6 ?_
  refine xq_newi (n := 6) dX7_init_24 ac_int (nq_lt0 (by decide)) (nI_clamp (by decide)) (by decide) ?_
  rw [tS_z, tS_n (n := 70) (m := 69) (sh := (1, 6)) rfl (by decide +kernel), nH_id (hz.mo (by decide : 68 ≤ 70)) rfl (by decide)]
  refine xq_putF clX7 (by decide) rfl fl_RX7_18 (Or.inr ⟨rfl, rfl, rfl⟩) dX7_init_26 (fun _ => ⟨rfl, rfl⟩) (by rfl) ?_
  rw [tS_f (m := 69) rfl]
  refine xq_aload_n dX7_init_29 rfl rfl ?_
  refine xq_bipush dX7_init_30 bp6 ?_
  refine xq_newi (n := 6) dX7_init_32 ac_int (nq_lt0 (by decide)) (nI_clamp (by decide)) (by decide) ?_
  rw [tS_z, tS_n (n := 71) (m := 70) (sh := (1, 6)) rfl (by decide +kernel), nH_id (hz.mo (by decide : 68 ≤ 71)) rfl (by decide)]
  refine xq_putF clX7 (by decide) rfl fl_RX7_21 (Or.inr ⟨rfl, rfl, rfl⟩) dX7_init_34 (fun _ => ⟨rfl, rfl⟩) (by rfl) ?_
  rw [tS_f (m := 70) rfl]
  refine xq_vret dX7_init_37 rfl ?_
  exact rfl
theorem i_X7_init_72 (hz : ZaP 73 H) : Vq mX7_init 2 4 747 [.ref 72] (tS Ls 73 72) H (fun R => R = (none, tS Ls 77 76, H)) := by
  refine vq_intro (by decide) (by exact Nat.le_of_ble_eq_true rfl) rfl ?_
  refine xq_aload_n dX7_init_0 rfl rfl ?_
  refine xq_objInit dX7_init_1 mo_RX7_3 oi_im oi_cd rfl (by decide) ?_
  refine xq_aload_n dX7_init_4 rfl rfl ?_
  refine xq_sipush dX7_init_5 sp729 ?_
  refine xq_newi (n := 729) dX7_init_8 ac_int (nq_lt0 (by decide)) (nI_clamp (by decide)) (by decide) ?_
  rw [tS_z, tS_n (n := 73) (m := 72) (sh := (1, 729)) rfl (by decide +kernel), nH_id (hz.mo (by decide : 73 ≤ 73)) rfl (by decide)]
  refine xq_putF clX7 (by decide) rfl fl_RX7_9 (Or.inr ⟨rfl, rfl, rfl⟩) dX7_init_10 (fun _ => ⟨rfl, rfl⟩) (by rfl) ?_
  rw [tS_f (m := 72) rfl]
  refine xq_aload_n dX7_init_13 rfl rfl ?_
  refine xq_bipush dX7_init_14 bp6 ?_
  refine xq_newi (n := 6) dX7_init_16 ac_int (nq_lt0 (by decide)) (nI_clamp (by decide)) (by decide) ?_
  rw [tS_z, tS_n (n := 74) (m := 73) (sh := (1, 6)) rfl (by decide +kernel), nH_id (hz.mo (by decide : 73 ≤ 74)) rfl (by decide)]
  refine xq_putF clX7 (by decide) rfl fl_RX7_15 (Or.inr ⟨rfl, rfl, rfl⟩) dX7_init_18 (fun _ => ⟨rfl, rfl⟩) (by rfl) ?_
  rw [tS_f (m := 73) rfl]
  refine xq_aload_n dX7_init_21 rfl rfl ?_
  refine xq_bipush dX7_init_22 bp6 ?_
  refine xq_newi (n := 6) dX7_init_24 ac_int (nq_lt0 (by decide)) (nI_clamp (by decide)) (by decide) ?_
  rw [tS_z, tS_n (n := 75) (m := 74) (sh := (1, 6)) rfl (by decide +kernel), nH_id (hz.mo (by decide : 73 ≤ 75)) rfl (by decide)]
  refine xq_putF clX7 (by decide) rfl fl_RX7_18 (Or.inr ⟨rfl, rfl, rfl⟩) dX7_init_26 (fun _ => ⟨rfl, rfl⟩) (by rfl) ?_
  rw [tS_f (m := 74) rfl]
  refine xq_aload_n dX7_init_29 rfl rfl ?_
  refine xq_bipush dX7_init_30 bp6 ?_
  refine xq_newi (n := 6) dX7_init_32 ac_int (nq_lt0 (by decide)) (nI_clamp (by decide)) (by decide) ?_
  rw [tS_z, tS_n (n := 76) (m := 75) (sh := (1, 6)) rfl (by decide +kernel), nH_id (hz.mo (by decide : 73 ≤ 76)) rfl (by decide)]
  refine xq_putF clX7 (by decide) rfl fl_RX7_21 (Or.inr ⟨rfl, rfl, rfl⟩) dX7_init_34 (fun _ => ⟨rfl, rfl⟩) (by rfl) ?_
  rw [tS_f (m := 75) rfl]
  refine xq_vret dX7_init_37 rfl ?_
  exact rfl
theorem i_X7_init_77 (hz : ZaP 78 H) : Vq mX7_init 2 4 747 [.ref 77] (tS Ls 78 77) H (fun R => R = (none, tS Ls 82 81, H)) := by
  refine vq_intro (by decide) (by exact Nat.le_of_ble_eq_true rfl) rfl ?_
  refine xq_aload_n dX7_init_0 rfl rfl ?_
  refine xq_objInit dX7_init_1 mo_RX7_3 oi_im oi_cd rfl (by decide) ?_
  refine xq_aload_n dX7_init_4 rfl rfl ?_
  refine xq_sipush dX7_init_5 sp729 ?_
  refine xq_newi (n := 729) dX7_init_8 ac_int (nq_lt0 (by decide)) (nI_clamp (by decide)) (by decide) ?_
  rw [tS_z, tS_n (n := 78) (m := 77) (sh := (1, 729)) rfl (by decide +kernel), nH_id (hz.mo (by decide : 78 ≤ 78)) rfl (by decide)]
  refine xq_putF clX7 (by decide) rfl fl_RX7_9 (Or.inr ⟨rfl, rfl, rfl⟩) dX7_init_10 (fun _ => ⟨rfl, rfl⟩) (by rfl) ?_
  rw [tS_f (m := 77) rfl]
  refine xq_aload_n dX7_init_13 rfl rfl ?_
  refine xq_bipush dX7_init_14 bp6 ?_
  refine xq_newi (n := 6) dX7_init_16 ac_int (nq_lt0 (by decide)) (nI_clamp (by decide)) (by decide) ?_
  rw [tS_z, tS_n (n := 79) (m := 78) (sh := (1, 6)) rfl (by decide +kernel), nH_id (hz.mo (by decide : 78 ≤ 79)) rfl (by decide)]
  refine xq_putF clX7 (by decide) rfl fl_RX7_15 (Or.inr ⟨rfl, rfl, rfl⟩) dX7_init_18 (fun _ => ⟨rfl, rfl⟩) (by rfl) ?_
  rw [tS_f (m := 78) rfl]
  refine xq_aload_n dX7_init_21 rfl rfl ?_
  refine xq_bipush dX7_init_22 bp6 ?_
  refine xq_newi (n := 6) dX7_init_24 ac_int (nq_lt0 (by decide)) (nI_clamp (by decide)) (by decide) ?_
  rw [tS_z, tS_n (n := 80) (m := 79) (sh := (1, 6)) rfl (by decide +kernel), nH_id (hz.mo (by decide : 78 ≤ 80)) rfl (by decide)]
  refine xq_putF clX7 (by decide) rfl fl_RX7_18 (Or.inr ⟨rfl, rfl, rfl⟩) dX7_init_26 (fun _ => ⟨rfl, rfl⟩) (by rfl) ?_
  rw [tS_f (m := 79) rfl]
  refine xq_aload_n dX7_init_29 rfl rfl ?_
  refine xq_bipush dX7_init_30 bp6 ?_
  refine xq_newi (n := 6) dX7_init_32 ac_int (nq_lt0 (by decide)) (nI_clamp (by decide)) (by decide) ?_
  rw [tS_z, tS_n (n := 81) (m := 80) (sh := (1, 6)) rfl (by decide +kernel), nH_id (hz.mo (by decide : 78 ≤ 81)) rfl (by decide)]
  refine xq_putF clX7 (by decide) rfl fl_RX7_21 (Or.inr ⟨rfl, rfl, rfl⟩) dX7_init_34 (fun _ => ⟨rfl, rfl⟩) (by rfl) ?_
  rw [tS_f (m := 80) rfl]
  refine xq_vret dX7_init_37 rfl ?_
  exact rfl
/-- the words' letters: how many words ended among the first i, letters since, what stands for word v -/
def wfI : Nat → Nat
  | 0 => 0
  | i + 1 => if tch i = 32 then wfI i + 1 else wfI i
def wfJ : Nat → Nat
  | 0 => 0
  | i + 1 => if tch i = 32 then 0 else wfJ i + 1
def wfV (v : Nat) : Nat → Nat
  | 0 => 0
  | i + 1 => if tch i = 32 then wfV v i else if v = wfI i then wfV v i ||| (tch i - 97 + 1) <<< (25 - 5 * wfJ i) else wfV v i
theorem wf_ok : (List.range 137).all (fun i => decide (wfI i < 28) && (decide (tch i = 32) || (decide (97 ≤ tch i ∧ tch i ≤ 122) && decide (wfJ i < 6)))) = true := by decide +kernel
theorem wf_end : (List.range 28).all (fun v => decide (wfV v 137 = wdv v)) = true := by decide +kernel
theorem wf_at {i : Nat} (h : i < 137) : wfI i < 28 ∧ (tch i = 32 ∨ (97 ≤ tch i ∧ tch i ≤ 122 ∧ wfJ i < 6)) := by
  have := List.all_eq_true.mp wf_ok i (List.mem_range.mpr h)
  simp only [Bool.and_eq_true, Bool.or_eq_true, decide_eq_true_eq] at this
  exact ⟨this.1, this.2.imp id (fun z => ⟨z.1.1, z.1.2, z.2⟩)⟩
theorem zI_add {a b : Int} : zI (a + b) = zI a + zI b := by
  show Int32.ofInt (a + b) = Int32.ofInt a + Int32.ofInt b
  exact Int32.ofInt_add a b
theorem tok_lp {H0 : xH} {Q : xR → Prop} (h0 : ∀ v, v < 28 → hI H0 3 v = nI 0) (kk : ∀ H1, (∀ v, v < 28 → hI H1 3 v = nI (wfV v 137)) → Off (fun q => q = 3) H0 H1 → Q (none, tS Ls 7 5, H1)) : Xq mX9_init 5 0 0 51 [some (.ref 2), some (vN 0), some (vN 25), some (vN 0), none] [] (tS Ls 7 5) H0 Q := by
  have lp : ∀ (fz : Nat) (i : Nat) (H1 : xH), 137 - i < fz → i ≤ 137 → (∀ v, v < 28 → hI H1 3 v = nI (wfV v i)) → Off (fun q => q = 3) H0 H1 → Xq mX9_init 5 0 0 51 [some (.ref 2), some (vN (wfI i)), some (.int (zI (25 - 5 * (wfJ i : Int)))), some (vN i), none] [] (tS Ls 7 5) H1 Q := by
    intro fz
    induction fz with
    | zero => intro i  H1  hfz; exact absurd hfz (by omega)
    | succ fz ih =>
      intro i  H1  hfz hi hw ho
      refine xq_iload_n dX9_init_51 rfl rfl ?_
      refine xq_ldcT dX9_init_52 (Or.inl ⟨rfl, rfl⟩) ?_
      refine xq_callT0 gd_J0_length_8abf5 dX9_init_54 ml_RX9_30 im_J0_length_8abf5 se_J0_length_8abf5 rfl (by exact Nat.le_of_ble_eq_true rfl) (by decide) s_length ?_
      refine xq_icmp_geN dX9_init_57 rfl (by omega) (by omega) ⟨fun h57 => ?_, fun h57 => ?_⟩
      · skip
        refine xq_vret dX9_init_117 rfl ?_
        have e : i = 137 := by omega
        subst e
        exact kk H1 hw ho
      · skip
        obtain ⟨wa, wb⟩ := wf_at (show i < 137 by omega)
        have ww := wa
        refine xq_iload_n dX9_init_60 rfl rfl ?_
        refine xq_bipush dX9_init_61 bp28 ?_
        refine xq_icmp_geN dX9_init_63 rfl (by omega) (by omega) ⟨fun h63 => ?_, fun h63 => ?_⟩
        · skip
          exact absurd h63 (by omega)
        · skip
          refine xq_ldcT dX9_init_66 (Or.inl ⟨rfl, rfl⟩) ?_
          refine xq_iload_n dX9_init_68 rfl rfl ?_
          refine xq_callT1 gd_J0_charAt_5068e dX9_init_69 ml_RX9_36 im_J0_charAt_5068e se_J0_charAt_5068e rfl (by exact Nat.le_of_ble_eq_true rfl) (by decide) (s_charAt (by omega)) ?_
          refine xq_istore dX9_init_72 rfl ?_
          refine xq_iload dX9_init_74 rfl ?_
          refine xq_bipush dX9_init_76 bp32 ?_
          refine xq_icmp_neN dX9_init_78 rfl (by omega) (by omega) ⟨fun h78 => ?_, fun h78 => ?_⟩
          · skip
            obtain ⟨c1, c2, c3⟩ := wb.resolve_left h78
            have c4 : (25 : Int) - 5 * (wfJ i : Int) = ((25 - 5 * wfJ i : Nat) : Int) := by omega
            refine xq_aload_n dX9_init_90 rfl rfl ?_
            refine xq_getF clX9 (by decide) rfl fl_RX9_9 dX9_init_91 (by rfl) (by rfl) ?_
            refine xq_iload_n dX9_init_94 rfl rfl ?_
            refine xq_dup2 dX9_init_95 rfl rfl ?_
            refine xq_ialdN dX9_init_96 (by rfl) (by omega) (by decide) (hw _ wa) ?_
            refine xq_iload dX9_init_97 rfl ?_
            refine xq_bipush dX9_init_99 bp97 ?_
            refine xq_isubN dX9_init_101 (by omega) ?_
            refine xq_iconst dX9_init_102 ic1 ?_
            refine xq_iaddN dX9_init_103 ?_
            refine xq_iload_n dX9_init_104 rfl rfl ?_
            rw [c4, show zI ((25 - 5 * wfJ i : Nat) : Int) = nI (25 - 5 * wfJ i) from rfl]
            refine xq_ishlN dX9_init_105 (by omega) ?_
            refine xq_iorN dX9_init_106 ?_
            refine xq_iastN dX9_init_107 (by rfl) (by omega) (by decide) ?_
            refine xq_iinc dX9_init_108 icm5 rfl rfl ?_
            refine xq_iincN dX9_init_111 ic1 rfl rfl ?_
            refine xq_goto dX9_init_114 rfl ?_
            have e32 : ¬ tch i = 32 := h78
            have z := ih (i + 1) _ (by omega) (by omega) (fun v hv => by
              rw [hI_sI]
              show _ = nI (if tch i = 32 then wfV v i else if v = wfI i then wfV v i ||| (tch i - 97 + 1) <<< (25 - 5 * wfJ i) else wfV v i)
              rw [if_neg e32]
              by_cases ev : v = wfI i
              · rw [if_pos ⟨rfl, ev⟩, if_pos ev, ev]
              · rw [if_neg (fun z => ev z.2), if_neg ev]; exact hw v hv) (Off.pI (A := fun q => q = 3) ho rfl _ _)
            rw [show wfI (i + 1) = wfI i from if_neg e32, show wfJ (i + 1) = wfJ i + 1 from if_neg e32, show (25 : Int) - 5 * ((wfJ i + 1 : Nat) : Int) = (25 - 5 * (wfJ i : Int)) + (-5) by omega, zI_add, c4, show zI ((25 - 5 * wfJ i : Nat) : Int) = nI (25 - 5 * wfJ i) from rfl, show zI (-5) = -5 from rfl] at z
            exact xq_fgt z (by exact And.intro rfl (And.intro rfl (And.intro rfl (And.intro rfl trivial))))
          · skip
            refine xq_iincN dX9_init_81 ic1 rfl rfl ?_
            refine xq_bipush dX9_init_84 bp25 ?_
            refine xq_istore_n dX9_init_86 rfl rfl ?_
            refine xq_goto dX9_init_87 rfl ?_
            refine xq_iincN dX9_init_111 ic1 rfl rfl ?_
            refine xq_goto dX9_init_114 rfl ?_
            have e32 : tch i = 32 := h78
            have z := ih (i + 1) _ (by omega) (by omega) (fun v hv => by rw [hw v hv]; show nI (wfV v i) = nI (if tch i = 32 then wfV v i else _); rw [if_pos e32]) ho
            rw [show wfI (i + 1) = wfI i + 1 from if_pos e32, show wfJ (i + 1) = 0 from if_pos e32] at z
            exact xq_fgt z (by exact And.intro rfl (And.intro rfl (And.intro rfl (And.intro rfl trivial))))
  exact lp 138 0 H0 (by omega) (by omega) h0 Off.rf
theorem i_X9_init_2 (hz : ZaP 3 H) : Vq mX9_init 5 4 2131 [.ref 2] (tS Ls 3 1) H (fun R => ∃ H9, R = (none, tS Ls 7 5, H9) ∧ WdP H9 ∧ hI H9 2 8 = -1 ∧ (∀ k, k ≠ 8 → hI H9 2 k = hI H 2 k) ∧ Off (fun q => q = 2 ∨ q = 3) H H9) := by
  refine vq_intro (by decide) (by exact Nat.le_of_ble_eq_true rfl) rfl ?_
  refine xq_aload_n dX9_init_0 rfl rfl ?_
  refine xq_objInit dX9_init_1 mo_RX9_3 oi_im oi_cd rfl (by decide) ?_
  refine xq_aload_n dX9_init_4 rfl rfl ?_
  refine xq_bipush dX9_init_5 bp28 ?_
  refine xq_newi (n := 28) dX9_init_7 ac_int (nq_lt0 (by decide)) (nI_clamp (by decide)) (by decide) ?_
  rw [tS_z, tS_n (n := 3) (m := 1) (sh := (1, 28)) rfl (by decide +kernel), nH_id (hz.mo (by decide : 3 ≤ 3)) rfl (by decide)]
  refine xq_putF clX9 (by decide) rfl fl_RX9_9 (Or.inr ⟨rfl, rfl, rfl⟩) dX9_init_9 (fun _ => ⟨rfl, rfl⟩) (by rfl) ?_
  rw [tS_f (m := 1) rfl]
  refine xq_aload_n dX9_init_12 rfl rfl ?_
  refine xq_sipush dX9_init_13 sp701 ?_
  refine xq_newi (n := 701) dX9_init_16 ac_int (nq_lt0 (by decide)) (nI_clamp (by decide)) (by decide) ?_
  rw [tS_z, tS_n (n := 4) (m := 2) (sh := (1, 701)) rfl (by decide +kernel), nH_id (hz.mo (by decide : 3 ≤ 4)) rfl (by decide)]
  refine xq_putF clX9 (by decide) rfl fl_RX9_15 (Or.inr ⟨rfl, rfl, rfl⟩) dX9_init_18 (fun _ => ⟨rfl, rfl⟩) (by rfl) ?_
  rw [tS_f (m := 2) rfl]
  refine xq_aload_n dX9_init_21 rfl rfl ?_
  refine xq_sipush dX9_init_22 sp701 ?_
  refine xq_newi (n := 701) dX9_init_25 ac_int (nq_lt0 (by decide)) (nI_clamp (by decide)) (by decide) ?_
  rw [tS_z, tS_n (n := 5) (m := 3) (sh := (1, 701)) rfl (by decide +kernel), nH_id (hz.mo (by decide : 3 ≤ 5)) rfl (by decide)]
  refine xq_putF clX9 (by decide) rfl fl_RX9_18 (Or.inr ⟨rfl, rfl, rfl⟩) dX9_init_27 (fun _ => ⟨rfl, rfl⟩) (by rfl) ?_
  rw [tS_f (m := 3) rfl]
  refine xq_aload_n dX9_init_30 rfl rfl ?_
  refine xq_sipush dX9_init_31 sp701 ?_
  refine xq_newi (n := 701) dX9_init_34 ac_int (nq_lt0 (by decide)) (nI_clamp (by decide)) (by decide) ?_
  rw [tS_z, tS_n (n := 6) (m := 4) (sh := (1, 701)) rfl (by decide +kernel), nH_id (hz.mo (by decide : 3 ≤ 6)) rfl (by decide)]
  refine xq_putF clX9 (by decide) rfl fl_RX9_21 (Or.inr ⟨rfl, rfl, rfl⟩) dX9_init_36 (fun _ => ⟨rfl, rfl⟩) (by rfl) ?_
  rw [tS_f (m := 4) rfl]
  refine xq_aload_n dX9_init_39 rfl rfl ?_
  refine xq_iconst dX9_init_40 icm1 ?_
  refine xq_putI clX9 (by decide) rfl fl_RX9_24 (Or.inl rfl) dX9_init_41 ⟨rfl, rfl⟩ (by rfl) ?_
  refine xq_iconst dX9_init_44 ic0 ?_
  refine xq_istore_n dX9_init_45 rfl rfl ?_
  refine xq_bipush dX9_init_46 bp25 ?_
  refine xq_istore_n dX9_init_48 rfl rfl ?_
  refine xq_iconst dX9_init_49 ic0 ?_
  refine xq_istore_n dX9_init_50 rfl rfl ?_
  refine tok_lp (fun v hv => by rw [hI_sI, if_neg (by omega)]; exact (hz 3 (by decide) (by decide)).1 v) (fun H9 q1 q3 => ⟨H9, rfl, fun v hv => ?_, (q3.I (by decide) 8).trans (by rw [hI_sI, if_pos ⟨rfl, rfl⟩]), fun k hk => (q3.I (by decide) k).trans (by rw [hI_sI, if_neg (fun z => hk z.2)]), (Off.pI (A := fun q => q = 2 ∨ q = 3) Off.rf (Or.inl rfl) _ _).tr (q3.mo (fun q z => Or.inr z))⟩)
  rw [q1 v hv]
  have := List.all_eq_true.mp wf_end v (List.mem_range.mpr hv)
  rw [of_decide_eq_true this]
theorem txp0 {t : Nat} (h : ∀ q, t ≤ q → q < t + 21 → (∀ k, ¬ (q = t ∧ (k = 16 ∨ k = 17)) → hI H q k = 0) ∧ ∀ k, hL H q k = 0) (h16 : hI H t 16 = -1) (h17 : hI H t 17 = -1) : TxP H t tx0 :=
  ⟨(h (t + 1) (by omega) (by omega)).1 1 (by omega), (h (t + 3) (by omega) (by omega)).1 1 (by omega), (h (t + 5) (by omega) (by omega)).1 1 (by omega), (h (t + 7) (by omega) (by omega)).1 3 (by omega), fun k hk => absurd hk (Nat.not_lt_zero k), fun k hk => absurd hk (Nat.not_lt_zero k), fun k hk => absurd hk (Nat.not_lt_zero k), fun k _ => (h (t + 13) (by omega) (by omega)).1 k (by omega), fun k hk => absurd hk (Nat.not_lt_zero k), (h t (by omega) (by omega)).1 9 (by omega), fun k hk => absurd hk (Nat.not_lt_zero k), (h t (by omega) (by omega)).1 12 (by omega), fun k hk => absurd hk (Nat.not_lt_zero k), fun k _ => ⟨(h (t + 20) (by omega) (by omega)).2 k, fun z => absurd rfl z⟩, h16, h17, (h t (by omega) (by omega)).1 18 (by omega)⟩
theorem mxp0 {N : Nat → Nat → Nat} (h : ∀ q, 85 ≤ q → q ≤ 100 → ∀ k, hI H q k = 0) : MxP H tx0 N :=
  ⟨h 85 (by decide) (by decide) 0, h 85 (by decide) (by decide) 1, h 85 (by decide) (by decide) 2, h 85 (by decide) (by decide) 3, h 85 (by decide) (by decide) 4, h 85 (by decide) (by decide) 5, h 85 (by decide) (by decide) 6, h 85 (by decide) (by decide) 7, fun k hk => absurd hk (Nat.not_lt_zero k), fun k hk => absurd hk (Nat.not_lt_zero k), fun k hk => absurd hk (Nat.not_lt_zero k), fun k hk => absurd hk (Nat.not_lt_zero k), fun k hk => absurd hk (Nat.not_lt_zero k), fun k _ => ⟨h 97 (by decide) (by decide) k, h 98 (by decide) (by decide) k⟩, fun k hk => absurd hk (Nat.not_lt_zero k)⟩
theorem i_X10_init_0 (hz0 : ZaP 0 H) : Vq mX10_init 6 82 16157 [.ref 0] (tS Ls 1 0) H (fun R => ∃ H', R = (none, tS Ls 83 83, H') ∧ WdP H' ∧ hI H' 2 8 = -1 ∧ (∀ k, k ≠ 8 → hI H' 2 k = 0) ∧ (∀ k, hI H' 0 k = 0) ∧ hR H' 0 6 = some 24 ∧ hR H' 0 7 = some 45 ∧ (∀ i, hR H' 82 i = none) ∧ TxP H' 24 tx0 ∧ StP H' 67 (begU tx0) ∧ MiP H' 0 ∧ ZaP 83 H' ∧ Off (fun q => q < 83) H H') := by
  have hz : ZaP 1 H := hz0.mo (by decide)
  refine vq_intro (by decide) (by exact Nat.le_of_ble_eq_true rfl) rfl ?_
  refine xq_aload_n dX10_init_0 rfl rfl ?_
  refine xq_objInit dX10_init_1 mo_RX10_3 oi_im oi_cd rfl (by decide) ?_
  refine xq_aload_n dX10_init_4 rfl rfl ?_
  refine xq_sipush dX10_init_5 sp700 ?_
  refine xq_newb (n := 700) dX10_init_8 ac_byte (nq_lt0 (by decide)) (nI_clamp (by decide)) (by decide) ?_
  rw [tS_z, tS_n (n := 1) (m := 0) (sh := (2, 700)) rfl (by decide +kernel), nH_id (hz.mo (by decide : 1 ≤ 1)) rfl (by decide)]
  refine xq_putF clX10 (by decide) rfl fl_RX10_11 (Or.inr ⟨rfl, rfl, rfl⟩) dX10_init_10 (fun _ => ⟨rfl, rfl⟩) (by rfl) ?_
  rw [tS_f (m := 0) rfl]
  refine xq_aload_n dX10_init_13 rfl rfl ?_
  refine xq_new clX9 dX10_init_14 ck_RX10_15 inst_X9 ini_X9 dflt_X9 ?_
  rw [tS_z, tS_n (n := 2) (m := 1) (sh := (6, 9)) rfl (by decide +kernel), nH_id (hz.mo (by decide : 1 ≤ 2)) rfl (by decide)]
  refine xq_dup dX10_init_17 rfl ?_
  refine xq_callI0G (b1 := 76) (c1 := 4) (b2 := 13317) (c2 := 2131) gd_X9_init dX10_init_18 ml_RX10_17 im_X9_init rfl rfl (by exact Nat.le_of_ble_eq_true rfl) (by decide) (i_X9_init_2 (Ls := Ls) (hz.mo (by decide : 1 ≤ 3))) ?_
  intro r18 S18 H18 hq
  obtain ⟨H9, e9, t1, t2, t3, t4⟩ := hq
  cases e9
  have hz7 : ZaP 7 H18 := (hz.mo (by decide)).off t4 (fun q h1 h2 z => by omega)
  simp only [Option.toList, List.nil_append]
  refine xq_putF clX10 (by decide) rfl fl_RX10_18 (Or.inr ⟨rfl, rfl, rfl⟩) dX10_init_21 (fun _ => ⟨rfl, rfl⟩) (by rfl) ?_
  rw [tS_f (m := 5) rfl]
  refine xq_aload_n dX10_init_24 rfl rfl ?_
  refine xq_new clX6 dX10_init_25 ck_RX10_22 inst_X6 ini_X6 dflt_X6 ?_
  rw [tS_z, tS_n (n := 7) (m := 6) (sh := (6, 6)) rfl (by decide +kernel), nH_id (hz7.mo (by decide : 7 ≤ 7)) rfl (by decide)]
  refine xq_dup dX10_init_28 rfl ?_
  refine xq_aload_n dX10_init_29 rfl rfl ?_
  refine xq_getF clX10 (by decide) rfl fl_RX10_18 dX10_init_30 (by rfl) (by rfl) ?_
  refine xq_callI1G (b1 := 67) (c1 := 8) (b2 := 12901) (c2 := 414) gd_X6_init dX10_init_33 ml_RX10_24 im_X6_init rfl rfl (by exact Nat.le_of_ble_eq_true rfl) (by decide) (i_X6_init_7 (Ls := Ls) (hz7.mo (by decide : 7 ≤ 8))) ?_
  intro r33 S33 H33 hq
  cases hq
  simp only [Option.toList, List.nil_append]
  refine xq_putF clX10 (by decide) rfl fl_RX10_27 (Or.inr ⟨rfl, rfl, rfl⟩) dX10_init_36 (fun _ => ⟨rfl, rfl⟩) (by rfl) ?_
  rw [tS_f (m := 15) rfl]
  refine xq_aload_n dX10_init_39 rfl rfl ?_
  refine xq_new clX4 dX10_init_40 ck_RX10_31 inst_X4 ini_X4 dflt_X4 ?_
  rw [tS_z, tS_n (n := 16) (m := 16) (sh := (6, 4)) rfl (by decide +kernel), nH_id ((hz7.mo (by decide : 7 ≤ 16)).sR (by decide)) rfl (by decide)]
  refine xq_dup dX10_init_43 rfl ?_
  refine xq_callIN0G (b1 := 61) (c1 := 5) (b2 := 2988) (c2 := 9906) gd_X4_init dX10_init_44 nl_RX10_33 im_X4_init rfl rfl (by exact Nat.le_of_ble_eq_true rfl) (by decide) (i_X4_init_16 (Ls := Ls) ((hz7.mo (by decide : 7 ≤ 17)).sR (by decide))) ?_
  intro r44 S44 H44 hq
  cases hq
  simp only [Option.toList, List.nil_append]
  refine xq_putF clX10 (by decide) rfl fl_RX10_34 (Or.inr ⟨rfl, rfl, rfl⟩) dX10_init_47 (fun _ => ⟨rfl, rfl⟩) (by rfl) ?_
  rw [tS_f (m := 21) rfl]
  refine xq_aload_n dX10_init_50 rfl rfl ?_
  refine xq_new clX3 dX10_init_51 ck_RX10_38 inst_X3 ini_X3 dflt_X3 ?_
  rw [tS_z, tS_n (n := 22) (m := 22) (sh := (6, 3)) rfl (by decide +kernel), nH_id ((hz7.mo (by decide : 7 ≤ 22)).sR (by decide)) rfl (by decide)]
  refine xq_dup dX10_init_54 rfl ?_
  refine xq_callIN0G (b1 := 59) (c1 := 1) (b2 := 2923) (c2 := 64) gd_X3_init dX10_init_55 nl_RX10_40 im_X3_init rfl rfl (by exact Nat.le_of_ble_eq_true rfl) (by decide) (i_X3_init_22 (Ls := Ls) ((hz7.mo (by decide : 7 ≤ 23)).sR (by decide))) ?_
  intro r55 S55 H55 hq
  cases hq
  simp only [Option.toList, List.nil_append]
  refine xq_putF clX10 (by decide) rfl fl_RX10_41 (Or.inr ⟨rfl, rfl, rfl⟩) dX10_init_58 (fun _ => ⟨rfl, rfl⟩) (by rfl) ?_
  rw [tS_f (m := 23) rfl]
  refine xq_aload_n dX10_init_61 rfl rfl ?_
  refine xq_new clX8 dX10_init_62 ck_RX10_45 inst_X8 ini_X8 dflt_X8 ?_
  rw [tS_z, tS_n (n := 24) (m := 24) (sh := (6, 8)) rfl (by decide +kernel), nH_id ((hz7.mo (by decide : 7 ≤ 24)).sR (by decide)) rfl (by decide)]
  refine xq_dup dX10_init_65 rfl ?_
  refine xq_callIN0G (b1 := 38) (c1 := 20) (b2 := 2613) (c2 := 291) gd_X8_init dX10_init_66 nl_RX10_47 im_X8_init rfl rfl (by exact Nat.le_of_ble_eq_true rfl) (by decide) (i_X8_init_24 (Ls := Ls) ((hz7.mo (by decide : 7 ≤ 25)).sR (by decide))) ?_
  intro r66 S66 H66 hq
  cases hq
  simp only [Option.toList, List.nil_append]
  refine xq_putR clX10 (by decide) rfl fl_RX10_48 (Or.inl rfl) dX10_init_69 (fun _ => ⟨rfl, rfl⟩) (by rfl) ?_
  refine xq_aload_n dX10_init_72 rfl rfl ?_
  refine xq_new clX8 dX10_init_73 ck_RX10_45 inst_X8 ini_X8 dflt_X8 ?_
  rw [tS_z, tS_n (n := 45) (m := 44) (sh := (6, 8)) rfl (by decide +kernel), nH_id (((((hz7.mo (by decide : 7 ≤ 45)).sR (by decide)).sI (by decide)).sI (by decide)).sR (by decide)) rfl (by decide)]
  refine xq_dup dX10_init_76 rfl ?_
  refine xq_callIN0G (b1 := 17) (c1 := 20) (b2 := 2303) (c2 := 291) gd_X8_init dX10_init_77 nl_RX10_47 im_X8_init rfl rfl (by exact Nat.le_of_ble_eq_true rfl) (by decide) (i_X8_init_45 (Ls := Ls) (((((hz7.mo (by decide : 7 ≤ 46)).sR (by decide)).sI (by decide)).sI (by decide)).sR (by decide))) ?_
  intro r77 S77 H77 hq
  cases hq
  simp only [Option.toList, List.nil_append]
  refine xq_putR clX10 (by decide) rfl fl_RX10_52 (Or.inl rfl) dX10_init_80 (fun _ => ⟨rfl, rfl⟩) (by rfl) ?_
  refine xq_aload_n dX10_init_83 rfl rfl ?_
  refine xq_new clX0 dX10_init_84 ck_RX10_55 inst_X0 ini_X0 dflt_X0 ?_
  rw [tS_z, tS_n (n := 66) (m := 64) (sh := (6, 0)) rfl (by decide +kernel), nH_id ((((((((hz7.mo (by decide : 7 ≤ 66)).sR (by decide)).sI (by decide)).sI (by decide)).sR (by decide)).sI (by decide)).sI (by decide)).sR (by decide)) rfl (by decide)]
  refine xq_dup dX10_init_87 rfl ?_
  refine xq_aload_n dX10_init_88 rfl rfl ?_
  refine xq_getF clX10 (by decide) rfl fl_RX10_34 dX10_init_89 (by rfl) (by rfl) ?_
  refine xq_aload_n dX10_init_92 rfl rfl ?_
  refine xq_getF clX10 (by decide) rfl fl_RX10_41 dX10_init_93 (by rfl) (by rfl) ?_
  refine xq_aload_n dX10_init_96 rfl rfl ?_
  refine xq_getR clX10 (by decide) rfl fl_RX10_48 dX10_init_97 (by rfl) (show hR _ 0 6 = some 24 by simp [hR_sI, hR_sR]) ?_
  refine xq_callI3G (b1 := 16) (c1 := 0) (b2 := 2297) (c2 := 0) gd_X0_init dX10_init_100 ml_RX10_57 im_X0_init rfl rfl (by exact Nat.le_of_ble_eq_true rfl) (by decide) (i_X0_init_66 (Ls := Ls) ((((((((hz7.mo (by decide : 7 ≤ 67)).sR (by decide)).sI (by decide)).sI (by decide)).sR (by decide)).sI (by decide)).sI (by decide)).sR (by decide))) ?_
  intro r100 S100 H100 hq
  cases hq
  simp only [Option.toList, List.nil_append]
  refine xq_putF clX10 (by decide) rfl fl_RX10_60 (Or.inr ⟨rfl, rfl, rfl⟩) dX10_init_103 (fun _ => ⟨rfl, rfl⟩) (by rfl) ?_
  rw [tS_f (m := 66) rfl]
  refine xq_aload_n dX10_init_106 rfl rfl ?_
  refine xq_new clX7 dX10_init_107 ck_RX10_64 inst_X7 ini_X7 dflt_X7 ?_
  rw [tS_z, tS_n (n := 67) (m := 67) (sh := (6, 7)) rfl (by decide +kernel), nH_id (((((((((((hz7.mo (by decide : 7 ≤ 67)).sR (by decide)).sI (by decide)).sI (by decide)).sR (by decide)).sI (by decide)).sI (by decide)).sR (by decide)).sI (by decide)).sI (by decide)).sR (by decide)) rfl (by decide)]
  refine xq_dup dX10_init_110 rfl ?_
  refine xq_callIN0G (b1 := 11) (c1 := 4) (b2 := 1538) (c2 := 747) gd_X7_init dX10_init_111 nl_RX10_66 im_X7_init rfl rfl (by exact Nat.le_of_ble_eq_true rfl) (by decide) (i_X7_init_67 (Ls := Ls) (((((((((((hz7.mo (by decide : 7 ≤ 68)).sR (by decide)).sI (by decide)).sI (by decide)).sR (by decide)).sI (by decide)).sI (by decide)).sR (by decide)).sI (by decide)).sI (by decide)).sR (by decide))) ?_
  intro r111 S111 H111 hq
  cases hq
  simp only [Option.toList, List.nil_append]
  refine xq_putF clX10 (by decide) rfl fl_RX10_67 (Or.inr ⟨rfl, rfl, rfl⟩) dX10_init_114 (fun _ => ⟨rfl, rfl⟩) (by rfl) ?_
  rw [tS_f (m := 71) rfl]
  refine xq_aload_n dX10_init_117 rfl rfl ?_
  refine xq_new clX7 dX10_init_118 ck_RX10_64 inst_X7 ini_X7 dflt_X7 ?_
  rw [tS_z, tS_n (n := 72) (m := 72) (sh := (6, 7)) rfl (by decide +kernel), nH_id (((((((((((hz7.mo (by decide : 7 ≤ 72)).sR (by decide)).sI (by decide)).sI (by decide)).sR (by decide)).sI (by decide)).sI (by decide)).sR (by decide)).sI (by decide)).sI (by decide)).sR (by decide)) rfl (by decide)]
  refine xq_dup dX10_init_121 rfl ?_
  refine xq_callIN0G (b1 := 6) (c1 := 4) (b2 := 779) (c2 := 747) gd_X7_init dX10_init_122 nl_RX10_66 im_X7_init rfl rfl (by exact Nat.le_of_ble_eq_true rfl) (by decide) (i_X7_init_72 (Ls := Ls) (((((((((((hz7.mo (by decide : 7 ≤ 73)).sR (by decide)).sI (by decide)).sI (by decide)).sR (by decide)).sI (by decide)).sI (by decide)).sR (by decide)).sI (by decide)).sI (by decide)).sR (by decide))) ?_
  intro r122 S122 H122 hq
  cases hq
  simp only [Option.toList, List.nil_append]
  refine xq_putF clX10 (by decide) rfl fl_RX10_71 (Or.inr ⟨rfl, rfl, rfl⟩) dX10_init_125 (fun _ => ⟨rfl, rfl⟩) (by rfl) ?_
  rw [tS_f (m := 76) rfl]
  refine xq_aload_n dX10_init_128 rfl rfl ?_
  refine xq_new clX7 dX10_init_129 ck_RX10_64 inst_X7 ini_X7 dflt_X7 ?_
  rw [tS_z, tS_n (n := 77) (m := 77) (sh := (6, 7)) rfl (by decide +kernel), nH_id (((((((((((hz7.mo (by decide : 7 ≤ 77)).sR (by decide)).sI (by decide)).sI (by decide)).sR (by decide)).sI (by decide)).sI (by decide)).sR (by decide)).sI (by decide)).sI (by decide)).sR (by decide)) rfl (by decide)]
  refine xq_dup dX10_init_132 rfl ?_
  refine xq_callIN0G (b1 := 1) (c1 := 4) (b2 := 20) (c2 := 747) gd_X7_init dX10_init_133 nl_RX10_66 im_X7_init rfl rfl (by exact Nat.le_of_ble_eq_true rfl) (by decide) (i_X7_init_77 (Ls := Ls) (((((((((((hz7.mo (by decide : 7 ≤ 78)).sR (by decide)).sI (by decide)).sI (by decide)).sR (by decide)).sI (by decide)).sI (by decide)).sR (by decide)).sI (by decide)).sI (by decide)).sR (by decide))) ?_
  intro r133 S133 H133 hq
  cases hq
  simp only [Option.toList, List.nil_append]
  refine xq_putF clX10 (by decide) rfl fl_RX10_74 (Or.inr ⟨rfl, rfl, rfl⟩) dX10_init_136 (fun _ => ⟨rfl, rfl⟩) (by rfl) ?_
  rw [tS_f (m := 81) rfl]
  refine xq_aload_n dX10_init_139 rfl rfl ?_
  refine xq_bipush dX10_init_140 bp20 ?_
  refine xq_newq (n := 20) dX10_init_142 ck_RX10_64 (nq_lt0 (by decide)) (nI_clamp (by decide)) (by decide) ?_
  rw [tS_z, tS_n (n := 82) (m := 82) (sh := (5, 20)) rfl (by decide +kernel), nH_id (((((((((((hz7.mo (by decide : 7 ≤ 82)).sR (by decide)).sI (by decide)).sI (by decide)).sR (by decide)).sI (by decide)).sI (by decide)).sR (by decide)).sI (by decide)).sI (by decide)).sR (by decide)) rfl (by decide)]
  refine xq_putF clX10 (by decide) rfl fl_RX10_77 (Or.inr ⟨rfl, rfl, rfl⟩) dX10_init_145 (fun _ => ⟨rfl, rfl⟩) (by rfl) ?_
  rw [tS_f (m := 82) rfl]
  have oh : Off (fun q => q = 0 ∨ q = 8 ∨ q = 24 ∨ q = 45 ∨ q = 66) H18 (sR (sI (sI (sR (sI (sI (sR (sI (sI (sR H18 8 7 (some 12)) 24 16 (-1)) 24 17 (-1)) 0 6 (some 24)) 45 16 (-1)) 45 17 (-1)) 0 7 (some 45)) 66 4 (-1)) 66 5 (-1)) 66 2 (some 24)) := (Off.pR (A := (fun q => q = 0 ∨ q = 8 ∨ q = 24 ∨ q = 45 ∨ q = 66)) (Off.pI (A := (fun q => q = 0 ∨ q = 8 ∨ q = 24 ∨ q = 45 ∨ q = 66)) (Off.pI (A := (fun q => q = 0 ∨ q = 8 ∨ q = 24 ∨ q = 45 ∨ q = 66)) (Off.pR (A := (fun q => q = 0 ∨ q = 8 ∨ q = 24 ∨ q = 45 ∨ q = 66)) (Off.pI (A := (fun q => q = 0 ∨ q = 8 ∨ q = 24 ∨ q = 45 ∨ q = 66)) (Off.pI (A := (fun q => q = 0 ∨ q = 8 ∨ q = 24 ∨ q = 45 ∨ q = 66)) (Off.pR (A := (fun q => q = 0 ∨ q = 8 ∨ q = 24 ∨ q = 45 ∨ q = 66)) (Off.pI (A := (fun q => q = 0 ∨ q = 8 ∨ q = 24 ∨ q = 45 ∨ q = 66)) (Off.pI (A := (fun q => q = 0 ∨ q = 8 ∨ q = 24 ∨ q = 45 ∨ q = 66)) (Off.pR (A := (fun q => q = 0 ∨ q = 8 ∨ q = 24 ∨ q = 45 ∨ q = 66)) Off.rf (by decide) _ _) (by decide) _ _) (by decide) _ _) (by decide) _ _) (by decide) _ _) (by decide) _ _) (by decide) _ _) (by decide) _ _) (by decide) _ _) (by decide) _ _)
  have hgs : gSt (tS Ls 83 83) 67 := ⟨rfl, rfl, rfl, rfl, rfl, rfl, rfl, rfl, rfl⟩
  have hgt : gTx (tS Ls 83 83) 24 := by
    unfold gTx gNm gKn
    repeat' apply And.intro
    all_goals rfl
  have hR24 : hR (sR (sI (sI (sR (sI (sI (sR (sI (sI (sR H18 8 7 (some 12)) 24 16 (-1)) 24 17 (-1)) 0 6 (some 24)) 45 16 (-1)) 45 17 (-1)) 0 7 (some 45)) 66 4 (-1)) 66 5 (-1)) 66 2 (some 24)) 0 6 = some 24 := by simp [hR_sI, hR_sR]
  have hR45 : hR (sR (sI (sI (sR (sI (sI (sR (sI (sI (sR H18 8 7 (some 12)) 24 16 (-1)) 24 17 (-1)) 0 6 (some 24)) 45 16 (-1)) 45 17 (-1)) 0 7 (some 45)) 66 4 (-1)) 66 5 (-1)) 66 2 (some 24)) 0 7 = some 45 := by simp [hR_sI, hR_sR]
  have hTx : TxP (sR (sI (sI (sR (sI (sI (sR (sI (sI (sR H18 8 7 (some 12)) 24 16 (-1)) 24 17 (-1)) 0 6 (some 24)) 45 16 (-1)) 45 17 (-1)) 0 7 (some 45)) 66 4 (-1)) 66 5 (-1)) 66 2 (some 24)) 24 tx0 := txp0 (fun q h1 h2 => ⟨fun k hk => by
    have hq := (hz7 q (by omega) (by omega)).1 k
    have e : ∀ j, ¬ (q = 24 ∧ (j = 16 ∨ j = 17)) → hI (sR (sI (sI (sR (sI (sI (sR (sI (sI (sR H18 8 7 (some 12)) 24 16 (-1)) 24 17 (-1)) 0 6 (some 24)) 45 16 (-1)) 45 17 (-1)) 0 7 (some 45)) 66 4 (-1)) 66 5 (-1)) 66 2 (some 24)) q j = hI H18 q j := fun j hj => by
      simp only [hI_sI, hI_sR]
      repeat rw [if_neg (by omega)]
    rw [e k hk]; exact hq, fun k => by
    have hq := (hz7 q (by omega) (by omega)).2.1 k
    simp only [hL_sI, hL_sR]; exact hq⟩) (by simp [hI_sI, hI_sR]) (by simp [hI_sI, hI_sR])
  refine xq_aload_n dX10_init_148 rfl rfl ?_
  refine xq_getF clX10 (by decide) rfl fl_RX10_67 dX10_init_149 (by rfl) (by rfl) ?_
  refine xq_aload_n dX10_init_152 rfl rfl ?_
  refine xq_getR clX10 (by decide) rfl fl_RX10_48 dX10_init_153 (by rfl) hR24 ?_
  refine xq_callV1N clX7 gd_X7_begin dX10_init_156 ml_RX10_81 im_X7_begin se_X7_begin rfl (by rfl) (by exact Nat.le_of_ble_eq_true rfl) (by decide) (c_begin (T := tx0) (S := tS Ls 83 83) (a := 67) (t := 24) hgs (by decide) hgt (by decide) hTx (by decide) (by decide) (Or.inl rfl) (fun k hk => absurd hk (Nat.not_lt_zero k)) (by decide) (by decide) (fun k _ => by show 0 < 64; decide)) ?_
  intro H156 p156
  obtain ⟨b1, b2⟩ := p156
  refine xq_vret dX10_init_159 rfl ?_
  have h0 : ∀ k, hI H 0 k = 0 := fun k => (hz0 0 (by decide) (by decide)).1 k
  refine ⟨H156, rfl, fun v hv => (b2.I (by decide) v).trans ((oh.I (by decide) v).trans (t1 v hv)), (b2.I (by decide) 8).trans ((oh.I (by decide) 8).trans t2), fun k hk => (b2.I (by decide) k).trans ((oh.I (by decide) k).trans ((t3 k hk).trans ((hz0 2 (by decide) (by decide)).1 k))), fun k => (b2.I (by decide) k).trans ?_, (b2.R (by decide) 6).trans hR24, (b2.R (by decide) 7).trans hR45, fun i => (b2.R (by decide) i).trans ((oh.R (by decide) i).trans ((hz7 82 (by decide) (by decide)).2.2 i)), hTx.off b2 (fun j hj => by omega), b1, ⟨(b2.I (by decide) 2).trans ((oh.I (by decide) 2).trans ((hz7 16 (by decide) (by decide)).1 2)), fun j hj => ⟨0, Nat.le_refl _, (b2.I (by decide) j).trans ((oh.I (by decide) j).trans ((hz7 17 (by decide) (by decide)).1 j))⟩⟩, ((hz7.mo (by decide)).off oh (fun q h1 h2 z => by omega)).off b2 (fun q h1 h2 z => by omega), ((t4.mo (fun q z => by omega)).tr (oh.mo (fun q z => by omega))).tr (b2.mo (fun q z => by omega))⟩
  simp only [hI_sI, hI_sR]
  repeat rw [if_neg (by omega)]
  exact (t4.I (by decide) k).trans (h0 k)
theorem i_X11_init_83 (hz0 : ZaP 83 H) : Vq mX11_init 4 35 87634 [.ref 83] (tS Ls 84 83) H (fun R => ∃ H', R = (none, tS Ls 119 118, H') ∧ MxP H' tx0 (fun _ _ => 0) ∧ MwP H' tx0 ∧ RmP H' tx0 0 (fun _ => true) (begU tx0) ∧ hI H' 83 29 = -1 ∧ hI H' 83 58 = -1 ∧ (∀ k, k ≠ 29 → k ≠ 58 → k ≠ 36 → k ≠ 37 → hI H' 83 k = 0) ∧ Off (fun q => 83 ≤ q ∧ q < 119) H H') := by
  have hz : ZaP 84 H := hz0.mo (by decide)
  have hz83 := (hz0 83 (by decide) (by decide)).1
  refine vq_intro (by decide) (by exact Nat.le_of_ble_eq_true rfl) rfl ?_
  refine xq_aload_n dX11_init_0 rfl rfl ?_
  refine xq_objInit dX11_init_1 mo_RX11_1 oi_im oi_cd rfl (by decide) ?_
  refine xq_aload_n dX11_init_4 rfl rfl ?_
  refine xq_sipush dX11_init_5 sp700 ?_
  refine xq_newi (n := 700) dX11_init_8 ac_int (nq_lt0 (by decide)) (nI_clamp (by decide)) (by decide) ?_
  rw [tS_z, tS_n (n := 84) (m := 83) (sh := (1, 700)) rfl (by decide +kernel), nH_id (hz.mo (by decide : 84 ≤ 84)) rfl (by decide)]
  refine xq_putF clX11 (by decide) rfl fl_RX11_7 (Or.inr ⟨rfl, rfl, rfl⟩) dX11_init_10 (fun _ => ⟨rfl, rfl⟩) (by rfl) ?_
  rw [tS_f (m := 83) rfl]
  refine xq_aload_n dX11_init_13 rfl rfl ?_
  refine xq_bipush dX11_init_14 bp18 ?_
  refine xq_newi (n := 18) dX11_init_16 ac_int (nq_lt0 (by decide)) (nI_clamp (by decide)) (by decide) ?_
  rw [tS_z, tS_n (n := 85) (m := 84) (sh := (1, 18)) rfl (by decide +kernel), nH_id (hz.mo (by decide : 84 ≤ 85)) rfl (by decide)]
  refine xq_putF clX11 (by decide) rfl fl_RX11_13 (Or.inr ⟨rfl, rfl, rfl⟩) dX11_init_18 (fun _ => ⟨rfl, rfl⟩) (by rfl) ?_
  rw [tS_f (m := 84) rfl]
  refine xq_aload_n dX11_init_21 rfl rfl ?_
  refine xq_bipush dX11_init_22 bp6 ?_
  refine xq_newi (n := 6) dX11_init_24 ac_int (nq_lt0 (by decide)) (nI_clamp (by decide)) (by decide) ?_
  rw [tS_z, tS_n (n := 86) (m := 85) (sh := (1, 6)) rfl (by decide +kernel), nH_id (hz.mo (by decide : 84 ≤ 86)) rfl (by decide)]
  refine xq_putF clX11 (by decide) rfl fl_RX11_16 (Or.inr ⟨rfl, rfl, rfl⟩) dX11_init_26 (fun _ => ⟨rfl, rfl⟩) (by rfl) ?_
  rw [tS_f (m := 85) rfl]
  refine xq_aload_n dX11_init_29 rfl rfl ?_
  refine xq_bipush dX11_init_30 bp6 ?_
  refine xq_newi (n := 6) dX11_init_32 ac_int (nq_lt0 (by decide)) (nI_clamp (by decide)) (by decide) ?_
  rw [tS_z, tS_n (n := 87) (m := 86) (sh := (1, 6)) rfl (by decide +kernel), nH_id (hz.mo (by decide : 84 ≤ 87)) rfl (by decide)]
  refine xq_putF clX11 (by decide) rfl fl_RX11_19 (Or.inr ⟨rfl, rfl, rfl⟩) dX11_init_34 (fun _ => ⟨rfl, rfl⟩) (by rfl) ?_
  rw [tS_f (m := 86) rfl]
  refine xq_aload_n dX11_init_37 rfl rfl ?_
  refine xq_bipush dX11_init_38 bp12 ?_
  refine xq_newi (n := 12) dX11_init_40 ac_int (nq_lt0 (by decide)) (nI_clamp (by decide)) (by decide) ?_
  rw [tS_z, tS_n (n := 88) (m := 87) (sh := (1, 12)) rfl (by decide +kernel), nH_id (hz.mo (by decide : 84 ≤ 88)) rfl (by decide)]
  refine xq_putF clX11 (by decide) rfl fl_RX11_22 (Or.inr ⟨rfl, rfl, rfl⟩) dX11_init_42 (fun _ => ⟨rfl, rfl⟩) (by rfl) ?_
  rw [tS_f (m := 87) rfl]
  refine xq_aload_n dX11_init_45 rfl rfl ?_
  refine xq_bipush dX11_init_46 bp12 ?_
  refine xq_newi (n := 12) dX11_init_48 ac_int (nq_lt0 (by decide)) (nI_clamp (by decide)) (by decide) ?_
  rw [tS_z, tS_n (n := 89) (m := 88) (sh := (1, 12)) rfl (by decide +kernel), nH_id (hz.mo (by decide : 84 ≤ 89)) rfl (by decide)]
  refine xq_putF clX11 (by decide) rfl fl_RX11_25 (Or.inr ⟨rfl, rfl, rfl⟩) dX11_init_50 (fun _ => ⟨rfl, rfl⟩) (by rfl) ?_
  rw [tS_f (m := 88) rfl]
  refine xq_aload_n dX11_init_53 rfl rfl ?_
  refine xq_bipush dX11_init_54 bp12 ?_
  refine xq_newi (n := 12) dX11_init_56 ac_int (nq_lt0 (by decide)) (nI_clamp (by decide)) (by decide) ?_
  rw [tS_z, tS_n (n := 90) (m := 89) (sh := (1, 12)) rfl (by decide +kernel), nH_id (hz.mo (by decide : 84 ≤ 90)) rfl (by decide)]
  refine xq_putF clX11 (by decide) rfl fl_RX11_28 (Or.inr ⟨rfl, rfl, rfl⟩) dX11_init_58 (fun _ => ⟨rfl, rfl⟩) (by rfl) ?_
  rw [tS_f (m := 89) rfl]
  refine xq_aload_n dX11_init_61 rfl rfl ?_
  refine xq_bipush dX11_init_62 bp16 ?_
  refine xq_newi (n := 16) dX11_init_64 ac_int (nq_lt0 (by decide)) (nI_clamp (by decide)) (by decide) ?_
  rw [tS_z, tS_n (n := 91) (m := 90) (sh := (1, 16)) rfl (by decide +kernel), nH_id (hz.mo (by decide : 84 ≤ 91)) rfl (by decide)]
  refine xq_putF clX11 (by decide) rfl fl_RX11_31 (Or.inr ⟨rfl, rfl, rfl⟩) dX11_init_66 (fun _ => ⟨rfl, rfl⟩) (by rfl) ?_
  rw [tS_f (m := 90) rfl]
  refine xq_aload_n dX11_init_69 rfl rfl ?_
  refine xq_bipush dX11_init_70 bp16 ?_
  refine xq_newi (n := 16) dX11_init_72 ac_int (nq_lt0 (by decide)) (nI_clamp (by decide)) (by decide) ?_
  rw [tS_z, tS_n (n := 92) (m := 91) (sh := (1, 16)) rfl (by decide +kernel), nH_id (hz.mo (by decide : 84 ≤ 92)) rfl (by decide)]
  refine xq_putF clX11 (by decide) rfl fl_RX11_34 (Or.inr ⟨rfl, rfl, rfl⟩) dX11_init_74 (fun _ => ⟨rfl, rfl⟩) (by rfl) ?_
  rw [tS_f (m := 91) rfl]
  refine xq_aload_n dX11_init_77 rfl rfl ?_
  refine xq_bipush dX11_init_78 bp16 ?_
  refine xq_newi (n := 16) dX11_init_80 ac_int (nq_lt0 (by decide)) (nI_clamp (by decide)) (by decide) ?_
  rw [tS_z, tS_n (n := 93) (m := 92) (sh := (1, 16)) rfl (by decide +kernel), nH_id (hz.mo (by decide : 84 ≤ 93)) rfl (by decide)]
  refine xq_putF clX11 (by decide) rfl fl_RX11_37 (Or.inr ⟨rfl, rfl, rfl⟩) dX11_init_82 (fun _ => ⟨rfl, rfl⟩) (by rfl) ?_
  rw [tS_f (m := 92) rfl]
  refine xq_aload_n dX11_init_85 rfl rfl ?_
  refine xq_bipush dX11_init_86 bp24 ?_
  refine xq_newi (n := 24) dX11_init_88 ac_int (nq_lt0 (by decide)) (nI_clamp (by decide)) (by decide) ?_
  rw [tS_z, tS_n (n := 94) (m := 93) (sh := (1, 24)) rfl (by decide +kernel), nH_id (hz.mo (by decide : 84 ≤ 94)) rfl (by decide)]
  refine xq_putF clX11 (by decide) rfl fl_RX11_40 (Or.inr ⟨rfl, rfl, rfl⟩) dX11_init_90 (fun _ => ⟨rfl, rfl⟩) (by rfl) ?_
  rw [tS_f (m := 93) rfl]
  refine xq_aload_n dX11_init_93 rfl rfl ?_
  refine xq_bipush dX11_init_94 bp24 ?_
  refine xq_newi (n := 24) dX11_init_96 ac_int (nq_lt0 (by decide)) (nI_clamp (by decide)) (by decide) ?_
  rw [tS_z, tS_n (n := 95) (m := 94) (sh := (1, 24)) rfl (by decide +kernel), nH_id (hz.mo (by decide : 84 ≤ 95)) rfl (by decide)]
  refine xq_putF clX11 (by decide) rfl fl_RX11_43 (Or.inr ⟨rfl, rfl, rfl⟩) dX11_init_98 (fun _ => ⟨rfl, rfl⟩) (by rfl) ?_
  rw [tS_f (m := 94) rfl]
  refine xq_aload_n dX11_init_101 rfl rfl ?_
  refine xq_bipush dX11_init_102 bp24 ?_
  refine xq_newi (n := 24) dX11_init_104 ac_int (nq_lt0 (by decide)) (nI_clamp (by decide)) (by decide) ?_
  rw [tS_z, tS_n (n := 96) (m := 95) (sh := (1, 24)) rfl (by decide +kernel), nH_id (hz.mo (by decide : 84 ≤ 96)) rfl (by decide)]
  refine xq_putF clX11 (by decide) rfl fl_RX11_46 (Or.inr ⟨rfl, rfl, rfl⟩) dX11_init_106 (fun _ => ⟨rfl, rfl⟩) (by rfl) ?_
  rw [tS_f (m := 95) rfl]
  refine xq_aload_n dX11_init_109 rfl rfl ?_
  refine xq_iconst dX11_init_110 ic4 ?_
  refine xq_newi (n := 4) dX11_init_111 ac_int (nq_lt0 (by decide)) (nI_clamp (by decide)) (by decide) ?_
  rw [tS_z, tS_n (n := 97) (m := 96) (sh := (1, 4)) rfl (by decide +kernel), nH_id (hz.mo (by decide : 84 ≤ 97)) rfl (by decide)]
  refine xq_putF clX11 (by decide) rfl fl_RX11_49 (Or.inr ⟨rfl, rfl, rfl⟩) dX11_init_113 (fun _ => ⟨rfl, rfl⟩) (by rfl) ?_
  rw [tS_f (m := 96) rfl]
  refine xq_aload_n dX11_init_116 rfl rfl ?_
  refine xq_iconst dX11_init_117 ic4 ?_
  refine xq_newi (n := 4) dX11_init_118 ac_int (nq_lt0 (by decide)) (nI_clamp (by decide)) (by decide) ?_
  rw [tS_z, tS_n (n := 98) (m := 97) (sh := (1, 4)) rfl (by decide +kernel), nH_id (hz.mo (by decide : 84 ≤ 98)) rfl (by decide)]
  refine xq_putF clX11 (by decide) rfl fl_RX11_52 (Or.inr ⟨rfl, rfl, rfl⟩) dX11_init_120 (fun _ => ⟨rfl, rfl⟩) (by rfl) ?_
  rw [tS_f (m := 97) rfl]
  refine xq_aload_n dX11_init_123 rfl rfl ?_
  refine xq_sipush dX11_init_124 sp128 ?_
  refine xq_newi (n := 128) dX11_init_127 ac_int (nq_lt0 (by decide)) (nI_clamp (by decide)) (by decide) ?_
  rw [tS_z, tS_n (n := 99) (m := 98) (sh := (1, 128)) rfl (by decide +kernel), nH_id (hz.mo (by decide : 84 ≤ 99)) rfl (by decide)]
  refine xq_putF clX11 (by decide) rfl fl_RX11_55 (Or.inr ⟨rfl, rfl, rfl⟩) dX11_init_129 (fun _ => ⟨rfl, rfl⟩) (by rfl) ?_
  rw [tS_f (m := 98) rfl]
  refine xq_aload_n dX11_init_132 rfl rfl ?_
  refine xq_sipush dX11_init_133 sp128 ?_
  refine xq_newi (n := 128) dX11_init_136 ac_int (nq_lt0 (by decide)) (nI_clamp (by decide)) (by decide) ?_
  rw [tS_z, tS_n (n := 100) (m := 99) (sh := (1, 128)) rfl (by decide +kernel), nH_id (hz.mo (by decide : 84 ≤ 100)) rfl (by decide)]
  refine xq_putF clX11 (by decide) rfl fl_RX11_58 (Or.inr ⟨rfl, rfl, rfl⟩) dX11_init_138 (fun _ => ⟨rfl, rfl⟩) (by rfl) ?_
  rw [tS_f (m := 99) rfl]
  refine xq_aload_n dX11_init_141 rfl rfl ?_
  refine xq_iconst dX11_init_142 icm1 ?_
  refine xq_putI clX11 (by decide) rfl fl_RX11_61 (Or.inl rfl) dX11_init_143 ⟨rfl, rfl⟩ (by rfl) ?_
  refine xq_aload_n dX11_init_146 rfl rfl ?_
  refine xq_bipush dX11_init_147 bp7 ?_
  refine xq_newl (n := 7) dX11_init_149 ac_long (nq_lt0 (by decide)) (nI_clamp (by decide)) (by decide) ?_
  rw [tS_z, tS_n (n := 101) (m := 100) (sh := (4, 7)) rfl (by decide +kernel), nH_id ((hz.mo (by decide : 84 ≤ 101)).sI (by decide)) rfl (by decide)]
  refine xq_putF clX11 (by decide) rfl fl_RX11_65 (Or.inr ⟨rfl, rfl, rfl⟩) dX11_init_151 (fun _ => ⟨rfl, rfl⟩) (by rfl) ?_
  rw [tS_f (m := 100) rfl]
  refine xq_aload_n dX11_init_154 rfl rfl ?_
  refine xq_bipush dX11_init_155 bp64 ?_
  refine xq_newl (n := 64) dX11_init_157 ac_long (nq_lt0 (by decide)) (nI_clamp (by decide)) (by decide) ?_
  rw [tS_z, tS_n (n := 102) (m := 101) (sh := (4, 64)) rfl (by decide +kernel), nH_id ((hz.mo (by decide : 84 ≤ 102)).sI (by decide)) rfl (by decide)]
  refine xq_putF clX11 (by decide) rfl fl_RX11_69 (Or.inr ⟨rfl, rfl, rfl⟩) dX11_init_159 (fun _ => ⟨rfl, rfl⟩) (by rfl) ?_
  rw [tS_f (m := 101) rfl]
  refine xq_aload_n dX11_init_162 rfl rfl ?_
  refine xq_sipush dX11_init_163 sp4374 ?_
  refine xq_newi (n := 4374) dX11_init_166 ac_int (nq_lt0 (by decide)) (nI_clamp (by decide)) (by decide) ?_
  rw [tS_z, tS_n (n := 103) (m := 102) (sh := (1, 4374)) rfl (by decide +kernel), nH_id ((hz.mo (by decide : 84 ≤ 103)).sI (by decide)) rfl (by decide)]
  refine xq_putF clX11 (by decide) rfl fl_RX11_72 (Or.inr ⟨rfl, rfl, rfl⟩) dX11_init_168 (fun _ => ⟨rfl, rfl⟩) (by rfl) ?_
  rw [tS_f (m := 102) rfl]
  refine xq_aload_n dX11_init_171 rfl rfl ?_
  refine xq_bipush dX11_init_172 bp23 ?_
  refine xq_newi (n := 23) dX11_init_174 ac_int (nq_lt0 (by decide)) (nI_clamp (by decide)) (by decide) ?_
  rw [tS_z, tS_n (n := 104) (m := 103) (sh := (1, 23)) rfl (by decide +kernel), nH_id ((hz.mo (by decide : 84 ≤ 104)).sI (by decide)) rfl (by decide)]
  refine xq_putF clX11 (by decide) rfl fl_RX11_75 (Or.inr ⟨rfl, rfl, rfl⟩) dX11_init_176 (fun _ => ⟨rfl, rfl⟩) (by rfl) ?_
  rw [tS_f (m := 103) rfl]
  refine xq_aload_n dX11_init_179 rfl rfl ?_
  refine xq_bipush dX11_init_180 bp23 ?_
  refine xq_newi (n := 23) dX11_init_182 ac_int (nq_lt0 (by decide)) (nI_clamp (by decide)) (by decide) ?_
  rw [tS_z, tS_n (n := 105) (m := 104) (sh := (1, 23)) rfl (by decide +kernel), nH_id ((hz.mo (by decide : 84 ≤ 105)).sI (by decide)) rfl (by decide)]
  refine xq_putF clX11 (by decide) rfl fl_RX11_78 (Or.inr ⟨rfl, rfl, rfl⟩) dX11_init_184 (fun _ => ⟨rfl, rfl⟩) (by rfl) ?_
  rw [tS_f (m := 104) rfl]
  refine xq_aload_n dX11_init_187 rfl rfl ?_
  refine xq_bipush dX11_init_188 bp23 ?_
  refine xq_newi (n := 23) dX11_init_190 ac_int (nq_lt0 (by decide)) (nI_clamp (by decide)) (by decide) ?_
  rw [tS_z, tS_n (n := 106) (m := 105) (sh := (1, 23)) rfl (by decide +kernel), nH_id ((hz.mo (by decide : 84 ≤ 106)).sI (by decide)) rfl (by decide)]
  refine xq_putF clX11 (by decide) rfl fl_RX11_81 (Or.inr ⟨rfl, rfl, rfl⟩) dX11_init_192 (fun _ => ⟨rfl, rfl⟩) (by rfl) ?_
  rw [tS_f (m := 105) rfl]
  refine xq_aload_n dX11_init_195 rfl rfl ?_
  refine xq_bipush dX11_init_196 bp23 ?_
  refine xq_newi (n := 23) dX11_init_198 ac_int (nq_lt0 (by decide)) (nI_clamp (by decide)) (by decide) ?_
  rw [tS_z, tS_n (n := 107) (m := 106) (sh := (1, 23)) rfl (by decide +kernel), nH_id ((hz.mo (by decide : 84 ≤ 107)).sI (by decide)) rfl (by decide)]
  refine xq_putF clX11 (by decide) rfl fl_RX11_84 (Or.inr ⟨rfl, rfl, rfl⟩) dX11_init_200 (fun _ => ⟨rfl, rfl⟩) (by rfl) ?_
  rw [tS_f (m := 106) rfl]
  refine xq_aload_n dX11_init_203 rfl rfl ?_
  refine xq_bipush dX11_init_204 bp23 ?_
  refine xq_newi (n := 23) dX11_init_206 ac_int (nq_lt0 (by decide)) (nI_clamp (by decide)) (by decide) ?_
  rw [tS_z, tS_n (n := 108) (m := 107) (sh := (1, 23)) rfl (by decide +kernel), nH_id ((hz.mo (by decide : 84 ≤ 108)).sI (by decide)) rfl (by decide)]
  refine xq_putF clX11 (by decide) rfl fl_RX11_87 (Or.inr ⟨rfl, rfl, rfl⟩) dX11_init_208 (fun _ => ⟨rfl, rfl⟩) (by rfl) ?_
  rw [tS_f (m := 107) rfl]
  refine xq_aload_n dX11_init_211 rfl rfl ?_
  refine xq_sipush dX11_init_212 sp138 ?_
  refine xq_newi (n := 138) dX11_init_215 ac_int (nq_lt0 (by decide)) (nI_clamp (by decide)) (by decide) ?_
  rw [tS_z, tS_n (n := 109) (m := 108) (sh := (1, 138)) rfl (by decide +kernel), nH_id ((hz.mo (by decide : 84 ≤ 109)).sI (by decide)) rfl (by decide)]
  refine xq_putF clX11 (by decide) rfl fl_RX11_90 (Or.inr ⟨rfl, rfl, rfl⟩) dX11_init_217 (fun _ => ⟨rfl, rfl⟩) (by rfl) ?_
  rw [tS_f (m := 108) rfl]
  refine xq_aload_n dX11_init_220 rfl rfl ?_
  refine xq_sipush dX11_init_221 sp138 ?_
  refine xq_newi (n := 138) dX11_init_224 ac_int (nq_lt0 (by decide)) (nI_clamp (by decide)) (by decide) ?_
  rw [tS_z, tS_n (n := 110) (m := 109) (sh := (1, 138)) rfl (by decide +kernel), nH_id ((hz.mo (by decide : 84 ≤ 110)).sI (by decide)) rfl (by decide)]
  refine xq_putF clX11 (by decide) rfl fl_RX11_93 (Or.inr ⟨rfl, rfl, rfl⟩) dX11_init_226 (fun _ => ⟨rfl, rfl⟩) (by rfl) ?_
  rw [tS_f (m := 109) rfl]
  refine xq_aload_n dX11_init_229 rfl rfl ?_
  refine xq_sipush dX11_init_230 sp16767 ?_
  refine xq_newz (n := 16767) dX11_init_233 ac_boolean (nq_lt0 (by decide)) (nI_clamp (by decide)) (by decide) ?_
  rw [tS_z, tS_n (n := 111) (m := 110) (sh := (3, 16767)) rfl (by decide +kernel), nH_id ((hz.mo (by decide : 84 ≤ 111)).sI (by decide)) rfl (by decide)]
  refine xq_putF clX11 (by decide) rfl fl_RX11_96 (Or.inr ⟨rfl, rfl, rfl⟩) dX11_init_235 (fun _ => ⟨rfl, rfl⟩) (by rfl) ?_
  rw [tS_f (m := 110) rfl]
  refine xq_aload_n dX11_init_238 rfl rfl ?_
  refine xq_sipush dX11_init_239 sp4374 ?_
  refine xq_newi (n := 4374) dX11_init_242 ac_int (nq_lt0 (by decide)) (nI_clamp (by decide)) (by decide) ?_
  rw [tS_z, tS_n (n := 112) (m := 111) (sh := (1, 4374)) rfl (by decide +kernel), nH_id ((hz.mo (by decide : 84 ≤ 112)).sI (by decide)) rfl (by decide)]
  refine xq_putF clX11 (by decide) rfl fl_RX11_100 (Or.inr ⟨rfl, rfl, rfl⟩) dX11_init_244 (fun _ => ⟨rfl, rfl⟩) (by rfl) ?_
  rw [tS_f (m := 111) rfl]
  refine xq_aload_n dX11_init_247 rfl rfl ?_
  refine xq_sipush dX11_init_248 sp4374 ?_
  refine xq_newz (n := 4374) dX11_init_251 ac_boolean (nq_lt0 (by decide)) (nI_clamp (by decide)) (by decide) ?_
  rw [tS_z, tS_n (n := 113) (m := 112) (sh := (3, 4374)) rfl (by decide +kernel), nH_id ((hz.mo (by decide : 84 ≤ 113)).sI (by decide)) rfl (by decide)]
  refine xq_putF clX11 (by decide) rfl fl_RX11_103 (Or.inr ⟨rfl, rfl, rfl⟩) dX11_init_253 (fun _ => ⟨rfl, rfl⟩) (by rfl) ?_
  rw [tS_f (m := 112) rfl]
  refine xq_aload_n dX11_init_256 rfl rfl ?_
  refine xq_sipush dX11_init_257 sp729 ?_
  refine xq_newi (n := 729) dX11_init_260 ac_int (nq_lt0 (by decide)) (nI_clamp (by decide)) (by decide) ?_
  rw [tS_z, tS_n (n := 114) (m := 113) (sh := (1, 729)) rfl (by decide +kernel), nH_id ((hz.mo (by decide : 84 ≤ 114)).sI (by decide)) rfl (by decide)]
  refine xq_putF clX11 (by decide) rfl fl_RX11_106 (Or.inr ⟨rfl, rfl, rfl⟩) dX11_init_262 (fun _ => ⟨rfl, rfl⟩) (by rfl) ?_
  rw [tS_f (m := 113) rfl]
  refine xq_aload_n dX11_init_265 rfl rfl ?_
  refine xq_sipush dX11_init_266 sp729 ?_
  refine xq_newz (n := 729) dX11_init_269 ac_boolean (nq_lt0 (by decide)) (nI_clamp (by decide)) (by decide) ?_
  rw [tS_z, tS_n (n := 115) (m := 114) (sh := (3, 729)) rfl (by decide +kernel), nH_id ((hz.mo (by decide : 84 ≤ 115)).sI (by decide)) rfl (by decide)]
  refine xq_putF clX11 (by decide) rfl fl_RX11_109 (Or.inr ⟨rfl, rfl, rfl⟩) dX11_init_271 (fun _ => ⟨rfl, rfl⟩) (by rfl) ?_
  rw [tS_f (m := 114) rfl]
  refine xq_aload_n dX11_init_274 rfl rfl ?_
  refine xq_sipush dX11_init_275 sp729 ?_
  refine xq_newi (n := 729) dX11_init_278 ac_int (nq_lt0 (by decide)) (nI_clamp (by decide)) (by decide) ?_
  rw [tS_z, tS_n (n := 116) (m := 115) (sh := (1, 729)) rfl (by decide +kernel), nH_id ((hz.mo (by decide : 84 ≤ 116)).sI (by decide)) rfl (by decide)]
  refine xq_putF clX11 (by decide) rfl fl_RX11_112 (Or.inr ⟨rfl, rfl, rfl⟩) dX11_init_280 (fun _ => ⟨rfl, rfl⟩) (by rfl) ?_
  rw [tS_f (m := 115) rfl]
  refine xq_aload_n dX11_init_283 rfl rfl ?_
  refine xq_sipush dX11_init_284 sp5832 ?_
  refine xq_newz (n := 5832) dX11_init_287 ac_boolean (nq_lt0 (by decide)) (nI_clamp (by decide)) (by decide) ?_
  rw [tS_z, tS_n (n := 117) (m := 116) (sh := (3, 5832)) rfl (by decide +kernel), nH_id ((hz.mo (by decide : 84 ≤ 117)).sI (by decide)) rfl (by decide)]
  refine xq_putF clX11 (by decide) rfl fl_RX11_115 (Or.inr ⟨rfl, rfl, rfl⟩) dX11_init_289 (fun _ => ⟨rfl, rfl⟩) (by rfl) ?_
  rw [tS_f (m := 116) rfl]
  refine xq_aload_n dX11_init_292 rfl rfl ?_
  refine xq_ldc (v := nI 48114) dX11_init_293 kc_RX11_118 ?_
  refine xq_newz (n := 48114) dX11_init_295 ac_boolean (nq_lt0 (by decide)) (nI_clamp (by decide)) (by decide) ?_
  rw [tS_z, tS_n (n := 118) (m := 117) (sh := (3, 48114)) rfl (by decide +kernel), nH_id ((hz.mo (by decide : 84 ≤ 118)).sI (by decide)) rfl (by decide)]
  refine xq_putF clX11 (by decide) rfl fl_RX11_119 (Or.inr ⟨rfl, rfl, rfl⟩) dX11_init_297 (fun _ => ⟨rfl, rfl⟩) (by rfl) ?_
  rw [tS_f (m := 117) rfl]
  refine xq_aload_n dX11_init_300 rfl rfl ?_
  refine xq_iconst dX11_init_301 icm1 ?_
  refine xq_putI clX11 (by decide) rfl fl_RX11_122 (Or.inl rfl) dX11_init_302 ⟨rfl, rfl⟩ (by rfl) ?_
  have hmx : MxP (sI (sI H 83 29 (-1)) 83 58 (-1)) tx0 (fun _ _ => 0) := mxp0 (fun q h1 h2 k => by
    rw [hI_sI, if_neg (by omega), hI_sI, if_neg (by omega)]; exact (hz q (by omega) (by omega)).1 k)
  refine xq_aload_n dX11_init_305 rfl rfl ?_
  refine xq_callV0N clX11 gd_X11_begins dX11_init_306 ml_RX11_125 im_X11_begins se_X11_begins rfl (by rfl) (by exact Nat.le_of_ble_eq_true rfl) (by decide) (m_begins (T := tx0) (N := fun _ _ => 0) (S := tS Ls 119 118) tS_fx hmx (ln0 (N := fun _ _ => 0)).tw (ln0 (N := fun _ _ => 0)).ht (fun p hp => absurd hp (Nat.not_lt_zero p))) ?_
  intro H306 p306
  obtain ⟨b1, b2, b3⟩ := p306
  refine xq_vret dX11_init_309 rfl ?_
  exact ⟨H306, rfl, hmx.off b3.1 (fun q h1 h2 z => by omega), b1, b2, (b3.2 29 (by omega)).trans (by rw [hI_sI, if_neg (by omega), hI_sI, if_pos ⟨rfl, rfl⟩]), (b3.2 58 (by omega)).trans (by rw [hI_sI, if_pos ⟨rfl, rfl⟩]), fun k k1 k2 k3 k4 => (b3.2 k (by omega)).trans (by rw [hI_sI, if_neg (by omega), hI_sI, if_neg (by omega)]; exact hz83 k), (Off.pI (A := fun q => 83 ≤ q ∧ q < 119) (Off.pI (A := fun q => 83 ≤ q ∧ q < 119) Off.rf (by decide) _ _) (by decide) _ _).tr (b3.1.mo (fun q z => by omega))⟩
end INI
