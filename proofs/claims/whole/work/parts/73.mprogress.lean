/-! ===== the reference: a text that is being told, in the upper halves ===== -/
section MLh
variable {S : xS} {H H1 H2 H3 : xH} {T : uTx} {N : Nat → Nat → Nat} {b : Nat → Nat} {n e p q i j k x w m a c l v : Nat} {A F : Nat → Prop} {s : uTk}
def hfo (q : Nat) : Nat := if q = 85 then 9 else if q = 86 ∨ q = 87 then 3 else if q = 88 ∨ q = 89 ∨ q = 90 then 6 else if q = 91 ∨ q = 92 ∨ q = 93 then 8 else if q = 94 ∨ q = 95 ∨ q = 96 then 12 else if q = 97 ∨ q = 98 then 2 else 64
/-- the lower halves stay, and all that is not of the telling -/
def LoQ (H H2 : xH) : Prop := Off (fun q => q = 83 ∨ (85 ≤ q ∧ q ≤ 100)) H H2 ∧ (∀ k, ¬ (19 ≤ k ∧ k ≤ 31) → hI H2 83 k = hI H 83 k) ∧ ∀ q, 85 ≤ q → q ≤ 100 → ∀ i, i < hfo q → hI H2 q i = hI H q i
theorem LoQ.rf : LoQ H H := ⟨Off.rf, fun _ _ => rfl, fun _ _ _ _ _ => rfl⟩
theorem LoQ.tr (h : LoQ H H1) (h2 : LoQ H1 H2) : LoQ H H2 := ⟨h.1.tr h2.1, fun k hk => (h2.2.1 k hk).trans (h.2.1 k hk), fun q a c i hi => (h2.2.2 q a c i hi).trans (h.2.2 q a c i hi)⟩
theorem LoQ.pF (h : LoQ H H2) (hk : 19 ≤ k ∧ k ≤ 31) (z : Int32) : LoQ H (sI H2 83 k z) := ⟨Off.pI (A := fun q => q = 83 ∨ (85 ≤ q ∧ q ≤ 100)) h.1 (Or.inl rfl) _ _, fun j hj => by rw [hI_sI, if_neg (by omega)]; exact h.2.1 j hj, fun q a c i hi => by rw [hI_sI, if_neg (by omega)]; exact h.2.2 q a c i hi⟩
theorem LoQ.pU (h : LoQ H H2) (ha : 85 ≤ a ∧ a ≤ 100) (hi : hfo a ≤ i) (z : Int32) : LoQ H (sI H2 a i z) := ⟨Off.pI (A := fun q => q = 83 ∨ (85 ≤ q ∧ q ≤ 100)) h.1 (Or.inr ha) _ _, fun j hj => by rw [hI_sI, if_neg (by omega)]; exact h.2.1 j hj, fun q a1 c j hj => by
  rw [hI_sI]
  by_cases e : q = a
  · subst e; rw [if_neg (by omega)]; exact h.2.2 q a1 c j hj
  · rw [if_neg (fun z => e z.1)]; exact h.2.2 q a1 c j hj⟩
theorem LoQ.of (h : MoF (fun q => q = 83) F H H2) (hf : ∀ k, F k → 19 ≤ k ∧ k ≤ 31) : LoQ H H2 := ⟨h.1.mo (fun q z => Or.inl z), fun k hk => h.2 k (fun z => hk (hf k z)), fun q a c i hi => h.1.I (by omega) i⟩
def MxU (H : xH) (T : uTx) (N : Nat → Nat → Nat) : Prop := (hI H 85 9 = nI (tNc T)) ∧ (hI H 85 10 = nI (tNp T)) ∧ (hI H 85 11 = nI (tNf T)) ∧ (hI H 85 12 = nI (tNt T)) ∧ (hI H 85 13 = nI (tNa T)) ∧ (hI H 85 14 = nI (shv T)) ∧ (hI H 85 15 = nI (sdv T)) ∧ (hI H 85 16 = nI (tNk T)) ∧ (∀ k, k < tNc T → hI H 86 (3 + k) = nI (tCn T k) ∧ hI H 87 (3 + k) = nI (tSt T k)) ∧ (∀ k, k < tNp T → hI H 88 (6 + k) = nI (tPn T k) ∧ hI H 89 (6 + k) = nI (tHt T k) ∧ hI H 90 (6 + k) = nI (tSe T k)) ∧ (∀ k, k < tNf T → hI H 91 (8 + k) = nI (tFn T k) ∧ hI H 92 (8 + k) = nI (N 0 k) ∧ hI H 93 (8 + k) = nI (tRo T k + 1)) ∧ (∀ k, k < tNt T → hI H 94 (12 + k) = nI (tTf T k) ∧ hI H 95 (12 + k) = nI (tTh T k)) ∧ (∀ k, k < tNa T → hI H 96 (12 + k) = nI (tAh T k)) ∧ (∀ k, k < 2 → hI H 97 (2 + k) = nI (if tLn T k = 0 then 0 else N 1 k) ∧ hI H 98 (2 + k) = nI (if tLn T k = 0 then 0 else tLr T k + 1)) ∧ (∀ k, k < tNk T → hI H 99 (64 + k) = nI (mkS T k) ∧ hI H 100 (64 + k) = nI (mkV T k))
theorem MxU.nc {H : xH} {T : uTx} {N : Nat → Nat → Nat} (h : MxU H T N) : hI H 85 9 = nI (tNc T) := h.1
theorem MxU.np {H : xH} {T : uTx} {N : Nat → Nat → Nat} (h : MxU H T N) : hI H 85 10 = nI (tNp T) := h.2.1
theorem MxU.nf {H : xH} {T : uTx} {N : Nat → Nat → Nat} (h : MxU H T N) : hI H 85 11 = nI (tNf T) := h.2.2.1
theorem MxU.nt {H : xH} {T : uTx} {N : Nat → Nat → Nat} (h : MxU H T N) : hI H 85 12 = nI (tNt T) := h.2.2.2.1
theorem MxU.na {H : xH} {T : uTx} {N : Nat → Nat → Nat} (h : MxU H T N) : hI H 85 13 = nI (tNa T) := h.2.2.2.2.1
theorem MxU.sh {H : xH} {T : uTx} {N : Nat → Nat → Nat} (h : MxU H T N) : hI H 85 14 = nI (shv T) := h.2.2.2.2.2.1
theorem MxU.sd {H : xH} {T : uTx} {N : Nat → Nat → Nat} (h : MxU H T N) : hI H 85 15 = nI (sdv T) := h.2.2.2.2.2.2.1
theorem MxU.nk {H : xH} {T : uTx} {N : Nat → Nat → Nat} (h : MxU H T N) : hI H 85 16 = nI (tNk T) := h.2.2.2.2.2.2.2.1
theorem MxU.co {H : xH} {T : uTx} {N : Nat → Nat → Nat} (h : MxU H T N) : ∀ k, k < tNc T → hI H 86 (3 + k) = nI (tCn T k) ∧ hI H 87 (3 + k) = nI (tSt T k) := h.2.2.2.2.2.2.2.2.1
theorem MxU.pe {H : xH} {T : uTx} {N : Nat → Nat → Nat} (h : MxU H T N) : ∀ k, k < tNp T → hI H 88 (6 + k) = nI (tPn T k) ∧ hI H 89 (6 + k) = nI (tHt T k) ∧ hI H 90 (6 + k) = nI (tSe T k) := h.2.2.2.2.2.2.2.2.2.1
theorem MxU.fa {H : xH} {T : uTx} {N : Nat → Nat → Nat} (h : MxU H T N) : ∀ k, k < tNf T → hI H 91 (8 + k) = nI (tFn T k) ∧ hI H 92 (8 + k) = nI (N 0 k) ∧ hI H 93 (8 + k) = nI (tRo T k + 1) := h.2.2.2.2.2.2.2.2.2.2.1
theorem MxU.te {H : xH} {T : uTx} {N : Nat → Nat → Nat} (h : MxU H T N) : ∀ k, k < tNt T → hI H 94 (12 + k) = nI (tTf T k) ∧ hI H 95 (12 + k) = nI (tTh T k) := h.2.2.2.2.2.2.2.2.2.2.2.1
theorem MxU.as {H : xH} {T : uTx} {N : Nat → Nat → Nat} (h : MxU H T N) : ∀ k, k < tNa T → hI H 96 (12 + k) = nI (tAh T k) := h.2.2.2.2.2.2.2.2.2.2.2.2.1
theorem MxU.lw {H : xH} {T : uTx} {N : Nat → Nat → Nat} (h : MxU H T N) : ∀ k, k < 2 → hI H 97 (2 + k) = nI (if tLn T k = 0 then 0 else N 1 k) ∧ hI H 98 (2 + k) = nI (if tLn T k = 0 then 0 else tLr T k + 1) := h.2.2.2.2.2.2.2.2.2.2.2.2.2.1
theorem MxU.kn {H : xH} {T : uTx} {N : Nat → Nat → Nat} (h : MxU H T N) : ∀ k, k < tNk T → hI H 99 (64 + k) = nI (mkS T k) ∧ hI H 100 (64 + k) = nI (mkV T k) := h.2.2.2.2.2.2.2.2.2.2.2.2.2.2
/-- the text's sizes fit -/
def SzOk (T : uTx) : Prop := tNc T ≤ 3 ∧ tNp T ≤ 6 ∧ tNf T ≤ 8 ∧ tNt T ≤ 12 ∧ tNa T ≤ 12 ∧ tNk T ≤ 64
theorem MxU.off (h : MxU H T N) (ho : Off A H H2) (h0 : ∀ q, 85 ≤ q → q ≤ 100 → ¬ A q) : MxU H2 T N := by
  have g : ∀ q, 85 ≤ q → q ≤ 100 → ∀ k, hI H2 q k = hI H q k := fun q a c k => ho.I (h0 q a c) k
  refine ⟨(g 85 (by decide) (by decide) _).trans h.nc, (g 85 (by decide) (by decide) _).trans h.np, (g 85 (by decide) (by decide) _).trans h.nf, (g 85 (by decide) (by decide) _).trans h.nt, (g 85 (by decide) (by decide) _).trans h.na, (g 85 (by decide) (by decide) _).trans h.sh, (g 85 (by decide) (by decide) _).trans h.sd, (g 85 (by decide) (by decide) _).trans h.nk, fun k hk => ?_, fun k hk => ?_, fun k hk => ?_, fun k hk => ?_, fun k hk => ?_, fun k hk => ?_, fun k hk => ?_⟩
  · rw [g 86 (by decide) (by decide), g 87 (by decide) (by decide)]; exact h.co k hk
  · rw [g 88 (by decide) (by decide), g 89 (by decide) (by decide), g 90 (by decide) (by decide)]; exact h.pe k hk
  · rw [g 91 (by decide) (by decide), g 92 (by decide) (by decide), g 93 (by decide) (by decide)]; exact h.fa k hk
  · rw [g 94 (by decide) (by decide), g 95 (by decide) (by decide)]; exact h.te k hk
  · rw [g 96 (by decide) (by decide)]; exact h.as k hk
  · rw [g 97 (by decide) (by decide), g 98 (by decide) (by decide)]; exact h.lw k hk
  · rw [g 99 (by decide) (by decide), g 100 (by decide) (by decide)]; exact h.kn k hk
/-- all halves came down -/
theorem MxU.dn (h : MxU H T N) (hs : SzOk T) (hd : ∀ q, 85 ≤ q → q ≤ 100 → ∀ k, k < hfo q → hI H2 q k = hI H q (hfo q + k)) : MxP H2 T N := by
  obtain ⟨s1, s2, s3, s4, s5, s6⟩ := hs
  have d : ∀ q f, 85 ≤ q → q ≤ 100 → hfo q = f → ∀ k, k < f → hI H2 q k = hI H q (f + k) := fun q f a c e k hk => by subst e; exact hd q a c k hk
  refine ⟨(d 85 9 (by decide) (by decide) rfl 0 (by decide)).trans h.nc, (d 85 9 (by decide) (by decide) rfl 1 (by decide)).trans h.np, (d 85 9 (by decide) (by decide) rfl 2 (by decide)).trans h.nf, (d 85 9 (by decide) (by decide) rfl 3 (by decide)).trans h.nt, (d 85 9 (by decide) (by decide) rfl 4 (by decide)).trans h.na, (d 85 9 (by decide) (by decide) rfl 5 (by decide)).trans h.sh, (d 85 9 (by decide) (by decide) rfl 6 (by decide)).trans h.sd, (d 85 9 (by decide) (by decide) rfl 7 (by decide)).trans h.nk, fun k hk => ?_, fun k hk => ?_, fun k hk => ?_, fun k hk => ?_, fun k hk => ?_, fun k hk => ?_, fun k hk => ?_⟩
  · rw [d 86 3 (by decide) (by decide) rfl k (by omega), d 87 3 (by decide) (by decide) rfl k (by omega)]; exact h.co k hk
  · rw [d 88 6 (by decide) (by decide) rfl k (by omega), d 89 6 (by decide) (by decide) rfl k (by omega), d 90 6 (by decide) (by decide) rfl k (by omega)]; exact h.pe k hk
  · rw [d 91 8 (by decide) (by decide) rfl k (by omega), d 92 8 (by decide) (by decide) rfl k (by omega), d 93 8 (by decide) (by decide) rfl k (by omega)]; exact h.fa k hk
  · rw [d 94 12 (by decide) (by decide) rfl k (by omega), d 95 12 (by decide) (by decide) rfl k (by omega)]; exact h.te k hk
  · rw [d 96 12 (by decide) (by decide) rfl k (by omega)]; exact h.as k hk
  · rw [d 97 2 (by decide) (by decide) rfl k hk, d 98 2 (by decide) (by decide) rfl k hk]; exact h.lw k hk
  · rw [d 99 64 (by decide) (by decide) rfl k (by omega), d 100 64 (by decide) (by decide) rfl k (by omega)]; exact h.kn k hk
end MLh
