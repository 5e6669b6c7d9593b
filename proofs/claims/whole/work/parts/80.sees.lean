/-! ===== Reader: what sees does, its spec ===== -/
section LM
variable {S : xS} {H H1 : xH} {k p q i j m n t : Nat} {s : uTk} {T : uTx}
/-- from token m on, i others said, the seen ones in w -/
def seeL (s : uTk) (T : uTx) (p : Nat) : Nat → Nat → Nat → Nat → rLn
  | 0, _, m, w => .inr (m, setT T 8 p w)
  | d + 1, i, m, w =>
    if i ≠ 0 ∧ kK s m ≠ 39 then .inr (m, setT T 8 p w)
    else if knoZ s m (tPn T) (tNp T) = -1 then .inl (knoF s m, m)
    else if (knoZ s m (tPn T) (tNp T)).toNat = p then .inl (5, m)
    else if w.testBit (knoZ s m (tPn T) (tNp T)).toNat = true then .inl (3, m)
    else seeL s T p d (i + 1) (m + 1) (w ||| 1 <<< (knoZ s m (tPn T) (tNp T)).toNat)
def seeR (s : uTk) (n : Nat) (T : uTx) : rLn :=
  if knoZ s (n + 1) (tPn T) (tNp T) = -1 then .inl (knoF s (n + 1), n + 1)
  else if tSe T (knoZ s (n + 1) (tPn T) (tNp T)).toNat ≠ 0 then .inl (3, n + 1)
  else seeL s T (knoZ s (n + 1) (tPn T) (tNp T)).toNat 6 0 (n + 2) 0
theorem setT_se (T : uTx) (p w k : Nat) : tSe (setT T 8 p w) k = if k = p then w else tSe T k := by
  show (if 8 = 8 ∧ k = p then w else tSe T k) = _
  by_cases e : k = p
  · rw [if_pos ⟨rfl, e⟩, if_pos e]
  · rw [if_neg (fun z => e z.2), if_neg e]
theorem TxP.se8 (h : TxP H t T) (ht24 : 24 ≤ t)  : TxP (sI H (t + 13) p (nI m)) t (setT T 8 p m) := by
  obtain ⟨h1, h2, h3, h4, h5, h6, h7, h8, h9, h10, h11, h12, h13, h14, h15, h16, h17⟩ := h
  exact ⟨(by rw [hI_sI, if_neg (by omega)]; exact h1), (by rw [hI_sI, if_neg (by omega)]; exact h2), (by rw [hI_sI, if_neg (by omega)]; exact h3), (by rw [hI_sI, if_neg (by omega)]; exact h4), (fun k hk => ⟨by rw [hI_sI, if_neg (by omega)]; exact (h5 k hk).1, by rw [hI_sI, if_neg (by omega)]; exact (h5 k hk).2.1, by rw [hI_sI, if_neg (by omega)]; exact (h5 k hk).2.2⟩), (fun k hk => ⟨by rw [hI_sI, if_neg (by omega)]; exact (h6 k hk).1, by rw [hI_sI, if_neg (by omega)]; exact (h6 k hk).2⟩), (fun k hk => ⟨by rw [hI_sI, if_neg (by omega)]; exact (h7 k hk).1, by rw [hI_sI, if_neg (by omega)]; exact (h7 k hk).2⟩), (fun k hk => by
    rw [setT_se, hI_sI]
    by_cases e : k = p
    · rw [if_pos ⟨rfl, e⟩, if_pos e]
    · rw [if_neg (fun z => e z.2), if_neg e]; exact h8 k hk), (fun k hk => ⟨by rw [hI_sI, if_neg (by omega)]; exact (h9 k hk).1, by rw [hI_sI, if_neg (by omega)]; exact (h9 k hk).2.1, (h9 k hk).2.2⟩), (by rw [hI_sI, if_neg (by omega)]; exact h10), (fun k hk => ⟨by rw [hI_sI, if_neg (by omega)]; exact (h11 k hk).1, by rw [hI_sI, if_neg (by omega)]; exact (h11 k hk).2⟩), (by rw [hI_sI, if_neg (by omega)]; exact h12), (fun k hk => by rw [hI_sI, if_neg (by omega)]; exact (h13 k hk)), (fun k hk => ⟨(h14 k hk).1, fun e => by rw [hI_sI, if_neg (by omega)]; exact (h14 k hk).2 e⟩), (by rw [hI_sI, if_neg (by omega)]; exact h15), (by rw [hI_sI, if_neg (by omega)]; exact h16), (by rw [hI_sI, if_neg (by omega)]; exact h17)⟩
end LM
