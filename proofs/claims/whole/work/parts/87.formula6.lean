/-! ===== Formula: a step keeps what must hold ===== -/
section FF
variable {S : xS} {H H1 H2 H3 : xH} {k p q i j l m n n2 a c t v r sz st st2 y : Nat} {s : uTk} {T T1 T2 : uTx} {w : Int64} {ws : List (Nat × Nat)} {hs : List Nat} {o b : Nat} {fc : Bool} {x x2 : fmT}
def SmT (T T2 : uTx) : Prop := (∀ a k, a ≠ 1 → a ≠ 2 → a ≠ 3 → (a = 0 → k ≠ 3) → T2.1 a k = T.1 a k) ∧ T2.2 = T.2
theorem SmT.rf : SmT T T := ⟨fun _ _ _ _ _ _ => rfl, rfl⟩
theorem SmT.tr (h : SmT T T1) (h2 : SmT T1 T2) : SmT T T2 := ⟨fun a k a1 a2 a3 a4 => (h2.1 a k a1 a2 a3 a4).trans (h.1 a k a1 a2 a3 a4), h2.2.trans h.2⟩
theorem SmT.kn {i x y : Nat} : SmT T (knT T i x y) := ⟨fun a k a1 a2 a3 a4 => knT_o a1 a2 a3 a4, rfl⟩
theorem SmT.np (h : SmT T T2) : tNp T2 = tNp T := h.1 0 1 (by decide) (by decide) (by decide) (by decide)
theorem SmT.nc (h : SmT T T2) : tNc T2 = tNc T := h.1 0 0 (by decide) (by decide) (by decide) (by decide)
theorem SmT.nf (h : SmT T T2) : tNf T2 = tNf T := h.1 0 2 (by decide) (by decide) (by decide) (by decide)
theorem tiW_s (st o b : Nat) : ∀ {ws hs T w}, SmT T (fmX (tiW st o b ws hs T w)) ∧ (hs ≠ [] → fmH (tiW st o b ws hs T w) ≠ [])
  | [], _, _, _ => ⟨SmT.rf, fun h => h⟩
  | (k, p) :: ws, hs, T, w => by
    unfold tiW
    split
    · exact ⟨SmT.kn.tr (tiW_s st o b).1, fun _ => (tiW_s st o b).2 (by simp)⟩
    · exact ⟨SmT.rf, fun h => h⟩
theorem tieF_s : SmT (fmX x) (fmX (tieF st x)) := (tiW_s _ _ _).1
theorem tieF_h (h : fmH x ≠ []) : fmH (tieF st x) ≠ [] := (tiW_s _ _ _).2 h
theorem tiW_t (st o b : Nat) : ∀ {ws hs T w}, ∀ q l, fmW (tiW st o b ws hs T w) = q :: l → stg q.1 < st
  | [], _, _, _ => fun q l h => by cases h
  | (k, p) :: ws, hs, T, w => fun q l h => by
    unfold tiW at h
    by_cases e : st ≤ stg k
    · rw [if_pos e] at h; exact tiW_t st o b q l h
    · rw [if_neg e] at h
      have h : (k, p) :: ws = q :: l := h
      cases h; show stg k < st; omega
theorem tieF_t {q : Nat × Nat} {l : List (Nat × Nat)} (h : fmW (tieF st x) = q :: l) : stg q.1 < st := tiW_t _ _ _ q l h
theorem nop_le : ∀ l : List (Nat × Nat), nop l ≤ l.length
  | [] => Nat.le_refl _
  | q :: l => by
    have := nop_le l
    show (if stg q.1 = 0 then 0 else 1) + nop l ≤ l.length + 1
    split <;> omega
theorem fi_tie1 (h : FI x) (h0 : fmO x = 0) : fmW (tieF 1 x) = [] := by
  obtain ⟨ws, hs, o, T, b, w⟩ := x
  have hy := FI.tieF (st := 1) (by omega) h
  cases e : fmW (tieF 1 (ws, hs, o, T, b, w)) with
  | nil => rfl
  | cons q l =>
    have h2 := hy.2.2.2.1
    have h3 := tieF_t e
    have h4 := nop_le l
    rw [e, tieF_o, h0] at h2
    have h2 : l.length + 1 = (if stg q.1 = 0 then 0 else 1) + nop l + 0 := h2
    rw [if_pos (by omega)] at h2
    omega
theorem FI.hld (h : FI x) (hb : fmB x < 64) (hk : stg k ≠ 0) (h44 : k ≤ 44) : FI (hldX k p (begX x)) := by
  obtain ⟨h1, h2, h3, h4, h5, h6⟩ := h
  have e : nop ((k, p) :: fmW x) = 1 + nop (fmW x) := by show (if stg k = 0 then 0 else 1) + nop (fmW x) = _; rw [if_neg hk]
  exact ⟨show tNk (fmX x) + nop ((k, p) :: fmW x) = fmB x + 1 by omega, show fmB x + 1 ≤ 64 by omega, h3, show (fmW x).length + 1 = nop ((k, p) :: fmW x) + fmO x by omega, h5, fun q hq => by
    rcases List.mem_cons.mp hq with e | e
    · rw [e]; exact h44
    · exact h6 q e⟩
theorem FI.opn (h : FI x) (ho : fmO x < 8) : FI (hldX 41 0 (opnX (fmO x + 1) x)) := by
  obtain ⟨h1, h2, h3, h4, h5, h6⟩ := h
  have e : nop ((41, 0) :: fmW x) = nop (fmW x) := by show (if stg 41 = 0 then 0 else 1) + nop (fmW x) = _; rw [if_pos (show stg 41 = 0 from rfl)]; omega
  exact ⟨show tNk (fmX x) + nop ((41, 0) :: fmW x) = fmB x by omega, h2, h3, show (fmW x).length + 1 = nop ((41, 0) :: fmW x) + (fmO x + 1) by omega, show fmO x + 1 ≤ 8 by omega, fun q hq => by
    rcases List.mem_cons.mp hq with e | e
    · rw [e]; exact (by decide : 41 ≤ 44)
    · exact h6 q e⟩
theorem FI.kps (h : FI x) (hb : fmB x < 64) : FI (kpsX k a c (begX x)) := by
  obtain ⟨h1, h2, h3, h4, h5, h6⟩ := h
  exact ⟨show tNk (fmX x) + 1 + nop (fmW x) = fmB x + 1 by omega, show fmB x + 1 ≤ 64 by omega, show (fmH x).length + 1 ≤ tNk (fmX x) + 1 by omega, h4, h5, h6⟩
theorem fi_cls (h : FI x) (h0 : 0 < fmO x) : FI (clsX (tieF 1 x)) := by
  obtain ⟨ws, hs, o, T, b, w⟩ := x
  have hy := FI.tieF (st := 1) (by omega) h
  have ho : fmO (tieF 1 (ws, hs, o, T, b, w)) = o := tieF_o
  have h0 : 0 < o := h0
  cases e : fmW (tieF 1 (ws, hs, o, T, b, w)) with
  | nil => have h2 := hy.2.2.2.1; rw [e, ho] at h2; exact absurd h2 (by show ¬ 0 = 0 + o; omega)
  | cons q l =>
    obtain ⟨h1, h2, h3, h4, h5, h6⟩ := hy
    have h7 := tieF_t e
    rw [e] at h1 h4 h6
    rw [ho] at h4 h5
    have en : nop (q :: l) = nop l := by show (if stg q.1 = 0 then 0 else 1) + nop l = _; rw [if_pos (by omega)]; omega
    rw [en] at h1 h4
    have h4 : l.length + 1 = nop l + o := h4
    refine ⟨?_, h2, h3, ?_, ?_, ?_⟩
    · show _ + nop (fmW (tieF 1 (ws, hs, o, T, b, w))).tail = _; rw [e]; exact h1
    · show (fmW (tieF 1 (ws, hs, o, T, b, w))).tail.length = nop (fmW (tieF 1 (ws, hs, o, T, b, w))).tail + (fmO (tieF 1 (ws, hs, o, T, b, w)) - 1); rw [e, ho]; show l.length = nop l + (o - 1); omega
    · show fmO (tieF 1 (ws, hs, o, T, b, w)) - 1 ≤ 8; rw [ho]; omega
    · show ∀ q, q ∈ (fmW (tieF 1 (ws, hs, o, T, b, w))).tail → _; rw [e]; exact fun q hq => h6 q (List.mem_cons_of_mem _ hq)
theorem kK_lt (h : kK s n ≠ 44) : n < kSz s := by
  unfold kK at h
  by_cases e : n < kSz s
  · exact e
  · rw [if_neg e] at h; exact absurd rfl h
theorem knoZ_k {cd : Nat → Nat} (h : ¬ knoZ s n cd sz = -1) : kK s n = 39 := by
  unfold knoZ at h
  by_cases e : kK s n = 39
  · exact e
  · rw [if_neg e] at h; exact absurd rfl h
theorem numB_k (h : ¬ numB s n m = false) : kK s n = 38 := by
  unfold numB at h
  by_cases e : kK s n = 38
  · exact e
  · exact absurd (decide_eq_false (fun z => e z.1)) h
/-- what a step keeps -/
def StQ (s : uTk) (n st2 n2 : Nat) (x x2 : fmT) : Prop := FI x2 ∧ st2 ≤ 2 ∧ (st2 = 2 → fmH x2 ≠ []) ∧ n < n2 ∧ n2 ≤ kSz s ∧ SmT (fmX x) (fmX x2)
theorem eit_ok (h : FI x) (hs : kK s n = k) (e : eitS k st n x = .inr (st2, n2, x2)) : StQ s n st2 n2 x x2 := by
  unfold eitS at e
  split at e
  · rename_i h1
    split at e
    · cases e
    · cases e
      exact ⟨h.hld (by omega) (by decide) (by decide), by decide, (fun z => by cases z), by omega, kK_lt (by omega), SmT.rf⟩
  · split at e
    · cases e
    · split at e
      · cases e
      · cases e
        exact ⟨h.opn (by omega), by decide, (fun z => by cases z), by omega, kK_lt (by omega), SmT.rf⟩
theorem knw_ok (h : FI x) (hb : fmB x < 64) (e : knwS s n (begX x) = .inr (st2, n2, x2)) : StQ s n st2 n2 x x2 := by
  unfold knwS at e
  split at e
  · cases e
  · rename_i h1
    cases e
    exact ⟨h.hld hb (by decide) (by decide), by decide, (fun z => by cases z), by omega, kK_lt (by have := knoZ_k h1; omega), SmT.rf⟩
theorem hat_ok (h : FI x) (hb : fmB x < 64) (e : hatS s n (begX x) = .inr (st2, n2, x2)) : StQ s n st2 n2 x x2 := by
  unfold hatS at e
  split at e
  · cases e
  · split at e
    · cases e
    · rename_i h1 h2
      cases e
      exact ⟨h.kps hb, by decide, (fun _ z => by cases z), by omega, kK_lt (by have := knoZ_k h2; omega), SmT.kn⟩
theorem own_ok (h : FI x) (hb : fmB x < 64) (e : ownS s n (begX x) = .inr (st2, n2, x2)) : StQ s n st2 n2 x x2 := by
  unfold ownS at e
  split at e
  · cases e
  · rename_i h1
    cases e
    exact ⟨h.kps hb, by decide, (fun _ z => by cases z), by omega, kK_lt (by have := knoZ_k h1; omega), SmT.kn⟩
theorem mny_ok (h : FI x) (hb : fmB x < 64) (e : mnyS s n (begX x) = .inr (st2, n2, x2)) : StQ s n st2 n2 x x2 := by
  unfold mnyS at e
  split at e
  · cases e
  · split at e
    · cases e
    · rename_i h1 h2
      cases e
      exact ⟨h.kps hb, by decide, (fun _ z => by cases z), by omega, kK_lt (by have := numB_k h2; omega), SmT.kn⟩
theorem as_ok (h : FI x) (hb : fmB x < 64) (e : asS s n (begX x) = .inr (st2, n2, x2)) : StQ s n st2 n2 x x2 := by
  unfold asS at e
  split at e
  · cases e
  · rename_i h1
    cases e
    exact ⟨FI.kps (x := nedX _ x) h hb, by decide, (fun _ z => by cases z), by omega, kK_lt (by have := knoZ_k h1; omega), SmT.kn⟩
theorem fac_ok (h : FI x) (e : facS s st n x = .inr (st2, n2, x2)) : StQ s n st2 n2 x x2 := by
  unfold facS at e
  split at e
  · split at e
    · cases e
    · have hb : fmB x < 64 := by omega
      unfold leaS at e
      split at e
      · exact hat_ok h hb e
      · split at e
        · exact own_ok h hb e
        · split at e
          · exact mny_ok h hb e
          · exact as_ok h hb e
  · split at e
    · split at e
      · cases e
      · exact knw_ok h (by omega) e
    · split at e
      · rename_i h3
        split at e
        · cases e
        · cases e
          refine ⟨h.hld (by omega) ?_ (by omega), by decide, (fun z => by cases z), by omega, kK_lt (by omega), SmT.rf⟩
          rcases h3 with e | e <;> rw [e] <;> decide
      · exact eit_ok h rfl e
theorem val_ok (h : FI x) (e : valS s st n x = .inr (st2, n2, x2)) : StQ s n st2 n2 x x2 := by
  unfold valS at e
  split at e
  · exact eit_ok h rfl e
  · split at e
    · cases e
    · split at e
      · cases e
      · cases e
        exact ⟨h.kps (by omega), by decide, (fun _ z => by cases z), by omega, kK_lt (by omega), SmT.kn⟩
theorem sig_ok (h : FI x) (hne : fmH x ≠ []) (hk : kK s n ≤ 44) (e : sigS s fc n x = .inr (st2, n2, x2)) : StQ s n st2 n2 x x2 := by
  have hx : x = (fmW x, fmH x, fmO x, fmX x, fmB x, fmN x) := rfl
  unfold sigS at e
  split at e
  · rename_i h1
    cases e
    exact ⟨fi_cls h h1.2, by decide, fun _ => tieF_h (st := 1) hne, by omega, kK_lt (by omega), tieF_s⟩
  · split at e
    · cases e
    · split at e
      · cases e
      · split at e
        · cases e
        · rename_i h1 h2 h3 h4
          have hsg : sgs (kK s n) ≠ 0 := fun z => h2 (Or.inl z)
          have hstg : stg (kK s n) ≠ 0 := by
            unfold sgs at hsg
            split at hsg
            · exact absurd rfl hsg
            · exact hsg
          have hkl : n < kSz s := kK_lt (fun z => hstg (by rw [z]; rfl))
          cases e
          have hty : FI (tieF (if sgs (kK s n) = 4 then 5 else sgs (kK s n)) x) := FI.tieF (ws := fmW x) (hs := fmH x) (T := fmX x) (w := fmN x) (o := fmO x) (b := fmB x) (by split <;> omega) h
          refine ⟨hty.hld (by rw [tieF_b]; omega) hstg hk, by split <;> omega, fun z => ?_, by omega, hkl, tieF_s⟩
          split at z <;> cases z
def stpS (s : uTk) (fc : Bool) (st n : Nat) (x : fmT) : fmR := if st = 2 then sigS s fc n x else if fc = true then facS s st n x else valS s st n x
theorem stp_ok (h : FI x) (hne : st = 2 → fmH x ≠ []) (hk : kK s n ≤ 44) (e : stpS s fc st n x = .inr (st2, n2, x2)) : StQ s n st2 n2 x x2 := by
  unfold stpS at e
  split at e
  · rename_i h1; exact sig_ok h (hne h1) hk e
  · split at e
    · exact fac_ok h e
    · exact val_ok h e
/-- the whole reading: a fault, or how far, the text, the needs, the root -/
abbrev rdT : Type := (Nat × Nat) ⊕ (Nat × uTx × Int64 × Nat)
def mR (s : uTk) (fc : Bool) : Nat → Nat → Nat → fmT → rdT
  | 0, _, _, _ => .inl (0, 0)
  | d + 1, st, n, x => if st = 2 ∧ fmO x = 0 ∧ kK s n = 40 then .inr (n, fmX (tieF 1 x), fmN (tieF 1 x), lg 0 (fmH (tieF 1 x)) 0) else match stpS s fc st n x with
    | .inl e => .inl e
    | .inr z => mR s fc d z.1 z.2.1 z.2.2
def rdV (r : rdT) : Int := match r with | .inl _ => -1 | .inr q => (q.2.2.2 : Int)
def rdQ (H H' : xH) (t : Nat) (s : uTk) (r : rdT) : Prop := Off (fun q => q = 2 ∨ (8 ≤ q ∧ q < 16) ∨ (t ≤ q ∧ q < t + 21)) H H' ∧ match r with
  | .inl (c, m) => hI H' 2 7 = nI c ∧ hI H' 2 8 = zI (kP s m) ∧ hI H' 2 6 = hI H 2 6
  | .inr (m, T', w, _) => TrP H' s m ∧ hI H' 2 7 = hI H 2 7 ∧ hI H' 2 8 = hI H 2 8 ∧ TxP H' t T' ∧ hI H' (t + 7) 4 = nI (tNk T') ∧ hL H' 8 8 = w
theorem mR_f {d : Nat} (h : ¬ (st = 2 ∧ fmO x = 0 ∧ kK s n = 40)) {e : Nat × Nat} (h2 : stpS s fc st n x = .inl e) : mR s fc (d + 1) st n x = .inl e := by
  show (if _ then _ else _) = _
  rw [if_neg h, h2]
theorem mR_c {d : Nat} (h : ¬ (st = 2 ∧ fmO x = 0 ∧ kK s n = 40)) (h2 : stpS s fc st n x = .inr (st2, n2, x2)) : mR s fc (d + 1) st n x = mR s fc d st2 n2 x2 := by
  show (if _ then _ else _) = _
  rw [if_neg h, h2]
theorem mR_e {d : Nat} (h : st = 2 ∧ fmO x = 0 ∧ kK s n = 40) : mR s fc (d + 1) st n x = .inr (n, fmX (tieF 1 x), fmN (tieF 1 x), lg 0 (fmH (tieF 1 x)) 0) := if_pos h
theorem c_fread {T0 : uTx} {n0 D : Nat} (hD : 701 ≤ D) (hF : gFx S) (ht : gTx S t) (ht24 : 24 ≤ t) (ht45 : t ≤ 45) (hs0 : TrP H s n0) (hk : TrOk s) (hn : 0 < n0) (hnz : n0 ≤ kSz s) (hT : TxP H t T0) (hbg : hI H (t + 7) 4 = nI (tNk T0)) (hnp : tNp T0 ≤ 6) (hnc : tNc T0 ≤ 3) (hnf : tNf T0 ≤ 8) (hk64 : tNk T0 ≤ 64) : Hv mX1_read 4 [.ref 8, .ref t, vB fc] S H vZ (fun z H' => z = rdV (mR s fc D 0 n0 ([], [], 0, T0, tNk T0, lN 0)) ∧ rdQ H H' t s (mR s fc D 0 n0 ([], [], 0, T0, tNk T0, lN 0))) := by
  have hkz := hk.1
  have hkk := hs0.1.2.1
  have lpW : ∀ (i : Nat) (H1 : xH), i ≤ 701 → ((-1 : Int) = rdV (mR s fc D 0 n0 ([], [], 0, T0, tNk T0, lN 0)) ∧ rdQ H H1 t s (mR s fc D 0 n0 ([], [], 0, T0, tNk T0, lN 0))) → Xq mX1_read 4 0 0 33 [some (.ref 8), some (.ref t), some (vB fc), some (vN 3), some (vN i)] [] S H1 (fun R => ∃ x H', ((fun z H' => z = rdV (mR s fc D 0 n0 ([], [], 0, T0, tNk T0, lN 0)) ∧ rdQ H H' t s (mR s fc D 0 n0 ([], [], 0, T0, tNk T0, lN 0)))) x H' ∧ R = (some (vZ x), S, H')) := by
    intro i H1 hi7 hq
    refine xq_iload dX1_read_33 rfl ?_
    refine xq_sipush dX1_read_35 sp700 ?_
    refine xq_icmp_gtN dX1_read_38 rfl (by omega) (by omega) ⟨fun h38 => ?_, fun h38 => ?_⟩
    · skip
      refine xq_iconst dX1_read_132 icm1 ?_
      refine xq_iret dX1_read_133 rfl ?_
      exact ⟨-1, H1, hq, rfl⟩
    · skip
      refine xq_iload_n dX1_read_41 rfl rfl ?_
      refine xq_iconst dX1_read_42 ic3 ?_
      refine xq_icmp_eqN dX1_read_43 rfl (by omega) (by omega) ⟨fun h43 => ?_, fun h43 => ?_⟩
      · skip
        refine xq_iconst dX1_read_132 icm1 ?_
        refine xq_iret dX1_read_133 rfl ?_
        exact ⟨-1, H1, hq, rfl⟩
      · skip
        first | exact absurd h43 (by decide) | exact absurd rfl h43
  have lp : ∀ (fz : Nat) (st : Nat) (i : Nat) (n : Nat) (x : fmT) (H1 : xH), 701 - i < fz → i < n → n ≤ kSz s → st ≤ 2 → (st = 2 → fmH x ≠ []) → FmP H1 t x → FI x → TrP H1 s n → Off (fun q => q = 2 ∨ (8 ≤ q ∧ q < 16) ∨ (t ≤ q ∧ q < t + 21)) H H1 → hI H1 2 7 = hI H 2 7 → hI H1 2 8 = hI H 2 8 → SmT T0 (fmX x) → mR s fc D 0 n0 ([], [], 0, T0, tNk T0, lN 0) = mR s fc (D - i) st n x → Xq mX1_read 4 0 0 33 [some (.ref 8), some (.ref t), some (vB fc), some (vN st), some (vN i)] [] S H1 (fun R => ∃ x H', ((fun z H' => z = rdV (mR s fc D 0 n0 ([], [], 0, T0, tNk T0, lN 0)) ∧ rdQ H H' t s (mR s fc D 0 n0 ([], [], 0, T0, tNk T0, lN 0)))) x H' ∧ R = (some (vZ x), S, H')) := by
    intro fz
    induction fz with
    | zero => intro st  i  n  x  H1  hfz; exact absurd hfz (by omega)
    | succ fz ih =>
      intro st  i  n  x  H1  hfz hin hnz hst hne hf hi hs1 ho h7 h8 hsm heq
      obtain ⟨ws, hs, o, T, b, w⟩ := x
      have hkb : kK s n ≤ 44 := kK_le hk
      have hia := hi.a
      obtain ⟨i1, i2, i3, i4, i5⟩ := hia
      have hnp2 : tNp T ≤ 6 := by rw [show tNp T = tNp T0 from hsm.np]; exact hnp
      have hnc2 : tNc T ≤ 3 := by rw [show tNc T = tNc T0 from hsm.nc]; exact hnc
      have hnf2 : tNf T ≤ 8 := by rw [show tNf T = tNf T0 from hsm.nf]; exact hnf
      refine xq_iload dX1_read_33 rfl ?_
      refine xq_sipush dX1_read_35 sp700 ?_
      refine xq_icmp_gtN dX1_read_38 rfl (by omega) (by omega) ⟨fun h38 => ?_, fun h38 => ?_⟩
      · skip
        exact absurd h38 (by omega)
      · skip
        refine xq_iload_n dX1_read_41 rfl rfl ?_
        refine xq_iconst dX1_read_42 ic3 ?_
        refine xq_icmp_eqN dX1_read_43 rfl (by omega) (by omega) ⟨fun h43 => ?_, fun h43 => ?_⟩
        · skip
          exact absurd h43 (by omega)
        · skip
          refine xq_iload_n dX1_read_46 rfl rfl ?_
          refine xq_iconst dX1_read_47 ic2 ?_
          refine xq_icmp_neN dX1_read_48 rfl (by omega) (by omega) ⟨fun h48 => ?_, fun h48 => ?_⟩
          · skip
            refine xq_iload_n dX1_read_93 rfl rfl ?_
            refine xq_iconst dX1_read_94 ic2 ?_
            refine xq_icmp_neN dX1_read_95 rfl (by omega) (by omega) ⟨fun h95 => ?_, fun h95 => ?_⟩
            · skip
              refine xq_iload_n dX1_read_107 rfl rfl ?_
              refine xq_if_eqB dX1_read_108 rfl ⟨fun h108 => ?_, fun h108 => ?_⟩
              · skip
                refine xq_aload_n dX1_read_120 rfl rfl ?_
                refine xq_iload_n dX1_read_121 rfl rfl ?_
                refine xq_callV1H clX1 gd_X1_readValue dX1_read_122 ml_RX1_67 im_X1_readValue se_X1_readValue rfl (Fx.s8 hF) (by exact Nat.le_of_ble_eq_true rfl) (by decide) (c_readValue hF ht ht24 ht45 hs1 hk (by omega) hf hi (by omega)) ?_
                intro x122 H122 p122
                refine xq_istore_n dX1_read_125 rfl rfl ?_
                refine xq_iincN dX1_read_126 ic1 rfl rfl ?_
                refine xq_goto dX1_read_129 rfl ?_
                obtain ⟨e122, q122⟩ := p122
                subst e122
                have es : stpS s fc st n (ws, hs, o, T, b, w) = valS s st n (ws, hs, o, T, b, w) := (if_neg (by omega)).trans (if_neg (by simpa using h108))
                rw [← es] at q122 ⊢
                have nfin : ¬ (st = 2 ∧ fmO (ws, hs, o, T, b, w) = 0 ∧ kK s n = 40) := fun z => h48 z.1
                have hd : D - i = (D - (i + 1)) + 1 := by omega
                cases er : stpS s fc st n (ws, hs, o, T, b, w) with
                | inl e =>
                  have hfin := heq.trans ((congrArg (fun d => mR s fc d st n (ws, hs, o, T, b, w)) hd).trans (mR_f nfin er))
                  rw [er] at q122
                  obtain ⟨c, m⟩ := e
                  have hq : rdQ H H122 t s (mR s fc D 0 n0 ([], [], 0, T0, tNk T0, lN 0)) := by
                    rw [hfin]
                    exact ⟨ho.tr q122.1, q122.2.1, q122.2.2.1, q122.2.2.2.trans (hs1.1.2.1.trans hs0.1.2.1.symm)⟩
                  exact xq_fgt (lpW (i + 1) H122 (by omega) (by rw [hfin]; exact ⟨rfl, by rw [hfin] at hq; exact hq⟩)) (by exact And.intro rfl (And.intro rfl (And.intro rfl (And.intro rfl (And.intro rfl trivial)))))
                | inr z =>
                  obtain ⟨st2, n2, x2⟩ := z
                  have hfin := heq.trans ((congrArg (fun d => mR s fc d st n (ws, hs, o, T, b, w)) hd).trans (mR_c nfin er))
                  rw [er] at q122
                  obtain ⟨g1, g2, g3, g4, g5, g6⟩ := stp_ok hi hne hkb er
                  obtain ⟨oq, k1, k2, k3, k4⟩ := q122
                  exact xq_fgt (ih st2 (i + 1) n2 x2 H122 (by omega) (by omega) g5 g2 g3 k4 g1 k1 (ho.tr oq) (k2.trans h7) (k3.trans h8) (hsm.tr g6) hfin) (by exact And.intro rfl (And.intro rfl (And.intro rfl (And.intro rfl (And.intro rfl trivial)))))
              · skip
                refine xq_aload_n dX1_read_111 rfl rfl ?_
                refine xq_aload_n dX1_read_112 rfl rfl ?_
                refine xq_iload_n dX1_read_113 rfl rfl ?_
                refine xq_callV2H clX1 gd_X1_readFact dX1_read_114 ml_RX1_63 im_X1_readFact se_X1_readFact rfl (Fx.s8 hF) (by exact Nat.le_of_ble_eq_true rfl) (by decide) (c_readFact (k := kK s n) hF ht ht24 ht45 hs1 hk (by omega) hf hnp2 hnc2 hnf2 hi (by omega) rfl) ?_
                intro x114 H114 p114
                refine xq_goto dX1_read_117 rfl ?_
                refine xq_istore_n dX1_read_125 rfl rfl ?_
                refine xq_iincN dX1_read_126 ic1 rfl rfl ?_
                refine xq_goto dX1_read_129 rfl ?_
                obtain ⟨e114, q114⟩ := p114
                subst e114
                have es : stpS s fc st n (ws, hs, o, T, b, w) = facS s st n (ws, hs, o, T, b, w) := (if_neg (by omega)).trans (if_pos (by simpa using h108))
                rw [← es] at q114 ⊢
                have nfin : ¬ (st = 2 ∧ fmO (ws, hs, o, T, b, w) = 0 ∧ kK s n = 40) := fun z => h48 z.1
                have hd : D - i = (D - (i + 1)) + 1 := by omega
                cases er : stpS s fc st n (ws, hs, o, T, b, w) with
                | inl e =>
                  have hfin := heq.trans ((congrArg (fun d => mR s fc d st n (ws, hs, o, T, b, w)) hd).trans (mR_f nfin er))
                  rw [er] at q114
                  obtain ⟨c, m⟩ := e
                  have hq : rdQ H H114 t s (mR s fc D 0 n0 ([], [], 0, T0, tNk T0, lN 0)) := by
                    rw [hfin]
                    exact ⟨ho.tr q114.1, q114.2.1, q114.2.2.1, q114.2.2.2.trans (hs1.1.2.1.trans hs0.1.2.1.symm)⟩
                  exact xq_fgt (lpW (i + 1) H114 (by omega) (by rw [hfin]; exact ⟨rfl, by rw [hfin] at hq; exact hq⟩)) (by exact And.intro rfl (And.intro rfl (And.intro rfl (And.intro rfl (And.intro rfl trivial)))))
                | inr z =>
                  obtain ⟨st2, n2, x2⟩ := z
                  have hfin := heq.trans ((congrArg (fun d => mR s fc d st n (ws, hs, o, T, b, w)) hd).trans (mR_c nfin er))
                  rw [er] at q114
                  obtain ⟨g1, g2, g3, g4, g5, g6⟩ := stp_ok hi hne hkb er
                  obtain ⟨oq, k1, k2, k3, k4⟩ := q114
                  exact xq_fgt (ih st2 (i + 1) n2 x2 H114 (by omega) (by omega) g5 g2 g3 k4 g1 k1 (ho.tr oq) (k2.trans h7) (k3.trans h8) (hsm.tr g6) hfin) (by exact And.intro rfl (And.intro rfl (And.intro rfl (And.intro rfl (And.intro rfl trivial)))))
            · skip
              refine xq_aload_n dX1_read_98 rfl rfl ?_
              refine xq_iload_n dX1_read_99 rfl rfl ?_
              refine xq_callV1H clX1 gd_X1_readSign dX1_read_100 ml_RX1_59 im_X1_readSign se_X1_readSign rfl (Fx.s8 hF) (by exact Nat.le_of_ble_eq_true rfl) (by decide) (c_readSign hF ht ht24 ht45 hs1 hk (by omega) hf hi) ?_
              intro x100 H100 p100
              refine xq_istore_n dX1_read_103 rfl rfl ?_
              refine xq_goto dX1_read_104 rfl ?_
              refine xq_iincN dX1_read_126 ic1 rfl rfl ?_
              refine xq_goto dX1_read_129 rfl ?_
              obtain ⟨e100, q100⟩ := p100
              subst e100
              have es : stpS s fc st n (ws, hs, o, T, b, w) = sigS s fc n (ws, hs, o, T, b, w) := if_pos (by omega)
              rw [← es] at q100 ⊢
              have nfin : ¬ (st = 2 ∧ fmO (ws, hs, o, T, b, w) = 0 ∧ kK s n = 40) := fun z => h48 z.1
              have hd : D - i = (D - (i + 1)) + 1 := by omega
              cases er : stpS s fc st n (ws, hs, o, T, b, w) with
              | inl e =>
                have hfin := heq.trans ((congrArg (fun d => mR s fc d st n (ws, hs, o, T, b, w)) hd).trans (mR_f nfin er))
                rw [er] at q100
                obtain ⟨c, m⟩ := e
                have hq : rdQ H H100 t s (mR s fc D 0 n0 ([], [], 0, T0, tNk T0, lN 0)) := by
                  rw [hfin]
                  exact ⟨ho.tr q100.1, q100.2.1, q100.2.2.1, q100.2.2.2.trans (hs1.1.2.1.trans hs0.1.2.1.symm)⟩
                exact xq_fgt (lpW (i + 1) H100 (by omega) (by rw [hfin]; exact ⟨rfl, by rw [hfin] at hq; exact hq⟩)) (by exact And.intro rfl (And.intro rfl (And.intro rfl (And.intro rfl (And.intro rfl trivial)))))
              | inr z =>
                obtain ⟨st2, n2, x2⟩ := z
                have hfin := heq.trans ((congrArg (fun d => mR s fc d st n (ws, hs, o, T, b, w)) hd).trans (mR_c nfin er))
                rw [er] at q100
                obtain ⟨g1, g2, g3, g4, g5, g6⟩ := stp_ok hi hne hkb er
                obtain ⟨oq, k1, k2, k3, k4⟩ := q100
                exact xq_fgt (ih st2 (i + 1) n2 x2 H100 (by omega) (by omega) g5 g2 g3 k4 g1 k1 (ho.tr oq) (k2.trans h7) (k3.trans h8) (hsm.tr g6) hfin) (by exact And.intro rfl (And.intro rfl (And.intro rfl (And.intro rfl (And.intro rfl trivial)))))
          · skip
            refine xq_aload_n dX1_read_51 rfl rfl ?_
            refine xq_getIE (v := nI o) clX1 (by decide) rfl fl_RX1_42 dX1_read_52 (Fx.s8 hF) hf.op ?_
            refine xq_if_neN dX1_read_55 rfl (by omega) ⟨fun h55 => ?_, fun h55 => ?_⟩
            · skip
              refine xq_iload_n dX1_read_93 rfl rfl ?_
              refine xq_iconst dX1_read_94 ic2 ?_
              refine xq_icmp_neN dX1_read_95 rfl (by omega) (by omega) ⟨fun h95 => ?_, fun h95 => ?_⟩
              · skip
                refine xq_iload_n dX1_read_107 rfl rfl ?_
                refine xq_if_eqB dX1_read_108 rfl ⟨fun h108 => ?_, fun h108 => ?_⟩
                · skip
                  refine xq_aload_n dX1_read_120 rfl rfl ?_
                  refine xq_iload_n dX1_read_121 rfl rfl ?_
                  refine xq_callV1H clX1 gd_X1_readValue dX1_read_122 ml_RX1_67 im_X1_readValue se_X1_readValue rfl (Fx.s8 hF) (by exact Nat.le_of_ble_eq_true rfl) (by decide) (c_readValue hF ht ht24 ht45 hs1 hk (by omega) hf hi (by omega)) ?_
                  intro x122 H122 p122
                  refine xq_istore_n dX1_read_125 rfl rfl ?_
                  refine xq_iincN dX1_read_126 ic1 rfl rfl ?_
                  refine xq_goto dX1_read_129 rfl ?_
                  obtain ⟨e122, q122⟩ := p122
                  subst e122
                  have es : stpS s fc st n (ws, hs, o, T, b, w) = valS s st n (ws, hs, o, T, b, w) := (if_neg (by omega)).trans (if_neg (by simpa using h108))
                  rw [← es] at q122 ⊢
                  have nfin : ¬ (st = 2 ∧ fmO (ws, hs, o, T, b, w) = 0 ∧ kK s n = 40) := fun z => h55 z.2.1
                  have hd : D - i = (D - (i + 1)) + 1 := by omega
                  cases er : stpS s fc st n (ws, hs, o, T, b, w) with
                  | inl e =>
                    have hfin := heq.trans ((congrArg (fun d => mR s fc d st n (ws, hs, o, T, b, w)) hd).trans (mR_f nfin er))
                    rw [er] at q122
                    obtain ⟨c, m⟩ := e
                    have hq : rdQ H H122 t s (mR s fc D 0 n0 ([], [], 0, T0, tNk T0, lN 0)) := by
                      rw [hfin]
                      exact ⟨ho.tr q122.1, q122.2.1, q122.2.2.1, q122.2.2.2.trans (hs1.1.2.1.trans hs0.1.2.1.symm)⟩
                    exact xq_fgt (lpW (i + 1) H122 (by omega) (by rw [hfin]; exact ⟨rfl, by rw [hfin] at hq; exact hq⟩)) (by exact And.intro rfl (And.intro rfl (And.intro rfl (And.intro rfl (And.intro rfl trivial)))))
                  | inr z =>
                    obtain ⟨st2, n2, x2⟩ := z
                    have hfin := heq.trans ((congrArg (fun d => mR s fc d st n (ws, hs, o, T, b, w)) hd).trans (mR_c nfin er))
                    rw [er] at q122
                    obtain ⟨g1, g2, g3, g4, g5, g6⟩ := stp_ok hi hne hkb er
                    obtain ⟨oq, k1, k2, k3, k4⟩ := q122
                    exact xq_fgt (ih st2 (i + 1) n2 x2 H122 (by omega) (by omega) g5 g2 g3 k4 g1 k1 (ho.tr oq) (k2.trans h7) (k3.trans h8) (hsm.tr g6) hfin) (by exact And.intro rfl (And.intro rfl (And.intro rfl (And.intro rfl (And.intro rfl trivial)))))
                · skip
                  refine xq_aload_n dX1_read_111 rfl rfl ?_
                  refine xq_aload_n dX1_read_112 rfl rfl ?_
                  refine xq_iload_n dX1_read_113 rfl rfl ?_
                  refine xq_callV2H clX1 gd_X1_readFact dX1_read_114 ml_RX1_63 im_X1_readFact se_X1_readFact rfl (Fx.s8 hF) (by exact Nat.le_of_ble_eq_true rfl) (by decide) (c_readFact (k := kK s n) hF ht ht24 ht45 hs1 hk (by omega) hf hnp2 hnc2 hnf2 hi (by omega) rfl) ?_
                  intro x114 H114 p114
                  refine xq_goto dX1_read_117 rfl ?_
                  refine xq_istore_n dX1_read_125 rfl rfl ?_
                  refine xq_iincN dX1_read_126 ic1 rfl rfl ?_
                  refine xq_goto dX1_read_129 rfl ?_
                  obtain ⟨e114, q114⟩ := p114
                  subst e114
                  have es : stpS s fc st n (ws, hs, o, T, b, w) = facS s st n (ws, hs, o, T, b, w) := (if_neg (by omega)).trans (if_pos (by simpa using h108))
                  rw [← es] at q114 ⊢
                  have nfin : ¬ (st = 2 ∧ fmO (ws, hs, o, T, b, w) = 0 ∧ kK s n = 40) := fun z => h55 z.2.1
                  have hd : D - i = (D - (i + 1)) + 1 := by omega
                  cases er : stpS s fc st n (ws, hs, o, T, b, w) with
                  | inl e =>
                    have hfin := heq.trans ((congrArg (fun d => mR s fc d st n (ws, hs, o, T, b, w)) hd).trans (mR_f nfin er))
                    rw [er] at q114
                    obtain ⟨c, m⟩ := e
                    have hq : rdQ H H114 t s (mR s fc D 0 n0 ([], [], 0, T0, tNk T0, lN 0)) := by
                      rw [hfin]
                      exact ⟨ho.tr q114.1, q114.2.1, q114.2.2.1, q114.2.2.2.trans (hs1.1.2.1.trans hs0.1.2.1.symm)⟩
                    exact xq_fgt (lpW (i + 1) H114 (by omega) (by rw [hfin]; exact ⟨rfl, by rw [hfin] at hq; exact hq⟩)) (by exact And.intro rfl (And.intro rfl (And.intro rfl (And.intro rfl (And.intro rfl trivial)))))
                  | inr z =>
                    obtain ⟨st2, n2, x2⟩ := z
                    have hfin := heq.trans ((congrArg (fun d => mR s fc d st n (ws, hs, o, T, b, w)) hd).trans (mR_c nfin er))
                    rw [er] at q114
                    obtain ⟨g1, g2, g3, g4, g5, g6⟩ := stp_ok hi hne hkb er
                    obtain ⟨oq, k1, k2, k3, k4⟩ := q114
                    exact xq_fgt (ih st2 (i + 1) n2 x2 H114 (by omega) (by omega) g5 g2 g3 k4 g1 k1 (ho.tr oq) (k2.trans h7) (k3.trans h8) (hsm.tr g6) hfin) (by exact And.intro rfl (And.intro rfl (And.intro rfl (And.intro rfl (And.intro rfl trivial)))))
              · skip
                refine xq_aload_n dX1_read_98 rfl rfl ?_
                refine xq_iload_n dX1_read_99 rfl rfl ?_
                refine xq_callV1H clX1 gd_X1_readSign dX1_read_100 ml_RX1_59 im_X1_readSign se_X1_readSign rfl (Fx.s8 hF) (by exact Nat.le_of_ble_eq_true rfl) (by decide) (c_readSign hF ht ht24 ht45 hs1 hk (by omega) hf hi) ?_
                intro x100 H100 p100
                refine xq_istore_n dX1_read_103 rfl rfl ?_
                refine xq_goto dX1_read_104 rfl ?_
                refine xq_iincN dX1_read_126 ic1 rfl rfl ?_
                refine xq_goto dX1_read_129 rfl ?_
                obtain ⟨e100, q100⟩ := p100
                subst e100
                have es : stpS s fc st n (ws, hs, o, T, b, w) = sigS s fc n (ws, hs, o, T, b, w) := if_pos (by omega)
                rw [← es] at q100 ⊢
                have nfin : ¬ (st = 2 ∧ fmO (ws, hs, o, T, b, w) = 0 ∧ kK s n = 40) := fun z => h55 z.2.1
                have hd : D - i = (D - (i + 1)) + 1 := by omega
                cases er : stpS s fc st n (ws, hs, o, T, b, w) with
                | inl e =>
                  have hfin := heq.trans ((congrArg (fun d => mR s fc d st n (ws, hs, o, T, b, w)) hd).trans (mR_f nfin er))
                  rw [er] at q100
                  obtain ⟨c, m⟩ := e
                  have hq : rdQ H H100 t s (mR s fc D 0 n0 ([], [], 0, T0, tNk T0, lN 0)) := by
                    rw [hfin]
                    exact ⟨ho.tr q100.1, q100.2.1, q100.2.2.1, q100.2.2.2.trans (hs1.1.2.1.trans hs0.1.2.1.symm)⟩
                  exact xq_fgt (lpW (i + 1) H100 (by omega) (by rw [hfin]; exact ⟨rfl, by rw [hfin] at hq; exact hq⟩)) (by exact And.intro rfl (And.intro rfl (And.intro rfl (And.intro rfl (And.intro rfl trivial)))))
                | inr z =>
                  obtain ⟨st2, n2, x2⟩ := z
                  have hfin := heq.trans ((congrArg (fun d => mR s fc d st n (ws, hs, o, T, b, w)) hd).trans (mR_c nfin er))
                  rw [er] at q100
                  obtain ⟨g1, g2, g3, g4, g5, g6⟩ := stp_ok hi hne hkb er
                  obtain ⟨oq, k1, k2, k3, k4⟩ := q100
                  exact xq_fgt (ih st2 (i + 1) n2 x2 H100 (by omega) (by omega) g5 g2 g3 k4 g1 k1 (ho.tr oq) (k2.trans h7) (k3.trans h8) (hsm.tr g6) hfin) (by exact And.intro rfl (And.intro rfl (And.intro rfl (And.intro rfl (And.intro rfl trivial)))))
            · skip
              refine xq_aload_n dX1_read_58 rfl rfl ?_
              refine xq_getF clX1 (by decide) rfl fl_RX1_28 dX1_read_59 (Fx.s8 hF) (Fx.r8_0 hF) ?_
              refine xq_callV0P clX9 gd_X9_kind dX1_read_62 ml_RX1_49 im_X9_kind se_X9_kind rfl (Fx.s2 hF) (by exact Nat.le_of_ble_eq_true rfl) (by decide) (c_kind hF hs1 hk (by omega)) ?_
              refine xq_bipush dX1_read_65 bp40 ?_
              refine xq_icmp_neN dX1_read_67 rfl (by omega) (by omega) ⟨fun h67 => ?_, fun h67 => ?_⟩
              · skip
                refine xq_iload_n dX1_read_93 rfl rfl ?_
                refine xq_iconst dX1_read_94 ic2 ?_
                refine xq_icmp_neN dX1_read_95 rfl (by omega) (by omega) ⟨fun h95 => ?_, fun h95 => ?_⟩
                · skip
                  refine xq_iload_n dX1_read_107 rfl rfl ?_
                  refine xq_if_eqB dX1_read_108 rfl ⟨fun h108 => ?_, fun h108 => ?_⟩
                  · skip
                    refine xq_aload_n dX1_read_120 rfl rfl ?_
                    refine xq_iload_n dX1_read_121 rfl rfl ?_
                    refine xq_callV1H clX1 gd_X1_readValue dX1_read_122 ml_RX1_67 im_X1_readValue se_X1_readValue rfl (Fx.s8 hF) (by exact Nat.le_of_ble_eq_true rfl) (by decide) (c_readValue hF ht ht24 ht45 hs1 hk (by omega) hf hi (by omega)) ?_
                    intro x122 H122 p122
                    refine xq_istore_n dX1_read_125 rfl rfl ?_
                    refine xq_iincN dX1_read_126 ic1 rfl rfl ?_
                    refine xq_goto dX1_read_129 rfl ?_
                    obtain ⟨e122, q122⟩ := p122
                    subst e122
                    have es : stpS s fc st n (ws, hs, o, T, b, w) = valS s st n (ws, hs, o, T, b, w) := (if_neg (by omega)).trans (if_neg (by simpa using h108))
                    rw [← es] at q122 ⊢
                    have nfin : ¬ (st = 2 ∧ fmO (ws, hs, o, T, b, w) = 0 ∧ kK s n = 40) := fun z => h67 z.2.2
                    have hd : D - i = (D - (i + 1)) + 1 := by omega
                    cases er : stpS s fc st n (ws, hs, o, T, b, w) with
                    | inl e =>
                      have hfin := heq.trans ((congrArg (fun d => mR s fc d st n (ws, hs, o, T, b, w)) hd).trans (mR_f nfin er))
                      rw [er] at q122
                      obtain ⟨c, m⟩ := e
                      have hq : rdQ H H122 t s (mR s fc D 0 n0 ([], [], 0, T0, tNk T0, lN 0)) := by
                        rw [hfin]
                        exact ⟨ho.tr q122.1, q122.2.1, q122.2.2.1, q122.2.2.2.trans (hs1.1.2.1.trans hs0.1.2.1.symm)⟩
                      exact xq_fgt (lpW (i + 1) H122 (by omega) (by rw [hfin]; exact ⟨rfl, by rw [hfin] at hq; exact hq⟩)) (by exact And.intro rfl (And.intro rfl (And.intro rfl (And.intro rfl (And.intro rfl trivial)))))
                    | inr z =>
                      obtain ⟨st2, n2, x2⟩ := z
                      have hfin := heq.trans ((congrArg (fun d => mR s fc d st n (ws, hs, o, T, b, w)) hd).trans (mR_c nfin er))
                      rw [er] at q122
                      obtain ⟨g1, g2, g3, g4, g5, g6⟩ := stp_ok hi hne hkb er
                      obtain ⟨oq, k1, k2, k3, k4⟩ := q122
                      exact xq_fgt (ih st2 (i + 1) n2 x2 H122 (by omega) (by omega) g5 g2 g3 k4 g1 k1 (ho.tr oq) (k2.trans h7) (k3.trans h8) (hsm.tr g6) hfin) (by exact And.intro rfl (And.intro rfl (And.intro rfl (And.intro rfl (And.intro rfl trivial)))))
                  · skip
                    refine xq_aload_n dX1_read_111 rfl rfl ?_
                    refine xq_aload_n dX1_read_112 rfl rfl ?_
                    refine xq_iload_n dX1_read_113 rfl rfl ?_
                    refine xq_callV2H clX1 gd_X1_readFact dX1_read_114 ml_RX1_63 im_X1_readFact se_X1_readFact rfl (Fx.s8 hF) (by exact Nat.le_of_ble_eq_true rfl) (by decide) (c_readFact (k := kK s n) hF ht ht24 ht45 hs1 hk (by omega) hf hnp2 hnc2 hnf2 hi (by omega) rfl) ?_
                    intro x114 H114 p114
                    refine xq_goto dX1_read_117 rfl ?_
                    refine xq_istore_n dX1_read_125 rfl rfl ?_
                    refine xq_iincN dX1_read_126 ic1 rfl rfl ?_
                    refine xq_goto dX1_read_129 rfl ?_
                    obtain ⟨e114, q114⟩ := p114
                    subst e114
                    have es : stpS s fc st n (ws, hs, o, T, b, w) = facS s st n (ws, hs, o, T, b, w) := (if_neg (by omega)).trans (if_pos (by simpa using h108))
                    rw [← es] at q114 ⊢
                    have nfin : ¬ (st = 2 ∧ fmO (ws, hs, o, T, b, w) = 0 ∧ kK s n = 40) := fun z => h67 z.2.2
                    have hd : D - i = (D - (i + 1)) + 1 := by omega
                    cases er : stpS s fc st n (ws, hs, o, T, b, w) with
                    | inl e =>
                      have hfin := heq.trans ((congrArg (fun d => mR s fc d st n (ws, hs, o, T, b, w)) hd).trans (mR_f nfin er))
                      rw [er] at q114
                      obtain ⟨c, m⟩ := e
                      have hq : rdQ H H114 t s (mR s fc D 0 n0 ([], [], 0, T0, tNk T0, lN 0)) := by
                        rw [hfin]
                        exact ⟨ho.tr q114.1, q114.2.1, q114.2.2.1, q114.2.2.2.trans (hs1.1.2.1.trans hs0.1.2.1.symm)⟩
                      exact xq_fgt (lpW (i + 1) H114 (by omega) (by rw [hfin]; exact ⟨rfl, by rw [hfin] at hq; exact hq⟩)) (by exact And.intro rfl (And.intro rfl (And.intro rfl (And.intro rfl (And.intro rfl trivial)))))
                    | inr z =>
                      obtain ⟨st2, n2, x2⟩ := z
                      have hfin := heq.trans ((congrArg (fun d => mR s fc d st n (ws, hs, o, T, b, w)) hd).trans (mR_c nfin er))
                      rw [er] at q114
                      obtain ⟨g1, g2, g3, g4, g5, g6⟩ := stp_ok hi hne hkb er
                      obtain ⟨oq, k1, k2, k3, k4⟩ := q114
                      exact xq_fgt (ih st2 (i + 1) n2 x2 H114 (by omega) (by omega) g5 g2 g3 k4 g1 k1 (ho.tr oq) (k2.trans h7) (k3.trans h8) (hsm.tr g6) hfin) (by exact And.intro rfl (And.intro rfl (And.intro rfl (And.intro rfl (And.intro rfl trivial)))))
                · skip
                  refine xq_aload_n dX1_read_98 rfl rfl ?_
                  refine xq_iload_n dX1_read_99 rfl rfl ?_
                  refine xq_callV1H clX1 gd_X1_readSign dX1_read_100 ml_RX1_59 im_X1_readSign se_X1_readSign rfl (Fx.s8 hF) (by exact Nat.le_of_ble_eq_true rfl) (by decide) (c_readSign hF ht ht24 ht45 hs1 hk (by omega) hf hi) ?_
                  intro x100 H100 p100
                  refine xq_istore_n dX1_read_103 rfl rfl ?_
                  refine xq_goto dX1_read_104 rfl ?_
                  refine xq_iincN dX1_read_126 ic1 rfl rfl ?_
                  refine xq_goto dX1_read_129 rfl ?_
                  obtain ⟨e100, q100⟩ := p100
                  subst e100
                  have es : stpS s fc st n (ws, hs, o, T, b, w) = sigS s fc n (ws, hs, o, T, b, w) := if_pos (by omega)
                  rw [← es] at q100 ⊢
                  have nfin : ¬ (st = 2 ∧ fmO (ws, hs, o, T, b, w) = 0 ∧ kK s n = 40) := fun z => h67 z.2.2
                  have hd : D - i = (D - (i + 1)) + 1 := by omega
                  cases er : stpS s fc st n (ws, hs, o, T, b, w) with
                  | inl e =>
                    have hfin := heq.trans ((congrArg (fun d => mR s fc d st n (ws, hs, o, T, b, w)) hd).trans (mR_f nfin er))
                    rw [er] at q100
                    obtain ⟨c, m⟩ := e
                    have hq : rdQ H H100 t s (mR s fc D 0 n0 ([], [], 0, T0, tNk T0, lN 0)) := by
                      rw [hfin]
                      exact ⟨ho.tr q100.1, q100.2.1, q100.2.2.1, q100.2.2.2.trans (hs1.1.2.1.trans hs0.1.2.1.symm)⟩
                    exact xq_fgt (lpW (i + 1) H100 (by omega) (by rw [hfin]; exact ⟨rfl, by rw [hfin] at hq; exact hq⟩)) (by exact And.intro rfl (And.intro rfl (And.intro rfl (And.intro rfl (And.intro rfl trivial)))))
                  | inr z =>
                    obtain ⟨st2, n2, x2⟩ := z
                    have hfin := heq.trans ((congrArg (fun d => mR s fc d st n (ws, hs, o, T, b, w)) hd).trans (mR_c nfin er))
                    rw [er] at q100
                    obtain ⟨g1, g2, g3, g4, g5, g6⟩ := stp_ok hi hne hkb er
                    obtain ⟨oq, k1, k2, k3, k4⟩ := q100
                    exact xq_fgt (ih st2 (i + 1) n2 x2 H100 (by omega) (by omega) g5 g2 g3 k4 g1 k1 (ho.tr oq) (k2.trans h7) (k3.trans h8) (hsm.tr g6) hfin) (by exact And.intro rfl (And.intro rfl (And.intro rfl (And.intro rfl (And.intro rfl trivial)))))
              · skip
                refine xq_aload_n dX1_read_70 rfl rfl ?_
                refine xq_iconst dX1_read_71 ic1 ?_
                refine xq_callV1N clX1 gd_X1_tieDownTo dX1_read_72 ml_RX1_55 im_X1_tieDownTo se_X1_tieDownTo rfl (Fx.s8 hF) (by exact Nat.le_of_ble_eq_true rfl) (by decide) (c_tieDownTo (st := 1) hF ht ht24 ht45 hf hi (by omega) (by omega)) ?_
                intro H72 p72
                obtain ⟨hf72, o72⟩ := p72
                have hne2 : 0 < (fmH (tieF 1 (ws, hs, o, T, b, w))).length := List.length_pos_iff.mpr (tieF_h (hne h48))
                have hi72 := FI.tieF (st := 1) (by omega) hi
                have hl72 : (fmH (tieF 1 (ws, hs, o, T, b, w))).length ≤ 64 := Nat.le_trans hi72.2.2.1 (Nat.le_trans (Nat.le_trans (Nat.le_add_right _ _) (Nat.le_of_eq hi72.1)) hi72.2.1)
                refine xq_aload_n dX1_read_75 rfl rfl ?_
                refine xq_getIE (v := nI (fmH (tieF 1 (ws, hs, o, T, b, w))).length) clX1 (by decide) rfl fl_RX1_39 dX1_read_76 (Fx.s8 hF) hf72.hz ?_
                refine xq_if_leN dX1_read_79 rfl (by omega) ⟨fun h79 => ?_, fun h79 => ?_⟩
                · skip
                  exact absurd h79 (by omega)
                · skip
                  refine xq_aload_n dX1_read_82 rfl rfl ?_
                  refine xq_getF clX1 (by decide) rfl fl_RX1_18 dX1_read_83 (Fx.s8 hF) (Fx.r8_4 hF) ?_
                  refine xq_iconst dX1_read_86 ic0 ?_
                  refine xq_ialdN dX1_read_87 (Fx.s11 hF) (by omega) (by decide) (hf72.ha 0 hne2) ?_
                  refine xq_goto dX1_read_88 rfl ?_
                  refine xq_iret dX1_read_92 rfl ?_
                  have hfin := heq.trans ((congrArg (fun d => mR s fc d st n (ws, hs, o, T, b, w)) (show D - i = (D - (i + 1)) + 1 by omega)).trans (mR_e ⟨h48, h55, h67⟩))
                  rw [hfin]
                  have hw0 := fi_tie1 hi h55
                  have hb0 := (FI.tieF (st := 1) (by omega) hi).1
                  rw [hw0] at hb0
                  exact ⟨_, H72, ⟨rfl, ho.tr (o72.mo (fun q h => by omega)), hs1.off o72 (fun q h => by omega), (o72.I (by omega) 7).trans h7, (o72.I (by omega) 8).trans h8, hf72.tx, hf72.bg.trans (congrArg nI (show _ = _ from hb0.symm)), hf72.nd⟩, rfl⟩
  refine vq_intro (by decide) (by exact Nat.le_of_ble_eq_true rfl) rfl ?_
  refine xq_aload_n dX1_read_0 rfl rfl ?_
  refine xq_aload_n dX1_read_1 rfl rfl ?_
  refine xq_getF clX8 (by decide) rfl fl_RX1_32 dX1_read_2 (Tx.s0 ht) (Tx.r3 ht) ?_
  refine xq_putR clX1 (by decide) rfl fl_RX1_24 (Or.inl rfl) dX1_read_5 (fun _ => ⟨rfl, rfl⟩) (Fx.s8 hF) ?_
  refine xq_aload_n dX1_read_8 rfl rfl ?_
  refine xq_iconst dX1_read_9 ic0 ?_
  refine xq_putI clX1 (by decide) rfl fl_RX1_35 (Or.inl rfl) dX1_read_10 ⟨rfl, rfl⟩ (Fx.s8 hF) ?_
  refine xq_aload_n dX1_read_13 rfl rfl ?_
  refine xq_iconst dX1_read_14 ic0 ?_
  refine xq_putI clX1 (by decide) rfl fl_RX1_39 (Or.inl rfl) dX1_read_15 ⟨rfl, rfl⟩ (Fx.s8 hF) ?_
  refine xq_aload_n dX1_read_18 rfl rfl ?_
  refine xq_iconst dX1_read_19 ic0 ?_
  refine xq_putI clX1 (by decide) rfl fl_RX1_42 (Or.inl rfl) dX1_read_20 ⟨rfl, rfl⟩ (Fx.s8 hF) ?_
  refine xq_aload_n dX1_read_23 rfl rfl ?_
  refine xq_lconst dX1_read_24 lc0 ?_
  refine xq_putL clX1 (by decide) rfl fl_RX1_45 (Or.inl rfl) dX1_read_25 ⟨rfl, rfl⟩ (Fx.s8 hF) ?_
  refine xq_iconst dX1_read_28 ic0 ?_
  refine xq_istore_n dX1_read_29 rfl rfl ?_
  refine xq_iconst dX1_read_30 ic0 ?_
  refine xq_istore dX1_read_31 rfl ?_
  have hT8 : TxP (sL (sI (sI (sI (sR H 8 7 (some (t + 7))) 8 3 (nI 0)) 8 5 (nI 0)) 8 6 (nI 0)) 8 8 (lN 0)) t T0 := ht8 hT (Off.pL (Off.pI (Off.pI (Off.pI (Off.pR Off.rf (Or.inl rfl) _ _) (Or.inl rfl) _ _) (Or.inl rfl) _ _) (Or.inl rfl) _ _) (Or.inl rfl) _ _) ht24
  have hf0 : FmP (sL (sI (sI (sI (sR H 8 7 (some (t + 7))) 8 3 (nI 0)) 8 5 (nI 0)) 8 6 (nI 0)) 8 8 (lN 0)) t ([], [], 0, T0, tNk T0, lN 0) := ⟨by simp [hI_sI, hI_sL, fmW], fun j hj => absurd hj (Nat.not_lt_zero j), by simp [hI_sI, hI_sL, fmH], fun j hj => absurd hj (Nat.not_lt_zero j), by simp [hI_sI, hI_sL, fmO], by rw [hR_sL, hR_sI, hR_sI, hR_sI, hR_sR, if_pos ⟨rfl, rfl⟩], by rw [hL_sL, if_pos ⟨rfl, rfl⟩]; rfl, by rw [hI_sL, hI_sI, if_neg (by omega), hI_sI, if_neg (by omega), hI_sI, if_neg (by omega), hI_sR]; exact hbg, hT8⟩
  have hs8 : TrP (sL (sI (sI (sI (sR H 8 7 (some (t + 7))) 8 3 (nI 0)) 8 5 (nI 0)) 8 6 (nI 0)) 8 8 (lN 0)) s n0 := hs0.off (A := fun q => q = 8) (Off.pL (A := fun q => q = 8) (Off.pI (A := fun q => q = 8) (Off.pI (A := fun q => q = 8) (Off.pI (A := fun q => q = 8) (Off.pR (A := fun q => q = 8) Off.rf rfl _ _) rfl _ _) rfl _ _) rfl _ _) rfl _ _) (fun q h => by omega)
  exact xq_fgt (lp 702 0 0 n0 _ _ (by omega) hn hnz (by omega) (fun z => by cases z) hf0 ⟨rfl, hk64, Nat.zero_le _, rfl, Nat.zero_le _, fun q h => by cases h⟩ hs8 (Off.pL (A := (fun q => q = 2 ∨ (8 ≤ q ∧ q < 16) ∨ (t ≤ q ∧ q < t + 21))) (Off.pI (Off.pI (Off.pI (Off.pR Off.rf (by omega) _ _) (by omega) _ _) (by omega) _ _) (by omega) _ _) (by omega) _ _) (by simp [hI_sI, hI_sL, hI_sR]) (by simp [hI_sI, hI_sL, hI_sR]) SmT.rf rfl) (by exact And.intro rfl (And.intro rfl (And.intro rfl (And.intro rfl (And.intro rfl (trivial))))))
end FF
