/-! ===== the two ways to read a formula answer the same: all ===== -/
section SM2
variable {k p q i j l m n c t d st st2 n2 sl a D : Nat} {s : uTk} {T T2 : uTx} {w : Int64} {x y z : rxT} {fc : Bool} {ws : List (Nat × Nat)} {hs : List Nat} {o b : Nat} {X X2 : fmT} {r : rdT}
theorem SimR.cv {l2 : Nat} {r : rxR} (h : SimR s fc l st n X ws hs r) (hb : ∀ k, ¬ badK l k → ¬ badK l2 k) (hs' : ∀ k, spc l k ↔ spc l2 k) : SimR s fc l2 st n X ws hs r := by
  cases r with
  | inl e => exact h
  | inr y => exact ⟨hb _ h.1, fun z => h.2.1 ((hs' _).mpr z), fun z => h.2.2 (fun q => z ((hs' _).mp q))⟩
theorem okS0 (h : okS l st k) (hl : l = 0 ∨ l = 1 ∨ l = 2 ∨ l = 6 ∨ l = 7 ∨ l = 8) : st = 0 := by
  unfold okS at h
  rw [if_neg (by omega)] at h
  exact h
theorem okS1 (h : okS l st k) (hl : l = 3 ∨ l = 9 ∨ l = 10 ∨ l = 11) : st ≤ 1 ∧ (st = 1 ∨ k ≠ 13) := by
  unfold okS at h
  rw [if_pos hl] at h
  exact h
theorem eit_u (hst : st ≤ 1) (hk : st = 1 ∨ k ≠ 13) (h41 : k ≠ 41) : eitS k st n X = .inl (1, n) := (if_neg (by omega)).trans (if_pos h41)
theorem eit_n (hk : k = 13) : eitS k 0 n X = if 64 ≤ fmB X then .inl (2, n) else .inr (0, n + 1, hldX 13 0 (begX X)) := if_pos ⟨hk, by decide⟩
theorem spc_n (h : ¬ (l = 6 ∨ l = 7 ∨ l = 8 ∨ l = 12 ∨ l = 13)) (k : Nat) : ¬ spc l k := fun z => h z.1
theorem sm_bnd (ihA : SmA s d) (ihL : SmL s d) {lo u v : Nat} {hs : List Nat} (el : ∀ d x, rd s (d + 1) l x = bnd (rd s d a x) (rd s d lo)) (eo : ∀ d x, rd s (d + 1) lo x = lopG s (isE u v) (rd s d (sbl lo)) (rd s d lo) x) (hu : ∀ k, 32 ≤ k ∧ k ≤ 37 → isE u v k = false)
    (ha : a ≤ 3 ∨ (6 ≤ a ∧ a ≤ 11)) (hlo : lo = 4 ∨ lo = 5 ∨ lo = 12 ∨ lo = 13 ∨ lo = 14 ∨ lo = 15) (esb : sbl lo = a) (ef1 : fcl a = fcl l) (ef2 : fcl lo = fcl l) (hsp : ∀ k, spc a k ↔ spc l k) (hsp2 : ∀ k, spc lo k ↔ spc l k) (hbk : ∀ k, ¬ badK lo k → ¬ badK l k) (hbc : ∀ k, 32 ≤ k ∧ k ≤ 37 → ¬ badK l k)
    (h64 : rxB x ≤ 64) (hok : okS a st (kK s (rxN x))) (htp : stg (topK ws) < tpl a) (htp2 : stg (topK ws) < tpl lo) : SimQ s l st x ws hs (rd s (d + 1) l x) := by
  rw [el]
  have h1 := ihA a st x ws hs ha h64 hok htp
  unfold SimQ at h1 ⊢
  rw [ef1] at h1
  refine bnd_sim h1 hsp (fun z hz hc => ⟨rd_l (a := sbl lo) eo d z (hu _ hc.2), hbc _ hc.2⟩) (fun z hz b1 b2 => ?_)
  have hq := rd_q d a x z h64 hz
  have h2 := ihL lo z ws hs hlo hq.2.2.1 htp2 (by rw [esb]; exact b1) (fun q => b2 ((hsp _).mpr ((hsp2 _).mp q)))
  unfold SimL at h2
  rw [ef2] at h2
  exact h2.cv hbk hsp2
theorem sm_3 (ihA : SmA s d) (h64 : rxB x ≤ 64) (hok : okS 3 st (kK s (rxN x))) : SimQ s 3 st x ws hs (rd s (d + 1) 3 x) := by
  obtain ⟨hst, hk⟩ := okS1 hok (by omega)
  show SimR s true 3 st (rxN x) (mcX ws hs x) ws hs (plnL s (rd s d 0) (rd s d 3) x)
  have st2' : st ≠ 2 := by omega
  have nf : ¬ (st = 2 ∧ fmO (mcX ws hs x) = 0 ∧ kK s (rxN x) = 40) := fun z => st2' z.1
  have sf : stpS s true st (rxN x) (mcX ws hs x) = facS s st (rxN x) (mcX ws hs x) := by unfold stpS; rw [if_neg st2', if_pos rfl]
  unfold plnL
  by_cases h41 : kK s (rxN x) = 41
  · rw [if_pos h41]
    exact brk_sim (a := 0) h41 st2' (Or.inl ⟨rfl, rfl⟩) (spc_n (by omega)) (fun k z => by unfold badK at z; omega) (fun y hy => (rd_q d 0 (rxN x + 1, rxX x, rxB x, rxO x + 1, rxW x) y h64 hy).1) (fun h8 => ihA 0 0 (rxN x + 1, rxX x, rxB x, rxO x + 1, rxW x) ((41, 0) :: ws) hs (by decide) h64 rfl (show stg 41 < 1 by decide))
  · rw [if_neg h41]
    by_cases hr : kK s (rxN x) < 14 ∨ 20 < kK s (rxN x)
    · rw [if_pos hr]
      exact Or.inr (mrel_f nf ((stp_e2 st2' (fun _ => by omega) (fun z => by cases z)).trans (eit_u hst hk h41)))
    · rw [if_neg hr]
      have hf : facS s st (rxN x) (mcX ws hs x) = if 64 ≤ rxB x then .inl (2, rxN x) else if kK s (rxN x) = 16 then knwS s (rxN x) (begX (mcX ws hs x)) else if kK s (rxN x) = 17 ∨ kK s (rxN x) = 18 then .inr (1, rxN x + 1, hldX (kK s (rxN x)) 0 (begX (mcX ws hs x))) else leaS s (kK s (rxN x)) (rxN x) (begX (mcX ws hs x)) := by
        unfold facS
        by_cases c1 : kK s (rxN x) = 14 ∨ kK s (rxN x) = 15 ∨ kK s (rxN x) = 19 ∨ kK s (rxN x) = 20
        · rw [if_pos c1, if_neg (show ¬ kK s (rxN x) = 16 by omega), if_neg (show ¬ (kK s (rxN x) = 17 ∨ kK s (rxN x) = 18) by omega)]; rfl
        · rw [if_neg c1]
          by_cases c2 : kK s (rxN x) = 16
          · rw [if_pos c2, if_pos c2]; rfl
          · rw [if_neg c2, if_neg c2]
            have c3 : kK s (rxN x) = 17 ∨ kK s (rxN x) = 18 := by omega
            rw [if_pos c3, if_pos c3]; rfl
      rw [hf] at sf
      by_cases hb : 64 ≤ rxB x
      · rw [if_pos hb]
        rw [if_pos hb] at sf
        exact Or.inr (mrel_f nf sf)
      · rw [if_neg hb]
        rw [if_neg hb] at sf
        by_cases c16 : kK s (rxN x) = 16
        · rw [if_pos c16]
          rw [if_pos c16] at sf
          unfold knwS at sf
          by_cases cz : zP s (rxN x + 1) x = -1
          · rw [if_pos cz]
            rw [if_pos (show knP s (rxN x + 1) (begX (mcX ws hs x)) = -1 from cz)] at sf
            exact Or.inr (mrel_f nf sf)
          · rw [if_neg cz]
            rw [if_neg (show ¬ knP s (rxN x + 1) (begX (mcX ws hs x)) = -1 from cz)] at sf
            have hp : ∀ r, mRel s true 1 (rxN x + 2) (mcX ((16, (zP s (rxN x + 1) x).toNat) :: ws) hs (rxN x + 2, rxX x, rxB x + 1, rxO x, rxW x)) r → mRel s true st (rxN x) (mcX ws hs x) r := fun r => mrel_s nf sf
            have h2 := ihA 3 1 (rxN x + 2, rxX x, rxB x + 1, rxO x, rxW x) ((16, (zP s (rxN x + 1) x).toNat) :: ws) hs (by decide) (show rxB x + 1 ≤ 64 by omega) ⟨Nat.le_refl _, Or.inl rfl⟩ (tpl_9 (by omega))
            have h2 : SimR s true 3 1 (rxN x + 2) (mcX ((16, (zP s (rxN x + 1) x).toNat) :: ws) hs (rxN x + 2, rxX x, rxB x + 1, rxO x, rxW x)) ((16, (zP s (rxN x + 1) x).toNat) :: ws) hs (rd s d 3 (rxN x + 2, rxX x, rxB x + 1, rxO x, rxW x)) := h2
            cases e : rd s d 3 (rxN x + 2, rxX x, rxB x + 1, rxO x, rxW x) with
            | inl e => rw [‹rd s d 3 _ = _›] at h2; exact h2.elim Or.inl (fun z => Or.inr (hp _ z))
            | inr y =>
              rw [e] at h2
              obtain ⟨g1, g2, g3⟩ := h2
              refine ⟨fun z => by unfold badK at z; omega, fun z => absurd z (spc_n (by omega) _), fun _ r hr => hp _ (g3 (spc_n (by omega) _) r (mrel_u (by decide) (by decide) ?_ hr))⟩
              intro h0 hl
              have hl : sgs (kK s (rxN y)) ≤ 2 := hl
              show (_ → 5 ≤ 7) ∧ (_ → _ ≤ 7)
              omega
        · rw [if_neg c16]
          rw [if_neg c16] at sf
          by_cases c17 : kK s (rxN x) = 17 ∨ kK s (rxN x) = 18
          · rw [if_pos c17]
            rw [if_pos c17] at sf
            have hu : un1 (kK s (rxN x)) = true := decide_eq_true (by omega)
            have h7 : stg (kK s (rxN x)) = 7 := by rcases c17 with e | e <;> rw [e] <;> rfl
            have h3 := prf_sim (s := s) (fc := true) (l := 3) (a := 3) (st := st) (st2 := 1) (ws := ws) (hs := hs) (f := rd s d 3) (x := x) (k := kK s (rxN x)) rfl hu (by omega) st2' (fun k => Iff.rfl) (fun k2 _ _ h0 hl => by
              have hl : sgs k2 ≤ 2 := hl
              omega) (fun k2 h => h) (fun z => absurd z hb) (fun _ => sf) (fun _ => ihA 3 1 (nxB x) ((kK s (rxN x), 0) :: ws) hs (by decide) (show rxB x + 1 ≤ 64 by omega) ⟨Nat.le_refl _, Or.inl rfl⟩ (tpl_9 (by omega)))
            unfold prf at h3
            rw [if_neg hb] at h3
            exact h3
          · rw [if_neg c17]
            rw [if_neg c17, lea_sim] at sf
            cases e : leaL s (kK s (rxN x)) x with
            | inl e2 => rw [e] at sf; exact Or.inr (mrel_f nf sf)
            | inr y =>
              rw [e] at sf
              exact ⟨fun z => by unfold badK at z; omega, fun z => absurd z (spc_n (by omega) _), fun _ r hr => mrel_s nf sf hr⟩
theorem sm_11 (ihA : SmA s d) (h64 : rxB x ≤ 64) (hok : okS 11 st (kK s (rxN x))) : SimQ s 11 st x ws hs (rd s (d + 1) 11 x) := by
  obtain ⟨hst, hk⟩ := okS1 hok (by omega)
  show SimR s false 11 st (rxN x) (mcX ws hs x) ws hs (prmL s (rd s d 6) x)
  have st2' : st ≠ 2 := by omega
  have nf : ¬ (st = 2 ∧ fmO (mcX ws hs x) = 0 ∧ kK s (rxN x) = 40) := fun z => st2' z.1
  have sf : stpS s false st (rxN x) (mcX ws hs x) = valS s st (rxN x) (mcX ws hs x) := by unfold stpS; rw [if_neg st2', if_neg (by decide)]
  have nb : ∀ k, ¬ badK 11 k := fun k z => by unfold badK at z; omega
  unfold prmL
  by_cases h41 : kK s (rxN x) = 41
  · rw [if_pos h41]
    exact brk_sim (a := 6) h41 st2' (Or.inr ⟨rfl, rfl⟩) (spc_n (by omega)) nb (fun y hy => (rd_q d 6 (rxN x + 1, rxX x, rxB x, rxO x + 1, rxW x) y h64 hy).1) (fun h8 => ihA 6 0 (rxN x + 1, rxX x, rxB x, rxO x + 1, rxW x) ((41, 0) :: ws) hs (by decide) h64 rfl (show stg 41 < 1 by decide))
  · rw [if_neg h41]
    unfold valS at sf
    by_cases h38 : kK s (rxN x) = 38
    · rw [if_pos h38]
      rw [if_neg (fun z => z.1 h38)] at sf
      by_cases hn : numB s (rxN x) 9999 = false
      · rw [if_pos hn]
        rw [if_pos ⟨h38, hn⟩] at sf
        refine Or.inr (mrel_f nf (sf.trans ?_))
        unfold numF; rw [if_pos h38]
      · rw [if_neg hn]
        rw [if_neg (fun z => hn z.2)] at sf
        by_cases hb : 64 ≤ rxB x
        · rw [if_pos hb]; rw [if_pos (show 64 ≤ fmB (mcX ws hs x) from hb)] at sf; exact Or.inr (mrel_f nf sf)
        · rw [if_neg hb]; rw [if_neg (show ¬ 64 ≤ fmB (mcX ws hs x) from hb), if_pos h38] at sf
          have sf : stpS s false st (rxN x) (mcX ws hs x) = .inr (2, rxN x + 1, mcX ws (rtX (kpR 38 (kV s (rxN x)) 0 (rxN x + 1) x) :: hs) (kpR 38 (kV s (rxN x)) 0 (rxN x + 1) x)) := by rw [sf, h38]; rfl
          exact ⟨nb _, fun z => absurd z (spc_n (by omega) _), fun _ r hr => mrel_s nf sf hr⟩
    · rw [if_neg h38]
      by_cases hr : kK s (rxN x) < 21 ∨ 27 < kK s (rxN x)
      · rw [if_pos hr]
        rw [if_pos ⟨h38, by omega⟩] at sf
        exact Or.inr (mrel_f nf (sf.trans (eit_u hst hk h41)))
      · rw [if_neg hr]
        rw [if_neg (fun z => hr (by omega)), if_neg (fun z => h38 z.1)] at sf
        by_cases hb : 64 ≤ rxB x
        · rw [if_pos hb]; rw [if_pos (show 64 ≤ fmB (mcX ws hs x) from hb)] at sf; exact Or.inr (mrel_f nf sf)
        · rw [if_neg hb]; rw [if_neg (show ¬ 64 ≤ fmB (mcX ws hs x) from hb), if_neg h38] at sf
          exact ⟨nb _, fun z => absurd z (spc_n (by omega) _), fun _ r hr => mrel_s nf (sf.trans rfl) hr⟩
theorem isC_t (h : isC k = true) : 32 ≤ k ∧ k ≤ 37 := of_decide_eq_true h
theorem sgs_c (h : 32 ≤ k ∧ k ≤ 37) : sgs k = 4 := by
  unfold sgs stg
  rw [if_neg (by omega), if_neg (by omega), if_neg (by omega), if_neg (by omega), if_pos h]
theorem sm_8 (ihA : SmA s d) (h64 : rxB x ≤ 64) (hok : okS 8 st (kK s (rxN x))) (htp : stg (topK ws) < 4) : SimQ s 8 st x ws hs (rd s (d + 1) 8 x) := by
  have hst := okS0 hok (by omega)
  subst hst
  show SimR s false 8 0 (rxN x) (mcX ws hs x) ws hs (negL s (rd s d 8) (rd s d 9) x)
  unfold negL
  by_cases h13 : kK s (rxN x) = 13
  · rw [if_pos h13]
    have sf : stpS s false 0 (rxN x) (mcX ws hs x) = if 64 ≤ rxB x then .inl (2, rxN x) else .inr (0, rxN x + 1, mcX ((13, 0) :: ws) hs (nxB x)) := (stp_e2 (by decide) (fun _ => by omega) (fun _ => by omega)).trans (eit_n h13)
    exact prf_sim (a := 8) (st2 := 0) h13 (by decide) (by decide) (by decide) (fun k => Iff.rfl) (fun k2 b1 b2 h0 hl => by
      have hl : sgs k2 ≤ 6 := hl
      show (_ → 5 ≤ 3) ∧ (_ → _ ≤ 3)
      unfold badK at b1
      unfold spc at b2
      rcases sgs_in k2 with e | e | e | e | e | e | e <;> omega) (fun k2 h => h) (fun hb => sf.trans (if_pos hb)) (fun hb => sf.trans (if_neg hb)) (fun hb => ihA 8 0 (nxB x) ((13, 0) :: ws) hs (by decide) (show rxB x + 1 ≤ 64 by omega) rfl (show stg 13 < 4 by decide))
  · rw [if_neg h13]
    have h1 : SimR s false 9 0 (rxN x) (mcX ws hs x) ws hs (rd s d 9 x) := ihA 9 0 x ws hs (by decide) h64 ⟨by decide, Or.inr h13⟩ (show _ < 5 by omega)
    cases e : rd s d 9 x with
    | inl e2 => rw [e] at h1; exact h1
    | inr y =>
      have hq := rd_q d 9 x y h64 e
      rw [e] at h1
      obtain ⟨g1, -, g3⟩ := h1
      have g3 := g3 (spc_n (by omega) _)
      show SimR s false 8 0 (rxN x) (mcX ws hs x) ws hs (lopG s isC (rd s d 9) .inr y)
      have nb8 : ∀ k, ¬ badK 9 k → ¬ badK 8 k := fun k h z => h (by unfold badK at z ⊢; omega)
      unfold lopG
      by_cases hc : isC (kK s (rxN y)) = true
      · rw [if_pos hc]
        have hcc := isC_t hc
        have hg := sgs_c hcc
        have LS := fun r => lop_step (s := s) (x := y) (ws := ws) (hs := rtX y :: hs) (fc := false) hg (by decide) (by decide) (by omega) (fun _ => htp) r
        by_cases hb : 64 ≤ rxB y
        · rw [if_pos hb]; exact Or.inr (g3 _ ((LS (.inl (0, 0))).1 hb))
        · rw [if_neg hb]
          have hp : ∀ r, mRel s false 1 (rxN y + 1) (mcX ((kK s (rxN y), 0) :: ws) (rtX y :: hs) (nxB y)) r → mRel s false 0 (rxN x) (mcX ws hs x) r := fun r hr => g3 r ((LS r).2 hb hr)
          have s4 : stg (kK s (rxN y)) = 4 := (sgs_stg (by omega)).trans hg
          have h2 : SimR s false 9 1 (rxN y + 1) (mcX ((kK s (rxN y), 0) :: ws) (rtX y :: hs) (nxB y)) ((kK s (rxN y), 0) :: ws) (rtX y :: hs) (rd s d 9 (nxB y)) := ihA 9 1 (nxB y) ((kK s (rxN y), 0) :: ws) (rtX y :: hs) (by decide) (show rxB y + 1 ≤ 64 by omega) ⟨Nat.le_refl _, Or.inl rfl⟩ (show stg (kK s (rxN y)) < 5 by omega)
          cases e2 : rd s d 9 (nxB y) with
          | inl e3 => rw [e2] at h2; exact h2.elim Or.inl (fun z => Or.inr (hp _ z))
          | inr z =>
            rw [e2] at h2
            obtain ⟨b1, -, b3⟩ := h2
            have b3 := b3 (spc_n (by omega) _)
            show SimR s false 8 0 (rxN x) (mcX ws hs x) ws hs (.inr (adB (kK s (rxN y)) y z))
            refine ⟨nb8 _ b1, fun hz => ?_, fun hz r hr => ?_⟩
            · have hz4 := sgs_c hz.2
              have hti : tieF 5 (mcX ((kK s (rxN y), 0) :: ws) (rtX z :: rtX y :: hs) z) = mcX ((kK s (rxN y), 0) :: ws) (rtX z :: rtX y :: hs) z := tie_id (show stg (kK s (rxN y)) < 5 by omega)
              refine hp _ (b3 _ (mrel_f (nf2 (by have : sgs (kK s (rxN z)) = 4 := hz4; omega)) ?_))
              have hz4 : sgs (kK s (rxN z)) = 4 := hz4
              have hz2 : 32 ≤ kK s (rxN z) ∧ kK s (rxN z) ≤ 37 := hz.2
              show sigS s false (rxN z) (mcX ((kK s (rxN y), 0) :: ws) (rtX z :: rtX y :: hs) z) = _
              unfold sigS
              rw [if_neg (fun q => by have := q.1; omega), if_neg (by rw [hz4]; decide), if_pos ⟨hz4, by rw [hti]; exact s4⟩]
              rfl
            · refine hp _ (b3 r (mrel_b (by omega) (un1_s (by omega) (by omega)) ?_ hr))
              intro h0 hl
              have hl : sgs (kK s (rxN z)) ≤ 6 := hl
              rw [s4]
              have hz' : ¬ spc 8 (kK s (rxN z)) := hz
              unfold badK at b1
              unfold spc at hz'
              rcases sgs_in (kK s (rxN z)) with e | e | e | e | e | e | e <;> omega
      · rw [if_neg hc]
        exact ⟨nb8 _ g1, fun hz => absurd (decide_eq_true hz.2) hc, fun _ r hr => g3 r hr⟩
theorem sm_2 (ihA : SmA s d) (h64 : rxB x ≤ 64) (hok : okS 2 st (kK s (rxN x))) : SimQ s 2 st x ws hs (rd s (d + 1) 2 x) := by
  have hst := okS0 hok (by omega)
  subst hst
  show SimR s true 2 0 (rxN x) (mcX ws hs x) ws hs (if kK s (rxN x) = 13 then prf s (rd s d 2) x else rd s d 3 x)
  by_cases h13 : kK s (rxN x) = 13
  · rw [if_pos h13]
    have sf : stpS s true 0 (rxN x) (mcX ws hs x) = if 64 ≤ rxB x then .inl (2, rxN x) else .inr (0, rxN x + 1, mcX ((13, 0) :: ws) hs (nxB x)) := (stp_e2 (by decide) (fun _ => by omega) (fun _ => by omega)).trans (eit_n h13)
    exact prf_sim (a := 2) (st2 := 0) h13 (by decide) (by decide) (by decide) (fun k => Iff.rfl) (fun k2 b1 b2 h0 hl => by
      have hl : sgs k2 ≤ 2 := hl
      show (_ → 5 ≤ 3) ∧ (_ → _ ≤ 3)
      omega) (fun k2 h => h) (fun hb => sf.trans (if_pos hb)) (fun hb => sf.trans (if_neg hb)) (fun hb => ihA 2 0 (nxB x) ((13, 0) :: ws) hs (by decide) (show rxB x + 1 ≤ 64 by omega) rfl (tpl_9 (by omega)))
  · rw [if_neg h13]
    have h1 : SimR s true 3 0 (rxN x) (mcX ws hs x) ws hs (rd s d 3 x) := ihA 3 0 x ws hs (by decide) h64 ⟨by decide, Or.inr h13⟩ (tpl_9 (by omega))
    exact h1.cv (fun k h z => by unfold badK at z; omega) (fun k => ⟨fun z => absurd z (spc_n (by omega) _), fun z => absurd z (spc_n (by omega) _)⟩)
theorem sm_a (ihA : SmA s d) (ihL : SmL s d) : SmA s (d + 1) := by
  intro l st x ws hs hl h64 hok htp
  have NS : ∀ {l l2 : Nat}, ¬ (l = 6 ∨ l = 7 ∨ l = 8 ∨ l = 12 ∨ l = 13) → ¬ (l2 = 6 ∨ l2 = 7 ∨ l2 = 8 ∨ l2 = 12 ∨ l2 = 13) → ∀ k, spc l k ↔ spc l2 k := fun h1 h2 k => ⟨fun z => absurd z (spc_n h1 k), fun z => absurd z (spc_n h2 k)⟩
  have YS : ∀ {l l2 : Nat}, (l = 6 ∨ l = 7 ∨ l = 8 ∨ l = 12 ∨ l = 13) → (l2 = 6 ∨ l2 = 7 ∨ l2 = 8 ∨ l2 = 12 ∨ l2 = 13) → ∀ k, spc l k ↔ spc l2 k := fun h1 h2 k => ⟨fun z => ⟨h2, z.2⟩, fun z => ⟨h1, z.2⟩⟩
  have : l = 0 ∨ l = 1 ∨ l = 2 ∨ l = 3 ∨ l = 6 ∨ l = 7 ∨ l = 8 ∨ l = 9 ∨ l = 10 ∨ l = 11 := by omega
  rcases this with rfl | rfl | rfl | rfl | rfl | rfl | rfl | rfl | rfl | rfl
  · have hst := okS0 hok (by omega)
    subst hst
    have htp : stg (topK ws) < 1 := htp
    exact sm_bnd (a := 1) (lo := 4) (u := 11) (v := 11) ihA ihL (fun _ _ => rfl) (fun _ _ => rfl) (fun k h => isE_f (by omega)) (by decide) (by decide) rfl rfl rfl (NS (by decide) (by decide)) (NS (by decide) (by decide)) (fun k h z => h (by unfold badK at z ⊢; omega)) (fun k h z => by unfold badK at z; omega) h64 rfl (show _ < 2 by omega) (show _ < 1 by omega)
  · have hst := okS0 hok (by omega)
    subst hst
    have htp : stg (topK ws) < 2 := htp
    exact sm_bnd (a := 2) (lo := 5) (u := 12) (v := 12) ihA ihL (fun _ _ => rfl) (fun _ _ => rfl) (fun k h => isE_f (by omega)) (by decide) (by decide) rfl rfl rfl (NS (by decide) (by decide)) (NS (by decide) (by decide)) (fun k h z => h (by unfold badK at z ⊢; omega)) (fun k h z => by unfold badK at z; omega) h64 rfl (tpl_9 (by omega)) htp
  · exact sm_2 ihA h64 hok
  · exact sm_3 ihA h64 hok
  · have hst := okS0 hok (by omega)
    subst hst
    have htp : stg (topK ws) < 1 := htp
    exact sm_bnd (a := 7) (lo := 12) (u := 11) (v := 11) ihA ihL (fun _ _ => rfl) (fun _ _ => rfl) (fun k h => isE_f (by omega)) (by decide) (by decide) rfl rfl rfl (YS (by decide) (by decide)) (YS (by decide) (by decide)) (fun k h z => h (by unfold badK at z ⊢; omega)) (fun k h z => by unfold badK at z; omega) h64 rfl (show _ < 2 by omega) (show _ < 1 by omega)
  · have hst := okS0 hok (by omega)
    subst hst
    have htp : stg (topK ws) < 2 := htp
    exact sm_bnd (a := 8) (lo := 13) (u := 12) (v := 12) ihA ihL (fun _ _ => rfl) (fun _ _ => rfl) (fun k h => isE_f (by omega)) (by decide) (by decide) rfl rfl rfl (YS (by decide) (by decide)) (YS (by decide) (by decide)) (fun k h z => h (by unfold badK at z ⊢; omega)) (fun k h z => by unfold badK at z; omega) h64 rfl (show _ < 4 by omega) htp
  · exact sm_8 ihA h64 hok htp
  · have hs1 := okS1 hok (by omega)
    have htp : stg (topK ws) < 5 := htp
    exact sm_bnd (a := 10) (lo := 14) (u := 28) (v := 29) ihA ihL (fun _ _ => rfl) (fun _ _ => rfl) (fun k h => isE_f (by omega)) (by decide) (by decide) rfl rfl rfl (NS (by decide) (by decide)) (NS (by decide) (by decide)) (fun k h z => h (by unfold badK at z ⊢; omega)) (fun k h z => by unfold badK at z; omega) h64 hs1 (show _ < 6 by omega) htp
  · have hs1 := okS1 hok (by omega)
    have htp : stg (topK ws) < 6 := htp
    exact sm_bnd (a := 11) (lo := 15) (u := 30) (v := 31) ihA ihL (fun _ _ => rfl) (fun _ _ => rfl) (fun k h => isE_f (by omega)) (by decide) (by decide) rfl rfl rfl (NS (by decide) (by decide)) (NS (by decide) (by decide)) (fun k h z => h (by unfold badK at z ⊢; omega)) (fun k h z => by unfold badK at z; omega) h64 hs1 (tpl_9 (by omega)) htp
  · exact sm_11 ihA h64 hok
theorem sm_all : ∀ d, SmA s d ∧ SmL s d
  | 0 => ⟨fun l st x ws hs _ _ _ _ => Or.inl rfl, fun l x ws hs _ _ _ _ _ => Or.inl rfl⟩
  | d + 1 => ⟨sm_a (sm_all d).1 (sm_all d).2, sm_l (sm_all d).1 (sm_all d).2⟩
/-- more breath changes nothing -/
theorem mR_st (hk : TrOk s) : ∀ {D st n : Nat} {X : fmT}, 702 ≤ D + n → n ≤ kSz s → FI X → (st = 2 → fmH X ≠ []) → ∀ {D2 : Nat}, D ≤ D2 → mR s fc D2 st n X = mR s fc D st n X
  | 0, st, n, X, h, hn, _, _, _, _ => by have := hk.1; omega
  | D + 1, st, n, X, h, hn, hi, hne, D2, h2 => by
    obtain ⟨d, rfl⟩ : ∃ d, D2 = d + 1 := ⟨D2 - 1, by omega⟩
    by_cases hf : st = 2 ∧ fmO X = 0 ∧ kK s n = 40
    · rw [mR_e hf, mR_e hf]
    · cases er : stpS s fc st n X with
      | inl e => rw [mR_f hf er, mR_f hf er]
      | inr z =>
        obtain ⟨st2, n2, x2⟩ := z
        rw [mR_c hf er, mR_c hf er]
        obtain ⟨g1, g2, g3, g4, g5, g6⟩ := stp_ok hi hne (kK_le hk) er
        exact mR_st hk (by omega) g5 g1 g3 (by omega)
/-- the answer of a formula: it ends at its semicolon -/
def fmF (s : uTk) (r : rxR) : rdT := match r with
  | .inl e => .inl e
  | .inr y => if kK s (rxN y) = 40 then .inr (rxN y, rxX y, rxW y, rtX y) else .inl (1, rxN y)
def rx0 (n : Nat) (T : uTx) : rxT := (n, T, tNk T, 0, lN 0)
def lvF (fc : Bool) : Nat := if fc = true then 0 else 6
theorem mR_rd (hk : TrOk s) (hD : 701 ≤ D) (hn : 1 ≤ n) (hnz : n ≤ kSz s) (h64 : tNk T ≤ 64) (hd : 8000 ≤ d) : mR s fc D 0 n (fx0 T) = fmF s (rd s d (lvF fc) (rx0 n T)) := by
  have K : ∀ r, mRel s fc 0 n (fx0 T) r → mR s fc D 0 n (fx0 T) = r := fun r ⟨e0, h⟩ => by
    rw [← h (max D e0) (Nat.le_max_right _ _)]
    exact (mR_st hk (by omega) hnz (fx0_i h64) (fun z => by cases z) (Nat.le_max_left _ _)).symm
  have hl : lvF fc = 0 ∧ fc = true ∨ lvF fc = 6 ∧ fc = false := by cases fc <;> decide
  have hs : SimR s fc (lvF fc) 0 n (fx0 T) [] [] (rd s d (lvF fc) (rx0 n T)) := by
    rcases hl with ⟨e, e2⟩ | ⟨e, e2⟩
    · rw [e, e2]; exact (sm_all d).1 0 0 (rx0 n T) [] [] (by decide) h64 rfl (show 0 < 1 by decide)
    · rw [e, e2]; exact (sm_all d).1 6 0 (rx0 n T) [] [] (by decide) h64 rfl (show 0 < 1 by decide)
  have nj := rd_nj (s := s) d (lvF fc) (by omega) (rx0 n T) (by
    have h1 : mu (rx0 n T) ≤ 9 * 64 + 8 := by
      show 9 * (64 - tNk T) + (8 - 0) ≤ _
      omega
    have h2 : rnk (lvF fc) ≤ 5 := by rcases hl with ⟨e, -⟩ | ⟨e, -⟩ <;> rw [e] <;> decide
    omega) h64 (Nat.zero_le _)
  cases e : rd s d (lvF fc) (rx0 n T) with
  | inl e2 =>
    rw [e] at hs nj
    obtain ⟨c, m⟩ := e2
    rcases hs with h0 | h0
    · exact absurd (show (Sum.inl (c, m) : rxR) = .inl (0, m) by rw [show c = 0 from h0]) (nj m)
    · exact K _ h0
  | inr y =>
    rw [e] at hs
    obtain ⟨g1, g2, g3⟩ := hs
    have hq := rd_q d (lvF fc) (rx0 n T) y h64 e
    have ho : rxO y = 0 := hq.1
    refine K _ ?_
    show mRel s fc 0 n (fx0 T) (if kK s (rxN y) = 40 then .inr (rxN y, rxX y, rxW y, rtX y) else .inl (1, rxN y))
    by_cases h40 : kK s (rxN y) = 40
    · rw [if_pos h40]
      refine g3 (fun z => by have := z.2; omega) _ ⟨1, fun e1 he => ?_⟩
      obtain ⟨d2, rfl⟩ : ∃ d, e1 = d + 1 := ⟨e1 - 1, by omega⟩
      rw [mR_e (x := mcX [] (rtX y :: []) y) ⟨rfl, ho, h40⟩]
      rfl
    · rw [if_neg h40]
      by_cases hsy : spc (lvF fc) (kK s (rxN y))
      · exact g2 hsy
      · refine g3 hsy _ (mrel_f (fun z => h40 z.2.2) ?_)
        show sigS s fc (rxN y) (mcX [] (rtX y :: []) y) = _
        unfold sigS
        rw [if_neg (fun z => by have z2 : 0 < rxO y := z.2; omega)]
        refine if_pos ?_
        unfold badK at g1
        unfold spc at hsy
        unfold lmS
        rcases hl with ⟨ha, hc⟩ | ⟨ha, hc⟩
        · rw [hc, if_pos rfl]
          rcases sgs_in (kK s (rxN y)) with e | e | e | e | e | e | e <;> omega
        · rw [hc, if_neg (by decide)]
          rcases sgs_in (kK s (rxN y)) with e | e | e | e | e | e | e <;> omega
end SM2
