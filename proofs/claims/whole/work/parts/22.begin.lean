/-! ===== State.begin, Text.clear ===== -/
section BG
variable {S : xS} {H H1 : xH} {a t i j n m s np : Nat} {T : uTx}
/-- what a person sees, of a State that is being made -/
def SeP (H : xH) (a i s : Nat) : Prop := hI H (a + 2) i = nI s ∧ hI H (a + 3) i = nI (vm s)
theorem c_see0 (ha : gSt S a) (hs : SeP H a i s) (hs64 : s < 64) (hi : i < 6) (hj : j < 6) : Nv mX7_see 1 [.ref a, vN i, vN j] S H (fun H' => H' = sI (sI H (a + 2) i (nI (s ||| 1 <<< j))) (a + 3) i (nI (vm (s ||| 1 <<< j)))) := by
  refine vq_intro (by decide) (by exact Nat.le_of_ble_eq_true rfl) rfl ?_
  refine xq_iload_n dX7_see_0 rfl rfl ?_
  refine xq_if_ltN dX7_see_1 rfl (by omega) ?_
  refine xq_iload_n dX7_see_4 rfl rfl ?_
  refine xq_bipush dX7_see_5 bp6 ?_
  refine xq_icmp_geN dX7_see_7 rfl (by omega) (by omega) ⟨fun h7 => ?_, fun h7 => ?_⟩
  · skip
    exact absurd h7 (by omega)
  · skip
    refine xq_iload_n dX7_see_10 rfl rfl ?_
    refine xq_if_ltN dX7_see_11 rfl (by omega) ?_
    refine xq_iload_n dX7_see_14 rfl rfl ?_
    refine xq_bipush dX7_see_15 bp6 ?_
    refine xq_icmp_geN dX7_see_17 rfl (by omega) (by omega) ⟨fun h17 => ?_, fun h17 => ?_⟩
    · skip
      exact absurd h17 (by omega)
    · skip
      refine xq_aload_n dX7_see_20 rfl rfl ?_
      refine xq_getF clX7 (by decide) rfl fl_RX7_15 dX7_see_21 (St.s0 ha) (St.r1 ha) ?_
      refine xq_iload_n dX7_see_24 rfl rfl ?_
      refine xq_dup2 dX7_see_25 rfl rfl ?_
      refine xq_ialdN dX7_see_26 (St.s2 ha) (by omega) (by decide) hs.1 ?_
      refine xq_iconst dX7_see_27 ic1 ?_
      refine xq_iload_n dX7_see_28 rfl rfl ?_
      refine xq_ishlN dX7_see_29 (by omega) ?_
      refine xq_iorN dX7_see_30 ?_
      refine xq_iastN dX7_see_31 (St.s2 ha) (by omega) (by decide) ?_
      refine xq_aload_n dX7_see_32 rfl rfl ?_
      refine xq_getF clX7 (by decide) rfl fl_RX7_18 dX7_see_33 (St.s0 ha) (St.r2 ha) ?_
      refine xq_iload_n dX7_see_36 rfl rfl ?_
      refine xq_dup2 dX7_see_37 rfl rfl ?_
      refine xq_ialdN dX7_see_38 (St.s3 ha) (by omega) (by decide) ((hI_sI _ _ _ _ _ _).trans ((if_neg (by omega)).trans hs.2)) ?_
      refine xq_iconst dX7_see_39 ic3 ?_
      refine xq_iload_n dX7_see_40 rfl rfl ?_
      refine xq_callSN1P gd_X10_shiftOf dX7_see_41 nl_RX7_86 im_X10_shiftOf (by exact Nat.le_of_ble_eq_true rfl) (by decide) (c_shiftOf hj) ?_
      refine xq_ishlN dX7_see_44 (by omega) ?_
      refine xq_iorN dX7_see_45 ?_
      refine xq_iastN dX7_see_46 (St.s3 ha) (by omega) (by decide) ?_
      refine xq_vret dX7_see_47 rfl ?_
      exact ⟨_, by rw [← vm_or hs64 hj], rfl⟩
theorem c_seeThese0 (ha : gSt S a) (hnp : hI H a 6 = nI np) (hn6 : np ≤ 6) (hs : SeP H a i s) (hs64 : s < 64) (hi : i < 6) (hm : m < 64) : Nv mX7_seeThese 2 [.ref a, vN i, vN m] S H (fun H' => SeP H' a i (sbs m np s) ∧ Off (fun q => q = a + 2 ∨ q = a + 3) H H' ∧ ∀ q, q ≠ i → hI H' (a + 2) q = hI H (a + 2) q ∧ hI H' (a + 3) q = hI H (a + 3) q) := by
  have lp : ∀ (fz : Nat) (j : Nat) (H1 : xH), np - j < fz → j ≤ np → SeP H1 a i (sbs m j s) → Off (fun q => q = a + 2 ∨ q = a + 3) H H1 → (∀ q, q ≠ i → hI H1 (a + 2) q = hI H (a + 2) q ∧ hI H1 (a + 3) q = hI H (a + 3) q) → Xq mX7_seeThese 2 0 0 2 [some (.ref a), some (vN i), some (vN m), some (vN j)] [] S H1 (fun R => ∃ H', (fun H' => SeP H' a i (sbs m np s) ∧ Off (fun q => q = a + 2 ∨ q = a + 3) H H' ∧ ∀ q, q ≠ i → hI H' (a + 2) q = hI H (a + 2) q ∧ hI H' (a + 3) q = hI H (a + 3) q) H' ∧ R = (none, S, H')) := by
    intro fz
    induction fz with
    | zero => intro j  H1  hfz; exact absurd hfz (by omega)
    | succ fz ih =>
      intro j  H1  hfz hj hs1 ho hr
      refine xq_iload_n dX7_seeThese_2 rfl rfl ?_
      refine xq_aload_n dX7_seeThese_3 rfl rfl ?_
      refine xq_getIE clX7 (by decide) rfl fl_RX7_36 dX7_seeThese_4 (St.s0 ha) ((ho.I (by omega) 6).trans hnp) ?_
      refine xq_icmp_geN dX7_seeThese_7 rfl (by omega) (by omega) ⟨fun h7 => ?_, fun h7 => ?_⟩
      · skip
        refine xq_vret dX7_seeThese_30 rfl ?_
        exact ⟨H1, ⟨by rw [show np = j by omega]; exact hs1, ho, hr⟩, rfl⟩
      · skip
        have hb := shr_le m j; have hb2 : m >>> j &&& 1 ≤ 1 := Nat.and_le_right
        refine xq_iload_n dX7_seeThese_10 rfl rfl ?_
        refine xq_iload_n dX7_seeThese_11 rfl rfl ?_
        refine xq_ishrN dX7_seeThese_12 (by omega) (by omega) ?_
        refine xq_iconst dX7_seeThese_13 ic1 ?_
        refine xq_iandN dX7_seeThese_14 ?_
        refine xq_if_eqN dX7_seeThese_15 rfl (by omega) ⟨fun h15 => ?_, fun h15 => ?_⟩
        · skip
          refine xq_iincN dX7_seeThese_24 ic1 rfl rfl ?_
          refine xq_goto dX7_seeThese_27 rfl ?_
          exact ih (j + 1) H1 (by omega) (by omega) (by have := (tb_shr m j).mp h15; simpa [sbs, fo, this] using hs1) ho hr
        · skip
          refine xq_aload_n dX7_seeThese_18 rfl rfl ?_
          refine xq_iload_n dX7_seeThese_19 rfl rfl ?_
          refine xq_iload_n dX7_seeThese_20 rfl rfl ?_
          refine xq_callV2N clX7 gd_X7_see dX7_seeThese_21 ml_RX7_89 im_X7_see se_X7_see rfl (St.s0 ha) (by exact Nat.le_of_ble_eq_true rfl) (by decide) (c_see0 ha hs1 (sbs_lt (by omega) hs64) hi (by omega)) ?_
          intro H21 p21
          refine xq_iincN dX7_seeThese_24 ic1 rfl rfl ?_
          refine xq_goto dX7_seeThese_27 rfl ?_
          have hb : m.testBit j = true := Bool.not_eq_false _ ▸ (fun e => h15 ((tb_shr m j).mpr e))
          subst p21
          refine ih (j + 1) _ (by omega) (by omega) ⟨?_, ?_⟩ (Off.pI (A := fun q => q = a + 2 ∨ q = a + 3) (Off.pI (A := fun q => q = a + 2 ∨ q = a + 3) ho (by omega) _ _) (by omega) _ _) (fun q hq => ⟨?_, ?_⟩)
          · rw [hI_sI, if_neg (by omega), hI_sI, if_pos ⟨rfl, rfl⟩]; simp [sbs, fo, hb]
          · rw [hI_sI, if_pos ⟨rfl, rfl⟩]; simp [sbs, fo, hb]
          · rw [hI_sI, if_neg (by omega), hI_sI, if_neg (fun z => hq z.2)]; exact (hr q hq).1
          · rw [hI_sI, if_neg (fun z => hq z.2), hI_sI, if_neg (by omega)]; exact (hr q hq).2
  refine vq_intro (by decide) (by exact Nat.le_of_ble_eq_true rfl) rfl ?_
  refine xq_iconst dX7_seeThese_0 ic0 ?_
  refine xq_istore_n dX7_seeThese_1 rfl rfl ?_
  exact lp (np + 1) 0 H (by omega) (by omega) hs Off.rf (fun _ _ => ⟨rfl, rfl⟩)
def gl (f : Nat → Bool) (g : Nat → Nat) (n : Nat) : List Nat := ((List.range n).filter f).map g
theorem gl_t {f : Nat → Bool} {g : Nat → Nat} {n : Nat} (h : f n = true) : gl f g (n + 1) = gl f g n ++ [g n] := by simp [gl, List.range_succ, List.filter_append, h]
theorem gl_f {f : Nat → Bool} {g : Nat → Nat} {n : Nat} (h : f n = false) : gl f g (n + 1) = gl f g n := by simp [gl, List.range_succ, List.filter_append, h]
theorem gl_len (f : Nat → Bool) (g : Nat → Nat) : ∀ n, (gl f g n).length = ct f n
  | 0 => rfl
  | n + 1 => by
    cases h : f n
    · rw [gl_f h, ct_f h, gl_len f g n]
    · rw [gl_t h, ct_t h, List.length_append, gl_len f g n]; rfl
theorem gl_put {f : Nat → Bool} {g : Nat → Nat} {H1 : xH} {b n : Nat} (hk : ∀ q, q < ct f n → hI H1 b q = nI ((gl f g n).getD q 0)) (hf : f n = true) (q : Nat) (hq : q < ct f (n + 1)) : hI (sI H1 b (ct f n) (nI (g n))) b q = nI ((gl f g (n + 1)).getD q 0) := by
  have hl := gl_len f g n
  rw [ct_t hf] at hq
  rw [hI_sI, gl_t hf]
  by_cases e : q = ct f n
  · rw [if_pos ⟨rfl, e⟩, e, List.getD_eq_getElem?_getD, List.getElem?_append_right (by omega), hl]
    simp
  · rw [if_neg (fun z => e z.2), hk q (by omega), List.getD_eq_getElem?_getD, List.getD_eq_getElem?_getD, List.getElem?_append_left (by omega)]
def wys (T : uTx) : Nat := tNc T ^ tNp T
def wls (T : uTx) : List Nat := gl (inS T) (pk T) (wys T)
def rlS (T : uTx) (n : Nat) : Nat := fo (fun m r => if inS T m && pk T m == tTr T then ct (inS T) m else r) 0 n
theorem wys_le (h : tNc T ≤ 3) (h2 : tNp T ≤ 6) : wys T ≤ 729 := by
  have : ∀ (c : Fin 4) (p : Fin 7), c.val ^ p.val ≤ 729 := by decide
  exact this ⟨tNc T, by omega⟩ ⟨tNp T, by omega⟩
theorem rlS_le (T : uTx) : ∀ n, rlS T n ≤ ct (inS T) n
  | 0 => Nat.le_refl _
  | n + 1 => by
    have h := rlS_le T n
    show (if _ then _ else _) ≤ _
    rw [ct_b]
    split
    · omega
    · exact Nat.le_trans h (Nat.le_add_right _ _)
theorem pw_lt (h : tNc T ≤ 3) (h0 : 0 < tNc T) (h6 : tNp T ≤ 6) (n : Nat) : ∀ j, j ≤ tNp T → pwS T n j < 4096
  | 0, _ => Nat.lt_of_sub_eq_succ rfl
  | j + 1, hj => by
    have h1 := pw_lt h h0 h6 n j (by omega)
    have h2 := dgt_lt h0 n j
    have h3 : ∀ (d : Fin 3) (i : Fin 6), d.val <<< (10 - 2 * i.val) < 4096 := by decide
    exact Nat.or_lt_two_pow (n := 12) h1 (h3 ⟨dgt T n j, by omega⟩ ⟨tNp T - 1 - j, by omega⟩)
theorem pkw_lt (h : tNc T ≤ 3) (h6 : tNp T ≤ 6) (h0 : tNp T = 0 ∨ 0 < tNc T) (n : Nat) : pk T n < 4096 := by
  rcases h0 with e | e
  · unfold pk; rw [e]; exact Nat.lt_of_sub_eq_succ rfl
  · exact pw_lt h e h6 n _ (Nat.le_refl _)
theorem c_fill (ha : gSt S a) (h67 : 67 ≤ a) (h6 : hI H a 6 = nI (tNp T)) (ht : gTx S t) (ht45 : t ≤ 45) (hT : TxP H t T) (hnc : tNc T ≤ 3) (hnp : tNp T ≤ 6) (h0 : tNp T = 0 ∨ 0 < tNc T) (hst6 : ∀ k, k < tNc T → tSt T k ≤ 6) (htr : tTr T < 4096) : Nv mX7_fill 2 [.ref a, .ref t] S H (fun H' => hI H' a 4 = nI (wls T).length ∧ hI H' a 5 = nI (rlS T (wys T)) ∧ (∀ q, q < (wls T).length → hI H' (a + 1) q = nI ((wls T).getD q 0)) ∧ (∀ k, k ≠ 4 → k ≠ 5 → hI H' a k = hI H a k) ∧ (∀ k, hL H' a k = hL H a k) ∧ Off (fun q => q = a ∨ q = a + 1) H H') := by
  have hwy := wys_le hnc hnp
  have l2 : ∀ (fz : Nat) (n : Nat) (H1 : xH), wys T - n < fz → n ≤ wys T → hI H1 a 4 = nI (ct (inS T) n) → hI H1 a 5 = nI (rlS T n) → (∀ q, q < ct (inS T) n → hI H1 (a + 1) q = nI ((gl (inS T) (pk T) n).getD q 0)) → (∀ k, k ≠ 4 → k ≠ 5 → hI H1 a k = hI H a k) → (∀ k, hL H1 a k = hL H a k) → Off (fun q => q = a ∨ q = a + 1) H H1 → Xq mX7_fill 2 0 0 40 [some (.ref a), some (.ref t), some (vN (wys T)), some (vN n), none] [] S H1 (fun R => ∃ H', (fun H' => hI H' a 4 = nI (wls T).length ∧ hI H' a 5 = nI (rlS T (wys T)) ∧ (∀ q, q < (wls T).length → hI H' (a + 1) q = nI ((wls T).getD q 0)) ∧ (∀ k, k ≠ 4 → k ≠ 5 → hI H' a k = hI H a k) ∧ (∀ k, hL H' a k = hL H a k) ∧ Off (fun q => q = a ∨ q = a + 1) H H') H' ∧ R = (none, S, H')) := by
    intro fz
    induction fz with
    | zero => intro n  H1  hfz; exact absurd hfz (by omega)
    | succ fz ih =>
      intro n  H1  hfz hn2 h4 h5 hk hr hl ho
      have hT1 := hT.off ho (fun j hj => by omega)
      refine xq_iload_n dX7_fill_40 rfl rfl ?_
      refine xq_iload_n dX7_fill_41 rfl rfl ?_
      refine xq_icmp_geN dX7_fill_42 rfl (by omega) (by omega) ⟨fun h42 => ?_, fun h42 => ?_⟩
      · skip
        refine xq_vret dX7_fill_116 rfl ?_
        have e : wys T = n := by omega
        exact ⟨H1, ⟨by rw [h4]; unfold wls; rw [gl_len, e], by rw [h5, e], fun q hq => by unfold wls at hq ⊢; rw [gl_len, e] at hq; rw [e]; exact hk q hq, hr, hl, ho⟩, rfl⟩
      · skip
        refine xq_iload_n dX7_fill_45 rfl rfl ?_
        refine xq_sipush dX7_fill_46 sp729 ?_
        refine xq_icmp_geN dX7_fill_49 rfl (by omega) (by omega) ⟨fun h49 => ?_, fun h49 => ?_⟩
        · skip
          exact absurd h49 (by omega)
        · skip
          have hpk := pkw_lt hnc hnp h0 n
          refine xq_aload_n dX7_fill_52 rfl rfl ?_
          refine xq_iload_n dX7_fill_53 rfl rfl ?_
          refine xq_callV1P clX8 gd_X8_packed dX7_fill_54 ml_RX7_73 im_X8_packed se_X8_packed rfl (Tx.s0 ht) (by exact Nat.le_of_ble_eq_true rfl) (by decide) (c_packed ht hT1 hnc hnp h0 hst6 (by omega)) ?_
          refine xq_istore dX7_fill_57 rfl ?_
          refine xq_iload dX7_fill_59 rfl ?_
          refine xq_iconst dX7_fill_61 icm1 ?_
          refine xq_icmp_eq dX7_fill_62 rfl ⟨fun h62 => ?_, fun h62 => ?_⟩
          · skip
            refine xq_iincN dX7_fill_110 ic1 rfl rfl ?_
            refine xq_goto dX7_fill_113 rfl ?_
            have hin : inS T n = false := by
              cases e : inS T n
              · rfl
              · rw [e, if_pos rfl] at h62
                have := (zI_eqc (x := (pk T n : Int)) (y := -1) ⟨by omega, by omega⟩ ⟨by omega, by omega⟩).mp (h62.trans zm1)
                omega
            exact xq_fgt (ih (n + 1) H1 (by omega) (by omega) (by rw [ct_f hin]; exact h4) (by rw [h5]; show _ = nI (if _ then _ else _); rw [hin]; rfl) (by rw [ct_f hin, gl_f hin]; exact hk) hr hl ho) (by exact And.intro rfl (And.intro rfl (And.intro rfl (And.intro rfl trivial))))
          · skip
            have hin : inS T n = true := by
              cases e : inS T n
              · rw [e, if_neg (by decide)] at h62; exact absurd zm1.symm h62
              · rfl
            rw [hin, if_pos rfl, zI_n]
            rw [hin, if_pos rfl, zI_n] at h62
            have hctn := ct_le (inS T) n
            refine xq_aload_n dX7_fill_65 rfl rfl ?_
            refine xq_iload dX7_fill_66 rfl ?_
            refine xq_aload_n dX7_fill_68 rfl rfl ?_
            refine xq_getIE clX8 (by decide) rfl fl_RX7_77 dX7_fill_69 (Tx.s0 ht) hT1.tr ?_
            refine xq_icmp_neN dX7_fill_72 rfl (by omega) (by omega) ⟨fun h72 => ?_, fun h72 => ?_⟩
            · skip
              refine xq_aload_n dX7_fill_82 rfl rfl ?_
              refine xq_getIE clX7 (by decide) rfl fl_RX7_70 dX7_fill_83 (St.s0 ha) h5 ?_
              refine xq_putI clX7 (by decide) rfl fl_RX7_70 (Or.inl rfl) dX7_fill_86 ⟨rfl, rfl⟩ (St.s0 ha) ?_
              refine xq_aload_n dX7_fill_89 rfl rfl ?_
              refine xq_getF clX7 (by decide) rfl fl_RX7_9 dX7_fill_90 (St.s0 ha) (St.r0 ha) ?_
              refine xq_aload_n dX7_fill_93 rfl rfl ?_
              refine xq_getIE (v := nI (ct (inS T) n)) clX7 (by decide) rfl fl_RX7_69 dX7_fill_94 (St.s0 ha) (by rw [hI_sI, if_neg (by omega)]; exact h4) ?_
              refine xq_iload dX7_fill_97 rfl ?_
              refine xq_iastN dX7_fill_99 (St.s1 ha) (by omega) (by decide) ?_
              refine xq_aload_n dX7_fill_100 rfl rfl ?_
              refine xq_dup dX7_fill_101 rfl ?_
              refine xq_getIE (v := nI (ct (inS T) n)) clX7 (by decide) rfl fl_RX7_69 dX7_fill_102 (St.s0 ha) (by rw [hI_sI, if_neg (by omega), hI_sI, if_neg (by omega)]; exact h4) ?_
              refine xq_iconst dX7_fill_105 ic1 ?_
              refine xq_iaddN dX7_fill_106 ?_
              refine xq_putI clX7 (by decide) rfl fl_RX7_69 (Or.inl rfl) dX7_fill_107 ⟨rfl, rfl⟩ (St.s0 ha) ?_
              refine xq_iincN dX7_fill_110 ic1 rfl rfl ?_
              refine xq_goto dX7_fill_113 rfl ?_
              exact xq_fgt (ih (n + 1) _ (by omega) (by omega) (by rw [ct_t hin]; simp [hI_sI]) (by
                  have e : rlS T (n + 1) = rlS T n := by show (if _ then _ else _) = _; rw [hin, show (pk T n == tTr T) = false by rw [beq_eq_false_iff_ne]; exact h72]; rfl
                  rw [e]; simp [hI_sI]) (fun q hq => by
                  rw [hI_sI, if_neg (by omega)]
                  refine gl_put (H1 := sI H1 a 5 _) (fun q hq => ?_) hin q hq
                  rw [hI_sI, if_neg (by omega)]; exact hk q hq) (fun k k1 k2 => by simp only [hI_sI, k1, k2, and_false, if_false, show ¬ (a = a + 1) by omega, false_and]; exact hr k k1 k2) hl (Off.pI (A := fun q => q = a ∨ q = a + 1) (Off.pI (A := fun q => q = a ∨ q = a + 1) (Off.pI (A := fun q => q = a ∨ q = a + 1) ho (by omega) _ _) (by omega) _ _) (by omega) _ _)) (by exact And.intro rfl (And.intro rfl (And.intro rfl (And.intro rfl trivial))))
            · skip
              refine xq_aload_n dX7_fill_75 rfl rfl ?_
              refine xq_getIE clX7 (by decide) rfl fl_RX7_69 dX7_fill_76 (St.s0 ha) h4 ?_
              refine xq_goto dX7_fill_79 rfl ?_
              refine xq_putI clX7 (by decide) rfl fl_RX7_70 (Or.inl rfl) dX7_fill_86 ⟨rfl, rfl⟩ (St.s0 ha) ?_
              refine xq_aload_n dX7_fill_89 rfl rfl ?_
              refine xq_getF clX7 (by decide) rfl fl_RX7_9 dX7_fill_90 (St.s0 ha) (St.r0 ha) ?_
              refine xq_aload_n dX7_fill_93 rfl rfl ?_
              refine xq_getIE (v := nI (ct (inS T) n)) clX7 (by decide) rfl fl_RX7_69 dX7_fill_94 (St.s0 ha) (by rw [hI_sI, if_neg (by omega)]; exact h4) ?_
              refine xq_iload dX7_fill_97 rfl ?_
              refine xq_iastN dX7_fill_99 (St.s1 ha) (by omega) (by decide) ?_
              refine xq_aload_n dX7_fill_100 rfl rfl ?_
              refine xq_dup dX7_fill_101 rfl ?_
              refine xq_getIE (v := nI (ct (inS T) n)) clX7 (by decide) rfl fl_RX7_69 dX7_fill_102 (St.s0 ha) (by rw [hI_sI, if_neg (by omega), hI_sI, if_neg (by omega)]; exact h4) ?_
              refine xq_iconst dX7_fill_105 ic1 ?_
              refine xq_iaddN dX7_fill_106 ?_
              refine xq_putI clX7 (by decide) rfl fl_RX7_69 (Or.inl rfl) dX7_fill_107 ⟨rfl, rfl⟩ (St.s0 ha) ?_
              refine xq_iincN dX7_fill_110 ic1 rfl rfl ?_
              refine xq_goto dX7_fill_113 rfl ?_
              exact xq_fgt (ih (n + 1) _ (by omega) (by omega) (by rw [ct_t hin]; simp [hI_sI]) (by
                  have e : rlS T (n + 1) = ct (inS T) n := by show (if _ then _ else _) = _; rw [hin, show (pk T n == tTr T) = true by rw [beq_iff_eq]; exact h72]; rfl
                  rw [e]; simp [hI_sI]) (fun q hq => by
                  rw [hI_sI, if_neg (by omega)]
                  refine gl_put (H1 := sI H1 a 5 _) (fun q hq => ?_) hin q hq
                  rw [hI_sI, if_neg (by omega)]; exact hk q hq) (fun k k1 k2 => by simp only [hI_sI, k1, k2, and_false, if_false, show ¬ (a = a + 1) by omega, false_and]; exact hr k k1 k2) hl (Off.pI (A := fun q => q = a ∨ q = a + 1) (Off.pI (A := fun q => q = a ∨ q = a + 1) (Off.pI (A := fun q => q = a ∨ q = a + 1) ho (by omega) _ _) (by omega) _ _) (by omega) _ _)) (by exact And.intro rfl (And.intro rfl (And.intro rfl (And.intro rfl trivial))))
  have l1 : ∀ (fz : Nat) (i : Nat), tNp T - i < fz → i ≤ tNp T → Xq mX7_fill 2 0 0 4 [some (.ref a), some (.ref t), some (vN (tNc T ^ i)), some (vN i), none] [] S H (fun R => ∃ H', (fun H' => hI H' a 4 = nI (wls T).length ∧ hI H' a 5 = nI (rlS T (wys T)) ∧ (∀ q, q < (wls T).length → hI H' (a + 1) q = nI ((wls T).getD q 0)) ∧ (∀ k, k ≠ 4 → k ≠ 5 → hI H' a k = hI H a k) ∧ (∀ k, hL H' a k = hL H a k) ∧ Off (fun q => q = a ∨ q = a + 1) H H') H' ∧ R = (none, S, H')) := by
    intro fz
    induction fz with
    | zero => intro i  hfz; exact absurd hfz (by omega)
    | succ fz ih =>
      intro i  hfz hi
      refine xq_iload_n dX7_fill_4 rfl rfl ?_
      refine xq_aload_n dX7_fill_5 rfl rfl ?_
      refine xq_getIE clX7 (by decide) rfl fl_RX7_36 dX7_fill_6 (St.s0 ha) h6 ?_
      refine xq_icmp_geN dX7_fill_9 rfl (by omega) (by omega) ⟨fun h9 => ?_, fun h9 => ?_⟩
      · skip
        have e : i = tNp T := by omega
        subst e
        refine xq_aload_n dX7_fill_28 rfl rfl ?_
        refine xq_iconst dX7_fill_29 ic0 ?_
        refine xq_putI clX7 (by decide) rfl fl_RX7_69 (Or.inl rfl) dX7_fill_30 ⟨rfl, rfl⟩ (St.s0 ha) ?_
        refine xq_aload_n dX7_fill_33 rfl rfl ?_
        refine xq_iconst dX7_fill_34 ic0 ?_
        refine xq_putI clX7 (by decide) rfl fl_RX7_70 (Or.inl rfl) dX7_fill_35 ⟨rfl, rfl⟩ (St.s0 ha) ?_
        refine xq_iconst dX7_fill_38 ic0 ?_
        refine xq_istore_n dX7_fill_39 rfl rfl ?_
        exact l2 (wys T + 1) 0 _ (by omega) (by omega) (by simp [hI_sI]; rfl) (by simp [hI_sI]; rfl) (fun q hq => absurd hq (by show ¬ q < 0; omega)) (fun k k1 k2 => by simp [hI_sI, k1, k2]) (fun _ => rfl) (Off.pI (A := fun q => q = a ∨ q = a + 1) (Off.pI (A := fun q => q = a ∨ q = a + 1) Off.rf (by omega) _ _) (by omega) _ _)
      · skip
        refine xq_iload_n dX7_fill_12 rfl rfl ?_
        refine xq_aload_n dX7_fill_13 rfl rfl ?_
        refine xq_getF clX8 (by decide) rfl fl_RX7_66 dX7_fill_14 (Tx.s0 ht) (Tx.r0 ht) ?_
        refine xq_getIE clX5 (by decide) rfl fl_RX7_30 dX7_fill_17 (Nm.s0 (Tx.n1 ht)) hT.nc ?_
        refine xq_imulN dX7_fill_20 ?_
        refine xq_istore_n dX7_fill_21 rfl rfl ?_
        refine xq_iincN dX7_fill_22 ic1 rfl rfl ?_
        refine xq_goto dX7_fill_25 rfl ?_
        exact ih (i + 1) (by omega) (by omega)
  refine vq_intro (by decide) (by exact Nat.le_of_ble_eq_true rfl) rfl ?_
  refine xq_iconst dX7_fill_0 ic1 ?_
  refine xq_istore_n dX7_fill_1 rfl rfl ?_
  refine xq_iconst dX7_fill_2 ic0 ?_
  refine xq_istore_n dX7_fill_3 rfl rfl ?_
  exact xq_fgt (l1 (tNp T + 1) 0 (by omega) (by omega)) (by exact And.intro rfl (And.intro rfl (And.intro rfl (And.intro rfl trivial))))
def begU (T : uTx) : uSt := (wls T, fun k => if k = 5 then rlS T (wys T) else if k = 6 then tNp T else 0, fun p => if p < tNp T then sbs (tSe T p) (tNp T) 0 else 0, fun _ => 0, if tSd T = 0 then 0 else tSd T - 1)
theorem vm_0 : vm 0 = 0 := by decide
theorem bz_sd (h : tSd T ≤ 100000) : (if tSd T = 0 then (-1 : Int32) else nI (tSd T - 1)) = -1 ↔ tSd T = 0 := by
  by_cases e : tSd T = 0
  · rw [if_pos e]; exact ⟨fun _ => e, fun _ => rfl⟩
  · rw [if_neg e]
    constructor
    · intro w
      rw [zm1] at w
      have := (zI_eqc (x := ((tSd T - 1 : Nat) : Int)) (y := -1) ⟨by omega, by omega⟩ ⟨by omega, by omega⟩).mp w
      omega
    · intro w; exact absurd w e
theorem c_begin (ha : gSt S a) (h67 : 67 ≤ a) (ht : gTx S t) (ht45 : t ≤ 45) (hT : TxP H t T) (hnc : tNc T ≤ 3) (hnp : tNp T ≤ 6) (h0 : tNp T = 0 ∨ 0 < tNc T) (hst6 : ∀ k, k < tNc T → tSt T k ≤ 6) (htr : tTr T < 4096) (hsd : tSd T ≤ 100000) (hse6 : ∀ k, k < 6 → tSe T k < 64) : Nv mX7_begin 3 [.ref a, .ref t] S H (fun H' => StP H' a (begU T) ∧ Off (fun q => a ≤ q ∧ q < a + 5) H H') := by
  have l2 : ∀ (fz : Nat) (i : Nat) (H1 : xH), tNp T - i < fz → i ≤ tNp T → hI H1 a 6 = nI (tNp T) ∧ hI H1 a 7 = nI 0 ∧ hI H1 a 8 = nI 0 ∧ hI H1 a 9 = nI 0 ∧ hI H1 a 10 = nI 0 ∧ hL H1 a 11 = lN (if tSd T = 0 then 0 else tSd T - 1) → Off (fun q => a ≤ q ∧ q < a + 5) H H1 → (∀ q, q < 6 → SeP H1 a q (if q < i then sbs (tSe T q) (tNp T) 0 else 0)) → (∀ q, q < 6 → hI H1 (a + 4) q = nI 0) → Xq mX7_begin 3 0 0 89 [some (.ref a), some (.ref t), some (vN i)] [] S H1 (fun R => ∃ H', (fun H' => StP H' a (begU T) ∧ Off (fun q => a ≤ q ∧ q < a + 5) H H') H' ∧ R = (none, S, H')) := by
    intro fz
    induction fz with
    | zero => intro i  H1  hfz; exact absurd hfz (by omega)
    | succ fz ih =>
      intro i  H1  hfz hi hf ho hs hp
      have hT1 := hT.off ho (fun j hj => by omega)
      refine xq_iload_n dX7_begin_89 rfl rfl ?_
      refine xq_aload_n dX7_begin_90 rfl rfl ?_
      refine xq_getIE clX7 (by decide) rfl fl_RX7_36 dX7_begin_91 (St.s0 ha) hf.1 ?_
      refine xq_icmp_geN dX7_begin_94 rfl (by omega) (by omega) ⟨fun h94 => ?_, fun h94 => ?_⟩
      · skip
        refine xq_aload_n dX7_begin_114 rfl rfl ?_
        refine xq_aload_n dX7_begin_115 rfl rfl ?_
        refine xq_callV1N clX7 gd_X7_fill dX7_begin_116 ml_RX7_62 im_X7_fill se_X7_fill rfl (St.s0 ha) (by exact Nat.le_of_ble_eq_true rfl) (by decide) (c_fill ha h67 hf.1 ht ht45 hT1 hnc hnp h0 hst6 htr) ?_
        intro H116 p116
        obtain ⟨b4, b5, bk, br, bl, bo⟩ := p116
        refine xq_vret dX7_begin_119 rfl ?_
        refine ⟨H116, ⟨⟨b4, fun k h1 h2 => ?_, (bl 11).trans hf.2.2.2.2.2, bk, fun q hq => ?_⟩, ho.tr (bo.mo (fun q h => by omega))⟩, rfl⟩
        · have : k = 5 ∨ k = 6 ∨ k = 7 ∨ k = 8 ∨ k = 9 ∨ k = 10 := by omega
          rcases this with rfl | rfl | rfl | rfl | rfl | rfl
          · exact b5
          · exact (br 6 (by omega) (by omega)).trans hf.1
          · exact (br 7 (by omega) (by omega)).trans hf.2.1
          · exact (br 8 (by omega) (by omega)).trans hf.2.2.1
          · exact (br 9 (by omega) (by omega)).trans hf.2.2.2.1
          · exact (br 10 (by omega) (by omega)).trans hf.2.2.2.2.1
        · have h := hs q hq
          have e : (if q < i then sbs (tSe T q) (tNp T) 0 else 0) = uSe (begU T) q := ite_c ⟨fun z => by omega, fun z => by omega⟩
          rw [e] at h
          exact ⟨(bo.I (by omega) q).trans h.1, (bo.I (by omega) q).trans h.2, (bo.I (by omega) q).trans (hp q hq)⟩
      · skip
        have hse := hse6 i (by omega)
        have hsi := hs i (by omega); rw [if_neg (by omega)] at hsi
        refine xq_aload_n dX7_begin_97 rfl rfl ?_
        refine xq_iload_n dX7_begin_98 rfl rfl ?_
        refine xq_aload_n dX7_begin_99 rfl rfl ?_
        refine xq_getF clX8 (by decide) rfl fl_RX7_57 dX7_begin_100 (Tx.s0 ht) (Tx.r6 ht) ?_
        refine xq_iload_n dX7_begin_103 rfl rfl ?_
        refine xq_ialdN dX7_begin_104 (Tx.s13 ht) (by omega) (by decide) (hT1.se i (by omega)) ?_
        refine xq_callV2N clX7 gd_X7_seeThese dX7_begin_105 ml_RX7_58 im_X7_seeThese se_X7_seeThese rfl (St.s0 ha) (by exact Nat.le_of_ble_eq_true rfl) (by decide) (c_seeThese0 ha hf.1 hnp hsi (by decide) (by omega) hse) ?_
        intro H105 p105
        obtain ⟨p1, p2, p3⟩ := p105
        refine xq_iincN dX7_begin_108 ic1 rfl rfl ?_
        refine xq_goto dX7_begin_111 rfl ?_
        refine ih (i + 1) H105 (by omega) (by omega) ?_ (ho.tr (p2.mo (fun q h => by omega))) (fun q hq => ?_) (fun q hq => (p2.I (by omega) q).trans (hp q hq))
        · rw [p2.I (by omega), p2.I (by omega), p2.I (by omega), p2.I (by omega), p2.I (by omega), p2.L (by omega)]; exact hf
        · by_cases e : q = i
          · subst e; rw [if_pos (by omega)]; exact p1
          · have h := hs q hq
            rw [show (if q < i + 1 then sbs (tSe T q) (tNp T) 0 else 0) = (if q < i then sbs (tSe T q) (tNp T) 0 else 0) from ite_c ⟨fun z => by omega, fun z => by omega⟩]
            exact ⟨(p3 q e).1.trans h.1, (p3 q e).2.trans h.2⟩
  have l1 : ∀ (fz : Nat) (i : Nat) (H1 : xH), 6 - i < fz → i ≤ 6 → hI H1 a 6 = nI (tNp T) ∧ hI H1 a 7 = nI 0 ∧ hI H1 a 8 = nI 0 ∧ hI H1 a 9 = nI 0 ∧ hI H1 a 10 = nI 0 ∧ hL H1 a 11 = lN (if tSd T = 0 then 0 else tSd T - 1) → Off (fun q => a ≤ q ∧ q < a + 5) H H1 → (∀ q, q < i → hI H1 (a + 2) q = nI 0 ∧ hI H1 (a + 3) q = nI 0 ∧ hI H1 (a + 4) q = nI 0) → Xq mX7_begin 3 0 0 54 [some (.ref a), some (.ref t), some (vN i)] [] S H1 (fun R => ∃ H', (fun H' => StP H' a (begU T) ∧ Off (fun q => a ≤ q ∧ q < a + 5) H H') H' ∧ R = (none, S, H')) := by
    intro fz
    induction fz with
    | zero => intro i  H1  hfz; exact absurd hfz (by omega)
    | succ fz ih =>
      intro i  H1  hfz hi hf ho hs
      refine xq_iload_n dX7_begin_54 rfl rfl ?_
      refine xq_bipush dX7_begin_55 bp6 ?_
      refine xq_icmp_geN dX7_begin_57 rfl (by omega) (by omega) ⟨fun h57 => ?_, fun h57 => ?_⟩
      · skip
        refine xq_iconst dX7_begin_87 ic0 ?_
        refine xq_istore_n dX7_begin_88 rfl rfl ?_
        refine l2 (tNp T + 1) 0 H1 (by omega) (by omega) hf ho (fun q hq => ?_) (fun q hq => (hs q (by omega)).2.2)
        have h := hs q (by omega)
        rw [if_neg (by omega)]
        exact ⟨h.1, by rw [vm_0]; exact h.2.1⟩
      · skip
        refine xq_aload_n dX7_begin_60 rfl rfl ?_
        refine xq_getF clX7 (by decide) rfl fl_RX7_15 dX7_begin_61 (St.s0 ha) (St.r1 ha) ?_
        refine xq_iload_n dX7_begin_64 rfl rfl ?_
        refine xq_iconst dX7_begin_65 ic0 ?_
        refine xq_iastN dX7_begin_66 (St.s2 ha) (by omega) (by decide) ?_
        refine xq_aload_n dX7_begin_67 rfl rfl ?_
        refine xq_getF clX7 (by decide) rfl fl_RX7_18 dX7_begin_68 (St.s0 ha) (St.r2 ha) ?_
        refine xq_iload_n dX7_begin_71 rfl rfl ?_
        refine xq_iconst dX7_begin_72 ic0 ?_
        refine xq_iastN dX7_begin_73 (St.s3 ha) (by omega) (by decide) ?_
        refine xq_aload_n dX7_begin_74 rfl rfl ?_
        refine xq_getF clX7 (by decide) rfl fl_RX7_21 dX7_begin_75 (St.s0 ha) (St.r3 ha) ?_
        refine xq_iload_n dX7_begin_78 rfl rfl ?_
        refine xq_iconst dX7_begin_79 ic0 ?_
        refine xq_iastN dX7_begin_80 (St.s4 ha) (by omega) (by decide) ?_
        refine xq_iincN dX7_begin_81 ic1 rfl rfl ?_
        refine xq_goto dX7_begin_84 rfl ?_
        refine ih (i + 1) _ (by omega) (by omega) ?_ (Off.pI (A := (fun q => a ≤ q ∧ q < a + 5)) (Off.pI (A := (fun q => a ≤ q ∧ q < a + 5)) (Off.pI (A := (fun q => a ≤ q ∧ q < a + 5)) ho (by omega) _ _) (by omega) _ _) (by omega) _ _) (fun q hq => ?_)
        · simp only [hI_sI, hL_sI, show ¬ (a = a + 2) by omega, show ¬ (a = a + 3) by omega, show ¬ (a = a + 4) by omega, false_and, if_false]; exact hf
        · by_cases e : q = i
          · subst e; simp [hI_sI]
          · have h := hs q (by omega)
            simp [hI_sI, e, h]
  refine vq_intro (by decide) (by exact Nat.le_of_ble_eq_true rfl) rfl ?_
  refine xq_aload_n dX7_begin_0 rfl rfl ?_
  refine xq_aload_n dX7_begin_1 rfl rfl ?_
  refine xq_getF clX8 (by decide) rfl fl_RX7_24 dX7_begin_2 (Tx.s0 ht) (Tx.r1 ht) ?_
  refine xq_getIE clX5 (by decide) rfl fl_RX7_30 dX7_begin_5 (Nm.s0 (Tx.n3 ht)) hT.np ?_
  refine xq_putI clX7 (by decide) rfl fl_RX7_36 (Or.inl rfl) dX7_begin_8 ⟨rfl, rfl⟩ (St.s0 ha) ?_
  refine xq_aload_n dX7_begin_11 rfl rfl ?_
  refine xq_iconst dX7_begin_12 ic0 ?_
  refine xq_putI clX7 (by decide) rfl fl_RX7_38 (Or.inl rfl) dX7_begin_13 ⟨rfl, rfl⟩ (St.s0 ha) ?_
  refine xq_aload_n dX7_begin_16 rfl rfl ?_
  refine xq_iconst dX7_begin_17 ic0 ?_
  refine xq_putI clX7 (by decide) rfl fl_RX7_41 (Or.inl rfl) dX7_begin_18 ⟨rfl, rfl⟩ (St.s0 ha) ?_
  refine xq_aload_n dX7_begin_21 rfl rfl ?_
  refine xq_iconst dX7_begin_22 ic0 ?_
  refine xq_putI clX7 (by decide) rfl fl_RX7_44 (Or.inl rfl) dX7_begin_23 ⟨rfl, rfl⟩ (St.s0 ha) ?_
  refine xq_aload_n dX7_begin_26 rfl rfl ?_
  refine xq_iconst dX7_begin_27 ic0 ?_
  refine xq_putI clX7 (by decide) rfl fl_RX7_47 (Or.inl rfl) dX7_begin_28 ⟨rfl, rfl⟩ (St.s0 ha) ?_
  refine xq_aload_n dX7_begin_31 rfl rfl ?_
  refine xq_aload_n dX7_begin_32 rfl rfl ?_
  refine xq_getIE (v := (if tSd T = 0 then -1 else nI (tSd T - 1))) clX8 (by decide) rfl fl_RX7_50 dX7_begin_33 (Tx.s0 ht) (by simp only [hI_sI, show ¬ (t = a) by omega, false_and, if_false]; exact hT.sd) ?_
  refine xq_iconst dX7_begin_36 icm1 ?_
  refine xq_icmp_ne dX7_begin_37 rfl ⟨fun h37 => ?_, fun h37 => ?_⟩
  · skip
    refine xq_aload_n dX7_begin_44 rfl rfl ?_
    refine xq_getIE (v := (if tSd T = 0 then -1 else nI (tSd T - 1))) clX8 (by decide) rfl fl_RX7_50 dX7_begin_45 (Tx.s0 ht) (by simp only [hI_sI, show ¬ (t = a) by omega, false_and, if_false]; exact hT.sd) ?_
    refine xq_i2l dX7_begin_48 ?_
    refine xq_putL clX7 (by decide) rfl fl_RX7_53 (Or.inl rfl) dX7_begin_49 ⟨rfl, rfl⟩ (St.s0 ha) ?_
    refine xq_iconst dX7_begin_52 ic0 ?_
    refine xq_istore_n dX7_begin_53 rfl rfl ?_
    have e0 : ¬ tSd T = 0 := fun w => h37 ((bz_sd hsd).mpr w)
    rw [if_neg e0, nI_toL (by omega)]
    exact l1 7 0 _ (by omega) (by omega) (by simp [hI_sI, hI_sL, hL_sL, e0]) (Off.pL (A := (fun q => a ≤ q ∧ q < a + 5)) (Off.pI (A := (fun q => a ≤ q ∧ q < a + 5)) (Off.pI (A := (fun q => a ≤ q ∧ q < a + 5)) (Off.pI (A := (fun q => a ≤ q ∧ q < a + 5)) (Off.pI (A := (fun q => a ≤ q ∧ q < a + 5)) (Off.pI (A := (fun q => a ≤ q ∧ q < a + 5)) Off.rf (by omega) _ _) (by omega) _ _) (by omega) _ _) (by omega) _ _) (by omega) _ _) (by omega) _ _) (fun q hq => absurd hq (by omega))
  · skip
    refine xq_lconst dX7_begin_40 lc0 ?_
    refine xq_goto dX7_begin_41 rfl ?_
    refine xq_putL clX7 (by decide) rfl fl_RX7_53 (Or.inl rfl) dX7_begin_49 ⟨rfl, rfl⟩ (St.s0 ha) ?_
    refine xq_iconst dX7_begin_52 ic0 ?_
    refine xq_istore_n dX7_begin_53 rfl rfl ?_
    have e0 : tSd T = 0 := (bz_sd hsd).mp h37
    exact l1 7 0 _ (by omega) (by omega) (by simp [hI_sI, hI_sL, hL_sL, e0]) (Off.pL (A := (fun q => a ≤ q ∧ q < a + 5)) (Off.pI (A := (fun q => a ≤ q ∧ q < a + 5)) (Off.pI (A := (fun q => a ≤ q ∧ q < a + 5)) (Off.pI (A := (fun q => a ≤ q ∧ q < a + 5)) (Off.pI (A := (fun q => a ≤ q ∧ q < a + 5)) (Off.pI (A := (fun q => a ≤ q ∧ q < a + 5)) Off.rf (by omega) _ _) (by omega) _ _) (by omega) _ _) (by omega) _ _) (by omega) _ _) (by omega) _ _) (fun q hq => absurd hq (by omega))
end BG
