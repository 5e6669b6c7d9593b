/-! ===== HatRoom: rounds, chance, tell, ask, peep ===== -/
section RC
variable {S : xS} {H H1 : xH} {t z k p q f i j l m n ps pn : Nat} {u ui v : uSt} {T : uTx} {w w2 w3 : Int32} {A : Nat → Option Nat} {L : Nat → uSt}
def rst (T : uTx) (u : uSt) : Nat → uSt
  | 0 => u
  | k + 1 => askU T false 0 (-1) (rst T u k)
def rnN (T : uTx) (u : uSt) : Nat := fnd (fun k => uZ (rst T u (k + 1)) == uZ (rst T u k)) 729
theorem askU_z {dr : Bool} {ow mu : Int} (ok : StOk u) : uZ (askU T dr ow mu u) ≤ uZ u := by
  have h := aFo_inv (T := T) (dr := dr) (ow := ow) (mu := mu) ok (uNp u) ok.np
  have e : uZ (askU T dr ow mu u) = ct (askF T dr ow mu u) (uZ (aFo T dr ow mu u (uNp u)).2.2) := kep_len _ _ _
  have e2 : uZ (aFo T dr ow mu u (uNp u)).2.2 = uZ u := by unfold uZ; rw [h.1.1]
  rw [e, e2]
  exact ct_le _ _
theorem rst_ok (ok : StOk u) : ∀ k, Gro u (rst T u k) 0
  | 0 => ⟨ok, rfl, rfl, Nat.le_refl _, Nat.le_refl _⟩
  | k + 1 => (rst_ok ok k).tr (askU_gro (rst_ok ok k).1)
theorem rst_z (ok : StOk u) (hn : ∀ j, j < k → (uZ (rst T u (j + 1)) == uZ (rst T u j)) = false) : uZ (rst T u k) + k ≤ uZ u := by
  induction k with
  | zero => exact Nat.le_refl _
  | succ k ih =>
    have h1 := ih (fun j hj => hn j (by omega))
    have h2 := hn k (by omega)
    have h3 := askU_z (T := T) (dr := false) (ow := 0) (mu := -1) (rst_ok (T := T) ok k).1
    have h4 : uZ (rst T u (k + 1)) ≤ uZ (rst T u k) := h3
    have h5 : uZ (rst T u (k + 1)) ≠ uZ (rst T u k) := by simpa using h2
    omega
def rouV (T : uTx) (u : uSt) (l : Nat) : Nat := if l = 0 then rnN T u else if l = 1 then kns (rst T u (rnN T u + 1)) else uZ (rst T u (rnN T u + 1))
theorem c_rounds0 (hr : RdP S H t T u z) (hno : ¬ (¬ w < 0 ∧ w ≤ nI 2)) : Pv mX10_rounds 5 [.ref 0, .int w] S H (vZ (-1)) := by
  have hF := hr.fx
  refine vq_ev (vq_intro (by decide) (by exact Nat.le_of_ble_eq_true rfl) rfl ?_)
  refine xq_iload_n dX10_rounds_0 rfl rfl ?_
  refine xq_if_lt dX10_rounds_1 rfl ⟨fun h1 => ?_, fun h1 => ?_⟩
  · skip
    refine xq_iconst dX10_rounds_9 icm1 ?_
    refine xq_iret dX10_rounds_10 rfl ?_
    show _ = _; rw [zm1]
  · skip
    refine xq_iload_n dX10_rounds_4 rfl rfl ?_
    refine xq_iconst dX10_rounds_5 ic2 ?_
    refine xq_icmp_le dX10_rounds_6 rfl ⟨fun h6 => ?_, fun h6 => ?_⟩
    · skip
      exact absurd ⟨h1, h6⟩ hno
    · skip
      refine xq_iconst dX10_rounds_9 icm1 ?_
      refine xq_iret dX10_rounds_10 rfl ?_
      show _ = _; rw [zm1]
theorem c_rounds1 (hr : RdP S H t T u z) (hl : l < 3) : Hv mX10_rounds 5 [.ref 0, vN l] S H vN (fun x H' => x = rouV T u l ∧ Off (fun q => (72 ≤ q ∧ q < 77) ∨ (16 ≤ q ∧ q ≤ 23) ∨ q = 66) H H' ∧ ∃ t2, t2 ≤ z + 6000 ∧ MiP H' t2) := by
  have hF := hr.fx; have hT := hr.tx; have tk := hr.tk; have hu := hr.st; have ok := hr.ok; have hm := hr.mi; have ht := hr.gt; have ht24 := hr.t24; have ht45 := hr.t45; have hz := ok.n; have hnp := ok.np; have hrl := ok.rl; have hnpe := hr.np; have h67 : 67 ≤ 67 := Nat.le_refl _; have ha := Fx.g67 hF; have hzz := hr.zb; have hhr := ok.hr; have hhd := hr.hd; have hli := hr.li; have g72 := Fx.g72 hF; have h72 : 67 ≤ 72 := (by decide); have h98 := hr.h9
  have lp : ∀ (fz : Nat) (k : Nat) (H1 : xH), 729 - k < fz → k ≤ 728 → StP H1 72 (rst T u k) → Off (fun q => (72 ≤ q ∧ q < 77) ∨ (16 ≤ q ∧ q ≤ 23) ∨ q = 66) H H1 → CoP H1 t false 0 (-1) → (∃ t2, t2 ≤ z + 6 * k ∧ MiP H1 t2) → (∀ j, j < k → (uZ (rst T u (j + 1)) == uZ (rst T u j)) = false) → Xq mX10_rounds 5 0 0 40 [some (.ref 0), some (vN l), some (vN k), some (vN k), none] [] S H1 (fun R => ∃ x H', (fun x H' => x = rouV T u l ∧ Off (fun q => (72 ≤ q ∧ q < 77) ∨ (16 ≤ q ∧ q ≤ 23) ∨ q = 66) H H' ∧ ∃ t2, t2 ≤ z + 6000 ∧ MiP H' t2) x H' ∧ R = (some (vN x), S, H')) := by
    intro fz
    induction fz with
    | zero => intro k  H1  hfz; exact absurd hfz (by omega)
    | succ fz ih =>
      intro k  H1  hfz hk hu1 ho hc1 hm1 hno
      obtain ⟨t2, a1, a2⟩ := id hm1
      have g := rst_ok (T := T) ok k
      have gz := g.1.n; have gp := g.1; have hzk := rst_z (T := T) ok hno; have grl := gp.rl
      refine xq_iload_n dX10_rounds_40 rfl rfl ?_
      refine xq_sipush dX10_rounds_41 sp729 ?_
      refine xq_icmp_geN dX10_rounds_44 rfl (by omega) (by omega) ⟨fun h44 => ?_, fun h44 => ?_⟩
      · skip
        exact absurd h44 (by omega)
      · skip
        refine xq_aload_n dX10_rounds_47 rfl rfl ?_
        refine xq_getF clX10 (by decide) rfl fl_RX10_71 dX10_rounds_48 (Fx.s0 hF) (Fx.r0_10 hF) ?_
        refine xq_getIE clX7 (by decide) rfl fl_RX10_167 dX10_rounds_51 (St.s0 (Fx.g72 hF)) hu1.sz ?_
        refine xq_istore dX10_rounds_54 rfl ?_
        refine xq_aload_n dX10_rounds_56 rfl rfl ?_
        refine xq_getF clX10 (by decide) rfl fl_RX10_60 dX10_rounds_57 (Fx.s0 hF) (Fx.r0_8 hF) ?_
        refine xq_aload_n dX10_rounds_60 rfl rfl ?_
        refine xq_getF clX10 (by decide) rfl fl_RX10_71 dX10_rounds_61 (Fx.s0 hF) (Fx.r0_10 hF) ?_
        refine xq_callV1H clX0 gd_X0_askAll dX10_rounds_64 ml_RX10_241 im_X0_askAll se_X0_askAll rfl (Fx.s66 hF) (by exact Nat.le_of_ble_eq_true rfl) (by decide) (c_askAll hF g72 h72 hu1 gp ht ht24 ht45 (hT.off ho (fun j hj => by omega)) tk hc1 (by omega) (by omega) a2 (by omega)) ?_
        intro x64 H64 p64
        obtain ⟨q1, q2, q3, t3, b1, b2⟩ := p64
        have gz2 := (askU_z (T := T) (dr := false) (ow := 0) (mu := -1) gp)
        refine xq_pop dX10_rounds_67 rfl ?_
        refine xq_aload_n dX10_rounds_68 rfl rfl ?_
        refine xq_getF clX10 (by decide) rfl fl_RX10_71 dX10_rounds_69 (Fx.s0 hF) (Fx.r0_10 hF) ?_
        refine xq_getIE clX7 (by decide) rfl fl_RX10_167 dX10_rounds_72 (St.s0 (Fx.g72 hF)) q2.sz ?_
        refine xq_iload dX10_rounds_75 rfl ?_
        refine xq_icmp_neN dX10_rounds_77 rfl (by omega) (by omega) ⟨fun h77 => ?_, fun h77 => ?_⟩
        · skip
          refine xq_iincN dX10_rounds_83 ic1 rfl rfl ?_
          refine xq_iincN dX10_rounds_86 ic1 rfl rfl ?_
          refine xq_goto dX10_rounds_89 rfl ?_
          have hnz : ¬ uZ (rst T u (k + 1)) = uZ (rst T u k) := h77
          have hzk2 := rst_z (T := T) (k := k + 1) ok (fun j hj => by
            by_cases e : j = k
            · rw [e]; simpa using hnz
            · exact hno j (by omega))
          have hr2 := (rst_ok (T := T) ok (k + 1)).1.rl
          exact xq_fgt (ih (k + 1) H64 (by omega) (by omega) q2 (ho.tr (q3.mo (fun q h => by omega))) (hc1.off q3 (by omega)) ⟨t3, by omega, b2⟩ (fun j hj => by
            by_cases e : j = k
            · rw [e]; simpa using hnz
            · exact hno j (by omega))) (by exact And.intro rfl (And.intro rfl (And.intro rfl (And.intro rfl (trivial)))))
        · skip
          have hrn : rnN T u = k := fnd_at (f := fun k => uZ (rst T u (k + 1)) == uZ (rst T u k)) hno (by rw [beq_iff_eq]; exact h77) (by omega)
          have q2b : StP H64 72 (rst T u (k + 1)) := q2
          have okq := (rst_ok (T := T) ok (k + 1)).1
          refine xq_goto dX10_rounds_80 rfl ?_
          refine xq_iload_n dX10_rounds_92 rfl rfl ?_
          refine xq_if_neN dX10_rounds_93 rfl (by omega) ⟨fun h93 => ?_, fun h93 => ?_⟩
          · skip
            refine xq_iload_n dX10_rounds_98 rfl rfl ?_
            refine xq_iconst dX10_rounds_99 ic1 ?_
            refine xq_icmp_neN dX10_rounds_100 rfl (by omega) (by omega) ⟨fun h100 => ?_, fun h100 => ?_⟩
            · skip
              refine xq_aload_n dX10_rounds_113 rfl rfl ?_
              refine xq_getF clX10 (by decide) rfl fl_RX10_71 dX10_rounds_114 (Fx.s0 hF) (Fx.r0_10 hF) ?_
              refine xq_getIE clX7 (by decide) rfl fl_RX10_167 dX10_rounds_117 (St.s0 (Fx.g72 hF)) q2.sz ?_
              refine xq_iret dX10_rounds_120 rfl ?_
              refine ⟨rouV T u l, H64, ⟨rfl, ho.tr (q3.mo (fun q h => by omega)), t3, by omega, b2⟩, ?_⟩
              unfold rouV
              rw [hrn]
              rw [if_neg h93, if_neg h100]; rfl
            · skip
              refine xq_aload_n dX10_rounds_103 rfl rfl ?_
              refine xq_getF clX10 (by decide) rfl fl_RX10_71 dX10_rounds_104 (Fx.s0 hF) (Fx.r0_10 hF) ?_
              refine xq_callV0P clX7 gd_X7_knowers dX10_rounds_107 ml_RX10_213 im_X7_knowers se_X7_knowers rfl (St.s0 (Fx.g72 hF)) (by exact Nat.le_of_ble_eq_true rfl) (by decide) (c_knowers g72 q2b okq) ?_
              refine xq_goto dX10_rounds_110 rfl ?_
              refine xq_iret dX10_rounds_120 rfl ?_
              refine ⟨rouV T u l, H64, ⟨rfl, ho.tr (q3.mo (fun q h => by omega)), t3, by omega, b2⟩, ?_⟩
              unfold rouV
              rw [hrn]
              rw [if_neg h93, if_pos h100]
          · skip
            refine xq_iload_n dX10_rounds_96 rfl rfl ?_
            refine xq_iret dX10_rounds_97 rfl ?_
            refine ⟨rouV T u l, H64, ⟨rfl, ho.tr (q3.mo (fun q h => by omega)), t3, by omega, b2⟩, ?_⟩
            unfold rouV
            rw [hrn]
            rw [if_pos h93]
  refine vq_intro (by decide) (by exact Nat.le_of_ble_eq_true rfl) rfl ?_
  refine xq_iload_n dX10_rounds_0 rfl rfl ?_
  refine xq_if_ltN dX10_rounds_1 rfl (by omega) ?_
  refine xq_iload_n dX10_rounds_4 rfl rfl ?_
  refine xq_iconst dX10_rounds_5 ic2 ?_
  refine xq_icmp_leN dX10_rounds_6 rfl (by omega) (by omega) ⟨fun h6 => ?_, fun h6 => ?_⟩
  · skip
    refine xq_aload_n dX10_rounds_11 rfl rfl ?_
    refine xq_getF clX10 (by decide) rfl fl_RX10_71 dX10_rounds_12 (Fx.s0 hF) (Fx.r0_10 hF) ?_
    refine xq_aload_n dX10_rounds_15 rfl rfl ?_
    refine xq_getF clX10 (by decide) rfl fl_RX10_67 dX10_rounds_16 (Fx.s0 hF) (Fx.r0_9 hF) ?_
    refine xq_callV1N clX7 gd_X7_copy dX10_rounds_19 ml_RX10_226 im_X7_copy se_X7_copy rfl (St.s0 (Fx.g72 hF)) (by exact Nat.le_of_ble_eq_true rfl) (by decide) (c_copy (Fx.g72 hF) ha (by omega) hu ok) ?_
    intro H19 p19
    have hu19 := p19.1; have o19 := p19.2; have hT19 := hT.off o19 (fun j hj => by omega); have hm19 := hm.off o19 (by omega) (by omega); have s19 := (o19.R (by omega) 6).trans hr.sc; have un19 := hu.off o19 (fun j hj => by omega)
    refine xq_aload_n dX10_rounds_22 rfl rfl ?_
    refine xq_getF clX10 (by decide) rfl fl_RX10_60 dX10_rounds_23 (Fx.s0 hF) (Fx.r0_8 hF) ?_
    refine xq_aload_n dX10_rounds_26 rfl rfl ?_
    refine xq_getR clX10 (by decide) rfl fl_RX10_48 dX10_rounds_27 (Fx.s0 hF) s19 ?_
    refine xq_iconst dX10_rounds_30 ic0 ?_
    refine xq_iconst dX10_rounds_31 ic0 ?_
    refine xq_iconst dX10_rounds_32 icm1 ?_
    rw [zm1]
    refine xq_callV4N clX0 gd_X0_set dX10_rounds_33 ml_RX10_230 im_X0_set se_X0_set rfl (Fx.s66 hF) (by exact Nat.le_of_ble_eq_true rfl) (by decide) (c_setF (ow := 0) hF) ?_
    intro H33 p33
    have hu33 := hu19.off p33.2 (fun j hj => by omega); have hT33 := hT19.off p33.2 (fun j hj => by omega); have hm33 := hm19.off p33.2 (by omega) (by omega); have o33 : Off (fun q => (72 ≤ q ∧ q < 77) ∨ (16 ≤ q ∧ q ≤ 23) ∨ q = 66) H H33 := (o19.mo (fun q h => by omega)).tr (p33.2.mo (fun q h => by omega)); have un33 := hu.off o33 (fun j hj => by omega)
    refine xq_iconst dX10_rounds_36 ic0 ?_
    refine xq_istore_n dX10_rounds_37 rfl rfl ?_
    refine xq_iconst dX10_rounds_38 ic0 ?_
    refine xq_istore_n dX10_rounds_39 rfl rfl ?_
    exact xq_fgt (lp 730 0 H33 (by omega) (by omega) hu33 o33 p33.1 ⟨z, by omega, hm33⟩ (fun j hj => absurd hj (by omega))) (by exact And.intro rfl (And.intro rfl (And.intro rfl (And.intro rfl (trivial)))))
  · skip
    exact absurd h6 (by omega)
noncomputable def chU (T : uTx) (u : uSt) (n x : Nat) : uSt := pas T true (-1) (-1) (uSetLa u x) n
noncomputable def chS (T : uTx) (u : uSt) (n p seed : Nat) : Nat → Nat × Nat
  | 0 => (seed, 0)
  | k + 1 => (uLa (chU T u n (chS T u n p seed k).1), (chS T u n p seed k).2 + (uSd (chU T u n (chS T u n p seed k).1) >>> p &&& 1))
theorem c_chance0 (hr : RdP S H t T u z) (hno : ¬ (¬ w < 0 ∧ ¬ w2 < nI 1 ∧ ¬ nI 99 < w2 ∧ hasB w3 (tNp T) = true)) : Pv mX10_chance 7 [.ref 0, .int w, .int w2, .int w3] S H (vZ (-1)) := by
  have hF := hr.fx
  refine vq_ev (vq_intro (by decide) (by exact Nat.le_of_ble_eq_true rfl) rfl ?_)
  refine xq_iload_n dX10_chance_0 rfl rfl ?_
  refine xq_if_lt dX10_chance_1 rfl ⟨fun h1 => ?_, fun h1 => ?_⟩
  · skip
    refine xq_iconst dX10_chance_23 icm1 ?_
    refine xq_iret dX10_chance_24 rfl ?_
    show _ = _; rw [zm1]
  · skip
    refine xq_iload_n dX10_chance_4 rfl rfl ?_
    refine xq_iconst dX10_chance_5 ic1 ?_
    refine xq_icmp_lt dX10_chance_6 rfl ⟨fun h6 => ?_, fun h6 => ?_⟩
    · skip
      refine xq_iconst dX10_chance_23 icm1 ?_
      refine xq_iret dX10_chance_24 rfl ?_
      show _ = _; rw [zm1]
    · skip
      refine xq_iload_n dX10_chance_9 rfl rfl ?_
      refine xq_bipush dX10_chance_10 bp99 ?_
      refine xq_icmp_gt dX10_chance_12 rfl ⟨fun h12 => ?_, fun h12 => ?_⟩
      · skip
        refine xq_iconst dX10_chance_23 icm1 ?_
        refine xq_iret dX10_chance_24 rfl ?_
        show _ = _; rw [zm1]
      · skip
        refine xq_aload_n dX10_chance_15 rfl rfl ?_
        refine xq_iload_n dX10_chance_16 rfl rfl ?_
        refine xq_callV1P clX10 gd_X10_isPerson dX10_chance_17 ml_RX10_134 im_X10_isPerson se_X10_isPerson rfl (Fx.s0 hF) (by exact Nat.le_of_ble_eq_true rfl) (by decide) (c_isPerson hr) ?_
        refine xq_if_neB dX10_chance_20 rfl ⟨fun h20 => ?_, fun h20 => ?_⟩
        · skip
          exact absurd ⟨h1, h6, h12, h20⟩ hno
        · skip
          refine xq_iconst dX10_chance_23 icm1 ?_
          refine xq_iret dX10_chance_24 rfl ?_
          show _ = _; rw [zm1]
theorem c_chance1 (hr : RdP S H t T u z) (hq : q < 2147483648) (h1n : 1 ≤ n) (hn : n ≤ 99) (hp : p < tNp T) : Hv mX10_chance 7 [.ref 0, vN q, vN n, vN p] S H vN (fun x H' => x = (chS T u n p q 10).2 ∧ Off (fun q => (72 ≤ q ∧ q < 77) ∨ (16 ≤ q ∧ q ≤ 23) ∨ q = 66) H H' ∧ ∃ t2, t2 ≤ z + 56400 ∧ MiP H' t2) := by
  have hF := hr.fx; have hT := hr.tx; have tk := hr.tk; have hu := hr.st; have ok := hr.ok; have hm := hr.mi; have ht := hr.gt; have ht24 := hr.t24; have ht45 := hr.t45; have hz := ok.n; have hnp := ok.np; have hrl := ok.rl; have hnpe := hr.np; have h67 : 67 ≤ 67 := Nat.le_refl _; have ha := Fx.g67 hF; have hzz := hr.zb; have hhr := ok.hr; have hhd := hr.hd; have hli := hr.li; have g72 := Fx.g72 hF; have h72 : 67 ≤ 72 := (by decide); have h98 := hr.h9
  have lp : ∀ (fz : Nat) (k : Nat) (st : Nat × Nat) (H1 : xH), 10 - k < fz → k ≤ 10 → (st.1 < 2147483648 ∧ st = chS T u n p q k) → Off (fun q => (72 ≤ q ∧ q < 77) ∨ (16 ≤ q ∧ q ≤ 23) ∨ q = 66) H H1 → CoP H1 t true (-1) (-1) → (∃ t2, t2 ≤ z + 5640 * k ∧ MiP H1 t2) → Xq mX10_chance 7 0 0 49 [some (.ref 0), some (vN q), some (vN n), some (vN p), some (.long (lN st.1)), none, some (vN st.2), some (vN k)] [] S H1 (fun R => ∃ x H', (fun x H' => x = (chS T u n p q 10).2 ∧ Off (fun q => (72 ≤ q ∧ q < 77) ∨ (16 ≤ q ∧ q ≤ 23) ∨ q = 66) H H' ∧ ∃ t2, t2 ≤ z + 56400 ∧ MiP H' t2) x H' ∧ R = (some (vN x), S, H')) := by
    intro fz
    induction fz with
    | zero => intro k  st  H1  hfz; exact absurd hfz (by omega)
    | succ fz ih =>
      intro k  st  H1  hfz hk hs ho hc1 hm1
      obtain ⟨t2, a1, a2⟩ := id hm1
      have hu1 := hu.off ho (fun j hj => by omega)
      refine xq_iload dX10_chance_49 rfl ?_
      refine xq_bipush dX10_chance_51 bp10 ?_
      refine xq_icmp_geN dX10_chance_53 rfl (by omega) (by omega) ⟨fun h53 => ?_, fun h53 => ?_⟩
      · skip
        refine xq_iload dX10_chance_119 rfl ?_
        refine xq_iret dX10_chance_121 rfl ?_
        exact ⟨_, H1, ⟨by rw [hs.2, show k = 10 by omega], ho, t2, by omega, a2⟩, rfl⟩
      · skip
        refine xq_aload_n dX10_chance_56 rfl rfl ?_
        refine xq_getF clX10 (by decide) rfl fl_RX10_71 dX10_chance_57 (Fx.s0 hF) (Fx.r0_10 hF) ?_
        refine xq_aload_n dX10_chance_60 rfl rfl ?_
        refine xq_getF clX10 (by decide) rfl fl_RX10_67 dX10_chance_61 (Fx.s0 hF) (Fx.r0_9 hF) ?_
        refine xq_callV1N clX7 gd_X7_copy dX10_chance_64 ml_RX10_226 im_X7_copy se_X7_copy rfl (St.s0 (Fx.g72 hF)) (by exact Nat.le_of_ble_eq_true rfl) (by decide) (c_copy g72 ha (by omega) hu1 ok) ?_
        intro H64 p64
        have oL : Off (fun q => 72 ≤ q ∧ q < 77) H1 (sL H64 72 11 (lN st.1)) := Off.pL (A := fun q => 72 ≤ q ∧ q < 77) p64.2 (by omega) _ _
        refine xq_aload_n dX10_chance_67 rfl rfl ?_
        refine xq_getF clX10 (by decide) rfl fl_RX10_71 dX10_chance_68 (Fx.s0 hF) (Fx.r0_10 hF) ?_
        refine xq_lload dX10_chance_71 rfl ?_
        refine xq_putL clX7 (by decide) rfl fl_RX10_302 (Or.inl rfl) dX10_chance_73 ⟨rfl, rfl⟩ (St.s0 (Fx.g72 hF)) ?_
        refine xq_aload_n dX10_chance_76 rfl rfl ?_
        refine xq_getF clX10 (by decide) rfl fl_RX10_60 dX10_chance_77 (Fx.s0 hF) (Fx.r0_8 hF) ?_
        refine xq_aload_n dX10_chance_80 rfl rfl ?_
        refine xq_getF clX10 (by decide) rfl fl_RX10_71 dX10_chance_81 (Fx.s0 hF) (Fx.r0_10 hF) ?_
        refine xq_iload_n dX10_chance_84 rfl rfl ?_
        refine xq_callV2N clX0 gd_X0_pass dX10_chance_85 ml_RX10_263 im_X0_pass se_X0_pass rfl (Fx.s66 hF) (by exact Nat.le_of_ble_eq_true rfl) (by decide) (c_pass hF g72 h72 (p64.1.setLa st.1) (ok.setLa hs.1) ht ht24 ht45 ((hT.off ho (fun j hj => by omega)).off oL (fun j hj => by omega)) tk (hc1.off oL (by omega)) (by omega) (by omega) (a2.off oL (by omega) (by omega)) (by omega) (by omega) (by show uHd u + _ ≤ _; omega) (by show uLi u + _ ≤ _; omega)) ?_
        intro H85 p85
        obtain ⟨q1, q2, t3, b1, b2⟩ := p85
        have okp := (pas_ok (T := T) (dr := true) (ow := -1) (mu := -1) (n := n) (ok.setLa hs.1) tk (by omega) (by show uHd u + _ ≤ _; omega) (by show uLi u + _ ≤ _; omega) (by show uHr u + _ ≤ _; omega)).1.1
        have hla := okp.la; have hsd := okp.sd
        have hbk := shr_le (uSd (pas T true (-1) (-1) (uSetLa u st.1) n)) p; have hbk2 : uSd (pas T true (-1) (-1) (uSetLa u st.1) n) >>> p &&& 1 ≤ 1 := Nat.and_le_right
        have hsl := sT_le (h := uHr (uSetLa u st.1)) tk n
        refine xq_aload_n dX10_chance_88 rfl rfl ?_
        refine xq_getF clX10 (by decide) rfl fl_RX10_71 dX10_chance_89 (Fx.s0 hF) (Fx.r0_10 hF) ?_
        refine xq_getLE clX7 (by decide) rfl fl_RX10_302 dX10_chance_92 (St.s0 (Fx.g72 hF)) q1.la ?_
        refine xq_lstoreX dX10_chance_95 rfl rfl ?_
        refine xq_iload dX10_chance_97 rfl ?_
        refine xq_aload_n dX10_chance_99 rfl rfl ?_
        refine xq_getF clX10 (by decide) rfl fl_RX10_71 dX10_chance_100 (Fx.s0 hF) (Fx.r0_10 hF) ?_
        refine xq_getIE clX7 (by decide) rfl fl_RX10_147 dX10_chance_103 (St.s0 (Fx.g72 hF)) q1.f7 ?_
        refine xq_iload_n dX10_chance_106 rfl rfl ?_
        refine xq_ishrN dX10_chance_107 (by omega) (by omega) ?_
        refine xq_iconst dX10_chance_108 ic1 ?_
        refine xq_iandN dX10_chance_109 ?_
        refine xq_iaddN dX10_chance_110 ?_
        refine xq_istore dX10_chance_111 rfl ?_
        refine xq_iincN dX10_chance_113 ic1 rfl rfl ?_
        refine xq_goto dX10_chance_116 rfl ?_
        exact xq_fgt (ih (k + 1) (uLa (chU T u n st.1), st.2 + (uSd (chU T u n st.1) >>> p &&& 1)) H85 (by omega) (by omega) ⟨hla, by rw [hs.2]; rfl⟩ ((ho.tr (oL.mo (fun q h => by omega))).tr (q2.mo (fun q h => by omega))) ((hc1.off oL (by omega)).off q2 (by omega)) ⟨t3, by omega, b2⟩) (by exact And.intro rfl (And.intro rfl (And.intro rfl (And.intro rfl (And.intro rfl (And.intro rfl (And.intro rfl (trivial))))))))
  refine vq_intro (by decide) (by exact Nat.le_of_ble_eq_true rfl) rfl ?_
  refine xq_iload_n dX10_chance_0 rfl rfl ?_
  refine xq_if_ltN dX10_chance_1 rfl (by omega) ?_
  refine xq_iload_n dX10_chance_4 rfl rfl ?_
  refine xq_iconst dX10_chance_5 ic1 ?_
  refine xq_icmp_ltN dX10_chance_6 rfl (by omega) (by omega) ⟨fun h6 => ?_, fun h6 => ?_⟩
  · skip
    exact absurd h6 (by omega)
  · skip
    refine xq_iload_n dX10_chance_9 rfl rfl ?_
    refine xq_bipush dX10_chance_10 bp99 ?_
    refine xq_icmp_gtN dX10_chance_12 rfl (by omega) (by omega) ⟨fun h12 => ?_, fun h12 => ?_⟩
    · skip
      exact absurd h12 (by omega)
    · skip
      refine xq_aload_n dX10_chance_15 rfl rfl ?_
      refine xq_iload_n dX10_chance_16 rfl rfl ?_
      refine xq_callV1P clX10 gd_X10_isPerson dX10_chance_17 ml_RX10_134 im_X10_isPerson se_X10_isPerson rfl (Fx.s0 hF) (by exact Nat.le_of_ble_eq_true rfl) (by decide) (c_isPerson1 hr hp) ?_
      refine xq_if_neN dX10_chance_20 rfl (by omega) ⟨fun h20 => ?_, fun h20 => ?_⟩
      · skip
        refine xq_aload_n dX10_chance_25 rfl rfl ?_
        refine xq_getF clX10 (by decide) rfl fl_RX10_60 dX10_chance_26 (Fx.s0 hF) (Fx.r0_8 hF) ?_
        refine xq_aload_n dX10_chance_29 rfl rfl ?_
        refine xq_getR clX10 (by decide) rfl fl_RX10_48 dX10_chance_30 (Fx.s0 hF) hr.sc ?_
        refine xq_iconst dX10_chance_33 ic1 ?_
        refine xq_iconst dX10_chance_34 icm1 ?_
        refine xq_iconst dX10_chance_35 icm1 ?_
        rw [zm1]
        refine xq_callV4N clX0 gd_X0_set dX10_chance_36 ml_RX10_230 im_X0_set se_X0_set rfl (Fx.s66 hF) (by exact Nat.le_of_ble_eq_true rfl) (by decide) (c_setT hF) ?_
        intro H36 p36
        have hu36 := hu.off p36.2 (fun j hj => by omega); have hm36 := hm.off p36.2 (by omega) (by omega)
        refine xq_iload_n dX10_chance_39 rfl rfl ?_
        refine xq_i2l dX10_chance_40 ?_
        rw [nI_toL hq]
        refine xq_lstoreX dX10_chance_41 rfl rfl ?_
        refine xq_iconst dX10_chance_43 ic0 ?_
        refine xq_istore dX10_chance_44 rfl ?_
        refine xq_iconst dX10_chance_46 ic0 ?_
        refine xq_istore dX10_chance_47 rfl ?_
        exact xq_fgt (lp 11 0 (q, 0) H36 (by omega) (by omega) ⟨hq, rfl⟩ (p36.2.mo (fun q h => by omega)) p36.1 ⟨z, by omega, hm36⟩) (by exact And.intro rfl (And.intro rfl (And.intro rfl (And.intro rfl (And.intro rfl (And.intro rfl (And.intro rfl (trivial))))))))
      · skip
        first | exact absurd h20 (by decide) | exact absurd rfl h20
theorem c_tell0 (hr : RdP S H t T u z) (hno : hasB w (tNf T) = false) : Pv mX10_tell 5 [.ref 0, .int w] S H (vZ (-1)) := by
  have hF := hr.fx
  refine vq_ev (vq_intro (by decide) (by exact Nat.le_of_ble_eq_true rfl) rfl ?_)
  refine xq_aload_n dX10_tell_0 rfl rfl ?_
  refine xq_iload_n dX10_tell_1 rfl rfl ?_
  refine xq_callV1P clX10 gd_X10_isFact dX10_tell_2 ml_RX10_179 im_X10_isFact se_X10_isFact rfl (Fx.s0 hF) (by exact Nat.le_of_ble_eq_true rfl) (by decide) (c_isFact hr) ?_
  refine xq_if_neB dX10_tell_5 rfl ⟨fun h5 => ?_, fun h5 => ?_⟩
  · skip
    rw [hno] at h5; cases h5
  · skip
    refine xq_iconst dX10_tell_8 icm1 ?_
    refine xq_iret dX10_tell_9 rfl ?_
    show _ = _; rw [zm1]
/-- the calls that remember: new places, what is remembered, the room's other numbers -/
def RmQ (S : xS) (H : xH) (pn ps : Nat) (L : Nat → uSt) (u0 u1 : uSt) (z : Nat) (S1 : xS) (H1 : xH) : Prop := SEx S S1 ∧ (∃ A1, PaP S1 H1 (wrp pn + 1) (min (ps + 1) 20) A1 ∧ UnP H1 (wrp pn + 1) (min (ps + 1) 20) A1 (fun j => if j = 0 then u0 else L (j - 1))) ∧ StP H1 67 u1 ∧ RoF H H1 (fun k => k ≠ 14 ∧ k ≠ 15) ∧ Off (fun q => q = 0 ∨ (16 ≤ q ∧ q ≤ 23) ∨ (66 ≤ q ∧ q < 77) ∨ q = 82 ∨ (119 ≤ q ∧ q < fZ S + 5)) H H1 ∧ ∃ t2, t2 ≤ z + 600 ∧ MiP H1 t2
theorem PaP.off {AA : Nat → Prop} (h : PaP S H pn ps A) (ho : Off AA H H1) (h0 : ¬ AA 0) (h82 : ¬ AA 82) : PaP S H1 pn ps A := ⟨(ho.I h0 15).trans h.1, (ho.I h0 14).trans h.2.1, h.2.2.1, h.2.2.2.1, fun i hi => (ho.R h82 i).trans (h.2.2.2.2.1 i hi), h.2.2.2.2.2.1, h.2.2.2.2.2.2⟩
theorem UnP.off {AA : Nat → Prop} (h : UnP H pn ps A L) (hp : PaP S H pn ps A) (hps : ps ≤ 20) (ho : Off AA H H1) (h0 : ∀ q, 119 ≤ q → ¬ AA q) : UnP H1 pn ps A L := fun j hj => by
  obtain ⟨b, b1, b2, b3⟩ := h j hj
  have := (hp.2.2.2.2.2.1 _ (Nat.mod_lt _ (by decide)) b b1).2.1
  exact ⟨b, b1, b2.off ho (fun i hi => h0 _ (by omega)), b3⟩
theorem c_tell2 (hr : RdP S H t T u z) (hp : PaP S H pn ps A) (hun : UnP H pn ps A L) (hf : f < tNf T) (hkv : kv T u (tRo T f) (uRl u) = true) : Vq mX10_tell 5 5 764 [.ref 0, vN f] S H (fun R => ∃ x S1 H1, RmQ S H pn ps L u (heaU T u f) z S1 H1 ∧ R = (some (vN (uZ (heaU T u f))), S1, H1) ∧ x = 0) := by
  have hF := hr.fx; have hT := hr.tx; have tk := hr.tk; have hu := hr.st; have ok := hr.ok; have hm := hr.mi; have ht := hr.gt; have ht24 := hr.t24; have ht45 := hr.t45; have hz := ok.n; have hnp := ok.np; have hrl := ok.rl; have hnpe := hr.np; have h67 : 67 ≤ 67 := Nat.le_refl _; have ha := Fx.g67 hF; have hzz := hr.zb; have hhr := ok.hr; have hhd := hr.hd; have hli := hr.li; have g72 := Fx.g72 hF; have h72 : 67 ≤ 72 := (by decide); have h98 := hr.h9
  refine vq_intro (by decide) (by exact Nat.le_of_ble_eq_true rfl) rfl ?_
  refine xq_aload_n dX10_tell_0 rfl rfl ?_
  refine xq_iload_n dX10_tell_1 rfl rfl ?_
  refine xq_callV1P clX10 gd_X10_isFact dX10_tell_2 ml_RX10_179 im_X10_isFact se_X10_isFact rfl (Fx.s0 hF) (by exact Nat.le_of_ble_eq_true rfl) (by decide) (c_isFact1 hr hf) ?_
  refine xq_if_neN dX10_tell_5 rfl (by omega) ⟨fun h5 => ?_, fun h5 => ?_⟩
  · skip
    refine xq_aload_n dX10_tell_10 rfl rfl ?_
    refine xq_getF clX10 (by decide) rfl fl_RX10_71 dX10_tell_11 (Fx.s0 hF) (Fx.r0_10 hF) ?_
    refine xq_aload_n dX10_tell_14 rfl rfl ?_
    refine xq_getF clX10 (by decide) rfl fl_RX10_67 dX10_tell_15 (Fx.s0 hF) (Fx.r0_9 hF) ?_
    refine xq_callV1N clX7 gd_X7_copy dX10_tell_18 ml_RX10_226 im_X7_copy se_X7_copy rfl (St.s0 (Fx.g72 hF)) (by exact Nat.le_of_ble_eq_true rfl) (by decide) (c_copy (Fx.g72 hF) ha (by omega) hu ok) ?_
    intro H18 p18
    have hu18 := p18.1; have o18 := p18.2; have hT18 := hT.off o18 (fun j hj => by omega); have hm18 := hm.off o18 (by omega) (by omega); have s18 := (o18.R (by omega) 6).trans hr.sc; have un18 := hu.off o18 (fun j hj => by omega)
    refine xq_aload_n dX10_tell_21 rfl rfl ?_
    refine xq_getF clX10 (by decide) rfl fl_RX10_60 dX10_tell_22 (Fx.s0 hF) (Fx.r0_8 hF) ?_
    refine xq_aload_n dX10_tell_25 rfl rfl ?_
    refine xq_getR clX10 (by decide) rfl fl_RX10_48 dX10_tell_26 (Fx.s0 hF) s18 ?_
    refine xq_iconst dX10_tell_29 ic0 ?_
    refine xq_iconst dX10_tell_30 icm1 ?_
    refine xq_iconst dX10_tell_31 icm1 ?_
    rw [zm1]
    refine xq_callV4N clX0 gd_X0_set dX10_tell_32 ml_RX10_230 im_X0_set se_X0_set rfl (Fx.s66 hF) (by exact Nat.le_of_ble_eq_true rfl) (by decide) (c_setF hF) ?_
    intro H32 p32
    have hu32 := hu18.off p32.2 (fun j hj => by omega); have hT32 := hT18.off p32.2 (fun j hj => by omega); have hm32 := hm18.off p32.2 (by omega) (by omega); have o32 : Off (fun q => (72 ≤ q ∧ q < 77) ∨ (16 ≤ q ∧ q ≤ 23) ∨ q = 66) H H32 := (o18.mo (fun q h => by omega)).tr (p32.2.mo (fun q h => by omega)); have un32 := hu.off o32 (fun j hj => by omega)
    refine xq_aload_n dX10_tell_35 rfl rfl ?_
    refine xq_getF clX10 (by decide) rfl fl_RX10_60 dX10_tell_36 (Fx.s0 hF) (Fx.r0_8 hF) ?_
    refine xq_aload_n dX10_tell_39 rfl rfl ?_
    refine xq_getF clX10 (by decide) rfl fl_RX10_67 dX10_tell_40 (Fx.s0 hF) (Fx.r0_9 hF) ?_
    refine xq_iload_n dX10_tell_43 rfl rfl ?_
    refine xq_callV2H clX0 gd_X0_hear dX10_tell_44 ml_RX10_234 im_X0_hear se_X0_hear rfl (Fx.s66 hF) (by exact Nat.le_of_ble_eq_true rfl) (by decide) (c_hear hF ha h67 un32 ok ht ht24 ht45 hT32 tk p32.1.1 hm32 (by omega) hf) ?_
    intro x44 H44 p44
    obtain ⟨rfl, q2, q3, t3, b1, b2⟩ := p44
    have o44 : Off (fun q => (67 ≤ q ∧ q < 77) ∨ (16 ≤ q ∧ q ≤ 23) ∨ q = 66) H H44 := (o32.mo (fun q h => by omega)).tr (q3.mo (fun q h => by omega))
    have hu44 := hu32.off q3 (fun j hj => by omega)
    have hp44 := hp.off o44 (by omega) (by omega); have hun44 := hun.off hp hp.2.2.2.1 o44 (fun q h => by omega)
    unfold hea at q2; rw [if_pos hkv] at q2
    refine xq_if_neB dX10_tell_47 rfl ⟨fun h47 => ?_, fun h47 => ?_⟩
    · skip
      refine xq_aload_n dX10_tell_53 rfl rfl ?_
      refine xq_aload_n dX10_tell_54 rfl rfl ?_
      refine xq_getF clX10 (by decide) rfl fl_RX10_71 dX10_tell_55 (Fx.s0 hF) (Fx.r0_10 hF) ?_
      refine xq_callV1G (b1 := 0) (c1 := 5) (b2 := 0) (c2 := 764) clX10 gd_X10_remember dX10_tell_58 ml_RX10_238 im_X10_remember se_X10_remember rfl (Fx.s0 hF) (by exact Nat.le_of_ble_eq_true rfl) (by decide) (c_remember hF hp44 (Fx.g72 hF) (by omega) (by omega) hu44 ok) ?_
      intro r S2 H2 hq
      obtain ⟨S3, H3, A3, e0, hS, hP, hU, hRo, hO⟩ := hun44.rem hp44 ok hq
      cases e0
      have hF := hS.fx hF
      simp only [Option.toList, List.nil_append]
      refine xq_aload_n dX10_tell_61 rfl rfl ?_
      refine xq_getF clX10 (by decide) rfl fl_RX10_67 dX10_tell_62 (Fx.s0 hF) (Fx.r0_9 hF) ?_
      refine xq_getIE clX7 (by decide) rfl fl_RX10_167 dX10_tell_65 (St.s0 (Fx.g67 hF)) ((hO.I (by omega) 4).trans q2.sz) ?_
      refine xq_iret dX10_tell_68 rfl ?_
      refine ⟨0, S2, H2, ⟨hS, ⟨A3, hP, hU⟩, q2.off hO (fun j hj => by omega), ⟨fun k hk => (hRo.1 k hk).trans (o44.I (by omega) k), fun k => (hRo.2 k).trans (o44.R (by omega) k)⟩, (o44.mo (fun q h => by omega)).tr (hO.mo (fun q h => by omega)), t3, by omega, b2.off hO (by omega) (by omega)⟩, rfl, rfl⟩
    · skip
      rw [hkv] at h47; cases h47
  · skip
    first | exact absurd h5 (by decide) | exact absurd rfl h5
theorem c_tell1 (hr : RdP S H t T u z) (hf : f < tNf T) (hkv : kv T u (tRo T f) (uRl u) = false) : Hv mX10_tell 5 [.ref 0, vN f] S H vZ (fun x H' => x = -2 ∧ StP H' 67 u ∧ Off (fun q => (67 ≤ q ∧ q < 77) ∨ (16 ≤ q ∧ q ≤ 23) ∨ q = 66) H H' ∧ ∃ t2, t2 ≤ z + 600 ∧ MiP H' t2) := by
  have hF := hr.fx; have hT := hr.tx; have tk := hr.tk; have hu := hr.st; have ok := hr.ok; have hm := hr.mi; have ht := hr.gt; have ht24 := hr.t24; have ht45 := hr.t45; have hz := ok.n; have hnp := ok.np; have hrl := ok.rl; have hnpe := hr.np; have h67 : 67 ≤ 67 := Nat.le_refl _; have ha := Fx.g67 hF; have hzz := hr.zb; have hhr := ok.hr; have hhd := hr.hd; have hli := hr.li; have g72 := Fx.g72 hF; have h72 : 67 ≤ 72 := (by decide); have h98 := hr.h9
  refine vq_intro (by decide) (by exact Nat.le_of_ble_eq_true rfl) rfl ?_
  refine xq_aload_n dX10_tell_0 rfl rfl ?_
  refine xq_iload_n dX10_tell_1 rfl rfl ?_
  refine xq_callV1P clX10 gd_X10_isFact dX10_tell_2 ml_RX10_179 im_X10_isFact se_X10_isFact rfl (Fx.s0 hF) (by exact Nat.le_of_ble_eq_true rfl) (by decide) (c_isFact1 hr hf) ?_
  refine xq_if_neN dX10_tell_5 rfl (by omega) ⟨fun h5 => ?_, fun h5 => ?_⟩
  · skip
    refine xq_aload_n dX10_tell_10 rfl rfl ?_
    refine xq_getF clX10 (by decide) rfl fl_RX10_71 dX10_tell_11 (Fx.s0 hF) (Fx.r0_10 hF) ?_
    refine xq_aload_n dX10_tell_14 rfl rfl ?_
    refine xq_getF clX10 (by decide) rfl fl_RX10_67 dX10_tell_15 (Fx.s0 hF) (Fx.r0_9 hF) ?_
    refine xq_callV1N clX7 gd_X7_copy dX10_tell_18 ml_RX10_226 im_X7_copy se_X7_copy rfl (St.s0 (Fx.g72 hF)) (by exact Nat.le_of_ble_eq_true rfl) (by decide) (c_copy (Fx.g72 hF) ha (by omega) hu ok) ?_
    intro H18 p18
    have hu18 := p18.1; have o18 := p18.2; have hT18 := hT.off o18 (fun j hj => by omega); have hm18 := hm.off o18 (by omega) (by omega); have s18 := (o18.R (by omega) 6).trans hr.sc; have un18 := hu.off o18 (fun j hj => by omega)
    refine xq_aload_n dX10_tell_21 rfl rfl ?_
    refine xq_getF clX10 (by decide) rfl fl_RX10_60 dX10_tell_22 (Fx.s0 hF) (Fx.r0_8 hF) ?_
    refine xq_aload_n dX10_tell_25 rfl rfl ?_
    refine xq_getR clX10 (by decide) rfl fl_RX10_48 dX10_tell_26 (Fx.s0 hF) s18 ?_
    refine xq_iconst dX10_tell_29 ic0 ?_
    refine xq_iconst dX10_tell_30 icm1 ?_
    refine xq_iconst dX10_tell_31 icm1 ?_
    rw [zm1]
    refine xq_callV4N clX0 gd_X0_set dX10_tell_32 ml_RX10_230 im_X0_set se_X0_set rfl (Fx.s66 hF) (by exact Nat.le_of_ble_eq_true rfl) (by decide) (c_setF hF) ?_
    intro H32 p32
    have hu32 := hu18.off p32.2 (fun j hj => by omega); have hT32 := hT18.off p32.2 (fun j hj => by omega); have hm32 := hm18.off p32.2 (by omega) (by omega); have o32 : Off (fun q => (72 ≤ q ∧ q < 77) ∨ (16 ≤ q ∧ q ≤ 23) ∨ q = 66) H H32 := (o18.mo (fun q h => by omega)).tr (p32.2.mo (fun q h => by omega)); have un32 := hu.off o32 (fun j hj => by omega)
    refine xq_aload_n dX10_tell_35 rfl rfl ?_
    refine xq_getF clX10 (by decide) rfl fl_RX10_60 dX10_tell_36 (Fx.s0 hF) (Fx.r0_8 hF) ?_
    refine xq_aload_n dX10_tell_39 rfl rfl ?_
    refine xq_getF clX10 (by decide) rfl fl_RX10_67 dX10_tell_40 (Fx.s0 hF) (Fx.r0_9 hF) ?_
    refine xq_iload_n dX10_tell_43 rfl rfl ?_
    refine xq_callV2H clX0 gd_X0_hear dX10_tell_44 ml_RX10_234 im_X0_hear se_X0_hear rfl (Fx.s66 hF) (by exact Nat.le_of_ble_eq_true rfl) (by decide) (c_hear hF ha h67 un32 ok ht ht24 ht45 hT32 tk p32.1.1 hm32 (by omega) hf) ?_
    intro x44 H44 p44
    obtain ⟨rfl, q2, q3, t3, b1, b2⟩ := p44
    have o44 : Off (fun q => (67 ≤ q ∧ q < 77) ∨ (16 ≤ q ∧ q ≤ 23) ∨ q = 66) H H44 := (o32.mo (fun q h => by omega)).tr (q3.mo (fun q h => by omega))
    unfold hea at q2; rw [if_neg (by rw [hkv]; decide)] at q2
    refine xq_if_neB dX10_tell_47 rfl ⟨fun h47 => ?_, fun h47 => ?_⟩
    · skip
      rw [hkv] at h47; cases h47
    · skip
      refine xq_bipush dX10_tell_50 bpm2 ?_
      refine xq_iret dX10_tell_52 rfl ?_
      exact ⟨-2, H44, ⟨rfl, q2, o44, t3, by omega, b2⟩, by rw [zm2]⟩
  · skip
    first | exact absurd h5 (by decide) | exact absurd rfl h5
theorem c_ask (hr : RdP S H t T u z) (hp : PaP S H pn ps A) (hun : UnP H pn ps A L) : Vq mX10_ask 5 5 764 [.ref 0] S H (fun R => ∃ x S1 H1, RmQ S H pn ps L u (askU T false (-1) (-1) u) z S1 H1 ∧ R = (some (vN (askX T false (-1) (-1) u)), S1, H1) ∧ x = 0) := by
  have hF := hr.fx; have hT := hr.tx; have tk := hr.tk; have hu := hr.st; have ok := hr.ok; have hm := hr.mi; have ht := hr.gt; have ht24 := hr.t24; have ht45 := hr.t45; have hz := ok.n; have hnp := ok.np; have hrl := ok.rl; have hnpe := hr.np; have h67 : 67 ≤ 67 := Nat.le_refl _; have ha := Fx.g67 hF; have hzz := hr.zb; have hhr := ok.hr; have hhd := hr.hd; have hli := hr.li; have g72 := Fx.g72 hF; have h72 : 67 ≤ 72 := (by decide); have h98 := hr.h9
  refine vq_intro (by decide) (by exact Nat.le_of_ble_eq_true rfl) rfl ?_
  refine xq_aload_n dX10_ask_0 rfl rfl ?_
  refine xq_aload_n dX10_ask_1 rfl rfl ?_
  refine xq_getF clX10 (by decide) rfl fl_RX10_67 dX10_ask_2 (Fx.s0 hF) (Fx.r0_9 hF) ?_
  refine xq_callV1G (b1 := 0) (c1 := 5) (b2 := 0) (c2 := 764) clX10 gd_X10_remember dX10_ask_5 ml_RX10_238 im_X10_remember se_X10_remember rfl (Fx.s0 hF) (by exact Nat.le_of_ble_eq_true rfl) (by decide) (c_remember hF hp ha (by omega) (by omega) hu ok) ?_
  intro r S2 H2 hq
  obtain ⟨S3, H3, A3, e0, hS, hP, hU, hRo, hO⟩ := hun.rem hp ok hq
  cases e0
  have hF := hS.fx hF
  have ha := Fx.g67 hF; have ht : gTx S2 t := by
    rcases hr.tt with e | e
    · rw [e]; exact Fx.g24 hF
    · rw [e]; exact Fx.g45 hF
  have hu := hu.off hO (fun j hj => by omega); have hT := hT.off hO (fun j hj => by omega); have hm := hm.off hO (by omega) (by omega)
  have sc2 := (hRo.2 6).trans hr.sc
  simp only [Option.toList, List.nil_append]
  refine xq_aload_n dX10_ask_8 rfl rfl ?_
  refine xq_getF clX10 (by decide) rfl fl_RX10_60 dX10_ask_9 (Fx.s0 hF) (Fx.r0_8 hF) ?_
  refine xq_aload_n dX10_ask_12 rfl rfl ?_
  refine xq_getR clX10 (by decide) rfl fl_RX10_48 dX10_ask_13 (Fx.s0 hF) sc2 ?_
  refine xq_iconst dX10_ask_16 ic0 ?_
  refine xq_iconst dX10_ask_17 icm1 ?_
  refine xq_iconst dX10_ask_18 icm1 ?_
  rw [zm1]
  refine xq_callV4N clX0 gd_X0_set dX10_ask_19 ml_RX10_230 im_X0_set se_X0_set rfl (Fx.s66 hF) (by exact Nat.le_of_ble_eq_true rfl) (by decide) (c_setF hF) ?_
  intro H19 p19
  have hu19 := hu.off p19.2 (fun j hj => by omega); have hT19 := hT.off p19.2 (fun j hj => by omega); have hm19 := hm.off p19.2 (by omega) (by omega)
  refine xq_aload_n dX10_ask_22 rfl rfl ?_
  refine xq_getF clX10 (by decide) rfl fl_RX10_60 dX10_ask_23 (Fx.s0 hF) (Fx.r0_8 hF) ?_
  refine xq_aload_n dX10_ask_26 rfl rfl ?_
  refine xq_getF clX10 (by decide) rfl fl_RX10_67 dX10_ask_27 (Fx.s0 hF) (Fx.r0_9 hF) ?_
  refine xq_callV1H clX0 gd_X0_askAll dX10_ask_30 ml_RX10_241 im_X0_askAll se_X0_askAll rfl (Fx.s66 hF) (by exact Nat.le_of_ble_eq_true rfl) (by decide) (c_askAll hF ha h67 hu19 ok ht ht24 ht45 hT19 tk p19.1 (by omega) (by omega) hm19 (by omega)) ?_
  intro x30 H30 p30
  obtain ⟨rfl, q2, q3, t3, b1, b2⟩ := p30
  refine xq_iret dX10_ask_33 rfl ?_
  have oX : Off (fun q => q = 66 ∨ (67 ≤ q ∧ q < 72) ∨ (16 ≤ q ∧ q ≤ 23)) H2 H30 := (p19.2.mo (fun q h => Or.inl h)).tr (q3.mo (fun q h => by omega))
  exact ⟨0, S2, H30, ⟨hS, ⟨A3, hP.off oX (by omega) (by omega), hU.off hP hP.2.2.2.1 oX (fun q h => by omega)⟩, q2, ⟨fun k hk => (oX.I (by omega) k).trans (hRo.1 k hk), fun k => (oX.R (by omega) k).trans (hRo.2 k)⟩, (hO.mo (fun q h => by omega)).tr (oX.mo (fun q h => by omega)), t3, by omega, b2⟩, rfl, rfl⟩
theorem c_peep0 (hr : RdP S H t T u z) (hno : ¬ (hasB w (tNp T) = true ∧ hasB w2 (tNp T) = true ∧ w ≠ w2)) : Pv mX10_peep 4 [.ref 0, .int w, .int w2] S H (vZ (-1)) := by
  have hF := hr.fx
  refine vq_ev (vq_intro (by decide) (by exact Nat.le_of_ble_eq_true rfl) rfl ?_)
  refine xq_aload_n dX10_peep_0 rfl rfl ?_
  refine xq_iload_n dX10_peep_1 rfl rfl ?_
  refine xq_iload_n dX10_peep_2 rfl rfl ?_
  refine xq_callV2P clX10 gd_X10_areTwo dX10_peep_3 ml_RX10_245 im_X10_areTwo se_X10_areTwo rfl (Fx.s0 hF) (by exact Nat.le_of_ble_eq_true rfl) (by decide) (c_areTwo0 hr hno) ?_
  refine xq_if_neN dX10_peep_6 rfl (by omega) ⟨fun h6 => ?_, fun h6 => ?_⟩
  · skip
    first | exact absurd h6 (by decide) | exact absurd rfl h6
  · skip
    refine xq_iconst dX10_peep_9 icm1 ?_
    refine xq_iret dX10_peep_10 rfl ?_
    show _ = _; rw [zm1]
theorem c_peep1 (hr : RdP S H t T u z) (hp1 : p < tNp T) (hq1 : q < tNp T) (hpq : p ≠ q) (hs : (uSe u p).testBit q = true) : Pv mX10_peep 4 [.ref 0, vN p, vN q] S H (vZ (-2)) := by
  have hF := hr.fx; have hT := hr.tx; have tk := hr.tk; have hu := hr.st; have ok := hr.ok; have hm := hr.mi; have ht := hr.gt; have ht24 := hr.t24; have ht45 := hr.t45; have hz := ok.n; have hnp := ok.np; have hrl := ok.rl; have hnpe := hr.np; have h67 : 67 ≤ 67 := Nat.le_refl _; have ha := Fx.g67 hF; have hzz := hr.zb; have hhr := ok.hr; have hhd := hr.hd; have hli := hr.li; have g72 := Fx.g72 hF; have h72 : 67 ≤ 72 := (by decide); have h98 := hr.h9; have hse := ok.se (show p < 6 by have := tk.np; omega); have hsb := shr_le (uSe u p) q; have hsb2 : uSe u p >>> q &&& 1 ≤ 1 := Nat.and_le_right; have htp := tk.np
  refine vq_ev (vq_intro (by decide) (by exact Nat.le_of_ble_eq_true rfl) rfl ?_)
  refine xq_aload_n dX10_peep_0 rfl rfl ?_
  refine xq_iload_n dX10_peep_1 rfl rfl ?_
  refine xq_iload_n dX10_peep_2 rfl rfl ?_
  refine xq_callV2P clX10 gd_X10_areTwo dX10_peep_3 ml_RX10_245 im_X10_areTwo se_X10_areTwo rfl (Fx.s0 hF) (by exact Nat.le_of_ble_eq_true rfl) (by decide) (c_areTwo1 hr hp1 hq1 hpq) ?_
  refine xq_if_neN dX10_peep_6 rfl (by omega) ⟨fun h6 => ?_, fun h6 => ?_⟩
  · skip
    refine xq_aload_n dX10_peep_11 rfl rfl ?_
    refine xq_getF clX10 (by decide) rfl fl_RX10_67 dX10_peep_12 (Fx.s0 hF) (Fx.r0_9 hF) ?_
    refine xq_getF clX7 (by decide) rfl fl_RX10_144 dX10_peep_15 (St.s0 (Fx.g67 hF)) (St.r1 (Fx.g67 hF)) ?_
    refine xq_iload_n dX10_peep_18 rfl rfl ?_
    refine xq_ialdN dX10_peep_19 (St.s2 (Fx.g67 hF)) (by omega) (by decide) (hu.se (by omega)) ?_
    refine xq_iload_n dX10_peep_20 rfl rfl ?_
    refine xq_ishrN dX10_peep_21 (by omega) (by omega) ?_
    refine xq_iconst dX10_peep_22 ic1 ?_
    refine xq_iandN dX10_peep_23 ?_
    refine xq_if_eqN dX10_peep_24 rfl (by omega) ⟨fun h24 => ?_, fun h24 => ?_⟩
    · skip
      have := (tb_shr _ _).mp h24; rw [hs] at this; cases this
    · skip
      refine xq_bipush dX10_peep_27 bpm2 ?_
      refine xq_iret dX10_peep_29 rfl ?_
      show _ = _; rw [zm2]
  · skip
    first | exact absurd h6 (by decide) | exact absurd rfl h6
theorem c_peep2 (hr : RdP S H t T u z) (hp1 : p < tNp T) (hq1 : q < tNp T) (hpq : p ≠ q) (hp : PaP S H pn ps A) (hun : UnP H pn ps A L) (hs : (uSe u p).testBit q = false) : Vq mX10_peep 4 5 764 [.ref 0, vN p, vN q] S H (fun R => ∃ x S1 H1, RmQ S H pn ps L u (uSee u p q) z S1 H1 ∧ R = (some (vN (alikeN (uSee u p q) p)), S1, H1) ∧ x = 0) := by
  have hF := hr.fx; have hT := hr.tx; have tk := hr.tk; have hu := hr.st; have ok := hr.ok; have hm := hr.mi; have ht := hr.gt; have ht24 := hr.t24; have ht45 := hr.t45; have hz := ok.n; have hnp := ok.np; have hrl := ok.rl; have hnpe := hr.np; have h67 : 67 ≤ 67 := Nat.le_refl _; have ha := Fx.g67 hF; have hzz := hr.zb; have hhr := ok.hr; have hhd := hr.hd; have hli := hr.li; have g72 := Fx.g72 hF; have h72 : 67 ≤ 72 := (by decide); have h98 := hr.h9; have hse := ok.se (show p < 6 by have := tk.np; omega); have hsb := shr_le (uSe u p) q; have hsb2 : uSe u p >>> q &&& 1 ≤ 1 := Nat.and_le_right; have htp := tk.np
  refine vq_intro (by decide) (by exact Nat.le_of_ble_eq_true rfl) rfl ?_
  refine xq_aload_n dX10_peep_0 rfl rfl ?_
  refine xq_iload_n dX10_peep_1 rfl rfl ?_
  refine xq_iload_n dX10_peep_2 rfl rfl ?_
  refine xq_callV2P clX10 gd_X10_areTwo dX10_peep_3 ml_RX10_245 im_X10_areTwo se_X10_areTwo rfl (Fx.s0 hF) (by exact Nat.le_of_ble_eq_true rfl) (by decide) (c_areTwo1 hr hp1 hq1 hpq) ?_
  refine xq_if_neN dX10_peep_6 rfl (by omega) ⟨fun h6 => ?_, fun h6 => ?_⟩
  · skip
    refine xq_aload_n dX10_peep_11 rfl rfl ?_
    refine xq_getF clX10 (by decide) rfl fl_RX10_67 dX10_peep_12 (Fx.s0 hF) (Fx.r0_9 hF) ?_
    refine xq_getF clX7 (by decide) rfl fl_RX10_144 dX10_peep_15 (St.s0 (Fx.g67 hF)) (St.r1 (Fx.g67 hF)) ?_
    refine xq_iload_n dX10_peep_18 rfl rfl ?_
    refine xq_ialdN dX10_peep_19 (St.s2 (Fx.g67 hF)) (by omega) (by decide) (hu.se (by omega)) ?_
    refine xq_iload_n dX10_peep_20 rfl rfl ?_
    refine xq_ishrN dX10_peep_21 (by omega) (by omega) ?_
    refine xq_iconst dX10_peep_22 ic1 ?_
    refine xq_iandN dX10_peep_23 ?_
    refine xq_if_eqN dX10_peep_24 rfl (by omega) ⟨fun h24 => ?_, fun h24 => ?_⟩
    · skip
      refine xq_aload_n dX10_peep_30 rfl rfl ?_
      refine xq_aload_n dX10_peep_31 rfl rfl ?_
      refine xq_getF clX10 (by decide) rfl fl_RX10_67 dX10_peep_32 (Fx.s0 hF) (Fx.r0_9 hF) ?_
      refine xq_callV1G (b1 := 0) (c1 := 5) (b2 := 0) (c2 := 764) clX10 gd_X10_remember dX10_peep_35 ml_RX10_238 im_X10_remember se_X10_remember rfl (Fx.s0 hF) (by exact Nat.le_of_ble_eq_true rfl) (by decide) (c_remember hF hp ha (by omega) (by omega) hu ok) ?_
      intro r S2 H2 hq
      obtain ⟨S3, H3, A3, e0, hS, hP, hU, hRo, hO⟩ := hun.rem hp ok hq
      cases e0
      have hF := hS.fx hF
      have ha := Fx.g67 hF; have ht : gTx S2 t := by
        rcases hr.tt with e | e
        · rw [e]; exact Fx.g24 hF
        · rw [e]; exact Fx.g45 hF
      have hu := hu.off hO (fun j hj => by omega); have hT := hT.off hO (fun j hj => by omega); have hm := hm.off hO (by omega) (by omega)
      have sc2 := (hRo.2 6).trans hr.sc
      simp only [Option.toList, List.nil_append]
      refine xq_aload_n dX10_peep_38 rfl rfl ?_
      refine xq_getF clX10 (by decide) rfl fl_RX10_67 dX10_peep_39 (Fx.s0 hF) (Fx.r0_9 hF) ?_
      refine xq_iload_n dX10_peep_42 rfl rfl ?_
      refine xq_iload_n dX10_peep_43 rfl rfl ?_
      refine xq_callV2N clX7 gd_X7_see dX10_peep_44 ml_RX10_248 im_X7_see se_X7_see rfl (St.s0 (Fx.g67 hF)) (by exact Nat.le_of_ble_eq_true rfl) (by decide) (c_see ha hu ok (by omega) (by omega)) ?_
      intro H44 p44
      refine xq_aload_n dX10_peep_47 rfl rfl ?_
      refine xq_getF clX10 (by decide) rfl fl_RX10_67 dX10_peep_48 (Fx.s0 hF) (Fx.r0_9 hF) ?_
      refine xq_iload_n dX10_peep_51 rfl rfl ?_
      refine xq_callV1P clX7 gd_X7_alikeFor dX10_peep_52 ml_RX10_157 im_X7_alikeFor se_X7_alikeFor rfl (St.s0 (Fx.g67 hF)) (by exact Nat.le_of_ble_eq_true rfl) (by decide) (c_alikeFor ha p44.1 (ok.see (by omega)) (by omega)) ?_
      refine xq_iret dX10_peep_55 rfl ?_
      have oX : Off (fun q => 67 ≤ q ∧ q < 72) H2 H44 := p44.2.mo (fun q h => by omega)
      exact ⟨0, S2, H44, ⟨hS, ⟨A3, hP.off oX (by omega) (by omega), hU.off hP hP.2.2.2.1 oX (fun q h => by omega)⟩, p44.1, ⟨fun k hk => (oX.I (by omega) k).trans (hRo.1 k hk), fun k => (oX.R (by omega) k).trans (hRo.2 k)⟩, (hO.mo (fun q h => by omega)).tr (oX.mo (fun q h => by omega)), z, by omega, hm.off oX (by omega) (by omega)⟩, rfl, rfl⟩
    · skip
      exact absurd ((tb_shr _ _).mpr hs) h24
  · skip
    first | exact absurd h6 (by decide) | exact absurd rfl h6
end RC
