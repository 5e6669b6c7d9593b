/-! ===== Mind: what is common; the Text's picture; judging ===== -/
theorem ite_c {α : Type} {a b : Prop} [Decidable a] [Decidable b] {x y : α} (h : a ↔ b) : (if a then x else y) = (if b then x else y) := by
  by_cases w : a
  · rw [if_pos w, if_pos (h.mp w)]
  · rw [if_neg w, if_neg (fun z => w (h.mpr z))]
section SH
variable {S : xS} {H H1 : xH} {i t k x a n p : Nat} {u : uSt}
noncomputable def shb (H : xH) (u : uSt) (x q n : Nat) : Bool := ex (fun r => cn u r == q && !(rx H r x)) n
theorem c_shared1 (hF : gFx S) (ha : gSt S a) (h67 : 67 ≤ a) (hu : StP H a u) (ok : StOk u) (hmt0 : ∃ t2, t2 ≤ t + 6 ∧ MiP H t2) (hj0 : hI H 16 5 = nI 1 ∧ HeP H (cn u) (uZ u)) (hjc : JC u (cn u)) (hx : x < 64) (hk : k < 64) (hxk : x ≠ k) : Nv mX4_sharedByAll 2 [.ref 16, .ref a, vN x, vN k] S H (fun H' => Off (fun q => 16 ≤ q ∧ q ≤ 20) H H' ∧ (∃ t2, t2 ≤ t + 6 ∧ MiP H' t2) ∧ JnP H' u ∧ ColS H H' (uZ u) k (fun p => !(shb H u x (cn u p) (uZ u)))) := by
  have hz := ok.n
  have l3 : ∀ (fz : Nat) (p : Nat) (H1 : xH), uZ u - p < fz → p ≤ uZ u → Off (fun q => 16 ≤ q ∧ q ≤ 20) H H1 → (∃ t2, t2 ≤ t + 6 ∧ MiP H1 t2) → (hI H1 16 5 = nI 1 ∧ HeP H1 (cn u) (uZ u)) → ColS H H1 (uZ u) k (fun q => if q < p then !(shb H u x (cn u q) (uZ u)) else !(shb H u x q (uZ u))) → Xq mX4_sharedByAll 2 0 0 89 [some (.ref 16), some (.ref a), some (vN x), some (vN k), some (vN p)] [] S H1 (fun R => ∃ H', (fun H' => Off (fun q => 16 ≤ q ∧ q ≤ 20) H H' ∧ (∃ t2, t2 ≤ t + 6 ∧ MiP H' t2) ∧ JnP H' u ∧ ColS H H' (uZ u) k (fun p => !(shb H u x (cn u p) (uZ u)))) H' ∧ R = (none, S, H')) := by
    intro fz
    induction fz with
    | zero => intro p  H1  hn; exact absurd hn (by omega)
    | succ fz ih =>
      intro p  H1  hn hp ho hmt hj hc
      have hu1 := hu.off ho (fun j hj => by omega)
      refine xq_iload dX4_sharedByAll_89 rfl ?_
      refine xq_aload_n dX4_sharedByAll_91 rfl rfl ?_
      refine xq_getIE clX7 (by decide) rfl fl_RX4_85 dX4_sharedByAll_92 (St.s0 ha) hu1.sz ?_
      refine xq_icmp_geN dX4_sharedByAll_95 rfl (by omega) (by omega) ⟨fun h95 => ?_, fun h95 => ?_⟩
      · skip
        refine xq_vret dX4_sharedByAll_137 rfl ?_
        exact ⟨H1, ⟨ho, hmt, Or.inr ⟨hj.1, hjc, hj.2⟩, hc.cong (fun q hq => by rw [if_pos (by omega)])⟩, rfl⟩
      · skip
        have hcp := hjc.1 p h95
        have hv := rb_z (w := hL H1 19 (cn u p)) hk; rw [← lg_cmp_eq] at hv
        have hr : rx H1 (cn u p) k = !(shb H u x (cn u p) (uZ u)) := by
          rw [hc.in (by omega) hk]
          by_cases e : cn u p < p
          · rw [if_pos e, hcp.2]
          · rw [if_neg e]
        refine xq_aload_n dX4_sharedByAll_98 rfl rfl ?_
        refine xq_iload dX4_sharedByAll_99 rfl ?_
        refine xq_iload_n dX4_sharedByAll_101 rfl rfl ?_
        refine xq_aload_n dX4_sharedByAll_102 rfl rfl ?_
        refine xq_getF clX4 (by decide) rfl fl_RX4_18 dX4_sharedByAll_103 (Fx.s16 hF) (Fx.r16_3 hF) ?_
        refine xq_aload_n dX4_sharedByAll_106 rfl rfl ?_
        refine xq_getF clX4 (by decide) rfl fl_RX4_22 dX4_sharedByAll_107 (Fx.s16 hF) (Fx.r16_4 hF) ?_
        refine xq_iload dX4_sharedByAll_110 rfl ?_
        refine xq_ialdN dX4_sharedByAll_112 (Fx.s20 hF) (by omega) (by decide) (hj.2 p h95) ?_
        refine xq_laldN dX4_sharedByAll_113 (Fx.s19 hF) (by omega) (by decide) rfl ?_
        refine xq_iload_n dX4_sharedByAll_114 rfl rfl ?_
        refine xq_lushr dX4_sharedByAll_115 ?_
        refine xq_lconst dX4_sharedByAll_116 lc1 ?_
        refine xq_land dX4_sharedByAll_117 ?_
        refine xq_lconst dX4_sharedByAll_118 lc0 ?_
        refine xq_lcmp dX4_sharedByAll_119 ?_
        refine xq_if_eq dX4_sharedByAll_120 rfl ⟨fun h120 => ?_, fun h120 => ?_⟩
        · skip
          refine xq_iconst dX4_sharedByAll_127 ic0 ?_
          refine xq_callV3N clX4 gd_X4_set dX4_sharedByAll_128 ml_RX4_95 im_X4_set se_X4_set rfl (Fx.s16 hF) (by exact Nat.le_of_ble_eq_true rfl) (by decide) (c_set0 hF (by omega) hk) ?_
          intro H128 p128
          refine xq_iincN dX4_sharedByAll_131 ic1 rfl rfl ?_
          refine xq_goto dX4_sharedByAll_134 rfl ?_
          exact ih (p + 1) H128 (by omega) (by omega) (ho.tr (p128.1.mo (fun q h => by omega))) (by obtain ⟨t2, a1, a2⟩ := hmt; exact ⟨t2, a1, a2.off p128.1 (by omega) (by omega)⟩) ⟨(p128.1.I (by omega) 5).trans hj.1, fun q hq => (p128.1.I (by omega) q).trans (hj.2 q hq)⟩ ((hc.upd p128.2 h95).cong (fun q hq => by
            by_cases e : q = p
            · subst e
              rw [if_pos rfl, if_pos (by omega), ← hr]
              exact (hv.mp h120).symm
            · rw [if_neg e]; exact ite_c ⟨fun z => by omega, fun z => by omega⟩))
        · skip
          refine xq_iconst dX4_sharedByAll_123 ic1 ?_
          refine xq_goto dX4_sharedByAll_124 rfl ?_
          refine xq_callV3N clX4 gd_X4_set dX4_sharedByAll_128 ml_RX4_95 im_X4_set se_X4_set rfl (Fx.s16 hF) (by exact Nat.le_of_ble_eq_true rfl) (by decide) (c_set1 hF (by omega) hk) ?_
          intro H128 p128
          refine xq_iincN dX4_sharedByAll_131 ic1 rfl rfl ?_
          refine xq_goto dX4_sharedByAll_134 rfl ?_
          exact ih (p + 1) H128 (by omega) (by omega) (ho.tr (p128.1.mo (fun q h => by omega))) (by obtain ⟨t2, a1, a2⟩ := hmt; exact ⟨t2, a1, a2.off p128.1 (by omega) (by omega)⟩) ⟨(p128.1.I (by omega) 5).trans hj.1, fun q hq => (p128.1.I (by omega) q).trans (hj.2 q hq)⟩ ((hc.upd p128.2 h95).cong (fun q hq => by
            by_cases e : q = p
            · subst e
              rw [if_pos rfl, if_pos (by omega), ← hr]
              exact (Bool.not_eq_false _ ▸ (fun z => h120 (hv.mpr z)) : _ = true).symm
            · rw [if_neg e]; exact ite_c ⟨fun z => by omega, fun z => by omega⟩))
  have l2 : ∀ (fz : Nat) (p : Nat) (H1 : xH), uZ u - p < fz → p ≤ uZ u → Off (fun q => 16 ≤ q ∧ q ≤ 20) H H1 → (∃ t2, t2 ≤ t + 6 ∧ MiP H1 t2) → (hI H1 16 5 = nI 1 ∧ HeP H1 (cn u) (uZ u)) → ColS H H1 (uZ u) k (fun q => !(shb H u x q p)) → Xq mX4_sharedByAll 2 0 0 42 [some (.ref 16), some (.ref a), some (vN x), some (vN k), some (vN p)] [] S H1 (fun R => ∃ H', (fun H' => Off (fun q => 16 ≤ q ∧ q ≤ 20) H H' ∧ (∃ t2, t2 ≤ t + 6 ∧ MiP H' t2) ∧ JnP H' u ∧ ColS H H' (uZ u) k (fun p => !(shb H u x (cn u p) (uZ u)))) H' ∧ R = (none, S, H')) := by
    intro fz
    induction fz with
    | zero => intro p  H1  hn; exact absurd hn (by omega)
    | succ fz ih =>
      intro p  H1  hn hp ho hmt hj hc
      have hu1 := hu.off ho (fun j hj => by omega)
      refine xq_iload dX4_sharedByAll_42 rfl ?_
      refine xq_aload_n dX4_sharedByAll_44 rfl rfl ?_
      refine xq_getIE clX7 (by decide) rfl fl_RX4_85 dX4_sharedByAll_45 (St.s0 ha) hu1.sz ?_
      refine xq_icmp_geN dX4_sharedByAll_48 rfl (by omega) (by omega) ⟨fun h48 => ?_, fun h48 => ?_⟩
      · skip
        refine xq_iconst dX4_sharedByAll_86 ic0 ?_
        refine xq_istore dX4_sharedByAll_87 rfl ?_
        exact l3 (uZ u + 1) 0 H1 (by omega) (by omega) ho hmt hj (hc.cong (fun q hq => by rw [if_neg (by omega), show uZ u = p by omega]))
      · skip
        have hcp := hjc.1 p h48
        have hv := rb_z (w := hL H1 19 p) hx; rw [← lg_cmp_eq] at hv
        have hr : rx H1 p x = rx H p x := hc.ot hx hxk p
        refine xq_aload_n dX4_sharedByAll_51 rfl rfl ?_
        refine xq_getF clX4 (by decide) rfl fl_RX4_18 dX4_sharedByAll_52 (Fx.s16 hF) (Fx.r16_3 hF) ?_
        refine xq_iload dX4_sharedByAll_55 rfl ?_
        refine xq_laldN dX4_sharedByAll_57 (Fx.s19 hF) (by omega) (by decide) rfl ?_
        refine xq_iload_n dX4_sharedByAll_58 rfl rfl ?_
        refine xq_lushr dX4_sharedByAll_59 ?_
        refine xq_lconst dX4_sharedByAll_60 lc1 ?_
        refine xq_land dX4_sharedByAll_61 ?_
        refine xq_lconst dX4_sharedByAll_62 lc0 ?_
        refine xq_lcmp dX4_sharedByAll_63 ?_
        refine xq_if_ne dX4_sharedByAll_64 rfl ⟨fun h64 => ?_, fun h64 => ?_⟩
        · skip
          refine xq_iincN dX4_sharedByAll_80 ic1 rfl rfl ?_
          refine xq_goto dX4_sharedByAll_83 rfl ?_
          exact ih (p + 1) H1 (by omega) (by omega) ho hmt hj (hc.cong (fun q hq => by unfold shb; rw [ex_s, show rx H p x = true from hr ▸ (Bool.not_eq_false _ ▸ (fun z => h64 (hv.mpr z)) : rx H1 p x = true)]; simp))
        · skip
          refine xq_aload_n dX4_sharedByAll_67 rfl rfl ?_
          refine xq_aload_n dX4_sharedByAll_68 rfl rfl ?_
          refine xq_getF clX4 (by decide) rfl fl_RX4_22 dX4_sharedByAll_69 (Fx.s16 hF) (Fx.r16_4 hF) ?_
          refine xq_iload dX4_sharedByAll_72 rfl ?_
          refine xq_ialdN dX4_sharedByAll_74 (Fx.s20 hF) (by omega) (by decide) (hj.2 p h48) ?_
          refine xq_iload_n dX4_sharedByAll_75 rfl rfl ?_
          refine xq_iconst dX4_sharedByAll_76 ic0 ?_
          refine xq_callV3N clX4 gd_X4_set dX4_sharedByAll_77 ml_RX4_95 im_X4_set se_X4_set rfl (Fx.s16 hF) (by exact Nat.le_of_ble_eq_true rfl) (by decide) (c_set0 hF (by omega) hk) ?_
          intro H77 p77
          refine xq_iincN dX4_sharedByAll_80 ic1 rfl rfl ?_
          refine xq_goto dX4_sharedByAll_83 rfl ?_
          exact ih (p + 1) H77 (by omega) (by omega) (ho.tr (p77.1.mo (fun q h => by omega))) (by obtain ⟨t2, a1, a2⟩ := hmt; exact ⟨t2, a1, a2.off p77.1 (by omega) (by omega)⟩) ⟨(p77.1.I (by omega) 5).trans hj.1, fun q hq => (p77.1.I (by omega) q).trans (hj.2 q hq)⟩ ((hc.upd p77.2 (by omega)).cong (fun q hq => by
            have hf : rx H p x = false := hr ▸ (hv.mp h64 : rx H1 p x = false)
            unfold shb
            rw [ex_s, hf]
            by_cases e : q = cn u p
            · rw [if_pos e, e]; simp
            · rw [if_neg e, show (cn u p == q) = false by simpa using fun z => e z.symm]; simp))
  have l1 : ∀ (fz : Nat) (p : Nat) (H1 : xH), uZ u - p < fz → p ≤ uZ u → Off (fun q => 16 ≤ q ∧ q ≤ 20) H H1 → (∃ t2, t2 ≤ t + 6 ∧ MiP H1 t2) → (hI H1 16 5 = nI 1 ∧ HeP H1 (cn u) (uZ u)) → ColS H H1 p k (fun _ => true) → Xq mX4_sharedByAll 2 0 0 16 [some (.ref 16), some (.ref a), some (vN x), some (vN k), some (vN p)] [] S H1 (fun R => ∃ H', (fun H' => Off (fun q => 16 ≤ q ∧ q ≤ 20) H H' ∧ (∃ t2, t2 ≤ t + 6 ∧ MiP H' t2) ∧ JnP H' u ∧ ColS H H' (uZ u) k (fun p => !(shb H u x (cn u p) (uZ u)))) H' ∧ R = (none, S, H')) := by
    intro fz
    induction fz with
    | zero => intro p  H1  hn; exact absurd hn (by omega)
    | succ fz ih =>
      intro p  H1  hn hp ho hmt hj hc
      have hu1 := hu.off ho (fun j hj => by omega)
      refine xq_iload dX4_sharedByAll_16 rfl ?_
      refine xq_aload_n dX4_sharedByAll_18 rfl rfl ?_
      refine xq_getIE clX7 (by decide) rfl fl_RX4_85 dX4_sharedByAll_19 (St.s0 ha) hu1.sz ?_
      refine xq_icmp_geN dX4_sharedByAll_22 rfl (by omega) (by omega) ⟨fun h22 => ?_, fun h22 => ?_⟩
      · skip
        refine xq_iconst dX4_sharedByAll_39 ic0 ?_
        refine xq_istore dX4_sharedByAll_40 rfl ?_
        exact l2 (uZ u + 1) 0 H1 (by omega) (by omega) ho hmt hj (by rw [show uZ u = p by omega]; exact hc.cong (fun q _ => rfl))
      · skip
        refine xq_aload_n dX4_sharedByAll_25 rfl rfl ?_
        refine xq_iload dX4_sharedByAll_26 rfl ?_
        refine xq_iload_n dX4_sharedByAll_28 rfl rfl ?_
        refine xq_iconst dX4_sharedByAll_29 ic1 ?_
        refine xq_callV3N clX4 gd_X4_set dX4_sharedByAll_30 ml_RX4_95 im_X4_set se_X4_set rfl (Fx.s16 hF) (by exact Nat.le_of_ble_eq_true rfl) (by decide) (c_set1 hF (by omega) hk) ?_
        intro H30 p30
        refine xq_iincN dX4_sharedByAll_33 ic1 rfl rfl ?_
        refine xq_goto dX4_sharedByAll_36 rfl ?_
        exact ih (p + 1) H30 (by omega) (by omega) (ho.tr (p30.1.mo (fun q h => by omega))) (by obtain ⟨t2, a1, a2⟩ := hmt; exact ⟨t2, a1, a2.off p30.1 (by omega) (by omega)⟩) ⟨(p30.1.I (by omega) 5).trans hj.1, fun q hq => (p30.1.I (by omega) q).trans (hj.2 q hq)⟩ (hc.step p30.2 rfl)
  refine vq_intro (by decide) (by exact Nat.le_of_ble_eq_true rfl) rfl ?_
  refine xq_aload_n dX4_sharedByAll_0 rfl rfl ?_
  refine xq_getIE clX4 (by decide) rfl fl_RX4_31 dX4_sharedByAll_1 (Fx.s16 hF) hj0.1 ?_
  refine xq_if_neN dX4_sharedByAll_4 rfl (by omega) ⟨fun h4 => ?_, fun h4 => ?_⟩
  · skip
    refine xq_iconst dX4_sharedByAll_13 ic0 ?_
    refine xq_istore dX4_sharedByAll_14 rfl ?_
    exact l1 (uZ u + 1) 0 H (by omega) (by omega) Off.rf hmt0 hj0 ColS.z
  · skip
    exact absurd h4 (by decide)
theorem c_sharedByAll (hF : gFx S) (ha : gSt S a) (h67 : 67 ≤ a) (hu : StP H a u) (ok : StOk u) (hm : MiP H t) (ht : t + 7 < 2147483648) (hj : JnP H u) (hx : x < 64) (hk : k < 64) (hxk : x ≠ k) : Nv mX4_sharedByAll 2 [.ref 16, .ref a, vN x, vN k] S H (fun H' => Off (fun q => 16 ≤ q ∧ q ≤ 20) H H' ∧ (∃ t2, t2 ≤ t + 6 ∧ MiP H' t2) ∧ JnP H' u ∧ ColS H H' (uZ u) k (fun p => !(shb H u x (cn u p) (uZ u)))) := by
  rcases hj with hj | hj
  · have hz := ok.n
    have lall : JC u (cn u) → ∀ H9 : xH, Off (fun q => (16 ≤ q ∧ q ≤ 18) ∨ q = 20) H H9 → (∃ t2, t2 ≤ t + 6 ∧ MiP H9 t2) → (hI H9 16 5 = nI 1 ∧ HeP H9 (cn u) (uZ u)) → Xq mX4_sharedByAll 2 0 0 16 [some (.ref 16), some (.ref a), some (vN x), some (vN k), some (vN 0)] [] S H9 (fun R => ∃ H', (fun H' => Off (fun q => 16 ≤ q ∧ q ≤ 20) H H' ∧ (∃ t2, t2 ≤ t + 6 ∧ MiP H' t2) ∧ JnP H' u ∧ ColS H H' (uZ u) k (fun p => !(shb H u x (cn u p) (uZ u)))) H' ∧ R = (none, S, H')) := by
      intro hjc H9 o9 m9 j9
      have l3 : ∀ (fz : Nat) (p : Nat) (H1 : xH), uZ u - p < fz → p ≤ uZ u → Off (fun q => 16 ≤ q ∧ q ≤ 20) H H1 → (∃ t2, t2 ≤ t + 6 ∧ MiP H1 t2) → (hI H1 16 5 = nI 1 ∧ HeP H1 (cn u) (uZ u)) → ColS H H1 (uZ u) k (fun q => if q < p then !(shb H u x (cn u q) (uZ u)) else !(shb H u x q (uZ u))) → Xq mX4_sharedByAll 2 0 0 89 [some (.ref 16), some (.ref a), some (vN x), some (vN k), some (vN p)] [] S H1 (fun R => ∃ H', (fun H' => Off (fun q => 16 ≤ q ∧ q ≤ 20) H H' ∧ (∃ t2, t2 ≤ t + 6 ∧ MiP H' t2) ∧ JnP H' u ∧ ColS H H' (uZ u) k (fun p => !(shb H u x (cn u p) (uZ u)))) H' ∧ R = (none, S, H')) := by
        intro fz
        induction fz with
        | zero => intro p  H1  hn; exact absurd hn (by omega)
        | succ fz ih =>
          intro p  H1  hn hp ho hmt hj hc
          have hu1 := hu.off ho (fun j hj => by omega)
          refine xq_iload dX4_sharedByAll_89 rfl ?_
          refine xq_aload_n dX4_sharedByAll_91 rfl rfl ?_
          refine xq_getIE clX7 (by decide) rfl fl_RX4_85 dX4_sharedByAll_92 (St.s0 ha) hu1.sz ?_
          refine xq_icmp_geN dX4_sharedByAll_95 rfl (by omega) (by omega) ⟨fun h95 => ?_, fun h95 => ?_⟩
          · skip
            refine xq_vret dX4_sharedByAll_137 rfl ?_
            exact ⟨H1, ⟨ho, hmt, Or.inr ⟨hj.1, hjc, hj.2⟩, hc.cong (fun q hq => by rw [if_pos (by omega)])⟩, rfl⟩
          · skip
            have hcp := hjc.1 p h95
            have hv := rb_z (w := hL H1 19 (cn u p)) hk; rw [← lg_cmp_eq] at hv
            have hr : rx H1 (cn u p) k = !(shb H u x (cn u p) (uZ u)) := by
              rw [hc.in (by omega) hk]
              by_cases e : cn u p < p
              · rw [if_pos e, hcp.2]
              · rw [if_neg e]
            refine xq_aload_n dX4_sharedByAll_98 rfl rfl ?_
            refine xq_iload dX4_sharedByAll_99 rfl ?_
            refine xq_iload_n dX4_sharedByAll_101 rfl rfl ?_
            refine xq_aload_n dX4_sharedByAll_102 rfl rfl ?_
            refine xq_getF clX4 (by decide) rfl fl_RX4_18 dX4_sharedByAll_103 (Fx.s16 hF) (Fx.r16_3 hF) ?_
            refine xq_aload_n dX4_sharedByAll_106 rfl rfl ?_
            refine xq_getF clX4 (by decide) rfl fl_RX4_22 dX4_sharedByAll_107 (Fx.s16 hF) (Fx.r16_4 hF) ?_
            refine xq_iload dX4_sharedByAll_110 rfl ?_
            refine xq_ialdN dX4_sharedByAll_112 (Fx.s20 hF) (by omega) (by decide) (hj.2 p h95) ?_
            refine xq_laldN dX4_sharedByAll_113 (Fx.s19 hF) (by omega) (by decide) rfl ?_
            refine xq_iload_n dX4_sharedByAll_114 rfl rfl ?_
            refine xq_lushr dX4_sharedByAll_115 ?_
            refine xq_lconst dX4_sharedByAll_116 lc1 ?_
            refine xq_land dX4_sharedByAll_117 ?_
            refine xq_lconst dX4_sharedByAll_118 lc0 ?_
            refine xq_lcmp dX4_sharedByAll_119 ?_
            refine xq_if_eq dX4_sharedByAll_120 rfl ⟨fun h120 => ?_, fun h120 => ?_⟩
            · skip
              refine xq_iconst dX4_sharedByAll_127 ic0 ?_
              refine xq_callV3N clX4 gd_X4_set dX4_sharedByAll_128 ml_RX4_95 im_X4_set se_X4_set rfl (Fx.s16 hF) (by exact Nat.le_of_ble_eq_true rfl) (by decide) (c_set0 hF (by omega) hk) ?_
              intro H128 p128
              refine xq_iincN dX4_sharedByAll_131 ic1 rfl rfl ?_
              refine xq_goto dX4_sharedByAll_134 rfl ?_
              exact ih (p + 1) H128 (by omega) (by omega) (ho.tr (p128.1.mo (fun q h => by omega))) (by obtain ⟨t2, a1, a2⟩ := hmt; exact ⟨t2, a1, a2.off p128.1 (by omega) (by omega)⟩) ⟨(p128.1.I (by omega) 5).trans hj.1, fun q hq => (p128.1.I (by omega) q).trans (hj.2 q hq)⟩ ((hc.upd p128.2 h95).cong (fun q hq => by
                by_cases e : q = p
                · subst e
                  rw [if_pos rfl, if_pos (by omega), ← hr]
                  exact (hv.mp h120).symm
                · rw [if_neg e]; exact ite_c ⟨fun z => by omega, fun z => by omega⟩))
            · skip
              refine xq_iconst dX4_sharedByAll_123 ic1 ?_
              refine xq_goto dX4_sharedByAll_124 rfl ?_
              refine xq_callV3N clX4 gd_X4_set dX4_sharedByAll_128 ml_RX4_95 im_X4_set se_X4_set rfl (Fx.s16 hF) (by exact Nat.le_of_ble_eq_true rfl) (by decide) (c_set1 hF (by omega) hk) ?_
              intro H128 p128
              refine xq_iincN dX4_sharedByAll_131 ic1 rfl rfl ?_
              refine xq_goto dX4_sharedByAll_134 rfl ?_
              exact ih (p + 1) H128 (by omega) (by omega) (ho.tr (p128.1.mo (fun q h => by omega))) (by obtain ⟨t2, a1, a2⟩ := hmt; exact ⟨t2, a1, a2.off p128.1 (by omega) (by omega)⟩) ⟨(p128.1.I (by omega) 5).trans hj.1, fun q hq => (p128.1.I (by omega) q).trans (hj.2 q hq)⟩ ((hc.upd p128.2 h95).cong (fun q hq => by
                by_cases e : q = p
                · subst e
                  rw [if_pos rfl, if_pos (by omega), ← hr]
                  exact (Bool.not_eq_false _ ▸ (fun z => h120 (hv.mpr z)) : _ = true).symm
                · rw [if_neg e]; exact ite_c ⟨fun z => by omega, fun z => by omega⟩))
      have l2 : ∀ (fz : Nat) (p : Nat) (H1 : xH), uZ u - p < fz → p ≤ uZ u → Off (fun q => 16 ≤ q ∧ q ≤ 20) H H1 → (∃ t2, t2 ≤ t + 6 ∧ MiP H1 t2) → (hI H1 16 5 = nI 1 ∧ HeP H1 (cn u) (uZ u)) → ColS H H1 (uZ u) k (fun q => !(shb H u x q p)) → Xq mX4_sharedByAll 2 0 0 42 [some (.ref 16), some (.ref a), some (vN x), some (vN k), some (vN p)] [] S H1 (fun R => ∃ H', (fun H' => Off (fun q => 16 ≤ q ∧ q ≤ 20) H H' ∧ (∃ t2, t2 ≤ t + 6 ∧ MiP H' t2) ∧ JnP H' u ∧ ColS H H' (uZ u) k (fun p => !(shb H u x (cn u p) (uZ u)))) H' ∧ R = (none, S, H')) := by
        intro fz
        induction fz with
        | zero => intro p  H1  hn; exact absurd hn (by omega)
        | succ fz ih =>
          intro p  H1  hn hp ho hmt hj hc
          have hu1 := hu.off ho (fun j hj => by omega)
          refine xq_iload dX4_sharedByAll_42 rfl ?_
          refine xq_aload_n dX4_sharedByAll_44 rfl rfl ?_
          refine xq_getIE clX7 (by decide) rfl fl_RX4_85 dX4_sharedByAll_45 (St.s0 ha) hu1.sz ?_
          refine xq_icmp_geN dX4_sharedByAll_48 rfl (by omega) (by omega) ⟨fun h48 => ?_, fun h48 => ?_⟩
          · skip
            refine xq_iconst dX4_sharedByAll_86 ic0 ?_
            refine xq_istore dX4_sharedByAll_87 rfl ?_
            exact l3 (uZ u + 1) 0 H1 (by omega) (by omega) ho hmt hj (hc.cong (fun q hq => by rw [if_neg (by omega), show uZ u = p by omega]))
          · skip
            have hcp := hjc.1 p h48
            have hv := rb_z (w := hL H1 19 p) hx; rw [← lg_cmp_eq] at hv
            have hr : rx H1 p x = rx H p x := hc.ot hx hxk p
            refine xq_aload_n dX4_sharedByAll_51 rfl rfl ?_
            refine xq_getF clX4 (by decide) rfl fl_RX4_18 dX4_sharedByAll_52 (Fx.s16 hF) (Fx.r16_3 hF) ?_
            refine xq_iload dX4_sharedByAll_55 rfl ?_
            refine xq_laldN dX4_sharedByAll_57 (Fx.s19 hF) (by omega) (by decide) rfl ?_
            refine xq_iload_n dX4_sharedByAll_58 rfl rfl ?_
            refine xq_lushr dX4_sharedByAll_59 ?_
            refine xq_lconst dX4_sharedByAll_60 lc1 ?_
            refine xq_land dX4_sharedByAll_61 ?_
            refine xq_lconst dX4_sharedByAll_62 lc0 ?_
            refine xq_lcmp dX4_sharedByAll_63 ?_
            refine xq_if_ne dX4_sharedByAll_64 rfl ⟨fun h64 => ?_, fun h64 => ?_⟩
            · skip
              refine xq_iincN dX4_sharedByAll_80 ic1 rfl rfl ?_
              refine xq_goto dX4_sharedByAll_83 rfl ?_
              exact ih (p + 1) H1 (by omega) (by omega) ho hmt hj (hc.cong (fun q hq => by unfold shb; rw [ex_s, show rx H p x = true from hr ▸ (Bool.not_eq_false _ ▸ (fun z => h64 (hv.mpr z)) : rx H1 p x = true)]; simp))
            · skip
              refine xq_aload_n dX4_sharedByAll_67 rfl rfl ?_
              refine xq_aload_n dX4_sharedByAll_68 rfl rfl ?_
              refine xq_getF clX4 (by decide) rfl fl_RX4_22 dX4_sharedByAll_69 (Fx.s16 hF) (Fx.r16_4 hF) ?_
              refine xq_iload dX4_sharedByAll_72 rfl ?_
              refine xq_ialdN dX4_sharedByAll_74 (Fx.s20 hF) (by omega) (by decide) (hj.2 p h48) ?_
              refine xq_iload_n dX4_sharedByAll_75 rfl rfl ?_
              refine xq_iconst dX4_sharedByAll_76 ic0 ?_
              refine xq_callV3N clX4 gd_X4_set dX4_sharedByAll_77 ml_RX4_95 im_X4_set se_X4_set rfl (Fx.s16 hF) (by exact Nat.le_of_ble_eq_true rfl) (by decide) (c_set0 hF (by omega) hk) ?_
              intro H77 p77
              refine xq_iincN dX4_sharedByAll_80 ic1 rfl rfl ?_
              refine xq_goto dX4_sharedByAll_83 rfl ?_
              exact ih (p + 1) H77 (by omega) (by omega) (ho.tr (p77.1.mo (fun q h => by omega))) (by obtain ⟨t2, a1, a2⟩ := hmt; exact ⟨t2, a1, a2.off p77.1 (by omega) (by omega)⟩) ⟨(p77.1.I (by omega) 5).trans hj.1, fun q hq => (p77.1.I (by omega) q).trans (hj.2 q hq)⟩ ((hc.upd p77.2 (by omega)).cong (fun q hq => by
                have hf : rx H p x = false := hr ▸ (hv.mp h64 : rx H1 p x = false)
                unfold shb
                rw [ex_s, hf]
                by_cases e : q = cn u p
                · rw [if_pos e, e]; simp
                · rw [if_neg e, show (cn u p == q) = false by simpa using fun z => e z.symm]; simp))
      have l1 : ∀ (fz : Nat) (p : Nat) (H1 : xH), uZ u - p < fz → p ≤ uZ u → Off (fun q => 16 ≤ q ∧ q ≤ 20) H H1 → (∃ t2, t2 ≤ t + 6 ∧ MiP H1 t2) → (hI H1 16 5 = nI 1 ∧ HeP H1 (cn u) (uZ u)) → ColS H H1 p k (fun _ => true) → Xq mX4_sharedByAll 2 0 0 16 [some (.ref 16), some (.ref a), some (vN x), some (vN k), some (vN p)] [] S H1 (fun R => ∃ H', (fun H' => Off (fun q => 16 ≤ q ∧ q ≤ 20) H H' ∧ (∃ t2, t2 ≤ t + 6 ∧ MiP H' t2) ∧ JnP H' u ∧ ColS H H' (uZ u) k (fun p => !(shb H u x (cn u p) (uZ u)))) H' ∧ R = (none, S, H')) := by
        intro fz
        induction fz with
        | zero => intro p  H1  hn; exact absurd hn (by omega)
        | succ fz ih =>
          intro p  H1  hn hp ho hmt hj hc
          have hu1 := hu.off ho (fun j hj => by omega)
          refine xq_iload dX4_sharedByAll_16 rfl ?_
          refine xq_aload_n dX4_sharedByAll_18 rfl rfl ?_
          refine xq_getIE clX7 (by decide) rfl fl_RX4_85 dX4_sharedByAll_19 (St.s0 ha) hu1.sz ?_
          refine xq_icmp_geN dX4_sharedByAll_22 rfl (by omega) (by omega) ⟨fun h22 => ?_, fun h22 => ?_⟩
          · skip
            refine xq_iconst dX4_sharedByAll_39 ic0 ?_
            refine xq_istore dX4_sharedByAll_40 rfl ?_
            exact l2 (uZ u + 1) 0 H1 (by omega) (by omega) ho hmt hj (by rw [show uZ u = p by omega]; exact hc.cong (fun q _ => rfl))
          · skip
            refine xq_aload_n dX4_sharedByAll_25 rfl rfl ?_
            refine xq_iload dX4_sharedByAll_26 rfl ?_
            refine xq_iload_n dX4_sharedByAll_28 rfl rfl ?_
            refine xq_iconst dX4_sharedByAll_29 ic1 ?_
            refine xq_callV3N clX4 gd_X4_set dX4_sharedByAll_30 ml_RX4_95 im_X4_set se_X4_set rfl (Fx.s16 hF) (by exact Nat.le_of_ble_eq_true rfl) (by decide) (c_set1 hF (by omega) hk) ?_
            intro H30 p30
            refine xq_iincN dX4_sharedByAll_33 ic1 rfl rfl ?_
            refine xq_goto dX4_sharedByAll_36 rfl ?_
            exact ih (p + 1) H30 (by omega) (by omega) (ho.tr (p30.1.mo (fun q h => by omega))) (by obtain ⟨t2, a1, a2⟩ := hmt; exact ⟨t2, a1, a2.off p30.1 (by omega) (by omega)⟩) ⟨(p30.1.I (by omega) 5).trans hj.1, fun q hq => (p30.1.I (by omega) q).trans (hj.2 q hq)⟩ (hc.step p30.2 rfl)
      exact l1 (uZ u + 1) 0 H9 (by omega) (by omega) (o9.mo (fun q h => by omega)) m9 j9 (fun q j hj => by rw [if_neg (by omega)]; show rb (hL H9 19 q) j = _; rw [o9.L (by omega)])
    refine vq_intro (by decide) (by exact Nat.le_of_ble_eq_true rfl) rfl ?_
    refine xq_aload_n dX4_sharedByAll_0 rfl rfl ?_
    refine xq_getIE clX4 (by decide) rfl fl_RX4_31 dX4_sharedByAll_1 (Fx.s16 hF) hj ?_
    refine xq_if_neN dX4_sharedByAll_4 rfl (by omega) ⟨fun h4 => ?_, fun h4 => ?_⟩
    · skip
      exact absurd rfl h4
    · skip
      refine xq_aload_n dX4_sharedByAll_7 rfl rfl ?_
      refine xq_aload_n dX4_sharedByAll_8 rfl rfl ?_
      refine xq_callV1H clX4 gd_X4_join dX4_sharedByAll_9 ml_RX4_111 im_X4_join se_X4_join rfl (Fx.s16 hF) (by exact Nat.le_of_ble_eq_true rfl) (by decide) (c_join hF ha h67 hu ok hm ht) ?_
      intro x9 H9 p9
      obtain ⟨-, o9, m9, j9, hjc, h9⟩ := p9
      refine xq_pop dX4_sharedByAll_12 rfl ?_
      refine xq_iconst dX4_sharedByAll_13 ic0 ?_
      refine xq_istore dX4_sharedByAll_14 rfl ?_
      exact lall hjc H9 o9 m9 ⟨j9, h9⟩
  · exact c_shared1 hF ha h67 hu ok ⟨t, by omega, hm⟩ ⟨hj.1, hj.2.2⟩ hj.2.1 hx hk hxk
end SH
/-- a Text: its numbers, its bits -/
abbrev uTx : Type := (Nat → Nat → Nat) × (Nat → Nat → Int64)
def tNc (T : uTx) : Nat := T.1 0 0
def tNp (T : uTx) : Nat := T.1 0 1
def tNf (T : uTx) : Nat := T.1 0 2
def tNk (T : uTx) : Nat := T.1 0 3
def tNt (T : uTx) : Nat := T.1 0 4
def tNa (T : uTx) : Nat := T.1 0 5
def tSh (T : uTx) : Nat := T.1 0 6
def tSd (T : uTx) : Nat := T.1 0 7
def tTr (T : uTx) : Nat := T.1 0 8
def tK (T : uTx) (k : Nat) : Nat := T.1 1 k
def tX (T : uTx) (k : Nat) : Nat := T.1 2 k
def tY (T : uTx) (k : Nat) : Nat := T.1 3 k
def tCn (T : uTx) (k : Nat) : Nat := T.1 4 k
def tSt (T : uTx) (k : Nat) : Nat := T.1 5 k
def tPn (T : uTx) (k : Nat) : Nat := T.1 6 k
def tHt (T : uTx) (k : Nat) : Nat := T.1 7 k
def tSe (T : uTx) (k : Nat) : Nat := T.1 8 k
def tFn (T : uTx) (k : Nat) : Nat := T.1 9 k
def tRo (T : uTx) (k : Nat) : Nat := T.1 10 k
def tTf (T : uTx) (k : Nat) : Nat := T.1 11 k
def tTh (T : uTx) (k : Nat) : Nat := T.1 12 k
def tAh (T : uTx) (k : Nat) : Nat := T.1 13 k
def tLr (T : uTx) (k : Nat) : Nat := T.1 14 k
def tNe (T : uTx) (k : Nat) : Int64 := T.2 0 k
def tLn (T : uTx) (k : Nat) : Int64 := T.2 1 k
def TxP (H : xH) (t : Nat) (T : uTx) : Prop := (hI H (t + 1) 1 = nI (tNc T)) ∧ (hI H (t + 3) 1 = nI (tNp T)) ∧ (hI H (t + 5) 1 = nI (tNf T)) ∧ (hI H (t + 7) 3 = nI (tNk T)) ∧ (∀ k, k < tNk T → hI H (t + 8) k = nI (tK T k) ∧ hI H (t + 9) k = nI (tX T k) ∧ hI H (t + 10) k = nI (tY T k)) ∧ (∀ k, k < tNc T → hI H (t + 2) k = nI (tCn T k) ∧ hI H (t + 11) k = nI (tSt T k)) ∧ (∀ k, k < tNp T → hI H (t + 4) k = nI (tPn T k) ∧ hI H (t + 12) k = nI (tHt T k)) ∧ (∀ k, k < 6 → hI H (t + 13) k = nI (tSe T k)) ∧ (∀ k, k < tNf T → hI H (t + 6) k = nI (tFn T k) ∧ hI H (t + 14) k = nI (tRo T k) ∧ hL H (t + 15) k = tNe T k) ∧ (hI H t 9 = nI (tNt T)) ∧ (∀ k, k < tNt T → hI H (t + 16) k = nI (tTf T k) ∧ hI H (t + 17) k = nI (tTh T k)) ∧ (hI H t 12 = nI (tNa T)) ∧ (∀ k, k < tNa T → hI H (t + 18) k = nI (tAh T k)) ∧ (∀ k, k < 2 → hL H (t + 20) k = tLn T k ∧ (tLn T k ≠ 0 → hI H (t + 19) k = nI (tLr T k))) ∧ (hI H t 16 = (if tSh T = 0 then -1 else nI (tSh T - 1))) ∧ (hI H t 17 = (if tSd T = 0 then -1 else nI (tSd T - 1))) ∧ (hI H t 18 = nI (tTr T))
theorem TxP.nc {H : xH} {t : Nat} {T : uTx} (h : TxP H t T) : hI H (t + 1) 1 = nI (tNc T) := h.1
theorem TxP.np {H : xH} {t : Nat} {T : uTx} (h : TxP H t T) : hI H (t + 3) 1 = nI (tNp T) := h.2.1
theorem TxP.nf {H : xH} {t : Nat} {T : uTx} (h : TxP H t T) : hI H (t + 5) 1 = nI (tNf T) := h.2.2.1
theorem TxP.nk {H : xH} {t : Nat} {T : uTx} (h : TxP H t T) : hI H (t + 7) 3 = nI (tNk T) := h.2.2.2.1
theorem TxP.kn {H : xH} {t : Nat} {T : uTx} (h : TxP H t T) : ∀ k, k < tNk T → hI H (t + 8) k = nI (tK T k) ∧ hI H (t + 9) k = nI (tX T k) ∧ hI H (t + 10) k = nI (tY T k) := h.2.2.2.2.1
theorem TxP.co {H : xH} {t : Nat} {T : uTx} (h : TxP H t T) : ∀ k, k < tNc T → hI H (t + 2) k = nI (tCn T k) ∧ hI H (t + 11) k = nI (tSt T k) := h.2.2.2.2.2.1
theorem TxP.pe {H : xH} {t : Nat} {T : uTx} (h : TxP H t T) : ∀ k, k < tNp T → hI H (t + 4) k = nI (tPn T k) ∧ hI H (t + 12) k = nI (tHt T k) := h.2.2.2.2.2.2.1
theorem TxP.se {H : xH} {t : Nat} {T : uTx} (h : TxP H t T) : ∀ k, k < 6 → hI H (t + 13) k = nI (tSe T k) := h.2.2.2.2.2.2.2.1
theorem TxP.fa {H : xH} {t : Nat} {T : uTx} (h : TxP H t T) : ∀ k, k < tNf T → hI H (t + 6) k = nI (tFn T k) ∧ hI H (t + 14) k = nI (tRo T k) ∧ hL H (t + 15) k = tNe T k := h.2.2.2.2.2.2.2.2.1
theorem TxP.nt {H : xH} {t : Nat} {T : uTx} (h : TxP H t T) : hI H t 9 = nI (tNt T) := h.2.2.2.2.2.2.2.2.2.1
theorem TxP.te {H : xH} {t : Nat} {T : uTx} (h : TxP H t T) : ∀ k, k < tNt T → hI H (t + 16) k = nI (tTf T k) ∧ hI H (t + 17) k = nI (tTh T k) := h.2.2.2.2.2.2.2.2.2.2.1
theorem TxP.na {H : xH} {t : Nat} {T : uTx} (h : TxP H t T) : hI H t 12 = nI (tNa T) := h.2.2.2.2.2.2.2.2.2.2.2.1
theorem TxP.as {H : xH} {t : Nat} {T : uTx} (h : TxP H t T) : ∀ k, k < tNa T → hI H (t + 18) k = nI (tAh T k) := h.2.2.2.2.2.2.2.2.2.2.2.2.1
theorem TxP.lw {H : xH} {t : Nat} {T : uTx} (h : TxP H t T) : ∀ k, k < 2 → hL H (t + 20) k = tLn T k ∧ (tLn T k ≠ 0 → hI H (t + 19) k = nI (tLr T k)) := h.2.2.2.2.2.2.2.2.2.2.2.2.2.1
theorem TxP.sh {H : xH} {t : Nat} {T : uTx} (h : TxP H t T) : hI H t 16 = (if tSh T = 0 then -1 else nI (tSh T - 1)) := h.2.2.2.2.2.2.2.2.2.2.2.2.2.2.1
theorem TxP.sd {H : xH} {t : Nat} {T : uTx} (h : TxP H t T) : hI H t 17 = (if tSd T = 0 then -1 else nI (tSd T - 1)) := h.2.2.2.2.2.2.2.2.2.2.2.2.2.2.2.1
theorem TxP.tr {H : xH} {t : Nat} {T : uTx} (h : TxP H t T) : hI H t 18 = nI (tTr T) := h.2.2.2.2.2.2.2.2.2.2.2.2.2.2.2.2
theorem TxP.off {H H1 : xH} {t : Nat} {T : uTx} {A : Nat → Prop} (h : TxP H t T) (ho : Off A H H1) (h0 : ∀ j, j < 21 → ¬ A (t + j)) : TxP H1 t T := ⟨((ho.I (h0 1 (by omega)) _).trans h.nc), ((ho.I (h0 3 (by omega)) _).trans h.np), ((ho.I (h0 5 (by omega)) _).trans h.nf), ((ho.I (h0 7 (by omega)) _).trans h.nk), (fun k hk => ⟨(ho.I (h0 8 (by omega)) _).trans (h.kn k hk).1, (ho.I (h0 9 (by omega)) _).trans (h.kn k hk).2.1, (ho.I (h0 10 (by omega)) _).trans (h.kn k hk).2.2⟩), (fun k hk => ⟨(ho.I (h0 2 (by omega)) _).trans (h.co k hk).1, (ho.I (h0 11 (by omega)) _).trans (h.co k hk).2⟩), (fun k hk => ⟨(ho.I (h0 4 (by omega)) _).trans (h.pe k hk).1, (ho.I (h0 12 (by omega)) _).trans (h.pe k hk).2⟩), (fun k hk => (ho.I (h0 13 (by omega)) _).trans (h.se k hk)), (fun k hk => ⟨(ho.I (h0 6 (by omega)) _).trans (h.fa k hk).1, (ho.I (h0 14 (by omega)) _).trans (h.fa k hk).2.1, (ho.L (h0 15 (by omega)) _).trans (h.fa k hk).2.2⟩), ((ho.I (h0 0 (by omega)) _).trans h.nt), (fun k hk => ⟨(ho.I (h0 16 (by omega)) _).trans (h.te k hk).1, (ho.I (h0 17 (by omega)) _).trans (h.te k hk).2⟩), ((ho.I (h0 0 (by omega)) _).trans h.na), (fun k hk => (ho.I (h0 18 (by omega)) _).trans (h.as k hk)), (fun k hk => ⟨(ho.L (h0 20 (by omega)) _).trans (h.lw k hk).1, fun z => (ho.I (h0 19 (by omega)) _).trans ((h.lw k hk).2 z)⟩), ((ho.I (h0 0 (by omega)) _).trans h.sh), ((ho.I (h0 0 (by omega)) _).trans h.sd), ((ho.I (h0 0 (by omega)) _).trans h.tr)⟩
/-- a knot of a fact, as it may be -/
def KnOk (T : uTx) (k : Nat) : Prop := (tK T k = 14 ∧ tX T k < 6 ∧ tY T k < 4) ∨ (tK T k = 15 ∧ tX T k < 6) ∨ (tK T k = 19 ∧ tX T k < 4 ∧ tY T k ≤ 6) ∨ (tK T k = 20 ∧ tY T k < k) ∨ (tK T k = 12 ∧ tX T k < k ∧ tY T k < k) ∨ (tK T k = 11 ∧ tX T k < k ∧ tY T k < k) ∨ (tK T k = 13 ∧ tX T k < k) ∨ (tK T k = 16 ∧ tX T k < k ∧ tY T k < 6) ∨ (tK T k = 17 ∧ tX T k < k) ∨ (tK T k = 18 ∧ tX T k < k)
/-- the bits hold, with a knot, those that it hangs on -/
def NdOk (T : uTx) (w : Int64) : Prop := ∀ k, k < 64 → rb w k = true → k < tNk T ∧ KnOk T k ∧ (tK T k = 20 ∨ tK T k = 12 ∨ tK T k = 11 → rb w (tY T k) = true) ∧ (tK T k = 12 ∨ tK T k = 11 ∨ tK T k = 13 ∨ tK T k = 16 ∨ tK T k = 17 ∨ tK T k = 18 → rb w (tX T k) = true)
/-- what a knot is in the world p, by what the earlier ones are -/
noncomputable def kst (T : uTx) (u : uSt) (V : Nat → Nat → Bool) (k p : Nat) : Bool :=
  if tK T k = 14 then col (uW u p) (tX T k) == tY T k
  else if tK T k = 15 then own u (tX T k) p
  else if tK T k = 19 then decide (tY T k ≤ ct (fun i => col (uW u p) i == tX T k) (uNp u))
  else if tK T k = 20 then V (tY T k) p
  else if tK T k = 12 then V (tX T k) p && V (tY T k) p
  else if tK T k = 11 then V (tX T k) p || V (tY T k) p
  else if tK T k = 13 then !(V (tX T k) p)
  else if tK T k = 16 then !(ex (fun q => ky u (tY T k) q == ky u (tY T k) p && !(V (tX T k) q)) (uZ u))
  else if tK T k = 17 then !(ex (fun i => ex (fun q => ky u i q == ky u i p && !(V (tX T k) q)) (uZ u)) (uNp u))
  else !(ex (fun q => cn u q == cn u p && !(V (tX T k) q)) (uZ u))
noncomputable def kvt (T : uTx) (u : uSt) : Nat → Nat → Nat → Bool
  | 0 => fun _ _ => false
  | n + 1 => fun k p => if k = n then kst T u (kvt T u n) n p else kvt T u n k p
noncomputable def kv (T : uTx) (u : uSt) (k p : Nat) : Bool := kst T u (kvt T u k) k p
theorem kvt_lt (T : uTx) (u : uSt) : ∀ n k p, k < n → kvt T u n k p = kv T u k p
  | n + 1, k, p, h => by
    show (if k = n then _ else _) = _
    by_cases e : k = n
    · rw [if_pos e, e]; rfl
    · rw [if_neg e]; exact kvt_lt T u n k p (by omega)
theorem ex_cong {f g : Nat → Bool} : ∀ {n : Nat}, (∀ p, p < n → f p = g p) → ex f n = ex g n
  | 0, _ => rfl
  | n + 1, h => by rw [ex_s, ex_s, ex_cong (fun p hp => h p (by omega)), h n (by omega)]
/-- V may be any that agrees on the earlier knots it needs -/
theorem kv_eq {T : uTx} {u : uSt} {k : Nat} {V : Nat → Nat → Bool} (hk : KnOk T k) (hx : tK T k = 12 ∨ tK T k = 11 ∨ tK T k = 13 ∨ tK T k = 16 ∨ tK T k = 17 ∨ tK T k = 18 → ∀ p, p < uZ u → V (tX T k) p = kv T u (tX T k) p) (hy : tK T k = 20 ∨ tK T k = 12 ∨ tK T k = 11 → ∀ p, p < uZ u → V (tY T k) p = kv T u (tY T k) p) {p : Nat} (hp : p < uZ u) : kst T u V k p = kv T u k p := by
  unfold kv
  have ex1 : ∀ (f : Nat → Bool) (x : Nat), x < k → (∀ p, p < uZ u → V x p = kv T u x p) → ex (fun q => f q && !(V x q)) (uZ u) = ex (fun q => f q && !(kvt T u k x q)) (uZ u) := fun f x hx h => ex_cong (fun q hq => by rw [h q hq, kvt_lt T u k x q hx])
  unfold kst
  rcases hk with h | h | h | h | h | h | h | h | h | h
  all_goals (have hK := h.1; simp only [hK]; simp (config := { decide := true }) only [if_true, if_false])
  · rw [hy (by simp [hK]) p hp, kvt_lt T u k _ p h.2]
  · rw [hx (by simp [hK]) p hp, hy (by simp [hK]) p hp, kvt_lt T u k _ p h.2.1, kvt_lt T u k _ p h.2.2]
  · rw [hx (by simp [hK]) p hp, hy (by simp [hK]) p hp, kvt_lt T u k _ p h.2.1, kvt_lt T u k _ p h.2.2]
  · rw [hx (by simp [hK]) p hp, kvt_lt T u k _ p h.2]
  · rw [ex1 _ _ h.2.1 (hx (by simp [hK]))]
  · congr 1; exact ex_cong (fun i _ => ex1 _ _ h.2 (hx (by simp [hK])))
  · rw [ex1 _ _ h.2 (hx (by simp [hK]))]
