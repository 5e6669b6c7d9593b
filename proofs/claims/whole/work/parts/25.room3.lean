/-! ===== HatRoom: depth, look, likely, count, fault, named, feed ===== -/
section R3
variable {S : xS} {H H1 : xH} {t z k p q f i j l m : Nat} {u : uSt} {T : uTx} {w w2 w3 : Int32}
noncomputable def dpv (T : uTx) (u : uSt) (f : Nat) : Nat → Nat → Bool
  | 0 => fun p => kv T u (tRo T f) p
  | d + 1 => fun p => !(ex (fun i => ex (fun q => ky u i q == ky u i p && !(dpv T u f d q)) (uZ u)) (uNp u))
noncomputable def depV (T : uTx) (u : uSt) (f : Nat) : Int := if dpv T u f 0 (uRl u) = true then (fnd (fun d => !(dpv T u f (d + 1) (uRl u))) 20 : Nat) else -2
theorem c_depth0 (hr : RdP S H t T u z) (hno : hasB w (tNf T) = false) : Pv mX10_depth 4 [.ref 0, .int w] S H (vZ (-1)) := by
  have hF := hr.fx
  refine vq_ev (vq_intro (by decide) (by exact Nat.le_of_ble_eq_true rfl) rfl ?_)
  refine xq_aload_n dX10_depth_0 rfl rfl ?_
  refine xq_iload_n dX10_depth_1 rfl rfl ?_
  refine xq_callV1P clX10 gd_X10_isFact dX10_depth_2 ml_RX10_179 im_X10_isFact se_X10_isFact rfl (Fx.s0 hF) (by exact Nat.le_of_ble_eq_true rfl) (by decide) (c_isFact hr) ?_
  refine xq_if_neB dX10_depth_5 rfl ⟨fun h5 => ?_, fun h5 => ?_⟩
  · skip
    rw [hno] at h5; cases h5
  · skip
    refine xq_iconst dX10_depth_8 icm1 ?_
    refine xq_iret dX10_depth_9 rfl ?_
    show _ = _; rw [zm1]
theorem c_depth1 (hr : RdP S H t T u z) (hf : f < tNf T) : Hv mX10_depth 4 [.ref 0, vN f] S H vZ (fun (x : Int) H' => x = depV T u f ∧ Off (fun q => 16 ≤ q ∧ q ≤ 21) H H' ∧ ∃ t2, t2 ≤ z + 700 ∧ MiP H' t2) := by
  have hF := hr.fx; have hT := hr.tx; have tk := hr.tk; have hu := hr.st; have ok := hr.ok; have hm := hr.mi; have ht := hr.gt; have ht24 := hr.t24; have ht45 := hr.t45; have hz := ok.n; have hnp := ok.np; have hrl := ok.rl; have hnpe := hr.np; have h67 : 67 ≤ 67 := Nat.le_refl _; have ha := Fx.g67 hF; have hzz := hr.zb; have hfa := tk.fa f hf; have hnf := tk.nf
  by_cases hd0 : dpv T u f 0 (uRl u) = true
  · skip
    have lp : ∀ (fz : Nat) (d : Nat) (H1 : xH), 20 - d < fz → d ≤ 20 → Off (fun q => 16 ≤ q ∧ q ≤ 21) H H1 → (∃ t2, t2 ≤ z + 448 + 6 * d ∧ MiP H1 t2) → (∀ e, e < d → dpv T u f (e + 1) (uRl u) = true) → (∀ q, q < uZ u → rx H1 q d = dpv T u f d q) → Xq mX10_depth 4 0 0 77 [some (.ref 0), some (vN f), some (vN d)] [] S H1 (fun R => ∃ x H', (fun (x : Int) H' => x = depV T u f ∧ Off (fun q => 16 ≤ q ∧ q ≤ 21) H H' ∧ ∃ t2, t2 ≤ z + 700 ∧ MiP H' t2) x H' ∧ R = (some (vZ x), S, H')) := by
      intro fz
      induction fz with
      | zero => intro d  H1  hfz; exact absurd hfz (by omega)
      | succ fz ih =>
        intro d  H1  hfz hd ho hm1 hno hrow
        have hu1 := hu.off ho (fun j hj => by omega)
        obtain ⟨t2, a1, a2⟩ := id hm1
        refine xq_iload_n dX10_depth_77 rfl rfl ?_
        refine xq_bipush dX10_depth_78 bp20 ?_
        refine xq_icmp_geN dX10_depth_80 rfl (by omega) (by omega) ⟨fun h80 => ?_, fun h80 => ?_⟩
        · skip
          refine xq_bipush dX10_depth_126 bp20 ?_
          refine xq_iret dX10_depth_128 rfl ?_
          refine ⟨depV T u f, H1, ⟨rfl, ho, ?_⟩, ?_⟩
          · obtain ⟨t2, a1, a2⟩ := hm1; exact ⟨t2, by omega, a2⟩
          · unfold depV; rw [if_pos hd0, fnd_no (fun e he => by rw [hno e (by omega)]; rfl)]; rfl
        · skip
          refine xq_aload_n dX10_depth_83 rfl rfl ?_
          refine xq_getF clX10 (by decide) rfl fl_RX10_34 dX10_depth_84 (Fx.s0 hF) (Fx.r0_4 hF) ?_
          refine xq_aload_n dX10_depth_87 rfl rfl ?_
          refine xq_getF clX10 (by decide) rfl fl_RX10_67 dX10_depth_88 (Fx.s0 hF) (Fx.r0_9 hF) ?_
          refine xq_iload_n dX10_depth_91 rfl rfl ?_
          refine xq_iload_n dX10_depth_92 rfl rfl ?_
          refine xq_iconst dX10_depth_93 ic1 ?_
          refine xq_iaddN dX10_depth_94 ?_
          refine xq_callV3N clX4 gd_X4_knownByAll dX10_depth_95 ml_RX10_208 im_X4_knownByAll se_X4_knownByAll rfl (Fx.s16 hF) (by exact Nat.le_of_ble_eq_true rfl) (by decide) (c_knownByAll hF ha h67 hu1 ok a2 (by omega) (by omega) (by omega) (by omega)) ?_
          intro H95 p95
          have hu95 := hu1.off p95.1 (fun j hj => by omega)
          have hnw : ∀ q, q < uZ u → rx H95 q (d + 1) = dpv T u f (d + 1) q := fun q hq => by
            rw [p95.2.2.2.in hq (by omega)]
            unfold bada bad
            show _ = !(ex _ _)
            congr 1
            exact ex_cong (fun i _ => ex_cong (fun r hr2 => by rw [hrow r hr2]))
          have hnew := hnw _ hrl; have hb95 := (rx H95 (uRl u) (d + 1)).toNat_le
          refine xq_aload_n dX10_depth_98 rfl rfl ?_
          refine xq_getF clX10 (by decide) rfl fl_RX10_34 dX10_depth_99 (Fx.s0 hF) (Fx.r0_4 hF) ?_
          refine xq_aload_n dX10_depth_102 rfl rfl ?_
          refine xq_getF clX10 (by decide) rfl fl_RX10_67 dX10_depth_103 (Fx.s0 hF) (Fx.r0_9 hF) ?_
          refine xq_getIE clX7 (by decide) rfl fl_RX10_176 dX10_depth_106 (St.s0 (Fx.g67 hF)) hu95.f5 ?_
          refine xq_iload_n dX10_depth_109 rfl rfl ?_
          refine xq_iconst dX10_depth_110 ic1 ?_
          refine xq_iaddN dX10_depth_111 ?_
          refine xq_callV2P clX4 gd_X4_bit dX10_depth_112 ml_RX10_193 im_X4_bit se_X4_bit rfl (Fx.s16 hF) (by exact Nat.le_of_ble_eq_true rfl) (by decide) (c_bit hF (by omega) (by omega)) ?_
          refine xq_if_neN dX10_depth_115 rfl (by omega) ⟨fun h115 => ?_, fun h115 => ?_⟩
          · skip
            refine xq_iincN dX10_depth_120 ic1 rfl rfl ?_
            refine xq_goto dX10_depth_123 rfl ?_
            obtain ⟨t3, b1, b2⟩ := p95.2.1
            exact ih (d + 1) H95 (by omega) (by omega) (ho.tr (p95.1.mo (fun q h => by omega))) ⟨t3, by omega, b2⟩ (fun e he => by
              by_cases w : e = d
              · subst w; rw [← hnew]; exact toNat_inj1 h115
              · exact hno e (by omega)) hnw
          · skip
            refine xq_iload_n dX10_depth_118 rfl rfl ?_
            refine xq_iret dX10_depth_119 rfl ?_
            refine ⟨depV T u f, H95, ⟨rfl, ho.tr (p95.1.mo (fun q h => by omega)), ?_⟩, ?_⟩
            · obtain ⟨t3, b1, b2⟩ := p95.2.1; exact ⟨t3, by omega, b2⟩
            · unfold depV; rw [if_pos hd0, fnd_at (i := d) (fun e he => by rw [hno e (by omega)]; rfl) (by rw [← hnew]; simp [toNat_inj0 h115]) (by omega)]; rfl
    refine vq_intro (by decide) (by exact Nat.le_of_ble_eq_true rfl) rfl ?_
    refine xq_aload_n dX10_depth_0 rfl rfl ?_
    refine xq_iload_n dX10_depth_1 rfl rfl ?_
    refine xq_callV1P clX10 gd_X10_isFact dX10_depth_2 ml_RX10_179 im_X10_isFact se_X10_isFact rfl (Fx.s0 hF) (by exact Nat.le_of_ble_eq_true rfl) (by decide) (c_isFact1 hr hf) ?_
    refine xq_if_neN dX10_depth_5 rfl (by omega) ⟨fun h5 => ?_, fun h5 => ?_⟩
    · skip
      refine xq_aload_n dX10_depth_10 rfl rfl ?_
      refine xq_getF clX10 (by decide) rfl fl_RX10_34 dX10_depth_11 (Fx.s0 hF) (Fx.r0_4 hF) ?_
      refine xq_aload_n dX10_depth_14 rfl rfl ?_
      refine xq_getR clX10 (by decide) rfl fl_RX10_48 dX10_depth_15 (Fx.s0 hF) hr.sc ?_
      refine xq_aload_n dX10_depth_18 rfl rfl ?_
      refine xq_getF clX10 (by decide) rfl fl_RX10_67 dX10_depth_19 (Fx.s0 hF) (Fx.r0_9 hF) ?_
      refine xq_aload_n dX10_depth_22 rfl rfl ?_
      refine xq_getR clX10 (by decide) rfl fl_RX10_48 dX10_depth_23 (Fx.s0 hF) hr.sc ?_
      refine xq_getF clX8 (by decide) rfl fl_RX10_182 dX10_depth_26 (Tx.s0 ht) (Tx.r8 ht) ?_
      refine xq_iload_n dX10_depth_29 rfl rfl ?_
      refine xq_laldN dX10_depth_30 (Tx.s15 ht) (by omega) (by decide) ((hT.fa f hf).2.2) ?_
      refine xq_callV3N clX4 gd_X4_judge dX10_depth_31 ml_RX10_186 im_X4_judge se_X4_judge rfl (Fx.s16 hF) (by exact Nat.le_of_ble_eq_true rfl) (by decide) (c_judge hF ha h67 hu ok ht ht24 ht45 hT tk.nk hfa.2.2 hm (by omega)) ?_
      intro H31 p31
      obtain ⟨o31, m31, j31, r31⟩ := p31
      have hu31 := hu.off o31 (fun j hj => by omega); have hT31 := hT.off o31 (fun j hj => by omega); have s31 : hR H31 0 6 = some t := (o31.R (by omega) 6).trans hr.sc
      obtain ⟨t3, a1, a2⟩ := m31
      refine xq_aload_n dX10_depth_34 rfl rfl ?_
      refine xq_getF clX10 (by decide) rfl fl_RX10_34 dX10_depth_35 (Fx.s0 hF) (Fx.r0_4 hF) ?_
      refine xq_aload_n dX10_depth_38 rfl rfl ?_
      refine xq_getF clX10 (by decide) rfl fl_RX10_67 dX10_depth_39 (Fx.s0 hF) (Fx.r0_9 hF) ?_
      refine xq_aload_n dX10_depth_42 rfl rfl ?_
      refine xq_getR clX10 (by decide) rfl fl_RX10_48 dX10_depth_43 (Fx.s0 hF) s31 ?_
      refine xq_getF clX8 (by decide) rfl fl_RX10_190 dX10_depth_46 (Tx.s0 ht) (Tx.r7 ht) ?_
      refine xq_iload_n dX10_depth_49 rfl rfl ?_
      refine xq_ialdN dX10_depth_50 (Tx.s14 ht) (by omega) (by decide) ((hT31.fa f hf).2.1) ?_
      refine xq_callV2N clX4 gd_X4_keepOnly dX10_depth_51 ml_RX10_200 im_X4_keepOnly se_X4_keepOnly rfl (Fx.s16 hF) (by exact Nat.le_of_ble_eq_true rfl) (by decide) (c_keepOnly hF ha h67 hu31 ok hfa.1) ?_
      intro H51 p51
      obtain ⟨o51, k51⟩ := p51
      have hu51 := hu31.off o51 (fun j hj => by omega)
      have hk0 : rx H51 (uRl u) 0 = true := by rw [k51 _ hrl 0 (by decide), r31 _ hfa.1 hfa.2.1 _ hrl]; exact hd0
      have hb51 := (rx H51 (uRl u) 0).toNat_le
      refine xq_aload_n dX10_depth_54 rfl rfl ?_
      refine xq_getF clX10 (by decide) rfl fl_RX10_34 dX10_depth_55 (Fx.s0 hF) (Fx.r0_4 hF) ?_
      refine xq_aload_n dX10_depth_58 rfl rfl ?_
      refine xq_getF clX10 (by decide) rfl fl_RX10_67 dX10_depth_59 (Fx.s0 hF) (Fx.r0_9 hF) ?_
      refine xq_getIE clX7 (by decide) rfl fl_RX10_176 dX10_depth_62 (St.s0 (Fx.g67 hF)) hu51.f5 ?_
      refine xq_iconst dX10_depth_65 ic0 ?_
      refine xq_callV2P clX4 gd_X4_bit dX10_depth_66 ml_RX10_193 im_X4_bit se_X4_bit rfl (Fx.s16 hF) (by exact Nat.le_of_ble_eq_true rfl) (by decide) (c_bit hF (by omega) (by decide)) ?_
      refine xq_if_neN dX10_depth_69 rfl (by omega) ⟨fun h69 => ?_, fun h69 => ?_⟩
      · skip
        refine xq_iconst dX10_depth_75 ic0 ?_
        refine xq_istore_n dX10_depth_76 rfl rfl ?_
        exact lp 21 0 H51 (by omega) (by omega) ((o31.mo (fun q h => by omega)).tr (o51.mo (fun q h => by omega))) ⟨t3, by omega, a2.off o51 (by omega) (by omega)⟩ (fun e he => absurd he (by omega)) (fun q hq => by rw [k51 q hq 0 (by decide), r31 _ hfa.1 hfa.2.1 q hq]; rfl)
      · skip
        rw [hk0] at h69; cases h69
    · skip
      first | exact absurd h5 (by decide) | exact absurd rfl h5
  refine vq_intro (by decide) (by exact Nat.le_of_ble_eq_true rfl) rfl ?_
  refine xq_aload_n dX10_depth_0 rfl rfl ?_
  refine xq_iload_n dX10_depth_1 rfl rfl ?_
  refine xq_callV1P clX10 gd_X10_isFact dX10_depth_2 ml_RX10_179 im_X10_isFact se_X10_isFact rfl (Fx.s0 hF) (by exact Nat.le_of_ble_eq_true rfl) (by decide) (c_isFact1 hr hf) ?_
  refine xq_if_neN dX10_depth_5 rfl (by omega) ⟨fun h5 => ?_, fun h5 => ?_⟩
  · skip
    refine xq_aload_n dX10_depth_10 rfl rfl ?_
    refine xq_getF clX10 (by decide) rfl fl_RX10_34 dX10_depth_11 (Fx.s0 hF) (Fx.r0_4 hF) ?_
    refine xq_aload_n dX10_depth_14 rfl rfl ?_
    refine xq_getR clX10 (by decide) rfl fl_RX10_48 dX10_depth_15 (Fx.s0 hF) hr.sc ?_
    refine xq_aload_n dX10_depth_18 rfl rfl ?_
    refine xq_getF clX10 (by decide) rfl fl_RX10_67 dX10_depth_19 (Fx.s0 hF) (Fx.r0_9 hF) ?_
    refine xq_aload_n dX10_depth_22 rfl rfl ?_
    refine xq_getR clX10 (by decide) rfl fl_RX10_48 dX10_depth_23 (Fx.s0 hF) hr.sc ?_
    refine xq_getF clX8 (by decide) rfl fl_RX10_182 dX10_depth_26 (Tx.s0 ht) (Tx.r8 ht) ?_
    refine xq_iload_n dX10_depth_29 rfl rfl ?_
    refine xq_laldN dX10_depth_30 (Tx.s15 ht) (by omega) (by decide) ((hT.fa f hf).2.2) ?_
    refine xq_callV3N clX4 gd_X4_judge dX10_depth_31 ml_RX10_186 im_X4_judge se_X4_judge rfl (Fx.s16 hF) (by exact Nat.le_of_ble_eq_true rfl) (by decide) (c_judge hF ha h67 hu ok ht ht24 ht45 hT tk.nk hfa.2.2 hm (by omega)) ?_
    intro H31 p31
    obtain ⟨o31, m31, j31, r31⟩ := p31
    have hu31 := hu.off o31 (fun j hj => by omega); have hT31 := hT.off o31 (fun j hj => by omega); have s31 : hR H31 0 6 = some t := (o31.R (by omega) 6).trans hr.sc
    obtain ⟨t3, a1, a2⟩ := m31
    refine xq_aload_n dX10_depth_34 rfl rfl ?_
    refine xq_getF clX10 (by decide) rfl fl_RX10_34 dX10_depth_35 (Fx.s0 hF) (Fx.r0_4 hF) ?_
    refine xq_aload_n dX10_depth_38 rfl rfl ?_
    refine xq_getF clX10 (by decide) rfl fl_RX10_67 dX10_depth_39 (Fx.s0 hF) (Fx.r0_9 hF) ?_
    refine xq_aload_n dX10_depth_42 rfl rfl ?_
    refine xq_getR clX10 (by decide) rfl fl_RX10_48 dX10_depth_43 (Fx.s0 hF) s31 ?_
    refine xq_getF clX8 (by decide) rfl fl_RX10_190 dX10_depth_46 (Tx.s0 ht) (Tx.r7 ht) ?_
    refine xq_iload_n dX10_depth_49 rfl rfl ?_
    refine xq_ialdN dX10_depth_50 (Tx.s14 ht) (by omega) (by decide) ((hT31.fa f hf).2.1) ?_
    refine xq_callV2N clX4 gd_X4_keepOnly dX10_depth_51 ml_RX10_200 im_X4_keepOnly se_X4_keepOnly rfl (Fx.s16 hF) (by exact Nat.le_of_ble_eq_true rfl) (by decide) (c_keepOnly hF ha h67 hu31 ok hfa.1) ?_
    intro H51 p51
    obtain ⟨o51, k51⟩ := p51
    have hu51 := hu31.off o51 (fun j hj => by omega)
    have hk0 : rx H51 (uRl u) 0 = false := by rw [k51 _ hrl 0 (by decide), r31 _ hfa.1 hfa.2.1 _ hrl]; exact Bool.eq_false_iff.mpr hd0
    have hb51 := (rx H51 (uRl u) 0).toNat_le
    refine xq_aload_n dX10_depth_54 rfl rfl ?_
    refine xq_getF clX10 (by decide) rfl fl_RX10_34 dX10_depth_55 (Fx.s0 hF) (Fx.r0_4 hF) ?_
    refine xq_aload_n dX10_depth_58 rfl rfl ?_
    refine xq_getF clX10 (by decide) rfl fl_RX10_67 dX10_depth_59 (Fx.s0 hF) (Fx.r0_9 hF) ?_
    refine xq_getIE clX7 (by decide) rfl fl_RX10_176 dX10_depth_62 (St.s0 (Fx.g67 hF)) hu51.f5 ?_
    refine xq_iconst dX10_depth_65 ic0 ?_
    refine xq_callV2P clX4 gd_X4_bit dX10_depth_66 ml_RX10_193 im_X4_bit se_X4_bit rfl (Fx.s16 hF) (by exact Nat.le_of_ble_eq_true rfl) (by decide) (c_bit hF (by omega) (by decide)) ?_
    refine xq_if_neN dX10_depth_69 rfl (by omega) ⟨fun h69 => ?_, fun h69 => ?_⟩
    · skip
      rw [hk0] at h69; exact absurd rfl h69
    · skip
      refine xq_bipush dX10_depth_72 bpm2 ?_
      refine xq_iret dX10_depth_74 rfl ?_
      exact ⟨depV T u f, H51, ⟨rfl, (o31.mo (fun q h => by omega)).tr (o51.mo (fun q h => by omega)), t3, by omega, a2.off o51 (by omega) (by omega)⟩, by unfold depV; rw [if_neg hd0, zm2]⟩
  · skip
    first | exact absurd h5 (by decide) | exact absurd rfl h5
noncomputable def soV (T : uTx) (u : uSt) (f : Nat) : Nat := ct (fun p => kv T u (tRo T f) p) (uZ u)
theorem c_likely0 (hr : RdP S H t T u z) (hno : ¬ (hasB w (tNf T) = true ∧ (w2 = 0 ∨ w2 = nI 1))) : Pv mX10_likely 4 [.ref 0, .int w, .int w2] S H (vZ (-1)) := by
  have hF := hr.fx
  refine vq_ev (vq_intro (by decide) (by exact Nat.le_of_ble_eq_true rfl) rfl ?_)
  refine xq_aload_n dX10_likely_0 rfl rfl ?_
  refine xq_iload_n dX10_likely_1 rfl rfl ?_
  refine xq_callV1P clX10 gd_X10_isFact dX10_likely_2 ml_RX10_179 im_X10_isFact se_X10_isFact rfl (Fx.s0 hF) (by exact Nat.le_of_ble_eq_true rfl) (by decide) (c_isFact hr) ?_
  refine xq_if_eqB dX10_likely_5 rfl ⟨fun h5 => ?_, fun h5 => ?_⟩
  · skip
    refine xq_iconst dX10_likely_17 icm1 ?_
    refine xq_iret dX10_likely_18 rfl ?_
    show _ = _; rw [zm1]
  · skip
    refine xq_iload_n dX10_likely_8 rfl rfl ?_
    refine xq_if_eq dX10_likely_9 rfl ⟨fun h9 => ?_, fun h9 => ?_⟩
    · skip
      exact absurd ⟨h5, Or.inl h9⟩ hno
    · skip
      refine xq_iload_n dX10_likely_12 rfl rfl ?_
      refine xq_iconst dX10_likely_13 ic1 ?_
      refine xq_icmp_eq dX10_likely_14 rfl ⟨fun h14 => ?_, fun h14 => ?_⟩
      · skip
        exact absurd ⟨h5, Or.inr h14⟩ hno
      · skip
        refine xq_iconst dX10_likely_17 icm1 ?_
        refine xq_iret dX10_likely_18 rfl ?_
        show _ = _; rw [zm1]
theorem c_likely1 (hr : RdP S H t T u z) (hf : f < tNf T) (hl : l < 2) : Hv mX10_likely 4 [.ref 0, vN f, vN l] S H vN (fun x H' => x = ltm (if l = 0 then soV T u f else uZ u) (soV T u f) (uZ u) ∧ Off (fun q => 16 ≤ q ∧ q ≤ 21) H H' ∧ ∃ t2, t2 ≤ z + 500 ∧ MiP H' t2) := by
  have hF := hr.fx; have hT := hr.tx; have tk := hr.tk; have hu := hr.st; have ok := hr.ok; have hm := hr.mi; have ht := hr.gt; have ht24 := hr.t24; have ht45 := hr.t45; have hz := ok.n; have hnp := ok.np; have hrl := ok.rl; have hnpe := hr.np; have h67 : 67 ≤ 67 := Nat.le_refl _; have ha := Fx.g67 hF; have hzz := hr.zb; have hfa := tk.fa f hf; have hnf := tk.nf; have hso : soV T u f ≤ uZ u := ct_le _ _
  refine vq_intro (by decide) (by exact Nat.le_of_ble_eq_true rfl) rfl ?_
  refine xq_aload_n dX10_likely_0 rfl rfl ?_
  refine xq_iload_n dX10_likely_1 rfl rfl ?_
  refine xq_callV1P clX10 gd_X10_isFact dX10_likely_2 ml_RX10_179 im_X10_isFact se_X10_isFact rfl (Fx.s0 hF) (by exact Nat.le_of_ble_eq_true rfl) (by decide) (c_isFact1 hr hf) ?_
  refine xq_if_eqN dX10_likely_5 rfl (by omega) ⟨fun h5 => ?_, fun h5 => ?_⟩
  · skip
    first | exact absurd h5 (by decide) | exact absurd rfl h5
  · skip
    refine xq_iload_n dX10_likely_8 rfl rfl ?_
    refine xq_if_eqN dX10_likely_9 rfl (by omega) ⟨fun h9 => ?_, fun h9 => ?_⟩
    · skip
      refine xq_aload_n dX10_likely_19 rfl rfl ?_
      refine xq_getF clX10 (by decide) rfl fl_RX10_34 dX10_likely_20 (Fx.s0 hF) (Fx.r0_4 hF) ?_
      refine xq_aload_n dX10_likely_23 rfl rfl ?_
      refine xq_getR clX10 (by decide) rfl fl_RX10_48 dX10_likely_24 (Fx.s0 hF) hr.sc ?_
      refine xq_aload_n dX10_likely_27 rfl rfl ?_
      refine xq_getF clX10 (by decide) rfl fl_RX10_67 dX10_likely_28 (Fx.s0 hF) (Fx.r0_9 hF) ?_
      refine xq_aload_n dX10_likely_31 rfl rfl ?_
      refine xq_getR clX10 (by decide) rfl fl_RX10_48 dX10_likely_32 (Fx.s0 hF) hr.sc ?_
      refine xq_getF clX8 (by decide) rfl fl_RX10_182 dX10_likely_35 (Tx.s0 ht) (Tx.r8 ht) ?_
      refine xq_iload_n dX10_likely_38 rfl rfl ?_
      refine xq_laldN dX10_likely_39 (Tx.s15 ht) (by omega) (by decide) ((hT.fa f hf).2.2) ?_
      refine xq_callV3N clX4 gd_X4_judge dX10_likely_40 ml_RX10_186 im_X4_judge se_X4_judge rfl (Fx.s16 hF) (by exact Nat.le_of_ble_eq_true rfl) (by decide) (c_judge hF ha h67 hu ok ht ht24 ht45 hT tk.nk hfa.2.2 hm (by omega)) ?_
      intro H40 p40
      obtain ⟨o40, m40, j40, r40⟩ := p40
      have hu40 := hu.off o40 (fun j hj => by omega); have hT40 := hT.off o40 (fun j hj => by omega); have s40 : hR H40 0 6 = some t := (o40.R (by omega) 6).trans hr.sc
      refine xq_aload_n dX10_likely_43 rfl rfl ?_
      refine xq_getF clX10 (by decide) rfl fl_RX10_34 dX10_likely_44 (Fx.s0 hF) (Fx.r0_4 hF) ?_
      refine xq_aload_n dX10_likely_47 rfl rfl ?_
      refine xq_getF clX10 (by decide) rfl fl_RX10_67 dX10_likely_48 (Fx.s0 hF) (Fx.r0_9 hF) ?_
      refine xq_aload_n dX10_likely_51 rfl rfl ?_
      refine xq_getR clX10 (by decide) rfl fl_RX10_48 dX10_likely_52 (Fx.s0 hF) s40 ?_
      refine xq_getF clX8 (by decide) rfl fl_RX10_190 dX10_likely_55 (Tx.s0 ht) (Tx.r7 ht) ?_
      refine xq_iload_n dX10_likely_58 rfl rfl ?_
      refine xq_ialdN dX10_likely_59 (Tx.s14 ht) (by omega) (by decide) ((hT40.fa f hf).2.1) ?_
      refine xq_callV2P clX4 gd_X4_howMany dX10_likely_60 ml_RX10_288 im_X4_howMany se_X4_howMany rfl (Fx.s16 hF) (by exact Nat.le_of_ble_eq_true rfl) (by decide) (c_howMany hF ha h67 hu40 ok hfa.1) ?_
      rw [show ct (fun p => rx H40 p (tRo T f)) (uZ u) = soV T u f from ct_cong (fun q hq => r40 _ hfa.1 hfa.2.1 q hq)]
      refine xq_istore_n dX10_likely_63 rfl rfl ?_
      refine xq_iload_n dX10_likely_64 rfl rfl ?_
      refine xq_if_neN dX10_likely_65 rfl (by omega) ⟨fun h65 => ?_, fun h65 => ?_⟩
      · skip
        refine xq_aload_n dX10_likely_72 rfl rfl ?_
        refine xq_getF clX10 (by decide) rfl fl_RX10_67 dX10_likely_73 (Fx.s0 hF) (Fx.r0_9 hF) ?_
        refine xq_getIE clX7 (by decide) rfl fl_RX10_167 dX10_likely_76 (St.s0 (Fx.g67 hF)) hu40.sz ?_
        refine xq_iload_n dX10_likely_79 rfl rfl ?_
        refine xq_aload_n dX10_likely_80 rfl rfl ?_
        refine xq_getF clX10 (by decide) rfl fl_RX10_67 dX10_likely_81 (Fx.s0 hF) (Fx.r0_9 hF) ?_
        refine xq_getIE clX7 (by decide) rfl fl_RX10_167 dX10_likely_84 (St.s0 (Fx.g67 hF)) hu40.sz ?_
        refine xq_callS3P gd_X10_leastTerm dX10_likely_87 ml_RX10_281 im_X10_leastTerm (by exact Nat.le_of_ble_eq_true rfl) (by decide) (c_leastTerm (by omega) (by omega) (by omega)) ?_
        refine xq_iret dX10_likely_90 rfl ?_
        refine ⟨_, H40, ⟨?_, o40.mo (fun q h => by omega), ?_⟩, rfl⟩
        · rw [if_neg h65]
        · obtain ⟨t2, a1, a2⟩ := m40; exact ⟨t2, by omega, a2⟩
      · skip
        refine xq_iload_n dX10_likely_68 rfl rfl ?_
        refine xq_goto dX10_likely_69 rfl ?_
        refine xq_iload_n dX10_likely_79 rfl rfl ?_
        refine xq_aload_n dX10_likely_80 rfl rfl ?_
        refine xq_getF clX10 (by decide) rfl fl_RX10_67 dX10_likely_81 (Fx.s0 hF) (Fx.r0_9 hF) ?_
        refine xq_getIE clX7 (by decide) rfl fl_RX10_167 dX10_likely_84 (St.s0 (Fx.g67 hF)) hu40.sz ?_
        refine xq_callS3P gd_X10_leastTerm dX10_likely_87 ml_RX10_281 im_X10_leastTerm (by exact Nat.le_of_ble_eq_true rfl) (by decide) (c_leastTerm (by omega) (by omega) (by omega)) ?_
        refine xq_iret dX10_likely_90 rfl ?_
        refine ⟨_, H40, ⟨?_, o40.mo (fun q h => by omega), ?_⟩, rfl⟩
        · rw [if_pos h65]
        · obtain ⟨t2, a1, a2⟩ := m40; exact ⟨t2, by omega, a2⟩
    · skip
      refine xq_iload_n dX10_likely_12 rfl rfl ?_
      refine xq_iconst dX10_likely_13 ic1 ?_
      refine xq_icmp_eqN dX10_likely_14 rfl (by omega) (by omega) ⟨fun h14 => ?_, fun h14 => ?_⟩
      · skip
        refine xq_aload_n dX10_likely_19 rfl rfl ?_
        refine xq_getF clX10 (by decide) rfl fl_RX10_34 dX10_likely_20 (Fx.s0 hF) (Fx.r0_4 hF) ?_
        refine xq_aload_n dX10_likely_23 rfl rfl ?_
        refine xq_getR clX10 (by decide) rfl fl_RX10_48 dX10_likely_24 (Fx.s0 hF) hr.sc ?_
        refine xq_aload_n dX10_likely_27 rfl rfl ?_
        refine xq_getF clX10 (by decide) rfl fl_RX10_67 dX10_likely_28 (Fx.s0 hF) (Fx.r0_9 hF) ?_
        refine xq_aload_n dX10_likely_31 rfl rfl ?_
        refine xq_getR clX10 (by decide) rfl fl_RX10_48 dX10_likely_32 (Fx.s0 hF) hr.sc ?_
        refine xq_getF clX8 (by decide) rfl fl_RX10_182 dX10_likely_35 (Tx.s0 ht) (Tx.r8 ht) ?_
        refine xq_iload_n dX10_likely_38 rfl rfl ?_
        refine xq_laldN dX10_likely_39 (Tx.s15 ht) (by omega) (by decide) ((hT.fa f hf).2.2) ?_
        refine xq_callV3N clX4 gd_X4_judge dX10_likely_40 ml_RX10_186 im_X4_judge se_X4_judge rfl (Fx.s16 hF) (by exact Nat.le_of_ble_eq_true rfl) (by decide) (c_judge hF ha h67 hu ok ht ht24 ht45 hT tk.nk hfa.2.2 hm (by omega)) ?_
        intro H40 p40
        obtain ⟨o40, m40, j40, r40⟩ := p40
        have hu40 := hu.off o40 (fun j hj => by omega); have hT40 := hT.off o40 (fun j hj => by omega); have s40 : hR H40 0 6 = some t := (o40.R (by omega) 6).trans hr.sc
        refine xq_aload_n dX10_likely_43 rfl rfl ?_
        refine xq_getF clX10 (by decide) rfl fl_RX10_34 dX10_likely_44 (Fx.s0 hF) (Fx.r0_4 hF) ?_
        refine xq_aload_n dX10_likely_47 rfl rfl ?_
        refine xq_getF clX10 (by decide) rfl fl_RX10_67 dX10_likely_48 (Fx.s0 hF) (Fx.r0_9 hF) ?_
        refine xq_aload_n dX10_likely_51 rfl rfl ?_
        refine xq_getR clX10 (by decide) rfl fl_RX10_48 dX10_likely_52 (Fx.s0 hF) s40 ?_
        refine xq_getF clX8 (by decide) rfl fl_RX10_190 dX10_likely_55 (Tx.s0 ht) (Tx.r7 ht) ?_
        refine xq_iload_n dX10_likely_58 rfl rfl ?_
        refine xq_ialdN dX10_likely_59 (Tx.s14 ht) (by omega) (by decide) ((hT40.fa f hf).2.1) ?_
        refine xq_callV2P clX4 gd_X4_howMany dX10_likely_60 ml_RX10_288 im_X4_howMany se_X4_howMany rfl (Fx.s16 hF) (by exact Nat.le_of_ble_eq_true rfl) (by decide) (c_howMany hF ha h67 hu40 ok hfa.1) ?_
        rw [show ct (fun p => rx H40 p (tRo T f)) (uZ u) = soV T u f from ct_cong (fun q hq => r40 _ hfa.1 hfa.2.1 q hq)]
        refine xq_istore_n dX10_likely_63 rfl rfl ?_
        refine xq_iload_n dX10_likely_64 rfl rfl ?_
        refine xq_if_neN dX10_likely_65 rfl (by omega) ⟨fun h65 => ?_, fun h65 => ?_⟩
        · skip
          refine xq_aload_n dX10_likely_72 rfl rfl ?_
          refine xq_getF clX10 (by decide) rfl fl_RX10_67 dX10_likely_73 (Fx.s0 hF) (Fx.r0_9 hF) ?_
          refine xq_getIE clX7 (by decide) rfl fl_RX10_167 dX10_likely_76 (St.s0 (Fx.g67 hF)) hu40.sz ?_
          refine xq_iload_n dX10_likely_79 rfl rfl ?_
          refine xq_aload_n dX10_likely_80 rfl rfl ?_
          refine xq_getF clX10 (by decide) rfl fl_RX10_67 dX10_likely_81 (Fx.s0 hF) (Fx.r0_9 hF) ?_
          refine xq_getIE clX7 (by decide) rfl fl_RX10_167 dX10_likely_84 (St.s0 (Fx.g67 hF)) hu40.sz ?_
          refine xq_callS3P gd_X10_leastTerm dX10_likely_87 ml_RX10_281 im_X10_leastTerm (by exact Nat.le_of_ble_eq_true rfl) (by decide) (c_leastTerm (by omega) (by omega) (by omega)) ?_
          refine xq_iret dX10_likely_90 rfl ?_
          refine ⟨_, H40, ⟨?_, o40.mo (fun q h => by omega), ?_⟩, rfl⟩
          · rw [if_neg h65]
          · obtain ⟨t2, a1, a2⟩ := m40; exact ⟨t2, by omega, a2⟩
        · skip
          refine xq_iload_n dX10_likely_68 rfl rfl ?_
          refine xq_goto dX10_likely_69 rfl ?_
          refine xq_iload_n dX10_likely_79 rfl rfl ?_
          refine xq_aload_n dX10_likely_80 rfl rfl ?_
          refine xq_getF clX10 (by decide) rfl fl_RX10_67 dX10_likely_81 (Fx.s0 hF) (Fx.r0_9 hF) ?_
          refine xq_getIE clX7 (by decide) rfl fl_RX10_167 dX10_likely_84 (St.s0 (Fx.g67 hF)) hu40.sz ?_
          refine xq_callS3P gd_X10_leastTerm dX10_likely_87 ml_RX10_281 im_X10_leastTerm (by exact Nat.le_of_ble_eq_true rfl) (by decide) (c_leastTerm (by omega) (by omega) (by omega)) ?_
          refine xq_iret dX10_likely_90 rfl ?_
          refine ⟨_, H40, ⟨?_, o40.mo (fun q h => by omega), ?_⟩, rfl⟩
          · rw [if_pos h65]
          · obtain ⟨t2, a1, a2⟩ := m40; exact ⟨t2, by omega, a2⟩
      · skip
        exact absurd h14 (by omega)
def lkS (u : uSt) (p : Nat) (n : Nat) : Int × Nat := fo (fun q st => if q ≠ p ∧ (uSe u p).testBit q = false ∧ mst u p q < st.2 then ((q : Int), mst u p q) else st) (-2, 730) n
theorem lkS_bd (ok : StOk u) (p : Nat) : ∀ n, ((lkS u p n).1 = -2 ∨ (0 ≤ (lkS u p n).1 ∧ (lkS u p n).1 < n)) ∧ (lkS u p n).2 ≤ 730
  | 0 => ⟨Or.inl rfl, Nat.le_refl _⟩
  | n + 1 => by
    have h := lkS_bd ok p n
    have hm : mst u p n ≤ uZ u := mst_le u p n 3
    have hz := ok.n
    have e : lkS u p (n + 1) = if n ≠ p ∧ (uSe u p).testBit n = false ∧ mst u p n < (lkS u p n).2 then ((n : Int), mst u p n) else lkS u p n := rfl
    rw [e]
    split
    · exact ⟨Or.inr ⟨by omega, by show (n : Int) < _; omega⟩, by show mst u p n ≤ _; omega⟩
    · exact ⟨by omega, h.2⟩
def looV (u : uSt) (p l : Nat) : Int := if l = 0 ∨ (lkS u p (uNp u)).1 < 0 then (lkS u p (uNp u)).1 else ((lkS u p (uNp u)).2 : Int)
theorem c_look0 (hr : RdP S H t T u z) (hno : ¬ (hasB w (tNp T) = true ∧ (w2 = 0 ∨ w2 = nI 1))) : Pv mX10_look 4 [.ref 0, .int w, .int w2] S H (vZ (-1)) := by
  have hF := hr.fx
  refine vq_ev (vq_intro (by decide) (by exact Nat.le_of_ble_eq_true rfl) rfl ?_)
  refine xq_aload_n dX10_look_0 rfl rfl ?_
  refine xq_iload_n dX10_look_1 rfl rfl ?_
  refine xq_callV1P clX10 gd_X10_isPerson dX10_look_2 ml_RX10_134 im_X10_isPerson se_X10_isPerson rfl (Fx.s0 hF) (by exact Nat.le_of_ble_eq_true rfl) (by decide) (c_isPerson hr) ?_
  refine xq_if_eqB dX10_look_5 rfl ⟨fun h5 => ?_, fun h5 => ?_⟩
  · skip
    refine xq_iconst dX10_look_17 icm1 ?_
    refine xq_iret dX10_look_18 rfl ?_
    show _ = _; rw [zm1]
  · skip
    refine xq_iload_n dX10_look_8 rfl rfl ?_
    refine xq_if_eq dX10_look_9 rfl ⟨fun h9 => ?_, fun h9 => ?_⟩
    · skip
      exact absurd ⟨h5, Or.inl h9⟩ hno
    · skip
      refine xq_iload_n dX10_look_12 rfl rfl ?_
      refine xq_iconst dX10_look_13 ic1 ?_
      refine xq_icmp_eq dX10_look_14 rfl ⟨fun h14 => ?_, fun h14 => ?_⟩
      · skip
        exact absurd ⟨h5, Or.inr h14⟩ hno
      · skip
        refine xq_iconst dX10_look_17 icm1 ?_
        refine xq_iret dX10_look_18 rfl ?_
        show _ = _; rw [zm1]
theorem c_look1 (hr : RdP S H t T u z) (hp : p < tNp T) (hl : l < 2) : Pv mX10_look 4 [.ref 0, vN p, vN l] S H (vZ (looV u p l)) := by
  have hF := hr.fx; have hT := hr.tx; have tk := hr.tk; have hu := hr.st; have ok := hr.ok; have hm := hr.mi; have ht := hr.gt; have ht24 := hr.t24; have ht45 := hr.t45; have hz := ok.n; have hnp := ok.np; have hrl := ok.rl; have hnpe := hr.np; have h67 : 67 ≤ 67 := Nat.le_refl _; have ha := Fx.g67 hF; have hzz := hr.zb
  have lp : ∀ (fz : Nat) (q : Nat) (st : Int × Nat), uNp u - q < fz → q ≤ uNp u → st = lkS u p q → Xq mX10_look 4 0 0 30 [some (.ref 0), some (vN p), some (vN l), some (.int (zI st.1)), some (vN st.2), some (vN q), none] [] S H (fun R => R = (some (vZ (looV u p l)), S, H)) := by
    intro fz
    induction fz with
    | zero => intro q  st  hfz; exact absurd hfz (by omega)
    | succ fz ih =>
      intro q  st  hfz hq hs
      have hbd := lkS_bd ok p q; rw [← hs] at hbd
      refine xq_iload dX10_look_30 rfl ?_
      refine xq_aload_n dX10_look_32 rfl rfl ?_
      refine xq_getF clX10 (by decide) rfl fl_RX10_67 dX10_look_33 (Fx.s0 hF) (Fx.r0_9 hF) ?_
      refine xq_getIE clX7 (by decide) rfl fl_RX10_276 dX10_look_36 (St.s0 (Fx.g67 hF)) hu.f6 ?_
      refine xq_icmp_geN dX10_look_39 rfl (by omega) (by omega) ⟨fun h39 => ?_, fun h39 => ?_⟩
      · skip
        refine xq_iload_n dX10_look_113 rfl rfl ?_
        refine xq_if_eqN dX10_look_114 rfl (by omega) ⟨fun h114 => ?_, fun h114 => ?_⟩
        · skip
          refine xq_iload_n dX10_look_121 rfl rfl ?_
          refine xq_goto dX10_look_122 rfl ?_
          refine xq_iret dX10_look_127 rfl ?_
          have e : uNp u = q := by omega
          show _ = _; unfold looV; rw [e, ← hs, if_pos (Or.inl h114)]
        · skip
          refine xq_iload_n dX10_look_117 rfl rfl ?_
          refine xq_if_ge dX10_look_118 rfl ⟨fun h118 => ?_, fun h118 => ?_⟩
          · skip
            refine xq_iload dX10_look_125 rfl ?_
            refine xq_iret dX10_look_127 rfl ?_
            have e : uNp u = q := by omega
            show _ = _; unfold looV; rw [e, ← hs, if_neg (by rintro (w | w); (· exact h114 w); (· have := (zI_lt0 (b := st.1) (by omega) (by omega)).mpr w; rw [Int32.lt_iff_toInt_lt] at this; rw [Int32.le_iff_toInt_le] at h118; omega))]; rfl
          · skip
            refine xq_iload_n dX10_look_121 rfl rfl ?_
            refine xq_goto dX10_look_122 rfl ?_
            refine xq_iret dX10_look_127 rfl ?_
            have e : uNp u = q := by omega
            show _ = _; unfold looV; rw [e, ← hs, if_pos (Or.inr (by have := (zI_lt0 (b := st.1) (by omega) (by omega)); rw [Int32.lt_iff_toInt_lt] at this; rw [Int32.le_iff_toInt_le] at h118; exact this.mp (by omega)))]
      · skip
        refine xq_iload dX10_look_42 rfl ?_
        refine xq_iload_n dX10_look_44 rfl rfl ?_
        refine xq_icmp_eqN dX10_look_45 rfl (by omega) (by omega) ⟨fun h45 => ?_, fun h45 => ?_⟩
        · skip
          refine xq_iconst dX10_look_69 ic0 ?_
          refine xq_istore dX10_look_70 rfl ?_
          refine xq_iload dX10_look_72 rfl ?_
          refine xq_if_eqN dX10_look_74 rfl (by omega) ⟨fun h74 => ?_, fun h74 => ?_⟩
          · skip
            refine xq_iincN dX10_look_107 ic1 rfl rfl ?_
            refine xq_goto dX10_look_110 rfl ?_
            exact xq_fgt (ih (q + 1) st (by omega) (by omega) (by rw [hs]; show _ = (if _ then _ else _); rw [if_neg (fun w => w.1 h45)]; rfl)) (by exact And.intro rfl (And.intro rfl (And.intro rfl (And.intro rfl (And.intro rfl (And.intro rfl (trivial)))))))
          · skip
            first | exact absurd h74 (by decide) | exact absurd rfl h74
        · skip
          have hsb := shr_le (uSe u p) q; have hsb2 : uSe u p >>> q &&& 1 ≤ 1 := Nat.and_le_right; have hse := ok.se (show p < 6 by omega)
          refine xq_aload_n dX10_look_48 rfl rfl ?_
          refine xq_getF clX10 (by decide) rfl fl_RX10_67 dX10_look_49 (Fx.s0 hF) (Fx.r0_9 hF) ?_
          refine xq_getF clX7 (by decide) rfl fl_RX10_144 dX10_look_52 (St.s0 (Fx.g67 hF)) (St.r1 (Fx.g67 hF)) ?_
          refine xq_iload_n dX10_look_55 rfl rfl ?_
          refine xq_ialdN dX10_look_56 (St.s2 (Fx.g67 hF)) (by omega) (by decide) (hu.se (by omega)) ?_
          refine xq_iload dX10_look_57 rfl ?_
          refine xq_ishrN dX10_look_59 (by omega) (by omega) ?_
          refine xq_iconst dX10_look_60 ic1 ?_
          refine xq_iandN dX10_look_61 ?_
          refine xq_if_neN dX10_look_62 rfl (by omega) ⟨fun h62 => ?_, fun h62 => ?_⟩
          · skip
            refine xq_iconst dX10_look_69 ic0 ?_
            refine xq_istore dX10_look_70 rfl ?_
            refine xq_iload dX10_look_72 rfl ?_
            refine xq_if_eqN dX10_look_74 rfl (by omega) ⟨fun h74 => ?_, fun h74 => ?_⟩
            · skip
              refine xq_iincN dX10_look_107 ic1 rfl rfl ?_
              refine xq_goto dX10_look_110 rfl ?_
              exact xq_fgt (ih (q + 1) st (by omega) (by omega) (by rw [hs]; show _ = (if _ then _ else _); rw [if_neg (fun w => absurd ((tb_shr _ _).mpr w.2.1) h62)]; rfl)) (by exact And.intro rfl (And.intro rfl (And.intro rfl (And.intro rfl (And.intro rfl (And.intro rfl (trivial)))))))
            · skip
              first | exact absurd h74 (by decide) | exact absurd rfl h74
          · skip
            refine xq_iconst dX10_look_65 ic1 ?_
            refine xq_goto dX10_look_66 rfl ?_
            refine xq_istore dX10_look_70 rfl ?_
            refine xq_iload dX10_look_72 rfl ?_
            refine xq_if_eqN dX10_look_74 rfl (by omega) ⟨fun h74 => ?_, fun h74 => ?_⟩
            · skip
              first | exact absurd h74 (by decide) | exact absurd rfl h74
            · skip
              have hmq : mst u p q ≤ uZ u := mst_le u p q 3
              refine xq_aload_n dX10_look_77 rfl rfl ?_
              refine xq_getF clX10 (by decide) rfl fl_RX10_67 dX10_look_78 (Fx.s0 hF) (Fx.r0_9 hF) ?_
              refine xq_iload_n dX10_look_81 rfl rfl ?_
              refine xq_iload dX10_look_82 rfl ?_
              refine xq_callV2P clX7 gd_X7_mostFor dX10_look_84 ml_RX10_278 im_X7_mostFor se_X7_mostFor rfl (St.s0 (Fx.g67 hF)) (by exact Nat.le_of_ble_eq_true rfl) (by decide) (c_mostFor ha hu ok (by omega) (by omega)) ?_
              refine xq_iload dX10_look_87 rfl ?_
              refine xq_icmp_geN dX10_look_89 rfl (by omega) (by omega) ⟨fun h89 => ?_, fun h89 => ?_⟩
              · skip
                refine xq_iincN dX10_look_107 ic1 rfl rfl ?_
                refine xq_goto dX10_look_110 rfl ?_
                exact xq_fgt (ih (q + 1) st (by omega) (by omega) (by rw [hs]; show _ = (if _ then _ else _); rw [if_neg (fun w => absurd w.2.2 (by rw [hs] at h89; have h89b : (lkS u p q).2 ≤ mst u p q := h89; show ¬ mst u p q < (lkS u p q).2; omega))]; rfl)) (by exact And.intro rfl (And.intro rfl (And.intro rfl (And.intro rfl (And.intro rfl (And.intro rfl (trivial)))))))
              · skip
                refine xq_iload dX10_look_92 rfl ?_
                refine xq_istore_n dX10_look_94 rfl rfl ?_
                refine xq_aload_n dX10_look_95 rfl rfl ?_
                refine xq_getF clX10 (by decide) rfl fl_RX10_67 dX10_look_96 (Fx.s0 hF) (Fx.r0_9 hF) ?_
                refine xq_iload_n dX10_look_99 rfl rfl ?_
                refine xq_iload dX10_look_100 rfl ?_
                refine xq_callV2P clX7 gd_X7_mostFor dX10_look_102 ml_RX10_278 im_X7_mostFor se_X7_mostFor rfl (St.s0 (Fx.g67 hF)) (by exact Nat.le_of_ble_eq_true rfl) (by decide) (c_mostFor ha hu ok (by omega) (by omega)) ?_
                refine xq_istore dX10_look_105 rfl ?_
                refine xq_iincN dX10_look_107 ic1 rfl rfl ?_
                refine xq_goto dX10_look_110 rfl ?_
                exact xq_fgt (ih (q + 1) ((q : Int), mst u p q) (by omega) (by omega) (by show _ = (if _ then _ else _); rw [if_pos ⟨h45, (tb_shr _ _).mp h62, by rw [hs] at h89; exact h89⟩])) (by exact And.intro rfl (And.intro rfl (And.intro rfl (And.intro rfl (And.intro rfl (And.intro rfl (trivial)))))))
  refine vq_ev (vq_intro (by decide) (by exact Nat.le_of_ble_eq_true rfl) rfl ?_)
  refine xq_aload_n dX10_look_0 rfl rfl ?_
  refine xq_iload_n dX10_look_1 rfl rfl ?_
  refine xq_callV1P clX10 gd_X10_isPerson dX10_look_2 ml_RX10_134 im_X10_isPerson se_X10_isPerson rfl (Fx.s0 hF) (by exact Nat.le_of_ble_eq_true rfl) (by decide) (c_isPerson1 hr hp) ?_
  refine xq_if_eqN dX10_look_5 rfl (by omega) ⟨fun h5 => ?_, fun h5 => ?_⟩
  · skip
    first | exact absurd h5 (by decide) | exact absurd rfl h5
  · skip
    refine xq_iload_n dX10_look_8 rfl rfl ?_
    refine xq_if_eqN dX10_look_9 rfl (by omega) ⟨fun h9 => ?_, fun h9 => ?_⟩
    · skip
      refine xq_bipush dX10_look_19 bpm2 ?_
      rw [zm2]
      refine xq_istore_n dX10_look_21 rfl rfl ?_
      refine xq_sipush dX10_look_22 sp730 ?_
      refine xq_istore dX10_look_25 rfl ?_
      refine xq_iconst dX10_look_27 ic0 ?_
      refine xq_istore dX10_look_28 rfl ?_
      exact xq_fgt (lp (uNp u + 1) 0 (-2, 730) (by omega) (by omega) rfl) (by exact And.intro rfl (And.intro rfl (And.intro rfl (And.intro rfl (And.intro rfl (And.intro rfl trivial))))))
    · skip
      refine xq_iload_n dX10_look_12 rfl rfl ?_
      refine xq_iconst dX10_look_13 ic1 ?_
      refine xq_icmp_eqN dX10_look_14 rfl (by omega) (by omega) ⟨fun h14 => ?_, fun h14 => ?_⟩
      · skip
        refine xq_bipush dX10_look_19 bpm2 ?_
        rw [zm2]
        refine xq_istore_n dX10_look_21 rfl rfl ?_
        refine xq_sipush dX10_look_22 sp730 ?_
        refine xq_istore dX10_look_25 rfl ?_
        refine xq_iconst dX10_look_27 ic0 ?_
        refine xq_istore dX10_look_28 rfl ?_
        exact xq_fgt (lp (uNp u + 1) 0 (-2, 730) (by omega) (by omega) rfl) (by exact And.intro rfl (And.intro rfl (And.intro rfl (And.intro rfl (And.intro rfl (And.intro rfl trivial))))))
      · skip
        exact absurd h14 (by omega)
end R3
