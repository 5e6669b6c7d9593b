/-! ===== HatRoom: parts, teach, look, guess, likely, secret, rests ===== -/
section R2
variable {S : xS} {H H1 : xH} {t z k p q f i j l m : Nat} {u : uSt} {T : uTx} {w w2 w3 : Int32}
theorem c_parts (hr : RdP S H t T u z) : Hv mX10_parts 2 [.ref 0] S H vN (fun x H' => x = ct (fun p => cn u p == p) (uZ u) ∧ Off (fun q => 16 ≤ q ∧ q ≤ 21) H H' ∧ (∃ t2, t2 ≤ z + 500 ∧ MiP H' t2) ∧ JC u (cn u)) := by
  have hF := hr.fx; have hT := hr.tx; have tk := hr.tk; have hu := hr.st; have ok := hr.ok; have hm := hr.mi; have ht := hr.gt; have ht24 := hr.t24; have ht45 := hr.t45; have hz := ok.n; have hnp := ok.np; have hrl := ok.rl; have hnpe := hr.np; have h67 : 67 ≤ 67 := Nat.le_refl _; have ha := Fx.g67 hF; have hzz := hr.zb
  refine vq_intro (by decide) (by exact Nat.le_of_ble_eq_true rfl) rfl ?_
  refine xq_aload_n dX10_parts_0 rfl rfl ?_
  refine xq_getF clX10 (by decide) rfl fl_RX10_34 dX10_parts_1 (Fx.s0 hF) (Fx.r0_4 hF) ?_
  refine xq_aload_n dX10_parts_4 rfl rfl ?_
  refine xq_getF clX10 (by decide) rfl fl_RX10_67 dX10_parts_5 (Fx.s0 hF) (Fx.r0_9 hF) ?_
  refine xq_callV1H clX4 gd_X4_join dX10_parts_8 ml_RX10_269 im_X4_join se_X4_join rfl (Fx.s16 hF) (by exact Nat.le_of_ble_eq_true rfl) (by decide) (c_join hF ha h67 hu ok hm (by omega)) ?_
  intro x8 H8 p8
  refine xq_iret dX10_parts_11 rfl ?_
  obtain ⟨q1, q2, ⟨t2, a1, a2⟩, q4, q5, q6⟩ := p8; exact ⟨_, H8, ⟨q1, q2.mo (fun q h => by omega), ⟨t2, by omega, a2⟩, q5⟩, rfl⟩
noncomputable def fsV (T : uTx) (u : uSt) (p : Nat) : Nat := fo (fun f b => b ||| (kv T u (tRo T f) p).toNat <<< f) 0 (tNf T)
noncomputable def barV (T : uTx) (u : uSt) (m s : Nat) : Bool := ex (fun p => riv u m p && (s &&& fsV T u p == s)) (uZ u)
noncomputable def tchV (T : uTx) (u : uSt) (m : Nat) : Int := ffs (barV T u m) (fsV T u (uRl u)) 256
theorem fo_cong {α : Type} {f g : Nat → α → α} {x : α} : ∀ {n : Nat}, (∀ k, k < n → ∀ y, f k y = g k y) → fo f x n = fo g x n
  | 0, _ => rfl
  | n + 1, h => by
    show f n (fo f x n) = g n (fo g x n)
    rw [fo_cong (fun k hk => h k (by omega)), h n (by omega)]
theorem tch_V {Hj : xH} (ok : StOk u) (h : ∀ f, f < tNf T → ∀ p, p < uZ u → rx Hj p (tRo T f) = kv T u (tRo T f) p) : ffs (bar Hj u T m) (fso Hj T (uRl u)) 256 = tchV T u m := by
  have e : ∀ p, p < uZ u → fso Hj T p = fsV T u p := fun p hp => fo_cong (fun f hf y => by rw [h f hf p hp])
  have e2 : bar Hj u T m = barV T u m := by
    funext s
    exact ex_cong (fun p hp => by rw [e p hp])
  unfold tchV
  rw [e _ ok.rl, e2]
theorem c_teach0 (hr : RdP S H t T u z) (hno : hasB w (tNp T) = false) : Pv mX10_teach 5 [.ref 0, .int w] S H (vZ (-1)) := by
  have hF := hr.fx
  refine vq_ev (vq_intro (by decide) (by exact Nat.le_of_ble_eq_true rfl) rfl ?_)
  refine xq_aload_n dX10_teach_0 rfl rfl ?_
  refine xq_iload_n dX10_teach_1 rfl rfl ?_
  refine xq_callV1P clX10 gd_X10_isPerson dX10_teach_2 ml_RX10_134 im_X10_isPerson se_X10_isPerson rfl (Fx.s0 hF) (by exact Nat.le_of_ble_eq_true rfl) (by decide) (c_isPerson hr) ?_
  refine xq_if_eqB dX10_teach_5 rfl ⟨fun h5 => ?_, fun h5 => ?_⟩
  · skip
    refine xq_iconst dX10_teach_29 icm1 ?_
    refine xq_iret dX10_teach_30 rfl ?_
    show _ = _; rw [zm1]
  · skip
    rw [hno] at h5; cases h5
theorem c_teach1 (hr : RdP S H t T u z) (hp : p < tNp T) : Hv mX10_teach 5 [.ref 0, vN p] S H vZ (fun (x : Int) H' => x = tchV T u (1 <<< p) ∧ Off (fun q => 16 ≤ q ∧ q ≤ 21) H H' ∧ ∃ t2, t2 ≤ z + 500 ∧ MiP H' t2) := by
  have hF := hr.fx; have hT := hr.tx; have tk := hr.tk; have hu := hr.st; have ok := hr.ok; have hm := hr.mi; have ht := hr.gt; have ht24 := hr.t24; have ht45 := hr.t45; have hz := ok.n; have hnp := ok.np; have hrl := ok.rl; have hnpe := hr.np; have h67 : 67 ≤ 67 := Nat.le_refl _; have ha := Fx.g67 hF; have hzz := hr.zb
  refine vq_intro (by decide) (by exact Nat.le_of_ble_eq_true rfl) rfl ?_
  refine xq_aload_n dX10_teach_0 rfl rfl ?_
  refine xq_iload_n dX10_teach_1 rfl rfl ?_
  refine xq_callV1P clX10 gd_X10_isPerson dX10_teach_2 ml_RX10_134 im_X10_isPerson se_X10_isPerson rfl (Fx.s0 hF) (by exact Nat.le_of_ble_eq_true rfl) (by decide) (c_isPerson1 hr hp) ?_
  refine xq_if_eqN dX10_teach_5 rfl (by omega) ⟨fun h5 => ?_, fun h5 => ?_⟩
  · skip
    first | exact absurd h5 (by decide) | exact absurd rfl h5
  · skip
    refine xq_aload_n dX10_teach_8 rfl rfl ?_
    refine xq_getF clX10 (by decide) rfl fl_RX10_34 dX10_teach_9 (Fx.s0 hF) (Fx.r0_4 hF) ?_
    refine xq_aload_n dX10_teach_12 rfl rfl ?_
    refine xq_getR clX10 (by decide) rfl fl_RX10_48 dX10_teach_13 (Fx.s0 hF) hr.sc ?_
    refine xq_aload_n dX10_teach_16 rfl rfl ?_
    refine xq_getF clX10 (by decide) rfl fl_RX10_67 dX10_teach_17 (Fx.s0 hF) (Fx.r0_9 hF) ?_
    refine xq_iconst dX10_teach_20 ic1 ?_
    refine xq_iload_n dX10_teach_21 rfl rfl ?_
    refine xq_ishlN dX10_teach_22 (by omega) ?_
    refine xq_callV3H clX4 gd_X4_fewestFacts dX10_teach_23 ml_RX10_272 im_X4_fewestFacts se_X4_fewestFacts rfl (Fx.s16 hF) (by exact Nat.le_of_ble_eq_true rfl) (by decide) (c_fewestFacts hF ha h67 hu ok ht ht24 ht45 hT tk.nk tk.nf tk.fa hm (by omega) (by exact shl64 (by omega))) ?_
    intro x23 H23 p23
    refine xq_goto dX10_teach_26 rfl ?_
    refine xq_iret dX10_teach_30 rfl ?_
    obtain ⟨q1, ⟨t2, a1, a2⟩, q3, Hj, q4, q5⟩ := p23
    exact ⟨_, H23, ⟨q5.trans (tch_V ok q4), q1, ⟨t2, by omega, a2⟩⟩, rfl⟩
theorem c_teachAll (hr : RdP S H t T u z) : Hv mX10_teachAll 5 [.ref 0] S H vZ (fun (x : Int) H' => x = tchV T u (1 <<< uNp u - 1) ∧ Off (fun q => 16 ≤ q ∧ q ≤ 21) H H' ∧ ∃ t2, t2 ≤ z + 500 ∧ MiP H' t2) := by
  have hF := hr.fx; have hT := hr.tx; have tk := hr.tk; have hu := hr.st; have ok := hr.ok; have hm := hr.mi; have ht := hr.gt; have ht24 := hr.t24; have ht45 := hr.t45; have hz := ok.n; have hnp := ok.np; have hrl := ok.rl; have hnpe := hr.np; have h67 : 67 ≤ 67 := Nat.le_refl _; have ha := Fx.g67 hF; have hzz := hr.zb
  have h164 : 1 <<< uNp u ≤ 64 := by rw [Nat.one_shiftLeft]; exact Nat.pow_le_pow_right (by decide) hnp
  refine vq_intro (by decide) (by exact Nat.le_of_ble_eq_true rfl) rfl ?_
  refine xq_aload_n dX10_teachAll_0 rfl rfl ?_
  refine xq_getF clX10 (by decide) rfl fl_RX10_34 dX10_teachAll_1 (Fx.s0 hF) (Fx.r0_4 hF) ?_
  refine xq_aload_n dX10_teachAll_4 rfl rfl ?_
  refine xq_getR clX10 (by decide) rfl fl_RX10_48 dX10_teachAll_5 (Fx.s0 hF) hr.sc ?_
  refine xq_aload_n dX10_teachAll_8 rfl rfl ?_
  refine xq_getF clX10 (by decide) rfl fl_RX10_67 dX10_teachAll_9 (Fx.s0 hF) (Fx.r0_9 hF) ?_
  refine xq_iconst dX10_teachAll_12 ic1 ?_
  refine xq_aload_n dX10_teachAll_13 rfl rfl ?_
  refine xq_getF clX10 (by decide) rfl fl_RX10_67 dX10_teachAll_14 (Fx.s0 hF) (Fx.r0_9 hF) ?_
  refine xq_getIE clX7 (by decide) rfl fl_RX10_276 dX10_teachAll_17 (St.s0 (Fx.g67 hF)) hu.f6 ?_
  refine xq_ishlN dX10_teachAll_20 (by omega) ?_
  refine xq_iconst dX10_teachAll_21 ic1 ?_
  refine xq_isubN dX10_teachAll_22 (shl_pos _) ?_
  refine xq_callV3H clX4 gd_X4_fewestFacts dX10_teachAll_23 ml_RX10_272 im_X4_fewestFacts se_X4_fewestFacts rfl (Fx.s16 hF) (by exact Nat.le_of_ble_eq_true rfl) (by decide) (c_fewestFacts hF ha h67 hu ok ht ht24 ht45 hT tk.nk tk.nf tk.fa hm (by omega) (by omega)) ?_
  intro x23 H23 p23
  refine xq_iret dX10_teachAll_26 rfl ?_
  obtain ⟨q1, ⟨t2, a1, a2⟩, q3, Hj, q4, q5⟩ := p23
  exact ⟨_, H23, ⟨q5.trans (tch_V ok q4), q1, ⟨t2, by omega, a2⟩⟩, rfl⟩
theorem c_secret0 (hr : RdP S H t T u z) (hno : ¬ (hasB w (tNp T) = true ∧ hasB w2 (tNp T) = true ∧ w ≠ w2)) : Pv mX10_secret 4 [.ref 0, .int w, .int w2] S H (vZ (-1)) := by
  have hF := hr.fx
  refine vq_ev (vq_intro (by decide) (by exact Nat.le_of_ble_eq_true rfl) rfl ?_)
  refine xq_aload_n dX10_secret_0 rfl rfl ?_
  refine xq_iload_n dX10_secret_1 rfl rfl ?_
  refine xq_iload_n dX10_secret_2 rfl rfl ?_
  refine xq_callV2P clX10 gd_X10_areTwo dX10_secret_3 ml_RX10_245 im_X10_areTwo se_X10_areTwo rfl (Fx.s0 hF) (by exact Nat.le_of_ble_eq_true rfl) (by decide) (c_areTwo0 hr hno) ?_
  refine xq_if_neN dX10_secret_6 rfl (by omega) ⟨fun h6 => ?_, fun h6 => ?_⟩
  · skip
    first | exact absurd h6 (by decide) | exact absurd rfl h6
  · skip
    refine xq_iconst dX10_secret_9 icm1 ?_
    refine xq_iret dX10_secret_10 rfl ?_
    show _ = _; rw [zm1]
theorem c_secret1 (hr : RdP S H t T u z) (hp : p < tNp T) (hq : q < tNp T) (hpq : p ≠ q) : Pv mX10_secret 4 [.ref 0, vN p, vN q] S H (vN (!(kn u q p)).toNat) := by
  have hF := hr.fx; have hT := hr.tx; have tk := hr.tk; have hu := hr.st; have ok := hr.ok; have hm := hr.mi; have ht := hr.gt; have ht24 := hr.t24; have ht45 := hr.t45; have hz := ok.n; have hnp := ok.np; have hrl := ok.rl; have hnpe := hr.np; have h67 : 67 ≤ 67 := Nat.le_refl _; have ha := Fx.g67 hF; have hzz := hr.zb
  refine vq_ev (vq_intro (by decide) (by exact Nat.le_of_ble_eq_true rfl) rfl ?_)
  refine xq_aload_n dX10_secret_0 rfl rfl ?_
  refine xq_iload_n dX10_secret_1 rfl rfl ?_
  refine xq_iload_n dX10_secret_2 rfl rfl ?_
  refine xq_callV2P clX10 gd_X10_areTwo dX10_secret_3 ml_RX10_245 im_X10_areTwo se_X10_areTwo rfl (Fx.s0 hF) (by exact Nat.le_of_ble_eq_true rfl) (by decide) (c_areTwo1 hr hp hq hpq) ?_
  refine xq_if_neN dX10_secret_6 rfl (by omega) ⟨fun h6 => ?_, fun h6 => ?_⟩
  · skip
    refine xq_aload_n dX10_secret_11 rfl rfl ?_
    refine xq_getF clX10 (by decide) rfl fl_RX10_67 dX10_secret_12 (Fx.s0 hF) (Fx.r0_9 hF) ?_
    refine xq_iload_n dX10_secret_15 rfl rfl ?_
    refine xq_iload_n dX10_secret_16 rfl rfl ?_
    refine xq_callV2P clX7 gd_X7_knows dX10_secret_17 ml_RX10_163 im_X7_knows se_X7_knows rfl (St.s0 (Fx.g67 hF)) (by exact Nat.le_of_ble_eq_true rfl) (by decide) (c_knows ha hu ok (by omega) (by omega)) ?_
    refine xq_if_eqB dX10_secret_20 rfl ⟨fun h20 => ?_, fun h20 => ?_⟩
    · skip
      refine xq_iconst dX10_secret_27 ic1 ?_
      refine xq_iret dX10_secret_28 rfl ?_
      show _ = _; rw [h20]; rfl
    · skip
      refine xq_iconst dX10_secret_23 ic0 ?_
      refine xq_goto dX10_secret_24 rfl ?_
      refine xq_iret dX10_secret_28 rfl ?_
      show _ = _; rw [h20]; rfl
  · skip
    first | exact absurd h6 (by decide) | exact absurd rfl h6
def ltm (m a b : Nat) : Nat := if 0 < Nat.gcd a b then m / Nat.gcd a b else m
theorem eu_step {big small : Nat} (hs : ¬ small = 0) (hb : big ≤ 729 ∧ small ≤ 729) (hc : (i = 0 ∧ big = p ∧ small = q) ∨ (small ≤ big ∧ big * small * 2 ^ i ≤ 1062882)) : big % small ≤ small ∧ small * (big % small) * 2 ^ (i + 1) ≤ 1062882 := by
  have h1 : big % small < small := Nat.mod_lt _ (by omega)
  refine ⟨by omega, ?_⟩
  rcases hc with ⟨e, -, -⟩ | ⟨h2, h3⟩
  · subst e
    have h4 : small * (big % small) ≤ 729 * 729 := Nat.mul_le_mul hb.2 (by omega)
    show small * (big % small) * 2 ≤ _
    omega
  · have h4 : 2 * (big % small) ≤ big := by
      have h5 := Nat.div_add_mod big small
      have h6 : 1 ≤ big / small := Nat.div_pos h2 (by omega)
      have h7 : small * 1 ≤ small * (big / small) := Nat.mul_le_mul_left _ h6
      omega
    have h5 : small * (2 * (big % small)) ≤ big * small := by rw [Nat.mul_comm big]; exact Nat.mul_le_mul_left _ h4
    have h6 : small * (big % small) * 2 ^ (i + 1) = small * (2 * (big % small)) * 2 ^ i := by rw [Nat.pow_succ]; ac_rfl
    rw [h6]
    exact Nat.le_trans (Nat.mul_le_mul_right _ h5) h3
theorem eu_end {big small : Nat} (h64 : 64 ≤ i) (hb : big ≤ 729 ∧ small ≤ 729) (hc : (i = 0 ∧ big = p ∧ small = q) ∨ (small ≤ big ∧ big * small * 2 ^ i ≤ 1062882)) : small = 0 := by
  rcases hc with ⟨e, -, -⟩ | ⟨h2, h3⟩
  · omega
  · apply Classical.byContradiction
    intro h
    have h4 : 1 * 1 ≤ big * small := Nat.mul_le_mul (by omega) (by omega)
    have h5 : 2 ^ 64 ≤ 2 ^ i := Nat.pow_le_pow_right (by decide) h64
    have h6 : 1 * 2 ^ 64 ≤ big * small * 2 ^ i := Nat.mul_le_mul h4 h5
    have h7 : (2 : Nat) ^ 64 = 18446744073709551616 := by decide
    omega
theorem c_leastTerm (hm : m ≤ 729) (hp : p ≤ 729) (hq : q ≤ 729) : Pv mX10_leastTerm 0 [vN m, vN p, vN q] S H (vN (ltm m p q)) := by
  have lp : ∀ (fz : Nat) (i big small : Nat), 65 - i < fz → i ≤ 64 → (Nat.gcd big small = Nat.gcd p q) → (big ≤ 729 ∧ small ≤ 729) → ((i = 0 ∧ big = p ∧ small = q) ∨ (small ≤ big ∧ big * small * 2 ^ i ≤ 1062882)) → Xq mX10_leastTerm 0 0 0 8 [some (vN m), some (vN p), some (vN q), some (vN big), some (vN small), some (vN i), none] [] S H (fun R => R = (some (vN (ltm m p q)), S, H)) := by
    intro fz
    induction fz with
    | zero => intro i big small  hfz; exact absurd hfz (by omega)
    | succ fz ih =>
      intro i big small  hfz hi hg hb hc
      refine xq_iload dX10_leastTerm_8 rfl ?_
      refine xq_bipush dX10_leastTerm_10 bp64 ?_
      refine xq_icmp_geN dX10_leastTerm_12 rfl (by omega) (by omega) ⟨fun h12 => ?_, fun h12 => ?_⟩
      · skip
        have e0 : small = 0 := eu_end h12 hb hc
        have eg : big = Nat.gcd p q := by rw [← hg, e0, Nat.gcd_zero_right]
        refine xq_iload_n dX10_leastTerm_39 rfl rfl ?_
        refine xq_if_leN dX10_leastTerm_40 rfl (by omega) ⟨fun h40 => ?_, fun h40 => ?_⟩
        · skip
          refine xq_iload_n dX10_leastTerm_49 rfl rfl ?_
          refine xq_iret dX10_leastTerm_50 rfl ?_
          show _ = _; unfold ltm; rw [← eg, if_neg (by omega)]
        · skip
          refine xq_iload_n dX10_leastTerm_43 rfl rfl ?_
          refine xq_iload_n dX10_leastTerm_44 rfl rfl ?_
          refine xq_idivN dX10_leastTerm_45 (by omega) (by omega) (fun e => absurd ((nq_eq0 (by omega)).mp e) (by omega)) ?_
          refine xq_goto dX10_leastTerm_46 rfl ?_
          refine xq_iret dX10_leastTerm_50 rfl ?_
          show _ = _; unfold ltm; rw [← eg, if_pos h40]
      · skip
        refine xq_iload dX10_leastTerm_15 rfl ?_
        refine xq_if_eqN dX10_leastTerm_17 rfl (by omega) ⟨fun h17 => ?_, fun h17 => ?_⟩
        · skip
          have e0 : small = 0 := h17
          have eg : big = Nat.gcd p q := by rw [← hg, e0, Nat.gcd_zero_right]
          refine xq_iload_n dX10_leastTerm_39 rfl rfl ?_
          refine xq_if_leN dX10_leastTerm_40 rfl (by omega) ⟨fun h40 => ?_, fun h40 => ?_⟩
          · skip
            refine xq_iload_n dX10_leastTerm_49 rfl rfl ?_
            refine xq_iret dX10_leastTerm_50 rfl ?_
            show _ = _; unfold ltm; rw [← eg, if_neg (by omega)]
          · skip
            refine xq_iload_n dX10_leastTerm_43 rfl rfl ?_
            refine xq_iload_n dX10_leastTerm_44 rfl rfl ?_
            refine xq_idivN dX10_leastTerm_45 (by omega) (by omega) (fun e => absurd ((nq_eq0 (by omega)).mp e) (by omega)) ?_
            refine xq_goto dX10_leastTerm_46 rfl ?_
            refine xq_iret dX10_leastTerm_50 rfl ?_
            show _ = _; unfold ltm; rw [← eg, if_pos h40]
        · skip
          refine xq_iload_n dX10_leastTerm_20 rfl rfl ?_
          refine xq_iload dX10_leastTerm_21 rfl ?_
          refine xq_iremN dX10_leastTerm_23 (by omega) (by omega) (fun e => h17 ((nq_eq0 (by omega)).mp e)) ?_
          refine xq_istore dX10_leastTerm_24 rfl ?_
          refine xq_iload dX10_leastTerm_26 rfl ?_
          refine xq_istore_n dX10_leastTerm_28 rfl rfl ?_
          refine xq_iload dX10_leastTerm_29 rfl ?_
          refine xq_istore dX10_leastTerm_31 rfl ?_
          refine xq_iincN dX10_leastTerm_33 ic1 rfl rfl ?_
          refine xq_goto dX10_leastTerm_36 rfl ?_
          have st := eu_step h17 hb hc
          exact xq_fgt (ih (i + 1) small (big % small) (by omega) (by omega) (by rw [← hg, Nat.gcd_comm big small, Nat.gcd_rec small big, Nat.gcd_comm]) ⟨by omega, by omega⟩ (Or.inr st)) (by exact And.intro rfl (And.intro rfl (And.intro rfl (And.intro rfl (And.intro rfl (And.intro rfl trivial))))))
  refine vq_ev (vq_intro (by decide) (by exact Nat.le_of_ble_eq_true rfl) rfl ?_)
  refine xq_iload_n dX10_leastTerm_0 rfl rfl ?_
  refine xq_istore_n dX10_leastTerm_1 rfl rfl ?_
  refine xq_iload_n dX10_leastTerm_2 rfl rfl ?_
  refine xq_istore dX10_leastTerm_3 rfl ?_
  refine xq_iconst dX10_leastTerm_5 ic0 ?_
  refine xq_istore dX10_leastTerm_6 rfl ?_
  exact lp 66 0 p q (by omega) (by omega) rfl ⟨hp, hq⟩ (Or.inl ⟨rfl, rfl, rfl⟩)
def gueV (u : uSt) (p l : Nat) : Nat := if l = 1 then ltm (mst u p p) (mst u p p) (alikeN u p) else if l = 2 then ltm (alikeN u p) (mst u p p) (alikeN u p) else fnd (fun c => tal u p p c == mst u p p) 3
theorem mst_at (u : uSt) (p q : Nat) : ∃ c, c < 3 ∧ tal u p q c = mst u p q := by
  show ∃ c, c < 3 ∧ tal u p q c = max (max (max 0 (tal u p q 0)) (tal u p q 1)) (tal u p q 2)
  by_cases h2 : max (max 0 (tal u p q 0)) (tal u p q 1) ≤ tal u p q 2
  · exact ⟨2, by omega, by omega⟩
  · by_cases h1 : max 0 (tal u p q 0) ≤ tal u p q 1
    · exact ⟨1, by omega, by omega⟩
    · exact ⟨0, by omega, by omega⟩
theorem c_guess0 (hr : RdP S H t T u z) (hno : ¬ (hasB w (tNp T) = true ∧ ¬ w2 < 0 ∧ w2 ≤ nI 2)) : Pv mX10_guess 4 [.ref 0, .int w, .int w2] S H (vZ (-1)) := by
  have hF := hr.fx
  refine vq_ev (vq_intro (by decide) (by exact Nat.le_of_ble_eq_true rfl) rfl ?_)
  refine xq_aload_n dX10_guess_0 rfl rfl ?_
  refine xq_iload_n dX10_guess_1 rfl rfl ?_
  refine xq_callV1P clX10 gd_X10_isPerson dX10_guess_2 ml_RX10_134 im_X10_isPerson se_X10_isPerson rfl (Fx.s0 hF) (by exact Nat.le_of_ble_eq_true rfl) (by decide) (c_isPerson hr) ?_
  refine xq_if_eqB dX10_guess_5 rfl ⟨fun h5 => ?_, fun h5 => ?_⟩
  · skip
    refine xq_iconst dX10_guess_17 icm1 ?_
    refine xq_iret dX10_guess_18 rfl ?_
    show _ = _; rw [zm1]
  · skip
    refine xq_iload_n dX10_guess_8 rfl rfl ?_
    refine xq_if_lt dX10_guess_9 rfl ⟨fun h9 => ?_, fun h9 => ?_⟩
    · skip
      refine xq_iconst dX10_guess_17 icm1 ?_
      refine xq_iret dX10_guess_18 rfl ?_
      show _ = _; rw [zm1]
    · skip
      refine xq_iload_n dX10_guess_12 rfl rfl ?_
      refine xq_iconst dX10_guess_13 ic2 ?_
      refine xq_icmp_le dX10_guess_14 rfl ⟨fun h14 => ?_, fun h14 => ?_⟩
      · skip
        exact absurd ⟨h5, h9, h14⟩ hno
      · skip
        refine xq_iconst dX10_guess_17 icm1 ?_
        refine xq_iret dX10_guess_18 rfl ?_
        show _ = _; rw [zm1]
theorem c_guess1 (hr : RdP S H t T u z) (hp : p < tNp T) (hl : l < 3) : Pv mX10_guess 4 [.ref 0, vN p, vN l] S H (vN (gueV u p l)) := by
  have hF := hr.fx; have hT := hr.tx; have tk := hr.tk; have hu := hr.st; have ok := hr.ok; have hm := hr.mi; have ht := hr.gt; have ht24 := hr.t24; have ht45 := hr.t45; have hz := ok.n; have hnp := ok.np; have hrl := ok.rl; have hnpe := hr.np; have h67 : 67 ≤ 67 := Nat.le_refl _; have ha := Fx.g67 hF; have hzz := hr.zb; have hms : mst u p p ≤ uZ u := mst_le u p p 3; have hal := alikeN_le u p
  have lp : ∀ (fz : Nat) (c : Nat), 3 - c < fz → c ≤ 3 → (∀ d, d < c → (tal u p p d == mst u p p) = false) → Xq mX10_guess 4 0 0 77 [some (.ref 0), some (vN p), some (vN l), some (vN (mst u p p)), some (vN c)] [] S H (fun R => R = (some (vN (fnd (fun c => tal u p p c == mst u p p) 3)), S, H)) := by
    intro fz
    induction fz with
    | zero => intro c  hfz; exact absurd hfz (by omega)
    | succ fz ih =>
      intro c  hfz hc hno
      refine xq_iload dX10_guess_77 rfl ?_
      refine xq_iconst dX10_guess_79 ic3 ?_
      refine xq_icmp_geN dX10_guess_80 rfl (by omega) (by omega) ⟨fun h80 => ?_, fun h80 => ?_⟩
      · skip
        refine xq_iconst dX10_guess_107 icm1 ?_
        refine xq_iret dX10_guess_108 rfl ?_
        exact absurd (hno _ (show (mst_at u p p).choose < c by have := (mst_at u p p).choose_spec.1; omega)) (by rw [(mst_at u p p).choose_spec.2]; simp)
      · skip
        refine xq_aload_n dX10_guess_83 rfl rfl ?_
        refine xq_getF clX10 (by decide) rfl fl_RX10_67 dX10_guess_84 (Fx.s0 hF) (Fx.r0_9 hF) ?_
        refine xq_iload_n dX10_guess_87 rfl rfl ?_
        refine xq_iload_n dX10_guess_88 rfl rfl ?_
        refine xq_iload dX10_guess_89 rfl ?_
        refine xq_callV3P clX7 gd_X7_tally dX10_guess_91 ml_RX10_285 im_X7_tally se_X7_tally rfl (St.s0 (Fx.g67 hF)) (by exact Nat.le_of_ble_eq_true rfl) (by decide) (c_tally ha hu ok (by omega) (by omega) (by omega)) ?_
        have htl := tal_le u p p c
        refine xq_iload_n dX10_guess_94 rfl rfl ?_
        refine xq_icmp_neN dX10_guess_95 rfl (by omega) (by omega) ⟨fun h95 => ?_, fun h95 => ?_⟩
        · skip
          refine xq_iincN dX10_guess_101 ic1 rfl rfl ?_
          refine xq_goto dX10_guess_104 rfl ?_
          exact ih (c + 1) (by omega) (by omega) (fun d hd => by
            by_cases e : d = c
            · subst e; simpa using h95
            · exact hno d (by omega))
        · skip
          refine xq_iload dX10_guess_98 rfl ?_
          refine xq_iret dX10_guess_100 rfl ?_
          show _ = _; rw [fnd_at (f := fun c => tal u p p c == mst u p p) hno (by simpa using h95) (by omega)]
  refine vq_ev (vq_intro (by decide) (by exact Nat.le_of_ble_eq_true rfl) rfl ?_)
  refine xq_aload_n dX10_guess_0 rfl rfl ?_
  refine xq_iload_n dX10_guess_1 rfl rfl ?_
  refine xq_callV1P clX10 gd_X10_isPerson dX10_guess_2 ml_RX10_134 im_X10_isPerson se_X10_isPerson rfl (Fx.s0 hF) (by exact Nat.le_of_ble_eq_true rfl) (by decide) (c_isPerson1 hr hp) ?_
  refine xq_if_eqN dX10_guess_5 rfl (by omega) ⟨fun h5 => ?_, fun h5 => ?_⟩
  · skip
    first | exact absurd h5 (by decide) | exact absurd rfl h5
  · skip
    refine xq_iload_n dX10_guess_8 rfl rfl ?_
    refine xq_if_ltN dX10_guess_9 rfl (by omega) ?_
    refine xq_iload_n dX10_guess_12 rfl rfl ?_
    refine xq_iconst dX10_guess_13 ic2 ?_
    refine xq_icmp_leN dX10_guess_14 rfl (by omega) (by omega) ⟨fun h14 => ?_, fun h14 => ?_⟩
    · skip
      refine xq_aload_n dX10_guess_19 rfl rfl ?_
      refine xq_getF clX10 (by decide) rfl fl_RX10_67 dX10_guess_20 (Fx.s0 hF) (Fx.r0_9 hF) ?_
      refine xq_iload_n dX10_guess_23 rfl rfl ?_
      refine xq_iload_n dX10_guess_24 rfl rfl ?_
      refine xq_callV2P clX7 gd_X7_mostFor dX10_guess_25 ml_RX10_278 im_X7_mostFor se_X7_mostFor rfl (St.s0 (Fx.g67 hF)) (by exact Nat.le_of_ble_eq_true rfl) (by decide) (c_mostFor ha hu ok (by omega) (by omega)) ?_
      refine xq_istore_n dX10_guess_28 rfl rfl ?_
      refine xq_iload_n dX10_guess_29 rfl rfl ?_
      refine xq_iconst dX10_guess_30 ic1 ?_
      refine xq_icmp_neN dX10_guess_31 rfl (by omega) (by omega) ⟨fun h31 => ?_, fun h31 => ?_⟩
      · skip
        refine xq_iload_n dX10_guess_48 rfl rfl ?_
        refine xq_iconst dX10_guess_49 ic2 ?_
        refine xq_icmp_neN dX10_guess_50 rfl (by omega) (by omega) ⟨fun h50 => ?_, fun h50 => ?_⟩
        · skip
          refine xq_iconst dX10_guess_74 ic0 ?_
          refine xq_istore dX10_guess_75 rfl ?_
          rw [show gueV u p l = fnd (fun c => tal u p p c == mst u p p) 3 by unfold gueV; rw [if_neg h31, if_neg h50]]
          exact lp 4 0 (by omega) (by omega) (fun d hd => absurd hd (by omega))
        · skip
          refine xq_aload_n dX10_guess_53 rfl rfl ?_
          refine xq_getF clX10 (by decide) rfl fl_RX10_67 dX10_guess_54 (Fx.s0 hF) (Fx.r0_9 hF) ?_
          refine xq_iload_n dX10_guess_57 rfl rfl ?_
          refine xq_callV1P clX7 gd_X7_alikeFor dX10_guess_58 ml_RX10_157 im_X7_alikeFor se_X7_alikeFor rfl (St.s0 (Fx.g67 hF)) (by exact Nat.le_of_ble_eq_true rfl) (by decide) (c_alikeFor ha hu ok (by omega)) ?_
          refine xq_iload_n dX10_guess_61 rfl rfl ?_
          refine xq_aload_n dX10_guess_62 rfl rfl ?_
          refine xq_getF clX10 (by decide) rfl fl_RX10_67 dX10_guess_63 (Fx.s0 hF) (Fx.r0_9 hF) ?_
          refine xq_iload_n dX10_guess_66 rfl rfl ?_
          refine xq_callV1P clX7 gd_X7_alikeFor dX10_guess_67 ml_RX10_157 im_X7_alikeFor se_X7_alikeFor rfl (St.s0 (Fx.g67 hF)) (by exact Nat.le_of_ble_eq_true rfl) (by decide) (c_alikeFor ha hu ok (by omega)) ?_
          refine xq_callS3P gd_X10_leastTerm dX10_guess_70 ml_RX10_281 im_X10_leastTerm (by exact Nat.le_of_ble_eq_true rfl) (by decide) (c_leastTerm (by omega) (by omega) (by omega)) ?_
          refine xq_iret dX10_guess_73 rfl ?_
          show _ = _; unfold gueV; rw [if_neg h31, if_pos h50]
      · skip
        refine xq_iload_n dX10_guess_34 rfl rfl ?_
        refine xq_iload_n dX10_guess_35 rfl rfl ?_
        refine xq_aload_n dX10_guess_36 rfl rfl ?_
        refine xq_getF clX10 (by decide) rfl fl_RX10_67 dX10_guess_37 (Fx.s0 hF) (Fx.r0_9 hF) ?_
        refine xq_iload_n dX10_guess_40 rfl rfl ?_
        refine xq_callV1P clX7 gd_X7_alikeFor dX10_guess_41 ml_RX10_157 im_X7_alikeFor se_X7_alikeFor rfl (St.s0 (Fx.g67 hF)) (by exact Nat.le_of_ble_eq_true rfl) (by decide) (c_alikeFor ha hu ok (by omega)) ?_
        refine xq_callS3P gd_X10_leastTerm dX10_guess_44 ml_RX10_281 im_X10_leastTerm (by exact Nat.le_of_ble_eq_true rfl) (by decide) (c_leastTerm (by omega) (by omega) (by omega)) ?_
        refine xq_iret dX10_guess_47 rfl ?_
        show _ = _; unfold gueV; rw [if_pos h31]
    · skip
      omega
def shr (u : uSt) (p m j : Nat) : Nat := if m = 0 then (if j = 0 then 9 else 12) - alikeN u p else pop (uSe u p) + (if j = 0 then 2 else 0)
theorem subm {a b : Nat} (ha : a < 2147483648) (hb : b < 2147483648) : (if nI a - nI b < nI 0 then nI 0 else nI a - nI b) = nI (a - b) := by
  have e : nI a - nI b = zI ((a : Int) - b) := by
    show Int32.ofInt a - Int32.ofInt b = Int32.ofInt (a - b)
    rw [← Int32.ofInt_sub]
  have h0 : zI ((a : Int) - b) < nI 0 ↔ (a : Int) - b < 0 := zI_lt0 (by omega) (by omega)
  rw [e]
  by_cases h : (a : Int) - b < 0
  · rw [if_pos (h0.mpr h), show a - b = 0 by omega]
  · rw [if_neg (fun w => h (h0.mp w)), zI_nat (by omega)]; congr 1; omega
theorem c_share (hr : RdP S H t T u z) (hp : p < tNp T) (hm1 : m ≤ 1) (hj1 : j ≤ 1) : Pv mX10_share 1 [.ref 0, vN p, vN m, vN j] S H (vN (shr u p m j)) := by
  have hF := hr.fx; have hT := hr.tx; have tk := hr.tk; have hu := hr.st; have ok := hr.ok; have hm := hr.mi; have ht := hr.gt; have ht24 := hr.t24; have ht45 := hr.t45; have hz := ok.n; have hnp := ok.np; have hrl := ok.rl; have hnpe := hr.np; have h67 : 67 ≤ 67 := Nat.le_refl _; have ha := Fx.g67 hF; have hzz := hr.zb; have hal := alikeN_le u p; have hse := ok.se (show p < 6 by omega)
  refine vq_ev (vq_intro (by decide) (by exact Nat.le_of_ble_eq_true rfl) rfl ?_)
  refine xq_iload_n dX10_share_0 rfl rfl ?_
  refine xq_if_neN dX10_share_1 rfl (by omega) ⟨fun h1 => ?_, fun h1 => ?_⟩
  · skip
    refine xq_aload_n dX10_share_29 rfl rfl ?_
    refine xq_getF clX10 (by decide) rfl fl_RX10_67 dX10_share_30 (Fx.s0 hF) (Fx.r0_9 hF) ?_
    refine xq_getF clX7 (by decide) rfl fl_RX10_144 dX10_share_33 (St.s0 (Fx.g67 hF)) (St.r1 (Fx.g67 hF)) ?_
    refine xq_iload_n dX10_share_36 rfl rfl ?_
    refine xq_ialdN dX10_share_37 (St.s2 (Fx.g67 hF)) (by omega) (by decide) (hu.se (by omega)) ?_
    refine xq_callS1P gd_J6_bitCount_0f7a4 dX10_share_38 ml_RX10_217 im_J6_bitCount_0f7a4 (by exact Nat.le_of_ble_eq_true rfl) (by decide) (c_bitCount (by omega)) ?_
    refine xq_iload_n dX10_share_41 rfl rfl ?_
    refine xq_if_neN dX10_share_42 rfl (by omega) ⟨fun h42 => ?_, fun h42 => ?_⟩
    · skip
      refine xq_iconst dX10_share_49 ic0 ?_
      refine xq_iaddN dX10_share_50 ?_
      refine xq_iret dX10_share_51 rfl ?_
      show _ = _; unfold shr; rw [if_neg h1, if_neg h42]
    · skip
      refine xq_iconst dX10_share_45 ic2 ?_
      refine xq_goto dX10_share_46 rfl ?_
      refine xq_iaddN dX10_share_50 ?_
      refine xq_iret dX10_share_51 rfl ?_
      show _ = _; unfold shr; rw [if_neg h1, if_pos h42]
  · skip
    refine xq_iload_n dX10_share_4 rfl rfl ?_
    refine xq_if_neN dX10_share_5 rfl (by omega) ⟨fun h5 => ?_, fun h5 => ?_⟩
    · skip
      refine xq_bipush dX10_share_13 bp12 ?_
      refine xq_aload_n dX10_share_15 rfl rfl ?_
      refine xq_getF clX10 (by decide) rfl fl_RX10_67 dX10_share_16 (Fx.s0 hF) (Fx.r0_9 hF) ?_
      refine xq_iload_n dX10_share_19 rfl rfl ?_
      refine xq_callV1P clX7 gd_X7_alikeFor dX10_share_20 ml_RX10_157 im_X7_alikeFor se_X7_alikeFor rfl (St.s0 (Fx.g67 hF)) (by exact Nat.le_of_ble_eq_true rfl) (by decide) (c_alikeFor ha hu ok (by omega)) ?_
      refine xq_isub dX10_share_23 ?_
      refine xq_iconst dX10_share_24 ic0 ?_
      refine xq_mmax dX10_share_25 ml_RX10_299 (by exact Nat.le_of_ble_eq_true rfl) (by decide) ?_
      refine xq_iret dX10_share_28 rfl ?_
      show _ = _; rw [subm (by omega) (by omega)]; unfold shr; rw [if_pos h1, if_neg h5]
    · skip
      refine xq_bipush dX10_share_8 bp9 ?_
      refine xq_goto dX10_share_10 rfl ?_
      refine xq_aload_n dX10_share_15 rfl rfl ?_
      refine xq_getF clX10 (by decide) rfl fl_RX10_67 dX10_share_16 (Fx.s0 hF) (Fx.r0_9 hF) ?_
      refine xq_iload_n dX10_share_19 rfl rfl ?_
      refine xq_callV1P clX7 gd_X7_alikeFor dX10_share_20 ml_RX10_157 im_X7_alikeFor se_X7_alikeFor rfl (St.s0 (Fx.g67 hF)) (by exact Nat.le_of_ble_eq_true rfl) (by decide) (c_alikeFor ha hu ok (by omega)) ?_
      refine xq_isub dX10_share_23 ?_
      refine xq_iconst dX10_share_24 ic0 ?_
      refine xq_mmax dX10_share_25 ml_RX10_299 (by exact Nat.le_of_ble_eq_true rfl) (by decide) ?_
      refine xq_iret dX10_share_28 rfl ?_
      show _ = _; rw [subm (by omega) (by omega)]; unfold shr; rw [if_pos h1, if_pos h5]
def isR (u : uSt) (p q n : Nat) : Bool := decide (shr u p (1 - n >>> 1) (n &&& 1) ≤ shr u p (n >>> 1) (n &&& 1)) && decide (shr u q (1 - (n &&& 1)) (n >>> 1) ≤ shr u q (n &&& 1) (n >>> 1))
theorem shr_lt (ok : StOk u) (p m j : Nat) : shr u p m j ≤ 12 := by
  have := pop_le (uSe u p)
  unfold shr
  repeat (first | omega | split)
theorem c_isRest {n : Nat} (hr : RdP S H t T u z) (hp : p < tNp T) (hq : q < tNp T) (hpq : p ≠ q) (hn : n < 4) : Pv mX10_isRest 2 [.ref 0, vN p, vN q, vN n] S H (vB (isR u p q n)) := by
  have hF := hr.fx; have hT := hr.tx; have tk := hr.tk; have hu := hr.st; have ok := hr.ok; have hm := hr.mi; have ht := hr.gt; have ht24 := hr.t24; have ht45 := hr.t45; have hz := ok.n; have hnp := ok.np; have hrl := ok.rl; have hnpe := hr.np; have h67 : 67 ≤ 67 := Nat.le_refl _; have ha := Fx.g67 hF; have hzz := hr.zb
  have hn2 : n >>> 1 ≤ 1 := by rw [Nat.shiftRight_eq_div_pow]; omega
  have hn3 : n &&& 1 ≤ 1 := Nat.and_le_right
  have s1 := shr_lt ok p (n >>> 1) (n &&& 1); have s2 := shr_lt ok p (1 - n >>> 1) (n &&& 1); have s3 := shr_lt ok q (n &&& 1) (n >>> 1); have s4 := shr_lt ok q (1 - (n &&& 1)) (n >>> 1)
  refine vq_ev (vq_intro (by decide) (by exact Nat.le_of_ble_eq_true rfl) rfl ?_)
  refine xq_iload_n dX10_isRest_0 rfl rfl ?_
  refine xq_iconst dX10_isRest_1 ic1 ?_
  refine xq_ishrN dX10_isRest_2 (by omega) (by omega) ?_
  refine xq_istore dX10_isRest_3 rfl ?_
  refine xq_iload_n dX10_isRest_5 rfl rfl ?_
  refine xq_iconst dX10_isRest_6 ic1 ?_
  refine xq_iandN dX10_isRest_7 ?_
  refine xq_istore dX10_isRest_8 rfl ?_
  refine xq_aload_n dX10_isRest_10 rfl rfl ?_
  refine xq_iload_n dX10_isRest_11 rfl rfl ?_
  refine xq_iload dX10_isRest_12 rfl ?_
  refine xq_iload dX10_isRest_14 rfl ?_
  refine xq_callV3P clX10 gd_X10_share dX10_isRest_16 ml_RX10_296 im_X10_share se_X10_share rfl (Fx.s0 hF) (by exact Nat.le_of_ble_eq_true rfl) (by decide) (c_share hr hp (by omega) (by omega)) ?_
  refine xq_aload_n dX10_isRest_19 rfl rfl ?_
  refine xq_iload_n dX10_isRest_20 rfl rfl ?_
  refine xq_iconst dX10_isRest_21 ic1 ?_
  refine xq_iload dX10_isRest_22 rfl ?_
  refine xq_isubN dX10_isRest_24 (by omega) ?_
  refine xq_iload dX10_isRest_25 rfl ?_
  refine xq_callV3P clX10 gd_X10_share dX10_isRest_27 ml_RX10_296 im_X10_share se_X10_share rfl (Fx.s0 hF) (by exact Nat.le_of_ble_eq_true rfl) (by decide) (c_share hr hp (by omega) (by omega)) ?_
  refine xq_icmp_ltN dX10_isRest_30 rfl (by omega) (by omega) ⟨fun h30 => ?_, fun h30 => ?_⟩
  · skip
    refine xq_iconst dX10_isRest_60 ic0 ?_
    refine xq_zret dX10_isRest_61 rfl (by decide) ?_
    show _ = _; unfold isR; rw [decide_eq_false (by omega), Bool.false_and]; rfl
  · skip
    refine xq_aload_n dX10_isRest_33 rfl rfl ?_
    refine xq_iload_n dX10_isRest_34 rfl rfl ?_
    refine xq_iload dX10_isRest_35 rfl ?_
    refine xq_iload dX10_isRest_37 rfl ?_
    refine xq_callV3P clX10 gd_X10_share dX10_isRest_39 ml_RX10_296 im_X10_share se_X10_share rfl (Fx.s0 hF) (by exact Nat.le_of_ble_eq_true rfl) (by decide) (c_share hr hq (by omega) (by omega)) ?_
    refine xq_aload_n dX10_isRest_42 rfl rfl ?_
    refine xq_iload_n dX10_isRest_43 rfl rfl ?_
    refine xq_iconst dX10_isRest_44 ic1 ?_
    refine xq_iload dX10_isRest_45 rfl ?_
    refine xq_isubN dX10_isRest_47 (by omega) ?_
    refine xq_iload dX10_isRest_48 rfl ?_
    refine xq_callV3P clX10 gd_X10_share dX10_isRest_50 ml_RX10_296 im_X10_share se_X10_share rfl (Fx.s0 hF) (by exact Nat.le_of_ble_eq_true rfl) (by decide) (c_share hr hq (by omega) (by omega)) ?_
    refine xq_icmp_ltN dX10_isRest_53 rfl (by omega) (by omega) ⟨fun h53 => ?_, fun h53 => ?_⟩
    · skip
      refine xq_iconst dX10_isRest_60 ic0 ?_
      refine xq_zret dX10_isRest_61 rfl (by decide) ?_
      show _ = _; unfold isR; rw [decide_eq_true h30, decide_eq_false (by omega), Bool.true_and]; rfl
    · skip
      refine xq_iconst dX10_isRest_56 ic1 ?_
      refine xq_goto dX10_isRest_57 rfl ?_
      refine xq_zret dX10_isRest_61 rfl (by decide) ?_
      show _ = _; unfold isR; rw [decide_eq_true h30, decide_eq_true h53, Bool.true_and]; rfl
theorem c_rests0 (hr : RdP S H t T u z) (hno : ¬ (hasB w (tNp T) = true ∧ hasB w2 (tNp T) = true ∧ w ≠ w2)) : Pv mX10_rests 3 [.ref 0, .int w, .int w2] S H (vZ (-1)) := by
  have hF := hr.fx
  refine vq_ev (vq_intro (by decide) (by exact Nat.le_of_ble_eq_true rfl) rfl ?_)
  refine xq_aload_n dX10_rests_0 rfl rfl ?_
  refine xq_iload_n dX10_rests_1 rfl rfl ?_
  refine xq_iload_n dX10_rests_2 rfl rfl ?_
  refine xq_callV2P clX10 gd_X10_areTwo dX10_rests_3 ml_RX10_245 im_X10_areTwo se_X10_areTwo rfl (Fx.s0 hF) (by exact Nat.le_of_ble_eq_true rfl) (by decide) (c_areTwo0 hr hno) ?_
  refine xq_if_neN dX10_rests_6 rfl (by omega) ⟨fun h6 => ?_, fun h6 => ?_⟩
  · skip
    first | exact absurd h6 (by decide) | exact absurd rfl h6
  · skip
    refine xq_iconst dX10_rests_9 icm1 ?_
    refine xq_iret dX10_rests_10 rfl ?_
    show _ = _; rw [zm1]
theorem c_rests1 (hr : RdP S H t T u z) (hp : p < tNp T) (hq : q < tNp T) (hpq : p ≠ q) : Pv mX10_rests 3 [.ref 0, vN p, vN q] S H (vN (ct (isR u p q) 4)) := by
  have hF := hr.fx; have hT := hr.tx; have tk := hr.tk; have hu := hr.st; have ok := hr.ok; have hm := hr.mi; have ht := hr.gt; have ht24 := hr.t24; have ht45 := hr.t45; have hz := ok.n; have hnp := ok.np; have hrl := ok.rl; have hnpe := hr.np; have h67 : 67 ≤ 67 := Nat.le_refl _; have ha := Fx.g67 hF; have hzz := hr.zb
  have lp : ∀ (fz : Nat) (n m : Nat), 4 - n < fz → n ≤ 4 → m = ct (isR u p q) n → Xq mX10_rests 3 0 0 16 [some (.ref 0), some (vN p), some (vN q), some (vN m), some (vN n)] [] S H (fun R => R = (some (vN (ct (isR u p q) 4)), S, H)) := by
    intro fz
    induction fz with
    | zero => intro n m  hfz; exact absurd hfz (by omega)
    | succ fz ih =>
      intro n m  hfz hn hm2
      refine xq_iload dX10_rests_16 rfl ?_
      refine xq_iconst dX10_rests_18 ic4 ?_
      refine xq_icmp_geN dX10_rests_19 rfl (by omega) (by omega) ⟨fun h19 => ?_, fun h19 => ?_⟩
      · skip
        refine xq_iload_n dX10_rests_47 rfl rfl ?_
        refine xq_iret dX10_rests_48 rfl ?_
        show _ = _; rw [hm2, show n = 4 by omega]
      · skip
        refine xq_iload_n dX10_rests_22 rfl rfl ?_
        refine xq_aload_n dX10_rests_23 rfl rfl ?_
        refine xq_iload_n dX10_rests_24 rfl rfl ?_
        refine xq_iload_n dX10_rests_25 rfl rfl ?_
        refine xq_iload dX10_rests_26 rfl ?_
        refine xq_callV3P clX10 gd_X10_isRest dX10_rests_28 ml_RX10_292 im_X10_isRest se_X10_isRest rfl (Fx.s0 hF) (by exact Nat.le_of_ble_eq_true rfl) (by decide) (c_isRest hr hp hq hpq (by omega)) ?_
        refine xq_if_eqB dX10_rests_31 rfl ⟨fun h31 => ?_, fun h31 => ?_⟩
        · skip
          refine xq_iconst dX10_rests_38 ic0 ?_
          refine xq_iaddN dX10_rests_39 ?_
          refine xq_istore_n dX10_rests_40 rfl rfl ?_
          refine xq_iincN dX10_rests_41 ic1 rfl rfl ?_
          refine xq_goto dX10_rests_44 rfl ?_
          exact ih (n + 1) (m + 0) (by omega) (by omega) (by rw [ct_b, h31, hm2]; rfl)
        · skip
          refine xq_iconst dX10_rests_34 ic1 ?_
          refine xq_goto dX10_rests_35 rfl ?_
          refine xq_iaddN dX10_rests_39 ?_
          refine xq_istore_n dX10_rests_40 rfl rfl ?_
          refine xq_iincN dX10_rests_41 ic1 rfl rfl ?_
          refine xq_goto dX10_rests_44 rfl ?_
          exact ih (n + 1) (m + 1) (by omega) (by omega) (by rw [ct_b, h31, hm2]; rfl)
  refine vq_ev (vq_intro (by decide) (by exact Nat.le_of_ble_eq_true rfl) rfl ?_)
  refine xq_aload_n dX10_rests_0 rfl rfl ?_
  refine xq_iload_n dX10_rests_1 rfl rfl ?_
  refine xq_iload_n dX10_rests_2 rfl rfl ?_
  refine xq_callV2P clX10 gd_X10_areTwo dX10_rests_3 ml_RX10_245 im_X10_areTwo se_X10_areTwo rfl (Fx.s0 hF) (by exact Nat.le_of_ble_eq_true rfl) (by decide) (c_areTwo1 hr hp hq hpq) ?_
  refine xq_if_neN dX10_rests_6 rfl (by omega) ⟨fun h6 => ?_, fun h6 => ?_⟩
  · skip
    refine xq_iconst dX10_rests_11 ic0 ?_
    refine xq_istore_n dX10_rests_12 rfl rfl ?_
    refine xq_iconst dX10_rests_13 ic0 ?_
    refine xq_istore dX10_rests_14 rfl ?_
    exact lp 5 0 0 (by omega) (by omega) rfl
  · skip
    first | exact absurd h6 (by decide) | exact absurd rfl h6
theorem c_rest0 (hr : RdP S H t T u z) (hno : (¬ (hasB w (tNp T) = true ∧ hasB w2 (tNp T) = true ∧ w ≠ w2))) : Pv mX10_rest 3 [.ref 0, .int w, .int w2, .int w3] S H (vZ (-1)) := by
  have hF := hr.fx
  refine vq_ev (vq_intro (by decide) (by exact Nat.le_of_ble_eq_true rfl) rfl ?_)
  refine xq_aload_n dX10_rest_0 rfl rfl ?_
  refine xq_iload_n dX10_rest_1 rfl rfl ?_
  refine xq_iload_n dX10_rest_2 rfl rfl ?_
  refine xq_callV2P clX10 gd_X10_areTwo dX10_rest_3 ml_RX10_245 im_X10_areTwo se_X10_areTwo rfl (Fx.s0 hF) (by exact Nat.le_of_ble_eq_true rfl) (by decide) (c_areTwo0 hr hno) ?_
  refine xq_if_eqN dX10_rest_6 rfl (by omega) ⟨fun h6 => ?_, fun h6 => ?_⟩
  · skip
    refine xq_iconst dX10_rest_13 icm1 ?_
    refine xq_iret dX10_rest_14 rfl ?_
    show _ = _; rw [zm1]
  · skip
    first | exact absurd h6 (by decide) | exact absurd rfl h6
theorem c_rest0b (hr : RdP S H t T u z) (hp : p < tNp T) (hq : q < tNp T) (hpq : p ≠ q) (hno : w3 < 0) : Pv mX10_rest 3 [.ref 0, vN p, vN q, .int w3] S H (vZ (-1)) := by
  have hF := hr.fx
  refine vq_ev (vq_intro (by decide) (by exact Nat.le_of_ble_eq_true rfl) rfl ?_)
  refine xq_aload_n dX10_rest_0 rfl rfl ?_
  refine xq_iload_n dX10_rest_1 rfl rfl ?_
  refine xq_iload_n dX10_rest_2 rfl rfl ?_
  refine xq_callV2P clX10 gd_X10_areTwo dX10_rest_3 ml_RX10_245 im_X10_areTwo se_X10_areTwo rfl (Fx.s0 hF) (by exact Nat.le_of_ble_eq_true rfl) (by decide) (c_areTwo1 hr hp hq hpq) ?_
  refine xq_if_eqN dX10_rest_6 rfl (by omega) ⟨fun h6 => ?_, fun h6 => ?_⟩
  · skip
    first | exact absurd h6 (by decide) | exact absurd rfl h6
  · skip
    refine xq_iload_n dX10_rest_9 rfl rfl ?_
    refine xq_if_ge dX10_rest_10 rfl ⟨fun h10 => ?_, fun h10 => ?_⟩
    · skip
      exact absurd hno (fun w => by rw [Int32.lt_iff_toInt_lt] at w; rw [Int32.le_iff_toInt_le] at h10; omega)
    · skip
      refine xq_iconst dX10_rest_13 icm1 ?_
      refine xq_iret dX10_rest_14 rfl ?_
      show _ = _; rw [zm1]
def resV (u : uSt) (p q k : Nat) : Nat → Int
  | 0 => -2
  | n + 1 => if resV u p q k n ≠ -2 then resV u p q k n else if isR u p q n && ct (isR u p q) n == k then ((10 * (n >>> 1) + (n &&& 1) : Nat) : Int) else -2
theorem c_rest1 (hr : RdP S H t T u z) (hp : p < tNp T) (hq : q < tNp T) (hpq : p ≠ q) (hk : k < 2147483648) : Pv mX10_rest 3 [.ref 0, vN p, vN q, vN k] S H (vZ (resV u p q k 4)) := by
  have hF := hr.fx; have hT := hr.tx; have tk := hr.tk; have hu := hr.st; have ok := hr.ok; have hm := hr.mi; have ht := hr.gt; have ht24 := hr.t24; have ht45 := hr.t45; have hz := ok.n; have hnp := ok.np; have hrl := ok.rl; have hnpe := hr.np; have h67 : 67 ≤ 67 := Nat.le_refl _; have ha := Fx.g67 hF; have hzz := hr.zb
  have lp : ∀ (fz : Nat) (n m : Nat), 4 - n < fz → n ≤ 4 → m = ct (isR u p q) n → resV u p q k n = -2 → Xq mX10_rest 3 0 0 21 [some (.ref 0), some (vN p), some (vN q), some (vN k), some (vN m), some (vN n)] [] S H (fun R => R = (some (vZ (resV u p q k 4)), S, H)) := by
    intro fz
    induction fz with
    | zero => intro n m  hfz; exact absurd hfz (by omega)
    | succ fz ih =>
      intro n m  hfz hn hm2 hv
      refine xq_iload dX10_rest_21 rfl ?_
      refine xq_iconst dX10_rest_23 ic4 ?_
      refine xq_icmp_geN dX10_rest_24 rfl (by omega) (by omega) ⟨fun h24 => ?_, fun h24 => ?_⟩
      · skip
        refine xq_bipush dX10_rest_66 bpm2 ?_
        refine xq_iret dX10_rest_68 rfl ?_
        show _ = _; rw [show (4 : Nat) = n by omega, hv, zm2]
      · skip
        have hct := ct_le (isR u p q) n
        have hn2 : n >>> 1 ≤ 1 := by rw [Nat.shiftRight_eq_div_pow]; omega
        refine xq_aload_n dX10_rest_27 rfl rfl ?_
        refine xq_iload_n dX10_rest_28 rfl rfl ?_
        refine xq_iload_n dX10_rest_29 rfl rfl ?_
        refine xq_iload dX10_rest_30 rfl ?_
        refine xq_callV3P clX10 gd_X10_isRest dX10_rest_32 ml_RX10_292 im_X10_isRest se_X10_isRest rfl (Fx.s0 hF) (by exact Nat.le_of_ble_eq_true rfl) (by decide) (c_isRest hr hp hq hpq (by omega)) ?_
        refine xq_if_eqB dX10_rest_35 rfl ⟨fun h35 => ?_, fun h35 => ?_⟩
        · skip
          refine xq_iincN dX10_rest_60 ic1 rfl rfl ?_
          refine xq_goto dX10_rest_63 rfl ?_
          exact ih (n + 1) (m + 0) (by omega) (by omega) (by rw [ct_b, h35, hm2]; rfl) (by show (if _ then _ else _) = _; rw [if_neg (by rw [hv]; decide), h35, if_neg (by simp)])
        · skip
          refine xq_iload dX10_rest_38 rfl ?_
          refine xq_iload_n dX10_rest_40 rfl rfl ?_
          refine xq_icmp_neN dX10_rest_41 rfl (by omega) (by omega) ⟨fun h41 => ?_, fun h41 => ?_⟩
          · skip
            refine xq_iincN dX10_rest_57 ic1 rfl rfl ?_
            refine xq_iincN dX10_rest_60 ic1 rfl rfl ?_
            refine xq_goto dX10_rest_63 rfl ?_
            exact ih (n + 1) (m + 1) (by omega) (by omega) (by rw [ct_b, h35, hm2]; rfl) (by show (if _ then _ else _) = _; rw [if_neg (by rw [hv]; decide), h35, if_neg (by rw [← hm2]; simpa using h41)])
          · skip
            refine xq_bipush dX10_rest_44 bp10 ?_
            refine xq_iload dX10_rest_46 rfl ?_
            refine xq_iconst dX10_rest_48 ic1 ?_
            refine xq_ishrN dX10_rest_49 (by omega) (by omega) ?_
            refine xq_imulN dX10_rest_50 ?_
            refine xq_iload dX10_rest_51 rfl ?_
            refine xq_iconst dX10_rest_53 ic1 ?_
            refine xq_iandN dX10_rest_54 ?_
            refine xq_iaddN dX10_rest_55 ?_
            refine xq_iret dX10_rest_56 rfl ?_
            show _ = _
            have e : ∀ d, resV u p q k (n + 1 + d) = ((10 * (n >>> 1) + (n &&& 1) : Nat) : Int) := by
              intro d
              induction d with
              | zero =>
                show (if _ then _ else _) = _
                rw [if_neg (by rw [hv]; decide), h35, if_pos (by rw [← hm2]; simpa using h41)]
              | succ d ih2 =>
                show (if resV u p q k (n + 1 + d) ≠ -2 then _ else _) = _
                rw [ih2, if_pos (by omega)]
                exact ih2
            have e4 := e (3 - n)
            rw [show n + 1 + (3 - n) = 4 by omega] at e4
            rw [e4]; rfl
  refine vq_ev (vq_intro (by decide) (by exact Nat.le_of_ble_eq_true rfl) rfl ?_)
  refine xq_aload_n dX10_rest_0 rfl rfl ?_
  refine xq_iload_n dX10_rest_1 rfl rfl ?_
  refine xq_iload_n dX10_rest_2 rfl rfl ?_
  refine xq_callV2P clX10 gd_X10_areTwo dX10_rest_3 ml_RX10_245 im_X10_areTwo se_X10_areTwo rfl (Fx.s0 hF) (by exact Nat.le_of_ble_eq_true rfl) (by decide) (c_areTwo1 hr hp hq hpq) ?_
  refine xq_if_eqN dX10_rest_6 rfl (by omega) ⟨fun h6 => ?_, fun h6 => ?_⟩
  · skip
    first | exact absurd h6 (by decide) | exact absurd rfl h6
  · skip
    refine xq_iload_n dX10_rest_9 rfl rfl ?_
    refine xq_if_geN dX10_rest_10 rfl (by omega) ?_
    refine xq_iconst dX10_rest_15 ic0 ?_
    refine xq_istore dX10_rest_16 rfl ?_
    refine xq_iconst dX10_rest_18 ic0 ?_
    refine xq_istore dX10_rest_19 rfl ?_
    exact lp 5 0 0 (by omega) (by omega) rfl rfl
end R2
