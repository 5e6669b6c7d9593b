/-! ===== HatRoom: what asks and changes nothing ===== -/
def RdP (S : xS) (H : xH) (t : Nat) (T : uTx) (u : uSt) (z : Nat) : Prop := (gFx S) ∧ (t = 24 ∨ t = 45) ∧ (hR H 0 6 = some t) ∧ (TxP H t T) ∧ (TxOk T) ∧ (StP H 67 u) ∧ (StOk u) ∧ (uNp u = tNp T) ∧ (MiP H z) ∧ (z + 20000000 < 2147483648) ∧ (uHd u + 40000 ≤ 100000000) ∧ (uLi u + 40000 ≤ 100000000) ∧ (uHr u ≤ 9800)
section RD
variable {S : xS} {H H1 : xH} {t z k p q f i j : Nat} {u : uSt} {T : uTx} {w w2 : Int32}
theorem RdP.fx (h : RdP S H t T u z) : gFx S := h.1
theorem RdP.tt (h : RdP S H t T u z) : t = 24 ∨ t = 45 := h.2.1
theorem RdP.sc (h : RdP S H t T u z) : hR H 0 6 = some t := h.2.2.1
theorem RdP.tx (h : RdP S H t T u z) : TxP H t T := h.2.2.2.1
theorem RdP.tk (h : RdP S H t T u z) : TxOk T := h.2.2.2.2.1
theorem RdP.st (h : RdP S H t T u z) : StP H 67 u := h.2.2.2.2.2.1
theorem RdP.ok (h : RdP S H t T u z) : StOk u := h.2.2.2.2.2.2.1
theorem RdP.np (h : RdP S H t T u z) : uNp u = tNp T := h.2.2.2.2.2.2.2.1
theorem RdP.mi (h : RdP S H t T u z) : MiP H z := h.2.2.2.2.2.2.2.2.1
theorem RdP.zb (h : RdP S H t T u z) : z + 20000000 < 2147483648 := h.2.2.2.2.2.2.2.2.2.1
theorem RdP.hd (h : RdP S H t T u z) : uHd u + 40000 ≤ 100000000 := h.2.2.2.2.2.2.2.2.2.2.1
theorem RdP.li (h : RdP S H t T u z) : uLi u + 40000 ≤ 100000000 := h.2.2.2.2.2.2.2.2.2.2.2.1
theorem RdP.h9 (h : RdP S H t T u z) : uHr u ≤ 9800 := h.2.2.2.2.2.2.2.2.2.2.2.2
theorem RdP.gt (h : RdP S H t T u z) : gTx S t := by
  rcases h.tt with e | e
  · rw [e]; exact Fx.g24 h.fx
  · rw [e]; exact Fx.g45 h.fx
theorem RdP.t24 (h : RdP S H t T u z) : 24 ≤ t := by have := h.tt; omega
theorem RdP.t45 (h : RdP S H t T u z) : t ≤ 45 := by have := h.tt; omega
theorem TxP.nmp (h : TxP H t T) : NmP H (t + 3) (tNp T) (tPn T) := ⟨h.np, fun j hj => (h.pe j hj).1⟩
theorem TxP.nmc (h : TxP H t T) : NmP H (t + 1) (tNc T) (tCn T) := ⟨h.nc, fun j hj => (h.co j hj).1⟩
theorem TxP.nmf (h : TxP H t T) : NmP H (t + 5) (tNf T) (tFn T) := ⟨h.nf, fun j hj => (h.fa j hj).1⟩
theorem c_isPerson (hr : RdP S H t T u z) : Pv mX10_isPerson 1 [.ref 0, .int w] S H (vB (hasB w (tNp T))) := by
  have hF := hr.fx; have ht := hr.gt; have hT := hr.tx; have tk := hr.tk
  refine vq_ev (vq_intro (by decide) (by exact Nat.le_of_ble_eq_true rfl) rfl ?_)
  refine xq_aload_n dX10_isPerson_0 rfl rfl ?_
  refine xq_getR clX10 (by decide) rfl fl_RX10_48 dX10_isPerson_1 (Fx.s0 hF) hr.sc ?_
  refine xq_getF clX8 (by decide) rfl fl_RX10_124 dX10_isPerson_4 (Tx.s0 ht) (Tx.r1 ht) ?_
  refine xq_iload_n dX10_isPerson_7 rfl rfl ?_
  refine xq_callV1P clX5 gd_X5_has dX10_isPerson_8 ml_RX10_130 im_X5_has se_X5_has rfl (Nm.s0 (Tx.n3 ht)) (by exact Nat.le_of_ble_eq_true rfl) (by decide) (c_has (Tx.n3 ht) hT.nmp (by have := tk.np; omega)) ?_
  refine xq_zret dX10_isPerson_11 rfl (bI_01 _) ?_
  rfl
theorem c_isPerson1 (hr : RdP S H t T u z) (hk : k < tNp T) : Pv mX10_isPerson 1 [.ref 0, vN k] S H (vN 1) := by
  have h := c_isPerson (w := nI k) hr
  have tk := hr.tk; have h1 := tk.np; have h2 := tk.nf
  rw [hasB_n (by omega), decide_eq_true hk] at h
  exact h
theorem c_isPerson0 (hr : RdP S H t T u z) (hk : hasB w (tNp T) = false) : Pv mX10_isPerson 1 [.ref 0, .int w] S H (vN 0) := by
  have h := c_isPerson (w := w) hr
  rw [hk] at h
  exact h
theorem c_isFact (hr : RdP S H t T u z) : Pv mX10_isFact 1 [.ref 0, .int w] S H (vB (hasB w (tNf T))) := by
  have hF := hr.fx; have ht := hr.gt; have hT := hr.tx; have tk := hr.tk
  refine vq_ev (vq_intro (by decide) (by exact Nat.le_of_ble_eq_true rfl) rfl ?_)
  refine xq_aload_n dX10_isFact_0 rfl rfl ?_
  refine xq_getR clX10 (by decide) rfl fl_RX10_48 dX10_isFact_1 (Fx.s0 hF) hr.sc ?_
  refine xq_getF clX8 (by decide) rfl fl_RX10_127 dX10_isFact_4 (Tx.s0 ht) (Tx.r2 ht) ?_
  refine xq_iload_n dX10_isFact_7 rfl rfl ?_
  refine xq_callV1P clX5 gd_X5_has dX10_isFact_8 ml_RX10_130 im_X5_has se_X5_has rfl (Nm.s0 (Tx.n5 ht)) (by exact Nat.le_of_ble_eq_true rfl) (by decide) (c_has (Tx.n5 ht) hT.nmf (by have := tk.nf; omega)) ?_
  refine xq_zret dX10_isFact_11 rfl (bI_01 _) ?_
  rfl
theorem c_isFact1 (hr : RdP S H t T u z) (hk : k < tNf T) : Pv mX10_isFact 1 [.ref 0, vN k] S H (vN 1) := by
  have h := c_isFact (w := nI k) hr
  have tk := hr.tk; have h1 := tk.np; have h2 := tk.nf
  rw [hasB_n (by omega), decide_eq_true hk] at h
  exact h
theorem c_isFact0 (hr : RdP S H t T u z) (hk : hasB w (tNf T) = false) : Pv mX10_isFact 1 [.ref 0, .int w] S H (vN 0) := by
  have h := c_isFact (w := w) hr
  rw [hk] at h
  exact h
theorem c_areTwo1 (hr : RdP S H t T u z) (hp : p < tNp T) (hq : q < tNp T) (hpq : p ≠ q) : Pv mX10_areTwo 2 [.ref 0, vN p, vN q] S H (vN 1) := by
  have hF := hr.fx; have hT := hr.tx; have tk := hr.tk; have hu := hr.st; have ok := hr.ok; have hm := hr.mi; have ht := hr.gt; have ht24 := hr.t24; have ht45 := hr.t45; have hz := ok.n; have hnp := ok.np; have hrl := ok.rl; have hnpe := hr.np; have h67 : 67 ≤ 67 := Nat.le_refl _; have ha := Fx.g67 hF; have hzz := hr.zb; have htp := tk.np
  refine vq_ev (vq_intro (by decide) (by exact Nat.le_of_ble_eq_true rfl) rfl ?_)
  refine xq_aload_n dX10_areTwo_0 rfl rfl ?_
  refine xq_iload_n dX10_areTwo_1 rfl rfl ?_
  refine xq_callV1P clX10 gd_X10_isPerson dX10_areTwo_2 ml_RX10_134 im_X10_isPerson se_X10_isPerson rfl (Fx.s0 hF) (by exact Nat.le_of_ble_eq_true rfl) (by decide) (c_isPerson1 hr hp) ?_
  refine xq_if_eqN dX10_areTwo_5 rfl (by omega) ⟨fun h5 => ?_, fun h5 => ?_⟩
  · skip
    first | exact absurd h5 (by decide) | exact absurd rfl h5
  · skip
    refine xq_aload_n dX10_areTwo_8 rfl rfl ?_
    refine xq_iload_n dX10_areTwo_9 rfl rfl ?_
    refine xq_callV1P clX10 gd_X10_isPerson dX10_areTwo_10 ml_RX10_134 im_X10_isPerson se_X10_isPerson rfl (Fx.s0 hF) (by exact Nat.le_of_ble_eq_true rfl) (by decide) (c_isPerson1 hr hq) ?_
    refine xq_if_eqN dX10_areTwo_13 rfl (by omega) ⟨fun h13 => ?_, fun h13 => ?_⟩
    · skip
      first | exact absurd h13 (by decide) | exact absurd rfl h13
    · skip
      refine xq_iload_n dX10_areTwo_16 rfl rfl ?_
      refine xq_iload_n dX10_areTwo_17 rfl rfl ?_
      refine xq_icmp_eqN dX10_areTwo_18 rfl (by omega) (by omega) ⟨fun h18 => ?_, fun h18 => ?_⟩
      · skip
        exact absurd h18 hpq
      · skip
        refine xq_iconst dX10_areTwo_21 ic1 ?_
        refine xq_goto dX10_areTwo_22 rfl ?_
        refine xq_zret dX10_areTwo_26 rfl (by decide) ?_
        rfl
theorem c_areTwo0 (hr : RdP S H t T u z) (hno : ¬ (hasB w (tNp T) = true ∧ hasB w2 (tNp T) = true ∧ w ≠ w2)) : Pv mX10_areTwo 2 [.ref 0, .int w, .int w2] S H (vN 0) := by
  have hF := hr.fx
  refine vq_ev (vq_intro (by decide) (by exact Nat.le_of_ble_eq_true rfl) rfl ?_)
  refine xq_aload_n dX10_areTwo_0 rfl rfl ?_
  refine xq_iload_n dX10_areTwo_1 rfl rfl ?_
  refine xq_callV1P clX10 gd_X10_isPerson dX10_areTwo_2 ml_RX10_134 im_X10_isPerson se_X10_isPerson rfl (Fx.s0 hF) (by exact Nat.le_of_ble_eq_true rfl) (by decide) (c_isPerson hr) ?_
  refine xq_if_eqB dX10_areTwo_5 rfl ⟨fun h5 => ?_, fun h5 => ?_⟩
  · skip
    refine xq_iconst dX10_areTwo_25 ic0 ?_
    refine xq_zret dX10_areTwo_26 rfl (by decide) ?_
    rfl
  · skip
    refine xq_aload_n dX10_areTwo_8 rfl rfl ?_
    refine xq_iload_n dX10_areTwo_9 rfl rfl ?_
    refine xq_callV1P clX10 gd_X10_isPerson dX10_areTwo_10 ml_RX10_134 im_X10_isPerson se_X10_isPerson rfl (Fx.s0 hF) (by exact Nat.le_of_ble_eq_true rfl) (by decide) (c_isPerson hr) ?_
    refine xq_if_eqB dX10_areTwo_13 rfl ⟨fun h13 => ?_, fun h13 => ?_⟩
    · skip
      refine xq_iconst dX10_areTwo_25 ic0 ?_
      refine xq_zret dX10_areTwo_26 rfl (by decide) ?_
      rfl
    · skip
      refine xq_iload_n dX10_areTwo_16 rfl rfl ?_
      refine xq_iload_n dX10_areTwo_17 rfl rfl ?_
      refine xq_icmp_eq dX10_areTwo_18 rfl ⟨fun h18 => ?_, fun h18 => ?_⟩
      · skip
        refine xq_iconst dX10_areTwo_25 ic0 ?_
        refine xq_zret dX10_areTwo_26 rfl (by decide) ?_
        rfl
      · skip
        exact absurd ⟨h5, h13, h18⟩ hno
theorem c_own0 (hr : RdP S H t T u z) (hno : hasB w (tNp T) = false) : Pv mX10_own 4 [.ref 0, .int w] S H (vZ (-1)) := by
  have hF := hr.fx
  refine vq_ev (vq_intro (by decide) (by exact Nat.le_of_ble_eq_true rfl) rfl ?_)
  refine xq_aload_n dX10_own_0 rfl rfl ?_
  refine xq_iload_n dX10_own_1 rfl rfl ?_
  refine xq_callV1P clX10 gd_X10_isPerson dX10_own_2 ml_RX10_134 im_X10_isPerson se_X10_isPerson rfl (Fx.s0 hF) (by exact Nat.le_of_ble_eq_true rfl) (by decide) (c_isPerson hr) ?_
  refine xq_if_neB dX10_own_5 rfl ⟨fun h5 => ?_, fun h5 => ?_⟩
  · skip
    rw [hno] at h5; cases h5
  · skip
    refine xq_iconst dX10_own_8 icm1 ?_
    refine xq_iret dX10_own_9 rfl ?_
    show _ = _; rw [zm1]
theorem c_own1 (hr : RdP S H t T u z) (hp : p < tNp T) : Pv mX10_own 4 [.ref 0, vN p] S H (vZ (if kn u p p then (tHt T p : Int) else -2)) := by
  have hF := hr.fx; have hT := hr.tx; have tk := hr.tk; have hu := hr.st; have ok := hr.ok; have hm := hr.mi; have ht := hr.gt; have ht24 := hr.t24; have ht45 := hr.t45; have hz := ok.n; have hnp := ok.np; have hrl := ok.rl; have hnpe := hr.np; have h67 : 67 ≤ 67 := Nat.le_refl _; have ha := Fx.g67 hF; have hzz := hr.zb
  refine vq_ev (vq_intro (by decide) (by exact Nat.le_of_ble_eq_true rfl) rfl ?_)
  refine xq_aload_n dX10_own_0 rfl rfl ?_
  refine xq_iload_n dX10_own_1 rfl rfl ?_
  refine xq_callV1P clX10 gd_X10_isPerson dX10_own_2 ml_RX10_134 im_X10_isPerson se_X10_isPerson rfl (Fx.s0 hF) (by exact Nat.le_of_ble_eq_true rfl) (by decide) (c_isPerson1 hr hp) ?_
  refine xq_if_neN dX10_own_5 rfl (by omega) ⟨fun h5 => ?_, fun h5 => ?_⟩
  · skip
    refine xq_aload_n dX10_own_10 rfl rfl ?_
    refine xq_getF clX10 (by decide) rfl fl_RX10_67 dX10_own_11 (Fx.s0 hF) (Fx.r0_9 hF) ?_
    refine xq_iload_n dX10_own_14 rfl rfl ?_
    refine xq_iload_n dX10_own_15 rfl rfl ?_
    refine xq_callV2P clX7 gd_X7_knows dX10_own_16 ml_RX10_163 im_X7_knows se_X7_knows rfl (St.s0 (Fx.g67 hF)) (by exact Nat.le_of_ble_eq_true rfl) (by decide) (c_knows ha hu ok (by omega) (by omega)) ?_
    refine xq_if_eqB dX10_own_19 rfl ⟨fun h19 => ?_, fun h19 => ?_⟩
    · skip
      refine xq_bipush dX10_own_34 bpm2 ?_
      refine xq_iret dX10_own_36 rfl ?_
      show _ = _; rw [h19, if_neg (by decide), zm2]
    · skip
      refine xq_aload_n dX10_own_22 rfl rfl ?_
      refine xq_getR clX10 (by decide) rfl fl_RX10_48 dX10_own_23 (Fx.s0 hF) hr.sc ?_
      refine xq_getF clX8 (by decide) rfl fl_RX10_140 dX10_own_26 (Tx.s0 ht) (Tx.r5 ht) ?_
      refine xq_iload_n dX10_own_29 rfl rfl ?_
      refine xq_ialdN dX10_own_30 (Tx.s12 ht) (by omega) (by decide) ((hT.pe p hp).2) ?_
      refine xq_goto dX10_own_31 rfl ?_
      refine xq_iret dX10_own_36 rfl ?_
      show _ = _; rw [h19, if_pos rfl]; rfl
  · skip
    first | exact absurd h5 (by decide) | exact absurd rfl h5
theorem c_world0 (hr : RdP S H t T u z) (hno : w < 0 ∨ hasB w2 (tNp T) = false) : Pv mX10_world 2 [.ref 0, .int w, .int w2] S H (vZ (-1)) := by
  have hF := hr.fx
  refine vq_ev (vq_intro (by decide) (by exact Nat.le_of_ble_eq_true rfl) rfl ?_)
  refine xq_iload_n dX10_world_0 rfl rfl ?_
  refine xq_if_lt dX10_world_1 rfl ⟨fun h1 => ?_, fun h1 => ?_⟩
  · skip
    refine xq_iconst dX10_world_12 icm1 ?_
    refine xq_iret dX10_world_13 rfl ?_
    show _ = _; rw [zm1]
  · skip
    refine xq_aload_n dX10_world_4 rfl rfl ?_
    refine xq_iload_n dX10_world_5 rfl rfl ?_
    refine xq_callV1P clX10 gd_X10_isPerson dX10_world_6 ml_RX10_134 im_X10_isPerson se_X10_isPerson rfl (Fx.s0 hF) (by exact Nat.le_of_ble_eq_true rfl) (by decide) (c_isPerson hr) ?_
    refine xq_if_neB dX10_world_9 rfl ⟨fun h9 => ?_, fun h9 => ?_⟩
    · skip
      rcases hno with e | e
      · exact absurd e h1
      · rw [e] at h9; cases h9
    · skip
      refine xq_iconst dX10_world_12 icm1 ?_
      refine xq_iret dX10_world_13 rfl ?_
      show _ = _; rw [zm1]
theorem c_world1 (hr : RdP S H t T u z) (hk : k < 2147483648) (hp : p < tNp T) : Pv mX10_world 2 [.ref 0, vN k, vN p] S H (vZ (if k < uZ u then (col (uW u k) p : Int) else -2)) := by
  have hF := hr.fx; have hT := hr.tx; have tk := hr.tk; have hu := hr.st; have ok := hr.ok; have hm := hr.mi; have ht := hr.gt; have ht24 := hr.t24; have ht45 := hr.t45; have hz := ok.n; have hnp := ok.np; have hrl := ok.rl; have hnpe := hr.np; have h67 : 67 ≤ 67 := Nat.le_refl _; have ha := Fx.g67 hF; have hzz := hr.zb
  refine vq_ev (vq_intro (by decide) (by exact Nat.le_of_ble_eq_true rfl) rfl ?_)
  refine xq_iload_n dX10_world_0 rfl rfl ?_
  refine xq_if_ltN dX10_world_1 rfl (by omega) ?_
  refine xq_aload_n dX10_world_4 rfl rfl ?_
  refine xq_iload_n dX10_world_5 rfl rfl ?_
  refine xq_callV1P clX10 gd_X10_isPerson dX10_world_6 ml_RX10_134 im_X10_isPerson se_X10_isPerson rfl (Fx.s0 hF) (by exact Nat.le_of_ble_eq_true rfl) (by decide) (c_isPerson1 hr hp) ?_
  refine xq_if_neN dX10_world_9 rfl (by omega) ⟨fun h9 => ?_, fun h9 => ?_⟩
  · skip
    refine xq_iload_n dX10_world_14 rfl rfl ?_
    refine xq_aload_n dX10_world_15 rfl rfl ?_
    refine xq_getF clX10 (by decide) rfl fl_RX10_67 dX10_world_16 (Fx.s0 hF) (Fx.r0_9 hF) ?_
    refine xq_getIE clX7 (by decide) rfl fl_RX10_167 dX10_world_19 (St.s0 (Fx.g67 hF)) hu.sz ?_
    refine xq_icmp_geN dX10_world_22 rfl (by omega) (by omega) ⟨fun h22 => ?_, fun h22 => ?_⟩
    · skip
      refine xq_bipush dX10_world_41 bpm2 ?_
      refine xq_iret dX10_world_43 rfl ?_
      show _ = _; rw [if_neg (by omega), zm2]
    · skip
      refine xq_aload_n dX10_world_25 rfl rfl ?_
      refine xq_getF clX10 (by decide) rfl fl_RX10_67 dX10_world_26 (Fx.s0 hF) (Fx.r0_9 hF) ?_
      refine xq_getF clX7 (by decide) rfl fl_RX10_170 dX10_world_29 (St.s0 (Fx.g67 hF)) (St.r0 (Fx.g67 hF)) ?_
      refine xq_iload_n dX10_world_32 rfl rfl ?_
      refine xq_ialdN dX10_world_33 (St.s1 (Fx.g67 hF)) (by omega) (by decide) (hu.w h22) ?_
      refine xq_iload_n dX10_world_34 rfl rfl ?_
      refine xq_callS2P gd_X10_colourIn dX10_world_35 ml_RX10_173 im_X10_colourIn (by exact Nat.le_of_ble_eq_true rfl) (by decide) (c_colourIn (ok.w h22) (by omega)) ?_
      refine xq_goto dX10_world_38 rfl ?_
      refine xq_iret dX10_world_43 rfl ?_
      show _ = _; rw [if_pos h22]; rfl
  · skip
    first | exact absurd h9 (by decide) | exact absurd rfl h9
theorem c_real (hr : RdP S H t T u z) : Pv mX10_real 0 [.ref 0] S H (vN (uRl u)) := by
  have hF := hr.fx; have hT := hr.tx; have tk := hr.tk; have hu := hr.st; have ok := hr.ok; have hm := hr.mi; have ht := hr.gt; have ht24 := hr.t24; have ht45 := hr.t45; have hz := ok.n; have hnp := ok.np; have hrl := ok.rl; have hnpe := hr.np; have h67 : 67 ≤ 67 := Nat.le_refl _; have ha := Fx.g67 hF; have hzz := hr.zb
  refine vq_ev (vq_intro (by decide) (by exact Nat.le_of_ble_eq_true rfl) rfl ?_)
  refine xq_aload_n dX10_real_0 rfl rfl ?_
  refine xq_getF clX10 (by decide) rfl fl_RX10_67 dX10_real_1 (Fx.s0 hF) (Fx.r0_9 hF) ?_
  refine xq_getIE clX7 (by decide) rfl fl_RX10_176 dX10_real_4 (St.s0 (Fx.g67 hF)) hu.f5 ?_
  refine xq_iret dX10_real_7 rfl ?_
  rfl
theorem c_is0 (hr : RdP S H t T u z) (hno : hasB w (tNf T) = false) : Pv mX10_is 4 [.ref 0, .int w] S H (vZ (-1)) := by
  have hF := hr.fx
  refine vq_ev (vq_intro (by decide) (by exact Nat.le_of_ble_eq_true rfl) rfl ?_)
  refine xq_aload_n dX10_is_0 rfl rfl ?_
  refine xq_iload_n dX10_is_1 rfl rfl ?_
  refine xq_callV1P clX10 gd_X10_isFact dX10_is_2 ml_RX10_179 im_X10_isFact se_X10_isFact rfl (Fx.s0 hF) (by exact Nat.le_of_ble_eq_true rfl) (by decide) (c_isFact hr) ?_
  refine xq_if_neB dX10_is_5 rfl ⟨fun h5 => ?_, fun h5 => ?_⟩
  · skip
    rw [hno] at h5; cases h5
  · skip
    refine xq_iconst dX10_is_8 icm1 ?_
    refine xq_iret dX10_is_9 rfl ?_
    show _ = _; rw [zm1]
theorem c_is1 (hr : RdP S H t T u z) (hf : f < tNf T) : Hv mX10_is 4 [.ref 0, vN f] S H vN (fun x H' => x = (kv T u (tRo T f) (uRl u)).toNat ∧ Off (fun q => 16 ≤ q ∧ q ≤ 21) H H' ∧ ∃ t2, t2 ≤ z + 500 ∧ MiP H' t2) := by
  have hF := hr.fx; have hT := hr.tx; have tk := hr.tk; have hu := hr.st; have ok := hr.ok; have hm := hr.mi; have ht := hr.gt; have ht24 := hr.t24; have ht45 := hr.t45; have hz := ok.n; have hnp := ok.np; have hrl := ok.rl; have hnpe := hr.np; have h67 : 67 ≤ 67 := Nat.le_refl _; have ha := Fx.g67 hF; have hzz := hr.zb; have hfa := tk.fa f hf; have hnf := tk.nf
  refine vq_intro (by decide) (by exact Nat.le_of_ble_eq_true rfl) rfl ?_
  refine xq_aload_n dX10_is_0 rfl rfl ?_
  refine xq_iload_n dX10_is_1 rfl rfl ?_
  refine xq_callV1P clX10 gd_X10_isFact dX10_is_2 ml_RX10_179 im_X10_isFact se_X10_isFact rfl (Fx.s0 hF) (by exact Nat.le_of_ble_eq_true rfl) (by decide) (c_isFact1 hr hf) ?_
  refine xq_if_neN dX10_is_5 rfl (by omega) ⟨fun h5 => ?_, fun h5 => ?_⟩
  · skip
    refine xq_aload_n dX10_is_10 rfl rfl ?_
    refine xq_getF clX10 (by decide) rfl fl_RX10_34 dX10_is_11 (Fx.s0 hF) (Fx.r0_4 hF) ?_
    refine xq_aload_n dX10_is_14 rfl rfl ?_
    refine xq_getR clX10 (by decide) rfl fl_RX10_48 dX10_is_15 (Fx.s0 hF) hr.sc ?_
    refine xq_aload_n dX10_is_18 rfl rfl ?_
    refine xq_getF clX10 (by decide) rfl fl_RX10_67 dX10_is_19 (Fx.s0 hF) (Fx.r0_9 hF) ?_
    refine xq_aload_n dX10_is_22 rfl rfl ?_
    refine xq_getR clX10 (by decide) rfl fl_RX10_48 dX10_is_23 (Fx.s0 hF) hr.sc ?_
    refine xq_getF clX8 (by decide) rfl fl_RX10_182 dX10_is_26 (Tx.s0 ht) (Tx.r8 ht) ?_
    refine xq_iload_n dX10_is_29 rfl rfl ?_
    refine xq_laldN dX10_is_30 (Tx.s15 ht) (by omega) (by decide) ((hT.fa f hf).2.2) ?_
    refine xq_callV3N clX4 gd_X4_judge dX10_is_31 ml_RX10_186 im_X4_judge se_X4_judge rfl (Fx.s16 hF) (by exact Nat.le_of_ble_eq_true rfl) (by decide) (c_judge hF ha h67 hu ok ht ht24 ht45 hT tk.nk hfa.2.2 hm (by omega)) ?_
    intro H31 p31
    obtain ⟨o31, m31, j31, r31⟩ := p31
    have hu31 := hu.off o31 (fun j hj => by omega); have hT31 := hT.off o31 (fun j hj => by omega); have s31 : hR H31 0 6 = some t := (o31.R (by omega) 6).trans hr.sc
    refine xq_aload_n dX10_is_34 rfl rfl ?_
    refine xq_getF clX10 (by decide) rfl fl_RX10_34 dX10_is_35 (Fx.s0 hF) (Fx.r0_4 hF) ?_
    refine xq_aload_n dX10_is_38 rfl rfl ?_
    refine xq_getF clX10 (by decide) rfl fl_RX10_67 dX10_is_39 (Fx.s0 hF) (Fx.r0_9 hF) ?_
    refine xq_getIE clX7 (by decide) rfl fl_RX10_176 dX10_is_42 (St.s0 (Fx.g67 hF)) hu31.f5 ?_
    refine xq_aload_n dX10_is_45 rfl rfl ?_
    refine xq_getR clX10 (by decide) rfl fl_RX10_48 dX10_is_46 (Fx.s0 hF) s31 ?_
    refine xq_getF clX8 (by decide) rfl fl_RX10_190 dX10_is_49 (Tx.s0 ht) (Tx.r7 ht) ?_
    refine xq_iload_n dX10_is_52 rfl rfl ?_
    refine xq_ialdN dX10_is_53 (Tx.s14 ht) (by omega) (by decide) ((hT31.fa f hf).2.1) ?_
    refine xq_callV2P clX4 gd_X4_bit dX10_is_54 ml_RX10_193 im_X4_bit se_X4_bit rfl (Fx.s16 hF) (by exact Nat.le_of_ble_eq_true rfl) (by decide) (c_bit hF (by omega) hfa.1) ?_
    refine xq_iret dX10_is_57 rfl ?_
    refine ⟨_, H31, ⟨?_, o31.mo (fun q h => by omega), ?_⟩, rfl⟩
    · rw [r31 _ hfa.1 hfa.2.1 _ hrl]
    · obtain ⟨t2, a1, a2⟩ := m31; exact ⟨t2, by omega, a2⟩
  · skip
    first | exact absurd h5 (by decide) | exact absurd rfl h5
noncomputable def surV (T : uTx) (u : uSt) (p f : Nat) : Nat := if !(ex (fun q => alk u p q && !(kv T u (tRo T f) q)) (uZ u)) then 1 else if !(ex (fun q => alk u p q && kv T u (tRo T f) q) (uZ u)) then 0 else 2
theorem sur_V {H1 : xH} (h : ∀ q, q < uZ u → rx H1 q (tRo T f) = kv T u (tRo T f) q) : sur H1 u p (tRo T f) = surV T u p f := by
  unfold sur surV surA surN
  rw [ex_cong (f := fun q => alk u p q && !(rx H1 q (tRo T f))) (g := fun q => alk u p q && !(kv T u (tRo T f) q)) (fun q hq => by rw [h q hq]), ex_cong (f := fun q => alk u p q && rx H1 q (tRo T f)) (g := fun q => alk u p q && kv T u (tRo T f) q) (fun q hq => by rw [h q hq])]
theorem c_sure0 (hr : RdP S H t T u z) (hno : ¬ (hasB w (tNp T) = true ∧ hasB w2 (tNf T) = true)) : Pv mX10_sure 4 [.ref 0, .int w, .int w2] S H (vZ (-1)) := by
  have hF := hr.fx
  refine vq_ev (vq_intro (by decide) (by exact Nat.le_of_ble_eq_true rfl) rfl ?_)
  refine xq_aload_n dX10_sure_0 rfl rfl ?_
  refine xq_iload_n dX10_sure_1 rfl rfl ?_
  refine xq_callV1P clX10 gd_X10_isPerson dX10_sure_2 ml_RX10_134 im_X10_isPerson se_X10_isPerson rfl (Fx.s0 hF) (by exact Nat.le_of_ble_eq_true rfl) (by decide) (c_isPerson hr) ?_
  refine xq_if_eqB dX10_sure_5 rfl ⟨fun h5 => ?_, fun h5 => ?_⟩
  · skip
    refine xq_iconst dX10_sure_16 icm1 ?_
    refine xq_iret dX10_sure_17 rfl ?_
    show _ = _; rw [zm1]
  · skip
    refine xq_aload_n dX10_sure_8 rfl rfl ?_
    refine xq_iload_n dX10_sure_9 rfl rfl ?_
    refine xq_callV1P clX10 gd_X10_isFact dX10_sure_10 ml_RX10_179 im_X10_isFact se_X10_isFact rfl (Fx.s0 hF) (by exact Nat.le_of_ble_eq_true rfl) (by decide) (c_isFact hr) ?_
    refine xq_if_neB dX10_sure_13 rfl ⟨fun h13 => ?_, fun h13 => ?_⟩
    · skip
      exact absurd ⟨h5, h13⟩ hno
    · skip
      refine xq_iconst dX10_sure_16 icm1 ?_
      refine xq_iret dX10_sure_17 rfl ?_
      show _ = _; rw [zm1]
theorem c_sure1 (hr : RdP S H t T u z) (hp : p < tNp T) (hf : f < tNf T) : Hv mX10_sure 4 [.ref 0, vN p, vN f] S H vN (fun x H' => x = surV T u p f ∧ Off (fun q => 16 ≤ q ∧ q ≤ 21) H H' ∧ ∃ t2, t2 ≤ z + 500 ∧ MiP H' t2) := by
  have hF := hr.fx; have hT := hr.tx; have tk := hr.tk; have hu := hr.st; have ok := hr.ok; have hm := hr.mi; have ht := hr.gt; have ht24 := hr.t24; have ht45 := hr.t45; have hz := ok.n; have hnp := ok.np; have hrl := ok.rl; have hnpe := hr.np; have h67 : 67 ≤ 67 := Nat.le_refl _; have ha := Fx.g67 hF; have hzz := hr.zb; have hfa := tk.fa f hf; have hnf := tk.nf
  refine vq_intro (by decide) (by exact Nat.le_of_ble_eq_true rfl) rfl ?_
  refine xq_aload_n dX10_sure_0 rfl rfl ?_
  refine xq_iload_n dX10_sure_1 rfl rfl ?_
  refine xq_callV1P clX10 gd_X10_isPerson dX10_sure_2 ml_RX10_134 im_X10_isPerson se_X10_isPerson rfl (Fx.s0 hF) (by exact Nat.le_of_ble_eq_true rfl) (by decide) (c_isPerson1 hr hp) ?_
  refine xq_if_eqN dX10_sure_5 rfl (by omega) ⟨fun h5 => ?_, fun h5 => ?_⟩
  · skip
    first | exact absurd h5 (by decide) | exact absurd rfl h5
  · skip
    refine xq_aload_n dX10_sure_8 rfl rfl ?_
    refine xq_iload_n dX10_sure_9 rfl rfl ?_
    refine xq_callV1P clX10 gd_X10_isFact dX10_sure_10 ml_RX10_179 im_X10_isFact se_X10_isFact rfl (Fx.s0 hF) (by exact Nat.le_of_ble_eq_true rfl) (by decide) (c_isFact1 hr hf) ?_
    refine xq_if_neN dX10_sure_13 rfl (by omega) ⟨fun h13 => ?_, fun h13 => ?_⟩
    · skip
      refine xq_aload_n dX10_sure_18 rfl rfl ?_
      refine xq_getF clX10 (by decide) rfl fl_RX10_34 dX10_sure_19 (Fx.s0 hF) (Fx.r0_4 hF) ?_
      refine xq_aload_n dX10_sure_22 rfl rfl ?_
      refine xq_getR clX10 (by decide) rfl fl_RX10_48 dX10_sure_23 (Fx.s0 hF) hr.sc ?_
      refine xq_aload_n dX10_sure_26 rfl rfl ?_
      refine xq_getF clX10 (by decide) rfl fl_RX10_67 dX10_sure_27 (Fx.s0 hF) (Fx.r0_9 hF) ?_
      refine xq_aload_n dX10_sure_30 rfl rfl ?_
      refine xq_getR clX10 (by decide) rfl fl_RX10_48 dX10_sure_31 (Fx.s0 hF) hr.sc ?_
      refine xq_getF clX8 (by decide) rfl fl_RX10_182 dX10_sure_34 (Tx.s0 ht) (Tx.r8 ht) ?_
      refine xq_iload_n dX10_sure_37 rfl rfl ?_
      refine xq_laldN dX10_sure_38 (Tx.s15 ht) (by omega) (by decide) ((hT.fa f hf).2.2) ?_
      refine xq_callV3N clX4 gd_X4_judge dX10_sure_39 ml_RX10_186 im_X4_judge se_X4_judge rfl (Fx.s16 hF) (by exact Nat.le_of_ble_eq_true rfl) (by decide) (c_judge hF ha h67 hu ok ht ht24 ht45 hT tk.nk hfa.2.2 hm (by omega)) ?_
      intro H39 p39
      obtain ⟨o39, m39, j39, r39⟩ := p39
      have hu39 := hu.off o39 (fun j hj => by omega); have hT39 := hT.off o39 (fun j hj => by omega); have s39 : hR H39 0 6 = some t := (o39.R (by omega) 6).trans hr.sc
      refine xq_aload_n dX10_sure_42 rfl rfl ?_
      refine xq_getF clX10 (by decide) rfl fl_RX10_34 dX10_sure_43 (Fx.s0 hF) (Fx.r0_4 hF) ?_
      refine xq_aload_n dX10_sure_46 rfl rfl ?_
      refine xq_getF clX10 (by decide) rfl fl_RX10_67 dX10_sure_47 (Fx.s0 hF) (Fx.r0_9 hF) ?_
      refine xq_iload_n dX10_sure_50 rfl rfl ?_
      refine xq_aload_n dX10_sure_51 rfl rfl ?_
      refine xq_getR clX10 (by decide) rfl fl_RX10_48 dX10_sure_52 (Fx.s0 hF) s39 ?_
      refine xq_getF clX8 (by decide) rfl fl_RX10_190 dX10_sure_55 (Tx.s0 ht) (Tx.r7 ht) ?_
      refine xq_iload_n dX10_sure_58 rfl rfl ?_
      refine xq_ialdN dX10_sure_59 (Tx.s14 ht) (by omega) (by decide) ((hT39.fa f hf).2.1) ?_
      refine xq_callV3P clX4 gd_X4_sureness dX10_sure_60 ml_RX10_196 im_X4_sureness se_X4_sureness rfl (Fx.s16 hF) (by exact Nat.le_of_ble_eq_true rfl) (by decide) (c_sureness hF ha h67 hu39 ok (by omega) hfa.1) ?_
      refine xq_iret dX10_sure_63 rfl ?_
      refine ⟨_, H39, ⟨sur_V (fun q hq => r39 _ hfa.1 hfa.2.1 q hq), o39.mo (fun q h => by omega), ?_⟩, rfl⟩
      obtain ⟨t2, a1, a2⟩ := m39; exact ⟨t2, by omega, a2⟩
    · skip
      first | exact absurd h13 (by decide) | exact absurd rfl h13
noncomputable def comV (T : uTx) (u : uSt) (f : Nat) : Bool := !(ex (fun r => cn u r == cn u (uRl u) && !(kv T u (tRo T f) r)) (uZ u))
theorem c_common0 (hr : RdP S H t T u z) (hno : hasB w (tNf T) = false) : Pv mX10_common 4 [.ref 0, .int w] S H (vZ (-1)) := by
  have hF := hr.fx
  refine vq_ev (vq_intro (by decide) (by exact Nat.le_of_ble_eq_true rfl) rfl ?_)
  refine xq_aload_n dX10_common_0 rfl rfl ?_
  refine xq_iload_n dX10_common_1 rfl rfl ?_
  refine xq_callV1P clX10 gd_X10_isFact dX10_common_2 ml_RX10_179 im_X10_isFact se_X10_isFact rfl (Fx.s0 hF) (by exact Nat.le_of_ble_eq_true rfl) (by decide) (c_isFact hr) ?_
  refine xq_if_neB dX10_common_5 rfl ⟨fun h5 => ?_, fun h5 => ?_⟩
  · skip
    rw [hno] at h5; cases h5
  · skip
    refine xq_iconst dX10_common_8 icm1 ?_
    refine xq_iret dX10_common_9 rfl ?_
    show _ = _; rw [zm1]
theorem c_common1 (hr : RdP S H t T u z) (hf : f < tNf T) : Hv mX10_common 4 [.ref 0, vN f] S H vN (fun x H' => x = (comV T u f).toNat ∧ Off (fun q => 16 ≤ q ∧ q ≤ 21) H H' ∧ ∃ t2, t2 ≤ z + 600 ∧ MiP H' t2) := by
  have hF := hr.fx; have hT := hr.tx; have tk := hr.tk; have hu := hr.st; have ok := hr.ok; have hm := hr.mi; have ht := hr.gt; have ht24 := hr.t24; have ht45 := hr.t45; have hz := ok.n; have hnp := ok.np; have hrl := ok.rl; have hnpe := hr.np; have h67 : 67 ≤ 67 := Nat.le_refl _; have ha := Fx.g67 hF; have hzz := hr.zb; have hfa := tk.fa f hf; have hnf := tk.nf
  refine vq_intro (by decide) (by exact Nat.le_of_ble_eq_true rfl) rfl ?_
  refine xq_aload_n dX10_common_0 rfl rfl ?_
  refine xq_iload_n dX10_common_1 rfl rfl ?_
  refine xq_callV1P clX10 gd_X10_isFact dX10_common_2 ml_RX10_179 im_X10_isFact se_X10_isFact rfl (Fx.s0 hF) (by exact Nat.le_of_ble_eq_true rfl) (by decide) (c_isFact1 hr hf) ?_
  refine xq_if_neN dX10_common_5 rfl (by omega) ⟨fun h5 => ?_, fun h5 => ?_⟩
  · skip
    refine xq_aload_n dX10_common_10 rfl rfl ?_
    refine xq_getF clX10 (by decide) rfl fl_RX10_34 dX10_common_11 (Fx.s0 hF) (Fx.r0_4 hF) ?_
    refine xq_aload_n dX10_common_14 rfl rfl ?_
    refine xq_getR clX10 (by decide) rfl fl_RX10_48 dX10_common_15 (Fx.s0 hF) hr.sc ?_
    refine xq_aload_n dX10_common_18 rfl rfl ?_
    refine xq_getF clX10 (by decide) rfl fl_RX10_67 dX10_common_19 (Fx.s0 hF) (Fx.r0_9 hF) ?_
    refine xq_aload_n dX10_common_22 rfl rfl ?_
    refine xq_getR clX10 (by decide) rfl fl_RX10_48 dX10_common_23 (Fx.s0 hF) hr.sc ?_
    refine xq_getF clX8 (by decide) rfl fl_RX10_182 dX10_common_26 (Tx.s0 ht) (Tx.r8 ht) ?_
    refine xq_iload_n dX10_common_29 rfl rfl ?_
    refine xq_laldN dX10_common_30 (Tx.s15 ht) (by omega) (by decide) ((hT.fa f hf).2.2) ?_
    refine xq_callV3N clX4 gd_X4_judge dX10_common_31 ml_RX10_186 im_X4_judge se_X4_judge rfl (Fx.s16 hF) (by exact Nat.le_of_ble_eq_true rfl) (by decide) (c_judge hF ha h67 hu ok ht ht24 ht45 hT tk.nk hfa.2.2 hm (by omega)) ?_
    intro H31 p31
    obtain ⟨o31, m31, j31, r31⟩ := p31
    have hu31 := hu.off o31 (fun j hj => by omega); have hT31 := hT.off o31 (fun j hj => by omega); have s31 : hR H31 0 6 = some t := (o31.R (by omega) 6).trans hr.sc
    obtain ⟨t3, a1, a2⟩ := m31
    refine xq_aload_n dX10_common_34 rfl rfl ?_
    refine xq_getF clX10 (by decide) rfl fl_RX10_34 dX10_common_35 (Fx.s0 hF) (Fx.r0_4 hF) ?_
    refine xq_aload_n dX10_common_38 rfl rfl ?_
    refine xq_getF clX10 (by decide) rfl fl_RX10_67 dX10_common_39 (Fx.s0 hF) (Fx.r0_9 hF) ?_
    refine xq_aload_n dX10_common_42 rfl rfl ?_
    refine xq_getR clX10 (by decide) rfl fl_RX10_48 dX10_common_43 (Fx.s0 hF) s31 ?_
    refine xq_getF clX8 (by decide) rfl fl_RX10_190 dX10_common_46 (Tx.s0 ht) (Tx.r7 ht) ?_
    refine xq_iload_n dX10_common_49 rfl rfl ?_
    refine xq_ialdN dX10_common_50 (Tx.s14 ht) (by omega) (by decide) ((hT31.fa f hf).2.1) ?_
    refine xq_callV2N clX4 gd_X4_keepOnly dX10_common_51 ml_RX10_200 im_X4_keepOnly se_X4_keepOnly rfl (Fx.s16 hF) (by exact Nat.le_of_ble_eq_true rfl) (by decide) (c_keepOnly hF ha h67 hu31 ok hfa.1) ?_
    intro H51 p51
    obtain ⟨o51, k51⟩ := p51
    have hu51 := hu31.off o51 (fun j hj => by omega)
    have j51 := j31.off (o51.I (by omega) 5) (fun q => o51.I (by omega) q)
    refine xq_aload_n dX10_common_54 rfl rfl ?_
    refine xq_getF clX10 (by decide) rfl fl_RX10_34 dX10_common_55 (Fx.s0 hF) (Fx.r0_4 hF) ?_
    refine xq_aload_n dX10_common_58 rfl rfl ?_
    refine xq_getF clX10 (by decide) rfl fl_RX10_67 dX10_common_59 (Fx.s0 hF) (Fx.r0_9 hF) ?_
    refine xq_iconst dX10_common_62 ic0 ?_
    refine xq_iconst dX10_common_63 ic1 ?_
    refine xq_callV3N clX4 gd_X4_sharedByAll dX10_common_64 ml_RX10_204 im_X4_sharedByAll se_X4_sharedByAll rfl (Fx.s16 hF) (by exact Nat.le_of_ble_eq_true rfl) (by decide) (c_sharedByAll hF ha h67 hu51 ok (a2.off o51 (by omega) (by omega)) (by omega) j51 (x := 0) (k := 1) (by decide) (by decide) (by decide)) ?_
    intro H64 p64
    obtain ⟨o64, ⟨t4, b1, b2⟩, j64, c64⟩ := p64
    have hu64 := hu51.off o64 (fun j hj => by omega)
    refine xq_aload_n dX10_common_67 rfl rfl ?_
    refine xq_getF clX10 (by decide) rfl fl_RX10_34 dX10_common_68 (Fx.s0 hF) (Fx.r0_4 hF) ?_
    refine xq_aload_n dX10_common_71 rfl rfl ?_
    refine xq_getF clX10 (by decide) rfl fl_RX10_67 dX10_common_72 (Fx.s0 hF) (Fx.r0_9 hF) ?_
    refine xq_getIE clX7 (by decide) rfl fl_RX10_176 dX10_common_75 (St.s0 (Fx.g67 hF)) hu64.f5 ?_
    refine xq_iconst dX10_common_78 ic1 ?_
    refine xq_callV2P clX4 gd_X4_bit dX10_common_79 ml_RX10_193 im_X4_bit se_X4_bit rfl (Fx.s16 hF) (by exact Nat.le_of_ble_eq_true rfl) (by decide) (c_bit hF (by omega) (by decide)) ?_
    refine xq_iret dX10_common_82 rfl ?_
    refine ⟨_, H64, ⟨?_, (o31.mo (fun q h => by omega)).tr ((o51.mo (fun q h => by omega)).tr (o64.mo (fun q h => by omega))), t4, by omega, b2⟩, rfl⟩
    rw [c64.in hrl (by decide)]
    congr 2
    unfold shb
    rw [ex_cong (g := fun r => cn u r == cn u (uRl u) && !(kv T u (tRo T f) r)) (fun q hq => by rw [k51 q hq 0 (by decide), r31 _ hfa.1 hfa.2.1 q hq]; rfl)]
  · skip
    first | exact absurd h5 (by decide) | exact absurd rfl h5
theorem c_law0 (hr : RdP S H t T u z) (hno : ¬ ((w = 0 ∨ w = 1) ∧ hasB w2 (tNp T) = true)) : Pv mX10_law 5 [.ref 0, .int w, .int w2] S H (.long (zL MIN64)) := by
  have hF := hr.fx
  refine vq_ev (vq_intro (by decide) (by exact Nat.le_of_ble_eq_true rfl) rfl ?_)
  refine xq_iload_n dX10_law_0 rfl rfl ?_
  refine xq_if_eq dX10_law_1 rfl ⟨fun h1 => ?_, fun h1 => ?_⟩
  · skip
    refine xq_aload_n dX10_law_9 rfl rfl ?_
    refine xq_iload_n dX10_law_10 rfl rfl ?_
    refine xq_callV1P clX10 gd_X10_isPerson dX10_law_11 ml_RX10_134 im_X10_isPerson se_X10_isPerson rfl (Fx.s0 hF) (by exact Nat.le_of_ble_eq_true rfl) (by decide) (c_isPerson hr) ?_
    refine xq_if_neB dX10_law_14 rfl ⟨fun h14 => ?_, fun h14 => ?_⟩
    · skip
      exact absurd ⟨Or.inl h1, h14⟩ hno
    · skip
      refine xq_ldc2 dX10_law_17 kc_RX10_211 ?_
      refine xq_lret dX10_law_20 rfl ?_
      rfl
  · skip
    refine xq_iload_n dX10_law_4 rfl rfl ?_
    refine xq_iconst dX10_law_5 ic1 ?_
    refine xq_icmp_ne dX10_law_6 rfl ⟨fun h6 => ?_, fun h6 => ?_⟩
    · skip
      refine xq_ldc2 dX10_law_17 kc_RX10_211 ?_
      refine xq_lret dX10_law_20 rfl ?_
      rfl
    · skip
      refine xq_aload_n dX10_law_9 rfl rfl ?_
      refine xq_iload_n dX10_law_10 rfl rfl ?_
      refine xq_callV1P clX10 gd_X10_isPerson dX10_law_11 ml_RX10_134 im_X10_isPerson se_X10_isPerson rfl (Fx.s0 hF) (by exact Nat.le_of_ble_eq_true rfl) (by decide) (c_isPerson hr) ?_
      refine xq_if_neB dX10_law_14 rfl ⟨fun h14 => ?_, fun h14 => ?_⟩
      · skip
        exact absurd ⟨Or.inr h6, h14⟩ hno
      · skip
        refine xq_ldc2 dX10_law_17 kc_RX10_211 ?_
        refine xq_lret dX10_law_20 rfl ?_
        rfl
theorem c_law1 {l : Nat} (hr : RdP S H t T u z) (hl : l < 2) (hp : p < tNp T) : Hv mX10_law 5 [.ref 0, vN l, vN p] S H vL (fun x H' => x = lawL (lawE T (nmv u p (pop (kns u))) l) ∧ Off (fun q => q = 23) H H') := by
  have hF := hr.fx; have hT := hr.tx; have tk := hr.tk; have hu := hr.st; have ok := hr.ok; have hm := hr.mi; have ht := hr.gt; have ht24 := hr.t24; have ht45 := hr.t45; have hz := ok.n; have hnp := ok.np; have hrl := ok.rl; have hnpe := hr.np; have h67 : 67 ≤ 67 := Nat.le_refl _; have ha := Fx.g67 hF; have hzz := hr.zb; have hkl := kns_lt hnp; have hpl := pop_le (kns u)
  have hlw : LwOk T l := by
    have : l = 0 ∨ l = 1 := by omega
    rcases this with e | e
    · rw [e]; exact tk.l0
    · rw [e]; exact tk.l1
  refine vq_intro (by decide) (by exact Nat.le_of_ble_eq_true rfl) rfl ?_
  refine xq_iload_n dX10_law_0 rfl rfl ?_
  refine xq_if_eqN dX10_law_1 rfl (by omega) ⟨fun h1 => ?_, fun h1 => ?_⟩
  · skip
    refine xq_aload_n dX10_law_9 rfl rfl ?_
    refine xq_iload_n dX10_law_10 rfl rfl ?_
    refine xq_callV1P clX10 gd_X10_isPerson dX10_law_11 ml_RX10_134 im_X10_isPerson se_X10_isPerson rfl (Fx.s0 hF) (by exact Nat.le_of_ble_eq_true rfl) (by decide) (c_isPerson1 hr hp) ?_
    refine xq_if_neN dX10_law_14 rfl (by omega) ⟨fun h14 => ?_, fun h14 => ?_⟩
    · skip
      refine xq_aload_n dX10_law_21 rfl rfl ?_
      refine xq_getF clX10 (by decide) rfl fl_RX10_41 dX10_law_22 (Fx.s0 hF) (Fx.r0_5 hF) ?_
      refine xq_aload_n dX10_law_25 rfl rfl ?_
      refine xq_getR clX10 (by decide) rfl fl_RX10_48 dX10_law_26 (Fx.s0 hF) hr.sc ?_
      refine xq_iload_n dX10_law_29 rfl rfl ?_
      refine xq_aload_n dX10_law_30 rfl rfl ?_
      refine xq_getF clX10 (by decide) rfl fl_RX10_67 dX10_law_31 (Fx.s0 hF) (Fx.r0_9 hF) ?_
      refine xq_iload_n dX10_law_34 rfl rfl ?_
      refine xq_aload_n dX10_law_35 rfl rfl ?_
      refine xq_getF clX10 (by decide) rfl fl_RX10_67 dX10_law_36 (Fx.s0 hF) (Fx.r0_9 hF) ?_
      refine xq_callV0P clX7 gd_X7_knowers dX10_law_39 ml_RX10_213 im_X7_knowers se_X7_knowers rfl (St.s0 (Fx.g67 hF)) (by exact Nat.le_of_ble_eq_true rfl) (by decide) (c_knowers ha hu ok) ?_
      refine xq_callS1P gd_J6_bitCount_0f7a4 dX10_law_42 ml_RX10_217 im_J6_bitCount_0f7a4 (by exact Nat.le_of_ble_eq_true rfl) (by decide) (c_bitCount (by omega)) ?_
      refine xq_callV5H clX3 gd_X3_valueOf dX10_law_45 ml_RX10_222 im_X3_valueOf se_X3_valueOf rfl (Fx.s22 hF) (by exact Nat.le_of_ble_eq_true rfl) (by decide) (c_valueOf hF ha h67 hu ok ht ht24 ht45 hT tk.nk hl hlw (by omega) (by omega)) ?_
      intro x45 H45 p45
      refine xq_lret dX10_law_48 rfl ?_
      exact ⟨_, H45, ⟨p45.2, p45.1⟩, rfl⟩
    · skip
      first | exact absurd h14 (by decide) | exact absurd rfl h14
  · skip
    refine xq_iload_n dX10_law_4 rfl rfl ?_
    refine xq_iconst dX10_law_5 ic1 ?_
    refine xq_icmp_neN dX10_law_6 rfl (by omega) (by omega) ⟨fun h6 => ?_, fun h6 => ?_⟩
    · skip
      exact absurd h6 (by omega)
    · skip
      refine xq_aload_n dX10_law_9 rfl rfl ?_
      refine xq_iload_n dX10_law_10 rfl rfl ?_
      refine xq_callV1P clX10 gd_X10_isPerson dX10_law_11 ml_RX10_134 im_X10_isPerson se_X10_isPerson rfl (Fx.s0 hF) (by exact Nat.le_of_ble_eq_true rfl) (by decide) (c_isPerson1 hr hp) ?_
      refine xq_if_neN dX10_law_14 rfl (by omega) ⟨fun h14 => ?_, fun h14 => ?_⟩
      · skip
        refine xq_aload_n dX10_law_21 rfl rfl ?_
        refine xq_getF clX10 (by decide) rfl fl_RX10_41 dX10_law_22 (Fx.s0 hF) (Fx.r0_5 hF) ?_
        refine xq_aload_n dX10_law_25 rfl rfl ?_
        refine xq_getR clX10 (by decide) rfl fl_RX10_48 dX10_law_26 (Fx.s0 hF) hr.sc ?_
        refine xq_iload_n dX10_law_29 rfl rfl ?_
        refine xq_aload_n dX10_law_30 rfl rfl ?_
        refine xq_getF clX10 (by decide) rfl fl_RX10_67 dX10_law_31 (Fx.s0 hF) (Fx.r0_9 hF) ?_
        refine xq_iload_n dX10_law_34 rfl rfl ?_
        refine xq_aload_n dX10_law_35 rfl rfl ?_
        refine xq_getF clX10 (by decide) rfl fl_RX10_67 dX10_law_36 (Fx.s0 hF) (Fx.r0_9 hF) ?_
        refine xq_callV0P clX7 gd_X7_knowers dX10_law_39 ml_RX10_213 im_X7_knowers se_X7_knowers rfl (St.s0 (Fx.g67 hF)) (by exact Nat.le_of_ble_eq_true rfl) (by decide) (c_knowers ha hu ok) ?_
        refine xq_callS1P gd_J6_bitCount_0f7a4 dX10_law_42 ml_RX10_217 im_J6_bitCount_0f7a4 (by exact Nat.le_of_ble_eq_true rfl) (by decide) (c_bitCount (by omega)) ?_
        refine xq_callV5H clX3 gd_X3_valueOf dX10_law_45 ml_RX10_222 im_X3_valueOf se_X3_valueOf rfl (Fx.s22 hF) (by exact Nat.le_of_ble_eq_true rfl) (by decide) (c_valueOf hF ha h67 hu ok ht ht24 ht45 hT tk.nk hl hlw (by omega) (by omega)) ?_
        intro x45 H45 p45
        refine xq_lret dX10_law_48 rfl ?_
        exact ⟨_, H45, ⟨p45.2, p45.1⟩, rfl⟩
      · skip
        first | exact absurd h14 (by decide) | exact absurd rfl h14
end RD
