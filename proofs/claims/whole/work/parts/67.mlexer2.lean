/-! ===== the reference reads names and signs ===== -/
section MLb
variable {S : xS} {H H1 H2 H3 : xH} {b : Nat → Nat} {n e e2 p q i j k x w m : Nat} {A F : Nat → Prop}
theorem hrv_eq (hb : e < n → b e < 256) (hx : x < 256) : hrv b n e = nI x ↔ e < n ∧ b e = x := by
  unfold hrv
  by_cases h : e < n
  · have := hb h
    rw [if_pos h, nq_eq (by omega) (by omega)]
    exact ⟨fun z => ⟨h, z⟩, fun z => z.2⟩
  · rw [if_neg h]
    constructor
    · intro z
      have := congrArg Int32.toInt z
      rw [nI_toInt (by omega)] at this
      have h1 : (-1 : Int32).toInt = -1 := by decide
      omega
    · intro z; exact absurd z.1 h
def nmw (b : Nat → Nat) (p e : Nat) : Nat → Nat
  | 0 => 0
  | k + 1 => nmw b p e k <<< 5 ||| (if p + k < e then b (p + k) - 97 + 1 else 0)
theorem nmw_s (hc : ∀ i, i < e - p → 97 ≤ b (p + i) ∧ b (p + i) ≤ 122) (k : Nat) : nmw b p e (k + 1) = nmw b p e k * 32 + (if p + k < e then b (p + k) - 96 else 0) := by
  have hx : (if p + k < e then b (p + k) - 97 + 1 else 0) = (if p + k < e then b (p + k) - 96 else 0) := by
    by_cases h : p + k < e
    · have := hc k (by omega)
      rw [if_pos h, if_pos h]; omega
    · rw [if_neg h, if_neg h]
  have hlt : (if p + k < e then b (p + k) - 96 else 0) < 2 ^ 5 := by
    by_cases h : p + k < e
    · have := hc k (by omega)
      rw [if_pos h]; omega
    · rw [if_neg h]; decide
  show nmw b p e k <<< 5 ||| (if p + k < e then b (p + k) - 97 + 1 else 0) = _
  rw [hx, Nat.shiftLeft_eq, Nat.mul_comm (nmw b p e k), ← Nat.two_pow_add_eq_or_of_lt hlt, Nat.mul_comm]
theorem nmw_U (hpe : p ≤ e) (hc : ∀ i, i < e - p → 97 ≤ b (p + i) ∧ b (p + i) ≤ 122) : ∀ k, nmw b p e k = if k ≤ e - p then uU (fun i => b (p + i)) k else uU (fun i => b (p + i)) (e - p) * 2 ^ (5 * (k - (e - p)))
  | 0 => by rw [if_pos (Nat.zero_le _)]; rfl
  | k + 1 => by
    rw [nmw_s hc, nmw_U hpe hc k]
    by_cases h : k + 1 ≤ e - p
    · rw [if_pos (show k ≤ e - p by omega), if_pos h, if_pos (show p + k < e by omega)]; rfl
    · rw [if_neg h, if_neg (show ¬ p + k < e by omega), Nat.add_zero]
      by_cases h2 : k ≤ e - p
      · have h3 : k = e - p := by omega
        rw [if_pos h2, ← h3, show k + 1 - k = 1 by omega]
      · rw [if_neg h2, Nat.mul_assoc, show 5 * (k + 1 - (e - p)) = 5 * (k - (e - p)) + 5 by omega, Nat.pow_add]
theorem nmw_6 (hpe : p ≤ e) (h6 : e - p ≤ 6) (hc : ∀ i, i < e - p → 97 ≤ b (p + i) ∧ b (p + i) ≤ 122) : nmw b p e 6 = pkL b p (e - p) := by
  rw [nmw_U hpe hc, pkL_U _ h6 hc]
  by_cases h : 6 ≤ e - p
  · have h3 : e - p = 6 := by omega
    rw [if_pos h, h3]
    show _ = _ * 2 ^ 0
    rw [Nat.pow_zero, Nat.mul_one]
  · rw [if_neg h, show 5 * (6 - (e - p)) = 30 - 5 * (e - p) by omega]
theorem m_name (hx : LxP S H b n e) (hp : hI H 83 23 = nI p) (hpe : p ≤ e) (h6 : e - p ≤ 6) (hc : ∀ i, i < e - p → 97 ≤ b (p + i) ∧ b (p + i) ≤ 122) : Nv mX11_name 0 [.ref 83] S H (fun H' => hI H' 83 25 = nI (pkL b p (e - p)) ∧ MoF (fun q => q = 83) (fun k => k = 25) H H') := by
  have hF := hx.fx; have hn7 := hx.n7; have hle := hx.le
  have lp : ∀ (fz : Nat) (k : Nat) (H1 : xH), 6 - k < fz → k ≤ 6 → hI H1 83 25 = nI (nmw b p e k) → MoF (fun q => q = 83) (fun k => k = 25) H H1 → Xq mX11_name 0 0 0 7 [some (.ref 83), some (vN k)] [] S H1 (fun R => ∃ H', (fun H' => hI H' 83 25 = nI (pkL b p (e - p)) ∧ MoF (fun q => q = 83) (fun k => k = 25) H H') H' ∧ R = (none, S, H')) := by
    intro fz
    induction fz with
    | zero => intro k  H1  hfz; exact absurd hfz (by omega)
    | succ fz ih =>
      intro k  H1  hfz hk hv ho
      refine xq_iload_n dX11_name_7 rfl rfl ?_
      refine xq_bipush dX11_name_8 bp6 ?_
      refine xq_icmp_geN dX11_name_10 rfl (by omega) (by omega) ⟨fun h10 => ?_, fun h10 => ?_⟩
      · skip
        refine xq_vret dX11_name_63 rfl ?_
        exact ⟨H1, ⟨by rw [hv, show k = 6 by omega, nmw_6 hpe h6 hc], ho⟩, rfl⟩
      · skip
        refine xq_aload_n dX11_name_13 rfl rfl ?_
        refine xq_aload_n dX11_name_14 rfl rfl ?_
        refine xq_getIE clX11 (by decide) rfl fl_RX11_157 dX11_name_15 (Fx.s83 hF) hv ?_
        refine xq_iconst dX11_name_18 ic5 ?_
        refine xq_ishlN dX11_name_19 (by decide) ?_
        refine xq_aload_n dX11_name_20 rfl rfl ?_
        refine xq_getIE clX11 (by decide) rfl fl_RX11_144 dX11_name_21 (Fx.s83 hF) ((ho.2 23 (by decide)).trans hp) ?_
        refine xq_iload_n dX11_name_24 rfl rfl ?_
        refine xq_iaddN dX11_name_25 ?_
        refine xq_aload_n dX11_name_26 rfl rfl ?_
        refine xq_getIE clX11 (by decide) rfl fl_RX11_134 dX11_name_27 (Fx.s83 hF) ((ho.2 22 (by decide)).trans hx.at) ?_
        refine xq_icmp_geN dX11_name_30 rfl (by omega) (by omega) ⟨fun h30 => ?_, fun h30 => ?_⟩
        · skip
          refine xq_iconst dX11_name_52 ic0 ?_
          refine xq_iorN dX11_name_53 ?_
          refine xq_putI clX11 (by decide) rfl fl_RX11_157 (Or.inl rfl) dX11_name_54 ⟨rfl, rfl⟩ (Fx.s83 hF) ?_
          refine xq_iincN dX11_name_57 ic1 rfl rfl ?_
          refine xq_goto dX11_name_60 rfl ?_
          refine ih (k + 1) _ (by omega) (by omega) ?_ (MoF.pF (A := (fun q => q = 83)) (F := (fun k => k = 25)) ho rfl rfl _)
          rw [hI_sI, if_pos ⟨rfl, rfl⟩]
          show _ = nI (nmw b p e k <<< 5 ||| (if p + k < e then b (p + k) - 97 + 1 else 0))
          rw [if_neg (by omega)]
        · skip
          refine xq_aload_n dX11_name_33 rfl rfl ?_
          refine xq_getF clX11 (by decide) rfl fl_RX11_7 dX11_name_34 (Fx.s83 hF) (Fx.r83_1 hF) ?_
          refine xq_aload_n dX11_name_37 rfl rfl ?_
          refine xq_getIE clX11 (by decide) rfl fl_RX11_144 dX11_name_38 (Fx.s83 hF) ((ho.2 23 (by decide)).trans hp) ?_
          refine xq_iload_n dX11_name_41 rfl rfl ?_
          refine xq_iaddN dX11_name_42 ?_
          refine xq_ialdN (v := nI (b (p + k))) dX11_name_43 (Fx.s84 hF) (by omega) (by decide) ((ho.1.I (by omega) _).trans (hx.ta (p + k) (by omega)).1) ?_
          refine xq_bipush dX11_name_44 bp97 ?_
          have hck := hc k (by omega)
          rw [show p + k = p + k from rfl]
          refine xq_isubN dX11_name_46 (by omega) ?_
          refine xq_iconst dX11_name_47 ic1 ?_
          refine xq_iaddN dX11_name_48 ?_
          refine xq_goto dX11_name_49 rfl ?_
          refine xq_iorN dX11_name_53 ?_
          refine xq_putI clX11 (by decide) rfl fl_RX11_157 (Or.inl rfl) dX11_name_54 ⟨rfl, rfl⟩ (Fx.s83 hF) ?_
          refine xq_iincN dX11_name_57 ic1 rfl rfl ?_
          refine xq_goto dX11_name_60 rfl ?_
          refine ih (k + 1) _ (by omega) (by omega) ?_ (MoF.pF (A := (fun q => q = 83)) (F := (fun k => k = 25)) ho rfl rfl _)
          rw [hI_sI, if_pos ⟨rfl, rfl⟩]
          show _ = nI (nmw b p e k <<< 5 ||| (if p + k < e then b (p + k) - 97 + 1 else 0))
          rw [if_pos (by omega)]
  refine vq_intro (by decide) (by exact Nat.le_of_ble_eq_true rfl) rfl ?_
  refine xq_aload_n dX11_name_0 rfl rfl ?_
  refine xq_iconst dX11_name_1 ic0 ?_
  refine xq_putI clX11 (by decide) rfl fl_RX11_157 (Or.inl rfl) dX11_name_2 ⟨rfl, rfl⟩ (Fx.s83 hF) ?_
  refine xq_iconst dX11_name_5 ic0 ?_
  refine xq_istore_n dX11_name_6 rfl rfl ?_
  exact lp 7 0 _ (by omega) (by omega) (by rw [hI_sI, if_pos ⟨rfl, rfl⟩]; rfl) (MoF.pF (A := (fun q => q = 83)) (F := (fun k => k = 25)) (H := H) (H2 := H) (k := 25) MoF.rf rfl (by decide) _)
def sgV (b : Nat → Nat) (n e : Nat) : Nat := if decide (e + 1 < n) && pr2 (b e) (b (e + 1)) then (if b e = 62 then 258 else if b (e + 1) = 61 then 256 else 257) else b e
theorem pr2_no {x y : Nat} (h : ¬ (x = 60 ∧ y = 61)) (h2 : ¬ (x = 60 ∧ y = 62)) (h3 : ¬ (x = 62 ∧ y = 61)) : pr2 x y = false := by
  unfold pr2
  cases e : ((x == 60 && (y == 61 || y == 62)) || (x == 62 && y == 61))
  · rfl
  · simp at e
    omega
theorem kof_43 {x : Nat} : kof x = 43 ↔ ¬ (x = 59 ∨ x = 40 ∨ x = 41 ∨ x = 43 ∨ x = 45 ∨ x = 42 ∨ x = 47 ∨ x = 60 ∨ x = 61 ∨ x = 62) := by
  unfold kof
  repeat' split
  all_goals omega
theorem m_sign (hx : LxP S H b n e) (hen : e < n) : Nv mX11_sign 1 [.ref 83, vN (b e)] S H (fun H' => hI H' 83 22 = nI (if decide (e + 1 < n) && pr2 (b e) (b (e + 1)) then e + 2 else e + 1) ∧ hI H' 83 24 = nI (if kof (b e) = 43 then 5 else 3) ∧ hI H' 83 25 = nI (sgV b n e) ∧ MoF (fun q => q = 83) (fun k => k = 22 ∨ k = 24 ∨ k = 25) H H') := by
  have hF := hx.fx; have hn7 := hx.n7; have hle := hx.le
  have hbe := (hx.ta e hen).2
  have hx1 : LxP S (sI H 83 22 (nI (e + 1))) b n (e + 1) := hx.mv (A := fun q => q = 83) (Off.pI (A := fun q => q = 83) Off.rf rfl _ _) (by decide) (by rw [hI_sI, if_neg (by omega)]) (by rw [hI_sI, if_pos ⟨rfl, rfl⟩]) (by omega)
  have lT : ∀ z : Nat, z = (if kof (b e) = 43 then 5 else 3) → Xq mX11_sign 1 0 0 76 [some (.ref 83), some (vN (b e))] [vN z, .ref 83] S (sI H 83 22 (nI (e + 1))) (fun R => ∃ H', (fun H' => hI H' 83 22 = nI (if decide (e + 1 < n) && pr2 (b e) (b (e + 1)) then e + 2 else e + 1) ∧ hI H' 83 24 = nI (if kof (b e) = 43 then 5 else 3) ∧ hI H' 83 25 = nI (sgV b n e) ∧ MoF (fun q => q = 83) (fun k => k = 22 ∨ k = 24 ∨ k = 25) H H') H' ∧ R = (none, S, H')) := by
    intro z hz
    refine xq_putI clX11 (by decide) rfl fl_RX11_147 (Or.inl rfl) dX11_sign_76 ⟨rfl, rfl⟩ (Fx.s83 hF) ?_
    refine xq_aload_n dX11_sign_79 rfl rfl ?_
    refine xq_iload_n dX11_sign_80 rfl rfl ?_
    refine xq_putI clX11 (by decide) rfl fl_RX11_157 (Or.inl rfl) dX11_sign_81 ⟨rfl, rfl⟩ (Fx.s83 hF) ?_
    refine xq_iload_n dX11_sign_84 rfl rfl ?_
    refine xq_bipush dX11_sign_85 bp60 ?_
    refine xq_icmp_neN dX11_sign_87 rfl (by omega) (by omega) ⟨fun h87 => ?_, fun h87 => ?_⟩
    · skip
      refine xq_iload_n dX11_sign_106 rfl rfl ?_
      refine xq_bipush dX11_sign_107 bp60 ?_
      refine xq_icmp_neN dX11_sign_109 rfl (by omega) (by omega) ⟨fun h109 => ?_, fun h109 => ?_⟩
      · skip
        refine xq_iload_n dX11_sign_128 rfl rfl ?_
        refine xq_bipush dX11_sign_129 bp62 ?_
        refine xq_icmp_neN dX11_sign_131 rfl (by omega) (by omega) ⟨fun h131 => ?_, fun h131 => ?_⟩
        · skip
          refine xq_aload_n dX11_sign_150 rfl rfl ?_
          refine xq_getI clX11 (by decide) rfl fl_RX11_157 dX11_sign_151 (Fx.s83 hF) ?_
          refine xq_sipush dX11_sign_154 sp256 ?_
          refine xq_icmp_lt dX11_sign_157 rfl ⟨fun h157 => ?_, fun h157 => ?_⟩
          · skip
            refine xq_vret dX11_sign_170 rfl ?_
            have hpr : (decide (e + 1 < n) && pr2 (b e) (b (e + 1))) = false := by
              by_cases hq : e + 1 < n
              · rw [decide_eq_true hq, Bool.true_and]
                exact pr2_no (fun z => h87 z.1) (fun z => h87 z.1) (fun z => h131 z.1)
              · rw [decide_eq_false hq, Bool.false_and]
            refine ⟨_, ⟨?_, ?_, ?_, (MoF.pF (A := (fun q => q = 83)) (F := (fun k => k = 22 ∨ k = 24 ∨ k = 25)) (MoF.pF (A := (fun q => q = 83)) (F := (fun k => k = 22 ∨ k = 24 ∨ k = 25)) (MoF.pF (A := (fun q => q = 83)) (F := (fun k => k = 22 ∨ k = 24 ∨ k = 25)) (H := H) (H2 := H) (k := 22) MoF.rf rfl (by decide) _) rfl (by decide) _) rfl (by decide) _)⟩, rfl⟩
            · rw [hpr, if_neg (by decide)]; simp [hI_sI]
            · rw [← hz]; simp [hI_sI]
            · unfold sgV
              rw [hpr, if_neg (by decide)]; simp [hI_sI]
          · skip
            refine xq_aload_n dX11_sign_160 rfl rfl ?_
            refine xq_dup dX11_sign_161 rfl ?_
            refine xq_getIE (v := nI (e + 1)) clX11 (by decide) rfl fl_RX11_134 dX11_sign_162 (Fx.s83 hF) (by simp [hI_sI]) ?_
            refine xq_iconst dX11_sign_165 ic1 ?_
            refine xq_iaddN dX11_sign_166 ?_
            refine xq_putI clX11 (by decide) rfl fl_RX11_134 (Or.inl rfl) dX11_sign_167 ⟨rfl, rfl⟩ (Fx.s83 hF) ?_
            refine xq_vret dX11_sign_170 rfl ?_
            rw [hI_sI, if_pos ⟨rfl, rfl⟩, nq_ltI (by omega) (by omega)] at h157; exact absurd hbe h157
        · skip
          refine xq_aload_n dX11_sign_134 rfl rfl ?_
          refine xq_callV0P clX11 gd_X11_here dX11_sign_135 ml_RX11_140 im_X11_here se_X11_here rfl (Fx.s83 hF) (by exact Nat.le_of_ble_eq_true rfl) (by decide) (m_here (hx1.mv (A := fun q => q = 83) (e2 := e + 1) (Off.pI (A := fun q => q = 83) (Off.pI (A := fun q => q = 83) Off.rf rfl _ _) rfl _ _) (by decide) (by simp [hI_sI]) (by simp [hI_sI]) (by omega))) ?_
          refine xq_bipush dX11_sign_138 bp61 ?_
          refine xq_icmp_ne dX11_sign_140 rfl ⟨fun h140 => ?_, fun h140 => ?_⟩
          · skip
            refine xq_aload_n dX11_sign_150 rfl rfl ?_
            refine xq_getI clX11 (by decide) rfl fl_RX11_157 dX11_sign_151 (Fx.s83 hF) ?_
            refine xq_sipush dX11_sign_154 sp256 ?_
            refine xq_icmp_lt dX11_sign_157 rfl ⟨fun h157 => ?_, fun h157 => ?_⟩
            · skip
              refine xq_vret dX11_sign_170 rfl ?_
              have hpr : (decide (e + 1 < n) && pr2 (b e) (b (e + 1))) = false := by
                by_cases hq : e + 1 < n
                · rw [decide_eq_true hq, Bool.true_and]
                  exact pr2_no (fun z => h87 z.1) (fun z => h87 z.1) (fun z => h140 ((hrv_eq (fun y => (hx.ta (e + 1) y).2) (by decide)).mpr ⟨hq, z.2⟩))
                · rw [decide_eq_false hq, Bool.false_and]
              refine ⟨_, ⟨?_, ?_, ?_, (MoF.pF (A := (fun q => q = 83)) (F := (fun k => k = 22 ∨ k = 24 ∨ k = 25)) (MoF.pF (A := (fun q => q = 83)) (F := (fun k => k = 22 ∨ k = 24 ∨ k = 25)) (MoF.pF (A := (fun q => q = 83)) (F := (fun k => k = 22 ∨ k = 24 ∨ k = 25)) (H := H) (H2 := H) (k := 22) MoF.rf rfl (by decide) _) rfl (by decide) _) rfl (by decide) _)⟩, rfl⟩
              · rw [hpr, if_neg (by decide)]; simp [hI_sI]
              · rw [← hz]; simp [hI_sI]
              · unfold sgV
                rw [hpr, if_neg (by decide)]; simp [hI_sI]
            · skip
              refine xq_aload_n dX11_sign_160 rfl rfl ?_
              refine xq_dup dX11_sign_161 rfl ?_
              refine xq_getIE (v := nI (e + 1)) clX11 (by decide) rfl fl_RX11_134 dX11_sign_162 (Fx.s83 hF) (by simp [hI_sI]) ?_
              refine xq_iconst dX11_sign_165 ic1 ?_
              refine xq_iaddN dX11_sign_166 ?_
              refine xq_putI clX11 (by decide) rfl fl_RX11_134 (Or.inl rfl) dX11_sign_167 ⟨rfl, rfl⟩ (Fx.s83 hF) ?_
              refine xq_vret dX11_sign_170 rfl ?_
              rw [hI_sI, if_pos ⟨rfl, rfl⟩, nq_ltI (by omega) (by omega)] at h157; exact absurd hbe h157
          · skip
            refine xq_aload_n dX11_sign_143 rfl rfl ?_
            refine xq_sipush dX11_sign_144 sp258 ?_
            refine xq_putI clX11 (by decide) rfl fl_RX11_157 (Or.inl rfl) dX11_sign_147 ⟨rfl, rfl⟩ (Fx.s83 hF) ?_
            refine xq_aload_n dX11_sign_150 rfl rfl ?_
            refine xq_getI clX11 (by decide) rfl fl_RX11_157 dX11_sign_151 (Fx.s83 hF) ?_
            refine xq_sipush dX11_sign_154 sp256 ?_
            refine xq_icmp_lt dX11_sign_157 rfl ⟨fun h157 => ?_, fun h157 => ?_⟩
            · skip
              refine xq_vret dX11_sign_170 rfl ?_
              rw [hI_sI, if_pos ⟨rfl, rfl⟩] at h157; exact absurd h157 (by decide)
            · skip
              refine xq_aload_n dX11_sign_160 rfl rfl ?_
              refine xq_dup dX11_sign_161 rfl ?_
              refine xq_getIE (v := nI (e + 1)) clX11 (by decide) rfl fl_RX11_134 dX11_sign_162 (Fx.s83 hF) (by simp [hI_sI]) ?_
              refine xq_iconst dX11_sign_165 ic1 ?_
              refine xq_iaddN dX11_sign_166 ?_
              refine xq_putI clX11 (by decide) rfl fl_RX11_134 (Or.inl rfl) dX11_sign_167 ⟨rfl, rfl⟩ (Fx.s83 hF) ?_
              refine xq_vret dX11_sign_170 rfl ?_
              have hq := (hrv_eq (fun z => (hx.ta (e + 1) z).2) (by decide)).mp h140
              have hpr : (decide (e + 1 < n) && pr2 (b e) (b (e + 1))) = true := by rw [decide_eq_true hq.1, h131, hq.2]; rfl
              refine ⟨_, ⟨?_, ?_, ?_, (MoF.pF (A := (fun q => q = 83)) (F := (fun k => k = 22 ∨ k = 24 ∨ k = 25)) (MoF.pF (A := (fun q => q = 83)) (F := (fun k => k = 22 ∨ k = 24 ∨ k = 25)) (MoF.pF (A := (fun q => q = 83)) (F := (fun k => k = 22 ∨ k = 24 ∨ k = 25)) (MoF.pF (A := (fun q => q = 83)) (F := (fun k => k = 22 ∨ k = 24 ∨ k = 25)) (MoF.pF (A := (fun q => q = 83)) (F := (fun k => k = 22 ∨ k = 24 ∨ k = 25)) (H := H) (H2 := H) (k := 22) MoF.rf rfl (by decide) _) rfl (by decide) _) rfl (by decide) _) rfl (by decide) _) rfl (by decide) _)⟩, rfl⟩
              · rw [hpr, if_pos rfl, hI_sI, if_pos ⟨rfl, rfl⟩]
              · rw [← hz]; simp [hI_sI]
              · unfold sgV
                rw [hpr, if_pos rfl, h131, hq.2]
                simp [hI_sI]
      · skip
        refine xq_aload_n dX11_sign_112 rfl rfl ?_
        refine xq_callV0P clX11 gd_X11_here dX11_sign_113 ml_RX11_140 im_X11_here se_X11_here rfl (Fx.s83 hF) (by exact Nat.le_of_ble_eq_true rfl) (by decide) (m_here (hx1.mv (A := fun q => q = 83) (e2 := e + 1) (Off.pI (A := fun q => q = 83) (Off.pI (A := fun q => q = 83) Off.rf rfl _ _) rfl _ _) (by decide) (by simp [hI_sI]) (by simp [hI_sI]) (by omega))) ?_
        refine xq_bipush dX11_sign_116 bp62 ?_
        refine xq_icmp_ne dX11_sign_118 rfl ⟨fun h118 => ?_, fun h118 => ?_⟩
        · skip
          refine xq_iload_n dX11_sign_128 rfl rfl ?_
          refine xq_bipush dX11_sign_129 bp62 ?_
          refine xq_icmp_neN dX11_sign_131 rfl (by omega) (by omega) ⟨fun h131 => ?_, fun h131 => ?_⟩
          · skip
            refine xq_aload_n dX11_sign_150 rfl rfl ?_
            refine xq_getI clX11 (by decide) rfl fl_RX11_157 dX11_sign_151 (Fx.s83 hF) ?_
            refine xq_sipush dX11_sign_154 sp256 ?_
            refine xq_icmp_lt dX11_sign_157 rfl ⟨fun h157 => ?_, fun h157 => ?_⟩
            · skip
              refine xq_vret dX11_sign_170 rfl ?_
              exfalso; omega
            · skip
              refine xq_aload_n dX11_sign_160 rfl rfl ?_
              refine xq_dup dX11_sign_161 rfl ?_
              refine xq_getIE (v := nI (e + 1)) clX11 (by decide) rfl fl_RX11_134 dX11_sign_162 (Fx.s83 hF) (by simp [hI_sI]) ?_
              refine xq_iconst dX11_sign_165 ic1 ?_
              refine xq_iaddN dX11_sign_166 ?_
              refine xq_putI clX11 (by decide) rfl fl_RX11_134 (Or.inl rfl) dX11_sign_167 ⟨rfl, rfl⟩ (Fx.s83 hF) ?_
              refine xq_vret dX11_sign_170 rfl ?_
              exfalso; omega
          · skip
            refine xq_aload_n dX11_sign_134 rfl rfl ?_
            refine xq_callV0P clX11 gd_X11_here dX11_sign_135 ml_RX11_140 im_X11_here se_X11_here rfl (Fx.s83 hF) (by exact Nat.le_of_ble_eq_true rfl) (by decide) (m_here (hx1.mv (A := fun q => q = 83) (e2 := e + 1) (Off.pI (A := fun q => q = 83) (Off.pI (A := fun q => q = 83) Off.rf rfl _ _) rfl _ _) (by decide) (by simp [hI_sI]) (by simp [hI_sI]) (by omega))) ?_
            refine xq_bipush dX11_sign_138 bp61 ?_
            refine xq_icmp_ne dX11_sign_140 rfl ⟨fun h140 => ?_, fun h140 => ?_⟩
            · skip
              refine xq_aload_n dX11_sign_150 rfl rfl ?_
              refine xq_getI clX11 (by decide) rfl fl_RX11_157 dX11_sign_151 (Fx.s83 hF) ?_
              refine xq_sipush dX11_sign_154 sp256 ?_
              refine xq_icmp_lt dX11_sign_157 rfl ⟨fun h157 => ?_, fun h157 => ?_⟩
              · skip
                refine xq_vret dX11_sign_170 rfl ?_
                exfalso; omega
              · skip
                refine xq_aload_n dX11_sign_160 rfl rfl ?_
                refine xq_dup dX11_sign_161 rfl ?_
                refine xq_getIE (v := nI (e + 1)) clX11 (by decide) rfl fl_RX11_134 dX11_sign_162 (Fx.s83 hF) (by simp [hI_sI]) ?_
                refine xq_iconst dX11_sign_165 ic1 ?_
                refine xq_iaddN dX11_sign_166 ?_
                refine xq_putI clX11 (by decide) rfl fl_RX11_134 (Or.inl rfl) dX11_sign_167 ⟨rfl, rfl⟩ (Fx.s83 hF) ?_
                refine xq_vret dX11_sign_170 rfl ?_
                exfalso; omega
            · skip
              refine xq_aload_n dX11_sign_143 rfl rfl ?_
              refine xq_sipush dX11_sign_144 sp258 ?_
              refine xq_putI clX11 (by decide) rfl fl_RX11_157 (Or.inl rfl) dX11_sign_147 ⟨rfl, rfl⟩ (Fx.s83 hF) ?_
              refine xq_aload_n dX11_sign_150 rfl rfl ?_
              refine xq_getI clX11 (by decide) rfl fl_RX11_157 dX11_sign_151 (Fx.s83 hF) ?_
              refine xq_sipush dX11_sign_154 sp256 ?_
              refine xq_icmp_lt dX11_sign_157 rfl ⟨fun h157 => ?_, fun h157 => ?_⟩
              · skip
                refine xq_vret dX11_sign_170 rfl ?_
                exfalso; omega
              · skip
                refine xq_aload_n dX11_sign_160 rfl rfl ?_
                refine xq_dup dX11_sign_161 rfl ?_
                refine xq_getIE (v := nI (e + 1)) clX11 (by decide) rfl fl_RX11_134 dX11_sign_162 (Fx.s83 hF) (by simp [hI_sI]) ?_
                refine xq_iconst dX11_sign_165 ic1 ?_
                refine xq_iaddN dX11_sign_166 ?_
                refine xq_putI clX11 (by decide) rfl fl_RX11_134 (Or.inl rfl) dX11_sign_167 ⟨rfl, rfl⟩ (Fx.s83 hF) ?_
                refine xq_vret dX11_sign_170 rfl ?_
                exfalso; omega
        · skip
          refine xq_aload_n dX11_sign_121 rfl rfl ?_
          refine xq_sipush dX11_sign_122 sp257 ?_
          refine xq_putI clX11 (by decide) rfl fl_RX11_157 (Or.inl rfl) dX11_sign_125 ⟨rfl, rfl⟩ (Fx.s83 hF) ?_
          refine xq_iload_n dX11_sign_128 rfl rfl ?_
          refine xq_bipush dX11_sign_129 bp62 ?_
          refine xq_icmp_neN dX11_sign_131 rfl (by omega) (by omega) ⟨fun h131 => ?_, fun h131 => ?_⟩
          · skip
            refine xq_aload_n dX11_sign_150 rfl rfl ?_
            refine xq_getI clX11 (by decide) rfl fl_RX11_157 dX11_sign_151 (Fx.s83 hF) ?_
            refine xq_sipush dX11_sign_154 sp256 ?_
            refine xq_icmp_lt dX11_sign_157 rfl ⟨fun h157 => ?_, fun h157 => ?_⟩
            · skip
              refine xq_vret dX11_sign_170 rfl ?_
              exfalso; omega
            · skip
              refine xq_aload_n dX11_sign_160 rfl rfl ?_
              refine xq_dup dX11_sign_161 rfl ?_
              refine xq_getIE (v := nI (e + 1)) clX11 (by decide) rfl fl_RX11_134 dX11_sign_162 (Fx.s83 hF) (by simp [hI_sI]) ?_
              refine xq_iconst dX11_sign_165 ic1 ?_
              refine xq_iaddN dX11_sign_166 ?_
              refine xq_putI clX11 (by decide) rfl fl_RX11_134 (Or.inl rfl) dX11_sign_167 ⟨rfl, rfl⟩ (Fx.s83 hF) ?_
              refine xq_vret dX11_sign_170 rfl ?_
              exfalso; omega
          · skip
            refine xq_aload_n dX11_sign_134 rfl rfl ?_
            refine xq_callV0P clX11 gd_X11_here dX11_sign_135 ml_RX11_140 im_X11_here se_X11_here rfl (Fx.s83 hF) (by exact Nat.le_of_ble_eq_true rfl) (by decide) (m_here (hx1.mv (A := fun q => q = 83) (e2 := e + 1) (Off.pI (A := fun q => q = 83) (Off.pI (A := fun q => q = 83) (Off.pI (A := fun q => q = 83) Off.rf rfl _ _) rfl _ _) rfl _ _) (by decide) (by simp [hI_sI]) (by simp [hI_sI]) (by omega))) ?_
            refine xq_bipush dX11_sign_138 bp61 ?_
            refine xq_icmp_ne dX11_sign_140 rfl ⟨fun h140 => ?_, fun h140 => ?_⟩
            · skip
              refine xq_aload_n dX11_sign_150 rfl rfl ?_
              refine xq_getI clX11 (by decide) rfl fl_RX11_157 dX11_sign_151 (Fx.s83 hF) ?_
              refine xq_sipush dX11_sign_154 sp256 ?_
              refine xq_icmp_lt dX11_sign_157 rfl ⟨fun h157 => ?_, fun h157 => ?_⟩
              · skip
                refine xq_vret dX11_sign_170 rfl ?_
                exfalso; omega
              · skip
                refine xq_aload_n dX11_sign_160 rfl rfl ?_
                refine xq_dup dX11_sign_161 rfl ?_
                refine xq_getIE (v := nI (e + 1)) clX11 (by decide) rfl fl_RX11_134 dX11_sign_162 (Fx.s83 hF) (by simp [hI_sI]) ?_
                refine xq_iconst dX11_sign_165 ic1 ?_
                refine xq_iaddN dX11_sign_166 ?_
                refine xq_putI clX11 (by decide) rfl fl_RX11_134 (Or.inl rfl) dX11_sign_167 ⟨rfl, rfl⟩ (Fx.s83 hF) ?_
                refine xq_vret dX11_sign_170 rfl ?_
                exfalso; omega
            · skip
              refine xq_aload_n dX11_sign_143 rfl rfl ?_
              refine xq_sipush dX11_sign_144 sp258 ?_
              refine xq_putI clX11 (by decide) rfl fl_RX11_157 (Or.inl rfl) dX11_sign_147 ⟨rfl, rfl⟩ (Fx.s83 hF) ?_
              refine xq_aload_n dX11_sign_150 rfl rfl ?_
              refine xq_getI clX11 (by decide) rfl fl_RX11_157 dX11_sign_151 (Fx.s83 hF) ?_
              refine xq_sipush dX11_sign_154 sp256 ?_
              refine xq_icmp_lt dX11_sign_157 rfl ⟨fun h157 => ?_, fun h157 => ?_⟩
              · skip
                refine xq_vret dX11_sign_170 rfl ?_
                exfalso; omega
              · skip
                refine xq_aload_n dX11_sign_160 rfl rfl ?_
                refine xq_dup dX11_sign_161 rfl ?_
                refine xq_getIE (v := nI (e + 1)) clX11 (by decide) rfl fl_RX11_134 dX11_sign_162 (Fx.s83 hF) (by simp [hI_sI]) ?_
                refine xq_iconst dX11_sign_165 ic1 ?_
                refine xq_iaddN dX11_sign_166 ?_
                refine xq_putI clX11 (by decide) rfl fl_RX11_134 (Or.inl rfl) dX11_sign_167 ⟨rfl, rfl⟩ (Fx.s83 hF) ?_
                refine xq_vret dX11_sign_170 rfl ?_
                exfalso; omega
    · skip
      refine xq_aload_n dX11_sign_90 rfl rfl ?_
      refine xq_callV0P clX11 gd_X11_here dX11_sign_91 ml_RX11_140 im_X11_here se_X11_here rfl (Fx.s83 hF) (by exact Nat.le_of_ble_eq_true rfl) (by decide) (m_here (hx1.mv (A := fun q => q = 83) (e2 := e + 1) (Off.pI (A := fun q => q = 83) (Off.pI (A := fun q => q = 83) Off.rf rfl _ _) rfl _ _) (by decide) (by simp [hI_sI]) (by simp [hI_sI]) (by omega))) ?_
      refine xq_bipush dX11_sign_94 bp61 ?_
      refine xq_icmp_ne dX11_sign_96 rfl ⟨fun h96 => ?_, fun h96 => ?_⟩
      · skip
        refine xq_iload_n dX11_sign_106 rfl rfl ?_
        refine xq_bipush dX11_sign_107 bp60 ?_
        refine xq_icmp_neN dX11_sign_109 rfl (by omega) (by omega) ⟨fun h109 => ?_, fun h109 => ?_⟩
        · skip
          refine xq_iload_n dX11_sign_128 rfl rfl ?_
          refine xq_bipush dX11_sign_129 bp62 ?_
          refine xq_icmp_neN dX11_sign_131 rfl (by omega) (by omega) ⟨fun h131 => ?_, fun h131 => ?_⟩
          · skip
            refine xq_aload_n dX11_sign_150 rfl rfl ?_
            refine xq_getI clX11 (by decide) rfl fl_RX11_157 dX11_sign_151 (Fx.s83 hF) ?_
            refine xq_sipush dX11_sign_154 sp256 ?_
            refine xq_icmp_lt dX11_sign_157 rfl ⟨fun h157 => ?_, fun h157 => ?_⟩
            · skip
              refine xq_vret dX11_sign_170 rfl ?_
              exfalso; omega
            · skip
              refine xq_aload_n dX11_sign_160 rfl rfl ?_
              refine xq_dup dX11_sign_161 rfl ?_
              refine xq_getIE (v := nI (e + 1)) clX11 (by decide) rfl fl_RX11_134 dX11_sign_162 (Fx.s83 hF) (by simp [hI_sI]) ?_
              refine xq_iconst dX11_sign_165 ic1 ?_
              refine xq_iaddN dX11_sign_166 ?_
              refine xq_putI clX11 (by decide) rfl fl_RX11_134 (Or.inl rfl) dX11_sign_167 ⟨rfl, rfl⟩ (Fx.s83 hF) ?_
              refine xq_vret dX11_sign_170 rfl ?_
              exfalso; omega
          · skip
            refine xq_aload_n dX11_sign_134 rfl rfl ?_
            refine xq_callV0P clX11 gd_X11_here dX11_sign_135 ml_RX11_140 im_X11_here se_X11_here rfl (Fx.s83 hF) (by exact Nat.le_of_ble_eq_true rfl) (by decide) (m_here (hx1.mv (A := fun q => q = 83) (e2 := e + 1) (Off.pI (A := fun q => q = 83) (Off.pI (A := fun q => q = 83) Off.rf rfl _ _) rfl _ _) (by decide) (by simp [hI_sI]) (by simp [hI_sI]) (by omega))) ?_
            refine xq_bipush dX11_sign_138 bp61 ?_
            refine xq_icmp_ne dX11_sign_140 rfl ⟨fun h140 => ?_, fun h140 => ?_⟩
            · skip
              refine xq_aload_n dX11_sign_150 rfl rfl ?_
              refine xq_getI clX11 (by decide) rfl fl_RX11_157 dX11_sign_151 (Fx.s83 hF) ?_
              refine xq_sipush dX11_sign_154 sp256 ?_
              refine xq_icmp_lt dX11_sign_157 rfl ⟨fun h157 => ?_, fun h157 => ?_⟩
              · skip
                refine xq_vret dX11_sign_170 rfl ?_
                exfalso; omega
              · skip
                refine xq_aload_n dX11_sign_160 rfl rfl ?_
                refine xq_dup dX11_sign_161 rfl ?_
                refine xq_getIE (v := nI (e + 1)) clX11 (by decide) rfl fl_RX11_134 dX11_sign_162 (Fx.s83 hF) (by simp [hI_sI]) ?_
                refine xq_iconst dX11_sign_165 ic1 ?_
                refine xq_iaddN dX11_sign_166 ?_
                refine xq_putI clX11 (by decide) rfl fl_RX11_134 (Or.inl rfl) dX11_sign_167 ⟨rfl, rfl⟩ (Fx.s83 hF) ?_
                refine xq_vret dX11_sign_170 rfl ?_
                exfalso; omega
            · skip
              refine xq_aload_n dX11_sign_143 rfl rfl ?_
              refine xq_sipush dX11_sign_144 sp258 ?_
              refine xq_putI clX11 (by decide) rfl fl_RX11_157 (Or.inl rfl) dX11_sign_147 ⟨rfl, rfl⟩ (Fx.s83 hF) ?_
              refine xq_aload_n dX11_sign_150 rfl rfl ?_
              refine xq_getI clX11 (by decide) rfl fl_RX11_157 dX11_sign_151 (Fx.s83 hF) ?_
              refine xq_sipush dX11_sign_154 sp256 ?_
              refine xq_icmp_lt dX11_sign_157 rfl ⟨fun h157 => ?_, fun h157 => ?_⟩
              · skip
                refine xq_vret dX11_sign_170 rfl ?_
                exfalso; omega
              · skip
                refine xq_aload_n dX11_sign_160 rfl rfl ?_
                refine xq_dup dX11_sign_161 rfl ?_
                refine xq_getIE (v := nI (e + 1)) clX11 (by decide) rfl fl_RX11_134 dX11_sign_162 (Fx.s83 hF) (by simp [hI_sI]) ?_
                refine xq_iconst dX11_sign_165 ic1 ?_
                refine xq_iaddN dX11_sign_166 ?_
                refine xq_putI clX11 (by decide) rfl fl_RX11_134 (Or.inl rfl) dX11_sign_167 ⟨rfl, rfl⟩ (Fx.s83 hF) ?_
                refine xq_vret dX11_sign_170 rfl ?_
                exfalso; omega
        · skip
          refine xq_aload_n dX11_sign_112 rfl rfl ?_
          refine xq_callV0P clX11 gd_X11_here dX11_sign_113 ml_RX11_140 im_X11_here se_X11_here rfl (Fx.s83 hF) (by exact Nat.le_of_ble_eq_true rfl) (by decide) (m_here (hx1.mv (A := fun q => q = 83) (e2 := e + 1) (Off.pI (A := fun q => q = 83) (Off.pI (A := fun q => q = 83) Off.rf rfl _ _) rfl _ _) (by decide) (by simp [hI_sI]) (by simp [hI_sI]) (by omega))) ?_
          refine xq_bipush dX11_sign_116 bp62 ?_
          refine xq_icmp_ne dX11_sign_118 rfl ⟨fun h118 => ?_, fun h118 => ?_⟩
          · skip
            refine xq_iload_n dX11_sign_128 rfl rfl ?_
            refine xq_bipush dX11_sign_129 bp62 ?_
            refine xq_icmp_neN dX11_sign_131 rfl (by omega) (by omega) ⟨fun h131 => ?_, fun h131 => ?_⟩
            · skip
              refine xq_aload_n dX11_sign_150 rfl rfl ?_
              refine xq_getI clX11 (by decide) rfl fl_RX11_157 dX11_sign_151 (Fx.s83 hF) ?_
              refine xq_sipush dX11_sign_154 sp256 ?_
              refine xq_icmp_lt dX11_sign_157 rfl ⟨fun h157 => ?_, fun h157 => ?_⟩
              · skip
                refine xq_vret dX11_sign_170 rfl ?_
                have hpr : (decide (e + 1 < n) && pr2 (b e) (b (e + 1))) = false := by
                  by_cases hq : e + 1 < n
                  · rw [decide_eq_true hq, Bool.true_and]
                    exact pr2_no (fun z => h96 ((hrv_eq (fun y => (hx.ta (e + 1) y).2) (by decide)).mpr ⟨hq, z.2⟩)) (fun z => h118 ((hrv_eq (fun y => (hx.ta (e + 1) y).2) (by decide)).mpr ⟨hq, z.2⟩)) (fun z => h131 z.1)
                  · rw [decide_eq_false hq, Bool.false_and]
                refine ⟨_, ⟨?_, ?_, ?_, (MoF.pF (A := (fun q => q = 83)) (F := (fun k => k = 22 ∨ k = 24 ∨ k = 25)) (MoF.pF (A := (fun q => q = 83)) (F := (fun k => k = 22 ∨ k = 24 ∨ k = 25)) (MoF.pF (A := (fun q => q = 83)) (F := (fun k => k = 22 ∨ k = 24 ∨ k = 25)) (H := H) (H2 := H) (k := 22) MoF.rf rfl (by decide) _) rfl (by decide) _) rfl (by decide) _)⟩, rfl⟩
                · rw [hpr, if_neg (by decide)]; simp [hI_sI]
                · rw [← hz]; simp [hI_sI]
                · unfold sgV
                  rw [hpr, if_neg (by decide)]; simp [hI_sI]
              · skip
                refine xq_aload_n dX11_sign_160 rfl rfl ?_
                refine xq_dup dX11_sign_161 rfl ?_
                refine xq_getIE (v := nI (e + 1)) clX11 (by decide) rfl fl_RX11_134 dX11_sign_162 (Fx.s83 hF) (by simp [hI_sI]) ?_
                refine xq_iconst dX11_sign_165 ic1 ?_
                refine xq_iaddN dX11_sign_166 ?_
                refine xq_putI clX11 (by decide) rfl fl_RX11_134 (Or.inl rfl) dX11_sign_167 ⟨rfl, rfl⟩ (Fx.s83 hF) ?_
                refine xq_vret dX11_sign_170 rfl ?_
                rw [hI_sI, if_pos ⟨rfl, rfl⟩, nq_ltI (by omega) (by omega)] at h157; exact absurd hbe h157
            · skip
              refine xq_aload_n dX11_sign_134 rfl rfl ?_
              refine xq_callV0P clX11 gd_X11_here dX11_sign_135 ml_RX11_140 im_X11_here se_X11_here rfl (Fx.s83 hF) (by exact Nat.le_of_ble_eq_true rfl) (by decide) (m_here (hx1.mv (A := fun q => q = 83) (e2 := e + 1) (Off.pI (A := fun q => q = 83) (Off.pI (A := fun q => q = 83) Off.rf rfl _ _) rfl _ _) (by decide) (by simp [hI_sI]) (by simp [hI_sI]) (by omega))) ?_
              refine xq_bipush dX11_sign_138 bp61 ?_
              refine xq_icmp_ne dX11_sign_140 rfl ⟨fun h140 => ?_, fun h140 => ?_⟩
              · skip
                refine xq_aload_n dX11_sign_150 rfl rfl ?_
                refine xq_getI clX11 (by decide) rfl fl_RX11_157 dX11_sign_151 (Fx.s83 hF) ?_
                refine xq_sipush dX11_sign_154 sp256 ?_
                refine xq_icmp_lt dX11_sign_157 rfl ⟨fun h157 => ?_, fun h157 => ?_⟩
                · skip
                  refine xq_vret dX11_sign_170 rfl ?_
                  exfalso; omega
                · skip
                  refine xq_aload_n dX11_sign_160 rfl rfl ?_
                  refine xq_dup dX11_sign_161 rfl ?_
                  refine xq_getIE (v := nI (e + 1)) clX11 (by decide) rfl fl_RX11_134 dX11_sign_162 (Fx.s83 hF) (by simp [hI_sI]) ?_
                  refine xq_iconst dX11_sign_165 ic1 ?_
                  refine xq_iaddN dX11_sign_166 ?_
                  refine xq_putI clX11 (by decide) rfl fl_RX11_134 (Or.inl rfl) dX11_sign_167 ⟨rfl, rfl⟩ (Fx.s83 hF) ?_
                  refine xq_vret dX11_sign_170 rfl ?_
                  exfalso; omega
              · skip
                refine xq_aload_n dX11_sign_143 rfl rfl ?_
                refine xq_sipush dX11_sign_144 sp258 ?_
                refine xq_putI clX11 (by decide) rfl fl_RX11_157 (Or.inl rfl) dX11_sign_147 ⟨rfl, rfl⟩ (Fx.s83 hF) ?_
                refine xq_aload_n dX11_sign_150 rfl rfl ?_
                refine xq_getI clX11 (by decide) rfl fl_RX11_157 dX11_sign_151 (Fx.s83 hF) ?_
                refine xq_sipush dX11_sign_154 sp256 ?_
                refine xq_icmp_lt dX11_sign_157 rfl ⟨fun h157 => ?_, fun h157 => ?_⟩
                · skip
                  refine xq_vret dX11_sign_170 rfl ?_
                  exfalso; omega
                · skip
                  refine xq_aload_n dX11_sign_160 rfl rfl ?_
                  refine xq_dup dX11_sign_161 rfl ?_
                  refine xq_getIE (v := nI (e + 1)) clX11 (by decide) rfl fl_RX11_134 dX11_sign_162 (Fx.s83 hF) (by simp [hI_sI]) ?_
                  refine xq_iconst dX11_sign_165 ic1 ?_
                  refine xq_iaddN dX11_sign_166 ?_
                  refine xq_putI clX11 (by decide) rfl fl_RX11_134 (Or.inl rfl) dX11_sign_167 ⟨rfl, rfl⟩ (Fx.s83 hF) ?_
                  refine xq_vret dX11_sign_170 rfl ?_
                  exfalso; omega
          · skip
            refine xq_aload_n dX11_sign_121 rfl rfl ?_
            refine xq_sipush dX11_sign_122 sp257 ?_
            refine xq_putI clX11 (by decide) rfl fl_RX11_157 (Or.inl rfl) dX11_sign_125 ⟨rfl, rfl⟩ (Fx.s83 hF) ?_
            refine xq_iload_n dX11_sign_128 rfl rfl ?_
            refine xq_bipush dX11_sign_129 bp62 ?_
            refine xq_icmp_neN dX11_sign_131 rfl (by omega) (by omega) ⟨fun h131 => ?_, fun h131 => ?_⟩
            · skip
              refine xq_aload_n dX11_sign_150 rfl rfl ?_
              refine xq_getI clX11 (by decide) rfl fl_RX11_157 dX11_sign_151 (Fx.s83 hF) ?_
              refine xq_sipush dX11_sign_154 sp256 ?_
              refine xq_icmp_lt dX11_sign_157 rfl ⟨fun h157 => ?_, fun h157 => ?_⟩
              · skip
                refine xq_vret dX11_sign_170 rfl ?_
                rw [hI_sI, if_pos ⟨rfl, rfl⟩] at h157; exact absurd h157 (by decide)
              · skip
                refine xq_aload_n dX11_sign_160 rfl rfl ?_
                refine xq_dup dX11_sign_161 rfl ?_
                refine xq_getIE (v := nI (e + 1)) clX11 (by decide) rfl fl_RX11_134 dX11_sign_162 (Fx.s83 hF) (by simp [hI_sI]) ?_
                refine xq_iconst dX11_sign_165 ic1 ?_
                refine xq_iaddN dX11_sign_166 ?_
                refine xq_putI clX11 (by decide) rfl fl_RX11_134 (Or.inl rfl) dX11_sign_167 ⟨rfl, rfl⟩ (Fx.s83 hF) ?_
                refine xq_vret dX11_sign_170 rfl ?_
                have hq := (hrv_eq (fun z => (hx.ta (e + 1) z).2) (by decide)).mp h118
                have hpr : (decide (e + 1 < n) && pr2 (b e) (b (e + 1))) = true := by rw [decide_eq_true hq.1, h87, hq.2]; rfl
                refine ⟨_, ⟨?_, ?_, ?_, (MoF.pF (A := (fun q => q = 83)) (F := (fun k => k = 22 ∨ k = 24 ∨ k = 25)) (MoF.pF (A := (fun q => q = 83)) (F := (fun k => k = 22 ∨ k = 24 ∨ k = 25)) (MoF.pF (A := (fun q => q = 83)) (F := (fun k => k = 22 ∨ k = 24 ∨ k = 25)) (MoF.pF (A := (fun q => q = 83)) (F := (fun k => k = 22 ∨ k = 24 ∨ k = 25)) (MoF.pF (A := (fun q => q = 83)) (F := (fun k => k = 22 ∨ k = 24 ∨ k = 25)) (H := H) (H2 := H) (k := 22) MoF.rf rfl (by decide) _) rfl (by decide) _) rfl (by decide) _) rfl (by decide) _) rfl (by decide) _)⟩, rfl⟩
                · rw [hpr, if_pos rfl, hI_sI, if_pos ⟨rfl, rfl⟩]
                · rw [← hz]; simp [hI_sI]
                · unfold sgV
                  rw [hpr, if_pos rfl, h87, hq.2]
                  simp [hI_sI]
            · skip
              refine xq_aload_n dX11_sign_134 rfl rfl ?_
              refine xq_callV0P clX11 gd_X11_here dX11_sign_135 ml_RX11_140 im_X11_here se_X11_here rfl (Fx.s83 hF) (by exact Nat.le_of_ble_eq_true rfl) (by decide) (m_here (hx1.mv (A := fun q => q = 83) (e2 := e + 1) (Off.pI (A := fun q => q = 83) (Off.pI (A := fun q => q = 83) (Off.pI (A := fun q => q = 83) Off.rf rfl _ _) rfl _ _) rfl _ _) (by decide) (by simp [hI_sI]) (by simp [hI_sI]) (by omega))) ?_
              refine xq_bipush dX11_sign_138 bp61 ?_
              refine xq_icmp_ne dX11_sign_140 rfl ⟨fun h140 => ?_, fun h140 => ?_⟩
              · skip
                refine xq_aload_n dX11_sign_150 rfl rfl ?_
                refine xq_getI clX11 (by decide) rfl fl_RX11_157 dX11_sign_151 (Fx.s83 hF) ?_
                refine xq_sipush dX11_sign_154 sp256 ?_
                refine xq_icmp_lt dX11_sign_157 rfl ⟨fun h157 => ?_, fun h157 => ?_⟩
                · skip
                  refine xq_vret dX11_sign_170 rfl ?_
                  exfalso; omega
                · skip
                  refine xq_aload_n dX11_sign_160 rfl rfl ?_
                  refine xq_dup dX11_sign_161 rfl ?_
                  refine xq_getIE (v := nI (e + 1)) clX11 (by decide) rfl fl_RX11_134 dX11_sign_162 (Fx.s83 hF) (by simp [hI_sI]) ?_
                  refine xq_iconst dX11_sign_165 ic1 ?_
                  refine xq_iaddN dX11_sign_166 ?_
                  refine xq_putI clX11 (by decide) rfl fl_RX11_134 (Or.inl rfl) dX11_sign_167 ⟨rfl, rfl⟩ (Fx.s83 hF) ?_
                  refine xq_vret dX11_sign_170 rfl ?_
                  exfalso; omega
              · skip
                refine xq_aload_n dX11_sign_143 rfl rfl ?_
                refine xq_sipush dX11_sign_144 sp258 ?_
                refine xq_putI clX11 (by decide) rfl fl_RX11_157 (Or.inl rfl) dX11_sign_147 ⟨rfl, rfl⟩ (Fx.s83 hF) ?_
                refine xq_aload_n dX11_sign_150 rfl rfl ?_
                refine xq_getI clX11 (by decide) rfl fl_RX11_157 dX11_sign_151 (Fx.s83 hF) ?_
                refine xq_sipush dX11_sign_154 sp256 ?_
                refine xq_icmp_lt dX11_sign_157 rfl ⟨fun h157 => ?_, fun h157 => ?_⟩
                · skip
                  refine xq_vret dX11_sign_170 rfl ?_
                  exfalso; omega
                · skip
                  refine xq_aload_n dX11_sign_160 rfl rfl ?_
                  refine xq_dup dX11_sign_161 rfl ?_
                  refine xq_getIE (v := nI (e + 1)) clX11 (by decide) rfl fl_RX11_134 dX11_sign_162 (Fx.s83 hF) (by simp [hI_sI]) ?_
                  refine xq_iconst dX11_sign_165 ic1 ?_
                  refine xq_iaddN dX11_sign_166 ?_
                  refine xq_putI clX11 (by decide) rfl fl_RX11_134 (Or.inl rfl) dX11_sign_167 ⟨rfl, rfl⟩ (Fx.s83 hF) ?_
                  refine xq_vret dX11_sign_170 rfl ?_
                  exfalso; omega
      · skip
        refine xq_aload_n dX11_sign_99 rfl rfl ?_
        refine xq_sipush dX11_sign_100 sp256 ?_
        refine xq_putI clX11 (by decide) rfl fl_RX11_157 (Or.inl rfl) dX11_sign_103 ⟨rfl, rfl⟩ (Fx.s83 hF) ?_
        refine xq_iload_n dX11_sign_106 rfl rfl ?_
        refine xq_bipush dX11_sign_107 bp60 ?_
        refine xq_icmp_neN dX11_sign_109 rfl (by omega) (by omega) ⟨fun h109 => ?_, fun h109 => ?_⟩
        · skip
          refine xq_iload_n dX11_sign_128 rfl rfl ?_
          refine xq_bipush dX11_sign_129 bp62 ?_
          refine xq_icmp_neN dX11_sign_131 rfl (by omega) (by omega) ⟨fun h131 => ?_, fun h131 => ?_⟩
          · skip
            refine xq_aload_n dX11_sign_150 rfl rfl ?_
            refine xq_getI clX11 (by decide) rfl fl_RX11_157 dX11_sign_151 (Fx.s83 hF) ?_
            refine xq_sipush dX11_sign_154 sp256 ?_
            refine xq_icmp_lt dX11_sign_157 rfl ⟨fun h157 => ?_, fun h157 => ?_⟩
            · skip
              refine xq_vret dX11_sign_170 rfl ?_
              exfalso; omega
            · skip
              refine xq_aload_n dX11_sign_160 rfl rfl ?_
              refine xq_dup dX11_sign_161 rfl ?_
              refine xq_getIE (v := nI (e + 1)) clX11 (by decide) rfl fl_RX11_134 dX11_sign_162 (Fx.s83 hF) (by simp [hI_sI]) ?_
              refine xq_iconst dX11_sign_165 ic1 ?_
              refine xq_iaddN dX11_sign_166 ?_
              refine xq_putI clX11 (by decide) rfl fl_RX11_134 (Or.inl rfl) dX11_sign_167 ⟨rfl, rfl⟩ (Fx.s83 hF) ?_
              refine xq_vret dX11_sign_170 rfl ?_
              exfalso; omega
          · skip
            refine xq_aload_n dX11_sign_134 rfl rfl ?_
            refine xq_callV0P clX11 gd_X11_here dX11_sign_135 ml_RX11_140 im_X11_here se_X11_here rfl (Fx.s83 hF) (by exact Nat.le_of_ble_eq_true rfl) (by decide) (m_here (hx1.mv (A := fun q => q = 83) (e2 := e + 1) (Off.pI (A := fun q => q = 83) (Off.pI (A := fun q => q = 83) (Off.pI (A := fun q => q = 83) Off.rf rfl _ _) rfl _ _) rfl _ _) (by decide) (by simp [hI_sI]) (by simp [hI_sI]) (by omega))) ?_
            refine xq_bipush dX11_sign_138 bp61 ?_
            refine xq_icmp_ne dX11_sign_140 rfl ⟨fun h140 => ?_, fun h140 => ?_⟩
            · skip
              refine xq_aload_n dX11_sign_150 rfl rfl ?_
              refine xq_getI clX11 (by decide) rfl fl_RX11_157 dX11_sign_151 (Fx.s83 hF) ?_
              refine xq_sipush dX11_sign_154 sp256 ?_
              refine xq_icmp_lt dX11_sign_157 rfl ⟨fun h157 => ?_, fun h157 => ?_⟩
              · skip
                refine xq_vret dX11_sign_170 rfl ?_
                exfalso; omega
              · skip
                refine xq_aload_n dX11_sign_160 rfl rfl ?_
                refine xq_dup dX11_sign_161 rfl ?_
                refine xq_getIE (v := nI (e + 1)) clX11 (by decide) rfl fl_RX11_134 dX11_sign_162 (Fx.s83 hF) (by simp [hI_sI]) ?_
                refine xq_iconst dX11_sign_165 ic1 ?_
                refine xq_iaddN dX11_sign_166 ?_
                refine xq_putI clX11 (by decide) rfl fl_RX11_134 (Or.inl rfl) dX11_sign_167 ⟨rfl, rfl⟩ (Fx.s83 hF) ?_
                refine xq_vret dX11_sign_170 rfl ?_
                exfalso; omega
            · skip
              refine xq_aload_n dX11_sign_143 rfl rfl ?_
              refine xq_sipush dX11_sign_144 sp258 ?_
              refine xq_putI clX11 (by decide) rfl fl_RX11_157 (Or.inl rfl) dX11_sign_147 ⟨rfl, rfl⟩ (Fx.s83 hF) ?_
              refine xq_aload_n dX11_sign_150 rfl rfl ?_
              refine xq_getI clX11 (by decide) rfl fl_RX11_157 dX11_sign_151 (Fx.s83 hF) ?_
              refine xq_sipush dX11_sign_154 sp256 ?_
              refine xq_icmp_lt dX11_sign_157 rfl ⟨fun h157 => ?_, fun h157 => ?_⟩
              · skip
                refine xq_vret dX11_sign_170 rfl ?_
                exfalso; omega
              · skip
                refine xq_aload_n dX11_sign_160 rfl rfl ?_
                refine xq_dup dX11_sign_161 rfl ?_
                refine xq_getIE (v := nI (e + 1)) clX11 (by decide) rfl fl_RX11_134 dX11_sign_162 (Fx.s83 hF) (by simp [hI_sI]) ?_
                refine xq_iconst dX11_sign_165 ic1 ?_
                refine xq_iaddN dX11_sign_166 ?_
                refine xq_putI clX11 (by decide) rfl fl_RX11_134 (Or.inl rfl) dX11_sign_167 ⟨rfl, rfl⟩ (Fx.s83 hF) ?_
                refine xq_vret dX11_sign_170 rfl ?_
                exfalso; omega
        · skip
          refine xq_aload_n dX11_sign_112 rfl rfl ?_
          refine xq_callV0P clX11 gd_X11_here dX11_sign_113 ml_RX11_140 im_X11_here se_X11_here rfl (Fx.s83 hF) (by exact Nat.le_of_ble_eq_true rfl) (by decide) (m_here (hx1.mv (A := fun q => q = 83) (e2 := e + 1) (Off.pI (A := fun q => q = 83) (Off.pI (A := fun q => q = 83) (Off.pI (A := fun q => q = 83) Off.rf rfl _ _) rfl _ _) rfl _ _) (by decide) (by simp [hI_sI]) (by simp [hI_sI]) (by omega))) ?_
          refine xq_bipush dX11_sign_116 bp62 ?_
          refine xq_icmp_ne dX11_sign_118 rfl ⟨fun h118 => ?_, fun h118 => ?_⟩
          · skip
            refine xq_iload_n dX11_sign_128 rfl rfl ?_
            refine xq_bipush dX11_sign_129 bp62 ?_
            refine xq_icmp_neN dX11_sign_131 rfl (by omega) (by omega) ⟨fun h131 => ?_, fun h131 => ?_⟩
            · skip
              refine xq_aload_n dX11_sign_150 rfl rfl ?_
              refine xq_getI clX11 (by decide) rfl fl_RX11_157 dX11_sign_151 (Fx.s83 hF) ?_
              refine xq_sipush dX11_sign_154 sp256 ?_
              refine xq_icmp_lt dX11_sign_157 rfl ⟨fun h157 => ?_, fun h157 => ?_⟩
              · skip
                refine xq_vret dX11_sign_170 rfl ?_
                rw [hI_sI, if_pos ⟨rfl, rfl⟩] at h157; exact absurd h157 (by decide)
              · skip
                refine xq_aload_n dX11_sign_160 rfl rfl ?_
                refine xq_dup dX11_sign_161 rfl ?_
                refine xq_getIE (v := nI (e + 1)) clX11 (by decide) rfl fl_RX11_134 dX11_sign_162 (Fx.s83 hF) (by simp [hI_sI]) ?_
                refine xq_iconst dX11_sign_165 ic1 ?_
                refine xq_iaddN dX11_sign_166 ?_
                refine xq_putI clX11 (by decide) rfl fl_RX11_134 (Or.inl rfl) dX11_sign_167 ⟨rfl, rfl⟩ (Fx.s83 hF) ?_
                refine xq_vret dX11_sign_170 rfl ?_
                have hq := (hrv_eq (fun z => (hx.ta (e + 1) z).2) (by decide)).mp h96
                have hpr : (decide (e + 1 < n) && pr2 (b e) (b (e + 1))) = true := by rw [decide_eq_true hq.1, h87, hq.2]; rfl
                refine ⟨_, ⟨?_, ?_, ?_, (MoF.pF (A := (fun q => q = 83)) (F := (fun k => k = 22 ∨ k = 24 ∨ k = 25)) (MoF.pF (A := (fun q => q = 83)) (F := (fun k => k = 22 ∨ k = 24 ∨ k = 25)) (MoF.pF (A := (fun q => q = 83)) (F := (fun k => k = 22 ∨ k = 24 ∨ k = 25)) (MoF.pF (A := (fun q => q = 83)) (F := (fun k => k = 22 ∨ k = 24 ∨ k = 25)) (MoF.pF (A := (fun q => q = 83)) (F := (fun k => k = 22 ∨ k = 24 ∨ k = 25)) (H := H) (H2 := H) (k := 22) MoF.rf rfl (by decide) _) rfl (by decide) _) rfl (by decide) _) rfl (by decide) _) rfl (by decide) _)⟩, rfl⟩
                · rw [hpr, if_pos rfl, hI_sI, if_pos ⟨rfl, rfl⟩]
                · rw [← hz]; simp [hI_sI]
                · unfold sgV
                  rw [hpr, if_pos rfl, h87, hq.2]
                  simp [hI_sI]
            · skip
              refine xq_aload_n dX11_sign_134 rfl rfl ?_
              refine xq_callV0P clX11 gd_X11_here dX11_sign_135 ml_RX11_140 im_X11_here se_X11_here rfl (Fx.s83 hF) (by exact Nat.le_of_ble_eq_true rfl) (by decide) (m_here (hx1.mv (A := fun q => q = 83) (e2 := e + 1) (Off.pI (A := fun q => q = 83) (Off.pI (A := fun q => q = 83) (Off.pI (A := fun q => q = 83) Off.rf rfl _ _) rfl _ _) rfl _ _) (by decide) (by simp [hI_sI]) (by simp [hI_sI]) (by omega))) ?_
              refine xq_bipush dX11_sign_138 bp61 ?_
              refine xq_icmp_ne dX11_sign_140 rfl ⟨fun h140 => ?_, fun h140 => ?_⟩
              · skip
                refine xq_aload_n dX11_sign_150 rfl rfl ?_
                refine xq_getI clX11 (by decide) rfl fl_RX11_157 dX11_sign_151 (Fx.s83 hF) ?_
                refine xq_sipush dX11_sign_154 sp256 ?_
                refine xq_icmp_lt dX11_sign_157 rfl ⟨fun h157 => ?_, fun h157 => ?_⟩
                · skip
                  refine xq_vret dX11_sign_170 rfl ?_
                  exfalso; omega
                · skip
                  refine xq_aload_n dX11_sign_160 rfl rfl ?_
                  refine xq_dup dX11_sign_161 rfl ?_
                  refine xq_getIE (v := nI (e + 1)) clX11 (by decide) rfl fl_RX11_134 dX11_sign_162 (Fx.s83 hF) (by simp [hI_sI]) ?_
                  refine xq_iconst dX11_sign_165 ic1 ?_
                  refine xq_iaddN dX11_sign_166 ?_
                  refine xq_putI clX11 (by decide) rfl fl_RX11_134 (Or.inl rfl) dX11_sign_167 ⟨rfl, rfl⟩ (Fx.s83 hF) ?_
                  refine xq_vret dX11_sign_170 rfl ?_
                  exfalso; omega
              · skip
                refine xq_aload_n dX11_sign_143 rfl rfl ?_
                refine xq_sipush dX11_sign_144 sp258 ?_
                refine xq_putI clX11 (by decide) rfl fl_RX11_157 (Or.inl rfl) dX11_sign_147 ⟨rfl, rfl⟩ (Fx.s83 hF) ?_
                refine xq_aload_n dX11_sign_150 rfl rfl ?_
                refine xq_getI clX11 (by decide) rfl fl_RX11_157 dX11_sign_151 (Fx.s83 hF) ?_
                refine xq_sipush dX11_sign_154 sp256 ?_
                refine xq_icmp_lt dX11_sign_157 rfl ⟨fun h157 => ?_, fun h157 => ?_⟩
                · skip
                  refine xq_vret dX11_sign_170 rfl ?_
                  exfalso; omega
                · skip
                  refine xq_aload_n dX11_sign_160 rfl rfl ?_
                  refine xq_dup dX11_sign_161 rfl ?_
                  refine xq_getIE (v := nI (e + 1)) clX11 (by decide) rfl fl_RX11_134 dX11_sign_162 (Fx.s83 hF) (by simp [hI_sI]) ?_
                  refine xq_iconst dX11_sign_165 ic1 ?_
                  refine xq_iaddN dX11_sign_166 ?_
                  refine xq_putI clX11 (by decide) rfl fl_RX11_134 (Or.inl rfl) dX11_sign_167 ⟨rfl, rfl⟩ (Fx.s83 hF) ?_
                  refine xq_vret dX11_sign_170 rfl ?_
                  exfalso; omega
          · skip
            refine xq_aload_n dX11_sign_121 rfl rfl ?_
            refine xq_sipush dX11_sign_122 sp257 ?_
            refine xq_putI clX11 (by decide) rfl fl_RX11_157 (Or.inl rfl) dX11_sign_125 ⟨rfl, rfl⟩ (Fx.s83 hF) ?_
            refine xq_iload_n dX11_sign_128 rfl rfl ?_
            refine xq_bipush dX11_sign_129 bp62 ?_
            refine xq_icmp_neN dX11_sign_131 rfl (by omega) (by omega) ⟨fun h131 => ?_, fun h131 => ?_⟩
            · skip
              refine xq_aload_n dX11_sign_150 rfl rfl ?_
              refine xq_getI clX11 (by decide) rfl fl_RX11_157 dX11_sign_151 (Fx.s83 hF) ?_
              refine xq_sipush dX11_sign_154 sp256 ?_
              refine xq_icmp_lt dX11_sign_157 rfl ⟨fun h157 => ?_, fun h157 => ?_⟩
              · skip
                refine xq_vret dX11_sign_170 rfl ?_
                exact absurd (h96.symm.trans h118) (by decide)
              · skip
                refine xq_aload_n dX11_sign_160 rfl rfl ?_
                refine xq_dup dX11_sign_161 rfl ?_
                refine xq_getIE (v := nI (e + 1)) clX11 (by decide) rfl fl_RX11_134 dX11_sign_162 (Fx.s83 hF) (by simp [hI_sI]) ?_
                refine xq_iconst dX11_sign_165 ic1 ?_
                refine xq_iaddN dX11_sign_166 ?_
                refine xq_putI clX11 (by decide) rfl fl_RX11_134 (Or.inl rfl) dX11_sign_167 ⟨rfl, rfl⟩ (Fx.s83 hF) ?_
                refine xq_vret dX11_sign_170 rfl ?_
                exact absurd (h96.symm.trans h118) (by decide)
            · skip
              refine xq_aload_n dX11_sign_134 rfl rfl ?_
              refine xq_callV0P clX11 gd_X11_here dX11_sign_135 ml_RX11_140 im_X11_here se_X11_here rfl (Fx.s83 hF) (by exact Nat.le_of_ble_eq_true rfl) (by decide) (m_here (hx1.mv (A := fun q => q = 83) (e2 := e + 1) (Off.pI (A := fun q => q = 83) (Off.pI (A := fun q => q = 83) (Off.pI (A := fun q => q = 83) (Off.pI (A := fun q => q = 83) Off.rf rfl _ _) rfl _ _) rfl _ _) rfl _ _) (by decide) (by simp [hI_sI]) (by simp [hI_sI]) (by omega))) ?_
              refine xq_bipush dX11_sign_138 bp61 ?_
              refine xq_icmp_ne dX11_sign_140 rfl ⟨fun h140 => ?_, fun h140 => ?_⟩
              · skip
                refine xq_aload_n dX11_sign_150 rfl rfl ?_
                refine xq_getI clX11 (by decide) rfl fl_RX11_157 dX11_sign_151 (Fx.s83 hF) ?_
                refine xq_sipush dX11_sign_154 sp256 ?_
                refine xq_icmp_lt dX11_sign_157 rfl ⟨fun h157 => ?_, fun h157 => ?_⟩
                · skip
                  refine xq_vret dX11_sign_170 rfl ?_
                  exfalso; omega
                · skip
                  refine xq_aload_n dX11_sign_160 rfl rfl ?_
                  refine xq_dup dX11_sign_161 rfl ?_
                  refine xq_getIE (v := nI (e + 1)) clX11 (by decide) rfl fl_RX11_134 dX11_sign_162 (Fx.s83 hF) (by simp [hI_sI]) ?_
                  refine xq_iconst dX11_sign_165 ic1 ?_
                  refine xq_iaddN dX11_sign_166 ?_
                  refine xq_putI clX11 (by decide) rfl fl_RX11_134 (Or.inl rfl) dX11_sign_167 ⟨rfl, rfl⟩ (Fx.s83 hF) ?_
                  refine xq_vret dX11_sign_170 rfl ?_
                  exfalso; omega
              · skip
                refine xq_aload_n dX11_sign_143 rfl rfl ?_
                refine xq_sipush dX11_sign_144 sp258 ?_
                refine xq_putI clX11 (by decide) rfl fl_RX11_157 (Or.inl rfl) dX11_sign_147 ⟨rfl, rfl⟩ (Fx.s83 hF) ?_
                refine xq_aload_n dX11_sign_150 rfl rfl ?_
                refine xq_getI clX11 (by decide) rfl fl_RX11_157 dX11_sign_151 (Fx.s83 hF) ?_
                refine xq_sipush dX11_sign_154 sp256 ?_
                refine xq_icmp_lt dX11_sign_157 rfl ⟨fun h157 => ?_, fun h157 => ?_⟩
                · skip
                  refine xq_vret dX11_sign_170 rfl ?_
                  exfalso; omega
                · skip
                  refine xq_aload_n dX11_sign_160 rfl rfl ?_
                  refine xq_dup dX11_sign_161 rfl ?_
                  refine xq_getIE (v := nI (e + 1)) clX11 (by decide) rfl fl_RX11_134 dX11_sign_162 (Fx.s83 hF) (by simp [hI_sI]) ?_
                  refine xq_iconst dX11_sign_165 ic1 ?_
                  refine xq_iaddN dX11_sign_166 ?_
                  refine xq_putI clX11 (by decide) rfl fl_RX11_134 (Or.inl rfl) dX11_sign_167 ⟨rfl, rfl⟩ (Fx.s83 hF) ?_
                  refine xq_vret dX11_sign_170 rfl ?_
                  exfalso; omega
  refine vq_intro (by decide) (by exact Nat.le_of_ble_eq_true rfl) rfl ?_
  refine xq_aload_n dX11_sign_0 rfl rfl ?_
  refine xq_dup dX11_sign_1 rfl ?_
  refine xq_getIE clX11 (by decide) rfl fl_RX11_134 dX11_sign_2 (Fx.s83 hF) hx.at ?_
  refine xq_iconst dX11_sign_5 ic1 ?_
  refine xq_iaddN dX11_sign_6 ?_
  refine xq_putI clX11 (by decide) rfl fl_RX11_134 (Or.inl rfl) dX11_sign_7 ⟨rfl, rfl⟩ (Fx.s83 hF) ?_
  refine xq_aload_n dX11_sign_10 rfl rfl ?_
  refine xq_iload_n dX11_sign_11 rfl rfl ?_
  refine xq_bipush dX11_sign_12 bp59 ?_
  refine xq_icmp_eqN dX11_sign_14 rfl (by omega) (by omega) ⟨fun h14 => ?_, fun h14 => ?_⟩
  · skip
    refine xq_iconst dX11_sign_71 ic3 ?_
    refine xq_goto dX11_sign_72 rfl ?_
    exact lT 3 (by rw [if_neg (fun z => kof_43.mp z (by omega))])
  · skip
    refine xq_iload_n dX11_sign_17 rfl rfl ?_
    refine xq_bipush dX11_sign_18 bp40 ?_
    refine xq_icmp_eqN dX11_sign_20 rfl (by omega) (by omega) ⟨fun h20 => ?_, fun h20 => ?_⟩
    · skip
      refine xq_iconst dX11_sign_71 ic3 ?_
      refine xq_goto dX11_sign_72 rfl ?_
      exact lT 3 (by rw [if_neg (fun z => kof_43.mp z (by omega))])
    · skip
      refine xq_iload_n dX11_sign_23 rfl rfl ?_
      refine xq_bipush dX11_sign_24 bp41 ?_
      refine xq_icmp_eqN dX11_sign_26 rfl (by omega) (by omega) ⟨fun h26 => ?_, fun h26 => ?_⟩
      · skip
        refine xq_iconst dX11_sign_71 ic3 ?_
        refine xq_goto dX11_sign_72 rfl ?_
        exact lT 3 (by rw [if_neg (fun z => kof_43.mp z (by omega))])
      · skip
        refine xq_iload_n dX11_sign_29 rfl rfl ?_
        refine xq_bipush dX11_sign_30 bp43 ?_
        refine xq_icmp_eqN dX11_sign_32 rfl (by omega) (by omega) ⟨fun h32 => ?_, fun h32 => ?_⟩
        · skip
          refine xq_iconst dX11_sign_71 ic3 ?_
          refine xq_goto dX11_sign_72 rfl ?_
          exact lT 3 (by rw [if_neg (fun z => kof_43.mp z (by omega))])
        · skip
          refine xq_iload_n dX11_sign_35 rfl rfl ?_
          refine xq_bipush dX11_sign_36 bp45 ?_
          refine xq_icmp_eqN dX11_sign_38 rfl (by omega) (by omega) ⟨fun h38 => ?_, fun h38 => ?_⟩
          · skip
            refine xq_iconst dX11_sign_71 ic3 ?_
            refine xq_goto dX11_sign_72 rfl ?_
            exact lT 3 (by rw [if_neg (fun z => kof_43.mp z (by omega))])
          · skip
            refine xq_iload_n dX11_sign_41 rfl rfl ?_
            refine xq_bipush dX11_sign_42 bp42 ?_
            refine xq_icmp_eqN dX11_sign_44 rfl (by omega) (by omega) ⟨fun h44 => ?_, fun h44 => ?_⟩
            · skip
              refine xq_iconst dX11_sign_71 ic3 ?_
              refine xq_goto dX11_sign_72 rfl ?_
              exact lT 3 (by rw [if_neg (fun z => kof_43.mp z (by omega))])
            · skip
              refine xq_iload_n dX11_sign_47 rfl rfl ?_
              refine xq_bipush dX11_sign_48 bp47 ?_
              refine xq_icmp_eqN dX11_sign_50 rfl (by omega) (by omega) ⟨fun h50 => ?_, fun h50 => ?_⟩
              · skip
                refine xq_iconst dX11_sign_71 ic3 ?_
                refine xq_goto dX11_sign_72 rfl ?_
                exact lT 3 (by rw [if_neg (fun z => kof_43.mp z (by omega))])
              · skip
                refine xq_iload_n dX11_sign_53 rfl rfl ?_
                refine xq_bipush dX11_sign_54 bp60 ?_
                refine xq_icmp_eqN dX11_sign_56 rfl (by omega) (by omega) ⟨fun h56 => ?_, fun h56 => ?_⟩
                · skip
                  refine xq_iconst dX11_sign_71 ic3 ?_
                  refine xq_goto dX11_sign_72 rfl ?_
                  exact lT 3 (by rw [if_neg (fun z => kof_43.mp z (by omega))])
                · skip
                  refine xq_iload_n dX11_sign_59 rfl rfl ?_
                  refine xq_bipush dX11_sign_60 bp61 ?_
                  refine xq_icmp_eqN dX11_sign_62 rfl (by omega) (by omega) ⟨fun h62 => ?_, fun h62 => ?_⟩
                  · skip
                    refine xq_iconst dX11_sign_71 ic3 ?_
                    refine xq_goto dX11_sign_72 rfl ?_
                    exact lT 3 (by rw [if_neg (fun z => kof_43.mp z (by omega))])
                  · skip
                    refine xq_iload_n dX11_sign_65 rfl rfl ?_
                    refine xq_bipush dX11_sign_66 bp62 ?_
                    refine xq_icmp_neN dX11_sign_68 rfl (by omega) (by omega) ⟨fun h68 => ?_, fun h68 => ?_⟩
                    · skip
                      refine xq_iconst dX11_sign_75 ic5 ?_
                      exact lT 5 (by rw [if_pos (kof_43.mpr (by omega))])
                    · skip
                      refine xq_iconst dX11_sign_71 ic3 ?_
                      refine xq_goto dX11_sign_72 rfl ?_
                      exact lT 3 (by rw [if_neg (fun z => kof_43.mp z (by omega))])
end MLb
