/-! ===== the reference reads a token ===== -/
section MLc
variable {S : xS} {H H1 H2 H3 : xH} {b : Nat → Nat} {n e e2 p q i j k x w m K V : Nat} {A F : Nat → Prop} {so va : Int32}
def sgc (K : Nat) : Nat := if K = 28 then 43 else if K = 29 then 45 else if K = 30 then 42 else if K = 31 then 47 else if K = 32 then 60 else if K = 33 then 256 else if K = 34 then 61 else if K = 35 then 257 else if K = 36 then 258 else if K = 37 then 62 else if K = 40 then 59 else if K = 41 then 40 else if K = 42 then 41 else 0
def MsV (so va : Int32) (K V : Nat) : Prop := (K < 28 → so = nI 0 ∧ va = nI K) ∧ (K = 39 → so = nI 1 ∧ va = nI V) ∧ (K = 38 → so = nI 2 ∧ ∃ x, va = nI x ∧ x < 1000000 ∧ (x = V ∨ (99999 < x ∧ 99999 < V))) ∧ (K = 43 → so = nI 5) ∧ (K = 44 → so = nI 4) ∧ (sgc K ≠ 0 → so = nI 3 ∧ va = nI (sgc K))
theorem sgc_0 (h : K < 28 ∨ K = 38 ∨ K = 39 ∨ K = 43 ∨ K = 44) : sgc K = 0 := by
  unfold sgc
  repeat' split
  all_goals omega
theorem MsV.wd (h : K < 28) : MsV (nI 0) (nI K) K V := ⟨fun _ => ⟨rfl, rfl⟩, fun z => by omega, fun z => by omega, fun z => by omega, fun z => by omega, fun z => absurd (sgc_0 (Or.inl h)) z⟩
theorem MsV.nm : MsV (nI 1) (nI V) 39 V := ⟨fun z => by omega, fun _ => ⟨rfl, rfl⟩, fun z => by omega, fun z => by omega, fun z => by omega, fun z => absurd (sgc_0 (by omega)) z⟩
theorem MsV.d (h : x < 1000000) (h2 : x = V ∨ (99999 < x ∧ 99999 < V)) : MsV (nI 2) (nI x) 38 V := ⟨fun z => by omega, fun z => by omega, fun _ => ⟨rfl, x, rfl, h, h2⟩, fun z => by omega, fun z => by omega, fun z => absurd (sgc_0 (by omega)) z⟩
theorem MsV.bd : MsV (nI 5) va 43 V := ⟨fun z => by omega, fun z => by omega, fun z => by omega, fun _ => rfl, fun z => by omega, fun z => absurd (sgc_0 (by omega)) z⟩
theorem MsV.s (h : sgc K ≠ 0) : MsV (nI 3) (nI (sgc K)) K V := by
  have hn : ¬ (K < 28 ∨ K = 38 ∨ K = 39 ∨ K = 43 ∨ K = 44) := fun z => h (sgc_0 z)
  exact ⟨fun z => by omega, fun z => by omega, fun z => by omega, fun z => by omega, fun z => by omega, fun _ => ⟨rfl, rfl⟩⟩
theorem sgc_kof (h : x < 256) : (kof x = 43 ∧ True) ∨ (kof x ≠ 43 ∧ kof x ≠ 39 ∧ sgc (kof x) = x ∧ x ≠ 0) := by
  have : ∀ x : Fin 256, (kof x.val = 43 ∧ True) ∨ (kof x.val ≠ 43 ∧ kof x.val ≠ 39 ∧ sgc (kof x.val) = x.val ∧ x.val ≠ 0) := by decide +kernel
  exact this ⟨x, h⟩
theorem fnd_cg {f g : Nat → Bool} : ∀ {n : Nat}, (∀ j, j < n → f j = g j) → fnd f n = fnd g n
  | 0, _ => rfl
  | n + 1, h => by
    have e := fnd_cg (n := n) (fun j hj => h j (by omega))
    show (if fnd f n < n then fnd f n else if f n then n else n + 1) = (if fnd g n < n then fnd g n else if g n then n else n + 1)
    rw [e, h n (by omega)]
def dmx (b : Nat → Nat) (p : Nat) : Nat → Nat
  | 0 => 0
  | m + 1 => if 99999 < dmx b p m then dmx b p m else 10 * dmx b p m + b (p + m) - 48
theorem dmx_ok : ∀ m, (∀ i, i < m → 48 ≤ b (p + i) ∧ b (p + i) ≤ 57) → dmx b p m < 1000000 ∧ (dmx b p m = dgV b p m ∨ (99999 < dmx b p m ∧ 99999 < dgV b p m))
  | 0, _ => ⟨by show 0 < 1000000; decide, Or.inl rfl⟩
  | m + 1, hc => by
    have ih := dmx_ok m (fun i hi => hc i (by omega))
    have hm := hc m (by omega)
    have e1 : dmx b p (m + 1) = if 99999 < dmx b p m then dmx b p m else 10 * dmx b p m + b (p + m) - 48 := rfl
    have e2 : dgV b p (m + 1) = min (dgV b p m * 10 + (b (p + m) - 48)) 1000000 := rfl
    rw [e1, e2]
    split <;> omega
theorem nI_n1 (h : x < 2147483648) : ¬ nI x = -1 := fun z => by
  have := congrArg Int32.toInt z
  rw [nI_toInt (by omega)] at this
  have h1 : (-1 : Int32).toInt = -1 := by decide
  omega
theorem hrv_m1 (hb : e < n → b e < 256) : hrv b n e = -1 ↔ ¬ e < n := by
  unfold hrv
  by_cases h : e < n
  · have := hb h
    rw [if_pos h]
    exact ⟨fun z => absurd z (nI_n1 (by omega)), fun z => absurd h z⟩
  · rw [if_neg h]; exact ⟨fun _ => h, fun _ => rfl⟩
/-- what stands there of a token that begins at p -/
def TkM (H : xH) (b : Nat → Nat) (n p : Nat) : Prop := hI H 83 23 = nI p ∧ (n ≤ p → hI H 83 22 = nI n ∧ hI H 83 24 = nI 4) ∧ (p < n → hI H 83 22 = nI (opE b n p) ∧ MsV (hI H 83 24) (hI H 83 25) (fiK b n p) (opV b n p))
theorem m_token (hx : LxP S H b n e) : Nv mX11_token 6 [.ref 83] S H (fun H' => TkM H' b n (skp b n e) ∧ MoF (fun q => q = 83) (fun k => k = 22 ∨ k = 23 ∨ k = 24 ∨ k = 25) H H') := by
  have hF := hx.fx; have hn7 := hx.n7; have hle := hx.le
  have lB : ∀ (p : Nat) (H1 : xH), p = skp b n e → LxP S H1 b n p → MoF (fun q => q = 83) (fun k => k = 22 ∨ k = 23 ∨ k = 24 ∨ k = 25) H H1 → Xq mX11_token 6 0 0 31 [some (.ref 83), none] [] S H1 (fun R => ∃ H', (fun H' => TkM H' b n (skp b n e) ∧ MoF (fun q => q = 83) (fun k => k = 22 ∨ k = 23 ∨ k = 24 ∨ k = 25) H H') H' ∧ R = (none, S, H')) := by
    intro p H1 hps hx1 ho1
    rw [← hps]
    have hn7 := hx1.n7; have hle := hx1.le
    refine xq_aload_n dX11_token_31 rfl rfl ?_
    refine xq_aload_n dX11_token_32 rfl rfl ?_
    refine xq_getIE clX11 (by decide) rfl fl_RX11_134 dX11_token_33 (Fx.s83 hF) hx1.at ?_
    refine xq_putI clX11 (by decide) rfl fl_RX11_144 (Or.inl rfl) dX11_token_36 ⟨rfl, rfl⟩ (Fx.s83 hF) ?_
    refine xq_aload_n dX11_token_39 rfl rfl ?_
    refine xq_callV0P clX11 gd_X11_here dX11_token_40 ml_RX11_140 im_X11_here se_X11_here rfl (Fx.s83 hF) (by exact Nat.le_of_ble_eq_true rfl) (by decide) (m_here (hx1.mv (A := fun q => q = 83) (e2 := p) (Off.pI (A := fun q => q = 83) Off.rf rfl _ _) (by decide) (by simp [hI_sI]) (by rw [hI_sI, if_neg (by omega)]; exact hx1.at) hx1.le)) ?_
    refine xq_istore_n dX11_token_43 rfl rfl ?_
    refine xq_iload_n dX11_token_44 rfl rfl ?_
    refine xq_iconst dX11_token_45 icm1 ?_
    refine xq_icmp_ne dX11_token_46 rfl ⟨fun h46 => ?_, fun h46 => ?_⟩
    · skip
      have hpn0 : p < n := Classical.byContradiction (fun z => h46 ((hrv_m1 (fun z => (hx1.ta p z).2)).mpr z))
      refine xq_iload_n dX11_token_57 rfl rfl ?_
      refine xq_callS1P gd_X11_isSmall dX11_token_58 ml_RX11_150 im_X11_isSmall (by exact Nat.le_of_ble_eq_true rfl) (by decide) (m_isSmall (hx1.mv (A := fun q => q = 83) (e2 := p) (Off.pI (A := fun q => q = 83) Off.rf rfl _ _) (by decide) (by simp [hI_sI]) (by rw [hI_sI, if_neg (by omega)]; exact hx1.at) hx1.le)) ?_
      refine xq_if_eqB dX11_token_61 rfl ⟨fun h61 => ?_, fun h61 => ?_⟩
      · skip
        have hLp : isL (b p) = false := by rw [decide_eq_true hpn0, Bool.true_and] at h61; exact h61
        refine xq_iload_n dX11_token_145 rfl rfl ?_
        refine xq_callS1P gd_X11_isDigit dX11_token_146 ml_RX11_163 im_X11_isDigit (by exact Nat.le_of_ble_eq_true rfl) (by decide) (m_isDigit (hx1.mv (A := fun q => q = 83) (e2 := p) (Off.pI (A := fun q => q = 83) Off.rf rfl _ _) (by decide) (by simp [hI_sI]) (by rw [hI_sI, if_neg (by omega)]; exact hx1.at) hx1.le)) ?_
        refine xq_if_eqB dX11_token_149 rfl ⟨fun h149 => ?_, fun h149 => ?_⟩
        · skip
          have hDp : isD (b p) = false := by rw [decide_eq_true hpn0, Bool.true_and] at h149; exact h149
          rw [show hrv b n p = nI (b p) from if_pos hpn0]
          refine xq_aload_n dX11_token_220 rfl rfl ?_
          refine xq_iload_n dX11_token_221 rfl rfl ?_
          refine xq_callV1N clX11 gd_X11_sign dX11_token_222 ml_RX11_167 im_X11_sign se_X11_sign rfl (Fx.s83 hF) (by exact Nat.le_of_ble_eq_true rfl) (by decide) (m_sign (hx1.mv (A := fun q => q = 83) (e2 := p) (Off.pI (A := fun q => q = 83) Off.rf rfl _ _) (by decide) (by simp [hI_sI]) (by rw [hI_sI, if_neg (by omega)]; exact hx1.at) hx1.le) hpn0) ?_
          intro H222 p222
          obtain ⟨s1, s2, s3, s4⟩ := p222
          refine xq_vret dX11_token_225 rfl ?_
          refine ⟨_, ⟨⟨by rw [hI_of s4 23 (by decide)]; simp [hI_sI], fun z => absurd z (by omega), fun _ => ⟨?_, ?_⟩⟩, (MoF.pF (A := (fun q => q = 83)) (F := (fun k => k = 22 ∨ k = 23 ∨ k = 24 ∨ k = 25)) ho1 rfl (by decide) _).tr (MoF.mo s4 (fun q h => h) (fun k h => by omega))⟩, rfl⟩
          · have eE : opE b n p = (if decide (p + 1 < n) && pr2 (b p) (b (p + 1)) then p + 2 else p + 1) := by unfold opE; rw [hLp, if_neg (by decide), hDp, if_neg (by decide)]
            rw [s1, eE]
          · rw [s2, s3]
            have hb256 := (hx1.ta p hpn0).2
            have eK : opK b n p = if decide (p + 1 < n) && pr2 (b p) (b (p + 1)) then (if b p = 62 then 36 else if b (p + 1) = 61 then 33 else 35) else kof (b p) := by unfold opK; rw [hLp, if_neg (by decide), hDp, if_neg (by decide)]
            have eS0 : (decide (p + 1 < n) && pr2 (b p) (b (p + 1))) = false → sgV b n p = b p := fun z => by unfold sgV; rw [z]; rfl
            have eS1 : (decide (p + 1 < n) && pr2 (b p) (b (p + 1))) = true → sgV b n p = (if b p = 62 then 258 else if b (p + 1) = 61 then 256 else 257) := fun z => by unfold sgV; rw [z]; rfl
            cases hpr : (decide (p + 1 < n) && pr2 (b p) (b (p + 1)))
            · rw [eS0 hpr]
              rw [hpr, if_neg (by decide)] at eK
              rcases sgc_kof hb256 with z | ⟨z1, z2, z3, z4⟩
              · rw [if_pos z.1, show fiK b n p = 43 by unfold fiK; rw [eK, z.1]; rfl]; exact MsV.bd
              · rw [if_neg z1, show fiK b n p = kof (b p) by unfold fiK; rw [eK, if_neg z2]]
                have := MsV.s (K := kof (b p)) (V := opV b n p) (by rw [z3]; exact z4)
                rw [z3] at this; exact this
            · rw [eS1 hpr]
              rw [hpr, if_pos rfl] at eK
              have hk : kof (b p) ≠ 43 := fun z => by
                have hq := kof_43.mp z
                rw [Bool.and_eq_true] at hpr
                have := hpr.2
                unfold pr2 at this
                simp at this
                omega
              rw [if_neg hk]
              by_cases c1 : b p = 62
              · rw [if_pos c1, show fiK b n p = 36 by unfold fiK; rw [eK, if_pos c1]; rfl]; exact MsV.s (K := 36) (by decide)
              · by_cases c2 : b (p + 1) = 61
                · rw [if_neg c1, if_pos c2, show fiK b n p = 33 by unfold fiK; rw [eK, if_neg c1, if_pos c2]; rfl]; exact MsV.s (K := 33) (by decide)
                · rw [if_neg c1, if_neg c2, show fiK b n p = 35 by unfold fiK; rw [eK, if_neg c1, if_neg c2]; rfl]; exact MsV.s (K := 35) (by decide)
        · skip
          refine xq_aload_n dX11_token_152 rfl rfl ?_
          refine xq_iconst dX11_token_153 ic2 ?_
          refine xq_putI clX11 (by decide) rfl fl_RX11_147 (Or.inl rfl) dX11_token_154 ⟨rfl, rfl⟩ (Fx.s83 hF) ?_
          refine xq_aload_n dX11_token_157 rfl rfl ?_
          refine xq_iconst dX11_token_158 ic0 ?_
          refine xq_putI clX11 (by decide) rfl fl_RX11_157 (Or.inl rfl) dX11_token_159 ⟨rfl, rfl⟩ (Fx.s83 hF) ?_
          have hDp : isD (b p) = true := by rw [decide_eq_true hpn0, Bool.true_and] at h149; exact h149
          have l162 : ∀ (fz : Nat) (q : Nat) (H2 : xH), n - q < fz → p ≤ q → (∀ k, p ≤ k → k < q → isD (b k) = true) → LxP S H2 b n q → hI H2 83 23 = nI p → hI H2 83 24 = nI 2 → hI H2 83 25 = nI (dmx b p (q - p)) → MoF (fun q => q = 83) (fun k => k = 22 ∨ k = 23 ∨ k = 24 ∨ k = 25) H H2 → Xq mX11_token 6 0 0 162 [some (.ref 83), none] [] S H2 (fun R => ∃ H', (fun H' => TkM H' b n p ∧ MoF (fun q => q = 83) (fun k => k = 22 ∨ k = 23 ∨ k = 24 ∨ k = 25) H H') H' ∧ R = (none, S, H')) := by
            intro fz
            induction fz with
            | zero => intro q  H2  hfz; exact absurd hfz (by omega)
            | succ fz ih =>
              intro q  H2  hfz hpq hall hx2 hpl hso hva ho2
              have hq7 := hx2.le
              have hdm0 := dmx_ok (b := b) (p := p) (q - p) (fun i hi => of_decide_eq_true (hall (p + i) (by omega) (by omega)))
              refine xq_aload_n dX11_token_162 rfl rfl ?_
              refine xq_callV0P clX11 gd_X11_here dX11_token_163 ml_RX11_140 im_X11_here se_X11_here rfl (Fx.s83 hF) (by exact Nat.le_of_ble_eq_true rfl) (by decide) (m_here hx2) ?_
              refine xq_callS1P gd_X11_isDigit dX11_token_166 ml_RX11_163 im_X11_isDigit (by exact Nat.le_of_ble_eq_true rfl) (by decide) (m_isDigit hx2) ?_
              refine xq_if_eqB dX11_token_169 rfl ⟨fun h169 => ?_, fun h169 => ?_⟩
              · skip
                refine xq_vret dX11_token_225 rfl ?_
                have hwq : wnd isD b n p = q := wnd_of hpq hx2.le hall (fun z => by
                  rw [decide_eq_true z, Bool.true_and] at h169; exact h169)
                have hpE : opE b n p = q := by unfold opE; rw [hLp, if_neg (by decide), if_pos hDp, hwq]
                have hdm := dmx_ok (b := b) (p := p) (q - p) (fun i hi => of_decide_eq_true (hall (p + i) (by omega) (by omega)))
                refine ⟨_, ⟨⟨hpl, fun z => absurd z (by omega), fun _ => ⟨by rw [hpE]; exact hx2.at, ?_⟩⟩, ho2⟩, rfl⟩
                rw [show fiK b n p = 38 by unfold fiK; rw [opK_D hLp hDp]; rfl, opV_D hLp hDp, hwq, hso, hva]
                exact MsV.d hdm.1 hdm.2
              · skip
                rw [Bool.and_eq_true, decide_eq_true_iff] at h169
                have hdq := of_decide_eq_true h169.2
                have ehr : hrv b n q = nI (b q) := if_pos h169.1
                refine xq_aload_n dX11_token_172 rfl rfl ?_
                refine xq_aload_n dX11_token_173 rfl rfl ?_
                refine xq_getIE clX11 (by decide) rfl fl_RX11_157 dX11_token_174 (Fx.s83 hF) hva ?_
                refine xq_ldc (v := nI 99999) dX11_token_177 kc_RX11_166 ?_
                refine xq_icmp_leN dX11_token_179 rfl (by omega) (by omega) ⟨fun h179 => ?_, fun h179 => ?_⟩
                · skip
                  refine xq_bipush dX11_token_189 bp10 ?_
                  refine xq_aload_n dX11_token_191 rfl rfl ?_
                  refine xq_getIE clX11 (by decide) rfl fl_RX11_157 dX11_token_192 (Fx.s83 hF) hva ?_
                  refine xq_imulN dX11_token_195 ?_
                  refine xq_aload_n dX11_token_196 rfl rfl ?_
                  refine xq_callV0P clX11 gd_X11_here dX11_token_197 ml_RX11_140 im_X11_here se_X11_here rfl (Fx.s83 hF) (by exact Nat.le_of_ble_eq_true rfl) (by decide) (m_here hx2) ?_
                  rw [ehr]
                  refine xq_iaddN dX11_token_200 ?_
                  refine xq_bipush dX11_token_201 bp48 ?_
                  refine xq_isubN dX11_token_203 (by omega) ?_
                  refine xq_putI clX11 (by decide) rfl fl_RX11_157 (Or.inl rfl) dX11_token_204 ⟨rfl, rfl⟩ (Fx.s83 hF) ?_
                  refine xq_aload_n dX11_token_207 rfl rfl ?_
                  refine xq_dup dX11_token_208 rfl ?_
                  refine xq_getIE (v := nI q) clX11 (by decide) rfl fl_RX11_134 dX11_token_209 (Fx.s83 hF) (by rw [hI_sI, if_neg (by omega)]; exact hx2.at) ?_
                  refine xq_iconst dX11_token_212 ic1 ?_
                  refine xq_iaddN dX11_token_213 ?_
                  refine xq_putI clX11 (by decide) rfl fl_RX11_134 (Or.inl rfl) dX11_token_214 ⟨rfl, rfl⟩ (Fx.s83 hF) ?_
                  refine xq_goto dX11_token_217 rfl ?_
                  refine ih (q + 1) _ (by omega) (by omega) (fun k h1 h2 => ?_) (hx2.mv (A := fun q => q = 83) (Off.pI (A := fun q => q = 83) (Off.pI (A := fun q => q = 83) Off.rf rfl _ _) rfl _ _) (by decide) (by simp [hI_sI]) (by rw [hI_sI, if_pos ⟨rfl, rfl⟩]) (by omega)) (by simp [hI_sI, hpl]) (by simp [hI_sI, hso]) ?_ (MoF.pF (A := (fun q => q = 83)) (F := (fun k => k = 22 ∨ k = 23 ∨ k = 24 ∨ k = 25)) (MoF.pF (A := (fun q => q = 83)) (F := (fun k => k = 22 ∨ k = 23 ∨ k = 24 ∨ k = 25)) ho2 rfl (by decide) _) rfl (by decide) _)
                  · by_cases z : k = q
                    · rw [z]; exact h169.2
                    · exact hall k h1 (by omega)
                  · rw [hI_sI, if_neg (by omega), hI_sI, if_pos ⟨rfl, rfl⟩, show q + 1 - p = (q - p) + 1 by omega]
                    show _ = nI (if 99999 < dmx b p (q - p) then dmx b p (q - p) else 10 * dmx b p (q - p) + b (p + (q - p)) - 48)
                    rw [if_neg (by omega), show p + (q - p) = q by omega]
                · skip
                  refine xq_aload_n dX11_token_182 rfl rfl ?_
                  refine xq_getIE clX11 (by decide) rfl fl_RX11_157 dX11_token_183 (Fx.s83 hF) hva ?_
                  refine xq_goto dX11_token_186 rfl ?_
                  refine xq_putI clX11 (by decide) rfl fl_RX11_157 (Or.inl rfl) dX11_token_204 ⟨rfl, rfl⟩ (Fx.s83 hF) ?_
                  refine xq_aload_n dX11_token_207 rfl rfl ?_
                  refine xq_dup dX11_token_208 rfl ?_
                  refine xq_getIE (v := nI q) clX11 (by decide) rfl fl_RX11_134 dX11_token_209 (Fx.s83 hF) (by rw [hI_sI, if_neg (by omega)]; exact hx2.at) ?_
                  refine xq_iconst dX11_token_212 ic1 ?_
                  refine xq_iaddN dX11_token_213 ?_
                  refine xq_putI clX11 (by decide) rfl fl_RX11_134 (Or.inl rfl) dX11_token_214 ⟨rfl, rfl⟩ (Fx.s83 hF) ?_
                  refine xq_goto dX11_token_217 rfl ?_
                  refine ih (q + 1) _ (by omega) (by omega) (fun k h1 h2 => ?_) (hx2.mv (A := fun q => q = 83) (Off.pI (A := fun q => q = 83) (Off.pI (A := fun q => q = 83) Off.rf rfl _ _) rfl _ _) (by decide) (by simp [hI_sI]) (by rw [hI_sI, if_pos ⟨rfl, rfl⟩]) (by omega)) (by simp [hI_sI, hpl]) (by simp [hI_sI, hso]) ?_ (MoF.pF (A := (fun q => q = 83)) (F := (fun k => k = 22 ∨ k = 23 ∨ k = 24 ∨ k = 25)) (MoF.pF (A := (fun q => q = 83)) (F := (fun k => k = 22 ∨ k = 23 ∨ k = 24 ∨ k = 25)) ho2 rfl (by decide) _) rfl (by decide) _)
                  · by_cases z : k = q
                    · rw [z]; exact h169.2
                    · exact hall k h1 (by omega)
                  · rw [hI_sI, if_neg (by omega), hI_sI, if_pos ⟨rfl, rfl⟩, show q + 1 - p = (q - p) + 1 by omega]
                    show _ = nI (if 99999 < dmx b p (q - p) then dmx b p (q - p) else 10 * dmx b p (q - p) + b (p + (q - p)) - 48)
                    rw [if_pos (by omega)]
          exact xq_fgt (l162 (n + 1) p _ (by omega) (Nat.le_refl _) (fun k h1 h2 => absurd h1 (by omega)) (hx1.mv (A := fun q => q = 83) (e2 := p) (Off.pI (A := fun q => q = 83) (Off.pI (A := fun q => q = 83) (Off.pI (A := fun q => q = 83) Off.rf rfl _ _) rfl _ _) rfl _ _) (by decide) (by simp [hI_sI]) (by simp [hI_sI, hx1.at]) hx1.le) (by simp [hI_sI]) (by simp [hI_sI]) (by simp [hI_sI, dmx]) (MoF.pF (A := (fun q => q = 83)) (F := (fun k => k = 22 ∨ k = 23 ∨ k = 24 ∨ k = 25)) (MoF.pF (A := (fun q => q = 83)) (F := (fun k => k = 22 ∨ k = 23 ∨ k = 24 ∨ k = 25)) (MoF.pF (A := (fun q => q = 83)) (F := (fun k => k = 22 ∨ k = 23 ∨ k = 24 ∨ k = 25)) ho1 rfl (by decide) _) rfl (by decide) _) rfl (by decide) _)) (by exact And.intro rfl (trivial))
      · skip
        have hLp : isL (b p) = true := by rw [decide_eq_true hpn0, Bool.true_and] at h61; exact h61
        have l64 : ∀ (fz : Nat) (q : Nat) (H2 : xH), n - q < fz → p ≤ q → (∀ k, p ≤ k → k < q → isL (b k) = true) → LxP S H2 b n q → hI H2 83 23 = nI p → MoF (fun q => q = 83) (fun k => k = 22 ∨ k = 23 ∨ k = 24 ∨ k = 25) H H2 → Xq mX11_token 6 0 0 64 [some (.ref 83), none] [] S H2 (fun R => ∃ H', (fun H' => TkM H' b n p ∧ MoF (fun q => q = 83) (fun k => k = 22 ∨ k = 23 ∨ k = 24 ∨ k = 25) H H') H' ∧ R = (none, S, H')) := by
          intro fz
          induction fz with
          | zero => intro q  H2  hfz; exact absurd hfz (by omega)
          | succ fz ih =>
            intro q  H2  hfz hpq hall hx2 hpl ho2
            have hq7 := hx2.le
            refine xq_aload_n dX11_token_64 rfl rfl ?_
            refine xq_callV0P clX11 gd_X11_here dX11_token_65 ml_RX11_140 im_X11_here se_X11_here rfl (Fx.s83 hF) (by exact Nat.le_of_ble_eq_true rfl) (by decide) (m_here hx2) ?_
            refine xq_callS1P gd_X11_isSmall dX11_token_68 ml_RX11_150 im_X11_isSmall (by exact Nat.le_of_ble_eq_true rfl) (by decide) (m_isSmall hx2) ?_
            refine xq_if_eqB dX11_token_71 rfl ⟨fun h71 => ?_, fun h71 => ?_⟩
            · skip
              have hwq : wnd isL b n p = q := wnd_of hpq hx2.le hall (fun z => by
                rw [decide_eq_true z, Bool.true_and] at h71; exact h71)
              have hpn : p < n := hpn0
              have hpE : opE b n p = q := by unfold opE; rw [if_pos hLp, hwq]
              have hlet : ∀ i, i < q - p → 97 ≤ b (p + i) ∧ b (p + i) ≤ 122 := fun i hi => of_decide_eq_true (hall (p + i) (by omega) (by omega))
              have hfi : (fnd (fun w => wmt b p q w) 28 < 28 → fiK b n p = fnd (fun w => wmt b p q w) 28) ∧ (6 < q - p → fiK b n p = 43) ∧ (¬ fnd (fun w => wmt b p q w) 28 < 28 → q - p ≤ 6 → fiK b n p = 39 ∧ opV b n p = pkL b p (q - p)) := by
                have eK : opK b n p = if q - p ≤ 6 then 39 else 43 := by rw [opK_L hLp, hwq]
                have eV : opV b n p = pkL b p (q - p) := by rw [opV_L hLp, hwq]
                have eF : q - p ≤ 6 → fnd (fun w => wmt b p q w) 28 = fnd (fun k => wdv k == pkL b p (q - p)) 28 := fun h6 => fnd_cg (fun w hw => wmt_v hw hpq h6 hlet)
                refine ⟨fun h => ?_, fun h => ?_, fun h h6 => ?_⟩
                · have h6 : q - p ≤ 6 := by
                    apply Classical.byContradiction
                    intro z
                    have := fnd_hi h
                    rw [wmt_no h (by omega)] at this; cases this
                  unfold fiK nmk
                  rw [eK, if_pos h6, if_pos rfl, eV, ← eF h6, if_pos h]
                · unfold fiK
                  rw [eK, show (if q - p ≤ 6 then 39 else 43) = 43 from if_neg (by omega), if_neg (by decide)]
                · refine ⟨?_, eV⟩
                  unfold fiK nmk
                  rw [eK, if_pos h6, if_pos rfl, eV, ← eF h6, if_neg h]
              refine xq_aload_n dX11_token_87 rfl rfl ?_
              refine xq_aload_n dX11_token_88 rfl rfl ?_
              refine xq_callV0P clX11 gd_X11_word dX11_token_89 ml_RX11_154 im_X11_word se_X11_word rfl (Fx.s83 hF) (by exact Nat.le_of_ble_eq_true rfl) (by decide) (m_word hx2 hpl hpq) ?_
              refine xq_putI clX11 (by decide) rfl fl_RX11_157 (Or.inl rfl) dX11_token_92 ⟨rfl, rfl⟩ (Fx.s83 hF) ?_
              refine xq_aload_n dX11_token_95 rfl rfl ?_
              refine xq_aload_n dX11_token_96 rfl rfl ?_
              refine xq_getIE (v := (if fnd (fun w => wmt b p q w) 28 < 28 then nI (fnd (fun w => wmt b p q w) 28) else -1)) clX11 (by decide) rfl fl_RX11_157 dX11_token_97 (Fx.s83 hF) (by rw [hI_sI, if_pos ⟨rfl, rfl⟩]) ?_
              refine xq_iconst dX11_token_100 icm1 ?_
              refine xq_icmp_eq dX11_token_101 rfl ⟨fun h101 => ?_, fun h101 => ?_⟩
              · skip
                refine xq_aload_n dX11_token_108 rfl rfl ?_
                refine xq_getIE (v := nI q) clX11 (by decide) rfl fl_RX11_134 dX11_token_109 (Fx.s83 hF) (by simp [hI_sI, hx2.at]) ?_
                refine xq_aload_n dX11_token_112 rfl rfl ?_
                refine xq_getIE (v := nI p) clX11 (by decide) rfl fl_RX11_144 dX11_token_113 (Fx.s83 hF) (by simp [hI_sI, hpl]) ?_
                refine xq_isubN dX11_token_116 (by omega) ?_
                refine xq_bipush dX11_token_117 bp6 ?_
                refine xq_icmp_leN dX11_token_119 rfl (by omega) (by omega) ⟨fun h119 => ?_, fun h119 => ?_⟩
                · skip
                  refine xq_iconst dX11_token_126 ic1 ?_
                  refine xq_putI clX11 (by decide) rfl fl_RX11_147 (Or.inl rfl) dX11_token_127 ⟨rfl, rfl⟩ (Fx.s83 hF) ?_
                  refine xq_aload_n dX11_token_130 rfl rfl ?_
                  refine xq_getI clX11 (by decide) rfl fl_RX11_147 dX11_token_131 (Fx.s83 hF) ?_
                  refine xq_iconst dX11_token_134 ic1 ?_
                  refine xq_icmp_ne dX11_token_135 rfl ⟨fun h135 => ?_, fun h135 => ?_⟩
                  · skip
                    refine xq_vret dX11_token_225 rfl ?_
                    rw [hI_sI, if_pos ⟨rfl, rfl⟩] at h135; exact absurd rfl h135
                  · skip
                    refine xq_aload_n dX11_token_138 rfl rfl ?_
                    refine xq_callV0N clX11 gd_X11_name dX11_token_139 ml_RX11_160 im_X11_name se_X11_name rfl (Fx.s83 hF) (by exact Nat.le_of_ble_eq_true rfl) (by decide) (m_name (hx2.mv (A := fun q => q = 83) (e2 := q) (Off.pI (A := fun q => q = 83) (Off.pI (A := fun q => q = 83) Off.rf rfl _ _) rfl _ _) (by decide) (by simp [hI_sI]) (by simp [hI_sI, hx2.at]) hx2.le) (by simp [hI_sI, hpl]) hpq (by omega) hlet) ?_
                    intro H139 p139
                    obtain ⟨v139, o139⟩ := p139
                    refine xq_goto dX11_token_142 rfl ?_
                    refine xq_vret dX11_token_225 rfl ?_
                    have hno : ¬ fnd (fun w => wmt b p q w) 28 < 28 := fun z => by
                      rw [if_pos z] at h101; exact nI_n1 (by omega) h101
                    refine ⟨_, ⟨⟨by rw [hI_of o139 23 (by decide)]; simp [hI_sI, hpl], fun z => absurd z (by omega), fun _ => ⟨by rw [hpE, hI_of o139 22 (by decide)]; simp [hI_sI, hx2.at], ?_⟩⟩, (MoF.pF (A := (fun q => q = 83)) (F := (fun k => k = 22 ∨ k = 23 ∨ k = 24 ∨ k = 25)) (MoF.pF (A := (fun q => q = 83)) (F := (fun k => k = 22 ∨ k = 23 ∨ k = 24 ∨ k = 25)) ho2 rfl (by decide) _) rfl (by decide) _).tr (MoF.mo o139 (fun q h => h) (fun k h => by omega))⟩, rfl⟩
                    rw [(hfi.2.2 hno (by omega)).1, (hfi.2.2 hno (by omega)).2, v139, hI_of o139 24 (by decide), hI_sI, if_pos ⟨rfl, rfl⟩]
                    exact MsV.nm
                · skip
                  refine xq_iconst dX11_token_122 ic5 ?_
                  refine xq_goto dX11_token_123 rfl ?_
                  refine xq_putI clX11 (by decide) rfl fl_RX11_147 (Or.inl rfl) dX11_token_127 ⟨rfl, rfl⟩ (Fx.s83 hF) ?_
                  refine xq_aload_n dX11_token_130 rfl rfl ?_
                  refine xq_getI clX11 (by decide) rfl fl_RX11_147 dX11_token_131 (Fx.s83 hF) ?_
                  refine xq_iconst dX11_token_134 ic1 ?_
                  refine xq_icmp_ne dX11_token_135 rfl ⟨fun h135 => ?_, fun h135 => ?_⟩
                  · skip
                    refine xq_vret dX11_token_225 rfl ?_
                    refine ⟨_, ⟨⟨by simp [hI_sI, hpl], fun z => absurd z (by omega), fun _ => ⟨by rw [hpE]; simp [hI_sI, hx2.at], ?_⟩⟩, (MoF.pF (A := (fun q => q = 83)) (F := (fun k => k = 22 ∨ k = 23 ∨ k = 24 ∨ k = 25)) (MoF.pF (A := (fun q => q = 83)) (F := (fun k => k = 22 ∨ k = 23 ∨ k = 24 ∨ k = 25)) ho2 rfl (by decide) _) rfl (by decide) _)⟩, rfl⟩
                    rw [hfi.2.1 (by omega), hI_sI, if_pos ⟨rfl, rfl⟩]
                    exact MsV.bd
                  · skip
                    rw [hI_sI, if_pos ⟨rfl, rfl⟩] at h135; exact absurd h135 (by decide)
              · skip
                refine xq_iconst dX11_token_104 ic0 ?_
                refine xq_goto dX11_token_105 rfl ?_
                refine xq_putI clX11 (by decide) rfl fl_RX11_147 (Or.inl rfl) dX11_token_127 ⟨rfl, rfl⟩ (Fx.s83 hF) ?_
                refine xq_aload_n dX11_token_130 rfl rfl ?_
                refine xq_getI clX11 (by decide) rfl fl_RX11_147 dX11_token_131 (Fx.s83 hF) ?_
                refine xq_iconst dX11_token_134 ic1 ?_
                refine xq_icmp_ne dX11_token_135 rfl ⟨fun h135 => ?_, fun h135 => ?_⟩
                · skip
                  refine xq_vret dX11_token_225 rfl ?_
                  have hw0 : fnd (fun w => wmt b p q w) 28 < 28 := by
                    apply Classical.byContradiction
                    intro z
                    rw [if_neg z] at h101; exact h101 rfl
                  refine ⟨_, ⟨⟨by simp [hI_sI, hpl], fun z => absurd z (by omega), fun _ => ⟨by rw [hpE]; simp [hI_sI, hx2.at], ?_⟩⟩, (MoF.pF (A := (fun q => q = 83)) (F := (fun k => k = 22 ∨ k = 23 ∨ k = 24 ∨ k = 25)) (MoF.pF (A := (fun q => q = 83)) (F := (fun k => k = 22 ∨ k = 23 ∨ k = 24 ∨ k = 25)) ho2 rfl (by decide) _) rfl (by decide) _)⟩, rfl⟩
                  have hK : fiK b n p = fnd (fun w => wmt b p q w) 28 := hfi.1 hw0
                  rw [hK, hI_sI, if_pos ⟨rfl, rfl⟩, hI_sI, if_neg (by omega), hI_sI, if_pos ⟨rfl, rfl⟩, if_pos hw0]
                  exact MsV.wd hw0
                · skip
                  rw [hI_sI, if_pos ⟨rfl, rfl⟩] at h135; exact absurd h135 (by decide)
            · skip
              refine xq_aload_n dX11_token_74 rfl rfl ?_
              refine xq_dup dX11_token_75 rfl ?_
              refine xq_getIE clX11 (by decide) rfl fl_RX11_134 dX11_token_76 (Fx.s83 hF) hx2.at ?_
              refine xq_iconst dX11_token_79 ic1 ?_
              refine xq_iaddN dX11_token_80 ?_
              refine xq_putI clX11 (by decide) rfl fl_RX11_134 (Or.inl rfl) dX11_token_81 ⟨rfl, rfl⟩ (Fx.s83 hF) ?_
              refine xq_goto dX11_token_84 rfl ?_
              rw [Bool.and_eq_true, decide_eq_true_iff] at h71
              refine ih (q + 1) _ (by omega) (by omega) (fun k h1 h2 => ?_) (hx2.mv (A := fun q => q = 83) (Off.pI (A := fun q => q = 83) Off.rf rfl _ _) (by decide) (by simp [hI_sI]) (by rw [hI_sI, if_pos ⟨rfl, rfl⟩]) (by omega)) (by rw [hI_sI, if_neg (by omega)]; exact hpl) (MoF.pF (A := (fun q => q = 83)) (F := (fun k => k = 22 ∨ k = 23 ∨ k = 24 ∨ k = 25)) ho2 rfl (by decide) _)
              by_cases z : k = q
              · rw [z]; exact h71.2
              · exact hall k h1 (by omega)
        exact xq_fgt (l64 (n + 1) p _ (by omega) (Nat.le_refl _) (fun k h1 h2 => absurd h1 (by omega)) (hx1.mv (A := fun q => q = 83) (e2 := p) (Off.pI (A := fun q => q = 83) Off.rf rfl _ _) (by decide) (by simp [hI_sI]) (by rw [hI_sI, if_neg (by omega)]; exact hx1.at) hx1.le) (by rw [hI_sI, if_pos ⟨rfl, rfl⟩]) (MoF.pF (A := (fun q => q = 83)) (F := (fun k => k = 22 ∨ k = 23 ∨ k = 24 ∨ k = 25)) ho1 rfl (by decide) _)) (by exact And.intro rfl (trivial))
    · skip
      refine xq_aload_n dX11_token_49 rfl rfl ?_
      refine xq_iconst dX11_token_50 ic4 ?_
      refine xq_putI clX11 (by decide) rfl fl_RX11_147 (Or.inl rfl) dX11_token_51 ⟨rfl, rfl⟩ (Fx.s83 hF) ?_
      refine xq_goto dX11_token_54 rfl ?_
      refine xq_vret dX11_token_225 rfl ?_
      have hpn : ¬ p < n := (hrv_m1 (fun z => (hx1.ta p z).2)).mp h46
      have hpe : p = n := by omega
      refine ⟨_, ⟨⟨by simp [hI_sI], fun _ => ⟨by simp [hI_sI]; rw [hx1.at, hpe], by rw [hI_sI, if_pos ⟨rfl, rfl⟩]⟩, fun z => absurd z (by omega)⟩, (MoF.pF (A := (fun q => q = 83)) (F := (fun k => k = 22 ∨ k = 23 ∨ k = 24 ∨ k = 25)) (MoF.pF (A := (fun q => q = 83)) (F := (fun k => k = 22 ∨ k = 23 ∨ k = 24 ∨ k = 25)) ho1 rfl (by decide) _) rfl (by decide) _)⟩, rfl⟩
  have lA : ∀ (fz : Nat) (q : Nat) (H1 : xH), n - q < fz → e ≤ q → (∀ k, e ≤ k → k < q → isW (b k) = true) → LxP S H1 b n q → MoF (fun q => q = 83) (fun k => k = 22 ∨ k = 23 ∨ k = 24 ∨ k = 25) H H1 → Xq mX11_token 6 0 0 0 [some (.ref 83), none] [] S H1 (fun R => ∃ H', (fun H' => TkM H' b n (skp b n e) ∧ MoF (fun q => q = 83) (fun k => k = 22 ∨ k = 23 ∨ k = 24 ∨ k = 25) H H') H' ∧ R = (none, S, H')) := by
    intro fz
    induction fz with
    | zero => intro q  H1  hfz; exact absurd hfz (by omega)
    | succ fz ih =>
      intro q  H1  hfz hpq hall hx1 ho1
      have hq7 := hx1.le
      refine xq_aload_n dX11_token_0 rfl rfl ?_
      refine xq_callV0P clX11 gd_X11_here dX11_token_1 ml_RX11_140 im_X11_here se_X11_here rfl (Fx.s83 hF) (by exact Nat.le_of_ble_eq_true rfl) (by decide) (m_here hx1) ?_
      refine xq_bipush dX11_token_4 bp10 ?_
      refine xq_icmp_eq dX11_token_6 rfl ⟨fun h6 => ?_, fun h6 => ?_⟩
      · skip
        refine xq_aload_n dX11_token_18 rfl rfl ?_
        refine xq_dup dX11_token_19 rfl ?_
        refine xq_getIE clX11 (by decide) rfl fl_RX11_134 dX11_token_20 (Fx.s83 hF) hx1.at ?_
        refine xq_iconst dX11_token_23 ic1 ?_
        refine xq_iaddN dX11_token_24 ?_
        refine xq_putI clX11 (by decide) rfl fl_RX11_134 (Or.inl rfl) dX11_token_25 ⟨rfl, rfl⟩ (Fx.s83 hF) ?_
        refine xq_goto dX11_token_28 rfl ?_
        have hw := (hrv_eq (fun z => (hx1.ta q z).2) (by decide)).mp h6
        refine ih (q + 1) _ (by omega) (by omega) (fun k h1 h2 => ?_) (hx1.mv (A := fun q => q = 83) (Off.pI (A := fun q => q = 83) Off.rf rfl _ _) (by decide) (by simp [hI_sI]) (by rw [hI_sI, if_pos ⟨rfl, rfl⟩]) (by omega)) (MoF.pF (A := (fun q => q = 83)) (F := (fun k => k = 22 ∨ k = 23 ∨ k = 24 ∨ k = 25)) ho1 rfl (by decide) _)
        by_cases z : k = q
        · rw [z]; exact decide_eq_true (Or.inl hw.2)
        · exact hall k h1 (by omega)
      · skip
        refine xq_aload_n dX11_token_9 rfl rfl ?_
        refine xq_callV0P clX11 gd_X11_here dX11_token_10 ml_RX11_140 im_X11_here se_X11_here rfl (Fx.s83 hF) (by exact Nat.le_of_ble_eq_true rfl) (by decide) (m_here hx1) ?_
        refine xq_bipush dX11_token_13 bp32 ?_
        refine xq_icmp_ne dX11_token_15 rfl ⟨fun h15 => ?_, fun h15 => ?_⟩
        · skip
          exact lB q H1 (Eq.symm (wnd_of hpq hx1.le hall (fun z => decide_eq_false (fun y => by
            rcases y with y | y
            · exact h6 ((hrv_eq (fun z => (hx1.ta q z).2) (by decide)).mpr ⟨z, y⟩)
            · exact h15 ((hrv_eq (fun z => (hx1.ta q z).2) (by decide)).mpr ⟨z, y⟩))))) hx1 ho1
        · skip
          refine xq_aload_n dX11_token_18 rfl rfl ?_
          refine xq_dup dX11_token_19 rfl ?_
          refine xq_getIE clX11 (by decide) rfl fl_RX11_134 dX11_token_20 (Fx.s83 hF) hx1.at ?_
          refine xq_iconst dX11_token_23 ic1 ?_
          refine xq_iaddN dX11_token_24 ?_
          refine xq_putI clX11 (by decide) rfl fl_RX11_134 (Or.inl rfl) dX11_token_25 ⟨rfl, rfl⟩ (Fx.s83 hF) ?_
          refine xq_goto dX11_token_28 rfl ?_
          have hw := (hrv_eq (fun z => (hx1.ta q z).2) (by decide)).mp h15
          refine ih (q + 1) _ (by omega) (by omega) (fun k h1 h2 => ?_) (hx1.mv (A := fun q => q = 83) (Off.pI (A := fun q => q = 83) Off.rf rfl _ _) (by decide) (by simp [hI_sI]) (by rw [hI_sI, if_pos ⟨rfl, rfl⟩]) (by omega)) (MoF.pF (A := (fun q => q = 83)) (F := (fun k => k = 22 ∨ k = 23 ∨ k = 24 ∨ k = 25)) ho1 rfl (by decide) _)
          by_cases z : k = q
          · rw [z]; exact decide_eq_true (Or.inr hw.2)
          · exact hall k h1 (by omega)
  refine vq_intro (by decide) (by exact Nat.le_of_ble_eq_true rfl) rfl ?_
  exact lA (n + 1) e H (by omega) (Nat.le_refl _) (fun k h1 h2 => absurd h1 (by omega)) hx MoF.rf
end MLc
