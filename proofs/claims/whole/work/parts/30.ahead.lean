/-! ===== HatRoom: ahead, tried, willKnow, rounds, chance ===== -/
section AH
variable {S : xS} {H H1 : xH} {t z k p q f i j l m n ps pn : Nat} {u ui v : uSt} {T : uTx} {w w2 w3 : Int32}
theorem nI_subI (a b : Nat) : nI a - nI b = zI ((a : Int) - b) := by
  show Int32.ofInt a - Int32.ofInt b = Int32.ofInt (a - b)
  rw [← Int32.ofInt_sub]
theorem pas_ok {dr : Bool} {ow mu : Int} (ok : StOk u) (tk : TxOk T) (hn : n ≤ 200) (h1 : uHd u + 12 * n ≤ 100000000) (h2 : uLi u + 12 * n ≤ 100000000) (h3 : uHr u + n ≤ 10000) : Grp u (pas T dr ow mu u n) (12 * n) ∧ uHr (pas T dr ow mu u n) = uHr u + n := by
  have g := pLo_ok (dr := dr) (ow := ow) (mu := mu) ok tk n h1 h2
  exact ⟨⟨g.1.1.setF (Or.inr (Or.inr ⟨rfl, h3⟩)), g.1.2.1, g.1.2.2.1, g.1.2.2.2⟩, rfl⟩
theorem c_ahead0 (hr : RdP S H t T u z) (hno : ¬ (¬ w < 0 ∧ ¬ nI 200 < w ∧ ¬ w2 < 0 ∧ ¬ nI 4 < w2 ∧ (w2 = nI 3 → hasB w3 (tNp T) = true))) : Pv mX10_ahead 7 [.ref 0, .int w, .int w2, .int w3] S H (vZ (-1)) := by
  have hF := hr.fx
  refine vq_ev (vq_intro (by decide) (by exact Nat.le_of_ble_eq_true rfl) rfl ?_)
  refine xq_iload_n dX10_ahead_0 rfl rfl ?_
  refine xq_if_lt dX10_ahead_1 rfl ⟨fun h1 => ?_, fun h1 => ?_⟩
  · skip
    refine xq_iconst dX10_ahead_33 icm1 ?_
    refine xq_iret dX10_ahead_34 rfl ?_
    show _ = _; rw [zm1]
  · skip
    refine xq_iload_n dX10_ahead_4 rfl rfl ?_
    refine xq_sipush dX10_ahead_5 sp200 ?_
    refine xq_icmp_gt dX10_ahead_8 rfl ⟨fun h8 => ?_, fun h8 => ?_⟩
    · skip
      refine xq_iconst dX10_ahead_33 icm1 ?_
      refine xq_iret dX10_ahead_34 rfl ?_
      show _ = _; rw [zm1]
    · skip
      refine xq_iload_n dX10_ahead_11 rfl rfl ?_
      refine xq_if_lt dX10_ahead_12 rfl ⟨fun h12 => ?_, fun h12 => ?_⟩
      · skip
        refine xq_iconst dX10_ahead_33 icm1 ?_
        refine xq_iret dX10_ahead_34 rfl ?_
        show _ = _; rw [zm1]
      · skip
        refine xq_iload_n dX10_ahead_15 rfl rfl ?_
        refine xq_iconst dX10_ahead_16 ic4 ?_
        refine xq_icmp_gt dX10_ahead_17 rfl ⟨fun h17 => ?_, fun h17 => ?_⟩
        · skip
          refine xq_iconst dX10_ahead_33 icm1 ?_
          refine xq_iret dX10_ahead_34 rfl ?_
          show _ = _; rw [zm1]
        · skip
          refine xq_iload_n dX10_ahead_20 rfl rfl ?_
          refine xq_iconst dX10_ahead_21 ic3 ?_
          refine xq_icmp_ne dX10_ahead_22 rfl ⟨fun h22 => ?_, fun h22 => ?_⟩
          · skip
            exact absurd ⟨h1, h8, h12, h17, fun e => absurd e h22⟩ hno
          · skip
            refine xq_aload_n dX10_ahead_25 rfl rfl ?_
            refine xq_iload_n dX10_ahead_26 rfl rfl ?_
            refine xq_callV1P clX10 gd_X10_isPerson dX10_ahead_27 ml_RX10_134 im_X10_isPerson se_X10_isPerson rfl (Fx.s0 hF) (by exact Nat.le_of_ble_eq_true rfl) (by decide) (c_isPerson hr) ?_
            refine xq_if_neB dX10_ahead_30 rfl ⟨fun h30 => ?_, fun h30 => ?_⟩
            · skip
              exact absurd ⟨h1, h8, h12, h17, fun _ => h30⟩ hno
            · skip
              refine xq_iconst dX10_ahead_33 icm1 ?_
              refine xq_iret dX10_ahead_34 rfl ?_
              show _ = _; rw [zm1]
noncomputable def ahV (T : uTx) (u : uSt) (n l : Nat) (w : Int32) : Int := let v := pas T false (-1) (-1) u n
  if l = 0 then (uZ v : Int) else if l = 1 then (pop (kns v) : Int) else if l = 2 then (pop (uSd v) : Int) else if l = 3 then (uPz v w.toInt.toNat : Int) else (uLi v : Int) - uLi u
theorem c_ahead1 (hr : RdP S H t T u z) (hn : n ≤ 200) (hl : l < 5) (h3 : l = 3 → ∃ p, p < tNp T ∧ w3 = nI p) : Hv mX10_ahead 7 [.ref 0, vN n, vN l, .int w3] S H vZ (fun (x : Int) H' => x = ahV T u n l w3 ∧ Off (fun q => (72 ≤ q ∧ q < 77) ∨ (16 ≤ q ∧ q ≤ 23) ∨ q = 66) H H' ∧ ∃ t2, t2 ≤ z + 5640 ∧ MiP H' t2) := by
  have hF := hr.fx; have hT := hr.tx; have tk := hr.tk; have hu := hr.st; have ok := hr.ok; have hm := hr.mi; have ht := hr.gt; have ht24 := hr.t24; have ht45 := hr.t45; have hz := ok.n; have hnp := ok.np; have hrl := ok.rl; have hnpe := hr.np; have h67 : 67 ≤ 67 := Nat.le_refl _; have ha := Fx.g67 hF; have hzz := hr.zb; have hhr := ok.hr; have hhd := hr.hd; have hli := hr.li; have g72 := Fx.g72 hF; have h72 : 67 ≤ 72 := (by decide); have h98 := hr.h9
  refine vq_intro (by decide) (by exact Nat.le_of_ble_eq_true rfl) rfl ?_
  refine xq_iload_n dX10_ahead_0 rfl rfl ?_
  refine xq_if_ltN dX10_ahead_1 rfl (by omega) ?_
  refine xq_iload_n dX10_ahead_4 rfl rfl ?_
  refine xq_sipush dX10_ahead_5 sp200 ?_
  refine xq_icmp_gtN dX10_ahead_8 rfl (by omega) (by omega) ⟨fun h8 => ?_, fun h8 => ?_⟩
  · skip
    exact absurd h8 (by omega)
  · skip
    refine xq_iload_n dX10_ahead_11 rfl rfl ?_
    refine xq_if_ltN dX10_ahead_12 rfl (by omega) ?_
    refine xq_iload_n dX10_ahead_15 rfl rfl ?_
    refine xq_iconst dX10_ahead_16 ic4 ?_
    refine xq_icmp_gtN dX10_ahead_17 rfl (by omega) (by omega) ⟨fun h17 => ?_, fun h17 => ?_⟩
    · skip
      exact absurd h17 (by omega)
    · skip
      refine xq_iload_n dX10_ahead_20 rfl rfl ?_
      refine xq_iconst dX10_ahead_21 ic3 ?_
      refine xq_icmp_neN dX10_ahead_22 rfl (by omega) (by omega) ⟨fun h22 => ?_, fun h22 => ?_⟩
      · skip
        refine xq_aload_n dX10_ahead_35 rfl rfl ?_
        refine xq_getF clX10 (by decide) rfl fl_RX10_71 dX10_ahead_36 (Fx.s0 hF) (Fx.r0_10 hF) ?_
        refine xq_aload_n dX10_ahead_39 rfl rfl ?_
        refine xq_getF clX10 (by decide) rfl fl_RX10_67 dX10_ahead_40 (Fx.s0 hF) (Fx.r0_9 hF) ?_
        refine xq_callV1N clX7 gd_X7_copy dX10_ahead_43 ml_RX10_226 im_X7_copy se_X7_copy rfl (St.s0 (Fx.g72 hF)) (by exact Nat.le_of_ble_eq_true rfl) (by decide) (c_copy (Fx.g72 hF) ha (by omega) hu ok) ?_
        intro H43 p43
        have hu43 := p43.1; have o43 := p43.2; have hT43 := hT.off o43 (fun j hj => by omega); have hm43 := hm.off o43 (by omega) (by omega); have s43 := (o43.R (by omega) 6).trans hr.sc; have un43 := hu.off o43 (fun j hj => by omega)
        refine xq_aload_n dX10_ahead_46 rfl rfl ?_
        refine xq_getF clX10 (by decide) rfl fl_RX10_60 dX10_ahead_47 (Fx.s0 hF) (Fx.r0_8 hF) ?_
        refine xq_aload_n dX10_ahead_50 rfl rfl ?_
        refine xq_getR clX10 (by decide) rfl fl_RX10_48 dX10_ahead_51 (Fx.s0 hF) s43 ?_
        refine xq_iconst dX10_ahead_54 ic0 ?_
        refine xq_iconst dX10_ahead_55 icm1 ?_
        refine xq_iconst dX10_ahead_56 icm1 ?_
        rw [zm1]
        refine xq_callV4N clX0 gd_X0_set dX10_ahead_57 ml_RX10_230 im_X0_set se_X0_set rfl (Fx.s66 hF) (by exact Nat.le_of_ble_eq_true rfl) (by decide) (c_setF hF) ?_
        intro H57 p57
        have hu57 := hu43.off p57.2 (fun j hj => by omega); have hT57 := hT43.off p57.2 (fun j hj => by omega); have hm57 := hm43.off p57.2 (by omega) (by omega); have o57 : Off (fun q => (72 ≤ q ∧ q < 77) ∨ (16 ≤ q ∧ q ≤ 23) ∨ q = 66) H H57 := (o43.mo (fun q h => by omega)).tr (p57.2.mo (fun q h => by omega)); have un57 := hu.off o57 (fun j hj => by omega)
        refine xq_aload_n dX10_ahead_60 rfl rfl ?_
        refine xq_getF clX10 (by decide) rfl fl_RX10_60 dX10_ahead_61 (Fx.s0 hF) (Fx.r0_8 hF) ?_
        refine xq_aload_n dX10_ahead_64 rfl rfl ?_
        refine xq_getF clX10 (by decide) rfl fl_RX10_71 dX10_ahead_65 (Fx.s0 hF) (Fx.r0_10 hF) ?_
        refine xq_iload_n dX10_ahead_68 rfl rfl ?_
        refine xq_callV2N clX0 gd_X0_pass dX10_ahead_69 ml_RX10_263 im_X0_pass se_X0_pass rfl (Fx.s66 hF) (by exact Nat.le_of_ble_eq_true rfl) (by decide) (c_pass hF g72 h72 hu57 ok ht ht24 ht45 hT57 tk p57.1 (by omega) (by omega) hm57 (by omega) hn (by omega) (by omega)) ?_
        intro H69 p69
        obtain ⟨q1, q2, t3, b1, b2⟩ := p69
        have o69 : Off (fun q => (72 ≤ q ∧ q < 77) ∨ (16 ≤ q ∧ q ≤ 23) ∨ q = 66) H H69 := o57.tr (q2.mo (fun q h => by omega))
        have un69 := hu.off o69 (fun j hj => by omega)
        have gp := (pas_ok (T := T) (dr := false) (ow := -1) (mu := -1) (n := n) ok tk hn (by omega) (by omega) (by omega)).1
        have okp := gp.1; have hkl := kns_lt okp.np; have hsd := okp.sd
        refine xq_iload_n dX10_ahead_72 rfl rfl ?_
        by_cases hs73 : 0 ≤ l ∧ l ≤ 3
        · skip
          have hq73 : l = 0 ∨ l = 1 ∨ l = 2 ∨ l = 3 := by omega
          rcases hq73 with rfl | rfl | rfl | rfl
          · skip
            refine xq_tableIn dX10_ahead_73 (by decide) (by decide) rfl rfl ?_
            refine xq_aload_n dX10_ahead_104 rfl rfl ?_
            refine xq_getF clX10 (by decide) rfl fl_RX10_71 dX10_ahead_105 (Fx.s0 hF) (Fx.r0_10 hF) ?_
            refine xq_getIE clX7 (by decide) rfl fl_RX10_167 dX10_ahead_108 (St.s0 (Fx.g72 hF)) q1.sz ?_
            refine xq_iret dX10_ahead_111 rfl ?_
            exact ⟨ahV T u n 0 w3, H69, ⟨rfl, o69, t3, by have := sT_le (h := uHr u) tk n; omega, b2⟩, by rfl⟩
          · skip
            refine xq_tableIn dX10_ahead_73 (by decide) (by decide) rfl rfl ?_
            refine xq_aload_n dX10_ahead_112 rfl rfl ?_
            refine xq_getF clX10 (by decide) rfl fl_RX10_71 dX10_ahead_113 (Fx.s0 hF) (Fx.r0_10 hF) ?_
            refine xq_callV0P clX7 gd_X7_knowers dX10_ahead_116 ml_RX10_213 im_X7_knowers se_X7_knowers rfl (St.s0 (Fx.g72 hF)) (by exact Nat.le_of_ble_eq_true rfl) (by decide) (c_knowers g72 q1 okp) ?_
            refine xq_callS1P gd_J6_bitCount_0f7a4 dX10_ahead_119 ml_RX10_217 im_J6_bitCount_0f7a4 (by exact Nat.le_of_ble_eq_true rfl) (by decide) (c_bitCount (by omega)) ?_
            refine xq_iret dX10_ahead_122 rfl ?_
            exact ⟨ahV T u n 1 w3, H69, ⟨rfl, o69, t3, by have := sT_le (h := uHr u) tk n; omega, b2⟩, by rfl⟩
          · skip
            refine xq_tableIn dX10_ahead_73 (by decide) (by decide) rfl rfl ?_
            refine xq_aload_n dX10_ahead_123 rfl rfl ?_
            refine xq_getF clX10 (by decide) rfl fl_RX10_71 dX10_ahead_124 (Fx.s0 hF) (Fx.r0_10 hF) ?_
            refine xq_getIE clX7 (by decide) rfl fl_RX10_147 dX10_ahead_127 (St.s0 (Fx.g72 hF)) q1.f7 ?_
            refine xq_callS1P gd_J6_bitCount_0f7a4 dX10_ahead_130 ml_RX10_217 im_J6_bitCount_0f7a4 (by exact Nat.le_of_ble_eq_true rfl) (by decide) (c_bitCount (by omega)) ?_
            refine xq_iret dX10_ahead_133 rfl ?_
            exact ⟨ahV T u n 2 w3, H69, ⟨rfl, o69, t3, by have := sT_le (h := uHr u) tk n; omega, b2⟩, by rfl⟩
          · skip
            refine xq_tableIn dX10_ahead_73 (by decide) (by decide) rfl rfl ?_
            refine xq_aload_n dX10_ahead_134 rfl rfl ?_
            refine xq_getF clX10 (by decide) rfl fl_RX10_71 dX10_ahead_135 (Fx.s0 hF) (Fx.r0_10 hF) ?_
            refine xq_getF clX7 (by decide) rfl fl_RX10_150 dX10_ahead_138 (St.s0 (Fx.g72 hF)) (St.r3 (Fx.g72 hF)) ?_
            obtain ⟨p, hp, rfl⟩ := h3 (by omega)
            have hp6 : p < 6 := by have := tk.np; omega
            refine xq_iload_n dX10_ahead_141 rfl rfl ?_
            refine xq_ialdN dX10_ahead_142 (St.s4 (Fx.g72 hF)) hp6 (by decide) (q1.pz hp6) ?_
            refine xq_iret dX10_ahead_143 rfl ?_
            exact ⟨ahV T u n 3 (nI p), H69, ⟨rfl, o69, t3, by have := sT_le (h := uHr u) tk n; omega, b2⟩, by show _ = (some (vZ (uPz (pas T false (-1) (-1) u n) (nI p).toInt.toNat : Int)), S, H69); rw [nI_toInt (by omega)]; rfl⟩
        · skip
          refine xq_tableOut dX10_ahead_73 (swOut 0 3 hs73 (by omega)) rfl ?_
          refine xq_aload_n dX10_ahead_144 rfl rfl ?_
          refine xq_getF clX10 (by decide) rfl fl_RX10_71 dX10_ahead_145 (Fx.s0 hF) (Fx.r0_10 hF) ?_
          refine xq_getIE clX7 (by decide) rfl fl_RX10_266 dX10_ahead_148 (St.s0 (Fx.g72 hF)) q1.f9 ?_
          refine xq_aload_n dX10_ahead_151 rfl rfl ?_
          refine xq_getF clX10 (by decide) rfl fl_RX10_67 dX10_ahead_152 (Fx.s0 hF) (Fx.r0_9 hF) ?_
          refine xq_getIE clX7 (by decide) rfl fl_RX10_266 dX10_ahead_155 (St.s0 (Fx.g67 hF)) un69.f9 ?_
          refine xq_isub dX10_ahead_158 ?_
          refine xq_iret dX10_ahead_159 rfl ?_
          rw [nI_subI]
          exact ⟨ahV T u n l w3, H69, ⟨rfl, o69, t3, by have := sT_le (h := uHr u) tk n; omega, b2⟩, by unfold ahV; simp only []; rw [if_neg (by omega), if_neg (by omega), if_neg (by omega), if_neg (by omega)]⟩
      · skip
        refine xq_aload_n dX10_ahead_25 rfl rfl ?_
        refine xq_iload_n dX10_ahead_26 rfl rfl ?_
        refine xq_callV1P clX10 gd_X10_isPerson dX10_ahead_27 ml_RX10_134 im_X10_isPerson se_X10_isPerson rfl (Fx.s0 hF) (by exact Nat.le_of_ble_eq_true rfl) (by decide) (c_isPerson hr) ?_
        refine xq_if_neB dX10_ahead_30 rfl ⟨fun h30 => ?_, fun h30 => ?_⟩
        · skip
          refine xq_aload_n dX10_ahead_35 rfl rfl ?_
          refine xq_getF clX10 (by decide) rfl fl_RX10_71 dX10_ahead_36 (Fx.s0 hF) (Fx.r0_10 hF) ?_
          refine xq_aload_n dX10_ahead_39 rfl rfl ?_
          refine xq_getF clX10 (by decide) rfl fl_RX10_67 dX10_ahead_40 (Fx.s0 hF) (Fx.r0_9 hF) ?_
          refine xq_callV1N clX7 gd_X7_copy dX10_ahead_43 ml_RX10_226 im_X7_copy se_X7_copy rfl (St.s0 (Fx.g72 hF)) (by exact Nat.le_of_ble_eq_true rfl) (by decide) (c_copy (Fx.g72 hF) ha (by omega) hu ok) ?_
          intro H43 p43
          have hu43 := p43.1; have o43 := p43.2; have hT43 := hT.off o43 (fun j hj => by omega); have hm43 := hm.off o43 (by omega) (by omega); have s43 := (o43.R (by omega) 6).trans hr.sc; have un43 := hu.off o43 (fun j hj => by omega)
          refine xq_aload_n dX10_ahead_46 rfl rfl ?_
          refine xq_getF clX10 (by decide) rfl fl_RX10_60 dX10_ahead_47 (Fx.s0 hF) (Fx.r0_8 hF) ?_
          refine xq_aload_n dX10_ahead_50 rfl rfl ?_
          refine xq_getR clX10 (by decide) rfl fl_RX10_48 dX10_ahead_51 (Fx.s0 hF) s43 ?_
          refine xq_iconst dX10_ahead_54 ic0 ?_
          refine xq_iconst dX10_ahead_55 icm1 ?_
          refine xq_iconst dX10_ahead_56 icm1 ?_
          rw [zm1]
          refine xq_callV4N clX0 gd_X0_set dX10_ahead_57 ml_RX10_230 im_X0_set se_X0_set rfl (Fx.s66 hF) (by exact Nat.le_of_ble_eq_true rfl) (by decide) (c_setF hF) ?_
          intro H57 p57
          have hu57 := hu43.off p57.2 (fun j hj => by omega); have hT57 := hT43.off p57.2 (fun j hj => by omega); have hm57 := hm43.off p57.2 (by omega) (by omega); have o57 : Off (fun q => (72 ≤ q ∧ q < 77) ∨ (16 ≤ q ∧ q ≤ 23) ∨ q = 66) H H57 := (o43.mo (fun q h => by omega)).tr (p57.2.mo (fun q h => by omega)); have un57 := hu.off o57 (fun j hj => by omega)
          refine xq_aload_n dX10_ahead_60 rfl rfl ?_
          refine xq_getF clX10 (by decide) rfl fl_RX10_60 dX10_ahead_61 (Fx.s0 hF) (Fx.r0_8 hF) ?_
          refine xq_aload_n dX10_ahead_64 rfl rfl ?_
          refine xq_getF clX10 (by decide) rfl fl_RX10_71 dX10_ahead_65 (Fx.s0 hF) (Fx.r0_10 hF) ?_
          refine xq_iload_n dX10_ahead_68 rfl rfl ?_
          refine xq_callV2N clX0 gd_X0_pass dX10_ahead_69 ml_RX10_263 im_X0_pass se_X0_pass rfl (Fx.s66 hF) (by exact Nat.le_of_ble_eq_true rfl) (by decide) (c_pass hF g72 h72 hu57 ok ht ht24 ht45 hT57 tk p57.1 (by omega) (by omega) hm57 (by omega) hn (by omega) (by omega)) ?_
          intro H69 p69
          obtain ⟨q1, q2, t3, b1, b2⟩ := p69
          have o69 : Off (fun q => (72 ≤ q ∧ q < 77) ∨ (16 ≤ q ∧ q ≤ 23) ∨ q = 66) H H69 := o57.tr (q2.mo (fun q h => by omega))
          have un69 := hu.off o69 (fun j hj => by omega)
          have gp := (pas_ok (T := T) (dr := false) (ow := -1) (mu := -1) (n := n) ok tk hn (by omega) (by omega) (by omega)).1
          have okp := gp.1; have hkl := kns_lt okp.np; have hsd := okp.sd
          refine xq_iload_n dX10_ahead_72 rfl rfl ?_
          by_cases hs73 : 0 ≤ l ∧ l ≤ 3
          · skip
            have hq73 : l = 0 ∨ l = 1 ∨ l = 2 ∨ l = 3 := by omega
            rcases hq73 with rfl | rfl | rfl | rfl
            · skip
              refine xq_tableIn dX10_ahead_73 (by decide) (by decide) rfl rfl ?_
              refine xq_aload_n dX10_ahead_104 rfl rfl ?_
              refine xq_getF clX10 (by decide) rfl fl_RX10_71 dX10_ahead_105 (Fx.s0 hF) (Fx.r0_10 hF) ?_
              refine xq_getIE clX7 (by decide) rfl fl_RX10_167 dX10_ahead_108 (St.s0 (Fx.g72 hF)) q1.sz ?_
              refine xq_iret dX10_ahead_111 rfl ?_
              exact ⟨ahV T u n 0 w3, H69, ⟨rfl, o69, t3, by have := sT_le (h := uHr u) tk n; omega, b2⟩, by rfl⟩
            · skip
              refine xq_tableIn dX10_ahead_73 (by decide) (by decide) rfl rfl ?_
              refine xq_aload_n dX10_ahead_112 rfl rfl ?_
              refine xq_getF clX10 (by decide) rfl fl_RX10_71 dX10_ahead_113 (Fx.s0 hF) (Fx.r0_10 hF) ?_
              refine xq_callV0P clX7 gd_X7_knowers dX10_ahead_116 ml_RX10_213 im_X7_knowers se_X7_knowers rfl (St.s0 (Fx.g72 hF)) (by exact Nat.le_of_ble_eq_true rfl) (by decide) (c_knowers g72 q1 okp) ?_
              refine xq_callS1P gd_J6_bitCount_0f7a4 dX10_ahead_119 ml_RX10_217 im_J6_bitCount_0f7a4 (by exact Nat.le_of_ble_eq_true rfl) (by decide) (c_bitCount (by omega)) ?_
              refine xq_iret dX10_ahead_122 rfl ?_
              exact ⟨ahV T u n 1 w3, H69, ⟨rfl, o69, t3, by have := sT_le (h := uHr u) tk n; omega, b2⟩, by rfl⟩
            · skip
              refine xq_tableIn dX10_ahead_73 (by decide) (by decide) rfl rfl ?_
              refine xq_aload_n dX10_ahead_123 rfl rfl ?_
              refine xq_getF clX10 (by decide) rfl fl_RX10_71 dX10_ahead_124 (Fx.s0 hF) (Fx.r0_10 hF) ?_
              refine xq_getIE clX7 (by decide) rfl fl_RX10_147 dX10_ahead_127 (St.s0 (Fx.g72 hF)) q1.f7 ?_
              refine xq_callS1P gd_J6_bitCount_0f7a4 dX10_ahead_130 ml_RX10_217 im_J6_bitCount_0f7a4 (by exact Nat.le_of_ble_eq_true rfl) (by decide) (c_bitCount (by omega)) ?_
              refine xq_iret dX10_ahead_133 rfl ?_
              exact ⟨ahV T u n 2 w3, H69, ⟨rfl, o69, t3, by have := sT_le (h := uHr u) tk n; omega, b2⟩, by rfl⟩
            · skip
              refine xq_tableIn dX10_ahead_73 (by decide) (by decide) rfl rfl ?_
              refine xq_aload_n dX10_ahead_134 rfl rfl ?_
              refine xq_getF clX10 (by decide) rfl fl_RX10_71 dX10_ahead_135 (Fx.s0 hF) (Fx.r0_10 hF) ?_
              refine xq_getF clX7 (by decide) rfl fl_RX10_150 dX10_ahead_138 (St.s0 (Fx.g72 hF)) (St.r3 (Fx.g72 hF)) ?_
              obtain ⟨p, hp, rfl⟩ := h3 (by omega)
              have hp6 : p < 6 := by have := tk.np; omega
              refine xq_iload_n dX10_ahead_141 rfl rfl ?_
              refine xq_ialdN dX10_ahead_142 (St.s4 (Fx.g72 hF)) hp6 (by decide) (q1.pz hp6) ?_
              refine xq_iret dX10_ahead_143 rfl ?_
              exact ⟨ahV T u n 3 (nI p), H69, ⟨rfl, o69, t3, by have := sT_le (h := uHr u) tk n; omega, b2⟩, by show _ = (some (vZ (uPz (pas T false (-1) (-1) u n) (nI p).toInt.toNat : Int)), S, H69); rw [nI_toInt (by omega)]; rfl⟩
          · skip
            refine xq_tableOut dX10_ahead_73 (swOut 0 3 hs73 (by omega)) rfl ?_
            refine xq_aload_n dX10_ahead_144 rfl rfl ?_
            refine xq_getF clX10 (by decide) rfl fl_RX10_71 dX10_ahead_145 (Fx.s0 hF) (Fx.r0_10 hF) ?_
            refine xq_getIE clX7 (by decide) rfl fl_RX10_266 dX10_ahead_148 (St.s0 (Fx.g72 hF)) q1.f9 ?_
            refine xq_aload_n dX10_ahead_151 rfl rfl ?_
            refine xq_getF clX10 (by decide) rfl fl_RX10_67 dX10_ahead_152 (Fx.s0 hF) (Fx.r0_9 hF) ?_
            refine xq_getIE clX7 (by decide) rfl fl_RX10_266 dX10_ahead_155 (St.s0 (Fx.g67 hF)) un69.f9 ?_
            refine xq_isub dX10_ahead_158 ?_
            refine xq_iret dX10_ahead_159 rfl ?_
            rw [nI_subI]
            exact ⟨ahV T u n l w3, H69, ⟨rfl, o69, t3, by have := sT_le (h := uHr u) tk n; omega, b2⟩, by unfold ahV; simp only []; rw [if_neg (by omega), if_neg (by omega), if_neg (by omega), if_neg (by omega)]⟩
        · skip
          obtain ⟨p, hp, e⟩ := h3 h22
          rw [e, hasB_n (by have := tk.np; omega), decide_eq_true hp] at h30; cases h30
theorem c_tried0 (hr : RdP S H t T u z) (hno : ¬ (¬ w < 0 ∧ ¬ nI 4 < w ∧ ¬ w3 < 0 ∧ w3 ≤ nI 200 ∧ (w = nI 2 → hasB w2 (tNp T) = true) ∧ (¬ w = nI 2 → w2 = 0))) : Pv mX10_tried 7 [.ref 0, .int w, .int w2, .int w3] S H (vZ (-1)) := by
  have hF := hr.fx
  refine vq_ev (vq_intro (by decide) (by exact Nat.le_of_ble_eq_true rfl) rfl ?_)
  refine xq_iload_n dX10_tried_0 rfl rfl ?_
  refine xq_if_lt dX10_tried_1 rfl ⟨fun h1 => ?_, fun h1 => ?_⟩
  · skip
    refine xq_iconst dX10_tried_20 icm1 ?_
    refine xq_iret dX10_tried_21 rfl ?_
    show _ = _; rw [zm1]
  · skip
    refine xq_iload_n dX10_tried_4 rfl rfl ?_
    refine xq_iconst dX10_tried_5 ic4 ?_
    refine xq_icmp_gt dX10_tried_6 rfl ⟨fun h6 => ?_, fun h6 => ?_⟩
    · skip
      refine xq_iconst dX10_tried_20 icm1 ?_
      refine xq_iret dX10_tried_21 rfl ?_
      show _ = _; rw [zm1]
    · skip
      refine xq_iload_n dX10_tried_9 rfl rfl ?_
      refine xq_if_lt dX10_tried_10 rfl ⟨fun h10 => ?_, fun h10 => ?_⟩
      · skip
        refine xq_iconst dX10_tried_20 icm1 ?_
        refine xq_iret dX10_tried_21 rfl ?_
        show _ = _; rw [zm1]
      · skip
        refine xq_iload_n dX10_tried_13 rfl rfl ?_
        refine xq_sipush dX10_tried_14 sp200 ?_
        refine xq_icmp_le dX10_tried_17 rfl ⟨fun h17 => ?_, fun h17 => ?_⟩
        · skip
          refine xq_iload_n dX10_tried_22 rfl rfl ?_
          refine xq_iconst dX10_tried_23 ic2 ?_
          refine xq_icmp_ne dX10_tried_24 rfl ⟨fun h24 => ?_, fun h24 => ?_⟩
          · skip
            refine xq_iload_n dX10_tried_38 rfl rfl ?_
            refine xq_if_eq dX10_tried_39 rfl ⟨fun h39 => ?_, fun h39 => ?_⟩
            · skip
              exact absurd ⟨h1, h6, h10, h17, fun e => absurd e h24, fun _ => h39⟩ hno
            · skip
              refine xq_iconst dX10_tried_42 icm1 ?_
              refine xq_iret dX10_tried_43 rfl ?_
              show _ = _; rw [zm1]
          · skip
            refine xq_aload_n dX10_tried_27 rfl rfl ?_
            refine xq_iload_n dX10_tried_28 rfl rfl ?_
            refine xq_callV1P clX10 gd_X10_isPerson dX10_tried_29 ml_RX10_134 im_X10_isPerson se_X10_isPerson rfl (Fx.s0 hF) (by exact Nat.le_of_ble_eq_true rfl) (by decide) (c_isPerson hr) ?_
            refine xq_if_neB dX10_tried_32 rfl ⟨fun h32 => ?_, fun h32 => ?_⟩
            · skip
              exact absurd ⟨h1, h6, h10, h17, fun _ => h32, fun e => absurd h24 e⟩ hno
            · skip
              refine xq_goto dX10_tried_35 rfl ?_
              refine xq_iconst dX10_tried_42 icm1 ?_
              refine xq_iret dX10_tried_43 rfl ?_
              show _ = _; rw [zm1]
        · skip
          refine xq_iconst dX10_tried_20 icm1 ?_
          refine xq_iret dX10_tried_21 rfl ?_
          show _ = _; rw [zm1]
theorem uAll_f (u : uSt) : ∀ n, uHd (uAll u n) = uHd u ∧ uLi (uAll u n) = uLi u ∧ uHr (uAll u n) = uHr u
  | 0 => ⟨rfl, rfl, rfl⟩
  | n + 1 => uAll_f u n
noncomputable def triU (u : uSt) (l : Nat) : uSt := if l = 4 then uAll u (uNp u) else u
noncomputable def triV (T : uTx) (u : uSt) (l i n : Nat) : uSt := pas T false (l : Int) (i : Int) (triU u l) n
theorem c_tried1 (hr : RdP S H t T u z) (hl : l < 5) (hn : n ≤ 200) (hl2 : l = 2) (hp : i < tNp T) : Hv mX10_tried 7 [.ref 0, vN l, vN i, vN n] S H vN (fun x H' => x = uZ (triV T u l i n) ∧ Off (fun q => (72 ≤ q ∧ q < 77) ∨ (16 ≤ q ∧ q ≤ 23) ∨ q = 66) H H' ∧ ∃ t2, t2 ≤ z + 5640 ∧ MiP H' t2) := by
  have hF := hr.fx; have hT := hr.tx; have tk := hr.tk; have hu := hr.st; have ok := hr.ok; have hm := hr.mi; have ht := hr.gt; have ht24 := hr.t24; have ht45 := hr.t45; have hz := ok.n; have hnp := ok.np; have hrl := ok.rl; have hnpe := hr.np; have h67 : 67 ≤ 67 := Nat.le_refl _; have ha := Fx.g67 hF; have hzz := hr.zb; have hhr := ok.hr; have hhd := hr.hd; have hli := hr.li; have g72 := Fx.g72 hF; have h72 : 67 ≤ 72 := (by decide); have h98 := hr.h9; have htp := tk.np
  refine vq_intro (by decide) (by exact Nat.le_of_ble_eq_true rfl) rfl ?_
  refine xq_iload_n dX10_tried_0 rfl rfl ?_
  refine xq_if_ltN dX10_tried_1 rfl (by omega) ?_
  refine xq_iload_n dX10_tried_4 rfl rfl ?_
  refine xq_iconst dX10_tried_5 ic4 ?_
  refine xq_icmp_gtN dX10_tried_6 rfl (by omega) (by omega) ⟨fun h6 => ?_, fun h6 => ?_⟩
  · skip
    exact absurd h6 (by omega)
  · skip
    refine xq_iload_n dX10_tried_9 rfl rfl ?_
    refine xq_if_ltN dX10_tried_10 rfl (by omega) ?_
    refine xq_iload_n dX10_tried_13 rfl rfl ?_
    refine xq_sipush dX10_tried_14 sp200 ?_
    refine xq_icmp_leN dX10_tried_17 rfl (by omega) (by omega) ⟨fun h17 => ?_, fun h17 => ?_⟩
    · skip
      refine xq_iload_n dX10_tried_22 rfl rfl ?_
      refine xq_iconst dX10_tried_23 ic2 ?_
      refine xq_icmp_neN dX10_tried_24 rfl (by omega) (by omega) ⟨fun h24 => ?_, fun h24 => ?_⟩
      · skip
        exact absurd h24 (by omega)
      · skip
        refine xq_aload_n dX10_tried_27 rfl rfl ?_
        refine xq_iload_n dX10_tried_28 rfl rfl ?_
        refine xq_callV1P clX10 gd_X10_isPerson dX10_tried_29 ml_RX10_134 im_X10_isPerson se_X10_isPerson rfl (Fx.s0 hF) (by exact Nat.le_of_ble_eq_true rfl) (by decide) (c_isPerson1 hr hp) ?_
        refine xq_if_neN dX10_tried_32 rfl (by omega) ⟨fun h32 => ?_, fun h32 => ?_⟩
        · skip
          refine xq_aload_n dX10_tried_44 rfl rfl ?_
          refine xq_getF clX10 (by decide) rfl fl_RX10_71 dX10_tried_45 (Fx.s0 hF) (Fx.r0_10 hF) ?_
          refine xq_aload_n dX10_tried_48 rfl rfl ?_
          refine xq_getF clX10 (by decide) rfl fl_RX10_67 dX10_tried_49 (Fx.s0 hF) (Fx.r0_9 hF) ?_
          refine xq_callV1N clX7 gd_X7_copy dX10_tried_52 ml_RX10_226 im_X7_copy se_X7_copy rfl (St.s0 (Fx.g72 hF)) (by exact Nat.le_of_ble_eq_true rfl) (by decide) (c_copy (Fx.g72 hF) ha (by omega) hu ok) ?_
          intro H52 p52
          have hu52 := p52.1; have o52 := p52.2; have hT52 := hT.off o52 (fun j hj => by omega); have hm52 := hm.off o52 (by omega) (by omega); have s52 := (o52.R (by omega) 6).trans hr.sc; have un52 := hu.off o52 (fun j hj => by omega)
          refine xq_iload_n dX10_tried_55 rfl rfl ?_
          refine xq_iconst dX10_tried_56 ic4 ?_
          refine xq_icmp_neN dX10_tried_57 rfl (by omega) (by omega) ⟨fun h57 => ?_, fun h57 => ?_⟩
          · skip
            have hut : triU u l = u := if_neg h57
            have o67 : Off (fun q => (72 ≤ q ∧ q < 77) ∨ (16 ≤ q ∧ q ≤ 23) ∨ q = 66) H H52 := o52.mo (fun q h => by omega)
            have hu67 : StP H52 72 (triU u l) := by rw [hut]; exact hu52
            have ok67 : StOk (triU u l) := by rw [hut]; exact ok
            have hd67 : uHd (triU u l) = uHd u ∧ uLi (triU u l) = uLi u ∧ uHr (triU u l) = uHr u := by rw [hut]; exact ⟨rfl, rfl, rfl⟩
            have hT67 := hT52; have hm67 := hm52
            refine xq_aload_n dX10_tried_67 rfl rfl ?_
            refine xq_getF clX10 (by decide) rfl fl_RX10_60 dX10_tried_68 (Fx.s0 hF) (Fx.r0_8 hF) ?_
            refine xq_aload_n dX10_tried_71 rfl rfl ?_
            refine xq_getR clX10 (by decide) rfl fl_RX10_48 dX10_tried_72 (Fx.s0 hF) ((o67.R (by omega) 6).trans hr.sc) ?_
            refine xq_iconst dX10_tried_75 ic0 ?_
            refine xq_iload_n dX10_tried_76 rfl rfl ?_
            refine xq_iload_n dX10_tried_77 rfl rfl ?_
            refine xq_callV4N clX0 gd_X0_set dX10_tried_78 ml_RX10_230 im_X0_set se_X0_set rfl (Fx.s66 hF) (by exact Nat.le_of_ble_eq_true rfl) (by decide) (c_setF (ow := (l : Int)) (mu := (i : Int)) hF) ?_
            intro H78 p78
            have hu78 := hu67.off p78.2 (fun j hj => by omega); have hT78 := hT67.off p78.2 (fun j hj => by omega); have hm78 := hm67.off p78.2 (by omega) (by omega); have o78 : Off (fun q => (72 ≤ q ∧ q < 77) ∨ (16 ≤ q ∧ q ≤ 23) ∨ q = 66) H H78 := o67.tr (p78.2.mo (fun q h => by omega))
            refine xq_aload_n dX10_tried_81 rfl rfl ?_
            refine xq_getF clX10 (by decide) rfl fl_RX10_60 dX10_tried_82 (Fx.s0 hF) (Fx.r0_8 hF) ?_
            refine xq_aload_n dX10_tried_85 rfl rfl ?_
            refine xq_getF clX10 (by decide) rfl fl_RX10_71 dX10_tried_86 (Fx.s0 hF) (Fx.r0_10 hF) ?_
            refine xq_iload_n dX10_tried_89 rfl rfl ?_
            refine xq_callV2N clX0 gd_X0_pass dX10_tried_90 ml_RX10_263 im_X0_pass se_X0_pass rfl (Fx.s66 hF) (by exact Nat.le_of_ble_eq_true rfl) (by decide) (c_pass hF g72 h72 hu78 ok67 ht ht24 ht45 hT78 tk p78.1 (by omega) (by omega) hm78 (by omega) hn (by omega) (by omega)) ?_
            intro H90 p90
            obtain ⟨q1, q2, t3, b1, b2⟩ := p90
            refine xq_aload_n dX10_tried_93 rfl rfl ?_
            refine xq_getF clX10 (by decide) rfl fl_RX10_71 dX10_tried_94 (Fx.s0 hF) (Fx.r0_10 hF) ?_
            refine xq_getIE clX7 (by decide) rfl fl_RX10_167 dX10_tried_97 (St.s0 (Fx.g72 hF)) q1.sz ?_
            refine xq_iret dX10_tried_100 rfl ?_
            exact ⟨_, H90, ⟨rfl, o78.tr (q2.mo (fun q h => by omega)), t3, by have := sT_le (h := uHr (triU u l)) tk n; omega, b2⟩, rfl⟩
          · skip
            refine xq_aload_n dX10_tried_60 rfl rfl ?_
            refine xq_getF clX10 (by decide) rfl fl_RX10_71 dX10_tried_61 (Fx.s0 hF) (Fx.r0_10 hF) ?_
            refine xq_callV0N clX7 gd_X7_seeAll dX10_tried_64 ml_RX10_306 im_X7_seeAll se_X7_seeAll rfl (St.s0 (Fx.g72 hF)) (by exact Nat.le_of_ble_eq_true rfl) (by decide) (c_seeAll g72 hu52 ok) ?_
            intro H64 p64
            have hut : triU u l = uAll u (uNp u) := if_pos h57
            have o67 : Off (fun q => (72 ≤ q ∧ q < 77) ∨ (16 ≤ q ∧ q ≤ 23) ∨ q = 66) H H64 := (o52.mo (fun q h => by omega)).tr (p64.2.mo (fun q h => by omega))
            have hu67 : StP H64 72 (triU u l) := by rw [hut]; exact p64.1
            have ok67 : StOk (triU u l) := by rw [hut]; exact uAll_ok ok _ hnp
            have hd67 : uHd (triU u l) = uHd u ∧ uLi (triU u l) = uLi u ∧ uHr (triU u l) = uHr u := by rw [hut]; exact uAll_f u _
            have hT67 := hT52.off p64.2 (fun j hj => by omega); have hm67 := hm52.off p64.2 (by omega) (by omega)
            refine xq_aload_n dX10_tried_67 rfl rfl ?_
            refine xq_getF clX10 (by decide) rfl fl_RX10_60 dX10_tried_68 (Fx.s0 hF) (Fx.r0_8 hF) ?_
            refine xq_aload_n dX10_tried_71 rfl rfl ?_
            refine xq_getR clX10 (by decide) rfl fl_RX10_48 dX10_tried_72 (Fx.s0 hF) ((o67.R (by omega) 6).trans hr.sc) ?_
            refine xq_iconst dX10_tried_75 ic0 ?_
            refine xq_iload_n dX10_tried_76 rfl rfl ?_
            refine xq_iload_n dX10_tried_77 rfl rfl ?_
            refine xq_callV4N clX0 gd_X0_set dX10_tried_78 ml_RX10_230 im_X0_set se_X0_set rfl (Fx.s66 hF) (by exact Nat.le_of_ble_eq_true rfl) (by decide) (c_setF (ow := (l : Int)) (mu := (i : Int)) hF) ?_
            intro H78 p78
            have hu78 := hu67.off p78.2 (fun j hj => by omega); have hT78 := hT67.off p78.2 (fun j hj => by omega); have hm78 := hm67.off p78.2 (by omega) (by omega); have o78 : Off (fun q => (72 ≤ q ∧ q < 77) ∨ (16 ≤ q ∧ q ≤ 23) ∨ q = 66) H H78 := o67.tr (p78.2.mo (fun q h => by omega))
            refine xq_aload_n dX10_tried_81 rfl rfl ?_
            refine xq_getF clX10 (by decide) rfl fl_RX10_60 dX10_tried_82 (Fx.s0 hF) (Fx.r0_8 hF) ?_
            refine xq_aload_n dX10_tried_85 rfl rfl ?_
            refine xq_getF clX10 (by decide) rfl fl_RX10_71 dX10_tried_86 (Fx.s0 hF) (Fx.r0_10 hF) ?_
            refine xq_iload_n dX10_tried_89 rfl rfl ?_
            refine xq_callV2N clX0 gd_X0_pass dX10_tried_90 ml_RX10_263 im_X0_pass se_X0_pass rfl (Fx.s66 hF) (by exact Nat.le_of_ble_eq_true rfl) (by decide) (c_pass hF g72 h72 hu78 ok67 ht ht24 ht45 hT78 tk p78.1 (by omega) (by omega) hm78 (by omega) hn (by omega) (by omega)) ?_
            intro H90 p90
            obtain ⟨q1, q2, t3, b1, b2⟩ := p90
            refine xq_aload_n dX10_tried_93 rfl rfl ?_
            refine xq_getF clX10 (by decide) rfl fl_RX10_71 dX10_tried_94 (Fx.s0 hF) (Fx.r0_10 hF) ?_
            refine xq_getIE clX7 (by decide) rfl fl_RX10_167 dX10_tried_97 (St.s0 (Fx.g72 hF)) q1.sz ?_
            refine xq_iret dX10_tried_100 rfl ?_
            exact ⟨_, H90, ⟨rfl, o78.tr (q2.mo (fun q h => by omega)), t3, by have := sT_le (h := uHr (triU u l)) tk n; omega, b2⟩, rfl⟩
        · skip
          first | exact absurd h32 (by decide) | exact absurd rfl h32
    · skip
      exact absurd h17 (by omega)
theorem c_tried2 (hr : RdP S H t T u z) (hl : l < 5) (hn : n ≤ 200) (hl2 : ¬ l = 2) (hp : i = 0) : Hv mX10_tried 7 [.ref 0, vN l, vN i, vN n] S H vN (fun x H' => x = uZ (triV T u l i n) ∧ Off (fun q => (72 ≤ q ∧ q < 77) ∨ (16 ≤ q ∧ q ≤ 23) ∨ q = 66) H H' ∧ ∃ t2, t2 ≤ z + 5640 ∧ MiP H' t2) := by
  have hF := hr.fx; have hT := hr.tx; have tk := hr.tk; have hu := hr.st; have ok := hr.ok; have hm := hr.mi; have ht := hr.gt; have ht24 := hr.t24; have ht45 := hr.t45; have hz := ok.n; have hnp := ok.np; have hrl := ok.rl; have hnpe := hr.np; have h67 : 67 ≤ 67 := Nat.le_refl _; have ha := Fx.g67 hF; have hzz := hr.zb; have hhr := ok.hr; have hhd := hr.hd; have hli := hr.li; have g72 := Fx.g72 hF; have h72 : 67 ≤ 72 := (by decide); have h98 := hr.h9; have htp := tk.np
  refine vq_intro (by decide) (by exact Nat.le_of_ble_eq_true rfl) rfl ?_
  refine xq_iload_n dX10_tried_0 rfl rfl ?_
  refine xq_if_ltN dX10_tried_1 rfl (by omega) ?_
  refine xq_iload_n dX10_tried_4 rfl rfl ?_
  refine xq_iconst dX10_tried_5 ic4 ?_
  refine xq_icmp_gtN dX10_tried_6 rfl (by omega) (by omega) ⟨fun h6 => ?_, fun h6 => ?_⟩
  · skip
    exact absurd h6 (by omega)
  · skip
    refine xq_iload_n dX10_tried_9 rfl rfl ?_
    refine xq_if_ltN dX10_tried_10 rfl (by omega) ?_
    refine xq_iload_n dX10_tried_13 rfl rfl ?_
    refine xq_sipush dX10_tried_14 sp200 ?_
    refine xq_icmp_leN dX10_tried_17 rfl (by omega) (by omega) ⟨fun h17 => ?_, fun h17 => ?_⟩
    · skip
      refine xq_iload_n dX10_tried_22 rfl rfl ?_
      refine xq_iconst dX10_tried_23 ic2 ?_
      refine xq_icmp_neN dX10_tried_24 rfl (by omega) (by omega) ⟨fun h24 => ?_, fun h24 => ?_⟩
      · skip
        refine xq_iload_n dX10_tried_38 rfl rfl ?_
        refine xq_if_eqN dX10_tried_39 rfl (by omega) ⟨fun h39 => ?_, fun h39 => ?_⟩
        · skip
          refine xq_aload_n dX10_tried_44 rfl rfl ?_
          refine xq_getF clX10 (by decide) rfl fl_RX10_71 dX10_tried_45 (Fx.s0 hF) (Fx.r0_10 hF) ?_
          refine xq_aload_n dX10_tried_48 rfl rfl ?_
          refine xq_getF clX10 (by decide) rfl fl_RX10_67 dX10_tried_49 (Fx.s0 hF) (Fx.r0_9 hF) ?_
          refine xq_callV1N clX7 gd_X7_copy dX10_tried_52 ml_RX10_226 im_X7_copy se_X7_copy rfl (St.s0 (Fx.g72 hF)) (by exact Nat.le_of_ble_eq_true rfl) (by decide) (c_copy (Fx.g72 hF) ha (by omega) hu ok) ?_
          intro H52 p52
          have hu52 := p52.1; have o52 := p52.2; have hT52 := hT.off o52 (fun j hj => by omega); have hm52 := hm.off o52 (by omega) (by omega); have s52 := (o52.R (by omega) 6).trans hr.sc; have un52 := hu.off o52 (fun j hj => by omega)
          refine xq_iload_n dX10_tried_55 rfl rfl ?_
          refine xq_iconst dX10_tried_56 ic4 ?_
          refine xq_icmp_neN dX10_tried_57 rfl (by omega) (by omega) ⟨fun h57 => ?_, fun h57 => ?_⟩
          · skip
            have hut : triU u l = u := if_neg h57
            have o67 : Off (fun q => (72 ≤ q ∧ q < 77) ∨ (16 ≤ q ∧ q ≤ 23) ∨ q = 66) H H52 := o52.mo (fun q h => by omega)
            have hu67 : StP H52 72 (triU u l) := by rw [hut]; exact hu52
            have ok67 : StOk (triU u l) := by rw [hut]; exact ok
            have hd67 : uHd (triU u l) = uHd u ∧ uLi (triU u l) = uLi u ∧ uHr (triU u l) = uHr u := by rw [hut]; exact ⟨rfl, rfl, rfl⟩
            have hT67 := hT52; have hm67 := hm52
            refine xq_aload_n dX10_tried_67 rfl rfl ?_
            refine xq_getF clX10 (by decide) rfl fl_RX10_60 dX10_tried_68 (Fx.s0 hF) (Fx.r0_8 hF) ?_
            refine xq_aload_n dX10_tried_71 rfl rfl ?_
            refine xq_getR clX10 (by decide) rfl fl_RX10_48 dX10_tried_72 (Fx.s0 hF) ((o67.R (by omega) 6).trans hr.sc) ?_
            refine xq_iconst dX10_tried_75 ic0 ?_
            refine xq_iload_n dX10_tried_76 rfl rfl ?_
            refine xq_iload_n dX10_tried_77 rfl rfl ?_
            refine xq_callV4N clX0 gd_X0_set dX10_tried_78 ml_RX10_230 im_X0_set se_X0_set rfl (Fx.s66 hF) (by exact Nat.le_of_ble_eq_true rfl) (by decide) (c_setF (ow := (l : Int)) (mu := (i : Int)) hF) ?_
            intro H78 p78
            have hu78 := hu67.off p78.2 (fun j hj => by omega); have hT78 := hT67.off p78.2 (fun j hj => by omega); have hm78 := hm67.off p78.2 (by omega) (by omega); have o78 : Off (fun q => (72 ≤ q ∧ q < 77) ∨ (16 ≤ q ∧ q ≤ 23) ∨ q = 66) H H78 := o67.tr (p78.2.mo (fun q h => by omega))
            refine xq_aload_n dX10_tried_81 rfl rfl ?_
            refine xq_getF clX10 (by decide) rfl fl_RX10_60 dX10_tried_82 (Fx.s0 hF) (Fx.r0_8 hF) ?_
            refine xq_aload_n dX10_tried_85 rfl rfl ?_
            refine xq_getF clX10 (by decide) rfl fl_RX10_71 dX10_tried_86 (Fx.s0 hF) (Fx.r0_10 hF) ?_
            refine xq_iload_n dX10_tried_89 rfl rfl ?_
            refine xq_callV2N clX0 gd_X0_pass dX10_tried_90 ml_RX10_263 im_X0_pass se_X0_pass rfl (Fx.s66 hF) (by exact Nat.le_of_ble_eq_true rfl) (by decide) (c_pass hF g72 h72 hu78 ok67 ht ht24 ht45 hT78 tk p78.1 (by omega) (by omega) hm78 (by omega) hn (by omega) (by omega)) ?_
            intro H90 p90
            obtain ⟨q1, q2, t3, b1, b2⟩ := p90
            refine xq_aload_n dX10_tried_93 rfl rfl ?_
            refine xq_getF clX10 (by decide) rfl fl_RX10_71 dX10_tried_94 (Fx.s0 hF) (Fx.r0_10 hF) ?_
            refine xq_getIE clX7 (by decide) rfl fl_RX10_167 dX10_tried_97 (St.s0 (Fx.g72 hF)) q1.sz ?_
            refine xq_iret dX10_tried_100 rfl ?_
            exact ⟨_, H90, ⟨rfl, o78.tr (q2.mo (fun q h => by omega)), t3, by have := sT_le (h := uHr (triU u l)) tk n; omega, b2⟩, rfl⟩
          · skip
            refine xq_aload_n dX10_tried_60 rfl rfl ?_
            refine xq_getF clX10 (by decide) rfl fl_RX10_71 dX10_tried_61 (Fx.s0 hF) (Fx.r0_10 hF) ?_
            refine xq_callV0N clX7 gd_X7_seeAll dX10_tried_64 ml_RX10_306 im_X7_seeAll se_X7_seeAll rfl (St.s0 (Fx.g72 hF)) (by exact Nat.le_of_ble_eq_true rfl) (by decide) (c_seeAll g72 hu52 ok) ?_
            intro H64 p64
            have hut : triU u l = uAll u (uNp u) := if_pos h57
            have o67 : Off (fun q => (72 ≤ q ∧ q < 77) ∨ (16 ≤ q ∧ q ≤ 23) ∨ q = 66) H H64 := (o52.mo (fun q h => by omega)).tr (p64.2.mo (fun q h => by omega))
            have hu67 : StP H64 72 (triU u l) := by rw [hut]; exact p64.1
            have ok67 : StOk (triU u l) := by rw [hut]; exact uAll_ok ok _ hnp
            have hd67 : uHd (triU u l) = uHd u ∧ uLi (triU u l) = uLi u ∧ uHr (triU u l) = uHr u := by rw [hut]; exact uAll_f u _
            have hT67 := hT52.off p64.2 (fun j hj => by omega); have hm67 := hm52.off p64.2 (by omega) (by omega)
            refine xq_aload_n dX10_tried_67 rfl rfl ?_
            refine xq_getF clX10 (by decide) rfl fl_RX10_60 dX10_tried_68 (Fx.s0 hF) (Fx.r0_8 hF) ?_
            refine xq_aload_n dX10_tried_71 rfl rfl ?_
            refine xq_getR clX10 (by decide) rfl fl_RX10_48 dX10_tried_72 (Fx.s0 hF) ((o67.R (by omega) 6).trans hr.sc) ?_
            refine xq_iconst dX10_tried_75 ic0 ?_
            refine xq_iload_n dX10_tried_76 rfl rfl ?_
            refine xq_iload_n dX10_tried_77 rfl rfl ?_
            refine xq_callV4N clX0 gd_X0_set dX10_tried_78 ml_RX10_230 im_X0_set se_X0_set rfl (Fx.s66 hF) (by exact Nat.le_of_ble_eq_true rfl) (by decide) (c_setF (ow := (l : Int)) (mu := (i : Int)) hF) ?_
            intro H78 p78
            have hu78 := hu67.off p78.2 (fun j hj => by omega); have hT78 := hT67.off p78.2 (fun j hj => by omega); have hm78 := hm67.off p78.2 (by omega) (by omega); have o78 : Off (fun q => (72 ≤ q ∧ q < 77) ∨ (16 ≤ q ∧ q ≤ 23) ∨ q = 66) H H78 := o67.tr (p78.2.mo (fun q h => by omega))
            refine xq_aload_n dX10_tried_81 rfl rfl ?_
            refine xq_getF clX10 (by decide) rfl fl_RX10_60 dX10_tried_82 (Fx.s0 hF) (Fx.r0_8 hF) ?_
            refine xq_aload_n dX10_tried_85 rfl rfl ?_
            refine xq_getF clX10 (by decide) rfl fl_RX10_71 dX10_tried_86 (Fx.s0 hF) (Fx.r0_10 hF) ?_
            refine xq_iload_n dX10_tried_89 rfl rfl ?_
            refine xq_callV2N clX0 gd_X0_pass dX10_tried_90 ml_RX10_263 im_X0_pass se_X0_pass rfl (Fx.s66 hF) (by exact Nat.le_of_ble_eq_true rfl) (by decide) (c_pass hF g72 h72 hu78 ok67 ht ht24 ht45 hT78 tk p78.1 (by omega) (by omega) hm78 (by omega) hn (by omega) (by omega)) ?_
            intro H90 p90
            obtain ⟨q1, q2, t3, b1, b2⟩ := p90
            refine xq_aload_n dX10_tried_93 rfl rfl ?_
            refine xq_getF clX10 (by decide) rfl fl_RX10_71 dX10_tried_94 (Fx.s0 hF) (Fx.r0_10 hF) ?_
            refine xq_getIE clX7 (by decide) rfl fl_RX10_167 dX10_tried_97 (St.s0 (Fx.g72 hF)) q1.sz ?_
            refine xq_iret dX10_tried_100 rfl ?_
            exact ⟨_, H90, ⟨rfl, o78.tr (q2.mo (fun q h => by omega)), t3, by have := sT_le (h := uHr (triU u l)) tk n; omega, b2⟩, rfl⟩
        · skip
          exact absurd hp h39
      · skip
        exact absurd h24 (by omega)
    · skip
      exact absurd h17 (by omega)
noncomputable def wst (T : uTx) (u : uSt) : Nat → uSt
  | 0 => u
  | k + 1 => pas T false (-1) (-1) (wst T u k) 1
noncomputable def wkV (T : uTx) (u : uSt) (p : Nat) : Int := if fnd (fun k => kn (wst T u k) p p) 200 < 200 then (fnd (fun k => kn (wst T u k) p p) 200 : Int) else -2
theorem wst_ok (ok : StOk u) (tk : TxOk T) : ∀ k, uHd u + 12 * k ≤ 100000000 → uLi u + 12 * k ≤ 100000000 → uHr u + k ≤ 10000 → Grp u (wst T u k) (12 * k) ∧ uHr (wst T u k) = uHr u + k
  | 0, _, _, _ => ⟨⟨ok, rfl, Nat.le_refl _, Nat.le_refl _⟩, rfl⟩
  | k + 1, h1, h2, h3 => by
    have g := wst_ok ok tk k (by omega) (by omega) (by omega)
    have g1 := g.1.2.2.1; have g2 := g.1.2.2.2
    have q := pas_ok (T := T) (dr := false) (ow := -1) (mu := -1) (n := 1) g.1.1 tk (by omega) (by omega) (by omega) (by omega)
    have q1 := q.1.2.2.1; have q2 := q.1.2.2.2
    exact ⟨⟨q.1.1, q.1.2.1.trans g.1.2.1, by show uHd (pas T false (-1) (-1) (wst T u k) 1) ≤ _; omega, by show uLi (pas T false (-1) (-1) (wst T u k) 1) ≤ _; omega⟩, by show uHr (pas T false (-1) (-1) (wst T u k) 1) = _; omega⟩
theorem kn_hr (v : uSt) (x p : Nat) : kn (uSetF v 10 x) p p = kn v p p := rfl
theorem wst_stop (h : 99 < uHr (wst T u k)) : ∀ d, uHr (wst T u (k + d)) = uHr (wst T u k) + d ∧ kn (wst T u (k + d)) p p = kn (wst T u k) p p
  | 0 => ⟨rfl, rfl⟩
  | d + 1 => by
    have g := wst_stop h d
    have e : wst T u (k + (d + 1)) = uSetF (wst T u (k + d)) 10 (uHr (wst T u (k + d)) + 1) := by
      show pas T false (-1) (-1) (wst T u (k + d)) 1 = _
      unfold pas
      have : pLo T false (-1) (-1) (wst T u (k + d)) 1 = wst T u (k + d) := by
        show (if uHr (wst T u (k + d)) ≤ 99 then _ else wst T u (k + d)) = _
        rw [if_neg (by omega)]
      rw [this]
    rw [e, kn_hr]
    exact ⟨by show uHr (wst T u (k + d)) + 1 = _; omega, g.2⟩
theorem c_willKnow0 (hr : RdP S H t T u z) (hno : hasB w (tNp T) = false) : Pv mX10_willKnow 7 [.ref 0, .int w] S H (vZ (-1)) := by
  have hF := hr.fx
  refine vq_ev (vq_intro (by decide) (by exact Nat.le_of_ble_eq_true rfl) rfl ?_)
  refine xq_aload_n dX10_willKnow_0 rfl rfl ?_
  refine xq_iload_n dX10_willKnow_1 rfl rfl ?_
  refine xq_callV1P clX10 gd_X10_isPerson dX10_willKnow_2 ml_RX10_134 im_X10_isPerson se_X10_isPerson rfl (Fx.s0 hF) (by exact Nat.le_of_ble_eq_true rfl) (by decide) (c_isPerson hr) ?_
  refine xq_if_neB dX10_willKnow_5 rfl ⟨fun h5 => ?_, fun h5 => ?_⟩
  · skip
    rw [hno] at h5; cases h5
  · skip
    refine xq_iconst dX10_willKnow_8 icm1 ?_
    refine xq_iret dX10_willKnow_9 rfl ?_
    show _ = _; rw [zm1]
theorem c_willKnow1 (hr : RdP S H t T u z) (hp : p < tNp T) : Hv mX10_willKnow 7 [.ref 0, vN p] S H vZ (fun (x : Int) H' => x = wkV T u p ∧ Off (fun q => (72 ≤ q ∧ q < 77) ∨ (16 ≤ q ∧ q ≤ 23) ∨ q = 66) H H' ∧ ∃ t2, t2 ≤ z + 5640 ∧ MiP H' t2) := by
  have hF := hr.fx; have hT := hr.tx; have tk := hr.tk; have hu := hr.st; have ok := hr.ok; have hm := hr.mi; have ht := hr.gt; have ht24 := hr.t24; have ht45 := hr.t45; have hz := ok.n; have hnp := ok.np; have hrl := ok.rl; have hnpe := hr.np; have h67 : 67 ≤ 67 := Nat.le_refl _; have ha := Fx.g67 hF; have hzz := hr.zb; have hhr := ok.hr; have hhd := hr.hd; have hli := hr.li; have g72 := Fx.g72 hF; have h72 : 67 ≤ 72 := (by decide); have h98 := hr.h9
  have lp : ∀ (fz : Nat) (k : Nat) (H1 : xH), 200 - k < fz → k ≤ 200 → StP H1 72 (wst T u k) → Off (fun q => (72 ≤ q ∧ q < 77) ∨ (16 ≤ q ∧ q ≤ 23) ∨ q = 66) H H1 → CoP H1 t false (-1) (-1) → (∃ t2, t2 ≤ z + sT T (uHr u) k ∧ MiP H1 t2) → (∀ j, j < k → kn (wst T u j) p p = false) → Xq mX10_willKnow 7 0 0 37 [some (.ref 0), some (vN p), some (vN k)] [] S H1 (fun R => ∃ x H', (fun (x : Int) H' => x = wkV T u p ∧ Off (fun q => (72 ≤ q ∧ q < 77) ∨ (16 ≤ q ∧ q ≤ 23) ∨ q = 66) H H' ∧ ∃ t2, t2 ≤ z + 5640 ∧ MiP H' t2) x H' ∧ R = (some (vZ x), S, H')) := by
    intro fz
    induction fz with
    | zero => intro k  H1  hfz; exact absurd hfz (by omega)
    | succ fz ih =>
      intro k  H1  hfz hk hu1 ho hc1 hm1 hno
      obtain ⟨t2, a1, a2⟩ := id hm1
      have g := wst_ok (T := T) ok tk k (by omega) (by omega) (by omega)
      have okw := g.1.1; have gn := g.1.2.1; have ghd := g.1.2.2.1; have gli := g.1.2.2.2; have ghr := g.2; have hst := sT_le (h := uHr u) tk k
      refine xq_iload_n dX10_willKnow_37 rfl rfl ?_
      refine xq_sipush dX10_willKnow_38 sp200 ?_
      refine xq_icmp_geN dX10_willKnow_41 rfl (by omega) (by omega) ⟨fun h41 => ?_, fun h41 => ?_⟩
      · skip
        refine xq_bipush dX10_willKnow_91 bpm2 ?_
        refine xq_iret dX10_willKnow_93 rfl ?_
        exact ⟨wkV T u p, H1, ⟨rfl, ho, t2, by have := sT_le (h := uHr u) tk k; omega, a2⟩, by unfold wkV; rw [fnd_no (fun j hj => hno j (by omega)), if_neg (by omega), zm2]⟩
      · skip
        refine xq_aload_n dX10_willKnow_44 rfl rfl ?_
        refine xq_getF clX10 (by decide) rfl fl_RX10_71 dX10_willKnow_45 (Fx.s0 hF) (Fx.r0_10 hF) ?_
        refine xq_iload_n dX10_willKnow_48 rfl rfl ?_
        refine xq_iload_n dX10_willKnow_49 rfl rfl ?_
        refine xq_callV2P clX7 gd_X7_knows dX10_willKnow_50 ml_RX10_163 im_X7_knows se_X7_knows rfl (St.s0 (Fx.g72 hF)) (by exact Nat.le_of_ble_eq_true rfl) (by decide) (c_knows g72 hu1 okw (by omega) (by omega)) ?_
        refine xq_if_eqB dX10_willKnow_53 rfl ⟨fun h53 => ?_, fun h53 => ?_⟩
        · skip
          refine xq_aload_n dX10_willKnow_58 rfl rfl ?_
          refine xq_getF clX10 (by decide) rfl fl_RX10_71 dX10_willKnow_59 (Fx.s0 hF) (Fx.r0_10 hF) ?_
          refine xq_getIE clX7 (by decide) rfl fl_RX10_260 dX10_willKnow_62 (St.s0 (Fx.g72 hF)) hu1.f10 ?_
          refine xq_bipush dX10_willKnow_65 bp99 ?_
          refine xq_icmp_leN dX10_willKnow_67 rfl (by omega) (by omega) ⟨fun h67 => ?_, fun h67 => ?_⟩
          · skip
            refine xq_aload_n dX10_willKnow_73 rfl rfl ?_
            refine xq_getF clX10 (by decide) rfl fl_RX10_60 dX10_willKnow_74 (Fx.s0 hF) (Fx.r0_8 hF) ?_
            refine xq_aload_n dX10_willKnow_77 rfl rfl ?_
            refine xq_getF clX10 (by decide) rfl fl_RX10_71 dX10_willKnow_78 (Fx.s0 hF) (Fx.r0_10 hF) ?_
            refine xq_iconst dX10_willKnow_81 ic1 ?_
            refine xq_callV2N clX0 gd_X0_pass dX10_willKnow_82 ml_RX10_263 im_X0_pass se_X0_pass rfl (Fx.s66 hF) (by exact Nat.le_of_ble_eq_true rfl) (by decide) (c_pass (n := 1) hF g72 h72 hu1 okw ht ht24 ht45 (hT.off ho (fun j hj => by omega)) tk hc1 (by omega) (by omega) a2 (by omega) (by omega) (by omega) (by omega)) ?_
            intro H82 p82
            obtain ⟨q1, q2, t3, b1, b2⟩ := p82
            refine xq_iincN dX10_willKnow_85 ic1 rfl rfl ?_
            refine xq_goto dX10_willKnow_88 rfl ?_
            exact ih (k + 1) H82 (by omega) (by omega) q1 (ho.tr (q2.mo (fun q h => by omega))) (hc1.off q2 (by omega)) ⟨t3, by rw [sT_add T (uHr u) k 1]; rw [ghr] at b1; omega, b2⟩ (fun j hj => by
              by_cases e : j = k
              · rw [e]; exact h53
              · exact hno j (by omega))
          · skip
            refine xq_bipush dX10_willKnow_70 bpm2 ?_
            refine xq_iret dX10_willKnow_72 rfl ?_
            exact ⟨wkV T u p, H1, ⟨rfl, ho, t2, by have := sT_le (h := uHr u) tk k; omega, a2⟩, by unfold wkV; rw [fnd_no (f := fun k => kn (wst T u k) p p) (fun j hj => by
              by_cases e : j < k
              · exact hno j e
              · have := (wst_stop (p := p) h67 (j - k)).2; rw [show k + (j - k) = j by omega] at this; rw [this]; exact h53), if_neg (by omega), zm2]⟩
        · skip
          refine xq_iload_n dX10_willKnow_56 rfl rfl ?_
          refine xq_iret dX10_willKnow_57 rfl ?_
          exact ⟨wkV T u p, H1, ⟨rfl, ho, t2, by have := sT_le (h := uHr u) tk k; omega, a2⟩, by unfold wkV; rw [fnd_at (f := fun k => kn (wst T u k) p p) hno h53 (by omega), if_pos (by omega)]; rfl⟩
  refine vq_intro (by decide) (by exact Nat.le_of_ble_eq_true rfl) rfl ?_
  refine xq_aload_n dX10_willKnow_0 rfl rfl ?_
  refine xq_iload_n dX10_willKnow_1 rfl rfl ?_
  refine xq_callV1P clX10 gd_X10_isPerson dX10_willKnow_2 ml_RX10_134 im_X10_isPerson se_X10_isPerson rfl (Fx.s0 hF) (by exact Nat.le_of_ble_eq_true rfl) (by decide) (c_isPerson1 hr hp) ?_
  refine xq_if_neN dX10_willKnow_5 rfl (by omega) ⟨fun h5 => ?_, fun h5 => ?_⟩
  · skip
    refine xq_aload_n dX10_willKnow_10 rfl rfl ?_
    refine xq_getF clX10 (by decide) rfl fl_RX10_71 dX10_willKnow_11 (Fx.s0 hF) (Fx.r0_10 hF) ?_
    refine xq_aload_n dX10_willKnow_14 rfl rfl ?_
    refine xq_getF clX10 (by decide) rfl fl_RX10_67 dX10_willKnow_15 (Fx.s0 hF) (Fx.r0_9 hF) ?_
    refine xq_callV1N clX7 gd_X7_copy dX10_willKnow_18 ml_RX10_226 im_X7_copy se_X7_copy rfl (St.s0 (Fx.g72 hF)) (by exact Nat.le_of_ble_eq_true rfl) (by decide) (c_copy (Fx.g72 hF) ha (by omega) hu ok) ?_
    intro H18 p18
    have hu18 := p18.1; have o18 := p18.2; have hT18 := hT.off o18 (fun j hj => by omega); have hm18 := hm.off o18 (by omega) (by omega); have s18 := (o18.R (by omega) 6).trans hr.sc; have un18 := hu.off o18 (fun j hj => by omega)
    refine xq_aload_n dX10_willKnow_21 rfl rfl ?_
    refine xq_getF clX10 (by decide) rfl fl_RX10_60 dX10_willKnow_22 (Fx.s0 hF) (Fx.r0_8 hF) ?_
    refine xq_aload_n dX10_willKnow_25 rfl rfl ?_
    refine xq_getR clX10 (by decide) rfl fl_RX10_48 dX10_willKnow_26 (Fx.s0 hF) s18 ?_
    refine xq_iconst dX10_willKnow_29 ic0 ?_
    refine xq_iconst dX10_willKnow_30 icm1 ?_
    refine xq_iconst dX10_willKnow_31 icm1 ?_
    rw [zm1]
    refine xq_callV4N clX0 gd_X0_set dX10_willKnow_32 ml_RX10_230 im_X0_set se_X0_set rfl (Fx.s66 hF) (by exact Nat.le_of_ble_eq_true rfl) (by decide) (c_setF hF) ?_
    intro H32 p32
    have hu32 := hu18.off p32.2 (fun j hj => by omega); have hT32 := hT18.off p32.2 (fun j hj => by omega); have hm32 := hm18.off p32.2 (by omega) (by omega); have o32 : Off (fun q => (72 ≤ q ∧ q < 77) ∨ (16 ≤ q ∧ q ≤ 23) ∨ q = 66) H H32 := (o18.mo (fun q h => by omega)).tr (p32.2.mo (fun q h => by omega)); have un32 := hu.off o32 (fun j hj => by omega)
    refine xq_iconst dX10_willKnow_35 ic0 ?_
    refine xq_istore_n dX10_willKnow_36 rfl rfl ?_
    exact lp 201 0 H32 (by omega) (by omega) hu32 o32 p32.1 ⟨z, Nat.le_refl _, hm32⟩ (fun j hj => absurd hj (by omega))
  · skip
    first | exact absurd h5 (by decide) | exact absurd rfl h5
end AH
