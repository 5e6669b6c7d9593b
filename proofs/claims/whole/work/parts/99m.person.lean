/-! ===== HatRoom: person, a person who is one ===== -/
section PE9
variable {S : xS} {H H1 : xH} {t z k p q f i j l m : Nat} {u : uSt} {T : uTx} {w w2 w3 : Int32}
theorem c_person1 (hr : RdP S H t T u z) (hp : p < tNp T) (hl : l < 6) : Pv mX10_person 7 [.ref 0, vN p, vN l] S H (vN (perV T u p l)) := by
  have hF := hr.fx; have hT := hr.tx; have tk := hr.tk; have hu := hr.st; have ok := hr.ok; have hm := hr.mi; have ht := hr.gt; have ht24 := hr.t24; have ht45 := hr.t45; have hz := ok.n; have hnp := ok.np; have hrl := ok.rl; have hnpe := hr.np; have h67 : 67 ≤ 67 := Nat.le_refl _; have ha := Fx.g67 hF; have hzz := hr.zb; have htp := tk.np; have hsd := ok.sd; have hsh := shr_le (uSd u) p
  refine vq_ev (vq_intro (by decide) (by exact Nat.le_of_ble_eq_true rfl) rfl ?_)
  refine xq_aload_n dX10_person_0 rfl rfl ?_
  refine xq_iload_n dX10_person_1 rfl rfl ?_
  refine xq_callV1P clX10 gd_X10_isPerson dX10_person_2 ml_RX10_134 im_X10_isPerson se_X10_isPerson rfl (Fx.s0 hF) (by exact Nat.le_of_ble_eq_true rfl) (by decide) (c_isPerson1 hr hp) ?_
  refine xq_if_neN dX10_person_5 rfl (by omega) ⟨fun h5 => ?_, fun h5 => ?_⟩
  · skip
    refine xq_iload_n dX10_person_16 rfl rfl ?_
    by_cases hs17 : 0 ≤ l ∧ l ≤ 5
    · skip
      have hq17 : l = 0 ∨ l = 1 ∨ l = 2 ∨ l = 3 ∨ l = 4 ∨ l = 5 := by omega
      rcases hq17 with rfl | rfl | rfl | rfl | rfl | rfl
      · skip
        refine xq_tableIn dX10_person_17 (by decide) (by decide) rfl rfl ?_
        refine xq_aload_n dX10_person_56 rfl rfl ?_
        refine xq_getR clX10 (by decide) rfl fl_RX10_48 dX10_person_57 (Fx.s0 hF) hr.sc ?_
        refine xq_getF clX8 (by decide) rfl fl_RX10_140 dX10_person_60 (Tx.s0 ht) (Tx.r5 ht) ?_
        refine xq_iload_n dX10_person_63 rfl rfl ?_
        refine xq_ialdN dX10_person_64 (Tx.s12 ht) (by omega) (by decide) ((hT.pe p hp).2) ?_
        refine xq_iret dX10_person_65 rfl ?_
        rfl
      · skip
        refine xq_tableIn dX10_person_17 (by decide) (by decide) rfl rfl ?_
        refine xq_aload_n dX10_person_66 rfl rfl ?_
        refine xq_getF clX10 (by decide) rfl fl_RX10_67 dX10_person_67 (Fx.s0 hF) (Fx.r0_9 hF) ?_
        refine xq_getF clX7 (by decide) rfl fl_RX10_144 dX10_person_70 (St.s0 (Fx.g67 hF)) (St.r1 (Fx.g67 hF)) ?_
        refine xq_iload_n dX10_person_73 rfl rfl ?_
        refine xq_ialdN dX10_person_74 (St.s2 (Fx.g67 hF)) (by omega) (by decide) (hu.se (by omega)) ?_
        refine xq_iret dX10_person_75 rfl ?_
        rfl
      · skip
        refine xq_tableIn dX10_person_17 (by decide) (by decide) rfl rfl ?_
        refine xq_aload_n dX10_person_76 rfl rfl ?_
        refine xq_getF clX10 (by decide) rfl fl_RX10_67 dX10_person_77 (Fx.s0 hF) (Fx.r0_9 hF) ?_
        refine xq_getIE clX7 (by decide) rfl fl_RX10_147 dX10_person_80 (St.s0 (Fx.g67 hF)) hu.f7 ?_
        refine xq_iload_n dX10_person_83 rfl rfl ?_
        refine xq_ishrN dX10_person_84 (by omega) (by omega) ?_
        refine xq_iconst dX10_person_85 ic1 ?_
        refine xq_iandN dX10_person_86 ?_
        refine xq_iret dX10_person_87 rfl ?_
        rfl
      · skip
        refine xq_tableIn dX10_person_17 (by decide) (by decide) rfl rfl ?_
        refine xq_aload_n dX10_person_88 rfl rfl ?_
        refine xq_getF clX10 (by decide) rfl fl_RX10_67 dX10_person_89 (Fx.s0 hF) (Fx.r0_9 hF) ?_
        refine xq_getF clX7 (by decide) rfl fl_RX10_150 dX10_person_92 (St.s0 (Fx.g67 hF)) (St.r3 (Fx.g67 hF)) ?_
        refine xq_iload_n dX10_person_95 rfl rfl ?_
        refine xq_ialdN dX10_person_96 (St.s4 (Fx.g67 hF)) (by omega) (by decide) (hu.pz (by omega)) ?_
        refine xq_iret dX10_person_97 rfl ?_
        rfl
      · skip
        refine xq_tableIn dX10_person_17 (by decide) (by decide) rfl rfl ?_
        refine xq_aload_n dX10_person_98 rfl rfl ?_
        refine xq_getF clX10 (by decide) rfl fl_RX10_67 dX10_person_99 (Fx.s0 hF) (Fx.r0_9 hF) ?_
        refine xq_iload_n dX10_person_102 rfl rfl ?_
        refine xq_iload_n dX10_person_103 rfl rfl ?_
        refine xq_callV2P clX7 gd_X7_coloursFor dX10_person_104 ml_RX10_153 im_X7_coloursFor se_X7_coloursFor rfl (St.s0 (Fx.g67 hF)) (by exact Nat.le_of_ble_eq_true rfl) (by decide) (c_coloursFor ha hu ok (by omega) (by omega)) ?_
        refine xq_iret dX10_person_107 rfl ?_
        rfl
      · skip
        refine xq_tableIn dX10_person_17 (by decide) (by decide) rfl rfl ?_
        refine xq_aload_n dX10_person_108 rfl rfl ?_
        refine xq_getF clX10 (by decide) rfl fl_RX10_67 dX10_person_109 (Fx.s0 hF) (Fx.r0_9 hF) ?_
        refine xq_iload_n dX10_person_112 rfl rfl ?_
        refine xq_callV1P clX7 gd_X7_alikeFor dX10_person_113 ml_RX10_157 im_X7_alikeFor se_X7_alikeFor rfl (St.s0 (Fx.g67 hF)) (by exact Nat.le_of_ble_eq_true rfl) (by decide) (c_alikeFor ha hu ok (by omega)) ?_
        refine xq_iret dX10_person_116 rfl ?_
        rfl
    · skip
      exact absurd ⟨Nat.zero_le _, by omega⟩ hs17
  · skip
    first | exact absurd h5 (by decide) | exact absurd rfl h5
end PE9
