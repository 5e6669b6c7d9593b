/-! ===== the reference: whether a word's lines are full ===== -/
section MLi
variable {S : xS} {H H1 : xH} {T : uTx} {N : Nat → Nat → Nat} {w : Nat}
def fulB (T : uTx) (w : Nat) : Bool := decide ((w = 0 ∧ tNc T = 3) ∨ (w = 1 ∧ tNp T = 6) ∨ (w = 3 ∧ tNf T = 8) ∨ (w = 4 ∧ tNt T = 12) ∨ (w = 5 ∧ tNa T = 12))
theorem m_isFull (hF : gFx S) (hu : MxU H T N) (hs : SzOk T) (hw : w < 9) : Pv mX11_isFull 1 [.ref 83, vN w] S H (vB (fulB T w)) := by
  obtain ⟨s1, s2, s3, s4, s5, s6⟩ := hs
  refine vq_ev (vq_intro (by decide) (by exact Nat.le_of_ble_eq_true rfl) rfl ?_)
  refine xq_iload_n dX11_isFull_0 rfl rfl ?_
  by_cases hs1 : 0 ≤ w ∧ w ≤ 5
  · skip
    have hq1 : w = 0 ∨ w = 1 ∨ w = 2 ∨ w = 3 ∨ w = 4 ∨ w = 5 := by omega
    rcases hq1 with e1 | e1 | e1 | e1 | e1 | e1 <;> rw [e1]
    · skip
      refine xq_tableIn dX11_isFull_1 (by decide) (by decide) rfl rfl ?_
      refine xq_aload_n dX11_isFull_40 rfl rfl ?_
      refine xq_iconst dX11_isFull_41 ic0 ?_
      refine xq_callV1P clX11 gd_X11_fresher dX11_isFull_42 ml_RX11_198 im_X11_fresher se_X11_fresher rfl (Fx.s83 hF) (by exact Nat.le_of_ble_eq_true rfl) (by decide) (m_fresher (w := 0) hF (hu.nc) (by decide)) ?_
      refine xq_iconst dX11_isFull_45 ic3 ?_
      refine xq_icmp_neN dX11_isFull_46 rfl (by omega) (by omega) ⟨fun h46 => ?_, fun h46 => ?_⟩
      · skip
        refine xq_iconst dX11_isFull_53 ic0 ?_
        refine xq_zret dX11_isFull_54 rfl (by decide) ?_
        show _ = _
        rw [show fulB T _ = false from decide_eq_false (by omega)]; rfl
      · skip
        refine xq_iconst dX11_isFull_49 ic1 ?_
        refine xq_goto dX11_isFull_50 rfl ?_
        refine xq_zret dX11_isFull_54 rfl (by decide) ?_
        show _ = _
        rw [show fulB T _ = true from decide_eq_true (by omega)]; rfl
    · skip
      refine xq_tableIn dX11_isFull_1 (by decide) (by decide) rfl rfl ?_
      refine xq_aload_n dX11_isFull_55 rfl rfl ?_
      refine xq_iconst dX11_isFull_56 ic1 ?_
      refine xq_callV1P clX11 gd_X11_fresher dX11_isFull_57 ml_RX11_198 im_X11_fresher se_X11_fresher rfl (Fx.s83 hF) (by exact Nat.le_of_ble_eq_true rfl) (by decide) (m_fresher (w := 1) hF (hu.np) (by decide)) ?_
      refine xq_bipush dX11_isFull_60 bp6 ?_
      refine xq_icmp_neN dX11_isFull_62 rfl (by omega) (by omega) ⟨fun h62 => ?_, fun h62 => ?_⟩
      · skip
        refine xq_iconst dX11_isFull_69 ic0 ?_
        refine xq_zret dX11_isFull_70 rfl (by decide) ?_
        show _ = _
        rw [show fulB T _ = false from decide_eq_false (by omega)]; rfl
      · skip
        refine xq_iconst dX11_isFull_65 ic1 ?_
        refine xq_goto dX11_isFull_66 rfl ?_
        refine xq_zret dX11_isFull_70 rfl (by decide) ?_
        show _ = _
        rw [show fulB T _ = true from decide_eq_true (by omega)]; rfl
    · skip
      refine xq_tableIn dX11_isFull_1 (by decide) (by decide) rfl rfl ?_
      refine xq_iconst dX11_isFull_119 ic0 ?_
      refine xq_zret dX11_isFull_120 rfl (by decide) ?_
      show _ = _
      rw [show fulB T _ = false from decide_eq_false (by omega)]; rfl
    · skip
      refine xq_tableIn dX11_isFull_1 (by decide) (by decide) rfl rfl ?_
      refine xq_aload_n dX11_isFull_71 rfl rfl ?_
      refine xq_iconst dX11_isFull_72 ic2 ?_
      refine xq_callV1P clX11 gd_X11_fresher dX11_isFull_73 ml_RX11_198 im_X11_fresher se_X11_fresher rfl (Fx.s83 hF) (by exact Nat.le_of_ble_eq_true rfl) (by decide) (m_fresher (w := 2) hF (hu.nf) (by decide)) ?_
      refine xq_bipush dX11_isFull_76 bp8 ?_
      refine xq_icmp_neN dX11_isFull_78 rfl (by omega) (by omega) ⟨fun h78 => ?_, fun h78 => ?_⟩
      · skip
        refine xq_iconst dX11_isFull_85 ic0 ?_
        refine xq_zret dX11_isFull_86 rfl (by decide) ?_
        show _ = _
        rw [show fulB T _ = false from decide_eq_false (by omega)]; rfl
      · skip
        refine xq_iconst dX11_isFull_81 ic1 ?_
        refine xq_goto dX11_isFull_82 rfl ?_
        refine xq_zret dX11_isFull_86 rfl (by decide) ?_
        show _ = _
        rw [show fulB T _ = true from decide_eq_true (by omega)]; rfl
    · skip
      refine xq_tableIn dX11_isFull_1 (by decide) (by decide) rfl rfl ?_
      refine xq_aload_n dX11_isFull_87 rfl rfl ?_
      refine xq_iconst dX11_isFull_88 ic3 ?_
      refine xq_callV1P clX11 gd_X11_fresher dX11_isFull_89 ml_RX11_198 im_X11_fresher se_X11_fresher rfl (Fx.s83 hF) (by exact Nat.le_of_ble_eq_true rfl) (by decide) (m_fresher (w := 3) hF (hu.nt) (by decide)) ?_
      refine xq_bipush dX11_isFull_92 bp12 ?_
      refine xq_icmp_neN dX11_isFull_94 rfl (by omega) (by omega) ⟨fun h94 => ?_, fun h94 => ?_⟩
      · skip
        refine xq_iconst dX11_isFull_101 ic0 ?_
        refine xq_zret dX11_isFull_102 rfl (by decide) ?_
        show _ = _
        rw [show fulB T _ = false from decide_eq_false (by omega)]; rfl
      · skip
        refine xq_iconst dX11_isFull_97 ic1 ?_
        refine xq_goto dX11_isFull_98 rfl ?_
        refine xq_zret dX11_isFull_102 rfl (by decide) ?_
        show _ = _
        rw [show fulB T _ = true from decide_eq_true (by omega)]; rfl
    · skip
      refine xq_tableIn dX11_isFull_1 (by decide) (by decide) rfl rfl ?_
      refine xq_aload_n dX11_isFull_103 rfl rfl ?_
      refine xq_iconst dX11_isFull_104 ic4 ?_
      refine xq_callV1P clX11 gd_X11_fresher dX11_isFull_105 ml_RX11_198 im_X11_fresher se_X11_fresher rfl (Fx.s83 hF) (by exact Nat.le_of_ble_eq_true rfl) (by decide) (m_fresher (w := 4) hF (hu.na) (by decide)) ?_
      refine xq_bipush dX11_isFull_108 bp12 ?_
      refine xq_icmp_neN dX11_isFull_110 rfl (by omega) (by omega) ⟨fun h110 => ?_, fun h110 => ?_⟩
      · skip
        refine xq_iconst dX11_isFull_117 ic0 ?_
        refine xq_zret dX11_isFull_118 rfl (by decide) ?_
        show _ = _
        rw [show fulB T _ = false from decide_eq_false (by omega)]; rfl
      · skip
        refine xq_iconst dX11_isFull_113 ic1 ?_
        refine xq_goto dX11_isFull_114 rfl ?_
        refine xq_zret dX11_isFull_118 rfl (by decide) ?_
        show _ = _
        rw [show fulB T _ = true from decide_eq_true (by omega)]; rfl
  · skip
    refine xq_tableOut dX11_isFull_1 (swOut 0 5 hs1 (by omega)) rfl ?_
    refine xq_iconst dX11_isFull_119 ic0 ?_
    refine xq_zret dX11_isFull_120 rfl (by decide) ?_
    show _ = _
    rw [show fulB T _ = false from decide_eq_false (by omega)]; rfl
end MLi
