/-! ===== the reference: it begins ===== -/
section BE
variable {S : xS} {H H1 H2 H3 : xH} {T : uTx} {N : Nat → Nat → Nat} {s a c w p q n i j k x y m l f W : Nat} {g d : Nat → Nat} {A F : Nat → Prop} {b : Bool}
def rlB (T : uTx) (k j : Nat) : Bool := !(ex (fun i => !(dgt T k i == tHt T (tNp T - 1 - i))) j)
theorem rlB_s (k j : Nat) : rlB T k (j + 1) = (rlB T k j && (dgt T k j == tHt T (tNp T - 1 - j))) := by
  unfold rlB
  rw [ex_s, Bool.not_or, Bool.not_not]
theorem rlB_pk (t : TwOk T) (h : HtOk T) (k : Nat) : rlB T k (tNp T) = (pk T k == tTr T) := by
  rw [Bool.eq_iff_iff, pk_tr t h]
  unfold rlB
  rw [Bool.not_eq_true', ← Bool.not_eq_true, ex_iff]
  constructor
  · intro z p hp
    apply Classical.byContradiction
    intro e
    refine z ⟨tNp T - 1 - p, by omega, ?_⟩
    rw [show tNp T - 1 - (tNp T - 1 - p) = p by omega, Bool.not_eq_true', beq_eq_false_iff_ne]
    exact e
  · rintro z ⟨i, hi, e⟩
    have h2 := z (tNp T - 1 - i) (by omega)
    unfold cD at h2
    rw [show tNp T - 1 - (tNp T - 1 - i) = i by omega] at h2
    rw [h2] at e
    simp at e
theorem m_inS (hF : gFx S) (hx : MxP H T N) (t : TwOk T) (h : HtOk T) (hw : w < 729) (hc : ∀ p, p < tNp T → hI H 103 (6 * w + p) = nI (cD T k p) ∧ cD T k p < 4) : Pv mX11_isInStock 1 [.ref 83, vN w] S H (vB (inS T k)) := by
  rw [inS_ct t]; exact m_isInStock hF hx t hw hc h.s6
theorem m_laysWorlds (hF : gFx S) (hx : MxP H T N) (t : TwOk T) (h : HtOk T) : Nv mX11_laysWorlds 2 [.ref 83] S H (fun H' => MwP H' T ∧ MoF (fun q => q = 83 ∨ q = 103) (fun k => k = 36 ∨ k = 37) H H') := by
  have hnp := t.2.1; have hnc := t.1; have h0 := t.2.2; have hwy : wys T ≤ 729 := wys_le hnc hnp
  have l2 : ∀ (fz : Nat) (k : Nat) (H1 : xH), wys T - k < fz → k ≤ wys T → hI H1 83 36 = nI (ct (inS T) k) → hI H1 83 37 = nI (rlS T k) → (∀ w, w < ct (inS T) k → ∀ p, p < tNp T → hI H1 103 (6 * w + p) = nI (cl T w p)) → MoF (fun q => q = 83 ∨ q = 103) (fun k => k = 36 ∨ k = 37) H H1 → Xq mX11_laysWorlds 2 0 0 41 [some (.ref 83), some (vN (wys T)), some (vN k), none, none, none] [] S H1 (fun R => ∃ H', (fun H' => MwP H' T ∧ MoF (fun q => q = 83 ∨ q = 103) (fun k => k = 36 ∨ k = 37) H H') H' ∧ R = (none, S, H')) := by
    intro fz
    induction fz with
    | zero => intro k  H1  hfz; exact absurd hfz (by omega)
    | succ fz ih =>
      intro k  H1  hfz hk hW hT hR ho
      have ih0 := ih
      have hWk := ct_le (inS T) k
      have hx1 := hx.off ho.1 (fun q a b => by omega)
      refine xq_iload_n dX11_laysWorlds_41 rfl rfl ?_
      refine xq_iload_n dX11_laysWorlds_42 rfl rfl ?_
      refine xq_icmp_geN dX11_laysWorlds_43 rfl (by omega) (by omega) ⟨fun h43 => ?_, fun h43 => ?_⟩
      · skip
        refine xq_vret dX11_laysWorlds_182 rfl ?_
        have ek : k = wys T := by omega
        subst ek
        exact ⟨H1, ⟨⟨by rw [hW, nW_ct], hT, fun w hw p hp => hR w (by rw [← nW_ct]; exact hw) p hp⟩, ho⟩, rfl⟩
      · skip
        refine xq_iload_n dX11_laysWorlds_46 rfl rfl ?_
        refine xq_istore_n dX11_laysWorlds_47 rfl rfl ?_
        refine xq_iconst dX11_laysWorlds_48 ic1 ?_
        refine xq_istore dX11_laysWorlds_49 rfl ?_
        refine xq_aload_n dX11_laysWorlds_51 rfl rfl ?_
        refine xq_getF clX11 (by decide) rfl fl_RX11_13 dX11_laysWorlds_52 (Fx.s83 hF) (Fx.r83_3 hF) ?_
        refine xq_iconst dX11_laysWorlds_55 ic1 ?_
        refine xq_ialdN dX11_laysWorlds_56 (Fx.s85 hF) (by omega) (by decide) hx1.np ?_
        refine xq_iconst dX11_laysWorlds_57 ic1 ?_
        refine xq_isub dX11_laysWorlds_58 ?_
        rw [nI_subZ]
        refine xq_istore dX11_laysWorlds_59 rfl ?_
        have hh3 := h.h
        have htc : ∀ p, p < tNp T → tHt T p < 3 := fun p hp => by have := h.h p hp; omega
        have l3 : ∀ (fz : Nat) (j : Nat) (b : Bool) (H2 : xH), tNp T - j < fz → j ≤ tNp T → b = rlB T k j → (∀ p, tNp T - j ≤ p → p < tNp T → hI H2 103 (6 * ct (inS T) k + p) = nI (cD T k p)) → hI H2 83 36 = nI (ct (inS T) k) → hI H2 83 37 = nI (rlS T k) → (∀ w, w < ct (inS T) k → ∀ p, p < tNp T → hI H2 103 (6 * w + p) = nI (cl T w p)) → MoF (fun q => q = 83 ∨ q = 103) (fun k => k = 36 ∨ k = 37) H H2 → Xq mX11_laysWorlds 2 0 0 61 [some (.ref 83), some (vN (wys T)), some (vN k), some (vN (k / tNc T ^ j)), some (vB b), some (.int (zI ((tNp T : Int) - 1 - (j : Nat))))] [] S H2 (fun R => ∃ H', (fun H' => MwP H' T ∧ MoF (fun q => q = 83 ∨ q = 103) (fun k => k = 36 ∨ k = 37) H H') H' ∧ R = (none, S, H')) := by
          intro fz
          induction fz with
          | zero => intro j  b  H2  hfz; exact absurd hfz (by omega)
          | succ fz ih =>
            intro j  b  H2  hfz hj hb hrow hW2 hT2 hR2 ho2
            refine xq_iload dX11_laysWorlds_61 rfl ?_
            refine xq_if_lt dX11_laysWorlds_63 rfl ⟨fun h63 => ?_, fun h63 => ?_⟩
            · skip
              have hjn : j = tNp T := by
                have := (zI_lt0 (by omega) (by omega)).mp h63
                omega
              have hx2 := hx.off ho2.1 (fun q a b => by omega)
              have hrc : ∀ p, p < tNp T → hI H2 103 (6 * ct (inS T) k + p) = nI (cD T k p) ∧ cD T k p < 4 := fun p hp => ⟨hrow p (by omega) hp, by have := dgt_lt (T := T) (by omega) k (tNp T - 1 - p); show dgt T k (tNp T - 1 - p) < 4; omega⟩
              subst hjn
              refine xq_aload_n dX11_laysWorlds_139 rfl rfl ?_
              refine xq_aload_n dX11_laysWorlds_140 rfl rfl ?_
              refine xq_getIE clX11 (by decide) rfl fl_RX11_335 dX11_laysWorlds_141 (Fx.s83 hF) hW2 ?_
              refine xq_callV1P clX11 gd_X11_isInStock dX11_laysWorlds_144 ml_RX11_341 im_X11_isInStock se_X11_isInStock rfl (Fx.s83 hF) (by exact Nat.le_of_ble_eq_true rfl) (by decide) (m_inS hF hx2 t h (by omega) hrc) ?_
              refine xq_if_neB dX11_laysWorlds_147 rfl ⟨fun h147 => ?_, fun h147 => ?_⟩
              · skip
                refine xq_iload dX11_laysWorlds_153 rfl ?_
                refine xq_if_eqB dX11_laysWorlds_155 rfl ⟨fun h155 => ?_, fun h155 => ?_⟩
                · skip
                  refine xq_aload_n dX11_laysWorlds_166 rfl rfl ?_
                  refine xq_dup dX11_laysWorlds_167 rfl ?_
                  refine xq_getIE (v := nI (ct (inS T) k)) clX11 (by decide) rfl fl_RX11_335 dX11_laysWorlds_168 (Fx.s83 hF) (by first | exact hW2 | exact (hI_sI _ _ _ _ _ _).trans ((if_neg (by omega)).trans hW2)) ?_
                  refine xq_iconst dX11_laysWorlds_171 ic1 ?_
                  refine xq_iaddN dX11_laysWorlds_172 ?_
                  refine xq_putI clX11 (by decide) rfl fl_RX11_335 (Or.inl rfl) dX11_laysWorlds_173 ⟨rfl, rfl⟩ (Fx.s83 hF) ?_
                  refine xq_iincN dX11_laysWorlds_176 ic1 rfl rfl ?_
                  refine xq_goto dX11_laysWorlds_179 rfl ?_
                  have hbp : b = (pk T k == tTr T) := hb.trans (rlB_pk t h k)
                  refine xq_fgt (ih0 (k + 1) _ (by omega) (by omega) (by rw [hI_sI, if_pos ⟨rfl, rfl⟩, ct_t h147]) (by rw [hI_sI, if_neg (by omega), rlS_s, h147, ← hbp, h155, if_neg (by decide)]; exact hT2) (fun w hw p hp => ?_) (MoF.pF (A := (fun q => q = 83 ∨ q = 103)) (F := (fun k => k = 36 ∨ k = 37)) ho2 (Or.inl rfl) (Or.inl rfl) _)) (by exact And.intro rfl (And.intro rfl (And.intro rfl (trivial))))
                  rw [ct_t h147] at hw
                  by_cases e : w = ct (inS T) k
                  · subst e
                    rw [hI_sI, if_neg (by omega)]; rw [cl_at t h43 h147 hp]; exact hrow p (by omega) hp
                  · rw [hI_sI, if_neg (by omega)]; exact hR2 w (by omega) p hp
                · skip
                  refine xq_aload_n dX11_laysWorlds_158 rfl rfl ?_
                  refine xq_aload_n dX11_laysWorlds_159 rfl rfl ?_
                  refine xq_getIE clX11 (by decide) rfl fl_RX11_335 dX11_laysWorlds_160 (Fx.s83 hF) hW2 ?_
                  refine xq_putI clX11 (by decide) rfl fl_RX11_338 (Or.inl rfl) dX11_laysWorlds_163 ⟨rfl, rfl⟩ (Fx.s83 hF) ?_
                  refine xq_aload_n dX11_laysWorlds_166 rfl rfl ?_
                  refine xq_dup dX11_laysWorlds_167 rfl ?_
                  refine xq_getIE (v := nI (ct (inS T) k)) clX11 (by decide) rfl fl_RX11_335 dX11_laysWorlds_168 (Fx.s83 hF) (by first | exact hW2 | exact (hI_sI _ _ _ _ _ _).trans ((if_neg (by omega)).trans hW2)) ?_
                  refine xq_iconst dX11_laysWorlds_171 ic1 ?_
                  refine xq_iaddN dX11_laysWorlds_172 ?_
                  refine xq_putI clX11 (by decide) rfl fl_RX11_335 (Or.inl rfl) dX11_laysWorlds_173 ⟨rfl, rfl⟩ (Fx.s83 hF) ?_
                  refine xq_iincN dX11_laysWorlds_176 ic1 rfl rfl ?_
                  refine xq_goto dX11_laysWorlds_179 rfl ?_
                  have hbp : b = (pk T k == tTr T) := hb.trans (rlB_pk t h k)
                  refine xq_fgt (ih0 (k + 1) _ (by omega) (by omega) (by rw [hI_sI, if_pos ⟨rfl, rfl⟩, ct_t h147]) (by rw [hI_sI, if_neg (by omega), hI_sI, if_pos ⟨rfl, rfl⟩, rlS_s, h147, ← hbp, h155]; rfl) (fun w hw p hp => ?_) (MoF.pF (A := (fun q => q = 83 ∨ q = 103)) (F := (fun k => k = 36 ∨ k = 37)) (MoF.pF (A := (fun q => q = 83 ∨ q = 103)) (F := (fun k => k = 36 ∨ k = 37)) ho2 (Or.inl rfl) (Or.inr rfl) _) (Or.inl rfl) (Or.inl rfl) _)) (by exact And.intro rfl (And.intro rfl (And.intro rfl (trivial))))
                  rw [ct_t h147] at hw
                  by_cases e : w = ct (inS T) k
                  · subst e
                    rw [hI_sI, if_neg (by omega)]; rw [hI_sI, if_neg (by omega)]; rw [cl_at t h43 h147 hp]; exact hrow p (by omega) hp
                  · rw [hI_sI, if_neg (by omega)]; rw [hI_sI, if_neg (by omega)]; exact hR2 w (by omega) p hp
              · skip
                refine xq_goto dX11_laysWorlds_150 rfl ?_
                refine xq_iincN dX11_laysWorlds_176 ic1 rfl rfl ?_
                refine xq_goto dX11_laysWorlds_179 rfl ?_
                have hbp : b = (pk T k == tTr T) := hb.trans (rlB_pk t h k)
                exact xq_fgt (ih0 (k + 1) H2 (by omega) (by omega) (by rw [ct_f h147]; exact hW2) (by rw [rlS_s, h147, Bool.false_and, if_neg (by decide)]; exact hT2) (fun w hw p hp => hR2 w (by rw [ct_f h147] at hw; exact hw) p hp) ho2) (by exact And.intro rfl (And.intro rfl (And.intro rfl (trivial))))
            · skip
              have hjn : j < tNp T := by
                have : ¬ ((tNp T : Int) - 1 - (j : Nat) < 0) := fun z => h63 ((zI_lt0 (by omega) (by omega)).mpr z)
                omega
              rw [show zI ((tNp T : Int) - 1 - (j : Nat)) = nI (tNp T - 1 - j) by rw [zI_nat (by omega)]; congr 1; omega]
              have hr : k / tNc T ^ j ≤ k := Nat.div_le_self _ _
              have hd : k / tNc T ^ j % tNc T < tNc T := Nat.mod_lt _ (by omega)
              have hx2 := hx.off ho2.1 (fun q a b => by omega)
              refine xq_aload_n dX11_laysWorlds_66 rfl rfl ?_
              refine xq_getF clX11 (by decide) rfl fl_RX11_72 dX11_laysWorlds_67 (Fx.s83 hF) (Fx.r83_35 hF) ?_
              refine xq_bipush dX11_laysWorlds_70 bp6 ?_
              refine xq_aload_n dX11_laysWorlds_72 rfl rfl ?_
              refine xq_getIE clX11 (by decide) rfl fl_RX11_335 dX11_laysWorlds_73 (Fx.s83 hF) hW2 ?_
              refine xq_imulN dX11_laysWorlds_76 ?_
              refine xq_iload dX11_laysWorlds_77 rfl ?_
              refine xq_iaddN dX11_laysWorlds_79 ?_
              refine xq_iload_n dX11_laysWorlds_80 rfl rfl ?_
              refine xq_aload_n dX11_laysWorlds_81 rfl rfl ?_
              refine xq_getF clX11 (by decide) rfl fl_RX11_13 dX11_laysWorlds_82 (Fx.s83 hF) (Fx.r83_3 hF) ?_
              refine xq_iconst dX11_laysWorlds_85 ic0 ?_
              refine xq_ialdN dX11_laysWorlds_86 (Fx.s85 hF) (by omega) (by decide) hx2.nc ?_
              refine xq_iremN dX11_laysWorlds_87 (by omega) (by omega) (fun e => absurd ((nq_eq0 (by omega)).mp e) (by omega)) ?_
              refine xq_iastN dX11_laysWorlds_88 (Fx.s103 hF) (by omega) (by decide) ?_
              have ho3 := MoF.pI (A := (fun q => q = 83 ∨ q = 103)) ho2 (Or.inr rfl) (by decide) (6 * ct (inS T) k + (tNp T - 1 - j)) (nI (k / tNc T ^ j % tNc T))
              have hx3 := hx.off ho3.1 (fun q a b => by omega)
              refine xq_iload_n dX11_laysWorlds_89 rfl rfl ?_
              refine xq_aload_n dX11_laysWorlds_90 rfl rfl ?_
              refine xq_getF clX11 (by decide) rfl fl_RX11_13 dX11_laysWorlds_91 (Fx.s83 hF) (Fx.r83_3 hF) ?_
              refine xq_iconst dX11_laysWorlds_94 ic0 ?_
              refine xq_ialdN dX11_laysWorlds_95 (Fx.s85 hF) (by omega) (by decide) hx3.nc ?_
              refine xq_idivN dX11_laysWorlds_96 (by omega) (by omega) (fun e => absurd ((nq_eq0 (by omega)).mp e) (by omega)) ?_
              refine xq_istore_n dX11_laysWorlds_97 rfl rfl ?_
              refine xq_iload dX11_laysWorlds_98 rfl ?_
              refine xq_aload_n dX11_laysWorlds_100 rfl rfl ?_
              refine xq_getF clX11 (by decide) rfl fl_RX11_72 dX11_laysWorlds_101 (Fx.s83 hF) (Fx.r83_35 hF) ?_
              refine xq_bipush dX11_laysWorlds_104 bp6 ?_
              refine xq_aload_n dX11_laysWorlds_106 rfl rfl ?_
              refine xq_getIE clX11 (by decide) rfl fl_RX11_335 dX11_laysWorlds_107 (Fx.s83 hF) ((hI_sI _ _ _ _ _ _).trans ((if_neg (by omega)).trans hW2)) ?_
              refine xq_imulN dX11_laysWorlds_110 ?_
              refine xq_iload dX11_laysWorlds_111 rfl ?_
              refine xq_iaddN dX11_laysWorlds_113 ?_
              refine xq_ialdN (v := nI (k / tNc T ^ j % tNc T)) dX11_laysWorlds_114 (Fx.s103 hF) (by omega) (by decide) (by rw [hI_sI, if_pos ⟨rfl, rfl⟩]) ?_
              refine xq_aload_n dX11_laysWorlds_115 rfl rfl ?_
              refine xq_getF clX11 (by decide) rfl fl_RX11_25 dX11_laysWorlds_116 (Fx.s83 hF) (Fx.r83_7 hF) ?_
              refine xq_iload dX11_laysWorlds_119 rfl ?_
              refine xq_ialdN dX11_laysWorlds_121 (Fx.s89 hF) (by omega) (by decide) ((hx3.pe _ (by omega)).2.1) ?_
              have hh4 := htc (tNp T - 1 - j) (by omega)
              refine xq_icmp_neN dX11_laysWorlds_122 rfl (by omega) (by omega) ⟨fun h122 => ?_, fun h122 => ?_⟩
              · skip
                refine xq_iconst dX11_laysWorlds_129 ic0 ?_
                refine xq_iand dX11_laysWorlds_130 ?_
                refine xq_istore dX11_laysWorlds_131 rfl ?_
                rw [show nI (tNp T - 1 - j) = zI ((tNp T : Int) - 1 - (j : Nat)) by rw [zI_nat (by omega)]; congr 1; omega]
                refine xq_iinc dX11_laysWorlds_133 icm1 rfl rfl ?_
                refine xq_goto dX11_laysWorlds_136 rfl ?_
                rw [show zI ((tNp T : Int) - 1 - (j : Nat)) + (-1 : Int32) = zI ((tNp T : Int) - 1 - ((j + 1 : Nat) : Int)) by rw [zI_dec]; congr 1; omega, show bI b &&& nI 0 = bI (b && false) from by cases b <;> rfl, dgt_s]
                refine ih (j + 1) (b && false) _ (by omega) (by omega) (by rw [rlB_s, hb]; congr 1; exact Eq.symm (beq_eq_false_iff_ne.mpr h122)) (fun p h1 h2 => ?_) (by rw [hI_sI, if_neg (by omega)]; exact hW2) (by rw [hI_sI, if_neg (by omega)]; exact hT2) (fun w hw p hp => by rw [hI_sI, if_neg (by omega)]; exact hR2 w hw p hp) (MoF.pI (A := (fun q => q = 83 ∨ q = 103)) ho2 (Or.inr rfl) (by decide) _ _)
                rw [hI_sI]
                by_cases e : p = tNp T - 1 - j
                · rw [if_pos ⟨rfl, by rw [e]⟩]
                  show nI (dgt T k j) = nI (dgt T k (tNp T - 1 - p))
                  rw [show tNp T - 1 - p = j by omega]
                · rw [if_neg (by omega)]; exact hrow p (by omega) h2
              · skip
                refine xq_iconst dX11_laysWorlds_125 ic1 ?_
                refine xq_goto dX11_laysWorlds_126 rfl ?_
                refine xq_iand dX11_laysWorlds_130 ?_
                refine xq_istore dX11_laysWorlds_131 rfl ?_
                rw [show nI (tNp T - 1 - j) = zI ((tNp T : Int) - 1 - (j : Nat)) by rw [zI_nat (by omega)]; congr 1; omega]
                refine xq_iinc dX11_laysWorlds_133 icm1 rfl rfl ?_
                refine xq_goto dX11_laysWorlds_136 rfl ?_
                rw [show zI ((tNp T : Int) - 1 - (j : Nat)) + (-1 : Int32) = zI ((tNp T : Int) - 1 - ((j + 1 : Nat) : Int)) by rw [zI_dec]; congr 1; omega, show bI b &&& nI 1 = bI (b && true) from by cases b <;> rfl, dgt_s]
                refine ih (j + 1) (b && true) _ (by omega) (by omega) (by rw [rlB_s, hb]; congr 1; exact Eq.symm (beq_iff_eq.mpr h122)) (fun p h1 h2 => ?_) (by rw [hI_sI, if_neg (by omega)]; exact hW2) (by rw [hI_sI, if_neg (by omega)]; exact hT2) (fun w hw p hp => by rw [hI_sI, if_neg (by omega)]; exact hR2 w hw p hp) (MoF.pI (A := (fun q => q = 83 ∨ q = 103)) ho2 (Or.inr rfl) (by decide) _ _)
                rw [hI_sI]
                by_cases e : p = tNp T - 1 - j
                · rw [if_pos ⟨rfl, by rw [e]⟩]
                  show nI (dgt T k j) = nI (dgt T k (tNp T - 1 - p))
                  rw [show tNp T - 1 - p = j by omega]
                · rw [if_neg (by omega)]; exact hrow p (by omega) h2
        have z := l3 (tNp T + 1) 0 true H1 (by omega) (by omega) rfl (fun p h1 h2 => absurd h1 (by omega)) hW hT hR ho
        rw [Nat.pow_zero, Nat.div_one, show (tNp T : Int) - 1 - ((0 : Nat) : Int) = (tNp T : Int) - 1 by omega] at z
        exact z
  have l1 : ∀ (fz : Nat) (k : Nat), tNp T - k < fz → k ≤ tNp T → Xq mX11_laysWorlds 2 0 0 14 [some (.ref 83), some (vN (tNc T ^ k)), some (vN k), none, none, none] [] S (sI (sI H 83 36 (nI 0)) 83 37 (nI 0)) (fun R => ∃ H', (fun H' => MwP H' T ∧ MoF (fun q => q = 83 ∨ q = 103) (fun k => k = 36 ∨ k = 37) H H') H' ∧ R = (none, S, H')) := by
    intro fz
    induction fz with
    | zero => intro k  hfz; exact absurd hfz (by omega)
    | succ fz ih =>
      intro k  hfz hk
      refine xq_iload_n dX11_laysWorlds_14 rfl rfl ?_
      refine xq_aload_n dX11_laysWorlds_15 rfl rfl ?_
      refine xq_getF clX11 (by decide) rfl fl_RX11_13 dX11_laysWorlds_16 (Fx.s83 hF) (Fx.r83_3 hF) ?_
      refine xq_iconst dX11_laysWorlds_19 ic1 ?_
      refine xq_ialdN dX11_laysWorlds_20 (Fx.s85 hF) (by omega) (by decide) hx.np ?_
      refine xq_icmp_geN dX11_laysWorlds_21 rfl (by omega) (by omega) ⟨fun h21 => ?_, fun h21 => ?_⟩
      · skip
        refine xq_iconst dX11_laysWorlds_39 ic0 ?_
        refine xq_istore_n dX11_laysWorlds_40 rfl rfl ?_
        have ek : k = tNp T := by omega
        subst ek
        exact l2 (wys T + 1) 0 _ (by omega) (by omega) (by rw [hI_sI, if_neg (by omega), hI_sI, if_pos ⟨rfl, rfl⟩]; rfl) (by rw [hI_sI, if_pos ⟨rfl, rfl⟩]; rfl) (fun w hw => absurd hw (by show ¬ w < 0; omega)) (MoF.pF (A := (fun q => q = 83 ∨ q = 103)) (F := (fun k => k = 36 ∨ k = 37)) (MoF.pF (A := (fun q => q = 83 ∨ q = 103)) (F := (fun k => k = 36 ∨ k = 37)) (H := H) (H2 := H) (k := 36) MoF.rf (Or.inl rfl) (Or.inl rfl) (nI 0)) (Or.inl rfl) (Or.inr rfl) _)
      · skip
        refine xq_iload_n dX11_laysWorlds_24 rfl rfl ?_
        refine xq_aload_n dX11_laysWorlds_25 rfl rfl ?_
        refine xq_getF clX11 (by decide) rfl fl_RX11_13 dX11_laysWorlds_26 (Fx.s83 hF) (Fx.r83_3 hF) ?_
        refine xq_iconst dX11_laysWorlds_29 ic0 ?_
        refine xq_ialdN dX11_laysWorlds_30 (Fx.s85 hF) (by omega) (by decide) hx.nc ?_
        refine xq_imulN dX11_laysWorlds_31 ?_
        refine xq_istore_n dX11_laysWorlds_32 rfl rfl ?_
        refine xq_iincN dX11_laysWorlds_33 ic1 rfl rfl ?_
        refine xq_goto dX11_laysWorlds_36 rfl ?_
        rw [← Nat.pow_succ]
        exact ih (k + 1) (by omega) (by omega)
  refine vq_intro (by decide) (by exact Nat.le_of_ble_eq_true rfl) rfl ?_
  refine xq_aload_n dX11_laysWorlds_0 rfl rfl ?_
  refine xq_iconst dX11_laysWorlds_1 ic0 ?_
  refine xq_putI clX11 (by decide) rfl fl_RX11_335 (Or.inl rfl) dX11_laysWorlds_2 ⟨rfl, rfl⟩ (Fx.s83 hF) ?_
  refine xq_aload_n dX11_laysWorlds_5 rfl rfl ?_
  refine xq_iconst dX11_laysWorlds_6 ic0 ?_
  refine xq_putI clX11 (by decide) rfl fl_RX11_338 (Or.inl rfl) dX11_laysWorlds_7 ⟨rfl, rfl⟩ (Fx.s83 hF) ?_
  refine xq_iconst dX11_laysWorlds_10 ic1 ?_
  refine xq_istore_n dX11_laysWorlds_11 rfl rfl ?_
  refine xq_iconst dX11_laysWorlds_12 ic0 ?_
  refine xq_istore_n dX11_laysWorlds_13 rfl rfl ?_
  exact xq_fgt (l1 (tNp T + 1) 0 (by omega) (by omega)) (by exact And.intro rfl (And.intro rfl (And.intro rfl (trivial))))
end BE
