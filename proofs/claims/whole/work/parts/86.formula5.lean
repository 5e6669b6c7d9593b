/-! ===== Formula: readSign ===== -/
section FE
variable {S : xS} {H H1 H2 H3 : xH} {k p q i j l m n c t v r sz st y : Nat} {s : uTk} {T : uTx} {w : Int64} {ws : List (Nat × Nat)} {hs : List Nat} {o b : Nat} {fc : Bool} {x : fmT}
def sgs (k : Nat) : Nat := if k = 13 then 0 else stg k
def lmS (fc : Bool) : Nat := if fc = true then 2 else 6
def topK : List (Nat × Nat) → Nat
  | [] => 0
  | q :: _ => q.1
def clsX (x : fmT) : fmT := ((fmW x).tail, fmH x, fmO x - 1, fmX x, fmB x, fmN x)
def sigS (s : uTk) (fc : Bool) (n : Nat) (x : fmT) : fmR := if kK s n = 42 ∧ 0 < fmO x then .inr (2, n + 1, clsX (tieF 1 x)) else if sgs (kK s n) = 0 ∨ lmS fc < sgs (kK s n) then .inl (1, n) else if sgs (kK s n) = 4 ∧ stg (topK (fmW (tieF 5 x))) = 4 then .inl (1, n) else if 64 ≤ fmB x then .inl (2, n) else .inr (if sgs (kK s n) ≤ 2 then 0 else 1, n + 1, hldX (kK s n) 0 (begX (tieF (if sgs (kK s n) = 4 then 5 else sgs (kK s n)) x)))
theorem topK_e {l : List (Nat × Nat)} (h : 0 < l.length) : topK l = (lg (0, 0) l (l.length - 1)).1 := by
  cases l with
  | nil => cases h
  | cons a l => exact (congrArg Prod.fst (lg_0 (d := (0, 0)) (x := a) (l := l))).symm
theorem topK_0 {l : List (Nat × Nat)} (h : l.length ≤ 0) : topK l = 0 := by
  cases l with
  | nil => rfl
  | cons a l => cases h
theorem topK_44 {l : List (Nat × Nat)} (h : ∀ q, q ∈ l → q.1 ≤ 44) : topK l ≤ 44 := by
  cases l with
  | nil => exact Nat.zero_le _
  | cons a l => exact h a List.mem_cons_self
theorem tiW_o : ∀ {ws hs T w}, fmO (tiW st o b ws hs T w) = o ∧ fmB (tiW st o b ws hs T w) = b
  | [], _, _, _ => ⟨rfl, rfl⟩
  | (k, p) :: ws, hs, T, w => by
    unfold tiW
    split
    · exact tiW_o
    · exact ⟨rfl, rfl⟩
theorem tieF_o : fmO (tieF st x) = fmO x := tiW_o.1
theorem tieF_b : fmB (tieF st x) = fmB x := tiW_o.2
theorem c_readSign (hF : gFx S) (ht : gTx S t) (ht24 : 24 ≤ t) (ht45 : t ≤ 45) (hs1 : TrP H s n) (hk : TrOk s) (hn : n ≤ 790) (hf : FmP H t (ws, hs, o, T, b, w)) (hi : FI (ws, hs, o, T, b, w)) : Hv mX1_readSign 2 [.ref 8, vB fc] S H vN (fun x H' => x = mrV (sigS s fc n (ws, hs, o, T, b, w)) ∧ mrQ H H' t s (sigS s fc n (ws, hs, o, T, b, w))) := by
  have hia := hi.a
  obtain ⟨i1, i2, i3, i4, i5⟩ := hia
  have hkb : kK s n ≤ 44 := kK_le hk
  have hs7 := stg_7 (k := kK s n)
  refine vq_intro (by decide) (by exact Nat.le_of_ble_eq_true rfl) rfl ?_
  refine xq_aload_n dX1_readSign_0 rfl rfl ?_
  refine xq_getF clX1 (by decide) rfl fl_RX1_28 dX1_readSign_1 (Fx.s8 hF) (Fx.r8_0 hF) ?_
  refine xq_callV0P clX9 gd_X9_kind dX1_readSign_4 ml_RX1_49 im_X9_kind se_X9_kind rfl (Fx.s2 hF) (by exact Nat.le_of_ble_eq_true rfl) (by decide) (c_kind hF hs1 hk (by omega)) ?_
  refine xq_istore_n dX1_readSign_7 rfl rfl ?_
  refine xq_iload_n dX1_readSign_8 rfl rfl ?_
  refine xq_bipush dX1_readSign_9 bp42 ?_
  refine xq_icmp_neN dX1_readSign_11 rfl (by omega) (by omega) ⟨fun h11 => ?_, fun h11 => ?_⟩
  · skip
    refine xq_iload_n dX1_readSign_55 rfl rfl ?_
    refine xq_bipush dX1_readSign_56 bp13 ?_
    refine xq_icmp_neN dX1_readSign_58 rfl (by omega) (by omega) ⟨fun h58 => ?_, fun h58 => ?_⟩
    · skip
      refine xq_iload_n dX1_readSign_65 rfl rfl ?_
      refine xq_callS1P gd_X1_strengthOf dX1_readSign_66 ml_RX1_135 im_X1_strengthOf (by exact Nat.le_of_ble_eq_true rfl) (by decide) (c_strengthOf hkb) ?_
      refine xq_istore_n dX1_readSign_69 rfl rfl ?_
      refine xq_iload_n dX1_readSign_70 rfl rfl ?_
      refine xq_if_eqN dX1_readSign_71 rfl (by omega) ⟨fun h71 => ?_, fun h71 => ?_⟩
      · skip
        refine xq_aload_n dX1_readSign_88 rfl rfl ?_
        refine xq_iconst dX1_readSign_89 ic1 ?_
        refine xq_callV1H clX1 gd_X1_wrong dX1_readSign_90 ml_RX1_112 im_X1_wrong se_X1_wrong rfl (Fx.s8 hF) (by exact Nat.le_of_ble_eq_true rfl) (by decide) (c_wrong hF hs1 hk (by omega) (c := 1) (by decide)) ?_
        intro x90 H90 p90
        obtain ⟨rfl, q90⟩ := p90
        refine xq_iret dX1_readSign_93 rfl ?_
        have n1 : ¬ (kK s n = 42 ∧ 0 < fmO (ws, hs, o, T, b, w)) := fun z => h11 z.1
        have es : sgs (kK s n) = stg (kK s n) := by unfold sgs; rw [if_neg h58]
        have e : sigS s fc n (ws, hs, o, T, b, w) = .inl (1, n) := (if_neg n1).trans (if_pos (Or.inl (es.trans h71)))
        rw [e]
        exact ⟨3, H90, ⟨rfl, Off.tr Off.rf (q90.2.2.2.mo (fun q h => Or.inl h)), q90.1, q90.2.1, (q90.2.2.1 6 (by decide) (by decide)).trans rfl⟩, rfl⟩
      · skip
        refine xq_iload_n dX1_readSign_74 rfl rfl ?_
        refine xq_iload_n dX1_readSign_75 rfl rfl ?_
        refine xq_if_eqB dX1_readSign_76 rfl ⟨fun h76 => ?_, fun h76 => ?_⟩
        · skip
          refine xq_bipush dX1_readSign_83 bp6 ?_
          refine xq_icmp_leN dX1_readSign_85 rfl (by omega) (by omega) ⟨fun h85 => ?_, fun h85 => ?_⟩
          · skip
            refine xq_iload_n dX1_readSign_94 rfl rfl ?_
            refine xq_iconst dX1_readSign_95 ic4 ?_
            refine xq_icmp_neN dX1_readSign_96 rfl (by omega) (by omega) ⟨fun h96 => ?_, fun h96 => ?_⟩
            · skip
              refine xq_iconst dX1_readSign_103 ic0 ?_
              refine xq_istore dX1_readSign_104 rfl ?_
              refine xq_aload_n dX1_readSign_106 rfl rfl ?_
              refine xq_iload dX1_readSign_107 rfl ?_
              refine xq_if_eqN dX1_readSign_109 rfl (by omega) ⟨fun h109 => ?_, fun h109 => ?_⟩
              · skip
                refine xq_iload_n dX1_readSign_118 rfl rfl ?_
                refine xq_callV1N clX1 gd_X1_tieDownTo dX1_readSign_119 ml_RX1_55 im_X1_tieDownTo se_X1_tieDownTo rfl (Fx.s8 hF) (by exact Nat.le_of_ble_eq_true rfl) (by decide) (c_tieDownTo (st := stg (kK s n)) hF ht ht24 ht45 hf hi (by omega) (by omega)) ?_
                intro H119 p119
                obtain ⟨hf2, o2⟩ := p119
                have hi2 := FI.tieF (st := stg (kK s n)) (by omega) hi
                have hs2 : TrP H119 s n := hs1.off o2 (fun q h => by omega)
                have oo2 : Off (fun q => q = 2 ∨ (8 ≤ q ∧ q < 16) ∨ (t ≤ q ∧ q < t + 21)) H H119 := o2.mo (fun q h => by omega)
                generalize hyy : tieF (stg (kK s n)) (ws, hs, o, T, b, w) = y at hf2 hi2
                obtain ⟨ws2, hs2', o3, T2, b3, w2⟩ := y
                have eo : o = o3 := tieF_o.symm.trans (congrArg fmO hyy)
                have eb : b = b3 := tieF_b.symm.trans (congrArg fmB hyy)
                subst eo
                subst eb
                have hib := hi2.a
                obtain ⟨j1, j2, j3, j4, j5⟩ := hib
                refine xq_iload dX1_readSign_122 rfl ?_
                refine xq_if_eqN dX1_readSign_124 rfl (by omega) ⟨fun h124 => ?_, fun h124 => ?_⟩
                · skip
                  refine xq_aload_n dX1_readSign_158 rfl rfl ?_
                  refine xq_callV0H clX1 gd_X1_mayBegin dX1_readSign_159 ml_RX1_78 im_X1_mayBegin se_X1_mayBegin rfl (Fx.s8 hF) (by exact Nat.le_of_ble_eq_true rfl) (by decide) (c_mayBegin (b := b) hF ht hs2 hk (by omega) hf2.kn hf2.bg (by omega)) ?_
                  intro x159 H159 p159
                  obtain ⟨e159, q159, r159⟩ := p159
                  refine xq_if_eqB dX1_readSign_162 rfl ⟨fun h162 => ?_, fun h162 => ?_⟩
                  · skip
                    refine xq_iconst dX1_readSign_184 ic3 ?_
                    refine xq_iret dX1_readSign_185 rfl ?_
                    have n1 : ¬ (kK s n = 42 ∧ 0 < fmO (ws, hs, o, T, b, w)) := fun z => h11 z.1
                    have es : sgs (kK s n) = stg (kK s n) := by unfold sgs; rw [if_neg h58]
                    have hlm : lmS fc = 6 := by unfold lmS; rw [if_neg (by simpa using h76)]
                    have n2 : ¬ (sgs (kK s n) = 0 ∨ lmS fc < sgs (kK s n)) := by omega
                    have n3 : ¬ (sgs (kK s n) = 4 ∧ stg (topK (fmW (tieF 5 (ws, hs, o, T, b, w)))) = 4) := fun z => by omega
                    have hb0 : ¬ b < 64 := of_decide_eq_false (e159.symm.trans (by simpa using h162))
                    have q := r159 hb0
                    have e : sigS s fc n (ws, hs, o, T, b, w) = .inl (2, n) := (if_neg n1).trans ((if_neg n2).trans ((if_neg n3).trans (if_pos (show 64 ≤ b by omega))))
                    rw [e]
                    exact ⟨3, H159, ⟨rfl, Off.tr oo2 (q.2.2.2.mo (fun q h => Or.inl h)), q.1, q.2.1, (q.2.2.1 6 (by decide) (by decide)).trans (o2.I (by omega) 6)⟩, rfl⟩
                  · skip
                    have hb1 : b < 64 := of_decide_eq_true (e159.symm.trans (by simpa using h162))
                    have ee := q159 hb1
                    subst ee
                    have hfb := hf2.beg (v := b + 1) ht24
                    have hsb : TrP (sI H119 (t + 7) 4 (nI (b + 1))) s n := hs2.pI (by omega) _ _
                    refine xq_aload_n dX1_readSign_165 rfl rfl ?_
                    refine xq_iload_n dX1_readSign_166 rfl rfl ?_
                    refine xq_iconst dX1_readSign_167 ic0 ?_
                    refine xq_iload_n dX1_readSign_168 rfl rfl ?_
                    refine xq_iconst dX1_readSign_169 ic2 ?_
                    refine xq_icmp_gtN dX1_readSign_170 rfl (by omega) (by omega) ⟨fun h170 => ?_, fun h170 => ?_⟩
                    · skip
                      refine xq_iconst dX1_readSign_177 ic1 ?_
                      refine xq_callV3H clX1 gd_X1_hold dX1_readSign_178 ml_RX1_89 im_X1_hold se_X1_hold rfl (Fx.s8 hF) (by exact Nat.le_of_ble_eq_true rfl) (by decide) (c_hold (sz := ws2.length) hF hsb hk (by omega) hfb.wz (by omega)) ?_
                      intro x178 H178 p178
                      obtain ⟨rfl, rfl⟩ := p178
                      refine xq_goto dX1_readSign_181 rfl ?_
                      refine xq_iret dX1_readSign_185 rfl ?_
                      have n1 : ¬ (kK s n = 42 ∧ 0 < fmO (ws, hs, o, T, b, w)) := fun z => h11 z.1
                      have es : sgs (kK s n) = stg (kK s n) := by unfold sgs; rw [if_neg h58]
                      have hlm : lmS fc = 6 := by unfold lmS; rw [if_neg (by simpa using h76)]
                      have n2 : ¬ (sgs (kK s n) = 0 ∨ lmS fc < sgs (kK s n)) := by omega
                      have n3 : ¬ (sgs (kK s n) = 4 ∧ stg (topK (fmW (tieF 5 (ws, hs, o, T, b, w)))) = 4) := fun z => by omega
                      have e : sigS s fc n (ws, hs, o, T, b, w) = .inr (1, n + 1, hldX (kK s n) 0 (begX (ws2, hs2', o, T2, b, w2))) := (if_neg n1).trans ((if_neg n2).trans ((if_neg n3).trans ((if_neg (show ¬ 64 ≤ b by omega)).trans (by rw [if_neg (by omega), if_neg (by omega), es, hyy]))))
                      rw [e]
                      exact ⟨1, _, ⟨rfl, (Off.pI (A := (fun q => q = 2 ∨ (8 ≤ q ∧ q < 16) ∨ (t ≤ q ∧ q < t + 21))) (Off.pI (A := (fun q => q = 2 ∨ (8 ≤ q ∧ q < 16) ∨ (t ≤ q ∧ q < t + 21))) (Off.pI (A := (fun q => q = 2 ∨ (8 ≤ q ∧ q < 16) ∨ (t ≤ q ∧ q < t + 21))) (Off.pI (A := (fun q => q = 2 ∨ (8 ≤ q ∧ q < 16) ∨ (t ≤ q ∧ q < t + 21))) (Off.pI (A := (fun q => q = 2 ∨ (8 ≤ q ∧ q < 16) ∨ (t ≤ q ∧ q < t + 21))) oo2 (by omega) _ _) (by omega) _ _) (by omega) _ _) (by omega) _ _) (by omega) _ _), ((((hsb.pI (by omega) _ _).pI (by omega) _ _).pI (by omega) _ _).st (n + 1)), by (repeat rw [hI_sI, if_neg (by omega)]); exact o2.I (by omega) 7, by (repeat rw [hI_sI, if_neg (by omega)]); exact o2.I (by omega) 8, (hfb.hld ht24).st2 ht24⟩, rfl⟩
                    · skip
                      refine xq_iconst dX1_readSign_173 ic0 ?_
                      refine xq_goto dX1_readSign_174 rfl ?_
                      refine xq_callV3H clX1 gd_X1_hold dX1_readSign_178 ml_RX1_89 im_X1_hold se_X1_hold rfl (Fx.s8 hF) (by exact Nat.le_of_ble_eq_true rfl) (by decide) (c_hold (sz := ws2.length) hF hsb hk (by omega) hfb.wz (by omega)) ?_
                      intro x178 H178 p178
                      obtain ⟨rfl, rfl⟩ := p178
                      refine xq_goto dX1_readSign_181 rfl ?_
                      refine xq_iret dX1_readSign_185 rfl ?_
                      have n1 : ¬ (kK s n = 42 ∧ 0 < fmO (ws, hs, o, T, b, w)) := fun z => h11 z.1
                      have es : sgs (kK s n) = stg (kK s n) := by unfold sgs; rw [if_neg h58]
                      have hlm : lmS fc = 6 := by unfold lmS; rw [if_neg (by simpa using h76)]
                      have n2 : ¬ (sgs (kK s n) = 0 ∨ lmS fc < sgs (kK s n)) := by omega
                      have n3 : ¬ (sgs (kK s n) = 4 ∧ stg (topK (fmW (tieF 5 (ws, hs, o, T, b, w)))) = 4) := fun z => by omega
                      have e : sigS s fc n (ws, hs, o, T, b, w) = .inr (0, n + 1, hldX (kK s n) 0 (begX (ws2, hs2', o, T2, b, w2))) := (if_neg n1).trans ((if_neg n2).trans ((if_neg n3).trans ((if_neg (show ¬ 64 ≤ b by omega)).trans (by rw [if_pos (by omega), if_neg (by omega), es, hyy]))))
                      rw [e]
                      exact ⟨0, _, ⟨rfl, (Off.pI (A := (fun q => q = 2 ∨ (8 ≤ q ∧ q < 16) ∨ (t ≤ q ∧ q < t + 21))) (Off.pI (A := (fun q => q = 2 ∨ (8 ≤ q ∧ q < 16) ∨ (t ≤ q ∧ q < t + 21))) (Off.pI (A := (fun q => q = 2 ∨ (8 ≤ q ∧ q < 16) ∨ (t ≤ q ∧ q < t + 21))) (Off.pI (A := (fun q => q = 2 ∨ (8 ≤ q ∧ q < 16) ∨ (t ≤ q ∧ q < t + 21))) (Off.pI (A := (fun q => q = 2 ∨ (8 ≤ q ∧ q < 16) ∨ (t ≤ q ∧ q < t + 21))) oo2 (by omega) _ _) (by omega) _ _) (by omega) _ _) (by omega) _ _) (by omega) _ _), ((((hsb.pI (by omega) _ _).pI (by omega) _ _).pI (by omega) _ _).st (n + 1)), by (repeat rw [hI_sI, if_neg (by omega)]); exact o2.I (by omega) 7, by (repeat rw [hI_sI, if_neg (by omega)]); exact o2.I (by omega) 8, (hfb.hld ht24).st2 ht24⟩, rfl⟩
                · skip
                  first | exact absurd h124 (by decide) | exact absurd rfl h124
              · skip
                first | exact absurd h109 (by decide) | exact absurd rfl h109
            · skip
              refine xq_iconst dX1_readSign_99 ic1 ?_
              refine xq_goto dX1_readSign_100 rfl ?_
              refine xq_istore dX1_readSign_104 rfl ?_
              refine xq_aload_n dX1_readSign_106 rfl rfl ?_
              refine xq_iload dX1_readSign_107 rfl ?_
              refine xq_if_eqN dX1_readSign_109 rfl (by omega) ⟨fun h109 => ?_, fun h109 => ?_⟩
              · skip
                first | exact absurd h109 (by decide) | exact absurd rfl h109
              · skip
                refine xq_iload_n dX1_readSign_112 rfl rfl ?_
                refine xq_iconst dX1_readSign_113 ic1 ?_
                refine xq_iaddN dX1_readSign_114 ?_
                refine xq_goto dX1_readSign_115 rfl ?_
                refine xq_callV1N clX1 gd_X1_tieDownTo dX1_readSign_119 ml_RX1_55 im_X1_tieDownTo se_X1_tieDownTo rfl (Fx.s8 hF) (by exact Nat.le_of_ble_eq_true rfl) (by decide) (c_tieDownTo (st := stg (kK s n) + 1) hF ht ht24 ht45 hf hi (by omega) (by omega)) ?_
                intro H119 p119
                obtain ⟨hf2, o2⟩ := p119
                have hi2 := FI.tieF (st := stg (kK s n) + 1) (by omega) hi
                have hs2 : TrP H119 s n := hs1.off o2 (fun q h => by omega)
                have oo2 : Off (fun q => q = 2 ∨ (8 ≤ q ∧ q < 16) ∨ (t ≤ q ∧ q < t + 21)) H H119 := o2.mo (fun q h => by omega)
                generalize hyy : tieF (stg (kK s n) + 1) (ws, hs, o, T, b, w) = y at hf2 hi2
                obtain ⟨ws2, hs2', o3, T2, b3, w2⟩ := y
                have eo : o = o3 := tieF_o.symm.trans (congrArg fmO hyy)
                have eb : b = b3 := tieF_b.symm.trans (congrArg fmB hyy)
                subst eo
                subst eb
                have hib := hi2.a
                obtain ⟨j1, j2, j3, j4, j5⟩ := hib
                refine xq_iload dX1_readSign_122 rfl ?_
                refine xq_if_eqN dX1_readSign_124 rfl (by omega) ⟨fun h124 => ?_, fun h124 => ?_⟩
                · skip
                  first | exact absurd h124 (by decide) | exact absurd rfl h124
                · skip
                  refine xq_aload_n dX1_readSign_127 rfl rfl ?_
                  refine xq_getIE (v := nI ws2.length) clX1 (by decide) rfl fl_RX1_35 dX1_readSign_128 (Fx.s8 hF) hf2.wz ?_
                  refine xq_if_leN dX1_readSign_131 rfl (by omega) ⟨fun h131 => ?_, fun h131 => ?_⟩
                  · skip
                    refine xq_aload_n dX1_readSign_158 rfl rfl ?_
                    refine xq_callV0H clX1 gd_X1_mayBegin dX1_readSign_159 ml_RX1_78 im_X1_mayBegin se_X1_mayBegin rfl (Fx.s8 hF) (by exact Nat.le_of_ble_eq_true rfl) (by decide) (c_mayBegin (b := b) hF ht hs2 hk (by omega) hf2.kn hf2.bg (by omega)) ?_
                    intro x159 H159 p159
                    obtain ⟨e159, q159, r159⟩ := p159
                    refine xq_if_eqB dX1_readSign_162 rfl ⟨fun h162 => ?_, fun h162 => ?_⟩
                    · skip
                      refine xq_iconst dX1_readSign_184 ic3 ?_
                      refine xq_iret dX1_readSign_185 rfl ?_
                      have n1 : ¬ (kK s n = 42 ∧ 0 < fmO (ws, hs, o, T, b, w)) := fun z => h11 z.1
                      have es : sgs (kK s n) = stg (kK s n) := by unfold sgs; rw [if_neg h58]
                      have hlm : lmS fc = 6 := by unfold lmS; rw [if_neg (by simpa using h76)]
                      have n2 : ¬ (sgs (kK s n) = 0 ∨ lmS fc < sgs (kK s n)) := by omega
                      have e4 : sgs (kK s n) = 4 := by omega
                      have hy5 := hyy
                      rw [show stg (kK s n) + 1 = 5 from by omega] at hy5
                      have n3 : ¬ (sgs (kK s n) = 4 ∧ stg (topK (fmW (tieF 5 (ws, hs, o, T, b, w)))) = 4) := fun z => by
                        have z2 := z.2
                        rw [hy5] at z2
                        have z3 : stg (topK ws2) = 4 := z2
                        rw [topK_0 (Nat.le_of_eq h131)] at z3
                        cases z3
                      have hb0 : ¬ b < 64 := of_decide_eq_false (e159.symm.trans (by simpa using h162))
                      have q := r159 hb0
                      have e : sigS s fc n (ws, hs, o, T, b, w) = .inl (2, n) := (if_neg n1).trans ((if_neg n2).trans ((if_neg n3).trans (if_pos (show 64 ≤ b by omega))))
                      rw [e]
                      exact ⟨3, H159, ⟨rfl, Off.tr oo2 (q.2.2.2.mo (fun q h => Or.inl h)), q.1, q.2.1, (q.2.2.1 6 (by decide) (by decide)).trans (o2.I (by omega) 6)⟩, rfl⟩
                    · skip
                      have hb1 : b < 64 := of_decide_eq_true (e159.symm.trans (by simpa using h162))
                      have ee := q159 hb1
                      subst ee
                      have hfb := hf2.beg (v := b + 1) ht24
                      have hsb : TrP (sI H119 (t + 7) 4 (nI (b + 1))) s n := hs2.pI (by omega) _ _
                      refine xq_aload_n dX1_readSign_165 rfl rfl ?_
                      refine xq_iload_n dX1_readSign_166 rfl rfl ?_
                      refine xq_iconst dX1_readSign_167 ic0 ?_
                      refine xq_iload_n dX1_readSign_168 rfl rfl ?_
                      refine xq_iconst dX1_readSign_169 ic2 ?_
                      refine xq_icmp_gtN dX1_readSign_170 rfl (by omega) (by omega) ⟨fun h170 => ?_, fun h170 => ?_⟩
                      · skip
                        refine xq_iconst dX1_readSign_177 ic1 ?_
                        refine xq_callV3H clX1 gd_X1_hold dX1_readSign_178 ml_RX1_89 im_X1_hold se_X1_hold rfl (Fx.s8 hF) (by exact Nat.le_of_ble_eq_true rfl) (by decide) (c_hold (sz := ws2.length) hF hsb hk (by omega) hfb.wz (by omega)) ?_
                        intro x178 H178 p178
                        obtain ⟨rfl, rfl⟩ := p178
                        refine xq_goto dX1_readSign_181 rfl ?_
                        refine xq_iret dX1_readSign_185 rfl ?_
                        have n1 : ¬ (kK s n = 42 ∧ 0 < fmO (ws, hs, o, T, b, w)) := fun z => h11 z.1
                        have es : sgs (kK s n) = stg (kK s n) := by unfold sgs; rw [if_neg h58]
                        have hlm : lmS fc = 6 := by unfold lmS; rw [if_neg (by simpa using h76)]
                        have n2 : ¬ (sgs (kK s n) = 0 ∨ lmS fc < sgs (kK s n)) := by omega
                        have e4 : sgs (kK s n) = 4 := by omega
                        have hy5 := hyy
                        rw [show stg (kK s n) + 1 = 5 from by omega] at hy5
                        have n3 : ¬ (sgs (kK s n) = 4 ∧ stg (topK (fmW (tieF 5 (ws, hs, o, T, b, w)))) = 4) := fun z => by
                          have z2 := z.2
                          rw [hy5] at z2
                          have z3 : stg (topK ws2) = 4 := z2
                          rw [topK_0 (Nat.le_of_eq h131)] at z3
                          cases z3
                        have e : sigS s fc n (ws, hs, o, T, b, w) = .inr (1, n + 1, hldX (kK s n) 0 (begX (ws2, hs2', o, T2, b, w2))) := (if_neg n1).trans ((if_neg n2).trans ((if_neg n3).trans ((if_neg (show ¬ 64 ≤ b by omega)).trans (by rw [if_neg (by omega), if_pos e4, hy5]))))
                        rw [e]
                        exact ⟨1, _, ⟨rfl, (Off.pI (A := (fun q => q = 2 ∨ (8 ≤ q ∧ q < 16) ∨ (t ≤ q ∧ q < t + 21))) (Off.pI (A := (fun q => q = 2 ∨ (8 ≤ q ∧ q < 16) ∨ (t ≤ q ∧ q < t + 21))) (Off.pI (A := (fun q => q = 2 ∨ (8 ≤ q ∧ q < 16) ∨ (t ≤ q ∧ q < t + 21))) (Off.pI (A := (fun q => q = 2 ∨ (8 ≤ q ∧ q < 16) ∨ (t ≤ q ∧ q < t + 21))) (Off.pI (A := (fun q => q = 2 ∨ (8 ≤ q ∧ q < 16) ∨ (t ≤ q ∧ q < t + 21))) oo2 (by omega) _ _) (by omega) _ _) (by omega) _ _) (by omega) _ _) (by omega) _ _), ((((hsb.pI (by omega) _ _).pI (by omega) _ _).pI (by omega) _ _).st (n + 1)), by (repeat rw [hI_sI, if_neg (by omega)]); exact o2.I (by omega) 7, by (repeat rw [hI_sI, if_neg (by omega)]); exact o2.I (by omega) 8, (hfb.hld ht24).st2 ht24⟩, rfl⟩
                      · skip
                        refine xq_iconst dX1_readSign_173 ic0 ?_
                        refine xq_goto dX1_readSign_174 rfl ?_
                        refine xq_callV3H clX1 gd_X1_hold dX1_readSign_178 ml_RX1_89 im_X1_hold se_X1_hold rfl (Fx.s8 hF) (by exact Nat.le_of_ble_eq_true rfl) (by decide) (c_hold (sz := ws2.length) hF hsb hk (by omega) hfb.wz (by omega)) ?_
                        intro x178 H178 p178
                        obtain ⟨rfl, rfl⟩ := p178
                        refine xq_goto dX1_readSign_181 rfl ?_
                        refine xq_iret dX1_readSign_185 rfl ?_
                        have n1 : ¬ (kK s n = 42 ∧ 0 < fmO (ws, hs, o, T, b, w)) := fun z => h11 z.1
                        have es : sgs (kK s n) = stg (kK s n) := by unfold sgs; rw [if_neg h58]
                        have hlm : lmS fc = 6 := by unfold lmS; rw [if_neg (by simpa using h76)]
                        have n2 : ¬ (sgs (kK s n) = 0 ∨ lmS fc < sgs (kK s n)) := by omega
                        have e4 : sgs (kK s n) = 4 := by omega
                        have hy5 := hyy
                        rw [show stg (kK s n) + 1 = 5 from by omega] at hy5
                        have n3 : ¬ (sgs (kK s n) = 4 ∧ stg (topK (fmW (tieF 5 (ws, hs, o, T, b, w)))) = 4) := fun z => by
                          have z2 := z.2
                          rw [hy5] at z2
                          have z3 : stg (topK ws2) = 4 := z2
                          rw [topK_0 (Nat.le_of_eq h131)] at z3
                          cases z3
                        have e : sigS s fc n (ws, hs, o, T, b, w) = .inr (0, n + 1, hldX (kK s n) 0 (begX (ws2, hs2', o, T2, b, w2))) := (if_neg n1).trans ((if_neg n2).trans ((if_neg n3).trans ((if_neg (show ¬ 64 ≤ b by omega)).trans (by rw [if_pos (by omega), if_pos e4, hy5]))))
                        rw [e]
                        exact ⟨0, _, ⟨rfl, (Off.pI (A := (fun q => q = 2 ∨ (8 ≤ q ∧ q < 16) ∨ (t ≤ q ∧ q < t + 21))) (Off.pI (A := (fun q => q = 2 ∨ (8 ≤ q ∧ q < 16) ∨ (t ≤ q ∧ q < t + 21))) (Off.pI (A := (fun q => q = 2 ∨ (8 ≤ q ∧ q < 16) ∨ (t ≤ q ∧ q < t + 21))) (Off.pI (A := (fun q => q = 2 ∨ (8 ≤ q ∧ q < 16) ∨ (t ≤ q ∧ q < t + 21))) (Off.pI (A := (fun q => q = 2 ∨ (8 ≤ q ∧ q < 16) ∨ (t ≤ q ∧ q < t + 21))) oo2 (by omega) _ _) (by omega) _ _) (by omega) _ _) (by omega) _ _) (by omega) _ _), ((((hsb.pI (by omega) _ _).pI (by omega) _ _).pI (by omega) _ _).st (n + 1)), by (repeat rw [hI_sI, if_neg (by omega)]); exact o2.I (by omega) 7, by (repeat rw [hI_sI, if_neg (by omega)]); exact o2.I (by omega) 8, (hfb.hld ht24).st2 ht24⟩, rfl⟩
                  · skip
                    have hl0 : 0 < ws2.length := h131
                    have htk := topK_e hl0
                    have htk44 := topK_44 hi2.2.2.2.2.2
                    rw [show topK (fmW (ws2, hs2', o, T2, b, w2)) = topK ws2 from rfl, htk] at htk44
                    have hwv := (hf2.wt (ws2.length - 1) (show ws2.length - 1 < ws2.length by omega)).1
                    have hs8 := stg_7 (k := (lg (0, 0) ws2 (ws2.length - 1)).1)
                    refine xq_aload_n dX1_readSign_134 rfl rfl ?_
                    refine xq_getF clX1 (by decide) rfl fl_RX1_9 dX1_readSign_135 (Fx.s8 hF) (Fx.r8_1 hF) ?_
                    refine xq_aload_n dX1_readSign_138 rfl rfl ?_
                    refine xq_getIE (v := nI ws2.length) clX1 (by decide) rfl fl_RX1_35 dX1_readSign_139 (Fx.s8 hF) hf2.wz ?_
                    refine xq_iconst dX1_readSign_142 ic1 ?_
                    refine xq_isubN dX1_readSign_143 (by show 1 ≤ ws2.length; omega) ?_
                    refine xq_ialdN (v := nI (lg (0, 0) ws2 (ws2.length - 1)).1) dX1_readSign_144 (Fx.s9 hF) (by show ws2.length - 1 < 72; omega) (by decide) hwv ?_
                    refine xq_callS1P gd_X1_strengthOf dX1_readSign_145 ml_RX1_135 im_X1_strengthOf (by exact Nat.le_of_ble_eq_true rfl) (by decide) (c_strengthOf htk44) ?_
                    refine xq_iconst dX1_readSign_148 ic4 ?_
                    refine xq_icmp_neN dX1_readSign_149 rfl (by omega) (by omega) ⟨fun h149 => ?_, fun h149 => ?_⟩
                    · skip
                      refine xq_aload_n dX1_readSign_158 rfl rfl ?_
                      refine xq_callV0H clX1 gd_X1_mayBegin dX1_readSign_159 ml_RX1_78 im_X1_mayBegin se_X1_mayBegin rfl (Fx.s8 hF) (by exact Nat.le_of_ble_eq_true rfl) (by decide) (c_mayBegin (b := b) hF ht hs2 hk (by omega) hf2.kn hf2.bg (by omega)) ?_
                      intro x159 H159 p159
                      obtain ⟨e159, q159, r159⟩ := p159
                      refine xq_if_eqB dX1_readSign_162 rfl ⟨fun h162 => ?_, fun h162 => ?_⟩
                      · skip
                        refine xq_iconst dX1_readSign_184 ic3 ?_
                        refine xq_iret dX1_readSign_185 rfl ?_
                        have n1 : ¬ (kK s n = 42 ∧ 0 < fmO (ws, hs, o, T, b, w)) := fun z => h11 z.1
                        have es : sgs (kK s n) = stg (kK s n) := by unfold sgs; rw [if_neg h58]
                        have hlm : lmS fc = 6 := by unfold lmS; rw [if_neg (by simpa using h76)]
                        have n2 : ¬ (sgs (kK s n) = 0 ∨ lmS fc < sgs (kK s n)) := by omega
                        have e4 : sgs (kK s n) = 4 := by omega
                        have hy5 := hyy
                        rw [show stg (kK s n) + 1 = 5 from by omega] at hy5
                        have n3 : ¬ (sgs (kK s n) = 4 ∧ stg (topK (fmW (tieF 5 (ws, hs, o, T, b, w)))) = 4) := fun z => by
                          have z2 := z.2
                          rw [hy5] at z2
                          have z3 : stg (topK ws2) = 4 := z2
                          rw [htk] at z3
                          exact h149 z3
                        have hb0 : ¬ b < 64 := of_decide_eq_false (e159.symm.trans (by simpa using h162))
                        have q := r159 hb0
                        have e : sigS s fc n (ws, hs, o, T, b, w) = .inl (2, n) := (if_neg n1).trans ((if_neg n2).trans ((if_neg n3).trans (if_pos (show 64 ≤ b by omega))))
                        rw [e]
                        exact ⟨3, H159, ⟨rfl, Off.tr oo2 (q.2.2.2.mo (fun q h => Or.inl h)), q.1, q.2.1, (q.2.2.1 6 (by decide) (by decide)).trans (o2.I (by omega) 6)⟩, rfl⟩
                      · skip
                        have hb1 : b < 64 := of_decide_eq_true (e159.symm.trans (by simpa using h162))
                        have ee := q159 hb1
                        subst ee
                        have hfb := hf2.beg (v := b + 1) ht24
                        have hsb : TrP (sI H119 (t + 7) 4 (nI (b + 1))) s n := hs2.pI (by omega) _ _
                        refine xq_aload_n dX1_readSign_165 rfl rfl ?_
                        refine xq_iload_n dX1_readSign_166 rfl rfl ?_
                        refine xq_iconst dX1_readSign_167 ic0 ?_
                        refine xq_iload_n dX1_readSign_168 rfl rfl ?_
                        refine xq_iconst dX1_readSign_169 ic2 ?_
                        refine xq_icmp_gtN dX1_readSign_170 rfl (by omega) (by omega) ⟨fun h170 => ?_, fun h170 => ?_⟩
                        · skip
                          refine xq_iconst dX1_readSign_177 ic1 ?_
                          refine xq_callV3H clX1 gd_X1_hold dX1_readSign_178 ml_RX1_89 im_X1_hold se_X1_hold rfl (Fx.s8 hF) (by exact Nat.le_of_ble_eq_true rfl) (by decide) (c_hold (sz := ws2.length) hF hsb hk (by omega) hfb.wz (by omega)) ?_
                          intro x178 H178 p178
                          obtain ⟨rfl, rfl⟩ := p178
                          refine xq_goto dX1_readSign_181 rfl ?_
                          refine xq_iret dX1_readSign_185 rfl ?_
                          have n1 : ¬ (kK s n = 42 ∧ 0 < fmO (ws, hs, o, T, b, w)) := fun z => h11 z.1
                          have es : sgs (kK s n) = stg (kK s n) := by unfold sgs; rw [if_neg h58]
                          have hlm : lmS fc = 6 := by unfold lmS; rw [if_neg (by simpa using h76)]
                          have n2 : ¬ (sgs (kK s n) = 0 ∨ lmS fc < sgs (kK s n)) := by omega
                          have e4 : sgs (kK s n) = 4 := by omega
                          have hy5 := hyy
                          rw [show stg (kK s n) + 1 = 5 from by omega] at hy5
                          have n3 : ¬ (sgs (kK s n) = 4 ∧ stg (topK (fmW (tieF 5 (ws, hs, o, T, b, w)))) = 4) := fun z => by
                            have z2 := z.2
                            rw [hy5] at z2
                            have z3 : stg (topK ws2) = 4 := z2
                            rw [htk] at z3
                            exact h149 z3
                          have e : sigS s fc n (ws, hs, o, T, b, w) = .inr (1, n + 1, hldX (kK s n) 0 (begX (ws2, hs2', o, T2, b, w2))) := (if_neg n1).trans ((if_neg n2).trans ((if_neg n3).trans ((if_neg (show ¬ 64 ≤ b by omega)).trans (by rw [if_neg (by omega), if_pos e4, hy5]))))
                          rw [e]
                          exact ⟨1, _, ⟨rfl, (Off.pI (A := (fun q => q = 2 ∨ (8 ≤ q ∧ q < 16) ∨ (t ≤ q ∧ q < t + 21))) (Off.pI (A := (fun q => q = 2 ∨ (8 ≤ q ∧ q < 16) ∨ (t ≤ q ∧ q < t + 21))) (Off.pI (A := (fun q => q = 2 ∨ (8 ≤ q ∧ q < 16) ∨ (t ≤ q ∧ q < t + 21))) (Off.pI (A := (fun q => q = 2 ∨ (8 ≤ q ∧ q < 16) ∨ (t ≤ q ∧ q < t + 21))) (Off.pI (A := (fun q => q = 2 ∨ (8 ≤ q ∧ q < 16) ∨ (t ≤ q ∧ q < t + 21))) oo2 (by omega) _ _) (by omega) _ _) (by omega) _ _) (by omega) _ _) (by omega) _ _), ((((hsb.pI (by omega) _ _).pI (by omega) _ _).pI (by omega) _ _).st (n + 1)), by (repeat rw [hI_sI, if_neg (by omega)]); exact o2.I (by omega) 7, by (repeat rw [hI_sI, if_neg (by omega)]); exact o2.I (by omega) 8, (hfb.hld ht24).st2 ht24⟩, rfl⟩
                        · skip
                          refine xq_iconst dX1_readSign_173 ic0 ?_
                          refine xq_goto dX1_readSign_174 rfl ?_
                          refine xq_callV3H clX1 gd_X1_hold dX1_readSign_178 ml_RX1_89 im_X1_hold se_X1_hold rfl (Fx.s8 hF) (by exact Nat.le_of_ble_eq_true rfl) (by decide) (c_hold (sz := ws2.length) hF hsb hk (by omega) hfb.wz (by omega)) ?_
                          intro x178 H178 p178
                          obtain ⟨rfl, rfl⟩ := p178
                          refine xq_goto dX1_readSign_181 rfl ?_
                          refine xq_iret dX1_readSign_185 rfl ?_
                          have n1 : ¬ (kK s n = 42 ∧ 0 < fmO (ws, hs, o, T, b, w)) := fun z => h11 z.1
                          have es : sgs (kK s n) = stg (kK s n) := by unfold sgs; rw [if_neg h58]
                          have hlm : lmS fc = 6 := by unfold lmS; rw [if_neg (by simpa using h76)]
                          have n2 : ¬ (sgs (kK s n) = 0 ∨ lmS fc < sgs (kK s n)) := by omega
                          have e4 : sgs (kK s n) = 4 := by omega
                          have hy5 := hyy
                          rw [show stg (kK s n) + 1 = 5 from by omega] at hy5
                          have n3 : ¬ (sgs (kK s n) = 4 ∧ stg (topK (fmW (tieF 5 (ws, hs, o, T, b, w)))) = 4) := fun z => by
                            have z2 := z.2
                            rw [hy5] at z2
                            have z3 : stg (topK ws2) = 4 := z2
                            rw [htk] at z3
                            exact h149 z3
                          have e : sigS s fc n (ws, hs, o, T, b, w) = .inr (0, n + 1, hldX (kK s n) 0 (begX (ws2, hs2', o, T2, b, w2))) := (if_neg n1).trans ((if_neg n2).trans ((if_neg n3).trans ((if_neg (show ¬ 64 ≤ b by omega)).trans (by rw [if_pos (by omega), if_pos e4, hy5]))))
                          rw [e]
                          exact ⟨0, _, ⟨rfl, (Off.pI (A := (fun q => q = 2 ∨ (8 ≤ q ∧ q < 16) ∨ (t ≤ q ∧ q < t + 21))) (Off.pI (A := (fun q => q = 2 ∨ (8 ≤ q ∧ q < 16) ∨ (t ≤ q ∧ q < t + 21))) (Off.pI (A := (fun q => q = 2 ∨ (8 ≤ q ∧ q < 16) ∨ (t ≤ q ∧ q < t + 21))) (Off.pI (A := (fun q => q = 2 ∨ (8 ≤ q ∧ q < 16) ∨ (t ≤ q ∧ q < t + 21))) (Off.pI (A := (fun q => q = 2 ∨ (8 ≤ q ∧ q < 16) ∨ (t ≤ q ∧ q < t + 21))) oo2 (by omega) _ _) (by omega) _ _) (by omega) _ _) (by omega) _ _) (by omega) _ _), ((((hsb.pI (by omega) _ _).pI (by omega) _ _).pI (by omega) _ _).st (n + 1)), by (repeat rw [hI_sI, if_neg (by omega)]); exact o2.I (by omega) 7, by (repeat rw [hI_sI, if_neg (by omega)]); exact o2.I (by omega) 8, (hfb.hld ht24).st2 ht24⟩, rfl⟩
                    · skip
                      refine xq_aload_n dX1_readSign_152 rfl rfl ?_
                      refine xq_iconst dX1_readSign_153 ic1 ?_
                      refine xq_callV1H clX1 gd_X1_wrong dX1_readSign_154 ml_RX1_112 im_X1_wrong se_X1_wrong rfl (Fx.s8 hF) (by exact Nat.le_of_ble_eq_true rfl) (by decide) (c_wrong hF hs2 hk (by omega) (c := 1) (by decide)) ?_
                      intro x154 H154 p154
                      obtain ⟨rfl, q154⟩ := p154
                      refine xq_iret dX1_readSign_157 rfl ?_
                      have n1 : ¬ (kK s n = 42 ∧ 0 < fmO (ws, hs, o, T, b, w)) := fun z => h11 z.1
                      have es : sgs (kK s n) = stg (kK s n) := by unfold sgs; rw [if_neg h58]
                      have hlm : lmS fc = 6 := by unfold lmS; rw [if_neg (by simpa using h76)]
                      have n2 : ¬ (sgs (kK s n) = 0 ∨ lmS fc < sgs (kK s n)) := by omega
                      have e4 : sgs (kK s n) = 4 := by omega
                      have hy5 := hyy
                      rw [show stg (kK s n) + 1 = 5 from by omega] at hy5
                      have e : sigS s fc n (ws, hs, o, T, b, w) = .inl (1, n) := (if_neg n1).trans ((if_neg n2).trans (if_pos ⟨e4, by rw [hy5]; show stg (topK ws2) = 4; rw [htk]; exact h149⟩))
                      rw [e]
                      exact ⟨3, H154, ⟨rfl, Off.tr oo2 (q154.2.2.2.mo (fun q h => Or.inl h)), q154.1, q154.2.1, (q154.2.2.1 6 (by decide) (by decide)).trans (o2.I (by omega) 6)⟩, rfl⟩
          · skip
            refine xq_aload_n dX1_readSign_88 rfl rfl ?_
            refine xq_iconst dX1_readSign_89 ic1 ?_
            refine xq_callV1H clX1 gd_X1_wrong dX1_readSign_90 ml_RX1_112 im_X1_wrong se_X1_wrong rfl (Fx.s8 hF) (by exact Nat.le_of_ble_eq_true rfl) (by decide) (c_wrong hF hs1 hk (by omega) (c := 1) (by decide)) ?_
            intro x90 H90 p90
            obtain ⟨rfl, q90⟩ := p90
            refine xq_iret dX1_readSign_93 rfl ?_
            have n1 : ¬ (kK s n = 42 ∧ 0 < fmO (ws, hs, o, T, b, w)) := fun z => h11 z.1
            have es : sgs (kK s n) = stg (kK s n) := by unfold sgs; rw [if_neg h58]
            have hlm : lmS fc = 6 := by unfold lmS; rw [if_neg (by simpa using h76)]
            have e : sigS s fc n (ws, hs, o, T, b, w) = .inl (1, n) := (if_neg n1).trans (if_pos (Or.inr (by omega)))
            rw [e]
            exact ⟨3, H90, ⟨rfl, Off.tr Off.rf (q90.2.2.2.mo (fun q h => Or.inl h)), q90.1, q90.2.1, (q90.2.2.1 6 (by decide) (by decide)).trans rfl⟩, rfl⟩
        · skip
          refine xq_iconst dX1_readSign_79 ic2 ?_
          refine xq_goto dX1_readSign_80 rfl ?_
          refine xq_icmp_leN dX1_readSign_85 rfl (by omega) (by omega) ⟨fun h85 => ?_, fun h85 => ?_⟩
          · skip
            refine xq_iload_n dX1_readSign_94 rfl rfl ?_
            refine xq_iconst dX1_readSign_95 ic4 ?_
            refine xq_icmp_neN dX1_readSign_96 rfl (by omega) (by omega) ⟨fun h96 => ?_, fun h96 => ?_⟩
            · skip
              refine xq_iconst dX1_readSign_103 ic0 ?_
              refine xq_istore dX1_readSign_104 rfl ?_
              refine xq_aload_n dX1_readSign_106 rfl rfl ?_
              refine xq_iload dX1_readSign_107 rfl ?_
              refine xq_if_eqN dX1_readSign_109 rfl (by omega) ⟨fun h109 => ?_, fun h109 => ?_⟩
              · skip
                refine xq_iload_n dX1_readSign_118 rfl rfl ?_
                refine xq_callV1N clX1 gd_X1_tieDownTo dX1_readSign_119 ml_RX1_55 im_X1_tieDownTo se_X1_tieDownTo rfl (Fx.s8 hF) (by exact Nat.le_of_ble_eq_true rfl) (by decide) (c_tieDownTo (st := stg (kK s n)) hF ht ht24 ht45 hf hi (by omega) (by omega)) ?_
                intro H119 p119
                obtain ⟨hf2, o2⟩ := p119
                have hi2 := FI.tieF (st := stg (kK s n)) (by omega) hi
                have hs2 : TrP H119 s n := hs1.off o2 (fun q h => by omega)
                have oo2 : Off (fun q => q = 2 ∨ (8 ≤ q ∧ q < 16) ∨ (t ≤ q ∧ q < t + 21)) H H119 := o2.mo (fun q h => by omega)
                generalize hyy : tieF (stg (kK s n)) (ws, hs, o, T, b, w) = y at hf2 hi2
                obtain ⟨ws2, hs2', o3, T2, b3, w2⟩ := y
                have eo : o = o3 := tieF_o.symm.trans (congrArg fmO hyy)
                have eb : b = b3 := tieF_b.symm.trans (congrArg fmB hyy)
                subst eo
                subst eb
                have hib := hi2.a
                obtain ⟨j1, j2, j3, j4, j5⟩ := hib
                refine xq_iload dX1_readSign_122 rfl ?_
                refine xq_if_eqN dX1_readSign_124 rfl (by omega) ⟨fun h124 => ?_, fun h124 => ?_⟩
                · skip
                  refine xq_aload_n dX1_readSign_158 rfl rfl ?_
                  refine xq_callV0H clX1 gd_X1_mayBegin dX1_readSign_159 ml_RX1_78 im_X1_mayBegin se_X1_mayBegin rfl (Fx.s8 hF) (by exact Nat.le_of_ble_eq_true rfl) (by decide) (c_mayBegin (b := b) hF ht hs2 hk (by omega) hf2.kn hf2.bg (by omega)) ?_
                  intro x159 H159 p159
                  obtain ⟨e159, q159, r159⟩ := p159
                  refine xq_if_eqB dX1_readSign_162 rfl ⟨fun h162 => ?_, fun h162 => ?_⟩
                  · skip
                    refine xq_iconst dX1_readSign_184 ic3 ?_
                    refine xq_iret dX1_readSign_185 rfl ?_
                    have n1 : ¬ (kK s n = 42 ∧ 0 < fmO (ws, hs, o, T, b, w)) := fun z => h11 z.1
                    have es : sgs (kK s n) = stg (kK s n) := by unfold sgs; rw [if_neg h58]
                    have hlm : lmS fc = 2 := by unfold lmS; rw [if_pos (by simpa using h76)]
                    have n2 : ¬ (sgs (kK s n) = 0 ∨ lmS fc < sgs (kK s n)) := by omega
                    have n3 : ¬ (sgs (kK s n) = 4 ∧ stg (topK (fmW (tieF 5 (ws, hs, o, T, b, w)))) = 4) := fun z => by omega
                    have hb0 : ¬ b < 64 := of_decide_eq_false (e159.symm.trans (by simpa using h162))
                    have q := r159 hb0
                    have e : sigS s fc n (ws, hs, o, T, b, w) = .inl (2, n) := (if_neg n1).trans ((if_neg n2).trans ((if_neg n3).trans (if_pos (show 64 ≤ b by omega))))
                    rw [e]
                    exact ⟨3, H159, ⟨rfl, Off.tr oo2 (q.2.2.2.mo (fun q h => Or.inl h)), q.1, q.2.1, (q.2.2.1 6 (by decide) (by decide)).trans (o2.I (by omega) 6)⟩, rfl⟩
                  · skip
                    have hb1 : b < 64 := of_decide_eq_true (e159.symm.trans (by simpa using h162))
                    have ee := q159 hb1
                    subst ee
                    have hfb := hf2.beg (v := b + 1) ht24
                    have hsb : TrP (sI H119 (t + 7) 4 (nI (b + 1))) s n := hs2.pI (by omega) _ _
                    refine xq_aload_n dX1_readSign_165 rfl rfl ?_
                    refine xq_iload_n dX1_readSign_166 rfl rfl ?_
                    refine xq_iconst dX1_readSign_167 ic0 ?_
                    refine xq_iload_n dX1_readSign_168 rfl rfl ?_
                    refine xq_iconst dX1_readSign_169 ic2 ?_
                    refine xq_icmp_gtN dX1_readSign_170 rfl (by omega) (by omega) ⟨fun h170 => ?_, fun h170 => ?_⟩
                    · skip
                      refine xq_iconst dX1_readSign_177 ic1 ?_
                      refine xq_callV3H clX1 gd_X1_hold dX1_readSign_178 ml_RX1_89 im_X1_hold se_X1_hold rfl (Fx.s8 hF) (by exact Nat.le_of_ble_eq_true rfl) (by decide) (c_hold (sz := ws2.length) hF hsb hk (by omega) hfb.wz (by omega)) ?_
                      intro x178 H178 p178
                      obtain ⟨rfl, rfl⟩ := p178
                      refine xq_goto dX1_readSign_181 rfl ?_
                      refine xq_iret dX1_readSign_185 rfl ?_
                      have n1 : ¬ (kK s n = 42 ∧ 0 < fmO (ws, hs, o, T, b, w)) := fun z => h11 z.1
                      have es : sgs (kK s n) = stg (kK s n) := by unfold sgs; rw [if_neg h58]
                      have hlm : lmS fc = 2 := by unfold lmS; rw [if_pos (by simpa using h76)]
                      have n2 : ¬ (sgs (kK s n) = 0 ∨ lmS fc < sgs (kK s n)) := by omega
                      have n3 : ¬ (sgs (kK s n) = 4 ∧ stg (topK (fmW (tieF 5 (ws, hs, o, T, b, w)))) = 4) := fun z => by omega
                      have e : sigS s fc n (ws, hs, o, T, b, w) = .inr (1, n + 1, hldX (kK s n) 0 (begX (ws2, hs2', o, T2, b, w2))) := (if_neg n1).trans ((if_neg n2).trans ((if_neg n3).trans ((if_neg (show ¬ 64 ≤ b by omega)).trans (by rw [if_neg (by omega), if_neg (by omega), es, hyy]))))
                      rw [e]
                      exact ⟨1, _, ⟨rfl, (Off.pI (A := (fun q => q = 2 ∨ (8 ≤ q ∧ q < 16) ∨ (t ≤ q ∧ q < t + 21))) (Off.pI (A := (fun q => q = 2 ∨ (8 ≤ q ∧ q < 16) ∨ (t ≤ q ∧ q < t + 21))) (Off.pI (A := (fun q => q = 2 ∨ (8 ≤ q ∧ q < 16) ∨ (t ≤ q ∧ q < t + 21))) (Off.pI (A := (fun q => q = 2 ∨ (8 ≤ q ∧ q < 16) ∨ (t ≤ q ∧ q < t + 21))) (Off.pI (A := (fun q => q = 2 ∨ (8 ≤ q ∧ q < 16) ∨ (t ≤ q ∧ q < t + 21))) oo2 (by omega) _ _) (by omega) _ _) (by omega) _ _) (by omega) _ _) (by omega) _ _), ((((hsb.pI (by omega) _ _).pI (by omega) _ _).pI (by omega) _ _).st (n + 1)), by (repeat rw [hI_sI, if_neg (by omega)]); exact o2.I (by omega) 7, by (repeat rw [hI_sI, if_neg (by omega)]); exact o2.I (by omega) 8, (hfb.hld ht24).st2 ht24⟩, rfl⟩
                    · skip
                      refine xq_iconst dX1_readSign_173 ic0 ?_
                      refine xq_goto dX1_readSign_174 rfl ?_
                      refine xq_callV3H clX1 gd_X1_hold dX1_readSign_178 ml_RX1_89 im_X1_hold se_X1_hold rfl (Fx.s8 hF) (by exact Nat.le_of_ble_eq_true rfl) (by decide) (c_hold (sz := ws2.length) hF hsb hk (by omega) hfb.wz (by omega)) ?_
                      intro x178 H178 p178
                      obtain ⟨rfl, rfl⟩ := p178
                      refine xq_goto dX1_readSign_181 rfl ?_
                      refine xq_iret dX1_readSign_185 rfl ?_
                      have n1 : ¬ (kK s n = 42 ∧ 0 < fmO (ws, hs, o, T, b, w)) := fun z => h11 z.1
                      have es : sgs (kK s n) = stg (kK s n) := by unfold sgs; rw [if_neg h58]
                      have hlm : lmS fc = 2 := by unfold lmS; rw [if_pos (by simpa using h76)]
                      have n2 : ¬ (sgs (kK s n) = 0 ∨ lmS fc < sgs (kK s n)) := by omega
                      have n3 : ¬ (sgs (kK s n) = 4 ∧ stg (topK (fmW (tieF 5 (ws, hs, o, T, b, w)))) = 4) := fun z => by omega
                      have e : sigS s fc n (ws, hs, o, T, b, w) = .inr (0, n + 1, hldX (kK s n) 0 (begX (ws2, hs2', o, T2, b, w2))) := (if_neg n1).trans ((if_neg n2).trans ((if_neg n3).trans ((if_neg (show ¬ 64 ≤ b by omega)).trans (by rw [if_pos (by omega), if_neg (by omega), es, hyy]))))
                      rw [e]
                      exact ⟨0, _, ⟨rfl, (Off.pI (A := (fun q => q = 2 ∨ (8 ≤ q ∧ q < 16) ∨ (t ≤ q ∧ q < t + 21))) (Off.pI (A := (fun q => q = 2 ∨ (8 ≤ q ∧ q < 16) ∨ (t ≤ q ∧ q < t + 21))) (Off.pI (A := (fun q => q = 2 ∨ (8 ≤ q ∧ q < 16) ∨ (t ≤ q ∧ q < t + 21))) (Off.pI (A := (fun q => q = 2 ∨ (8 ≤ q ∧ q < 16) ∨ (t ≤ q ∧ q < t + 21))) (Off.pI (A := (fun q => q = 2 ∨ (8 ≤ q ∧ q < 16) ∨ (t ≤ q ∧ q < t + 21))) oo2 (by omega) _ _) (by omega) _ _) (by omega) _ _) (by omega) _ _) (by omega) _ _), ((((hsb.pI (by omega) _ _).pI (by omega) _ _).pI (by omega) _ _).st (n + 1)), by (repeat rw [hI_sI, if_neg (by omega)]); exact o2.I (by omega) 7, by (repeat rw [hI_sI, if_neg (by omega)]); exact o2.I (by omega) 8, (hfb.hld ht24).st2 ht24⟩, rfl⟩
                · skip
                  first | exact absurd h124 (by decide) | exact absurd rfl h124
              · skip
                first | exact absurd h109 (by decide) | exact absurd rfl h109
            · skip
              refine xq_iconst dX1_readSign_99 ic1 ?_
              refine xq_goto dX1_readSign_100 rfl ?_
              refine xq_istore dX1_readSign_104 rfl ?_
              refine xq_aload_n dX1_readSign_106 rfl rfl ?_
              refine xq_iload dX1_readSign_107 rfl ?_
              refine xq_if_eqN dX1_readSign_109 rfl (by omega) ⟨fun h109 => ?_, fun h109 => ?_⟩
              · skip
                first | exact absurd h109 (by decide) | exact absurd rfl h109
              · skip
                refine xq_iload_n dX1_readSign_112 rfl rfl ?_
                refine xq_iconst dX1_readSign_113 ic1 ?_
                refine xq_iaddN dX1_readSign_114 ?_
                refine xq_goto dX1_readSign_115 rfl ?_
                refine xq_callV1N clX1 gd_X1_tieDownTo dX1_readSign_119 ml_RX1_55 im_X1_tieDownTo se_X1_tieDownTo rfl (Fx.s8 hF) (by exact Nat.le_of_ble_eq_true rfl) (by decide) (c_tieDownTo (st := stg (kK s n) + 1) hF ht ht24 ht45 hf hi (by omega) (by omega)) ?_
                intro H119 p119
                obtain ⟨hf2, o2⟩ := p119
                have hi2 := FI.tieF (st := stg (kK s n) + 1) (by omega) hi
                have hs2 : TrP H119 s n := hs1.off o2 (fun q h => by omega)
                have oo2 : Off (fun q => q = 2 ∨ (8 ≤ q ∧ q < 16) ∨ (t ≤ q ∧ q < t + 21)) H H119 := o2.mo (fun q h => by omega)
                generalize hyy : tieF (stg (kK s n) + 1) (ws, hs, o, T, b, w) = y at hf2 hi2
                obtain ⟨ws2, hs2', o3, T2, b3, w2⟩ := y
                have eo : o = o3 := tieF_o.symm.trans (congrArg fmO hyy)
                have eb : b = b3 := tieF_b.symm.trans (congrArg fmB hyy)
                subst eo
                subst eb
                have hib := hi2.a
                obtain ⟨j1, j2, j3, j4, j5⟩ := hib
                refine xq_iload dX1_readSign_122 rfl ?_
                refine xq_if_eqN dX1_readSign_124 rfl (by omega) ⟨fun h124 => ?_, fun h124 => ?_⟩
                · skip
                  first | exact absurd h124 (by decide) | exact absurd rfl h124
                · skip
                  refine xq_aload_n dX1_readSign_127 rfl rfl ?_
                  refine xq_getIE (v := nI ws2.length) clX1 (by decide) rfl fl_RX1_35 dX1_readSign_128 (Fx.s8 hF) hf2.wz ?_
                  refine xq_if_leN dX1_readSign_131 rfl (by omega) ⟨fun h131 => ?_, fun h131 => ?_⟩
                  · skip
                    refine xq_aload_n dX1_readSign_158 rfl rfl ?_
                    refine xq_callV0H clX1 gd_X1_mayBegin dX1_readSign_159 ml_RX1_78 im_X1_mayBegin se_X1_mayBegin rfl (Fx.s8 hF) (by exact Nat.le_of_ble_eq_true rfl) (by decide) (c_mayBegin (b := b) hF ht hs2 hk (by omega) hf2.kn hf2.bg (by omega)) ?_
                    intro x159 H159 p159
                    obtain ⟨e159, q159, r159⟩ := p159
                    refine xq_if_eqB dX1_readSign_162 rfl ⟨fun h162 => ?_, fun h162 => ?_⟩
                    · skip
                      refine xq_iconst dX1_readSign_184 ic3 ?_
                      refine xq_iret dX1_readSign_185 rfl ?_
                      have n1 : ¬ (kK s n = 42 ∧ 0 < fmO (ws, hs, o, T, b, w)) := fun z => h11 z.1
                      have es : sgs (kK s n) = stg (kK s n) := by unfold sgs; rw [if_neg h58]
                      have hlm : lmS fc = 2 := by unfold lmS; rw [if_pos (by simpa using h76)]
                      have n2 : ¬ (sgs (kK s n) = 0 ∨ lmS fc < sgs (kK s n)) := by omega
                      have e4 : sgs (kK s n) = 4 := by omega
                      have hy5 := hyy
                      rw [show stg (kK s n) + 1 = 5 from by omega] at hy5
                      have n3 : ¬ (sgs (kK s n) = 4 ∧ stg (topK (fmW (tieF 5 (ws, hs, o, T, b, w)))) = 4) := fun z => by
                        have z2 := z.2
                        rw [hy5] at z2
                        have z3 : stg (topK ws2) = 4 := z2
                        rw [topK_0 (Nat.le_of_eq h131)] at z3
                        cases z3
                      have hb0 : ¬ b < 64 := of_decide_eq_false (e159.symm.trans (by simpa using h162))
                      have q := r159 hb0
                      have e : sigS s fc n (ws, hs, o, T, b, w) = .inl (2, n) := (if_neg n1).trans ((if_neg n2).trans ((if_neg n3).trans (if_pos (show 64 ≤ b by omega))))
                      rw [e]
                      exact ⟨3, H159, ⟨rfl, Off.tr oo2 (q.2.2.2.mo (fun q h => Or.inl h)), q.1, q.2.1, (q.2.2.1 6 (by decide) (by decide)).trans (o2.I (by omega) 6)⟩, rfl⟩
                    · skip
                      have hb1 : b < 64 := of_decide_eq_true (e159.symm.trans (by simpa using h162))
                      have ee := q159 hb1
                      subst ee
                      have hfb := hf2.beg (v := b + 1) ht24
                      have hsb : TrP (sI H119 (t + 7) 4 (nI (b + 1))) s n := hs2.pI (by omega) _ _
                      refine xq_aload_n dX1_readSign_165 rfl rfl ?_
                      refine xq_iload_n dX1_readSign_166 rfl rfl ?_
                      refine xq_iconst dX1_readSign_167 ic0 ?_
                      refine xq_iload_n dX1_readSign_168 rfl rfl ?_
                      refine xq_iconst dX1_readSign_169 ic2 ?_
                      refine xq_icmp_gtN dX1_readSign_170 rfl (by omega) (by omega) ⟨fun h170 => ?_, fun h170 => ?_⟩
                      · skip
                        refine xq_iconst dX1_readSign_177 ic1 ?_
                        refine xq_callV3H clX1 gd_X1_hold dX1_readSign_178 ml_RX1_89 im_X1_hold se_X1_hold rfl (Fx.s8 hF) (by exact Nat.le_of_ble_eq_true rfl) (by decide) (c_hold (sz := ws2.length) hF hsb hk (by omega) hfb.wz (by omega)) ?_
                        intro x178 H178 p178
                        obtain ⟨rfl, rfl⟩ := p178
                        refine xq_goto dX1_readSign_181 rfl ?_
                        refine xq_iret dX1_readSign_185 rfl ?_
                        have n1 : ¬ (kK s n = 42 ∧ 0 < fmO (ws, hs, o, T, b, w)) := fun z => h11 z.1
                        have es : sgs (kK s n) = stg (kK s n) := by unfold sgs; rw [if_neg h58]
                        have hlm : lmS fc = 2 := by unfold lmS; rw [if_pos (by simpa using h76)]
                        have n2 : ¬ (sgs (kK s n) = 0 ∨ lmS fc < sgs (kK s n)) := by omega
                        have e4 : sgs (kK s n) = 4 := by omega
                        have hy5 := hyy
                        rw [show stg (kK s n) + 1 = 5 from by omega] at hy5
                        have n3 : ¬ (sgs (kK s n) = 4 ∧ stg (topK (fmW (tieF 5 (ws, hs, o, T, b, w)))) = 4) := fun z => by
                          have z2 := z.2
                          rw [hy5] at z2
                          have z3 : stg (topK ws2) = 4 := z2
                          rw [topK_0 (Nat.le_of_eq h131)] at z3
                          cases z3
                        have e : sigS s fc n (ws, hs, o, T, b, w) = .inr (1, n + 1, hldX (kK s n) 0 (begX (ws2, hs2', o, T2, b, w2))) := (if_neg n1).trans ((if_neg n2).trans ((if_neg n3).trans ((if_neg (show ¬ 64 ≤ b by omega)).trans (by rw [if_neg (by omega), if_pos e4, hy5]))))
                        rw [e]
                        exact ⟨1, _, ⟨rfl, (Off.pI (A := (fun q => q = 2 ∨ (8 ≤ q ∧ q < 16) ∨ (t ≤ q ∧ q < t + 21))) (Off.pI (A := (fun q => q = 2 ∨ (8 ≤ q ∧ q < 16) ∨ (t ≤ q ∧ q < t + 21))) (Off.pI (A := (fun q => q = 2 ∨ (8 ≤ q ∧ q < 16) ∨ (t ≤ q ∧ q < t + 21))) (Off.pI (A := (fun q => q = 2 ∨ (8 ≤ q ∧ q < 16) ∨ (t ≤ q ∧ q < t + 21))) (Off.pI (A := (fun q => q = 2 ∨ (8 ≤ q ∧ q < 16) ∨ (t ≤ q ∧ q < t + 21))) oo2 (by omega) _ _) (by omega) _ _) (by omega) _ _) (by omega) _ _) (by omega) _ _), ((((hsb.pI (by omega) _ _).pI (by omega) _ _).pI (by omega) _ _).st (n + 1)), by (repeat rw [hI_sI, if_neg (by omega)]); exact o2.I (by omega) 7, by (repeat rw [hI_sI, if_neg (by omega)]); exact o2.I (by omega) 8, (hfb.hld ht24).st2 ht24⟩, rfl⟩
                      · skip
                        refine xq_iconst dX1_readSign_173 ic0 ?_
                        refine xq_goto dX1_readSign_174 rfl ?_
                        refine xq_callV3H clX1 gd_X1_hold dX1_readSign_178 ml_RX1_89 im_X1_hold se_X1_hold rfl (Fx.s8 hF) (by exact Nat.le_of_ble_eq_true rfl) (by decide) (c_hold (sz := ws2.length) hF hsb hk (by omega) hfb.wz (by omega)) ?_
                        intro x178 H178 p178
                        obtain ⟨rfl, rfl⟩ := p178
                        refine xq_goto dX1_readSign_181 rfl ?_
                        refine xq_iret dX1_readSign_185 rfl ?_
                        have n1 : ¬ (kK s n = 42 ∧ 0 < fmO (ws, hs, o, T, b, w)) := fun z => h11 z.1
                        have es : sgs (kK s n) = stg (kK s n) := by unfold sgs; rw [if_neg h58]
                        have hlm : lmS fc = 2 := by unfold lmS; rw [if_pos (by simpa using h76)]
                        have n2 : ¬ (sgs (kK s n) = 0 ∨ lmS fc < sgs (kK s n)) := by omega
                        have e4 : sgs (kK s n) = 4 := by omega
                        have hy5 := hyy
                        rw [show stg (kK s n) + 1 = 5 from by omega] at hy5
                        have n3 : ¬ (sgs (kK s n) = 4 ∧ stg (topK (fmW (tieF 5 (ws, hs, o, T, b, w)))) = 4) := fun z => by
                          have z2 := z.2
                          rw [hy5] at z2
                          have z3 : stg (topK ws2) = 4 := z2
                          rw [topK_0 (Nat.le_of_eq h131)] at z3
                          cases z3
                        have e : sigS s fc n (ws, hs, o, T, b, w) = .inr (0, n + 1, hldX (kK s n) 0 (begX (ws2, hs2', o, T2, b, w2))) := (if_neg n1).trans ((if_neg n2).trans ((if_neg n3).trans ((if_neg (show ¬ 64 ≤ b by omega)).trans (by rw [if_pos (by omega), if_pos e4, hy5]))))
                        rw [e]
                        exact ⟨0, _, ⟨rfl, (Off.pI (A := (fun q => q = 2 ∨ (8 ≤ q ∧ q < 16) ∨ (t ≤ q ∧ q < t + 21))) (Off.pI (A := (fun q => q = 2 ∨ (8 ≤ q ∧ q < 16) ∨ (t ≤ q ∧ q < t + 21))) (Off.pI (A := (fun q => q = 2 ∨ (8 ≤ q ∧ q < 16) ∨ (t ≤ q ∧ q < t + 21))) (Off.pI (A := (fun q => q = 2 ∨ (8 ≤ q ∧ q < 16) ∨ (t ≤ q ∧ q < t + 21))) (Off.pI (A := (fun q => q = 2 ∨ (8 ≤ q ∧ q < 16) ∨ (t ≤ q ∧ q < t + 21))) oo2 (by omega) _ _) (by omega) _ _) (by omega) _ _) (by omega) _ _) (by omega) _ _), ((((hsb.pI (by omega) _ _).pI (by omega) _ _).pI (by omega) _ _).st (n + 1)), by (repeat rw [hI_sI, if_neg (by omega)]); exact o2.I (by omega) 7, by (repeat rw [hI_sI, if_neg (by omega)]); exact o2.I (by omega) 8, (hfb.hld ht24).st2 ht24⟩, rfl⟩
                  · skip
                    have hl0 : 0 < ws2.length := h131
                    have htk := topK_e hl0
                    have htk44 := topK_44 hi2.2.2.2.2.2
                    rw [show topK (fmW (ws2, hs2', o, T2, b, w2)) = topK ws2 from rfl, htk] at htk44
                    have hwv := (hf2.wt (ws2.length - 1) (show ws2.length - 1 < ws2.length by omega)).1
                    have hs8 := stg_7 (k := (lg (0, 0) ws2 (ws2.length - 1)).1)
                    refine xq_aload_n dX1_readSign_134 rfl rfl ?_
                    refine xq_getF clX1 (by decide) rfl fl_RX1_9 dX1_readSign_135 (Fx.s8 hF) (Fx.r8_1 hF) ?_
                    refine xq_aload_n dX1_readSign_138 rfl rfl ?_
                    refine xq_getIE (v := nI ws2.length) clX1 (by decide) rfl fl_RX1_35 dX1_readSign_139 (Fx.s8 hF) hf2.wz ?_
                    refine xq_iconst dX1_readSign_142 ic1 ?_
                    refine xq_isubN dX1_readSign_143 (by show 1 ≤ ws2.length; omega) ?_
                    refine xq_ialdN (v := nI (lg (0, 0) ws2 (ws2.length - 1)).1) dX1_readSign_144 (Fx.s9 hF) (by show ws2.length - 1 < 72; omega) (by decide) hwv ?_
                    refine xq_callS1P gd_X1_strengthOf dX1_readSign_145 ml_RX1_135 im_X1_strengthOf (by exact Nat.le_of_ble_eq_true rfl) (by decide) (c_strengthOf htk44) ?_
                    refine xq_iconst dX1_readSign_148 ic4 ?_
                    refine xq_icmp_neN dX1_readSign_149 rfl (by omega) (by omega) ⟨fun h149 => ?_, fun h149 => ?_⟩
                    · skip
                      refine xq_aload_n dX1_readSign_158 rfl rfl ?_
                      refine xq_callV0H clX1 gd_X1_mayBegin dX1_readSign_159 ml_RX1_78 im_X1_mayBegin se_X1_mayBegin rfl (Fx.s8 hF) (by exact Nat.le_of_ble_eq_true rfl) (by decide) (c_mayBegin (b := b) hF ht hs2 hk (by omega) hf2.kn hf2.bg (by omega)) ?_
                      intro x159 H159 p159
                      obtain ⟨e159, q159, r159⟩ := p159
                      refine xq_if_eqB dX1_readSign_162 rfl ⟨fun h162 => ?_, fun h162 => ?_⟩
                      · skip
                        refine xq_iconst dX1_readSign_184 ic3 ?_
                        refine xq_iret dX1_readSign_185 rfl ?_
                        have n1 : ¬ (kK s n = 42 ∧ 0 < fmO (ws, hs, o, T, b, w)) := fun z => h11 z.1
                        have es : sgs (kK s n) = stg (kK s n) := by unfold sgs; rw [if_neg h58]
                        have hlm : lmS fc = 2 := by unfold lmS; rw [if_pos (by simpa using h76)]
                        have n2 : ¬ (sgs (kK s n) = 0 ∨ lmS fc < sgs (kK s n)) := by omega
                        have e4 : sgs (kK s n) = 4 := by omega
                        have hy5 := hyy
                        rw [show stg (kK s n) + 1 = 5 from by omega] at hy5
                        have n3 : ¬ (sgs (kK s n) = 4 ∧ stg (topK (fmW (tieF 5 (ws, hs, o, T, b, w)))) = 4) := fun z => by
                          have z2 := z.2
                          rw [hy5] at z2
                          have z3 : stg (topK ws2) = 4 := z2
                          rw [htk] at z3
                          exact h149 z3
                        have hb0 : ¬ b < 64 := of_decide_eq_false (e159.symm.trans (by simpa using h162))
                        have q := r159 hb0
                        have e : sigS s fc n (ws, hs, o, T, b, w) = .inl (2, n) := (if_neg n1).trans ((if_neg n2).trans ((if_neg n3).trans (if_pos (show 64 ≤ b by omega))))
                        rw [e]
                        exact ⟨3, H159, ⟨rfl, Off.tr oo2 (q.2.2.2.mo (fun q h => Or.inl h)), q.1, q.2.1, (q.2.2.1 6 (by decide) (by decide)).trans (o2.I (by omega) 6)⟩, rfl⟩
                      · skip
                        have hb1 : b < 64 := of_decide_eq_true (e159.symm.trans (by simpa using h162))
                        have ee := q159 hb1
                        subst ee
                        have hfb := hf2.beg (v := b + 1) ht24
                        have hsb : TrP (sI H119 (t + 7) 4 (nI (b + 1))) s n := hs2.pI (by omega) _ _
                        refine xq_aload_n dX1_readSign_165 rfl rfl ?_
                        refine xq_iload_n dX1_readSign_166 rfl rfl ?_
                        refine xq_iconst dX1_readSign_167 ic0 ?_
                        refine xq_iload_n dX1_readSign_168 rfl rfl ?_
                        refine xq_iconst dX1_readSign_169 ic2 ?_
                        refine xq_icmp_gtN dX1_readSign_170 rfl (by omega) (by omega) ⟨fun h170 => ?_, fun h170 => ?_⟩
                        · skip
                          refine xq_iconst dX1_readSign_177 ic1 ?_
                          refine xq_callV3H clX1 gd_X1_hold dX1_readSign_178 ml_RX1_89 im_X1_hold se_X1_hold rfl (Fx.s8 hF) (by exact Nat.le_of_ble_eq_true rfl) (by decide) (c_hold (sz := ws2.length) hF hsb hk (by omega) hfb.wz (by omega)) ?_
                          intro x178 H178 p178
                          obtain ⟨rfl, rfl⟩ := p178
                          refine xq_goto dX1_readSign_181 rfl ?_
                          refine xq_iret dX1_readSign_185 rfl ?_
                          have n1 : ¬ (kK s n = 42 ∧ 0 < fmO (ws, hs, o, T, b, w)) := fun z => h11 z.1
                          have es : sgs (kK s n) = stg (kK s n) := by unfold sgs; rw [if_neg h58]
                          have hlm : lmS fc = 2 := by unfold lmS; rw [if_pos (by simpa using h76)]
                          have n2 : ¬ (sgs (kK s n) = 0 ∨ lmS fc < sgs (kK s n)) := by omega
                          have e4 : sgs (kK s n) = 4 := by omega
                          have hy5 := hyy
                          rw [show stg (kK s n) + 1 = 5 from by omega] at hy5
                          have n3 : ¬ (sgs (kK s n) = 4 ∧ stg (topK (fmW (tieF 5 (ws, hs, o, T, b, w)))) = 4) := fun z => by
                            have z2 := z.2
                            rw [hy5] at z2
                            have z3 : stg (topK ws2) = 4 := z2
                            rw [htk] at z3
                            exact h149 z3
                          have e : sigS s fc n (ws, hs, o, T, b, w) = .inr (1, n + 1, hldX (kK s n) 0 (begX (ws2, hs2', o, T2, b, w2))) := (if_neg n1).trans ((if_neg n2).trans ((if_neg n3).trans ((if_neg (show ¬ 64 ≤ b by omega)).trans (by rw [if_neg (by omega), if_pos e4, hy5]))))
                          rw [e]
                          exact ⟨1, _, ⟨rfl, (Off.pI (A := (fun q => q = 2 ∨ (8 ≤ q ∧ q < 16) ∨ (t ≤ q ∧ q < t + 21))) (Off.pI (A := (fun q => q = 2 ∨ (8 ≤ q ∧ q < 16) ∨ (t ≤ q ∧ q < t + 21))) (Off.pI (A := (fun q => q = 2 ∨ (8 ≤ q ∧ q < 16) ∨ (t ≤ q ∧ q < t + 21))) (Off.pI (A := (fun q => q = 2 ∨ (8 ≤ q ∧ q < 16) ∨ (t ≤ q ∧ q < t + 21))) (Off.pI (A := (fun q => q = 2 ∨ (8 ≤ q ∧ q < 16) ∨ (t ≤ q ∧ q < t + 21))) oo2 (by omega) _ _) (by omega) _ _) (by omega) _ _) (by omega) _ _) (by omega) _ _), ((((hsb.pI (by omega) _ _).pI (by omega) _ _).pI (by omega) _ _).st (n + 1)), by (repeat rw [hI_sI, if_neg (by omega)]); exact o2.I (by omega) 7, by (repeat rw [hI_sI, if_neg (by omega)]); exact o2.I (by omega) 8, (hfb.hld ht24).st2 ht24⟩, rfl⟩
                        · skip
                          refine xq_iconst dX1_readSign_173 ic0 ?_
                          refine xq_goto dX1_readSign_174 rfl ?_
                          refine xq_callV3H clX1 gd_X1_hold dX1_readSign_178 ml_RX1_89 im_X1_hold se_X1_hold rfl (Fx.s8 hF) (by exact Nat.le_of_ble_eq_true rfl) (by decide) (c_hold (sz := ws2.length) hF hsb hk (by omega) hfb.wz (by omega)) ?_
                          intro x178 H178 p178
                          obtain ⟨rfl, rfl⟩ := p178
                          refine xq_goto dX1_readSign_181 rfl ?_
                          refine xq_iret dX1_readSign_185 rfl ?_
                          have n1 : ¬ (kK s n = 42 ∧ 0 < fmO (ws, hs, o, T, b, w)) := fun z => h11 z.1
                          have es : sgs (kK s n) = stg (kK s n) := by unfold sgs; rw [if_neg h58]
                          have hlm : lmS fc = 2 := by unfold lmS; rw [if_pos (by simpa using h76)]
                          have n2 : ¬ (sgs (kK s n) = 0 ∨ lmS fc < sgs (kK s n)) := by omega
                          have e4 : sgs (kK s n) = 4 := by omega
                          have hy5 := hyy
                          rw [show stg (kK s n) + 1 = 5 from by omega] at hy5
                          have n3 : ¬ (sgs (kK s n) = 4 ∧ stg (topK (fmW (tieF 5 (ws, hs, o, T, b, w)))) = 4) := fun z => by
                            have z2 := z.2
                            rw [hy5] at z2
                            have z3 : stg (topK ws2) = 4 := z2
                            rw [htk] at z3
                            exact h149 z3
                          have e : sigS s fc n (ws, hs, o, T, b, w) = .inr (0, n + 1, hldX (kK s n) 0 (begX (ws2, hs2', o, T2, b, w2))) := (if_neg n1).trans ((if_neg n2).trans ((if_neg n3).trans ((if_neg (show ¬ 64 ≤ b by omega)).trans (by rw [if_pos (by omega), if_pos e4, hy5]))))
                          rw [e]
                          exact ⟨0, _, ⟨rfl, (Off.pI (A := (fun q => q = 2 ∨ (8 ≤ q ∧ q < 16) ∨ (t ≤ q ∧ q < t + 21))) (Off.pI (A := (fun q => q = 2 ∨ (8 ≤ q ∧ q < 16) ∨ (t ≤ q ∧ q < t + 21))) (Off.pI (A := (fun q => q = 2 ∨ (8 ≤ q ∧ q < 16) ∨ (t ≤ q ∧ q < t + 21))) (Off.pI (A := (fun q => q = 2 ∨ (8 ≤ q ∧ q < 16) ∨ (t ≤ q ∧ q < t + 21))) (Off.pI (A := (fun q => q = 2 ∨ (8 ≤ q ∧ q < 16) ∨ (t ≤ q ∧ q < t + 21))) oo2 (by omega) _ _) (by omega) _ _) (by omega) _ _) (by omega) _ _) (by omega) _ _), ((((hsb.pI (by omega) _ _).pI (by omega) _ _).pI (by omega) _ _).st (n + 1)), by (repeat rw [hI_sI, if_neg (by omega)]); exact o2.I (by omega) 7, by (repeat rw [hI_sI, if_neg (by omega)]); exact o2.I (by omega) 8, (hfb.hld ht24).st2 ht24⟩, rfl⟩
                    · skip
                      refine xq_aload_n dX1_readSign_152 rfl rfl ?_
                      refine xq_iconst dX1_readSign_153 ic1 ?_
                      refine xq_callV1H clX1 gd_X1_wrong dX1_readSign_154 ml_RX1_112 im_X1_wrong se_X1_wrong rfl (Fx.s8 hF) (by exact Nat.le_of_ble_eq_true rfl) (by decide) (c_wrong hF hs2 hk (by omega) (c := 1) (by decide)) ?_
                      intro x154 H154 p154
                      obtain ⟨rfl, q154⟩ := p154
                      refine xq_iret dX1_readSign_157 rfl ?_
                      have n1 : ¬ (kK s n = 42 ∧ 0 < fmO (ws, hs, o, T, b, w)) := fun z => h11 z.1
                      have es : sgs (kK s n) = stg (kK s n) := by unfold sgs; rw [if_neg h58]
                      have hlm : lmS fc = 2 := by unfold lmS; rw [if_pos (by simpa using h76)]
                      have n2 : ¬ (sgs (kK s n) = 0 ∨ lmS fc < sgs (kK s n)) := by omega
                      have e4 : sgs (kK s n) = 4 := by omega
                      have hy5 := hyy
                      rw [show stg (kK s n) + 1 = 5 from by omega] at hy5
                      have e : sigS s fc n (ws, hs, o, T, b, w) = .inl (1, n) := (if_neg n1).trans ((if_neg n2).trans (if_pos ⟨e4, by rw [hy5]; show stg (topK ws2) = 4; rw [htk]; exact h149⟩))
                      rw [e]
                      exact ⟨3, H154, ⟨rfl, Off.tr oo2 (q154.2.2.2.mo (fun q h => Or.inl h)), q154.1, q154.2.1, (q154.2.2.1 6 (by decide) (by decide)).trans (o2.I (by omega) 6)⟩, rfl⟩
          · skip
            refine xq_aload_n dX1_readSign_88 rfl rfl ?_
            refine xq_iconst dX1_readSign_89 ic1 ?_
            refine xq_callV1H clX1 gd_X1_wrong dX1_readSign_90 ml_RX1_112 im_X1_wrong se_X1_wrong rfl (Fx.s8 hF) (by exact Nat.le_of_ble_eq_true rfl) (by decide) (c_wrong hF hs1 hk (by omega) (c := 1) (by decide)) ?_
            intro x90 H90 p90
            obtain ⟨rfl, q90⟩ := p90
            refine xq_iret dX1_readSign_93 rfl ?_
            have n1 : ¬ (kK s n = 42 ∧ 0 < fmO (ws, hs, o, T, b, w)) := fun z => h11 z.1
            have es : sgs (kK s n) = stg (kK s n) := by unfold sgs; rw [if_neg h58]
            have hlm : lmS fc = 2 := by unfold lmS; rw [if_pos (by simpa using h76)]
            have e : sigS s fc n (ws, hs, o, T, b, w) = .inl (1, n) := (if_neg n1).trans (if_pos (Or.inr (by omega)))
            rw [e]
            exact ⟨3, H90, ⟨rfl, Off.tr Off.rf (q90.2.2.2.mo (fun q h => Or.inl h)), q90.1, q90.2.1, (q90.2.2.1 6 (by decide) (by decide)).trans rfl⟩, rfl⟩
    · skip
      refine xq_iconst dX1_readSign_61 ic0 ?_
      refine xq_goto dX1_readSign_62 rfl ?_
      refine xq_istore_n dX1_readSign_69 rfl rfl ?_
      refine xq_iload_n dX1_readSign_70 rfl rfl ?_
      refine xq_if_eqN dX1_readSign_71 rfl (by omega) ⟨fun h71 => ?_, fun h71 => ?_⟩
      · skip
        refine xq_aload_n dX1_readSign_88 rfl rfl ?_
        refine xq_iconst dX1_readSign_89 ic1 ?_
        refine xq_callV1H clX1 gd_X1_wrong dX1_readSign_90 ml_RX1_112 im_X1_wrong se_X1_wrong rfl (Fx.s8 hF) (by exact Nat.le_of_ble_eq_true rfl) (by decide) (c_wrong hF hs1 hk (by omega) (c := 1) (by decide)) ?_
        intro x90 H90 p90
        obtain ⟨rfl, q90⟩ := p90
        refine xq_iret dX1_readSign_93 rfl ?_
        have n1 : ¬ (kK s n = 42 ∧ 0 < fmO (ws, hs, o, T, b, w)) := fun z => h11 z.1
        have e : sigS s fc n (ws, hs, o, T, b, w) = .inl (1, n) := (if_neg n1).trans (if_pos (Or.inl (by unfold sgs; rw [if_pos h58])))
        rw [e]
        exact ⟨3, H90, ⟨rfl, Off.tr Off.rf (q90.2.2.2.mo (fun q h => Or.inl h)), q90.1, q90.2.1, (q90.2.2.1 6 (by decide) (by decide)).trans rfl⟩, rfl⟩
      · skip
        first | exact absurd h71 (by decide) | exact absurd rfl h71
  · skip
    refine xq_aload_n dX1_readSign_14 rfl rfl ?_
    refine xq_getIE (v := nI o) clX1 (by decide) rfl fl_RX1_42 dX1_readSign_15 (Fx.s8 hF) hf.op ?_
    refine xq_if_leN dX1_readSign_18 rfl (by omega) ⟨fun h18 => ?_, fun h18 => ?_⟩
    · skip
      refine xq_iload_n dX1_readSign_55 rfl rfl ?_
      refine xq_bipush dX1_readSign_56 bp13 ?_
      refine xq_icmp_neN dX1_readSign_58 rfl (by omega) (by omega) ⟨fun h58 => ?_, fun h58 => ?_⟩
      · skip
        refine xq_iload_n dX1_readSign_65 rfl rfl ?_
        refine xq_callS1P gd_X1_strengthOf dX1_readSign_66 ml_RX1_135 im_X1_strengthOf (by exact Nat.le_of_ble_eq_true rfl) (by decide) (c_strengthOf hkb) ?_
        refine xq_istore_n dX1_readSign_69 rfl rfl ?_
        refine xq_iload_n dX1_readSign_70 rfl rfl ?_
        refine xq_if_eqN dX1_readSign_71 rfl (by omega) ⟨fun h71 => ?_, fun h71 => ?_⟩
        · skip
          refine xq_aload_n dX1_readSign_88 rfl rfl ?_
          refine xq_iconst dX1_readSign_89 ic1 ?_
          refine xq_callV1H clX1 gd_X1_wrong dX1_readSign_90 ml_RX1_112 im_X1_wrong se_X1_wrong rfl (Fx.s8 hF) (by exact Nat.le_of_ble_eq_true rfl) (by decide) (c_wrong hF hs1 hk (by omega) (c := 1) (by decide)) ?_
          intro x90 H90 p90
          obtain ⟨rfl, q90⟩ := p90
          refine xq_iret dX1_readSign_93 rfl ?_
          have n1 : ¬ (kK s n = 42 ∧ 0 < fmO (ws, hs, o, T, b, w)) := fun z => by have z2 : 0 < o := z.2; omega
          have es : sgs (kK s n) = stg (kK s n) := by unfold sgs; rw [if_neg h58]
          have e : sigS s fc n (ws, hs, o, T, b, w) = .inl (1, n) := (if_neg n1).trans (if_pos (Or.inl (es.trans h71)))
          rw [e]
          exact ⟨3, H90, ⟨rfl, Off.tr Off.rf (q90.2.2.2.mo (fun q h => Or.inl h)), q90.1, q90.2.1, (q90.2.2.1 6 (by decide) (by decide)).trans rfl⟩, rfl⟩
        · skip
          refine xq_iload_n dX1_readSign_74 rfl rfl ?_
          refine xq_iload_n dX1_readSign_75 rfl rfl ?_
          refine xq_if_eqB dX1_readSign_76 rfl ⟨fun h76 => ?_, fun h76 => ?_⟩
          · skip
            refine xq_bipush dX1_readSign_83 bp6 ?_
            refine xq_icmp_leN dX1_readSign_85 rfl (by omega) (by omega) ⟨fun h85 => ?_, fun h85 => ?_⟩
            · skip
              refine xq_iload_n dX1_readSign_94 rfl rfl ?_
              refine xq_iconst dX1_readSign_95 ic4 ?_
              refine xq_icmp_neN dX1_readSign_96 rfl (by omega) (by omega) ⟨fun h96 => ?_, fun h96 => ?_⟩
              · skip
                refine xq_iconst dX1_readSign_103 ic0 ?_
                refine xq_istore dX1_readSign_104 rfl ?_
                refine xq_aload_n dX1_readSign_106 rfl rfl ?_
                refine xq_iload dX1_readSign_107 rfl ?_
                refine xq_if_eqN dX1_readSign_109 rfl (by omega) ⟨fun h109 => ?_, fun h109 => ?_⟩
                · skip
                  refine xq_iload_n dX1_readSign_118 rfl rfl ?_
                  refine xq_callV1N clX1 gd_X1_tieDownTo dX1_readSign_119 ml_RX1_55 im_X1_tieDownTo se_X1_tieDownTo rfl (Fx.s8 hF) (by exact Nat.le_of_ble_eq_true rfl) (by decide) (c_tieDownTo (st := stg (kK s n)) hF ht ht24 ht45 hf hi (by omega) (by omega)) ?_
                  intro H119 p119
                  obtain ⟨hf2, o2⟩ := p119
                  have hi2 := FI.tieF (st := stg (kK s n)) (by omega) hi
                  have hs2 : TrP H119 s n := hs1.off o2 (fun q h => by omega)
                  have oo2 : Off (fun q => q = 2 ∨ (8 ≤ q ∧ q < 16) ∨ (t ≤ q ∧ q < t + 21)) H H119 := o2.mo (fun q h => by omega)
                  generalize hyy : tieF (stg (kK s n)) (ws, hs, o, T, b, w) = y at hf2 hi2
                  obtain ⟨ws2, hs2', o3, T2, b3, w2⟩ := y
                  have eo : o = o3 := tieF_o.symm.trans (congrArg fmO hyy)
                  have eb : b = b3 := tieF_b.symm.trans (congrArg fmB hyy)
                  subst eo
                  subst eb
                  have hib := hi2.a
                  obtain ⟨j1, j2, j3, j4, j5⟩ := hib
                  refine xq_iload dX1_readSign_122 rfl ?_
                  refine xq_if_eqN dX1_readSign_124 rfl (by omega) ⟨fun h124 => ?_, fun h124 => ?_⟩
                  · skip
                    refine xq_aload_n dX1_readSign_158 rfl rfl ?_
                    refine xq_callV0H clX1 gd_X1_mayBegin dX1_readSign_159 ml_RX1_78 im_X1_mayBegin se_X1_mayBegin rfl (Fx.s8 hF) (by exact Nat.le_of_ble_eq_true rfl) (by decide) (c_mayBegin (b := b) hF ht hs2 hk (by omega) hf2.kn hf2.bg (by omega)) ?_
                    intro x159 H159 p159
                    obtain ⟨e159, q159, r159⟩ := p159
                    refine xq_if_eqB dX1_readSign_162 rfl ⟨fun h162 => ?_, fun h162 => ?_⟩
                    · skip
                      refine xq_iconst dX1_readSign_184 ic3 ?_
                      refine xq_iret dX1_readSign_185 rfl ?_
                      have n1 : ¬ (kK s n = 42 ∧ 0 < fmO (ws, hs, o, T, b, w)) := fun z => by have z2 : 0 < o := z.2; omega
                      have es : sgs (kK s n) = stg (kK s n) := by unfold sgs; rw [if_neg h58]
                      have hlm : lmS fc = 6 := by unfold lmS; rw [if_neg (by simpa using h76)]
                      have n2 : ¬ (sgs (kK s n) = 0 ∨ lmS fc < sgs (kK s n)) := by omega
                      have n3 : ¬ (sgs (kK s n) = 4 ∧ stg (topK (fmW (tieF 5 (ws, hs, o, T, b, w)))) = 4) := fun z => by omega
                      have hb0 : ¬ b < 64 := of_decide_eq_false (e159.symm.trans (by simpa using h162))
                      have q := r159 hb0
                      have e : sigS s fc n (ws, hs, o, T, b, w) = .inl (2, n) := (if_neg n1).trans ((if_neg n2).trans ((if_neg n3).trans (if_pos (show 64 ≤ b by omega))))
                      rw [e]
                      exact ⟨3, H159, ⟨rfl, Off.tr oo2 (q.2.2.2.mo (fun q h => Or.inl h)), q.1, q.2.1, (q.2.2.1 6 (by decide) (by decide)).trans (o2.I (by omega) 6)⟩, rfl⟩
                    · skip
                      have hb1 : b < 64 := of_decide_eq_true (e159.symm.trans (by simpa using h162))
                      have ee := q159 hb1
                      subst ee
                      have hfb := hf2.beg (v := b + 1) ht24
                      have hsb : TrP (sI H119 (t + 7) 4 (nI (b + 1))) s n := hs2.pI (by omega) _ _
                      refine xq_aload_n dX1_readSign_165 rfl rfl ?_
                      refine xq_iload_n dX1_readSign_166 rfl rfl ?_
                      refine xq_iconst dX1_readSign_167 ic0 ?_
                      refine xq_iload_n dX1_readSign_168 rfl rfl ?_
                      refine xq_iconst dX1_readSign_169 ic2 ?_
                      refine xq_icmp_gtN dX1_readSign_170 rfl (by omega) (by omega) ⟨fun h170 => ?_, fun h170 => ?_⟩
                      · skip
                        refine xq_iconst dX1_readSign_177 ic1 ?_
                        refine xq_callV3H clX1 gd_X1_hold dX1_readSign_178 ml_RX1_89 im_X1_hold se_X1_hold rfl (Fx.s8 hF) (by exact Nat.le_of_ble_eq_true rfl) (by decide) (c_hold (sz := ws2.length) hF hsb hk (by omega) hfb.wz (by omega)) ?_
                        intro x178 H178 p178
                        obtain ⟨rfl, rfl⟩ := p178
                        refine xq_goto dX1_readSign_181 rfl ?_
                        refine xq_iret dX1_readSign_185 rfl ?_
                        have n1 : ¬ (kK s n = 42 ∧ 0 < fmO (ws, hs, o, T, b, w)) := fun z => by have z2 : 0 < o := z.2; omega
                        have es : sgs (kK s n) = stg (kK s n) := by unfold sgs; rw [if_neg h58]
                        have hlm : lmS fc = 6 := by unfold lmS; rw [if_neg (by simpa using h76)]
                        have n2 : ¬ (sgs (kK s n) = 0 ∨ lmS fc < sgs (kK s n)) := by omega
                        have n3 : ¬ (sgs (kK s n) = 4 ∧ stg (topK (fmW (tieF 5 (ws, hs, o, T, b, w)))) = 4) := fun z => by omega
                        have e : sigS s fc n (ws, hs, o, T, b, w) = .inr (1, n + 1, hldX (kK s n) 0 (begX (ws2, hs2', o, T2, b, w2))) := (if_neg n1).trans ((if_neg n2).trans ((if_neg n3).trans ((if_neg (show ¬ 64 ≤ b by omega)).trans (by rw [if_neg (by omega), if_neg (by omega), es, hyy]))))
                        rw [e]
                        exact ⟨1, _, ⟨rfl, (Off.pI (A := (fun q => q = 2 ∨ (8 ≤ q ∧ q < 16) ∨ (t ≤ q ∧ q < t + 21))) (Off.pI (A := (fun q => q = 2 ∨ (8 ≤ q ∧ q < 16) ∨ (t ≤ q ∧ q < t + 21))) (Off.pI (A := (fun q => q = 2 ∨ (8 ≤ q ∧ q < 16) ∨ (t ≤ q ∧ q < t + 21))) (Off.pI (A := (fun q => q = 2 ∨ (8 ≤ q ∧ q < 16) ∨ (t ≤ q ∧ q < t + 21))) (Off.pI (A := (fun q => q = 2 ∨ (8 ≤ q ∧ q < 16) ∨ (t ≤ q ∧ q < t + 21))) oo2 (by omega) _ _) (by omega) _ _) (by omega) _ _) (by omega) _ _) (by omega) _ _), ((((hsb.pI (by omega) _ _).pI (by omega) _ _).pI (by omega) _ _).st (n + 1)), by (repeat rw [hI_sI, if_neg (by omega)]); exact o2.I (by omega) 7, by (repeat rw [hI_sI, if_neg (by omega)]); exact o2.I (by omega) 8, (hfb.hld ht24).st2 ht24⟩, rfl⟩
                      · skip
                        refine xq_iconst dX1_readSign_173 ic0 ?_
                        refine xq_goto dX1_readSign_174 rfl ?_
                        refine xq_callV3H clX1 gd_X1_hold dX1_readSign_178 ml_RX1_89 im_X1_hold se_X1_hold rfl (Fx.s8 hF) (by exact Nat.le_of_ble_eq_true rfl) (by decide) (c_hold (sz := ws2.length) hF hsb hk (by omega) hfb.wz (by omega)) ?_
                        intro x178 H178 p178
                        obtain ⟨rfl, rfl⟩ := p178
                        refine xq_goto dX1_readSign_181 rfl ?_
                        refine xq_iret dX1_readSign_185 rfl ?_
                        have n1 : ¬ (kK s n = 42 ∧ 0 < fmO (ws, hs, o, T, b, w)) := fun z => by have z2 : 0 < o := z.2; omega
                        have es : sgs (kK s n) = stg (kK s n) := by unfold sgs; rw [if_neg h58]
                        have hlm : lmS fc = 6 := by unfold lmS; rw [if_neg (by simpa using h76)]
                        have n2 : ¬ (sgs (kK s n) = 0 ∨ lmS fc < sgs (kK s n)) := by omega
                        have n3 : ¬ (sgs (kK s n) = 4 ∧ stg (topK (fmW (tieF 5 (ws, hs, o, T, b, w)))) = 4) := fun z => by omega
                        have e : sigS s fc n (ws, hs, o, T, b, w) = .inr (0, n + 1, hldX (kK s n) 0 (begX (ws2, hs2', o, T2, b, w2))) := (if_neg n1).trans ((if_neg n2).trans ((if_neg n3).trans ((if_neg (show ¬ 64 ≤ b by omega)).trans (by rw [if_pos (by omega), if_neg (by omega), es, hyy]))))
                        rw [e]
                        exact ⟨0, _, ⟨rfl, (Off.pI (A := (fun q => q = 2 ∨ (8 ≤ q ∧ q < 16) ∨ (t ≤ q ∧ q < t + 21))) (Off.pI (A := (fun q => q = 2 ∨ (8 ≤ q ∧ q < 16) ∨ (t ≤ q ∧ q < t + 21))) (Off.pI (A := (fun q => q = 2 ∨ (8 ≤ q ∧ q < 16) ∨ (t ≤ q ∧ q < t + 21))) (Off.pI (A := (fun q => q = 2 ∨ (8 ≤ q ∧ q < 16) ∨ (t ≤ q ∧ q < t + 21))) (Off.pI (A := (fun q => q = 2 ∨ (8 ≤ q ∧ q < 16) ∨ (t ≤ q ∧ q < t + 21))) oo2 (by omega) _ _) (by omega) _ _) (by omega) _ _) (by omega) _ _) (by omega) _ _), ((((hsb.pI (by omega) _ _).pI (by omega) _ _).pI (by omega) _ _).st (n + 1)), by (repeat rw [hI_sI, if_neg (by omega)]); exact o2.I (by omega) 7, by (repeat rw [hI_sI, if_neg (by omega)]); exact o2.I (by omega) 8, (hfb.hld ht24).st2 ht24⟩, rfl⟩
                  · skip
                    first | exact absurd h124 (by decide) | exact absurd rfl h124
                · skip
                  first | exact absurd h109 (by decide) | exact absurd rfl h109
              · skip
                refine xq_iconst dX1_readSign_99 ic1 ?_
                refine xq_goto dX1_readSign_100 rfl ?_
                refine xq_istore dX1_readSign_104 rfl ?_
                refine xq_aload_n dX1_readSign_106 rfl rfl ?_
                refine xq_iload dX1_readSign_107 rfl ?_
                refine xq_if_eqN dX1_readSign_109 rfl (by omega) ⟨fun h109 => ?_, fun h109 => ?_⟩
                · skip
                  first | exact absurd h109 (by decide) | exact absurd rfl h109
                · skip
                  refine xq_iload_n dX1_readSign_112 rfl rfl ?_
                  refine xq_iconst dX1_readSign_113 ic1 ?_
                  refine xq_iaddN dX1_readSign_114 ?_
                  refine xq_goto dX1_readSign_115 rfl ?_
                  refine xq_callV1N clX1 gd_X1_tieDownTo dX1_readSign_119 ml_RX1_55 im_X1_tieDownTo se_X1_tieDownTo rfl (Fx.s8 hF) (by exact Nat.le_of_ble_eq_true rfl) (by decide) (c_tieDownTo (st := stg (kK s n) + 1) hF ht ht24 ht45 hf hi (by omega) (by omega)) ?_
                  intro H119 p119
                  obtain ⟨hf2, o2⟩ := p119
                  have hi2 := FI.tieF (st := stg (kK s n) + 1) (by omega) hi
                  have hs2 : TrP H119 s n := hs1.off o2 (fun q h => by omega)
                  have oo2 : Off (fun q => q = 2 ∨ (8 ≤ q ∧ q < 16) ∨ (t ≤ q ∧ q < t + 21)) H H119 := o2.mo (fun q h => by omega)
                  generalize hyy : tieF (stg (kK s n) + 1) (ws, hs, o, T, b, w) = y at hf2 hi2
                  obtain ⟨ws2, hs2', o3, T2, b3, w2⟩ := y
                  have eo : o = o3 := tieF_o.symm.trans (congrArg fmO hyy)
                  have eb : b = b3 := tieF_b.symm.trans (congrArg fmB hyy)
                  subst eo
                  subst eb
                  have hib := hi2.a
                  obtain ⟨j1, j2, j3, j4, j5⟩ := hib
                  refine xq_iload dX1_readSign_122 rfl ?_
                  refine xq_if_eqN dX1_readSign_124 rfl (by omega) ⟨fun h124 => ?_, fun h124 => ?_⟩
                  · skip
                    first | exact absurd h124 (by decide) | exact absurd rfl h124
                  · skip
                    refine xq_aload_n dX1_readSign_127 rfl rfl ?_
                    refine xq_getIE (v := nI ws2.length) clX1 (by decide) rfl fl_RX1_35 dX1_readSign_128 (Fx.s8 hF) hf2.wz ?_
                    refine xq_if_leN dX1_readSign_131 rfl (by omega) ⟨fun h131 => ?_, fun h131 => ?_⟩
                    · skip
                      refine xq_aload_n dX1_readSign_158 rfl rfl ?_
                      refine xq_callV0H clX1 gd_X1_mayBegin dX1_readSign_159 ml_RX1_78 im_X1_mayBegin se_X1_mayBegin rfl (Fx.s8 hF) (by exact Nat.le_of_ble_eq_true rfl) (by decide) (c_mayBegin (b := b) hF ht hs2 hk (by omega) hf2.kn hf2.bg (by omega)) ?_
                      intro x159 H159 p159
                      obtain ⟨e159, q159, r159⟩ := p159
                      refine xq_if_eqB dX1_readSign_162 rfl ⟨fun h162 => ?_, fun h162 => ?_⟩
                      · skip
                        refine xq_iconst dX1_readSign_184 ic3 ?_
                        refine xq_iret dX1_readSign_185 rfl ?_
                        have n1 : ¬ (kK s n = 42 ∧ 0 < fmO (ws, hs, o, T, b, w)) := fun z => by have z2 : 0 < o := z.2; omega
                        have es : sgs (kK s n) = stg (kK s n) := by unfold sgs; rw [if_neg h58]
                        have hlm : lmS fc = 6 := by unfold lmS; rw [if_neg (by simpa using h76)]
                        have n2 : ¬ (sgs (kK s n) = 0 ∨ lmS fc < sgs (kK s n)) := by omega
                        have e4 : sgs (kK s n) = 4 := by omega
                        have hy5 := hyy
                        rw [show stg (kK s n) + 1 = 5 from by omega] at hy5
                        have n3 : ¬ (sgs (kK s n) = 4 ∧ stg (topK (fmW (tieF 5 (ws, hs, o, T, b, w)))) = 4) := fun z => by
                          have z2 := z.2
                          rw [hy5] at z2
                          have z3 : stg (topK ws2) = 4 := z2
                          rw [topK_0 (Nat.le_of_eq h131)] at z3
                          cases z3
                        have hb0 : ¬ b < 64 := of_decide_eq_false (e159.symm.trans (by simpa using h162))
                        have q := r159 hb0
                        have e : sigS s fc n (ws, hs, o, T, b, w) = .inl (2, n) := (if_neg n1).trans ((if_neg n2).trans ((if_neg n3).trans (if_pos (show 64 ≤ b by omega))))
                        rw [e]
                        exact ⟨3, H159, ⟨rfl, Off.tr oo2 (q.2.2.2.mo (fun q h => Or.inl h)), q.1, q.2.1, (q.2.2.1 6 (by decide) (by decide)).trans (o2.I (by omega) 6)⟩, rfl⟩
                      · skip
                        have hb1 : b < 64 := of_decide_eq_true (e159.symm.trans (by simpa using h162))
                        have ee := q159 hb1
                        subst ee
                        have hfb := hf2.beg (v := b + 1) ht24
                        have hsb : TrP (sI H119 (t + 7) 4 (nI (b + 1))) s n := hs2.pI (by omega) _ _
                        refine xq_aload_n dX1_readSign_165 rfl rfl ?_
                        refine xq_iload_n dX1_readSign_166 rfl rfl ?_
                        refine xq_iconst dX1_readSign_167 ic0 ?_
                        refine xq_iload_n dX1_readSign_168 rfl rfl ?_
                        refine xq_iconst dX1_readSign_169 ic2 ?_
                        refine xq_icmp_gtN dX1_readSign_170 rfl (by omega) (by omega) ⟨fun h170 => ?_, fun h170 => ?_⟩
                        · skip
                          refine xq_iconst dX1_readSign_177 ic1 ?_
                          refine xq_callV3H clX1 gd_X1_hold dX1_readSign_178 ml_RX1_89 im_X1_hold se_X1_hold rfl (Fx.s8 hF) (by exact Nat.le_of_ble_eq_true rfl) (by decide) (c_hold (sz := ws2.length) hF hsb hk (by omega) hfb.wz (by omega)) ?_
                          intro x178 H178 p178
                          obtain ⟨rfl, rfl⟩ := p178
                          refine xq_goto dX1_readSign_181 rfl ?_
                          refine xq_iret dX1_readSign_185 rfl ?_
                          have n1 : ¬ (kK s n = 42 ∧ 0 < fmO (ws, hs, o, T, b, w)) := fun z => by have z2 : 0 < o := z.2; omega
                          have es : sgs (kK s n) = stg (kK s n) := by unfold sgs; rw [if_neg h58]
                          have hlm : lmS fc = 6 := by unfold lmS; rw [if_neg (by simpa using h76)]
                          have n2 : ¬ (sgs (kK s n) = 0 ∨ lmS fc < sgs (kK s n)) := by omega
                          have e4 : sgs (kK s n) = 4 := by omega
                          have hy5 := hyy
                          rw [show stg (kK s n) + 1 = 5 from by omega] at hy5
                          have n3 : ¬ (sgs (kK s n) = 4 ∧ stg (topK (fmW (tieF 5 (ws, hs, o, T, b, w)))) = 4) := fun z => by
                            have z2 := z.2
                            rw [hy5] at z2
                            have z3 : stg (topK ws2) = 4 := z2
                            rw [topK_0 (Nat.le_of_eq h131)] at z3
                            cases z3
                          have e : sigS s fc n (ws, hs, o, T, b, w) = .inr (1, n + 1, hldX (kK s n) 0 (begX (ws2, hs2', o, T2, b, w2))) := (if_neg n1).trans ((if_neg n2).trans ((if_neg n3).trans ((if_neg (show ¬ 64 ≤ b by omega)).trans (by rw [if_neg (by omega), if_pos e4, hy5]))))
                          rw [e]
                          exact ⟨1, _, ⟨rfl, (Off.pI (A := (fun q => q = 2 ∨ (8 ≤ q ∧ q < 16) ∨ (t ≤ q ∧ q < t + 21))) (Off.pI (A := (fun q => q = 2 ∨ (8 ≤ q ∧ q < 16) ∨ (t ≤ q ∧ q < t + 21))) (Off.pI (A := (fun q => q = 2 ∨ (8 ≤ q ∧ q < 16) ∨ (t ≤ q ∧ q < t + 21))) (Off.pI (A := (fun q => q = 2 ∨ (8 ≤ q ∧ q < 16) ∨ (t ≤ q ∧ q < t + 21))) (Off.pI (A := (fun q => q = 2 ∨ (8 ≤ q ∧ q < 16) ∨ (t ≤ q ∧ q < t + 21))) oo2 (by omega) _ _) (by omega) _ _) (by omega) _ _) (by omega) _ _) (by omega) _ _), ((((hsb.pI (by omega) _ _).pI (by omega) _ _).pI (by omega) _ _).st (n + 1)), by (repeat rw [hI_sI, if_neg (by omega)]); exact o2.I (by omega) 7, by (repeat rw [hI_sI, if_neg (by omega)]); exact o2.I (by omega) 8, (hfb.hld ht24).st2 ht24⟩, rfl⟩
                        · skip
                          refine xq_iconst dX1_readSign_173 ic0 ?_
                          refine xq_goto dX1_readSign_174 rfl ?_
                          refine xq_callV3H clX1 gd_X1_hold dX1_readSign_178 ml_RX1_89 im_X1_hold se_X1_hold rfl (Fx.s8 hF) (by exact Nat.le_of_ble_eq_true rfl) (by decide) (c_hold (sz := ws2.length) hF hsb hk (by omega) hfb.wz (by omega)) ?_
                          intro x178 H178 p178
                          obtain ⟨rfl, rfl⟩ := p178
                          refine xq_goto dX1_readSign_181 rfl ?_
                          refine xq_iret dX1_readSign_185 rfl ?_
                          have n1 : ¬ (kK s n = 42 ∧ 0 < fmO (ws, hs, o, T, b, w)) := fun z => by have z2 : 0 < o := z.2; omega
                          have es : sgs (kK s n) = stg (kK s n) := by unfold sgs; rw [if_neg h58]
                          have hlm : lmS fc = 6 := by unfold lmS; rw [if_neg (by simpa using h76)]
                          have n2 : ¬ (sgs (kK s n) = 0 ∨ lmS fc < sgs (kK s n)) := by omega
                          have e4 : sgs (kK s n) = 4 := by omega
                          have hy5 := hyy
                          rw [show stg (kK s n) + 1 = 5 from by omega] at hy5
                          have n3 : ¬ (sgs (kK s n) = 4 ∧ stg (topK (fmW (tieF 5 (ws, hs, o, T, b, w)))) = 4) := fun z => by
                            have z2 := z.2
                            rw [hy5] at z2
                            have z3 : stg (topK ws2) = 4 := z2
                            rw [topK_0 (Nat.le_of_eq h131)] at z3
                            cases z3
                          have e : sigS s fc n (ws, hs, o, T, b, w) = .inr (0, n + 1, hldX (kK s n) 0 (begX (ws2, hs2', o, T2, b, w2))) := (if_neg n1).trans ((if_neg n2).trans ((if_neg n3).trans ((if_neg (show ¬ 64 ≤ b by omega)).trans (by rw [if_pos (by omega), if_pos e4, hy5]))))
                          rw [e]
                          exact ⟨0, _, ⟨rfl, (Off.pI (A := (fun q => q = 2 ∨ (8 ≤ q ∧ q < 16) ∨ (t ≤ q ∧ q < t + 21))) (Off.pI (A := (fun q => q = 2 ∨ (8 ≤ q ∧ q < 16) ∨ (t ≤ q ∧ q < t + 21))) (Off.pI (A := (fun q => q = 2 ∨ (8 ≤ q ∧ q < 16) ∨ (t ≤ q ∧ q < t + 21))) (Off.pI (A := (fun q => q = 2 ∨ (8 ≤ q ∧ q < 16) ∨ (t ≤ q ∧ q < t + 21))) (Off.pI (A := (fun q => q = 2 ∨ (8 ≤ q ∧ q < 16) ∨ (t ≤ q ∧ q < t + 21))) oo2 (by omega) _ _) (by omega) _ _) (by omega) _ _) (by omega) _ _) (by omega) _ _), ((((hsb.pI (by omega) _ _).pI (by omega) _ _).pI (by omega) _ _).st (n + 1)), by (repeat rw [hI_sI, if_neg (by omega)]); exact o2.I (by omega) 7, by (repeat rw [hI_sI, if_neg (by omega)]); exact o2.I (by omega) 8, (hfb.hld ht24).st2 ht24⟩, rfl⟩
                    · skip
                      have hl0 : 0 < ws2.length := h131
                      have htk := topK_e hl0
                      have htk44 := topK_44 hi2.2.2.2.2.2
                      rw [show topK (fmW (ws2, hs2', o, T2, b, w2)) = topK ws2 from rfl, htk] at htk44
                      have hwv := (hf2.wt (ws2.length - 1) (show ws2.length - 1 < ws2.length by omega)).1
                      have hs8 := stg_7 (k := (lg (0, 0) ws2 (ws2.length - 1)).1)
                      refine xq_aload_n dX1_readSign_134 rfl rfl ?_
                      refine xq_getF clX1 (by decide) rfl fl_RX1_9 dX1_readSign_135 (Fx.s8 hF) (Fx.r8_1 hF) ?_
                      refine xq_aload_n dX1_readSign_138 rfl rfl ?_
                      refine xq_getIE (v := nI ws2.length) clX1 (by decide) rfl fl_RX1_35 dX1_readSign_139 (Fx.s8 hF) hf2.wz ?_
                      refine xq_iconst dX1_readSign_142 ic1 ?_
                      refine xq_isubN dX1_readSign_143 (by show 1 ≤ ws2.length; omega) ?_
                      refine xq_ialdN (v := nI (lg (0, 0) ws2 (ws2.length - 1)).1) dX1_readSign_144 (Fx.s9 hF) (by show ws2.length - 1 < 72; omega) (by decide) hwv ?_
                      refine xq_callS1P gd_X1_strengthOf dX1_readSign_145 ml_RX1_135 im_X1_strengthOf (by exact Nat.le_of_ble_eq_true rfl) (by decide) (c_strengthOf htk44) ?_
                      refine xq_iconst dX1_readSign_148 ic4 ?_
                      refine xq_icmp_neN dX1_readSign_149 rfl (by omega) (by omega) ⟨fun h149 => ?_, fun h149 => ?_⟩
                      · skip
                        refine xq_aload_n dX1_readSign_158 rfl rfl ?_
                        refine xq_callV0H clX1 gd_X1_mayBegin dX1_readSign_159 ml_RX1_78 im_X1_mayBegin se_X1_mayBegin rfl (Fx.s8 hF) (by exact Nat.le_of_ble_eq_true rfl) (by decide) (c_mayBegin (b := b) hF ht hs2 hk (by omega) hf2.kn hf2.bg (by omega)) ?_
                        intro x159 H159 p159
                        obtain ⟨e159, q159, r159⟩ := p159
                        refine xq_if_eqB dX1_readSign_162 rfl ⟨fun h162 => ?_, fun h162 => ?_⟩
                        · skip
                          refine xq_iconst dX1_readSign_184 ic3 ?_
                          refine xq_iret dX1_readSign_185 rfl ?_
                          have n1 : ¬ (kK s n = 42 ∧ 0 < fmO (ws, hs, o, T, b, w)) := fun z => by have z2 : 0 < o := z.2; omega
                          have es : sgs (kK s n) = stg (kK s n) := by unfold sgs; rw [if_neg h58]
                          have hlm : lmS fc = 6 := by unfold lmS; rw [if_neg (by simpa using h76)]
                          have n2 : ¬ (sgs (kK s n) = 0 ∨ lmS fc < sgs (kK s n)) := by omega
                          have e4 : sgs (kK s n) = 4 := by omega
                          have hy5 := hyy
                          rw [show stg (kK s n) + 1 = 5 from by omega] at hy5
                          have n3 : ¬ (sgs (kK s n) = 4 ∧ stg (topK (fmW (tieF 5 (ws, hs, o, T, b, w)))) = 4) := fun z => by
                            have z2 := z.2
                            rw [hy5] at z2
                            have z3 : stg (topK ws2) = 4 := z2
                            rw [htk] at z3
                            exact h149 z3
                          have hb0 : ¬ b < 64 := of_decide_eq_false (e159.symm.trans (by simpa using h162))
                          have q := r159 hb0
                          have e : sigS s fc n (ws, hs, o, T, b, w) = .inl (2, n) := (if_neg n1).trans ((if_neg n2).trans ((if_neg n3).trans (if_pos (show 64 ≤ b by omega))))
                          rw [e]
                          exact ⟨3, H159, ⟨rfl, Off.tr oo2 (q.2.2.2.mo (fun q h => Or.inl h)), q.1, q.2.1, (q.2.2.1 6 (by decide) (by decide)).trans (o2.I (by omega) 6)⟩, rfl⟩
                        · skip
                          have hb1 : b < 64 := of_decide_eq_true (e159.symm.trans (by simpa using h162))
                          have ee := q159 hb1
                          subst ee
                          have hfb := hf2.beg (v := b + 1) ht24
                          have hsb : TrP (sI H119 (t + 7) 4 (nI (b + 1))) s n := hs2.pI (by omega) _ _
                          refine xq_aload_n dX1_readSign_165 rfl rfl ?_
                          refine xq_iload_n dX1_readSign_166 rfl rfl ?_
                          refine xq_iconst dX1_readSign_167 ic0 ?_
                          refine xq_iload_n dX1_readSign_168 rfl rfl ?_
                          refine xq_iconst dX1_readSign_169 ic2 ?_
                          refine xq_icmp_gtN dX1_readSign_170 rfl (by omega) (by omega) ⟨fun h170 => ?_, fun h170 => ?_⟩
                          · skip
                            refine xq_iconst dX1_readSign_177 ic1 ?_
                            refine xq_callV3H clX1 gd_X1_hold dX1_readSign_178 ml_RX1_89 im_X1_hold se_X1_hold rfl (Fx.s8 hF) (by exact Nat.le_of_ble_eq_true rfl) (by decide) (c_hold (sz := ws2.length) hF hsb hk (by omega) hfb.wz (by omega)) ?_
                            intro x178 H178 p178
                            obtain ⟨rfl, rfl⟩ := p178
                            refine xq_goto dX1_readSign_181 rfl ?_
                            refine xq_iret dX1_readSign_185 rfl ?_
                            have n1 : ¬ (kK s n = 42 ∧ 0 < fmO (ws, hs, o, T, b, w)) := fun z => by have z2 : 0 < o := z.2; omega
                            have es : sgs (kK s n) = stg (kK s n) := by unfold sgs; rw [if_neg h58]
                            have hlm : lmS fc = 6 := by unfold lmS; rw [if_neg (by simpa using h76)]
                            have n2 : ¬ (sgs (kK s n) = 0 ∨ lmS fc < sgs (kK s n)) := by omega
                            have e4 : sgs (kK s n) = 4 := by omega
                            have hy5 := hyy
                            rw [show stg (kK s n) + 1 = 5 from by omega] at hy5
                            have n3 : ¬ (sgs (kK s n) = 4 ∧ stg (topK (fmW (tieF 5 (ws, hs, o, T, b, w)))) = 4) := fun z => by
                              have z2 := z.2
                              rw [hy5] at z2
                              have z3 : stg (topK ws2) = 4 := z2
                              rw [htk] at z3
                              exact h149 z3
                            have e : sigS s fc n (ws, hs, o, T, b, w) = .inr (1, n + 1, hldX (kK s n) 0 (begX (ws2, hs2', o, T2, b, w2))) := (if_neg n1).trans ((if_neg n2).trans ((if_neg n3).trans ((if_neg (show ¬ 64 ≤ b by omega)).trans (by rw [if_neg (by omega), if_pos e4, hy5]))))
                            rw [e]
                            exact ⟨1, _, ⟨rfl, (Off.pI (A := (fun q => q = 2 ∨ (8 ≤ q ∧ q < 16) ∨ (t ≤ q ∧ q < t + 21))) (Off.pI (A := (fun q => q = 2 ∨ (8 ≤ q ∧ q < 16) ∨ (t ≤ q ∧ q < t + 21))) (Off.pI (A := (fun q => q = 2 ∨ (8 ≤ q ∧ q < 16) ∨ (t ≤ q ∧ q < t + 21))) (Off.pI (A := (fun q => q = 2 ∨ (8 ≤ q ∧ q < 16) ∨ (t ≤ q ∧ q < t + 21))) (Off.pI (A := (fun q => q = 2 ∨ (8 ≤ q ∧ q < 16) ∨ (t ≤ q ∧ q < t + 21))) oo2 (by omega) _ _) (by omega) _ _) (by omega) _ _) (by omega) _ _) (by omega) _ _), ((((hsb.pI (by omega) _ _).pI (by omega) _ _).pI (by omega) _ _).st (n + 1)), by (repeat rw [hI_sI, if_neg (by omega)]); exact o2.I (by omega) 7, by (repeat rw [hI_sI, if_neg (by omega)]); exact o2.I (by omega) 8, (hfb.hld ht24).st2 ht24⟩, rfl⟩
                          · skip
                            refine xq_iconst dX1_readSign_173 ic0 ?_
                            refine xq_goto dX1_readSign_174 rfl ?_
                            refine xq_callV3H clX1 gd_X1_hold dX1_readSign_178 ml_RX1_89 im_X1_hold se_X1_hold rfl (Fx.s8 hF) (by exact Nat.le_of_ble_eq_true rfl) (by decide) (c_hold (sz := ws2.length) hF hsb hk (by omega) hfb.wz (by omega)) ?_
                            intro x178 H178 p178
                            obtain ⟨rfl, rfl⟩ := p178
                            refine xq_goto dX1_readSign_181 rfl ?_
                            refine xq_iret dX1_readSign_185 rfl ?_
                            have n1 : ¬ (kK s n = 42 ∧ 0 < fmO (ws, hs, o, T, b, w)) := fun z => by have z2 : 0 < o := z.2; omega
                            have es : sgs (kK s n) = stg (kK s n) := by unfold sgs; rw [if_neg h58]
                            have hlm : lmS fc = 6 := by unfold lmS; rw [if_neg (by simpa using h76)]
                            have n2 : ¬ (sgs (kK s n) = 0 ∨ lmS fc < sgs (kK s n)) := by omega
                            have e4 : sgs (kK s n) = 4 := by omega
                            have hy5 := hyy
                            rw [show stg (kK s n) + 1 = 5 from by omega] at hy5
                            have n3 : ¬ (sgs (kK s n) = 4 ∧ stg (topK (fmW (tieF 5 (ws, hs, o, T, b, w)))) = 4) := fun z => by
                              have z2 := z.2
                              rw [hy5] at z2
                              have z3 : stg (topK ws2) = 4 := z2
                              rw [htk] at z3
                              exact h149 z3
                            have e : sigS s fc n (ws, hs, o, T, b, w) = .inr (0, n + 1, hldX (kK s n) 0 (begX (ws2, hs2', o, T2, b, w2))) := (if_neg n1).trans ((if_neg n2).trans ((if_neg n3).trans ((if_neg (show ¬ 64 ≤ b by omega)).trans (by rw [if_pos (by omega), if_pos e4, hy5]))))
                            rw [e]
                            exact ⟨0, _, ⟨rfl, (Off.pI (A := (fun q => q = 2 ∨ (8 ≤ q ∧ q < 16) ∨ (t ≤ q ∧ q < t + 21))) (Off.pI (A := (fun q => q = 2 ∨ (8 ≤ q ∧ q < 16) ∨ (t ≤ q ∧ q < t + 21))) (Off.pI (A := (fun q => q = 2 ∨ (8 ≤ q ∧ q < 16) ∨ (t ≤ q ∧ q < t + 21))) (Off.pI (A := (fun q => q = 2 ∨ (8 ≤ q ∧ q < 16) ∨ (t ≤ q ∧ q < t + 21))) (Off.pI (A := (fun q => q = 2 ∨ (8 ≤ q ∧ q < 16) ∨ (t ≤ q ∧ q < t + 21))) oo2 (by omega) _ _) (by omega) _ _) (by omega) _ _) (by omega) _ _) (by omega) _ _), ((((hsb.pI (by omega) _ _).pI (by omega) _ _).pI (by omega) _ _).st (n + 1)), by (repeat rw [hI_sI, if_neg (by omega)]); exact o2.I (by omega) 7, by (repeat rw [hI_sI, if_neg (by omega)]); exact o2.I (by omega) 8, (hfb.hld ht24).st2 ht24⟩, rfl⟩
                      · skip
                        refine xq_aload_n dX1_readSign_152 rfl rfl ?_
                        refine xq_iconst dX1_readSign_153 ic1 ?_
                        refine xq_callV1H clX1 gd_X1_wrong dX1_readSign_154 ml_RX1_112 im_X1_wrong se_X1_wrong rfl (Fx.s8 hF) (by exact Nat.le_of_ble_eq_true rfl) (by decide) (c_wrong hF hs2 hk (by omega) (c := 1) (by decide)) ?_
                        intro x154 H154 p154
                        obtain ⟨rfl, q154⟩ := p154
                        refine xq_iret dX1_readSign_157 rfl ?_
                        have n1 : ¬ (kK s n = 42 ∧ 0 < fmO (ws, hs, o, T, b, w)) := fun z => by have z2 : 0 < o := z.2; omega
                        have es : sgs (kK s n) = stg (kK s n) := by unfold sgs; rw [if_neg h58]
                        have hlm : lmS fc = 6 := by unfold lmS; rw [if_neg (by simpa using h76)]
                        have n2 : ¬ (sgs (kK s n) = 0 ∨ lmS fc < sgs (kK s n)) := by omega
                        have e4 : sgs (kK s n) = 4 := by omega
                        have hy5 := hyy
                        rw [show stg (kK s n) + 1 = 5 from by omega] at hy5
                        have e : sigS s fc n (ws, hs, o, T, b, w) = .inl (1, n) := (if_neg n1).trans ((if_neg n2).trans (if_pos ⟨e4, by rw [hy5]; show stg (topK ws2) = 4; rw [htk]; exact h149⟩))
                        rw [e]
                        exact ⟨3, H154, ⟨rfl, Off.tr oo2 (q154.2.2.2.mo (fun q h => Or.inl h)), q154.1, q154.2.1, (q154.2.2.1 6 (by decide) (by decide)).trans (o2.I (by omega) 6)⟩, rfl⟩
            · skip
              refine xq_aload_n dX1_readSign_88 rfl rfl ?_
              refine xq_iconst dX1_readSign_89 ic1 ?_
              refine xq_callV1H clX1 gd_X1_wrong dX1_readSign_90 ml_RX1_112 im_X1_wrong se_X1_wrong rfl (Fx.s8 hF) (by exact Nat.le_of_ble_eq_true rfl) (by decide) (c_wrong hF hs1 hk (by omega) (c := 1) (by decide)) ?_
              intro x90 H90 p90
              obtain ⟨rfl, q90⟩ := p90
              refine xq_iret dX1_readSign_93 rfl ?_
              have n1 : ¬ (kK s n = 42 ∧ 0 < fmO (ws, hs, o, T, b, w)) := fun z => by have z2 : 0 < o := z.2; omega
              have es : sgs (kK s n) = stg (kK s n) := by unfold sgs; rw [if_neg h58]
              have hlm : lmS fc = 6 := by unfold lmS; rw [if_neg (by simpa using h76)]
              have e : sigS s fc n (ws, hs, o, T, b, w) = .inl (1, n) := (if_neg n1).trans (if_pos (Or.inr (by omega)))
              rw [e]
              exact ⟨3, H90, ⟨rfl, Off.tr Off.rf (q90.2.2.2.mo (fun q h => Or.inl h)), q90.1, q90.2.1, (q90.2.2.1 6 (by decide) (by decide)).trans rfl⟩, rfl⟩
          · skip
            refine xq_iconst dX1_readSign_79 ic2 ?_
            refine xq_goto dX1_readSign_80 rfl ?_
            refine xq_icmp_leN dX1_readSign_85 rfl (by omega) (by omega) ⟨fun h85 => ?_, fun h85 => ?_⟩
            · skip
              refine xq_iload_n dX1_readSign_94 rfl rfl ?_
              refine xq_iconst dX1_readSign_95 ic4 ?_
              refine xq_icmp_neN dX1_readSign_96 rfl (by omega) (by omega) ⟨fun h96 => ?_, fun h96 => ?_⟩
              · skip
                refine xq_iconst dX1_readSign_103 ic0 ?_
                refine xq_istore dX1_readSign_104 rfl ?_
                refine xq_aload_n dX1_readSign_106 rfl rfl ?_
                refine xq_iload dX1_readSign_107 rfl ?_
                refine xq_if_eqN dX1_readSign_109 rfl (by omega) ⟨fun h109 => ?_, fun h109 => ?_⟩
                · skip
                  refine xq_iload_n dX1_readSign_118 rfl rfl ?_
                  refine xq_callV1N clX1 gd_X1_tieDownTo dX1_readSign_119 ml_RX1_55 im_X1_tieDownTo se_X1_tieDownTo rfl (Fx.s8 hF) (by exact Nat.le_of_ble_eq_true rfl) (by decide) (c_tieDownTo (st := stg (kK s n)) hF ht ht24 ht45 hf hi (by omega) (by omega)) ?_
                  intro H119 p119
                  obtain ⟨hf2, o2⟩ := p119
                  have hi2 := FI.tieF (st := stg (kK s n)) (by omega) hi
                  have hs2 : TrP H119 s n := hs1.off o2 (fun q h => by omega)
                  have oo2 : Off (fun q => q = 2 ∨ (8 ≤ q ∧ q < 16) ∨ (t ≤ q ∧ q < t + 21)) H H119 := o2.mo (fun q h => by omega)
                  generalize hyy : tieF (stg (kK s n)) (ws, hs, o, T, b, w) = y at hf2 hi2
                  obtain ⟨ws2, hs2', o3, T2, b3, w2⟩ := y
                  have eo : o = o3 := tieF_o.symm.trans (congrArg fmO hyy)
                  have eb : b = b3 := tieF_b.symm.trans (congrArg fmB hyy)
                  subst eo
                  subst eb
                  have hib := hi2.a
                  obtain ⟨j1, j2, j3, j4, j5⟩ := hib
                  refine xq_iload dX1_readSign_122 rfl ?_
                  refine xq_if_eqN dX1_readSign_124 rfl (by omega) ⟨fun h124 => ?_, fun h124 => ?_⟩
                  · skip
                    refine xq_aload_n dX1_readSign_158 rfl rfl ?_
                    refine xq_callV0H clX1 gd_X1_mayBegin dX1_readSign_159 ml_RX1_78 im_X1_mayBegin se_X1_mayBegin rfl (Fx.s8 hF) (by exact Nat.le_of_ble_eq_true rfl) (by decide) (c_mayBegin (b := b) hF ht hs2 hk (by omega) hf2.kn hf2.bg (by omega)) ?_
                    intro x159 H159 p159
                    obtain ⟨e159, q159, r159⟩ := p159
                    refine xq_if_eqB dX1_readSign_162 rfl ⟨fun h162 => ?_, fun h162 => ?_⟩
                    · skip
                      refine xq_iconst dX1_readSign_184 ic3 ?_
                      refine xq_iret dX1_readSign_185 rfl ?_
                      have n1 : ¬ (kK s n = 42 ∧ 0 < fmO (ws, hs, o, T, b, w)) := fun z => by have z2 : 0 < o := z.2; omega
                      have es : sgs (kK s n) = stg (kK s n) := by unfold sgs; rw [if_neg h58]
                      have hlm : lmS fc = 2 := by unfold lmS; rw [if_pos (by simpa using h76)]
                      have n2 : ¬ (sgs (kK s n) = 0 ∨ lmS fc < sgs (kK s n)) := by omega
                      have n3 : ¬ (sgs (kK s n) = 4 ∧ stg (topK (fmW (tieF 5 (ws, hs, o, T, b, w)))) = 4) := fun z => by omega
                      have hb0 : ¬ b < 64 := of_decide_eq_false (e159.symm.trans (by simpa using h162))
                      have q := r159 hb0
                      have e : sigS s fc n (ws, hs, o, T, b, w) = .inl (2, n) := (if_neg n1).trans ((if_neg n2).trans ((if_neg n3).trans (if_pos (show 64 ≤ b by omega))))
                      rw [e]
                      exact ⟨3, H159, ⟨rfl, Off.tr oo2 (q.2.2.2.mo (fun q h => Or.inl h)), q.1, q.2.1, (q.2.2.1 6 (by decide) (by decide)).trans (o2.I (by omega) 6)⟩, rfl⟩
                    · skip
                      have hb1 : b < 64 := of_decide_eq_true (e159.symm.trans (by simpa using h162))
                      have ee := q159 hb1
                      subst ee
                      have hfb := hf2.beg (v := b + 1) ht24
                      have hsb : TrP (sI H119 (t + 7) 4 (nI (b + 1))) s n := hs2.pI (by omega) _ _
                      refine xq_aload_n dX1_readSign_165 rfl rfl ?_
                      refine xq_iload_n dX1_readSign_166 rfl rfl ?_
                      refine xq_iconst dX1_readSign_167 ic0 ?_
                      refine xq_iload_n dX1_readSign_168 rfl rfl ?_
                      refine xq_iconst dX1_readSign_169 ic2 ?_
                      refine xq_icmp_gtN dX1_readSign_170 rfl (by omega) (by omega) ⟨fun h170 => ?_, fun h170 => ?_⟩
                      · skip
                        refine xq_iconst dX1_readSign_177 ic1 ?_
                        refine xq_callV3H clX1 gd_X1_hold dX1_readSign_178 ml_RX1_89 im_X1_hold se_X1_hold rfl (Fx.s8 hF) (by exact Nat.le_of_ble_eq_true rfl) (by decide) (c_hold (sz := ws2.length) hF hsb hk (by omega) hfb.wz (by omega)) ?_
                        intro x178 H178 p178
                        obtain ⟨rfl, rfl⟩ := p178
                        refine xq_goto dX1_readSign_181 rfl ?_
                        refine xq_iret dX1_readSign_185 rfl ?_
                        have n1 : ¬ (kK s n = 42 ∧ 0 < fmO (ws, hs, o, T, b, w)) := fun z => by have z2 : 0 < o := z.2; omega
                        have es : sgs (kK s n) = stg (kK s n) := by unfold sgs; rw [if_neg h58]
                        have hlm : lmS fc = 2 := by unfold lmS; rw [if_pos (by simpa using h76)]
                        have n2 : ¬ (sgs (kK s n) = 0 ∨ lmS fc < sgs (kK s n)) := by omega
                        have n3 : ¬ (sgs (kK s n) = 4 ∧ stg (topK (fmW (tieF 5 (ws, hs, o, T, b, w)))) = 4) := fun z => by omega
                        have e : sigS s fc n (ws, hs, o, T, b, w) = .inr (1, n + 1, hldX (kK s n) 0 (begX (ws2, hs2', o, T2, b, w2))) := (if_neg n1).trans ((if_neg n2).trans ((if_neg n3).trans ((if_neg (show ¬ 64 ≤ b by omega)).trans (by rw [if_neg (by omega), if_neg (by omega), es, hyy]))))
                        rw [e]
                        exact ⟨1, _, ⟨rfl, (Off.pI (A := (fun q => q = 2 ∨ (8 ≤ q ∧ q < 16) ∨ (t ≤ q ∧ q < t + 21))) (Off.pI (A := (fun q => q = 2 ∨ (8 ≤ q ∧ q < 16) ∨ (t ≤ q ∧ q < t + 21))) (Off.pI (A := (fun q => q = 2 ∨ (8 ≤ q ∧ q < 16) ∨ (t ≤ q ∧ q < t + 21))) (Off.pI (A := (fun q => q = 2 ∨ (8 ≤ q ∧ q < 16) ∨ (t ≤ q ∧ q < t + 21))) (Off.pI (A := (fun q => q = 2 ∨ (8 ≤ q ∧ q < 16) ∨ (t ≤ q ∧ q < t + 21))) oo2 (by omega) _ _) (by omega) _ _) (by omega) _ _) (by omega) _ _) (by omega) _ _), ((((hsb.pI (by omega) _ _).pI (by omega) _ _).pI (by omega) _ _).st (n + 1)), by (repeat rw [hI_sI, if_neg (by omega)]); exact o2.I (by omega) 7, by (repeat rw [hI_sI, if_neg (by omega)]); exact o2.I (by omega) 8, (hfb.hld ht24).st2 ht24⟩, rfl⟩
                      · skip
                        refine xq_iconst dX1_readSign_173 ic0 ?_
                        refine xq_goto dX1_readSign_174 rfl ?_
                        refine xq_callV3H clX1 gd_X1_hold dX1_readSign_178 ml_RX1_89 im_X1_hold se_X1_hold rfl (Fx.s8 hF) (by exact Nat.le_of_ble_eq_true rfl) (by decide) (c_hold (sz := ws2.length) hF hsb hk (by omega) hfb.wz (by omega)) ?_
                        intro x178 H178 p178
                        obtain ⟨rfl, rfl⟩ := p178
                        refine xq_goto dX1_readSign_181 rfl ?_
                        refine xq_iret dX1_readSign_185 rfl ?_
                        have n1 : ¬ (kK s n = 42 ∧ 0 < fmO (ws, hs, o, T, b, w)) := fun z => by have z2 : 0 < o := z.2; omega
                        have es : sgs (kK s n) = stg (kK s n) := by unfold sgs; rw [if_neg h58]
                        have hlm : lmS fc = 2 := by unfold lmS; rw [if_pos (by simpa using h76)]
                        have n2 : ¬ (sgs (kK s n) = 0 ∨ lmS fc < sgs (kK s n)) := by omega
                        have n3 : ¬ (sgs (kK s n) = 4 ∧ stg (topK (fmW (tieF 5 (ws, hs, o, T, b, w)))) = 4) := fun z => by omega
                        have e : sigS s fc n (ws, hs, o, T, b, w) = .inr (0, n + 1, hldX (kK s n) 0 (begX (ws2, hs2', o, T2, b, w2))) := (if_neg n1).trans ((if_neg n2).trans ((if_neg n3).trans ((if_neg (show ¬ 64 ≤ b by omega)).trans (by rw [if_pos (by omega), if_neg (by omega), es, hyy]))))
                        rw [e]
                        exact ⟨0, _, ⟨rfl, (Off.pI (A := (fun q => q = 2 ∨ (8 ≤ q ∧ q < 16) ∨ (t ≤ q ∧ q < t + 21))) (Off.pI (A := (fun q => q = 2 ∨ (8 ≤ q ∧ q < 16) ∨ (t ≤ q ∧ q < t + 21))) (Off.pI (A := (fun q => q = 2 ∨ (8 ≤ q ∧ q < 16) ∨ (t ≤ q ∧ q < t + 21))) (Off.pI (A := (fun q => q = 2 ∨ (8 ≤ q ∧ q < 16) ∨ (t ≤ q ∧ q < t + 21))) (Off.pI (A := (fun q => q = 2 ∨ (8 ≤ q ∧ q < 16) ∨ (t ≤ q ∧ q < t + 21))) oo2 (by omega) _ _) (by omega) _ _) (by omega) _ _) (by omega) _ _) (by omega) _ _), ((((hsb.pI (by omega) _ _).pI (by omega) _ _).pI (by omega) _ _).st (n + 1)), by (repeat rw [hI_sI, if_neg (by omega)]); exact o2.I (by omega) 7, by (repeat rw [hI_sI, if_neg (by omega)]); exact o2.I (by omega) 8, (hfb.hld ht24).st2 ht24⟩, rfl⟩
                  · skip
                    first | exact absurd h124 (by decide) | exact absurd rfl h124
                · skip
                  first | exact absurd h109 (by decide) | exact absurd rfl h109
              · skip
                refine xq_iconst dX1_readSign_99 ic1 ?_
                refine xq_goto dX1_readSign_100 rfl ?_
                refine xq_istore dX1_readSign_104 rfl ?_
                refine xq_aload_n dX1_readSign_106 rfl rfl ?_
                refine xq_iload dX1_readSign_107 rfl ?_
                refine xq_if_eqN dX1_readSign_109 rfl (by omega) ⟨fun h109 => ?_, fun h109 => ?_⟩
                · skip
                  first | exact absurd h109 (by decide) | exact absurd rfl h109
                · skip
                  refine xq_iload_n dX1_readSign_112 rfl rfl ?_
                  refine xq_iconst dX1_readSign_113 ic1 ?_
                  refine xq_iaddN dX1_readSign_114 ?_
                  refine xq_goto dX1_readSign_115 rfl ?_
                  refine xq_callV1N clX1 gd_X1_tieDownTo dX1_readSign_119 ml_RX1_55 im_X1_tieDownTo se_X1_tieDownTo rfl (Fx.s8 hF) (by exact Nat.le_of_ble_eq_true rfl) (by decide) (c_tieDownTo (st := stg (kK s n) + 1) hF ht ht24 ht45 hf hi (by omega) (by omega)) ?_
                  intro H119 p119
                  obtain ⟨hf2, o2⟩ := p119
                  have hi2 := FI.tieF (st := stg (kK s n) + 1) (by omega) hi
                  have hs2 : TrP H119 s n := hs1.off o2 (fun q h => by omega)
                  have oo2 : Off (fun q => q = 2 ∨ (8 ≤ q ∧ q < 16) ∨ (t ≤ q ∧ q < t + 21)) H H119 := o2.mo (fun q h => by omega)
                  generalize hyy : tieF (stg (kK s n) + 1) (ws, hs, o, T, b, w) = y at hf2 hi2
                  obtain ⟨ws2, hs2', o3, T2, b3, w2⟩ := y
                  have eo : o = o3 := tieF_o.symm.trans (congrArg fmO hyy)
                  have eb : b = b3 := tieF_b.symm.trans (congrArg fmB hyy)
                  subst eo
                  subst eb
                  have hib := hi2.a
                  obtain ⟨j1, j2, j3, j4, j5⟩ := hib
                  refine xq_iload dX1_readSign_122 rfl ?_
                  refine xq_if_eqN dX1_readSign_124 rfl (by omega) ⟨fun h124 => ?_, fun h124 => ?_⟩
                  · skip
                    first | exact absurd h124 (by decide) | exact absurd rfl h124
                  · skip
                    refine xq_aload_n dX1_readSign_127 rfl rfl ?_
                    refine xq_getIE (v := nI ws2.length) clX1 (by decide) rfl fl_RX1_35 dX1_readSign_128 (Fx.s8 hF) hf2.wz ?_
                    refine xq_if_leN dX1_readSign_131 rfl (by omega) ⟨fun h131 => ?_, fun h131 => ?_⟩
                    · skip
                      refine xq_aload_n dX1_readSign_158 rfl rfl ?_
                      refine xq_callV0H clX1 gd_X1_mayBegin dX1_readSign_159 ml_RX1_78 im_X1_mayBegin se_X1_mayBegin rfl (Fx.s8 hF) (by exact Nat.le_of_ble_eq_true rfl) (by decide) (c_mayBegin (b := b) hF ht hs2 hk (by omega) hf2.kn hf2.bg (by omega)) ?_
                      intro x159 H159 p159
                      obtain ⟨e159, q159, r159⟩ := p159
                      refine xq_if_eqB dX1_readSign_162 rfl ⟨fun h162 => ?_, fun h162 => ?_⟩
                      · skip
                        refine xq_iconst dX1_readSign_184 ic3 ?_
                        refine xq_iret dX1_readSign_185 rfl ?_
                        have n1 : ¬ (kK s n = 42 ∧ 0 < fmO (ws, hs, o, T, b, w)) := fun z => by have z2 : 0 < o := z.2; omega
                        have es : sgs (kK s n) = stg (kK s n) := by unfold sgs; rw [if_neg h58]
                        have hlm : lmS fc = 2 := by unfold lmS; rw [if_pos (by simpa using h76)]
                        have n2 : ¬ (sgs (kK s n) = 0 ∨ lmS fc < sgs (kK s n)) := by omega
                        have e4 : sgs (kK s n) = 4 := by omega
                        have hy5 := hyy
                        rw [show stg (kK s n) + 1 = 5 from by omega] at hy5
                        have n3 : ¬ (sgs (kK s n) = 4 ∧ stg (topK (fmW (tieF 5 (ws, hs, o, T, b, w)))) = 4) := fun z => by
                          have z2 := z.2
                          rw [hy5] at z2
                          have z3 : stg (topK ws2) = 4 := z2
                          rw [topK_0 (Nat.le_of_eq h131)] at z3
                          cases z3
                        have hb0 : ¬ b < 64 := of_decide_eq_false (e159.symm.trans (by simpa using h162))
                        have q := r159 hb0
                        have e : sigS s fc n (ws, hs, o, T, b, w) = .inl (2, n) := (if_neg n1).trans ((if_neg n2).trans ((if_neg n3).trans (if_pos (show 64 ≤ b by omega))))
                        rw [e]
                        exact ⟨3, H159, ⟨rfl, Off.tr oo2 (q.2.2.2.mo (fun q h => Or.inl h)), q.1, q.2.1, (q.2.2.1 6 (by decide) (by decide)).trans (o2.I (by omega) 6)⟩, rfl⟩
                      · skip
                        have hb1 : b < 64 := of_decide_eq_true (e159.symm.trans (by simpa using h162))
                        have ee := q159 hb1
                        subst ee
                        have hfb := hf2.beg (v := b + 1) ht24
                        have hsb : TrP (sI H119 (t + 7) 4 (nI (b + 1))) s n := hs2.pI (by omega) _ _
                        refine xq_aload_n dX1_readSign_165 rfl rfl ?_
                        refine xq_iload_n dX1_readSign_166 rfl rfl ?_
                        refine xq_iconst dX1_readSign_167 ic0 ?_
                        refine xq_iload_n dX1_readSign_168 rfl rfl ?_
                        refine xq_iconst dX1_readSign_169 ic2 ?_
                        refine xq_icmp_gtN dX1_readSign_170 rfl (by omega) (by omega) ⟨fun h170 => ?_, fun h170 => ?_⟩
                        · skip
                          refine xq_iconst dX1_readSign_177 ic1 ?_
                          refine xq_callV3H clX1 gd_X1_hold dX1_readSign_178 ml_RX1_89 im_X1_hold se_X1_hold rfl (Fx.s8 hF) (by exact Nat.le_of_ble_eq_true rfl) (by decide) (c_hold (sz := ws2.length) hF hsb hk (by omega) hfb.wz (by omega)) ?_
                          intro x178 H178 p178
                          obtain ⟨rfl, rfl⟩ := p178
                          refine xq_goto dX1_readSign_181 rfl ?_
                          refine xq_iret dX1_readSign_185 rfl ?_
                          have n1 : ¬ (kK s n = 42 ∧ 0 < fmO (ws, hs, o, T, b, w)) := fun z => by have z2 : 0 < o := z.2; omega
                          have es : sgs (kK s n) = stg (kK s n) := by unfold sgs; rw [if_neg h58]
                          have hlm : lmS fc = 2 := by unfold lmS; rw [if_pos (by simpa using h76)]
                          have n2 : ¬ (sgs (kK s n) = 0 ∨ lmS fc < sgs (kK s n)) := by omega
                          have e4 : sgs (kK s n) = 4 := by omega
                          have hy5 := hyy
                          rw [show stg (kK s n) + 1 = 5 from by omega] at hy5
                          have n3 : ¬ (sgs (kK s n) = 4 ∧ stg (topK (fmW (tieF 5 (ws, hs, o, T, b, w)))) = 4) := fun z => by
                            have z2 := z.2
                            rw [hy5] at z2
                            have z3 : stg (topK ws2) = 4 := z2
                            rw [topK_0 (Nat.le_of_eq h131)] at z3
                            cases z3
                          have e : sigS s fc n (ws, hs, o, T, b, w) = .inr (1, n + 1, hldX (kK s n) 0 (begX (ws2, hs2', o, T2, b, w2))) := (if_neg n1).trans ((if_neg n2).trans ((if_neg n3).trans ((if_neg (show ¬ 64 ≤ b by omega)).trans (by rw [if_neg (by omega), if_pos e4, hy5]))))
                          rw [e]
                          exact ⟨1, _, ⟨rfl, (Off.pI (A := (fun q => q = 2 ∨ (8 ≤ q ∧ q < 16) ∨ (t ≤ q ∧ q < t + 21))) (Off.pI (A := (fun q => q = 2 ∨ (8 ≤ q ∧ q < 16) ∨ (t ≤ q ∧ q < t + 21))) (Off.pI (A := (fun q => q = 2 ∨ (8 ≤ q ∧ q < 16) ∨ (t ≤ q ∧ q < t + 21))) (Off.pI (A := (fun q => q = 2 ∨ (8 ≤ q ∧ q < 16) ∨ (t ≤ q ∧ q < t + 21))) (Off.pI (A := (fun q => q = 2 ∨ (8 ≤ q ∧ q < 16) ∨ (t ≤ q ∧ q < t + 21))) oo2 (by omega) _ _) (by omega) _ _) (by omega) _ _) (by omega) _ _) (by omega) _ _), ((((hsb.pI (by omega) _ _).pI (by omega) _ _).pI (by omega) _ _).st (n + 1)), by (repeat rw [hI_sI, if_neg (by omega)]); exact o2.I (by omega) 7, by (repeat rw [hI_sI, if_neg (by omega)]); exact o2.I (by omega) 8, (hfb.hld ht24).st2 ht24⟩, rfl⟩
                        · skip
                          refine xq_iconst dX1_readSign_173 ic0 ?_
                          refine xq_goto dX1_readSign_174 rfl ?_
                          refine xq_callV3H clX1 gd_X1_hold dX1_readSign_178 ml_RX1_89 im_X1_hold se_X1_hold rfl (Fx.s8 hF) (by exact Nat.le_of_ble_eq_true rfl) (by decide) (c_hold (sz := ws2.length) hF hsb hk (by omega) hfb.wz (by omega)) ?_
                          intro x178 H178 p178
                          obtain ⟨rfl, rfl⟩ := p178
                          refine xq_goto dX1_readSign_181 rfl ?_
                          refine xq_iret dX1_readSign_185 rfl ?_
                          have n1 : ¬ (kK s n = 42 ∧ 0 < fmO (ws, hs, o, T, b, w)) := fun z => by have z2 : 0 < o := z.2; omega
                          have es : sgs (kK s n) = stg (kK s n) := by unfold sgs; rw [if_neg h58]
                          have hlm : lmS fc = 2 := by unfold lmS; rw [if_pos (by simpa using h76)]
                          have n2 : ¬ (sgs (kK s n) = 0 ∨ lmS fc < sgs (kK s n)) := by omega
                          have e4 : sgs (kK s n) = 4 := by omega
                          have hy5 := hyy
                          rw [show stg (kK s n) + 1 = 5 from by omega] at hy5
                          have n3 : ¬ (sgs (kK s n) = 4 ∧ stg (topK (fmW (tieF 5 (ws, hs, o, T, b, w)))) = 4) := fun z => by
                            have z2 := z.2
                            rw [hy5] at z2
                            have z3 : stg (topK ws2) = 4 := z2
                            rw [topK_0 (Nat.le_of_eq h131)] at z3
                            cases z3
                          have e : sigS s fc n (ws, hs, o, T, b, w) = .inr (0, n + 1, hldX (kK s n) 0 (begX (ws2, hs2', o, T2, b, w2))) := (if_neg n1).trans ((if_neg n2).trans ((if_neg n3).trans ((if_neg (show ¬ 64 ≤ b by omega)).trans (by rw [if_pos (by omega), if_pos e4, hy5]))))
                          rw [e]
                          exact ⟨0, _, ⟨rfl, (Off.pI (A := (fun q => q = 2 ∨ (8 ≤ q ∧ q < 16) ∨ (t ≤ q ∧ q < t + 21))) (Off.pI (A := (fun q => q = 2 ∨ (8 ≤ q ∧ q < 16) ∨ (t ≤ q ∧ q < t + 21))) (Off.pI (A := (fun q => q = 2 ∨ (8 ≤ q ∧ q < 16) ∨ (t ≤ q ∧ q < t + 21))) (Off.pI (A := (fun q => q = 2 ∨ (8 ≤ q ∧ q < 16) ∨ (t ≤ q ∧ q < t + 21))) (Off.pI (A := (fun q => q = 2 ∨ (8 ≤ q ∧ q < 16) ∨ (t ≤ q ∧ q < t + 21))) oo2 (by omega) _ _) (by omega) _ _) (by omega) _ _) (by omega) _ _) (by omega) _ _), ((((hsb.pI (by omega) _ _).pI (by omega) _ _).pI (by omega) _ _).st (n + 1)), by (repeat rw [hI_sI, if_neg (by omega)]); exact o2.I (by omega) 7, by (repeat rw [hI_sI, if_neg (by omega)]); exact o2.I (by omega) 8, (hfb.hld ht24).st2 ht24⟩, rfl⟩
                    · skip
                      have hl0 : 0 < ws2.length := h131
                      have htk := topK_e hl0
                      have htk44 := topK_44 hi2.2.2.2.2.2
                      rw [show topK (fmW (ws2, hs2', o, T2, b, w2)) = topK ws2 from rfl, htk] at htk44
                      have hwv := (hf2.wt (ws2.length - 1) (show ws2.length - 1 < ws2.length by omega)).1
                      have hs8 := stg_7 (k := (lg (0, 0) ws2 (ws2.length - 1)).1)
                      refine xq_aload_n dX1_readSign_134 rfl rfl ?_
                      refine xq_getF clX1 (by decide) rfl fl_RX1_9 dX1_readSign_135 (Fx.s8 hF) (Fx.r8_1 hF) ?_
                      refine xq_aload_n dX1_readSign_138 rfl rfl ?_
                      refine xq_getIE (v := nI ws2.length) clX1 (by decide) rfl fl_RX1_35 dX1_readSign_139 (Fx.s8 hF) hf2.wz ?_
                      refine xq_iconst dX1_readSign_142 ic1 ?_
                      refine xq_isubN dX1_readSign_143 (by show 1 ≤ ws2.length; omega) ?_
                      refine xq_ialdN (v := nI (lg (0, 0) ws2 (ws2.length - 1)).1) dX1_readSign_144 (Fx.s9 hF) (by show ws2.length - 1 < 72; omega) (by decide) hwv ?_
                      refine xq_callS1P gd_X1_strengthOf dX1_readSign_145 ml_RX1_135 im_X1_strengthOf (by exact Nat.le_of_ble_eq_true rfl) (by decide) (c_strengthOf htk44) ?_
                      refine xq_iconst dX1_readSign_148 ic4 ?_
                      refine xq_icmp_neN dX1_readSign_149 rfl (by omega) (by omega) ⟨fun h149 => ?_, fun h149 => ?_⟩
                      · skip
                        refine xq_aload_n dX1_readSign_158 rfl rfl ?_
                        refine xq_callV0H clX1 gd_X1_mayBegin dX1_readSign_159 ml_RX1_78 im_X1_mayBegin se_X1_mayBegin rfl (Fx.s8 hF) (by exact Nat.le_of_ble_eq_true rfl) (by decide) (c_mayBegin (b := b) hF ht hs2 hk (by omega) hf2.kn hf2.bg (by omega)) ?_
                        intro x159 H159 p159
                        obtain ⟨e159, q159, r159⟩ := p159
                        refine xq_if_eqB dX1_readSign_162 rfl ⟨fun h162 => ?_, fun h162 => ?_⟩
                        · skip
                          refine xq_iconst dX1_readSign_184 ic3 ?_
                          refine xq_iret dX1_readSign_185 rfl ?_
                          have n1 : ¬ (kK s n = 42 ∧ 0 < fmO (ws, hs, o, T, b, w)) := fun z => by have z2 : 0 < o := z.2; omega
                          have es : sgs (kK s n) = stg (kK s n) := by unfold sgs; rw [if_neg h58]
                          have hlm : lmS fc = 2 := by unfold lmS; rw [if_pos (by simpa using h76)]
                          have n2 : ¬ (sgs (kK s n) = 0 ∨ lmS fc < sgs (kK s n)) := by omega
                          have e4 : sgs (kK s n) = 4 := by omega
                          have hy5 := hyy
                          rw [show stg (kK s n) + 1 = 5 from by omega] at hy5
                          have n3 : ¬ (sgs (kK s n) = 4 ∧ stg (topK (fmW (tieF 5 (ws, hs, o, T, b, w)))) = 4) := fun z => by
                            have z2 := z.2
                            rw [hy5] at z2
                            have z3 : stg (topK ws2) = 4 := z2
                            rw [htk] at z3
                            exact h149 z3
                          have hb0 : ¬ b < 64 := of_decide_eq_false (e159.symm.trans (by simpa using h162))
                          have q := r159 hb0
                          have e : sigS s fc n (ws, hs, o, T, b, w) = .inl (2, n) := (if_neg n1).trans ((if_neg n2).trans ((if_neg n3).trans (if_pos (show 64 ≤ b by omega))))
                          rw [e]
                          exact ⟨3, H159, ⟨rfl, Off.tr oo2 (q.2.2.2.mo (fun q h => Or.inl h)), q.1, q.2.1, (q.2.2.1 6 (by decide) (by decide)).trans (o2.I (by omega) 6)⟩, rfl⟩
                        · skip
                          have hb1 : b < 64 := of_decide_eq_true (e159.symm.trans (by simpa using h162))
                          have ee := q159 hb1
                          subst ee
                          have hfb := hf2.beg (v := b + 1) ht24
                          have hsb : TrP (sI H119 (t + 7) 4 (nI (b + 1))) s n := hs2.pI (by omega) _ _
                          refine xq_aload_n dX1_readSign_165 rfl rfl ?_
                          refine xq_iload_n dX1_readSign_166 rfl rfl ?_
                          refine xq_iconst dX1_readSign_167 ic0 ?_
                          refine xq_iload_n dX1_readSign_168 rfl rfl ?_
                          refine xq_iconst dX1_readSign_169 ic2 ?_
                          refine xq_icmp_gtN dX1_readSign_170 rfl (by omega) (by omega) ⟨fun h170 => ?_, fun h170 => ?_⟩
                          · skip
                            refine xq_iconst dX1_readSign_177 ic1 ?_
                            refine xq_callV3H clX1 gd_X1_hold dX1_readSign_178 ml_RX1_89 im_X1_hold se_X1_hold rfl (Fx.s8 hF) (by exact Nat.le_of_ble_eq_true rfl) (by decide) (c_hold (sz := ws2.length) hF hsb hk (by omega) hfb.wz (by omega)) ?_
                            intro x178 H178 p178
                            obtain ⟨rfl, rfl⟩ := p178
                            refine xq_goto dX1_readSign_181 rfl ?_
                            refine xq_iret dX1_readSign_185 rfl ?_
                            have n1 : ¬ (kK s n = 42 ∧ 0 < fmO (ws, hs, o, T, b, w)) := fun z => by have z2 : 0 < o := z.2; omega
                            have es : sgs (kK s n) = stg (kK s n) := by unfold sgs; rw [if_neg h58]
                            have hlm : lmS fc = 2 := by unfold lmS; rw [if_pos (by simpa using h76)]
                            have n2 : ¬ (sgs (kK s n) = 0 ∨ lmS fc < sgs (kK s n)) := by omega
                            have e4 : sgs (kK s n) = 4 := by omega
                            have hy5 := hyy
                            rw [show stg (kK s n) + 1 = 5 from by omega] at hy5
                            have n3 : ¬ (sgs (kK s n) = 4 ∧ stg (topK (fmW (tieF 5 (ws, hs, o, T, b, w)))) = 4) := fun z => by
                              have z2 := z.2
                              rw [hy5] at z2
                              have z3 : stg (topK ws2) = 4 := z2
                              rw [htk] at z3
                              exact h149 z3
                            have e : sigS s fc n (ws, hs, o, T, b, w) = .inr (1, n + 1, hldX (kK s n) 0 (begX (ws2, hs2', o, T2, b, w2))) := (if_neg n1).trans ((if_neg n2).trans ((if_neg n3).trans ((if_neg (show ¬ 64 ≤ b by omega)).trans (by rw [if_neg (by omega), if_pos e4, hy5]))))
                            rw [e]
                            exact ⟨1, _, ⟨rfl, (Off.pI (A := (fun q => q = 2 ∨ (8 ≤ q ∧ q < 16) ∨ (t ≤ q ∧ q < t + 21))) (Off.pI (A := (fun q => q = 2 ∨ (8 ≤ q ∧ q < 16) ∨ (t ≤ q ∧ q < t + 21))) (Off.pI (A := (fun q => q = 2 ∨ (8 ≤ q ∧ q < 16) ∨ (t ≤ q ∧ q < t + 21))) (Off.pI (A := (fun q => q = 2 ∨ (8 ≤ q ∧ q < 16) ∨ (t ≤ q ∧ q < t + 21))) (Off.pI (A := (fun q => q = 2 ∨ (8 ≤ q ∧ q < 16) ∨ (t ≤ q ∧ q < t + 21))) oo2 (by omega) _ _) (by omega) _ _) (by omega) _ _) (by omega) _ _) (by omega) _ _), ((((hsb.pI (by omega) _ _).pI (by omega) _ _).pI (by omega) _ _).st (n + 1)), by (repeat rw [hI_sI, if_neg (by omega)]); exact o2.I (by omega) 7, by (repeat rw [hI_sI, if_neg (by omega)]); exact o2.I (by omega) 8, (hfb.hld ht24).st2 ht24⟩, rfl⟩
                          · skip
                            refine xq_iconst dX1_readSign_173 ic0 ?_
                            refine xq_goto dX1_readSign_174 rfl ?_
                            refine xq_callV3H clX1 gd_X1_hold dX1_readSign_178 ml_RX1_89 im_X1_hold se_X1_hold rfl (Fx.s8 hF) (by exact Nat.le_of_ble_eq_true rfl) (by decide) (c_hold (sz := ws2.length) hF hsb hk (by omega) hfb.wz (by omega)) ?_
                            intro x178 H178 p178
                            obtain ⟨rfl, rfl⟩ := p178
                            refine xq_goto dX1_readSign_181 rfl ?_
                            refine xq_iret dX1_readSign_185 rfl ?_
                            have n1 : ¬ (kK s n = 42 ∧ 0 < fmO (ws, hs, o, T, b, w)) := fun z => by have z2 : 0 < o := z.2; omega
                            have es : sgs (kK s n) = stg (kK s n) := by unfold sgs; rw [if_neg h58]
                            have hlm : lmS fc = 2 := by unfold lmS; rw [if_pos (by simpa using h76)]
                            have n2 : ¬ (sgs (kK s n) = 0 ∨ lmS fc < sgs (kK s n)) := by omega
                            have e4 : sgs (kK s n) = 4 := by omega
                            have hy5 := hyy
                            rw [show stg (kK s n) + 1 = 5 from by omega] at hy5
                            have n3 : ¬ (sgs (kK s n) = 4 ∧ stg (topK (fmW (tieF 5 (ws, hs, o, T, b, w)))) = 4) := fun z => by
                              have z2 := z.2
                              rw [hy5] at z2
                              have z3 : stg (topK ws2) = 4 := z2
                              rw [htk] at z3
                              exact h149 z3
                            have e : sigS s fc n (ws, hs, o, T, b, w) = .inr (0, n + 1, hldX (kK s n) 0 (begX (ws2, hs2', o, T2, b, w2))) := (if_neg n1).trans ((if_neg n2).trans ((if_neg n3).trans ((if_neg (show ¬ 64 ≤ b by omega)).trans (by rw [if_pos (by omega), if_pos e4, hy5]))))
                            rw [e]
                            exact ⟨0, _, ⟨rfl, (Off.pI (A := (fun q => q = 2 ∨ (8 ≤ q ∧ q < 16) ∨ (t ≤ q ∧ q < t + 21))) (Off.pI (A := (fun q => q = 2 ∨ (8 ≤ q ∧ q < 16) ∨ (t ≤ q ∧ q < t + 21))) (Off.pI (A := (fun q => q = 2 ∨ (8 ≤ q ∧ q < 16) ∨ (t ≤ q ∧ q < t + 21))) (Off.pI (A := (fun q => q = 2 ∨ (8 ≤ q ∧ q < 16) ∨ (t ≤ q ∧ q < t + 21))) (Off.pI (A := (fun q => q = 2 ∨ (8 ≤ q ∧ q < 16) ∨ (t ≤ q ∧ q < t + 21))) oo2 (by omega) _ _) (by omega) _ _) (by omega) _ _) (by omega) _ _) (by omega) _ _), ((((hsb.pI (by omega) _ _).pI (by omega) _ _).pI (by omega) _ _).st (n + 1)), by (repeat rw [hI_sI, if_neg (by omega)]); exact o2.I (by omega) 7, by (repeat rw [hI_sI, if_neg (by omega)]); exact o2.I (by omega) 8, (hfb.hld ht24).st2 ht24⟩, rfl⟩
                      · skip
                        refine xq_aload_n dX1_readSign_152 rfl rfl ?_
                        refine xq_iconst dX1_readSign_153 ic1 ?_
                        refine xq_callV1H clX1 gd_X1_wrong dX1_readSign_154 ml_RX1_112 im_X1_wrong se_X1_wrong rfl (Fx.s8 hF) (by exact Nat.le_of_ble_eq_true rfl) (by decide) (c_wrong hF hs2 hk (by omega) (c := 1) (by decide)) ?_
                        intro x154 H154 p154
                        obtain ⟨rfl, q154⟩ := p154
                        refine xq_iret dX1_readSign_157 rfl ?_
                        have n1 : ¬ (kK s n = 42 ∧ 0 < fmO (ws, hs, o, T, b, w)) := fun z => by have z2 : 0 < o := z.2; omega
                        have es : sgs (kK s n) = stg (kK s n) := by unfold sgs; rw [if_neg h58]
                        have hlm : lmS fc = 2 := by unfold lmS; rw [if_pos (by simpa using h76)]
                        have n2 : ¬ (sgs (kK s n) = 0 ∨ lmS fc < sgs (kK s n)) := by omega
                        have e4 : sgs (kK s n) = 4 := by omega
                        have hy5 := hyy
                        rw [show stg (kK s n) + 1 = 5 from by omega] at hy5
                        have e : sigS s fc n (ws, hs, o, T, b, w) = .inl (1, n) := (if_neg n1).trans ((if_neg n2).trans (if_pos ⟨e4, by rw [hy5]; show stg (topK ws2) = 4; rw [htk]; exact h149⟩))
                        rw [e]
                        exact ⟨3, H154, ⟨rfl, Off.tr oo2 (q154.2.2.2.mo (fun q h => Or.inl h)), q154.1, q154.2.1, (q154.2.2.1 6 (by decide) (by decide)).trans (o2.I (by omega) 6)⟩, rfl⟩
            · skip
              refine xq_aload_n dX1_readSign_88 rfl rfl ?_
              refine xq_iconst dX1_readSign_89 ic1 ?_
              refine xq_callV1H clX1 gd_X1_wrong dX1_readSign_90 ml_RX1_112 im_X1_wrong se_X1_wrong rfl (Fx.s8 hF) (by exact Nat.le_of_ble_eq_true rfl) (by decide) (c_wrong hF hs1 hk (by omega) (c := 1) (by decide)) ?_
              intro x90 H90 p90
              obtain ⟨rfl, q90⟩ := p90
              refine xq_iret dX1_readSign_93 rfl ?_
              have n1 : ¬ (kK s n = 42 ∧ 0 < fmO (ws, hs, o, T, b, w)) := fun z => by have z2 : 0 < o := z.2; omega
              have es : sgs (kK s n) = stg (kK s n) := by unfold sgs; rw [if_neg h58]
              have hlm : lmS fc = 2 := by unfold lmS; rw [if_pos (by simpa using h76)]
              have e : sigS s fc n (ws, hs, o, T, b, w) = .inl (1, n) := (if_neg n1).trans (if_pos (Or.inr (by omega)))
              rw [e]
              exact ⟨3, H90, ⟨rfl, Off.tr Off.rf (q90.2.2.2.mo (fun q h => Or.inl h)), q90.1, q90.2.1, (q90.2.2.1 6 (by decide) (by decide)).trans rfl⟩, rfl⟩
      · skip
        refine xq_iconst dX1_readSign_61 ic0 ?_
        refine xq_goto dX1_readSign_62 rfl ?_
        refine xq_istore_n dX1_readSign_69 rfl rfl ?_
        refine xq_iload_n dX1_readSign_70 rfl rfl ?_
        refine xq_if_eqN dX1_readSign_71 rfl (by omega) ⟨fun h71 => ?_, fun h71 => ?_⟩
        · skip
          refine xq_aload_n dX1_readSign_88 rfl rfl ?_
          refine xq_iconst dX1_readSign_89 ic1 ?_
          refine xq_callV1H clX1 gd_X1_wrong dX1_readSign_90 ml_RX1_112 im_X1_wrong se_X1_wrong rfl (Fx.s8 hF) (by exact Nat.le_of_ble_eq_true rfl) (by decide) (c_wrong hF hs1 hk (by omega) (c := 1) (by decide)) ?_
          intro x90 H90 p90
          obtain ⟨rfl, q90⟩ := p90
          refine xq_iret dX1_readSign_93 rfl ?_
          have n1 : ¬ (kK s n = 42 ∧ 0 < fmO (ws, hs, o, T, b, w)) := fun z => by have z2 : 0 < o := z.2; omega
          have e : sigS s fc n (ws, hs, o, T, b, w) = .inl (1, n) := (if_neg n1).trans (if_pos (Or.inl (by unfold sgs; rw [if_pos h58])))
          rw [e]
          exact ⟨3, H90, ⟨rfl, Off.tr Off.rf (q90.2.2.2.mo (fun q h => Or.inl h)), q90.1, q90.2.1, (q90.2.2.1 6 (by decide) (by decide)).trans rfl⟩, rfl⟩
        · skip
          first | exact absurd h71 (by decide) | exact absurd rfl h71
    · skip
      refine xq_aload_n dX1_readSign_21 rfl rfl ?_
      refine xq_iconst dX1_readSign_22 ic1 ?_
      refine xq_callV1N clX1 gd_X1_tieDownTo dX1_readSign_23 ml_RX1_55 im_X1_tieDownTo se_X1_tieDownTo rfl (Fx.s8 hF) (by exact Nat.le_of_ble_eq_true rfl) (by decide) (c_tieDownTo (st := 1) hF ht ht24 ht45 hf hi (by omega) (by omega)) ?_
      intro H23 p23
      obtain ⟨hf2, o2⟩ := p23
      have hi2 := FI.tieF (st := 1) (by omega) hi
      have hs2 : TrP H23 s n := hs1.off o2 (fun q h => by omega)
      have oo2 : Off (fun q => q = 2 ∨ (8 ≤ q ∧ q < 16) ∨ (t ≤ q ∧ q < t + 21)) H H23 := o2.mo (fun q h => by omega)
      generalize hyy : tieF (1) (ws, hs, o, T, b, w) = y at hf2 hi2
      obtain ⟨ws2, hs2', o3, T2, b3, w2⟩ := y
      have eo : o = o3 := tieF_o.symm.trans (congrArg fmO hyy)
      have eb : b = b3 := tieF_b.symm.trans (congrArg fmB hyy)
      subst eo
      subst eb
      have hib := hi2.a
      obtain ⟨j1, j2, j3, j4, j5⟩ := hib
      cases ws2 with
      | nil => exact absurd j4 (show ¬ 0 = nop [] + o by show ¬ 0 = 0 + o; omega)
      | cons a l2 =>
      have zz : True := trivial
      refine xq_aload_n dX1_readSign_26 rfl rfl ?_
      refine xq_dup dX1_readSign_27 rfl ?_
      refine xq_getIE (v := nI (l2.length + 1)) clX1 (by decide) rfl fl_RX1_35 dX1_readSign_28 (Fx.s8 hF) hf2.wz ?_
      refine xq_iconst dX1_readSign_31 ic1 ?_
      refine xq_isubN dX1_readSign_32 (by show 1 ≤ l2.length + 1; omega) ?_
      refine xq_putI clX1 (by decide) rfl fl_RX1_35 (Or.inl rfl) dX1_readSign_33 ⟨rfl, rfl⟩ (Fx.s8 hF) ?_
      refine xq_aload_n dX1_readSign_36 rfl rfl ?_
      refine xq_dup dX1_readSign_37 rfl ?_
      refine xq_getIE (v := nI o) clX1 (by decide) rfl fl_RX1_42 dX1_readSign_38 (Fx.s8 hF) (by rw [hI_sI, if_neg (by omega)]; exact hf2.op) ?_
      refine xq_iconst dX1_readSign_41 ic1 ?_
      refine xq_isubN dX1_readSign_42 (by omega) ?_
      refine xq_putI clX1 (by decide) rfl fl_RX1_42 (Or.inl rfl) dX1_readSign_43 ⟨rfl, rfl⟩ (Fx.s8 hF) ?_
      refine xq_aload_n dX1_readSign_46 rfl rfl ?_
      refine xq_getF clX1 (by decide) rfl fl_RX1_28 dX1_readSign_47 (Fx.s8 hF) (Fx.r8_0 hF) ?_
      refine xq_callV0N clX9 gd_X9_step dX1_readSign_50 ml_RX1_109 im_X9_step se_X9_step rfl (Fx.s2 hF) (by exact Nat.le_of_ble_eq_true rfl) (by decide) (c_step hF ((hs2.pI (a := 8) (by omega) 3 (nI (l2.length + 1 - 1))).pI (a := 8) (by omega) 6 (nI (o - 1))) hk (by omega)) ?_
      intro H50 p50
      subst p50
      refine xq_iconst dX1_readSign_53 ic2 ?_
      refine xq_iret dX1_readSign_54 rfl ?_
      have e : sigS s fc n (ws, hs, o, T, b, w) = .inr (2, n + 1, clsX (a :: l2, hs2', o, T2, b, w2)) := (if_pos ⟨h11, by show 0 < o; omega⟩).trans (by rw [hyy])
      rw [e]
      exact ⟨2, _, ⟨rfl, (Off.pI (A := (fun q => q = 2 ∨ (8 ≤ q ∧ q < 16) ∨ (t ≤ q ∧ q < t + 21))) (Off.pI (A := (fun q => q = 2 ∨ (8 ≤ q ∧ q < 16) ∨ (t ≤ q ∧ q < t + 21))) (Off.pI (A := (fun q => q = 2 ∨ (8 ≤ q ∧ q < 16) ∨ (t ≤ q ∧ q < t + 21))) oo2 (by omega) _ _) (by omega) _ _) (by omega) _ _), ((hs2.pI (a := 8) (by omega) 3 (nI (l2.length + 1 - 1))).pI (a := 8) (by omega) 6 (nI (o - 1))).st (n + 1), by rw [hI_sI, if_neg (by omega), hI_sI, if_neg (by omega), hI_sI, if_neg (by omega)]; exact o2.I (by omega) 7, by rw [hI_sI, if_neg (by omega), hI_sI, if_neg (by omega), hI_sI, if_neg (by omega)]; exact o2.I (by omega) 8, ((hf2.wt2 ht24).opn ht24).st2 ht24⟩, rfl⟩
end FE
