/-! ===== Formula: tieDownTo ===== -/
section FB
variable {S : xS} {H H1 H2 H3 : xH} {k p q i j l m n c t v r sz st : Nat} {s : uTk} {T : uTx} {w : Int64} {ws ws0 : List (Nat × Nat)} {hs : List Nat} {o b : Nat}
def un1 (k : Nat) : Bool := decide (k = 16 ∨ k = 17 ∨ k = 18 ∨ k = 13)
def tkH (k : Nat) (hs : List Nat) : List Nat := if un1 k = true then hs.tail else hs.tail.tail
def tkX (k : Nat) (hs : List Nat) : Nat := if un1 k = true then hs.headD 0 else hs.tail.headD 0
def tkY (k p : Nat) (hs : List Nat) : Nat := if un1 k = true then p else hs.headD 0
def tiW (st o b : Nat) : List (Nat × Nat) → List Nat → uTx → Int64 → fmT
  | [], hs, T, w => ([], hs, o, T, b, w)
  | (k, p) :: ws, hs, T, w => if st ≤ stg k then tiW st o b ws (tNk T :: tkH k hs) (knT T k (tkX k hs) (tkY k p hs)) (oB w (tNk T)) else ((k, p) :: ws, hs, o, T, b, w)
def tieF (st : Nat) (x : fmT) : fmT := tiW st (fmO x) (fmB x) (fmW x) (fmH x) (fmX x) (fmN x)
theorem tieF_n : tieF st ([], hs, o, T, b, w) = ([], hs, o, T, b, w) := rfl
theorem tieF_c : tieF st ((k, p) :: ws, hs, o, T, b, w) = if st ≤ stg k then tieF st (ws, tNk T :: tkH k hs, o, knT T k (tkX k hs) (tkY k p hs), b, oB w (tNk T)) else ((k, p) :: ws, hs, o, T, b, w) := rfl
def nop : List (Nat × Nat) → Nat
  | [] => 0
  | q :: l => (if stg q.1 = 0 then 0 else 1) + nop l
def FI (x : fmT) : Prop := tNk (fmX x) + nop (fmW x) = fmB x ∧ fmB x ≤ 64 ∧ (fmH x).length ≤ tNk (fmX x) ∧ (fmW x).length = nop (fmW x) + fmO x ∧ fmO x ≤ 8 ∧ ∀ q, q ∈ fmW x → q.1 ≤ 44
theorem tkH_l : (tkH k hs).length ≤ hs.length := by
  unfold tkH
  split
  · rw [List.length_tail]; omega
  · rw [List.length_tail, List.length_tail]; omega
theorem FI.tie (h : FI ((k, p) :: ws, hs, o, T, b, w)) (h1 : 1 ≤ stg k) {x y : Nat} {w2 : Int64} : FI (ws, tNk T :: tkH k hs, o, knT T k x y, b, w2) := by
  obtain ⟨h1a, h2, h3, h4, h5, h6⟩ := h
  have e : nop ((k, p) :: ws) = 1 + nop ws := by show (if stg k = 0 then 0 else 1) + nop ws = _; rw [if_neg (by omega)]
  have h1a : tNk T + nop ((k, p) :: ws) = b := h1a
  have h3 : hs.length ≤ tNk T := h3
  have h4 : ws.length + 1 = nop ((k, p) :: ws) + o := h4
  have hl := tkH_l (k := k) (hs := hs)
  exact ⟨show tNk T + 1 + nop ws = b by omega, h2, show (tkH k hs).length + 1 ≤ tNk T + 1 by omega, show ws.length = nop ws + o by omega, h5, fun q hq => h6 q (List.mem_cons_of_mem _ hq)⟩
theorem FI.tieF (hs1 : 1 ≤ st) : ∀ {ws hs T w}, FI (ws, hs, o, T, b, w) → FI (tieF st (ws, hs, o, T, b, w))
  | [], _, _, _, h => h
  | (k, p) :: ws, hs, T, w, h => by
    rw [tieF_c]
    split
    · exact FI.tieF hs1 (h.tie (by omega))
    · exact h
def iOf : List (Nat × Nat) → Int32
  | [] => -1
  | _ :: l => nI l.length
theorem iOf_s (ws : List (Nat × Nat)) : nI ws.length - nI 1 = iOf ws := by
  cases ws with
  | nil => decide
  | cons a l => exact nq_sub (x := l.length + 1) (y := 1) (by omega)
theorem iOf_i (ws : List (Nat × Nat)) : nI ws.length + -1 = iOf ws := by
  rw [← iOf_s, show (-1 : Int32) = -(nI 1) from rfl, ← Int32.sub_eq_add_neg]
theorem ppH_I {a k : Nat} (h : ¬ (a = 8 ∧ k = 5)) : hI (ppH H hs) a k = hI H a k := by
  cases hs with
  | nil => rfl
  | cons b l => exact (hI_sI _ _ _ _ _ _).trans (if_neg h)
theorem ppH_o {A : Nat → Prop} (h : A 8) (ho : Off A H1 H) : Off A H1 (ppH H hs) := by
  cases hs with
  | nil => exact ho
  | cons b l => exact Off.pI ho h _ _
theorem psH_o {A : Nat → Prop} (h : A 8) (h2 : A 11) (ho : Off A H1 H) : Off A H1 (psH H w sz r) := Off.pI (Off.pI (Off.pL ho h _ _) h2 _ _) h _ _
theorem c_tieDownTo (hF : gFx S) (ht : gTx S t) (ht24 : 24 ≤ t) (ht45 : t ≤ 45) {x0 : fmT} (hf : FmP H t x0) (hi : FI x0) (hs1 : 1 ≤ st) (hst : st ≤ 7) : Nv mX1_tieDownTo 1 [.ref 8, vN st] S H (fun H' => FmP H' t (tieF st x0) ∧ Off (fun q => (8 ≤ q ∧ q < 12) ∨ (t + 7 ≤ q ∧ q < t + 11)) H H') := by
  obtain ⟨ws0, hs0, o, T0, b, w0⟩ := x0
  have lp : ∀ (fz : Nat) (ws : List (Nat × Nat)) (hs : List Nat) (T : uTx) (w : Int64) (H1 : xH), ws.length < fz → FmP H1 t (ws, hs, o, T, b, w) → FI (ws, hs, o, T, b, w) → Off (fun q => (8 ≤ q ∧ q < 12) ∨ (t + 7 ≤ q ∧ q < t + 11)) H H1 → tieF st (ws0, hs0, o, T0, b, w0) = tieF st (ws, hs, o, T, b, w) → Xq mX1_tieDownTo 1 0 0 7 [some (.ref 8), some (vN st), some (.int (iOf ws)), none, none] [] S H1 (fun R => ∃ H', (fun H' => FmP H' t (tieF st (ws0, hs0, o, T0, b, w0)) ∧ Off (fun q => (8 ≤ q ∧ q < 12) ∨ (t + 7 ≤ q ∧ q < t + 11)) H H') H' ∧ R = (none, S, H')) := by
    intro fz
    induction fz with
    | zero => intro ws  hs  T  w  H1  hfz; exact absurd hfz (by omega)
    | succ fz ih =>
      intro ws  hs  T  w  H1  hfz hf1 hi1 ho heq
      cases ws with
      | nil =>
        refine xq_iload_n dX1_tieDownTo_7 rfl rfl ?_
        refine xq_if_lt dX1_tieDownTo_8 rfl ⟨fun h8 => ?_, fun h8 => ?_⟩
        · skip
          refine xq_vret dX1_tieDownTo_115 rfl ?_
          exact ⟨H1, ⟨by rw [heq, tieF_n]; exact hf1, ho⟩, rfl⟩
        · skip
          exact absurd h8 (by decide)
      | cons kp ws =>
        obtain ⟨k, p⟩ := kp
        have hi1b := hi1
        obtain ⟨b1, b2, b3, b4, b5, b6⟩ := hi1b
        have b1 : tNk T + nop ((k, p) :: ws) = b := b1
        have b3 : hs.length ≤ tNk T := b3
        have b4 : ws.length + 1 = nop ((k, p) :: ws) + o := b4
        have b2 : b ≤ 64 := b2
        have b5 : o ≤ 8 := b5
        have hk44 : k ≤ 44 := b6 (k, p) List.mem_cons_self
        have hv1 : hI H1 9 ws.length = nI k := (hf1.wt ws.length (Nat.lt_succ_self _)).1.trans (congrArg (fun q : Nat × Nat => nI q.1) (lg_0 (d := (0, 0)) (x := (k, p)) (l := ws)))
        have hv2 : hI H1 10 ws.length = nI p := (hf1.wt ws.length (Nat.lt_succ_self _)).2.trans (congrArg (fun q : Nat × Nat => nI q.2) (lg_0 (d := (0, 0)) (x := (k, p)) (l := ws)))
        have hs7 := stg_7 (k := k)
        refine xq_iload_n dX1_tieDownTo_7 rfl rfl ?_
        refine xq_if_ltN dX1_tieDownTo_8 rfl (by omega) ?_
        refine xq_aload_n dX1_tieDownTo_11 rfl rfl ?_
        refine xq_getF clX1 (by decide) rfl fl_RX1_9 dX1_tieDownTo_12 (Fx.s8 hF) (Fx.r8_1 hF) ?_
        refine xq_iload_n dX1_tieDownTo_15 rfl rfl ?_
        refine xq_ialdN dX1_tieDownTo_16 (Fx.s9 hF) (by omega) (by decide) hv1 ?_
        refine xq_callS1P gd_X1_strengthOf dX1_tieDownTo_17 ml_RX1_135 im_X1_strengthOf (by exact Nat.le_of_ble_eq_true rfl) (by decide) (c_strengthOf hk44) ?_
        refine xq_iload_n dX1_tieDownTo_20 rfl rfl ?_
        refine xq_icmp_ltN dX1_tieDownTo_21 rfl (by omega) (by omega) ⟨fun h21 => ?_, fun h21 => ?_⟩
        · skip
          refine xq_vret dX1_tieDownTo_115 rfl ?_
          exact ⟨H1, ⟨by rw [heq, tieF_c, if_neg (by omega)]; exact hf1, ho⟩, rfl⟩
        · skip
          refine xq_aload_n dX1_tieDownTo_24 rfl rfl ?_
          refine xq_getF clX1 (by decide) rfl fl_RX1_9 dX1_tieDownTo_25 (Fx.s8 hF) (Fx.r8_1 hF) ?_
          refine xq_iload_n dX1_tieDownTo_28 rfl rfl ?_
          refine xq_ialdN dX1_tieDownTo_29 (Fx.s9 hF) (by omega) (by decide) hv1 ?_
          refine xq_istore_n dX1_tieDownTo_30 rfl rfl ?_
          refine xq_aload_n dX1_tieDownTo_31 rfl rfl ?_
          refine xq_iload_n dX1_tieDownTo_32 rfl rfl ?_
          refine xq_putI clX1 (by decide) rfl fl_RX1_35 (Or.inl rfl) dX1_tieDownTo_33 ⟨rfl, rfl⟩ (Fx.s8 hF) ?_
          have e1n : nop ((k, p) :: ws) = 1 + nop ws := by show (if stg k = 0 then 0 else 1) + nop ws = _; rw [if_neg (by omega)]
          have hfa := hf1.wt2 ht24
          have hfao : Off (fun q => (8 ≤ q ∧ q < 12) ∨ (t + 7 ≤ q ∧ q < t + 11)) H (sI H1 8 3 (nI ws.length)) := Off.pI (A := (fun q => (8 ≤ q ∧ q < 12) ∨ (t + 7 ≤ q ∧ q < t + 11))) ho (by omega) _ _
          refine xq_iload_n dX1_tieDownTo_36 rfl rfl ?_
          refine xq_bipush dX1_tieDownTo_37 bp16 ?_
          refine xq_icmp_eqN dX1_tieDownTo_39 rfl (by omega) (by omega) ⟨fun h39 => ?_, fun h39 => ?_⟩
          · skip
            refine xq_aload_n dX1_tieDownTo_60 rfl rfl ?_
            refine xq_aload_n dX1_tieDownTo_61 rfl rfl ?_
            refine xq_getR clX1 (by decide) rfl fl_RX1_24 dX1_tieDownTo_62 (Fx.s8 hF) hfa.kn ?_
            refine xq_iload_n dX1_tieDownTo_65 rfl rfl ?_
            refine xq_aload_n dX1_tieDownTo_66 rfl rfl ?_
            refine xq_callV0H clX1 gd_X1_pop dX1_tieDownTo_67 ml_RX1_138 im_X1_pop se_X1_pop rfl (Fx.s8 hF) (by exact Nat.le_of_ble_eq_true rfl) (by decide) (c_pop hF hfa (by omega)) ?_
            intro x67 H67 p67
            obtain ⟨rfl, rfl⟩ := p67
            have hfp := hfa.pop ht24
            have hfpo : Off (fun q => (8 ≤ q ∧ q < 12) ∨ (t + 7 ≤ q ∧ q < t + 11)) H _ := ppH_o (hs := hs) (by omega) hfao
            refine xq_aload_n dX1_tieDownTo_70 rfl rfl ?_
            refine xq_getF clX1 (by decide) rfl fl_RX1_15 dX1_tieDownTo_71 (Fx.s8 hF) (Fx.r8_2 hF) ?_
            refine xq_iload_n dX1_tieDownTo_74 rfl rfl ?_
            refine xq_ialdN (v := nI p) dX1_tieDownTo_75 (Fx.s10 hF) (by omega) (by decide) ((ppH_I (by omega)).trans ((hI_sI _ _ _ _ _ _).trans ((if_neg (by omega)).trans hv2))) ?_
            refine xq_callV3H clX2 gd_X2_add dX1_tieDownTo_76 ml_RX1_103 im_X2_add se_X2_add rfl (Kn.s0 (Tx.n7 ht)) (by exact Nat.le_of_ble_eq_true rfl) (by decide) (c_kadd (Tx.n7 ht) hfp.tx.kt (show tNk T < 64 by omega)) ?_
            intro x76 H76 p76
            obtain ⟨rfl, kt76, bg76, o76⟩ := p76
            have hf76 := hfp.add ht24 kt76 bg76 o76
            have of76 : Off (fun q => (8 ≤ q ∧ q < 12) ∨ (t + 7 ≤ q ∧ q < t + 11)) H H76 := (hfpo).tr (o76.mo (fun q z => by omega))
            refine xq_callV1N clX1 gd_X1_push dX1_tieDownTo_79 ml_RX1_106 im_X1_push se_X1_push rfl (Fx.s8 hF) (by exact Nat.le_of_ble_eq_true rfl) (by decide) (c_push hF hf76.hz (show (hs.tail).length < 64 by rw [List.length_tail]; omega) hf76.nd) ?_
            intro H79 p79
            subst p79
            have hf79 := hf76.psh (r := tNk T) ht24
            have of79 : Off (fun q => (8 ≤ q ∧ q < 12) ∨ (t + 7 ≤ q ∧ q < t + 11)) H _ := psH_o (w := w) (sz := (hs.tail).length) (r := tNk T) (Or.inl ⟨by decide, by decide⟩) (Or.inl ⟨by decide, by decide⟩) of76
            refine xq_goto dX1_tieDownTo_82 rfl ?_
            refine xq_iinc dX1_tieDownTo_109 icm1 rfl rfl ?_
            refine xq_goto dX1_tieDownTo_112 rfl ?_
            have hun : un1 k = true := by unfold un1; exact decide_eq_true (by omega)
            have eH : tkH k hs = hs.tail := by unfold tkH; rw [hun]; rfl
            have eX : tkX k hs = (hs.headD 0) := by unfold tkX; rw [hun]; rfl
            have eY : tkY k p hs = p := by unfold tkY; rw [hun]; rfl
            have hfin := heq.trans (tieF_c.trans (if_pos (by omega)))
            have hi2 := hi1.tie (x := (hs.headD 0)) (y := p) (w2 := oB w (tNk T)) (by omega)
            rw [eH] at hi2
            rw [eH, eX, eY] at hfin
            rw [show iOf ((k, p) :: ws) + -1 = iOf ws from iOf_i ws]
            exact xq_fgt (ih ws _ _ _ _ (by show ws.length < fz; have hfz : (ws.length + 1) < fz + 1 := hfz; omega) hf79 hi2 of79 hfin) (by exact And.intro rfl (And.intro rfl (And.intro rfl (trivial))))
          · skip
            refine xq_iload_n dX1_tieDownTo_42 rfl rfl ?_
            refine xq_bipush dX1_tieDownTo_43 bp17 ?_
            refine xq_icmp_eqN dX1_tieDownTo_45 rfl (by omega) (by omega) ⟨fun h45 => ?_, fun h45 => ?_⟩
            · skip
              refine xq_aload_n dX1_tieDownTo_60 rfl rfl ?_
              refine xq_aload_n dX1_tieDownTo_61 rfl rfl ?_
              refine xq_getR clX1 (by decide) rfl fl_RX1_24 dX1_tieDownTo_62 (Fx.s8 hF) hfa.kn ?_
              refine xq_iload_n dX1_tieDownTo_65 rfl rfl ?_
              refine xq_aload_n dX1_tieDownTo_66 rfl rfl ?_
              refine xq_callV0H clX1 gd_X1_pop dX1_tieDownTo_67 ml_RX1_138 im_X1_pop se_X1_pop rfl (Fx.s8 hF) (by exact Nat.le_of_ble_eq_true rfl) (by decide) (c_pop hF hfa (by omega)) ?_
              intro x67 H67 p67
              obtain ⟨rfl, rfl⟩ := p67
              have hfp := hfa.pop ht24
              have hfpo : Off (fun q => (8 ≤ q ∧ q < 12) ∨ (t + 7 ≤ q ∧ q < t + 11)) H _ := ppH_o (hs := hs) (by omega) hfao
              refine xq_aload_n dX1_tieDownTo_70 rfl rfl ?_
              refine xq_getF clX1 (by decide) rfl fl_RX1_15 dX1_tieDownTo_71 (Fx.s8 hF) (Fx.r8_2 hF) ?_
              refine xq_iload_n dX1_tieDownTo_74 rfl rfl ?_
              refine xq_ialdN (v := nI p) dX1_tieDownTo_75 (Fx.s10 hF) (by omega) (by decide) ((ppH_I (by omega)).trans ((hI_sI _ _ _ _ _ _).trans ((if_neg (by omega)).trans hv2))) ?_
              refine xq_callV3H clX2 gd_X2_add dX1_tieDownTo_76 ml_RX1_103 im_X2_add se_X2_add rfl (Kn.s0 (Tx.n7 ht)) (by exact Nat.le_of_ble_eq_true rfl) (by decide) (c_kadd (Tx.n7 ht) hfp.tx.kt (show tNk T < 64 by omega)) ?_
              intro x76 H76 p76
              obtain ⟨rfl, kt76, bg76, o76⟩ := p76
              have hf76 := hfp.add ht24 kt76 bg76 o76
              have of76 : Off (fun q => (8 ≤ q ∧ q < 12) ∨ (t + 7 ≤ q ∧ q < t + 11)) H H76 := (hfpo).tr (o76.mo (fun q z => by omega))
              refine xq_callV1N clX1 gd_X1_push dX1_tieDownTo_79 ml_RX1_106 im_X1_push se_X1_push rfl (Fx.s8 hF) (by exact Nat.le_of_ble_eq_true rfl) (by decide) (c_push hF hf76.hz (show (hs.tail).length < 64 by rw [List.length_tail]; omega) hf76.nd) ?_
              intro H79 p79
              subst p79
              have hf79 := hf76.psh (r := tNk T) ht24
              have of79 : Off (fun q => (8 ≤ q ∧ q < 12) ∨ (t + 7 ≤ q ∧ q < t + 11)) H _ := psH_o (w := w) (sz := (hs.tail).length) (r := tNk T) (Or.inl ⟨by decide, by decide⟩) (Or.inl ⟨by decide, by decide⟩) of76
              refine xq_goto dX1_tieDownTo_82 rfl ?_
              refine xq_iinc dX1_tieDownTo_109 icm1 rfl rfl ?_
              refine xq_goto dX1_tieDownTo_112 rfl ?_
              have hun : un1 k = true := by unfold un1; exact decide_eq_true (by omega)
              have eH : tkH k hs = hs.tail := by unfold tkH; rw [hun]; rfl
              have eX : tkX k hs = (hs.headD 0) := by unfold tkX; rw [hun]; rfl
              have eY : tkY k p hs = p := by unfold tkY; rw [hun]; rfl
              have hfin := heq.trans (tieF_c.trans (if_pos (by omega)))
              have hi2 := hi1.tie (x := (hs.headD 0)) (y := p) (w2 := oB w (tNk T)) (by omega)
              rw [eH] at hi2
              rw [eH, eX, eY] at hfin
              rw [show iOf ((k, p) :: ws) + -1 = iOf ws from iOf_i ws]
              exact xq_fgt (ih ws _ _ _ _ (by show ws.length < fz; have hfz : (ws.length + 1) < fz + 1 := hfz; omega) hf79 hi2 of79 hfin) (by exact And.intro rfl (And.intro rfl (And.intro rfl (trivial))))
            · skip
              refine xq_iload_n dX1_tieDownTo_48 rfl rfl ?_
              refine xq_bipush dX1_tieDownTo_49 bp18 ?_
              refine xq_icmp_eqN dX1_tieDownTo_51 rfl (by omega) (by omega) ⟨fun h51 => ?_, fun h51 => ?_⟩
              · skip
                refine xq_aload_n dX1_tieDownTo_60 rfl rfl ?_
                refine xq_aload_n dX1_tieDownTo_61 rfl rfl ?_
                refine xq_getR clX1 (by decide) rfl fl_RX1_24 dX1_tieDownTo_62 (Fx.s8 hF) hfa.kn ?_
                refine xq_iload_n dX1_tieDownTo_65 rfl rfl ?_
                refine xq_aload_n dX1_tieDownTo_66 rfl rfl ?_
                refine xq_callV0H clX1 gd_X1_pop dX1_tieDownTo_67 ml_RX1_138 im_X1_pop se_X1_pop rfl (Fx.s8 hF) (by exact Nat.le_of_ble_eq_true rfl) (by decide) (c_pop hF hfa (by omega)) ?_
                intro x67 H67 p67
                obtain ⟨rfl, rfl⟩ := p67
                have hfp := hfa.pop ht24
                have hfpo : Off (fun q => (8 ≤ q ∧ q < 12) ∨ (t + 7 ≤ q ∧ q < t + 11)) H _ := ppH_o (hs := hs) (by omega) hfao
                refine xq_aload_n dX1_tieDownTo_70 rfl rfl ?_
                refine xq_getF clX1 (by decide) rfl fl_RX1_15 dX1_tieDownTo_71 (Fx.s8 hF) (Fx.r8_2 hF) ?_
                refine xq_iload_n dX1_tieDownTo_74 rfl rfl ?_
                refine xq_ialdN (v := nI p) dX1_tieDownTo_75 (Fx.s10 hF) (by omega) (by decide) ((ppH_I (by omega)).trans ((hI_sI _ _ _ _ _ _).trans ((if_neg (by omega)).trans hv2))) ?_
                refine xq_callV3H clX2 gd_X2_add dX1_tieDownTo_76 ml_RX1_103 im_X2_add se_X2_add rfl (Kn.s0 (Tx.n7 ht)) (by exact Nat.le_of_ble_eq_true rfl) (by decide) (c_kadd (Tx.n7 ht) hfp.tx.kt (show tNk T < 64 by omega)) ?_
                intro x76 H76 p76
                obtain ⟨rfl, kt76, bg76, o76⟩ := p76
                have hf76 := hfp.add ht24 kt76 bg76 o76
                have of76 : Off (fun q => (8 ≤ q ∧ q < 12) ∨ (t + 7 ≤ q ∧ q < t + 11)) H H76 := (hfpo).tr (o76.mo (fun q z => by omega))
                refine xq_callV1N clX1 gd_X1_push dX1_tieDownTo_79 ml_RX1_106 im_X1_push se_X1_push rfl (Fx.s8 hF) (by exact Nat.le_of_ble_eq_true rfl) (by decide) (c_push hF hf76.hz (show (hs.tail).length < 64 by rw [List.length_tail]; omega) hf76.nd) ?_
                intro H79 p79
                subst p79
                have hf79 := hf76.psh (r := tNk T) ht24
                have of79 : Off (fun q => (8 ≤ q ∧ q < 12) ∨ (t + 7 ≤ q ∧ q < t + 11)) H _ := psH_o (w := w) (sz := (hs.tail).length) (r := tNk T) (Or.inl ⟨by decide, by decide⟩) (Or.inl ⟨by decide, by decide⟩) of76
                refine xq_goto dX1_tieDownTo_82 rfl ?_
                refine xq_iinc dX1_tieDownTo_109 icm1 rfl rfl ?_
                refine xq_goto dX1_tieDownTo_112 rfl ?_
                have hun : un1 k = true := by unfold un1; exact decide_eq_true (by omega)
                have eH : tkH k hs = hs.tail := by unfold tkH; rw [hun]; rfl
                have eX : tkX k hs = (hs.headD 0) := by unfold tkX; rw [hun]; rfl
                have eY : tkY k p hs = p := by unfold tkY; rw [hun]; rfl
                have hfin := heq.trans (tieF_c.trans (if_pos (by omega)))
                have hi2 := hi1.tie (x := (hs.headD 0)) (y := p) (w2 := oB w (tNk T)) (by omega)
                rw [eH] at hi2
                rw [eH, eX, eY] at hfin
                rw [show iOf ((k, p) :: ws) + -1 = iOf ws from iOf_i ws]
                exact xq_fgt (ih ws _ _ _ _ (by show ws.length < fz; have hfz : (ws.length + 1) < fz + 1 := hfz; omega) hf79 hi2 of79 hfin) (by exact And.intro rfl (And.intro rfl (And.intro rfl (trivial))))
              · skip
                refine xq_iload_n dX1_tieDownTo_54 rfl rfl ?_
                refine xq_bipush dX1_tieDownTo_55 bp13 ?_
                refine xq_icmp_neN dX1_tieDownTo_57 rfl (by omega) (by omega) ⟨fun h57 => ?_, fun h57 => ?_⟩
                · skip
                  refine xq_aload_n dX1_tieDownTo_85 rfl rfl ?_
                  refine xq_callV0H clX1 gd_X1_pop dX1_tieDownTo_86 ml_RX1_138 im_X1_pop se_X1_pop rfl (Fx.s8 hF) (by exact Nat.le_of_ble_eq_true rfl) (by decide) (c_pop hF hfa (by omega)) ?_
                  intro x86 H86 p86
                  obtain ⟨rfl, rfl⟩ := p86
                  have hfq := hfa.pop ht24
                  have hfqo : Off (fun q => (8 ≤ q ∧ q < 12) ∨ (t + 7 ≤ q ∧ q < t + 11)) H _ := ppH_o (hs := hs) (by omega) hfao
                  refine xq_istore dX1_tieDownTo_89 rfl ?_
                  refine xq_aload_n dX1_tieDownTo_91 rfl rfl ?_
                  refine xq_aload_n dX1_tieDownTo_92 rfl rfl ?_
                  refine xq_getR clX1 (by decide) rfl fl_RX1_24 dX1_tieDownTo_93 (Fx.s8 hF) hfq.kn ?_
                  refine xq_iload_n dX1_tieDownTo_96 rfl rfl ?_
                  refine xq_aload_n dX1_tieDownTo_97 rfl rfl ?_
                  refine xq_callV0H clX1 gd_X1_pop dX1_tieDownTo_98 ml_RX1_138 im_X1_pop se_X1_pop rfl (Fx.s8 hF) (by exact Nat.le_of_ble_eq_true rfl) (by decide) (c_pop hF hfq (show hs.tail.length ≤ 64 by rw [List.length_tail]; omega)) ?_
                  intro x98 H98 p98
                  obtain ⟨rfl, rfl⟩ := p98
                  have hfp := hfq.pop ht24
                  have hfpo : Off (fun q => (8 ≤ q ∧ q < 12) ∨ (t + 7 ≤ q ∧ q < t + 11)) H _ := ppH_o (hs := hs.tail) (by omega) hfqo
                  refine xq_iload dX1_tieDownTo_101 rfl ?_
                  refine xq_callV3H clX2 gd_X2_add dX1_tieDownTo_103 ml_RX1_103 im_X2_add se_X2_add rfl (Kn.s0 (Tx.n7 ht)) (by exact Nat.le_of_ble_eq_true rfl) (by decide) (c_kadd (Tx.n7 ht) hfp.tx.kt (show tNk T < 64 by omega)) ?_
                  intro x103 H103 p103
                  obtain ⟨rfl, kt103, bg103, o103⟩ := p103
                  have hf103 := hfp.add ht24 kt103 bg103 o103
                  have of103 : Off (fun q => (8 ≤ q ∧ q < 12) ∨ (t + 7 ≤ q ∧ q < t + 11)) H H103 := (hfpo).tr (o103.mo (fun q z => by omega))
                  refine xq_callV1N clX1 gd_X1_push dX1_tieDownTo_106 ml_RX1_106 im_X1_push se_X1_push rfl (Fx.s8 hF) (by exact Nat.le_of_ble_eq_true rfl) (by decide) (c_push hF hf103.hz (show (hs.tail.tail).length < 64 by rw [List.length_tail, List.length_tail]; omega) hf103.nd) ?_
                  intro H106 p106
                  subst p106
                  have hf106 := hf103.psh (r := tNk T) ht24
                  have of106 : Off (fun q => (8 ≤ q ∧ q < 12) ∨ (t + 7 ≤ q ∧ q < t + 11)) H _ := psH_o (w := w) (sz := (hs.tail.tail).length) (r := tNk T) (Or.inl ⟨by decide, by decide⟩) (Or.inl ⟨by decide, by decide⟩) of103
                  refine xq_iinc dX1_tieDownTo_109 icm1 rfl rfl ?_
                  refine xq_goto dX1_tieDownTo_112 rfl ?_
                  have hun : un1 k = false := by unfold un1; exact decide_eq_false (by omega)
                  have eH : tkH k hs = hs.tail.tail := by unfold tkH; rw [hun]; rfl
                  have eX : tkX k hs = (hs.tail.headD 0) := by unfold tkX; rw [hun]; rfl
                  have eY : tkY k p hs = (hs.headD 0) := by unfold tkY; rw [hun]; rfl
                  have hfin := heq.trans (tieF_c.trans (if_pos (by omega)))
                  have hi2 := hi1.tie (x := (hs.tail.headD 0)) (y := (hs.headD 0)) (w2 := oB w (tNk T)) (by omega)
                  rw [eH] at hi2
                  rw [eH, eX, eY] at hfin
                  rw [show iOf ((k, p) :: ws) + -1 = iOf ws from iOf_i ws]
                  exact xq_fgt (ih ws _ _ _ _ (by show ws.length < fz; have hfz : (ws.length + 1) < fz + 1 := hfz; omega) hf106 hi2 of106 hfin) (by exact And.intro rfl (And.intro rfl (And.intro rfl (trivial))))
                · skip
                  refine xq_aload_n dX1_tieDownTo_60 rfl rfl ?_
                  refine xq_aload_n dX1_tieDownTo_61 rfl rfl ?_
                  refine xq_getR clX1 (by decide) rfl fl_RX1_24 dX1_tieDownTo_62 (Fx.s8 hF) hfa.kn ?_
                  refine xq_iload_n dX1_tieDownTo_65 rfl rfl ?_
                  refine xq_aload_n dX1_tieDownTo_66 rfl rfl ?_
                  refine xq_callV0H clX1 gd_X1_pop dX1_tieDownTo_67 ml_RX1_138 im_X1_pop se_X1_pop rfl (Fx.s8 hF) (by exact Nat.le_of_ble_eq_true rfl) (by decide) (c_pop hF hfa (by omega)) ?_
                  intro x67 H67 p67
                  obtain ⟨rfl, rfl⟩ := p67
                  have hfp := hfa.pop ht24
                  have hfpo : Off (fun q => (8 ≤ q ∧ q < 12) ∨ (t + 7 ≤ q ∧ q < t + 11)) H _ := ppH_o (hs := hs) (by omega) hfao
                  refine xq_aload_n dX1_tieDownTo_70 rfl rfl ?_
                  refine xq_getF clX1 (by decide) rfl fl_RX1_15 dX1_tieDownTo_71 (Fx.s8 hF) (Fx.r8_2 hF) ?_
                  refine xq_iload_n dX1_tieDownTo_74 rfl rfl ?_
                  refine xq_ialdN (v := nI p) dX1_tieDownTo_75 (Fx.s10 hF) (by omega) (by decide) ((ppH_I (by omega)).trans ((hI_sI _ _ _ _ _ _).trans ((if_neg (by omega)).trans hv2))) ?_
                  refine xq_callV3H clX2 gd_X2_add dX1_tieDownTo_76 ml_RX1_103 im_X2_add se_X2_add rfl (Kn.s0 (Tx.n7 ht)) (by exact Nat.le_of_ble_eq_true rfl) (by decide) (c_kadd (Tx.n7 ht) hfp.tx.kt (show tNk T < 64 by omega)) ?_
                  intro x76 H76 p76
                  obtain ⟨rfl, kt76, bg76, o76⟩ := p76
                  have hf76 := hfp.add ht24 kt76 bg76 o76
                  have of76 : Off (fun q => (8 ≤ q ∧ q < 12) ∨ (t + 7 ≤ q ∧ q < t + 11)) H H76 := (hfpo).tr (o76.mo (fun q z => by omega))
                  refine xq_callV1N clX1 gd_X1_push dX1_tieDownTo_79 ml_RX1_106 im_X1_push se_X1_push rfl (Fx.s8 hF) (by exact Nat.le_of_ble_eq_true rfl) (by decide) (c_push hF hf76.hz (show (hs.tail).length < 64 by rw [List.length_tail]; omega) hf76.nd) ?_
                  intro H79 p79
                  subst p79
                  have hf79 := hf76.psh (r := tNk T) ht24
                  have of79 : Off (fun q => (8 ≤ q ∧ q < 12) ∨ (t + 7 ≤ q ∧ q < t + 11)) H _ := psH_o (w := w) (sz := (hs.tail).length) (r := tNk T) (Or.inl ⟨by decide, by decide⟩) (Or.inl ⟨by decide, by decide⟩) of76
                  refine xq_goto dX1_tieDownTo_82 rfl ?_
                  refine xq_iinc dX1_tieDownTo_109 icm1 rfl rfl ?_
                  refine xq_goto dX1_tieDownTo_112 rfl ?_
                  have hun : un1 k = true := by unfold un1; exact decide_eq_true (by omega)
                  have eH : tkH k hs = hs.tail := by unfold tkH; rw [hun]; rfl
                  have eX : tkX k hs = (hs.headD 0) := by unfold tkX; rw [hun]; rfl
                  have eY : tkY k p hs = p := by unfold tkY; rw [hun]; rfl
                  have hfin := heq.trans (tieF_c.trans (if_pos (by omega)))
                  have hi2 := hi1.tie (x := (hs.headD 0)) (y := p) (w2 := oB w (tNk T)) (by omega)
                  rw [eH] at hi2
                  rw [eH, eX, eY] at hfin
                  rw [show iOf ((k, p) :: ws) + -1 = iOf ws from iOf_i ws]
                  exact xq_fgt (ih ws _ _ _ _ (by show ws.length < fz; have hfz : (ws.length + 1) < fz + 1 := hfz; omega) hf79 hi2 of79 hfin) (by exact And.intro rfl (And.intro rfl (And.intro rfl (trivial))))
  refine vq_intro (by decide) (by exact Nat.le_of_ble_eq_true rfl) rfl ?_
  refine xq_aload_n dX1_tieDownTo_0 rfl rfl ?_
  refine xq_getIE clX1 (by decide) rfl fl_RX1_35 dX1_tieDownTo_1 (Fx.s8 hF) hf.wz ?_
  refine xq_iconst dX1_tieDownTo_4 ic1 ?_
  refine xq_isub dX1_tieDownTo_5 ?_
  refine xq_istore_n dX1_tieDownTo_6 rfl rfl ?_
  rw [show nI (fmW (ws0, hs0, o, T0, b, w0)).length - nI 1 = iOf ws0 from iOf_s ws0]
  exact xq_fgt (lp (ws0.length + 1) ws0 hs0 T0 w0 H (by omega) hf hi Off.rf rfl) (by exact And.intro rfl (And.intro rfl (And.intro rfl (trivial))))
end FB
