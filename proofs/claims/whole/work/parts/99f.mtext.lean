/-! ===== the reference: text ===== -/
section MT1
variable {S : xS} {H H1 H2 H3 H0 : xH} {bt : Nat → Nat} {ln k p q i j l m n c t d a its v ls D E w K r tp lt : Nat} {s : uTk} {T T2 : uTx} {N NN : Nat → Nat → Nat} {x : Int32} {Q : xR → Prop} {so va : Int32} {V : Nat}
theorem MsV_e (h : MsV so va K V) (hK : K ≤ 44) (h0 : so = nI 4) : K = 44 := by
  have hs : ∀ y : Nat, y < 10 → y ≠ 4 → so = nI y → False := fun y h1 h2 h3 => by
    rw [h0] at h3
    have := (nq_eq (x := 4) (y := y) (by decide) (by omega)).mp h3
    omega
  by_cases c0 : K < 28
  · exact absurd (h.1 c0).1 (fun z => hs 0 (by decide) (by decide) z)
  by_cases c1 : K = 39
  · exact absurd (h.2.1 c1).1 (fun z => hs 1 (by decide) (by decide) z)
  by_cases c2 : K = 38
  · exact absurd (h.2.2.1 c2).1 (fun z => hs 2 (by decide) (by decide) z)
  by_cases c3 : K = 43
  · exact absurd (h.2.2.2.1 c3) (fun z => hs 5 (by decide) (by decide) z)
  by_cases c4 : K = 44
  · exact c4
  · have : sgc K ≠ 0 := by
      have : ∀ K : Fin 45, ¬ K.val < 28 → K.val ≠ 39 → K.val ≠ 38 → K.val ≠ 43 → K.val ≠ 44 → sgc K.val ≠ 0 := by decide
      exact this ⟨K, by omega⟩ c0 c1 c2 c3 c4
    exact absurd (h.2.2.2.2.2 this).1 (fun z => hs 3 (by decide) (by decide) z)
theorem m_text0 (hF : gFx S) (h2 : hI H 83 2 = nI tp) (hno : x < 0 ∨ nI tp < x) : Hv mX11_text 703 [.ref 83, .int x] S H vZ (fun z H' => z = -2 ∧ H' = sI H 83 0 (nI 0)) := by
  refine vq_intro (by decide) (by exact Nat.le_of_ble_eq_true rfl) rfl ?_
  refine xq_aload_n dX11_text_0 rfl rfl ?_
  refine xq_iconst dX11_text_1 ic0 ?_
  refine xq_putI clX11 (by decide) rfl fl_RX11_128 (Or.inl rfl) dX11_text_2 ⟨rfl, rfl⟩ (Fx.s83 hF) ?_
  skip
  refine xq_iload_n dX11_text_5 rfl rfl ?_
  refine xq_if_lt dX11_text_6 rfl ⟨fun h6 => ?_, fun h6 => ?_⟩
  · skip
    refine xq_bipush dX11_text_17 bpm2 ?_
    refine xq_iret dX11_text_19 rfl ?_
    exact ⟨-2, _, ⟨rfl, rfl⟩, rfl⟩
  · skip
    refine xq_iload_n dX11_text_9 rfl rfl ?_
    refine xq_aload_n dX11_text_10 rfl rfl ?_
    refine xq_getIE (v := nI tp) clX11 (by decide) rfl fl_RX11_131 dX11_text_11 (Fx.s83 hF) (by rw [hI_sI, if_neg (by omega)]; exact h2) ?_
    refine xq_icmp_le dX11_text_14 rfl ⟨fun h14 => ?_, fun h14 => ?_⟩
    · skip
      rcases hno with z | z
      · exact absurd z h6
      · exact absurd h14 (by rw [Int32.not_le]; exact z)
    · skip
      refine xq_bipush dX11_text_17 bpm2 ?_
      refine xq_iret dX11_text_19 rfl ?_
      exact ⟨-2, _, ⟨rfl, rfl⟩, rfl⟩
theorem txt_l1 (hF : gFx S) (hK : 600 ≤ K) (kk : ∀ H1, (∀ j, j < 9 → hI H1 85 (9 + j) = nI 0) → LoQ H H1 → (∀ k, hI H1 83 k = hI H 83 k) → Xq mX11_text K 0 0 65 [some (.ref 83), some (vN n), none] [] S H1 Q) : Xq mX11_text K 0 0 47 [some (.ref 83), some (vN n), some (vN 0)] [] S H Q := by
  have lp : ∀ (fz : Nat) (i : Nat) (H1 : xH), 9 - i < fz → i ≤ 9 → (∀ j, j < i → hI H1 85 (9 + j) = nI 0) → LoQ H H1 → (∀ k, hI H1 83 k = hI H 83 k) → Xq mX11_text K 0 0 47 [some (.ref 83), some (vN n), some (vN i)] [] S H1 Q := by
    intro fz
    induction fz with
    | zero => intro i  H1  hfz; exact absurd hfz (by omega)
    | succ fz ih =>
      intro i  H1  hfz hi hz lo h83
      refine xq_iload_n dX11_text_47 rfl rfl ?_
      refine xq_bipush dX11_text_48 bp9 ?_
      refine xq_icmp_geN dX11_text_50 rfl (by omega) (by omega) ⟨fun h50 => ?_, fun h50 => ?_⟩
      · skip
        exact xq_fgt (kk H1 (fun j hj => hz j (by omega)) lo h83) (by exact And.intro rfl (And.intro rfl trivial))
      · skip
        refine xq_aload_n dX11_text_53 rfl rfl ?_
        refine xq_iload_n dX11_text_54 rfl rfl ?_
        refine xq_iconst dX11_text_55 ic0 ?_
        refine xq_callV2N clX11 gd_X11_reads dX11_text_56 ml_RX11_219 im_X11_reads se_X11_reads rfl (Fx.s83 hF) (by exact Nat.le_of_ble_eq_true rfl) (by omega) (m_reads hF (by omega)) ?_
        intro H56 p56
        subst p56
        refine xq_iincN dX11_text_59 ic1 rfl rfl ?_
        refine xq_goto dX11_text_62 rfl ?_
        exact ih (i + 1) _ (by omega) (by omega) (fun j hj => by
          rw [hI_sI]
          by_cases e : j = i
          · rw [if_pos ⟨rfl, by omega⟩]
          · rw [if_neg (by omega)]; exact hz j (by omega)) (lo.pU (a := 85) (by decide) (show 9 ≤ 9 + i by omega) _) (fun k => by rw [hI_sI, if_neg (by omega)]; exact h83 k)
  exact lp 10 0 H (by omega) (by omega) (fun j hj => absurd hj (Nat.not_lt_zero j)) LoQ.rf (fun _ => rfl)
theorem txt_l2 (hF : gFx S) (kk : ∀ H1, (∀ j, 2 ≤ j → j < 4 → hI H1 97 j = nI 0 ∧ hI H1 98 j = nI 0) → LoQ H H1 → (∀ k, hI H1 83 k = hI H 83 k) → (∀ k, hI H1 85 k = hI H 85 k) → Xq mX11_text K 0 0 92 [some (.ref 83), some (vN n), none] [] S H1 Q) : Xq mX11_text K 0 0 67 [some (.ref 83), some (vN n), some (vN 2)] [] S H Q := by
  have lp : ∀ (fz : Nat) (i : Nat) (H1 : xH), 4 - i < fz → 2 ≤ i ∧ i ≤ 4 → (∀ j, 2 ≤ j → j < i → hI H1 97 j = nI 0 ∧ hI H1 98 j = nI 0) → LoQ H H1 → (∀ k, hI H1 83 k = hI H 83 k) → (∀ k, hI H1 85 k = hI H 85 k) → Xq mX11_text K 0 0 67 [some (.ref 83), some (vN n), some (vN i)] [] S H1 Q := by
    intro fz
    induction fz with
    | zero => intro i  H1  hfz; exact absurd hfz (by omega)
    | succ fz ih =>
      intro i  H1  hfz hi hz lo h83 h85
      refine xq_iload_n dX11_text_67 rfl rfl ?_
      refine xq_iconst dX11_text_68 ic4 ?_
      refine xq_icmp_geN dX11_text_69 rfl (by omega) (by omega) ⟨fun h69 => ?_, fun h69 => ?_⟩
      · skip
        exact xq_fgt (kk H1 (fun j j1 hj => hz j j1 (by omega)) lo h83 h85) (by exact And.intro rfl (And.intro rfl trivial))
      · skip
        refine xq_aload_n dX11_text_72 rfl rfl ?_
        refine xq_getF clX11 (by decide) rfl fl_RX11_49 dX11_text_73 (Fx.s83 hF) (Fx.r83_15 hF) ?_
        refine xq_iload_n dX11_text_76 rfl rfl ?_
        refine xq_iconst dX11_text_77 ic0 ?_
        refine xq_iastN dX11_text_78 (Fx.s97 hF) (by omega) (by decide) ?_
        refine xq_aload_n dX11_text_79 rfl rfl ?_
        refine xq_getF clX11 (by decide) rfl fl_RX11_52 dX11_text_80 (Fx.s83 hF) (Fx.r83_16 hF) ?_
        refine xq_iload_n dX11_text_83 rfl rfl ?_
        refine xq_iconst dX11_text_84 ic0 ?_
        refine xq_iastN dX11_text_85 (Fx.s98 hF) (by omega) (by decide) ?_
        refine xq_iincN dX11_text_86 ic1 rfl rfl ?_
        refine xq_goto dX11_text_89 rfl ?_
        exact ih (i + 1) _ (by omega) (by omega) (fun j j1 hj => by
          rw [hI_sI, hI_sI, if_neg (show ¬ (97 = 98 ∧ j = i) by omega), hI_sI]
          by_cases e : j = i
          · rw [if_pos ⟨rfl, e⟩, if_pos ⟨rfl, e⟩]; exact ⟨rfl, rfl⟩
          · rw [if_neg (fun z => e z.2), if_neg (fun z => e z.2), hI_sI, if_neg (by omega)]; exact hz j j1 (by omega)) ((lo.pU (a := 97) (by decide) (show 2 ≤ i by omega) _).pU (a := 98) (by decide) (show 2 ≤ i by omega) _) (fun k => by rw [hI_sI, if_neg (by omega), hI_sI, if_neg (by omega)]; exact h83 k) (fun k => by rw [hI_sI, if_neg (by omega), hI_sI, if_neg (by omega)]; exact h85 k)
  exact lp 5 2 H (by omega) (by omega) (fun j j1 hj => by omega) LoQ.rf (fun _ => rfl) (fun _ => rfl)
theorem mx0 (h1 : ∀ j, j < 9 → hI H 85 (9 + j) = nI 0) (h2 : ∀ j, 2 ≤ j → j < 4 → hI H 97 j = nI 0 ∧ hI H 98 j = nI 0) : MxU H tx0 N := ⟨h1 0 (by decide), h1 1 (by decide), h1 2 (by decide), h1 3 (by decide), h1 4 (by decide), h1 5 (by decide), h1 6 (by decide), h1 7 (by decide), fun k hk => absurd hk (Nat.not_lt_zero k), fun k hk => absurd hk (Nat.not_lt_zero k), fun k hk => absurd hk (Nat.not_lt_zero k), fun k hk => absurd hk (Nat.not_lt_zero k), fun k hk => absurd hk (Nat.not_lt_zero k), fun k hk => h2 (2 + k) (by omega) (by omega), fun k hk => absurd hk (Nat.not_lt_zero k)⟩
theorem rdL_s {d : Nat} (h : ¬ kK s n = 44) : rdL D s (d + 1) l n T = match linS D s n T with
    | .inl e => .inl e
    | .inr z => rdL D s d (l + 1) z.1 z.2 := by
  unfold linS
  cases e : linR D s n T with
  | inl z => rw [rdL_f h e]
  | inr z =>
    obtain ⟨m, T2⟩ := z
    rw [rdL_c h e]
    show _ = (match (if kK s m = 40 then Sum.inr (m + 1, T2) else Sum.inl (1, m) : rLn) with | .inl e => (Sum.inl e : rrT) | .inr z => rdL D s d (l + 1) z.1 z.2)
    by_cases h40 : kK s m = 40
    · rw [if_pos h40, if_pos h40]
    · rw [if_neg h40, if_neg h40]
theorem linS_r (e : linS D s n T = .inr (m, T2)) : ∃ m1, linR D s n T = .inr (m1, T2) ∧ m = m1 + 1 := by
  unfold linS at e
  cases e2 : linR D s n T with
  | inl z => rw [e2] at e; cases e
  | inr z =>
    obtain ⟨m1, T3⟩ := z
    rw [e2] at e
    have e : (if kK s m1 = 40 then Sum.inr (m1 + 1, T3) else Sum.inl (1, m1) : rLn) = .inr (m, T2) := e
    split at e
    · cases e; exact ⟨m1, rfl, rfl⟩
    · cases e
theorem txt_lp {R : rrT} (hF : gFx S) (hD : 701 ≤ D) (kF : ∀ H2 c m, FtQ H2 s c m → LoQ H H2 → R = .inl (c, m) → Xq mX11_text 703 0 0 138 [some (.ref 83), none, none] [] S H2 Q) (kS : ∀ H2 l T N n, n < kSz s → LiP S H2 bt ln s N n T → LnI T N → hI H2 83 20 = nI l → LoQ H H2 → R = .inr (l, T) → Xq mX11_text 703 0 0 138 [some (.ref 83), none, none] [] S H2 Q)
    (hl : LiP S H bt ln s N n T) (hi : LnI T N) (h20 : hI H 83 20 = nI l) (hr : rdL D s E l n T = R) (hE : kSz s ≤ n + E) : Xq mX11_text 703 0 0 116 [some (.ref 83), none, none] [] S H Q := by
  have lp : ∀ (fz : Nat) (E l n : Nat) (T : uTx) (N : Nat → Nat → Nat) (H1 : xH), kSz s - n < fz → LiP S H1 bt ln s N n T → LnI T N → hI H1 83 20 = nI l → LoQ H H1 → rdL D s E l n T = R → kSz s ≤ n + E → Xq mX11_text 703 0 0 116 [some (.ref 83), none, none] [] S H1 Q := by
    intro fz
    induction fz with
    | zero => intro E l n  T  N  H1  hfz; exact absurd hfz (by omega)
    | succ fz ih =>
      intro E l n  T  N  H1  hfz hl hi h20 lo hr hE
      have hjs := hl.mt.js
      cases E with
      | zero => exact absurd hE (by omega)
      | succ E =>
      by_cases h44 : kK s n = 44
      · skip
        refine xq_aload_n dX11_text_116 rfl rfl ?_
        refine xq_getIE (v := nI 0) clX11 (by decide) rfl fl_RX11_182 dX11_text_117 (Fx.s83 hF) hl.f26 ?_
        refine xq_if_neN dX11_text_120 rfl (by omega) ⟨fun h120 => ?_, fun h120 => ?_⟩
        · skip
          exact absurd rfl h120
        · skip
          refine xq_aload_n dX11_text_123 rfl rfl ?_
          refine xq_getI clX11 (by decide) rfl fl_RX11_147 dX11_text_124 (Fx.s83 hF) ?_
          refine xq_iconst dX11_text_127 ic4 ?_
          refine xq_icmp_eq dX11_text_128 rfl ⟨fun h128 => ?_, fun h128 => ?_⟩
          · skip
            exact kS H1 l T N n hl.mt.js hl hi h20 lo ((rdL_e h44).symm.trans hr).symm
          · skip
            exact absurd (hl.mt.ms.2.2.2.2.1 h44) h128
      · skip
        refine xq_aload_n dX11_text_116 rfl rfl ?_
        refine xq_getIE (v := nI 0) clX11 (by decide) rfl fl_RX11_182 dX11_text_117 (Fx.s83 hF) hl.f26 ?_
        refine xq_if_neN dX11_text_120 rfl (by omega) ⟨fun h120 => ?_, fun h120 => ?_⟩
        · skip
          exact absurd rfl h120
        · skip
          refine xq_aload_n dX11_text_123 rfl rfl ?_
          refine xq_getI clX11 (by decide) rfl fl_RX11_147 dX11_text_124 (Fx.s83 hF) ?_
          refine xq_iconst dX11_text_127 ic4 ?_
          refine xq_icmp_eq dX11_text_128 rfl ⟨fun h128 => ?_, fun h128 => ?_⟩
          · skip
            exact absurd (MsV_e hl.mt.ms (kK_le hl.mt.ok) h128) h44
          · skip
            refine xq_aload_n dX11_text_131 rfl rfl ?_
            refine xq_callV0N clX11 gd_X11_line dX11_text_132 ml_RX11_298 im_X11_line se_X11_line rfl (Fx.s83 hF) (by exact Nat.le_of_ble_eq_true rfl) (by omega) (m_line (D := D) hF hl hi hD h20) ?_
            intro H132 p132
            obtain ⟨lo2, hq⟩ := p132
            rw [rdL_s h44] at hr
            refine xq_goto dX11_text_135 rfl ?_
            cases er : linS D s n T with
            | inl z =>
              obtain ⟨c, m⟩ := z
              rw [er] at hq hr
              have ft : FtQ H132 s c m := hq
              have fa := ft.1
              have fb := ft.2.2.1
              have fc := ft.2.2.2.1
              refine xq_aload_n dX11_text_116 rfl rfl ?_
              refine xq_getIE (v := nI c) clX11 (by decide) rfl fl_RX11_182 dX11_text_117 (Fx.s83 hF) ft.1 ?_
              refine xq_if_neN dX11_text_120 rfl (by omega) ⟨fun h120 => ?_, fun h120 => ?_⟩
              · skip
                exact kF H132 c m ft (lo.tr lo2) hr.symm
              · skip
                exact absurd h120 (by have := ft.2.2.1; omega)
            | inr z =>
              obtain ⟨m, T2⟩ := z
              rw [er] at hq hr
              obtain ⟨hl2, h202⟩ : LiP S H132 bt ln s (lnN N s n T) m T2 ∧ hI H132 83 20 = nI (l + 1) := hq
              obtain ⟨m1, e1, e2⟩ := linS_r er
              have hti := lin_ti hl.mt.ok hi.ti e1
              have hlt := hti.2.1
              have hln := lin_ln hi hl.mt.ok hD e1
              exact ih E (l + 1) m T2 (lnN N s n T) H132 (by omega) hl2 hln h202 (lo.tr lo2) hr (by omega)
  exact lp (kSz s - n + 1) E l n T N H (by omega) hl hi h20 LoQ.rf hr hE
theorem txt_head (hF : gFx S) (h2 : hI H 83 2 = nI tp) (htp : tp ≤ 700) (hn : n ≤ tp) (hta : ∀ j, j < n → hI H 84 j = nI (bt j)) (hby : ∀ j, j < n → bt j < 256) (lx : LexQ bt n s) (ok : TrOk s)
    (kk : ∀ H1, LiP S H1 bt n s (fun _ _ => 0) 0 tx0 → hI H1 83 20 = nI 0 → LoQ (sI (sI (sI H 83 0 (nI 0)) 83 21 (nI n)) 83 2 (nI 0)) H1 → Xq mX11_text 703 0 0 116 [some (.ref 83), none, none] [] S H1 Q) : Xq mX11_text 703 0 0 0 [some (.ref 83), some (vN n), none] [] S H Q := by
  have hn7 : n ≤ 700 := by omega
  refine xq_aload_n dX11_text_0 rfl rfl ?_
  refine xq_iconst dX11_text_1 ic0 ?_
  refine xq_putI clX11 (by decide) rfl fl_RX11_128 (Or.inl rfl) dX11_text_2 ⟨rfl, rfl⟩ (Fx.s83 hF) ?_
  refine xq_iload_n dX11_text_5 rfl rfl ?_
  refine xq_if_ltN dX11_text_6 rfl (by omega) ?_
  refine xq_iload_n dX11_text_9 rfl rfl ?_
  refine xq_aload_n dX11_text_10 rfl rfl ?_
  refine xq_getIE (v := nI tp) clX11 (by decide) rfl fl_RX11_131 dX11_text_11 (Fx.s83 hF) (by rw [hI_sI, if_neg (by omega)]; exact h2) ?_
  refine xq_icmp_leN dX11_text_14 rfl (by omega) (by omega) ⟨fun h14 => ?_, fun h14 => ?_⟩
  · skip
    refine xq_aload_n dX11_text_20 rfl rfl ?_
    refine xq_iload_n dX11_text_21 rfl rfl ?_
    refine xq_putI clX11 (by decide) rfl fl_RX11_137 (Or.inl rfl) dX11_text_22 ⟨rfl, rfl⟩ (Fx.s83 hF) ?_
    refine xq_aload_n dX11_text_25 rfl rfl ?_
    refine xq_iconst dX11_text_26 ic0 ?_
    refine xq_putI clX11 (by decide) rfl fl_RX11_131 (Or.inl rfl) dX11_text_27 ⟨rfl, rfl⟩ (Fx.s83 hF) ?_
    refine xq_aload_n dX11_text_30 rfl rfl ?_
    refine xq_iconst dX11_text_31 ic0 ?_
    refine xq_putI clX11 (by decide) rfl fl_RX11_134 (Or.inl rfl) dX11_text_32 ⟨rfl, rfl⟩ (Fx.s83 hF) ?_
    refine xq_aload_n dX11_text_35 rfl rfl ?_
    refine xq_iconst dX11_text_36 ic0 ?_
    refine xq_putI clX11 (by decide) rfl fl_RX11_182 (Or.inl rfl) dX11_text_37 ⟨rfl, rfl⟩ (Fx.s83 hF) ?_
    refine xq_aload_n dX11_text_40 rfl rfl ?_
    refine xq_iconst dX11_text_41 icm1 ?_
    refine xq_putI clX11 (by decide) rfl fl_RX11_185 (Or.inl rfl) dX11_text_42 ⟨rfl, rfl⟩ (Fx.s83 hF) ?_
    refine xq_iconst dX11_text_45 ic0 ?_
    refine xq_istore_n dX11_text_46 rfl rfl ?_
    have lob : LoQ (sI (sI (sI H 83 0 (nI 0)) 83 21 (nI n)) 83 2 (nI 0)) (sI (sI (sI (sI (sI (sI H 83 0 (nI 0)) 83 21 (nI n)) 83 2 (nI 0)) 83 22 (nI 0)) 83 26 (nI 0)) 83 27 (-1)) := (((LoQ.rf (H := (sI (sI (sI H 83 0 (nI 0)) 83 21 (nI n)) 83 2 (nI 0)))).pF (k := 22) (by decide) (nI 0)).pF (k := 26) (by decide) (nI 0)).pF (k := 27) (by decide) (-1)
    exact txt_l1 hF (by decide) (fun Ha dz dlo d83 => by
      refine xq_iconst dX11_text_65 ic2 ?_
      refine xq_istore_n dX11_text_66 rfl rfl ?_
      exact txt_l2 hF (fun Hb fz flo f83 f85 => by
        refine xq_aload_n dX11_text_92 rfl rfl ?_
        refine xq_iconst dX11_text_93 ic0 ?_
        refine xq_putI clX11 (by decide) rfl fl_RX11_209 (Or.inl rfl) dX11_text_94 ⟨rfl, rfl⟩ (Fx.s83 hF) ?_
        refine xq_aload_n dX11_text_97 rfl rfl ?_
        refine xq_iconst dX11_text_98 ic0 ?_
        refine xq_putI clX11 (by decide) rfl fl_RX11_244 (Or.inl rfl) dX11_text_99 ⟨rfl, rfl⟩ (Fx.s83 hF) ?_
        refine xq_aload_n dX11_text_102 rfl rfl ?_
        refine xq_iconst dX11_text_103 ic0 ?_
        refine xq_putI clX11 (by decide) rfl fl_RX11_274 (Or.inl rfl) dX11_text_104 ⟨rfl, rfl⟩ (Fx.s83 hF) ?_
        refine xq_aload_n dX11_text_107 rfl rfl ?_
        refine xq_iconst dX11_text_108 ic0 ?_
        refine xq_putI clX11 (by decide) rfl fl_RX11_280 (Or.inl rfl) dX11_text_109 ⟨rfl, rfl⟩ (Fx.s83 hF) ?_
        have e83 : ∀ k, hI Hb 83 k = hI (sI (sI (sI (sI (sI (sI H 83 0 (nI 0)) 83 21 (nI n)) 83 2 (nI 0)) 83 22 (nI 0)) 83 26 (nI 0)) 83 27 (-1)) 83 k := fun k => (f83 k).trans (d83 k)
        have hlx : LxP S (sI (sI (sI (sI Hb 83 19 (nI 0)) 83 20 (nI 0)) 83 30 (nI 0)) 83 31 (nI 0)) bt n 0 := ⟨hF, by rw [hI_sI, if_neg (by omega), hI_sI, if_neg (by omega), hI_sI, if_neg (by omega), hI_sI, if_neg (by omega), e83]; simp [hI_sI], by rw [hI_sI, if_neg (by omega), hI_sI, if_neg (by omega), hI_sI, if_neg (by omega), hI_sI, if_neg (by omega), e83]; simp [hI_sI], fun j hj => ⟨by rw [hI_sI, if_neg (by omega), hI_sI, if_neg (by omega), hI_sI, if_neg (by omega), hI_sI, if_neg (by omega), flo.1.I (by omega), dlo.1.I (by omega)]; simp [hI_sI]; exact hta j hj, hby j hj⟩, hn7, Nat.zero_le _⟩
        refine xq_aload_n dX11_text_112 rfl rfl ?_
        refine xq_callV0N clX11 gd_X11_token dX11_text_113 ml_RX11_188 im_X11_token se_X11_token rfl (Fx.s83 hF) (by exact Nat.le_of_ble_eq_true rfl) (by omega) (m_tok0 (b := bt) (n := n) (s := s) hlx lx ok (by rw [hI_sI, if_neg (by omega), hI_sI, if_neg (by omega), hI_sI, if_neg (by omega), hI_sI, if_neg (by omega), e83]; simp [hI_sI])) ?_
        intro H113 p113
        obtain ⟨g1, g2⟩ := p113
        have lo3 := (((((lob.tr dlo).tr flo).pF (k := 19) (by decide) (nI 0)).pF (k := 20) (by decide) (nI 0)).pF (k := 30) (by decide) (nI 0)).pF (k := 31) (by decide) (nI 0)
        have lo4 := lo3.tr (LoQ.of g2 (fun k hk => by omega))
        have h26 : hI H113 83 26 = nI 0 := (g2.2 26 (by decide)).trans (by rw [hI_sI, if_neg (by omega), hI_sI, if_neg (by omega), hI_sI, if_neg (by omega), hI_sI, if_neg (by omega), e83]; simp [hI_sI])
        have h30 : hI H113 83 30 = nI 0 := (g2.2 30 (by decide)).trans (by rw [hI_sI, if_neg (by omega), hI_sI, if_pos ⟨rfl, rfl⟩])
        have h31 : hI H113 83 31 = nI 0 := (g2.2 31 (by decide)).trans (by rw [hI_sI, if_pos ⟨rfl, rfl⟩])
        have h19 : hI H113 83 19 = nI 0 := (g2.2 19 (by decide)).trans (by rw [hI_sI, if_neg (by omega), hI_sI, if_neg (by omega), hI_sI, if_neg (by omega), hI_sI, if_pos ⟨rfl, rfl⟩])
        have h20 : hI H113 83 20 = nI 0 := (g2.2 20 (by decide)).trans (by rw [hI_sI, if_neg (by omega), hI_sI, if_neg (by omega), hI_sI, if_pos ⟨rfl, rfl⟩])
        have c85 : ∀ j, j < 9 → hI H113 85 (9 + j) = nI 0 := fun j hj => (g2.1.I (by omega) _).trans (by rw [hI_sI, if_neg (by omega), hI_sI, if_neg (by omega), hI_sI, if_neg (by omega), hI_sI, if_neg (by omega), f85]; exact dz j hj)
        have c97 : ∀ j, 2 ≤ j → j < 4 → hI H113 97 j = nI 0 ∧ hI H113 98 j = nI 0 := fun j j1 hj => ⟨(g2.1.I (by omega) _).trans (by rw [hI_sI, if_neg (by omega), hI_sI, if_neg (by omega), hI_sI, if_neg (by omega), hI_sI, if_neg (by omega)]; exact (fz j j1 hj).1), (g2.1.I (by omega) _).trans (by rw [hI_sI, if_neg (by omega), hI_sI, if_neg (by omega), hI_sI, if_neg (by omega), hI_sI, if_neg (by omega)]; exact (fz j j1 hj).2)⟩
        have hl : LiP S H113 bt n s (fun _ _ => 0) 0 tx0 := ⟨g1, mx0 c85 c97, h26, h30, h31, ⟨0, h19, by decide, rfl, rfl, rfl, rfl⟩, ⟨0, c85 8 (by decide), by decide, fun p hp => by rw [Nat.zero_testBit]; rfl⟩⟩
        exact xq_fgt (L' := [some (.ref 83), none, none]) (kk H113 hl h20 lo4) (by exact And.intro rfl trivial)))
  · skip
    exact absurd h14 (by omega)
theorem m_text1 (hF : gFx S) (h2 : hI H 83 2 = nI tp) (htp : tp ≤ 700) (hn : n ≤ tp) (hta : ∀ j, j < n → hI H 84 j = nI (bt j)) (hby : ∀ j, j < n → bt j < 256) (lx : LexQ bt n s) (ok : TrOk s) (hD : 701 ≤ D) (hE : 701 ≤ E) (hr : rdL D s E 0 0 tx0 = .inl (c, m)) : Hv mX11_text 703 [.ref 83, vN n] S H vZ (fun x H' => x = -1 ∧ m < kSz s ∧ hI H' 83 28 = nI c ∧ hI H' 83 29 = nI (kPl s m) ∧ LoQ (sI (sI (sI H 83 0 (nI 0)) 83 21 (nI n)) 83 2 (nI 0)) H') := by
  have ok1 := ok.1
  refine vq_intro (by decide) (by exact Nat.le_of_ble_eq_true rfl) rfl ?_
  refine txt_head hF h2 htp hn hta hby lx ok (fun H1 hl h20 lo1 => ?_)
  refine txt_lp (N := fun _ _ => 0) (l := 0) (n := 0) (T := tx0) (R := .inl (c, m)) hF hD (fun H2 c2 m2 ft lo e => ?_) (fun H2 l T N n _ hl hi h20 lo e => by cases e) hl ln0 h20 hr (by omega)
  cases e
  have fa := ft.1
  have fb := ft.2.2.1
  have fc := ft.2.2.2.1
  refine xq_aload_n dX11_text_138 rfl rfl ?_
  refine xq_aload_n dX11_text_139 rfl rfl ?_
  refine xq_getIE (v := nI c) clX11 (by decide) rfl fl_RX11_182 dX11_text_140 (Fx.s83 hF) ft.1 ?_
  refine xq_putI clX11 (by decide) rfl fl_RX11_301 (Or.inl rfl) dX11_text_143 ⟨rfl, rfl⟩ (Fx.s83 hF) ?_
  refine xq_aload_n dX11_text_146 rfl rfl ?_
  refine xq_aload_n dX11_text_147 rfl rfl ?_
  refine xq_getIE (v := nI (kPl s m)) clX11 (by decide) rfl fl_RX11_185 dX11_text_148 (Fx.s83 hF) (by rw [hI_sI, if_neg (by omega)]; exact ft.2.1) ?_
  refine xq_putI clX11 (by decide) rfl fl_RX11_61 (Or.inl rfl) dX11_text_151 ⟨rfl, rfl⟩ (Fx.s83 hF) ?_
  refine xq_aload_n dX11_text_154 rfl rfl ?_
  refine xq_getIE (v := nI c) clX11 (by decide) rfl fl_RX11_182 dX11_text_155 (Fx.s83 hF) (by rw [hI_sI, if_neg (by omega), hI_sI, if_neg (by omega)]; exact ft.1) ?_
  refine xq_if_eqN dX11_text_158 rfl (by omega) ⟨fun h158 => ?_, fun h158 => ?_⟩
  · skip
    exact absurd h158 (by omega)
  · skip
    refine xq_iconst dX11_text_161 icm1 ?_
    refine xq_iret dX11_text_162 rfl ?_
    exact ⟨-1, _, ⟨rfl, ft.2.2.2.2, by rw [hI_sI, if_neg (by omega), hI_sI, if_pos ⟨rfl, rfl⟩], by rw [hI_sI, if_pos ⟨rfl, rfl⟩], ((lo1.tr lo).pF (k := 28) (by decide) _).pF (k := 29) (by decide) _⟩, rfl⟩
def HdQ (H0 H : xH) (a : Nat) : Prop := (∀ q, 85 ≤ q → q < a → ∀ k, k < hfo q → hI H q k = hI H0 q (hfo q + k)) ∧ (∀ q, a ≤ q → ∀ k, hI H q k = hI H0 q k) ∧ Off (fun q => 85 ≤ q ∧ q ≤ 100) H0 H
theorem HdQ.z : HdQ H H 85 := ⟨fun q h1 h2 => by omega, fun _ _ _ => rfl, Off.rf⟩
theorem HdQ.st (h : HdQ H0 H a) (hh : HfQ H H2 a (hfo a)) (ha : 85 ≤ a ∧ a ≤ 100) : HdQ H0 H2 (a + 1) := by
  obtain ⟨h1, h2, h3⟩ := h
  obtain ⟨g1, g2, g3⟩ := hh
  refine ⟨fun q q1 q2 k hk => ?_, fun q hq k => ?_, h3.tr (g3.mo (fun q z => by omega))⟩
  · by_cases e : q = a
    · subst e
      rw [g1 k hk]; exact h2 q (Nat.le_refl _) _
    · rw [g3.I e]; exact h1 q q1 (by omega) k hk
  · rw [g3.I (by omega)]; exact h2 q (by omega) k
theorem lt2p (h : ∀ q, w.testBit q = true → q < n) : w < 2 ^ n := Nat.lt_pow_two_of_testBit w (fun i hi => by
  cases e : w.testBit i with
  | false => rfl
  | true => have := h i e; omega)
theorem m_text2 (hF : gFx S) (h2 : hI H 83 2 = nI tp) (htp : tp ≤ 700) (hn : n ≤ tp) (hta : ∀ j, j < n → hI H 84 j = nI (bt j)) (hby : ∀ j, j < n → bt j < 256) (lx : LexQ bt n s) (ok : TrOk s) (hD : 701 ≤ D) (hE : 701 ≤ E) (hr : rdL D s E 0 0 tx0 = .inr (l, T)) : Hv mX11_text 703 [.ref 83, vN n] S H vN (fun x H' => x = l ∧ (∃ N, LnI T N ∧ MxP H' T N) ∧ MwP H' T ∧ RmP H' T 0 (fun _ => true) (begU T) ∧ hI H' 83 28 = nI 0 ∧ hI H' 83 29 = -1 ∧ hI H' 83 46 = nI 0 ∧ hI H' 83 47 = nI 0 ∧ (∀ k, k ≠ 0 → k ≠ 2 → ¬ (19 ≤ k ∧ k ≤ 31) → k ≠ 36 → k ≠ 37 → k ≠ 46 → k ≠ 47 → hI H' 83 k = hI H 83 k) ∧ hI H' 83 0 = nI 0 ∧ hI H' 83 2 = nI 0 ∧ Off (fun q => q = 83 ∨ (85 ≤ q ∧ q ≤ 100) ∨ (103 ≤ q ∧ q ≤ 111)) H H') := by
  have ok1 := ok.1
  refine vq_intro (by decide) (by exact Nat.le_of_ble_eq_true rfl) rfl ?_
  refine txt_head hF h2 htp hn hta hby lx ok (fun H1 hl h20 lo1 => ?_)
  refine txt_lp (N := fun _ _ => 0) (l := 0) (n := 0) (T := tx0) (R := .inr (l, T)) hF hD (fun H2 c2 m2 ft lo e => by cases e) (fun H2 l2 T2 N n2 hn2 hl2 hi h202 lo e => ?_) hl ln0 h20 hr (by omega)
  cases e
  have hl := hl2
  have h20 := h202
  have hti := hi.ti
  have h27b : hI H2 83 27 = -1 := hl.mt.fp
  have hsb : ∀ p, p < tNp T → tSe T p < 2 ^ tNp T := fun p hp => lt2p (fun q hq => (hi.2.2.2.1.2 p q hq).1)
  refine xq_aload_n dX11_text_138 rfl rfl ?_
  refine xq_aload_n dX11_text_139 rfl rfl ?_
  refine xq_getIE (v := nI 0) clX11 (by decide) rfl fl_RX11_182 dX11_text_140 (Fx.s83 hF) hl.f26 ?_
  refine xq_putI clX11 (by decide) rfl fl_RX11_301 (Or.inl rfl) dX11_text_143 ⟨rfl, rfl⟩ (Fx.s83 hF) ?_
  refine xq_aload_n dX11_text_146 rfl rfl ?_
  refine xq_aload_n dX11_text_147 rfl rfl ?_
  refine xq_getIE (v := -1) clX11 (by decide) rfl fl_RX11_185 dX11_text_148 (Fx.s83 hF) (by rw [hI_sI, if_neg (by omega)]; exact h27b) ?_
  refine xq_putI clX11 (by decide) rfl fl_RX11_61 (Or.inl rfl) dX11_text_151 ⟨rfl, rfl⟩ (Fx.s83 hF) ?_
  refine xq_aload_n dX11_text_154 rfl rfl ?_
  refine xq_getIE (v := nI 0) clX11 (by decide) rfl fl_RX11_182 dX11_text_155 (Fx.s83 hF) (by rw [hI_sI, if_neg (by omega), hI_sI, if_neg (by omega)]; exact hl.f26) ?_
  refine xq_if_eqN dX11_text_158 rfl (by omega) ⟨fun h158 => ?_, fun h158 => ?_⟩
  · skip
    have d85 : HdQ (sI (sI H2 83 28 (nI 0)) 83 29 (-1)) (sI (sI H2 83 28 (nI 0)) 83 29 (-1)) 85 := HdQ.z
    refine xq_aload_n dX11_text_163 rfl rfl ?_
    refine xq_getF clX11 (by decide) rfl fl_RX11_13 dX11_text_164 (Fx.s83 hF) (Fx.r83_3 hF) ?_
    refine xq_callS1N gd_X11_half dX11_text_167 ml_RX11_304 im_X11_half (by exact Nat.le_of_ble_eq_true rfl) (by omega) (m_half (c := 9) (Fx.s85 hF) (by decide)) ?_
    intro H167 p167
    have d86 := HdQ.st (a := 85) d85 p167 (by decide)
    refine xq_aload_n dX11_text_170 rfl rfl ?_
    refine xq_getF clX11 (by decide) rfl fl_RX11_16 dX11_text_171 (Fx.s83 hF) (Fx.r83_4 hF) ?_
    refine xq_callS1N gd_X11_half dX11_text_174 ml_RX11_304 im_X11_half (by exact Nat.le_of_ble_eq_true rfl) (by omega) (m_half (c := 3) (Fx.s86 hF) (by decide)) ?_
    intro H174 p174
    have d87 := HdQ.st (a := 86) d86 p174 (by decide)
    refine xq_aload_n dX11_text_177 rfl rfl ?_
    refine xq_getF clX11 (by decide) rfl fl_RX11_19 dX11_text_178 (Fx.s83 hF) (Fx.r83_5 hF) ?_
    refine xq_callS1N gd_X11_half dX11_text_181 ml_RX11_304 im_X11_half (by exact Nat.le_of_ble_eq_true rfl) (by omega) (m_half (c := 3) (Fx.s87 hF) (by decide)) ?_
    intro H181 p181
    have d88 := HdQ.st (a := 87) d87 p181 (by decide)
    refine xq_aload_n dX11_text_184 rfl rfl ?_
    refine xq_getF clX11 (by decide) rfl fl_RX11_22 dX11_text_185 (Fx.s83 hF) (Fx.r83_6 hF) ?_
    refine xq_callS1N gd_X11_half dX11_text_188 ml_RX11_304 im_X11_half (by exact Nat.le_of_ble_eq_true rfl) (by omega) (m_half (c := 6) (Fx.s88 hF) (by decide)) ?_
    intro H188 p188
    have d89 := HdQ.st (a := 88) d88 p188 (by decide)
    refine xq_aload_n dX11_text_191 rfl rfl ?_
    refine xq_getF clX11 (by decide) rfl fl_RX11_25 dX11_text_192 (Fx.s83 hF) (Fx.r83_7 hF) ?_
    refine xq_callS1N gd_X11_half dX11_text_195 ml_RX11_304 im_X11_half (by exact Nat.le_of_ble_eq_true rfl) (by omega) (m_half (c := 6) (Fx.s89 hF) (by decide)) ?_
    intro H195 p195
    have d90 := HdQ.st (a := 89) d89 p195 (by decide)
    refine xq_aload_n dX11_text_198 rfl rfl ?_
    refine xq_getF clX11 (by decide) rfl fl_RX11_28 dX11_text_199 (Fx.s83 hF) (Fx.r83_8 hF) ?_
    refine xq_callS1N gd_X11_half dX11_text_202 ml_RX11_304 im_X11_half (by exact Nat.le_of_ble_eq_true rfl) (by omega) (m_half (c := 6) (Fx.s90 hF) (by decide)) ?_
    intro H202 p202
    have d91 := HdQ.st (a := 90) d90 p202 (by decide)
    refine xq_aload_n dX11_text_205 rfl rfl ?_
    refine xq_getF clX11 (by decide) rfl fl_RX11_31 dX11_text_206 (Fx.s83 hF) (Fx.r83_9 hF) ?_
    refine xq_callS1N gd_X11_half dX11_text_209 ml_RX11_304 im_X11_half (by exact Nat.le_of_ble_eq_true rfl) (by omega) (m_half (c := 8) (Fx.s91 hF) (by decide)) ?_
    intro H209 p209
    have d92 := HdQ.st (a := 91) d91 p209 (by decide)
    refine xq_aload_n dX11_text_212 rfl rfl ?_
    refine xq_getF clX11 (by decide) rfl fl_RX11_34 dX11_text_213 (Fx.s83 hF) (Fx.r83_10 hF) ?_
    refine xq_callS1N gd_X11_half dX11_text_216 ml_RX11_304 im_X11_half (by exact Nat.le_of_ble_eq_true rfl) (by omega) (m_half (c := 8) (Fx.s92 hF) (by decide)) ?_
    intro H216 p216
    have d93 := HdQ.st (a := 92) d92 p216 (by decide)
    refine xq_aload_n dX11_text_219 rfl rfl ?_
    refine xq_getF clX11 (by decide) rfl fl_RX11_37 dX11_text_220 (Fx.s83 hF) (Fx.r83_11 hF) ?_
    refine xq_callS1N gd_X11_half dX11_text_223 ml_RX11_304 im_X11_half (by exact Nat.le_of_ble_eq_true rfl) (by omega) (m_half (c := 8) (Fx.s93 hF) (by decide)) ?_
    intro H223 p223
    have d94 := HdQ.st (a := 93) d93 p223 (by decide)
    refine xq_aload_n dX11_text_226 rfl rfl ?_
    refine xq_getF clX11 (by decide) rfl fl_RX11_40 dX11_text_227 (Fx.s83 hF) (Fx.r83_12 hF) ?_
    refine xq_callS1N gd_X11_half dX11_text_230 ml_RX11_304 im_X11_half (by exact Nat.le_of_ble_eq_true rfl) (by omega) (m_half (c := 12) (Fx.s94 hF) (by decide)) ?_
    intro H230 p230
    have d95 := HdQ.st (a := 94) d94 p230 (by decide)
    refine xq_aload_n dX11_text_233 rfl rfl ?_
    refine xq_getF clX11 (by decide) rfl fl_RX11_43 dX11_text_234 (Fx.s83 hF) (Fx.r83_13 hF) ?_
    refine xq_callS1N gd_X11_half dX11_text_237 ml_RX11_304 im_X11_half (by exact Nat.le_of_ble_eq_true rfl) (by omega) (m_half (c := 12) (Fx.s95 hF) (by decide)) ?_
    intro H237 p237
    have d96 := HdQ.st (a := 95) d95 p237 (by decide)
    refine xq_aload_n dX11_text_240 rfl rfl ?_
    refine xq_getF clX11 (by decide) rfl fl_RX11_46 dX11_text_241 (Fx.s83 hF) (Fx.r83_14 hF) ?_
    refine xq_callS1N gd_X11_half dX11_text_244 ml_RX11_304 im_X11_half (by exact Nat.le_of_ble_eq_true rfl) (by omega) (m_half (c := 12) (Fx.s96 hF) (by decide)) ?_
    intro H244 p244
    have d97 := HdQ.st (a := 96) d96 p244 (by decide)
    refine xq_aload_n dX11_text_247 rfl rfl ?_
    refine xq_getF clX11 (by decide) rfl fl_RX11_49 dX11_text_248 (Fx.s83 hF) (Fx.r83_15 hF) ?_
    refine xq_callS1N gd_X11_half dX11_text_251 ml_RX11_304 im_X11_half (by exact Nat.le_of_ble_eq_true rfl) (by omega) (m_half (c := 2) (Fx.s97 hF) (by decide)) ?_
    intro H251 p251
    have d98 := HdQ.st (a := 97) d97 p251 (by decide)
    refine xq_aload_n dX11_text_254 rfl rfl ?_
    refine xq_getF clX11 (by decide) rfl fl_RX11_52 dX11_text_255 (Fx.s83 hF) (Fx.r83_16 hF) ?_
    refine xq_callS1N gd_X11_half dX11_text_258 ml_RX11_304 im_X11_half (by exact Nat.le_of_ble_eq_true rfl) (by omega) (m_half (c := 2) (Fx.s98 hF) (by decide)) ?_
    intro H258 p258
    have d99 := HdQ.st (a := 98) d98 p258 (by decide)
    refine xq_aload_n dX11_text_261 rfl rfl ?_
    refine xq_getF clX11 (by decide) rfl fl_RX11_55 dX11_text_262 (Fx.s83 hF) (Fx.r83_17 hF) ?_
    refine xq_callS1N gd_X11_half dX11_text_265 ml_RX11_304 im_X11_half (by exact Nat.le_of_ble_eq_true rfl) (by omega) (m_half (c := 64) (Fx.s99 hF) (by decide)) ?_
    intro H265 p265
    have d100 := HdQ.st (a := 99) d99 p265 (by decide)
    refine xq_aload_n dX11_text_268 rfl rfl ?_
    refine xq_getF clX11 (by decide) rfl fl_RX11_58 dX11_text_269 (Fx.s83 hF) (Fx.r83_18 hF) ?_
    refine xq_callS1N gd_X11_half dX11_text_272 ml_RX11_304 im_X11_half (by exact Nat.le_of_ble_eq_true rfl) (by omega) (m_half (c := 64) (Fx.s100 hF) (by decide)) ?_
    intro H272 p272
    have d101 := HdQ.st (a := 100) d100 p272 (by decide)
    have e83 : ∀ k, hI H272 83 k = hI (sI (sI H2 83 28 (nI 0)) 83 29 (-1)) 83 k := fun k => d101.2.2.I (by omega) k
    refine xq_aload_n dX11_text_275 rfl rfl ?_
    refine xq_iconst dX11_text_276 ic0 ?_
    refine xq_putI clX11 (by decide) rfl fl_RX11_308 (Or.inl rfl) dX11_text_277 ⟨rfl, rfl⟩ (Fx.s83 hF) ?_
    refine xq_aload_n dX11_text_280 rfl rfl ?_
    refine xq_iconst dX11_text_281 ic0 ?_
    refine xq_putI clX11 (by decide) rfl fl_RX11_312 (Or.inl rfl) dX11_text_282 ⟨rfl, rfl⟩ (Fx.s83 hF) ?_
    have hmu : MxU (sI (sI H2 83 28 (nI 0)) 83 29 (-1)) T N := hl.mx.off (A := fun q => q = 83) (Off.pI (A := fun q => q = 83) (Off.pI (A := fun q => q = 83) Off.rf rfl _ _) rfl _ _) (fun q h1 h2 z => by omega)
    have hmx0 : MxP H272 T N := hmu.dn hti.sz (fun q q1 q2 k hk => d101.1 q q1 (by omega) k hk)
    have hmx : MxP (sI (sI H272 83 46 (nI 0)) 83 47 (nI 0)) T N := hmx0.off (A := fun q => q = 83) (Off.pI (A := fun q => q = 83) (Off.pI (A := fun q => q = 83) Off.rf rfl _ _) rfl _ _) (fun q h1 h2 z => by omega)
    refine xq_aload_n dX11_text_285 rfl rfl ?_
    refine xq_callV0N clX11 gd_X11_begins dX11_text_286 ml_RX11_125 im_X11_begins se_X11_begins rfl (Fx.s83 hF) (by exact Nat.le_of_ble_eq_true rfl) (by omega) (m_begins (T := T) (N := N) hF hmx hi.tw hi.ht hsb) ?_
    intro H286 p286
    obtain ⟨hw, hrm, mo⟩ := p286
    have h20e : hI H286 83 20 = nI l := (mo.2 20 (by omega)).trans (by rw [hI_sI, if_neg (by omega), hI_sI, if_neg (by omega), e83, hI_sI, if_neg (by omega), hI_sI, if_neg (by omega)]; exact h20)
    refine xq_aload_n dX11_text_289 rfl rfl ?_
    refine xq_getIE (v := nI l) clX11 (by decide) rfl fl_RX11_244 dX11_text_290 (Fx.s83 hF) h20e ?_
    refine xq_iret dX11_text_293 rfl ?_
    have ef : ∀ k, k ≠ 36 → k ≠ 37 → k ≠ 46 → k ≠ 47 → k ≠ 28 → k ≠ 29 → hI H286 83 k = hI H2 83 k := fun k a1 a2 a3 a4 a5 a6 => (mo.2 k (by omega)).trans (by rw [hI_sI, if_neg (by omega), hI_sI, if_neg (by omega), e83, hI_sI, if_neg (by omega), hI_sI, if_neg (by omega)])
    exact ⟨l, H286, ⟨rfl, ⟨N, hi, hmx.off mo.1 (fun q h1 h2 z => by omega)⟩, hw, hrm, (mo.2 28 (by omega)).trans (by rw [hI_sI, if_neg (by omega), hI_sI, if_neg (by omega), e83, hI_sI, if_neg (by omega), hI_sI, if_pos ⟨rfl, rfl⟩]), (mo.2 29 (by omega)).trans (by rw [hI_sI, if_neg (by omega), hI_sI, if_neg (by omega), e83, hI_sI, if_pos ⟨rfl, rfl⟩]), (mo.2 46 (by omega)).trans (by rw [hI_sI, if_neg (by omega), hI_sI, if_pos ⟨rfl, rfl⟩]), (mo.2 47 (by omega)).trans (by rw [hI_sI, if_pos ⟨rfl, rfl⟩]), fun k a0 a1 a2 a3 a4 a5 a6 => (ef k a3 a4 a5 a6 (by omega) (by omega)).trans (((lo1.tr lo).2.1 k (by omega)).trans (by rw [hI_sI, if_neg (by omega), hI_sI, if_neg (by omega), hI_sI, if_neg (by omega)])), (ef 0 (by decide) (by decide) (by decide) (by decide) (by decide) (by decide)).trans (((lo1.tr lo).2.1 0 (by omega)).trans (by simp [hI_sI])), (ef 2 (by decide) (by decide) (by decide) (by decide) (by decide) (by decide)).trans (((lo1.tr lo).2.1 2 (by omega)).trans (by simp [hI_sI])), (Off.pI (A := fun q => q = 83 ∨ (85 ≤ q ∧ q ≤ 100) ∨ (103 ≤ q ∧ q ≤ 111)) (Off.pI (A := fun q => q = 83 ∨ (85 ≤ q ∧ q ≤ 100) ∨ (103 ≤ q ∧ q ≤ 111)) ((Off.pI (A := fun q => q = 83 ∨ (85 ≤ q ∧ q ≤ 100) ∨ (103 ≤ q ∧ q ≤ 111)) (Off.pI (A := fun q => q = 83 ∨ (85 ≤ q ∧ q ≤ 100) ∨ (103 ≤ q ∧ q ≤ 111)) ((Off.pI (A := fun q => q = 83 ∨ (85 ≤ q ∧ q ≤ 100) ∨ (103 ≤ q ∧ q ≤ 111)) (Off.pI (A := fun q => q = 83 ∨ (85 ≤ q ∧ q ≤ 100) ∨ (103 ≤ q ∧ q ≤ 111)) (Off.pI (A := fun q => q = 83 ∨ (85 ≤ q ∧ q ≤ 100) ∨ (103 ≤ q ∧ q ≤ 111)) Off.rf (Or.inl rfl) _ _) (Or.inl rfl) _ _) (Or.inl rfl) _ _).tr ((lo1.tr lo).1.mo (fun q z => by omega))) (Or.inl rfl) _ _) (Or.inl rfl) _ _).tr (d101.2.2.mo (fun q z => by omega))) (Or.inl rfl) _ _) (Or.inl rfl) _ _).tr (mo.1.mo (fun q z => by omega))⟩, rfl⟩
  · skip
    exact absurd rfl h158
end MT1
