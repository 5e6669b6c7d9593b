/-! ===== the reference's calls: teaching, looking, guessing, rests, counts ===== -/
section CC
variable {S : xS} {H H1 H2 H3 : xH} {T : uTx} {N : Nat → Nat → Nat} {s a b c w p q n i j k x y m l f odds ps : Nat} {lf fb Rw : Nat → Bool} {u v : uSt} {ow mu : Int} {dr : Bool} {A F : Nat → Prop} {ww w2 w3 : Int32}
theorem sub_pow {s n x : Nat} (hs : s < 2 ^ n) (h : ∀ g, x.testBit g = true → g < n) : (s &&& x == s) = true ↔ ∀ g, g < n → s.testBit g = true → x.testBit g = true := by
  rw [beq_iff_eq]
  constructor
  · intro e g hg hb
    have := congrArg (fun z => z.testBit g) e
    simp only [Nat.testBit_and, hb, Bool.true_and] at this
    exact this
  · intro g
    apply Nat.eq_of_testBit_eq
    intro j
    rw [Nat.testBit_and]
    cases hb : s.testBit j
    · rfl
    · have hj : j < n := by
        apply Classical.byContradiction
        intro hn
        rw [Nat.testBit_lt_two_pow (Nat.lt_of_lt_of_le hs (Nat.pow_le_pow_right (show 2 > 0 by decide) (by omega)))] at hb
        cases hb
      rw [g j hj hb]; rfl
theorem fsV_in (T : uTx) (u : uSt) (r g : Nat) (h : (fsV T u r).testBit g = true) : g < tNf T := by
  rw [fsV_tb] at h
  simp at h
  exact h.1
theorem aso_fs (hs : s < 2 ^ tNf T) (r : Nat) : aso T u s r (tNf T) = (s &&& fsV T u r == s) := by
  rw [Bool.eq_iff_iff, sub_pow hs (fsV_in T u r)]
  unfold aso
  rw [Bool.not_eq_true', ← Bool.not_eq_true, ex_iff]
  constructor
  · intro h g hg hb
    rw [fsV_tb, decide_eq_true hg, Bool.true_and]
    apply Classical.byContradiction
    intro hn
    have hk : kv T u (tRo T g) r = false := by
      cases e9 : kv T u (tRo T g) r
      · rfl
      · exact absurd e9 hn
    exact h ⟨g, hg, by rw [hb, hk]; rfl⟩
  · rintro h ⟨g, hg, hb⟩
    simp only [Bool.and_eq_true, Bool.not_eq_true'] at hb
    have := h g hg hb.1
    rw [fsV_tb, hb.2] at this
    simp at this
/-- all of the people m would know -/
noncomputable def awk (T : uTx) (u : uSt) (m s n : Nat) : Bool := !(ex (fun p => m.testBit p && !(wkn T u p s)) n)
theorem awk_s (n : Nat) : awk T u m s (n + 1) = (awk T u m s n && !(m.testBit n && !(wkn T u n s))) := by
  unfold awk
  rw [ex_s, Bool.not_or]
theorem awk_t (h : m.testBit p = false ∨ wkn T u p s = true) {bb : Bool} (hb : bb = awk T u m s p) : bI bb &&& nI 1 = bI (awk T u m s (p + 1)) := by
  rw [hb, awk_s]
  have : (!(m.testBit p && !(wkn T u p s))) = true := by rcases h with e | e <;> rw [e] <;> simp
  rw [this]
  cases awk T u m s p <;> rfl
theorem awk_f (h : m.testBit p = true) (h2 : wkn T u p s = false) (bb : Bool) : bI bb &&& nI 0 = bI (awk T u m s (p + 1)) := by
  rw [awk_s, h, h2]
  cases bb <;> simp <;> rfl
theorem awk_bar (h : LfR T lf u) (tt : TtOk T) (hs : s < 2 ^ tNf T) : awk T u m s (tNp T) = !(barV T u m s) := by
  have hrc : ∀ p, p < tNp T → col (uW u (uRl u)) p = tHt T p := fun p hp => by rw [h.rw_]; exact tt.2 p hp
  rw [Bool.eq_iff_iff, Bool.not_eq_true', ← Bool.not_eq_true]
  unfold awk barV
  rw [Bool.not_eq_true', ← Bool.not_eq_true, ex_iff, ex_iff]
  apply not_congr
  constructor
  · rintro ⟨p, hp, hb⟩
    simp only [Bool.and_eq_true, Bool.not_eq_true'] at hb
    have hw := hb.2
    unfold wkn at hw
    rw [Bool.not_eq_false'] at hw
    obtain ⟨r, hr, hb2⟩ := ex_iff.mp hw
    simp only [Bool.and_eq_true, bne_iff_ne] at hb2
    refine ⟨r, hr, ?_⟩
    rw [Bool.and_eq_true]
    refine ⟨?_, by rw [← aso_fs hs]; exact hb2.2.2⟩
    unfold riv
    rw [ex_iff]
    refine ⟨p, by rw [h.2.2.2.2]; exact hp, ?_⟩
    rw [hb.1, hb2.1, hrc p hp]
    simp [hb2.2.1]
  · rintro ⟨r, hr, hb⟩
    rw [Bool.and_eq_true] at hb
    have hv := hb.1
    unfold riv at hv
    obtain ⟨p, hp, hb2⟩ := ex_iff.mp hv
    rw [h.2.2.2.2] at hp
    simp only [Bool.and_eq_true, bne_iff_ne] at hb2
    refine ⟨p, hp, ?_⟩
    rw [hb2.1]
    have : wkn T u p s = false := by
      unfold wkn
      rw [Bool.not_eq_false', ex_iff]
      refine ⟨r, hr, ?_⟩
      rw [hb2.2.2, aso_fs hs, hb.2]
      rw [hrc p hp] at hb2
      simp [hb2.2.1]
    rw [this]; rfl
theorem ffs_more (B : Nat → Bool) {so : Nat} (hso : ∀ g, so.testBit g = true → g < n) : ∀ d, ffs B so (2 ^ n + d) = ffs B so (2 ^ n)
  | 0 => rfl
  | d + 1 => by
    have ih := ffs_more B hso d
    show (if (2 ^ n + d &&& so == 2 ^ n + d) && _ then _ else ffs B so (2 ^ n + d)) = _
    have hns : (2 ^ n + d &&& so == 2 ^ n + d) = false := by
      rw [← Bool.not_eq_true, beq_iff_eq]
      intro e
      have hlt : so < 2 ^ n := Nat.lt_pow_two_of_testBit _ (fun j hj => by
        cases hb : so.testBit j
        · rfl
        · have := hso j hb; omega)
      have : 2 ^ n + d &&& so ≤ so := Nat.and_le_right
      omega
    rw [hns, Bool.false_and, if_neg (by decide), ih]
theorem tch_n (h : tNf T ≤ 8) : tchV T u m = ffs (barV T u m) (fsV T u (uRl u)) (2 ^ tNf T) := by
  have h1 : 2 ^ tNf T ≤ 2 ^ 8 := Nat.pow_le_pow_right (by decide) h
  have := ffs_more (barV T u m) (fsV_in T u (uRl u)) (2 ^ 8 - 2 ^ tNf T)
  rw [show 2 ^ tNf T + (2 ^ 8 - 2 ^ tNf T) = 256 by omega] at this
  exact this
theorem m_bitsOfZ {z : Int} (h : 0 ≤ z) (h2 : z < 1024) : Pv mX11_bitsOf 0 [.int (zI z)] S H (vN (pop z.toNat)) := by
  rw [zI_nat h]; exact m_bitsOf (by omega)
theorem m_taught (hs : MsP S H T N) (hr : RmP H T 0 lf u) (hlr : LfR T lf u) (ok : StOk u) (hm : m < 64) : Hv mX11_taught 5 [.ref 83, vN m] S H vZ (fun (x : Int) H' => x = (tchV T u m) ∧ MoF (fun q => q = 83 ∨ q = 101 ∨ q = 102 ∨ (112 ≤ q ∧ q ≤ 118)) (fun k => k = 0 ∨ k = 34 ∨ k = 48 ∨ k = 56) H H') := by
  have hF := hs.fx; have hx := hs.mx; have hw := hs.mw; have tk := hs.tk; have tw := hs.tw; have hnp := tw.2.1; have hnc := tw.1; have hWn := nW_le tw; have hnf8 := tk.nf; have htt := hs.tt
  refine vq_intro (by decide) (by exact Nat.le_of_ble_eq_true rfl) rfl ?_
  refine xq_aload_n dX11_taught_0 rfl rfl ?_
  refine xq_iconst dX11_taught_1 ic0 ?_
  refine xq_callV1N clX11 gd_X11_lays dX11_taught_2 ml_RX11_428 im_X11_lays se_X11_lays rfl (Fx.s83 hF) (by exact Nat.le_of_ble_eq_true rfl) (by decide) (m_lays hs hr hlr ok (by decide)) ?_
  intro H2 p2
  obtain ⟨hd, hl2⟩ := p2
  have hr1 := hd.rm; have hx1 := hd.ms.mx; have hw1 := hd.ms.mw; have hs1 := hd.ms
  have hl0 : MoF (fun q => q = 83 ∨ q = 101 ∨ q = 102 ∨ (112 ≤ q ∧ q ≤ 118)) (fun k => k = 0 ∨ k = 34 ∨ k = 48 ∨ k = 56) H H2 := MoF.mo hl2 (fun q h => (by omega : q = 83 ∨ q = 101 ∨ q = 102 ∨ (112 ≤ q ∧ q ≤ 118))) (fun k h => (by omega : k = 0 ∨ k = 34 ∨ k = 48 ∨ k = 56))
  have lo : ∀ (fz : Nat) (s : Nat), 2 ^ tNf T - s < fz → s ≤ 2 ^ tNf T → Xq mX11_taught 5 0 0 10 [some (.ref 83), some (vN m), some (.int (zI ((ffs (barV T u m) (fsV T u (uRl u))) s))), some (vN s), none, none] [] S H2 (fun R => ∃ x H', (fun (x : Int) H' => x = (tchV T u m) ∧ MoF (fun q => q = 83 ∨ q = 101 ∨ q = 102 ∨ (112 ≤ q ∧ q ≤ 118)) (fun k => k = 0 ∨ k = 34 ∨ k = 48 ∨ k = 56) H H') x H' ∧ R = (some (vZ x), S, H')) := by
    intro fz
    induction fz with
    | zero => intro s  hfz; exact absurd hfz (by omega)
    | succ fz ih =>
      intro s  hfz hi
      have hbd := ffs_bd (barV T u m) (fsV T u (uRl u)) s; have h256 : 2 ^ tNf T ≤ 2 ^ 8 := Nat.pow_le_pow_right (by decide) hnf8; have hsh : 1 <<< tNf T = 2 ^ tNf T := Nat.one_shiftLeft _
      refine xq_iload_n dX11_taught_10 rfl rfl ?_
      refine xq_iconst dX11_taught_11 ic1 ?_
      refine xq_aload_n dX11_taught_12 rfl rfl ?_
      refine xq_getF clX11 (by decide) rfl fl_RX11_13 dX11_taught_13 (Fx.s83 hF) (Fx.r83_3 hF) ?_
      refine xq_iconst dX11_taught_16 ic2 ?_
      refine xq_ialdN dX11_taught_17 (Fx.s85 hF) (by omega) (by decide) hx1.nf ?_
      refine xq_ishlN dX11_taught_18 (by omega) ?_
      rw [hsh]
      refine xq_icmp_geN dX11_taught_19 rfl (by omega) (by omega) ⟨fun h19 => ?_, fun h19 => ?_⟩
      · skip
        refine xq_iload_n dX11_taught_113 rfl rfl ?_
        refine xq_iret dX11_taught_114 rfl ?_
        have es : s = 2 ^ tNf T := by omega
        refine ⟨_, H2, ⟨rfl, hl0⟩, ?_⟩
        rw [tch_n hnf8, ← es]
      · skip
        have hs2 : s < 2 ^ tNf T := by omega
        refine xq_aload_n dX11_taught_22 rfl rfl ?_
        refine xq_iload_n dX11_taught_23 rfl rfl ?_
        refine xq_callV1P clX11 gd_X11_areSo dX11_taught_24 ml_RX11_485 im_X11_areSo se_X11_areSo rfl (Fx.s83 hF) (by exact Nat.le_of_ble_eq_true rfl) (by decide) (m_areSo hd (by omega)) ?_
        refine xq_if_eqB dX11_taught_27 rfl ⟨fun h27 => ?_, fun h27 => ?_⟩
        · skip
          refine xq_iincN dX11_taught_107 ic1 rfl rfl ?_
          refine xq_goto dX11_taught_110 rfl ?_
          have hst : (ffs (barV T u m) (fsV T u (uRl u))) (s + 1) = if (s &&& fsV T u (uRl u) == s) && (!(barV T u m s) && (decide ((ffs (barV T u m) (fsV T u (uRl u))) s < 0) || decide (pop s < pop ((ffs (barV T u m) (fsV T u (uRl u))) s).toNat))) then (s : Int) else (ffs (barV T u m) (fsV T u (uRl u))) s := rfl
          rw [← aso_fs hs2, h27, Bool.false_and, if_neg (by decide)] at hst
          rw [← hst]
          exact xq_fgt (ih (s + 1) (by omega) (by omega)) (by exact And.intro rfl (And.intro rfl (And.intro rfl (And.intro rfl (trivial)))))
        · skip
          refine xq_iload_n dX11_taught_30 rfl rfl ?_
          refine xq_if_lt dX11_taught_31 rfl ⟨fun h31 => ?_, fun h31 => ?_⟩
          · skip
            rw [zI_lt0 (by omega) (by omega)] at h31
            have hst0 : (ffs (barV T u m) (fsV T u (uRl u))) (s + 1) = if (s &&& fsV T u (uRl u) == s) && (!(barV T u m s) && (decide ((ffs (barV T u m) (fsV T u (uRl u))) s < 0) || decide (pop s < pop ((ffs (barV T u m) (fsV T u (uRl u))) s).toNat))) then (s : Int) else (ffs (barV T u m) (fsV T u (uRl u))) s := rfl
            have hso2 : (s &&& fsV T u (uRl u) == s) = true := by rw [← aso_fs hs2]; exact h27
            have hcond : (decide ((ffs (barV T u m) (fsV T u (uRl u))) s < 0) || decide (pop s < pop ((ffs (barV T u m) (fsV T u (uRl u))) s).toNat)) = true := by rw [decide_eq_true (by omega : (ffs (barV T u m) (fsV T u (uRl u))) s < 0)]; rfl
            rw [hso2, hcond, Bool.true_and, Bool.and_true] at hst0
            have ih0 := ih
            have lq : ∀ (fz : Nat) (p : Nat) (bb : Bool), tNp T - p < fz → p ≤ tNp T → bb = awk T u m s p → Xq mX11_taught 5 0 0 54 [some (.ref 83), some (vN m), some (.int (zI ((ffs (barV T u m) (fsV T u (uRl u))) s))), some (vN s), some (vB bb), some (vN p)] [] S H2 (fun R => ∃ x H', (fun (x : Int) H' => x = (tchV T u m) ∧ MoF (fun q => q = 83 ∨ q = 101 ∨ q = 102 ∨ (112 ≤ q ∧ q ≤ 118)) (fun k => k = 0 ∨ k = 34 ∨ k = 48 ∨ k = 56) H H') x H' ∧ R = (some (vZ x), S, H')) := by
              intro fz
              induction fz with
              | zero => intro p  bb  hfz; exact absurd hfz (by omega)
              | succ fz ih =>
                intro p  bb  hfz hq hb
                refine xq_iload dX11_taught_54 rfl ?_
                refine xq_aload_n dX11_taught_56 rfl rfl ?_
                refine xq_getF clX11 (by decide) rfl fl_RX11_13 dX11_taught_57 (Fx.s83 hF) (Fx.r83_3 hF) ?_
                refine xq_iconst dX11_taught_60 ic1 ?_
                refine xq_ialdN dX11_taught_61 (Fx.s85 hF) (by omega) (by decide) hx1.np ?_
                refine xq_icmp_geN dX11_taught_62 rfl (by omega) (by omega) ⟨fun h62 => ?_, fun h62 => ?_⟩
                · skip
                  refine xq_iload dX11_taught_100 rfl ?_
                  refine xq_if_eqB dX11_taught_102 rfl ⟨fun h102 => ?_, fun h102 => ?_⟩
                  · skip
                    refine xq_iincN dX11_taught_107 ic1 rfl rfl ?_
                    refine xq_goto dX11_taught_110 rfl ?_
                    have ep : p = tNp T := by omega
                    subst hb
                    subst ep
                    rw [awk_bar hlr htt hs2] at h102
                    have hst2 : (ffs (barV T u m) (fsV T u (uRl u))) (s + 1) = (ffs (barV T u m) (fsV T u (uRl u))) s := by rw [hst0, show barV T u m s = true by simpa using h102]; simp
                    rw [← hst2]
                    exact xq_fgt (ih0 (s + 1) (by omega) (by omega)) (by exact And.intro rfl (And.intro rfl (And.intro rfl (And.intro rfl (trivial)))))
                  · skip
                    refine xq_iload_n dX11_taught_105 rfl rfl ?_
                    refine xq_istore_n dX11_taught_106 rfl rfl ?_
                    refine xq_iincN dX11_taught_107 ic1 rfl rfl ?_
                    refine xq_goto dX11_taught_110 rfl ?_
                    have ep : p = tNp T := by omega
                    subst hb
                    subst ep
                    rw [awk_bar hlr htt hs2] at h102
                    have hst2 : (ffs (barV T u m) (fsV T u (uRl u))) (s + 1) = (s : Int) := by rw [hst0, show barV T u m s = false by simpa using h102]; simp [hcond]
                    rw [show nI s = zI ((ffs (barV T u m) (fsV T u (uRl u))) (s + 1)) by rw [hst2]; rfl]
                    exact xq_fgt (ih0 (s + 1) (by omega) (by omega)) (by exact And.intro rfl (And.intro rfl (And.intro rfl (And.intro rfl (trivial)))))
                · skip
                  have hb1 := shr_le m p; have hb2 : m >>> p &&& 1 ≤ 1 := Nat.and_le_right
                  refine xq_iload dX11_taught_65 rfl ?_
                  refine xq_iload_n dX11_taught_67 rfl rfl ?_
                  refine xq_iload dX11_taught_68 rfl ?_
                  refine xq_ishrN dX11_taught_70 (by omega) (by omega) ?_
                  refine xq_iconst dX11_taught_71 ic1 ?_
                  refine xq_iandN dX11_taught_72 ?_
                  refine xq_if_eqN dX11_taught_73 rfl (by omega) ⟨fun h73 => ?_, fun h73 => ?_⟩
                  · skip
                    refine xq_iconst dX11_taught_86 ic1 ?_
                    refine xq_goto dX11_taught_87 rfl ?_
                    refine xq_iand dX11_taught_91 ?_
                    rw [awk_t (Or.inl ((tb_shr m p).mp h73)) hb]
                    refine xq_istore dX11_taught_92 rfl ?_
                    refine xq_iincN dX11_taught_94 ic1 rfl rfl ?_
                    refine xq_goto dX11_taught_97 rfl ?_
                    exact ih (p + 1) _ (by omega) (by omega) rfl
                  · skip
                    refine xq_aload_n dX11_taught_76 rfl rfl ?_
                    refine xq_iload dX11_taught_77 rfl ?_
                    refine xq_iload_n dX11_taught_79 rfl rfl ?_
                    refine xq_callV2P clX11 gd_X11_wouldKnow dX11_taught_80 ml_RX11_488 im_X11_wouldKnow se_X11_wouldKnow rfl (Fx.s83 hF) (by exact Nat.le_of_ble_eq_true rfl) (by decide) (m_wouldKnow hd h62 (by omega)) ?_
                    refine xq_if_eqB dX11_taught_83 rfl ⟨fun h83 => ?_, fun h83 => ?_⟩
                    · skip
                      refine xq_iconst dX11_taught_90 ic0 ?_
                      refine xq_iand dX11_taught_91 ?_
                      rw [awk_f (tb0 h73) h83]
                      refine xq_istore dX11_taught_92 rfl ?_
                      refine xq_iincN dX11_taught_94 ic1 rfl rfl ?_
                      refine xq_goto dX11_taught_97 rfl ?_
                      exact ih (p + 1) _ (by omega) (by omega) rfl
                    · skip
                      refine xq_iconst dX11_taught_86 ic1 ?_
                      refine xq_goto dX11_taught_87 rfl ?_
                      refine xq_iand dX11_taught_91 ?_
                      rw [awk_t (Or.inr h83) hb]
                      refine xq_istore dX11_taught_92 rfl ?_
                      refine xq_iincN dX11_taught_94 ic1 rfl rfl ?_
                      refine xq_goto dX11_taught_97 rfl ?_
                      exact ih (p + 1) _ (by omega) (by omega) rfl
            refine xq_iconst dX11_taught_48 ic1 ?_
            refine xq_istore dX11_taught_49 rfl ?_
            refine xq_iconst dX11_taught_51 ic0 ?_
            refine xq_istore dX11_taught_52 rfl ?_
            exact lq (tNp T + 1) 0 true (by omega) (by omega) rfl
          · skip
            rw [zI_lt0 (by omega) (by omega)] at h31
            refine xq_iload_n dX11_taught_34 rfl rfl ?_
            refine xq_callS1P gd_X11_bitsOf dX11_taught_35 ml_RX11_404 im_X11_bitsOf (by exact Nat.le_of_ble_eq_true rfl) (by decide) (m_bitsOf (by omega)) ?_
            have hp1 := pop_le s
            refine xq_iload_n dX11_taught_38 rfl rfl ?_
            refine xq_callS1P gd_X11_bitsOf dX11_taught_39 ml_RX11_404 im_X11_bitsOf (by exact Nat.le_of_ble_eq_true rfl) (by decide) (m_bitsOfZ (z := (ffs (barV T u m) (fsV T u (uRl u))) s) (by omega) (by omega)) ?_
            have hp2 := pop_le ((ffs (barV T u m) (fsV T u (uRl u))) s).toNat
            refine xq_icmp_ltN dX11_taught_42 rfl (by omega) (by omega) ⟨fun h42 => ?_, fun h42 => ?_⟩
            · skip
              have hst0 : (ffs (barV T u m) (fsV T u (uRl u))) (s + 1) = if (s &&& fsV T u (uRl u) == s) && (!(barV T u m s) && (decide ((ffs (barV T u m) (fsV T u (uRl u))) s < 0) || decide (pop s < pop ((ffs (barV T u m) (fsV T u (uRl u))) s).toNat))) then (s : Int) else (ffs (barV T u m) (fsV T u (uRl u))) s := rfl
              have hso2 : (s &&& fsV T u (uRl u) == s) = true := by rw [← aso_fs hs2]; exact h27
              have hcond : (decide ((ffs (barV T u m) (fsV T u (uRl u))) s < 0) || decide (pop s < pop ((ffs (barV T u m) (fsV T u (uRl u))) s).toNat)) = true := by rw [decide_eq_true (by omega : pop s < pop ((ffs (barV T u m) (fsV T u (uRl u))) s).toNat)]; simp
              rw [hso2, hcond, Bool.true_and, Bool.and_true] at hst0
              have ih0 := ih
              have lq : ∀ (fz : Nat) (p : Nat) (bb : Bool), tNp T - p < fz → p ≤ tNp T → bb = awk T u m s p → Xq mX11_taught 5 0 0 54 [some (.ref 83), some (vN m), some (.int (zI ((ffs (barV T u m) (fsV T u (uRl u))) s))), some (vN s), some (vB bb), some (vN p)] [] S H2 (fun R => ∃ x H', (fun (x : Int) H' => x = (tchV T u m) ∧ MoF (fun q => q = 83 ∨ q = 101 ∨ q = 102 ∨ (112 ≤ q ∧ q ≤ 118)) (fun k => k = 0 ∨ k = 34 ∨ k = 48 ∨ k = 56) H H') x H' ∧ R = (some (vZ x), S, H')) := by
                intro fz
                induction fz with
                | zero => intro p  bb  hfz; exact absurd hfz (by omega)
                | succ fz ih =>
                  intro p  bb  hfz hq hb
                  refine xq_iload dX11_taught_54 rfl ?_
                  refine xq_aload_n dX11_taught_56 rfl rfl ?_
                  refine xq_getF clX11 (by decide) rfl fl_RX11_13 dX11_taught_57 (Fx.s83 hF) (Fx.r83_3 hF) ?_
                  refine xq_iconst dX11_taught_60 ic1 ?_
                  refine xq_ialdN dX11_taught_61 (Fx.s85 hF) (by omega) (by decide) hx1.np ?_
                  refine xq_icmp_geN dX11_taught_62 rfl (by omega) (by omega) ⟨fun h62 => ?_, fun h62 => ?_⟩
                  · skip
                    refine xq_iload dX11_taught_100 rfl ?_
                    refine xq_if_eqB dX11_taught_102 rfl ⟨fun h102 => ?_, fun h102 => ?_⟩
                    · skip
                      refine xq_iincN dX11_taught_107 ic1 rfl rfl ?_
                      refine xq_goto dX11_taught_110 rfl ?_
                      have ep : p = tNp T := by omega
                      subst hb
                      subst ep
                      rw [awk_bar hlr htt hs2] at h102
                      have hst2 : (ffs (barV T u m) (fsV T u (uRl u))) (s + 1) = (ffs (barV T u m) (fsV T u (uRl u))) s := by rw [hst0, show barV T u m s = true by simpa using h102]; simp
                      rw [← hst2]
                      exact xq_fgt (ih0 (s + 1) (by omega) (by omega)) (by exact And.intro rfl (And.intro rfl (And.intro rfl (And.intro rfl (trivial)))))
                    · skip
                      refine xq_iload_n dX11_taught_105 rfl rfl ?_
                      refine xq_istore_n dX11_taught_106 rfl rfl ?_
                      refine xq_iincN dX11_taught_107 ic1 rfl rfl ?_
                      refine xq_goto dX11_taught_110 rfl ?_
                      have ep : p = tNp T := by omega
                      subst hb
                      subst ep
                      rw [awk_bar hlr htt hs2] at h102
                      have hst2 : (ffs (barV T u m) (fsV T u (uRl u))) (s + 1) = (s : Int) := by rw [hst0, show barV T u m s = false by simpa using h102]; simp [hcond]
                      rw [show nI s = zI ((ffs (barV T u m) (fsV T u (uRl u))) (s + 1)) by rw [hst2]; rfl]
                      exact xq_fgt (ih0 (s + 1) (by omega) (by omega)) (by exact And.intro rfl (And.intro rfl (And.intro rfl (And.intro rfl (trivial)))))
                  · skip
                    have hb1 := shr_le m p; have hb2 : m >>> p &&& 1 ≤ 1 := Nat.and_le_right
                    refine xq_iload dX11_taught_65 rfl ?_
                    refine xq_iload_n dX11_taught_67 rfl rfl ?_
                    refine xq_iload dX11_taught_68 rfl ?_
                    refine xq_ishrN dX11_taught_70 (by omega) (by omega) ?_
                    refine xq_iconst dX11_taught_71 ic1 ?_
                    refine xq_iandN dX11_taught_72 ?_
                    refine xq_if_eqN dX11_taught_73 rfl (by omega) ⟨fun h73 => ?_, fun h73 => ?_⟩
                    · skip
                      refine xq_iconst dX11_taught_86 ic1 ?_
                      refine xq_goto dX11_taught_87 rfl ?_
                      refine xq_iand dX11_taught_91 ?_
                      rw [awk_t (Or.inl ((tb_shr m p).mp h73)) hb]
                      refine xq_istore dX11_taught_92 rfl ?_
                      refine xq_iincN dX11_taught_94 ic1 rfl rfl ?_
                      refine xq_goto dX11_taught_97 rfl ?_
                      exact ih (p + 1) _ (by omega) (by omega) rfl
                    · skip
                      refine xq_aload_n dX11_taught_76 rfl rfl ?_
                      refine xq_iload dX11_taught_77 rfl ?_
                      refine xq_iload_n dX11_taught_79 rfl rfl ?_
                      refine xq_callV2P clX11 gd_X11_wouldKnow dX11_taught_80 ml_RX11_488 im_X11_wouldKnow se_X11_wouldKnow rfl (Fx.s83 hF) (by exact Nat.le_of_ble_eq_true rfl) (by decide) (m_wouldKnow hd h62 (by omega)) ?_
                      refine xq_if_eqB dX11_taught_83 rfl ⟨fun h83 => ?_, fun h83 => ?_⟩
                      · skip
                        refine xq_iconst dX11_taught_90 ic0 ?_
                        refine xq_iand dX11_taught_91 ?_
                        rw [awk_f (tb0 h73) h83]
                        refine xq_istore dX11_taught_92 rfl ?_
                        refine xq_iincN dX11_taught_94 ic1 rfl rfl ?_
                        refine xq_goto dX11_taught_97 rfl ?_
                        exact ih (p + 1) _ (by omega) (by omega) rfl
                      · skip
                        refine xq_iconst dX11_taught_86 ic1 ?_
                        refine xq_goto dX11_taught_87 rfl ?_
                        refine xq_iand dX11_taught_91 ?_
                        rw [awk_t (Or.inr h83) hb]
                        refine xq_istore dX11_taught_92 rfl ?_
                        refine xq_iincN dX11_taught_94 ic1 rfl rfl ?_
                        refine xq_goto dX11_taught_97 rfl ?_
                        exact ih (p + 1) _ (by omega) (by omega) rfl
              refine xq_iconst dX11_taught_48 ic1 ?_
              refine xq_istore dX11_taught_49 rfl ?_
              refine xq_iconst dX11_taught_51 ic0 ?_
              refine xq_istore dX11_taught_52 rfl ?_
              exact lq (tNp T + 1) 0 true (by omega) (by omega) rfl
            · skip
              refine xq_goto dX11_taught_45 rfl ?_
              refine xq_iincN dX11_taught_107 ic1 rfl rfl ?_
              refine xq_goto dX11_taught_110 rfl ?_
              have hst : (ffs (barV T u m) (fsV T u (uRl u))) (s + 1) = if (s &&& fsV T u (uRl u) == s) && (!(barV T u m s) && (decide ((ffs (barV T u m) (fsV T u (uRl u))) s < 0) || decide (pop s < pop ((ffs (barV T u m) (fsV T u (uRl u))) s).toNat))) then (s : Int) else (ffs (barV T u m) (fsV T u (uRl u))) s := rfl
              rw [decide_eq_false (by omega : ¬ (ffs (barV T u m) (fsV T u (uRl u))) s < 0), decide_eq_false (by omega : ¬ pop s < pop ((ffs (barV T u m) (fsV T u (uRl u))) s).toNat), Bool.or_false, Bool.and_false, Bool.and_false, if_neg (by decide)] at hst
              rw [← hst]
              exact xq_fgt (ih (s + 1) (by omega) (by omega)) (by exact And.intro rfl (And.intro rfl (And.intro rfl (And.intro rfl (trivial)))))
  refine xq_bipush dX11_taught_5 bpm2 ?_
  refine xq_istore_n dX11_taught_7 rfl rfl ?_
  refine xq_iconst dX11_taught_8 ic0 ?_
  refine xq_istore_n dX11_taught_9 rfl rfl ?_
  rw [show (-2 : Int32) = zI ((ffs (barV T u m) (fsV T u (uRl u))) 0) from zm2]
  exact xq_fgt (lo (2 ^ tNf T + 1) 0 (Nat.lt_succ_of_le (Nat.sub_le _ _)) (Nat.zero_le _)) (by exact And.intro rfl (And.intro rfl (And.intro rfl (And.intro rfl (trivial)))))
end CC
