/-! ===== the reference: rows of a fact ===== -/
section RW
variable {S : xS} {H H1 H2 H3 : xH} {T : uTx} {N : Nat → Nat → Nat} {s a c w v p q n i j k x y m key : Nat} {lf : Nat → Bool} {u : uSt} {pf : Nat → Nat} {Rw R2 : Nat → Bool} {fr : Nat → Bool}
def RoP (H : xH) (T : uTx) (a : Nat) (Rw : Nat → Bool) : Prop := ∀ w, w < nW T → hI H 118 (729 * a + w) = bI (Rw w)
def kbE (T : uTx) (lf : Nat → Bool) (u : uSt) (p : Nat) (Rw : Nat → Bool) (key n : Nat) : Bool := ex (fun w => lf w && (sgt T (uSe u p) w == key && !(Rw w))) n
def ktE (lf : Nat → Bool) (pf : Nat → Nat) (Rw : Nat → Bool) (key n : Nat) : Bool := ex (fun w => lf w && (pf w == key && !(Rw w))) n
theorem kbE_s (n : Nat) : kbE T lf u p Rw key (n + 1) = (kbE T lf u p Rw key n || (lf n && (sgt T (uSe u p) n == key && !(Rw n)))) := rfl
theorem ktE_s (n : Nat) : ktE lf pf Rw key (n + 1) = (ktE lf pf Rw key n || (lf n && (pf n == key && !(Rw n)))) := rfl
theorem RoP.off {A : Nat → Prop} (h : RoP H T a Rw) (ho : Off A H H2) (h0 : ¬ A 118) : RoP H2 T a Rw := fun w hw => (ho.I h0 _).trans (h w hw)
/-- of the rows, those but b stay -/
def RoE (H H2 : xH) (b : Nat) : Prop := ∀ k, (k < 729 * b ∨ 729 * b + 729 ≤ k) → hI H2 118 k = hI H 118 k
theorem RoP.e {b : Nat} (h : RoP H T a Rw) (t : TwOk T) (he : RoE H H2 b) (hab : a ≠ b) : RoP H2 T a Rw := fun w hw => by
  have := nW_le t
  rw [he _ (by omega)]; exact h w hw
/-- what one knows of a row, at the worlds left -/
theorem kb_rank (hlr : LfR T lf u) (t : TwOk T) (hs : uSe u p < 64) (hR : ∀ v, v < nW T → lf v = true → Rw v = fr (ct lf v)) (hw : w < nW T) (hl : lf w = true) : kbE T lf u p Rw (sgt T (uSe u p) w) (nW T) = ex (fun q => ky u p q == ky u p (ct lf w) && !(fr q)) (uZ u) := by
  rw [hlr.z]
  refine ex_rank (lf := lf) (f := fun q => ky u p q == ky u p (ct lf w) && !(fr q)) (fun v hv => ?_)
  cases hlv : lf v
  · rfl
  · rw [Bool.true_and, Bool.true_and, hR v hv hlv]
    congr 1
    rw [Bool.eq_iff_iff, beq_iff_eq, beq_iff_eq]
    exact (hlr.kk t hs hv hlv hw hl).symm
theorem kt_rank (hlr : LfR T lf u) (hp : PfOk T lf u pf) (hR : ∀ v, v < nW T → lf v = true → Rw v = fr (ct lf v)) (hw : w < nW T) (hl : lf w = true) : ktE lf pf Rw (pf w) (nW T) = ex (fun q => cn u q == cn u (ct lf w) && !(fr q)) (uZ u) := by
  rw [hlr.z]
  refine ex_rank (lf := lf) (f := fun q => cn u q == cn u (ct lf w) && !(fr q)) (fun v hv => ?_)
  cases hlv : lf v
  · rfl
  · rw [Bool.true_and, Bool.true_and, hR v hv hlv]
    congr 1
    have h1 := (hp v hv).2 hlv
    have h2 := (hp w hw).2 hl
    rw [Bool.eq_iff_iff, beq_iff_eq, beq_iff_eq, ← h1.2, ← h2.2]
    exact ⟨fun e => by rw [e], fun e => ct_inj h1.1 h2.1 e⟩
theorem m_knownTo (hs : MsP S H T N) (hr : RmP H T s lf u) (hlr : LfR T lf u) (ok : StOk u) (h23 : s < 23) (hro : hI H 83 48 = nI s) (hsi : SiP H T u) (hp : p < tNp T) (ha65 : a < 66) (hx65 : x < 66) (hRa : RoP H T a Rw) (hRb : RoP H T x R2) : Nv mX11_knownTo 1 [.ref 83, vN p, vN (729 * a), vN (729 * x)] S H (fun H' => RoP H' T x (fun w => R2 w && !(kbE T lf u p Rw (sgt T (uSe u p) w) (nW T))) ∧ RoE H H' x ∧ Off (fun q => q = 115 ∨ q = 118) H H') := by
  have hF := hs.fx; have hx := hs.mx; have hw := hs.mw; have tk := hs.tk; have tw := hs.tw; have hnp := tw.2.1; have hnc := tw.1; have hWn := nW_le tw; have hse := ok.se (p := p) (by omega)
  have l3 : ∀ (fz : Nat) (w : Nat) (H1 : xH), nW T - w < fz → w ≤ nW T → (∀ key, key < 729 → hI H1 115 key = bI (kbE T lf u p Rw key (nW T))) → (∀ v, v < nW T → hI H1 118 (729 * x + v) = bI (if v < w then R2 v && !(kbE T lf u p Rw (sgt T (uSe u p) v) (nW T)) else R2 v)) → RoE H H1 x → Off (fun q => q = 115 ∨ q = 118) H H1 → Xq mX11_knownTo 1 0 0 86 [some (.ref 83), some (vN p), some (vN (729 * a)), some (vN (729 * x)), some (vN w)] [] S H1 (fun R => ∃ H', (fun H' => RoP H' T x (fun w => R2 w && !(kbE T lf u p Rw (sgt T (uSe u p) w) (nW T))) ∧ RoE H H' x ∧ Off (fun q => q = 115 ∨ q = 118) H H') H' ∧ R = (none, S, H')) := by
    intro fz
    induction fz with
    | zero => intro w  H1  hfz; exact absurd hfz (by omega)
    | succ fz ih =>
      intro w  H1  hfz hi hf hg he ho
      have hro1 := (ho.I (by omega) 48).trans hro; have hr1 := hr.off ho (fun q a b => by omega); have hwo := (ho.I (by omega : ¬ (83 = 115 ∨ 83 = 118)) 36).trans hw.ws
      refine xq_iload dX11_knownTo_86 rfl ?_
      refine xq_aload_n dX11_knownTo_88 rfl rfl ?_
      refine xq_getIE clX11 (by decide) rfl fl_RX11_335 dX11_knownTo_89 (Fx.s83 hF) hwo ?_
      refine xq_icmp_geN dX11_knownTo_92 rfl (by omega) (by omega) ⟨fun h92 => ?_, fun h92 => ?_⟩
      · skip
        refine xq_vret dX11_knownTo_139 rfl ?_
        exact ⟨H1, ⟨fun v hv => by rw [hg v hv, if_pos (by omega)], he, ho⟩, rfl⟩
      · skip
        have hww := h92
        have hgl := sgt_lt (s := uSe u p) tw hww
        refine xq_aload_n dX11_knownTo_95 rfl rfl ?_
        refine xq_getF clX11 (by decide) rfl fl_RX11_119 dX11_knownTo_96 (Fx.s83 hF) (Fx.r83_55 hF) ?_
        refine xq_iload_n dX11_knownTo_99 rfl rfl ?_
        refine xq_iload dX11_knownTo_100 rfl ?_
        refine xq_iaddN dX11_knownTo_102 ?_
        refine xq_dup2 dX11_knownTo_103 rfl rfl ?_
        refine xq_zaldN (v := bI (R2 w)) dX11_knownTo_104 (Fx.s118 hF) (by omega) (by decide) ((hg w hww).trans (by rw [if_neg (by omega)])) ?_
        refine xq_aload_n dX11_knownTo_105 rfl rfl ?_
        refine xq_getF clX11 (by decide) rfl fl_RX11_109 dX11_knownTo_106 (Fx.s83 hF) (Fx.r83_52 hF) ?_
        refine xq_aload_n dX11_knownTo_109 rfl rfl ?_
        refine xq_getF clX11 (by decide) rfl fl_RX11_100 dX11_knownTo_110 (Fx.s83 hF) (Fx.r83_49 hF) ?_
        refine xq_sipush dX11_knownTo_113 sp729 ?_
        refine xq_iload_n dX11_knownTo_116 rfl rfl ?_
        refine xq_imulN dX11_knownTo_117 ?_
        refine xq_iload dX11_knownTo_118 rfl ?_
        refine xq_iaddN dX11_knownTo_120 ?_
        refine xq_ialdN dX11_knownTo_121 (Fx.s112 hF) (by omega) (by decide) ((ho.I (by omega) _).trans (hsi p hp w hww)) ?_
        refine xq_zaldN dX11_knownTo_122 (Fx.s115 hF) (by omega) (by decide) (hf _ hgl) ?_
        refine xq_if_neB dX11_knownTo_123 rfl ⟨fun h123 => ?_, fun h123 => ?_⟩
        · skip
          refine xq_iconst dX11_knownTo_130 ic0 ?_
          refine xq_iand dX11_knownTo_131 ?_
          refine xq_zastN dX11_knownTo_132 (Fx.s118 hF) (by omega) (by decide) (by cases R2 w <;> decide) ?_
          refine xq_iincN dX11_knownTo_133 ic1 rfl rfl ?_
          refine xq_goto dX11_knownTo_136 rfl ?_
          exact xq_fgt (ih (w + 1) _ (by omega) (by omega) (fun key hk => by rw [hI_sI, if_neg (by omega)]; exact hf key hk) (fun v hv => by
            rw [hI_sI]
            by_cases e : v = w
            · subst e; rw [if_pos ⟨rfl, rfl⟩, if_pos (by omega), h123]; cases R2 v <;> rfl
            · rw [if_neg (by omega), hg v hv, ite_c (by omega : v < w ↔ v < w + 1)]) (fun k hk => by rw [hI_sI, if_neg (by omega)]; exact he k hk) (Off.pI (A := (fun q => q = 115 ∨ q = 118)) ho (by omega) _ _)) (by exact And.intro rfl (And.intro rfl (And.intro rfl (And.intro rfl (And.intro rfl (trivial))))))
        · skip
          refine xq_iconst dX11_knownTo_126 ic1 ?_
          refine xq_goto dX11_knownTo_127 rfl ?_
          refine xq_iand dX11_knownTo_131 ?_
          refine xq_zastN dX11_knownTo_132 (Fx.s118 hF) (by omega) (by decide) (by cases R2 w <;> decide) ?_
          refine xq_iincN dX11_knownTo_133 ic1 rfl rfl ?_
          refine xq_goto dX11_knownTo_136 rfl ?_
          exact xq_fgt (ih (w + 1) _ (by omega) (by omega) (fun key hk => by rw [hI_sI, if_neg (by omega)]; exact hf key hk) (fun v hv => by
            rw [hI_sI]
            by_cases e : v = w
            · subst e; rw [if_pos ⟨rfl, rfl⟩, if_pos (by omega), h123]; cases R2 v <;> rfl
            · rw [if_neg (by omega), hg v hv, ite_c (by omega : v < w ↔ v < w + 1)]) (fun k hk => by rw [hI_sI, if_neg (by omega)]; exact he k hk) (Off.pI (A := (fun q => q = 115 ∨ q = 118)) ho (by omega) _ _)) (by exact And.intro rfl (And.intro rfl (And.intro rfl (And.intro rfl (And.intro rfl (trivial))))))
  have l2 : ∀ (fz : Nat) (w : Nat) (H1 : xH), nW T - w < fz → w ≤ nW T → (∀ key, key < 729 → hI H1 115 key = bI (kbE T lf u p Rw key w)) → (∀ k, hI H1 118 k = hI H 118 k) → Off (fun q => q = 115 ∨ q = 118) H H1 → Xq mX11_knownTo 1 0 0 28 [some (.ref 83), some (vN p), some (vN (729 * a)), some (vN (729 * x)), some (vN w)] [] S H1 (fun R => ∃ H', (fun H' => RoP H' T x (fun w => R2 w && !(kbE T lf u p Rw (sgt T (uSe u p) w) (nW T))) ∧ RoE H H' x ∧ Off (fun q => q = 115 ∨ q = 118) H H') H' ∧ R = (none, S, H')) := by
    intro fz
    induction fz with
    | zero => intro w  H1  hfz; exact absurd hfz (by omega)
    | succ fz ih =>
      intro w  H1  hfz hi hf he ho
      have hro1 := (ho.I (by omega) 48).trans hro; have hr1 := hr.off ho (fun q a b => by omega); have hwo := (ho.I (by omega : ¬ (83 = 115 ∨ 83 = 118)) 36).trans hw.ws
      refine xq_iload dX11_knownTo_28 rfl ?_
      refine xq_aload_n dX11_knownTo_30 rfl rfl ?_
      refine xq_getIE clX11 (by decide) rfl fl_RX11_335 dX11_knownTo_31 (Fx.s83 hF) hwo ?_
      refine xq_icmp_geN dX11_knownTo_34 rfl (by omega) (by omega) ⟨fun h34 => ?_, fun h34 => ?_⟩
      · skip
        refine xq_iconst dX11_knownTo_83 ic0 ?_
        refine xq_istore dX11_knownTo_84 rfl ?_
        have ew : w = nW T := by omega
        subst ew
        exact l3 (nW T + 1) 0 H1 (by omega) (by omega) hf (fun v hv => by rw [if_neg (by omega), he]; exact hRb v hv) (fun k _ => he k) ho
      · skip
        have hww := h34
        have hgl := sgt_lt (s := uSe u p) tw hww
        refine xq_aload_n dX11_knownTo_37 rfl rfl ?_
        refine xq_iload dX11_knownTo_38 rfl ?_
        refine xq_callV1P clX11 gd_X11_isHere dX11_knownTo_40 ml_RX11_362 im_X11_isHere se_X11_isHere rfl (Fx.s83 hF) (by exact Nat.le_of_ble_eq_true rfl) (by decide) (m_isHere hF hro1 h23 (by omega) (hr1.lf w hww)) ?_
        refine xq_if_eqB dX11_knownTo_43 rfl ⟨fun h43 => ?_, fun h43 => ?_⟩
        · skip
          refine xq_iincN dX11_knownTo_77 ic1 rfl rfl ?_
          refine xq_goto dX11_knownTo_80 rfl ?_
          exact xq_fgt (ih (w + 1) H1 (by omega) (by omega) (fun key hk => by rw [hf key hk, kbE_s, show lf w = false by simpa using h43]; simp) he ho) (by exact And.intro rfl (And.intro rfl (And.intro rfl (And.intro rfl (And.intro rfl (trivial))))))
        · skip
          refine xq_aload_n dX11_knownTo_46 rfl rfl ?_
          refine xq_getF clX11 (by decide) rfl fl_RX11_119 dX11_knownTo_47 (Fx.s83 hF) (Fx.r83_55 hF) ?_
          refine xq_iload_n dX11_knownTo_50 rfl rfl ?_
          refine xq_iload dX11_knownTo_51 rfl ?_
          refine xq_iaddN dX11_knownTo_53 ?_
          refine xq_zaldN dX11_knownTo_54 (Fx.s118 hF) (by omega) (by decide) ((he _).trans (hRa w hww)) ?_
          refine xq_if_neB dX11_knownTo_55 rfl ⟨fun h55 => ?_, fun h55 => ?_⟩
          · skip
            refine xq_iincN dX11_knownTo_77 ic1 rfl rfl ?_
            refine xq_goto dX11_knownTo_80 rfl ?_
            exact xq_fgt (ih (w + 1) H1 (by omega) (by omega) (fun key hk => by rw [hf key hk, kbE_s, show Rw w = true by simpa using h55]; simp) he ho) (by exact And.intro rfl (And.intro rfl (And.intro rfl (And.intro rfl (And.intro rfl (trivial))))))
          · skip
            refine xq_aload_n dX11_knownTo_58 rfl rfl ?_
            refine xq_getF clX11 (by decide) rfl fl_RX11_109 dX11_knownTo_59 (Fx.s83 hF) (Fx.r83_52 hF) ?_
            refine xq_aload_n dX11_knownTo_62 rfl rfl ?_
            refine xq_getF clX11 (by decide) rfl fl_RX11_100 dX11_knownTo_63 (Fx.s83 hF) (Fx.r83_49 hF) ?_
            refine xq_sipush dX11_knownTo_66 sp729 ?_
            refine xq_iload_n dX11_knownTo_69 rfl rfl ?_
            refine xq_imulN dX11_knownTo_70 ?_
            refine xq_iload dX11_knownTo_71 rfl ?_
            refine xq_iaddN dX11_knownTo_73 ?_
            refine xq_ialdN dX11_knownTo_74 (Fx.s112 hF) (by omega) (by decide) ((ho.I (by omega) _).trans (hsi p hp w hww)) ?_
            refine xq_iconst dX11_knownTo_75 ic1 ?_
            refine xq_zastN dX11_knownTo_76 (Fx.s115 hF) (by omega) (by decide) (by decide) ?_
            refine xq_iincN dX11_knownTo_77 ic1 rfl rfl ?_
            refine xq_goto dX11_knownTo_80 rfl ?_
            exact xq_fgt (ih (w + 1) _ (by omega) (by omega) (fun key hk => by
              rw [hI_sI, kbE_s, show lf w = true by simpa using h43, show Rw w = false by simpa using h55]
              by_cases e : key = sgt T (uSe u p) w
              · subst e; rw [if_pos ⟨rfl, rfl⟩]; simp; rfl
              · rw [if_neg (fun z => e z.2), hf key hk, show (sgt T (uSe u p) w == key) = false from beq_eq_false_iff_ne.mpr (fun z => e z.symm)]; simp) (fun k => by rw [hI_sI, if_neg (by omega)]; exact he k) (Off.pI (A := (fun q => q = 115 ∨ q = 118)) ho (by omega) _ _)) (by exact And.intro rfl (And.intro rfl (And.intro rfl (And.intro rfl (And.intro rfl (trivial))))))
  have l1 : ∀ (fz : Nat) (k : Nat) (H1 : xH), 729 - k < fz → k ≤ 729 → (∀ j, j < k → hI H1 115 j = bI false) → (∀ k, hI H1 118 k = hI H 118 k) → Off (fun q => q = 115 ∨ q = 118) H H1 → Xq mX11_knownTo 1 0 0 3 [some (.ref 83), some (vN p), some (vN (729 * a)), some (vN (729 * x)), some (vN k)] [] S H1 (fun R => ∃ H', (fun H' => RoP H' T x (fun w => R2 w && !(kbE T lf u p Rw (sgt T (uSe u p) w) (nW T))) ∧ RoE H H' x ∧ Off (fun q => q = 115 ∨ q = 118) H H') H' ∧ R = (none, S, H')) := by
    intro fz
    induction fz with
    | zero => intro k  H1  hfz; exact absurd hfz (by omega)
    | succ fz ih =>
      intro k  H1  hfz hk hz he ho
      refine xq_iload dX11_knownTo_3 rfl ?_
      refine xq_sipush dX11_knownTo_5 sp729 ?_
      refine xq_icmp_geN dX11_knownTo_8 rfl (by omega) (by omega) ⟨fun h8 => ?_, fun h8 => ?_⟩
      · skip
        refine xq_iconst dX11_knownTo_25 ic0 ?_
        refine xq_istore dX11_knownTo_26 rfl ?_
        exact l2 (nW T + 1) 0 H1 (by omega) (by omega) (fun key hk2 => hz key (by omega)) he ho
      · skip
        refine xq_aload_n dX11_knownTo_11 rfl rfl ?_
        refine xq_getF clX11 (by decide) rfl fl_RX11_109 dX11_knownTo_12 (Fx.s83 hF) (Fx.r83_52 hF) ?_
        refine xq_iload dX11_knownTo_15 rfl ?_
        refine xq_iconst dX11_knownTo_17 ic0 ?_
        refine xq_zastN dX11_knownTo_18 (Fx.s115 hF) (by omega) (by decide) (by decide) ?_
        refine xq_iincN dX11_knownTo_19 ic1 rfl rfl ?_
        refine xq_goto dX11_knownTo_22 rfl ?_
        refine ih (k + 1) _ (by omega) (by omega) (fun j hj => ?_) (fun k2 => by rw [hI_sI, if_neg (by omega)]; exact he k2) (Off.pI (A := (fun q => q = 115 ∨ q = 118)) ho (by omega) _ _)
        rw [hI_sI]
        by_cases e : j = k
        · rw [if_pos ⟨rfl, e⟩]; rfl
        · rw [if_neg (fun z => e z.2)]; exact hz j (by omega)
  refine vq_intro (by decide) (by exact Nat.le_of_ble_eq_true rfl) rfl ?_
  refine xq_iconst dX11_knownTo_0 ic0 ?_
  refine xq_istore dX11_knownTo_1 rfl ?_
  exact l1 730 0 H (by omega) (by omega) (fun j hj => absurd hj (by omega)) (fun _ => rfl) Off.rf
theorem m_top (hF : gFx S) (hm : hI H 83 56 = nI (m + 1)) (hm65 : m < 65) : Pv mX11_top 0 [.ref 83] S H (vN (729 * m)) := by
  refine vq_ev (vq_intro (by decide) (by exact Nat.le_of_ble_eq_true rfl) rfl ?_)
  refine xq_sipush dX11_top_0 sp729 ?_
  refine xq_aload_n dX11_top_3 rfl rfl ?_
  refine xq_getIE clX11 (by decide) rfl fl_RX11_371 dX11_top_4 (Fx.s83 hF) hm ?_
  refine xq_iconst dX11_top_7 ic1 ?_
  refine xq_isubN dX11_top_8 (by omega) ?_
  refine xq_imulN dX11_top_9 ?_
  refine xq_iret dX11_top_10 rfl ?_
  rfl
theorem m_fills (hs : MsP S H T N) (hx65 : x < 66) : Nv mX11_fills 0 [.ref 83, vN (729 * x)] S H (fun H' => RoP H' T x (fun _ => true) ∧ RoE H H' x ∧ Off (fun q => q = 118) H H') := by
  have hF := hs.fx; have hx := hs.mx; have hw := hs.mw; have tk := hs.tk; have tw := hs.tw; have hnp := tw.2.1; have hnc := tw.1; have hWn := nW_le tw
  have lp : ∀ (fz : Nat) (w : Nat) (H1 : xH), nW T - w < fz → w ≤ nW T → (∀ v, v < w → hI H1 118 (729 * x + v) = bI true) → RoE H H1 x → Off (fun q => q = 118) H H1 → Xq mX11_fills 0 0 0 2 [some (.ref 83), some (vN (729 * x)), some (vN w)] [] S H1 (fun R => ∃ H', (fun H' => RoP H' T x (fun _ => true) ∧ RoE H H' x ∧ Off (fun q => q = 118) H H') H' ∧ R = (none, S, H')) := by
    intro fz
    induction fz with
    | zero => intro w  H1  hfz; exact absurd hfz (by omega)
    | succ fz ih =>
      intro w  H1  hfz hi hg he ho
      refine xq_iload_n dX11_fills_2 rfl rfl ?_
      refine xq_aload_n dX11_fills_3 rfl rfl ?_
      refine xq_getIE clX11 (by decide) rfl fl_RX11_335 dX11_fills_4 (Fx.s83 hF) ((ho.I (by omega) 36).trans hw.ws) ?_
      refine xq_icmp_geN dX11_fills_7 rfl (by omega) (by omega) ⟨fun h7 => ?_, fun h7 => ?_⟩
      · skip
        refine xq_vret dX11_fills_25 rfl ?_
        exact ⟨H1, ⟨fun v hv => hg v (by omega), he, ho⟩, rfl⟩
      · skip
        refine xq_aload_n dX11_fills_10 rfl rfl ?_
        refine xq_getF clX11 (by decide) rfl fl_RX11_119 dX11_fills_11 (Fx.s83 hF) (Fx.r83_55 hF) ?_
        refine xq_iload_n dX11_fills_14 rfl rfl ?_
        refine xq_iload_n dX11_fills_15 rfl rfl ?_
        refine xq_iaddN dX11_fills_16 ?_
        refine xq_iconst dX11_fills_17 ic1 ?_
        refine xq_zastN dX11_fills_18 (Fx.s118 hF) (by omega) (by decide) (by decide) ?_
        refine xq_iincN dX11_fills_19 ic1 rfl rfl ?_
        refine xq_goto dX11_fills_22 rfl ?_
        refine ih (w + 1) _ (by omega) (by omega) (fun v hv => ?_) (fun k hk => by rw [hI_sI, if_neg (by omega)]; exact he k hk) (Off.pI (A := (fun q => q = 118)) ho (by omega) _ _)
        rw [hI_sI]
        by_cases e : v = w
        · rw [if_pos ⟨rfl, by omega⟩]; rfl
        · rw [if_neg (by omega)]; exact hg v (by omega)
  refine vq_intro (by decide) (by exact Nat.le_of_ble_eq_true rfl) rfl ?_
  refine xq_iconst dX11_fills_0 ic0 ?_
  refine xq_istore_n dX11_fills_1 rfl rfl ?_
  exact lp (nW T + 1) 0 H (by omega) (by omega) (fun j hj => absurd hj (by omega)) (fun _ _ => rfl) Off.rf
theorem m_knownTogether (hs : MsP S H T N) (hr : RmP H T s lf u) (hlr : LfR T lf u) (ok : StOk u) (h23 : s < 23) (hro : hI H 83 48 = nI s) (hpa : PaH H T pf) (hpf : PfOk T lf u pf) (hm : hI H 83 56 = nI (m + 1)) (hm65 : m < 65) (hRa : RoP H T m Rw) : Nv mX11_knownTogether 1 [.ref 83] S H (fun H' => RoP H' T m (fun w => !(ktE lf pf Rw (pf w) (nW T))) ∧ RoE H H' m ∧ Off (fun q => q = 115 ∨ q = 118) H H') := by
  have hF := hs.fx; have hx := hs.mx; have hw := hs.mw; have tk := hs.tk; have tw := hs.tw; have hnp := tw.2.1; have hnc := tw.1; have hWn := nW_le tw
  have l3 : ∀ (fz : Nat) (w : Nat) (H1 : xH), nW T - w < fz → w ≤ nW T → (∀ key, key < 729 → hI H1 115 key = bI (ktE lf pf Rw key (nW T))) → (∀ v, v < w → hI H1 118 (729 * m + v) = bI (!(ktE lf pf Rw (pf v) (nW T)))) → RoE H H1 m → Off (fun q => q = 115 ∨ q = 118) H H1 → Xq mX11_knownTogether 1 0 0 76 [some (.ref 83), some (vN (729 * m)), some (vN w)] [] S H1 (fun R => ∃ H', (fun H' => RoP H' T m (fun w => !(ktE lf pf Rw (pf w) (nW T))) ∧ RoE H H' m ∧ Off (fun q => q = 115 ∨ q = 118) H H') H' ∧ R = (none, S, H')) := by
    intro fz
    induction fz with
    | zero => intro w  H1  hfz; exact absurd hfz (by omega)
    | succ fz ih =>
      intro w  H1  hfz hi hf hg he ho
      have hro1 := (ho.I (by omega) 48).trans hro; have hr1 := hr.off ho (fun q a b => by omega); have hwo := (ho.I (by omega : ¬ (83 = 115 ∨ 83 = 118)) 36).trans hw.ws
      refine xq_iload_n dX11_knownTogether_76 rfl rfl ?_
      refine xq_aload_n dX11_knownTogether_77 rfl rfl ?_
      refine xq_getIE clX11 (by decide) rfl fl_RX11_335 dX11_knownTogether_78 (Fx.s83 hF) hwo ?_
      refine xq_icmp_geN dX11_knownTogether_81 rfl (by omega) (by omega) ⟨fun h81 => ?_, fun h81 => ?_⟩
      · skip
        refine xq_vret dX11_knownTogether_117 rfl ?_
        exact ⟨H1, ⟨fun v hv => hg v (by omega), he, ho⟩, rfl⟩
      · skip
        have hww := h81
        have hgl := (hpf w hww).1
        refine xq_aload_n dX11_knownTogether_84 rfl rfl ?_
        refine xq_getF clX11 (by decide) rfl fl_RX11_119 dX11_knownTogether_85 (Fx.s83 hF) (Fx.r83_55 hF) ?_
        refine xq_iload_n dX11_knownTogether_88 rfl rfl ?_
        refine xq_iload_n dX11_knownTogether_89 rfl rfl ?_
        refine xq_iaddN dX11_knownTogether_90 ?_
        refine xq_aload_n dX11_knownTogether_91 rfl rfl ?_
        refine xq_getF clX11 (by decide) rfl fl_RX11_109 dX11_knownTogether_92 (Fx.s83 hF) (Fx.r83_52 hF) ?_
        refine xq_aload_n dX11_knownTogether_95 rfl rfl ?_
        refine xq_getF clX11 (by decide) rfl fl_RX11_106 dX11_knownTogether_96 (Fx.s83 hF) (Fx.r83_51 hF) ?_
        refine xq_iload_n dX11_knownTogether_99 rfl rfl ?_
        refine xq_ialdN dX11_knownTogether_100 (Fx.s114 hF) (by omega) (by decide) ((ho.I (by omega) _).trans (hpa w hww)) ?_
        refine xq_zaldN dX11_knownTogether_101 (Fx.s115 hF) (by omega) (by decide) (hf _ (by omega)) ?_
        refine xq_if_neB dX11_knownTogether_102 rfl ⟨fun h102 => ?_, fun h102 => ?_⟩
        · skip
          refine xq_iconst dX11_knownTogether_109 ic0 ?_
          refine xq_zastN dX11_knownTogether_110 (Fx.s118 hF) (by omega) (by decide) (by decide) ?_
          refine xq_iincN dX11_knownTogether_111 ic1 rfl rfl ?_
          refine xq_goto dX11_knownTogether_114 rfl ?_
          exact xq_fgt (ih (w + 1) _ (by omega) (by omega) (fun key hk => by rw [hI_sI, if_neg (by omega)]; exact hf key hk) (fun v hv => by
            rw [hI_sI]
            by_cases e : v = w
            · subst e; rw [if_pos ⟨rfl, rfl⟩, h102]; rfl
            · rw [if_neg (by omega)]; exact hg v (by omega)) (fun k hk => by rw [hI_sI, if_neg (by omega)]; exact he k hk) (Off.pI (A := (fun q => q = 115 ∨ q = 118)) ho (by omega) _ _)) (by exact And.intro rfl (And.intro rfl (And.intro rfl (trivial))))
        · skip
          refine xq_iconst dX11_knownTogether_105 ic1 ?_
          refine xq_goto dX11_knownTogether_106 rfl ?_
          refine xq_zastN dX11_knownTogether_110 (Fx.s118 hF) (by omega) (by decide) (by decide) ?_
          refine xq_iincN dX11_knownTogether_111 ic1 rfl rfl ?_
          refine xq_goto dX11_knownTogether_114 rfl ?_
          exact xq_fgt (ih (w + 1) _ (by omega) (by omega) (fun key hk => by rw [hI_sI, if_neg (by omega)]; exact hf key hk) (fun v hv => by
            rw [hI_sI]
            by_cases e : v = w
            · subst e; rw [if_pos ⟨rfl, rfl⟩, h102]; rfl
            · rw [if_neg (by omega)]; exact hg v (by omega)) (fun k hk => by rw [hI_sI, if_neg (by omega)]; exact he k hk) (Off.pI (A := (fun q => q = 115 ∨ q = 118)) ho (by omega) _ _)) (by exact And.intro rfl (And.intro rfl (And.intro rfl (trivial))))
  have l2 : ∀ (fz : Nat) (w : Nat) (H1 : xH), nW T - w < fz → w ≤ nW T → (∀ key, key < 729 → hI H1 115 key = bI (ktE lf pf Rw key w)) → (∀ k, hI H1 118 k = hI H 118 k) → Off (fun q => q = 115 ∨ q = 118) H H1 → Xq mX11_knownTogether 1 0 0 29 [some (.ref 83), some (vN (729 * m)), some (vN w)] [] S H1 (fun R => ∃ H', (fun H' => RoP H' T m (fun w => !(ktE lf pf Rw (pf w) (nW T))) ∧ RoE H H' m ∧ Off (fun q => q = 115 ∨ q = 118) H H') H' ∧ R = (none, S, H')) := by
    intro fz
    induction fz with
    | zero => intro w  H1  hfz; exact absurd hfz (by omega)
    | succ fz ih =>
      intro w  H1  hfz hi hf he ho
      have hro1 := (ho.I (by omega) 48).trans hro; have hr1 := hr.off ho (fun q a b => by omega); have hwo := (ho.I (by omega : ¬ (83 = 115 ∨ 83 = 118)) 36).trans hw.ws
      refine xq_iload_n dX11_knownTogether_29 rfl rfl ?_
      refine xq_aload_n dX11_knownTogether_30 rfl rfl ?_
      refine xq_getIE clX11 (by decide) rfl fl_RX11_335 dX11_knownTogether_31 (Fx.s83 hF) hwo ?_
      refine xq_icmp_geN dX11_knownTogether_34 rfl (by omega) (by omega) ⟨fun h34 => ?_, fun h34 => ?_⟩
      · skip
        refine xq_iconst dX11_knownTogether_74 ic0 ?_
        refine xq_istore_n dX11_knownTogether_75 rfl rfl ?_
        have ew : w = nW T := by omega
        subst ew
        exact l3 (nW T + 1) 0 H1 (by omega) (by omega) hf (fun v hv => absurd hv (by omega)) (fun k _ => he k) ho
      · skip
        have hww := h34
        have hgl := (hpf w hww).1
        refine xq_aload_n dX11_knownTogether_37 rfl rfl ?_
        refine xq_iload_n dX11_knownTogether_38 rfl rfl ?_
        refine xq_callV1P clX11 gd_X11_isHere dX11_knownTogether_39 ml_RX11_362 im_X11_isHere se_X11_isHere rfl (Fx.s83 hF) (by exact Nat.le_of_ble_eq_true rfl) (by decide) (m_isHere hF hro1 h23 (by omega) (hr1.lf w hww)) ?_
        refine xq_if_eqB dX11_knownTogether_42 rfl ⟨fun h42 => ?_, fun h42 => ?_⟩
        · skip
          refine xq_iincN dX11_knownTogether_68 ic1 rfl rfl ?_
          refine xq_goto dX11_knownTogether_71 rfl ?_
          exact xq_fgt (ih (w + 1) H1 (by omega) (by omega) (fun key hk => by rw [hf key hk, ktE_s, show lf w = false by simpa using h42]; simp) he ho) (by exact And.intro rfl (And.intro rfl (And.intro rfl (trivial))))
        · skip
          refine xq_aload_n dX11_knownTogether_45 rfl rfl ?_
          refine xq_getF clX11 (by decide) rfl fl_RX11_119 dX11_knownTogether_46 (Fx.s83 hF) (Fx.r83_55 hF) ?_
          refine xq_iload_n dX11_knownTogether_49 rfl rfl ?_
          refine xq_iload_n dX11_knownTogether_50 rfl rfl ?_
          refine xq_iaddN dX11_knownTogether_51 ?_
          refine xq_zaldN dX11_knownTogether_52 (Fx.s118 hF) (by omega) (by decide) ((he _).trans (hRa w hww)) ?_
          refine xq_if_neB dX11_knownTogether_53 rfl ⟨fun h53 => ?_, fun h53 => ?_⟩
          · skip
            refine xq_iincN dX11_knownTogether_68 ic1 rfl rfl ?_
            refine xq_goto dX11_knownTogether_71 rfl ?_
            exact xq_fgt (ih (w + 1) H1 (by omega) (by omega) (fun key hk => by rw [hf key hk, ktE_s, show Rw w = true by simpa using h53]; simp) he ho) (by exact And.intro rfl (And.intro rfl (And.intro rfl (trivial))))
          · skip
            refine xq_aload_n dX11_knownTogether_56 rfl rfl ?_
            refine xq_getF clX11 (by decide) rfl fl_RX11_109 dX11_knownTogether_57 (Fx.s83 hF) (Fx.r83_52 hF) ?_
            refine xq_aload_n dX11_knownTogether_60 rfl rfl ?_
            refine xq_getF clX11 (by decide) rfl fl_RX11_106 dX11_knownTogether_61 (Fx.s83 hF) (Fx.r83_51 hF) ?_
            refine xq_iload_n dX11_knownTogether_64 rfl rfl ?_
            refine xq_ialdN dX11_knownTogether_65 (Fx.s114 hF) (by omega) (by decide) ((ho.I (by omega) _).trans (hpa w hww)) ?_
            refine xq_iconst dX11_knownTogether_66 ic1 ?_
            refine xq_zastN dX11_knownTogether_67 (Fx.s115 hF) (by omega) (by decide) (by decide) ?_
            refine xq_iincN dX11_knownTogether_68 ic1 rfl rfl ?_
            refine xq_goto dX11_knownTogether_71 rfl ?_
            exact xq_fgt (ih (w + 1) _ (by omega) (by omega) (fun key hk => by
              rw [hI_sI, ktE_s, show lf w = true by simpa using h42, show Rw w = false by simpa using h53]
              by_cases e : key = pf w
              · subst e; rw [if_pos ⟨rfl, rfl⟩]; simp; rfl
              · rw [if_neg (fun z => e z.2), hf key hk, show (pf w == key) = false from beq_eq_false_iff_ne.mpr (fun z => e z.symm)]; simp) (fun k => by rw [hI_sI, if_neg (by omega)]; exact he k) (Off.pI (A := (fun q => q = 115 ∨ q = 118)) ho (by omega) _ _)) (by exact And.intro rfl (And.intro rfl (And.intro rfl (trivial))))
  have l1 : ∀ (fz : Nat) (k : Nat) (H1 : xH), 729 - k < fz → k ≤ 729 → (∀ j, j < k → hI H1 115 j = bI false) → (∀ k, hI H1 118 k = hI H 118 k) → Off (fun q => q = 115 ∨ q = 118) H H1 → Xq mX11_knownTogether 1 0 0 7 [some (.ref 83), some (vN (729 * m)), some (vN k)] [] S H1 (fun R => ∃ H', (fun H' => RoP H' T m (fun w => !(ktE lf pf Rw (pf w) (nW T))) ∧ RoE H H' m ∧ Off (fun q => q = 115 ∨ q = 118) H H') H' ∧ R = (none, S, H')) := by
    intro fz
    induction fz with
    | zero => intro k  H1  hfz; exact absurd hfz (by omega)
    | succ fz ih =>
      intro k  H1  hfz hk hz he ho
      refine xq_iload_n dX11_knownTogether_7 rfl rfl ?_
      refine xq_sipush dX11_knownTogether_8 sp729 ?_
      refine xq_icmp_geN dX11_knownTogether_11 rfl (by omega) (by omega) ⟨fun h11 => ?_, fun h11 => ?_⟩
      · skip
        refine xq_iconst dX11_knownTogether_27 ic0 ?_
        refine xq_istore_n dX11_knownTogether_28 rfl rfl ?_
        exact l2 (nW T + 1) 0 H1 (by omega) (by omega) (fun key hk2 => hz key (by omega)) he ho
      · skip
        refine xq_aload_n dX11_knownTogether_14 rfl rfl ?_
        refine xq_getF clX11 (by decide) rfl fl_RX11_109 dX11_knownTogether_15 (Fx.s83 hF) (Fx.r83_52 hF) ?_
        refine xq_iload_n dX11_knownTogether_18 rfl rfl ?_
        refine xq_iconst dX11_knownTogether_19 ic0 ?_
        refine xq_zastN dX11_knownTogether_20 (Fx.s115 hF) (by omega) (by decide) (by decide) ?_
        refine xq_iincN dX11_knownTogether_21 ic1 rfl rfl ?_
        refine xq_goto dX11_knownTogether_24 rfl ?_
        refine ih (k + 1) _ (by omega) (by omega) (fun j hj => ?_) (fun k2 => by rw [hI_sI, if_neg (by omega)]; exact he k2) (Off.pI (A := (fun q => q = 115 ∨ q = 118)) ho (by omega) _ _)
        rw [hI_sI]
        by_cases e : j = k
        · rw [if_pos ⟨rfl, e⟩]; rfl
        · rw [if_neg (fun z => e z.2)]; exact hz j (by omega)
  refine vq_intro (by decide) (by exact Nat.le_of_ble_eq_true rfl) rfl ?_
  refine xq_aload_n dX11_knownTogether_0 rfl rfl ?_
  refine xq_callV0P clX11 gd_X11_top dX11_knownTogether_1 ml_RX11_374 im_X11_top se_X11_top rfl (Fx.s83 hF) (by exact Nat.le_of_ble_eq_true rfl) (by decide) (m_top hF hm hm65) ?_
  refine xq_istore_n dX11_knownTogether_4 rfl rfl ?_
  refine xq_iconst dX11_knownTogether_5 ic0 ?_
  refine xq_istore_n dX11_knownTogether_6 rfl rfl ?_
  exact l1 730 0 H (by omega) (by omega) (fun j hj => absurd hj (by omega)) (fun _ => rfl) Off.rf
theorem m_knownByAll (hs : MsP S H T N) (hr : RmP H T s lf u) (hlr : LfR T lf u) (ok : StOk u) (h23 : s < 23) (hro : hI H 83 48 = nI s) (hsi : SiP H T u) (hm : hI H 83 56 = nI (m + 1)) (hm65 : m < 65) (hRa : RoP H T m Rw) : Nv mX11_knownByAll 2 [.ref 83] S H (fun H' => RoP H' T m (fun w => !(ex (fun p => kbE T lf u p Rw (sgt T (uSe u p) w) (nW T)) (tNp T))) ∧ (∀ k, (k < 729 * m ∨ 729 * m + 1458 ≤ k) → hI H' 118 k = hI H 118 k) ∧ Off (fun q => q = 115 ∨ q = 118) H H') := by
  have hF := hs.fx; have hx := hs.mx; have hw := hs.mw; have tk := hs.tk; have tw := hs.tw; have hnp := tw.2.1; have hnc := tw.1; have hWn := nW_le tw
  have l4 : ∀ (fz : Nat) (w : Nat) (H1 : xH), nW T - w < fz → w ≤ nW T → RoP H1 T (m + 1) (fun w => !(ex (fun p => kbE T lf u p Rw (sgt T (uSe u p) w) (nW T)) (tNp T))) → (∀ v, v < w → hI H1 118 (729 * m + v) = bI ((fun w => !(ex (fun p => kbE T lf u p Rw (sgt T (uSe u p) w) (nW T)) (tNp T))) v)) → (∀ k, (k < 729 * m ∨ 729 * m + 1458 ≤ k) → hI H1 118 k = hI H 118 k) → Off (fun q => q = 115 ∨ q = 118) H H1 → Xq mX11_knownByAll 2 0 0 101 [some (.ref 83), some (vN (729 * m)), some (vN (729 * m + 729)), some (vN w)] [] S H1 (fun R => ∃ H', (fun H' => RoP H' T m (fun w => !(ex (fun p => kbE T lf u p Rw (sgt T (uSe u p) w) (nW T)) (tNp T))) ∧ (∀ k, (k < 729 * m ∨ 729 * m + 1458 ≤ k) → hI H' 118 k = hI H 118 k) ∧ Off (fun q => q = 115 ∨ q = 118) H H') H' ∧ R = (none, S, H')) := by
    intro fz
    induction fz with
    | zero => intro w  H1  hfz; exact absurd hfz (by omega)
    | succ fz ih =>
      intro w  H1  hfz hi hb hg he ho
      have hro1 := (ho.I (by omega) 48).trans hro; have hr1 := hr.off ho (fun q a b => by omega); have hwo := (ho.I (by omega : ¬ (83 = 115 ∨ 83 = 118)) 36).trans hw.ws
      refine xq_iload_n dX11_knownByAll_101 rfl rfl ?_
      refine xq_aload_n dX11_knownByAll_102 rfl rfl ?_
      refine xq_getIE clX11 (by decide) rfl fl_RX11_335 dX11_knownByAll_103 (Fx.s83 hF) hwo ?_
      refine xq_icmp_geN dX11_knownByAll_106 rfl (by omega) (by omega) ⟨fun h106 => ?_, fun h106 => ?_⟩
      · skip
        refine xq_vret dX11_knownByAll_131 rfl ?_
        exact ⟨H1, ⟨fun v hv => hg v (by omega), he, ho⟩, rfl⟩
      · skip
        refine xq_aload_n dX11_knownByAll_109 rfl rfl ?_
        refine xq_getF clX11 (by decide) rfl fl_RX11_119 dX11_knownByAll_110 (Fx.s83 hF) (Fx.r83_55 hF) ?_
        refine xq_iload_n dX11_knownByAll_113 rfl rfl ?_
        refine xq_iload_n dX11_knownByAll_114 rfl rfl ?_
        refine xq_iaddN dX11_knownByAll_115 ?_
        refine xq_aload_n dX11_knownByAll_116 rfl rfl ?_
        refine xq_getF clX11 (by decide) rfl fl_RX11_119 dX11_knownByAll_117 (Fx.s83 hF) (Fx.r83_55 hF) ?_
        refine xq_iload_n dX11_knownByAll_120 rfl rfl ?_
        refine xq_iload_n dX11_knownByAll_121 rfl rfl ?_
        refine xq_iaddN dX11_knownByAll_122 ?_
        refine xq_zaldN (v := bI ((fun w => !(ex (fun p => kbE T lf u p Rw (sgt T (uSe u p) w) (nW T)) (tNp T))) w)) dX11_knownByAll_123 (Fx.s118 hF) (by omega) (by decide) ((congrArg (hI H1 118) (by omega)).trans (hb w h106)) ?_
        refine xq_zastN dX11_knownByAll_124 (Fx.s118 hF) (by omega) (by decide) (bI_01 _) ?_
        refine xq_iincN dX11_knownByAll_125 ic1 rfl rfl ?_
        refine xq_goto dX11_knownByAll_128 rfl ?_
        refine ih (w + 1) _ (by omega) (by omega) (fun v hv => by rw [hI_sI, if_neg (by omega)]; exact hb v hv) (fun v hv => ?_) (fun k hk => by rw [hI_sI, if_neg (by omega)]; exact he k hk) (Off.pI (A := (fun q => q = 115 ∨ q = 118)) ho (by omega) _ _)
        rw [hI_sI]
        by_cases e : v = w
        · subst e; rw [if_pos ⟨rfl, rfl⟩]
        · rw [if_neg (by omega)]; exact hg v (by omega)
  have l3 : ∀ (fz : Nat) (p : Nat) (H1 : xH), tNp T - p < fz → p ≤ tNp T → RoP H1 T (m + 1) (fun w => !(ex (fun p => kbE T lf u p Rw (sgt T (uSe u p) w) (nW T)) p)) → RoP H1 T m Rw → (∀ k, (k < 729 * m ∨ 729 * m + 1458 ≤ k) → hI H1 118 k = hI H 118 k) → Off (fun q => q = 115 ∨ q = 118) H H1 → Xq mX11_knownByAll 2 0 0 76 [some (.ref 83), some (vN (729 * m)), some (vN (729 * m + 729)), some (vN p)] [] S H1 (fun R => ∃ H', (fun H' => RoP H' T m (fun w => !(ex (fun p => kbE T lf u p Rw (sgt T (uSe u p) w) (nW T)) (tNp T))) ∧ (∀ k, (k < 729 * m ∨ 729 * m + 1458 ≤ k) → hI H' 118 k = hI H 118 k) ∧ Off (fun q => q = 115 ∨ q = 118) H H') H' ∧ R = (none, S, H')) := by
    intro fz
    induction fz with
    | zero => intro p  H1  hfz; exact absurd hfz (by omega)
    | succ fz ih =>
      intro p  H1  hfz hi hb hra he ho
      have hro1 := (ho.I (by omega) 48).trans hro; have hr1 := hr.off ho (fun q a b => by omega); have hwo := (ho.I (by omega : ¬ (83 = 115 ∨ 83 = 118)) 36).trans hw.ws; have hs1 := hs.off (MoF.of (F := fun _ => False) ho (by omega)) (fun q a b => by omega) (by omega) (fun e => e) (fun e => e); have hx := hs1.mx; have hsi1 : SiP H1 T u := fun p hp w hw => (ho.I (by omega) _).trans (hsi p hp w hw)
      refine xq_iload_n dX11_knownByAll_76 rfl rfl ?_
      refine xq_aload_n dX11_knownByAll_77 rfl rfl ?_
      refine xq_getF clX11 (by decide) rfl fl_RX11_13 dX11_knownByAll_78 (Fx.s83 hF) (Fx.r83_3 hF) ?_
      refine xq_iconst dX11_knownByAll_81 ic1 ?_
      refine xq_ialdN dX11_knownByAll_82 (Fx.s85 hF) (by omega) (by decide) hx.np ?_
      refine xq_icmp_geN dX11_knownByAll_83 rfl (by omega) (by omega) ⟨fun h83 => ?_, fun h83 => ?_⟩
      · skip
        refine xq_iconst dX11_knownByAll_99 ic0 ?_
        refine xq_istore_n dX11_knownByAll_100 rfl rfl ?_
        have ep : p = tNp T := by omega
        subst ep
        exact l4 (nW T + 1) 0 H1 (by omega) (by omega) hb (fun v hv => absurd hv (by omega)) he ho
      · skip
        refine xq_aload_n dX11_knownByAll_86 rfl rfl ?_
        refine xq_iload_n dX11_knownByAll_87 rfl rfl ?_
        refine xq_iload_n dX11_knownByAll_88 rfl rfl ?_
        refine xq_iload_n dX11_knownByAll_89 rfl rfl ?_
        refine xq_callV3N clX11 gd_X11_knownTo dX11_knownByAll_90 ml_RX11_380 im_X11_knownTo se_X11_knownTo rfl (Fx.s83 hF) (by exact Nat.le_of_ble_eq_true rfl) (by decide) (show Nv mX11_knownTo _ [.ref 83, vN p, vN (729 * m), vN (729 * m + 729)] S H1 _ from m_knownTo (x := m + 1) hs1 hr1 hlr ok h23 hro1 hsi1 h83 (by omega) (by omega) hra hb) ?_
        intro H90 p90
        obtain ⟨r90, e90, o90⟩ := p90
        refine xq_iincN dX11_knownByAll_93 ic1 rfl rfl ?_
        refine xq_goto dX11_knownByAll_96 rfl ?_
        refine ih (p + 1) H90 (by omega) (by omega) (fun w hw => ?_) (hra.e tw e90 (by omega)) (fun k hk => (e90 k (by omega)).trans (he k hk)) (ho.tr o90)
        rw [r90 w hw]
        show bI (!(ex _ p) && _) = bI (!(ex _ (p + 1)))
        rw [ex_s, Bool.not_or]
  have l1 : ∀ (fz : Nat) (w : Nat) (H1 : xH), nW T - w < fz → w ≤ nW T → (∀ v, v < w → ∃ b, hI H1 118 (729 * m + 729 + v) = bI b ∧ (0 < tNp T → b = true)) → RoP H1 T m Rw → (∀ k, (k < 729 * m ∨ 729 * m + 1458 ≤ k) → hI H1 118 k = hI H 118 k) → Off (fun q => q = 115 ∨ q = 118) H H1 → Xq mX11_knownByAll 2 0 0 13 [some (.ref 83), some (vN (729 * m)), some (vN (729 * m + 729)), some (vN w)] [] S H1 (fun R => ∃ H', (fun H' => RoP H' T m (fun w => !(ex (fun p => kbE T lf u p Rw (sgt T (uSe u p) w) (nW T)) (tNp T))) ∧ (∀ k, (k < 729 * m ∨ 729 * m + 1458 ≤ k) → hI H' 118 k = hI H 118 k) ∧ Off (fun q => q = 115 ∨ q = 118) H H') H' ∧ R = (none, S, H')) := by
    intro fz
    induction fz with
    | zero => intro w  H1  hfz; exact absurd hfz (by omega)
    | succ fz ih =>
      intro w  H1  hfz hi hg hra he ho
      have hro1 := (ho.I (by omega) 48).trans hro; have hr1 := hr.off ho (fun q a b => by omega); have hwo := (ho.I (by omega : ¬ (83 = 115 ∨ 83 = 118)) 36).trans hw.ws; have hs1 := hs.off (MoF.of (F := fun _ => False) ho (by omega)) (fun q a b => by omega) (by omega) (fun e => e) (fun e => e); have hx := hs1.mx
      refine xq_iload_n dX11_knownByAll_13 rfl rfl ?_
      refine xq_aload_n dX11_knownByAll_14 rfl rfl ?_
      refine xq_getIE clX11 (by decide) rfl fl_RX11_335 dX11_knownByAll_15 (Fx.s83 hF) hwo ?_
      refine xq_icmp_geN dX11_knownByAll_18 rfl (by omega) (by omega) ⟨fun h18 => ?_, fun h18 => ?_⟩
      · skip
        refine xq_aload_n dX11_knownByAll_60 rfl rfl ?_
        refine xq_getF clX11 (by decide) rfl fl_RX11_13 dX11_knownByAll_61 (Fx.s83 hF) (Fx.r83_3 hF) ?_
        refine xq_iconst dX11_knownByAll_64 ic1 ?_
        refine xq_ialdN dX11_knownByAll_65 (Fx.s85 hF) (by omega) (by decide) hx.np ?_
        refine xq_if_neN dX11_knownByAll_66 rfl (by omega) ⟨fun h66 => ?_, fun h66 => ?_⟩
        · skip
          refine xq_iconst dX11_knownByAll_74 ic0 ?_
          refine xq_istore_n dX11_knownByAll_75 rfl rfl ?_
          refine l3 (tNp T + 1) 0 H1 (by omega) (by omega) (fun w2 hw2 => ?_) hra he ho
          obtain ⟨b, b1, b2⟩ := hg w2 (by omega)
          rw [show 729 * (m + 1) + w2 = 729 * m + 729 + w2 by omega, b1, b2 (by omega)]; rfl
        · skip
          refine xq_aload_n dX11_knownByAll_69 rfl rfl ?_
          refine xq_iload_n dX11_knownByAll_70 rfl rfl ?_
          refine xq_callV1N clX11 gd_X11_fills dX11_knownByAll_71 ml_RX11_377 im_X11_fills se_X11_fills rfl (Fx.s83 hF) (by exact Nat.le_of_ble_eq_true rfl) (by decide) (show Nv mX11_fills _ [.ref 83, vN (729 * m + 729)] S H1 _ from m_fills (x := m + 1) hs1 (by omega)) ?_
          intro H71 p71
          obtain ⟨r71, e71, o71⟩ := p71
          refine xq_iconst dX11_knownByAll_74 ic0 ?_
          refine xq_istore_n dX11_knownByAll_75 rfl rfl ?_
          exact l3 (tNp T + 1) 0 H71 (by omega) (by omega) (fun w hw => r71 w hw) (hra.e tw e71 (by omega)) (fun k hk => (e71 k (by omega)).trans (he k hk)) (ho.tr (o71.mo (fun q h => Or.inr h)))
      · skip
        refine xq_aload_n dX11_knownByAll_21 rfl rfl ?_
        refine xq_getF clX11 (by decide) rfl fl_RX11_119 dX11_knownByAll_22 (Fx.s83 hF) (Fx.r83_55 hF) ?_
        refine xq_iload_n dX11_knownByAll_25 rfl rfl ?_
        refine xq_iload_n dX11_knownByAll_26 rfl rfl ?_
        refine xq_iaddN dX11_knownByAll_27 ?_
        refine xq_aload_n dX11_knownByAll_28 rfl rfl ?_
        refine xq_getF clX11 (by decide) rfl fl_RX11_13 dX11_knownByAll_29 (Fx.s83 hF) (Fx.r83_3 hF) ?_
        refine xq_iconst dX11_knownByAll_32 ic1 ?_
        refine xq_ialdN dX11_knownByAll_33 (Fx.s85 hF) (by omega) (by decide) hx.np ?_
        refine xq_if_gtN dX11_knownByAll_34 rfl (by omega) ⟨fun h34 => ?_, fun h34 => ?_⟩
        · skip
          refine xq_iconst dX11_knownByAll_48 ic1 ?_
          refine xq_goto dX11_knownByAll_49 rfl ?_
          refine xq_zastN dX11_knownByAll_53 (Fx.s118 hF) (by omega) (by decide) (by decide) ?_
          refine xq_iincN dX11_knownByAll_54 ic1 rfl rfl ?_
          refine xq_goto dX11_knownByAll_57 rfl ?_
          refine ih (w + 1) _ (by omega) (by omega) (fun v hv => ?_) (fun v hv => by rw [hI_sI, if_neg (by omega)]; exact hra v hv) (fun k hk => by rw [hI_sI, if_neg (by omega)]; exact he k hk) (Off.pI (A := (fun q => q = 115 ∨ q = 118)) ho (by omega) _ _)
          rw [hI_sI]
          by_cases e : v = w
          · subst e
            refine ⟨true, ?_, fun _ => rfl⟩
            rw [if_pos ⟨rfl, by omega⟩]; rfl
          · rw [if_neg (by omega)]; exact hg v (by omega)
        · skip
          refine xq_aload_n dX11_knownByAll_37 rfl rfl ?_
          refine xq_getF clX11 (by decide) rfl fl_RX11_119 dX11_knownByAll_38 (Fx.s83 hF) (Fx.r83_55 hF) ?_
          refine xq_iload_n dX11_knownByAll_41 rfl rfl ?_
          refine xq_iload_n dX11_knownByAll_42 rfl rfl ?_
          refine xq_iaddN dX11_knownByAll_43 ?_
          refine xq_zaldN dX11_knownByAll_44 (Fx.s118 hF) (by omega) (by decide) (hra w h18) ?_
          refine xq_if_eqB dX11_knownByAll_45 rfl ⟨fun h45 => ?_, fun h45 => ?_⟩
          · skip
            refine xq_iconst dX11_knownByAll_52 ic0 ?_
            refine xq_zastN dX11_knownByAll_53 (Fx.s118 hF) (by omega) (by decide) (by decide) ?_
            refine xq_iincN dX11_knownByAll_54 ic1 rfl rfl ?_
            refine xq_goto dX11_knownByAll_57 rfl ?_
            refine ih (w + 1) _ (by omega) (by omega) (fun v hv => ?_) (fun v hv => by rw [hI_sI, if_neg (by omega)]; exact hra v hv) (fun k hk => by rw [hI_sI, if_neg (by omega)]; exact he k hk) (Off.pI (A := (fun q => q = 115 ∨ q = 118)) ho (by omega) _ _)
            rw [hI_sI]
            by_cases e : v = w
            · subst e
              refine ⟨false, ?_, fun z => absurd z (by omega)⟩
              rw [if_pos ⟨rfl, by omega⟩]; rfl
            · rw [if_neg (by omega)]; exact hg v (by omega)
          · skip
            refine xq_iconst dX11_knownByAll_48 ic1 ?_
            refine xq_goto dX11_knownByAll_49 rfl ?_
            refine xq_zastN dX11_knownByAll_53 (Fx.s118 hF) (by omega) (by decide) (by decide) ?_
            refine xq_iincN dX11_knownByAll_54 ic1 rfl rfl ?_
            refine xq_goto dX11_knownByAll_57 rfl ?_
            refine ih (w + 1) _ (by omega) (by omega) (fun v hv => ?_) (fun v hv => by rw [hI_sI, if_neg (by omega)]; exact hra v hv) (fun k hk => by rw [hI_sI, if_neg (by omega)]; exact he k hk) (Off.pI (A := (fun q => q = 115 ∨ q = 118)) ho (by omega) _ _)
            rw [hI_sI]
            by_cases e : v = w
            · subst e
              refine ⟨true, ?_, fun _ => rfl⟩
              rw [if_pos ⟨rfl, by omega⟩]; rfl
            · rw [if_neg (by omega)]; exact hg v (by omega)
  refine vq_intro (by decide) (by exact Nat.le_of_ble_eq_true rfl) rfl ?_
  refine xq_aload_n dX11_knownByAll_0 rfl rfl ?_
  refine xq_callV0P clX11 gd_X11_top dX11_knownByAll_1 ml_RX11_374 im_X11_top se_X11_top rfl (Fx.s83 hF) (by exact Nat.le_of_ble_eq_true rfl) (by decide) (m_top hF hm hm65) ?_
  refine xq_istore_n dX11_knownByAll_4 rfl rfl ?_
  refine xq_iload_n dX11_knownByAll_5 rfl rfl ?_
  refine xq_sipush dX11_knownByAll_6 sp729 ?_
  refine xq_iaddN dX11_knownByAll_9 ?_
  refine xq_istore_n dX11_knownByAll_10 rfl rfl ?_
  refine xq_iconst dX11_knownByAll_11 ic0 ?_
  refine xq_istore_n dX11_knownByAll_12 rfl rfl ?_
  exact l1 (nW T + 1) 0 H (by omega) (by omega) (fun j hj => absurd hj (by omega)) hRa (fun _ _ => rfl) Off.rf
end RW
