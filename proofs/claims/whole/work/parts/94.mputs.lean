/-! ===== the reference puts knots ===== -/
section MK
variable {S : xS} {H H1 H2 H3 : xH} {bt : Nat → Nat} {ln k p q i j l m n c t d a its v : Nat} {s : uTk} {T T2 : uTx} {N0 : Nat → Nat → Nat} {x y z : rxT} {r : rxR}
def mks (k : Nat) : Nat := if k = 14 then 3 else if k = 15 then 4 else if k = 16 then 5 else if k = 17 then 6 else if k = 18 then 7 else if k = 19 then 8 else if k = 20 then 9 else if k = 38 then 0 else if 21 ≤ k ∧ k ≤ 27 then 1 else 2
def mkv (k x y : Nat) : Nat := if k = 14 ∨ k = 19 then 8 * x + y else if k = 15 ∨ k = 20 ∨ k = 38 then x else if k = 16 then y else if k = 17 ∨ k = 18 then 0 else if 21 ≤ k ∧ k ≤ 27 then k - 21 else sgn k
theorem mkS_e : mkS T k = mks (tK T k) := rfl
theorem mkV_e : mkV T k = mkv (tK T k) (tX T k) (tY T k) := rfl
def ptH (H : xH) (n its v : Nat) : xH := sI (sI (sI H 99 (64 + n) (nI its)) 100 (64 + n) (nI v)) 85 16 (nI (n + 1))
theorem MxU.put {a b : Nat} (h : MxU H T N0) (hn : tNk T < 64) : MxU (ptH H (tNk T) (mks k) (mkv k a b)) (knT T k a b) N0 := by
  have e85 : ∀ j, j ≠ 16 → hI (ptH H (tNk T) (mks k) (mkv k a b)) 85 j = hI H 85 j := fun j hj => by
    unfold ptH
    rw [hI_sI, if_neg (fun z => hj z.2), hI_sI, if_neg (by omega), hI_sI, if_neg (by omega)]
  have eq : ∀ q j, q ≠ 85 → q ≠ 99 → q ≠ 100 → hI (ptH H (tNk T) (mks k) (mkv k a b)) q j = hI H q j := fun q j h1 h2 h3 => by
    unfold ptH
    rw [hI_sI, if_neg (fun z => h1 z.1), hI_sI, if_neg (fun z => h3 z.1), hI_sI, if_neg (fun z => h2 z.1)]
  refine ⟨(e85 _ (by decide)).trans h.nc, (e85 _ (by decide)).trans h.np, (e85 _ (by decide)).trans h.nf, (e85 _ (by decide)).trans h.nt, (e85 _ (by decide)).trans h.na, (e85 _ (by decide)).trans h.sh, (e85 _ (by decide)).trans h.sd, ?_, fun k hk => ?_, fun k hk => ?_, fun k hk => ?_, fun k hk => ?_, fun k hk => ?_, fun k hk => ?_, fun j hj => ?_⟩
  · unfold ptH; rw [hI_sI, if_pos ⟨rfl, rfl⟩]; rfl
  · rw [eq _ _ (by decide) (by decide) (by decide), eq _ _ (by decide) (by decide) (by decide)]; exact h.co k hk
  · rw [eq _ _ (by decide) (by decide) (by decide), eq _ _ (by decide) (by decide) (by decide), eq _ _ (by decide) (by decide) (by decide)]; exact h.pe k hk
  · rw [eq _ _ (by decide) (by decide) (by decide), eq _ _ (by decide) (by decide) (by decide), eq _ _ (by decide) (by decide) (by decide)]; exact h.fa k hk
  · rw [eq _ _ (by decide) (by decide) (by decide), eq _ _ (by decide) (by decide) (by decide)]; exact h.te k hk
  · rw [eq _ _ (by decide) (by decide) (by decide)]; exact h.as k hk
  · rw [eq _ _ (by decide) (by decide) (by decide), eq _ _ (by decide) (by decide) (by decide)]; exact h.lw k hk
  · have hj : j < tNk T + 1 := hj
    rw [mkS_e, mkV_e, knT_k, knT_x, knT_y]
    have e99 : hI (ptH H (tNk T) (mks k) (mkv k a b)) 99 (64 + j) = if j = tNk T then nI (mks k) else hI H 99 (64 + j) := by
      unfold ptH
      rw [hI_sI, if_neg (fun z => absurd z.1 (by decide)), hI_sI, if_neg (fun z => absurd z.1 (by decide)), hI_sI]
      by_cases e : j = tNk T
      · rw [if_pos ⟨rfl, by omega⟩, if_pos e]
      · rw [if_neg (fun z => e (by have := z.2; omega)), if_neg e]
    have e100 : hI (ptH H (tNk T) (mks k) (mkv k a b)) 100 (64 + j) = if j = tNk T then nI (mkv k a b) else hI H 100 (64 + j) := by
      unfold ptH
      rw [hI_sI, if_neg (fun z => absurd z.1 (by decide)), hI_sI]
      by_cases e : j = tNk T
      · rw [if_pos ⟨rfl, by omega⟩, if_pos e]
      · rw [if_neg (fun z => e (by have := z.2; omega)), if_neg e, hI_sI, if_neg (fun z => absurd z.1 (by decide))]
    rw [e99, e100]
    by_cases e : j = tNk T
    · rw [if_pos e, if_pos e, if_pos e, if_pos e, if_pos e]; exact ⟨rfl, rfl⟩
    · rw [if_neg e, if_neg e, if_neg e, if_neg e, if_neg e]; exact h.kn j (by omega)
theorem ptH_k (k : Nat) : hI (ptH H n its v) 83 k = hI H 83 k := by unfold ptH; rw [hI_sI, if_neg (by omega), hI_sI, if_neg (by omega), hI_sI, if_neg (by omega)]
theorem ptH_o : Off (fun q => q = 85 ∨ q = 99 ∨ q = 100) H (ptH H n its v) := Off.pI (A := fun q => q = 85 ∨ q = 99 ∨ q = 100) (Off.pI (A := fun q => q = 85 ∨ q = 99 ∨ q = 100) (Off.pI (A := fun q => q = 85 ∨ q = 99 ∨ q = 100) Off.rf (by omega) _ _) (by omega) _ _) (by omega) _ _
theorem ptH_l (h : LoQ H1 H) : LoQ H1 (ptH H n its v) := ((h.pU (a := 99) (by omega) (show 64 ≤ _ by omega) _).pU (a := 100) (by omega) (show 64 ≤ _ by omega) _).pU (a := 85) (by omega) (show 9 ≤ 16 by decide) _
/-- where formulas begin; the laws' roots and needs, as the picture has them meanwhile -/
abbrev NLt : Type := (Nat → Nat → Nat) × (Nat → Nat) × (Nat → Int64)
variable {N : NLt}
def lwT (u : Nat → Nat) (v : Nat → Int64) (T : uTx) : uTx := (fun a k => if a = 14 then u k else T.1 a k, fun a k => if a = 1 then v k else T.2 a k)
theorem lwT_kn {u : Nat → Nat} {v : Nat → Int64} {i x y : Nat} : knT (lwT u v T) i x y = lwT u v (knT T i x y) := by
  refine Prod.ext (funext fun a => funext fun k => ?_) rfl
  show (if a = 0 ∧ k = 3 then tNk T + 1 else if a = 3 ∧ k = tNk T then y else if a = 2 ∧ k = tNk T then x else if a = 1 ∧ k = tNk T then i else if a = 14 then u k else T.1 a k) = (if a = 14 then u k else if a = 0 ∧ k = 3 then tNk T + 1 else if a = 3 ∧ k = tNk T then y else if a = 2 ∧ k = tNk T then x else if a = 1 ∧ k = tNk T then i else T.1 a k)
  by_cases e : a = 14
  · rw [if_pos e, if_neg (by omega), if_neg (by omega), if_neg (by omega), if_neg (by omega), if_pos e]
  · rw [if_neg e, if_neg e]
/-- a formula that is being read, at token n -/
def RxP (S : xS) (H : xH) (bt : Nat → Nat) (ln : Nat) (s : uTk) (N : NLt) (x : rxT) : Prop := MtP S H bt ln s (rxN x) ∧ MxU H (lwT N.2.1 N.2.2 (rxX x)) N.1 ∧ hI H 83 26 = nI 0 ∧ hI H 83 30 = nI (rxO x) ∧ hI H 83 31 = nI (rxB x)
def RxW (x : rxT) : Prop := SzOk (rxX x) ∧ rxB x ≤ 64 ∧ rxO x ≤ 8 ∧ tNk (rxX x) ≤ rxB x
def SmK (H H2 : xH) : Prop := LoQ H H2 ∧ hI H2 83 19 = hI H 83 19 ∧ hI H2 83 20 = hI H 83 20 ∧ (∀ q i, 86 ≤ q → q ≤ 98 → hI H2 q i = hI H q i) ∧ ∀ i, i ≠ 16 → hI H2 85 i = hI H 85 i
theorem SmK.rf : SmK H H := ⟨LoQ.rf, rfl, rfl, fun _ _ _ _ => rfl, fun _ _ => rfl⟩
theorem SmK.tr (h : SmK H H1) (h2 : SmK H1 H2) : SmK H H2 := ⟨h.1.tr h2.1, h2.2.1.trans h.2.1, h2.2.2.1.trans h.2.2.1, fun q i a b => (h2.2.2.2.1 q i a b).trans (h.2.2.2.1 q i a b), fun i hi => (h2.2.2.2.2 i hi).trans (h.2.2.2.2 i hi)⟩
theorem SmK.of {F : Nat → Prop} (h : MoF (fun q => q = 83) F H H2) (hf : ∀ k, F k → 21 ≤ k ∧ k ≤ 31) : SmK H H2 := ⟨LoQ.of h (fun k hk => by have := hf k hk; omega), h.2 19 (fun z => by have := hf 19 z; omega), h.2 20 (fun z => by have := hf 20 z; omega), fun q i a b => h.1.I (by omega) i, fun i _ => h.1.I (by omega) i⟩
theorem SmK.pF (h : SmK H H2) (hk : 21 ≤ k ∧ k ≤ 31) (z : Int32) : SmK H (sI H2 83 k z) := ⟨h.1.pF (by omega) z, by rw [hI_sI, if_neg (by omega)]; exact h.2.1, by rw [hI_sI, if_neg (by omega)]; exact h.2.2.1, fun q i a b => by rw [hI_sI, if_neg (by omega)]; exact h.2.2.2.1 q i a b, fun i hi => by rw [hI_sI, if_neg (by omega)]; exact h.2.2.2.2 i hi⟩
theorem SmK.pt (h : SmK H1 H) : SmK H1 (ptH H n its v) := ⟨ptH_l h.1, (ptH_k 19).trans h.2.1, (ptH_k 20).trans h.2.2.1, fun q i a b => (ptH_o.I (by omega) i).trans (h.2.2.2.1 q i a b), fun i hi => by
  unfold ptH
  rw [hI_sI, if_neg (fun z => hi z.2), hI_sI, if_neg (by omega), hI_sI, if_neg (by omega)]; exact h.2.2.2.2 i hi⟩
def FtQ (H : xH) (s : uTk) (c m : Nat) : Prop := hI H 83 26 = nI c ∧ hI H 83 27 = nI (kPl s m) ∧ 0 < c ∧ c < 100 ∧ m < kSz s
def mQ (S : xS) (H H2 : xH) (bt : Nat → Nat) (ln : Nat) (s : uTk) (N : NLt) (r : rxR) : Prop := SmK H H2 ∧ match r with
  | .inl (c, m) => FtQ H2 s c m
  | .inr y => RxP S H2 bt ln s N y
theorem mQ.tr (h : mQ S H1 H2 bt ln s N r) (h2 : SmK H H1) : mQ S H H2 bt ln s N r := ⟨h2.tr h.1, h.2⟩
theorem RxP.kn {b : Nat} (h : RxP S H bt ln s N x) : RxP S (sI H 83 31 (nI b)) bt ln s N (rxN x, rxX x, b, rxO x, rxW x) := ⟨h.1.off (A := fun q => q = 83) (F := fun k => k = 31) (MoF.pF (A := fun q => q = 83) (F := fun k => k = 31) (k := 31) MoF.rf rfl rfl _) (by decide) (fun k h1 h2 z => by omega), h.2.1.off (A := fun q => q = 83) (Off.pI (A := fun q => q = 83) Off.rf rfl _ _) (fun q h1 h2 z => by omega), by rw [hI_sI, if_neg (by omega)]; exact h.2.2.1, by rw [hI_sI, if_neg (by omega)]; exact h.2.2.2.1, by rw [hI_sI, if_pos ⟨rfl, rfl⟩]; rfl⟩
theorem RxP.op {o : Nat} (h : RxP S H bt ln s N x) : RxP S (sI H 83 30 (nI o)) bt ln s N (rxN x, rxX x, rxB x, o, rxW x) := ⟨h.1.off (A := fun q => q = 83) (F := fun k => k = 30) (MoF.pF (A := fun q => q = 83) (F := fun k => k = 30) (k := 30) MoF.rf rfl rfl _) (by decide) (fun k h1 h2 z => by omega), h.2.1.off (A := fun q => q = 83) (Off.pI (A := fun q => q = 83) Off.rf rfl _ _) (fun q h1 h2 z => by omega), by rw [hI_sI, if_neg (by omega)]; exact h.2.2.1, by rw [hI_sI, if_pos ⟨rfl, rfl⟩]; rfl, by rw [hI_sI, if_neg (by omega)]; exact h.2.2.2.2⟩
theorem RxP.tk {n : Nat} (h : RxP S H bt ln s N x) (hm : MtP S H2 bt ln s n) (ho : MoF (fun q => q = 83) (fun k => k = 22 ∨ k = 23 ∨ k = 24 ∨ k = 25) H H2) : RxP S H2 bt ln s N (n, rxX x, rxB x, rxO x, rxW x) := ⟨hm, h.2.1.off ho.1 (fun q h1 h2 z => by omega), (ho.2 26 (by decide)).trans h.2.2.1, (ho.2 30 (by decide)).trans h.2.2.2.1, (ho.2 31 (by decide)).trans h.2.2.2.2⟩
theorem RxP.pt {k a b : Nat} {w : Int64} (h : RxP S H bt ln s N x) (hn : tNk (rxX x) < 64) : RxP S (ptH H (tNk (rxX x)) (mks k) (mkv k a b)) bt ln s N (rxN x, knT (rxX x) k a b, rxB x, rxO x, w) := ⟨h.1.off (A := fun q => q = 85 ∨ q = 99 ∨ q = 100) (F := fun k => False) ⟨ptH_o, fun k _ => ptH_k k⟩ (by decide) (fun k h1 h2 z => z), (by show MxU _ (lwT N.2.1 N.2.2 (knT (rxX x) k a b)) N.1; rw [← lwT_kn]; exact h.2.1.put (k := k) (a := a) (b := b) hn), (ptH_k 26).trans h.2.2.1, (ptH_k 30).trans h.2.2.2.1, (ptH_k 31).trans h.2.2.2.2⟩
theorem RxP.nk (h : RxP S H bt ln s N x) : hI H 85 16 = nI (tNk (rxX x)) := h.2.1.nk
theorem FtQ.mf (h : MfQ H H2 s m c) (hc : 0 < c) (hc2 : c < 100) (hm : m < kSz s) : FtQ H2 s c m := ⟨h.1, h.2.1, hc, hc2, hm⟩
theorem MfQ.sk (h : MfQ H H2 s m c) : SmK H H2 := SmK.of h.2.2 (fun k hk => by omega)
theorem tok_sk (h : MoF (fun q => q = 83) (fun k => k = 22 ∨ k = 23 ∨ k = 24 ∨ k = 25) H H2) : SmK H H2 := SmK.of h (fun k hk => by omega)
theorem nj_b1 {f : rxT → rxR} (h : NjQ (bnd r f)) : NjQ r := fun m e => h m (by rw [e]; rfl)
theorem RxW.nx (h : RxW x) (hb : rxB x < 64) : RxW (nxB x) := ⟨h.1, hb, h.2.2.1, Nat.le_succ_of_le h.2.2.2⟩
theorem RxW.rq {e : Nat} (h : RxW x) (hq : RxQ e x y) : RxW y := by
  obtain ⟨⟨s1, s2, s3, s4, s5, s6⟩, w2, w3, w4⟩ := h
  obtain ⟨q1, q2, q3, q4, q5⟩ := hq
  have hn : tNk (rxX y) ≤ rxB y := by omega
  refine ⟨⟨by rw [q5.nc]; exact s1, by rw [q5.np]; exact s2, by rw [q5.nf]; exact s3, ?_, ?_, by omega⟩, q3, by rw [q1]; exact w3, hn⟩
  · rw [show tNt (rxX y) = tNt (rxX x) from q5.1 0 4 (by decide) (by decide) (by decide) (by decide)]; exact s4
  · rw [show tNa (rxX y) = tNa (rxX x) from q5.1 0 5 (by decide) (by decide) (by decide) (by decide)]; exact s5
theorem m_puts (hF : gFx S) (h26 : hI H 83 26 = nI 0) (hv : hI H 85 16 = nI n) (hn : n < 64) : Nv mX11_puts 1 [.ref 83, vN its, vN v] S H (fun H' => H' = ptH H n its v) := by
  refine vq_intro (by decide) (by exact Nat.le_of_ble_eq_true rfl) rfl ?_
  refine xq_aload_n dX11_puts_0 rfl rfl ?_
  refine xq_getIE (v := nI 0) clX11 (by decide) rfl fl_RX11_182 dX11_puts_1 (Fx.s83 hF) h26 ?_
  refine xq_if_eqN dX11_puts_4 rfl (by omega) ⟨fun h4 => ?_, fun h4 => ?_⟩
  · skip
    refine xq_aload_n dX11_puts_8 rfl rfl ?_
    refine xq_getF clX11 (by decide) rfl fl_RX11_55 dX11_puts_9 (Fx.s83 hF) (Fx.r83_17 hF) ?_
    refine xq_bipush dX11_puts_12 bp64 ?_
    refine xq_aload_n dX11_puts_14 rfl rfl ?_
    refine xq_bipush dX11_puts_15 bp7 ?_
    refine xq_callV1P clX11 gd_X11_fresher dX11_puts_17 ml_RX11_198 im_X11_fresher se_X11_fresher rfl (Fx.s83 hF) (by exact Nat.le_of_ble_eq_true rfl) (by decide) (m_fresher (w := 7) hF hv (by decide)) ?_
    refine xq_iaddN dX11_puts_20 ?_
    refine xq_iload_n dX11_puts_21 rfl rfl ?_
    refine xq_iastN dX11_puts_22 (Fx.s99 hF) (by omega) (by decide) ?_
    refine xq_aload_n dX11_puts_23 rfl rfl ?_
    refine xq_getF clX11 (by decide) rfl fl_RX11_58 dX11_puts_24 (Fx.s83 hF) (Fx.r83_18 hF) ?_
    refine xq_bipush dX11_puts_27 bp64 ?_
    refine xq_aload_n dX11_puts_29 rfl rfl ?_
    refine xq_bipush dX11_puts_30 bp7 ?_
    refine xq_callV1P clX11 gd_X11_fresher dX11_puts_32 ml_RX11_198 im_X11_fresher se_X11_fresher rfl (Fx.s83 hF) (by exact Nat.le_of_ble_eq_true rfl) (by decide) (m_fresher (w := 7) hF (by first | exact hv | (rw [hI_sI, if_neg (by omega)]; exact hv) | (rw [hI_sI, if_neg (by omega), hI_sI, if_neg (by omega)]; exact hv)) (by decide)) ?_
    refine xq_iaddN dX11_puts_35 ?_
    refine xq_iload_n dX11_puts_36 rfl rfl ?_
    refine xq_iastN dX11_puts_37 (Fx.s100 hF) (by omega) (by decide) ?_
    refine xq_aload_n dX11_puts_38 rfl rfl ?_
    refine xq_bipush dX11_puts_39 bp7 ?_
    refine xq_aload_n dX11_puts_41 rfl rfl ?_
    refine xq_bipush dX11_puts_42 bp7 ?_
    refine xq_callV1P clX11 gd_X11_fresher dX11_puts_44 ml_RX11_198 im_X11_fresher se_X11_fresher rfl (Fx.s83 hF) (by exact Nat.le_of_ble_eq_true rfl) (by decide) (m_fresher (w := 7) hF (by first | exact hv | (rw [hI_sI, if_neg (by omega)]; exact hv) | (rw [hI_sI, if_neg (by omega), hI_sI, if_neg (by omega)]; exact hv)) (by decide)) ?_
    refine xq_iconst dX11_puts_47 ic1 ?_
    refine xq_iaddN dX11_puts_48 ?_
    refine xq_callV2N clX11 gd_X11_reads dX11_puts_49 ml_RX11_219 im_X11_reads se_X11_reads rfl (Fx.s83 hF) (by exact Nat.le_of_ble_eq_true rfl) (by decide) (m_reads (w := 7) hF (by decide)) ?_
    intro H49 p49
    subst p49
    refine xq_vret dX11_puts_52 rfl ?_
    exact ⟨_, rfl, rfl⟩
  · skip
    exact absurd rfl h4
theorem m_putsF (hF : gFx S) (h26 : hI H 83 26 = nI c) (hc : 0 < c) (hc2 : c < 100) : Nv mX11_puts 1 [.ref 83, vN its, vN v] S H (fun H' => H' = H) := by
  refine vq_intro (by decide) (by exact Nat.le_of_ble_eq_true rfl) rfl ?_
  refine xq_aload_n dX11_puts_0 rfl rfl ?_
  refine xq_getIE (v := nI c) clX11 (by decide) rfl fl_RX11_182 dX11_puts_1 (Fx.s83 hF) h26 ?_
  refine xq_if_eqN dX11_puts_4 rfl (by omega) ⟨fun h4 => ?_, fun h4 => ?_⟩
  · skip
    exact absurd h4 (by omega)
  · skip
    refine xq_vret dX11_puts_7 rfl ?_
    exact ⟨_, rfl, rfl⟩
theorem m_knotF (hF : gFx S) (h26 : hI H 83 26 = nI c) (hc : 0 < c) (hc2 : c < 100) : Nv mX11_knot 1 [.ref 83] S H (fun H' => H' = H) := by
  refine vq_intro (by decide) (by exact Nat.le_of_ble_eq_true rfl) rfl ?_
  refine xq_aload_n dX11_knot_0 rfl rfl ?_
  refine xq_getIE (v := nI c) clX11 (by decide) rfl fl_RX11_182 dX11_knot_1 (Fx.s83 hF) h26 ?_
  refine xq_if_eqN dX11_knot_4 rfl (by omega) ⟨fun h4 => ?_, fun h4 => ?_⟩
  · skip
    exact absurd h4 (by omega)
  · skip
    refine xq_vret dX11_knot_7 rfl ?_
    exact ⟨_, rfl, rfl⟩
theorem m_knot1 (hF : gFx S) (h26 : hI H 83 26 = nI 0) (hv : hI H 83 31 = nI n) (hn : n < 64) : Nv mX11_knot 1 [.ref 83] S H (fun H' => H' = sI H 83 31 (nI (n + 1))) := by
  refine vq_intro (by decide) (by exact Nat.le_of_ble_eq_true rfl) rfl ?_
  refine xq_aload_n dX11_knot_0 rfl rfl ?_
  refine xq_getIE (v := nI 0) clX11 (by decide) rfl fl_RX11_182 dX11_knot_1 (Fx.s83 hF) h26 ?_
  refine xq_if_eqN dX11_knot_4 rfl (by omega) ⟨fun h4 => ?_, fun h4 => ?_⟩
  · skip
    refine xq_aload_n dX11_knot_8 rfl rfl ?_
    refine xq_getIE clX11 (by decide) rfl fl_RX11_280 dX11_knot_9 (Fx.s83 hF) hv ?_
    refine xq_bipush dX11_knot_12 bp64 ?_
    refine xq_icmp_neN dX11_knot_14 rfl (by omega) (by omega) ⟨fun h14 => ?_, fun h14 => ?_⟩
    · skip
      refine xq_aload_n dX11_knot_25 rfl rfl ?_
      refine xq_dup dX11_knot_26 rfl ?_
      refine xq_getIE clX11 (by decide) rfl fl_RX11_280 dX11_knot_27 (Fx.s83 hF) hv ?_
      refine xq_iconst dX11_knot_30 ic1 ?_
      refine xq_iaddN dX11_knot_31 ?_
      refine xq_putI clX11 (by decide) rfl fl_RX11_280 (Or.inl rfl) dX11_knot_32 ⟨rfl, rfl⟩ (Fx.s83 hF) ?_
      refine xq_vret dX11_knot_35 rfl ?_
      exact ⟨_, rfl, rfl⟩
    · skip
      exact absurd h14 (by omega)
  · skip
    exact absurd rfl h4
theorem m_knot0 (hF : gFx S) (h26 : hI H 83 26 = nI 0) (hm : MtP S H bt ln s j) (hv : hI H 83 31 = nI n) (hn : n = 64) : Nv mX11_knot 1 [.ref 83] S H (fun H' => MfQ H H' s j 2) := by
  refine vq_intro (by decide) (by exact Nat.le_of_ble_eq_true rfl) rfl ?_
  refine xq_aload_n dX11_knot_0 rfl rfl ?_
  refine xq_getIE (v := nI 0) clX11 (by decide) rfl fl_RX11_182 dX11_knot_1 (Fx.s83 hF) h26 ?_
  refine xq_if_eqN dX11_knot_4 rfl (by omega) ⟨fun h4 => ?_, fun h4 => ?_⟩
  · skip
    refine xq_aload_n dX11_knot_8 rfl rfl ?_
    refine xq_getIE clX11 (by decide) rfl fl_RX11_280 dX11_knot_9 (Fx.s83 hF) hv ?_
    refine xq_bipush dX11_knot_12 bp64 ?_
    refine xq_icmp_neN dX11_knot_14 rfl (by omega) (by omega) ⟨fun h14 => ?_, fun h14 => ?_⟩
    · skip
      exact absurd hn h14
    · skip
      refine xq_aload_n dX11_knot_17 rfl rfl ?_
      refine xq_iconst dX11_knot_18 ic2 ?_
      refine xq_callV1N clX11 gd_X11_wrong dX11_knot_19 ml_RX11_191 im_X11_wrong se_X11_wrong rfl (Fx.s83 hF) (by exact Nat.le_of_ble_eq_true rfl) (by decide) (m_wrong0 hF h26 hm.pl) ?_
      intro H19 p19
      subst p19
      refine xq_goto dX11_knot_22 rfl ?_
      refine xq_vret dX11_knot_35 rfl ?_
      exact ⟨_, ⟨by rw [hI_sI, if_neg (by omega), hI_sI, if_pos ⟨rfl, rfl⟩], by rw [hI_sI, if_pos ⟨rfl, rfl⟩], (MoF.pF (A := (fun q => q = 83)) (F := (fun k => k = 26 ∨ k = 27)) (MoF.pF (A := (fun q => q = 83)) (F := (fun k => k = 26 ∨ k = 27)) (H := H) (H2 := H) (k := 26) MoF.rf rfl (by decide) _) rfl (by decide) _)⟩, rfl⟩
  · skip
    exact absurd rfl h4
theorem m_plainF (hF : gFx S) (h26 : hI H 83 26 = nI c) (hc : 0 < c) (hc2 : c < 100) : Nv mX11_plain 1 [.ref 83] S H (fun H' => H' = H) := by
  refine vq_intro (by decide) (by exact Nat.le_of_ble_eq_true rfl) rfl ?_
  refine xq_aload_n dX11_plain_0 rfl rfl ?_
  refine xq_getIE (v := nI c) clX11 (by decide) rfl fl_RX11_182 dX11_plain_1 (Fx.s83 hF) h26 ?_
  refine xq_if_eqN dX11_plain_4 rfl (by omega) ⟨fun h4 => ?_, fun h4 => ?_⟩
  · skip
    exact absurd h4 (by omega)
  · skip
    refine xq_vret dX11_plain_7 rfl ?_
    exact ⟨_, rfl, rfl⟩
theorem m_unlessF (hF : gFx S) (h26 : hI H 83 26 = nI c) (hc : 0 < c) (hc2 : c < 100) : Nv mX11_unless 3 [.ref 83] S H (fun H' => H' = H) := by
  refine vq_intro (by decide) (by exact Nat.le_of_ble_eq_true rfl) rfl ?_
  refine xq_aload_n dX11_unless_0 rfl rfl ?_
  refine xq_bipush dX11_unless_1 bp13 ?_
  refine xq_callV1P clX11 gd_X11_isWord dX11_unless_3 ml_RX11_259 im_X11_isWord se_X11_isWord rfl (Fx.s83 hF) (by exact Nat.le_of_ble_eq_true rfl) (by omega) (m_isWord1 hF h26 hc hc2) ?_
  refine xq_if_neB dX11_unless_6 rfl ⟨fun h6 => ?_, fun h6 => ?_⟩
  · skip
    cases h6
  · skip
    refine xq_aload_n dX11_unless_9 rfl rfl ?_
    refine xq_callV0N clX11 gd_X11_plain dX11_unless_10 ml_RX11_271 im_X11_plain se_X11_plain rfl (Fx.s83 hF) (by exact Nat.le_of_ble_eq_true rfl) (by omega) (m_plainF hF h26 hc hc2) ?_
    intro H10 p10
    subst p10
    refine xq_vret dX11_unless_13 rfl ?_
    exact ⟨_, rfl, rfl⟩
theorem m_bothsF (hF : gFx S) (h26 : hI H 83 26 = nI c) (hc : 0 < c) (hc2 : c < 100) : Nv mX11_boths 4 [.ref 83] S H (fun H' => H' = H) := by
  refine vq_intro (by decide) (by exact Nat.le_of_ble_eq_true rfl) rfl ?_
  refine xq_aload_n dX11_boths_0 rfl rfl ?_
  refine xq_callV0N clX11 gd_X11_unless dX11_boths_1 ml_RX11_268 im_X11_unless se_X11_unless rfl (Fx.s83 hF) (by exact Nat.le_of_ble_eq_true rfl) (by omega) (m_unlessF hF h26 hc hc2) ?_
  intro H1 p1
  subst p1
  refine xq_aload_n dX11_boths_4 rfl rfl ?_
  refine xq_bipush dX11_boths_5 bp12 ?_
  refine xq_callV1P clX11 gd_X11_isWord dX11_boths_7 ml_RX11_259 im_X11_isWord se_X11_isWord rfl (Fx.s83 hF) (by exact Nat.le_of_ble_eq_true rfl) (by omega) (m_isWord1 hF h26 hc hc2) ?_
  refine xq_if_eqB dX11_boths_10 rfl ⟨fun h10 => ?_, fun h10 => ?_⟩
  · skip
    refine xq_vret dX11_boths_36 rfl ?_
    exact ⟨_, rfl, rfl⟩
  · skip
    cases h10
theorem m_eithersF (hF : gFx S) (h26 : hI H 83 26 = nI c) (hc : 0 < c) (hc2 : c < 100) : Nv mX11_eithers 5 [.ref 83] S H (fun H' => H' = H) := by
  refine vq_intro (by decide) (by exact Nat.le_of_ble_eq_true rfl) rfl ?_
  refine xq_aload_n dX11_eithers_0 rfl rfl ?_
  refine xq_callV0N clX11 gd_X11_boths dX11_eithers_1 ml_RX11_256 im_X11_boths se_X11_boths rfl (Fx.s83 hF) (by exact Nat.le_of_ble_eq_true rfl) (by omega) (m_bothsF hF h26 hc hc2) ?_
  intro H1 p1
  subst p1
  refine xq_aload_n dX11_eithers_4 rfl rfl ?_
  refine xq_bipush dX11_eithers_5 bp11 ?_
  refine xq_callV1P clX11 gd_X11_isWord dX11_eithers_7 ml_RX11_259 im_X11_isWord se_X11_isWord rfl (Fx.s83 hF) (by exact Nat.le_of_ble_eq_true rfl) (by omega) (m_isWord1 hF h26 hc hc2) ?_
  refine xq_if_eqB dX11_eithers_10 rfl ⟨fun h10 => ?_, fun h10 => ?_⟩
  · skip
    refine xq_vret dX11_eithers_36 rfl ?_
    exact ⟨_, rfl, rfl⟩
  · skip
    cases h10
theorem m_primaryF (hF : gFx S) (h26 : hI H 83 26 = nI c) (hc : 0 < c) (hc2 : c < 100) : Nv mX11_primary 1 [.ref 83] S H (fun H' => H' = H) := by
  refine vq_intro (by decide) (by exact Nat.le_of_ble_eq_true rfl) rfl ?_
  refine xq_aload_n dX11_primary_0 rfl rfl ?_
  refine xq_getIE (v := nI c) clX11 (by decide) rfl fl_RX11_182 dX11_primary_1 (Fx.s83 hF) h26 ?_
  refine xq_if_eqN dX11_primary_4 rfl (by omega) ⟨fun h4 => ?_, fun h4 => ?_⟩
  · skip
    exact absurd h4 (by omega)
  · skip
    refine xq_vret dX11_primary_7 rfl ?_
    exact ⟨_, rfl, rfl⟩
theorem m_productF (hF : gFx S) (h26 : hI H 83 26 = nI c) (hc : 0 < c) (hc2 : c < 100) : Nv mX11_product 3 [.ref 83] S H (fun H' => H' = H) := by
  refine vq_intro (by decide) (by exact Nat.le_of_ble_eq_true rfl) rfl ?_
  refine xq_aload_n dX11_product_0 rfl rfl ?_
  refine xq_callV0N clX11 gd_X11_primary dX11_product_1 ml_RX11_295 im_X11_primary se_X11_primary rfl (Fx.s83 hF) (by exact Nat.le_of_ble_eq_true rfl) (by omega) (m_primaryF hF h26 hc hc2) ?_
  intro H1 p1
  subst p1
  refine xq_aload_n dX11_product_4 rfl rfl ?_
  refine xq_bipush dX11_product_5 bp42 ?_
  refine xq_callV1P clX11 gd_X11_isSign dX11_product_7 ml_RX11_241 im_X11_isSign se_X11_isSign rfl (Fx.s83 hF) (by exact Nat.le_of_ble_eq_true rfl) (by omega) (m_isSign1 hF h26 hc hc2) ?_
  refine xq_if_neB dX11_product_10 rfl ⟨fun h10 => ?_, fun h10 => ?_⟩
  · skip
    cases h10
  · skip
    refine xq_aload_n dX11_product_13 rfl rfl ?_
    refine xq_bipush dX11_product_14 bp47 ?_
    refine xq_callV1P clX11 gd_X11_isSign dX11_product_16 ml_RX11_241 im_X11_isSign se_X11_isSign rfl (Fx.s83 hF) (by exact Nat.le_of_ble_eq_true rfl) (by omega) (m_isSign1 hF h26 hc hc2) ?_
    refine xq_if_eqB dX11_product_19 rfl ⟨fun h19 => ?_, fun h19 => ?_⟩
    · skip
      refine xq_vret dX11_product_48 rfl ?_
      exact ⟨_, rfl, rfl⟩
    · skip
      cases h19
theorem m_sumF (hF : gFx S) (h26 : hI H 83 26 = nI c) (hc : 0 < c) (hc2 : c < 100) : Nv mX11_sum 4 [.ref 83] S H (fun H' => H' = H) := by
  refine vq_intro (by decide) (by exact Nat.le_of_ble_eq_true rfl) rfl ?_
  refine xq_aload_n dX11_sum_0 rfl rfl ?_
  refine xq_callV0N clX11 gd_X11_product dX11_sum_1 ml_RX11_292 im_X11_product se_X11_product rfl (Fx.s83 hF) (by exact Nat.le_of_ble_eq_true rfl) (by omega) (m_productF hF h26 hc hc2) ?_
  intro H1 p1
  subst p1
  refine xq_aload_n dX11_sum_4 rfl rfl ?_
  refine xq_bipush dX11_sum_5 bp43 ?_
  refine xq_callV1P clX11 gd_X11_isSign dX11_sum_7 ml_RX11_241 im_X11_isSign se_X11_isSign rfl (Fx.s83 hF) (by exact Nat.le_of_ble_eq_true rfl) (by omega) (m_isSign1 hF h26 hc hc2) ?_
  refine xq_if_neB dX11_sum_10 rfl ⟨fun h10 => ?_, fun h10 => ?_⟩
  · skip
    cases h10
  · skip
    refine xq_aload_n dX11_sum_13 rfl rfl ?_
    refine xq_bipush dX11_sum_14 bp45 ?_
    refine xq_callV1P clX11 gd_X11_isSign dX11_sum_16 ml_RX11_241 im_X11_isSign se_X11_isSign rfl (Fx.s83 hF) (by exact Nat.le_of_ble_eq_true rfl) (by omega) (m_isSign1 hF h26 hc hc2) ?_
    refine xq_if_eqB dX11_sum_19 rfl ⟨fun h19 => ?_, fun h19 => ?_⟩
    · skip
      refine xq_vret dX11_sum_48 rfl ?_
      exact ⟨_, rfl, rfl⟩
    · skip
      cases h19
theorem m_negationF (hF : gFx S) (h26 : hI H 83 26 = nI c) (hc : 0 < c) (hc2 : c < 100) : Nv mX11_negation 5 [.ref 83] S H (fun H' => H' = H) := by
  refine vq_intro (by decide) (by exact Nat.le_of_ble_eq_true rfl) rfl ?_
  refine xq_aload_n dX11_negation_0 rfl rfl ?_
  refine xq_bipush dX11_negation_1 bp13 ?_
  refine xq_callV1P clX11 gd_X11_isWord dX11_negation_3 ml_RX11_259 im_X11_isWord se_X11_isWord rfl (Fx.s83 hF) (by exact Nat.le_of_ble_eq_true rfl) (by omega) (m_isWord1 hF h26 hc hc2) ?_
  refine xq_if_eqB dX11_negation_6 rfl ⟨fun h6 => ?_, fun h6 => ?_⟩
  · skip
    refine xq_aload_n dX11_negation_30 rfl rfl ?_
    refine xq_callV0N clX11 gd_X11_sum dX11_negation_31 ml_RX11_289 im_X11_sum se_X11_sum rfl (Fx.s83 hF) (by exact Nat.le_of_ble_eq_true rfl) (by omega) (m_sumF hF h26 hc hc2) ?_
    intro H31 p31
    subst p31
    refine xq_aload_n dX11_negation_34 rfl rfl ?_
    refine xq_getIE (v := nI c) clX11 (by decide) rfl fl_RX11_182 dX11_negation_35 (Fx.s83 hF) h26 ?_
    refine xq_if_neN dX11_negation_38 rfl (by omega) ⟨fun h38 => ?_, fun h38 => ?_⟩
    · skip
      refine xq_vret dX11_negation_86 rfl ?_
      exact ⟨_, rfl, rfl⟩
    · skip
      exact absurd h38 (by omega)
  · skip
    cases h6
theorem m_conjunctionF (hF : gFx S) (h26 : hI H 83 26 = nI c) (hc : 0 < c) (hc2 : c < 100) : Nv mX11_conjunction 6 [.ref 83] S H (fun H' => H' = H) := by
  refine vq_intro (by decide) (by exact Nat.le_of_ble_eq_true rfl) rfl ?_
  refine xq_aload_n dX11_conjunction_0 rfl rfl ?_
  refine xq_callV0N clX11 gd_X11_negation dX11_conjunction_1 ml_RX11_286 im_X11_negation se_X11_negation rfl (Fx.s83 hF) (by exact Nat.le_of_ble_eq_true rfl) (by omega) (m_negationF hF h26 hc hc2) ?_
  intro H1 p1
  subst p1
  refine xq_aload_n dX11_conjunction_4 rfl rfl ?_
  refine xq_bipush dX11_conjunction_5 bp12 ?_
  refine xq_callV1P clX11 gd_X11_isWord dX11_conjunction_7 ml_RX11_259 im_X11_isWord se_X11_isWord rfl (Fx.s83 hF) (by exact Nat.le_of_ble_eq_true rfl) (by omega) (m_isWord1 hF h26 hc hc2) ?_
  refine xq_if_eqB dX11_conjunction_10 rfl ⟨fun h10 => ?_, fun h10 => ?_⟩
  · skip
    refine xq_vret dX11_conjunction_36 rfl ?_
    exact ⟨_, rfl, rfl⟩
  · skip
    cases h10
theorem m_expressionF (hF : gFx S) (h26 : hI H 83 26 = nI c) (hc : 0 < c) (hc2 : c < 100) : Nv mX11_expression 7 [.ref 83] S H (fun H' => H' = H) := by
  refine vq_intro (by decide) (by exact Nat.le_of_ble_eq_true rfl) rfl ?_
  refine xq_aload_n dX11_expression_0 rfl rfl ?_
  refine xq_callV0N clX11 gd_X11_conjunction dX11_expression_1 ml_RX11_283 im_X11_conjunction se_X11_conjunction rfl (Fx.s83 hF) (by exact Nat.le_of_ble_eq_true rfl) (by omega) (m_conjunctionF hF h26 hc hc2) ?_
  intro H1 p1
  subst p1
  refine xq_aload_n dX11_expression_4 rfl rfl ?_
  refine xq_bipush dX11_expression_5 bp11 ?_
  refine xq_callV1P clX11 gd_X11_isWord dX11_expression_7 ml_RX11_259 im_X11_isWord se_X11_isWord rfl (Fx.s83 hF) (by exact Nat.le_of_ble_eq_true rfl) (by omega) (m_isWord1 hF h26 hc hc2) ?_
  refine xq_if_eqB dX11_expression_10 rfl ⟨fun h10 => ?_, fun h10 => ?_⟩
  · skip
    refine xq_vret dX11_expression_36 rfl ?_
    exact ⟨_, rfl, rfl⟩
  · skip
    cases h10
end MK
