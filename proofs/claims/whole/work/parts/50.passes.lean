/-! ===== the reference: an hour goes by ===== -/
section PS
variable {S : xS} {H H1 H2 H3 : xH} {T : uTx} {N : Nat → Nat → Nat} {s a b c w p q n i j k x y m l f odds : Nat} {lf fb : Nat → Bool} {u v : uSt} {ow mu : Int} {dr : Bool} {A F : Nat → Prop}
theorem RmP.li2 (h : RmP H T s lf u) (y : Nat) : RmP (sI H 107 s (nI y)) T s lf (uSetF u 9 y) := ⟨h.lf, h.hr, h.la, h.hd, by rw [hI_sI, if_pos ⟨rfl, rfl⟩]; rfl, h.sd, h.se, h.pz⟩
theorem RmP.hr2 (h : RmP H T s lf u) (y : Nat) : RmP (sI H 104 s (nI y)) T s lf (uSetF u 10 y) := ⟨h.lf, by rw [hI_sI, if_pos ⟨rfl, rfl⟩]; rfl, h.la, h.hd, h.li, h.sd, h.se, h.pz⟩
theorem DyQ.one {q0 : Nat} {z : Int32} (h : DyQ H H1 T s lf u) (h1 : 104 ≤ q0) (h2 : q0 ≤ 108) (hr : RmP (sI H1 q0 s z) T s lf v) (hl : LfR T lf v) : DyQ H (sI H1 q0 s z) T s lf v := by
  refine ⟨hr, hl, fun s' hs' => (h.2.2.1 s' hs').tr ⟨fun _ _ => by rw [hI_sI, if_neg (by omega)], fun q a b => by rw [hI_sI, if_neg (fun e => hs' e.2)], fun _ _ => ⟨by rw [hI_sI, if_neg (by omega)], by rw [hI_sI, if_neg (by omega)]⟩⟩, MoF.pI h.2.2.2 (by omega) (by omega) _ _⟩
theorem uSetF_self (u : uSt) (k : Nat) : uSetF u k (uF u k) = u := by
  unfold uSetF uF
  obtain ⟨a, b, c⟩ := u
  congr 2
  funext j
  by_cases e : j = k <;> simp [e]
theorem uSetF_2 (u : uSt) (k x y : Nat) : uSetF (uSetF u k x) k y = uSetF u k y := by
  unfold uSetF
  congr 2
  funext j
  by_cases e : j = k <;> simp [e]
noncomputable def pIt (T : uTx) (dr : Bool) (ow mu : Int) (u : uSt) : Nat → uSt
  | 0 => u
  | n + 1 => pOne T dr ow mu (pIt T dr ow mu u n)
theorem fo_id {α : Type} {g : Nat → α → α} {x : α} : ∀ {n : Nat}, (∀ k, k < n → g k x = x) → fo g x n = x
  | 0, _ => rfl
  | n + 1, h => by
    show g n (fo g x n) = x
    rw [fo_id (fun k hk => h k (by omega)), h n (by omega)]
theorem pOne_late (tk : TxOk T) (h : 99 < uHr u) : pOne T dr ow mu u = uSetF u 10 (uHr u + 1) := by
  have e1 : tFo T ow u (tNt T) = u := by
    unfold tFo
    split
    · rfl
    · refine fo_id (fun k hk => ?_)
      have := (tk.te k hk).2
      unfold tSt1
      rw [if_neg (by omega)]
  have e2 : pMid T dr ow mu u = u := by
    unfold pMid
    rw [e1]
    refine fo_id (fun k hk => ?_)
    have := tk.as k hk
    unfold aSt1
    rw [if_neg (by omega)]
  unfold pOne
  rw [e2]
theorem pIt_pas (ok : StOk u) (tk : TxOk T) : ∀ n, uHd u + 12 * n ≤ 100000000 → uLi u + 12 * n ≤ 100000000 → pIt T dr ow mu u n = pas T dr ow mu u n
  | 0, _, _ => by
    show u = uSetF u 10 (uHr u + 0)
    exact (uSetF_self u 10).symm
  | n + 1, h1, h2 => by
    have ih := pIt_pas ok tk n (by omega) (by omega)
    have g := pLo_ok (T := T) (dr := dr) (ow := ow) (mu := mu) ok tk n (by omega) (by omega)
    show pOne T dr ow mu (pIt T dr ow mu u n) = _
    rw [ih]
    unfold pas
    show _ = uSetF (if uHr (pLo T dr ow mu u n) ≤ 99 then pOne T dr ow mu (pLo T dr ow mu u n) else pLo T dr ow mu u n) 10 (uHr u + (n + 1))
    by_cases e : uHr (pLo T dr ow mu u n) ≤ 99
    · have e2 : uHr (pLo T dr ow mu u n) = uHr u + n := by rcases g.2 with z | z <;> omega
      rw [if_pos e, ← e2, show uSetF (pLo T dr ow mu u n) 10 (uHr (pLo T dr ow mu u n)) = pLo T dr ow mu u n from uSetF_self _ _]
      unfold pOne
      rw [uSetF_2]
      congr 1
      omega
    · rw [if_neg e, pOne_late tk (u := uSetF (pLo T dr ow mu u n) 10 (uHr u + n)) (by show 99 < uHr u + n; rcases g.2 with z | z <;> omega), uSetF_2]
      rfl
theorem m_passes (hs : MsP S H T N) (hr : RmP H T s lf u) (hlr : LfR T lf u) (ok : StOk u) (h23 : s < 23) (htw : TwP H ow mu) (how : -1 ≤ ow ∧ ow ≤ 4) (hmu : -1 ≤ mu ∧ mu < 6) (hh1 : uHd u + 12 ≤ 100000000) (hh2 : uLi u + 12 ≤ 100000000) : Nv mX11_passes 7 [.ref 83, vN s, vB dr] S H (fun H' => ∃ lf2, DyQ H H' T s lf2 (pOne T dr ow mu u)) := by
  have hF := hs.fx; have hx := hs.mx; have hw := hs.mw; have tk := hs.tk; have tw := hs.tw; have hnp := tw.2.1; have hnc := tw.1; have hWn := nW_le tw; have hnt12 := tk.nt; have hna12 := tk.na; have htl := twN_lt how; have hhr := ok.hr
  have l2 : ∀ (fz : Nat) (k : Nat) (v : uSt) (lf1 : Nat → Bool) (H1 : xH), tNa T - k < fz → k ≤ tNa T → v = fo (aSt1 T dr ow mu) (tFo T ow u (tNt T)) k → DyQ H H1 T s lf1 v → Xq mX11_passes 7 0 0 67 [some (.ref 83), some (vN s), some (vB dr), some (vN k)] [] S H1 (fun R => ∃ H', (fun H' => ∃ lf2, DyQ H H' T s lf2 (pOne T dr ow mu u)) H' ∧ R = (none, S, H')) := by
    intro fz
    induction fz with
    | zero => intro k  v  lf1  H1  hfz; exact absurd hfz (by omega)
    | succ fz ih =>
      intro k  v  lf1  H1  hfz hi hv hd
      have hs1 := hs.dy hd; have hx1 := hs1.mx; have hr1 := hd.1; have hl1 := hd.2.1; have htw1 := htw.off hd.2.2.2 (by omega) (by omega)
      have gt : Gro u (tFo T ow u (tNt T)) 12 := by
        unfold tFo; split
        · exact ⟨ok, rfl, rfl, by omega, by omega⟩
        · have g0 := tFo_gro (T := T) ok (tNt T) (by omega) (by omega)
          exact ⟨g0.1, g0.2.1, g0.2.2.1, by have := g0.2.2.2.1; omega, by have := g0.2.2.2.2; omega⟩
      have gv : Gro u v 12 := by
        rw [hv]; exact gt.tr (aFo_gro gt.1 k)
      have okv := gv.1; have ghr := gv.2.1
      refine xq_iload_n dX11_passes_67 rfl rfl ?_
      refine xq_aload_n dX11_passes_68 rfl rfl ?_
      refine xq_getF clX11 (by decide) rfl fl_RX11_13 dX11_passes_69 (Fx.s83 hF) (Fx.r83_3 hF) ?_
      refine xq_iconst dX11_passes_72 ic4 ?_
      refine xq_ialdN dX11_passes_73 (Fx.s85 hF) (by omega) (by decide) hx1.na ?_
      refine xq_icmp_geN dX11_passes_74 rfl (by omega) (by omega) ⟨fun h74 => ?_, fun h74 => ?_⟩
      · skip
        refine xq_aload_n dX11_passes_105 rfl rfl ?_
        refine xq_getF clX11 (by decide) rfl fl_RX11_75 dX11_passes_106 (Fx.s83 hF) (Fx.r83_38 hF) ?_
        refine xq_iload_n dX11_passes_109 rfl rfl ?_
        refine xq_dup2 dX11_passes_110 rfl rfl ?_
        refine xq_ialdN dX11_passes_111 (Fx.s104 hF) (by omega) (by decide) hr1.hr ?_
        refine xq_iconst dX11_passes_112 ic1 ?_
        refine xq_iaddN dX11_passes_113 ?_
        refine xq_iastN dX11_passes_114 (Fx.s104 hF) (by omega) (by decide) ?_
        refine xq_vret dX11_passes_115 rfl ?_
        have ek : k = tNa T := by omega
        refine ⟨_, ⟨lf1, ?_⟩, rfl⟩
        have e : pOne T dr ow mu u = uSetF v 10 (uHr v + 1) := by unfold pOne pMid; rw [← ek, ← hv, ghr]
        rw [e]
        exact hd.one (by decide) (by decide) (hr1.hr2 _) (hl1.sf (by decide) (by decide) _)
      · skip
        have hte := tk.as k h74
        refine xq_aload_n dX11_passes_77 rfl rfl ?_
        refine xq_getF clX11 (by decide) rfl fl_RX11_46 dX11_passes_78 (Fx.s83 hF) (Fx.r83_14 hF) ?_
        refine xq_iload_n dX11_passes_81 rfl rfl ?_
        refine xq_ialdN dX11_passes_82 (Fx.s96 hF) (by omega) (by decide) (hx1.as k h74) ?_
        refine xq_aload_n dX11_passes_83 rfl rfl ?_
        refine xq_getF clX11 (by decide) rfl fl_RX11_75 dX11_passes_84 (Fx.s83 hF) (Fx.r83_38 hF) ?_
        refine xq_iload_n dX11_passes_87 rfl rfl ?_
        refine xq_ialdN dX11_passes_88 (Fx.s104 hF) (by omega) (by decide) hr1.hr ?_
        refine xq_icmp_neN dX11_passes_89 rfl (by omega) (by omega) ⟨fun h89 => ?_, fun h89 => ?_⟩
        · skip
          refine xq_iincN dX11_passes_99 ic1 rfl rfl ?_
          refine xq_goto dX11_passes_102 rfl ?_
          exact xq_fgt (ih (k + 1) v lf1 H1 (by omega) (by omega) (by show v = aSt1 T dr ow mu k (fo (aSt1 T dr ow mu) (tFo T ow u (tNt T)) k); rw [← hv]; exact (if_neg h89).symm) hd) (by exact And.intro rfl (And.intro rfl (And.intro rfl (And.intro rfl (trivial)))))
        · skip
          refine xq_aload_n dX11_passes_92 rfl rfl ?_
          refine xq_iload_n dX11_passes_93 rfl rfl ?_
          refine xq_iload_n dX11_passes_94 rfl rfl ?_
          refine xq_callV2H clX11 gd_X11_asks dX11_passes_95 ml_RX11_452 im_X11_asks se_X11_asks rfl (Fx.s83 hF) (by exact Nat.le_of_ble_eq_true rfl) (by decide) (m_asks hs1 hr1 hl1 okv h23 htw1 how hmu) ?_
          intro x95 H95 p95
          refine xq_pop dX11_passes_98 rfl ?_
          refine xq_iincN dX11_passes_99 ic1 rfl rfl ?_
          refine xq_goto dX11_passes_102 rfl ?_
          obtain ⟨e95, lf2, q95⟩ := p95
          exact xq_fgt (ih (k + 1) _ lf2 H95 (by omega) (by omega) (by show _ = aSt1 T dr ow mu k (fo (aSt1 T dr ow mu) (tFo T ow u (tNt T)) k); rw [← hv]; exact (if_pos h89).symm) (hd.tr q95)) (by exact And.intro rfl (And.intro rfl (And.intro rfl (And.intro rfl (trivial)))))
  have l1 : ∀ (fz : Nat) (k : Nat) (v : uSt) (lf1 : Nat → Bool) (H1 : xH), tNt T - k < fz → k ≤ tNt T → v = tFo T ow u k → DyQ H H1 T s lf1 v → Xq mX11_passes 7 0 0 2 [some (.ref 83), some (vN s), some (vB dr), some (vN k)] [] S H1 (fun R => ∃ H', (fun H' => ∃ lf2, DyQ H H' T s lf2 (pOne T dr ow mu u)) H' ∧ R = (none, S, H')) := by
    intro fz
    induction fz with
    | zero => intro k  v  lf1  H1  hfz; exact absurd hfz (by omega)
    | succ fz ih =>
      intro k  v  lf1  H1  hfz hi hv hd
      have hs1 := hs.dy hd; have hx1 := hs1.mx; have hr1 := hd.1; have hl1 := hd.2.1; have htw1 := htw.off hd.2.2.2 (by omega) (by omega)
      have gv : Gro u v k := by
        rw [hv]; unfold tFo; split
        · exact ⟨ok, rfl, rfl, by omega, by omega⟩
        · exact tFo_gro ok k (by omega) (by omega)
      have okv := gv.1; have ghr := gv.2.1; have ghd := gv.2.2.2.1; have gli := gv.2.2.2.2
      refine xq_iload_n dX11_passes_2 rfl rfl ?_
      refine xq_aload_n dX11_passes_3 rfl rfl ?_
      refine xq_getF clX11 (by decide) rfl fl_RX11_13 dX11_passes_4 (Fx.s83 hF) (Fx.r83_3 hF) ?_
      refine xq_iconst dX11_passes_7 ic3 ?_
      refine xq_ialdN dX11_passes_8 (Fx.s85 hF) (by omega) (by decide) hx1.nt ?_
      refine xq_icmp_geN dX11_passes_9 rfl (by omega) (by omega) ⟨fun h9 => ?_, fun h9 => ?_⟩
      · skip
        refine xq_iconst dX11_passes_65 ic0 ?_
        refine xq_istore_n dX11_passes_66 rfl rfl ?_
        have hv3 : v = tFo T ow u (tNt T) := by
          unfold tFo at hv ⊢
          by_cases e3 : ow = 3
          · rw [if_pos e3] at hv ⊢; exact hv
          · rw [if_neg e3] at hv ⊢
            have : k = tNt T := by
              first | omega | exact absurd ((twN_eq how).2.2.2.mp h17) e3
            rw [← this]; exact hv
        exact l2 (tNa T + 1) 0 v lf1 H1 (by omega) (by omega) hv3 hd
      · skip
        refine xq_aload_n dX11_passes_12 rfl rfl ?_
        refine xq_getIE clX11 (by decide) rfl fl_RX11_431 dX11_passes_13 (Fx.s83 hF) htw1.1 ?_
        refine xq_iconst dX11_passes_16 ic3 ?_
        refine xq_icmp_eqN dX11_passes_17 rfl (by omega) (by omega) ⟨fun h17 => ?_, fun h17 => ?_⟩
        · skip
          refine xq_iconst dX11_passes_65 ic0 ?_
          refine xq_istore_n dX11_passes_66 rfl rfl ?_
          have hv3 : v = tFo T ow u (tNt T) := by
            unfold tFo at hv ⊢
            by_cases e3 : ow = 3
            · rw [if_pos e3] at hv ⊢; exact hv
            · rw [if_neg e3] at hv ⊢
              have : k = tNt T := by
                first | omega | exact absurd ((twN_eq how).2.2.2.mp h17) e3
              rw [← this]; exact hv
          exact l2 (tNa T + 1) 0 v lf1 H1 (by omega) (by omega) hv3 hd
        · skip
          have hte := tk.te k h9
          refine xq_aload_n dX11_passes_20 rfl rfl ?_
          refine xq_getF clX11 (by decide) rfl fl_RX11_43 dX11_passes_21 (Fx.s83 hF) (Fx.r83_13 hF) ?_
          refine xq_iload_n dX11_passes_24 rfl rfl ?_
          refine xq_ialdN dX11_passes_25 (Fx.s95 hF) (by omega) (by decide) ((hx1.te k h9).2) ?_
          refine xq_aload_n dX11_passes_26 rfl rfl ?_
          refine xq_getF clX11 (by decide) rfl fl_RX11_75 dX11_passes_27 (Fx.s83 hF) (Fx.r83_38 hF) ?_
          refine xq_iload_n dX11_passes_30 rfl rfl ?_
          refine xq_ialdN dX11_passes_31 (Fx.s104 hF) (by omega) (by decide) hr1.hr ?_
          refine xq_icmp_neN dX11_passes_32 rfl (by omega) (by omega) ⟨fun h32 => ?_, fun h32 => ?_⟩
          · skip
            refine xq_iincN dX11_passes_59 ic1 rfl rfl ?_
            refine xq_goto dX11_passes_62 rfl ?_
            have hnw : ow ≠ 3 := fun z => h17 ((twN_eq how).2.2.2.mpr z)
            have hv2 : tFo T ow u (k + 1) = tSt1 T k v := by rw [hv]; unfold tFo; rw [if_neg hnw, if_neg hnw]; rfl
            have e : tSt1 T k v = v := if_neg h32
            exact xq_fgt (ih (k + 1) v lf1 H1 (by omega) (by omega) (by rw [hv2, e]) hd) (by exact And.intro rfl (And.intro rfl (And.intro rfl (And.intro rfl (trivial)))))
          · skip
            refine xq_aload_n dX11_passes_35 rfl rfl ?_
            refine xq_iload_n dX11_passes_36 rfl rfl ?_
            refine xq_aload_n dX11_passes_37 rfl rfl ?_
            refine xq_getF clX11 (by decide) rfl fl_RX11_40 dX11_passes_38 (Fx.s83 hF) (Fx.r83_12 hF) ?_
            refine xq_iload_n dX11_passes_41 rfl rfl ?_
            refine xq_ialdN dX11_passes_42 (Fx.s94 hF) (by omega) (by decide) ((hx1.te k h9).1) ?_
            refine xq_callV2H clX11 gd_X11_tells dX11_passes_43 ml_RX11_449 im_X11_tells se_X11_tells rfl (Fx.s83 hF) (by exact Nat.le_of_ble_eq_true rfl) (by decide) (m_tells hs1 hr1 hl1 okv h23 hte.1) ?_
            intro x43 H43 p43
            obtain ⟨e43, q43⟩ := p43
            refine xq_if_neB dX11_passes_46 rfl ⟨fun h46 => ?_, fun h46 => ?_⟩
            · skip
              refine xq_iincN dX11_passes_59 ic1 rfl rfl ?_
              refine xq_goto dX11_passes_62 rfl ?_
              have hnw : ow ≠ 3 := fun z => h17 ((twN_eq how).2.2.2.mpr z)
              have hv2 : tFo T ow u (k + 1) = tSt1 T k v := by rw [hv]; unfold tFo; rw [if_neg hnw, if_neg hnw]; rfl
              obtain ⟨lf2, q43⟩ := q43
              have e : tSt1 T k v = hea T v (tTf T k) := by
                unfold tSt1 hea
                rw [if_pos h32]
                rw [e43] at h46
                rw [if_pos h46, if_pos h46]
              exact xq_fgt (ih (k + 1) _ lf2 H43 (by omega) (by omega) (by rw [hv2, e]) (hd.tr q43)) (by exact And.intro rfl (And.intro rfl (And.intro rfl (And.intro rfl (trivial)))))
            · skip
              have hli2 : hI H43 107 s = nI (uLi v) := by
                obtain ⟨lf2, q43⟩ := q43
                have e43b := e43.symm.trans h46
                have eh : hea T v (tTf T k) = v := if_neg (by rw [e43b]; decide)
                rw [eh] at q43
                exact q43.1.li
              refine xq_aload_n dX11_passes_49 rfl rfl ?_
              refine xq_getF clX11 (by decide) rfl fl_RX11_84 dX11_passes_50 (Fx.s83 hF) (Fx.r83_41 hF) ?_
              refine xq_iload_n dX11_passes_53 rfl rfl ?_
              refine xq_dup2 dX11_passes_54 rfl rfl ?_
              refine xq_ialdN (v := nI (uLi v)) dX11_passes_55 (Fx.s107 hF) (by omega) (by decide) hli2 ?_
              refine xq_iconst dX11_passes_56 ic1 ?_
              refine xq_iaddN dX11_passes_57 ?_
              refine xq_iastN dX11_passes_58 (Fx.s107 hF) (by omega) (by decide) ?_
              refine xq_iincN dX11_passes_59 ic1 rfl rfl ?_
              refine xq_goto dX11_passes_62 rfl ?_
              have hnw : ow ≠ 3 := fun z => h17 ((twN_eq how).2.2.2.mpr z)
              have hv2 : tFo T ow u (k + 1) = tSt1 T k v := by rw [hv]; unfold tFo; rw [if_neg hnw, if_neg hnw]; rfl
              obtain ⟨lf2, q43⟩ := q43
              rw [e43] at h46
              have e : tSt1 T k v = uSetF v 9 (uLi v + 1) := by
                unfold tSt1
                rw [if_pos h32, if_neg (by rw [h46]; decide)]
              have eh : hea T v (tTf T k) = v := if_neg (by rw [h46]; decide)
              rw [eh] at q43
              have hq := hd.tr q43
              exact xq_fgt (ih (k + 1) _ lf2 _ (by omega) (by omega) (by rw [hv2, e]) (hq.one (by decide) (by decide) (hq.1.li2 _) (hq.2.1.sf (by decide) (by decide) _))) (by exact And.intro rfl (And.intro rfl (And.intro rfl (And.intro rfl (trivial)))))
  refine vq_intro (by decide) (by exact Nat.le_of_ble_eq_true rfl) rfl ?_
  refine xq_iconst dX11_passes_0 ic0 ?_
  refine xq_istore_n dX11_passes_1 rfl rfl ?_
  exact l1 (tNt T + 1) 0 u lf H (by omega) (by omega) (by unfold tFo; split <;> rfl) ⟨hr, hlr, fun _ _ => RmE.rf, MoF.rf⟩
theorem m_goesOn (hs : MsP S H T N) (hr : RmP H T 1 lf u) (hlr : LfR T lf u) (ok : StOk u) (htw : TwP H ow mu) (how : -1 ≤ ow ∧ ow ≤ 4) (hmu : -1 ≤ mu ∧ mu < 6) (hn : n ≤ 200) (hh1 : uHd u + 12 * n ≤ 100000000) (hh2 : uLi u + 12 * n ≤ 100000000) (hh3 : uHr u + n ≤ 10000) : Nv mX11_goesOn 8 [.ref 83, vN n] S H (fun H' => ∃ lf2, DyQ H H' T 1 lf2 (pas T false ow mu u n)) := by
  have hF := hs.fx; have hx := hs.mx; have hw := hs.mw; have tk := hs.tk; have tw := hs.tw; have hnp := tw.2.1; have hnc := tw.1; have hWn := nW_le tw
  have l1 : ∀ (fz : Nat) (k : Nat) (v : uSt) (lf1 : Nat → Bool) (H1 : xH), n - k < fz → k ≤ n → v = pIt T false ow mu u k → StOk v ∧ uHr v = uHr u + k ∧ uHd v ≤ uHd u + 12 * k ∧ uLi v ≤ uLi u + 12 * k → DyQ H H1 T 1 lf1 v → Xq mX11_goesOn 8 0 0 2 [some (.ref 83), some (vN n), some (vN k)] [] S H1 (fun R => ∃ H', (fun H' => ∃ lf2, DyQ H H' T 1 lf2 (pas T false ow mu u n)) H' ∧ R = (none, S, H')) := by
    intro fz
    induction fz with
    | zero => intro k  v  lf1  H1  hfz; exact absurd hfz (by omega)
    | succ fz ih =>
      intro k  v  lf1  H1  hfz hi hv hg hd
      have hs1 := hs.dy hd; have hx1 := hs1.mx; have hr1 := hd.1; have hl1 := hd.2.1; have htw1 := htw.off hd.2.2.2 (by omega) (by omega)
      refine xq_iload_n dX11_goesOn_2 rfl rfl ?_
      refine xq_iload_n dX11_goesOn_3 rfl rfl ?_
      refine xq_icmp_geN dX11_goesOn_4 rfl (by omega) (by omega) ⟨fun h4 => ?_, fun h4 => ?_⟩
      · skip
        refine xq_vret dX11_goesOn_19 rfl ?_
        have ek : k = n := by omega
        exact ⟨H1, ⟨lf1, by rw [← pIt_pas ok tk n (by omega) (by omega), ← ek, ← hv]; exact hd⟩, rfl⟩
      · skip
        refine xq_aload_n dX11_goesOn_7 rfl rfl ?_
        refine xq_iconst dX11_goesOn_8 ic1 ?_
        refine xq_iconst dX11_goesOn_9 ic0 ?_
        refine xq_callV2N clX11 gd_X11_passes dX11_goesOn_10 ml_RX11_456 im_X11_passes se_X11_passes rfl (Fx.s83 hF) (by exact Nat.le_of_ble_eq_true rfl) (by decide) (m_passes (s := 1) (dr := false) hs1 hr1 hl1 hg.1 (by decide) htw1 how hmu (by omega) (by omega)) ?_
        intro H10 p10
        obtain ⟨lf2, q10⟩ := p10
        refine xq_iincN dX11_goesOn_13 ic1 rfl rfl ?_
        refine xq_goto dX11_goesOn_16 rfl ?_
        have gp := pOne_ok (T := T) (dr := false) (ow := ow) (mu := mu) hg.1 tk (by omega) (by omega) (by omega)
        exact ih (k + 1) _ lf2 H10 (by omega) (by omega) (by rw [hv]; rfl) ⟨gp.1.1, by omega, by have := gp.1.2.2.1; omega, by have := gp.1.2.2.2; omega⟩ (hd.tr q10)
  refine vq_intro (by decide) (by exact Nat.le_of_ble_eq_true rfl) rfl ?_
  refine xq_iconst dX11_goesOn_0 ic0 ?_
  refine xq_istore_n dX11_goesOn_1 rfl rfl ?_
  exact l1 (n + 1) 0 u lf H (by omega) (by omega) rfl ⟨ok, rfl, by omega, by omega⟩ ⟨hr, hlr, fun _ _ => RmE.rf, MoF.rf⟩
end PS
