/-! ===== the reference's tape; what every state keeps ===== -/
section FD
variable {S : xS} {H H1 H2 H3 : xH} {T : uTx} {N : Nat → Nat → Nat} {s a b c w p q n i j k x y m l f odds ps : Nat} {lf fb Rw lfi lf1 : Nat → Bool} {u v ui : uSt} {ow mu : Int} {dr : Bool} {A F : Nat → Prop} {ww w2 w3 fa fp v1 v2 v3 v4 v5 : Int32} {by_ : Nat → Nat}
def GdU (n : Nat) (u : uSt) : Prop := uNp u = n ∧ (∀ p, n ≤ p → uPz u p = 0) ∧ ∀ p, p < n → uSe u p &&& am n p = uSe u p
theorem GdU.so (h : GdU n u) : SeOk u := fun p hp => by rw [h.1] at hp ⊢; exact h.2.2 p hp
theorem GdU.z (h : GdU n u) (p : Nat) (hp : uNp u ≤ p) : uPz u p = 0 := h.2.1 p (by rw [← h.1]; exact hp)
theorem GdU.cong (h : GdU n u) (e6 : uNp v = uNp u) (ep : ∀ p, uPz v p = uPz u p) (es : ∀ p, uSe v p = uSe u p) : GdU n v := ⟨e6.trans h.1, fun p hp => (ep p).trans (h.2.1 p hp), fun p hp => by rw [es]; exact h.2.2 p hp⟩
theorem uSetF_np (u : uSt) {k : Nat} (h : k ≠ 6) (x : Nat) : uNp (uSetF u k x) = uNp u := by
  show (if 6 = k then x else uF u 6) = uF u 6
  rw [if_neg (fun e => h e.symm)]
theorem GdU.sf (h : GdU n u) {k : Nat} (hk : k ≠ 6) (x : Nat) : GdU n (uSetF u k x) := h.cong (uSetF_np u hk x) (fun _ => rfl) (fun _ => rfl)
theorem GdU.keep (h : GdU n u) (fb : Nat → Bool) : GdU n (uKeep u fb) := h.cong (uSetF_np _ (by decide) _) (fun _ => rfl) (fun _ => rfl)
theorem GdU.heaU_ (h : GdU n u) : GdU n (heaU T u f) := (h.keep _).sf (by decide) _
theorem GdU.hea_ (h : GdU n u) : GdU n (hea T u f) := by
  unfold hea
  split
  · exact h.heaU_
  · exact h
theorem GdU.la (h : GdU n u) (x : Nat) : GdU n (uSetLa u x) := h.cong rfl (fun _ => rfl) (fun _ => rfl)
theorem GdU.spu_ (h : GdU n u) : GdU n (spu dr u m) := by
  rw [spu_eq]
  split
  · exact h.la _
  · exact h
theorem GdU.spz (h : GdU n u) (hi : i < n) (x : Nat) : GdU n (uSetPz u i x) := ⟨h.1, fun p hp => by
  show (if p = i then x else uPz u p) = 0
  rw [if_neg (by omega)]; exact h.2.1 p hp, h.2.2⟩
theorem GdU.rew_ (h : GdU n u) (hi : i < n) : GdU n (rew T u i m) := by
  show GdU n (if _ then _ else _)
  split
  · exact h
  · exact h.spz hi _
theorem GdU.step {kw : Nat} {st : aT} (h : GdU n st.2.2) (hi : i < n) : GdU n (aStep T dr ow mu kw m i st).2.2 := by
  unfold aStep
  split
  · exact h.spu_.rew_ hi
  · show GdU n (if _ then _ else _)
    split
    · exact h.spu_
    · exact h
theorem GdU.aFo_ (h : GdU n u) : ∀ i, i ≤ n → GdU n (aFo T dr ow mu u i).2.2
  | 0, _ => h
  | i + 1, hi => (GdU.aFo_ h i (by omega)).step (by omega)
theorem GdU.askU_ (h : GdU n u) : GdU n (askU T dr ow mu u) := (h.aFo_ (uNp u) (by rw [h.1]; exact Nat.le_refl _)).keep _
theorem GdU.tSt1_ (h : GdU n u) : GdU n (tSt1 T i u) := by
  unfold tSt1
  split
  · split
    · exact h.heaU_
    · exact h.sf (by decide) _
  · exact h
theorem GdU.fo_ {g : Nat → uSt → uSt} (hg : ∀ k v, GdU n v → GdU n (g k v)) (h : GdU n u) : ∀ m, GdU n (fo g u m)
  | 0 => h
  | m + 1 => hg m _ (GdU.fo_ hg h m)
theorem GdU.tFo_ (h : GdU n u) : GdU n (tFo T ow u m) := by
  unfold tFo
  split
  · exact h
  · exact h.fo_ (fun k v hv => hv.tSt1_) m
theorem GdU.aSt1_ (h : GdU n u) : GdU n (aSt1 T dr ow mu i u) := by
  unfold aSt1
  split
  · exact h.askU_
  · exact h
theorem GdU.pOne_ (h : GdU n u) : GdU n (pOne T dr ow mu u) := (h.tFo_.fo_ (g := aSt1 T dr ow mu) (fun k v hv => hv.aSt1_) (tNa T)).sf (by decide) _
theorem GdU.pLo_ (h : GdU n u) : ∀ m, GdU n (pLo T dr ow mu u m)
  | 0 => h
  | m + 1 => by
    show GdU n (if _ then _ else _)
    split
    · exact (GdU.pLo_ h m).pOne_
    · exact GdU.pLo_ h m
theorem GdU.pas_ (h : GdU n u) : GdU n (pas T dr ow mu u m) := (h.pLo_ m).sf (by decide) _
theorem am_see {n p q e : Nat} (hn : n ≤ 6) (hp : p < n) (hq : q < n) (hpq : p ≠ q) (he : e < 64) (h : e &&& am n p = e) : (e ||| 1 <<< q) &&& am n p = e ||| 1 <<< q := by
  have : ∀ (n : Fin 7) (p q : Fin 6), q.val < n.val → p ≠ q → 1 <<< q.val &&& am n.val p.val = 1 <<< q.val := by decide +kernel
  have h2 := this ⟨n, by omega⟩ ⟨p, by omega⟩ ⟨q, by omega⟩ hq (fun e => hpq (congrArg Fin.val e))
  have h2 : 1 <<< q &&& am n p = 1 <<< q := h2
  rw [Nat.and_or_distrib_right, h, h2]
theorem GdU.see (h : GdU n u) (ok : StOk u) (hp : p < n) (hq : q < n) (hpq : p ≠ q) : GdU n (uSee u p q) := ⟨h.1, h.2.1, fun r hr => by
  have hn := ok.np
  rw [h.1] at hn
  show (if r = p then uSe u p ||| 1 <<< q else uSe u r) &&& am n r = (if r = p then uSe u p ||| 1 <<< q else uSe u r)
  by_cases e : r = p
  · rw [if_pos e, e]; exact am_see hn hp hq hpq (ok.se (by omega)) (h.2.2 p hp)
  · rw [if_neg e]; exact h.2.2 r hr⟩
theorem sbs_no {n p e : Nat} (hn : n ≤ 6) (hp : p < 6) (he : e < 64) (h : e.testBit p = false) : sbs e n 0 &&& am n p = sbs e n 0 := by
  have : ∀ (n : Fin 7) (p : Fin 6) (e : Fin 64), e.val.testBit p.val = false → sbs e.val n.val 0 &&& am n.val p.val = sbs e.val n.val 0 := by decide +kernel
  exact this ⟨n, by omega⟩ ⟨p, hp⟩ ⟨e, he⟩ h
theorem GdU.beg (hn : tNp T ≤ 6) (he : ∀ p, p < tNp T → tSe T p < 64 ∧ (tSe T p).testBit p = false) : GdU (tNp T) (begU T) := ⟨rfl, fun _ _ => rfl, fun p hp => by
  show (if p < tNp T then sbs (tSe T p) (tNp T) 0 else 0) &&& _ = (if p < tNp T then sbs (tSe T p) (tNp T) 0 else 0)
  rw [if_pos hp]
  exact sbs_no hn (by omega) (he p hp).1 (he p hp).2⟩
/-- the tape -/
def TaM (H : xH) (n : Nat) (b : Nat → Nat) : Prop := hI H 83 2 = nI n ∧ ∀ j, j < n → hI H 84 j = nI (b j)
def wsl (v1 v2 v3 v4 v5 : Int32) (j : Nat) : Int32 := if j < 4 then v1 else if j < 8 then v2 else if j < 12 then v3 else if j < 16 then v4 else v5
theorem tap5_at (h : j < 20) : tap5 n by_ v1 v2 v3 v4 v5 (n + j) = byv (wsl v1 v2 v3 v4 v5 j) (j % 4) := by
  unfold tap5 tapS wsl
  by_cases h1 : j < 4
  · rw [if_neg (by omega), if_neg (by omega), if_neg (by omega), if_neg (by omega), if_pos (by omega), if_pos h1]; congr 1; omega
  by_cases h2 : j < 8
  · rw [if_neg (by omega), if_neg (by omega), if_neg (by omega), if_pos (by omega), if_neg h1, if_pos h2]; congr 1; omega
  by_cases h3 : j < 12
  · rw [if_neg (by omega), if_neg (by omega), if_pos (by omega), if_neg h1, if_neg h2, if_pos h3]; congr 1; omega
  by_cases h4 : j < 16
  · rw [if_neg (by omega), if_pos (by omega), if_neg h1, if_neg h2, if_neg h3, if_pos h4]; congr 1; omega
  · rw [if_pos (by omega), if_neg h1, if_neg h2, if_neg h3, if_neg h4]; congr 1; omega
theorem tap5_lo (h : j < n) : tap5 n by_ v1 v2 v3 v4 v5 j = by_ j := by
  unfold tap5 tapS
  rw [if_neg (by omega), if_neg (by omega), if_neg (by omega), if_neg (by omega), if_neg (by omega)]
theorem byv_eq (w : Int32) (k : Nat) : (w >>> (nI (24 - 8 * k) &&& 31) &&& nI 255) = nI (byv w k) := by
  obtain ⟨m, hm, h2⟩ : ∃ m, m < 256 ∧ (w >>> (nI (24 - 8 * k) &&& 31) &&& 255) = nI m := by
    generalize w >>> (nI (24 - 8 * k) &&& 31) = v
    refine ⟨v.toBitVec.toNat % 256, Nat.mod_lt _ (by decide), ?_⟩
    apply Int32.toBitVec_inj.mp
    show v.toBitVec &&& 255#32 = BitVec.ofNat 32 (v.toBitVec.toNat % 256)
    apply BitVec.eq_of_toNat_eq
    rw [BitVec.toNat_and, BitVec.toNat_ofNat, BitVec.toNat_ofNat]
    show v.toBitVec.toNat &&& 255 = _
    rw [show (255 : Nat) = 2 ^ 8 - 1 from rfl, Nat.and_two_pow_sub_one_eq_mod]
    omega
  have h3 : byv w k = m := by
    unfold byv
    rw [h2, nI_toInt (by omega)]
    omega
  rw [h3]; exact h2
theorem m_feed0 (hF : gFx S) (h2 : hI H 83 2 = nI n) (hn : 680 < n) (hn2 : n ≤ 700) : Hv mX11_feed 0 [.ref 83, .int v1, .int v2, .int v3, .int v4, .int v5] S H vZ (fun (x : Int) H' => x = -1 ∧ MoF (fun q => q = 83) (fun k => k = 0) H H') := by
  refine vq_intro (by decide) (by exact Nat.le_of_ble_eq_true rfl) rfl ?_
  refine xq_aload_n dX11_feed_0 rfl rfl ?_
  refine xq_iconst dX11_feed_1 ic0 ?_
  refine xq_putI clX11 (by decide) rfl fl_RX11_128 (Or.inl rfl) dX11_feed_2 ⟨rfl, rfl⟩ (Fx.s83 hF) ?_
  refine xq_aload_n dX11_feed_5 rfl rfl ?_
  refine xq_getIE clX11 (by decide) rfl fl_RX11_131 dX11_feed_6 (Fx.s83 hF) ((hI_sI _ _ _ _ _ _).trans ((if_neg (by omega)).trans h2)) ?_
  refine xq_sipush dX11_feed_9 sp680 ?_
  refine xq_icmp_leN dX11_feed_12 rfl (by omega) (by omega) ⟨fun h12 => ?_, fun h12 => ?_⟩
  · skip
    exact absurd h12 (by omega)
  · skip
    refine xq_iconst dX11_feed_15 icm1 ?_
    refine xq_iret dX11_feed_16 rfl ?_
    refine ⟨-1, _, ⟨rfl, MoF.pF (A := fun q => q = 83) (F := fun k => k = 0) (H := H) (H2 := H) (k := 0) MoF.rf rfl rfl (nI 0)⟩, ?_⟩
    rw [zm1]
theorem m_feed1 (hF : gFx S) (hta : TaM H n by_) (hn : n ≤ 680) : Hv mX11_feed 0 [.ref 83, .int v1, .int v2, .int v3, .int v4, .int v5] S H vN (fun x H' => x = n + 20 ∧ TaM H' (n + 20) (tap5 n by_ v1 v2 v3 v4 v5) ∧ MoF (fun q => q = 83 ∨ q = 84) (fun k => k = 0 ∨ k = 2) H H') := by
  have h2b : hI (sI H 83 0 (nI 0)) 83 2 = nI n := (hI_sI _ _ _ _ _ _).trans ((if_neg (by omega)).trans hta.1)
  have l1 : ∀ (fz : Nat) (i : Nat) (H1 : xH), 20 - i < fz → i ≤ 20 → (∀ j, j < n + i → hI H1 84 j = nI (tap5 n by_ v1 v2 v3 v4 v5 j)) → Off (fun q => q = 84) (sI H 83 0 (nI 0)) H1 → Xq mX11_feed 0 0 0 20 [some (.ref 83), some (.int v1), some (.int v2), some (.int v3), some (.int v4), some (.int v5), some (vN i), none] [] S H1 (fun R => ∃ x H', (fun x H' => x = n + 20 ∧ TaM H' (n + 20) (tap5 n by_ v1 v2 v3 v4 v5) ∧ MoF (fun q => q = 83 ∨ q = 84) (fun k => k = 0 ∨ k = 2) H H') x H' ∧ R = (some (vN x), S, H')) := by
    intro fz
    induction fz with
    | zero => intro i  H1  hfz; exact absurd hfz (by omega)
    | succ fz ih =>
      intro i  H1  hfz hi hb ho
      have h2c : hI H1 83 2 = nI n := (ho.I (by omega) 2).trans h2b
      refine xq_iload dX11_feed_20 rfl ?_
      refine xq_bipush dX11_feed_22 bp20 ?_
      refine xq_icmp_geN dX11_feed_24 rfl (by omega) (by omega) ⟨fun h24 => ?_, fun h24 => ?_⟩
      · skip
        refine xq_aload_n dX11_feed_110 rfl rfl ?_
        refine xq_dup dX11_feed_111 rfl ?_
        refine xq_getIE clX11 (by decide) rfl fl_RX11_131 dX11_feed_112 (Fx.s83 hF) h2c ?_
        refine xq_bipush dX11_feed_115 bp20 ?_
        refine xq_iaddN dX11_feed_117 ?_
        refine xq_putI clX11 (by decide) rfl fl_RX11_131 (Or.inl rfl) dX11_feed_118 ⟨rfl, rfl⟩ (Fx.s83 hF) ?_
        refine xq_aload_n dX11_feed_121 rfl rfl ?_
        refine xq_getIE (v := nI (n + 20)) clX11 (by decide) rfl fl_RX11_131 dX11_feed_122 (Fx.s83 hF) (by rw [hI_sI, if_pos ⟨rfl, rfl⟩]) ?_
        refine xq_iret dX11_feed_125 rfl ?_
        refine ⟨n + 20, _, ⟨rfl, ⟨by rw [hI_sI, if_pos ⟨rfl, rfl⟩], fun j hj => (hI_sI _ _ _ _ _ _).trans ((if_neg (by omega)).trans (hb j (by omega)))⟩, ?_⟩, rfl⟩
        exact MoF.pF (A := fun q => q = 83 ∨ q = 84) (F := fun k => k = 0 ∨ k = 2) ((MoF.pF (A := fun q => q = 83 ∨ q = 84) (F := fun k => k = 0 ∨ k = 2) (H := H) (H2 := H) (k := 0) MoF.rf (Or.inl rfl) (Or.inl rfl) (nI 0)).tr (MoF.mo (MoF.of (F := fun _ => False) ho (by omega)) (fun q h => Or.inr h) (fun k h => absurd h (fun e => e)))) (Or.inl rfl) (Or.inr rfl) _
      · skip
        refine xq_iload dX11_feed_27 rfl ?_
        refine xq_iconst dX11_feed_29 ic4 ?_
        refine xq_icmp_geN dX11_feed_30 rfl (by omega) (by omega) ⟨fun h30 => ?_, fun h30 => ?_⟩
        · skip
          refine xq_iload dX11_feed_37 rfl ?_
          refine xq_bipush dX11_feed_39 bp8 ?_
          refine xq_icmp_geN dX11_feed_41 rfl (by omega) (by omega) ⟨fun h41 => ?_, fun h41 => ?_⟩
          · skip
            refine xq_iload dX11_feed_48 rfl ?_
            refine xq_bipush dX11_feed_50 bp12 ?_
            refine xq_icmp_geN dX11_feed_52 rfl (by omega) (by omega) ⟨fun h52 => ?_, fun h52 => ?_⟩
            · skip
              refine xq_iload dX11_feed_59 rfl ?_
              refine xq_bipush dX11_feed_61 bp16 ?_
              refine xq_icmp_geN dX11_feed_63 rfl (by omega) (by omega) ⟨fun h63 => ?_, fun h63 => ?_⟩
              · skip
                refine xq_iload dX11_feed_71 rfl ?_
                refine xq_istore dX11_feed_73 rfl ?_
                refine xq_aload_n dX11_feed_75 rfl rfl ?_
                refine xq_getF clX11 (by decide) rfl fl_RX11_7 dX11_feed_76 (Fx.s83 hF) (Fx.r83_1 hF) ?_
                refine xq_aload_n dX11_feed_79 rfl rfl ?_
                refine xq_getIE clX11 (by decide) rfl fl_RX11_131 dX11_feed_80 (Fx.s83 hF) h2c ?_
                refine xq_iload dX11_feed_83 rfl ?_
                refine xq_iaddN dX11_feed_85 ?_
                refine xq_iload dX11_feed_86 rfl ?_
                refine xq_bipush dX11_feed_88 bp24 ?_
                refine xq_bipush dX11_feed_90 bp8 ?_
                refine xq_iload dX11_feed_92 rfl ?_
                refine xq_iconst dX11_feed_94 ic4 ?_
                refine xq_iremN dX11_feed_95 (by omega) (by omega) (by decide) ?_
                refine xq_imulN dX11_feed_96 ?_
                refine xq_isubN dX11_feed_97 (by omega) ?_
                refine xq_ishr dX11_feed_98 ?_
                refine xq_sipush dX11_feed_99 sp255 ?_
                refine xq_iand dX11_feed_102 ?_
                refine xq_iastN dX11_feed_103 (Fx.s84 hF) (by omega) (by decide) ?_
                refine xq_iincN dX11_feed_104 ic1 rfl rfl ?_
                refine xq_goto dX11_feed_107 rfl ?_
                have ew : wsl v1 v2 v3 v4 v5 i = v5 := by unfold wsl; rw [if_neg (by omega)]; rw [if_neg (by omega)]; rw [if_neg (by omega)]; rw [if_neg (by omega)]; skip
                rw [byv_eq]
                have hb2 := hb
                refine xq_fgt (ih (i + 1) _ (by omega) (by omega) (fun j hj => ?_) (ho.pI (A := fun q => q = 84) rfl _ _)) (by exact And.intro rfl (And.intro rfl (And.intro rfl (And.intro rfl (And.intro rfl (And.intro rfl (And.intro rfl (trivial))))))))
                rw [hI_sI]
                by_cases e : j = n + i
                · rw [if_pos ⟨rfl, e⟩, e, tap5_at (by omega), ew]
                · rw [if_neg (fun z => e z.2)]; exact hb j (by omega)
              · skip
                refine xq_iload dX11_feed_66 rfl ?_
                refine xq_goto dX11_feed_68 rfl ?_
                refine xq_istore dX11_feed_73 rfl ?_
                refine xq_aload_n dX11_feed_75 rfl rfl ?_
                refine xq_getF clX11 (by decide) rfl fl_RX11_7 dX11_feed_76 (Fx.s83 hF) (Fx.r83_1 hF) ?_
                refine xq_aload_n dX11_feed_79 rfl rfl ?_
                refine xq_getIE clX11 (by decide) rfl fl_RX11_131 dX11_feed_80 (Fx.s83 hF) h2c ?_
                refine xq_iload dX11_feed_83 rfl ?_
                refine xq_iaddN dX11_feed_85 ?_
                refine xq_iload dX11_feed_86 rfl ?_
                refine xq_bipush dX11_feed_88 bp24 ?_
                refine xq_bipush dX11_feed_90 bp8 ?_
                refine xq_iload dX11_feed_92 rfl ?_
                refine xq_iconst dX11_feed_94 ic4 ?_
                refine xq_iremN dX11_feed_95 (by omega) (by omega) (by decide) ?_
                refine xq_imulN dX11_feed_96 ?_
                refine xq_isubN dX11_feed_97 (by omega) ?_
                refine xq_ishr dX11_feed_98 ?_
                refine xq_sipush dX11_feed_99 sp255 ?_
                refine xq_iand dX11_feed_102 ?_
                refine xq_iastN dX11_feed_103 (Fx.s84 hF) (by omega) (by decide) ?_
                refine xq_iincN dX11_feed_104 ic1 rfl rfl ?_
                refine xq_goto dX11_feed_107 rfl ?_
                have ew : wsl v1 v2 v3 v4 v5 i = v4 := by unfold wsl; rw [if_neg (by omega)]; rw [if_neg (by omega)]; rw [if_neg (by omega)]; rw [if_pos (by omega)]
                rw [byv_eq]
                have hb2 := hb
                refine xq_fgt (ih (i + 1) _ (by omega) (by omega) (fun j hj => ?_) (ho.pI (A := fun q => q = 84) rfl _ _)) (by exact And.intro rfl (And.intro rfl (And.intro rfl (And.intro rfl (And.intro rfl (And.intro rfl (And.intro rfl (trivial))))))))
                rw [hI_sI]
                by_cases e : j = n + i
                · rw [if_pos ⟨rfl, e⟩, e, tap5_at (by omega), ew]
                · rw [if_neg (fun z => e z.2)]; exact hb j (by omega)
            · skip
              refine xq_iload_n dX11_feed_55 rfl rfl ?_
              refine xq_goto dX11_feed_56 rfl ?_
              refine xq_istore dX11_feed_73 rfl ?_
              refine xq_aload_n dX11_feed_75 rfl rfl ?_
              refine xq_getF clX11 (by decide) rfl fl_RX11_7 dX11_feed_76 (Fx.s83 hF) (Fx.r83_1 hF) ?_
              refine xq_aload_n dX11_feed_79 rfl rfl ?_
              refine xq_getIE clX11 (by decide) rfl fl_RX11_131 dX11_feed_80 (Fx.s83 hF) h2c ?_
              refine xq_iload dX11_feed_83 rfl ?_
              refine xq_iaddN dX11_feed_85 ?_
              refine xq_iload dX11_feed_86 rfl ?_
              refine xq_bipush dX11_feed_88 bp24 ?_
              refine xq_bipush dX11_feed_90 bp8 ?_
              refine xq_iload dX11_feed_92 rfl ?_
              refine xq_iconst dX11_feed_94 ic4 ?_
              refine xq_iremN dX11_feed_95 (by omega) (by omega) (by decide) ?_
              refine xq_imulN dX11_feed_96 ?_
              refine xq_isubN dX11_feed_97 (by omega) ?_
              refine xq_ishr dX11_feed_98 ?_
              refine xq_sipush dX11_feed_99 sp255 ?_
              refine xq_iand dX11_feed_102 ?_
              refine xq_iastN dX11_feed_103 (Fx.s84 hF) (by omega) (by decide) ?_
              refine xq_iincN dX11_feed_104 ic1 rfl rfl ?_
              refine xq_goto dX11_feed_107 rfl ?_
              have ew : wsl v1 v2 v3 v4 v5 i = v3 := by unfold wsl; rw [if_neg (by omega)]; rw [if_neg (by omega)]; rw [if_pos (by omega)]
              rw [byv_eq]
              have hb2 := hb
              refine xq_fgt (ih (i + 1) _ (by omega) (by omega) (fun j hj => ?_) (ho.pI (A := fun q => q = 84) rfl _ _)) (by exact And.intro rfl (And.intro rfl (And.intro rfl (And.intro rfl (And.intro rfl (And.intro rfl (And.intro rfl (trivial))))))))
              rw [hI_sI]
              by_cases e : j = n + i
              · rw [if_pos ⟨rfl, e⟩, e, tap5_at (by omega), ew]
              · rw [if_neg (fun z => e z.2)]; exact hb j (by omega)
          · skip
            refine xq_iload_n dX11_feed_44 rfl rfl ?_
            refine xq_goto dX11_feed_45 rfl ?_
            refine xq_istore dX11_feed_73 rfl ?_
            refine xq_aload_n dX11_feed_75 rfl rfl ?_
            refine xq_getF clX11 (by decide) rfl fl_RX11_7 dX11_feed_76 (Fx.s83 hF) (Fx.r83_1 hF) ?_
            refine xq_aload_n dX11_feed_79 rfl rfl ?_
            refine xq_getIE clX11 (by decide) rfl fl_RX11_131 dX11_feed_80 (Fx.s83 hF) h2c ?_
            refine xq_iload dX11_feed_83 rfl ?_
            refine xq_iaddN dX11_feed_85 ?_
            refine xq_iload dX11_feed_86 rfl ?_
            refine xq_bipush dX11_feed_88 bp24 ?_
            refine xq_bipush dX11_feed_90 bp8 ?_
            refine xq_iload dX11_feed_92 rfl ?_
            refine xq_iconst dX11_feed_94 ic4 ?_
            refine xq_iremN dX11_feed_95 (by omega) (by omega) (by decide) ?_
            refine xq_imulN dX11_feed_96 ?_
            refine xq_isubN dX11_feed_97 (by omega) ?_
            refine xq_ishr dX11_feed_98 ?_
            refine xq_sipush dX11_feed_99 sp255 ?_
            refine xq_iand dX11_feed_102 ?_
            refine xq_iastN dX11_feed_103 (Fx.s84 hF) (by omega) (by decide) ?_
            refine xq_iincN dX11_feed_104 ic1 rfl rfl ?_
            refine xq_goto dX11_feed_107 rfl ?_
            have ew : wsl v1 v2 v3 v4 v5 i = v2 := by unfold wsl; rw [if_neg (by omega)]; rw [if_pos (by omega)]
            rw [byv_eq]
            have hb2 := hb
            refine xq_fgt (ih (i + 1) _ (by omega) (by omega) (fun j hj => ?_) (ho.pI (A := fun q => q = 84) rfl _ _)) (by exact And.intro rfl (And.intro rfl (And.intro rfl (And.intro rfl (And.intro rfl (And.intro rfl (And.intro rfl (trivial))))))))
            rw [hI_sI]
            by_cases e : j = n + i
            · rw [if_pos ⟨rfl, e⟩, e, tap5_at (by omega), ew]
            · rw [if_neg (fun z => e z.2)]; exact hb j (by omega)
        · skip
          refine xq_iload_n dX11_feed_33 rfl rfl ?_
          refine xq_goto dX11_feed_34 rfl ?_
          refine xq_istore dX11_feed_73 rfl ?_
          refine xq_aload_n dX11_feed_75 rfl rfl ?_
          refine xq_getF clX11 (by decide) rfl fl_RX11_7 dX11_feed_76 (Fx.s83 hF) (Fx.r83_1 hF) ?_
          refine xq_aload_n dX11_feed_79 rfl rfl ?_
          refine xq_getIE clX11 (by decide) rfl fl_RX11_131 dX11_feed_80 (Fx.s83 hF) h2c ?_
          refine xq_iload dX11_feed_83 rfl ?_
          refine xq_iaddN dX11_feed_85 ?_
          refine xq_iload dX11_feed_86 rfl ?_
          refine xq_bipush dX11_feed_88 bp24 ?_
          refine xq_bipush dX11_feed_90 bp8 ?_
          refine xq_iload dX11_feed_92 rfl ?_
          refine xq_iconst dX11_feed_94 ic4 ?_
          refine xq_iremN dX11_feed_95 (by omega) (by omega) (by decide) ?_
          refine xq_imulN dX11_feed_96 ?_
          refine xq_isubN dX11_feed_97 (by omega) ?_
          refine xq_ishr dX11_feed_98 ?_
          refine xq_sipush dX11_feed_99 sp255 ?_
          refine xq_iand dX11_feed_102 ?_
          refine xq_iastN dX11_feed_103 (Fx.s84 hF) (by omega) (by decide) ?_
          refine xq_iincN dX11_feed_104 ic1 rfl rfl ?_
          refine xq_goto dX11_feed_107 rfl ?_
          have ew : wsl v1 v2 v3 v4 v5 i = v1 := by unfold wsl; rw [if_pos (by omega)]
          rw [byv_eq]
          have hb2 := hb
          refine xq_fgt (ih (i + 1) _ (by omega) (by omega) (fun j hj => ?_) (ho.pI (A := fun q => q = 84) rfl _ _)) (by exact And.intro rfl (And.intro rfl (And.intro rfl (And.intro rfl (And.intro rfl (And.intro rfl (And.intro rfl (trivial))))))))
          rw [hI_sI]
          by_cases e : j = n + i
          · rw [if_pos ⟨rfl, e⟩, e, tap5_at (by omega), ew]
          · rw [if_neg (fun z => e z.2)]; exact hb j (by omega)
  refine vq_intro (by decide) (by exact Nat.le_of_ble_eq_true rfl) rfl ?_
  refine xq_aload_n dX11_feed_0 rfl rfl ?_
  refine xq_iconst dX11_feed_1 ic0 ?_
  refine xq_putI clX11 (by decide) rfl fl_RX11_128 (Or.inl rfl) dX11_feed_2 ⟨rfl, rfl⟩ (Fx.s83 hF) ?_
  refine xq_aload_n dX11_feed_5 rfl rfl ?_
  refine xq_getIE clX11 (by decide) rfl fl_RX11_131 dX11_feed_6 (Fx.s83 hF) h2b ?_
  refine xq_sipush dX11_feed_9 sp680 ?_
  refine xq_icmp_leN dX11_feed_12 rfl (by omega) (by omega) ⟨fun h12 => ?_, fun h12 => ?_⟩
  · skip
    refine xq_iconst dX11_feed_17 ic0 ?_
    refine xq_istore dX11_feed_18 rfl ?_
    exact xq_fgt (l1 21 0 _ (by omega) (by omega) (fun j hj => ((hI_sI _ _ _ _ _ _).trans ((if_neg (by omega)).trans (hta.2 j (by omega)))).trans (congrArg nI (tap5_lo (by omega)).symm)) Off.rf) (by exact And.intro rfl (And.intro rfl (And.intro rfl (And.intro rfl (And.intro rfl (And.intro rfl (And.intro rfl (trivial))))))))
  · skip
    exact absurd h12 (by omega)
end FD
