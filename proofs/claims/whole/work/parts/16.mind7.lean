/-! ===== Mind: barred sets, the fewest facts ===== -/
theorem set_none_ok {L : List (Option Value)} {i : Nat} (j : Nat) (v : Value) (h : (L.set i none)[j]? = some (some v)) : L[j]? = some (some v) := by
  by_cases e : i = j
  · subst e
    rw [List.getElem?_set] at h
    simp at h
  · rwa [List.getElem?_set_ne e] at h
theorem xq_lstoreX {M : xM} {k b1 b2 pc : Nat} {L : List (Option Value)} {st : List Value} {S : xS} {H : xH} {Q : xR → Prop} {i : Nat} {x : Int64} (d : decode (mC M) pc = .ok (.lstore i, 2)) (hf : xFits (L.set i none) (i + 1) (mN M) = true) (hg : xPrev (L.set i none) i = true) (kk : Xq M k b1 b2 (pc + 2) (((L.set i none).set i (some (.long x))).set (i + 1) none) st S H Q) : Xq M k b1 b2 pc L (.long x :: st) S H Q := xq_forget set_none_ok (xq_lstore d hf hg kk)
theorem xq_lstore_nX {M : xM} {k b1 b2 pc : Nat} {L : List (Option Value)} {st : List Value} {S : xS} {H : xH} {Q : xR → Prop} {j : Fin 4} {i : Nat} {x : Int64} (d : decode (mC M) pc = .ok (.lstore_n j, 1)) (hi : (j : Nat) = i) (hf : xFits (L.set i none) (i + 1) (mN M) = true) (hg : xPrev (L.set i none) i = true) (kk : Xq M k b1 b2 (pc + 1) (((L.set i none).set i (some (.long x))).set (i + 1) none) st S H Q) : Xq M k b1 b2 pc L (.long x :: st) S H Q := xq_forget set_none_ok (xq_lstore_n d hi hf hg kk)
section FF
variable {S : xS} {H H1 : xH} {i t k x a n p z m s g cur : Nat} {u : uSt} {T : uTx} {w : Int64} {F : Nat → Nat} {Rv B : Nat → Bool}
def BaP (H : xH) (B : Nat → Bool) : Prop := ∀ s, s < 256 → hI H 21 s = nI (B s).toNat
def Bup (F : Nat → Nat) (Rv : Nat → Bool) (n s : Nat) : Prop := ∃ p, p < n ∧ Rv p = true ∧ s &&& F p = s
def BInv (F : Nat → Nat) (Rv : Nat → Bool) (n cur : Nat) (B : Nat → Bool) : Prop := (∀ s, s < 256 → B s = true → Bup F Rv n s) ∧ (∀ p, p < n → Rv p = true → B (F p) = true) ∧ ∀ s, s < 256 → cur < s → Bup F Rv n s → ∀ g, g < 8 → s.testBit g = true → B (s ^^^ 1 <<< g) = true
theorem b8a (hc : cur < 256) (hg : g < 8) (h : cur.testBit g = false) : cur < cur ||| 1 <<< g ∧ cur ||| 1 <<< g < 256 ∧ (cur ||| 1 <<< g) ^^^ 1 <<< g = cur ∧ (cur ||| 1 <<< g).testBit g = true := by
  have : ∀ (c : Fin 256) (g : Fin 8), c.val.testBit g.val = false → c.val < c.val ||| 1 <<< g.val ∧ c.val ||| 1 <<< g.val < 256 ∧ (c.val ||| 1 <<< g.val) ^^^ 1 <<< g.val = c.val ∧ (c.val ||| 1 <<< g.val).testBit g.val = true := by decide +kernel
  exact this ⟨cur, hc⟩ ⟨g, hg⟩ h
theorem b8b (hc : cur < 256) (hg : g < 8) (h : cur.testBit g = true) : 1 <<< g &&& cur = 1 <<< g ∧ (cur ^^^ 1 <<< g) &&& cur = cur ^^^ 1 <<< g := by
  have : ∀ (c : Fin 256) (g : Fin 8), c.val.testBit g.val = true → 1 <<< g.val &&& c.val = 1 <<< g.val ∧ (c.val ^^^ 1 <<< g.val) &&& c.val = c.val ^^^ 1 <<< g.val := by decide +kernel
  exact this ⟨cur, hc⟩ ⟨g, hg⟩ h
theorem sub_bits {a b : Nat} (hb : b < 256) (h : a &&& b = a) (hne : a ≠ b) : ∃ g, g < 8 ∧ b.testBit g = true ∧ a.testBit g = false := by
  apply Classical.byContradiction
  intro hno
  apply hne
  rw [← h]
  apply Nat.eq_of_testBit_eq
  intro g
  rw [Nat.testBit_and]
  by_cases hg : g < 8
  · cases h1 : b.testBit g
    · simp
    · cases h2 : a.testBit g
      · exact absurd ⟨g, hg, h1, h2⟩ hno
      · rfl
  · have h3 : b.testBit g = false := Nat.testBit_lt_two_pow (Nat.lt_of_lt_of_le hb (show 2 ^ 8 ≤ 2 ^ g from Nat.pow_le_pow_right (by decide) (by omega)))
    rw [h3, Bool.and_false]
theorem BInv.iff (h : BInv F Rv n cur B) (hF : ∀ p, p < n → F p < 256) (hs : s < 256) (hcs : cur ≤ s) : B s = true ↔ Bup F Rv n s := by
  refine ⟨h.1 s hs, ?_⟩
  rintro ⟨p, hp, hr, hsub⟩
  by_cases e : s = F p
  · rw [e]; exact h.2.1 p hp hr
  · obtain ⟨g, hg, g1, g2⟩ := sub_bits (hF p hp) hsub e
    obtain ⟨q1, q2, q3, q4⟩ := b8a hs hg g2
    have := h.2.2 (s ||| 1 <<< g) q2 (by omega) ⟨p, hp, hr, by rw [Nat.and_or_distrib_right, hsub, (b8b (hF p hp) hg g1).1]⟩ g hg q4
    rwa [q3] at this
theorem BInv.put (h : BInv F Rv n cur B) (hc : cur < 256) (hg : g < 8) (hu : Bup F Rv n cur) (hb : cur.testBit g = true) : BInv F Rv n cur (fun s => if s = cur ^^^ 1 <<< g then true else B s) := by
  refine ⟨fun s hs e => ?_, fun p hp hr => ?_, fun s hs h1 h2 g' hg' hb' => ?_⟩
  · by_cases w : s = cur ^^^ 1 <<< g
    · obtain ⟨p, hp, hr, hsub⟩ := hu
      refine ⟨p, hp, hr, ?_⟩
      have h3 := (b8b hc hg hb).2
      rw [w]
      calc (cur ^^^ 1 <<< g) &&& F p = ((cur ^^^ 1 <<< g) &&& cur) &&& F p := by rw [h3]
        _ = (cur ^^^ 1 <<< g) &&& (cur &&& F p) := Nat.and_assoc _ _ _
        _ = cur ^^^ 1 <<< g := by rw [hsub, h3]
    · exact h.1 s hs (by simpa [w] using e)
  · show (if _ then _ else _) = true
    split
    · rfl
    · exact h.2.1 p hp hr
  · show (if _ then _ else _) = true
    split
    · rfl
    · exact h.2.2 s hs h1 h2 g' hg' hb'
def bar (H : xH) (u : uSt) (T : uTx) (m s : Nat) : Bool := ex (fun p => riv u m p && (s &&& fso H T p == s)) (uZ u)
theorem bar_iff : bar H u T m s = true ↔ Bup (fso H T) (riv u m) (uZ u) s := by
  unfold bar Bup
  rw [ex_iff]
  constructor
  · rintro ⟨p, hp, e⟩
    rw [Bool.and_eq_true] at e
    exact ⟨p, hp, e.1, by simpa using e.2⟩
  · rintro ⟨p, hp, e1, e2⟩
    exact ⟨p, hp, by rw [e1]; simpa using e2⟩
theorem fso_off (h : ∀ j, hL H1 19 j = hL H 19 j) (p : Nat) : fso H1 T p = fso H T p := by
  unfold fso
  congr 1
  funext f b
  show b ||| (rb (hL H1 19 p) _).toNat <<< f = _
  rw [h]
theorem toNat_inj0 {b : Bool} (h : b.toNat = 0) : b = false := by cases b <;> first | rfl | cases h
theorem toNat_inj1 {b : Bool} (h : ¬ b.toNat = 0) : b = true := by cases b <;> first | rfl | exact absurd rfl h
theorem c_barRivals (hF : gFx S) (ha : gSt S a) (h67 : 67 ≤ a) (hu : StP H a u) (ok : StOk u) (ht : gTx S t) (ht24 : 24 ≤ t) (ht45 : t ≤ 45) (hT : TxP H t T) (hnf : tNf T ≤ 8) (hro : ∀ f, f < tNf T → tRo T f < 64) (hm : m < 64) : Nv mX4_barRivals 3 [.ref 16, .ref t, .ref a, vN m] S H (fun H' => Off (fun q => q = 21) H H' ∧ BaP H' (bar H u T m)) := by
  have hz := ok.n; have hnp := ok.np
  have hF8 : ∀ p, p < uZ u → fso H T p < 256 := fun p _ => fso_lt hnf
  have l3 : ∀ (fz : Nat) (s : Nat) (B : Nat → Bool) (H1 : xH), s < fz → s < 256 → Off (fun q => q = 21) H H1 → BaP H1 B → BInv (fso H T) (riv u m) (uZ u) s B → Xq mX4_barRivals 3 0 0 81 [some (.ref 16), some (.ref t), some (.ref a), some (vN m), some (vN s), none] [] S H1 (fun R => ∃ H', (fun H' => Off (fun q => q = 21) H H' ∧ BaP H' (bar H u T m)) H' ∧ R = (none, S, H')) := by
    intro fz
    induction fz with
    | zero => intro s  B  H1  hn; exact absurd hn (by omega)
    | succ fz ih =>
      intro s  B  H1  hn hs255 ho hb hi
      have ih0 := ih
      refine xq_iload dX4_barRivals_81 rfl ?_
      refine xq_if_leN dX4_barRivals_83 rfl (by omega) ⟨fun h83 => ?_, fun h83 => ?_⟩
      · skip
        refine xq_vret dX4_barRivals_141 rfl ?_
        refine ⟨H1, ⟨ho, fun q hq => ?_⟩, rfl⟩; rw [hb q hq]; congr 2; rw [Bool.eq_iff_iff, bar_iff]; exact hi.iff hF8 hq (by omega)
      · skip
        have l4 : ∀ (fz : Nat) (f : Nat) (B : Nat → Bool) (H1 : xH), 8 - f < fz → f ≤ 8 → Off (fun q => q = 21) H H1 → BaP H1 B → BInv (fso H T) (riv u m) (uZ u) s B → (∀ g, g < f → s.testBit g = true → Bup (fso H T) (riv u m) (uZ u) s → B (s ^^^ 1 <<< g) = true) → Xq mX4_barRivals 3 0 0 89 [some (.ref 16), some (.ref t), some (.ref a), some (vN m), some (vN s), some (vN f)] [] S H1 (fun R => ∃ H', (fun H' => Off (fun q => q = 21) H H' ∧ BaP H' (bar H u T m)) H' ∧ R = (none, S, H')) := by
          intro fz
          induction fz with
          | zero => intro f  B  H1  hn; exact absurd hn (by omega)
          | succ fz ih =>
            intro f  B  H1  hn hf ho hb hi hc
            refine xq_iload dX4_barRivals_89 rfl ?_
            refine xq_bipush dX4_barRivals_91 bp8 ?_
            refine xq_icmp_geN dX4_barRivals_93 rfl (by omega) (by omega) ⟨fun h93 => ?_, fun h93 => ?_⟩
            · skip
              refine xq_iincD dX4_barRivals_135 rfl (by omega) rfl ?_
              refine xq_goto dX4_barRivals_138 rfl ?_
              have q1 : s - 1 < 256 := by omega
              have q2 : BInv (fso H T) (riv u m) (uZ u) (s - 1) B := by
                refine ⟨hi.1, hi.2.1, fun q hq h1 h2 g hg hbt => ?_⟩
                by_cases e : q = s
                · rw [e] at h2 hbt ⊢; exact hc g (by omega) hbt h2
                · have h3 : s < q := by omega
                  exact hi.2.2 q hq h3 h2 g hg hbt
              exact xq_fgt (ih0 (s - 1) B H1 (by omega) q1 ho hb q2) (by exact And.intro rfl (And.intro rfl (And.intro rfl (And.intro rfl (And.intro rfl (trivial))))))
            · skip
              have hbi := hi.iff hF8 hs255 (Nat.le_refl _); have hbn := (B s).toNat_le
              refine xq_aload_n dX4_barRivals_96 rfl rfl ?_
              refine xq_getF clX4 (by decide) rfl fl_RX4_25 dX4_barRivals_97 (Fx.s16 hF) (Fx.r16_6 hF) ?_
              refine xq_iload dX4_barRivals_100 rfl ?_
              refine xq_zaldN dX4_barRivals_102 (Fx.s21 hF) (by omega) (by decide) (hb s hs255) ?_
              refine xq_if_eqN dX4_barRivals_103 rfl (by omega) ⟨fun h103 => ?_, fun h103 => ?_⟩
              · skip
                refine xq_iincN dX4_barRivals_129 ic1 rfl rfl ?_
                refine xq_goto dX4_barRivals_132 rfl ?_
                exact ih (f + 1) B H1 (by omega) (by omega) ho hb hi (fun g hg hbt hup => absurd (hbi.mpr hup) (by rw [toNat_inj0 h103]; decide))
              · skip
                have hsl := shr_le s f; have hs1 : s >>> f &&& 1 ≤ 1 := Nat.and_le_right; have hup := hbi.mp (toNat_inj1 h103)
                refine xq_iload dX4_barRivals_106 rfl ?_
                refine xq_iload dX4_barRivals_108 rfl ?_
                refine xq_ishrN dX4_barRivals_110 (by omega) (by omega) ?_
                refine xq_iconst dX4_barRivals_111 ic1 ?_
                refine xq_iandN dX4_barRivals_112 ?_
                refine xq_if_eqN dX4_barRivals_113 rfl (by omega) ⟨fun h113 => ?_, fun h113 => ?_⟩
                · skip
                  refine xq_iincN dX4_barRivals_129 ic1 rfl rfl ?_
                  refine xq_goto dX4_barRivals_132 rfl ?_
                  exact ih (f + 1) B H1 (by omega) (by omega) ho hb hi (fun g hg hbt hup => by
                    by_cases e : g = f
                    · subst e; rw [(tb_shr s g).mp h113] at hbt; cases hbt
                    · exact hc g (by omega) hbt hup)
                · skip
                  have htb : s.testBit f = true := Bool.not_eq_false _ ▸ (fun z => h113 ((tb_shr s f).mpr z))
                  have hx8 : s ^^^ 1 <<< f < 256 := Nat.xor_lt_two_pow (n := 8) hs255 (by have := shl256 true (c := f) (by omega); exact this)
                  refine xq_aload_n dX4_barRivals_116 rfl rfl ?_
                  refine xq_getF clX4 (by decide) rfl fl_RX4_25 dX4_barRivals_117 (Fx.s16 hF) (Fx.r16_6 hF) ?_
                  refine xq_iload dX4_barRivals_120 rfl ?_
                  refine xq_iconst dX4_barRivals_122 ic1 ?_
                  refine xq_iload dX4_barRivals_123 rfl ?_
                  refine xq_ishlN dX4_barRivals_125 (by omega) ?_
                  refine xq_ixorN dX4_barRivals_126 ?_
                  refine xq_iconst dX4_barRivals_127 ic1 ?_
                  refine xq_zastN dX4_barRivals_128 (Fx.s21 hF) hx8 (by decide) (by decide) ?_
                  refine xq_iincN dX4_barRivals_129 ic1 rfl rfl ?_
                  refine xq_goto dX4_barRivals_132 rfl ?_
                  refine ih (f + 1) (fun q => if q = s ^^^ 1 <<< f then true else B q) _ (by omega) (by omega) (Off.pI (A := fun q => q = 21) ho rfl _ _) (fun q hq => ?_) (hi.put hs255 (by omega) hup htb) (fun g hg hbt hup => ?_)
                  · rw [hI_sI]
                    by_cases e : q = s ^^^ 1 <<< f
                    · rw [if_pos ⟨rfl, e⟩]; simp only [if_pos e]; rfl
                    · rw [if_neg (fun z => e z.2)]; simp only [if_neg e]; exact hb q hq
                  · show (if _ then _ else _) = true
                    by_cases e : g = f
                    · subst e; rw [if_pos rfl]
                    · split
                      · rfl
                      · exact hc g (by omega) hbt hup
        refine xq_iconst dX4_barRivals_86 ic0 ?_
        refine xq_istore dX4_barRivals_87 rfl ?_
        exact l4 9 0 B H1 (by omega) (by omega) ho hb hi (fun g hg => absurd hg (by omega))
  have l2 : ∀ (fz : Nat) (p : Nat) (B : Nat → Bool) (H1 : xH), uZ u - p < fz → p ≤ uZ u → Off (fun q => q = 21) H H1 → BaP H1 B → (∀ s, s < 256 → (B s = true ↔ ∃ q, q < p ∧ riv u m q = true ∧ fso H T q = s)) → Xq mX4_barRivals 3 0 0 30 [some (.ref 16), some (.ref t), some (.ref a), some (vN m), some (vN p), none] [] S H1 (fun R => ∃ H', (fun H' => Off (fun q => q = 21) H H' ∧ BaP H' (bar H u T m)) H' ∧ R = (none, S, H')) := by
    intro fz
    induction fz with
    | zero => intro p  B  H1  hn; exact absurd hn (by omega)
    | succ fz ih =>
      intro p  B  H1  hn hp ho hb hB
      have hu1 := hu.off ho (fun j hj => by omega); have hT1 := hT.off ho (fun j hj => by omega)
      refine xq_iload dX4_barRivals_30 rfl ?_
      refine xq_aload_n dX4_barRivals_32 rfl rfl ?_
      refine xq_getIE clX7 (by decide) rfl fl_RX4_85 dX4_barRivals_33 (St.s0 ha) hu1.sz ?_
      refine xq_icmp_geN dX4_barRivals_36 rfl (by omega) (by omega) ⟨fun h36 => ?_, fun h36 => ?_⟩
      · skip
        refine xq_aload_n dX4_barRivals_72 rfl rfl ?_
        refine xq_getF clX4 (by decide) rfl fl_RX4_25 dX4_barRivals_73 (Fx.s16 hF) (Fx.r16_6 hF) ?_
        refine xq_alen (v := nI 256) dX4_barRivals_76 (Fx.s21 hF) (by decide) rfl ?_
        refine xq_iconst dX4_barRivals_77 ic1 ?_
        refine xq_isubN dX4_barRivals_78 (by decide) ?_
        refine xq_istore dX4_barRivals_79 rfl ?_
        have hpz : uZ u = p := by omega
        exact l3 256 255 B H1 (by omega) (by omega) ho hb ⟨fun s hs e => by
          obtain ⟨q, a1, a2, a3⟩ := (hB s hs).mp e
          exact ⟨q, by omega, a2, by rw [a3, Nat.and_self]⟩, fun q hq hr => (hB _ (hF8 q hq)).mpr ⟨q, by omega, hr, rfl⟩, fun s hs h => absurd h (by omega)⟩
      · skip
        refine xq_aload_n dX4_barRivals_39 rfl rfl ?_
        refine xq_iload dX4_barRivals_40 rfl ?_
        refine xq_iload_n dX4_barRivals_42 rfl rfl ?_
        refine xq_callS3P gd_X4_isRival dX4_barRivals_43 ml_RX4_167 im_X4_isRival (by exact Nat.le_of_ble_eq_true rfl) (by decide) (c_isRival ha hu1 ok h36 hm) ?_
        refine xq_if_eqB dX4_barRivals_46 rfl ⟨fun h46 => ?_, fun h46 => ?_⟩
        · skip
          refine xq_iincN dX4_barRivals_66 ic1 rfl rfl ?_
          refine xq_goto dX4_barRivals_69 rfl ?_
          exact ih (p + 1) B H1 (by omega) (by omega) ho hb (fun s hs => by
            rw [hB s hs]
            constructor
            · rintro ⟨q, a1, a2, a3⟩; exact ⟨q, by omega, a2, a3⟩
            · rintro ⟨q, a1, a2, a3⟩
              by_cases e : q = p
              · subst e; rw [a2] at h46; cases h46
              · exact ⟨q, by omega, a2, a3⟩)
        · skip
          refine xq_aload_n dX4_barRivals_49 rfl rfl ?_
          refine xq_getF clX4 (by decide) rfl fl_RX4_25 dX4_barRivals_50 (Fx.s16 hF) (Fx.r16_6 hF) ?_
          refine xq_aload_n dX4_barRivals_53 rfl rfl ?_
          refine xq_aload_n dX4_barRivals_54 rfl rfl ?_
          refine xq_iload dX4_barRivals_55 rfl ?_
          refine xq_callV2P clX4 gd_X4_factsSo dX4_barRivals_57 ml_RX4_155 im_X4_factsSo se_X4_factsSo rfl (Fx.s16 hF) (by exact Nat.le_of_ble_eq_true rfl) (by decide) (c_factsSo hF ht ht24 ht45 hT1 hnf hro (by omega)) ?_
          have hf8 : fso H1 T p < 256 := fso_lt hnf
          have hfo := fso_off (T := T) (H := H) (H1 := H1) (fun j => ho.L (by omega) j) p
          have h255 : fso H1 T p &&& 255 = fso H T p := by rw [hfo] at hf8 ⊢; exact (Nat.and_two_pow_sub_one_eq_mod _ 8).trans (Nat.mod_eq_of_lt hf8)
          refine xq_sipush dX4_barRivals_60 sp255 ?_
          refine xq_iandN dX4_barRivals_63 ?_
          rw [h255]
          refine xq_iconst dX4_barRivals_64 ic1 ?_
          refine xq_zastN dX4_barRivals_65 (Fx.s21 hF) (by rw [hfo] at hf8; exact hf8) (by decide) (by decide) ?_
          refine xq_iincN dX4_barRivals_66 ic1 rfl rfl ?_
          refine xq_goto dX4_barRivals_69 rfl ?_
          refine ih (p + 1) (fun q => if q = fso H T p then true else B q) _ (by omega) (by omega) (Off.pI (A := fun q => q = 21) ho rfl _ _) (fun q hq => ?_) (fun s hs => ?_)
          · rw [hI_sI]
            by_cases e : q = fso H T p
            · rw [if_pos ⟨rfl, e⟩]; simp only [if_pos e]; rfl
            · rw [if_neg (fun z => e z.2)]; simp only [if_neg e]; exact hb q hq
          · show (if _ then _ else _) = true ↔ _
            by_cases e : s = fso H T p
            · rw [if_pos e]; exact ⟨fun _ => ⟨p, by omega, h46, e.symm⟩, fun _ => rfl⟩
            · rw [if_neg e, hB s hs]
              constructor
              · rintro ⟨q, a1, a2, a3⟩; exact ⟨q, by omega, a2, a3⟩
              · rintro ⟨q, a1, a2, a3⟩
                refine ⟨q, ?_, a2, a3⟩
                have : q ≠ p := fun z => e (by rw [← a3, z])
                omega
  have l1 : ∀ (fz : Nat) (s : Nat) (H1 : xH), 256 - s < fz → s ≤ 256 → Off (fun q => q = 21) H H1 → (∀ q, q < s → hI H1 21 q = nI 0) → Xq mX4_barRivals 3 0 0 3 [some (.ref 16), some (.ref t), some (.ref a), some (vN m), some (vN s), none] [] S H1 (fun R => ∃ H', (fun H' => Off (fun q => q = 21) H H' ∧ BaP H' (bar H u T m)) H' ∧ R = (none, S, H')) := by
    intro fz
    induction fz with
    | zero => intro s  H1  hn; exact absurd hn (by omega)
    | succ fz ih =>
      intro s  H1  hn hs ho hb
      refine xq_iload dX4_barRivals_3 rfl ?_
      refine xq_aload_n dX4_barRivals_5 rfl rfl ?_
      refine xq_getF clX4 (by decide) rfl fl_RX4_25 dX4_barRivals_6 (Fx.s16 hF) (Fx.r16_6 hF) ?_
      refine xq_alen (v := nI 256) dX4_barRivals_9 (Fx.s21 hF) (by decide) rfl ?_
      refine xq_icmp_geN dX4_barRivals_10 rfl (by omega) (by omega) ⟨fun h10 => ?_, fun h10 => ?_⟩
      · skip
        refine xq_iconst dX4_barRivals_27 ic0 ?_
        refine xq_istore dX4_barRivals_28 rfl ?_
        exact l2 (uZ u + 1) 0 (fun _ => false) H1 (by omega) (by omega) ho (fun q hq => hb q (by omega)) (fun s hs => ⟨fun z => (by cases z), fun ⟨q, z, _⟩ => absurd z (by omega)⟩)
      · skip
        refine xq_aload_n dX4_barRivals_13 rfl rfl ?_
        refine xq_getF clX4 (by decide) rfl fl_RX4_25 dX4_barRivals_14 (Fx.s16 hF) (Fx.r16_6 hF) ?_
        refine xq_iload dX4_barRivals_17 rfl ?_
        refine xq_iconst dX4_barRivals_19 ic0 ?_
        refine xq_zastN dX4_barRivals_20 (Fx.s21 hF) (by omega) (by decide) (by decide) ?_
        refine xq_iincN dX4_barRivals_21 ic1 rfl rfl ?_
        refine xq_goto dX4_barRivals_24 rfl ?_
        exact ih (s + 1) _ (by omega) (by omega) (Off.pI (A := fun q => q = 21) ho rfl _ _) (fun q hq => by
          rw [hI_sI]
          by_cases e : q = s
          · rw [if_pos ⟨rfl, e⟩]
          · rw [if_neg (fun z => e z.2)]; exact hb q (by omega))
  refine vq_intro (by decide) (by exact Nat.le_of_ble_eq_true rfl) rfl ?_
  refine xq_iconst dX4_barRivals_0 ic0 ?_
  refine xq_istore dX4_barRivals_1 rfl ?_
  exact l1 257 0 H (by omega) (by omega) Off.rf (fun q hq => absurd hq (by omega))
def ffs (B : Nat → Bool) (so n : Nat) : Int := fo (fun s (b : Int) => if (s &&& so == s) && (!(B s) && (decide (b < 0) || decide (pop s < pop b.toNat))) then (s : Int) else b) (-2) n
theorem ffs_bd (B : Nat → Bool) (so : Nat) : ∀ n, ffs B so n = -2 ∨ (0 ≤ ffs B so n ∧ ffs B so n < n)
  | 0 => Or.inl rfl
  | n + 1 => by
    have h := ffs_bd B so n
    have e : ffs B so (n + 1) = (n : Int) ∨ ffs B so (n + 1) = ffs B so n := by
      show (if _ then _ else _) = _ ∨ (if _ then _ else _) = _
      split
      · exact Or.inl rfl
      · exact Or.inr rfl
    omega
theorem rb_or2 (v w : Int64) (k : Nat) : rb (v ||| w) k = (rb v k || rb w k) := by
  unfold rb
  rw [Int64.toBitVec_or, BitVec.getLsbD_or]
theorem rb_0 (k : Nat) : rb (lN 0) k = false := by
  show (0#64).getLsbD k = false
  simp
theorem zI_toInt {b : Int} (h1 : -2147483648 ≤ b) (h2 : b < 2147483648) : (zI b).toInt = b := fb_ofI h1 h2
theorem zI_lt0 {b : Int} (h1 : -2147483648 ≤ b) (h2 : b < 2147483648) : zI b < 0 ↔ b < 0 := by
  rw [Int32.lt_iff_toInt_lt, zI_toInt h1 h2]; rfl
theorem zI_nat {b : Int} (h : 0 ≤ b) : zI b = nI b.toNat := by
  obtain ⟨n, rfl⟩ := Int.eq_ofNat_of_zero_le h
  rfl
theorem zI_n (n : Nat) : zI (n : Int) = nI n := rfl
theorem zm2 : (-2 : Int32) = zI (-2) := by decide +kernel
theorem zm1 : (-1 : Int32) = zI (-1) := by decide +kernel
theorem c_bitCountZ {b : Int} (h : 0 ≤ b) (h2 : b < 1024) : Pv mJ6_bitCount_0f7a4 0 [.int (zI b)] S H (vN (pop b.toNat)) := by
  rw [zI_nat h]
  exact c_bitCount (by omega)
theorem andn {a b : Nat} (ha : a < 256) (hb : b < 256) : (nI a &&& (nI b ^^^ (-1)) = 0) ↔ a &&& b = a := by
  have h1 : ∀ b : Fin 256, nI 255 &&& (nI b.val ^^^ (-1)) = nI (255 ^^^ b.val) := by decide +kernel
  have h2 : a &&& 255 = a := (Nat.and_two_pow_sub_one_eq_mod a 8).trans (Nat.mod_eq_of_lt ha)
  have h3 : nI a &&& (nI b ^^^ (-1)) = nI (a &&& (255 ^^^ b)) := by
    rw [← nq_and, ← h1 ⟨b, hb⟩, ← Int32.and_assoc, nq_and, h2]
  have h4 : a &&& (255 ^^^ b) = a ^^^ (a &&& b) := by rw [Nat.and_xor_distrib_left, h2]
  rw [h3, nq_eq0 (Nat.lt_of_le_of_lt Nat.and_le_left (by omega)), h4, xor_zero_iff]
  exact eq_comm
theorem ff_best {B : Nat → Bool} {so : Nat} {H3 : xH} {Q : xR → Prop} (hF : gFx S) (hso : so < 256) (hB : BaP H3 B) (hQ : Q (some (vZ (ffs B so 256)), S, H3)) : Xq mX4_fewestFacts 4 0 0 69 [some (.ref 16), some (.ref t), some (.ref a), some (vN m), none, none, some (vN so), some (.int (zI (-2))), some (vN 0), none] [] S H3 Q := by
  have l2 : ∀ (fz : Nat) (s : Nat) (b : Int), 256 - s < fz → s ≤ 256 → b = ffs B so s → Xq mX4_fewestFacts 4 0 0 69 [some (.ref 16), some (.ref t), some (.ref a), some (vN m), none, none, some (vN so), some (.int (zI b)), some (vN s), none] [] S H3 Q := by
    intro fz
    induction fz with
    | zero => intro s  b  hn; exact absurd hn (by omega)
    | succ fz ih =>
      intro s  b  hn hs hb
      have hbd := ffs_bd B so s; rw [← hb] at hbd
      refine xq_iload dX4_fewestFacts_69 rfl ?_
      refine xq_aload_n dX4_fewestFacts_71 rfl rfl ?_
      refine xq_getF clX4 (by decide) rfl fl_RX4_25 dX4_fewestFacts_72 (Fx.s16 hF) (Fx.r16_6 hF) ?_
      refine xq_alen (v := nI 256) dX4_fewestFacts_75 (Fx.s21 hF) (by decide) rfl ?_
      refine xq_icmp_geN dX4_fewestFacts_76 rfl (by omega) (by omega) ⟨fun h76 => ?_, fun h76 => ?_⟩
      · skip
        refine xq_iload dX4_fewestFacts_139 rfl ?_
        refine xq_iret dX4_fewestFacts_141 rfl ?_
        rw [hb, show s = 256 by omega]; exact hQ
      · skip
        have hp1 := pop_le s; have hbn := (B s).toNat_le
        refine xq_iload dX4_fewestFacts_79 rfl ?_
        refine xq_if_lt dX4_fewestFacts_81 rfl ⟨fun h81 => ?_, fun h81 => ?_⟩
        · skip
          refine xq_iconst dX4_fewestFacts_97 ic1 ?_
          refine xq_goto dX4_fewestFacts_98 rfl ?_
          refine xq_istore dX4_fewestFacts_102 rfl ?_
          refine xq_iload dX4_fewestFacts_104 rfl ?_
          refine xq_iload dX4_fewestFacts_106 rfl ?_
          refine xq_iconst dX4_fewestFacts_108 icm1 ?_
          refine xq_ixor dX4_fewestFacts_109 ?_
          refine xq_iand dX4_fewestFacts_110 ?_
          refine xq_if_ne dX4_fewestFacts_111 rfl ⟨fun h111 => ?_, fun h111 => ?_⟩
          · skip
            refine xq_iincN dX4_fewestFacts_133 ic1 rfl rfl ?_
            refine xq_goto dX4_fewestFacts_136 rfl ?_
            exact xq_fgt (ih (s + 1) b (by omega) (by omega) (by show _ = (if _ then _ else _); rw [show fo (fun s (b : Int) => if (s &&& so == s) && (!(B s) && (decide (b < 0) || decide (pop s < pop b.toNat))) then (s : Int) else b) (-2) s = b from hb.symm]; rw [show (s &&& so == s) = false by simpa using fun z => h111 ((andn (by omega) hso).mpr z)]; simp)) (by exact And.intro rfl (And.intro rfl (And.intro rfl (And.intro rfl (And.intro rfl (And.intro rfl (And.intro rfl trivial)))))))
          · skip
            refine xq_aload_n dX4_fewestFacts_114 rfl rfl ?_
            refine xq_getF clX4 (by decide) rfl fl_RX4_25 dX4_fewestFacts_115 (Fx.s16 hF) (Fx.r16_6 hF) ?_
            refine xq_iload dX4_fewestFacts_118 rfl ?_
            refine xq_zaldN dX4_fewestFacts_120 (Fx.s21 hF) (by omega) (by decide) (hB s (by omega)) ?_
            refine xq_if_neN dX4_fewestFacts_121 rfl (by omega) ⟨fun h121 => ?_, fun h121 => ?_⟩
            · skip
              refine xq_iincN dX4_fewestFacts_133 ic1 rfl rfl ?_
              refine xq_goto dX4_fewestFacts_136 rfl ?_
              exact xq_fgt (ih (s + 1) b (by omega) (by omega) (by show _ = (if _ then _ else _); rw [show fo (fun s (b : Int) => if (s &&& so == s) && (!(B s) && (decide (b < 0) || decide (pop s < pop b.toNat))) then (s : Int) else b) (-2) s = b from hb.symm]; rw [toNat_inj1 h121]; simp)) (by exact And.intro rfl (And.intro rfl (And.intro rfl (And.intro rfl (And.intro rfl (And.intro rfl (And.intro rfl trivial)))))))
            · skip
              refine xq_iload dX4_fewestFacts_124 rfl ?_
              refine xq_if_eqN dX4_fewestFacts_126 rfl (by omega) ⟨fun h126 => ?_, fun h126 => ?_⟩
              · skip
                first | exact absurd h126 (by decide) | exact absurd rfl h126
              · skip
                refine xq_iload dX4_fewestFacts_129 rfl ?_
                refine xq_istore dX4_fewestFacts_131 rfl ?_
                refine xq_iincN dX4_fewestFacts_133 ic1 rfl rfl ?_
                refine xq_goto dX4_fewestFacts_136 rfl ?_
                exact xq_fgt (ih (s + 1) (s : Int) (by omega) (by omega) (by show _ = (if _ then _ else _); rw [show fo (fun s (b : Int) => if (s &&& so == s) && (!(B s) && (decide (b < 0) || decide (pop s < pop b.toNat))) then (s : Int) else b) (-2) s = b from hb.symm, show (s &&& so == s) = true by simpa using (andn (by omega) hso).mp h111, toNat_inj0 h121]; rw [show decide (b < 0) = true by simpa using (zI_lt0 (by omega) (by omega)).mp h81]; simp)) (by exact And.intro rfl (And.intro rfl (And.intro rfl (And.intro rfl (And.intro rfl (And.intro rfl (And.intro rfl trivial)))))))
        · skip
          have hb0 : 0 ≤ b := by
            have : ¬ b < 0 := fun z => h81 ((zI_lt0 (by omega) (by omega)).mpr z)
            omega
          have hp2 := pop_le b.toNat
          refine xq_iload dX4_fewestFacts_84 rfl ?_
          refine xq_callS1P gd_J6_bitCount_0f7a4 dX4_fewestFacts_86 ml_RX4_159 im_J6_bitCount_0f7a4 (by exact Nat.le_of_ble_eq_true rfl) (by decide) (c_bitCount (by omega)) ?_
          refine xq_iload dX4_fewestFacts_89 rfl ?_
          refine xq_callS1P gd_J6_bitCount_0f7a4 dX4_fewestFacts_91 ml_RX4_159 im_J6_bitCount_0f7a4 (by exact Nat.le_of_ble_eq_true rfl) (by decide) (c_bitCountZ hb0 (by omega)) ?_
          refine xq_icmp_geN dX4_fewestFacts_94 rfl (by omega) (by omega) ⟨fun h94 => ?_, fun h94 => ?_⟩
          · skip
            refine xq_iconst dX4_fewestFacts_101 ic0 ?_
            refine xq_istore dX4_fewestFacts_102 rfl ?_
            refine xq_iload dX4_fewestFacts_104 rfl ?_
            refine xq_iload dX4_fewestFacts_106 rfl ?_
            refine xq_iconst dX4_fewestFacts_108 icm1 ?_
            refine xq_ixor dX4_fewestFacts_109 ?_
            refine xq_iand dX4_fewestFacts_110 ?_
            refine xq_if_ne dX4_fewestFacts_111 rfl ⟨fun h111 => ?_, fun h111 => ?_⟩
            · skip
              refine xq_iincN dX4_fewestFacts_133 ic1 rfl rfl ?_
              refine xq_goto dX4_fewestFacts_136 rfl ?_
              exact xq_fgt (ih (s + 1) b (by omega) (by omega) (by show _ = (if _ then _ else _); rw [show fo (fun s (b : Int) => if (s &&& so == s) && (!(B s) && (decide (b < 0) || decide (pop s < pop b.toNat))) then (s : Int) else b) (-2) s = b from hb.symm]; rw [show (s &&& so == s) = false by simpa using fun z => h111 ((andn (by omega) hso).mpr z)]; simp)) (by exact And.intro rfl (And.intro rfl (And.intro rfl (And.intro rfl (And.intro rfl (And.intro rfl (And.intro rfl trivial)))))))
            · skip
              refine xq_aload_n dX4_fewestFacts_114 rfl rfl ?_
              refine xq_getF clX4 (by decide) rfl fl_RX4_25 dX4_fewestFacts_115 (Fx.s16 hF) (Fx.r16_6 hF) ?_
              refine xq_iload dX4_fewestFacts_118 rfl ?_
              refine xq_zaldN dX4_fewestFacts_120 (Fx.s21 hF) (by omega) (by decide) (hB s (by omega)) ?_
              refine xq_if_neN dX4_fewestFacts_121 rfl (by omega) ⟨fun h121 => ?_, fun h121 => ?_⟩
              · skip
                refine xq_iincN dX4_fewestFacts_133 ic1 rfl rfl ?_
                refine xq_goto dX4_fewestFacts_136 rfl ?_
                exact xq_fgt (ih (s + 1) b (by omega) (by omega) (by show _ = (if _ then _ else _); rw [show fo (fun s (b : Int) => if (s &&& so == s) && (!(B s) && (decide (b < 0) || decide (pop s < pop b.toNat))) then (s : Int) else b) (-2) s = b from hb.symm]; rw [toNat_inj1 h121]; simp)) (by exact And.intro rfl (And.intro rfl (And.intro rfl (And.intro rfl (And.intro rfl (And.intro rfl (And.intro rfl trivial)))))))
              · skip
                refine xq_iload dX4_fewestFacts_124 rfl ?_
                refine xq_if_eqN dX4_fewestFacts_126 rfl (by omega) ⟨fun h126 => ?_, fun h126 => ?_⟩
                · skip
                  refine xq_iincN dX4_fewestFacts_133 ic1 rfl rfl ?_
                  refine xq_goto dX4_fewestFacts_136 rfl ?_
                  exact xq_fgt (ih (s + 1) b (by omega) (by omega) (by show _ = (if _ then _ else _); rw [show fo (fun s (b : Int) => if (s &&& so == s) && (!(B s) && (decide (b < 0) || decide (pop s < pop b.toNat))) then (s : Int) else b) (-2) s = b from hb.symm]; rw [show decide (b < 0) = false by simpa using fun z => h81 ((zI_lt0 (by omega) (by omega)).mpr z), show decide (pop s < pop b.toNat) = false by simpa using h94]; simp)) (by exact And.intro rfl (And.intro rfl (And.intro rfl (And.intro rfl (And.intro rfl (And.intro rfl (And.intro rfl trivial)))))))
                · skip
                  first | exact absurd h126 (by decide) | exact absurd rfl h126
          · skip
            refine xq_iconst dX4_fewestFacts_97 ic1 ?_
            refine xq_goto dX4_fewestFacts_98 rfl ?_
            refine xq_istore dX4_fewestFacts_102 rfl ?_
            refine xq_iload dX4_fewestFacts_104 rfl ?_
            refine xq_iload dX4_fewestFacts_106 rfl ?_
            refine xq_iconst dX4_fewestFacts_108 icm1 ?_
            refine xq_ixor dX4_fewestFacts_109 ?_
            refine xq_iand dX4_fewestFacts_110 ?_
            refine xq_if_ne dX4_fewestFacts_111 rfl ⟨fun h111 => ?_, fun h111 => ?_⟩
            · skip
              refine xq_iincN dX4_fewestFacts_133 ic1 rfl rfl ?_
              refine xq_goto dX4_fewestFacts_136 rfl ?_
              exact xq_fgt (ih (s + 1) b (by omega) (by omega) (by show _ = (if _ then _ else _); rw [show fo (fun s (b : Int) => if (s &&& so == s) && (!(B s) && (decide (b < 0) || decide (pop s < pop b.toNat))) then (s : Int) else b) (-2) s = b from hb.symm]; rw [show (s &&& so == s) = false by simpa using fun z => h111 ((andn (by omega) hso).mpr z)]; simp)) (by exact And.intro rfl (And.intro rfl (And.intro rfl (And.intro rfl (And.intro rfl (And.intro rfl (And.intro rfl trivial)))))))
            · skip
              refine xq_aload_n dX4_fewestFacts_114 rfl rfl ?_
              refine xq_getF clX4 (by decide) rfl fl_RX4_25 dX4_fewestFacts_115 (Fx.s16 hF) (Fx.r16_6 hF) ?_
              refine xq_iload dX4_fewestFacts_118 rfl ?_
              refine xq_zaldN dX4_fewestFacts_120 (Fx.s21 hF) (by omega) (by decide) (hB s (by omega)) ?_
              refine xq_if_neN dX4_fewestFacts_121 rfl (by omega) ⟨fun h121 => ?_, fun h121 => ?_⟩
              · skip
                refine xq_iincN dX4_fewestFacts_133 ic1 rfl rfl ?_
                refine xq_goto dX4_fewestFacts_136 rfl ?_
                exact xq_fgt (ih (s + 1) b (by omega) (by omega) (by show _ = (if _ then _ else _); rw [show fo (fun s (b : Int) => if (s &&& so == s) && (!(B s) && (decide (b < 0) || decide (pop s < pop b.toNat))) then (s : Int) else b) (-2) s = b from hb.symm]; rw [toNat_inj1 h121]; simp)) (by exact And.intro rfl (And.intro rfl (And.intro rfl (And.intro rfl (And.intro rfl (And.intro rfl (And.intro rfl trivial)))))))
              · skip
                refine xq_iload dX4_fewestFacts_124 rfl ?_
                refine xq_if_eqN dX4_fewestFacts_126 rfl (by omega) ⟨fun h126 => ?_, fun h126 => ?_⟩
                · skip
                  first | exact absurd h126 (by decide) | exact absurd rfl h126
                · skip
                  refine xq_iload dX4_fewestFacts_129 rfl ?_
                  refine xq_istore dX4_fewestFacts_131 rfl ?_
                  refine xq_iincN dX4_fewestFacts_133 ic1 rfl rfl ?_
                  refine xq_goto dX4_fewestFacts_136 rfl ?_
                  exact xq_fgt (ih (s + 1) (s : Int) (by omega) (by omega) (by show _ = (if _ then _ else _); rw [show fo (fun s (b : Int) => if (s &&& so == s) && (!(B s) && (decide (b < 0) || decide (pop s < pop b.toNat))) then (s : Int) else b) (-2) s = b from hb.symm, show (s &&& so == s) = true by simpa using (andn (by omega) hso).mp h111, toNat_inj0 h121]; rw [show decide (pop s < pop b.toNat) = true by simpa using h94]; simp)) (by exact And.intro rfl (And.intro rfl (And.intro rfl (And.intro rfl (And.intro rfl (And.intro rfl (And.intro rfl trivial)))))))
  exact l2 257 0 (-2) (by omega) (by omega) rfl
theorem c_fewestFacts (hF : gFx S) (ha : gSt S a) (h67 : 67 ≤ a) (hu : StP H a u) (ok : StOk u) (ht : gTx S t) (ht24 : 24 ≤ t) (ht45 : t ≤ 45) (hT : TxP H t T) (hnk : tNk T ≤ 64) (hnf : tNf T ≤ 8) (hfa : ∀ f, f < tNf T → tRo T f < 64 ∧ rb (tNe T f) (tRo T f) = true ∧ NdOk T (tNe T f)) (hmi : MiP H z) (hz7 : z + 500 < 2147483648) (hm : m < 64) : Hv mX4_fewestFacts 4 [.ref 16, .ref t, .ref a, vN m] S H vZ (fun (x : Int) H' => Off (fun q => 16 ≤ q ∧ q ≤ 21) H H' ∧ (∃ t2, t2 ≤ z + 448 ∧ MiP H' t2) ∧ JnP H' u ∧ ∃ Hj, (∀ f, f < tNf T → ∀ p, p < uZ u → rx Hj p (tRo T f) = kv T u (tRo T f) p) ∧ x = ffs (bar Hj u T m) (fso Hj T (uRl u)) 256) := by
  have hz := ok.n; have hnp := ok.np; have hrl := ok.rl
  have l1 : ∀ (fz : Nat) (f : Nat) (w : Int64), tNf T - f < fz → f ≤ tNf T → (∀ k, rb w k = ex (fun g => rb (tNe T g) k) f) → Xq mX4_fewestFacts 4 0 0 6 [some (.ref 16), some (.ref t), some (.ref a), some (vN m), some (.long w), none, some (vN f), none, none, none] [] S H (fun R => ∃ x H', (fun (x : Int) H' => Off (fun q => 16 ≤ q ∧ q ≤ 21) H H' ∧ (∃ t2, t2 ≤ z + 448 ∧ MiP H' t2) ∧ JnP H' u ∧ ∃ Hj, (∀ f, f < tNf T → ∀ p, p < uZ u → rx Hj p (tRo T f) = kv T u (tRo T f) p) ∧ x = ffs (bar Hj u T m) (fso Hj T (uRl u)) 256) x H' ∧ R = (some (vZ x), S, H')) := by
    intro fz
    induction fz with
    | zero => intro f  w  hn; exact absurd hn (by omega)
    | succ fz ih =>
      intro f  w  hn hf hw
      refine xq_iload dX4_fewestFacts_6 rfl ?_
      refine xq_aload_n dX4_fewestFacts_8 rfl rfl ?_
      refine xq_getF clX8 (by decide) rfl fl_RX4_134 dX4_fewestFacts_9 (Tx.s0 ht) (Tx.r2 ht) ?_
      refine xq_getIE clX5 (by decide) rfl fl_RX4_138 dX4_fewestFacts_12 (Nm.s0 (Tx.n5 ht)) hT.nf ?_
      refine xq_icmp_geN dX4_fewestFacts_15 rfl (by omega) (by omega) ⟨fun h15 => ?_, fun h15 => ?_⟩
      · skip
        have hff : tNf T = f := by omega
        have hnd : NdOk T w := fun k hk hb => by
          rw [hw k, ex_iff] at hb
          obtain ⟨g, hg, hgb⟩ := hb
          have hn := (hfa g (by omega)).2.2 k hk hgb
          have up : ∀ j, rb (tNe T g) j = true → rb w j = true := fun j hj => by rw [hw j, ex_iff]; exact ⟨g, hg, hj⟩
          exact ⟨hn.1, hn.2.1, fun e => up _ (hn.2.2.1 e), fun e => up _ (hn.2.2.2 e)⟩
        have hro : ∀ f, f < tNf T → tRo T f < 64 := fun f hf => (hfa f hf).1
        refine xq_aload_n dX4_fewestFacts_36 rfl rfl ?_
        refine xq_aload_n dX4_fewestFacts_37 rfl rfl ?_
        refine xq_aload_n dX4_fewestFacts_38 rfl rfl ?_
        refine xq_lload dX4_fewestFacts_39 rfl ?_
        refine xq_callV3N clX4 gd_X4_judge dX4_fewestFacts_41 ml_RX4_144 im_X4_judge se_X4_judge rfl (Fx.s16 hF) (by exact Nat.le_of_ble_eq_true rfl) (by decide) (c_judge hF ha h67 hu ok ht ht24 ht45 hT hnk hnd hmi hz7) ?_
        intro H41 p41
        obtain ⟨o41, m41, j41, r41⟩ := p41
        have hu41 := hu.off o41 (fun j hj => by omega); have hT41 := hT.off o41 (fun j hj => by omega)
        refine xq_aload_n dX4_fewestFacts_44 rfl rfl ?_
        refine xq_aload_n dX4_fewestFacts_45 rfl rfl ?_
        refine xq_aload_n dX4_fewestFacts_46 rfl rfl ?_
        refine xq_iload_n dX4_fewestFacts_47 rfl rfl ?_
        refine xq_callV3N clX4 gd_X4_barRivals dX4_fewestFacts_48 ml_RX4_148 im_X4_barRivals se_X4_barRivals rfl (Fx.s16 hF) (by exact Nat.le_of_ble_eq_true rfl) (by decide) (c_barRivals hF ha h67 hu41 ok ht ht24 ht45 hT41 hnf hro hm) ?_
        intro H48 p48
        obtain ⟨o48, b48⟩ := p48
        have hu48 := hu41.off o48 (fun j hj => by omega); have hT48 := hT41.off o48 (fun j hj => by omega)
        have hfo : fso H48 T (uRl u) = fso H41 T (uRl u) := fso_off (fun j => o48.L (by omega) j) _
        refine xq_aload_n dX4_fewestFacts_51 rfl rfl ?_
        refine xq_aload_n dX4_fewestFacts_52 rfl rfl ?_
        refine xq_aload_n dX4_fewestFacts_53 rfl rfl ?_
        refine xq_getIE clX7 (by decide) rfl fl_RX4_152 dX4_fewestFacts_54 (St.s0 ha) hu48.f5 ?_
        refine xq_callV2P clX4 gd_X4_factsSo dX4_fewestFacts_57 ml_RX4_155 im_X4_factsSo se_X4_factsSo rfl (Fx.s16 hF) (by exact Nat.le_of_ble_eq_true rfl) (by decide) (c_factsSo hF ht ht24 ht45 hT48 hnf hro (by omega)) ?_
        rw [hfo]
        refine xq_istore dX4_fewestFacts_60 rfl ?_
        refine xq_bipush dX4_fewestFacts_62 bpm2 ?_
        rw [zm2]
        refine xq_istore dX4_fewestFacts_64 rfl ?_
        refine xq_iconst dX4_fewestFacts_66 ic0 ?_
        refine xq_istore dX4_fewestFacts_67 rfl ?_
        refine xq_fgt (ff_best hF (fso_lt hnf) b48 ?_) (by exact And.intro rfl (And.intro rfl (And.intro rfl (And.intro rfl (And.intro rfl (And.intro rfl (And.intro rfl trivial)))))))
        obtain ⟨t2, a1, a2⟩ := m41
        exact ⟨_, H48, ⟨(o41.mo (fun q h => by omega)).tr (o48.mo (fun q h => by omega)), ⟨t2, a1, a2.off o48 (by omega) (by omega)⟩, j41.off (o48.I (by omega) 5) (fun q => o48.I (by omega) q), H41, fun f hf p hp => r41 _ (hro f hf) (by rw [hw, ex_iff]; exact ⟨f, by omega, (hfa f hf).2.1⟩) p hp, rfl⟩, rfl⟩
      · skip
        refine xq_lload dX4_fewestFacts_18 rfl ?_
        refine xq_aload_n dX4_fewestFacts_20 rfl rfl ?_
        refine xq_getF clX8 (by decide) rfl fl_RX4_141 dX4_fewestFacts_21 (Tx.s0 ht) (Tx.r8 ht) ?_
        refine xq_iload dX4_fewestFacts_24 rfl ?_
        refine xq_laldN dX4_fewestFacts_26 (Tx.s15 ht) (by omega) (by decide) ((hT.fa f h15).2.2) ?_
        refine xq_lor dX4_fewestFacts_27 ?_
        refine xq_lstoreX dX4_fewestFacts_28 rfl rfl ?_
        refine xq_iincN dX4_fewestFacts_30 ic1 rfl rfl ?_
        refine xq_goto dX4_fewestFacts_33 rfl ?_
        exact ih (f + 1) _ (by omega) (by omega) (fun k => by rw [rb_or2, hw k, ex_s])
  refine vq_intro (by decide) (by exact Nat.le_of_ble_eq_true rfl) rfl ?_
  refine xq_lconst dX4_fewestFacts_0 lc0 ?_
  refine xq_lstoreX dX4_fewestFacts_1 rfl rfl ?_
  refine xq_iconst dX4_fewestFacts_3 ic0 ?_
  refine xq_istore dX4_fewestFacts_4 rfl ?_
  exact xq_fgt (l1 (tNf T + 1) 0 (lN 0) (by omega) (by omega) (fun k => by rw [rb_0]; rfl)) (by exact And.intro rfl (And.intro rfl (And.intro rfl (And.intro rfl (And.intro rfl (And.intro rfl trivial))))))
end FF
