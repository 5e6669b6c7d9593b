/-! ===== Reader: the lines without formulas ===== -/
section LI
variable {S : xS} {H H1 : xH} {k p q f i j l m n c t v : Nat} {s : uTk} {T : uTx}
def setT (T : uTx) (a k v : Nat) : uTx := (fun x y => if x = a ∧ y = k then v else T.1 x y, T.2)
/-- a line read: where the fault is said and what, or how far and the text -/
abbrev rLn : Type := (Nat × Nat) ⊕ (Nat × uTx)
def lnB (r : rLn) : Bool := match r with | .inl _ => false | .inr _ => true
def LnQ (H H' : xH) (t : Nat) (s : uTk) (r : rLn) : Prop := Off (fun q => q = 2 ∨ (8 ≤ q ∧ q < 16) ∨ (t ≤ q ∧ q < t + 21)) H H' ∧ match r with
  | .inl (c, m) => hI H' 2 7 = nI c ∧ hI H' 2 8 = zI (kP s m) ∧ hI H' 2 6 = hI H 2 6
  | .inr (m, T') => TrP H' s m ∧ hI H' 2 7 = hI H 2 7 ∧ hI H' 2 8 = hI H 2 8 ∧ TxP H' t T' ∧ hI H' (t + 7) 4 = nI (tNk T')
def askT (T : uTx) (v : Nat) : uTx := setT (setT T 13 (tNa T) v) 0 5 (tNa T + 1)
def shyT (T : uTx) (v : Nat) : uTx := setT T 0 6 (v + 1)
def seeT (T : uTx) (v : Nat) : uTx := setT T 0 7 (v + 1)
def askR (s : uTk) (n : Nat) (T : uTx) : rLn := if 12 ≤ tNa T then .inl (2, n) else if numB s (n + 1) 99 = false then .inl (numF s (n + 1), n + 1) else .inr (n + 2, askT T (kV s (n + 1)))
def shyR (s : uTk) (n : Nat) (T : uTx) : rLn := if tSh T ≠ 0 then .inl (3, n) else if numB s (n + 1) 100 = false then .inl (numF s (n + 1), n + 1) else .inr (n + 2, shyT T (kV s (n + 1)))
def sedR (s : uTk) (n : Nat) (T : uTx) : rLn := if tSd T ≠ 0 then .inl (3, n) else if numB s (n + 1) 99999 = false then .inl (numF s (n + 1), n + 1) else .inr (n + 2, seeT T (kV s (n + 1)))
theorem TrP.st (h : TrP H s n) (m : Nat) : TrP (sI H 2 5 (nI m)) s m := ⟨⟨by rw [hI_sI, if_neg (by omega)]; exact h.1.1, by rw [hI_sI, if_neg (by omega)]; exact h.1.2.1, fun j hj => by rw [hI_sI, if_neg (by omega), hI_sI, if_neg (by omega), hI_sI, if_neg (by omega)]; exact h.1.2.2 j hj⟩, by rw [hI_sI, if_pos ⟨rfl, rfl⟩]⟩
theorem TrP.pI (h : TrP H s n) {a : Nat} (ha : a ≠ 2 ∧ a ≠ 4 ∧ a ≠ 5 ∧ a ≠ 6) (k : Nat) (w : Int32) : TrP (sI H a k w) s n := ⟨⟨by rw [hI_sI, if_neg (by omega)]; exact h.1.1, by rw [hI_sI, if_neg (by omega)]; exact h.1.2.1, fun j hj => by rw [hI_sI, if_neg (by omega), hI_sI, if_neg (by omega), hI_sI, if_neg (by omega)]; exact h.1.2.2 j hj⟩, by rw [hI_sI, if_neg (by omega)]; exact h.2⟩
theorem TxP.ask (h : TxP H t T) (ht24 : 24 ≤ t)  : TxP (sI (sI H (t + 18) (tNa T) (nI v)) t 12 (nI (tNa T + 1))) t (askT T v) := by
  obtain ⟨h1, h2, h3, h4, h5, h6, h7, h8, h9, h10, h11, h12, h13, h14, h15, h16, h17⟩ := h
  exact ⟨(by rw [hI_sI, if_neg (by omega)]; rw [hI_sI, if_neg (by omega)]; exact h1), (by rw [hI_sI, if_neg (by omega)]; rw [hI_sI, if_neg (by omega)]; exact h2), (by rw [hI_sI, if_neg (by omega)]; rw [hI_sI, if_neg (by omega)]; exact h3), (by rw [hI_sI, if_neg (by omega)]; rw [hI_sI, if_neg (by omega)]; exact h4), (fun k hk => ⟨by rw [hI_sI, if_neg (by omega)]; rw [hI_sI, if_neg (by omega)]; exact (h5 k hk).1, by rw [hI_sI, if_neg (by omega)]; rw [hI_sI, if_neg (by omega)]; exact (h5 k hk).2.1, by rw [hI_sI, if_neg (by omega)]; rw [hI_sI, if_neg (by omega)]; exact (h5 k hk).2.2⟩), (fun k hk => ⟨by rw [hI_sI, if_neg (by omega)]; rw [hI_sI, if_neg (by omega)]; exact (h6 k hk).1, by rw [hI_sI, if_neg (by omega)]; rw [hI_sI, if_neg (by omega)]; exact (h6 k hk).2⟩), (fun k hk => ⟨by rw [hI_sI, if_neg (by omega)]; rw [hI_sI, if_neg (by omega)]; exact (h7 k hk).1, by rw [hI_sI, if_neg (by omega)]; rw [hI_sI, if_neg (by omega)]; exact (h7 k hk).2⟩), (fun k hk => by rw [hI_sI, if_neg (by omega)]; rw [hI_sI, if_neg (by omega)]; exact (h8 k hk)), (fun k hk => ⟨by rw [hI_sI, if_neg (by omega)]; rw [hI_sI, if_neg (by omega)]; exact (h9 k hk).1, by rw [hI_sI, if_neg (by omega)]; rw [hI_sI, if_neg (by omega)]; exact (h9 k hk).2.1, (h9 k hk).2.2⟩), (by rw [hI_sI, if_neg (by omega)]; rw [hI_sI, if_neg (by omega)]; exact h10), (fun k hk => ⟨by rw [hI_sI, if_neg (by omega)]; rw [hI_sI, if_neg (by omega)]; exact (h11 k hk).1, by rw [hI_sI, if_neg (by omega)]; rw [hI_sI, if_neg (by omega)]; exact (h11 k hk).2⟩), (by rw [hI_sI, if_pos ⟨rfl, rfl⟩]; rfl), (fun k hk => by
    have hk : k < tNa T + 1 := hk
    rw [hI_sI, if_neg (by omega), hI_sI]
    show _ = nI (if 13 = 13 ∧ k = tNa T then v else tAh T k)
    by_cases e : k = tNa T
    · rw [if_pos ⟨rfl, e⟩, if_pos ⟨rfl, e⟩]
    · rw [if_neg (fun z => e z.2), if_neg (fun z => e z.2)]; exact h13 k (by omega)), (fun k hk => ⟨(h14 k hk).1, fun e => by rw [hI_sI, if_neg (by omega)]; rw [hI_sI, if_neg (by omega)]; exact (h14 k hk).2 e⟩), (by rw [hI_sI, if_neg (by omega)]; rw [hI_sI, if_neg (by omega)]; exact h15), (by rw [hI_sI, if_neg (by omega)]; rw [hI_sI, if_neg (by omega)]; exact h16), (by rw [hI_sI, if_neg (by omega)]; rw [hI_sI, if_neg (by omega)]; exact h17)⟩
theorem TxP.shy (h : TxP H t T) (ht24 : 24 ≤ t)  : TxP (sI H t 16 (nI v)) t (shyT T v) := by
  obtain ⟨h1, h2, h3, h4, h5, h6, h7, h8, h9, h10, h11, h12, h13, h14, h15, h16, h17⟩ := h
  exact ⟨(by rw [hI_sI, if_neg (by omega)]; exact h1), (by rw [hI_sI, if_neg (by omega)]; exact h2), (by rw [hI_sI, if_neg (by omega)]; exact h3), (by rw [hI_sI, if_neg (by omega)]; exact h4), (fun k hk => ⟨by rw [hI_sI, if_neg (by omega)]; exact (h5 k hk).1, by rw [hI_sI, if_neg (by omega)]; exact (h5 k hk).2.1, by rw [hI_sI, if_neg (by omega)]; exact (h5 k hk).2.2⟩), (fun k hk => ⟨by rw [hI_sI, if_neg (by omega)]; exact (h6 k hk).1, by rw [hI_sI, if_neg (by omega)]; exact (h6 k hk).2⟩), (fun k hk => ⟨by rw [hI_sI, if_neg (by omega)]; exact (h7 k hk).1, by rw [hI_sI, if_neg (by omega)]; exact (h7 k hk).2⟩), (fun k hk => by rw [hI_sI, if_neg (by omega)]; exact (h8 k hk)), (fun k hk => ⟨by rw [hI_sI, if_neg (by omega)]; exact (h9 k hk).1, by rw [hI_sI, if_neg (by omega)]; exact (h9 k hk).2.1, (h9 k hk).2.2⟩), (by rw [hI_sI, if_neg (by omega)]; exact h10), (fun k hk => ⟨by rw [hI_sI, if_neg (by omega)]; exact (h11 k hk).1, by rw [hI_sI, if_neg (by omega)]; exact (h11 k hk).2⟩), (by rw [hI_sI, if_neg (by omega)]; exact h12), (fun k hk => by rw [hI_sI, if_neg (by omega)]; exact (h13 k hk)), (fun k hk => ⟨(h14 k hk).1, fun e => by rw [hI_sI, if_neg (by omega)]; exact (h14 k hk).2 e⟩), (by rw [hI_sI, if_pos ⟨rfl, rfl⟩]; show _ = (if v + 1 = 0 then _ else nI (v + 1 - 1)); rw [if_neg (by omega)]; rfl), (by rw [hI_sI, if_neg (by omega)]; exact h16), (by rw [hI_sI, if_neg (by omega)]; exact h17)⟩
theorem TxP.see (h : TxP H t T) (ht24 : 24 ≤ t)  : TxP (sI H t 17 (nI v)) t (seeT T v) := by
  obtain ⟨h1, h2, h3, h4, h5, h6, h7, h8, h9, h10, h11, h12, h13, h14, h15, h16, h17⟩ := h
  exact ⟨(by rw [hI_sI, if_neg (by omega)]; exact h1), (by rw [hI_sI, if_neg (by omega)]; exact h2), (by rw [hI_sI, if_neg (by omega)]; exact h3), (by rw [hI_sI, if_neg (by omega)]; exact h4), (fun k hk => ⟨by rw [hI_sI, if_neg (by omega)]; exact (h5 k hk).1, by rw [hI_sI, if_neg (by omega)]; exact (h5 k hk).2.1, by rw [hI_sI, if_neg (by omega)]; exact (h5 k hk).2.2⟩), (fun k hk => ⟨by rw [hI_sI, if_neg (by omega)]; exact (h6 k hk).1, by rw [hI_sI, if_neg (by omega)]; exact (h6 k hk).2⟩), (fun k hk => ⟨by rw [hI_sI, if_neg (by omega)]; exact (h7 k hk).1, by rw [hI_sI, if_neg (by omega)]; exact (h7 k hk).2⟩), (fun k hk => by rw [hI_sI, if_neg (by omega)]; exact (h8 k hk)), (fun k hk => ⟨by rw [hI_sI, if_neg (by omega)]; exact (h9 k hk).1, by rw [hI_sI, if_neg (by omega)]; exact (h9 k hk).2.1, (h9 k hk).2.2⟩), (by rw [hI_sI, if_neg (by omega)]; exact h10), (fun k hk => ⟨by rw [hI_sI, if_neg (by omega)]; exact (h11 k hk).1, by rw [hI_sI, if_neg (by omega)]; exact (h11 k hk).2⟩), (by rw [hI_sI, if_neg (by omega)]; exact h12), (fun k hk => by rw [hI_sI, if_neg (by omega)]; exact (h13 k hk)), (fun k hk => ⟨(h14 k hk).1, fun e => by rw [hI_sI, if_neg (by omega)]; exact (h14 k hk).2 e⟩), (by rw [hI_sI, if_neg (by omega)]; exact h15), (by rw [hI_sI, if_pos ⟨rfl, rfl⟩]; show _ = (if v + 1 = 0 then _ else nI (v + 1 - 1)); rw [if_neg (by omega)]; rfl), (by rw [hI_sI, if_neg (by omega)]; exact h17)⟩
theorem TxP.st2 (h : TxP H t T) (ht24 : 24 ≤ t) {m : Nat} : TxP (sI H 2 5 (nI m)) t (T) := by
  obtain ⟨h1, h2, h3, h4, h5, h6, h7, h8, h9, h10, h11, h12, h13, h14, h15, h16, h17⟩ := h
  exact ⟨(by rw [hI_sI, if_neg (by omega)]; exact h1), (by rw [hI_sI, if_neg (by omega)]; exact h2), (by rw [hI_sI, if_neg (by omega)]; exact h3), (by rw [hI_sI, if_neg (by omega)]; exact h4), (fun k hk => ⟨by rw [hI_sI, if_neg (by omega)]; exact (h5 k hk).1, by rw [hI_sI, if_neg (by omega)]; exact (h5 k hk).2.1, by rw [hI_sI, if_neg (by omega)]; exact (h5 k hk).2.2⟩), (fun k hk => ⟨by rw [hI_sI, if_neg (by omega)]; exact (h6 k hk).1, by rw [hI_sI, if_neg (by omega)]; exact (h6 k hk).2⟩), (fun k hk => ⟨by rw [hI_sI, if_neg (by omega)]; exact (h7 k hk).1, by rw [hI_sI, if_neg (by omega)]; exact (h7 k hk).2⟩), (fun k hk => by rw [hI_sI, if_neg (by omega)]; exact (h8 k hk)), (fun k hk => ⟨by rw [hI_sI, if_neg (by omega)]; exact (h9 k hk).1, by rw [hI_sI, if_neg (by omega)]; exact (h9 k hk).2.1, (h9 k hk).2.2⟩), (by rw [hI_sI, if_neg (by omega)]; exact h10), (fun k hk => ⟨by rw [hI_sI, if_neg (by omega)]; exact (h11 k hk).1, by rw [hI_sI, if_neg (by omega)]; exact (h11 k hk).2⟩), (by rw [hI_sI, if_neg (by omega)]; exact h12), (fun k hk => by rw [hI_sI, if_neg (by omega)]; exact (h13 k hk)), (fun k hk => ⟨(h14 k hk).1, fun e => by rw [hI_sI, if_neg (by omega)]; exact (h14 k hk).2 e⟩), (by rw [hI_sI, if_neg (by omega)]; exact h15), (by rw [hI_sI, if_neg (by omega)]; exact h16), (by rw [hI_sI, if_neg (by omega)]; exact h17)⟩
theorem c_askLine (hF : gFx S) (ht : gTx S t) (ht24 : 24 ≤ t) (ht45 : t ≤ 45) (hs : TrP H s n) (hk : TrOk s) (hn : n ≤ 790) (hT : TxP H t T) (hbg : hI H (t + 7) 4 = nI (tNk T)) (hna : tNa T ≤ 12) : Hv mX6_askLine 2 [.ref 7, .ref t] S H vB (fun x H' => x = lnB (askR s n T) ∧ LnQ H H' t s (askR s n T)) := by
  have hk0 := hk.1
  have hkv := kV_le (n := n + 1) hk
  have hs2 := hs.st (n + 1)
  refine vq_intro (by decide) (by exact Nat.le_of_ble_eq_true rfl) rfl ?_
  refine xq_aload_n dX6_askLine_0 rfl rfl ?_
  refine xq_getIE clX8 (by decide) rfl fl_RX6_144 dX6_askLine_1 (Tx.s0 ht) hT.na ?_
  refine xq_bipush dX6_askLine_4 bp12 ?_
  refine xq_icmp_ltN dX6_askLine_6 rfl (by omega) (by omega) ⟨fun h6 => ?_, fun h6 => ?_⟩
  · skip
    have hc : ¬ 12 ≤ tNa T := (by omega)
    refine xq_aload_n dX6_askLine_18 rfl rfl ?_
    refine xq_getF clX6 (by decide) rfl fl_RX6_9 dX6_askLine_19 (Fx.s7 hF) (Fx.r7_0 hF) ?_
    refine xq_callV0N clX9 gd_X9_step dX6_askLine_22 ml_RX6_84 im_X9_step se_X9_step rfl (Fx.s2 hF) (by exact Nat.le_of_ble_eq_true rfl) (by decide) (c_step hF hs hk (by omega)) ?_
    intro H22 p22
    subst p22
    refine xq_aload_n dX6_askLine_25 rfl rfl ?_
    refine xq_getF clX6 (by decide) rfl fl_RX6_9 dX6_askLine_26 (Fx.s7 hF) (Fx.r7_0 hF) ?_
    refine xq_bipush dX6_askLine_29 bp99 ?_
    refine xq_callV1H clX9 gd_X9_isNumber dX6_askLine_31 ml_RX6_94 im_X9_isNumber se_X9_isNumber rfl (Fx.s2 hF) (by exact Nat.le_of_ble_eq_true rfl) (by decide) (c_isNumber hF hs2 hk (by omega) (m := 99) (by decide)) ?_
    intro x31 H31 p31
    obtain ⟨e31, q31, r31⟩ := p31
    refine xq_if_neB dX6_askLine_34 rfl ⟨fun h34 => ?_, fun h34 => ?_⟩
    · skip
      have ee := q31 h34
      subst ee
      refine xq_aload_n dX6_askLine_39 rfl rfl ?_
      refine xq_getF clX8 (by decide) rfl fl_RX6_147 dX6_askLine_40 (Tx.s0 ht) (Tx.r13 ht) ?_
      refine xq_aload_n dX6_askLine_43 rfl rfl ?_
      refine xq_getIE (v := nI (tNa T)) clX8 (by decide) rfl fl_RX6_144 dX6_askLine_44 (Tx.s0 ht) (by rw [hI_sI, if_neg (by omega)]; exact hT.na) ?_
      refine xq_aload_n dX6_askLine_47 rfl rfl ?_
      refine xq_getF clX6 (by decide) rfl fl_RX6_9 dX6_askLine_48 (Fx.s7 hF) (Fx.r7_0 hF) ?_
      refine xq_callV0P clX9 gd_X9_value dX6_askLine_51 ml_RX6_91 im_X9_value se_X9_value rfl (Fx.s2 hF) (by exact Nat.le_of_ble_eq_true rfl) (by decide) (c_value hF hs2 hk (by omega)) ?_
      refine xq_iastN dX6_askLine_54 (Tx.s18 ht) (by omega) (by decide) ?_
      refine xq_aload_n dX6_askLine_55 rfl rfl ?_
      refine xq_dup dX6_askLine_56 rfl ?_
      refine xq_getIE (v := nI (tNa T)) clX8 (by decide) rfl fl_RX6_144 dX6_askLine_57 (Tx.s0 ht) (by rw [hI_sI, if_neg (by omega), hI_sI, if_neg (by omega)]; exact hT.na) ?_
      refine xq_iconst dX6_askLine_60 ic1 ?_
      refine xq_iaddN dX6_askLine_61 ?_
      refine xq_putI clX8 (by decide) rfl fl_RX6_144 (Or.inl rfl) dX6_askLine_62 ⟨rfl, rfl⟩ (Tx.s0 ht) ?_
      refine xq_aload_n dX6_askLine_65 rfl rfl ?_
      refine xq_getF clX6 (by decide) rfl fl_RX6_9 dX6_askLine_66 (Fx.s7 hF) (Fx.r7_0 hF) ?_
      refine xq_callV0N clX9 gd_X9_step dX6_askLine_69 ml_RX6_84 im_X9_step se_X9_step rfl (Fx.s2 hF) (by exact Nat.le_of_ble_eq_true rfl) (by decide) (c_step hF ((hs2.pI (by omega) _ _).pI (by omega) _ _) hk (by omega)) ?_
      intro H69 p69
      subst p69
      refine xq_iconst dX6_askLine_72 ic1 ?_
      refine xq_zret dX6_askLine_73 rfl (by decide) ?_
      have e : askR s n T = .inr (n + 2, askT T (kV s (n + 1))) := (if_neg hc).trans (if_neg (by rw [← e31, h34]; decide))
      rw [e]
      exact ⟨true, _, ⟨rfl, (Off.pI (A := (fun q => q = 2 ∨ (8 ≤ q ∧ q < 16) ∨ (t ≤ q ∧ q < t + 21))) (Off.pI (A := (fun q => q = 2 ∨ (8 ≤ q ∧ q < 16) ∨ (t ≤ q ∧ q < t + 21))) (Off.pI (A := (fun q => q = 2 ∨ (8 ≤ q ∧ q < 16) ∨ (t ≤ q ∧ q < t + 21))) (Off.pI (A := (fun q => q = 2 ∨ (8 ≤ q ∧ q < 16) ∨ (t ≤ q ∧ q < t + 21))) Off.rf (by omega) _ _) (by omega) _ _) (by omega) _ _) (by omega) _ _), ((hs2.pI (by omega) _ _).pI (by omega) _ _).st (n + 2), by simp [hI_sI]; try omega, by simp [hI_sI]; try omega, (TxP.ask (hT.st2 ht24) ht24).st2 ht24, (by (repeat rw [hI_sI, if_neg (by omega)]); exact hbg)⟩, rfl⟩
    · skip
      refine xq_iconst dX6_askLine_37 ic0 ?_
      refine xq_zret dX6_askLine_38 rfl (by decide) ?_
      have hf : x31 = false := by simpa using h34
      have q := r31 hf
      have e : askR s n T = .inl (numF s (n + 1), n + 1) := (if_neg hc).trans (if_pos (e31.symm.trans hf))
      rw [e]
      exact ⟨false, H31, ⟨rfl, Off.tr (Off.pI (A := (fun q => q = 2 ∨ (8 ≤ q ∧ q < 16) ∨ (t ≤ q ∧ q < t + 21))) Off.rf (by omega) _ _) (q.2.2.2.mo (fun q h => Or.inl h)), q.1, q.2.1, (q.2.2.1 6 (by decide) (by decide)).trans (by rw [hI_sI, if_neg (by omega)])⟩, rfl⟩
  · skip
    refine xq_aload_n dX6_askLine_9 rfl rfl ?_
    refine xq_getF clX6 (by decide) rfl fl_RX6_9 dX6_askLine_10 (Fx.s7 hF) (Fx.r7_0 hF) ?_
    refine xq_iconst dX6_askLine_13 ic2 ?_
    refine xq_callV1H clX9 gd_X9_fail dX6_askLine_14 ml_RX6_71 im_X9_fail se_X9_fail rfl (Fx.s2 hF) (by exact Nat.le_of_ble_eq_true rfl) (by decide) (c_fail hF hs hk (by omega) (c := 2) (by decide)) ?_
    intro x14 H14 p14
    obtain ⟨rfl, q14⟩ := p14
    refine xq_zret dX6_askLine_17 rfl (by decide) ?_
    have e : askR s n T = .inl (2, n) := if_pos (by omega)
    rw [e]
    exact ⟨false, H14, ⟨rfl, q14.2.2.2.mo (fun q h => Or.inl h), q14.1, q14.2.1, q14.2.2.1 6 (by decide) (by decide)⟩, rfl⟩
theorem c_shyLine (hF : gFx S) (ht : gTx S t) (ht24 : 24 ≤ t) (ht45 : t ≤ 45) (hs : TrP H s n) (hk : TrOk s) (hn : n ≤ 790) (hT : TxP H t T) (hbg : hI H (t + 7) 4 = nI (tNk T)) (hsh : tSh T ≤ 100000) : Hv mX6_shyLine 2 [.ref 7, .ref t] S H vB (fun x H' => x = lnB (shyR s n T) ∧ LnQ H H' t s (shyR s n T)) := by
  have hk0 := hk.1
  have hkv := kV_le (n := n + 1) hk
  have hs2 := hs.st (n + 1)
  refine vq_intro (by decide) (by exact Nat.le_of_ble_eq_true rfl) rfl ?_
  refine xq_aload_n dX6_shyLine_0 rfl rfl ?_
  refine xq_getI clX8 (by decide) rfl fl_RX6_150 dX6_shyLine_1 (Tx.s0 ht) ?_
  refine xq_iconst dX6_shyLine_4 icm1 ?_
  refine xq_icmp_eq dX6_shyLine_5 rfl ⟨fun h5 => ?_, fun h5 => ?_⟩
  · skip
    have hc : ¬ tSh T ≠ 0 := (fun z => by rw [hT.sh, if_neg z] at h5; exact nI_n1 (by omega) h5)
    refine xq_aload_n dX6_shyLine_17 rfl rfl ?_
    refine xq_getF clX6 (by decide) rfl fl_RX6_9 dX6_shyLine_18 (Fx.s7 hF) (Fx.r7_0 hF) ?_
    refine xq_callV0N clX9 gd_X9_step dX6_shyLine_21 ml_RX6_84 im_X9_step se_X9_step rfl (Fx.s2 hF) (by exact Nat.le_of_ble_eq_true rfl) (by decide) (c_step hF hs hk (by omega)) ?_
    intro H21 p21
    subst p21
    refine xq_aload_n dX6_shyLine_24 rfl rfl ?_
    refine xq_getF clX6 (by decide) rfl fl_RX6_9 dX6_shyLine_25 (Fx.s7 hF) (Fx.r7_0 hF) ?_
    refine xq_bipush dX6_shyLine_28 bp100 ?_
    refine xq_callV1H clX9 gd_X9_isNumber dX6_shyLine_30 ml_RX6_94 im_X9_isNumber se_X9_isNumber rfl (Fx.s2 hF) (by exact Nat.le_of_ble_eq_true rfl) (by decide) (c_isNumber hF hs2 hk (by omega) (m := 100) (by decide)) ?_
    intro x30 H30 p30
    obtain ⟨e30, q30, r30⟩ := p30
    refine xq_if_neB dX6_shyLine_33 rfl ⟨fun h33 => ?_, fun h33 => ?_⟩
    · skip
      have ee := q30 h33
      subst ee
      refine xq_aload_n dX6_shyLine_38 rfl rfl ?_
      refine xq_aload_n dX6_shyLine_39 rfl rfl ?_
      refine xq_getF clX6 (by decide) rfl fl_RX6_9 dX6_shyLine_40 (Fx.s7 hF) (Fx.r7_0 hF) ?_
      refine xq_callV0P clX9 gd_X9_value dX6_shyLine_43 ml_RX6_91 im_X9_value se_X9_value rfl (Fx.s2 hF) (by exact Nat.le_of_ble_eq_true rfl) (by decide) (c_value hF hs2 hk (by omega)) ?_
      refine xq_putI clX8 (by decide) rfl fl_RX6_150 (Or.inl rfl) dX6_shyLine_46 ⟨rfl, rfl⟩ (Tx.s0 ht) ?_
      refine xq_aload_n dX6_shyLine_49 rfl rfl ?_
      refine xq_getF clX6 (by decide) rfl fl_RX6_9 dX6_shyLine_50 (Fx.s7 hF) (Fx.r7_0 hF) ?_
      refine xq_callV0N clX9 gd_X9_step dX6_shyLine_53 ml_RX6_84 im_X9_step se_X9_step rfl (Fx.s2 hF) (by exact Nat.le_of_ble_eq_true rfl) (by decide) (c_step hF (hs2.pI (by omega) _ _) hk (by omega)) ?_
      intro H53 p53
      subst p53
      refine xq_iconst dX6_shyLine_56 ic1 ?_
      refine xq_zret dX6_shyLine_57 rfl (by decide) ?_
      have e : shyR s n T = .inr (n + 2, shyT T (kV s (n + 1))) := (if_neg hc).trans (if_neg (by rw [← e30, h33]; decide))
      rw [e]
      exact ⟨true, _, ⟨rfl, (Off.pI (A := (fun q => q = 2 ∨ (8 ≤ q ∧ q < 16) ∨ (t ≤ q ∧ q < t + 21))) (Off.pI (A := (fun q => q = 2 ∨ (8 ≤ q ∧ q < 16) ∨ (t ≤ q ∧ q < t + 21))) (Off.pI (A := (fun q => q = 2 ∨ (8 ≤ q ∧ q < 16) ∨ (t ≤ q ∧ q < t + 21))) Off.rf (by omega) _ _) (by omega) _ _) (by omega) _ _), (hs2.pI (by omega) _ _).st (n + 2), by simp [hI_sI]; try omega, by simp [hI_sI]; try omega, (TxP.shy (hT.st2 ht24) ht24).st2 ht24, (by (repeat rw [hI_sI, if_neg (by omega)]); exact hbg)⟩, rfl⟩
    · skip
      refine xq_iconst dX6_shyLine_36 ic0 ?_
      refine xq_zret dX6_shyLine_37 rfl (by decide) ?_
      have hf : x30 = false := by simpa using h33
      have q := r30 hf
      have e : shyR s n T = .inl (numF s (n + 1), n + 1) := (if_neg hc).trans (if_pos (e30.symm.trans hf))
      rw [e]
      exact ⟨false, H30, ⟨rfl, Off.tr (Off.pI (A := (fun q => q = 2 ∨ (8 ≤ q ∧ q < 16) ∨ (t ≤ q ∧ q < t + 21))) Off.rf (by omega) _ _) (q.2.2.2.mo (fun q h => Or.inl h)), q.1, q.2.1, (q.2.2.1 6 (by decide) (by decide)).trans (by rw [hI_sI, if_neg (by omega)])⟩, rfl⟩
  · skip
    refine xq_aload_n dX6_shyLine_8 rfl rfl ?_
    refine xq_getF clX6 (by decide) rfl fl_RX6_9 dX6_shyLine_9 (Fx.s7 hF) (Fx.r7_0 hF) ?_
    refine xq_iconst dX6_shyLine_12 ic3 ?_
    refine xq_callV1H clX9 gd_X9_fail dX6_shyLine_13 ml_RX6_71 im_X9_fail se_X9_fail rfl (Fx.s2 hF) (by exact Nat.le_of_ble_eq_true rfl) (by decide) (c_fail hF hs hk (by omega) (c := 3) (by decide)) ?_
    intro x13 H13 p13
    obtain ⟨rfl, q13⟩ := p13
    refine xq_zret dX6_shyLine_16 rfl (by decide) ?_
    have e : shyR s n T = .inl (3, n) := if_pos (fun z => h5 (by rw [hT.sh, if_pos z]))
    rw [e]
    exact ⟨false, H13, ⟨rfl, q13.2.2.2.mo (fun q h => Or.inl h), q13.1, q13.2.1, q13.2.2.1 6 (by decide) (by decide)⟩, rfl⟩
theorem c_seedLine (hF : gFx S) (ht : gTx S t) (ht24 : 24 ≤ t) (ht45 : t ≤ 45) (hs : TrP H s n) (hk : TrOk s) (hn : n ≤ 790) (hT : TxP H t T) (hbg : hI H (t + 7) 4 = nI (tNk T)) (hsh : tSd T ≤ 100000) : Hv mX6_seedLine 2 [.ref 7, .ref t] S H vB (fun x H' => x = lnB (sedR s n T) ∧ LnQ H H' t s (sedR s n T)) := by
  have hk0 := hk.1
  have hkv := kV_le (n := n + 1) hk
  have hs2 := hs.st (n + 1)
  refine vq_intro (by decide) (by exact Nat.le_of_ble_eq_true rfl) rfl ?_
  refine xq_aload_n dX6_seedLine_0 rfl rfl ?_
  refine xq_getI clX8 (by decide) rfl fl_RX6_153 dX6_seedLine_1 (Tx.s0 ht) ?_
  refine xq_iconst dX6_seedLine_4 icm1 ?_
  refine xq_icmp_eq dX6_seedLine_5 rfl ⟨fun h5 => ?_, fun h5 => ?_⟩
  · skip
    have hc : ¬ tSd T ≠ 0 := (fun z => by rw [hT.sd, if_neg z] at h5; exact nI_n1 (by omega) h5)
    refine xq_aload_n dX6_seedLine_17 rfl rfl ?_
    refine xq_getF clX6 (by decide) rfl fl_RX6_9 dX6_seedLine_18 (Fx.s7 hF) (Fx.r7_0 hF) ?_
    refine xq_callV0N clX9 gd_X9_step dX6_seedLine_21 ml_RX6_84 im_X9_step se_X9_step rfl (Fx.s2 hF) (by exact Nat.le_of_ble_eq_true rfl) (by decide) (c_step hF hs hk (by omega)) ?_
    intro H21 p21
    subst p21
    refine xq_aload_n dX6_seedLine_24 rfl rfl ?_
    refine xq_getF clX6 (by decide) rfl fl_RX6_9 dX6_seedLine_25 (Fx.s7 hF) (Fx.r7_0 hF) ?_
    refine xq_ldc (v := nI 99999) dX6_seedLine_28 kc_RX6_156 ?_
    refine xq_callV1H clX9 gd_X9_isNumber dX6_seedLine_30 ml_RX6_94 im_X9_isNumber se_X9_isNumber rfl (Fx.s2 hF) (by exact Nat.le_of_ble_eq_true rfl) (by decide) (c_isNumber hF hs2 hk (by omega) (m := 99999) (by decide)) ?_
    intro x30 H30 p30
    obtain ⟨e30, q30, r30⟩ := p30
    refine xq_if_neB dX6_seedLine_33 rfl ⟨fun h33 => ?_, fun h33 => ?_⟩
    · skip
      have ee := q30 h33
      subst ee
      refine xq_aload_n dX6_seedLine_38 rfl rfl ?_
      refine xq_aload_n dX6_seedLine_39 rfl rfl ?_
      refine xq_getF clX6 (by decide) rfl fl_RX6_9 dX6_seedLine_40 (Fx.s7 hF) (Fx.r7_0 hF) ?_
      refine xq_callV0P clX9 gd_X9_value dX6_seedLine_43 ml_RX6_91 im_X9_value se_X9_value rfl (Fx.s2 hF) (by exact Nat.le_of_ble_eq_true rfl) (by decide) (c_value hF hs2 hk (by omega)) ?_
      refine xq_putI clX8 (by decide) rfl fl_RX6_153 (Or.inl rfl) dX6_seedLine_46 ⟨rfl, rfl⟩ (Tx.s0 ht) ?_
      refine xq_aload_n dX6_seedLine_49 rfl rfl ?_
      refine xq_getF clX6 (by decide) rfl fl_RX6_9 dX6_seedLine_50 (Fx.s7 hF) (Fx.r7_0 hF) ?_
      refine xq_callV0N clX9 gd_X9_step dX6_seedLine_53 ml_RX6_84 im_X9_step se_X9_step rfl (Fx.s2 hF) (by exact Nat.le_of_ble_eq_true rfl) (by decide) (c_step hF (hs2.pI (by omega) _ _) hk (by omega)) ?_
      intro H53 p53
      subst p53
      refine xq_iconst dX6_seedLine_56 ic1 ?_
      refine xq_zret dX6_seedLine_57 rfl (by decide) ?_
      have e : sedR s n T = .inr (n + 2, seeT T (kV s (n + 1))) := (if_neg hc).trans (if_neg (by rw [← e30, h33]; decide))
      rw [e]
      exact ⟨true, _, ⟨rfl, (Off.pI (A := (fun q => q = 2 ∨ (8 ≤ q ∧ q < 16) ∨ (t ≤ q ∧ q < t + 21))) (Off.pI (A := (fun q => q = 2 ∨ (8 ≤ q ∧ q < 16) ∨ (t ≤ q ∧ q < t + 21))) (Off.pI (A := (fun q => q = 2 ∨ (8 ≤ q ∧ q < 16) ∨ (t ≤ q ∧ q < t + 21))) Off.rf (by omega) _ _) (by omega) _ _) (by omega) _ _), (hs2.pI (by omega) _ _).st (n + 2), by simp [hI_sI]; try omega, by simp [hI_sI]; try omega, (TxP.see (hT.st2 ht24) ht24).st2 ht24, (by (repeat rw [hI_sI, if_neg (by omega)]); exact hbg)⟩, rfl⟩
    · skip
      refine xq_iconst dX6_seedLine_36 ic0 ?_
      refine xq_zret dX6_seedLine_37 rfl (by decide) ?_
      have hf : x30 = false := by simpa using h33
      have q := r30 hf
      have e : sedR s n T = .inl (numF s (n + 1), n + 1) := (if_neg hc).trans (if_pos (e30.symm.trans hf))
      rw [e]
      exact ⟨false, H30, ⟨rfl, Off.tr (Off.pI (A := (fun q => q = 2 ∨ (8 ≤ q ∧ q < 16) ∨ (t ≤ q ∧ q < t + 21))) Off.rf (by omega) _ _) (q.2.2.2.mo (fun q h => Or.inl h)), q.1, q.2.1, (q.2.2.1 6 (by decide) (by decide)).trans (by rw [hI_sI, if_neg (by omega)])⟩, rfl⟩
  · skip
    refine xq_aload_n dX6_seedLine_8 rfl rfl ?_
    refine xq_getF clX6 (by decide) rfl fl_RX6_9 dX6_seedLine_9 (Fx.s7 hF) (Fx.r7_0 hF) ?_
    refine xq_iconst dX6_seedLine_12 ic3 ?_
    refine xq_callV1H clX9 gd_X9_fail dX6_seedLine_13 ml_RX6_71 im_X9_fail se_X9_fail rfl (Fx.s2 hF) (by exact Nat.le_of_ble_eq_true rfl) (by decide) (c_fail hF hs hk (by omega) (c := 3) (by decide)) ?_
    intro x13 H13 p13
    obtain ⟨rfl, q13⟩ := p13
    refine xq_zret dX6_seedLine_16 rfl (by decide) ?_
    have e : sedR s n T = .inl (3, n) := if_pos (fun z => h5 (by rw [hT.sd, if_pos z]))
    rw [e]
    exact ⟨false, H13, ⟨rfl, q13.2.2.2.mo (fun q h => Or.inl h), q13.1, q13.2.1, q13.2.2.1 6 (by decide) (by decide)⟩, rfl⟩
end LI
