/-! ===== Mind: what hangs together ===== -/
/-- h leads down to the least, c -/
def Fo (h c : Nat → Nat) (n : Nat) : Prop := ∀ p, p < n → h p ≤ p ∧ c (h p) = c p ∧ (h p = p ↔ c p = p) ∧ c p ≤ p
def HeP (H : xH) (h : Nat → Nat) (n : Nat) : Prop := ∀ p, p < n → hI H 20 p = nI (h p)
section UF
variable {S : xS} {H H1 : xH} {h c : Nat → Nat} {n p x y i t k a : Nat} {u : uSt}
theorem Fo.half (f : Fo h c n) (hp : p < n) (hne : h p ≠ p) : Fo (fun q => if q = p then h (h p) else h q) c n := by
  intro q hq
  have f1 := f p hp
  have f2 := f (h p) (by omega)
  by_cases e : q = p
  · subst e
    simp only [if_true]
    refine ⟨by omega, by rw [f2.2.1, f1.2.1], ⟨fun z => by omega, fun z => absurd (f1.2.2.1.mpr z) hne⟩, f1.2.2.2⟩
  · simp only [if_neg e]; exact f q hq
theorem Fo.cc (f : Fo h c n) : ∀ p, p < n → c (c p) = c p := by
  intro p
  induction p using Nat.strongRecOn with
  | _ p ih =>
    intro hp
    have f1 := f p hp
    by_cases e : h p = p
    · have := f1.2.2.1.mp e
      rw [this, this]
    · have := ih (h p) (by omega) (by omega)
      rw [f1.2.1] at this
      exact this
theorem Fo.join (f : Fo h c n) (hx : x < n) (hy : y < n) (cx : c x = x) (cy : c y = y) : Fo (fun q => if q = max x y then min x y else h q) (fun q => if c q = max x y then min x y else c q) n := by
  have main : ∀ M m, M < n → m ≤ M → c M = M → c m = m → Fo (fun q => if q = M then m else h q) (fun q => if c q = M then m else c q) n := by
    intro M m hM hmM cM cm q hq
    have f1 := f q hq
    have fM := f M hM
    by_cases hlt : m = M
    · subst hlt
      have e1 : (fun q => if q = m then m else h q) = h := by
        funext z
        by_cases e : z = m
        · rw [if_pos e, e]; exact (fM.2.2.1.mpr cM).symm
        · rw [if_neg e]
      have e2 : (fun q => if c q = m then m else c q) = c := by
        funext z
        by_cases e : c z = m
        · rw [if_pos e, e]
        · rw [if_neg e]
      rw [e1, e2]
      exact f1
    · by_cases e : q = M
      · subst e
        have g1 : (if c m = q then m else c m) = m := by rw [cm, if_neg hlt]
        refine ⟨by simp only [if_true]; omega, ?_, ?_, ?_⟩
        · simp only [if_true, cM]; exact g1
        · simp only [if_true, cM]
        · simp only [cM, if_true]; omega
      · simp only [if_neg e]
        refine ⟨f1.1, by rw [f1.2.1], ?_, ?_⟩
        · constructor
          · intro z
            have := f1.2.2.1.mp z
            rw [this, if_neg e]
          · intro z
            by_cases w : c q = M
            · rw [if_pos w] at z
              subst z
              rw [cm] at w
              exact absurd w hlt
            · rw [if_neg w] at z
              exact f1.2.2.1.mpr z
        · by_cases w : c q = M
          · rw [if_pos w]; have := f1.2.2.2; omega
          · rw [if_neg w]; exact f1.2.2.2
  rcases Nat.le_total x y with l | l
  · rw [Nat.max_eq_right l, Nat.min_eq_left l]; exact main y x hy l cy cx
  · rw [Nat.max_eq_left l, Nat.min_eq_right l]; exact main x y hx l cx cy
theorem c_headOf (hF : gFx S) (hn : n ≤ 729) (hh : HeP H h n) (hf : Fo h c n) (hp : p < n) : Hv mX4_headOf 0 [.ref 16, vN p] S H vN (fun x H' => x = c p ∧ Off (fun q => q = 20) H H' ∧ ∃ h', HeP H' h' n ∧ Fo h' c n) := by
  have lp : ∀ (fz : Nat) (step head : Nat) (h : Nat → Nat) (H1 : xH), 730 - step < fz → head + step ≤ p → c head = c p → HeP H1 h n → Fo h c n → Off (fun q => q = 20) H H1 → Xq mX4_headOf 0 0 0 4 [some (.ref 16), some (vN p), some (vN head), some (vN step)] [] S H1 (fun R => ∃ x H', (fun x H' => x = c p ∧ Off (fun q => q = 20) H H' ∧ ∃ h', HeP H' h' n ∧ Fo h' c n) x H' ∧ R = (some (vN x), S, H')) := by
    intro fz
    induction fz with
    | zero => intro step head  h  H1  hn; exact absurd hn (by omega)
    | succ fz ih =>
      intro step head  h  H1  hn hs hcc hh hf ho
      refine xq_iload_n dX4_headOf_4 rfl rfl ?_
      refine xq_sipush dX4_headOf_5 sp729 ?_
      refine xq_icmp_geN dX4_headOf_8 rfl (by omega) (by omega) ⟨fun h8 => ?_, fun h8 => ?_⟩
      · skip
        exact absurd h8 (by omega)
      · skip
        have f1 := hf head (by omega); have f2 := hf (h head) (by omega)
        refine xq_aload_n dX4_headOf_11 rfl rfl ?_
        refine xq_getF clX4 (by decide) rfl fl_RX4_22 dX4_headOf_12 (Fx.s16 hF) (Fx.r16_4 hF) ?_
        refine xq_iload_n dX4_headOf_15 rfl rfl ?_
        refine xq_ialdN dX4_headOf_16 (Fx.s20 hF) (by omega) (by decide) (hh head (by omega)) ?_
        refine xq_iload_n dX4_headOf_17 rfl rfl ?_
        refine xq_icmp_eqN dX4_headOf_18 rfl (by omega) (by omega) ⟨fun h18 => ?_, fun h18 => ?_⟩
        · skip
          refine xq_iload_n dX4_headOf_51 rfl rfl ?_
          refine xq_iret dX4_headOf_52 rfl ?_
          refine ⟨head, H1, ⟨?_, ho, h, hh, hf⟩, rfl⟩; rw [← hcc]; exact ((hf head (by omega)).2.2.1.mp h18).symm
        · skip
          refine xq_aload_n dX4_headOf_21 rfl rfl ?_
          refine xq_getF clX4 (by decide) rfl fl_RX4_22 dX4_headOf_22 (Fx.s16 hF) (Fx.r16_4 hF) ?_
          refine xq_iload_n dX4_headOf_25 rfl rfl ?_
          refine xq_aload_n dX4_headOf_26 rfl rfl ?_
          refine xq_getF clX4 (by decide) rfl fl_RX4_22 dX4_headOf_27 (Fx.s16 hF) (Fx.r16_4 hF) ?_
          refine xq_aload_n dX4_headOf_30 rfl rfl ?_
          refine xq_getF clX4 (by decide) rfl fl_RX4_22 dX4_headOf_31 (Fx.s16 hF) (Fx.r16_4 hF) ?_
          refine xq_iload_n dX4_headOf_34 rfl rfl ?_
          refine xq_ialdN dX4_headOf_35 (Fx.s20 hF) (by omega) (by decide) (hh head (by omega)) ?_
          refine xq_ialdN dX4_headOf_36 (Fx.s20 hF) (by omega) (by decide) (hh (h head) (by omega)) ?_
          refine xq_iastN dX4_headOf_37 (Fx.s20 hF) (by omega) (by decide) ?_
          refine xq_aload_n dX4_headOf_38 rfl rfl ?_
          refine xq_getF clX4 (by decide) rfl fl_RX4_22 dX4_headOf_39 (Fx.s16 hF) (Fx.r16_4 hF) ?_
          refine xq_iload_n dX4_headOf_42 rfl rfl ?_
          refine xq_ialdN (v := nI (h (h head))) dX4_headOf_43 (Fx.s20 hF) (by omega) (by decide) ((hI_sI _ _ _ _ _ _).trans (if_pos ⟨rfl, rfl⟩)) ?_
          refine xq_istore_n dX4_headOf_44 rfl rfl ?_
          refine xq_iincN dX4_headOf_45 ic1 rfl rfl ?_
          refine xq_goto dX4_headOf_48 rfl ?_
          refine ih (step + 1) (h (h head)) (fun q => if q = head then h (h head) else h q) _ (by omega) (by omega) (by rw [f2.2.1, f1.2.1, hcc]) (fun q hq => ?_) (hf.half (by omega) h18) (Off.pI (A := fun q => q = 20) ho rfl _ _)
          rw [hI_sI]
          by_cases e : q = head
          · rw [if_pos ⟨rfl, e⟩]; simp only [if_pos e]
          · rw [if_neg (fun z => e z.2)]; simp only [if_neg e]; exact hh q hq
  refine vq_intro (by decide) (by exact Nat.le_of_ble_eq_true rfl) rfl ?_
  refine xq_iload_n dX4_headOf_0 rfl rfl ?_
  refine xq_istore_n dX4_headOf_1 rfl rfl ?_
  refine xq_iconst dX4_headOf_2 ic0 ?_
  refine xq_istore_n dX4_headOf_3 rfl rfl ?_
  exact lp 731 0 p h H (by omega) (by omega) rfl hh hf Off.rf
/-- a set that no key parts -/
def Clo (u : uSt) (A : Nat → Prop) : Prop := ∀ i, i < uNp u → ∀ p q, p < uZ u → q < uZ u → ky u i p = ky u i q → (A p ↔ A q)
def JA (u : uSt) (c : Nat → Nat) : Prop := ∀ A, Clo u A → ∀ p, p < uZ u → (A p ↔ A (c p))
/-- c leads each world to the least one that hangs together with it -/
def JC (u : uSt) (c : Nat → Nat) : Prop := (∀ p, p < uZ u → c p ≤ p ∧ c (c p) = c p) ∧ (∀ i, i < uNp u → ∀ p q, p < uZ u → q < uZ u → ky u i p = ky u i q → c p = c q) ∧ JA u c
theorem JC.uniq {c d : Nat → Nat} (h1 : JC u c) (h2 : JC u d) (hp : p < uZ u) : c p = d p := by
  have key : ∀ {c d : Nat → Nat}, JC u c → JC u d → d p ≤ c p := by
    intro c d h1 h2
    have := (h1.2.2 (fun q => d q = d p) (fun i hi r q hr hq e => by show (d r = d p ↔ d q = d p); rw [h2.2.1 i hi r q hr hq e]) p hp).mp rfl
    have h3 := (h1.1 p hp).1
    have h4 := (h2.1 (c p) (by omega)).1
    omega
  have := key h1 h2
  have := key h2 h1
  omega
noncomputable def cn (u : uSt) : Nat → Nat := Classical.epsilon (fun c => JC u c)
theorem cn_ok {c : Nat → Nat} (h : JC u c) : JC u (cn u) := Classical.epsilon_spec (p := fun c => JC u c) ⟨c, h⟩
def JnP (H : xH) (u : uSt) : Prop := hI H 16 5 = nI 0 ∨ (hI H 16 5 = nI 1 ∧ JC u (cn u) ∧ HeP H (cn u) (uZ u))
/-- what the stamps and the pool hold in join, when the worlds ahead of n are gathered -/
def Poo (H1 : xH) (u : uSt) (c : Nat → Nat) (i t n : Nat) : Prop := ∀ key, key < 4096 → (∃ s, s ≤ t + 1 ∧ hI H1 17 key = nI s ∧ (s = t + 1 ↔ ex (fun p => ky u i p == key) n = true)) ∧ (ex (fun p => ky u i p == key) n = true → ∃ q, q < n ∧ hI H1 18 key = nI q ∧ ky u i q = key ∧ ∀ p, p < n → ky u i p = key → c p = c q)
theorem JA.join {c : Nat → Nat} (h : JA u c) {q : Nat} (hi : i < uNp u) (hp : p < uZ u) (hq : q < uZ u) (e : ky u i p = ky u i q) : JA u (fun z => if c z = max (c p) (c q) then min (c p) (c q) else c z) := by
  intro A hA z hz
  have h1 := h A hA p hp
  have h2 := h A hA q hq
  have h3 := h A hA z hz
  have h4 := hA i hi p q hp hq e
  show A z ↔ A (if c z = max (c p) (c q) then min (c p) (c q) else c z)
  by_cases w : c z = max (c p) (c q)
  · rw [if_pos w, h3, w]
    rcases Nat.le_total (c p) (c q) with l | l
    · rw [Nat.max_eq_right l, Nat.min_eq_left l, ← h1, ← h2, h4]
    · rw [Nat.max_eq_left l, Nat.min_eq_right l, ← h1, ← h2, h4]
  · rw [if_neg w]; exact h3
theorem ex_key {n : Nat} : ex (fun p => ky u i p == x) n = true ↔ ∃ p, p < n ∧ ky u i p = x := by
  rw [ex_iff]
  constructor
  · rintro ⟨p, h1, h2⟩; exact ⟨p, h1, by simpa using h2⟩
  · rintro ⟨p, h1, h2⟩; exact ⟨p, h1, by simpa using h2⟩
/-- a step of the inner loop: the world n met, its key's first world q0 joined with it -/
theorem Poo.step {c : Nat → Nat} {q0 : Nat} (h : Poo H1 u c i t n) (hn : n < uZ u) (hq0 : q0 < n + 1) (hk0 : ky u i q0 = ky u i n) (hfst : ∀ p, p < n → ky u i p = ky u i n → c p = c q0) {H2 : xH} (e17 : ∀ key, hI H2 17 key = if key = ky u i n then nI (t + 1) else hI H1 17 key) (e18 : ∀ key, hI H2 18 key = if key = ky u i n then nI q0 else hI H1 18 key) : Poo H2 u (fun z => if c z = max (c n) (c q0) then min (c n) (c q0) else c z) i t (n + 1) := by
  have mono : ∀ a b, c a = c b → (if c a = max (c n) (c q0) then min (c n) (c q0) else c a) = (if c b = max (c n) (c q0) then min (c n) (c q0) else c b) := fun a b e => by rw [e]
  have join : (if c n = max (c n) (c q0) then min (c n) (c q0) else c n) = (if c q0 = max (c n) (c q0) then min (c n) (c q0) else c q0) := by
    rcases Nat.le_total (c n) (c q0) with l | l
    · rw [Nat.max_eq_right l, Nat.min_eq_left l, if_pos rfl]; by_cases w : c n = c q0 <;> simp [w]
    · rw [Nat.max_eq_left l, Nat.min_eq_right l, if_pos rfl]; by_cases w : c q0 = c n <;> simp [w]
  intro key hkey
  by_cases e : ky u i n = key
  · subst e
    refine ⟨⟨t + 1, Nat.le_refl _, by rw [e17, if_pos rfl], by simp [ex_key]; exact ⟨n, by omega, rfl⟩⟩, fun _ => ⟨q0, hq0, by rw [e18, if_pos rfl], hk0, fun p hp hk => ?_⟩⟩
    by_cases w : p = n
    · subst w; exact join
    · exact mono p q0 (hfst p (by omega) hk)
  · have e2 : ¬ key = ky u i n := fun z => e z.symm
    have hex : ex (fun p => ky u i p == key) (n + 1) = ex (fun p => ky u i p == key) n := by rw [ex_s, show (ky u i n == key) = false by simpa using e, Bool.or_false]
    rw [hex, e17, e18, if_neg e2, if_neg e2]
    refine ⟨(h key hkey).1, fun z => ?_⟩
    obtain ⟨q, a1, a2, a3, a4⟩ := (h key hkey).2 z
    refine ⟨q, by omega, a2, a3, fun p hp hk => ?_⟩
    have : p ≠ n := fun w => e (by rw [← w]; exact hk)
    exact mono p q (a4 p (by omega) hk)
def Mrg (u : uSt) (c : Nat → Nat) (i : Nat) : Prop := ∀ j, j < i → ∀ p q, p < uZ u → q < uZ u → ky u j p = ky u j q → c p = c q
theorem c_join (hF : gFx S) (ha : gSt S a) (h67 : 67 ≤ a) (hu : StP H a u) (ok : StOk u) (hm : MiP H t) (ht : t + 7 < 2147483648) : Hv mX4_join 1 [.ref 16, .ref a] S H vN (fun x H' => x = ct (fun p => cn u p == p) (uZ u) ∧ Off (fun q => (16 ≤ q ∧ q ≤ 18) ∨ q = 20) H H' ∧ (∃ t2, t2 ≤ t + 6 ∧ MiP H' t2) ∧ hI H' 16 5 = nI 1 ∧ JC u (cn u) ∧ HeP H' (cn u) (uZ u)) := by
  have hz := ok.n; have hnp := ok.np
  have l3 : ∀ (fz : Nat) (p m : Nat) (h : Nat → Nat) (H1 : xH), uZ u - p < fz → p ≤ uZ u → m = ct (fun p => cn u p == p) p → Off (fun q => (16 ≤ q ∧ q ≤ 18) ∨ q = 20) H H1 → (∃ t2, t2 ≤ t + 6 ∧ MiP H1 t2) → JC u (cn u) → HeP H1 h (uZ u) → Fo h (cn u) (uZ u) → (∀ q, q < p → h q = cn u q) → Xq mX4_join 1 0 0 170 [some (.ref 16), some (.ref a), some (vN m), some (vN p), none, none, none] [] S H1 (fun R => ∃ x H', (fun x H' => x = ct (fun p => cn u p == p) (uZ u) ∧ Off (fun q => (16 ≤ q ∧ q ≤ 18) ∨ q = 20) H H' ∧ (∃ t2, t2 ≤ t + 6 ∧ MiP H' t2) ∧ hI H' 16 5 = nI 1 ∧ JC u (cn u) ∧ HeP H' (cn u) (uZ u)) x H' ∧ R = (some (vN x), S, H')) := by
    intro fz
    induction fz with
    | zero => intro p m  h  H1  hn; exact absurd hn (by omega)
    | succ fz ih =>
      intro p m  h  H1  hn hp hm ho hmt hj hh hf hd
      have hu1 := hu.off ho (fun j hj => by omega)
      refine xq_iload_n dX4_join_170 rfl rfl ?_
      refine xq_aload_n dX4_join_171 rfl rfl ?_
      refine xq_getIE clX7 (by decide) rfl fl_RX4_85 dX4_join_172 (St.s0 ha) hu1.sz ?_
      refine xq_icmp_geN dX4_join_175 rfl (by omega) (by omega) ⟨fun h175 => ?_, fun h175 => ?_⟩
      · skip
        refine xq_aload_n dX4_join_219 rfl rfl ?_
        refine xq_iconst dX4_join_220 ic1 ?_
        refine xq_putI clX4 (by decide) rfl fl_RX4_31 (Or.inl rfl) dX4_join_221 ⟨rfl, rfl⟩ (Fx.s16 hF) ?_
        refine xq_iload_n dX4_join_224 rfl rfl ?_
        refine xq_iret dX4_join_225 rfl ?_
        have hpz : p = uZ u := by omega
        refine ⟨m, _, ⟨by rw [← hpz]; exact hm, Off.pI (A := (fun q => (16 ≤ q ∧ q ≤ 18) ∨ q = 20)) ho (by omega) _ _, ?_, by simp [hI_sI], hj, fun q hq => ?_⟩, rfl⟩
        · obtain ⟨t2, a1, a2, a3⟩ := hmt
          exact ⟨t2, a1, by rw [hI_sI, if_neg (by omega)]; exact a2, fun j hj => by rw [hI_sI, if_neg (by omega)]; exact a3 j hj⟩
        · rw [hI_sI, if_neg (by omega), hh q hq, hd q (by omega)]
      · skip
        have f1 := hf p h175; have f2 := hf (h p) (by omega)
        have hbb := ct_le (fun p => cn u p == p) p
        refine xq_aload_n dX4_join_178 rfl rfl ?_
        refine xq_getF clX4 (by decide) rfl fl_RX4_22 dX4_join_179 (Fx.s16 hF) (Fx.r16_4 hF) ?_
        refine xq_iload_n dX4_join_182 rfl rfl ?_
        refine xq_aload_n dX4_join_183 rfl rfl ?_
        refine xq_getF clX4 (by decide) rfl fl_RX4_22 dX4_join_184 (Fx.s16 hF) (Fx.r16_4 hF) ?_
        refine xq_aload_n dX4_join_187 rfl rfl ?_
        refine xq_getF clX4 (by decide) rfl fl_RX4_22 dX4_join_188 (Fx.s16 hF) (Fx.r16_4 hF) ?_
        refine xq_iload_n dX4_join_191 rfl rfl ?_
        refine xq_ialdN dX4_join_192 (Fx.s20 hF) (by omega) (by decide) (hh p h175) ?_
        refine xq_ialdN dX4_join_193 (Fx.s20 hF) (by omega) (by decide) (hh (h p) (by omega)) ?_
        refine xq_iastN dX4_join_194 (Fx.s20 hF) (by omega) (by decide) ?_
        refine xq_iload_n dX4_join_195 rfl rfl ?_
        refine xq_aload_n dX4_join_196 rfl rfl ?_
        refine xq_getF clX4 (by decide) rfl fl_RX4_22 dX4_join_197 (Fx.s16 hF) (Fx.r16_4 hF) ?_
        refine xq_iload_n dX4_join_200 rfl rfl ?_
        refine xq_ialdN (v := nI (h (h p))) dX4_join_201 (Fx.s20 hF) (by omega) (by decide) ((hI_sI _ _ _ _ _ _).trans (if_pos ⟨rfl, rfl⟩)) ?_
        refine xq_iload_n dX4_join_202 rfl rfl ?_
        refine xq_icmp_neN dX4_join_203 rfl (by omega) (by omega) ⟨fun h203 => ?_, fun h203 => ?_⟩
        · skip
          refine xq_iconst dX4_join_210 ic0 ?_
          refine xq_iaddN dX4_join_211 ?_
          refine xq_istore_n dX4_join_212 rfl rfl ?_
          refine xq_iincN dX4_join_213 ic1 rfl rfl ?_
          refine xq_goto dX4_join_216 rfl ?_
          have hhp : h (h p) = cn u p := by
            by_cases e : h p = p
            · rw [e, e]; exact (f1.2.2.1.mp e).symm
            · rw [hd (h p) (by omega), f1.2.1]
          exact xq_fgt (ih (p + 1) (m + 0) (fun q => if q = p then h (h p) else h q) _ (by omega) (by omega) (by rw [ct_f (by rw [hhp] at h203; simpa using h203), hm]; rfl) (Off.pI (A := (fun q => (16 ≤ q ∧ q ≤ 18) ∨ q = 20)) ho (by omega) _ _) (by
              obtain ⟨t2, a1, a2⟩ := hmt
              exact ⟨t2, a1, a2.off (Off.pI (A := fun q => q = 20) Off.rf rfl _ _) (by omega) (by omega)⟩) hj (fun q hq => by
              rw [hI_sI]
              by_cases e : q = p
              · rw [if_pos ⟨rfl, e⟩]; simp only [if_pos e]
              · rw [if_neg (fun z => e z.2)]; simp only [if_neg e]; exact hh q hq) (fun q hq => by
              by_cases e : q = p
              · subst e
                simp only [if_true]
                rw [hhp]
                exact ⟨f1.2.2.2, hf.cc q hq, Iff.rfl, f1.2.2.2⟩
              · simp only [if_neg e]; exact hf q hq) (fun q hq => by
              by_cases e : q = p
              · subst e; simp only [if_true]; exact hhp
              · simp only [if_neg e]; exact hd q (by omega))) (by exact And.intro rfl (And.intro rfl (And.intro rfl (And.intro rfl (trivial)))))
        · skip
          refine xq_iconst dX4_join_206 ic1 ?_
          refine xq_goto dX4_join_207 rfl ?_
          refine xq_iaddN dX4_join_211 ?_
          refine xq_istore_n dX4_join_212 rfl rfl ?_
          refine xq_iincN dX4_join_213 ic1 rfl rfl ?_
          refine xq_goto dX4_join_216 rfl ?_
          have hhp : h (h p) = cn u p := by
            by_cases e : h p = p
            · rw [e, e]; exact (f1.2.2.1.mp e).symm
            · rw [hd (h p) (by omega), f1.2.1]
          exact xq_fgt (ih (p + 1) (m + 1) (fun q => if q = p then h (h p) else h q) _ (by omega) (by omega) (by rw [ct_t (by rw [hhp] at h203; simpa using h203), hm]) (Off.pI (A := (fun q => (16 ≤ q ∧ q ≤ 18) ∨ q = 20)) ho (by omega) _ _) (by
              obtain ⟨t2, a1, a2⟩ := hmt
              exact ⟨t2, a1, a2.off (Off.pI (A := fun q => q = 20) Off.rf rfl _ _) (by omega) (by omega)⟩) hj (fun q hq => by
              rw [hI_sI]
              by_cases e : q = p
              · rw [if_pos ⟨rfl, e⟩]; simp only [if_pos e]
              · rw [if_neg (fun z => e z.2)]; simp only [if_neg e]; exact hh q hq) (fun q hq => by
              by_cases e : q = p
              · subst e
                simp only [if_true]
                rw [hhp]
                exact ⟨f1.2.2.2, hf.cc q hq, Iff.rfl, f1.2.2.2⟩
              · simp only [if_neg e]; exact hf q hq) (fun q hq => by
              by_cases e : q = p
              · subst e; simp only [if_true]; exact hhp
              · simp only [if_neg e]; exact hd q (by omega))) (by exact And.intro rfl (And.intro rfl (And.intro rfl (And.intro rfl (trivial)))))
  have l1 : ∀ (fz : Nat) (i : Nat) (h c : Nat → Nat) (H1 : xH), uNp u - i < fz → i ≤ uNp u → Off (fun q => (16 ≤ q ∧ q ≤ 18) ∨ q = 20) H H1 → i ≤ 6 ∧ MiP H1 (t + i) → HeP H1 h (uZ u) → Fo h c (uZ u) → JA u c → Mrg u c i → Xq mX4_join 1 0 0 25 [some (.ref 16), some (.ref a), some (vN i), none, none, none, none] [] S H1 (fun R => ∃ x H', (fun x H' => x = ct (fun p => cn u p == p) (uZ u) ∧ Off (fun q => (16 ≤ q ∧ q ≤ 18) ∨ q = 20) H H' ∧ (∃ t2, t2 ≤ t + 6 ∧ MiP H' t2) ∧ hI H' 16 5 = nI 1 ∧ JC u (cn u) ∧ HeP H' (cn u) (uZ u)) x H' ∧ R = (some (vN x), S, H')) := by
    intro fz
    induction fz with
    | zero => intro i  h c  H1  hn; exact absurd hn (by omega)
    | succ fz ih =>
      intro i  h c  H1  hn hi ho hmt hh hf hja hmg
      have hu1 := hu.off ho (fun j hj => by omega); have ih0 := ih
      refine xq_iload_n dX4_join_25 rfl rfl ?_
      refine xq_aload_n dX4_join_26 rfl rfl ?_
      refine xq_getIE clX7 (by decide) rfl fl_RX4_99 dX4_join_27 (St.s0 ha) hu1.f6 ?_
      refine xq_icmp_geN dX4_join_30 rfl (by omega) (by omega) ⟨fun h30 => ?_, fun h30 => ?_⟩
      · skip
        refine xq_iconst dX4_join_166 ic0 ?_
        refine xq_istore_n dX4_join_167 rfl rfl ?_
        refine xq_iconst dX4_join_168 ic0 ?_
        refine xq_istore_n dX4_join_169 rfl rfl ?_
        have hjc : JC u c := ⟨fun p hp => ⟨(hf p hp).2.2.2, hf.cc p hp⟩, fun j hj a b ha hb e => hmg j (by omega) a b ha hb e, hja⟩
        have hjn := cn_ok hjc
        refine xq_fgt (l3 (uZ u + 1) 0 0 h H1 (by omega) (by omega) rfl ho ⟨t + i, by omega, hmt.2⟩ hjn hh (fun q hq => ?_) (fun q hq => absurd hq (by omega))) (by exact And.intro rfl (And.intro rfl (And.intro rfl (And.intro rfl trivial))))
        have := hf q hq
        have e1 := hjc.uniq hjn hq
        have e2 := hjc.uniq hjn (p := h q) (by omega)
        rw [← e1, ← e2]
        exact this
      · skip
        refine xq_aload_n dX4_join_33 rfl rfl ?_
        refine xq_dup dX4_join_34 rfl ?_
        refine xq_getIE clX4 (by decide) rfl fl_RX4_102 dX4_join_35 (Fx.s16 hF) hmt.2.1 ?_
        refine xq_iconst dX4_join_38 ic1 ?_
        refine xq_iaddN dX4_join_39 ?_
        refine xq_putI clX4 (by decide) rfl fl_RX4_102 (Or.inl rfl) dX4_join_40 ⟨rfl, rfl⟩ (Fx.s16 hF) ?_
        have l2 : ∀ (fz : Nat) (p : Nat) (h c : Nat → Nat) (H1 : xH), uZ u - p < fz → p ≤ uZ u → Off (fun q => (16 ≤ q ∧ q ≤ 18) ∨ q = 20) H H1 → hI H1 16 2 = nI (t + i + 1) → HeP H1 h (uZ u) → Fo h c (uZ u) → JA u c → Mrg u c i → Poo H1 u c i (t + i) p → Xq mX4_join 1 0 0 45 [some (.ref 16), some (.ref a), some (vN i), some (vN p), none, none, none] [] S H1 (fun R => ∃ x H', (fun x H' => x = ct (fun p => cn u p == p) (uZ u) ∧ Off (fun q => (16 ≤ q ∧ q ≤ 18) ∨ q = 20) H H' ∧ (∃ t2, t2 ≤ t + 6 ∧ MiP H' t2) ∧ hI H' 16 5 = nI 1 ∧ JC u (cn u) ∧ HeP H' (cn u) (uZ u)) x H' ∧ R = (some (vN x), S, H')) := by
          intro fz
          induction fz with
          | zero => intro p  h c  H1  hn; exact absurd hn (by omega)
          | succ fz ih =>
            intro p  h c  H1  hn hp ho h2 hh hf hja hmg hpo
            have hu1 := hu.off ho (fun j hj => by omega)
            refine xq_iload_n dX4_join_45 rfl rfl ?_
            refine xq_aload_n dX4_join_46 rfl rfl ?_
            refine xq_getIE clX7 (by decide) rfl fl_RX4_85 dX4_join_47 (St.s0 ha) hu1.sz ?_
            refine xq_icmp_geN dX4_join_50 rfl (by omega) (by omega) ⟨fun h50 => ?_, fun h50 => ?_⟩
            · skip
              refine xq_iincN dX4_join_160 ic1 rfl rfl ?_
              refine xq_goto dX4_join_163 rfl ?_
              exact xq_fgt (ih0 (i + 1) h c H1 (by omega) (by omega) ho ⟨by omega, ⟨h2, fun key hk => by obtain ⟨⟨s0, s1, s2, -⟩, -⟩ := hpo key hk; exact ⟨s0, s1, s2⟩⟩⟩ hh hf hja (fun j hj a b ha hb e => by
                by_cases w : j = i
                · subst w
                  obtain ⟨q, -, -, -, q4⟩ := (hpo (ky u j a) (ky_lt u j a)).2 (ex_key.mpr ⟨a, by omega, rfl⟩)
                  rw [q4 a (by omega) rfl, q4 b (by omega) e.symm]
                · exact hmg j (by omega) a b ha hb e)) (by exact And.intro rfl (And.intro rfl (And.intro rfl (trivial))))
            · skip
              have hkl2 : uW u p &&& vm (uSe u i) &&& 4095 < 4096 := ky_lt u i p
              have h2x := h2
              refine xq_aload_n dX4_join_53 rfl rfl ?_
              refine xq_getF clX7 (by decide) rfl fl_RX4_88 dX4_join_54 (St.s0 ha) (St.r0 ha) ?_
              refine xq_iload_n dX4_join_57 rfl rfl ?_
              refine xq_ialdN dX4_join_58 (St.s1 ha) (by omega) (by decide) (hu1.w h50) ?_
              refine xq_aload_n dX4_join_59 rfl rfl ?_
              refine xq_getF clX7 (by decide) rfl fl_RX4_105 dX4_join_60 (St.s0 ha) (St.r2 ha) ?_
              refine xq_iload_n dX4_join_63 rfl rfl ?_
              refine xq_ialdN dX4_join_64 (St.s3 ha) (by omega) (by decide) (hu1.vi (by omega)) ?_
              refine xq_iandN dX4_join_65 ?_
              refine xq_sipush dX4_join_66 sp4095 ?_
              refine xq_iandN dX4_join_69 ?_
              refine xq_istore dX4_join_70 rfl ?_
              refine xq_aload_n dX4_join_72 rfl rfl ?_
              refine xq_getF clX4 (by decide) rfl fl_RX4_15 dX4_join_73 (Fx.s16 hF) (Fx.r16_1 hF) ?_
              refine xq_iload dX4_join_76 rfl ?_
              refine xq_aload_n dX4_join_78 rfl rfl ?_
              refine xq_getF clX4 (by decide) rfl fl_RX4_9 dX4_join_79 (Fx.s16 hF) (Fx.r16_0 hF) ?_
              refine xq_iload dX4_join_82 rfl ?_
              refine xq_ialdN dX4_join_84 (Fx.s17 hF) hkl2 (by decide) rfl ?_
              refine xq_aload_n dX4_join_85 rfl rfl ?_
              refine xq_getIE clX4 (by decide) rfl fl_RX4_102 dX4_join_86 (Fx.s16 hF) h2 ?_
              refine xq_icmp_ne dX4_join_89 rfl ⟨fun h89 => ?_, fun h89 => ?_⟩
              · skip
                obtain ⟨⟨s0, s1, s2, s3⟩, sq⟩ := hpo (ky u i p) (ky_lt u i p)
                have hnx : ¬ ex (fun r => ky u i r == ky u i p) p = true := fun z => h89 (s2.trans (by rw [s3.mpr z]))
                refine xq_iload_n dX4_join_102 rfl rfl ?_
                refine xq_iastN dX4_join_103 (Fx.s18 hF) hkl2 (by decide) ?_
                refine xq_aload_n dX4_join_104 rfl rfl ?_
                refine xq_getF clX4 (by decide) rfl fl_RX4_9 dX4_join_105 (Fx.s16 hF) (Fx.r16_0 hF) ?_
                refine xq_iload dX4_join_108 rfl ?_
                refine xq_aload_n dX4_join_110 rfl rfl ?_
                refine xq_getIE clX4 (by decide) rfl fl_RX4_102 dX4_join_111 (Fx.s16 hF) h2 ?_
                refine xq_iastN dX4_join_114 (Fx.s17 hF) hkl2 (by decide) ?_
                refine xq_aload_n dX4_join_115 rfl rfl ?_
                refine xq_iload_n dX4_join_116 rfl rfl ?_
                refine xq_callV1H clX4 gd_X4_headOf dX4_join_117 ml_RX4_115 im_X4_headOf se_X4_headOf rfl (Fx.s16 hF) (by exact Nat.le_of_ble_eq_true rfl) (by decide) (c_headOf hF hz (h := h) (c := c) (fun q hq => by simp [hI_sI, hh q hq]) hf h50) ?_
                intro x117 H117 p117
                obtain ⟨rfl, o117, h1, hh1, hf1⟩ := p117
                refine xq_istore dX4_join_120 rfl ?_
                refine xq_aload_n dX4_join_122 rfl rfl ?_
                refine xq_aload_n dX4_join_123 rfl rfl ?_
                refine xq_getF clX4 (by decide) rfl fl_RX4_15 dX4_join_124 (Fx.s16 hF) (Fx.r16_1 hF) ?_
                refine xq_iload dX4_join_127 rfl ?_
                refine xq_ialdN (v := nI p) dX4_join_129 (Fx.s18 hF) hkl2 (by decide) (by rw [o117.I (by omega), hI_sI, if_neg (by omega), hI_sI]; exact if_pos ⟨rfl, rfl⟩) ?_
                refine xq_callV1H clX4 gd_X4_headOf dX4_join_130 ml_RX4_115 im_X4_headOf se_X4_headOf rfl (Fx.s16 hF) (by exact Nat.le_of_ble_eq_true rfl) (by decide) (c_headOf hF hz hh1 hf1 (p := p) (by omega)) ?_
                intro x130 H130 p130
                obtain ⟨rfl, o130, h2, hh2, hf2⟩ := p130
                have ob := o117.tr o130
                have ho130 : Off (fun q => (16 ≤ q ∧ q ≤ 18) ∨ q = 20) H H130 := (Off.pI (A := (fun q => (16 ≤ q ∧ q ≤ 18) ∨ q = 20)) (Off.pI (A := (fun q => (16 ≤ q ∧ q ≤ 18) ∨ q = 20)) ho (by omega) _ _) (by omega) _ _).tr (ob.mo (fun q h => by omega))
                have e162 : hI H130 16 2 = nI (t + i + 1) := by rw [ob.I (by omega)]; simp [hI_sI, h2x]
                have e17 : ∀ key, hI H130 17 key = if key = ky u i p then nI (t + i + 1) else hI H1 17 key := fun key => by
                  rw [ob.I (by omega), hI_sI]
                  by_cases e : key = ky u i p
                  · rw [if_pos e, if_pos ⟨rfl, e⟩]
                  · rw [if_neg e, if_neg (fun z => e z.2), hI_sI, if_neg (by omega)]
                have e18 : ∀ key, hI H130 18 key = if key = ky u i p then nI p else hI H1 18 key := fun key => by
                  rw [ob.I (by omega), hI_sI, if_neg (by omega), hI_sI]
                  by_cases e : key = ky u i p
                  · rw [if_pos e, if_pos ⟨rfl, e⟩]
                  · rw [if_neg e, if_neg (fun z => e z.2)]
                have fp := hf p h50; have fq := hf p (by omega)
                refine xq_istore dX4_join_133 rfl ?_
                refine xq_aload_n dX4_join_135 rfl rfl ?_
                refine xq_getF clX4 (by decide) rfl fl_RX4_22 dX4_join_136 (Fx.s16 hF) (Fx.r16_4 hF) ?_
                refine xq_iload dX4_join_139 rfl ?_
                refine xq_iload dX4_join_141 rfl ?_
                refine xq_mmaxN dX4_join_143 ml_RX4_119 (by exact Nat.le_of_ble_eq_true rfl) (by decide) (by omega) (by omega) ?_
                refine xq_iload dX4_join_146 rfl ?_
                refine xq_iload dX4_join_148 rfl ?_
                refine xq_mminN dX4_join_150 ml_RX4_124 (by exact Nat.le_of_ble_eq_true rfl) (by decide) (by omega) (by omega) ?_
                refine xq_iastN dX4_join_153 (Fx.s20 hF) (by omega) (by decide) ?_
                refine xq_iincN dX4_join_154 ic1 rfl rfl ?_
                refine xq_goto dX4_join_157 rfl ?_
                refine xq_fgt (ih (p + 1) (fun q => if q = max (c p) (c p) then min (c p) (c p) else h2 q) (fun q => if c q = max (c p) (c p) then min (c p) (c p) else c q) _ (by omega) (by omega) (Off.pI (A := (fun q => (16 ≤ q ∧ q ≤ 18) ∨ q = 20)) (ho130.mo (fun q h => h)) (by omega) _ _) (by rw [hI_sI, if_neg (by omega)]; exact e162) (fun q hq => ?_) (hf2.join (by have := (hf p h50).2.2.2; omega) (by have := (hf p (by omega)).2.2.2; omega) (hf.cc p h50) (hf.cc p (by omega))) (hja.join (i := i) (by omega) h50 (by omega) rfl) (fun j hj a b ha hb e => by show (if _ then _ else _) = (if _ then _ else _); rw [hmg j hj a b ha hb e]) (hpo.step h50 (by omega) rfl (fun r hr hk => absurd (ex_key.mpr ⟨r, hr, hk⟩) hnx) (fun key => by rw [hI_sI, if_neg (by omega)]; exact e17 key) (fun key => by rw [hI_sI, if_neg (by omega)]; exact e18 key))) (by exact And.intro rfl (And.intro rfl (And.intro rfl (And.intro rfl trivial))))
                rw [hI_sI]
                by_cases e : q = max (c p) (c p)
                · rw [if_pos ⟨rfl, e⟩]; simp only [if_pos e]
                · rw [if_neg (fun z => e z.2)]; simp only [if_neg e]; exact hh2 q hq
              · skip
                obtain ⟨⟨s0, s1, s2, s3⟩, sq⟩ := hpo (ky u i p) (ky_lt u i p)
                have hxx : s0 = t + i + 1 := nI_inj (by omega) (by omega) (s2.symm.trans h89)
                obtain ⟨q0, q1, q2, q3, q4⟩ := sq (s3.mp hxx)
                refine xq_aload_n dX4_join_92 rfl rfl ?_
                refine xq_getF clX4 (by decide) rfl fl_RX4_15 dX4_join_93 (Fx.s16 hF) (Fx.r16_1 hF) ?_
                refine xq_iload dX4_join_96 rfl ?_
                refine xq_ialdN dX4_join_98 (Fx.s18 hF) hkl2 (by decide) q2 ?_
                refine xq_goto dX4_join_99 rfl ?_
                refine xq_iastN dX4_join_103 (Fx.s18 hF) hkl2 (by decide) ?_
                refine xq_aload_n dX4_join_104 rfl rfl ?_
                refine xq_getF clX4 (by decide) rfl fl_RX4_9 dX4_join_105 (Fx.s16 hF) (Fx.r16_0 hF) ?_
                refine xq_iload dX4_join_108 rfl ?_
                refine xq_aload_n dX4_join_110 rfl rfl ?_
                refine xq_getIE clX4 (by decide) rfl fl_RX4_102 dX4_join_111 (Fx.s16 hF) h2 ?_
                refine xq_iastN dX4_join_114 (Fx.s17 hF) hkl2 (by decide) ?_
                refine xq_aload_n dX4_join_115 rfl rfl ?_
                refine xq_iload_n dX4_join_116 rfl rfl ?_
                refine xq_callV1H clX4 gd_X4_headOf dX4_join_117 ml_RX4_115 im_X4_headOf se_X4_headOf rfl (Fx.s16 hF) (by exact Nat.le_of_ble_eq_true rfl) (by decide) (c_headOf hF hz (h := h) (c := c) (fun q hq => by simp [hI_sI, hh q hq]) hf h50) ?_
                intro x117 H117 p117
                obtain ⟨rfl, o117, h1, hh1, hf1⟩ := p117
                refine xq_istore dX4_join_120 rfl ?_
                refine xq_aload_n dX4_join_122 rfl rfl ?_
                refine xq_aload_n dX4_join_123 rfl rfl ?_
                refine xq_getF clX4 (by decide) rfl fl_RX4_15 dX4_join_124 (Fx.s16 hF) (Fx.r16_1 hF) ?_
                refine xq_iload dX4_join_127 rfl ?_
                refine xq_ialdN (v := nI q0) dX4_join_129 (Fx.s18 hF) hkl2 (by decide) (by rw [o117.I (by omega), hI_sI, if_neg (by omega), hI_sI]; exact if_pos ⟨rfl, rfl⟩) ?_
                refine xq_callV1H clX4 gd_X4_headOf dX4_join_130 ml_RX4_115 im_X4_headOf se_X4_headOf rfl (Fx.s16 hF) (by exact Nat.le_of_ble_eq_true rfl) (by decide) (c_headOf hF hz hh1 hf1 (p := q0) (by omega)) ?_
                intro x130 H130 p130
                obtain ⟨rfl, o130, h2, hh2, hf2⟩ := p130
                have ob := o117.tr o130
                have ho130 : Off (fun q => (16 ≤ q ∧ q ≤ 18) ∨ q = 20) H H130 := (Off.pI (A := (fun q => (16 ≤ q ∧ q ≤ 18) ∨ q = 20)) (Off.pI (A := (fun q => (16 ≤ q ∧ q ≤ 18) ∨ q = 20)) ho (by omega) _ _) (by omega) _ _).tr (ob.mo (fun q h => by omega))
                have e162 : hI H130 16 2 = nI (t + i + 1) := by rw [ob.I (by omega)]; simp [hI_sI, h2x]
                have e17 : ∀ key, hI H130 17 key = if key = ky u i p then nI (t + i + 1) else hI H1 17 key := fun key => by
                  rw [ob.I (by omega), hI_sI]
                  by_cases e : key = ky u i p
                  · rw [if_pos e, if_pos ⟨rfl, e⟩]
                  · rw [if_neg e, if_neg (fun z => e z.2), hI_sI, if_neg (by omega)]
                have e18 : ∀ key, hI H130 18 key = if key = ky u i p then nI q0 else hI H1 18 key := fun key => by
                  rw [ob.I (by omega), hI_sI, if_neg (by omega), hI_sI]
                  by_cases e : key = ky u i p
                  · rw [if_pos e, if_pos ⟨rfl, e⟩]
                  · rw [if_neg e, if_neg (fun z => e z.2)]
                have fp := hf p h50; have fq := hf q0 (by omega)
                refine xq_istore dX4_join_133 rfl ?_
                refine xq_aload_n dX4_join_135 rfl rfl ?_
                refine xq_getF clX4 (by decide) rfl fl_RX4_22 dX4_join_136 (Fx.s16 hF) (Fx.r16_4 hF) ?_
                refine xq_iload dX4_join_139 rfl ?_
                refine xq_iload dX4_join_141 rfl ?_
                refine xq_mmaxN dX4_join_143 ml_RX4_119 (by exact Nat.le_of_ble_eq_true rfl) (by decide) (by omega) (by omega) ?_
                refine xq_iload dX4_join_146 rfl ?_
                refine xq_iload dX4_join_148 rfl ?_
                refine xq_mminN dX4_join_150 ml_RX4_124 (by exact Nat.le_of_ble_eq_true rfl) (by decide) (by omega) (by omega) ?_
                refine xq_iastN dX4_join_153 (Fx.s20 hF) (by omega) (by decide) ?_
                refine xq_iincN dX4_join_154 ic1 rfl rfl ?_
                refine xq_goto dX4_join_157 rfl ?_
                refine xq_fgt (ih (p + 1) (fun q => if q = max (c p) (c q0) then min (c p) (c q0) else h2 q) (fun q => if c q = max (c p) (c q0) then min (c p) (c q0) else c q) _ (by omega) (by omega) (Off.pI (A := (fun q => (16 ≤ q ∧ q ≤ 18) ∨ q = 20)) (ho130.mo (fun q h => h)) (by omega) _ _) (by rw [hI_sI, if_neg (by omega)]; exact e162) (fun q hq => ?_) (hf2.join (by have := (hf p h50).2.2.2; omega) (by have := (hf q0 (by omega)).2.2.2; omega) (hf.cc p h50) (hf.cc q0 (by omega))) (hja.join (i := i) (by omega) h50 (by omega) q3.symm) (fun j hj a b ha hb e => by show (if _ then _ else _) = (if _ then _ else _); rw [hmg j hj a b ha hb e]) (hpo.step h50 (by omega) q3 q4 (fun key => by rw [hI_sI, if_neg (by omega)]; exact e17 key) (fun key => by rw [hI_sI, if_neg (by omega)]; exact e18 key))) (by exact And.intro rfl (And.intro rfl (And.intro rfl (And.intro rfl trivial))))
                rw [hI_sI]
                by_cases e : q = max (c p) (c q0)
                · rw [if_pos ⟨rfl, e⟩]; simp only [if_pos e]
                · rw [if_neg (fun z => e z.2)]; simp only [if_neg e]; exact hh2 q hq
        refine xq_iconst dX4_join_43 ic0 ?_
        refine xq_istore_n dX4_join_44 rfl rfl ?_
        exact xq_fgt (l2 (uZ u + 1) 0 h c _ (by omega) (by omega) (Off.pI (A := (fun q => (16 ≤ q ∧ q ≤ 18) ∨ q = 20)) ho (by omega) _ _) (by simp [hI_sI]) (fun q hq => by rw [hI_sI, if_neg (by omega)]; exact hh q hq) hf hja hmg (fun key hk => ⟨by obtain ⟨s, hs, e⟩ := hmt.2.2 key hk; exact ⟨s, by omega, by rw [hI_sI, if_neg (by omega)]; exact e, ⟨fun z => by omega, fun z => by cases z⟩⟩, fun z => by cases z⟩)) (by exact And.intro rfl (And.intro rfl (And.intro rfl (And.intro rfl trivial))))
  have l0 : ∀ (fz : Nat) (p : Nat) (H1 : xH), uZ u - p < fz → p ≤ uZ u → Off (fun q => q = 20) H H1 → (∀ q, q < p → hI H1 20 q = nI q) → Xq mX4_join 1 0 0 2 [some (.ref 16), some (.ref a), some (vN p), none, none, none, none] [] S H1 (fun R => ∃ x H', (fun x H' => x = ct (fun p => cn u p == p) (uZ u) ∧ Off (fun q => (16 ≤ q ∧ q ≤ 18) ∨ q = 20) H H' ∧ (∃ t2, t2 ≤ t + 6 ∧ MiP H' t2) ∧ hI H' 16 5 = nI 1 ∧ JC u (cn u) ∧ HeP H' (cn u) (uZ u)) x H' ∧ R = (some (vN x), S, H')) := by
    intro fz
    induction fz with
    | zero => intro p  H1  hn; exact absurd hn (by omega)
    | succ fz ih =>
      intro p  H1  hn hp ho hh
      have hu1 := hu.off ho (fun j hj => by omega)
      refine xq_iload_n dX4_join_2 rfl rfl ?_
      refine xq_aload_n dX4_join_3 rfl rfl ?_
      refine xq_getIE clX7 (by decide) rfl fl_RX4_85 dX4_join_4 (St.s0 ha) hu1.sz ?_
      refine xq_icmp_geN dX4_join_7 rfl (by omega) (by omega) ⟨fun h7 => ?_, fun h7 => ?_⟩
      · skip
        refine xq_iconst dX4_join_23 ic0 ?_
        refine xq_istore_n dX4_join_24 rfl rfl ?_
        exact l1 (uNp u + 1) 0 (fun q => q) (fun q => q) H1 (by omega) (by omega) (ho.mo (fun q h => by omega)) ⟨by omega, hm.off ho (by omega) (by omega)⟩ (fun q hq => hh q (by omega)) (fun q hq => ⟨Nat.le_refl _, rfl, Iff.rfl, Nat.le_refl _⟩) (fun A hA p hp => Iff.rfl) (fun j hj => absurd hj (by omega))
      · skip
        refine xq_aload_n dX4_join_10 rfl rfl ?_
        refine xq_getF clX4 (by decide) rfl fl_RX4_22 dX4_join_11 (Fx.s16 hF) (Fx.r16_4 hF) ?_
        refine xq_iload_n dX4_join_14 rfl rfl ?_
        refine xq_iload_n dX4_join_15 rfl rfl ?_
        refine xq_iastN dX4_join_16 (Fx.s20 hF) (by omega) (by decide) ?_
        refine xq_iincN dX4_join_17 ic1 rfl rfl ?_
        refine xq_goto dX4_join_20 rfl ?_
        exact ih (p + 1) _ (by omega) (by omega) (Off.pI (A := fun q => q = 20) ho rfl _ _) (fun q hq => by
          rw [hI_sI]
          by_cases e : q = p
          · rw [if_pos ⟨rfl, e⟩, e]
          · rw [if_neg (fun z => e z.2)]; exact hh q (by omega))
  refine vq_intro (by decide) (by exact Nat.le_of_ble_eq_true rfl) rfl ?_
  refine xq_iconst dX4_join_0 ic0 ?_
  refine xq_istore_n dX4_join_1 rfl rfl ?_
  exact l0 (uZ u + 1) 0 H (by omega) (by omega) Off.rf (fun q hq => absurd hq (by omega))
end UF
