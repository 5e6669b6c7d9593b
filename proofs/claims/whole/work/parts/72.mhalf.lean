/-! ===== the reference: what was told becomes the text ===== -/
section MLg
variable {S : xS} {H H1 H2 H3 : xH} {b : Nat → Nat} {n e e2 p q i j k x w m K V a c l v most : Nat} {A F : Nat → Prop} {so va : Int32} {s : uTk} {cd : Nat → Nat}
/-- the upper half comes down -/
def HfQ (H H2 : xH) (a c : Nat) : Prop := (∀ k, k < c → hI H2 a k = hI H a (c + k)) ∧ (∀ k, c ≤ k → hI H2 a k = hI H a k) ∧ Off (fun q => q = a) H H2
theorem m_half (hsa : fS S a = (1, c + c)) (hc : c ≤ 100) : Nv mX11_half 0 [.ref a] S H (fun H' => HfQ H H' a c) := by
  have lp : ∀ (fz : Nat) (k : Nat) (H1 : xH), c - k < fz → k ≤ c → (∀ i, i < k → hI H1 a i = hI H a (c + i)) → (∀ i, k ≤ i → hI H1 a i = hI H a i) → Off (fun q => q = a) H H1 → Xq mX11_half 0 0 0 7 [some (.ref a), some (vN c), some (vN k)] [] S H1 (fun R => ∃ H', (fun H' => HfQ H H' a c) H' ∧ R = (none, S, H')) := by
    intro fz
    induction fz with
    | zero => intro k  H1  hfz; exact absurd hfz (by omega)
    | succ fz ih =>
      intro k  H1  hfz hk h1 h2 ho
      refine xq_iload_n dX11_half_7 rfl rfl ?_
      refine xq_iload_n dX11_half_8 rfl rfl ?_
      refine xq_icmp_geN dX11_half_9 rfl (by omega) (by omega) ⟨fun h9 => ?_, fun h9 => ?_⟩
      · skip
        refine xq_vret dX11_half_26 rfl ?_
        exact ⟨H1, ⟨fun i hi => h1 i (by omega), fun i hi => h2 i (by omega), ho⟩, rfl⟩
      · skip
        refine xq_aload_n dX11_half_12 rfl rfl ?_
        refine xq_iload_n dX11_half_13 rfl rfl ?_
        refine xq_aload_n dX11_half_14 rfl rfl ?_
        refine xq_iload_n dX11_half_15 rfl rfl ?_
        refine xq_iload_n dX11_half_16 rfl rfl ?_
        refine xq_iaddN dX11_half_17 ?_
        refine xq_ialdN (v := (hI H1 a (c + k))) dX11_half_18 hsa (by omega) (by omega) rfl ?_
        refine xq_iastN dX11_half_19 hsa (by omega) (by omega) ?_
        refine xq_iincN dX11_half_20 ic1 rfl rfl ?_
        refine xq_goto dX11_half_23 rfl ?_
        refine ih (k + 1) _ (by omega) (by omega) (fun i hi => ?_) (fun i hi => ?_) (ho.pI (A := fun q => q = a) rfl _ _)
        · rw [hI_sI]
          by_cases e : i = k
          · rw [if_pos ⟨rfl, e⟩, e]; exact h2 _ (by omega)
          · rw [if_neg (fun z => e z.2)]; exact h1 i (by omega)
        · rw [hI_sI, if_neg (by omega)]; exact h2 i (by omega)
  refine vq_intro (by decide) (by exact Nat.le_of_ble_eq_true rfl) rfl ?_
  refine xq_aload_n dX11_half_0 rfl rfl ?_
  refine xq_alen (v := nI (c + c)) dX11_half_1 hsa (by decide) rfl ?_
  refine xq_iconst dX11_half_2 ic2 ?_
  refine xq_idivN dX11_half_3 (by omega) (by omega) (by decide) ?_
  refine xq_istore_n dX11_half_4 rfl rfl ?_
  refine xq_iconst dX11_half_5 ic0 ?_
  refine xq_istore_n dX11_half_6 rfl rfl ?_
  rw [show (c + c) / 2 = c by omega]
  exact lp (c + 1) 0 H (by omega) (by omega) (fun i hi => absurd hi (by omega)) (fun _ _ => rfl) Off.rf
end MLg
