/-! ===== Mind: judge, rivals, the fewest facts ===== -/
section JU
variable {S : xS} {H H1 : xH} {i t k x a n p z m : Nat} {u : uSt} {T : uTx} {w : Int64}
theorem kn_x (h : KnOk T k) (e : tK T k = 12 ∨ tK T k = 11 ∨ tK T k = 13 ∨ tK T k = 16 ∨ tK T k = 17 ∨ tK T k = 18) : tX T k < k := by unfold KnOk at h; omega
theorem kn_y (h : KnOk T k) (e : tK T k = 20 ∨ tK T k = 12 ∨ tK T k = 11) : tY T k < k := by unfold KnOk at h; omega
theorem JnP.off {H H1 : xH} (h : JnP H u) (e5 : hI H1 16 5 = hI H 16 5) (e20 : ∀ q, hI H1 20 q = hI H 20 q) : JnP H1 u := by
  rcases h with h | ⟨h1, h2, h3⟩
  · exact Or.inl (e5.trans h)
  · exact Or.inr ⟨e5.trans h1, h2, fun q hq => (e20 q).trans (h3 q hq)⟩
def JuL (H H1 : xH) (u : uSt) (T : uTx) (w : Int64) (z k : Nat) : Prop := Off (fun q => 16 ≤ q ∧ q ≤ 20) H H1 ∧ (∃ t2, t2 ≤ z + 7 * k ∧ MiP H1 t2) ∧ JnP H1 u ∧ ∀ j, j < k → rb w j = true → ∀ p, p < uZ u → rx H1 p j = kv T u j p
theorem JuL.step {H2 : xH} {f : Nat → Bool} (h : JuL H H1 u T w z k) (hw : NdOk T w) (hk : k < 64) (hb : rb w k = true) (ho : Off (fun q => 16 ≤ q ∧ q ≤ 20) H1 H2) (hm : ∃ t2, t2 ≤ z + 7 * (k + 1) ∧ MiP H2 t2) (hj : JnP H2 u) (hc : ColS H1 H2 (uZ u) k f) (hf : ∀ p, p < uZ u → f p = kst T u (fun x q => rx H1 q x) k p) : JuL H H2 u T w z (k + 1) := by
  refine ⟨h.1.tr ho, hm, hj, fun j hjk hbj p hp => ?_⟩
  have hK := (hw k hk hb).2.1
  by_cases e : j = k
  · subst e
    rw [hc.in hp hk, hf p hp]
    exact kv_eq hK (fun q p hp => h.2.2.2 _ (kn_x hK q) ((hw j hk hb).2.2.2 q) p hp) (fun q p hp => h.2.2.2 _ (kn_y hK q) ((hw j hk hb).2.2.1 q) p hp) hp
  · rw [hc.ot (by omega) e]; exact h.2.2.2 j (by omega) hbj p hp
theorem c_judge (hF : gFx S) (ha : gSt S a) (h67 : 67 ≤ a) (hu : StP H a u) (ok : StOk u) (ht : gTx S t) (ht24 : 24 ≤ t) (ht45 : t ≤ 45) (hT : TxP H t T) (hnk : tNk T ≤ 64) (hw : NdOk T w) (hm : MiP H z) (hz7 : z + 500 < 2147483648) : Nv mX4_judge 3 [.ref 16, .ref t, .ref a, .long w] S H (fun H' => Off (fun q => 16 ≤ q ∧ q ≤ 20) H H' ∧ (∃ t2, t2 ≤ z + 448 ∧ MiP H' t2) ∧ JnP H' u ∧ ∀ j, j < 64 → rb w j = true → ∀ p, p < uZ u → rx H' p j = kv T u j p) := by
  have hz := ok.n; have hnp := ok.np
  have lp : ∀ (fz : Nat) (k : Nat) (H1 : xH), tNk T - k < fz → k ≤ tNk T → JuL H H1 u T w z k → Xq mX4_judge 3 0 0 14 [some (.ref 16), some (.ref t), some (.ref a), some (.long w), none, some (.ref (t + 7)), some (vN k), none, none] [] S H1 (fun R => ∃ H', (fun H' => Off (fun q => 16 ≤ q ∧ q ≤ 20) H H' ∧ (∃ t2, t2 ≤ z + 448 ∧ MiP H' t2) ∧ JnP H' u ∧ ∀ j, j < 64 → rb w j = true → ∀ p, p < uZ u → rx H' p j = kv T u j p) H' ∧ R = (none, S, H')) := by
    intro fz
    induction fz with
    | zero => intro k  H1  hn; exact absurd hn (by omega)
    | succ fz ih =>
      intro k  H1  hn hk hl
      have hT1 := hT.off hl.1 (fun j hj => by omega); have hu1 := hu.off hl.1 (fun j hj => by omega)
      refine xq_iload dX4_judge_14 rfl ?_
      refine xq_aload dX4_judge_16 rfl ?_
      refine xq_getIE clX2 (by decide) rfl fl_RX4_41 dX4_judge_18 (Kn.s0 (Tx.n7 ht)) hT1.nk ?_
      refine xq_icmp_geN dX4_judge_21 rfl (by omega) (by omega) ⟨fun h21 => ?_, fun h21 => ?_⟩
      · skip
        refine xq_vret dX4_judge_255 rfl ?_
        exact ⟨H1, ⟨hl.1, by obtain ⟨t2, a1, a2⟩ := hl.2.1; exact ⟨t2, by omega, a2⟩, hl.2.2.1, fun j hj hb p hp => hl.2.2.2 j (by have := (hw j hj hb).1; omega) hb p hp⟩, rfl⟩
      · skip
        have hv := rb_z (w := w) (k := k) (by omega); rw [← lg_cmp_eq] at hv
        refine xq_lload_n dX4_judge_24 rfl rfl ?_
        refine xq_iload dX4_judge_25 rfl ?_
        refine xq_lushr dX4_judge_27 ?_
        refine xq_lconst dX4_judge_28 lc1 ?_
        refine xq_land dX4_judge_29 ?_
        refine xq_lconst dX4_judge_30 lc0 ?_
        refine xq_lcmp dX4_judge_31 ?_
        refine xq_if_ne dX4_judge_32 rfl ⟨fun h32 => ?_, fun h32 => ?_⟩
        · skip
          have hb : rb w k = true := Bool.not_eq_false _ ▸ (fun z => h32 (hv.mpr z))
          have hK := (hw k (by omega) hb).2.1
          obtain ⟨t2, a1, a2⟩ := hl.2.1
          refine xq_aload dX4_judge_38 rfl ?_
          refine xq_getF clX2 (by decide) rfl fl_RX4_47 dX4_judge_40 (Kn.s0 (Tx.n7 ht)) (Kn.r1 (Tx.n7 ht)) ?_
          refine xq_iload dX4_judge_43 rfl ?_
          refine xq_ialdN dX4_judge_45 (Kn.s2 (Tx.n7 ht)) (by omega) (by decide) ((hT1.kn k h21).2.1) ?_
          refine xq_istore dX4_judge_46 rfl ?_
          refine xq_aload dX4_judge_48 rfl ?_
          refine xq_getF clX2 (by decide) rfl fl_RX4_50 dX4_judge_50 (Kn.s0 (Tx.n7 ht)) (Kn.r2 (Tx.n7 ht)) ?_
          refine xq_iload dX4_judge_53 rfl ?_
          refine xq_ialdN dX4_judge_55 (Kn.s3 (Tx.n7 ht)) (by omega) (by decide) ((hT1.kn k h21).2.2) ?_
          refine xq_istore dX4_judge_56 rfl ?_
          refine xq_aload dX4_judge_58 rfl ?_
          refine xq_getF clX2 (by decide) rfl fl_RX4_53 dX4_judge_60 (Kn.s0 (Tx.n7 ht)) (Kn.r0 (Tx.n7 ht)) ?_
          refine xq_iload dX4_judge_63 rfl ?_
          refine xq_ialdN dX4_judge_65 (Kn.s1 (Tx.n7 ht)) (by omega) (by decide) ((hT1.kn k h21).1) ?_
          by_cases hs66 : 11 ≤ tK T k ∧ tK T k ≤ 20
          · skip
            have hq66 : tK T k = 11 ∨ tK T k = 12 ∨ tK T k = 13 ∨ tK T k = 14 ∨ tK T k = 15 ∨ tK T k = 16 ∨ tK T k = 17 ∨ tK T k = 18 ∨ tK T k = 19 ∨ tK T k = 20 := by omega
            rcases hq66 with e66 | e66 | e66 | e66 | e66 | e66 | e66 | e66 | e66 | e66 <;> rw [e66]
            · skip
              refine xq_tableIn dX4_judge_66 (by decide) (by decide) rfl rfl ?_
              refine xq_aload_n dX4_judge_188 rfl rfl ?_
              refine xq_aload_n dX4_judge_189 rfl rfl ?_
              refine xq_iload dX4_judge_190 rfl ?_
              refine xq_iload dX4_judge_192 rfl ?_
              refine xq_iload dX4_judge_194 rfl ?_
              refine xq_callV4N clX4 gd_X4_either dX4_judge_196 ml_RX4_70 im_X4_either se_X4_either rfl (Fx.s16 hF) (by exact Nat.le_of_ble_eq_true rfl) (by decide) (c_either hF ha h67 hu1 ok (by unfold KnOk at hK; omega) (by unfold KnOk at hK; omega) (by omega)) ?_
              intro H196 p196
              refine xq_goto dX4_judge_199 rfl ?_
              refine xq_iincN dX4_judge_249 ic1 rfl rfl ?_
              refine xq_goto dX4_judge_252 rfl ?_
              exact xq_fgt (ih (k + 1) H196 (by omega) (by omega) (hl.step hw (by omega) hb (p196.1.mo (fun q h => by omega)) ⟨t2, by omega, a2.off p196.1 (by omega) (by omega)⟩ (hl.2.2.1.off (p196.1.I (by omega) 5) (fun q => p196.1.I (by omega) q)) p196.2 (fun p hp => by simp [kst, e66, bad, bada, shb]))) (by exact And.intro rfl (And.intro rfl (And.intro rfl (And.intro rfl (And.intro rfl (And.intro rfl (trivial)))))))
            · skip
              refine xq_tableIn dX4_judge_66 (by decide) (by decide) rfl rfl ?_
              refine xq_aload_n dX4_judge_174 rfl rfl ?_
              refine xq_aload_n dX4_judge_175 rfl rfl ?_
              refine xq_iload dX4_judge_176 rfl ?_
              refine xq_iload dX4_judge_178 rfl ?_
              refine xq_iload dX4_judge_180 rfl ?_
              refine xq_callV4N clX4 gd_X4_both dX4_judge_182 ml_RX4_67 im_X4_both se_X4_both rfl (Fx.s16 hF) (by exact Nat.le_of_ble_eq_true rfl) (by decide) (c_both hF ha h67 hu1 ok (by unfold KnOk at hK; omega) (by unfold KnOk at hK; omega) (by omega)) ?_
              intro H182 p182
              refine xq_goto dX4_judge_185 rfl ?_
              refine xq_iincN dX4_judge_249 ic1 rfl rfl ?_
              refine xq_goto dX4_judge_252 rfl ?_
              exact xq_fgt (ih (k + 1) H182 (by omega) (by omega) (hl.step hw (by omega) hb (p182.1.mo (fun q h => by omega)) ⟨t2, by omega, a2.off p182.1 (by omega) (by omega)⟩ (hl.2.2.1.off (p182.1.I (by omega) 5) (fun q => p182.1.I (by omega) q)) p182.2 (fun p hp => by simp [kst, e66, bad, bada, shb]))) (by exact And.intro rfl (And.intro rfl (And.intro rfl (And.intro rfl (And.intro rfl (And.intro rfl (trivial)))))))
            · skip
              refine xq_tableIn dX4_judge_66 (by decide) (by decide) rfl rfl ?_
              refine xq_aload_n dX4_judge_202 rfl rfl ?_
              refine xq_aload_n dX4_judge_203 rfl rfl ?_
              refine xq_iload dX4_judge_204 rfl ?_
              refine xq_iload dX4_judge_206 rfl ?_
              refine xq_callV3N clX4 gd_X4_isNot dX4_judge_208 ml_RX4_73 im_X4_isNot se_X4_isNot rfl (Fx.s16 hF) (by exact Nat.le_of_ble_eq_true rfl) (by decide) (c_isNot hF ha h67 hu1 ok (by unfold KnOk at hK; omega) (by omega)) ?_
              intro H208 p208
              refine xq_goto dX4_judge_211 rfl ?_
              refine xq_iincN dX4_judge_249 ic1 rfl rfl ?_
              refine xq_goto dX4_judge_252 rfl ?_
              exact xq_fgt (ih (k + 1) H208 (by omega) (by omega) (hl.step hw (by omega) hb (p208.1.mo (fun q h => by omega)) ⟨t2, by omega, a2.off p208.1 (by omega) (by omega)⟩ (hl.2.2.1.off (p208.1.I (by omega) 5) (fun q => p208.1.I (by omega) q)) p208.2 (fun p hp => by simp [kst, e66, bad, bada, shb]))) (by exact And.intro rfl (And.intro rfl (And.intro rfl (And.intro rfl (And.intro rfl (And.intro rfl (trivial)))))))
            · skip
              refine xq_tableIn dX4_judge_66 (by decide) (by decide) rfl rfl ?_
              refine xq_aload_n dX4_judge_120 rfl rfl ?_
              refine xq_aload_n dX4_judge_121 rfl rfl ?_
              refine xq_iload dX4_judge_122 rfl ?_
              refine xq_iload dX4_judge_124 rfl ?_
              refine xq_iload dX4_judge_126 rfl ?_
              refine xq_callV4N clX4 gd_X4_wears dX4_judge_128 ml_RX4_56 im_X4_wears se_X4_wears rfl (Fx.s16 hF) (by exact Nat.le_of_ble_eq_true rfl) (by decide) (c_wears hF ha h67 hu1 ok (by unfold KnOk at hK; omega) (by unfold KnOk at hK; omega) (by omega)) ?_
              intro H128 p128
              refine xq_goto dX4_judge_131 rfl ?_
              refine xq_iincN dX4_judge_249 ic1 rfl rfl ?_
              refine xq_goto dX4_judge_252 rfl ?_
              exact xq_fgt (ih (k + 1) H128 (by omega) (by omega) (hl.step hw (by omega) hb (p128.1.mo (fun q h => by omega)) ⟨t2, by omega, a2.off p128.1 (by omega) (by omega)⟩ (hl.2.2.1.off (p128.1.I (by omega) 5) (fun q => p128.1.I (by omega) q)) p128.2 (fun p hp => by simp [kst, e66, bad, bada, shb]))) (by exact And.intro rfl (And.intro rfl (And.intro rfl (And.intro rfl (And.intro rfl (And.intro rfl (trivial)))))))
            · skip
              refine xq_tableIn dX4_judge_66 (by decide) (by decide) rfl rfl ?_
              refine xq_aload_n dX4_judge_134 rfl rfl ?_
              refine xq_aload_n dX4_judge_135 rfl rfl ?_
              refine xq_iload dX4_judge_136 rfl ?_
              refine xq_iload dX4_judge_138 rfl ?_
              refine xq_callV3N clX4 gd_X4_knowsOwn dX4_judge_140 ml_RX4_60 im_X4_knowsOwn se_X4_knowsOwn rfl (Fx.s16 hF) (by exact Nat.le_of_ble_eq_true rfl) (by decide) (c_knowsOwn hF ha h67 hu1 ok a2 (by omega) (by unfold KnOk at hK; omega) (by omega)) ?_
              intro H140 p140
              refine xq_goto dX4_judge_143 rfl ?_
              refine xq_iincN dX4_judge_249 ic1 rfl rfl ?_
              refine xq_goto dX4_judge_252 rfl ?_
              exact xq_fgt (ih (k + 1) H140 (by omega) (by omega) (hl.step hw (by omega) hb (p140.1.mo (fun q h => by omega)) ⟨t2 + 1, by omega, p140.2.1⟩ (hl.2.2.1.off p140.2.2.1 (fun q => p140.1.I (by omega) q)) p140.2.2.2 (fun p hp => by simp [kst, e66, bad, bada, shb]))) (by exact And.intro rfl (And.intro rfl (And.intro rfl (And.intro rfl (And.intro rfl (And.intro rfl (trivial)))))))
            · skip
              refine xq_tableIn dX4_judge_66 (by decide) (by decide) rfl rfl ?_
              refine xq_aload_n dX4_judge_214 rfl rfl ?_
              refine xq_aload_n dX4_judge_215 rfl rfl ?_
              refine xq_iload dX4_judge_216 rfl ?_
              refine xq_iload dX4_judge_218 rfl ?_
              refine xq_iload dX4_judge_220 rfl ?_
              refine xq_callV4N clX4 gd_X4_knowsThat dX4_judge_222 ml_RX4_76 im_X4_knowsThat se_X4_knowsThat rfl (Fx.s16 hF) (by exact Nat.le_of_ble_eq_true rfl) (by decide) (c_knowsThat hF ha h67 hu1 ok a2 (by omega) (by unfold KnOk at hK; omega) (by unfold KnOk at hK; omega) (by omega)) ?_
              intro H222 p222
              refine xq_goto dX4_judge_225 rfl ?_
              refine xq_iincN dX4_judge_249 ic1 rfl rfl ?_
              refine xq_goto dX4_judge_252 rfl ?_
              exact xq_fgt (ih (k + 1) H222 (by omega) (by omega) (hl.step hw (by omega) hb (p222.1.mo (fun q h => by omega)) ⟨t2 + 1, by omega, p222.2.1⟩ (hl.2.2.1.off p222.2.2.1 (fun q => p222.1.I (by omega) q)) p222.2.2.2 (fun p hp => by simp [kst, e66, bad, bada, shb]))) (by exact And.intro rfl (And.intro rfl (And.intro rfl (And.intro rfl (And.intro rfl (And.intro rfl (trivial)))))))
            · skip
              refine xq_tableIn dX4_judge_66 (by decide) (by decide) rfl rfl ?_
              refine xq_aload_n dX4_judge_228 rfl rfl ?_
              refine xq_aload_n dX4_judge_229 rfl rfl ?_
              refine xq_iload dX4_judge_230 rfl ?_
              refine xq_iload dX4_judge_232 rfl ?_
              refine xq_callV3N clX4 gd_X4_knownByAll dX4_judge_234 ml_RX4_79 im_X4_knownByAll se_X4_knownByAll rfl (Fx.s16 hF) (by exact Nat.le_of_ble_eq_true rfl) (by decide) (c_knownByAll hF ha h67 hu1 ok a2 (by omega) (by unfold KnOk at hK; omega) (by omega) (by unfold KnOk at hK; omega)) ?_
              intro H234 p234
              refine xq_goto dX4_judge_237 rfl ?_
              refine xq_iincN dX4_judge_249 ic1 rfl rfl ?_
              refine xq_goto dX4_judge_252 rfl ?_
              exact xq_fgt (ih (k + 1) H234 (by omega) (by omega) (hl.step hw (by omega) hb (p234.1.mo (fun q h => by omega)) (by obtain ⟨t3, b1, b2⟩ := p234.2.1; exact ⟨t3, by omega, b2⟩) (hl.2.2.1.off p234.2.2.1 (fun q => p234.1.I (by omega) q)) p234.2.2.2 (fun p hp => by simp [kst, e66, bad, bada, shb]))) (by exact And.intro rfl (And.intro rfl (And.intro rfl (And.intro rfl (And.intro rfl (And.intro rfl (trivial)))))))
            · skip
              refine xq_tableIn dX4_judge_66 (by decide) (by decide) rfl rfl ?_
              refine xq_aload_n dX4_judge_240 rfl rfl ?_
              refine xq_aload_n dX4_judge_241 rfl rfl ?_
              refine xq_iload dX4_judge_242 rfl ?_
              refine xq_iload dX4_judge_244 rfl ?_
              refine xq_callV3N clX4 gd_X4_sharedByAll dX4_judge_246 ml_RX4_82 im_X4_sharedByAll se_X4_sharedByAll rfl (Fx.s16 hF) (by exact Nat.le_of_ble_eq_true rfl) (by decide) (c_sharedByAll hF ha h67 hu1 ok a2 (by omega) hl.2.2.1 (by unfold KnOk at hK; omega) (by omega) (by unfold KnOk at hK; omega)) ?_
              intro H246 p246
              refine xq_iincN dX4_judge_249 ic1 rfl rfl ?_
              refine xq_goto dX4_judge_252 rfl ?_
              exact xq_fgt (ih (k + 1) H246 (by omega) (by omega) (hl.step hw (by omega) hb p246.1 (by obtain ⟨t3, b1, b2⟩ := p246.2.1; exact ⟨t3, by omega, b2⟩) p246.2.2.1 p246.2.2.2 (fun p hp => by simp [kst, e66, bad, bada, shb]))) (by exact And.intro rfl (And.intro rfl (And.intro rfl (And.intro rfl (And.intro rfl (And.intro rfl (trivial)))))))
            · skip
              refine xq_tableIn dX4_judge_66 (by decide) (by decide) rfl rfl ?_
              refine xq_aload_n dX4_judge_146 rfl rfl ?_
              refine xq_aload_n dX4_judge_147 rfl rfl ?_
              refine xq_iload dX4_judge_148 rfl ?_
              refine xq_iload dX4_judge_150 rfl ?_
              refine xq_iload dX4_judge_152 rfl ?_
              refine xq_callV4N clX4 gd_X4_hasMany dX4_judge_154 ml_RX4_64 im_X4_hasMany se_X4_hasMany rfl (Fx.s16 hF) (by exact Nat.le_of_ble_eq_true rfl) (by decide) (c_hasMany hF ha h67 hu1 ok (by unfold KnOk at hK; omega) (by unfold KnOk at hK; omega) (by omega)) ?_
              intro H154 p154
              refine xq_goto dX4_judge_157 rfl ?_
              refine xq_iincN dX4_judge_249 ic1 rfl rfl ?_
              refine xq_goto dX4_judge_252 rfl ?_
              exact xq_fgt (ih (k + 1) H154 (by omega) (by omega) (hl.step hw (by omega) hb (p154.1.mo (fun q h => by omega)) ⟨t2, by omega, a2.off p154.1 (by omega) (by omega)⟩ (hl.2.2.1.off (p154.1.I (by omega) 5) (fun q => p154.1.I (by omega) q)) p154.2 (fun p hp => by simp [kst, e66, bad, bada, shb]))) (by exact And.intro rfl (And.intro rfl (And.intro rfl (And.intro rfl (And.intro rfl (And.intro rfl (trivial)))))))
            · skip
              refine xq_tableIn dX4_judge_66 (by decide) (by decide) rfl rfl ?_
              refine xq_aload_n dX4_judge_160 rfl rfl ?_
              refine xq_aload_n dX4_judge_161 rfl rfl ?_
              refine xq_iload dX4_judge_162 rfl ?_
              refine xq_iload dX4_judge_164 rfl ?_
              refine xq_iload dX4_judge_166 rfl ?_
              refine xq_callV4N clX4 gd_X4_both dX4_judge_168 ml_RX4_67 im_X4_both se_X4_both rfl (Fx.s16 hF) (by exact Nat.le_of_ble_eq_true rfl) (by decide) (c_both hF ha h67 hu1 ok (by unfold KnOk at hK; omega) (by unfold KnOk at hK; omega) (by omega)) ?_
              intro H168 p168
              refine xq_goto dX4_judge_171 rfl ?_
              refine xq_iincN dX4_judge_249 ic1 rfl rfl ?_
              refine xq_goto dX4_judge_252 rfl ?_
              exact xq_fgt (ih (k + 1) H168 (by omega) (by omega) (hl.step hw (by omega) hb (p168.1.mo (fun q h => by omega)) ⟨t2, by omega, a2.off p168.1 (by omega) (by omega)⟩ (hl.2.2.1.off (p168.1.I (by omega) 5) (fun q => p168.1.I (by omega) q)) p168.2 (fun p hp => by simp [kst, e66, bad, bada, shb]))) (by exact And.intro rfl (And.intro rfl (And.intro rfl (And.intro rfl (And.intro rfl (And.intro rfl (trivial)))))))
          · skip
            exact absurd hK (by unfold KnOk; omega)
        · skip
          refine xq_goto dX4_judge_35 rfl ?_
          refine xq_iincN dX4_judge_249 ic1 rfl rfl ?_
          refine xq_goto dX4_judge_252 rfl ?_
          exact xq_fgt (ih (k + 1) H1 (by omega) (by omega) ⟨hl.1, by obtain ⟨t2, a1, a2⟩ := hl.2.1; exact ⟨t2, by omega, a2⟩, hl.2.2.1, fun j hj hb p hp => by
            by_cases e : j = k
            · subst e; rw [hv.mp h32] at hb; cases hb
            · exact hl.2.2.2 j (by omega) hb p hp⟩) (by exact And.intro rfl (And.intro rfl (And.intro rfl (And.intro rfl (And.intro rfl (And.intro rfl (trivial)))))))
  refine vq_intro (by decide) (by exact Nat.le_of_ble_eq_true rfl) rfl ?_
  refine xq_aload_n dX4_judge_0 rfl rfl ?_
  refine xq_iconst dX4_judge_1 ic0 ?_
  refine xq_putI clX4 (by decide) rfl fl_RX4_31 (Or.inl rfl) dX4_judge_2 ⟨rfl, rfl⟩ (Fx.s16 hF) ?_
  refine xq_aload_n dX4_judge_5 rfl rfl ?_
  refine xq_getF clX8 (by decide) rfl fl_RX4_35 dX4_judge_6 (Tx.s0 ht) (Tx.r3 ht) ?_
  refine xq_astore dX4_judge_9 rfl ?_
  refine xq_iconst dX4_judge_11 ic0 ?_
  refine xq_istore dX4_judge_12 rfl ?_
  exact xq_fgt (lp (tNk T + 1) 0 _ (by omega) (by omega) ⟨Off.pI (A := fun q => 16 ≤ q ∧ q ≤ 20) Off.rf (by omega) _ _, ⟨z, by omega, by rw [hI_sI, if_neg (by omega)]; exact hm.1, fun j hj => by rw [hI_sI, if_neg (by omega)]; exact hm.2 j hj⟩, Or.inl (by simp [hI_sI]), fun j hj => absurd hj (by omega)⟩) (by exact And.intro rfl (And.intro rfl (And.intro rfl (And.intro rfl (And.intro rfl (And.intro rfl trivial))))))
def fso (H : xH) (T : uTx) (p : Nat) : Nat := fo (fun f b => b ||| (rx H p (tRo T f)).toNat <<< f) 0 (tNf T)
theorem or256 {a b : Nat} (ha : a < 256) (hb : b < 256) : a ||| b < 256 := Nat.or_lt_two_pow (n := 8) ha hb
theorem shl256 (b : Bool) {c : Nat} (h : c < 8) : b.toNat <<< c < 256 := by
  have : ∀ (b : Bool) (c : Fin 8), b.toNat <<< c.val < 256 := by decide
  exact this b ⟨c, h⟩
theorem fso_lt (hn : tNf T ≤ 8) : fso H T p < 256 := by
  have : ∀ n, n ≤ 8 → fo (fun f b => b ||| (rx H p (tRo T f)).toNat <<< f) 0 n < 256 := by
    intro n
    induction n with
    | zero => intro _; exact Nat.lt_of_sub_eq_succ rfl
    | succ n ih => intro h; exact or256 (ih (by omega)) (shl256 _ (by omega))
  exact this _ hn
theorem c_factsSo (hF : gFx S) (ht : gTx S t) (ht24 : 24 ≤ t) (ht45 : t ≤ 45) (hT : TxP H t T) (hnf : tNf T ≤ 8) (hro : ∀ f, f < tNf T → tRo T f < 64) (hp : p < 729) : Pv mX4_factsSo 1 [.ref 16, .ref t, vN p] S H (vN (fso H T p)) := by
  have lp : ∀ (fz : Nat) (f b : Nat), tNf T - f < fz → f ≤ tNf T → b = fo (fun f b => b ||| (rx H p (tRo T f)).toNat <<< f) 0 f → Xq mX4_factsSo 1 0 0 5 [some (.ref 16), some (.ref t), some (vN p), some (vN b), some (vN f)] [] S H (fun R => R = (some (vN (fso H T p)), S, H)) := by
    intro fz
    induction fz with
    | zero => intro f b hn; exact absurd hn (by omega)
    | succ fz ih =>
      intro f b hn hf hb
      refine xq_iload dX4_factsSo_5 rfl ?_
      refine xq_aload_n dX4_factsSo_7 rfl rfl ?_
      refine xq_getF clX8 (by decide) rfl fl_RX4_134 dX4_factsSo_8 (Tx.s0 ht) (Tx.r2 ht) ?_
      refine xq_getIE clX5 (by decide) rfl fl_RX4_138 dX4_factsSo_11 (Nm.s0 (Tx.n5 ht)) hT.nf ?_
      refine xq_icmp_geN dX4_factsSo_14 rfl (by omega) (by omega) ⟨fun h14 => ?_, fun h14 => ?_⟩
      · skip
        refine xq_iload_n dX4_factsSo_41 rfl rfl ?_
        refine xq_iret dX4_factsSo_42 rfl ?_
        show _ = _; rw [hb, show f = tNf T by omega]; rfl
      · skip
        refine xq_iload_n dX4_factsSo_17 rfl rfl ?_
        refine xq_aload_n dX4_factsSo_18 rfl rfl ?_
        refine xq_iload_n dX4_factsSo_19 rfl rfl ?_
        refine xq_aload_n dX4_factsSo_20 rfl rfl ?_
        refine xq_getF clX8 (by decide) rfl fl_RX4_164 dX4_factsSo_21 (Tx.s0 ht) (Tx.r7 ht) ?_
        refine xq_iload dX4_factsSo_24 rfl ?_
        refine xq_ialdN dX4_factsSo_26 (Tx.s14 ht) (by omega) (by decide) ((hT.fa f h14).2.1) ?_
        refine xq_callV2P clX4 gd_X4_bit dX4_factsSo_27 ml_RX4_127 im_X4_bit se_X4_bit rfl (Fx.s16 hF) (by exact Nat.le_of_ble_eq_true rfl) (by decide) (c_bit hF hp (hro f h14)) ?_
        refine xq_iload dX4_factsSo_30 rfl ?_
        refine xq_ishlN dX4_factsSo_32 (by omega) ?_
        refine xq_iorN dX4_factsSo_33 ?_
        refine xq_istore_n dX4_factsSo_34 rfl rfl ?_
        refine xq_iincN dX4_factsSo_35 ic1 rfl rfl ?_
        refine xq_goto dX4_factsSo_38 rfl ?_
        exact ih (f + 1) _ (by omega) (by omega) (by rw [hb]; rfl)
  refine vq_ev (vq_intro (by decide) (by exact Nat.le_of_ble_eq_true rfl) rfl ?_)
  refine xq_iconst dX4_factsSo_0 ic0 ?_
  refine xq_istore_n dX4_factsSo_1 rfl rfl ?_
  refine xq_iconst dX4_factsSo_2 ic0 ?_
  refine xq_istore dX4_factsSo_3 rfl ?_
  exact lp (tNf T + 1) 0 0 (by omega) (by omega) rfl
def riv (u : uSt) (m p : Nat) : Bool := ex (fun i => m.testBit i && ((col (uW u p) i != col (uW u (uRl u)) i) && alk u i p)) (uNp u)
theorem c_isRival (ha : gSt S a) (hu : StP H a u) (ok : StOk u) (hp : p < uZ u) (hm : m < 64) : Pv mX4_isRival 2 [.ref a, vN p, vN m] S H (vB (riv u m p)) := by
  have hz := ok.n; have hnp := ok.np; have hrl := ok.rl
  have lp : ∀ (fz : Nat) (i : Nat), uNp u - i < fz → i ≤ uNp u → ex (fun i => m.testBit i && ((col (uW u p) i != col (uW u (uRl u)) i) && alk u i p)) i = false → Xq mX4_isRival 2 0 0 2 [some (.ref a), some (vN p), some (vN m), some (vN i), none] [] S H (fun R => R = (some (vB (riv u m p)), S, H)) := by
    intro fz
    induction fz with
    | zero => intro i  hn; exact absurd hn (by omega)
    | succ fz ih =>
      intro i  hn hi hr
      refine xq_iload_n dX4_isRival_2 rfl rfl ?_
      refine xq_aload_n dX4_isRival_3 rfl rfl ?_
      refine xq_getIE clX7 (by decide) rfl fl_RX4_99 dX4_isRival_4 (St.s0 ha) hu.f6 ?_
      refine xq_icmp_geN dX4_isRival_7 rfl (by omega) (by omega) ⟨fun h7 => ?_, fun h7 => ?_⟩
      · skip
        refine xq_iconst dX4_isRival_73 ic0 ?_
        refine xq_zret dX4_isRival_74 rfl (by decide) ?_
        show _ = _; rw [show riv u m p = false by unfold riv; rw [show uNp u = i by omega]; exact hr]; rfl
      · skip
        refine xq_aload_n dX4_isRival_10 rfl rfl ?_
        refine xq_getF clX7 (by decide) rfl fl_RX4_88 dX4_isRival_11 (St.s0 ha) (St.r0 ha) ?_
        refine xq_iload_n dX4_isRival_14 rfl rfl ?_
        refine xq_ialdN dX4_isRival_15 (St.s1 ha) (by omega) (by decide) (hu.w hp) ?_
        refine xq_iload_n dX4_isRival_16 rfl rfl ?_
        refine xq_callSN2P gd_X10_colourIn dX4_isRival_17 nl_RX4_91 im_X10_colourIn (by exact Nat.le_of_ble_eq_true rfl) (by decide) (c_colourIn (ok.w hp) (by omega)) ?_
        have hc1 := col_lt (uW u p) i
        refine xq_aload_n dX4_isRival_20 rfl rfl ?_
        refine xq_getF clX7 (by decide) rfl fl_RX4_88 dX4_isRival_21 (St.s0 ha) (St.r0 ha) ?_
        refine xq_aload_n dX4_isRival_24 rfl rfl ?_
        refine xq_getIE clX7 (by decide) rfl fl_RX4_152 dX4_isRival_25 (St.s0 ha) hu.f5 ?_
        refine xq_ialdN dX4_isRival_28 (St.s1 ha) (by omega) (by decide) (hu.w hrl) ?_
        refine xq_iload_n dX4_isRival_29 rfl rfl ?_
        refine xq_callSN2P gd_X10_colourIn dX4_isRival_30 nl_RX4_91 im_X10_colourIn (by exact Nat.le_of_ble_eq_true rfl) (by decide) (c_colourIn (ok.w hrl) (by omega)) ?_
        have hc2 := col_lt (uW u (uRl u)) i
        refine xq_icmp_eqN dX4_isRival_33 rfl (by omega) (by omega) ⟨fun h33 => ?_, fun h33 => ?_⟩
        · skip
          refine xq_iconst dX4_isRival_40 ic0 ?_
          refine xq_istore dX4_isRival_41 rfl ?_
          have hb := shr_le m i; have hb2 : m >>> i &&& 1 ≤ 1 := Nat.and_le_right
          refine xq_iload_n dX4_isRival_43 rfl rfl ?_
          refine xq_iload_n dX4_isRival_44 rfl rfl ?_
          refine xq_ishrN dX4_isRival_45 (by omega) (by omega) ?_
          refine xq_iconst dX4_isRival_46 ic1 ?_
          refine xq_iandN dX4_isRival_47 ?_
          refine xq_if_eqN dX4_isRival_48 rfl (by omega) ⟨fun h48 => ?_, fun h48 => ?_⟩
          · skip
            refine xq_iincN dX4_isRival_67 ic1 rfl rfl ?_
            refine xq_goto dX4_isRival_70 rfl ?_
            exact xq_fgt (ih (i + 1) (by omega) (by omega) (by rw [ex_s, hr, Bool.false_or]; rw [(tb_shr m i).mp h48]; simp)) (by exact And.intro rfl (And.intro rfl (And.intro rfl (And.intro rfl trivial))))
          · skip
            refine xq_iload dX4_isRival_51 rfl ?_
            refine xq_if_eqN dX4_isRival_53 rfl (by omega) ⟨fun h53 => ?_, fun h53 => ?_⟩
            · skip
              refine xq_iincN dX4_isRival_67 ic1 rfl rfl ?_
              refine xq_goto dX4_isRival_70 rfl ?_
              exact xq_fgt (ih (i + 1) (by omega) (by omega) (by rw [ex_s, hr, Bool.false_or]; rw [h33]; simp)) (by exact And.intro rfl (And.intro rfl (And.intro rfl (And.intro rfl trivial))))
            · skip
              first | exact absurd h53 (by decide) | exact absurd rfl h53
        · skip
          refine xq_iconst dX4_isRival_36 ic1 ?_
          refine xq_goto dX4_isRival_37 rfl ?_
          refine xq_istore dX4_isRival_41 rfl ?_
          have hb := shr_le m i; have hb2 : m >>> i &&& 1 ≤ 1 := Nat.and_le_right
          refine xq_iload_n dX4_isRival_43 rfl rfl ?_
          refine xq_iload_n dX4_isRival_44 rfl rfl ?_
          refine xq_ishrN dX4_isRival_45 (by omega) (by omega) ?_
          refine xq_iconst dX4_isRival_46 ic1 ?_
          refine xq_iandN dX4_isRival_47 ?_
          refine xq_if_eqN dX4_isRival_48 rfl (by omega) ⟨fun h48 => ?_, fun h48 => ?_⟩
          · skip
            refine xq_iincN dX4_isRival_67 ic1 rfl rfl ?_
            refine xq_goto dX4_isRival_70 rfl ?_
            exact xq_fgt (ih (i + 1) (by omega) (by omega) (by rw [ex_s, hr, Bool.false_or]; rw [(tb_shr m i).mp h48]; simp)) (by exact And.intro rfl (And.intro rfl (And.intro rfl (And.intro rfl trivial))))
          · skip
            refine xq_iload dX4_isRival_51 rfl ?_
            refine xq_if_eqN dX4_isRival_53 rfl (by omega) ⟨fun h53 => ?_, fun h53 => ?_⟩
            · skip
              first | exact absurd h53 (by decide) | exact absurd rfl h53
            · skip
              refine xq_aload_n dX4_isRival_56 rfl rfl ?_
              refine xq_iload_n dX4_isRival_57 rfl rfl ?_
              refine xq_iload_n dX4_isRival_58 rfl rfl ?_
              refine xq_callV2P clX7 gd_X7_isAlike dX4_isRival_59 ml_RX4_130 im_X7_isAlike se_X7_isAlike rfl (St.s0 ha) (by exact Nat.le_of_ble_eq_true rfl) (by decide) (c_isAlike ha hu ok hp (by omega)) ?_
              refine xq_if_eqB dX4_isRival_62 rfl ⟨fun h62 => ?_, fun h62 => ?_⟩
              · skip
                refine xq_iincN dX4_isRival_67 ic1 rfl rfl ?_
                refine xq_goto dX4_isRival_70 rfl ?_
                exact xq_fgt (ih (i + 1) (by omega) (by omega) (by rw [ex_s, hr, Bool.false_or]; rw [h62]; simp)) (by exact And.intro rfl (And.intro rfl (And.intro rfl (And.intro rfl trivial))))
              · skip
                refine xq_iconst dX4_isRival_65 ic1 ?_
                refine xq_zret dX4_isRival_66 rfl (by decide) ?_
                show _ = _; rw [show riv u m p = true from ex_iff.mpr ⟨i, h7, by rw [show m.testBit i = true from Bool.not_eq_false _ ▸ (fun z => h48 ((tb_shr m i).mpr z)), h62]; simpa using h33⟩]; rfl
  refine vq_ev (vq_intro (by decide) (by exact Nat.le_of_ble_eq_true rfl) rfl ?_)
  refine xq_iconst dX4_isRival_0 ic0 ?_
  refine xq_istore_n dX4_isRival_1 rfl rfl ?_
  exact lp (uNp u + 1) 0 (by omega) (by omega) rfl
end JU
