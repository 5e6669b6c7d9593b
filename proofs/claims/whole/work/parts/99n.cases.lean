/-! ===== the law: its cases ===== -/
section LWC
variable {b1 b2 i Ls pc x y z : Nat} {xs : Nat → Int32} {S S1 : xS} {H H1 : xH} {Q : xR → Prop} {w w2 : Int32}
/-- the locals at the loop's head -/
abbrev lL (i : Nat) : List (Option Value) := [some (.float 2), some (.ref 0), some (.ref 83), some (.ref 119), some (.int (nI (6 * i))), none, none]
theorem lcmp_z (v : Int64) : lg_cmp v v = 0 := by unfold lg_cmp; simp
theorem lc_feed (g : GI Ls xs i S H) (hi : i < 512) (hl : 6 * i + 6 ≤ Ls) (h3 : Ls ≤ 3072) (kk : ∀ S1 H1, GI Ls xs (i + 1) S1 H1 → Xq mL_law 704 b1 b2 1295 (lL i) [] S1 H1 Q) : Xq mL_law 704 (b1 + 5) (b2 + 764) 196 (lL i) [] S H Q := by
  have hs := g.1
  obtain ⟨v, t⟩ := tie_feed g (by omega) (xs (6 * i + 1)) (xs (6 * i + 2)) (xs (6 * i + 3)) (xs (6 * i + 4)) (xs (6 * i + 5))
  refine xq_bud (b1 := b1 + 0) (b2 := b2 + 0) ?_ (by omega) (by omega)
  refine xq_aload_n dL_law_196 rfl rfl ?_
  refine xq_sload_n dL_law_197 rfl rfl ?_
  refine xq_iload dL_law_198 rfl ?_
  refine xq_iconst dL_law_200 ic1 ?_
  refine xq_iaddN dL_law_201 ?_
  refine xq_sald dL_law_202 hs.2.2.1 (by omega) (by omega) (hs.2.2.2.2 (6 * i + 1) (by omega)) ?_
  refine xq_sload_n dL_law_203 rfl rfl ?_
  refine xq_iload dL_law_204 rfl ?_
  refine xq_iconst dL_law_206 ic2 ?_
  refine xq_iaddN dL_law_207 ?_
  refine xq_sald dL_law_208 hs.2.2.1 (by omega) (by omega) (hs.2.2.2.2 (6 * i + 2) (by omega)) ?_
  refine xq_sload_n dL_law_209 rfl rfl ?_
  refine xq_iload dL_law_210 rfl ?_
  refine xq_iconst dL_law_212 ic3 ?_
  refine xq_iaddN dL_law_213 ?_
  refine xq_sald dL_law_214 hs.2.2.1 (by omega) (by omega) (hs.2.2.2.2 (6 * i + 3) (by omega)) ?_
  refine xq_sload_n dL_law_215 rfl rfl ?_
  refine xq_iload dL_law_216 rfl ?_
  refine xq_iconst dL_law_218 ic4 ?_
  refine xq_iaddN dL_law_219 ?_
  refine xq_sald dL_law_220 hs.2.2.1 (by omega) (by omega) (hs.2.2.2.2 (6 * i + 4) (by omega)) ?_
  refine xq_sload_n dL_law_221 rfl rfl ?_
  refine xq_iload dL_law_222 rfl ?_
  refine xq_iconst dL_law_224 ic5 ?_
  refine xq_iaddN dL_law_225 ?_
  refine xq_sald dL_law_226 hs.2.2.1 (by omega) (by omega) (hs.2.2.2.2 (6 * i + 5) (by omega)) ?_
  refine xq_callV5G clX10 gd_X10_feed dL_law_227 ml_RL_21 im_X10_feed se_X10_feed rfl (Fx.s0 hs.1) (by exact Nat.le_of_ble_eq_true rfl) (by decide) t ?_
  rintro r S1 H1 ⟨S2, H2, e, hs1, t1⟩
  cases e
  refine xq_bud (b1 := b1 + 0) (b2 := b2 + 0) ?_ (Nat.le_refl _) (Nat.le_refl _)
  refine xq_aload_n dL_law_230 rfl rfl ?_
  refine xq_sload_n dL_law_231 rfl rfl ?_
  refine xq_iload dL_law_232 rfl ?_
  refine xq_iconst dL_law_234 ic1 ?_
  refine xq_iaddN dL_law_235 ?_
  refine xq_sald dL_law_236 hs1.2.2.1 (by omega) (by omega) (hs1.2.2.2.2 (6 * i + 1) (by omega)) ?_
  refine xq_sload_n dL_law_237 rfl rfl ?_
  refine xq_iload dL_law_238 rfl ?_
  refine xq_iconst dL_law_240 ic2 ?_
  refine xq_iaddN dL_law_241 ?_
  refine xq_sald dL_law_242 hs1.2.2.1 (by omega) (by omega) (hs1.2.2.2.2 (6 * i + 2) (by omega)) ?_
  refine xq_sload_n dL_law_243 rfl rfl ?_
  refine xq_iload dL_law_244 rfl ?_
  refine xq_iconst dL_law_246 ic3 ?_
  refine xq_iaddN dL_law_247 ?_
  refine xq_sald dL_law_248 hs1.2.2.1 (by omega) (by omega) (hs1.2.2.2.2 (6 * i + 3) (by omega)) ?_
  refine xq_sload_n dL_law_249 rfl rfl ?_
  refine xq_iload dL_law_250 rfl ?_
  refine xq_iconst dL_law_252 ic4 ?_
  refine xq_iaddN dL_law_253 ?_
  refine xq_sald dL_law_254 hs1.2.2.1 (by omega) (by omega) (hs1.2.2.2.2 (6 * i + 4) (by omega)) ?_
  refine xq_sload_n dL_law_255 rfl rfl ?_
  refine xq_iload dL_law_256 rfl ?_
  refine xq_iconst dL_law_258 ic5 ?_
  refine xq_iaddN dL_law_259 ?_
  refine xq_sald dL_law_260 hs1.2.2.1 (by omega) (by omega) (hs1.2.2.2.2 (6 * i + 5) (by omega)) ?_
  refine xq_callV5G clX11 gd_X11_feed dL_law_261 ml_RL_25 im_X11_feed se_X11_feed rfl (Fx.s83 hs1.1) (by exact Nat.le_of_ble_eq_true rfl) (by decide) t1 ?_
  rintro r S3 H3 ⟨H4, e, g4⟩
  cases e
  exact xq_icmp_eq dL_law_264 rfl ⟨fun _ => kk _ _ g4, fun h => absurd rfl h⟩
theorem lc_text (g : GI Ls xs i S H) (hi : i < 512) (hl : 6 * i + 6 ≤ Ls) (h3 : Ls ≤ 3072) (kk : ∀ S1 H1, GI Ls xs (i + 1) S1 H1 → Xq mL_law 704 b1 b2 1295 (lL i) [] S1 H1 Q) : Xq mL_law 704 (b1 + 5) (b2 + 764) 269 (lL i) [] S H Q := by
  have hs := g.1
  obtain ⟨v, c1, c2, q1, q2, t⟩ := tie_text g (by omega) (xs (6 * i + 1))
  refine xq_bud (b1 := b1 + c1) (b2 := b2 + c2) ?_ (by omega) (by omega)
  refine xq_aload_n dL_law_269 rfl rfl ?_
  refine xq_sload_n dL_law_270 rfl rfl ?_
  refine xq_iload dL_law_271 rfl ?_
  refine xq_iconst dL_law_273 ic1 ?_
  refine xq_iaddN dL_law_274 ?_
  refine xq_sald dL_law_275 hs.2.2.1 (by omega) (by omega) (hs.2.2.2.2 (6 * i + 1) (by omega)) ?_
  refine xq_callV1G clX10 gd_X10_text dL_law_276 ml_RL_26 im_X10_text se_X10_text rfl (Fx.s0 hs.1) (by exact Nat.le_of_ble_eq_true rfl) (by decide) t ?_
  rintro r S1 H1 ⟨S2, H2, e, hs1, t1⟩
  cases e
  refine xq_bud (b1 := b1 + 0) (b2 := b2 + 0) ?_ (Nat.le_refl _) (Nat.le_refl _)
  refine xq_aload_n dL_law_279 rfl rfl ?_
  refine xq_sload_n dL_law_280 rfl rfl ?_
  refine xq_iload dL_law_281 rfl ?_
  refine xq_iconst dL_law_283 ic1 ?_
  refine xq_iaddN dL_law_284 ?_
  refine xq_sald dL_law_285 hs1.2.2.1 (by omega) (by omega) (hs1.2.2.2.2 (6 * i + 1) (by omega)) ?_
  refine xq_callV1G clX11 gd_X11_text dL_law_286 ml_RL_30 im_X11_text se_X11_text rfl (Fx.s83 hs1.1) (by exact Nat.le_of_ble_eq_true rfl) (by decide) t1 ?_
  rintro r S3 H3 ⟨H4, e, g4⟩
  cases e
  exact xq_icmp_eq dL_law_289 rfl ⟨fun _ => kk _ _ g4, fun h => absurd rfl h⟩
theorem lc_fault (g : GI Ls xs i S H) (hi : i < 512) (hl : 6 * i + 6 ≤ Ls) (h3 : Ls ≤ 3072) (kk : ∀ S1 H1, GI Ls xs (i + 1) S1 H1 → Xq mL_law 704 b1 b2 1295 (lL i) [] S1 H1 Q) : Xq mL_law 704 (b1 + 5) (b2 + 764) 294 (lL i) [] S H Q := by
  have hs := g.1
  obtain ⟨v, t⟩ := tie_fault g (by omega) (xs (6 * i + 1))
  refine xq_bud (b1 := b1 + 0) (b2 := b2 + 0) ?_ (by omega) (by omega)
  refine xq_aload_n dL_law_294 rfl rfl ?_
  refine xq_sload_n dL_law_295 rfl rfl ?_
  refine xq_iload dL_law_296 rfl ?_
  refine xq_iconst dL_law_298 ic1 ?_
  refine xq_iaddN dL_law_299 ?_
  refine xq_sald dL_law_300 hs.2.2.1 (by omega) (by omega) (hs.2.2.2.2 (6 * i + 1) (by omega)) ?_
  refine xq_callV1G clX10 gd_X10_fault dL_law_301 ml_RL_31 im_X10_fault se_X10_fault rfl (Fx.s0 hs.1) (by exact Nat.le_of_ble_eq_true rfl) (by decide) t ?_
  rintro r S1 H1 ⟨S2, H2, e, hs1, t1⟩
  cases e
  refine xq_bud (b1 := b1 + 0) (b2 := b2 + 0) ?_ (Nat.le_refl _) (Nat.le_refl _)
  refine xq_aload_n dL_law_304 rfl rfl ?_
  refine xq_sload_n dL_law_305 rfl rfl ?_
  refine xq_iload dL_law_306 rfl ?_
  refine xq_iconst dL_law_308 ic1 ?_
  refine xq_iaddN dL_law_309 ?_
  refine xq_sald dL_law_310 hs1.2.2.1 (by omega) (by omega) (hs1.2.2.2.2 (6 * i + 1) (by omega)) ?_
  refine xq_callV1G clX11 gd_X11_fault dL_law_311 ml_RL_34 im_X11_fault se_X11_fault rfl (Fx.s83 hs1.1) (by exact Nat.le_of_ble_eq_true rfl) (by decide) t1 ?_
  rintro r S3 H3 ⟨H4, e, g4⟩
  cases e
  exact xq_icmp_eq dL_law_314 rfl ⟨fun _ => kk _ _ g4, fun h => absurd rfl h⟩
theorem lc_named (g : GI Ls xs i S H) (hi : i < 512) (hl : 6 * i + 6 ≤ Ls) (h3 : Ls ≤ 3072) (kk : ∀ S1 H1, GI Ls xs (i + 1) S1 H1 → Xq mL_law 704 b1 b2 1295 (lL i) [] S1 H1 Q) : Xq mL_law 704 (b1 + 5) (b2 + 764) 319 (lL i) [] S H Q := by
  have hs := g.1
  obtain ⟨v, t⟩ := tie_named g (by omega) (xs (6 * i + 1)) (xs (6 * i + 2))
  refine xq_bud (b1 := b1 + 0) (b2 := b2 + 0) ?_ (by omega) (by omega)
  refine xq_aload_n dL_law_319 rfl rfl ?_
  refine xq_sload_n dL_law_320 rfl rfl ?_
  refine xq_iload dL_law_321 rfl ?_
  refine xq_iconst dL_law_323 ic1 ?_
  refine xq_iaddN dL_law_324 ?_
  refine xq_sald dL_law_325 hs.2.2.1 (by omega) (by omega) (hs.2.2.2.2 (6 * i + 1) (by omega)) ?_
  refine xq_sload_n dL_law_326 rfl rfl ?_
  refine xq_iload dL_law_327 rfl ?_
  refine xq_iconst dL_law_329 ic2 ?_
  refine xq_iaddN dL_law_330 ?_
  refine xq_sald dL_law_331 hs.2.2.1 (by omega) (by omega) (hs.2.2.2.2 (6 * i + 2) (by omega)) ?_
  refine xq_callV2G clX10 gd_X10_named dL_law_332 ml_RL_35 im_X10_named se_X10_named rfl (Fx.s0 hs.1) (by exact Nat.le_of_ble_eq_true rfl) (by decide) t ?_
  rintro r S1 H1 ⟨S2, H2, e, hs1, t1⟩
  cases e
  refine xq_bud (b1 := b1 + 0) (b2 := b2 + 0) ?_ (Nat.le_refl _) (Nat.le_refl _)
  refine xq_aload_n dL_law_335 rfl rfl ?_
  refine xq_sload_n dL_law_336 rfl rfl ?_
  refine xq_iload dL_law_337 rfl ?_
  refine xq_iconst dL_law_339 ic1 ?_
  refine xq_iaddN dL_law_340 ?_
  refine xq_sald dL_law_341 hs1.2.2.1 (by omega) (by omega) (hs1.2.2.2.2 (6 * i + 1) (by omega)) ?_
  refine xq_sload_n dL_law_342 rfl rfl ?_
  refine xq_iload dL_law_343 rfl ?_
  refine xq_iconst dL_law_345 ic2 ?_
  refine xq_iaddN dL_law_346 ?_
  refine xq_sald dL_law_347 hs1.2.2.1 (by omega) (by omega) (hs1.2.2.2.2 (6 * i + 2) (by omega)) ?_
  refine xq_callV2G clX11 gd_X11_named dL_law_348 ml_RL_38 im_X11_named se_X11_named rfl (Fx.s83 hs1.1) (by exact Nat.le_of_ble_eq_true rfl) (by decide) t1 ?_
  rintro r S3 H3 ⟨H4, e, g4⟩
  cases e
  exact xq_icmp_eq dL_law_351 rfl ⟨fun _ => kk _ _ g4, fun h => absurd rfl h⟩
theorem lc_own (g : GI Ls xs i S H) (hi : i < 512) (hl : 6 * i + 6 ≤ Ls) (h3 : Ls ≤ 3072) (kk : ∀ S1 H1, GI Ls xs (i + 1) S1 H1 → Xq mL_law 704 b1 b2 1295 (lL i) [] S1 H1 Q) : Xq mL_law 704 (b1 + 5) (b2 + 764) 424 (lL i) [] S H Q := by
  have hs := g.1
  obtain ⟨v, t⟩ := tie_own g (by omega) (xs (6 * i + 1))
  refine xq_bud (b1 := b1 + 0) (b2 := b2 + 0) ?_ (by omega) (by omega)
  refine xq_aload_n dL_law_424 rfl rfl ?_
  refine xq_sload_n dL_law_425 rfl rfl ?_
  refine xq_iload dL_law_426 rfl ?_
  refine xq_iconst dL_law_428 ic1 ?_
  refine xq_iaddN dL_law_429 ?_
  refine xq_sald dL_law_430 hs.2.2.1 (by omega) (by omega) (hs.2.2.2.2 (6 * i + 1) (by omega)) ?_
  refine xq_callV1G clX10 gd_X10_own dL_law_431 ml_RL_49 im_X10_own se_X10_own rfl (Fx.s0 hs.1) (by exact Nat.le_of_ble_eq_true rfl) (by decide) t ?_
  rintro r S1 H1 ⟨S2, H2, e, hs1, t1⟩
  cases e
  refine xq_bud (b1 := b1 + 0) (b2 := b2 + 0) ?_ (Nat.le_refl _) (Nat.le_refl _)
  refine xq_aload_n dL_law_434 rfl rfl ?_
  refine xq_sload_n dL_law_435 rfl rfl ?_
  refine xq_iload dL_law_436 rfl ?_
  refine xq_iconst dL_law_438 ic1 ?_
  refine xq_iaddN dL_law_439 ?_
  refine xq_sald dL_law_440 hs1.2.2.1 (by omega) (by omega) (hs1.2.2.2.2 (6 * i + 1) (by omega)) ?_
  refine xq_callV1G clX11 gd_X11_own dL_law_441 ml_RL_52 im_X11_own se_X11_own rfl (Fx.s83 hs1.1) (by exact Nat.le_of_ble_eq_true rfl) (by decide) t1 ?_
  rintro r S3 H3 ⟨H4, e, g4⟩
  cases e
  exact xq_icmp_eq dL_law_444 rfl ⟨fun _ => kk _ _ g4, fun h => absurd rfl h⟩
theorem lc_world (g : GI Ls xs i S H) (hi : i < 512) (hl : 6 * i + 6 ≤ Ls) (h3 : Ls ≤ 3072) (kk : ∀ S1 H1, GI Ls xs (i + 1) S1 H1 → Xq mL_law 704 b1 b2 1295 (lL i) [] S1 H1 Q) : Xq mL_law 704 (b1 + 5) (b2 + 764) 449 (lL i) [] S H Q := by
  have hs := g.1
  obtain ⟨v, t⟩ := tie_world g (by omega) (xs (6 * i + 1)) (xs (6 * i + 2))
  refine xq_bud (b1 := b1 + 0) (b2 := b2 + 0) ?_ (by omega) (by omega)
  refine xq_aload_n dL_law_449 rfl rfl ?_
  refine xq_sload_n dL_law_450 rfl rfl ?_
  refine xq_iload dL_law_451 rfl ?_
  refine xq_iconst dL_law_453 ic1 ?_
  refine xq_iaddN dL_law_454 ?_
  refine xq_sald dL_law_455 hs.2.2.1 (by omega) (by omega) (hs.2.2.2.2 (6 * i + 1) (by omega)) ?_
  refine xq_sload_n dL_law_456 rfl rfl ?_
  refine xq_iload dL_law_457 rfl ?_
  refine xq_iconst dL_law_459 ic2 ?_
  refine xq_iaddN dL_law_460 ?_
  refine xq_sald dL_law_461 hs.2.2.1 (by omega) (by omega) (hs.2.2.2.2 (6 * i + 2) (by omega)) ?_
  refine xq_callV2G clX10 gd_X10_world dL_law_462 ml_RL_53 im_X10_world se_X10_world rfl (Fx.s0 hs.1) (by exact Nat.le_of_ble_eq_true rfl) (by decide) t ?_
  rintro r S1 H1 ⟨S2, H2, e, hs1, t1⟩
  cases e
  refine xq_bud (b1 := b1 + 0) (b2 := b2 + 0) ?_ (Nat.le_refl _) (Nat.le_refl _)
  refine xq_aload_n dL_law_465 rfl rfl ?_
  refine xq_sload_n dL_law_466 rfl rfl ?_
  refine xq_iload dL_law_467 rfl ?_
  refine xq_iconst dL_law_469 ic1 ?_
  refine xq_iaddN dL_law_470 ?_
  refine xq_sald dL_law_471 hs1.2.2.1 (by omega) (by omega) (hs1.2.2.2.2 (6 * i + 1) (by omega)) ?_
  refine xq_sload_n dL_law_472 rfl rfl ?_
  refine xq_iload dL_law_473 rfl ?_
  refine xq_iconst dL_law_475 ic2 ?_
  refine xq_iaddN dL_law_476 ?_
  refine xq_sald dL_law_477 hs1.2.2.1 (by omega) (by omega) (hs1.2.2.2.2 (6 * i + 2) (by omega)) ?_
  refine xq_callV2G clX11 gd_X11_world dL_law_478 ml_RL_56 im_X11_world se_X11_world rfl (Fx.s83 hs1.1) (by exact Nat.le_of_ble_eq_true rfl) (by decide) t1 ?_
  rintro r S3 H3 ⟨H4, e, g4⟩
  cases e
  exact xq_icmp_eq dL_law_481 rfl ⟨fun _ => kk _ _ g4, fun h => absurd rfl h⟩
theorem lc_real (g : GI Ls xs i S H) (hi : i < 512) (hl : 6 * i + 6 ≤ Ls) (h3 : Ls ≤ 3072) (kk : ∀ S1 H1, GI Ls xs (i + 1) S1 H1 → Xq mL_law 704 b1 b2 1295 (lL i) [] S1 H1 Q) : Xq mL_law 704 (b1 + 5) (b2 + 764) 486 (lL i) [] S H Q := by
  have hs := g.1
  obtain ⟨v, t⟩ := tie_real g (by omega)
  refine xq_bud (b1 := b1 + 0) (b2 := b2 + 0) ?_ (by omega) (by omega)
  refine xq_aload_n dL_law_486 rfl rfl ?_
  refine xq_callV0G clX10 gd_X10_real dL_law_487 ml_RL_57 im_X10_real se_X10_real rfl (Fx.s0 hs.1) (by exact Nat.le_of_ble_eq_true rfl) (by decide) t ?_
  rintro r S1 H1 ⟨S2, H2, e, hs1, t1⟩
  cases e
  refine xq_bud (b1 := b1 + 0) (b2 := b2 + 0) ?_ (Nat.le_refl _) (Nat.le_refl _)
  refine xq_aload_n dL_law_490 rfl rfl ?_
  refine xq_callV0G clX11 gd_X11_real dL_law_491 ml_RL_60 im_X11_real se_X11_real rfl (Fx.s83 hs1.1) (by exact Nat.le_of_ble_eq_true rfl) (by decide) t1 ?_
  rintro r S3 H3 ⟨H4, e, g4⟩
  cases e
  exact xq_icmp_eq dL_law_494 rfl ⟨fun _ => kk _ _ g4, fun h => absurd rfl h⟩
theorem lc_is (g : GI Ls xs i S H) (hi : i < 512) (hl : 6 * i + 6 ≤ Ls) (h3 : Ls ≤ 3072) (kk : ∀ S1 H1, GI Ls xs (i + 1) S1 H1 → Xq mL_law 704 b1 b2 1295 (lL i) [] S1 H1 Q) : Xq mL_law 704 (b1 + 5) (b2 + 764) 499 (lL i) [] S H Q := by
  have hs := g.1
  obtain ⟨v, t⟩ := tie_is g (by omega) (xs (6 * i + 1))
  refine xq_bud (b1 := b1 + 0) (b2 := b2 + 0) ?_ (by omega) (by omega)
  refine xq_aload_n dL_law_499 rfl rfl ?_
  refine xq_sload_n dL_law_500 rfl rfl ?_
  refine xq_iload dL_law_501 rfl ?_
  refine xq_iconst dL_law_503 ic1 ?_
  refine xq_iaddN dL_law_504 ?_
  refine xq_sald dL_law_505 hs.2.2.1 (by omega) (by omega) (hs.2.2.2.2 (6 * i + 1) (by omega)) ?_
  refine xq_callV1G clX10 gd_X10_is dL_law_506 ml_RL_61 im_X10_is se_X10_is rfl (Fx.s0 hs.1) (by exact Nat.le_of_ble_eq_true rfl) (by decide) t ?_
  rintro r S1 H1 ⟨S2, H2, e, hs1, t1⟩
  cases e
  refine xq_bud (b1 := b1 + 0) (b2 := b2 + 0) ?_ (Nat.le_refl _) (Nat.le_refl _)
  refine xq_aload_n dL_law_509 rfl rfl ?_
  refine xq_sload_n dL_law_510 rfl rfl ?_
  refine xq_iload dL_law_511 rfl ?_
  refine xq_iconst dL_law_513 ic1 ?_
  refine xq_iaddN dL_law_514 ?_
  refine xq_sald dL_law_515 hs1.2.2.1 (by omega) (by omega) (hs1.2.2.2.2 (6 * i + 1) (by omega)) ?_
  refine xq_callV1G clX11 gd_X11_is dL_law_516 ml_RL_64 im_X11_is se_X11_is rfl (Fx.s83 hs1.1) (by exact Nat.le_of_ble_eq_true rfl) (by decide) t1 ?_
  rintro r S3 H3 ⟨H4, e, g4⟩
  cases e
  exact xq_icmp_eq dL_law_519 rfl ⟨fun _ => kk _ _ g4, fun h => absurd rfl h⟩
theorem lc_sure (g : GI Ls xs i S H) (hi : i < 512) (hl : 6 * i + 6 ≤ Ls) (h3 : Ls ≤ 3072) (kk : ∀ S1 H1, GI Ls xs (i + 1) S1 H1 → Xq mL_law 704 b1 b2 1295 (lL i) [] S1 H1 Q) : Xq mL_law 704 (b1 + 5) (b2 + 764) 524 (lL i) [] S H Q := by
  have hs := g.1
  obtain ⟨v, t⟩ := tie_sure g (by omega) (xs (6 * i + 1)) (xs (6 * i + 2))
  refine xq_bud (b1 := b1 + 0) (b2 := b2 + 0) ?_ (by omega) (by omega)
  refine xq_aload_n dL_law_524 rfl rfl ?_
  refine xq_sload_n dL_law_525 rfl rfl ?_
  refine xq_iload dL_law_526 rfl ?_
  refine xq_iconst dL_law_528 ic1 ?_
  refine xq_iaddN dL_law_529 ?_
  refine xq_sald dL_law_530 hs.2.2.1 (by omega) (by omega) (hs.2.2.2.2 (6 * i + 1) (by omega)) ?_
  refine xq_sload_n dL_law_531 rfl rfl ?_
  refine xq_iload dL_law_532 rfl ?_
  refine xq_iconst dL_law_534 ic2 ?_
  refine xq_iaddN dL_law_535 ?_
  refine xq_sald dL_law_536 hs.2.2.1 (by omega) (by omega) (hs.2.2.2.2 (6 * i + 2) (by omega)) ?_
  refine xq_callV2G clX10 gd_X10_sure dL_law_537 ml_RL_65 im_X10_sure se_X10_sure rfl (Fx.s0 hs.1) (by exact Nat.le_of_ble_eq_true rfl) (by decide) t ?_
  rintro r S1 H1 ⟨S2, H2, e, hs1, t1⟩
  cases e
  refine xq_bud (b1 := b1 + 0) (b2 := b2 + 0) ?_ (Nat.le_refl _) (Nat.le_refl _)
  refine xq_aload_n dL_law_540 rfl rfl ?_
  refine xq_sload_n dL_law_541 rfl rfl ?_
  refine xq_iload dL_law_542 rfl ?_
  refine xq_iconst dL_law_544 ic1 ?_
  refine xq_iaddN dL_law_545 ?_
  refine xq_sald dL_law_546 hs1.2.2.1 (by omega) (by omega) (hs1.2.2.2.2 (6 * i + 1) (by omega)) ?_
  refine xq_sload_n dL_law_547 rfl rfl ?_
  refine xq_iload dL_law_548 rfl ?_
  refine xq_iconst dL_law_550 ic2 ?_
  refine xq_iaddN dL_law_551 ?_
  refine xq_sald dL_law_552 hs1.2.2.1 (by omega) (by omega) (hs1.2.2.2.2 (6 * i + 2) (by omega)) ?_
  refine xq_callV2G clX11 gd_X11_sure dL_law_553 ml_RL_68 im_X11_sure se_X11_sure rfl (Fx.s83 hs1.1) (by exact Nat.le_of_ble_eq_true rfl) (by decide) t1 ?_
  rintro r S3 H3 ⟨H4, e, g4⟩
  cases e
  exact xq_icmp_eq dL_law_556 rfl ⟨fun _ => kk _ _ g4, fun h => absurd rfl h⟩
theorem lc_common (g : GI Ls xs i S H) (hi : i < 512) (hl : 6 * i + 6 ≤ Ls) (h3 : Ls ≤ 3072) (kk : ∀ S1 H1, GI Ls xs (i + 1) S1 H1 → Xq mL_law 704 b1 b2 1295 (lL i) [] S1 H1 Q) : Xq mL_law 704 (b1 + 5) (b2 + 764) 561 (lL i) [] S H Q := by
  have hs := g.1
  obtain ⟨v, t⟩ := tie_common g (by omega) (xs (6 * i + 1))
  refine xq_bud (b1 := b1 + 0) (b2 := b2 + 0) ?_ (by omega) (by omega)
  refine xq_aload_n dL_law_561 rfl rfl ?_
  refine xq_sload_n dL_law_562 rfl rfl ?_
  refine xq_iload dL_law_563 rfl ?_
  refine xq_iconst dL_law_565 ic1 ?_
  refine xq_iaddN dL_law_566 ?_
  refine xq_sald dL_law_567 hs.2.2.1 (by omega) (by omega) (hs.2.2.2.2 (6 * i + 1) (by omega)) ?_
  refine xq_callV1G clX10 gd_X10_common dL_law_568 ml_RL_69 im_X10_common se_X10_common rfl (Fx.s0 hs.1) (by exact Nat.le_of_ble_eq_true rfl) (by decide) t ?_
  rintro r S1 H1 ⟨S2, H2, e, hs1, t1⟩
  cases e
  refine xq_bud (b1 := b1 + 0) (b2 := b2 + 0) ?_ (Nat.le_refl _) (Nat.le_refl _)
  refine xq_aload_n dL_law_571 rfl rfl ?_
  refine xq_sload_n dL_law_572 rfl rfl ?_
  refine xq_iload dL_law_573 rfl ?_
  refine xq_iconst dL_law_575 ic1 ?_
  refine xq_iaddN dL_law_576 ?_
  refine xq_sald dL_law_577 hs1.2.2.1 (by omega) (by omega) (hs1.2.2.2.2 (6 * i + 1) (by omega)) ?_
  refine xq_callV1G clX11 gd_X11_common dL_law_578 ml_RL_72 im_X11_common se_X11_common rfl (Fx.s83 hs1.1) (by exact Nat.le_of_ble_eq_true rfl) (by decide) t1 ?_
  rintro r S3 H3 ⟨H4, e, g4⟩
  cases e
  exact xq_icmp_eq dL_law_581 rfl ⟨fun _ => kk _ _ g4, fun h => absurd rfl h⟩
theorem lc_depth (g : GI Ls xs i S H) (hi : i < 512) (hl : 6 * i + 6 ≤ Ls) (h3 : Ls ≤ 3072) (kk : ∀ S1 H1, GI Ls xs (i + 1) S1 H1 → Xq mL_law 704 b1 b2 1295 (lL i) [] S1 H1 Q) : Xq mL_law 704 (b1 + 5) (b2 + 764) 586 (lL i) [] S H Q := by
  have hs := g.1
  obtain ⟨v, t⟩ := tie_depth g (by omega) (xs (6 * i + 1))
  refine xq_bud (b1 := b1 + 0) (b2 := b2 + 0) ?_ (by omega) (by omega)
  refine xq_aload_n dL_law_586 rfl rfl ?_
  refine xq_sload_n dL_law_587 rfl rfl ?_
  refine xq_iload dL_law_588 rfl ?_
  refine xq_iconst dL_law_590 ic1 ?_
  refine xq_iaddN dL_law_591 ?_
  refine xq_sald dL_law_592 hs.2.2.1 (by omega) (by omega) (hs.2.2.2.2 (6 * i + 1) (by omega)) ?_
  refine xq_callV1G clX10 gd_X10_depth dL_law_593 ml_RL_73 im_X10_depth se_X10_depth rfl (Fx.s0 hs.1) (by exact Nat.le_of_ble_eq_true rfl) (by decide) t ?_
  rintro r S1 H1 ⟨S2, H2, e, hs1, t1⟩
  cases e
  refine xq_bud (b1 := b1 + 0) (b2 := b2 + 0) ?_ (Nat.le_refl _) (Nat.le_refl _)
  refine xq_aload_n dL_law_596 rfl rfl ?_
  refine xq_sload_n dL_law_597 rfl rfl ?_
  refine xq_iload dL_law_598 rfl ?_
  refine xq_iconst dL_law_600 ic1 ?_
  refine xq_iaddN dL_law_601 ?_
  refine xq_sald dL_law_602 hs1.2.2.1 (by omega) (by omega) (hs1.2.2.2.2 (6 * i + 1) (by omega)) ?_
  refine xq_callV1G clX11 gd_X11_depth dL_law_603 ml_RL_76 im_X11_depth se_X11_depth rfl (Fx.s83 hs1.1) (by exact Nat.le_of_ble_eq_true rfl) (by decide) t1 ?_
  rintro r S3 H3 ⟨H4, e, g4⟩
  cases e
  exact xq_icmp_eq dL_law_606 rfl ⟨fun _ => kk _ _ g4, fun h => absurd rfl h⟩
theorem lc_law (g : GI Ls xs i S H) (hi : i < 512) (hl : 6 * i + 6 ≤ Ls) (h3 : Ls ≤ 3072) (kk : ∀ S1 H1, GI Ls xs (i + 1) S1 H1 → Xq mL_law 704 b1 b2 1295 (lL i) [] S1 H1 Q) : Xq mL_law 704 (b1 + 5) (b2 + 764) 611 (lL i) [] S H Q := by
  have hs := g.1
  obtain ⟨v, t⟩ := tie_law g (by omega) (xs (6 * i + 1)) (xs (6 * i + 2))
  refine xq_bud (b1 := b1 + 0) (b2 := b2 + 0) ?_ (by omega) (by omega)
  refine xq_aload_n dL_law_611 rfl rfl ?_
  refine xq_sload_n dL_law_612 rfl rfl ?_
  refine xq_iload dL_law_613 rfl ?_
  refine xq_iconst dL_law_615 ic1 ?_
  refine xq_iaddN dL_law_616 ?_
  refine xq_sald dL_law_617 hs.2.2.1 (by omega) (by omega) (hs.2.2.2.2 (6 * i + 1) (by omega)) ?_
  refine xq_sload_n dL_law_618 rfl rfl ?_
  refine xq_iload dL_law_619 rfl ?_
  refine xq_iconst dL_law_621 ic2 ?_
  refine xq_iaddN dL_law_622 ?_
  refine xq_sald dL_law_623 hs.2.2.1 (by omega) (by omega) (hs.2.2.2.2 (6 * i + 2) (by omega)) ?_
  refine xq_callV2G clX10 gd_X10_law dL_law_624 ml_RL_77 im_X10_law se_X10_law rfl (Fx.s0 hs.1) (by exact Nat.le_of_ble_eq_true rfl) (by decide) t ?_
  rintro r S1 H1 ⟨S2, H2, e, hs1, t1⟩
  cases e
  refine xq_bud (b1 := b1 + 0) (b2 := b2 + 0) ?_ (Nat.le_refl _) (Nat.le_refl _)
  refine xq_aload_n dL_law_627 rfl rfl ?_
  refine xq_sload_n dL_law_628 rfl rfl ?_
  refine xq_iload dL_law_629 rfl ?_
  refine xq_iconst dL_law_631 ic1 ?_
  refine xq_iaddN dL_law_632 ?_
  refine xq_sald dL_law_633 hs1.2.2.1 (by omega) (by omega) (hs1.2.2.2.2 (6 * i + 1) (by omega)) ?_
  refine xq_sload_n dL_law_634 rfl rfl ?_
  refine xq_iload dL_law_635 rfl ?_
  refine xq_iconst dL_law_637 ic2 ?_
  refine xq_iaddN dL_law_638 ?_
  refine xq_sald dL_law_639 hs1.2.2.1 (by omega) (by omega) (hs1.2.2.2.2 (6 * i + 2) (by omega)) ?_
  refine xq_callV2G clX11 gd_X11_law dL_law_640 ml_RL_81 im_X11_law se_X11_law rfl (Fx.s83 hs1.1) (by exact Nat.le_of_ble_eq_true rfl) (by decide) t1 ?_
  rintro r S3 H3 ⟨H4, e, g4⟩
  cases e
  refine xq_lcmp dL_law_643 ?_
  exact xq_if_eq dL_law_644 rfl ⟨fun _ => kk _ _ g4, fun h => absurd (lcmp_z _) h⟩
theorem lc_tell (g : GI Ls xs i S H) (hi : i < 512) (hl : 6 * i + 6 ≤ Ls) (h3 : Ls ≤ 3072) (kk : ∀ S1 H1, GI Ls xs (i + 1) S1 H1 → Xq mL_law 704 b1 b2 1295 (lL i) [] S1 H1 Q) : Xq mL_law 704 (b1 + 5) (b2 + 764) 649 (lL i) [] S H Q := by
  have hs := g.1
  obtain ⟨v, c1, c2, q1, q2, t⟩ := tie_tell g (by omega) (xs (6 * i + 1))
  refine xq_bud (b1 := b1 + c1) (b2 := b2 + c2) ?_ (by omega) (by omega)
  refine xq_aload_n dL_law_649 rfl rfl ?_
  refine xq_sload_n dL_law_650 rfl rfl ?_
  refine xq_iload dL_law_651 rfl ?_
  refine xq_iconst dL_law_653 ic1 ?_
  refine xq_iaddN dL_law_654 ?_
  refine xq_sald dL_law_655 hs.2.2.1 (by omega) (by omega) (hs.2.2.2.2 (6 * i + 1) (by omega)) ?_
  refine xq_callV1G clX10 gd_X10_tell dL_law_656 ml_RL_82 im_X10_tell se_X10_tell rfl (Fx.s0 hs.1) (by exact Nat.le_of_ble_eq_true rfl) (by decide) t ?_
  rintro r S1 H1 ⟨S2, H2, e, hs1, t1⟩
  cases e
  refine xq_bud (b1 := b1 + 0) (b2 := b2 + 0) ?_ (Nat.le_refl _) (Nat.le_refl _)
  refine xq_aload_n dL_law_659 rfl rfl ?_
  refine xq_sload_n dL_law_660 rfl rfl ?_
  refine xq_iload dL_law_661 rfl ?_
  refine xq_iconst dL_law_663 ic1 ?_
  refine xq_iaddN dL_law_664 ?_
  refine xq_sald dL_law_665 hs1.2.2.1 (by omega) (by omega) (hs1.2.2.2.2 (6 * i + 1) (by omega)) ?_
  refine xq_callV1G clX11 gd_X11_tell dL_law_666 ml_RL_85 im_X11_tell se_X11_tell rfl (Fx.s83 hs1.1) (by exact Nat.le_of_ble_eq_true rfl) (by decide) t1 ?_
  rintro r S3 H3 ⟨H4, e, g4⟩
  cases e
  exact xq_icmp_eq dL_law_669 rfl ⟨fun _ => kk _ _ g4, fun h => absurd rfl h⟩
theorem lc_ask (g : GI Ls xs i S H) (hi : i < 512) (hl : 6 * i + 6 ≤ Ls) (h3 : Ls ≤ 3072) (kk : ∀ S1 H1, GI Ls xs (i + 1) S1 H1 → Xq mL_law 704 b1 b2 1295 (lL i) [] S1 H1 Q) : Xq mL_law 704 (b1 + 5) (b2 + 764) 674 (lL i) [] S H Q := by
  have hs := g.1
  obtain ⟨v, c1, c2, q1, q2, t⟩ := tie_ask g (by omega)
  refine xq_bud (b1 := b1 + c1) (b2 := b2 + c2) ?_ (by omega) (by omega)
  refine xq_aload_n dL_law_674 rfl rfl ?_
  refine xq_callV0G clX10 gd_X10_ask dL_law_675 ml_RL_86 im_X10_ask se_X10_ask rfl (Fx.s0 hs.1) (by exact Nat.le_of_ble_eq_true rfl) (by decide) t ?_
  rintro r S1 H1 ⟨S2, H2, e, hs1, t1⟩
  cases e
  refine xq_bud (b1 := b1 + 0) (b2 := b2 + 0) ?_ (Nat.le_refl _) (Nat.le_refl _)
  refine xq_aload_n dL_law_678 rfl rfl ?_
  refine xq_callV0G clX11 gd_X11_ask dL_law_679 ml_RL_89 im_X11_ask se_X11_ask rfl (Fx.s83 hs1.1) (by exact Nat.le_of_ble_eq_true rfl) (by decide) t1 ?_
  rintro r S3 H3 ⟨H4, e, g4⟩
  cases e
  exact xq_icmp_eq dL_law_682 rfl ⟨fun _ => kk _ _ g4, fun h => absurd rfl h⟩
theorem lc_peep (g : GI Ls xs i S H) (hi : i < 512) (hl : 6 * i + 6 ≤ Ls) (h3 : Ls ≤ 3072) (kk : ∀ S1 H1, GI Ls xs (i + 1) S1 H1 → Xq mL_law 704 b1 b2 1295 (lL i) [] S1 H1 Q) : Xq mL_law 704 (b1 + 5) (b2 + 764) 687 (lL i) [] S H Q := by
  have hs := g.1
  obtain ⟨v, c1, c2, q1, q2, t⟩ := tie_peep g (by omega) (xs (6 * i + 1)) (xs (6 * i + 2))
  refine xq_bud (b1 := b1 + c1) (b2 := b2 + c2) ?_ (by omega) (by omega)
  refine xq_aload_n dL_law_687 rfl rfl ?_
  refine xq_sload_n dL_law_688 rfl rfl ?_
  refine xq_iload dL_law_689 rfl ?_
  refine xq_iconst dL_law_691 ic1 ?_
  refine xq_iaddN dL_law_692 ?_
  refine xq_sald dL_law_693 hs.2.2.1 (by omega) (by omega) (hs.2.2.2.2 (6 * i + 1) (by omega)) ?_
  refine xq_sload_n dL_law_694 rfl rfl ?_
  refine xq_iload dL_law_695 rfl ?_
  refine xq_iconst dL_law_697 ic2 ?_
  refine xq_iaddN dL_law_698 ?_
  refine xq_sald dL_law_699 hs.2.2.1 (by omega) (by omega) (hs.2.2.2.2 (6 * i + 2) (by omega)) ?_
  refine xq_callV2G clX10 gd_X10_peep dL_law_700 ml_RL_90 im_X10_peep se_X10_peep rfl (Fx.s0 hs.1) (by exact Nat.le_of_ble_eq_true rfl) (by decide) t ?_
  rintro r S1 H1 ⟨S2, H2, e, hs1, t1⟩
  cases e
  refine xq_bud (b1 := b1 + 0) (b2 := b2 + 0) ?_ (Nat.le_refl _) (Nat.le_refl _)
  refine xq_aload_n dL_law_703 rfl rfl ?_
  refine xq_sload_n dL_law_704 rfl rfl ?_
  refine xq_iload dL_law_705 rfl ?_
  refine xq_iconst dL_law_707 ic1 ?_
  refine xq_iaddN dL_law_708 ?_
  refine xq_sald dL_law_709 hs1.2.2.1 (by omega) (by omega) (hs1.2.2.2.2 (6 * i + 1) (by omega)) ?_
  refine xq_sload_n dL_law_710 rfl rfl ?_
  refine xq_iload dL_law_711 rfl ?_
  refine xq_iconst dL_law_713 ic2 ?_
  refine xq_iaddN dL_law_714 ?_
  refine xq_sald dL_law_715 hs1.2.2.1 (by omega) (by omega) (hs1.2.2.2.2 (6 * i + 2) (by omega)) ?_
  refine xq_callV2G clX11 gd_X11_peep dL_law_716 ml_RL_93 im_X11_peep se_X11_peep rfl (Fx.s83 hs1.1) (by exact Nat.le_of_ble_eq_true rfl) (by decide) t1 ?_
  rintro r S3 H3 ⟨H4, e, g4⟩
  cases e
  exact xq_icmp_eq dL_law_719 rfl ⟨fun _ => kk _ _ g4, fun h => absurd rfl h⟩
theorem lc_go (g : GI Ls xs i S H) (hi : i < 512) (hl : 6 * i + 6 ≤ Ls) (h3 : Ls ≤ 3072) (kk : ∀ S1 H1, GI Ls xs (i + 1) S1 H1 → Xq mL_law 704 b1 b2 1295 (lL i) [] S1 H1 Q) : Xq mL_law 704 (b1 + 5) (b2 + 764) 724 (lL i) [] S H Q := by
  have hs := g.1
  obtain ⟨v, c1, c2, q1, q2, t⟩ := tie_go g (by omega) (xs (6 * i + 1))
  refine xq_bud (b1 := b1 + c1) (b2 := b2 + c2) ?_ (by omega) (by omega)
  refine xq_aload_n dL_law_724 rfl rfl ?_
  refine xq_sload_n dL_law_725 rfl rfl ?_
  refine xq_iload dL_law_726 rfl ?_
  refine xq_iconst dL_law_728 ic1 ?_
  refine xq_iaddN dL_law_729 ?_
  refine xq_sald dL_law_730 hs.2.2.1 (by omega) (by omega) (hs.2.2.2.2 (6 * i + 1) (by omega)) ?_
  refine xq_callV1G clX10 gd_X10_go dL_law_731 ml_RL_94 im_X10_go se_X10_go rfl (Fx.s0 hs.1) (by exact Nat.le_of_ble_eq_true rfl) (by decide) t ?_
  rintro r S1 H1 ⟨S2, H2, e, hs1, t1⟩
  cases e
  refine xq_bud (b1 := b1 + 0) (b2 := b2 + 0) ?_ (Nat.le_refl _) (Nat.le_refl _)
  refine xq_aload_n dL_law_734 rfl rfl ?_
  refine xq_sload_n dL_law_735 rfl rfl ?_
  refine xq_iload dL_law_736 rfl ?_
  refine xq_iconst dL_law_738 ic1 ?_
  refine xq_iaddN dL_law_739 ?_
  refine xq_sald dL_law_740 hs1.2.2.1 (by omega) (by omega) (hs1.2.2.2.2 (6 * i + 1) (by omega)) ?_
  refine xq_callV1G clX11 gd_X11_go dL_law_741 ml_RL_97 im_X11_go se_X11_go rfl (Fx.s83 hs1.1) (by exact Nat.le_of_ble_eq_true rfl) (by decide) t1 ?_
  rintro r S3 H3 ⟨H4, e, g4⟩
  cases e
  exact xq_icmp_eq dL_law_744 rfl ⟨fun _ => kk _ _ g4, fun h => absurd rfl h⟩
theorem lc_ahead (g : GI Ls xs i S H) (hi : i < 512) (hl : 6 * i + 6 ≤ Ls) (h3 : Ls ≤ 3072) (kk : ∀ S1 H1, GI Ls xs (i + 1) S1 H1 → Xq mL_law 704 b1 b2 1295 (lL i) [] S1 H1 Q) : Xq mL_law 704 (b1 + 5) (b2 + 764) 749 (lL i) [] S H Q := by
  have hs := g.1
  obtain ⟨v, t⟩ := tie_ahead g (by omega) (xs (6 * i + 1)) (xs (6 * i + 2)) (xs (6 * i + 3))
  refine xq_bud (b1 := b1 + 0) (b2 := b2 + 0) ?_ (by omega) (by omega)
  refine xq_aload_n dL_law_749 rfl rfl ?_
  refine xq_sload_n dL_law_750 rfl rfl ?_
  refine xq_iload dL_law_751 rfl ?_
  refine xq_iconst dL_law_753 ic1 ?_
  refine xq_iaddN dL_law_754 ?_
  refine xq_sald dL_law_755 hs.2.2.1 (by omega) (by omega) (hs.2.2.2.2 (6 * i + 1) (by omega)) ?_
  refine xq_sload_n dL_law_756 rfl rfl ?_
  refine xq_iload dL_law_757 rfl ?_
  refine xq_iconst dL_law_759 ic2 ?_
  refine xq_iaddN dL_law_760 ?_
  refine xq_sald dL_law_761 hs.2.2.1 (by omega) (by omega) (hs.2.2.2.2 (6 * i + 2) (by omega)) ?_
  refine xq_sload_n dL_law_762 rfl rfl ?_
  refine xq_iload dL_law_763 rfl ?_
  refine xq_iconst dL_law_765 ic3 ?_
  refine xq_iaddN dL_law_766 ?_
  refine xq_sald dL_law_767 hs.2.2.1 (by omega) (by omega) (hs.2.2.2.2 (6 * i + 3) (by omega)) ?_
  refine xq_callV3G clX10 gd_X10_ahead dL_law_768 ml_RL_98 im_X10_ahead se_X10_ahead rfl (Fx.s0 hs.1) (by exact Nat.le_of_ble_eq_true rfl) (by decide) t ?_
  rintro r S1 H1 ⟨S2, H2, e, hs1, t1⟩
  cases e
  refine xq_bud (b1 := b1 + 0) (b2 := b2 + 0) ?_ (Nat.le_refl _) (Nat.le_refl _)
  refine xq_aload_n dL_law_771 rfl rfl ?_
  refine xq_sload_n dL_law_772 rfl rfl ?_
  refine xq_iload dL_law_773 rfl ?_
  refine xq_iconst dL_law_775 ic1 ?_
  refine xq_iaddN dL_law_776 ?_
  refine xq_sald dL_law_777 hs1.2.2.1 (by omega) (by omega) (hs1.2.2.2.2 (6 * i + 1) (by omega)) ?_
  refine xq_sload_n dL_law_778 rfl rfl ?_
  refine xq_iload dL_law_779 rfl ?_
  refine xq_iconst dL_law_781 ic2 ?_
  refine xq_iaddN dL_law_782 ?_
  refine xq_sald dL_law_783 hs1.2.2.1 (by omega) (by omega) (hs1.2.2.2.2 (6 * i + 2) (by omega)) ?_
  refine xq_sload_n dL_law_784 rfl rfl ?_
  refine xq_iload dL_law_785 rfl ?_
  refine xq_iconst dL_law_787 ic3 ?_
  refine xq_iaddN dL_law_788 ?_
  refine xq_sald dL_law_789 hs1.2.2.1 (by omega) (by omega) (hs1.2.2.2.2 (6 * i + 3) (by omega)) ?_
  refine xq_callV3G clX11 gd_X11_ahead dL_law_790 ml_RL_102 im_X11_ahead se_X11_ahead rfl (Fx.s83 hs1.1) (by exact Nat.le_of_ble_eq_true rfl) (by decide) t1 ?_
  rintro r S3 H3 ⟨H4, e, g4⟩
  cases e
  exact xq_icmp_eq dL_law_793 rfl ⟨fun _ => kk _ _ g4, fun h => absurd rfl h⟩
theorem lc_willKnow (g : GI Ls xs i S H) (hi : i < 512) (hl : 6 * i + 6 ≤ Ls) (h3 : Ls ≤ 3072) (kk : ∀ S1 H1, GI Ls xs (i + 1) S1 H1 → Xq mL_law 704 b1 b2 1295 (lL i) [] S1 H1 Q) : Xq mL_law 704 (b1 + 5) (b2 + 764) 798 (lL i) [] S H Q := by
  have hs := g.1
  obtain ⟨v, t⟩ := tie_willKnow g (by omega) (xs (6 * i + 1))
  refine xq_bud (b1 := b1 + 0) (b2 := b2 + 0) ?_ (by omega) (by omega)
  refine xq_aload_n dL_law_798 rfl rfl ?_
  refine xq_sload_n dL_law_799 rfl rfl ?_
  refine xq_iload dL_law_800 rfl ?_
  refine xq_iconst dL_law_802 ic1 ?_
  refine xq_iaddN dL_law_803 ?_
  refine xq_sald dL_law_804 hs.2.2.1 (by omega) (by omega) (hs.2.2.2.2 (6 * i + 1) (by omega)) ?_
  refine xq_callV1G clX10 gd_X10_willKnow dL_law_805 ml_RL_103 im_X10_willKnow se_X10_willKnow rfl (Fx.s0 hs.1) (by exact Nat.le_of_ble_eq_true rfl) (by decide) t ?_
  rintro r S1 H1 ⟨S2, H2, e, hs1, t1⟩
  cases e
  refine xq_bud (b1 := b1 + 0) (b2 := b2 + 0) ?_ (Nat.le_refl _) (Nat.le_refl _)
  refine xq_aload_n dL_law_808 rfl rfl ?_
  refine xq_sload_n dL_law_809 rfl rfl ?_
  refine xq_iload dL_law_810 rfl ?_
  refine xq_iconst dL_law_812 ic1 ?_
  refine xq_iaddN dL_law_813 ?_
  refine xq_sald dL_law_814 hs1.2.2.1 (by omega) (by omega) (hs1.2.2.2.2 (6 * i + 1) (by omega)) ?_
  refine xq_callV1G clX11 gd_X11_willKnow dL_law_815 ml_RL_106 im_X11_willKnow se_X11_willKnow rfl (Fx.s83 hs1.1) (by exact Nat.le_of_ble_eq_true rfl) (by decide) t1 ?_
  rintro r S3 H3 ⟨H4, e, g4⟩
  cases e
  exact xq_icmp_eq dL_law_818 rfl ⟨fun _ => kk _ _ g4, fun h => absurd rfl h⟩
theorem lc_parts (g : GI Ls xs i S H) (hi : i < 512) (hl : 6 * i + 6 ≤ Ls) (h3 : Ls ≤ 3072) (kk : ∀ S1 H1, GI Ls xs (i + 1) S1 H1 → Xq mL_law 704 b1 b2 1295 (lL i) [] S1 H1 Q) : Xq mL_law 704 (b1 + 5) (b2 + 764) 823 (lL i) [] S H Q := by
  have hs := g.1
  obtain ⟨v, t⟩ := tie_parts g (by omega)
  refine xq_bud (b1 := b1 + 0) (b2 := b2 + 0) ?_ (by omega) (by omega)
  refine xq_aload_n dL_law_823 rfl rfl ?_
  refine xq_callV0G clX10 gd_X10_parts dL_law_824 ml_RL_107 im_X10_parts se_X10_parts rfl (Fx.s0 hs.1) (by exact Nat.le_of_ble_eq_true rfl) (by decide) t ?_
  rintro r S1 H1 ⟨S2, H2, e, hs1, t1⟩
  cases e
  refine xq_bud (b1 := b1 + 0) (b2 := b2 + 0) ?_ (Nat.le_refl _) (Nat.le_refl _)
  refine xq_aload_n dL_law_827 rfl rfl ?_
  refine xq_callV0G clX11 gd_X11_parts dL_law_828 ml_RL_110 im_X11_parts se_X11_parts rfl (Fx.s83 hs1.1) (by exact Nat.le_of_ble_eq_true rfl) (by decide) t1 ?_
  rintro r S3 H3 ⟨H4, e, g4⟩
  cases e
  exact xq_icmp_eq dL_law_831 rfl ⟨fun _ => kk _ _ g4, fun h => absurd rfl h⟩
theorem lc_rounds (g : GI Ls xs i S H) (hi : i < 512) (hl : 6 * i + 6 ≤ Ls) (h3 : Ls ≤ 3072) (kk : ∀ S1 H1, GI Ls xs (i + 1) S1 H1 → Xq mL_law 704 b1 b2 1295 (lL i) [] S1 H1 Q) : Xq mL_law 704 (b1 + 5) (b2 + 764) 836 (lL i) [] S H Q := by
  have hs := g.1
  obtain ⟨v, t⟩ := tie_rounds g (by omega) (xs (6 * i + 1))
  refine xq_bud (b1 := b1 + 0) (b2 := b2 + 0) ?_ (by omega) (by omega)
  refine xq_aload_n dL_law_836 rfl rfl ?_
  refine xq_sload_n dL_law_837 rfl rfl ?_
  refine xq_iload dL_law_838 rfl ?_
  refine xq_iconst dL_law_840 ic1 ?_
  refine xq_iaddN dL_law_841 ?_
  refine xq_sald dL_law_842 hs.2.2.1 (by omega) (by omega) (hs.2.2.2.2 (6 * i + 1) (by omega)) ?_
  refine xq_callV1G clX10 gd_X10_rounds dL_law_843 ml_RL_111 im_X10_rounds se_X10_rounds rfl (Fx.s0 hs.1) (by exact Nat.le_of_ble_eq_true rfl) (by decide) t ?_
  rintro r S1 H1 ⟨S2, H2, e, hs1, t1⟩
  cases e
  refine xq_bud (b1 := b1 + 0) (b2 := b2 + 0) ?_ (Nat.le_refl _) (Nat.le_refl _)
  refine xq_aload_n dL_law_846 rfl rfl ?_
  refine xq_sload_n dL_law_847 rfl rfl ?_
  refine xq_iload dL_law_848 rfl ?_
  refine xq_iconst dL_law_850 ic1 ?_
  refine xq_iaddN dL_law_851 ?_
  refine xq_sald dL_law_852 hs1.2.2.1 (by omega) (by omega) (hs1.2.2.2.2 (6 * i + 1) (by omega)) ?_
  refine xq_callV1G clX11 gd_X11_rounds dL_law_853 ml_RL_114 im_X11_rounds se_X11_rounds rfl (Fx.s83 hs1.1) (by exact Nat.le_of_ble_eq_true rfl) (by decide) t1 ?_
  rintro r S3 H3 ⟨H4, e, g4⟩
  cases e
  exact xq_icmp_eq dL_law_856 rfl ⟨fun _ => kk _ _ g4, fun h => absurd rfl h⟩
theorem lc_teach (g : GI Ls xs i S H) (hi : i < 512) (hl : 6 * i + 6 ≤ Ls) (h3 : Ls ≤ 3072) (kk : ∀ S1 H1, GI Ls xs (i + 1) S1 H1 → Xq mL_law 704 b1 b2 1295 (lL i) [] S1 H1 Q) : Xq mL_law 704 (b1 + 5) (b2 + 764) 861 (lL i) [] S H Q := by
  have hs := g.1
  obtain ⟨v, t⟩ := tie_teach g (by omega) (xs (6 * i + 1))
  refine xq_bud (b1 := b1 + 0) (b2 := b2 + 0) ?_ (by omega) (by omega)
  refine xq_aload_n dL_law_861 rfl rfl ?_
  refine xq_sload_n dL_law_862 rfl rfl ?_
  refine xq_iload dL_law_863 rfl ?_
  refine xq_iconst dL_law_865 ic1 ?_
  refine xq_iaddN dL_law_866 ?_
  refine xq_sald dL_law_867 hs.2.2.1 (by omega) (by omega) (hs.2.2.2.2 (6 * i + 1) (by omega)) ?_
  refine xq_callV1G clX10 gd_X10_teach dL_law_868 ml_RL_115 im_X10_teach se_X10_teach rfl (Fx.s0 hs.1) (by exact Nat.le_of_ble_eq_true rfl) (by decide) t ?_
  rintro r S1 H1 ⟨S2, H2, e, hs1, t1⟩
  cases e
  refine xq_bud (b1 := b1 + 0) (b2 := b2 + 0) ?_ (Nat.le_refl _) (Nat.le_refl _)
  refine xq_aload_n dL_law_871 rfl rfl ?_
  refine xq_sload_n dL_law_872 rfl rfl ?_
  refine xq_iload dL_law_873 rfl ?_
  refine xq_iconst dL_law_875 ic1 ?_
  refine xq_iaddN dL_law_876 ?_
  refine xq_sald dL_law_877 hs1.2.2.1 (by omega) (by omega) (hs1.2.2.2.2 (6 * i + 1) (by omega)) ?_
  refine xq_callV1G clX11 gd_X11_teach dL_law_878 ml_RL_118 im_X11_teach se_X11_teach rfl (Fx.s83 hs1.1) (by exact Nat.le_of_ble_eq_true rfl) (by decide) t1 ?_
  rintro r S3 H3 ⟨H4, e, g4⟩
  cases e
  exact xq_icmp_eq dL_law_881 rfl ⟨fun _ => kk _ _ g4, fun h => absurd rfl h⟩
theorem lc_teachAll (g : GI Ls xs i S H) (hi : i < 512) (hl : 6 * i + 6 ≤ Ls) (h3 : Ls ≤ 3072) (kk : ∀ S1 H1, GI Ls xs (i + 1) S1 H1 → Xq mL_law 704 b1 b2 1295 (lL i) [] S1 H1 Q) : Xq mL_law 704 (b1 + 5) (b2 + 764) 886 (lL i) [] S H Q := by
  have hs := g.1
  obtain ⟨v, t⟩ := tie_teachAll g (by omega)
  refine xq_bud (b1 := b1 + 0) (b2 := b2 + 0) ?_ (by omega) (by omega)
  refine xq_aload_n dL_law_886 rfl rfl ?_
  refine xq_callV0G clX10 gd_X10_teachAll dL_law_887 ml_RL_119 im_X10_teachAll se_X10_teachAll rfl (Fx.s0 hs.1) (by exact Nat.le_of_ble_eq_true rfl) (by decide) t ?_
  rintro r S1 H1 ⟨S2, H2, e, hs1, t1⟩
  cases e
  refine xq_bud (b1 := b1 + 0) (b2 := b2 + 0) ?_ (Nat.le_refl _) (Nat.le_refl _)
  refine xq_aload_n dL_law_890 rfl rfl ?_
  refine xq_callV0G clX11 gd_X11_teachAll dL_law_891 ml_RL_122 im_X11_teachAll se_X11_teachAll rfl (Fx.s83 hs1.1) (by exact Nat.le_of_ble_eq_true rfl) (by decide) t1 ?_
  rintro r S3 H3 ⟨H4, e, g4⟩
  cases e
  exact xq_icmp_eq dL_law_894 rfl ⟨fun _ => kk _ _ g4, fun h => absurd rfl h⟩
theorem lc_look (g : GI Ls xs i S H) (hi : i < 512) (hl : 6 * i + 6 ≤ Ls) (h3 : Ls ≤ 3072) (kk : ∀ S1 H1, GI Ls xs (i + 1) S1 H1 → Xq mL_law 704 b1 b2 1295 (lL i) [] S1 H1 Q) : Xq mL_law 704 (b1 + 5) (b2 + 764) 899 (lL i) [] S H Q := by
  have hs := g.1
  obtain ⟨v, t⟩ := tie_look g (by omega) (xs (6 * i + 1)) (xs (6 * i + 2))
  refine xq_bud (b1 := b1 + 0) (b2 := b2 + 0) ?_ (by omega) (by omega)
  refine xq_aload_n dL_law_899 rfl rfl ?_
  refine xq_sload_n dL_law_900 rfl rfl ?_
  refine xq_iload dL_law_901 rfl ?_
  refine xq_iconst dL_law_903 ic1 ?_
  refine xq_iaddN dL_law_904 ?_
  refine xq_sald dL_law_905 hs.2.2.1 (by omega) (by omega) (hs.2.2.2.2 (6 * i + 1) (by omega)) ?_
  refine xq_sload_n dL_law_906 rfl rfl ?_
  refine xq_iload dL_law_907 rfl ?_
  refine xq_iconst dL_law_909 ic2 ?_
  refine xq_iaddN dL_law_910 ?_
  refine xq_sald dL_law_911 hs.2.2.1 (by omega) (by omega) (hs.2.2.2.2 (6 * i + 2) (by omega)) ?_
  refine xq_callV2G clX10 gd_X10_look dL_law_912 ml_RL_123 im_X10_look se_X10_look rfl (Fx.s0 hs.1) (by exact Nat.le_of_ble_eq_true rfl) (by decide) t ?_
  rintro r S1 H1 ⟨S2, H2, e, hs1, t1⟩
  cases e
  refine xq_bud (b1 := b1 + 0) (b2 := b2 + 0) ?_ (Nat.le_refl _) (Nat.le_refl _)
  refine xq_aload_n dL_law_915 rfl rfl ?_
  refine xq_sload_n dL_law_916 rfl rfl ?_
  refine xq_iload dL_law_917 rfl ?_
  refine xq_iconst dL_law_919 ic1 ?_
  refine xq_iaddN dL_law_920 ?_
  refine xq_sald dL_law_921 hs1.2.2.1 (by omega) (by omega) (hs1.2.2.2.2 (6 * i + 1) (by omega)) ?_
  refine xq_sload_n dL_law_922 rfl rfl ?_
  refine xq_iload dL_law_923 rfl ?_
  refine xq_iconst dL_law_925 ic2 ?_
  refine xq_iaddN dL_law_926 ?_
  refine xq_sald dL_law_927 hs1.2.2.1 (by omega) (by omega) (hs1.2.2.2.2 (6 * i + 2) (by omega)) ?_
  refine xq_callV2G clX11 gd_X11_look dL_law_928 ml_RL_126 im_X11_look se_X11_look rfl (Fx.s83 hs1.1) (by exact Nat.le_of_ble_eq_true rfl) (by decide) t1 ?_
  rintro r S3 H3 ⟨H4, e, g4⟩
  cases e
  exact xq_icmp_eq dL_law_931 rfl ⟨fun _ => kk _ _ g4, fun h => absurd rfl h⟩
theorem lc_guess (g : GI Ls xs i S H) (hi : i < 512) (hl : 6 * i + 6 ≤ Ls) (h3 : Ls ≤ 3072) (kk : ∀ S1 H1, GI Ls xs (i + 1) S1 H1 → Xq mL_law 704 b1 b2 1295 (lL i) [] S1 H1 Q) : Xq mL_law 704 (b1 + 5) (b2 + 764) 936 (lL i) [] S H Q := by
  have hs := g.1
  obtain ⟨v, t⟩ := tie_guess g (by omega) (xs (6 * i + 1)) (xs (6 * i + 2))
  refine xq_bud (b1 := b1 + 0) (b2 := b2 + 0) ?_ (by omega) (by omega)
  refine xq_aload_n dL_law_936 rfl rfl ?_
  refine xq_sload_n dL_law_937 rfl rfl ?_
  refine xq_iload dL_law_938 rfl ?_
  refine xq_iconst dL_law_940 ic1 ?_
  refine xq_iaddN dL_law_941 ?_
  refine xq_sald dL_law_942 hs.2.2.1 (by omega) (by omega) (hs.2.2.2.2 (6 * i + 1) (by omega)) ?_
  refine xq_sload_n dL_law_943 rfl rfl ?_
  refine xq_iload dL_law_944 rfl ?_
  refine xq_iconst dL_law_946 ic2 ?_
  refine xq_iaddN dL_law_947 ?_
  refine xq_sald dL_law_948 hs.2.2.1 (by omega) (by omega) (hs.2.2.2.2 (6 * i + 2) (by omega)) ?_
  refine xq_callV2G clX10 gd_X10_guess dL_law_949 ml_RL_127 im_X10_guess se_X10_guess rfl (Fx.s0 hs.1) (by exact Nat.le_of_ble_eq_true rfl) (by decide) t ?_
  rintro r S1 H1 ⟨S2, H2, e, hs1, t1⟩
  cases e
  refine xq_bud (b1 := b1 + 0) (b2 := b2 + 0) ?_ (Nat.le_refl _) (Nat.le_refl _)
  refine xq_aload_n dL_law_952 rfl rfl ?_
  refine xq_sload_n dL_law_953 rfl rfl ?_
  refine xq_iload dL_law_954 rfl ?_
  refine xq_iconst dL_law_956 ic1 ?_
  refine xq_iaddN dL_law_957 ?_
  refine xq_sald dL_law_958 hs1.2.2.1 (by omega) (by omega) (hs1.2.2.2.2 (6 * i + 1) (by omega)) ?_
  refine xq_sload_n dL_law_959 rfl rfl ?_
  refine xq_iload dL_law_960 rfl ?_
  refine xq_iconst dL_law_962 ic2 ?_
  refine xq_iaddN dL_law_963 ?_
  refine xq_sald dL_law_964 hs1.2.2.1 (by omega) (by omega) (hs1.2.2.2.2 (6 * i + 2) (by omega)) ?_
  refine xq_callV2G clX11 gd_X11_guess dL_law_965 ml_RL_130 im_X11_guess se_X11_guess rfl (Fx.s83 hs1.1) (by exact Nat.le_of_ble_eq_true rfl) (by decide) t1 ?_
  rintro r S3 H3 ⟨H4, e, g4⟩
  cases e
  exact xq_icmp_eq dL_law_968 rfl ⟨fun _ => kk _ _ g4, fun h => absurd rfl h⟩
theorem lc_likely (g : GI Ls xs i S H) (hi : i < 512) (hl : 6 * i + 6 ≤ Ls) (h3 : Ls ≤ 3072) (kk : ∀ S1 H1, GI Ls xs (i + 1) S1 H1 → Xq mL_law 704 b1 b2 1295 (lL i) [] S1 H1 Q) : Xq mL_law 704 (b1 + 5) (b2 + 764) 973 (lL i) [] S H Q := by
  have hs := g.1
  obtain ⟨v, t⟩ := tie_likely g (by omega) (xs (6 * i + 1)) (xs (6 * i + 2))
  refine xq_bud (b1 := b1 + 0) (b2 := b2 + 0) ?_ (by omega) (by omega)
  refine xq_aload_n dL_law_973 rfl rfl ?_
  refine xq_sload_n dL_law_974 rfl rfl ?_
  refine xq_iload dL_law_975 rfl ?_
  refine xq_iconst dL_law_977 ic1 ?_
  refine xq_iaddN dL_law_978 ?_
  refine xq_sald dL_law_979 hs.2.2.1 (by omega) (by omega) (hs.2.2.2.2 (6 * i + 1) (by omega)) ?_
  refine xq_sload_n dL_law_980 rfl rfl ?_
  refine xq_iload dL_law_981 rfl ?_
  refine xq_iconst dL_law_983 ic2 ?_
  refine xq_iaddN dL_law_984 ?_
  refine xq_sald dL_law_985 hs.2.2.1 (by omega) (by omega) (hs.2.2.2.2 (6 * i + 2) (by omega)) ?_
  refine xq_callV2G clX10 gd_X10_likely dL_law_986 ml_RL_131 im_X10_likely se_X10_likely rfl (Fx.s0 hs.1) (by exact Nat.le_of_ble_eq_true rfl) (by decide) t ?_
  rintro r S1 H1 ⟨S2, H2, e, hs1, t1⟩
  cases e
  refine xq_bud (b1 := b1 + 0) (b2 := b2 + 0) ?_ (Nat.le_refl _) (Nat.le_refl _)
  refine xq_aload_n dL_law_989 rfl rfl ?_
  refine xq_sload_n dL_law_990 rfl rfl ?_
  refine xq_iload dL_law_991 rfl ?_
  refine xq_iconst dL_law_993 ic1 ?_
  refine xq_iaddN dL_law_994 ?_
  refine xq_sald dL_law_995 hs1.2.2.1 (by omega) (by omega) (hs1.2.2.2.2 (6 * i + 1) (by omega)) ?_
  refine xq_sload_n dL_law_996 rfl rfl ?_
  refine xq_iload dL_law_997 rfl ?_
  refine xq_iconst dL_law_999 ic2 ?_
  refine xq_iaddN dL_law_1000 ?_
  refine xq_sald dL_law_1001 hs1.2.2.1 (by omega) (by omega) (hs1.2.2.2.2 (6 * i + 2) (by omega)) ?_
  refine xq_callV2G clX11 gd_X11_likely dL_law_1002 ml_RL_134 im_X11_likely se_X11_likely rfl (Fx.s83 hs1.1) (by exact Nat.le_of_ble_eq_true rfl) (by decide) t1 ?_
  rintro r S3 H3 ⟨H4, e, g4⟩
  cases e
  exact xq_icmp_eq dL_law_1005 rfl ⟨fun _ => kk _ _ g4, fun h => absurd rfl h⟩
theorem lc_secret (g : GI Ls xs i S H) (hi : i < 512) (hl : 6 * i + 6 ≤ Ls) (h3 : Ls ≤ 3072) (kk : ∀ S1 H1, GI Ls xs (i + 1) S1 H1 → Xq mL_law 704 b1 b2 1295 (lL i) [] S1 H1 Q) : Xq mL_law 704 (b1 + 5) (b2 + 764) 1010 (lL i) [] S H Q := by
  have hs := g.1
  obtain ⟨v, t⟩ := tie_secret g (by omega) (xs (6 * i + 1)) (xs (6 * i + 2))
  refine xq_bud (b1 := b1 + 0) (b2 := b2 + 0) ?_ (by omega) (by omega)
  refine xq_aload_n dL_law_1010 rfl rfl ?_
  refine xq_sload_n dL_law_1011 rfl rfl ?_
  refine xq_iload dL_law_1012 rfl ?_
  refine xq_iconst dL_law_1014 ic1 ?_
  refine xq_iaddN dL_law_1015 ?_
  refine xq_sald dL_law_1016 hs.2.2.1 (by omega) (by omega) (hs.2.2.2.2 (6 * i + 1) (by omega)) ?_
  refine xq_sload_n dL_law_1017 rfl rfl ?_
  refine xq_iload dL_law_1018 rfl ?_
  refine xq_iconst dL_law_1020 ic2 ?_
  refine xq_iaddN dL_law_1021 ?_
  refine xq_sald dL_law_1022 hs.2.2.1 (by omega) (by omega) (hs.2.2.2.2 (6 * i + 2) (by omega)) ?_
  refine xq_callV2G clX10 gd_X10_secret dL_law_1023 ml_RL_135 im_X10_secret se_X10_secret rfl (Fx.s0 hs.1) (by exact Nat.le_of_ble_eq_true rfl) (by decide) t ?_
  rintro r S1 H1 ⟨S2, H2, e, hs1, t1⟩
  cases e
  refine xq_bud (b1 := b1 + 0) (b2 := b2 + 0) ?_ (Nat.le_refl _) (Nat.le_refl _)
  refine xq_aload_n dL_law_1026 rfl rfl ?_
  refine xq_sload_n dL_law_1027 rfl rfl ?_
  refine xq_iload dL_law_1028 rfl ?_
  refine xq_iconst dL_law_1030 ic1 ?_
  refine xq_iaddN dL_law_1031 ?_
  refine xq_sald dL_law_1032 hs1.2.2.1 (by omega) (by omega) (hs1.2.2.2.2 (6 * i + 1) (by omega)) ?_
  refine xq_sload_n dL_law_1033 rfl rfl ?_
  refine xq_iload dL_law_1034 rfl ?_
  refine xq_iconst dL_law_1036 ic2 ?_
  refine xq_iaddN dL_law_1037 ?_
  refine xq_sald dL_law_1038 hs1.2.2.1 (by omega) (by omega) (hs1.2.2.2.2 (6 * i + 2) (by omega)) ?_
  refine xq_callV2G clX11 gd_X11_secret dL_law_1039 ml_RL_138 im_X11_secret se_X11_secret rfl (Fx.s83 hs1.1) (by exact Nat.le_of_ble_eq_true rfl) (by decide) t1 ?_
  rintro r S3 H3 ⟨H4, e, g4⟩
  cases e
  exact xq_icmp_eq dL_law_1042 rfl ⟨fun _ => kk _ _ g4, fun h => absurd rfl h⟩
theorem lc_rests (g : GI Ls xs i S H) (hi : i < 512) (hl : 6 * i + 6 ≤ Ls) (h3 : Ls ≤ 3072) (kk : ∀ S1 H1, GI Ls xs (i + 1) S1 H1 → Xq mL_law 704 b1 b2 1295 (lL i) [] S1 H1 Q) : Xq mL_law 704 (b1 + 5) (b2 + 764) 1047 (lL i) [] S H Q := by
  have hs := g.1
  obtain ⟨v, t⟩ := tie_rests g (by omega) (xs (6 * i + 1)) (xs (6 * i + 2))
  refine xq_bud (b1 := b1 + 0) (b2 := b2 + 0) ?_ (by omega) (by omega)
  refine xq_aload_n dL_law_1047 rfl rfl ?_
  refine xq_sload_n dL_law_1048 rfl rfl ?_
  refine xq_iload dL_law_1049 rfl ?_
  refine xq_iconst dL_law_1051 ic1 ?_
  refine xq_iaddN dL_law_1052 ?_
  refine xq_sald dL_law_1053 hs.2.2.1 (by omega) (by omega) (hs.2.2.2.2 (6 * i + 1) (by omega)) ?_
  refine xq_sload_n dL_law_1054 rfl rfl ?_
  refine xq_iload dL_law_1055 rfl ?_
  refine xq_iconst dL_law_1057 ic2 ?_
  refine xq_iaddN dL_law_1058 ?_
  refine xq_sald dL_law_1059 hs.2.2.1 (by omega) (by omega) (hs.2.2.2.2 (6 * i + 2) (by omega)) ?_
  refine xq_callV2G clX10 gd_X10_rests dL_law_1060 ml_RL_139 im_X10_rests se_X10_rests rfl (Fx.s0 hs.1) (by exact Nat.le_of_ble_eq_true rfl) (by decide) t ?_
  rintro r S1 H1 ⟨S2, H2, e, hs1, t1⟩
  cases e
  refine xq_bud (b1 := b1 + 0) (b2 := b2 + 0) ?_ (Nat.le_refl _) (Nat.le_refl _)
  refine xq_aload_n dL_law_1063 rfl rfl ?_
  refine xq_sload_n dL_law_1064 rfl rfl ?_
  refine xq_iload dL_law_1065 rfl ?_
  refine xq_iconst dL_law_1067 ic1 ?_
  refine xq_iaddN dL_law_1068 ?_
  refine xq_sald dL_law_1069 hs1.2.2.1 (by omega) (by omega) (hs1.2.2.2.2 (6 * i + 1) (by omega)) ?_
  refine xq_sload_n dL_law_1070 rfl rfl ?_
  refine xq_iload dL_law_1071 rfl ?_
  refine xq_iconst dL_law_1073 ic2 ?_
  refine xq_iaddN dL_law_1074 ?_
  refine xq_sald dL_law_1075 hs1.2.2.1 (by omega) (by omega) (hs1.2.2.2.2 (6 * i + 2) (by omega)) ?_
  refine xq_callV2G clX11 gd_X11_rests dL_law_1076 ml_RL_142 im_X11_rests se_X11_rests rfl (Fx.s83 hs1.1) (by exact Nat.le_of_ble_eq_true rfl) (by decide) t1 ?_
  rintro r S3 H3 ⟨H4, e, g4⟩
  cases e
  exact xq_icmp_eq dL_law_1079 rfl ⟨fun _ => kk _ _ g4, fun h => absurd rfl h⟩
theorem lc_rest (g : GI Ls xs i S H) (hi : i < 512) (hl : 6 * i + 6 ≤ Ls) (h3 : Ls ≤ 3072) (kk : ∀ S1 H1, GI Ls xs (i + 1) S1 H1 → Xq mL_law 704 b1 b2 1295 (lL i) [] S1 H1 Q) : Xq mL_law 704 (b1 + 5) (b2 + 764) 1084 (lL i) [] S H Q := by
  have hs := g.1
  obtain ⟨v, t⟩ := tie_rest g (by omega) (xs (6 * i + 1)) (xs (6 * i + 2)) (xs (6 * i + 3))
  refine xq_bud (b1 := b1 + 0) (b2 := b2 + 0) ?_ (by omega) (by omega)
  refine xq_aload_n dL_law_1084 rfl rfl ?_
  refine xq_sload_n dL_law_1085 rfl rfl ?_
  refine xq_iload dL_law_1086 rfl ?_
  refine xq_iconst dL_law_1088 ic1 ?_
  refine xq_iaddN dL_law_1089 ?_
  refine xq_sald dL_law_1090 hs.2.2.1 (by omega) (by omega) (hs.2.2.2.2 (6 * i + 1) (by omega)) ?_
  refine xq_sload_n dL_law_1091 rfl rfl ?_
  refine xq_iload dL_law_1092 rfl ?_
  refine xq_iconst dL_law_1094 ic2 ?_
  refine xq_iaddN dL_law_1095 ?_
  refine xq_sald dL_law_1096 hs.2.2.1 (by omega) (by omega) (hs.2.2.2.2 (6 * i + 2) (by omega)) ?_
  refine xq_sload_n dL_law_1097 rfl rfl ?_
  refine xq_iload dL_law_1098 rfl ?_
  refine xq_iconst dL_law_1100 ic3 ?_
  refine xq_iaddN dL_law_1101 ?_
  refine xq_sald dL_law_1102 hs.2.2.1 (by omega) (by omega) (hs.2.2.2.2 (6 * i + 3) (by omega)) ?_
  refine xq_callV3G clX10 gd_X10_rest dL_law_1103 ml_RL_143 im_X10_rest se_X10_rest rfl (Fx.s0 hs.1) (by exact Nat.le_of_ble_eq_true rfl) (by decide) t ?_
  rintro r S1 H1 ⟨S2, H2, e, hs1, t1⟩
  cases e
  refine xq_bud (b1 := b1 + 0) (b2 := b2 + 0) ?_ (Nat.le_refl _) (Nat.le_refl _)
  refine xq_aload_n dL_law_1106 rfl rfl ?_
  refine xq_sload_n dL_law_1107 rfl rfl ?_
  refine xq_iload dL_law_1108 rfl ?_
  refine xq_iconst dL_law_1110 ic1 ?_
  refine xq_iaddN dL_law_1111 ?_
  refine xq_sald dL_law_1112 hs1.2.2.1 (by omega) (by omega) (hs1.2.2.2.2 (6 * i + 1) (by omega)) ?_
  refine xq_sload_n dL_law_1113 rfl rfl ?_
  refine xq_iload dL_law_1114 rfl ?_
  refine xq_iconst dL_law_1116 ic2 ?_
  refine xq_iaddN dL_law_1117 ?_
  refine xq_sald dL_law_1118 hs1.2.2.1 (by omega) (by omega) (hs1.2.2.2.2 (6 * i + 2) (by omega)) ?_
  refine xq_sload_n dL_law_1119 rfl rfl ?_
  refine xq_iload dL_law_1120 rfl ?_
  refine xq_iconst dL_law_1122 ic3 ?_
  refine xq_iaddN dL_law_1123 ?_
  refine xq_sald dL_law_1124 hs1.2.2.1 (by omega) (by omega) (hs1.2.2.2.2 (6 * i + 3) (by omega)) ?_
  refine xq_callV3G clX11 gd_X11_rest dL_law_1125 ml_RL_146 im_X11_rest se_X11_rest rfl (Fx.s83 hs1.1) (by exact Nat.le_of_ble_eq_true rfl) (by decide) t1 ?_
  rintro r S3 H3 ⟨H4, e, g4⟩
  cases e
  exact xq_icmp_eq dL_law_1128 rfl ⟨fun _ => kk _ _ g4, fun h => absurd rfl h⟩
theorem lc_chance (g : GI Ls xs i S H) (hi : i < 512) (hl : 6 * i + 6 ≤ Ls) (h3 : Ls ≤ 3072) (kk : ∀ S1 H1, GI Ls xs (i + 1) S1 H1 → Xq mL_law 704 b1 b2 1295 (lL i) [] S1 H1 Q) : Xq mL_law 704 (b1 + 5) (b2 + 764) 1133 (lL i) [] S H Q := by
  have hs := g.1
  obtain ⟨v, t⟩ := tie_chance g (by omega) (xs (6 * i + 1)) (xs (6 * i + 2)) (xs (6 * i + 3))
  refine xq_bud (b1 := b1 + 0) (b2 := b2 + 0) ?_ (by omega) (by omega)
  refine xq_aload_n dL_law_1133 rfl rfl ?_
  refine xq_sload_n dL_law_1134 rfl rfl ?_
  refine xq_iload dL_law_1135 rfl ?_
  refine xq_iconst dL_law_1137 ic1 ?_
  refine xq_iaddN dL_law_1138 ?_
  refine xq_sald dL_law_1139 hs.2.2.1 (by omega) (by omega) (hs.2.2.2.2 (6 * i + 1) (by omega)) ?_
  refine xq_sload_n dL_law_1140 rfl rfl ?_
  refine xq_iload dL_law_1141 rfl ?_
  refine xq_iconst dL_law_1143 ic2 ?_
  refine xq_iaddN dL_law_1144 ?_
  refine xq_sald dL_law_1145 hs.2.2.1 (by omega) (by omega) (hs.2.2.2.2 (6 * i + 2) (by omega)) ?_
  refine xq_sload_n dL_law_1146 rfl rfl ?_
  refine xq_iload dL_law_1147 rfl ?_
  refine xq_iconst dL_law_1149 ic3 ?_
  refine xq_iaddN dL_law_1150 ?_
  refine xq_sald dL_law_1151 hs.2.2.1 (by omega) (by omega) (hs.2.2.2.2 (6 * i + 3) (by omega)) ?_
  refine xq_callV3G clX10 gd_X10_chance dL_law_1152 ml_RL_147 im_X10_chance se_X10_chance rfl (Fx.s0 hs.1) (by exact Nat.le_of_ble_eq_true rfl) (by decide) t ?_
  rintro r S1 H1 ⟨S2, H2, e, hs1, t1⟩
  cases e
  refine xq_bud (b1 := b1 + 0) (b2 := b2 + 0) ?_ (Nat.le_refl _) (Nat.le_refl _)
  refine xq_aload_n dL_law_1155 rfl rfl ?_
  refine xq_sload_n dL_law_1156 rfl rfl ?_
  refine xq_iload dL_law_1157 rfl ?_
  refine xq_iconst dL_law_1159 ic1 ?_
  refine xq_iaddN dL_law_1160 ?_
  refine xq_sald dL_law_1161 hs1.2.2.1 (by omega) (by omega) (hs1.2.2.2.2 (6 * i + 1) (by omega)) ?_
  refine xq_sload_n dL_law_1162 rfl rfl ?_
  refine xq_iload dL_law_1163 rfl ?_
  refine xq_iconst dL_law_1165 ic2 ?_
  refine xq_iaddN dL_law_1166 ?_
  refine xq_sald dL_law_1167 hs1.2.2.1 (by omega) (by omega) (hs1.2.2.2.2 (6 * i + 2) (by omega)) ?_
  refine xq_sload_n dL_law_1168 rfl rfl ?_
  refine xq_iload dL_law_1169 rfl ?_
  refine xq_iconst dL_law_1171 ic3 ?_
  refine xq_iaddN dL_law_1172 ?_
  refine xq_sald dL_law_1173 hs1.2.2.1 (by omega) (by omega) (hs1.2.2.2.2 (6 * i + 3) (by omega)) ?_
  refine xq_callV3G clX11 gd_X11_chance dL_law_1174 ml_RL_150 im_X11_chance se_X11_chance rfl (Fx.s83 hs1.1) (by exact Nat.le_of_ble_eq_true rfl) (by decide) t1 ?_
  rintro r S3 H3 ⟨H4, e, g4⟩
  cases e
  exact xq_icmp_eq dL_law_1177 rfl ⟨fun _ => kk _ _ g4, fun h => absurd rfl h⟩
theorem lc_tried (g : GI Ls xs i S H) (hi : i < 512) (hl : 6 * i + 6 ≤ Ls) (h3 : Ls ≤ 3072) (kk : ∀ S1 H1, GI Ls xs (i + 1) S1 H1 → Xq mL_law 704 b1 b2 1295 (lL i) [] S1 H1 Q) : Xq mL_law 704 (b1 + 5) (b2 + 764) 1182 (lL i) [] S H Q := by
  have hs := g.1
  obtain ⟨v, t⟩ := tie_tried g (by omega) (xs (6 * i + 1)) (xs (6 * i + 2)) (xs (6 * i + 3))
  refine xq_bud (b1 := b1 + 0) (b2 := b2 + 0) ?_ (by omega) (by omega)
  refine xq_aload_n dL_law_1182 rfl rfl ?_
  refine xq_sload_n dL_law_1183 rfl rfl ?_
  refine xq_iload dL_law_1184 rfl ?_
  refine xq_iconst dL_law_1186 ic1 ?_
  refine xq_iaddN dL_law_1187 ?_
  refine xq_sald dL_law_1188 hs.2.2.1 (by omega) (by omega) (hs.2.2.2.2 (6 * i + 1) (by omega)) ?_
  refine xq_sload_n dL_law_1189 rfl rfl ?_
  refine xq_iload dL_law_1190 rfl ?_
  refine xq_iconst dL_law_1192 ic2 ?_
  refine xq_iaddN dL_law_1193 ?_
  refine xq_sald dL_law_1194 hs.2.2.1 (by omega) (by omega) (hs.2.2.2.2 (6 * i + 2) (by omega)) ?_
  refine xq_sload_n dL_law_1195 rfl rfl ?_
  refine xq_iload dL_law_1196 rfl ?_
  refine xq_iconst dL_law_1198 ic3 ?_
  refine xq_iaddN dL_law_1199 ?_
  refine xq_sald dL_law_1200 hs.2.2.1 (by omega) (by omega) (hs.2.2.2.2 (6 * i + 3) (by omega)) ?_
  refine xq_callV3G clX10 gd_X10_tried dL_law_1201 ml_RL_151 im_X10_tried se_X10_tried rfl (Fx.s0 hs.1) (by exact Nat.le_of_ble_eq_true rfl) (by decide) t ?_
  rintro r S1 H1 ⟨S2, H2, e, hs1, t1⟩
  cases e
  refine xq_bud (b1 := b1 + 0) (b2 := b2 + 0) ?_ (Nat.le_refl _) (Nat.le_refl _)
  refine xq_aload_n dL_law_1204 rfl rfl ?_
  refine xq_sload_n dL_law_1205 rfl rfl ?_
  refine xq_iload dL_law_1206 rfl ?_
  refine xq_iconst dL_law_1208 ic1 ?_
  refine xq_iaddN dL_law_1209 ?_
  refine xq_sald dL_law_1210 hs1.2.2.1 (by omega) (by omega) (hs1.2.2.2.2 (6 * i + 1) (by omega)) ?_
  refine xq_sload_n dL_law_1211 rfl rfl ?_
  refine xq_iload dL_law_1212 rfl ?_
  refine xq_iconst dL_law_1214 ic2 ?_
  refine xq_iaddN dL_law_1215 ?_
  refine xq_sald dL_law_1216 hs1.2.2.1 (by omega) (by omega) (hs1.2.2.2.2 (6 * i + 2) (by omega)) ?_
  refine xq_sload_n dL_law_1217 rfl rfl ?_
  refine xq_iload dL_law_1218 rfl ?_
  refine xq_iconst dL_law_1220 ic3 ?_
  refine xq_iaddN dL_law_1221 ?_
  refine xq_sald dL_law_1222 hs1.2.2.1 (by omega) (by omega) (hs1.2.2.2.2 (6 * i + 3) (by omega)) ?_
  refine xq_callV3G clX11 gd_X11_tried dL_law_1223 ml_RL_154 im_X11_tried se_X11_tried rfl (Fx.s83 hs1.1) (by exact Nat.le_of_ble_eq_true rfl) (by decide) t1 ?_
  rintro r S3 H3 ⟨H4, e, g4⟩
  cases e
  exact xq_icmp_eq dL_law_1226 rfl ⟨fun _ => kk _ _ g4, fun h => absurd rfl h⟩
theorem lc_undo (g : GI Ls xs i S H) (hi : i < 512) (hl : 6 * i + 6 ≤ Ls) (h3 : Ls ≤ 3072) (kk : ∀ S1 H1, GI Ls xs (i + 1) S1 H1 → Xq mL_law 704 b1 b2 1295 (lL i) [] S1 H1 Q) : Xq mL_law 704 (b1 + 5) (b2 + 764) 1231 (lL i) [] S H Q := by
  have hs := g.1
  obtain ⟨v, c1, c2, q1, q2, t⟩ := tie_undo g (by omega)
  refine xq_bud (b1 := b1 + c1) (b2 := b2 + c2) ?_ (by omega) (by omega)
  refine xq_aload_n dL_law_1231 rfl rfl ?_
  refine xq_callV0G clX10 gd_X10_undo dL_law_1232 ml_RL_155 im_X10_undo se_X10_undo rfl (Fx.s0 hs.1) (by exact Nat.le_of_ble_eq_true rfl) (by decide) t ?_
  rintro r S1 H1 ⟨S2, H2, e, hs1, t1⟩
  cases e
  refine xq_bud (b1 := b1 + 0) (b2 := b2 + 0) ?_ (Nat.le_refl _) (Nat.le_refl _)
  refine xq_aload_n dL_law_1235 rfl rfl ?_
  refine xq_callV0G clX11 gd_X11_undo dL_law_1236 ml_RL_158 im_X11_undo se_X11_undo rfl (Fx.s83 hs1.1) (by exact Nat.le_of_ble_eq_true rfl) (by decide) t1 ?_
  rintro r S3 H3 ⟨H4, e, g4⟩
  cases e
  exact xq_icmp_eq dL_law_1239 rfl ⟨fun _ => kk _ _ g4, fun h => absurd rfl h⟩
theorem lc_keep (g : GI Ls xs i S H) (hi : i < 512) (hl : 6 * i + 6 ≤ Ls) (h3 : Ls ≤ 3072) (kk : ∀ S1 H1, GI Ls xs (i + 1) S1 H1 → Xq mL_law 704 b1 b2 1295 (lL i) [] S1 H1 Q) : Xq mL_law 704 (b1 + 5) (b2 + 764) 1244 (lL i) [] S H Q := by
  have hs := g.1
  obtain ⟨v, c1, c2, q1, q2, t⟩ := tie_keep g (by omega)
  refine xq_bud (b1 := b1 + c1) (b2 := b2 + c2) ?_ (by omega) (by omega)
  refine xq_aload_n dL_law_1244 rfl rfl ?_
  refine xq_callV0G clX10 gd_X10_keep dL_law_1245 ml_RL_159 im_X10_keep se_X10_keep rfl (Fx.s0 hs.1) (by exact Nat.le_of_ble_eq_true rfl) (by decide) t ?_
  rintro r S1 H1 ⟨S2, H2, e, hs1, t1⟩
  cases e
  refine xq_bud (b1 := b1 + 0) (b2 := b2 + 0) ?_ (Nat.le_refl _) (Nat.le_refl _)
  refine xq_aload_n dL_law_1248 rfl rfl ?_
  refine xq_callV0G clX11 gd_X11_keep dL_law_1249 ml_RL_162 im_X11_keep se_X11_keep rfl (Fx.s83 hs1.1) (by exact Nat.le_of_ble_eq_true rfl) (by decide) t1 ?_
  rintro r S3 H3 ⟨H4, e, g4⟩
  cases e
  exact xq_icmp_eq dL_law_1252 rfl ⟨fun _ => kk _ _ g4, fun h => absurd rfl h⟩
theorem lc_back (g : GI Ls xs i S H) (hi : i < 512) (hl : 6 * i + 6 ≤ Ls) (h3 : Ls ≤ 3072) (kk : ∀ S1 H1, GI Ls xs (i + 1) S1 H1 → Xq mL_law 704 b1 b2 1295 (lL i) [] S1 H1 Q) : Xq mL_law 704 (b1 + 5) (b2 + 764) 1257 (lL i) [] S H Q := by
  have hs := g.1
  obtain ⟨v, c1, c2, q1, q2, t⟩ := tie_back g (by omega)
  refine xq_bud (b1 := b1 + c1) (b2 := b2 + c2) ?_ (by omega) (by omega)
  refine xq_aload_n dL_law_1257 rfl rfl ?_
  refine xq_callV0G clX10 gd_X10_back dL_law_1258 ml_RL_163 im_X10_back se_X10_back rfl (Fx.s0 hs.1) (by exact Nat.le_of_ble_eq_true rfl) (by decide) t ?_
  rintro r S1 H1 ⟨S2, H2, e, hs1, t1⟩
  cases e
  refine xq_bud (b1 := b1 + 0) (b2 := b2 + 0) ?_ (Nat.le_refl _) (Nat.le_refl _)
  refine xq_aload_n dL_law_1261 rfl rfl ?_
  refine xq_callV0G clX11 gd_X11_back dL_law_1262 ml_RL_166 im_X11_back se_X11_back rfl (Fx.s83 hs1.1) (by exact Nat.le_of_ble_eq_true rfl) (by decide) t1 ?_
  rintro r S3 H3 ⟨H4, e, g4⟩
  cases e
  exact xq_icmp_eq dL_law_1265 rfl ⟨fun _ => kk _ _ g4, fun h => absurd rfl h⟩
theorem lc_count (g : GI Ls xs i S H) (hi : i < 512) (hl : 6 * i + 6 ≤ Ls) (h3 : Ls ≤ 3072) (kk : ∀ S1 H1, GI Ls xs (i + 1) S1 H1 → Xq mL_law 704 b1 b2 1295 (lL i) [] S1 H1 Q) : Xq mL_law 704 (b1 + 5) (b2 + 764) 1270 (lL i) [] S H Q := by
  have hs := g.1
  obtain ⟨v, t⟩ := tie_count g (by omega) (xs (6 * i + 1))
  refine xq_bud (b1 := b1 + 0) (b2 := b2 + 0) ?_ (by omega) (by omega)
  refine xq_aload_n dL_law_1270 rfl rfl ?_
  refine xq_sload_n dL_law_1271 rfl rfl ?_
  refine xq_iload dL_law_1272 rfl ?_
  refine xq_iconst dL_law_1274 ic1 ?_
  refine xq_iaddN dL_law_1275 ?_
  refine xq_sald dL_law_1276 hs.2.2.1 (by omega) (by omega) (hs.2.2.2.2 (6 * i + 1) (by omega)) ?_
  refine xq_callV1G clX10 gd_X10_count dL_law_1277 ml_RL_167 im_X10_count se_X10_count rfl (Fx.s0 hs.1) (by exact Nat.le_of_ble_eq_true rfl) (by decide) t ?_
  rintro r S1 H1 ⟨S2, H2, e, hs1, t1⟩
  cases e
  refine xq_bud (b1 := b1 + 0) (b2 := b2 + 0) ?_ (Nat.le_refl _) (Nat.le_refl _)
  refine xq_aload_n dL_law_1280 rfl rfl ?_
  refine xq_sload_n dL_law_1281 rfl rfl ?_
  refine xq_iload dL_law_1282 rfl ?_
  refine xq_iconst dL_law_1284 ic1 ?_
  refine xq_iaddN dL_law_1285 ?_
  refine xq_sald dL_law_1286 hs1.2.2.1 (by omega) (by omega) (hs1.2.2.2.2 (6 * i + 1) (by omega)) ?_
  refine xq_callV1G clX11 gd_X11_count dL_law_1287 ml_RL_170 im_X11_count se_X11_count rfl (Fx.s83 hs1.1) (by exact Nat.le_of_ble_eq_true rfl) (by decide) t1 ?_
  rintro r S3 H3 ⟨H4, e, g4⟩
  cases e
  exact xq_icmp_eq dL_law_1290 rfl ⟨fun _ => kk _ _ g4, fun h => absurd rfl h⟩
end LWC
