-- each case of the law's switch: by program (wip/whole/gen65.py)
set_option maxRecDepth 20000 in
theorem lc_0 {G : GG} {b L : Nat} {xs : Nat → Int32} {i : Nat} (hL : L ≤ 4608) (hi : i + 9 ≤ L) {f : Nat → Nat → Nat} {l : Nat → Nat → Int64} (hJ : JJ f l) (hc : ∀ f l, JJ f l → Pm G RL cL_law 4 (KLw G b L xs) 1370 [some (.ref b), some (.ref (ad G 0)), some (.ref (ad G 86)), some (.int (nI i))] [] f l) : Pm G RL cL_law 4 (KLw G b L xs) 188 [some (.ref b), some (.ref (ad G 0)), some (.ref (ad G 86)), some (.int (nI i))] [] f l := by
  show Pm G RL cL_law 4 (KLw G b L xs) 188 [some (.ref b), some (.ref (ad G 0)), some (.ref (ad G 86)), some (.int (nI i))] [] f l
  refine P.aload_n dL_law_188 rfl rfl ?_
  refine P.aload_n dL_law_189 rfl rfl ?_
  refine P.iload_n dL_law_190 rfl rfl ?_
  refine P.iconst dL_law_191 ic_1 ?_
  refine P.iadd_n dL_law_192 (nI_add _ _) ?_
  refine P.sld (i := (i + 1)) (by omega) hL dL_law_193 ?_
  refine P.aload_n dL_law_194 rfl rfl ?_
  refine P.iload_n dL_law_195 rfl rfl ?_
  refine P.iconst dL_law_196 ic_2 ?_
  refine P.iadd_n dL_law_197 (nI_add _ _) ?_
  refine P.sld (i := (i + 2)) (by omega) hL dL_law_198 ?_
  refine P.aload_n dL_law_199 rfl rfl ?_
  refine P.iload_n dL_law_200 rfl rfl ?_
  refine P.iconst dL_law_201 ic_3 ?_
  refine P.iadd_n dL_law_202 (nI_add _ _) ?_
  refine P.sld (i := (i + 3)) (by omega) hL dL_law_203 ?_
  obtain ⟨rv, ⟨z, rfl⟩, Q, hk, hq⟩ := pr_table (G := G) ((xs (i + 1))) ((xs (i + 2))) ((xs (i + 3))) f l hJ
  refine P.callVX (As := [.int (xs (i + 1)), .int (xs (i + 2)), .int (xs (i + 3))]) (rest := []) hk ok_X9_table (fit_lw (by decide) (Nat.le_refl _)) rfl ml_L_13 ly_0 (by decide) (by decide) rfl rfl (Nat.le_of_ble_eq_true rfl) dL_law_204 (fun r f1 l1 hp => ?_)
  obtain ⟨rfl, hQ⟩ := hp
  show Pm G RL cL_law 4 (KLw G b L xs) 207 [some (.ref b), some (.ref (ad G 0)), some (.ref (ad G 86)), some (.int (nI i))] [.int z] f1 l1
  refine P.aload_n dL_law_207 rfl rfl ?_
  refine P.aload_n dL_law_208 rfl rfl ?_
  refine P.iload_n dL_law_209 rfl rfl ?_
  refine P.iconst dL_law_210 ic_1 ?_
  refine P.iadd_n dL_law_211 (nI_add _ _) ?_
  refine P.sld (i := (i + 1)) (by omega) hL dL_law_212 ?_
  refine P.aload_n dL_law_213 rfl rfl ?_
  refine P.iload_n dL_law_214 rfl rfl ?_
  refine P.iconst dL_law_215 ic_2 ?_
  refine P.iadd_n dL_law_216 (nI_add _ _) ?_
  refine P.sld (i := (i + 2)) (by omega) hL dL_law_217 ?_
  refine P.aload_n dL_law_218 rfl rfl ?_
  refine P.iload_n dL_law_219 rfl rfl ?_
  refine P.iconst dL_law_220 ic_3 ?_
  refine P.iadd_n dL_law_221 (nI_add _ _) ?_
  refine P.sld (i := (i + 3)) (by omega) hL dL_law_222 ?_
  refine P.callVX (As := [.int (xs (i + 1)), .int (xs (i + 2)), .int (xs (i + 3))]) (rest := [.int z]) (hq f1 l1 hQ) ok_X10_table (fit_lw (by decide) (Nat.le_refl _)) rfl ml_L_17 ly_86 (by decide) (by decide) rfl rfl (Nat.le_of_ble_eq_true rfl) dL_law_223 (fun r f2 l2 hp => ?_)
  obtain ⟨rfl, hJ2⟩ := hp
  show Pm G RL cL_law 4 (KLw G b L xs) 226 [some (.ref b), some (.ref (ad G 0)), some (.ref (ad G 86)), some (.int (nI i))] [.int z, .int z] f2 l2
  exact P.icmp_eq (tgt := 1370) dL_law_226 (by decide) (fun _ => hc f2 l2 hJ2) (fun h => absurd rfl h)
set_option maxRecDepth 20000 in
theorem lc_1 {G : GG} {b L : Nat} {xs : Nat → Int32} {i : Nat} (hL : L ≤ 4608) (hi : i + 9 ≤ L) {f : Nat → Nat → Nat} {l : Nat → Nat → Int64} (hJ : JJ f l) (hc : ∀ f l, JJ f l → Pm G RL cL_law 4 (KLw G b L xs) 1370 [some (.ref b), some (.ref (ad G 0)), some (.ref (ad G 86)), some (.int (nI i))] [] f l) : Pm G RL cL_law 4 (KLw G b L xs) 231 [some (.ref b), some (.ref (ad G 0)), some (.ref (ad G 86)), some (.int (nI i))] [] f l := by
  show Pm G RL cL_law 4 (KLw G b L xs) 231 [some (.ref b), some (.ref (ad G 0)), some (.ref (ad G 86)), some (.int (nI i))] [] f l
  refine P.aload_n dL_law_231 rfl rfl ?_
  refine P.aload_n dL_law_232 rfl rfl ?_
  refine P.iload_n dL_law_233 rfl rfl ?_
  refine P.iconst dL_law_234 ic_1 ?_
  refine P.iadd_n dL_law_235 (nI_add _ _) ?_
  refine P.sld (i := (i + 1)) (by omega) hL dL_law_236 ?_
  refine P.aload_n dL_law_237 rfl rfl ?_
  refine P.iload_n dL_law_238 rfl rfl ?_
  refine P.iconst dL_law_239 ic_2 ?_
  refine P.iadd_n dL_law_240 (nI_add _ _) ?_
  refine P.sld (i := (i + 2)) (by omega) hL dL_law_241 ?_
  obtain ⟨rv, ⟨z, rfl⟩, Q, hk, hq⟩ := pr_row (G := G) ((xs (i + 1))) ((xs (i + 2))) f l hJ
  refine P.callVX (As := [.int (xs (i + 1)), .int (xs (i + 2))]) (rest := []) hk ok_X9_row (fit_lw (by decide) (Nat.le_refl _)) rfl ml_L_18 ly_0 (by decide) (by decide) rfl rfl (Nat.le_of_ble_eq_true rfl) dL_law_242 (fun r f1 l1 hp => ?_)
  obtain ⟨rfl, hQ⟩ := hp
  show Pm G RL cL_law 4 (KLw G b L xs) 245 [some (.ref b), some (.ref (ad G 0)), some (.ref (ad G 86)), some (.int (nI i))] [.int z] f1 l1
  refine P.aload_n dL_law_245 rfl rfl ?_
  refine P.aload_n dL_law_246 rfl rfl ?_
  refine P.iload_n dL_law_247 rfl rfl ?_
  refine P.iconst dL_law_248 ic_1 ?_
  refine P.iadd_n dL_law_249 (nI_add _ _) ?_
  refine P.sld (i := (i + 1)) (by omega) hL dL_law_250 ?_
  refine P.aload_n dL_law_251 rfl rfl ?_
  refine P.iload_n dL_law_252 rfl rfl ?_
  refine P.iconst dL_law_253 ic_2 ?_
  refine P.iadd_n dL_law_254 (nI_add _ _) ?_
  refine P.sld (i := (i + 2)) (by omega) hL dL_law_255 ?_
  refine P.callVX (As := [.int (xs (i + 1)), .int (xs (i + 2))]) (rest := [.int z]) (hq f1 l1 hQ) ok_X10_row (fit_lw (by decide) (Nat.le_refl _)) rfl ml_L_22 ly_86 (by decide) (by decide) rfl rfl (Nat.le_of_ble_eq_true rfl) dL_law_256 (fun r f2 l2 hp => ?_)
  obtain ⟨rfl, hJ2⟩ := hp
  show Pm G RL cL_law 4 (KLw G b L xs) 259 [some (.ref b), some (.ref (ad G 0)), some (.ref (ad G 86)), some (.int (nI i))] [.int z, .int z] f2 l2
  exact P.icmp_eq (tgt := 1370) dL_law_259 (by decide) (fun _ => hc f2 l2 hJ2) (fun h => absurd rfl h)
set_option maxRecDepth 20000 in
theorem lc_2 {G : GG} {b L : Nat} {xs : Nat → Int32} {i : Nat} (hL : L ≤ 4608) (hi : i + 9 ≤ L) {f : Nat → Nat → Nat} {l : Nat → Nat → Int64} (hJ : JJ f l) (hc : ∀ f l, JJ f l → Pm G RL cL_law 4 (KLw G b L xs) 1370 [some (.ref b), some (.ref (ad G 0)), some (.ref (ad G 86)), some (.int (nI i))] [] f l) : Pm G RL cL_law 4 (KLw G b L xs) 264 [some (.ref b), some (.ref (ad G 0)), some (.ref (ad G 86)), some (.int (nI i))] [] f l := by
  show Pm G RL cL_law 4 (KLw G b L xs) 264 [some (.ref b), some (.ref (ad G 0)), some (.ref (ad G 86)), some (.int (nI i))] [] f l
  refine P.aload_n dL_law_264 rfl rfl ?_
  refine P.aload_n dL_law_265 rfl rfl ?_
  refine P.iload_n dL_law_266 rfl rfl ?_
  refine P.iconst dL_law_267 ic_1 ?_
  refine P.iadd_n dL_law_268 (nI_add _ _) ?_
  refine P.sld (i := (i + 1)) (by omega) hL dL_law_269 ?_
  refine P.aload_n dL_law_270 rfl rfl ?_
  refine P.iload_n dL_law_271 rfl rfl ?_
  refine P.iconst dL_law_272 ic_2 ?_
  refine P.iadd_n dL_law_273 (nI_add _ _) ?_
  refine P.sld (i := (i + 2)) (by omega) hL dL_law_274 ?_
  refine P.aload_n dL_law_275 rfl rfl ?_
  refine P.iload_n dL_law_276 rfl rfl ?_
  refine P.iconst dL_law_277 ic_3 ?_
  refine P.iadd_n dL_law_278 (nI_add _ _) ?_
  refine P.sld (i := (i + 3)) (by omega) hL dL_law_279 ?_
  refine P.i2l dL_law_280 rfl ?_
  refine P.bipush (v := nI 32) dL_law_281 rfl ?_
  refine P.lshl dL_law_283 rfl ?_
  refine P.aload_n dL_law_284 rfl rfl ?_
  refine P.iload_n dL_law_285 rfl rfl ?_
  refine P.iconst dL_law_286 ic_4 ?_
  refine P.iadd_n dL_law_287 (nI_add _ _) ?_
  refine P.sld (i := (i + 4)) (by omega) hL dL_law_288 ?_
  refine P.i2l dL_law_289 rfl ?_
  refine P.ldc2 dL_law_290 co_L_23 ?_
  refine P.land dL_law_293 ?_
  refine P.lor dL_law_294 ?_
  obtain ⟨rv, ⟨z, rfl⟩, Q, hk, hq⟩ := pr_put (G := G) ((xs (i + 1))) ((xs (i + 2))) (((((xs (i + 3)).toInt64) <<< ((nI 32).toInt64 &&& 63)) ||| (((xs (i + 4)).toInt64) &&& (4294967295)))) f l hJ
  refine P.callVX (As := [.int (xs (i + 1)), .int (xs (i + 2)), .long ((((xs (i + 3)).toInt64) <<< ((nI 32).toInt64 &&& 63)) ||| (((xs (i + 4)).toInt64) &&& (4294967295)))]) (rest := []) hk ok_X9_put (fit_lw (by decide) (Nat.le_refl _)) rfl ml_L_25 ly_0 (by decide) (by decide) rfl rfl (Nat.le_of_ble_eq_true rfl) dL_law_295 (fun r f1 l1 hp => ?_)
  obtain ⟨rfl, hQ⟩ := hp
  show Pm G RL cL_law 4 (KLw G b L xs) 298 [some (.ref b), some (.ref (ad G 0)), some (.ref (ad G 86)), some (.int (nI i))] [.int z] f1 l1
  refine P.aload_n dL_law_298 rfl rfl ?_
  refine P.aload_n dL_law_299 rfl rfl ?_
  refine P.iload_n dL_law_300 rfl rfl ?_
  refine P.iconst dL_law_301 ic_1 ?_
  refine P.iadd_n dL_law_302 (nI_add _ _) ?_
  refine P.sld (i := (i + 1)) (by omega) hL dL_law_303 ?_
  refine P.aload_n dL_law_304 rfl rfl ?_
  refine P.iload_n dL_law_305 rfl rfl ?_
  refine P.iconst dL_law_306 ic_2 ?_
  refine P.iadd_n dL_law_307 (nI_add _ _) ?_
  refine P.sld (i := (i + 2)) (by omega) hL dL_law_308 ?_
  refine P.aload_n dL_law_309 rfl rfl ?_
  refine P.iload_n dL_law_310 rfl rfl ?_
  refine P.iconst dL_law_311 ic_3 ?_
  refine P.iadd_n dL_law_312 (nI_add _ _) ?_
  refine P.sld (i := (i + 3)) (by omega) hL dL_law_313 ?_
  refine P.i2l dL_law_314 rfl ?_
  refine P.bipush (v := nI 32) dL_law_315 rfl ?_
  refine P.lshl dL_law_317 rfl ?_
  refine P.aload_n dL_law_318 rfl rfl ?_
  refine P.iload_n dL_law_319 rfl rfl ?_
  refine P.iconst dL_law_320 ic_4 ?_
  refine P.iadd_n dL_law_321 (nI_add _ _) ?_
  refine P.sld (i := (i + 4)) (by omega) hL dL_law_322 ?_
  refine P.i2l dL_law_323 rfl ?_
  refine P.ldc2 dL_law_324 co_L_23 ?_
  refine P.land dL_law_327 ?_
  refine P.lor dL_law_328 ?_
  refine P.callVX (As := [.int (xs (i + 1)), .int (xs (i + 2)), .long ((((xs (i + 3)).toInt64) <<< ((nI 32).toInt64 &&& 63)) ||| (((xs (i + 4)).toInt64) &&& (4294967295)))]) (rest := [.int z]) (hq f1 l1 hQ) ok_X10_put (fit_lw (by decide) (Nat.le_refl _)) rfl ml_L_29 ly_86 (by decide) (by decide) rfl rfl (Nat.le_of_ble_eq_true rfl) dL_law_329 (fun r f2 l2 hp => ?_)
  obtain ⟨rfl, hJ2⟩ := hp
  show Pm G RL cL_law 4 (KLw G b L xs) 332 [some (.ref b), some (.ref (ad G 0)), some (.ref (ad G 86)), some (.int (nI i))] [.int z, .int z] f2 l2
  exact P.icmp_eq (tgt := 1370) dL_law_332 (by decide) (fun _ => hc f2 l2 hJ2) (fun h => absurd rfl h)
set_option maxRecDepth 20000 in
theorem lc_3 {G : GG} {b L : Nat} {xs : Nat → Int32} {i : Nat} (hL : L ≤ 4608) (hi : i + 9 ≤ L) {f : Nat → Nat → Nat} {l : Nat → Nat → Int64} (hJ : JJ f l) (hc : ∀ f l, JJ f l → Pm G RL cL_law 4 (KLw G b L xs) 1370 [some (.ref b), some (.ref (ad G 0)), some (.ref (ad G 86)), some (.int (nI i))] [] f l) : Pm G RL cL_law 4 (KLw G b L xs) 337 [some (.ref b), some (.ref (ad G 0)), some (.ref (ad G 86)), some (.int (nI i))] [] f l := by
  show Pm G RL cL_law 4 (KLw G b L xs) 337 [some (.ref b), some (.ref (ad G 0)), some (.ref (ad G 86)), some (.int (nI i))] [] f l
  refine P.aload_n dL_law_337 rfl rfl ?_
  refine P.aload_n dL_law_338 rfl rfl ?_
  refine P.iload_n dL_law_339 rfl rfl ?_
  refine P.iconst dL_law_340 ic_1 ?_
  refine P.iadd_n dL_law_341 (nI_add _ _) ?_
  refine P.sld (i := (i + 1)) (by omega) hL dL_law_342 ?_
  refine P.aload_n dL_law_343 rfl rfl ?_
  refine P.iload_n dL_law_344 rfl rfl ?_
  refine P.iconst dL_law_345 ic_2 ?_
  refine P.iadd_n dL_law_346 (nI_add _ _) ?_
  refine P.sld (i := (i + 2)) (by omega) hL dL_law_347 ?_
  obtain ⟨rv, ⟨z, rfl⟩, Q, hk, hq⟩ := pr_miss (G := G) ((xs (i + 1))) ((xs (i + 2))) f l hJ
  refine P.callVX (As := [.int (xs (i + 1)), .int (xs (i + 2))]) (rest := []) hk ok_X9_miss (fit_lw (by decide) (Nat.le_refl _)) rfl ml_L_30 ly_0 (by decide) (by decide) rfl rfl (Nat.le_of_ble_eq_true rfl) dL_law_348 (fun r f1 l1 hp => ?_)
  obtain ⟨rfl, hQ⟩ := hp
  show Pm G RL cL_law 4 (KLw G b L xs) 351 [some (.ref b), some (.ref (ad G 0)), some (.ref (ad G 86)), some (.int (nI i))] [.int z] f1 l1
  refine P.aload_n dL_law_351 rfl rfl ?_
  refine P.aload_n dL_law_352 rfl rfl ?_
  refine P.iload_n dL_law_353 rfl rfl ?_
  refine P.iconst dL_law_354 ic_1 ?_
  refine P.iadd_n dL_law_355 (nI_add _ _) ?_
  refine P.sld (i := (i + 1)) (by omega) hL dL_law_356 ?_
  refine P.aload_n dL_law_357 rfl rfl ?_
  refine P.iload_n dL_law_358 rfl rfl ?_
  refine P.iconst dL_law_359 ic_2 ?_
  refine P.iadd_n dL_law_360 (nI_add _ _) ?_
  refine P.sld (i := (i + 2)) (by omega) hL dL_law_361 ?_
  refine P.callVX (As := [.int (xs (i + 1)), .int (xs (i + 2))]) (rest := [.int z]) (hq f1 l1 hQ) ok_X10_miss (fit_lw (by decide) (Nat.le_refl _)) rfl ml_L_33 ly_86 (by decide) (by decide) rfl rfl (Nat.le_of_ble_eq_true rfl) dL_law_362 (fun r f2 l2 hp => ?_)
  obtain ⟨rfl, hJ2⟩ := hp
  show Pm G RL cL_law 4 (KLw G b L xs) 365 [some (.ref b), some (.ref (ad G 0)), some (.ref (ad G 86)), some (.int (nI i))] [.int z, .int z] f2 l2
  exact P.icmp_eq (tgt := 1370) dL_law_365 (by decide) (fun _ => hc f2 l2 hJ2) (fun h => absurd rfl h)
set_option maxRecDepth 20000 in
theorem lc_4 {G : GG} {b L : Nat} {xs : Nat → Int32} {i : Nat} (hL : L ≤ 4608) (hi : i + 9 ≤ L) {f : Nat → Nat → Nat} {l : Nat → Nat → Int64} (hJ : JJ f l) (hc : ∀ f l, JJ f l → Pm G RL cL_law 4 (KLw G b L xs) 1370 [some (.ref b), some (.ref (ad G 0)), some (.ref (ad G 86)), some (.int (nI i))] [] f l) : Pm G RL cL_law 4 (KLw G b L xs) 370 [some (.ref b), some (.ref (ad G 0)), some (.ref (ad G 86)), some (.int (nI i))] [] f l := by
  show Pm G RL cL_law 4 (KLw G b L xs) 370 [some (.ref b), some (.ref (ad G 0)), some (.ref (ad G 86)), some (.int (nI i))] [] f l
  refine P.aload_n dL_law_370 rfl rfl ?_
  refine P.aload_n dL_law_371 rfl rfl ?_
  refine P.iload_n dL_law_372 rfl rfl ?_
  refine P.iconst dL_law_373 ic_1 ?_
  refine P.iadd_n dL_law_374 (nI_add _ _) ?_
  refine P.sld (i := (i + 1)) (by omega) hL dL_law_375 ?_
  refine P.aload_n dL_law_376 rfl rfl ?_
  refine P.iload_n dL_law_377 rfl rfl ?_
  refine P.iconst dL_law_378 ic_2 ?_
  refine P.iadd_n dL_law_379 (nI_add _ _) ?_
  refine P.sld (i := (i + 2)) (by omega) hL dL_law_380 ?_
  obtain ⟨rv, ⟨z, rfl⟩, Q, hk, hq⟩ := pr_has (G := G) ((xs (i + 1))) ((xs (i + 2))) f l hJ
  refine P.callVX (As := [.int (xs (i + 1)), .int (xs (i + 2))]) (rest := []) hk ok_X9_has (fit_lw (by decide) (Nat.le_refl _)) rfl ml_L_34 ly_0 (by decide) (by decide) rfl rfl (Nat.le_of_ble_eq_true rfl) dL_law_381 (fun r f1 l1 hp => ?_)
  obtain ⟨rfl, hQ⟩ := hp
  show Pm G RL cL_law 4 (KLw G b L xs) 384 [some (.ref b), some (.ref (ad G 0)), some (.ref (ad G 86)), some (.int (nI i))] [.int z] f1 l1
  refine P.aload_n dL_law_384 rfl rfl ?_
  refine P.aload_n dL_law_385 rfl rfl ?_
  refine P.iload_n dL_law_386 rfl rfl ?_
  refine P.iconst dL_law_387 ic_1 ?_
  refine P.iadd_n dL_law_388 (nI_add _ _) ?_
  refine P.sld (i := (i + 1)) (by omega) hL dL_law_389 ?_
  refine P.aload_n dL_law_390 rfl rfl ?_
  refine P.iload_n dL_law_391 rfl rfl ?_
  refine P.iconst dL_law_392 ic_2 ?_
  refine P.iadd_n dL_law_393 (nI_add _ _) ?_
  refine P.sld (i := (i + 2)) (by omega) hL dL_law_394 ?_
  refine P.callVX (As := [.int (xs (i + 1)), .int (xs (i + 2))]) (rest := [.int z]) (hq f1 l1 hQ) ok_X10_has (fit_lw (by decide) (Nat.le_refl _)) rfl ml_L_37 ly_86 (by decide) (by decide) rfl rfl (Nat.le_of_ble_eq_true rfl) dL_law_395 (fun r f2 l2 hp => ?_)
  obtain ⟨rfl, hJ2⟩ := hp
  show Pm G RL cL_law 4 (KLw G b L xs) 398 [some (.ref b), some (.ref (ad G 0)), some (.ref (ad G 86)), some (.int (nI i))] [.int z, .int z] f2 l2
  exact P.icmp_eq (tgt := 1370) dL_law_398 (by decide) (fun _ => hc f2 l2 hJ2) (fun h => absurd rfl h)
set_option maxRecDepth 20000 in
theorem lc_5 {G : GG} {b L : Nat} {xs : Nat → Int32} {i : Nat} (hL : L ≤ 4608) (hi : i + 9 ≤ L) {f : Nat → Nat → Nat} {l : Nat → Nat → Int64} (hJ : JJ f l) (hc : ∀ f l, JJ f l → Pm G RL cL_law 4 (KLw G b L xs) 1370 [some (.ref b), some (.ref (ad G 0)), some (.ref (ad G 86)), some (.int (nI i))] [] f l) : Pm G RL cL_law 4 (KLw G b L xs) 403 [some (.ref b), some (.ref (ad G 0)), some (.ref (ad G 86)), some (.int (nI i))] [] f l := by
  show Pm G RL cL_law 4 (KLw G b L xs) 403 [some (.ref b), some (.ref (ad G 0)), some (.ref (ad G 86)), some (.int (nI i))] [] f l
  refine P.aload_n dL_law_403 rfl rfl ?_
  refine P.aload_n dL_law_404 rfl rfl ?_
  refine P.iload_n dL_law_405 rfl rfl ?_
  refine P.iconst dL_law_406 ic_1 ?_
  refine P.iadd_n dL_law_407 (nI_add _ _) ?_
  refine P.sld (i := (i + 1)) (by omega) hL dL_law_408 ?_
  refine P.aload_n dL_law_409 rfl rfl ?_
  refine P.iload_n dL_law_410 rfl rfl ?_
  refine P.iconst dL_law_411 ic_2 ?_
  refine P.iadd_n dL_law_412 (nI_add _ _) ?_
  refine P.sld (i := (i + 2)) (by omega) hL dL_law_413 ?_
  obtain ⟨rv, ⟨z, rfl⟩, Q, hk, hq⟩ := pr_cell (G := G) ((xs (i + 1))) ((xs (i + 2))) f l hJ
  refine P.callVX (As := [.int (xs (i + 1)), .int (xs (i + 2))]) (rest := []) hk ok_X9_cell (fit_lw (by decide) (Nat.le_refl _)) rfl ml_L_38 ly_0 (by decide) (by decide) rfl rfl (Nat.le_of_ble_eq_true rfl) dL_law_414 (fun r f1 l1 hp => ?_)
  obtain ⟨rfl, hQ⟩ := hp
  show Pm G RL cL_law 4 (KLw G b L xs) 417 [some (.ref b), some (.ref (ad G 0)), some (.ref (ad G 86)), some (.int (nI i))] [.long z] f1 l1
  refine P.aload_n dL_law_417 rfl rfl ?_
  refine P.aload_n dL_law_418 rfl rfl ?_
  refine P.iload_n dL_law_419 rfl rfl ?_
  refine P.iconst dL_law_420 ic_1 ?_
  refine P.iadd_n dL_law_421 (nI_add _ _) ?_
  refine P.sld (i := (i + 1)) (by omega) hL dL_law_422 ?_
  refine P.aload_n dL_law_423 rfl rfl ?_
  refine P.iload_n dL_law_424 rfl rfl ?_
  refine P.iconst dL_law_425 ic_2 ?_
  refine P.iadd_n dL_law_426 (nI_add _ _) ?_
  refine P.sld (i := (i + 2)) (by omega) hL dL_law_427 ?_
  refine P.callVX (As := [.int (xs (i + 1)), .int (xs (i + 2))]) (rest := [.long z]) (hq f1 l1 hQ) ok_X10_cell (fit_lw (by decide) (Nat.le_refl _)) rfl ml_L_42 ly_86 (by decide) (by decide) rfl rfl (Nat.le_of_ble_eq_true rfl) dL_law_428 (fun r f2 l2 hp => ?_)
  obtain ⟨rfl, hJ2⟩ := hp
  show Pm G RL cL_law 4 (KLw G b L xs) 431 [some (.ref b), some (.ref (ad G 0)), some (.ref (ad G 86)), some (.int (nI i))] [.long z, .long z] f2 l2
  exact P.lc_eq (tgt := 1370) dL_law_431 dL_law_432 (by decide) (fun _ => hc f2 l2 hJ2) (fun h => absurd rfl h)
set_option maxRecDepth 20000 in
theorem lc_6 {G : GG} {b L : Nat} {xs : Nat → Int32} {i : Nat} (hL : L ≤ 4608) (hi : i + 9 ≤ L) {f : Nat → Nat → Nat} {l : Nat → Nat → Int64} (hJ : JJ f l) (hc : ∀ f l, JJ f l → Pm G RL cL_law 4 (KLw G b L xs) 1370 [some (.ref b), some (.ref (ad G 0)), some (.ref (ad G 86)), some (.int (nI i))] [] f l) : Pm G RL cL_law 4 (KLw G b L xs) 437 [some (.ref b), some (.ref (ad G 0)), some (.ref (ad G 86)), some (.int (nI i))] [] f l := by
  show Pm G RL cL_law 4 (KLw G b L xs) 437 [some (.ref b), some (.ref (ad G 0)), some (.ref (ad G 86)), some (.int (nI i))] [] f l
  refine P.aload_n dL_law_437 rfl rfl ?_
  refine P.aload_n dL_law_438 rfl rfl ?_
  refine P.iload_n dL_law_439 rfl rfl ?_
  refine P.iconst dL_law_440 ic_1 ?_
  refine P.iadd_n dL_law_441 (nI_add _ _) ?_
  refine P.sld (i := (i + 1)) (by omega) hL dL_law_442 ?_
  refine P.aload_n dL_law_443 rfl rfl ?_
  refine P.iload_n dL_law_444 rfl rfl ?_
  refine P.iconst dL_law_445 ic_2 ?_
  refine P.iadd_n dL_law_446 (nI_add _ _) ?_
  refine P.sld (i := (i + 2)) (by omega) hL dL_law_447 ?_
  refine P.aload_n dL_law_448 rfl rfl ?_
  refine P.iload_n dL_law_449 rfl rfl ?_
  refine P.iconst dL_law_450 ic_3 ?_
  refine P.iadd_n dL_law_451 (nI_add _ _) ?_
  refine P.sld (i := (i + 3)) (by omega) hL dL_law_452 ?_
  obtain ⟨rv, ⟨z, rfl⟩, Q, hk, hq⟩ := pr_column (G := G) ((xs (i + 1))) ((xs (i + 2))) ((xs (i + 3))) f l hJ
  refine P.callVX (As := [.int (xs (i + 1)), .int (xs (i + 2)), .int (xs (i + 3))]) (rest := []) hk ok_X9_column (fit_lw (by decide) (Nat.le_refl _)) rfl ml_L_43 ly_0 (by decide) (by decide) rfl rfl (Nat.le_of_ble_eq_true rfl) dL_law_453 (fun r f1 l1 hp => ?_)
  obtain ⟨rfl, hQ⟩ := hp
  show Pm G RL cL_law 4 (KLw G b L xs) 456 [some (.ref b), some (.ref (ad G 0)), some (.ref (ad G 86)), some (.int (nI i))] [.int z] f1 l1
  refine P.aload_n dL_law_456 rfl rfl ?_
  refine P.aload_n dL_law_457 rfl rfl ?_
  refine P.iload_n dL_law_458 rfl rfl ?_
  refine P.iconst dL_law_459 ic_1 ?_
  refine P.iadd_n dL_law_460 (nI_add _ _) ?_
  refine P.sld (i := (i + 1)) (by omega) hL dL_law_461 ?_
  refine P.aload_n dL_law_462 rfl rfl ?_
  refine P.iload_n dL_law_463 rfl rfl ?_
  refine P.iconst dL_law_464 ic_2 ?_
  refine P.iadd_n dL_law_465 (nI_add _ _) ?_
  refine P.sld (i := (i + 2)) (by omega) hL dL_law_466 ?_
  refine P.aload_n dL_law_467 rfl rfl ?_
  refine P.iload_n dL_law_468 rfl rfl ?_
  refine P.iconst dL_law_469 ic_3 ?_
  refine P.iadd_n dL_law_470 (nI_add _ _) ?_
  refine P.sld (i := (i + 3)) (by omega) hL dL_law_471 ?_
  refine P.callVX (As := [.int (xs (i + 1)), .int (xs (i + 2)), .int (xs (i + 3))]) (rest := [.int z]) (hq f1 l1 hQ) ok_X10_column (fit_lw (by decide) (Nat.le_refl _)) rfl ml_L_46 ly_86 (by decide) (by decide) rfl rfl (Nat.le_of_ble_eq_true rfl) dL_law_472 (fun r f2 l2 hp => ?_)
  obtain ⟨rfl, hJ2⟩ := hp
  show Pm G RL cL_law 4 (KLw G b L xs) 475 [some (.ref b), some (.ref (ad G 0)), some (.ref (ad G 86)), some (.int (nI i))] [.int z, .int z] f2 l2
  exact P.icmp_eq (tgt := 1370) dL_law_475 (by decide) (fun _ => hc f2 l2 hJ2) (fun h => absurd rfl h)
set_option maxRecDepth 20000 in
theorem lc_7 {G : GG} {b L : Nat} {xs : Nat → Int32} {i : Nat} (hL : L ≤ 4608) (hi : i + 9 ≤ L) {f : Nat → Nat → Nat} {l : Nat → Nat → Int64} (hJ : JJ f l) (hc : ∀ f l, JJ f l → Pm G RL cL_law 4 (KLw G b L xs) 1370 [some (.ref b), some (.ref (ad G 0)), some (.ref (ad G 86)), some (.int (nI i))] [] f l) : Pm G RL cL_law 4 (KLw G b L xs) 480 [some (.ref b), some (.ref (ad G 0)), some (.ref (ad G 86)), some (.int (nI i))] [] f l := by
  show Pm G RL cL_law 4 (KLw G b L xs) 480 [some (.ref b), some (.ref (ad G 0)), some (.ref (ad G 86)), some (.int (nI i))] [] f l
  refine P.aload_n dL_law_480 rfl rfl ?_
  refine P.aload_n dL_law_481 rfl rfl ?_
  refine P.iload_n dL_law_482 rfl rfl ?_
  refine P.iconst dL_law_483 ic_1 ?_
  refine P.iadd_n dL_law_484 (nI_add _ _) ?_
  refine P.sld (i := (i + 1)) (by omega) hL dL_law_485 ?_
  refine P.aload_n dL_law_486 rfl rfl ?_
  refine P.iload_n dL_law_487 rfl rfl ?_
  refine P.iconst dL_law_488 ic_2 ?_
  refine P.iadd_n dL_law_489 (nI_add _ _) ?_
  refine P.sld (i := (i + 2)) (by omega) hL dL_law_490 ?_
  obtain ⟨rv, ⟨z, rfl⟩, Q, hk, hq⟩ := pr_trust (G := G) ((xs (i + 1))) ((xs (i + 2))) f l hJ
  refine P.callVX (As := [.int (xs (i + 1)), .int (xs (i + 2))]) (rest := []) hk ok_X9_trust (fit_lw (by decide) (Nat.le_refl _)) rfl ml_L_47 ly_0 (by decide) (by decide) rfl rfl (Nat.le_of_ble_eq_true rfl) dL_law_491 (fun r f1 l1 hp => ?_)
  obtain ⟨rfl, hQ⟩ := hp
  show Pm G RL cL_law 4 (KLw G b L xs) 494 [some (.ref b), some (.ref (ad G 0)), some (.ref (ad G 86)), some (.int (nI i))] [.int z] f1 l1
  refine P.aload_n dL_law_494 rfl rfl ?_
  refine P.aload_n dL_law_495 rfl rfl ?_
  refine P.iload_n dL_law_496 rfl rfl ?_
  refine P.iconst dL_law_497 ic_1 ?_
  refine P.iadd_n dL_law_498 (nI_add _ _) ?_
  refine P.sld (i := (i + 1)) (by omega) hL dL_law_499 ?_
  refine P.aload_n dL_law_500 rfl rfl ?_
  refine P.iload_n dL_law_501 rfl rfl ?_
  refine P.iconst dL_law_502 ic_2 ?_
  refine P.iadd_n dL_law_503 (nI_add _ _) ?_
  refine P.sld (i := (i + 2)) (by omega) hL dL_law_504 ?_
  refine P.callVX (As := [.int (xs (i + 1)), .int (xs (i + 2))]) (rest := [.int z]) (hq f1 l1 hQ) ok_X10_trust (fit_lw (by decide) (Nat.le_refl _)) rfl ml_L_50 ly_86 (by decide) (by decide) rfl rfl (Nat.le_of_ble_eq_true rfl) dL_law_505 (fun r f2 l2 hp => ?_)
  obtain ⟨rfl, hJ2⟩ := hp
  show Pm G RL cL_law 4 (KLw G b L xs) 508 [some (.ref b), some (.ref (ad G 0)), some (.ref (ad G 86)), some (.int (nI i))] [.int z, .int z] f2 l2
  exact P.icmp_eq (tgt := 1370) dL_law_508 (by decide) (fun _ => hc f2 l2 hJ2) (fun h => absurd rfl h)
set_option maxRecDepth 20000 in
theorem lc_8 {G : GG} {b L : Nat} {xs : Nat → Int32} {i : Nat} (hL : L ≤ 4608) (hi : i + 9 ≤ L) {f : Nat → Nat → Nat} {l : Nat → Nat → Int64} (hJ : JJ f l) (hc : ∀ f l, JJ f l → Pm G RL cL_law 4 (KLw G b L xs) 1370 [some (.ref b), some (.ref (ad G 0)), some (.ref (ad G 86)), some (.int (nI i))] [] f l) : Pm G RL cL_law 4 (KLw G b L xs) 513 [some (.ref b), some (.ref (ad G 0)), some (.ref (ad G 86)), some (.int (nI i))] [] f l := by
  show Pm G RL cL_law 4 (KLw G b L xs) 513 [some (.ref b), some (.ref (ad G 0)), some (.ref (ad G 86)), some (.int (nI i))] [] f l
  refine P.aload_n dL_law_513 rfl rfl ?_
  refine P.aload_n dL_law_514 rfl rfl ?_
  refine P.iload_n dL_law_515 rfl rfl ?_
  refine P.iconst dL_law_516 ic_1 ?_
  refine P.iadd_n dL_law_517 (nI_add _ _) ?_
  refine P.sld (i := (i + 1)) (by omega) hL dL_law_518 ?_
  refine P.aload_n dL_law_519 rfl rfl ?_
  refine P.iload_n dL_law_520 rfl rfl ?_
  refine P.iconst dL_law_521 ic_2 ?_
  refine P.iadd_n dL_law_522 (nI_add _ _) ?_
  refine P.sld (i := (i + 2)) (by omega) hL dL_law_523 ?_
  refine P.if_eq (tgt := 531) dL_law_524 (by decide) (fun hb => ?_) (fun hb => ?_)
  · refine P.iconst dL_law_531 ic_0 ?_
    obtain ⟨rv, ⟨z, rfl⟩, Q, hk, hq⟩ := pr_keep (G := G) ((xs (i + 1))) (b := 0) (by decide) f l hJ
    refine P.callVX (As := [.int (xs (i + 1)), .int (nI 0)]) (rest := []) hk ok_X9_keep (fit_lw (by decide) (Nat.le_refl _)) rfl ml_L_51 ly_0 (by decide) (by decide) rfl rfl (Nat.le_of_ble_eq_true rfl) dL_law_532 (fun r f1 l1 hp => ?_)
    obtain ⟨rfl, hQ⟩ := hp
    show Pm G RL cL_law 4 (KLw G b L xs) 535 [some (.ref b), some (.ref (ad G 0)), some (.ref (ad G 86)), some (.int (nI i))] [.int z] f1 l1
    refine P.aload_n dL_law_535 rfl rfl ?_
    refine P.aload_n dL_law_536 rfl rfl ?_
    refine P.iload_n dL_law_537 rfl rfl ?_
    refine P.iconst dL_law_538 ic_1 ?_
    refine P.iadd_n dL_law_539 (nI_add _ _) ?_
    refine P.sld (i := (i + 1)) (by omega) hL dL_law_540 ?_
    refine P.aload_n dL_law_541 rfl rfl ?_
    refine P.iload_n dL_law_542 rfl rfl ?_
    refine P.iconst dL_law_543 ic_2 ?_
    refine P.iadd_n dL_law_544 (nI_add _ _) ?_
    refine P.sld (i := (i + 2)) (by omega) hL dL_law_545 ?_
    refine P.if_eq (tgt := 553) dL_law_546 (by decide) (fun _ => ?_) (fun hb2 => absurd hb hb2)
    refine P.iconst dL_law_553 ic_0 ?_
    refine P.callVX (As := [.int (xs (i + 1)), .int (nI 0)]) (rest := [.int z]) (hq f1 l1 hQ) ok_X10_keep (fit_lw (by decide) (Nat.le_refl _)) rfl ml_L_55 ly_86 (by decide) (by decide) rfl rfl (Nat.le_of_ble_eq_true rfl) dL_law_554 (fun r f2 l2 hp => ?_)
    obtain ⟨rfl, hJ2⟩ := hp
    show Pm G RL cL_law 4 (KLw G b L xs) 557 [some (.ref b), some (.ref (ad G 0)), some (.ref (ad G 86)), some (.int (nI i))] [.int z, .int z] f2 l2
    exact P.icmp_eq (tgt := 1370) dL_law_557 (by decide) (fun _ => hc f2 l2 hJ2) (fun h => absurd rfl h)
  · refine P.iconst dL_law_527 ic_1 ?_
    refine P.goto (tgt := 532) dL_law_528 (by decide) ?_
    obtain ⟨rv, ⟨z, rfl⟩, Q, hk, hq⟩ := pr_keep (G := G) ((xs (i + 1))) (b := 1) (by decide) f l hJ
    refine P.callVX (As := [.int (xs (i + 1)), .int (nI 1)]) (rest := []) hk ok_X9_keep (fit_lw (by decide) (Nat.le_refl _)) rfl ml_L_51 ly_0 (by decide) (by decide) rfl rfl (Nat.le_of_ble_eq_true rfl) dL_law_532 (fun r f1 l1 hp => ?_)
    obtain ⟨rfl, hQ⟩ := hp
    show Pm G RL cL_law 4 (KLw G b L xs) 535 [some (.ref b), some (.ref (ad G 0)), some (.ref (ad G 86)), some (.int (nI i))] [.int z] f1 l1
    refine P.aload_n dL_law_535 rfl rfl ?_
    refine P.aload_n dL_law_536 rfl rfl ?_
    refine P.iload_n dL_law_537 rfl rfl ?_
    refine P.iconst dL_law_538 ic_1 ?_
    refine P.iadd_n dL_law_539 (nI_add _ _) ?_
    refine P.sld (i := (i + 1)) (by omega) hL dL_law_540 ?_
    refine P.aload_n dL_law_541 rfl rfl ?_
    refine P.iload_n dL_law_542 rfl rfl ?_
    refine P.iconst dL_law_543 ic_2 ?_
    refine P.iadd_n dL_law_544 (nI_add _ _) ?_
    refine P.sld (i := (i + 2)) (by omega) hL dL_law_545 ?_
    refine P.if_eq (tgt := 553) dL_law_546 (by decide) (fun hb2 => absurd hb2 hb) (fun _ => ?_)
    refine P.iconst dL_law_549 ic_1 ?_
    refine P.goto (tgt := 554) dL_law_550 (by decide) ?_
    refine P.callVX (As := [.int (xs (i + 1)), .int (nI 1)]) (rest := [.int z]) (hq f1 l1 hQ) ok_X10_keep (fit_lw (by decide) (Nat.le_refl _)) rfl ml_L_55 ly_86 (by decide) (by decide) rfl rfl (Nat.le_of_ble_eq_true rfl) dL_law_554 (fun r f2 l2 hp => ?_)
    obtain ⟨rfl, hJ2⟩ := hp
    show Pm G RL cL_law 4 (KLw G b L xs) 557 [some (.ref b), some (.ref (ad G 0)), some (.ref (ad G 86)), some (.int (nI i))] [.int z, .int z] f2 l2
    exact P.icmp_eq (tgt := 1370) dL_law_557 (by decide) (fun _ => hc f2 l2 hJ2) (fun h => absurd rfl h)
set_option maxRecDepth 20000 in
theorem lc_9 {G : GG} {b L : Nat} {xs : Nat → Int32} {i : Nat} (hL : L ≤ 4608) (hi : i + 9 ≤ L) {f : Nat → Nat → Nat} {l : Nat → Nat → Int64} (hJ : JJ f l) (hc : ∀ f l, JJ f l → Pm G RL cL_law 4 (KLw G b L xs) 1370 [some (.ref b), some (.ref (ad G 0)), some (.ref (ad G 86)), some (.int (nI i))] [] f l) : Pm G RL cL_law 4 (KLw G b L xs) 562 [some (.ref b), some (.ref (ad G 0)), some (.ref (ad G 86)), some (.int (nI i))] [] f l := by
  show Pm G RL cL_law 4 (KLw G b L xs) 562 [some (.ref b), some (.ref (ad G 0)), some (.ref (ad G 86)), some (.int (nI i))] [] f l
  refine P.aload_n dL_law_562 rfl rfl ?_
  refine P.aload_n dL_law_563 rfl rfl ?_
  refine P.iload_n dL_law_564 rfl rfl ?_
  refine P.iconst dL_law_565 ic_1 ?_
  refine P.iadd_n dL_law_566 (nI_add _ _) ?_
  refine P.sld (i := (i + 1)) (by omega) hL dL_law_567 ?_
  refine P.aload_n dL_law_568 rfl rfl ?_
  refine P.iload_n dL_law_569 rfl rfl ?_
  refine P.iconst dL_law_570 ic_2 ?_
  refine P.iadd_n dL_law_571 (nI_add _ _) ?_
  refine P.sld (i := (i + 2)) (by omega) hL dL_law_572 ?_
  obtain ⟨rv, ⟨z, rfl⟩, Q, hk, hq⟩ := pr_about (G := G) ((xs (i + 1))) ((xs (i + 2))) f l hJ
  refine P.callVX (As := [.int (xs (i + 1)), .int (xs (i + 2))]) (rest := []) hk ok_X9_about (fit_lw (by decide) (Nat.le_refl _)) rfl ml_L_56 ly_0 (by decide) (by decide) rfl rfl (Nat.le_of_ble_eq_true rfl) dL_law_573 (fun r f1 l1 hp => ?_)
  obtain ⟨rfl, hQ⟩ := hp
  show Pm G RL cL_law 4 (KLw G b L xs) 576 [some (.ref b), some (.ref (ad G 0)), some (.ref (ad G 86)), some (.int (nI i))] [.int z] f1 l1
  refine P.aload_n dL_law_576 rfl rfl ?_
  refine P.aload_n dL_law_577 rfl rfl ?_
  refine P.iload_n dL_law_578 rfl rfl ?_
  refine P.iconst dL_law_579 ic_1 ?_
  refine P.iadd_n dL_law_580 (nI_add _ _) ?_
  refine P.sld (i := (i + 1)) (by omega) hL dL_law_581 ?_
  refine P.aload_n dL_law_582 rfl rfl ?_
  refine P.iload_n dL_law_583 rfl rfl ?_
  refine P.iconst dL_law_584 ic_2 ?_
  refine P.iadd_n dL_law_585 (nI_add _ _) ?_
  refine P.sld (i := (i + 2)) (by omega) hL dL_law_586 ?_
  refine P.callVX (As := [.int (xs (i + 1)), .int (xs (i + 2))]) (rest := [.int z]) (hq f1 l1 hQ) ok_X10_about (fit_lw (by decide) (Nat.le_refl _)) rfl ml_L_59 ly_86 (by decide) (by decide) rfl rfl (Nat.le_of_ble_eq_true rfl) dL_law_587 (fun r f2 l2 hp => ?_)
  obtain ⟨rfl, hJ2⟩ := hp
  show Pm G RL cL_law 4 (KLw G b L xs) 590 [some (.ref b), some (.ref (ad G 0)), some (.ref (ad G 86)), some (.int (nI i))] [.int z, .int z] f2 l2
  exact P.icmp_eq (tgt := 1370) dL_law_590 (by decide) (fun _ => hc f2 l2 hJ2) (fun h => absurd rfl h)
set_option maxRecDepth 20000 in
theorem lc_10 {G : GG} {b L : Nat} {xs : Nat → Int32} {i : Nat} (hL : L ≤ 4608) (hi : i + 9 ≤ L) {f : Nat → Nat → Nat} {l : Nat → Nat → Int64} (hJ : JJ f l) (hc : ∀ f l, JJ f l → Pm G RL cL_law 4 (KLw G b L xs) 1370 [some (.ref b), some (.ref (ad G 0)), some (.ref (ad G 86)), some (.int (nI i))] [] f l) : Pm G RL cL_law 4 (KLw G b L xs) 595 [some (.ref b), some (.ref (ad G 0)), some (.ref (ad G 86)), some (.int (nI i))] [] f l := by
  show Pm G RL cL_law 4 (KLw G b L xs) 595 [some (.ref b), some (.ref (ad G 0)), some (.ref (ad G 86)), some (.int (nI i))] [] f l
  refine P.aload_n dL_law_595 rfl rfl ?_
  refine P.aload_n dL_law_596 rfl rfl ?_
  refine P.iload_n dL_law_597 rfl rfl ?_
  refine P.iconst dL_law_598 ic_1 ?_
  refine P.iadd_n dL_law_599 (nI_add _ _) ?_
  refine P.sld (i := (i + 1)) (by omega) hL dL_law_600 ?_
  refine P.aload_n dL_law_601 rfl rfl ?_
  refine P.iload_n dL_law_602 rfl rfl ?_
  refine P.iconst dL_law_603 ic_2 ?_
  refine P.iadd_n dL_law_604 (nI_add _ _) ?_
  refine P.sld (i := (i + 2)) (by omega) hL dL_law_605 ?_
  refine P.aload_n dL_law_606 rfl rfl ?_
  refine P.iload_n dL_law_607 rfl rfl ?_
  refine P.iconst dL_law_608 ic_3 ?_
  refine P.iadd_n dL_law_609 (nI_add _ _) ?_
  refine P.sld (i := (i + 3)) (by omega) hL dL_law_610 ?_
  refine P.aload_n dL_law_611 rfl rfl ?_
  refine P.iload_n dL_law_612 rfl rfl ?_
  refine P.iconst dL_law_613 ic_4 ?_
  refine P.iadd_n dL_law_614 (nI_add _ _) ?_
  refine P.sld (i := (i + 4)) (by omega) hL dL_law_615 ?_
  refine P.aload_n dL_law_616 rfl rfl ?_
  refine P.iload_n dL_law_617 rfl rfl ?_
  refine P.iconst dL_law_618 ic_5 ?_
  refine P.iadd_n dL_law_619 (nI_add _ _) ?_
  refine P.sld (i := (i + 5)) (by omega) hL dL_law_620 ?_
  refine P.i2l dL_law_621 rfl ?_
  refine P.bipush (v := nI 32) dL_law_622 rfl ?_
  refine P.lshl dL_law_624 rfl ?_
  refine P.aload_n dL_law_625 rfl rfl ?_
  refine P.iload_n dL_law_626 rfl rfl ?_
  refine P.bipush (v := nI 6) dL_law_627 rfl ?_
  refine P.iadd_n dL_law_629 (nI_add _ _) ?_
  refine P.sld (i := (i + 6)) (by omega) hL dL_law_630 ?_
  refine P.i2l dL_law_631 rfl ?_
  refine P.ldc2 dL_law_632 co_L_23 ?_
  refine P.land dL_law_635 ?_
  refine P.lor dL_law_636 ?_
  refine P.aload_n dL_law_637 rfl rfl ?_
  refine P.iload_n dL_law_638 rfl rfl ?_
  refine P.bipush (v := nI 7) dL_law_639 rfl ?_
  refine P.iadd_n dL_law_641 (nI_add _ _) ?_
  refine P.sld (i := (i + 7)) (by omega) hL dL_law_642 ?_
  refine P.i2l dL_law_643 rfl ?_
  refine P.bipush (v := nI 32) dL_law_644 rfl ?_
  refine P.lshl dL_law_646 rfl ?_
  refine P.aload_n dL_law_647 rfl rfl ?_
  refine P.iload_n dL_law_648 rfl rfl ?_
  refine P.bipush (v := nI 8) dL_law_649 rfl ?_
  refine P.iadd_n dL_law_651 (nI_add _ _) ?_
  refine P.sld (i := (i + 8)) (by omega) hL dL_law_652 ?_
  refine P.i2l dL_law_653 rfl ?_
  refine P.ldc2 dL_law_654 co_L_23 ?_
  refine P.land dL_law_657 ?_
  refine P.lor dL_law_658 ?_
  obtain ⟨rv, ⟨z, rfl⟩, Q, hk, hq⟩ := pr_law (G := G) ((xs (i + 1))) ((xs (i + 2))) ((xs (i + 3))) ((xs (i + 4))) (((((xs (i + 5)).toInt64) <<< ((nI 32).toInt64 &&& 63)) ||| (((xs (i + 6)).toInt64) &&& (4294967295)))) (((((xs (i + 7)).toInt64) <<< ((nI 32).toInt64 &&& 63)) ||| (((xs (i + 8)).toInt64) &&& (4294967295)))) f l hJ
  refine P.callVX (As := [.int (xs (i + 1)), .int (xs (i + 2)), .int (xs (i + 3)), .int (xs (i + 4)), .long ((((xs (i + 5)).toInt64) <<< ((nI 32).toInt64 &&& 63)) ||| (((xs (i + 6)).toInt64) &&& (4294967295))), .long ((((xs (i + 7)).toInt64) <<< ((nI 32).toInt64 &&& 63)) ||| (((xs (i + 8)).toInt64) &&& (4294967295)))]) (rest := []) hk ok_X9_law (fit_lw (by decide) (Nat.le_refl _)) rfl ml_L_60 ly_0 (by decide) (by decide) rfl rfl (Nat.le_of_ble_eq_true rfl) dL_law_659 (fun r f1 l1 hp => ?_)
  obtain ⟨rfl, hQ⟩ := hp
  show Pm G RL cL_law 4 (KLw G b L xs) 662 [some (.ref b), some (.ref (ad G 0)), some (.ref (ad G 86)), some (.int (nI i))] [.int z] f1 l1
  refine P.aload_n dL_law_662 rfl rfl ?_
  refine P.aload_n dL_law_663 rfl rfl ?_
  refine P.iload_n dL_law_664 rfl rfl ?_
  refine P.iconst dL_law_665 ic_1 ?_
  refine P.iadd_n dL_law_666 (nI_add _ _) ?_
  refine P.sld (i := (i + 1)) (by omega) hL dL_law_667 ?_
  refine P.aload_n dL_law_668 rfl rfl ?_
  refine P.iload_n dL_law_669 rfl rfl ?_
  refine P.iconst dL_law_670 ic_2 ?_
  refine P.iadd_n dL_law_671 (nI_add _ _) ?_
  refine P.sld (i := (i + 2)) (by omega) hL dL_law_672 ?_
  refine P.aload_n dL_law_673 rfl rfl ?_
  refine P.iload_n dL_law_674 rfl rfl ?_
  refine P.iconst dL_law_675 ic_3 ?_
  refine P.iadd_n dL_law_676 (nI_add _ _) ?_
  refine P.sld (i := (i + 3)) (by omega) hL dL_law_677 ?_
  refine P.aload_n dL_law_678 rfl rfl ?_
  refine P.iload_n dL_law_679 rfl rfl ?_
  refine P.iconst dL_law_680 ic_4 ?_
  refine P.iadd_n dL_law_681 (nI_add _ _) ?_
  refine P.sld (i := (i + 4)) (by omega) hL dL_law_682 ?_
  refine P.aload_n dL_law_683 rfl rfl ?_
  refine P.iload_n dL_law_684 rfl rfl ?_
  refine P.iconst dL_law_685 ic_5 ?_
  refine P.iadd_n dL_law_686 (nI_add _ _) ?_
  refine P.sld (i := (i + 5)) (by omega) hL dL_law_687 ?_
  refine P.i2l dL_law_688 rfl ?_
  refine P.bipush (v := nI 32) dL_law_689 rfl ?_
  refine P.lshl dL_law_691 rfl ?_
  refine P.aload_n dL_law_692 rfl rfl ?_
  refine P.iload_n dL_law_693 rfl rfl ?_
  refine P.bipush (v := nI 6) dL_law_694 rfl ?_
  refine P.iadd_n dL_law_696 (nI_add _ _) ?_
  refine P.sld (i := (i + 6)) (by omega) hL dL_law_697 ?_
  refine P.i2l dL_law_698 rfl ?_
  refine P.ldc2 dL_law_699 co_L_23 ?_
  refine P.land dL_law_702 ?_
  refine P.lor dL_law_703 ?_
  refine P.aload_n dL_law_704 rfl rfl ?_
  refine P.iload_n dL_law_705 rfl rfl ?_
  refine P.bipush (v := nI 7) dL_law_706 rfl ?_
  refine P.iadd_n dL_law_708 (nI_add _ _) ?_
  refine P.sld (i := (i + 7)) (by omega) hL dL_law_709 ?_
  refine P.i2l dL_law_710 rfl ?_
  refine P.bipush (v := nI 32) dL_law_711 rfl ?_
  refine P.lshl dL_law_713 rfl ?_
  refine P.aload_n dL_law_714 rfl rfl ?_
  refine P.iload_n dL_law_715 rfl rfl ?_
  refine P.bipush (v := nI 8) dL_law_716 rfl ?_
  refine P.iadd_n dL_law_718 (nI_add _ _) ?_
  refine P.sld (i := (i + 8)) (by omega) hL dL_law_719 ?_
  refine P.i2l dL_law_720 rfl ?_
  refine P.ldc2 dL_law_721 co_L_23 ?_
  refine P.land dL_law_724 ?_
  refine P.lor dL_law_725 ?_
  refine P.callVX (As := [.int (xs (i + 1)), .int (xs (i + 2)), .int (xs (i + 3)), .int (xs (i + 4)), .long ((((xs (i + 5)).toInt64) <<< ((nI 32).toInt64 &&& 63)) ||| (((xs (i + 6)).toInt64) &&& (4294967295))), .long ((((xs (i + 7)).toInt64) <<< ((nI 32).toInt64 &&& 63)) ||| (((xs (i + 8)).toInt64) &&& (4294967295)))]) (rest := [.int z]) (hq f1 l1 hQ) ok_X10_law (fit_lw (by decide) (Nat.le_refl _)) rfl ml_L_64 ly_86 (by decide) (by decide) rfl rfl (Nat.le_of_ble_eq_true rfl) dL_law_726 (fun r f2 l2 hp => ?_)
  obtain ⟨rfl, hJ2⟩ := hp
  show Pm G RL cL_law 4 (KLw G b L xs) 729 [some (.ref b), some (.ref (ad G 0)), some (.ref (ad G 86)), some (.int (nI i))] [.int z, .int z] f2 l2
  exact P.icmp_eq (tgt := 1370) dL_law_729 (by decide) (fun _ => hc f2 l2 hJ2) (fun h => absurd rfl h)
set_option maxRecDepth 20000 in
theorem lc_11 {G : GG} {b L : Nat} {xs : Nat → Int32} {i : Nat} (hL : L ≤ 4608) (hi : i + 9 ≤ L) {f : Nat → Nat → Nat} {l : Nat → Nat → Int64} (hJ : JJ f l) (hc : ∀ f l, JJ f l → Pm G RL cL_law 4 (KLw G b L xs) 1370 [some (.ref b), some (.ref (ad G 0)), some (.ref (ad G 86)), some (.int (nI i))] [] f l) : Pm G RL cL_law 4 (KLw G b L xs) 734 [some (.ref b), some (.ref (ad G 0)), some (.ref (ad G 86)), some (.int (nI i))] [] f l := by
  show Pm G RL cL_law 4 (KLw G b L xs) 734 [some (.ref b), some (.ref (ad G 0)), some (.ref (ad G 86)), some (.int (nI i))] [] f l
  refine P.aload_n dL_law_734 rfl rfl ?_
  refine P.aload_n dL_law_735 rfl rfl ?_
  refine P.iload_n dL_law_736 rfl rfl ?_
  refine P.iconst dL_law_737 ic_1 ?_
  refine P.iadd_n dL_law_738 (nI_add _ _) ?_
  refine P.sld (i := (i + 1)) (by omega) hL dL_law_739 ?_
  refine P.aload_n dL_law_740 rfl rfl ?_
  refine P.iload_n dL_law_741 rfl rfl ?_
  refine P.iconst dL_law_742 ic_2 ?_
  refine P.iadd_n dL_law_743 (nI_add _ _) ?_
  refine P.sld (i := (i + 2)) (by omega) hL dL_law_744 ?_
  refine P.aload_n dL_law_745 rfl rfl ?_
  refine P.iload_n dL_law_746 rfl rfl ?_
  refine P.iconst dL_law_747 ic_3 ?_
  refine P.iadd_n dL_law_748 (nI_add _ _) ?_
  refine P.sld (i := (i + 3)) (by omega) hL dL_law_749 ?_
  refine P.aload_n dL_law_750 rfl rfl ?_
  refine P.iload_n dL_law_751 rfl rfl ?_
  refine P.iconst dL_law_752 ic_4 ?_
  refine P.iadd_n dL_law_753 (nI_add _ _) ?_
  refine P.sld (i := (i + 4)) (by omega) hL dL_law_754 ?_
  obtain ⟨rv, ⟨z, rfl⟩, Q, hk, hq⟩ := pr_among (G := G) ((xs (i + 1))) ((xs (i + 2))) ((xs (i + 3))) ((xs (i + 4))) f l hJ
  refine P.callVX (As := [.int (xs (i + 1)), .int (xs (i + 2)), .int (xs (i + 3)), .int (xs (i + 4))]) (rest := []) hk ok_X9_among (fit_lw (by decide) (Nat.le_refl _)) rfl ml_L_65 ly_0 (by decide) (by decide) rfl rfl (Nat.le_of_ble_eq_true rfl) dL_law_755 (fun r f1 l1 hp => ?_)
  obtain ⟨rfl, hQ⟩ := hp
  show Pm G RL cL_law 4 (KLw G b L xs) 758 [some (.ref b), some (.ref (ad G 0)), some (.ref (ad G 86)), some (.int (nI i))] [.int z] f1 l1
  refine P.aload_n dL_law_758 rfl rfl ?_
  refine P.aload_n dL_law_759 rfl rfl ?_
  refine P.iload_n dL_law_760 rfl rfl ?_
  refine P.iconst dL_law_761 ic_1 ?_
  refine P.iadd_n dL_law_762 (nI_add _ _) ?_
  refine P.sld (i := (i + 1)) (by omega) hL dL_law_763 ?_
  refine P.aload_n dL_law_764 rfl rfl ?_
  refine P.iload_n dL_law_765 rfl rfl ?_
  refine P.iconst dL_law_766 ic_2 ?_
  refine P.iadd_n dL_law_767 (nI_add _ _) ?_
  refine P.sld (i := (i + 2)) (by omega) hL dL_law_768 ?_
  refine P.aload_n dL_law_769 rfl rfl ?_
  refine P.iload_n dL_law_770 rfl rfl ?_
  refine P.iconst dL_law_771 ic_3 ?_
  refine P.iadd_n dL_law_772 (nI_add _ _) ?_
  refine P.sld (i := (i + 3)) (by omega) hL dL_law_773 ?_
  refine P.aload_n dL_law_774 rfl rfl ?_
  refine P.iload_n dL_law_775 rfl rfl ?_
  refine P.iconst dL_law_776 ic_4 ?_
  refine P.iadd_n dL_law_777 (nI_add _ _) ?_
  refine P.sld (i := (i + 4)) (by omega) hL dL_law_778 ?_
  refine P.callVX (As := [.int (xs (i + 1)), .int (xs (i + 2)), .int (xs (i + 3)), .int (xs (i + 4))]) (rest := [.int z]) (hq f1 l1 hQ) ok_X10_among (fit_lw (by decide) (Nat.le_refl _)) rfl ml_L_69 ly_86 (by decide) (by decide) rfl rfl (Nat.le_of_ble_eq_true rfl) dL_law_779 (fun r f2 l2 hp => ?_)
  obtain ⟨rfl, hJ2⟩ := hp
  show Pm G RL cL_law 4 (KLw G b L xs) 782 [some (.ref b), some (.ref (ad G 0)), some (.ref (ad G 86)), some (.int (nI i))] [.int z, .int z] f2 l2
  exact P.icmp_eq (tgt := 1370) dL_law_782 (by decide) (fun _ => hc f2 l2 hJ2) (fun h => absurd rfl h)
set_option maxRecDepth 20000 in
theorem lc_12 {G : GG} {b L : Nat} {xs : Nat → Int32} {i : Nat} (hL : L ≤ 4608) (hi : i + 9 ≤ L) {f : Nat → Nat → Nat} {l : Nat → Nat → Int64} (hJ : JJ f l) (hc : ∀ f l, JJ f l → Pm G RL cL_law 4 (KLw G b L xs) 1370 [some (.ref b), some (.ref (ad G 0)), some (.ref (ad G 86)), some (.int (nI i))] [] f l) : Pm G RL cL_law 4 (KLw G b L xs) 787 [some (.ref b), some (.ref (ad G 0)), some (.ref (ad G 86)), some (.int (nI i))] [] f l := by
  show Pm G RL cL_law 4 (KLw G b L xs) 787 [some (.ref b), some (.ref (ad G 0)), some (.ref (ad G 86)), some (.int (nI i))] [] f l
  refine P.aload_n dL_law_787 rfl rfl ?_
  refine P.aload_n dL_law_788 rfl rfl ?_
  refine P.iload_n dL_law_789 rfl rfl ?_
  refine P.iconst dL_law_790 ic_1 ?_
  refine P.iadd_n dL_law_791 (nI_add _ _) ?_
  refine P.sld (i := (i + 1)) (by omega) hL dL_law_792 ?_
  refine P.aload_n dL_law_793 rfl rfl ?_
  refine P.iload_n dL_law_794 rfl rfl ?_
  refine P.iconst dL_law_795 ic_2 ?_
  refine P.iadd_n dL_law_796 (nI_add _ _) ?_
  refine P.sld (i := (i + 2)) (by omega) hL dL_law_797 ?_
  refine P.if_eq (tgt := 805) dL_law_798 (by decide) (fun hb => ?_) (fun hb => ?_)
  · refine P.iconst dL_law_805 ic_0 ?_
    obtain ⟨rv, ⟨z, rfl⟩, Q, hk, hq⟩ := pr_force (G := G) ((xs (i + 1))) (b := 0) (by decide) f l hJ
    refine P.callVX (As := [.int (xs (i + 1)), .int (nI 0)]) (rest := []) hk ok_X9_force (fit_lw (by decide) (Nat.le_refl _)) rfl ml_L_70 ly_0 (by decide) (by decide) rfl rfl (Nat.le_of_ble_eq_true rfl) dL_law_806 (fun r f1 l1 hp => ?_)
    obtain ⟨rfl, hQ⟩ := hp
    show Pm G RL cL_law 4 (KLw G b L xs) 809 [some (.ref b), some (.ref (ad G 0)), some (.ref (ad G 86)), some (.int (nI i))] [.int z] f1 l1
    refine P.aload_n dL_law_809 rfl rfl ?_
    refine P.aload_n dL_law_810 rfl rfl ?_
    refine P.iload_n dL_law_811 rfl rfl ?_
    refine P.iconst dL_law_812 ic_1 ?_
    refine P.iadd_n dL_law_813 (nI_add _ _) ?_
    refine P.sld (i := (i + 1)) (by omega) hL dL_law_814 ?_
    refine P.aload_n dL_law_815 rfl rfl ?_
    refine P.iload_n dL_law_816 rfl rfl ?_
    refine P.iconst dL_law_817 ic_2 ?_
    refine P.iadd_n dL_law_818 (nI_add _ _) ?_
    refine P.sld (i := (i + 2)) (by omega) hL dL_law_819 ?_
    refine P.if_eq (tgt := 827) dL_law_820 (by decide) (fun _ => ?_) (fun hb2 => absurd hb hb2)
    refine P.iconst dL_law_827 ic_0 ?_
    refine P.callVX (As := [.int (xs (i + 1)), .int (nI 0)]) (rest := [.int z]) (hq f1 l1 hQ) ok_X10_force (fit_lw (by decide) (Nat.le_refl _)) rfl ml_L_73 ly_86 (by decide) (by decide) rfl rfl (Nat.le_of_ble_eq_true rfl) dL_law_828 (fun r f2 l2 hp => ?_)
    obtain ⟨rfl, hJ2⟩ := hp
    show Pm G RL cL_law 4 (KLw G b L xs) 831 [some (.ref b), some (.ref (ad G 0)), some (.ref (ad G 86)), some (.int (nI i))] [.int z, .int z] f2 l2
    exact P.icmp_eq (tgt := 1370) dL_law_831 (by decide) (fun _ => hc f2 l2 hJ2) (fun h => absurd rfl h)
  · refine P.iconst dL_law_801 ic_1 ?_
    refine P.goto (tgt := 806) dL_law_802 (by decide) ?_
    obtain ⟨rv, ⟨z, rfl⟩, Q, hk, hq⟩ := pr_force (G := G) ((xs (i + 1))) (b := 1) (by decide) f l hJ
    refine P.callVX (As := [.int (xs (i + 1)), .int (nI 1)]) (rest := []) hk ok_X9_force (fit_lw (by decide) (Nat.le_refl _)) rfl ml_L_70 ly_0 (by decide) (by decide) rfl rfl (Nat.le_of_ble_eq_true rfl) dL_law_806 (fun r f1 l1 hp => ?_)
    obtain ⟨rfl, hQ⟩ := hp
    show Pm G RL cL_law 4 (KLw G b L xs) 809 [some (.ref b), some (.ref (ad G 0)), some (.ref (ad G 86)), some (.int (nI i))] [.int z] f1 l1
    refine P.aload_n dL_law_809 rfl rfl ?_
    refine P.aload_n dL_law_810 rfl rfl ?_
    refine P.iload_n dL_law_811 rfl rfl ?_
    refine P.iconst dL_law_812 ic_1 ?_
    refine P.iadd_n dL_law_813 (nI_add _ _) ?_
    refine P.sld (i := (i + 1)) (by omega) hL dL_law_814 ?_
    refine P.aload_n dL_law_815 rfl rfl ?_
    refine P.iload_n dL_law_816 rfl rfl ?_
    refine P.iconst dL_law_817 ic_2 ?_
    refine P.iadd_n dL_law_818 (nI_add _ _) ?_
    refine P.sld (i := (i + 2)) (by omega) hL dL_law_819 ?_
    refine P.if_eq (tgt := 827) dL_law_820 (by decide) (fun hb2 => absurd hb2 hb) (fun _ => ?_)
    refine P.iconst dL_law_823 ic_1 ?_
    refine P.goto (tgt := 828) dL_law_824 (by decide) ?_
    refine P.callVX (As := [.int (xs (i + 1)), .int (nI 1)]) (rest := [.int z]) (hq f1 l1 hQ) ok_X10_force (fit_lw (by decide) (Nat.le_refl _)) rfl ml_L_73 ly_86 (by decide) (by decide) rfl rfl (Nat.le_of_ble_eq_true rfl) dL_law_828 (fun r f2 l2 hp => ?_)
    obtain ⟨rfl, hJ2⟩ := hp
    show Pm G RL cL_law 4 (KLw G b L xs) 831 [some (.ref b), some (.ref (ad G 0)), some (.ref (ad G 86)), some (.int (nI i))] [.int z, .int z] f2 l2
    exact P.icmp_eq (tgt := 1370) dL_law_831 (by decide) (fun _ => hc f2 l2 hJ2) (fun h => absurd rfl h)
set_option maxRecDepth 20000 in
theorem lc_13 {G : GG} {b L : Nat} {xs : Nat → Int32} {i : Nat} (hL : L ≤ 4608) (hi : i + 9 ≤ L) {f : Nat → Nat → Nat} {l : Nat → Nat → Int64} (hJ : JJ f l) (hc : ∀ f l, JJ f l → Pm G RL cL_law 4 (KLw G b L xs) 1370 [some (.ref b), some (.ref (ad G 0)), some (.ref (ad G 86)), some (.int (nI i))] [] f l) : Pm G RL cL_law 4 (KLw G b L xs) 836 [some (.ref b), some (.ref (ad G 0)), some (.ref (ad G 86)), some (.int (nI i))] [] f l := by
  show Pm G RL cL_law 4 (KLw G b L xs) 836 [some (.ref b), some (.ref (ad G 0)), some (.ref (ad G 86)), some (.int (nI i))] [] f l
  refine P.aload_n dL_law_836 rfl rfl ?_
  refine P.aload_n dL_law_837 rfl rfl ?_
  refine P.iload_n dL_law_838 rfl rfl ?_
  refine P.iconst dL_law_839 ic_1 ?_
  refine P.iadd_n dL_law_840 (nI_add _ _) ?_
  refine P.sld (i := (i + 1)) (by omega) hL dL_law_841 ?_
  obtain ⟨rv, ⟨z, rfl⟩, Q, hk, hq⟩ := pr_most (G := G) ((xs (i + 1))) f l hJ
  refine P.callVX (As := [.int (xs (i + 1))]) (rest := []) hk ok_X9_most (fit_lw (by decide) (Nat.le_refl _)) rfl ml_L_74 ly_0 (by decide) (by decide) rfl rfl (Nat.le_of_ble_eq_true rfl) dL_law_842 (fun r f1 l1 hp => ?_)
  obtain ⟨rfl, hQ⟩ := hp
  show Pm G RL cL_law 4 (KLw G b L xs) 845 [some (.ref b), some (.ref (ad G 0)), some (.ref (ad G 86)), some (.int (nI i))] [.long z] f1 l1
  refine P.aload_n dL_law_845 rfl rfl ?_
  refine P.aload_n dL_law_846 rfl rfl ?_
  refine P.iload_n dL_law_847 rfl rfl ?_
  refine P.iconst dL_law_848 ic_1 ?_
  refine P.iadd_n dL_law_849 (nI_add _ _) ?_
  refine P.sld (i := (i + 1)) (by omega) hL dL_law_850 ?_
  refine P.callVX (As := [.int (xs (i + 1))]) (rest := [.long z]) (hq f1 l1 hQ) ok_X10_most (fit_lw (by decide) (Nat.le_refl _)) rfl ml_L_78 ly_86 (by decide) (by decide) rfl rfl (Nat.le_of_ble_eq_true rfl) dL_law_851 (fun r f2 l2 hp => ?_)
  obtain ⟨rfl, hJ2⟩ := hp
  show Pm G RL cL_law 4 (KLw G b L xs) 854 [some (.ref b), some (.ref (ad G 0)), some (.ref (ad G 86)), some (.int (nI i))] [.long z, .long z] f2 l2
  exact P.lc_eq (tgt := 1370) dL_law_854 dL_law_855 (by decide) (fun _ => hc f2 l2 hJ2) (fun h => absurd rfl h)
set_option maxRecDepth 20000 in
theorem lc_14 {G : GG} {b L : Nat} {xs : Nat → Int32} {i : Nat} (hL : L ≤ 4608) (hi : i + 9 ≤ L) {f : Nat → Nat → Nat} {l : Nat → Nat → Int64} (hJ : JJ f l) (hc : ∀ f l, JJ f l → Pm G RL cL_law 4 (KLw G b L xs) 1370 [some (.ref b), some (.ref (ad G 0)), some (.ref (ad G 86)), some (.int (nI i))] [] f l) : Pm G RL cL_law 4 (KLw G b L xs) 860 [some (.ref b), some (.ref (ad G 0)), some (.ref (ad G 86)), some (.int (nI i))] [] f l := by
  show Pm G RL cL_law 4 (KLw G b L xs) 860 [some (.ref b), some (.ref (ad G 0)), some (.ref (ad G 86)), some (.int (nI i))] [] f l
  refine P.aload_n dL_law_860 rfl rfl ?_
  refine P.aload_n dL_law_861 rfl rfl ?_
  refine P.iload_n dL_law_862 rfl rfl ?_
  refine P.iconst dL_law_863 ic_1 ?_
  refine P.iadd_n dL_law_864 (nI_add _ _) ?_
  refine P.sld (i := (i + 1)) (by omega) hL dL_law_865 ?_
  obtain ⟨rv, ⟨z, rfl⟩, Q, hk, hq⟩ := pr_quarrels (G := G) ((xs (i + 1))) f l hJ
  refine P.callVX (As := [.int (xs (i + 1))]) (rest := []) hk ok_X9_quarrels (fit_lw (by decide) (Nat.le_refl _)) rfl ml_L_79 ly_0 (by decide) (by decide) rfl rfl (Nat.le_of_ble_eq_true rfl) dL_law_866 (fun r f1 l1 hp => ?_)
  obtain ⟨rfl, hQ⟩ := hp
  show Pm G RL cL_law 4 (KLw G b L xs) 869 [some (.ref b), some (.ref (ad G 0)), some (.ref (ad G 86)), some (.int (nI i))] [.int z] f1 l1
  refine P.aload_n dL_law_869 rfl rfl ?_
  refine P.aload_n dL_law_870 rfl rfl ?_
  refine P.iload_n dL_law_871 rfl rfl ?_
  refine P.iconst dL_law_872 ic_1 ?_
  refine P.iadd_n dL_law_873 (nI_add _ _) ?_
  refine P.sld (i := (i + 1)) (by omega) hL dL_law_874 ?_
  refine P.callVX (As := [.int (xs (i + 1))]) (rest := [.int z]) (hq f1 l1 hQ) ok_X10_quarrels (fit_lw (by decide) (Nat.le_refl _)) rfl ml_L_83 ly_86 (by decide) (by decide) rfl rfl (Nat.le_of_ble_eq_true rfl) dL_law_875 (fun r f2 l2 hp => ?_)
  obtain ⟨rfl, hJ2⟩ := hp
  show Pm G RL cL_law 4 (KLw G b L xs) 878 [some (.ref b), some (.ref (ad G 0)), some (.ref (ad G 86)), some (.int (nI i))] [.int z, .int z] f2 l2
  exact P.icmp_eq (tgt := 1370) dL_law_878 (by decide) (fun _ => hc f2 l2 hJ2) (fun h => absurd rfl h)
set_option maxRecDepth 20000 in
theorem lc_15 {G : GG} {b L : Nat} {xs : Nat → Int32} {i : Nat} (hL : L ≤ 4608) (hi : i + 9 ≤ L) {f : Nat → Nat → Nat} {l : Nat → Nat → Int64} (hJ : JJ f l) (hc : ∀ f l, JJ f l → Pm G RL cL_law 4 (KLw G b L xs) 1370 [some (.ref b), some (.ref (ad G 0)), some (.ref (ad G 86)), some (.int (nI i))] [] f l) : Pm G RL cL_law 4 (KLw G b L xs) 883 [some (.ref b), some (.ref (ad G 0)), some (.ref (ad G 86)), some (.int (nI i))] [] f l := by
  show Pm G RL cL_law 4 (KLw G b L xs) 883 [some (.ref b), some (.ref (ad G 0)), some (.ref (ad G 86)), some (.int (nI i))] [] f l
  refine P.aload_n dL_law_883 rfl rfl ?_
  refine P.aload_n dL_law_884 rfl rfl ?_
  refine P.iload_n dL_law_885 rfl rfl ?_
  refine P.iconst dL_law_886 ic_1 ?_
  refine P.iadd_n dL_law_887 (nI_add _ _) ?_
  refine P.sld (i := (i + 1)) (by omega) hL dL_law_888 ?_
  refine P.aload_n dL_law_889 rfl rfl ?_
  refine P.iload_n dL_law_890 rfl rfl ?_
  refine P.iconst dL_law_891 ic_2 ?_
  refine P.iadd_n dL_law_892 (nI_add _ _) ?_
  refine P.sld (i := (i + 2)) (by omega) hL dL_law_893 ?_
  obtain ⟨rv, ⟨z, rfl⟩, Q, hk, hq⟩ := pr_quarrel (G := G) ((xs (i + 1))) ((xs (i + 2))) f l hJ
  refine P.callVX (As := [.int (xs (i + 1)), .int (xs (i + 2))]) (rest := []) hk ok_X9_quarrel (fit_lw (by decide) (Nat.le_refl _)) rfl ml_L_84 ly_0 (by decide) (by decide) rfl rfl (Nat.le_of_ble_eq_true rfl) dL_law_894 (fun r f1 l1 hp => ?_)
  obtain ⟨rfl, hQ⟩ := hp
  show Pm G RL cL_law 4 (KLw G b L xs) 897 [some (.ref b), some (.ref (ad G 0)), some (.ref (ad G 86)), some (.int (nI i))] [.int z] f1 l1
  refine P.aload_n dL_law_897 rfl rfl ?_
  refine P.aload_n dL_law_898 rfl rfl ?_
  refine P.iload_n dL_law_899 rfl rfl ?_
  refine P.iconst dL_law_900 ic_1 ?_
  refine P.iadd_n dL_law_901 (nI_add _ _) ?_
  refine P.sld (i := (i + 1)) (by omega) hL dL_law_902 ?_
  refine P.aload_n dL_law_903 rfl rfl ?_
  refine P.iload_n dL_law_904 rfl rfl ?_
  refine P.iconst dL_law_905 ic_2 ?_
  refine P.iadd_n dL_law_906 (nI_add _ _) ?_
  refine P.sld (i := (i + 2)) (by omega) hL dL_law_907 ?_
  refine P.callVX (As := [.int (xs (i + 1)), .int (xs (i + 2))]) (rest := [.int z]) (hq f1 l1 hQ) ok_X10_quarrel (fit_lw (by decide) (Nat.le_refl _)) rfl ml_L_87 ly_86 (by decide) (by decide) rfl rfl (Nat.le_of_ble_eq_true rfl) dL_law_908 (fun r f2 l2 hp => ?_)
  obtain ⟨rfl, hJ2⟩ := hp
  show Pm G RL cL_law 4 (KLw G b L xs) 911 [some (.ref b), some (.ref (ad G 0)), some (.ref (ad G 86)), some (.int (nI i))] [.int z, .int z] f2 l2
  exact P.icmp_eq (tgt := 1370) dL_law_911 (by decide) (fun _ => hc f2 l2 hJ2) (fun h => absurd rfl h)
set_option maxRecDepth 20000 in
theorem lc_16 {G : GG} {b L : Nat} {xs : Nat → Int32} {i : Nat} (hL : L ≤ 4608) (hi : i + 9 ≤ L) {f : Nat → Nat → Nat} {l : Nat → Nat → Int64} (hJ : JJ f l) (hc : ∀ f l, JJ f l → Pm G RL cL_law 4 (KLw G b L xs) 1370 [some (.ref b), some (.ref (ad G 0)), some (.ref (ad G 86)), some (.int (nI i))] [] f l) : Pm G RL cL_law 4 (KLw G b L xs) 916 [some (.ref b), some (.ref (ad G 0)), some (.ref (ad G 86)), some (.int (nI i))] [] f l := by
  show Pm G RL cL_law 4 (KLw G b L xs) 916 [some (.ref b), some (.ref (ad G 0)), some (.ref (ad G 86)), some (.int (nI i))] [] f l
  refine P.aload_n dL_law_916 rfl rfl ?_
  obtain ⟨rv, ⟨z, rfl⟩, Q, hk, hq⟩ := pr_clean (G := G)  f l hJ
  refine P.callVX (As := []) (rest := []) hk ok_X9_clean (fit_lw (by decide) (Nat.le_refl _)) rfl ml_L_88 ly_0 (by decide) (by decide) rfl rfl (Nat.le_of_ble_eq_true rfl) dL_law_917 (fun r f1 l1 hp => ?_)
  obtain ⟨rfl, hQ⟩ := hp
  show Pm G RL cL_law 4 (KLw G b L xs) 920 [some (.ref b), some (.ref (ad G 0)), some (.ref (ad G 86)), some (.int (nI i))] [.int z] f1 l1
  refine P.aload_n dL_law_920 rfl rfl ?_
  refine P.callVX (As := []) (rest := [.int z]) (hq f1 l1 hQ) ok_X10_clean (fit_lw (by decide) (Nat.le_refl _)) rfl ml_L_92 ly_86 (by decide) (by decide) rfl rfl (Nat.le_of_ble_eq_true rfl) dL_law_921 (fun r f2 l2 hp => ?_)
  obtain ⟨rfl, hJ2⟩ := hp
  show Pm G RL cL_law 4 (KLw G b L xs) 924 [some (.ref b), some (.ref (ad G 0)), some (.ref (ad G 86)), some (.int (nI i))] [.int z, .int z] f2 l2
  exact P.icmp_eq (tgt := 1370) dL_law_924 (by decide) (fun _ => hc f2 l2 hJ2) (fun h => absurd rfl h)
set_option maxRecDepth 20000 in
theorem lc_17 {G : GG} {b L : Nat} {xs : Nat → Int32} {i : Nat} (hL : L ≤ 4608) (hi : i + 9 ≤ L) {f : Nat → Nat → Nat} {l : Nat → Nat → Int64} (hJ : JJ f l) (hc : ∀ f l, JJ f l → Pm G RL cL_law 4 (KLw G b L xs) 1370 [some (.ref b), some (.ref (ad G 0)), some (.ref (ad G 86)), some (.int (nI i))] [] f l) : Pm G RL cL_law 4 (KLw G b L xs) 929 [some (.ref b), some (.ref (ad G 0)), some (.ref (ad G 86)), some (.int (nI i))] [] f l := by
  show Pm G RL cL_law 4 (KLw G b L xs) 929 [some (.ref b), some (.ref (ad G 0)), some (.ref (ad G 86)), some (.int (nI i))] [] f l
  refine P.aload_n dL_law_929 rfl rfl ?_
  refine P.aload_n dL_law_930 rfl rfl ?_
  refine P.iload_n dL_law_931 rfl rfl ?_
  refine P.iconst dL_law_932 ic_1 ?_
  refine P.iadd_n dL_law_933 (nI_add _ _) ?_
  refine P.sld (i := (i + 1)) (by omega) hL dL_law_934 ?_
  obtain ⟨rv, ⟨z, rfl⟩, Q, hk, hq⟩ := pr_breaks (G := G) ((xs (i + 1))) f l hJ
  refine P.callVX (As := [.int (xs (i + 1))]) (rest := []) hk ok_X9_breaks (fit_lw (by decide) (Nat.le_refl _)) rfl ml_L_93 ly_0 (by decide) (by decide) rfl rfl (Nat.le_of_ble_eq_true rfl) dL_law_935 (fun r f1 l1 hp => ?_)
  obtain ⟨rfl, hQ⟩ := hp
  show Pm G RL cL_law 4 (KLw G b L xs) 938 [some (.ref b), some (.ref (ad G 0)), some (.ref (ad G 86)), some (.int (nI i))] [.int z] f1 l1
  refine P.aload_n dL_law_938 rfl rfl ?_
  refine P.aload_n dL_law_939 rfl rfl ?_
  refine P.iload_n dL_law_940 rfl rfl ?_
  refine P.iconst dL_law_941 ic_1 ?_
  refine P.iadd_n dL_law_942 (nI_add _ _) ?_
  refine P.sld (i := (i + 1)) (by omega) hL dL_law_943 ?_
  refine P.callVX (As := [.int (xs (i + 1))]) (rest := [.int z]) (hq f1 l1 hQ) ok_X10_breaks (fit_lw (by decide) (Nat.le_refl _)) rfl ml_L_96 ly_86 (by decide) (by decide) rfl rfl (Nat.le_of_ble_eq_true rfl) dL_law_944 (fun r f2 l2 hp => ?_)
  obtain ⟨rfl, hJ2⟩ := hp
  show Pm G RL cL_law 4 (KLw G b L xs) 947 [some (.ref b), some (.ref (ad G 0)), some (.ref (ad G 86)), some (.int (nI i))] [.int z, .int z] f2 l2
  exact P.icmp_eq (tgt := 1370) dL_law_947 (by decide) (fun _ => hc f2 l2 hJ2) (fun h => absurd rfl h)
set_option maxRecDepth 20000 in
theorem lc_18 {G : GG} {b L : Nat} {xs : Nat → Int32} {i : Nat} (hL : L ≤ 4608) (hi : i + 9 ≤ L) {f : Nat → Nat → Nat} {l : Nat → Nat → Int64} (hJ : JJ f l) (hc : ∀ f l, JJ f l → Pm G RL cL_law 4 (KLw G b L xs) 1370 [some (.ref b), some (.ref (ad G 0)), some (.ref (ad G 86)), some (.int (nI i))] [] f l) : Pm G RL cL_law 4 (KLw G b L xs) 952 [some (.ref b), some (.ref (ad G 0)), some (.ref (ad G 86)), some (.int (nI i))] [] f l := by
  show Pm G RL cL_law 4 (KLw G b L xs) 952 [some (.ref b), some (.ref (ad G 0)), some (.ref (ad G 86)), some (.int (nI i))] [] f l
  refine P.aload_n dL_law_952 rfl rfl ?_
  obtain ⟨rv, ⟨z, rfl⟩, Q, hk, hq⟩ := pr_mends (G := G)  f l hJ
  refine P.callVX (As := []) (rest := []) hk ok_X9_mends (fit_lw (by decide) (Nat.le_refl _)) rfl ml_L_97 ly_0 (by decide) (by decide) rfl rfl (Nat.le_of_ble_eq_true rfl) dL_law_953 (fun r f1 l1 hp => ?_)
  obtain ⟨rfl, hQ⟩ := hp
  show Pm G RL cL_law 4 (KLw G b L xs) 956 [some (.ref b), some (.ref (ad G 0)), some (.ref (ad G 86)), some (.int (nI i))] [.int z] f1 l1
  refine P.aload_n dL_law_956 rfl rfl ?_
  refine P.callVX (As := []) (rest := [.int z]) (hq f1 l1 hQ) ok_X10_mends (fit_lw (by decide) (Nat.le_refl _)) rfl ml_L_100 ly_86 (by decide) (by decide) rfl rfl (Nat.le_of_ble_eq_true rfl) dL_law_957 (fun r f2 l2 hp => ?_)
  obtain ⟨rfl, hJ2⟩ := hp
  show Pm G RL cL_law 4 (KLw G b L xs) 960 [some (.ref b), some (.ref (ad G 0)), some (.ref (ad G 86)), some (.int (nI i))] [.int z, .int z] f2 l2
  exact P.icmp_eq (tgt := 1370) dL_law_960 (by decide) (fun _ => hc f2 l2 hJ2) (fun h => absurd rfl h)
set_option maxRecDepth 20000 in
theorem lc_19 {G : GG} {b L : Nat} {xs : Nat → Int32} {i : Nat} (hL : L ≤ 4608) (hi : i + 9 ≤ L) {f : Nat → Nat → Nat} {l : Nat → Nat → Int64} (hJ : JJ f l) (hc : ∀ f l, JJ f l → Pm G RL cL_law 4 (KLw G b L xs) 1370 [some (.ref b), some (.ref (ad G 0)), some (.ref (ad G 86)), some (.int (nI i))] [] f l) : Pm G RL cL_law 4 (KLw G b L xs) 965 [some (.ref b), some (.ref (ad G 0)), some (.ref (ad G 86)), some (.int (nI i))] [] f l := by
  show Pm G RL cL_law 4 (KLw G b L xs) 965 [some (.ref b), some (.ref (ad G 0)), some (.ref (ad G 86)), some (.int (nI i))] [] f l
  refine P.aload_n dL_law_965 rfl rfl ?_
  refine P.aload_n dL_law_966 rfl rfl ?_
  refine P.iload_n dL_law_967 rfl rfl ?_
  refine P.iconst dL_law_968 ic_1 ?_
  refine P.iadd_n dL_law_969 (nI_add _ _) ?_
  refine P.sld (i := (i + 1)) (by omega) hL dL_law_970 ?_
  obtain ⟨rv, ⟨z, rfl⟩, Q, hk, hq⟩ := pr_mending (G := G) ((xs (i + 1))) f l hJ
  refine P.callVX (As := [.int (xs (i + 1))]) (rest := []) hk ok_X9_mending (fit_lw (by decide) (Nat.le_refl _)) rfl ml_L_101 ly_0 (by decide) (by decide) rfl rfl (Nat.le_of_ble_eq_true rfl) dL_law_971 (fun r f1 l1 hp => ?_)
  obtain ⟨rfl, hQ⟩ := hp
  show Pm G RL cL_law 4 (KLw G b L xs) 974 [some (.ref b), some (.ref (ad G 0)), some (.ref (ad G 86)), some (.int (nI i))] [.int z] f1 l1
  refine P.aload_n dL_law_974 rfl rfl ?_
  refine P.aload_n dL_law_975 rfl rfl ?_
  refine P.iload_n dL_law_976 rfl rfl ?_
  refine P.iconst dL_law_977 ic_1 ?_
  refine P.iadd_n dL_law_978 (nI_add _ _) ?_
  refine P.sld (i := (i + 1)) (by omega) hL dL_law_979 ?_
  refine P.callVX (As := [.int (xs (i + 1))]) (rest := [.int z]) (hq f1 l1 hQ) ok_X10_mending (fit_lw (by decide) (Nat.le_refl _)) rfl ml_L_104 ly_86 (by decide) (by decide) rfl rfl (Nat.le_of_ble_eq_true rfl) dL_law_980 (fun r f2 l2 hp => ?_)
  obtain ⟨rfl, hJ2⟩ := hp
  show Pm G RL cL_law 4 (KLw G b L xs) 983 [some (.ref b), some (.ref (ad G 0)), some (.ref (ad G 86)), some (.int (nI i))] [.int z, .int z] f2 l2
  exact P.icmp_eq (tgt := 1370) dL_law_983 (by decide) (fun _ => hc f2 l2 hJ2) (fun h => absurd rfl h)
set_option maxRecDepth 20000 in
theorem lc_20 {G : GG} {b L : Nat} {xs : Nat → Int32} {i : Nat} (hL : L ≤ 4608) (hi : i + 9 ≤ L) {f : Nat → Nat → Nat} {l : Nat → Nat → Int64} (hJ : JJ f l) (hc : ∀ f l, JJ f l → Pm G RL cL_law 4 (KLw G b L xs) 1370 [some (.ref b), some (.ref (ad G 0)), some (.ref (ad G 86)), some (.int (nI i))] [] f l) : Pm G RL cL_law 4 (KLw G b L xs) 988 [some (.ref b), some (.ref (ad G 0)), some (.ref (ad G 86)), some (.int (nI i))] [] f l := by
  show Pm G RL cL_law 4 (KLw G b L xs) 988 [some (.ref b), some (.ref (ad G 0)), some (.ref (ad G 86)), some (.int (nI i))] [] f l
  refine P.aload_n dL_law_988 rfl rfl ?_
  obtain ⟨rv, ⟨z, rfl⟩, Q, hk, hq⟩ := pr_price (G := G)  f l hJ
  refine P.callVX (As := []) (rest := []) hk ok_X9_price (fit_lw (by decide) (Nat.le_refl _)) rfl ml_L_105 ly_0 (by decide) (by decide) rfl rfl (Nat.le_of_ble_eq_true rfl) dL_law_989 (fun r f1 l1 hp => ?_)
  obtain ⟨rfl, hQ⟩ := hp
  show Pm G RL cL_law 4 (KLw G b L xs) 992 [some (.ref b), some (.ref (ad G 0)), some (.ref (ad G 86)), some (.int (nI i))] [.int z] f1 l1
  refine P.aload_n dL_law_992 rfl rfl ?_
  refine P.callVX (As := []) (rest := [.int z]) (hq f1 l1 hQ) ok_X10_price (fit_lw (by decide) (Nat.le_refl _)) rfl ml_L_108 ly_86 (by decide) (by decide) rfl rfl (Nat.le_of_ble_eq_true rfl) dL_law_993 (fun r f2 l2 hp => ?_)
  obtain ⟨rfl, hJ2⟩ := hp
  show Pm G RL cL_law 4 (KLw G b L xs) 996 [some (.ref b), some (.ref (ad G 0)), some (.ref (ad G 86)), some (.int (nI i))] [.int z, .int z] f2 l2
  exact P.icmp_eq (tgt := 1370) dL_law_996 (by decide) (fun _ => hc f2 l2 hJ2) (fun h => absurd rfl h)
set_option maxRecDepth 20000 in
theorem lc_21 {G : GG} {b L : Nat} {xs : Nat → Int32} {i : Nat} (hL : L ≤ 4608) (hi : i + 9 ≤ L) {f : Nat → Nat → Nat} {l : Nat → Nat → Int64} (hJ : JJ f l) (hc : ∀ f l, JJ f l → Pm G RL cL_law 4 (KLw G b L xs) 1370 [some (.ref b), some (.ref (ad G 0)), some (.ref (ad G 86)), some (.int (nI i))] [] f l) : Pm G RL cL_law 4 (KLw G b L xs) 1001 [some (.ref b), some (.ref (ad G 0)), some (.ref (ad G 86)), some (.int (nI i))] [] f l := by
  show Pm G RL cL_law 4 (KLw G b L xs) 1001 [some (.ref b), some (.ref (ad G 0)), some (.ref (ad G 86)), some (.int (nI i))] [] f l
  refine P.aload_n dL_law_1001 rfl rfl ?_
  obtain ⟨rv, ⟨z, rfl⟩, Q, hk, hq⟩ := pr_best (G := G)  f l hJ
  refine P.callVX (As := []) (rest := []) hk ok_X9_best (fit_lw (by decide) (Nat.le_refl _)) rfl ml_L_109 ly_0 (by decide) (by decide) rfl rfl (Nat.le_of_ble_eq_true rfl) dL_law_1002 (fun r f1 l1 hp => ?_)
  obtain ⟨rfl, hQ⟩ := hp
  show Pm G RL cL_law 4 (KLw G b L xs) 1005 [some (.ref b), some (.ref (ad G 0)), some (.ref (ad G 86)), some (.int (nI i))] [.int z] f1 l1
  refine P.aload_n dL_law_1005 rfl rfl ?_
  refine P.callVX (As := []) (rest := [.int z]) (hq f1 l1 hQ) ok_X10_best (fit_lw (by decide) (Nat.le_refl _)) rfl ml_L_112 ly_86 (by decide) (by decide) rfl rfl (Nat.le_of_ble_eq_true rfl) dL_law_1006 (fun r f2 l2 hp => ?_)
  obtain ⟨rfl, hJ2⟩ := hp
  show Pm G RL cL_law 4 (KLw G b L xs) 1009 [some (.ref b), some (.ref (ad G 0)), some (.ref (ad G 86)), some (.int (nI i))] [.int z, .int z] f2 l2
  exact P.icmp_eq (tgt := 1370) dL_law_1009 (by decide) (fun _ => hc f2 l2 hJ2) (fun h => absurd rfl h)
set_option maxRecDepth 20000 in
theorem lc_22 {G : GG} {b L : Nat} {xs : Nat → Int32} {i : Nat} (hL : L ≤ 4608) (hi : i + 9 ≤ L) {f : Nat → Nat → Nat} {l : Nat → Nat → Int64} (hJ : JJ f l) (hc : ∀ f l, JJ f l → Pm G RL cL_law 4 (KLw G b L xs) 1370 [some (.ref b), some (.ref (ad G 0)), some (.ref (ad G 86)), some (.int (nI i))] [] f l) : Pm G RL cL_law 4 (KLw G b L xs) 1014 [some (.ref b), some (.ref (ad G 0)), some (.ref (ad G 86)), some (.int (nI i))] [] f l := by
  show Pm G RL cL_law 4 (KLw G b L xs) 1014 [some (.ref b), some (.ref (ad G 0)), some (.ref (ad G 86)), some (.int (nI i))] [] f l
  refine P.aload_n dL_law_1014 rfl rfl ?_
  refine P.aload_n dL_law_1015 rfl rfl ?_
  refine P.iload_n dL_law_1016 rfl rfl ?_
  refine P.iconst dL_law_1017 ic_1 ?_
  refine P.iadd_n dL_law_1018 (nI_add _ _) ?_
  refine P.sld (i := (i + 1)) (by omega) hL dL_law_1019 ?_
  obtain ⟨rv, ⟨z, rfl⟩, Q, hk, hq⟩ := pr_blame (G := G) ((xs (i + 1))) f l hJ
  refine P.callVX (As := [.int (xs (i + 1))]) (rest := []) hk ok_X9_blame (fit_lw (by decide) (Nat.le_refl _)) rfl ml_L_113 ly_0 (by decide) (by decide) rfl rfl (Nat.le_of_ble_eq_true rfl) dL_law_1020 (fun r f1 l1 hp => ?_)
  obtain ⟨rfl, hQ⟩ := hp
  show Pm G RL cL_law 4 (KLw G b L xs) 1023 [some (.ref b), some (.ref (ad G 0)), some (.ref (ad G 86)), some (.int (nI i))] [.int z] f1 l1
  refine P.aload_n dL_law_1023 rfl rfl ?_
  refine P.aload_n dL_law_1024 rfl rfl ?_
  refine P.iload_n dL_law_1025 rfl rfl ?_
  refine P.iconst dL_law_1026 ic_1 ?_
  refine P.iadd_n dL_law_1027 (nI_add _ _) ?_
  refine P.sld (i := (i + 1)) (by omega) hL dL_law_1028 ?_
  refine P.callVX (As := [.int (xs (i + 1))]) (rest := [.int z]) (hq f1 l1 hQ) ok_X10_blame (fit_lw (by decide) (Nat.le_refl _)) rfl ml_L_116 ly_86 (by decide) (by decide) rfl rfl (Nat.le_of_ble_eq_true rfl) dL_law_1029 (fun r f2 l2 hp => ?_)
  obtain ⟨rfl, hJ2⟩ := hp
  show Pm G RL cL_law 4 (KLw G b L xs) 1032 [some (.ref b), some (.ref (ad G 0)), some (.ref (ad G 86)), some (.int (nI i))] [.int z, .int z] f2 l2
  exact P.icmp_eq (tgt := 1370) dL_law_1032 (by decide) (fun _ => hc f2 l2 hJ2) (fun h => absurd rfl h)
set_option maxRecDepth 20000 in
theorem lc_23 {G : GG} {b L : Nat} {xs : Nat → Int32} {i : Nat} (hL : L ≤ 4608) (hi : i + 9 ≤ L) {f : Nat → Nat → Nat} {l : Nat → Nat → Int64} (hJ : JJ f l) (hc : ∀ f l, JJ f l → Pm G RL cL_law 4 (KLw G b L xs) 1370 [some (.ref b), some (.ref (ad G 0)), some (.ref (ad G 86)), some (.int (nI i))] [] f l) : Pm G RL cL_law 4 (KLw G b L xs) 1037 [some (.ref b), some (.ref (ad G 0)), some (.ref (ad G 86)), some (.int (nI i))] [] f l := by
  show Pm G RL cL_law 4 (KLw G b L xs) 1037 [some (.ref b), some (.ref (ad G 0)), some (.ref (ad G 86)), some (.int (nI i))] [] f l
  refine P.aload_n dL_law_1037 rfl rfl ?_
  refine P.aload_n dL_law_1038 rfl rfl ?_
  refine P.iload_n dL_law_1039 rfl rfl ?_
  refine P.iconst dL_law_1040 ic_1 ?_
  refine P.iadd_n dL_law_1041 (nI_add _ _) ?_
  refine P.sld (i := (i + 1)) (by omega) hL dL_law_1042 ?_
  refine P.aload_n dL_law_1043 rfl rfl ?_
  refine P.iload_n dL_law_1044 rfl rfl ?_
  refine P.iconst dL_law_1045 ic_2 ?_
  refine P.iadd_n dL_law_1046 (nI_add _ _) ?_
  refine P.sld (i := (i + 2)) (by omega) hL dL_law_1047 ?_
  refine P.aload_n dL_law_1048 rfl rfl ?_
  refine P.iload_n dL_law_1049 rfl rfl ?_
  refine P.iconst dL_law_1050 ic_3 ?_
  refine P.iadd_n dL_law_1051 (nI_add _ _) ?_
  refine P.sld (i := (i + 3)) (by omega) hL dL_law_1052 ?_
  refine P.if_eq (tgt := 1060) dL_law_1053 (by decide) (fun hb => ?_) (fun hb => ?_)
  · refine P.iconst dL_law_1060 ic_0 ?_
    obtain ⟨rv, ⟨z, rfl⟩, Q, hk, hq⟩ := pr_sum (G := G) ((xs (i + 1))) ((xs (i + 2))) (g := 0) (by decide) f l hJ
    refine P.callVX (As := [.int (xs (i + 1)), .int (xs (i + 2)), .int (nI 0)]) (rest := []) hk ok_X9_sum (fit_lw (by decide) (Nat.le_refl _)) rfl ml_L_117 ly_0 (by decide) (by decide) rfl rfl (Nat.le_of_ble_eq_true rfl) dL_law_1061 (fun r f1 l1 hp => ?_)
    obtain ⟨rfl, hQ⟩ := hp
    show Pm G RL cL_law 4 (KLw G b L xs) 1064 [some (.ref b), some (.ref (ad G 0)), some (.ref (ad G 86)), some (.int (nI i))] [.long z] f1 l1
    refine P.aload_n dL_law_1064 rfl rfl ?_
    refine P.aload_n dL_law_1065 rfl rfl ?_
    refine P.iload_n dL_law_1066 rfl rfl ?_
    refine P.iconst dL_law_1067 ic_1 ?_
    refine P.iadd_n dL_law_1068 (nI_add _ _) ?_
    refine P.sld (i := (i + 1)) (by omega) hL dL_law_1069 ?_
    refine P.aload_n dL_law_1070 rfl rfl ?_
    refine P.iload_n dL_law_1071 rfl rfl ?_
    refine P.iconst dL_law_1072 ic_2 ?_
    refine P.iadd_n dL_law_1073 (nI_add _ _) ?_
    refine P.sld (i := (i + 2)) (by omega) hL dL_law_1074 ?_
    refine P.aload_n dL_law_1075 rfl rfl ?_
    refine P.iload_n dL_law_1076 rfl rfl ?_
    refine P.iconst dL_law_1077 ic_3 ?_
    refine P.iadd_n dL_law_1078 (nI_add _ _) ?_
    refine P.sld (i := (i + 3)) (by omega) hL dL_law_1079 ?_
    refine P.if_eq (tgt := 1087) dL_law_1080 (by decide) (fun _ => ?_) (fun hb2 => absurd hb hb2)
    refine P.iconst dL_law_1087 ic_0 ?_
    refine P.callVX (As := [.int (xs (i + 1)), .int (xs (i + 2)), .int (nI 0)]) (rest := [.long z]) (hq f1 l1 hQ) ok_X10_sum (fit_lw (by decide) (Nat.le_refl _)) rfl ml_L_121 ly_86 (by decide) (by decide) rfl rfl (Nat.le_of_ble_eq_true rfl) dL_law_1088 (fun r f2 l2 hp => ?_)
    obtain ⟨rfl, hJ2⟩ := hp
    show Pm G RL cL_law 4 (KLw G b L xs) 1091 [some (.ref b), some (.ref (ad G 0)), some (.ref (ad G 86)), some (.int (nI i))] [.long z, .long z] f2 l2
    exact P.lc_eq (tgt := 1370) dL_law_1091 dL_law_1092 (by decide) (fun _ => hc f2 l2 hJ2) (fun h => absurd rfl h)
  · refine P.iconst dL_law_1056 ic_1 ?_
    refine P.goto (tgt := 1061) dL_law_1057 (by decide) ?_
    obtain ⟨rv, ⟨z, rfl⟩, Q, hk, hq⟩ := pr_sum (G := G) ((xs (i + 1))) ((xs (i + 2))) (g := 1) (by decide) f l hJ
    refine P.callVX (As := [.int (xs (i + 1)), .int (xs (i + 2)), .int (nI 1)]) (rest := []) hk ok_X9_sum (fit_lw (by decide) (Nat.le_refl _)) rfl ml_L_117 ly_0 (by decide) (by decide) rfl rfl (Nat.le_of_ble_eq_true rfl) dL_law_1061 (fun r f1 l1 hp => ?_)
    obtain ⟨rfl, hQ⟩ := hp
    show Pm G RL cL_law 4 (KLw G b L xs) 1064 [some (.ref b), some (.ref (ad G 0)), some (.ref (ad G 86)), some (.int (nI i))] [.long z] f1 l1
    refine P.aload_n dL_law_1064 rfl rfl ?_
    refine P.aload_n dL_law_1065 rfl rfl ?_
    refine P.iload_n dL_law_1066 rfl rfl ?_
    refine P.iconst dL_law_1067 ic_1 ?_
    refine P.iadd_n dL_law_1068 (nI_add _ _) ?_
    refine P.sld (i := (i + 1)) (by omega) hL dL_law_1069 ?_
    refine P.aload_n dL_law_1070 rfl rfl ?_
    refine P.iload_n dL_law_1071 rfl rfl ?_
    refine P.iconst dL_law_1072 ic_2 ?_
    refine P.iadd_n dL_law_1073 (nI_add _ _) ?_
    refine P.sld (i := (i + 2)) (by omega) hL dL_law_1074 ?_
    refine P.aload_n dL_law_1075 rfl rfl ?_
    refine P.iload_n dL_law_1076 rfl rfl ?_
    refine P.iconst dL_law_1077 ic_3 ?_
    refine P.iadd_n dL_law_1078 (nI_add _ _) ?_
    refine P.sld (i := (i + 3)) (by omega) hL dL_law_1079 ?_
    refine P.if_eq (tgt := 1087) dL_law_1080 (by decide) (fun hb2 => absurd hb2 hb) (fun _ => ?_)
    refine P.iconst dL_law_1083 ic_1 ?_
    refine P.goto (tgt := 1088) dL_law_1084 (by decide) ?_
    refine P.callVX (As := [.int (xs (i + 1)), .int (xs (i + 2)), .int (nI 1)]) (rest := [.long z]) (hq f1 l1 hQ) ok_X10_sum (fit_lw (by decide) (Nat.le_refl _)) rfl ml_L_121 ly_86 (by decide) (by decide) rfl rfl (Nat.le_of_ble_eq_true rfl) dL_law_1088 (fun r f2 l2 hp => ?_)
    obtain ⟨rfl, hJ2⟩ := hp
    show Pm G RL cL_law 4 (KLw G b L xs) 1091 [some (.ref b), some (.ref (ad G 0)), some (.ref (ad G 86)), some (.int (nI i))] [.long z, .long z] f2 l2
    exact P.lc_eq (tgt := 1370) dL_law_1091 dL_law_1092 (by decide) (fun _ => hc f2 l2 hJ2) (fun h => absurd rfl h)
set_option maxRecDepth 20000 in
theorem lc_24 {G : GG} {b L : Nat} {xs : Nat → Int32} {i : Nat} (hL : L ≤ 4608) (hi : i + 9 ≤ L) {f : Nat → Nat → Nat} {l : Nat → Nat → Int64} (hJ : JJ f l) (hc : ∀ f l, JJ f l → Pm G RL cL_law 4 (KLw G b L xs) 1370 [some (.ref b), some (.ref (ad G 0)), some (.ref (ad G 86)), some (.int (nI i))] [] f l) : Pm G RL cL_law 4 (KLw G b L xs) 1097 [some (.ref b), some (.ref (ad G 0)), some (.ref (ad G 86)), some (.int (nI i))] [] f l := by
  show Pm G RL cL_law 4 (KLw G b L xs) 1097 [some (.ref b), some (.ref (ad G 0)), some (.ref (ad G 86)), some (.int (nI i))] [] f l
  refine P.aload_n dL_law_1097 rfl rfl ?_
  obtain ⟨rv, ⟨z, rfl⟩, Q, hk, hq⟩ := pr_mend (G := G)  f l hJ
  refine P.callVX (As := []) (rest := []) hk ok_X9_mend (fit_lw (by decide) (Nat.le_refl _)) rfl ml_L_122 ly_0 (by decide) (by decide) rfl rfl (Nat.le_of_ble_eq_true rfl) dL_law_1098 (fun r f1 l1 hp => ?_)
  obtain ⟨rfl, hQ⟩ := hp
  show Pm G RL cL_law 4 (KLw G b L xs) 1101 [some (.ref b), some (.ref (ad G 0)), some (.ref (ad G 86)), some (.int (nI i))] [.int z] f1 l1
  refine P.aload_n dL_law_1101 rfl rfl ?_
  refine P.callVX (As := []) (rest := [.int z]) (hq f1 l1 hQ) ok_X10_mend (fit_lw (by decide) (Nat.le_refl _)) rfl ml_L_125 ly_86 (by decide) (by decide) rfl rfl (Nat.le_of_ble_eq_true rfl) dL_law_1102 (fun r f2 l2 hp => ?_)
  obtain ⟨rfl, hJ2⟩ := hp
  show Pm G RL cL_law 4 (KLw G b L xs) 1105 [some (.ref b), some (.ref (ad G 0)), some (.ref (ad G 86)), some (.int (nI i))] [.int z, .int z] f2 l2
  exact P.icmp_eq (tgt := 1370) dL_law_1105 (by decide) (fun _ => hc f2 l2 hJ2) (fun h => absurd rfl h)
set_option maxRecDepth 20000 in
theorem lc_25 {G : GG} {b L : Nat} {xs : Nat → Int32} {i : Nat} (hL : L ≤ 4608) (hi : i + 9 ≤ L) {f : Nat → Nat → Nat} {l : Nat → Nat → Int64} (hJ : JJ f l) (hc : ∀ f l, JJ f l → Pm G RL cL_law 4 (KLw G b L xs) 1370 [some (.ref b), some (.ref (ad G 0)), some (.ref (ad G 86)), some (.int (nI i))] [] f l) : Pm G RL cL_law 4 (KLw G b L xs) 1110 [some (.ref b), some (.ref (ad G 0)), some (.ref (ad G 86)), some (.int (nI i))] [] f l := by
  show Pm G RL cL_law 4 (KLw G b L xs) 1110 [some (.ref b), some (.ref (ad G 0)), some (.ref (ad G 86)), some (.int (nI i))] [] f l
  refine P.aload_n dL_law_1110 rfl rfl ?_
  refine P.aload_n dL_law_1111 rfl rfl ?_
  refine P.iload_n dL_law_1112 rfl rfl ?_
  refine P.iconst dL_law_1113 ic_1 ?_
  refine P.iadd_n dL_law_1114 (nI_add _ _) ?_
  refine P.sld (i := (i + 1)) (by omega) hL dL_law_1115 ?_
  obtain ⟨rv, ⟨z, rfl⟩, Q, hk, hq⟩ := pr_settle (G := G) ((xs (i + 1))) f l hJ
  refine P.callVX (As := [.int (xs (i + 1))]) (rest := []) hk ok_X9_settle (fit_lw (by decide) (Nat.le_refl _)) rfl ml_L_126 ly_0 (by decide) (by decide) rfl rfl (Nat.le_of_ble_eq_true rfl) dL_law_1116 (fun r f1 l1 hp => ?_)
  obtain ⟨rfl, hQ⟩ := hp
  show Pm G RL cL_law 4 (KLw G b L xs) 1119 [some (.ref b), some (.ref (ad G 0)), some (.ref (ad G 86)), some (.int (nI i))] [.int z] f1 l1
  refine P.aload_n dL_law_1119 rfl rfl ?_
  refine P.aload_n dL_law_1120 rfl rfl ?_
  refine P.iload_n dL_law_1121 rfl rfl ?_
  refine P.iconst dL_law_1122 ic_1 ?_
  refine P.iadd_n dL_law_1123 (nI_add _ _) ?_
  refine P.sld (i := (i + 1)) (by omega) hL dL_law_1124 ?_
  refine P.callVX (As := [.int (xs (i + 1))]) (rest := [.int z]) (hq f1 l1 hQ) ok_X10_settle (fit_lw (by decide) (Nat.le_refl _)) rfl ml_L_129 ly_86 (by decide) (by decide) rfl rfl (Nat.le_of_ble_eq_true rfl) dL_law_1125 (fun r f2 l2 hp => ?_)
  obtain ⟨rfl, hJ2⟩ := hp
  show Pm G RL cL_law 4 (KLw G b L xs) 1128 [some (.ref b), some (.ref (ad G 0)), some (.ref (ad G 86)), some (.int (nI i))] [.int z, .int z] f2 l2
  exact P.icmp_eq (tgt := 1370) dL_law_1128 (by decide) (fun _ => hc f2 l2 hJ2) (fun h => absurd rfl h)
set_option maxRecDepth 20000 in
theorem lc_26 {G : GG} {b L : Nat} {xs : Nat → Int32} {i : Nat} (hL : L ≤ 4608) (hi : i + 9 ≤ L) {f : Nat → Nat → Nat} {l : Nat → Nat → Int64} (hJ : JJ f l) (hc : ∀ f l, JJ f l → Pm G RL cL_law 4 (KLw G b L xs) 1370 [some (.ref b), some (.ref (ad G 0)), some (.ref (ad G 86)), some (.int (nI i))] [] f l) : Pm G RL cL_law 4 (KLw G b L xs) 1133 [some (.ref b), some (.ref (ad G 0)), some (.ref (ad G 86)), some (.int (nI i))] [] f l := by
  show Pm G RL cL_law 4 (KLw G b L xs) 1133 [some (.ref b), some (.ref (ad G 0)), some (.ref (ad G 86)), some (.int (nI i))] [] f l
  refine P.aload_n dL_law_1133 rfl rfl ?_
  obtain ⟨rv, ⟨z, rfl⟩, Q, hk, hq⟩ := pr_ask (G := G)  f l hJ
  refine P.callVX (As := []) (rest := []) hk ok_X9_ask (fit_lw (by decide) (Nat.le_refl _)) rfl ml_L_130 ly_0 (by decide) (by decide) rfl rfl (Nat.le_of_ble_eq_true rfl) dL_law_1134 (fun r f1 l1 hp => ?_)
  obtain ⟨rfl, hQ⟩ := hp
  show Pm G RL cL_law 4 (KLw G b L xs) 1137 [some (.ref b), some (.ref (ad G 0)), some (.ref (ad G 86)), some (.int (nI i))] [.int z] f1 l1
  refine P.aload_n dL_law_1137 rfl rfl ?_
  refine P.callVX (As := []) (rest := [.int z]) (hq f1 l1 hQ) ok_X10_ask (fit_lw (by decide) (Nat.le_refl _)) rfl ml_L_133 ly_86 (by decide) (by decide) rfl rfl (Nat.le_of_ble_eq_true rfl) dL_law_1138 (fun r f2 l2 hp => ?_)
  obtain ⟨rfl, hJ2⟩ := hp
  show Pm G RL cL_law 4 (KLw G b L xs) 1141 [some (.ref b), some (.ref (ad G 0)), some (.ref (ad G 86)), some (.int (nI i))] [.int z, .int z] f2 l2
  exact P.icmp_eq (tgt := 1370) dL_law_1141 (by decide) (fun _ => hc f2 l2 hJ2) (fun h => absurd rfl h)
set_option maxRecDepth 20000 in
theorem lc_27 {G : GG} {b L : Nat} {xs : Nat → Int32} {i : Nat} (hL : L ≤ 4608) (hi : i + 9 ≤ L) {f : Nat → Nat → Nat} {l : Nat → Nat → Int64} (hJ : JJ f l) (hc : ∀ f l, JJ f l → Pm G RL cL_law 4 (KLw G b L xs) 1370 [some (.ref b), some (.ref (ad G 0)), some (.ref (ad G 86)), some (.int (nI i))] [] f l) : Pm G RL cL_law 4 (KLw G b L xs) 1146 [some (.ref b), some (.ref (ad G 0)), some (.ref (ad G 86)), some (.int (nI i))] [] f l := by
  show Pm G RL cL_law 4 (KLw G b L xs) 1146 [some (.ref b), some (.ref (ad G 0)), some (.ref (ad G 86)), some (.int (nI i))] [] f l
  refine P.aload_n dL_law_1146 rfl rfl ?_
  refine P.aload_n dL_law_1147 rfl rfl ?_
  refine P.iload_n dL_law_1148 rfl rfl ?_
  refine P.iconst dL_law_1149 ic_1 ?_
  refine P.iadd_n dL_law_1150 (nI_add _ _) ?_
  refine P.sld (i := (i + 1)) (by omega) hL dL_law_1151 ?_
  obtain ⟨rv, ⟨z, rfl⟩, Q, hk, hq⟩ := pr_part (G := G) ((xs (i + 1))) f l hJ
  refine P.callVX (As := [.int (xs (i + 1))]) (rest := []) hk ok_X9_part (fit_lw (by decide) (Nat.le_refl _)) rfl ml_L_134 ly_0 (by decide) (by decide) rfl rfl (Nat.le_of_ble_eq_true rfl) dL_law_1152 (fun r f1 l1 hp => ?_)
  obtain ⟨rfl, hQ⟩ := hp
  show Pm G RL cL_law 4 (KLw G b L xs) 1155 [some (.ref b), some (.ref (ad G 0)), some (.ref (ad G 86)), some (.int (nI i))] [.int z] f1 l1
  refine P.aload_n dL_law_1155 rfl rfl ?_
  refine P.aload_n dL_law_1156 rfl rfl ?_
  refine P.iload_n dL_law_1157 rfl rfl ?_
  refine P.iconst dL_law_1158 ic_1 ?_
  refine P.iadd_n dL_law_1159 (nI_add _ _) ?_
  refine P.sld (i := (i + 1)) (by omega) hL dL_law_1160 ?_
  refine P.callVX (As := [.int (xs (i + 1))]) (rest := [.int z]) (hq f1 l1 hQ) ok_X10_part (fit_lw (by decide) (Nat.le_refl _)) rfl ml_L_137 ly_86 (by decide) (by decide) rfl rfl (Nat.le_of_ble_eq_true rfl) dL_law_1161 (fun r f2 l2 hp => ?_)
  obtain ⟨rfl, hJ2⟩ := hp
  show Pm G RL cL_law 4 (KLw G b L xs) 1164 [some (.ref b), some (.ref (ad G 0)), some (.ref (ad G 86)), some (.int (nI i))] [.int z, .int z] f2 l2
  exact P.icmp_eq (tgt := 1370) dL_law_1164 (by decide) (fun _ => hc f2 l2 hJ2) (fun h => absurd rfl h)
set_option maxRecDepth 20000 in
theorem lc_28 {G : GG} {b L : Nat} {xs : Nat → Int32} {i : Nat} (hL : L ≤ 4608) (hi : i + 9 ≤ L) {f : Nat → Nat → Nat} {l : Nat → Nat → Int64} (hJ : JJ f l) (hc : ∀ f l, JJ f l → Pm G RL cL_law 4 (KLw G b L xs) 1370 [some (.ref b), some (.ref (ad G 0)), some (.ref (ad G 86)), some (.int (nI i))] [] f l) : Pm G RL cL_law 4 (KLw G b L xs) 1169 [some (.ref b), some (.ref (ad G 0)), some (.ref (ad G 86)), some (.int (nI i))] [] f l := by
  show Pm G RL cL_law 4 (KLw G b L xs) 1169 [some (.ref b), some (.ref (ad G 0)), some (.ref (ad G 86)), some (.int (nI i))] [] f l
  refine P.aload_n dL_law_1169 rfl rfl ?_
  refine P.aload_n dL_law_1170 rfl rfl ?_
  refine P.iload_n dL_law_1171 rfl rfl ?_
  refine P.iconst dL_law_1172 ic_1 ?_
  refine P.iadd_n dL_law_1173 (nI_add _ _) ?_
  refine P.sld (i := (i + 1)) (by omega) hL dL_law_1174 ?_
  refine P.aload_n dL_law_1175 rfl rfl ?_
  refine P.iload_n dL_law_1176 rfl rfl ?_
  refine P.iconst dL_law_1177 ic_2 ?_
  refine P.iadd_n dL_law_1178 (nI_add _ _) ?_
  refine P.sld (i := (i + 2)) (by omega) hL dL_law_1179 ?_
  refine P.aload_n dL_law_1180 rfl rfl ?_
  refine P.iload_n dL_law_1181 rfl rfl ?_
  refine P.iconst dL_law_1182 ic_3 ?_
  refine P.iadd_n dL_law_1183 (nI_add _ _) ?_
  refine P.sld (i := (i + 3)) (by omega) hL dL_law_1184 ?_
  refine P.i2l dL_law_1185 rfl ?_
  refine P.bipush (v := nI 32) dL_law_1186 rfl ?_
  refine P.lshl dL_law_1188 rfl ?_
  refine P.aload_n dL_law_1189 rfl rfl ?_
  refine P.iload_n dL_law_1190 rfl rfl ?_
  refine P.iconst dL_law_1191 ic_4 ?_
  refine P.iadd_n dL_law_1192 (nI_add _ _) ?_
  refine P.sld (i := (i + 4)) (by omega) hL dL_law_1193 ?_
  refine P.i2l dL_law_1194 rfl ?_
  refine P.ldc2 dL_law_1195 co_L_23 ?_
  refine P.land dL_law_1198 ?_
  refine P.lor dL_law_1199 ?_
  obtain ⟨rv, ⟨z, rfl⟩, Q, hk, hq⟩ := pr_tell (G := G) ((xs (i + 1))) ((xs (i + 2))) (((((xs (i + 3)).toInt64) <<< ((nI 32).toInt64 &&& 63)) ||| (((xs (i + 4)).toInt64) &&& (4294967295)))) f l hJ
  refine P.callVX (As := [.int (xs (i + 1)), .int (xs (i + 2)), .long ((((xs (i + 3)).toInt64) <<< ((nI 32).toInt64 &&& 63)) ||| (((xs (i + 4)).toInt64) &&& (4294967295)))]) (rest := []) hk ok_X9_tell (fit_lw (by decide) (Nat.le_refl _)) rfl ml_L_138 ly_0 (by decide) (by decide) rfl rfl (Nat.le_of_ble_eq_true rfl) dL_law_1200 (fun r f1 l1 hp => ?_)
  obtain ⟨rfl, hQ⟩ := hp
  show Pm G RL cL_law 4 (KLw G b L xs) 1203 [some (.ref b), some (.ref (ad G 0)), some (.ref (ad G 86)), some (.int (nI i))] [.int z] f1 l1
  refine P.aload_n dL_law_1203 rfl rfl ?_
  refine P.aload_n dL_law_1204 rfl rfl ?_
  refine P.iload_n dL_law_1205 rfl rfl ?_
  refine P.iconst dL_law_1206 ic_1 ?_
  refine P.iadd_n dL_law_1207 (nI_add _ _) ?_
  refine P.sld (i := (i + 1)) (by omega) hL dL_law_1208 ?_
  refine P.aload_n dL_law_1209 rfl rfl ?_
  refine P.iload_n dL_law_1210 rfl rfl ?_
  refine P.iconst dL_law_1211 ic_2 ?_
  refine P.iadd_n dL_law_1212 (nI_add _ _) ?_
  refine P.sld (i := (i + 2)) (by omega) hL dL_law_1213 ?_
  refine P.aload_n dL_law_1214 rfl rfl ?_
  refine P.iload_n dL_law_1215 rfl rfl ?_
  refine P.iconst dL_law_1216 ic_3 ?_
  refine P.iadd_n dL_law_1217 (nI_add _ _) ?_
  refine P.sld (i := (i + 3)) (by omega) hL dL_law_1218 ?_
  refine P.i2l dL_law_1219 rfl ?_
  refine P.bipush (v := nI 32) dL_law_1220 rfl ?_
  refine P.lshl dL_law_1222 rfl ?_
  refine P.aload_n dL_law_1223 rfl rfl ?_
  refine P.iload_n dL_law_1224 rfl rfl ?_
  refine P.iconst dL_law_1225 ic_4 ?_
  refine P.iadd_n dL_law_1226 (nI_add _ _) ?_
  refine P.sld (i := (i + 4)) (by omega) hL dL_law_1227 ?_
  refine P.i2l dL_law_1228 rfl ?_
  refine P.ldc2 dL_law_1229 co_L_23 ?_
  refine P.land dL_law_1232 ?_
  refine P.lor dL_law_1233 ?_
  refine P.callVX (As := [.int (xs (i + 1)), .int (xs (i + 2)), .long ((((xs (i + 3)).toInt64) <<< ((nI 32).toInt64 &&& 63)) ||| (((xs (i + 4)).toInt64) &&& (4294967295)))]) (rest := [.int z]) (hq f1 l1 hQ) ok_X10_tell (fit_lw (by decide) (Nat.le_refl _)) rfl ml_L_141 ly_86 (by decide) (by decide) rfl rfl (Nat.le_of_ble_eq_true rfl) dL_law_1234 (fun r f2 l2 hp => ?_)
  obtain ⟨rfl, hJ2⟩ := hp
  show Pm G RL cL_law 4 (KLw G b L xs) 1237 [some (.ref b), some (.ref (ad G 0)), some (.ref (ad G 86)), some (.int (nI i))] [.int z, .int z] f2 l2
  exact P.icmp_eq (tgt := 1370) dL_law_1237 (by decide) (fun _ => hc f2 l2 hJ2) (fun h => absurd rfl h)
set_option maxRecDepth 20000 in
theorem lc_29 {G : GG} {b L : Nat} {xs : Nat → Int32} {i : Nat} (hL : L ≤ 4608) (hi : i + 9 ≤ L) {f : Nat → Nat → Nat} {l : Nat → Nat → Int64} (hJ : JJ f l) (hc : ∀ f l, JJ f l → Pm G RL cL_law 4 (KLw G b L xs) 1370 [some (.ref b), some (.ref (ad G 0)), some (.ref (ad G 86)), some (.int (nI i))] [] f l) : Pm G RL cL_law 4 (KLw G b L xs) 1242 [some (.ref b), some (.ref (ad G 0)), some (.ref (ad G 86)), some (.int (nI i))] [] f l := by
  show Pm G RL cL_law 4 (KLw G b L xs) 1242 [some (.ref b), some (.ref (ad G 0)), some (.ref (ad G 86)), some (.int (nI i))] [] f l
  refine P.aload_n dL_law_1242 rfl rfl ?_
  refine P.aload_n dL_law_1243 rfl rfl ?_
  refine P.iload_n dL_law_1244 rfl rfl ?_
  refine P.iconst dL_law_1245 ic_1 ?_
  refine P.iadd_n dL_law_1246 (nI_add _ _) ?_
  refine P.sld (i := (i + 1)) (by omega) hL dL_law_1247 ?_
  refine P.aload_n dL_law_1248 rfl rfl ?_
  refine P.iload_n dL_law_1249 rfl rfl ?_
  refine P.iconst dL_law_1250 ic_2 ?_
  refine P.iadd_n dL_law_1251 (nI_add _ _) ?_
  refine P.sld (i := (i + 2)) (by omega) hL dL_law_1252 ?_
  refine P.aload_n dL_law_1253 rfl rfl ?_
  refine P.iload_n dL_law_1254 rfl rfl ?_
  refine P.iconst dL_law_1255 ic_3 ?_
  refine P.iadd_n dL_law_1256 (nI_add _ _) ?_
  refine P.sld (i := (i + 3)) (by omega) hL dL_law_1257 ?_
  refine P.aload_n dL_law_1258 rfl rfl ?_
  refine P.iload_n dL_law_1259 rfl rfl ?_
  refine P.iconst dL_law_1260 ic_4 ?_
  refine P.iadd_n dL_law_1261 (nI_add _ _) ?_
  refine P.sld (i := (i + 4)) (by omega) hL dL_law_1262 ?_
  obtain ⟨rv, ⟨z, rfl⟩, Q, hk, hq⟩ := pr_join (G := G) ((xs (i + 1))) ((xs (i + 2))) ((xs (i + 3))) ((xs (i + 4))) f l hJ
  refine P.callVX (As := [.int (xs (i + 1)), .int (xs (i + 2)), .int (xs (i + 3)), .int (xs (i + 4))]) (rest := []) hk ok_X9_join (fit_lw (by decide) (Nat.le_refl _)) rfl ml_L_142 ly_0 (by decide) (by decide) rfl rfl (Nat.le_of_ble_eq_true rfl) dL_law_1263 (fun r f1 l1 hp => ?_)
  obtain ⟨rfl, hQ⟩ := hp
  show Pm G RL cL_law 4 (KLw G b L xs) 1266 [some (.ref b), some (.ref (ad G 0)), some (.ref (ad G 86)), some (.int (nI i))] [.int z] f1 l1
  refine P.aload_n dL_law_1266 rfl rfl ?_
  refine P.aload_n dL_law_1267 rfl rfl ?_
  refine P.iload_n dL_law_1268 rfl rfl ?_
  refine P.iconst dL_law_1269 ic_1 ?_
  refine P.iadd_n dL_law_1270 (nI_add _ _) ?_
  refine P.sld (i := (i + 1)) (by omega) hL dL_law_1271 ?_
  refine P.aload_n dL_law_1272 rfl rfl ?_
  refine P.iload_n dL_law_1273 rfl rfl ?_
  refine P.iconst dL_law_1274 ic_2 ?_
  refine P.iadd_n dL_law_1275 (nI_add _ _) ?_
  refine P.sld (i := (i + 2)) (by omega) hL dL_law_1276 ?_
  refine P.aload_n dL_law_1277 rfl rfl ?_
  refine P.iload_n dL_law_1278 rfl rfl ?_
  refine P.iconst dL_law_1279 ic_3 ?_
  refine P.iadd_n dL_law_1280 (nI_add _ _) ?_
  refine P.sld (i := (i + 3)) (by omega) hL dL_law_1281 ?_
  refine P.aload_n dL_law_1282 rfl rfl ?_
  refine P.iload_n dL_law_1283 rfl rfl ?_
  refine P.iconst dL_law_1284 ic_4 ?_
  refine P.iadd_n dL_law_1285 (nI_add _ _) ?_
  refine P.sld (i := (i + 4)) (by omega) hL dL_law_1286 ?_
  refine P.callVX (As := [.int (xs (i + 1)), .int (xs (i + 2)), .int (xs (i + 3)), .int (xs (i + 4))]) (rest := [.int z]) (hq f1 l1 hQ) ok_X10_join (fit_lw (by decide) (Nat.le_refl _)) rfl ml_L_145 ly_86 (by decide) (by decide) rfl rfl (Nat.le_of_ble_eq_true rfl) dL_law_1287 (fun r f2 l2 hp => ?_)
  obtain ⟨rfl, hJ2⟩ := hp
  show Pm G RL cL_law 4 (KLw G b L xs) 1290 [some (.ref b), some (.ref (ad G 0)), some (.ref (ad G 86)), some (.int (nI i))] [.int z, .int z] f2 l2
  exact P.icmp_eq (tgt := 1370) dL_law_1290 (by decide) (fun _ => hc f2 l2 hJ2) (fun h => absurd rfl h)
set_option maxRecDepth 20000 in
theorem lc_30 {G : GG} {b L : Nat} {xs : Nat → Int32} {i : Nat} (hL : L ≤ 4608) (hi : i + 9 ≤ L) {f : Nat → Nat → Nat} {l : Nat → Nat → Int64} (hJ : JJ f l) (hc : ∀ f l, JJ f l → Pm G RL cL_law 4 (KLw G b L xs) 1370 [some (.ref b), some (.ref (ad G 0)), some (.ref (ad G 86)), some (.int (nI i))] [] f l) : Pm G RL cL_law 4 (KLw G b L xs) 1295 [some (.ref b), some (.ref (ad G 0)), some (.ref (ad G 86)), some (.int (nI i))] [] f l := by
  show Pm G RL cL_law 4 (KLw G b L xs) 1295 [some (.ref b), some (.ref (ad G 0)), some (.ref (ad G 86)), some (.int (nI i))] [] f l
  refine P.aload_n dL_law_1295 rfl rfl ?_
  obtain ⟨rv, ⟨z, rfl⟩, Q, hk, hq⟩ := pr_stands (G := G)  f l hJ
  refine P.callVX (As := []) (rest := []) hk ok_X9_stands (fit_lw (by decide) (Nat.le_refl _)) rfl ml_L_146 ly_0 (by decide) (by decide) rfl rfl (Nat.le_of_ble_eq_true rfl) dL_law_1296 (fun r f1 l1 hp => ?_)
  obtain ⟨rfl, hQ⟩ := hp
  show Pm G RL cL_law 4 (KLw G b L xs) 1299 [some (.ref b), some (.ref (ad G 0)), some (.ref (ad G 86)), some (.int (nI i))] [.int z] f1 l1
  refine P.aload_n dL_law_1299 rfl rfl ?_
  refine P.callVX (As := []) (rest := [.int z]) (hq f1 l1 hQ) ok_X10_stands (fit_lw (by decide) (Nat.le_refl _)) rfl ml_L_149 ly_86 (by decide) (by decide) rfl rfl (Nat.le_of_ble_eq_true rfl) dL_law_1300 (fun r f2 l2 hp => ?_)
  obtain ⟨rfl, hJ2⟩ := hp
  show Pm G RL cL_law 4 (KLw G b L xs) 1303 [some (.ref b), some (.ref (ad G 0)), some (.ref (ad G 86)), some (.int (nI i))] [.int z, .int z] f2 l2
  exact P.icmp_eq (tgt := 1370) dL_law_1303 (by decide) (fun _ => hc f2 l2 hJ2) (fun h => absurd rfl h)
set_option maxRecDepth 20000 in
theorem lc_31 {G : GG} {b L : Nat} {xs : Nat → Int32} {i : Nat} (hL : L ≤ 4608) (hi : i + 9 ≤ L) {f : Nat → Nat → Nat} {l : Nat → Nat → Int64} (hJ : JJ f l) (hc : ∀ f l, JJ f l → Pm G RL cL_law 4 (KLw G b L xs) 1370 [some (.ref b), some (.ref (ad G 0)), some (.ref (ad G 86)), some (.int (nI i))] [] f l) : Pm G RL cL_law 4 (KLw G b L xs) 1308 [some (.ref b), some (.ref (ad G 0)), some (.ref (ad G 86)), some (.int (nI i))] [] f l := by
  show Pm G RL cL_law 4 (KLw G b L xs) 1308 [some (.ref b), some (.ref (ad G 0)), some (.ref (ad G 86)), some (.int (nI i))] [] f l
  refine P.aload_n dL_law_1308 rfl rfl ?_
  obtain ⟨rv, ⟨z, rfl⟩, Q, hk, hq⟩ := pr_often (G := G)  f l hJ
  refine P.callVX (As := []) (rest := []) hk ok_X9_often (fit_lw (by decide) (Nat.le_refl _)) rfl ml_L_150 ly_0 (by decide) (by decide) rfl rfl (Nat.le_of_ble_eq_true rfl) dL_law_1309 (fun r f1 l1 hp => ?_)
  obtain ⟨rfl, hQ⟩ := hp
  show Pm G RL cL_law 4 (KLw G b L xs) 1312 [some (.ref b), some (.ref (ad G 0)), some (.ref (ad G 86)), some (.int (nI i))] [.int z] f1 l1
  refine P.aload_n dL_law_1312 rfl rfl ?_
  refine P.callVX (As := []) (rest := [.int z]) (hq f1 l1 hQ) ok_X10_often (fit_lw (by decide) (Nat.le_refl _)) rfl ml_L_153 ly_86 (by decide) (by decide) rfl rfl (Nat.le_of_ble_eq_true rfl) dL_law_1313 (fun r f2 l2 hp => ?_)
  obtain ⟨rfl, hJ2⟩ := hp
  show Pm G RL cL_law 4 (KLw G b L xs) 1316 [some (.ref b), some (.ref (ad G 0)), some (.ref (ad G 86)), some (.int (nI i))] [.int z, .int z] f2 l2
  exact P.icmp_eq (tgt := 1370) dL_law_1316 (by decide) (fun _ => hc f2 l2 hJ2) (fun h => absurd rfl h)
set_option maxRecDepth 20000 in
theorem lc_32 {G : GG} {b L : Nat} {xs : Nat → Int32} {i : Nat} (hL : L ≤ 4608) (hi : i + 9 ≤ L) {f : Nat → Nat → Nat} {l : Nat → Nat → Int64} (hJ : JJ f l) (hc : ∀ f l, JJ f l → Pm G RL cL_law 4 (KLw G b L xs) 1370 [some (.ref b), some (.ref (ad G 0)), some (.ref (ad G 86)), some (.int (nI i))] [] f l) : Pm G RL cL_law 4 (KLw G b L xs) 1321 [some (.ref b), some (.ref (ad G 0)), some (.ref (ad G 86)), some (.int (nI i))] [] f l := by
  show Pm G RL cL_law 4 (KLw G b L xs) 1321 [some (.ref b), some (.ref (ad G 0)), some (.ref (ad G 86)), some (.int (nI i))] [] f l
  refine P.aload_n dL_law_1321 rfl rfl ?_
  obtain ⟨rv, ⟨z, rfl⟩, Q, hk, hq⟩ := pr_sure (G := G)  f l hJ
  refine P.callVX (As := []) (rest := []) hk ok_X9_sure (fit_lw (by decide) (Nat.le_refl _)) rfl ml_L_154 ly_0 (by decide) (by decide) rfl rfl (Nat.le_of_ble_eq_true rfl) dL_law_1322 (fun r f1 l1 hp => ?_)
  obtain ⟨rfl, hQ⟩ := hp
  show Pm G RL cL_law 4 (KLw G b L xs) 1325 [some (.ref b), some (.ref (ad G 0)), some (.ref (ad G 86)), some (.int (nI i))] [.int z] f1 l1
  refine P.aload_n dL_law_1325 rfl rfl ?_
  refine P.callVX (As := []) (rest := [.int z]) (hq f1 l1 hQ) ok_X10_sure (fit_lw (by decide) (Nat.le_refl _)) rfl ml_L_157 ly_86 (by decide) (by decide) rfl rfl (Nat.le_of_ble_eq_true rfl) dL_law_1326 (fun r f2 l2 hp => ?_)
  obtain ⟨rfl, hJ2⟩ := hp
  show Pm G RL cL_law 4 (KLw G b L xs) 1329 [some (.ref b), some (.ref (ad G 0)), some (.ref (ad G 86)), some (.int (nI i))] [.int z, .int z] f2 l2
  exact P.icmp_eq (tgt := 1370) dL_law_1329 (by decide) (fun _ => hc f2 l2 hJ2) (fun h => absurd rfl h)
set_option maxRecDepth 20000 in
theorem lc_33 {G : GG} {b L : Nat} {xs : Nat → Int32} {i : Nat} (hL : L ≤ 4608) (hi : i + 9 ≤ L) {f : Nat → Nat → Nat} {l : Nat → Nat → Int64} (hJ : JJ f l) (hc : ∀ f l, JJ f l → Pm G RL cL_law 4 (KLw G b L xs) 1370 [some (.ref b), some (.ref (ad G 0)), some (.ref (ad G 86)), some (.int (nI i))] [] f l) : Pm G RL cL_law 4 (KLw G b L xs) 1334 [some (.ref b), some (.ref (ad G 0)), some (.ref (ad G 86)), some (.int (nI i))] [] f l := by
  show Pm G RL cL_law 4 (KLw G b L xs) 1334 [some (.ref b), some (.ref (ad G 0)), some (.ref (ad G 86)), some (.int (nI i))] [] f l
  refine P.aload_n dL_law_1334 rfl rfl ?_
  obtain ⟨rv, ⟨z, rfl⟩, Q, hk, hq⟩ := pr_against (G := G)  f l hJ
  refine P.callVX (As := []) (rest := []) hk ok_X9_against (fit_lw (by decide) (Nat.le_refl _)) rfl ml_L_158 ly_0 (by decide) (by decide) rfl rfl (Nat.le_of_ble_eq_true rfl) dL_law_1335 (fun r f1 l1 hp => ?_)
  obtain ⟨rfl, hQ⟩ := hp
  show Pm G RL cL_law 4 (KLw G b L xs) 1338 [some (.ref b), some (.ref (ad G 0)), some (.ref (ad G 86)), some (.int (nI i))] [.int z] f1 l1
  refine P.aload_n dL_law_1338 rfl rfl ?_
  refine P.callVX (As := []) (rest := [.int z]) (hq f1 l1 hQ) ok_X10_against (fit_lw (by decide) (Nat.le_refl _)) rfl ml_L_161 ly_86 (by decide) (by decide) rfl rfl (Nat.le_of_ble_eq_true rfl) dL_law_1339 (fun r f2 l2 hp => ?_)
  obtain ⟨rfl, hJ2⟩ := hp
  show Pm G RL cL_law 4 (KLw G b L xs) 1342 [some (.ref b), some (.ref (ad G 0)), some (.ref (ad G 86)), some (.int (nI i))] [.int z, .int z] f2 l2
  exact P.icmp_eq (tgt := 1370) dL_law_1342 (by decide) (fun _ => hc f2 l2 hJ2) (fun h => absurd rfl h)
set_option maxRecDepth 20000 in
theorem lc_34 {G : GG} {b L : Nat} {xs : Nat → Int32} {i : Nat} (hL : L ≤ 4608) (hi : i + 9 ≤ L) {f : Nat → Nat → Nat} {l : Nat → Nat → Int64} (hJ : JJ f l) (hc : ∀ f l, JJ f l → Pm G RL cL_law 4 (KLw G b L xs) 1370 [some (.ref b), some (.ref (ad G 0)), some (.ref (ad G 86)), some (.int (nI i))] [] f l) : Pm G RL cL_law 4 (KLw G b L xs) 1347 [some (.ref b), some (.ref (ad G 0)), some (.ref (ad G 86)), some (.int (nI i))] [] f l := by
  show Pm G RL cL_law 4 (KLw G b L xs) 1347 [some (.ref b), some (.ref (ad G 0)), some (.ref (ad G 86)), some (.int (nI i))] [] f l
  refine P.aload_n dL_law_1347 rfl rfl ?_
  refine P.aload_n dL_law_1348 rfl rfl ?_
  refine P.iload_n dL_law_1349 rfl rfl ?_
  refine P.iconst dL_law_1350 ic_1 ?_
  refine P.iadd_n dL_law_1351 (nI_add _ _) ?_
  refine P.sld (i := (i + 1)) (by omega) hL dL_law_1352 ?_
  obtain ⟨rv, ⟨z, rfl⟩, Q, hk, hq⟩ := pr_count (G := G) ((xs (i + 1))) f l hJ
  refine P.callVX (As := [.int (xs (i + 1))]) (rest := []) hk ok_X9_count (fit_lw (by decide) (Nat.le_refl _)) rfl ml_L_162 ly_0 (by decide) (by decide) rfl rfl (Nat.le_of_ble_eq_true rfl) dL_law_1353 (fun r f1 l1 hp => ?_)
  obtain ⟨rfl, hQ⟩ := hp
  show Pm G RL cL_law 4 (KLw G b L xs) 1356 [some (.ref b), some (.ref (ad G 0)), some (.ref (ad G 86)), some (.int (nI i))] [.int z] f1 l1
  refine P.aload_n dL_law_1356 rfl rfl ?_
  refine P.aload_n dL_law_1357 rfl rfl ?_
  refine P.iload_n dL_law_1358 rfl rfl ?_
  refine P.iconst dL_law_1359 ic_1 ?_
  refine P.iadd_n dL_law_1360 (nI_add _ _) ?_
  refine P.sld (i := (i + 1)) (by omega) hL dL_law_1361 ?_
  refine P.callVX (As := [.int (xs (i + 1))]) (rest := [.int z]) (hq f1 l1 hQ) ok_X10_count (fit_lw (by decide) (Nat.le_refl _)) rfl ml_L_165 ly_86 (by decide) (by decide) rfl rfl (Nat.le_of_ble_eq_true rfl) dL_law_1362 (fun r f2 l2 hp => ?_)
  obtain ⟨rfl, hJ2⟩ := hp
  show Pm G RL cL_law 4 (KLw G b L xs) 1365 [some (.ref b), some (.ref (ad G 0)), some (.ref (ad G 86)), some (.int (nI i))] [.int z, .int z] f2 l2
  exact P.icmp_eq (tgt := 1370) dL_law_1365 (by decide) (fun _ => hc f2 l2 hJ2) (fun h => absurd rfl h)
