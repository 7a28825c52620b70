-- the law: its cases, its loop
theorem AWi.mono {μ : sd_M} {vs : List Value} {σ : sd_S} {Q Q' : Int32 → sd_S → Prop} (h : ∀ v σ', Q v σ' → Q' v σ') (k : AWi μ vs σ Q) : AWi μ vs σ Q' := AW.conseq (fun r σ' hq => by obtain ⟨v, e, q⟩ := hq; exact ⟨v, e, h v σ' q⟩) k
section Law
variable {X : Nat × (Nat → Int32)} {I : sd_I} {J : sd_J} {Q : Option Int32 → sd_S → Prop} {i : Nat}
theorem l_sleeper (hX : X.1 ≤ 3584) (hi : i + 7 ≤ X.1) (h : REL I J) (kk : ∀ I J, REL I J → AW muL_law 179 3254 1338 [.ref 100000, .ref 0, .ref 170, .int (nI i)] [] (sk0, X, I, J) Q) : AW muL_law 179 3254 184 [.ref 100000, .ref 0, .ref 170, .int (nI i)] [] (sk0, X, I, J) Q := by
  refine AW.aload_n dL_law_184 rfl rfl ?_
  refine AW.aload_n dL_law_185 rfl rfl ?_
  refine AW.iload_n dL_law_186 rfl rfl ?_
  refine AW.iconst (v := nI 1) dL_law_187 (by decide) ?_
  first | refine AW.iaddN dL_law_188 ?_ | refine AW.iadd dL_law_188 ?_
  refine AW.sld rfl dL_law_189 _ rfl (by omega) (by omega) ?_
  show AW muL_law _ _ 190 _ _ _ _
  refine AW.aload_n dL_law_190 rfl rfl ?_
  refine AW.iload_n dL_law_191 rfl rfl ?_
  refine AW.iconst (v := nI 2) dL_law_192 (by decide) ?_
  first | refine AW.iaddN dL_law_193 ?_ | refine AW.iadd dL_law_193 ?_
  refine AW.sld rfl dL_law_194 _ rfl (by omega) (by omega) ?_
  refine cs_L_law_195 (by first | exact k0_0 | exact k0_170) (by decide) (by decide) (Nat.le_of_ble_eq_true rfl) (AWi.mono (fun r1 σ1 q1 => ?_) (b_sleeper _ _ X I J h))
  show AW muL_law _ _ 198 _ _ _ _
  obtain ⟨I1, J1, rfl, hm⟩ := q1
  refine AW.aload_n dL_law_198 rfl rfl ?_
  refine AW.aload_n dL_law_199 rfl rfl ?_
  refine AW.iload_n dL_law_200 rfl rfl ?_
  refine AW.iconst (v := nI 1) dL_law_201 (by decide) ?_
  first | refine AW.iaddN dL_law_202 ?_ | refine AW.iadd dL_law_202 ?_
  refine AW.sld rfl dL_law_203 _ rfl (by omega) (by omega) ?_
  show AW muL_law _ _ 204 _ _ _ _
  refine AW.aload_n dL_law_204 rfl rfl ?_
  refine AW.iload_n dL_law_205 rfl rfl ?_
  refine AW.iconst (v := nI 2) dL_law_206 (by decide) ?_
  first | refine AW.iaddN dL_law_207 ?_ | refine AW.iadd dL_law_207 ?_
  refine AW.sld rfl dL_law_208 _ rfl (by omega) (by omega) ?_
  refine cs_L_law_209 (by first | exact k0_0 | exact k0_170) (by decide) (by decide) (Nat.le_of_ble_eq_true rfl) (AWi.mono (fun r2 σ2 q2 => ?_) hm)
  show AW muL_law _ _ 212 _ _ _ _
  obtain ⟨rfl, I2, J2, rfl, hR⟩ := q2
  exact AW.icmp_eq (tgt := 1338) dL_law_212 (by decide) (fun _ => kk I2 J2 hR) (fun e => absurd rfl e)
theorem l_thing (hX : X.1 ≤ 3584) (hi : i + 7 ≤ X.1) (h : REL I J) (kk : ∀ I J, REL I J → AW muL_law 179 3254 1338 [.ref 100000, .ref 0, .ref 170, .int (nI i)] [] (sk0, X, I, J) Q) : AW muL_law 179 3254 217 [.ref 100000, .ref 0, .ref 170, .int (nI i)] [] (sk0, X, I, J) Q := by
  refine AW.aload_n dL_law_217 rfl rfl ?_
  refine AW.aload_n dL_law_218 rfl rfl ?_
  refine AW.iload_n dL_law_219 rfl rfl ?_
  refine AW.iconst (v := nI 1) dL_law_220 (by decide) ?_
  first | refine AW.iaddN dL_law_221 ?_ | refine AW.iadd dL_law_221 ?_
  refine AW.sld rfl dL_law_222 _ rfl (by omega) (by omega) ?_
  show AW muL_law _ _ 223 _ _ _ _
  refine AW.aload_n dL_law_223 rfl rfl ?_
  refine AW.iload_n dL_law_224 rfl rfl ?_
  refine AW.iconst (v := nI 2) dL_law_225 (by decide) ?_
  first | refine AW.iaddN dL_law_226 ?_ | refine AW.iadd dL_law_226 ?_
  refine AW.sld rfl dL_law_227 _ rfl (by omega) (by omega) ?_
  refine AW.aload_n dL_law_228 rfl rfl ?_
  show AW muL_law _ _ 229 _ _ _ _
  refine AW.iload_n dL_law_229 rfl rfl ?_
  refine AW.iconst (v := nI 3) dL_law_230 (by decide) ?_
  first | refine AW.iaddN dL_law_231 ?_ | refine AW.iadd dL_law_231 ?_
  refine AW.sld rfl dL_law_232 _ rfl (by omega) (by omega) ?_
  refine AW.aload_n dL_law_233 rfl rfl ?_
  refine AW.iload_n dL_law_234 rfl rfl ?_
  show AW muL_law _ _ 235 _ _ _ _
  refine AW.iconst (v := nI 4) dL_law_235 (by decide) ?_
  first | refine AW.iaddN dL_law_236 ?_ | refine AW.iadd dL_law_236 ?_
  refine AW.sld rfl dL_law_237 _ rfl (by omega) (by omega) ?_
  refine cs_L_law_238 (by first | exact k0_0 | exact k0_170) (by decide) (by decide) (Nat.le_of_ble_eq_true rfl) (AWi.mono (fun r1 σ1 q1 => ?_) (b_thing _ _ _ _ X I J h))
  obtain ⟨I1, J1, rfl, hm⟩ := q1
  refine AW.aload_n dL_law_241 rfl rfl ?_
  refine AW.aload_n dL_law_242 rfl rfl ?_
  show AW muL_law _ _ 243 _ _ _ _
  refine AW.iload_n dL_law_243 rfl rfl ?_
  refine AW.iconst (v := nI 1) dL_law_244 (by decide) ?_
  first | refine AW.iaddN dL_law_245 ?_ | refine AW.iadd dL_law_245 ?_
  refine AW.sld rfl dL_law_246 _ rfl (by omega) (by omega) ?_
  refine AW.aload_n dL_law_247 rfl rfl ?_
  refine AW.iload_n dL_law_248 rfl rfl ?_
  show AW muL_law _ _ 249 _ _ _ _
  refine AW.iconst (v := nI 2) dL_law_249 (by decide) ?_
  first | refine AW.iaddN dL_law_250 ?_ | refine AW.iadd dL_law_250 ?_
  refine AW.sld rfl dL_law_251 _ rfl (by omega) (by omega) ?_
  refine AW.aload_n dL_law_252 rfl rfl ?_
  refine AW.iload_n dL_law_253 rfl rfl ?_
  refine AW.iconst (v := nI 3) dL_law_254 (by decide) ?_
  show AW muL_law _ _ 255 _ _ _ _
  first | refine AW.iaddN dL_law_255 ?_ | refine AW.iadd dL_law_255 ?_
  refine AW.sld rfl dL_law_256 _ rfl (by omega) (by omega) ?_
  refine AW.aload_n dL_law_257 rfl rfl ?_
  refine AW.iload_n dL_law_258 rfl rfl ?_
  refine AW.iconst (v := nI 4) dL_law_259 (by decide) ?_
  first | refine AW.iaddN dL_law_260 ?_ | refine AW.iadd dL_law_260 ?_
  show AW muL_law _ _ 261 _ _ _ _
  refine AW.sld rfl dL_law_261 _ rfl (by omega) (by omega) ?_
  refine cs_L_law_262 (by first | exact k0_0 | exact k0_170) (by decide) (by decide) (Nat.le_of_ble_eq_true rfl) (AWi.mono (fun r2 σ2 q2 => ?_) hm)
  obtain ⟨rfl, I2, J2, rfl, hR⟩ := q2
  exact AW.icmp_eq (tgt := 1338) dL_law_265 (by decide) (fun _ => kk I2 J2 hR) (fun e => absurd rfl e)
theorem l_of (hX : X.1 ≤ 3584) (hi : i + 7 ≤ X.1) (h : REL I J) (kk : ∀ I J, REL I J → AW muL_law 179 3254 1338 [.ref 100000, .ref 0, .ref 170, .int (nI i)] [] (sk0, X, I, J) Q) : AW muL_law 179 3254 270 [.ref 100000, .ref 0, .ref 170, .int (nI i)] [] (sk0, X, I, J) Q := by
  refine AW.aload_n dL_law_270 rfl rfl ?_
  refine AW.aload_n dL_law_271 rfl rfl ?_
  refine AW.iload_n dL_law_272 rfl rfl ?_
  refine AW.iconst (v := nI 1) dL_law_273 (by decide) ?_
  first | refine AW.iaddN dL_law_274 ?_ | refine AW.iadd dL_law_274 ?_
  refine AW.sld rfl dL_law_275 _ rfl (by omega) (by omega) ?_
  show AW muL_law _ _ 276 _ _ _ _
  refine AW.aload_n dL_law_276 rfl rfl ?_
  refine AW.iload_n dL_law_277 rfl rfl ?_
  refine AW.iconst (v := nI 2) dL_law_278 (by decide) ?_
  first | refine AW.iaddN dL_law_279 ?_ | refine AW.iadd dL_law_279 ?_
  refine AW.sld rfl dL_law_280 _ rfl (by omega) (by omega) ?_
  refine cs_L_law_281 (by first | exact k0_0 | exact k0_170) (by decide) (by decide) (Nat.le_of_ble_eq_true rfl) (AWi.mono (fun r1 σ1 q1 => ?_) (b_of _ _ X I J h))
  show AW muL_law _ _ 284 _ _ _ _
  obtain ⟨I1, J1, rfl, hm⟩ := q1
  refine AW.aload_n dL_law_284 rfl rfl ?_
  refine AW.aload_n dL_law_285 rfl rfl ?_
  refine AW.iload_n dL_law_286 rfl rfl ?_
  refine AW.iconst (v := nI 1) dL_law_287 (by decide) ?_
  first | refine AW.iaddN dL_law_288 ?_ | refine AW.iadd dL_law_288 ?_
  refine AW.sld rfl dL_law_289 _ rfl (by omega) (by omega) ?_
  show AW muL_law _ _ 290 _ _ _ _
  refine AW.aload_n dL_law_290 rfl rfl ?_
  refine AW.iload_n dL_law_291 rfl rfl ?_
  refine AW.iconst (v := nI 2) dL_law_292 (by decide) ?_
  first | refine AW.iaddN dL_law_293 ?_ | refine AW.iadd dL_law_293 ?_
  refine AW.sld rfl dL_law_294 _ rfl (by omega) (by omega) ?_
  refine cs_L_law_295 (by first | exact k0_0 | exact k0_170) (by decide) (by decide) (Nat.le_of_ble_eq_true rfl) (AWi.mono (fun r2 σ2 q2 => ?_) hm)
  show AW muL_law _ _ 298 _ _ _ _
  obtain ⟨rfl, I2, J2, rfl, hR⟩ := q2
  exact AW.icmp_eq (tgt := 1338) dL_law_298 (by decide) (fun _ => kk I2 J2 hR) (fun e => absurd rfl e)
theorem l_gift (hX : X.1 ≤ 3584) (hi : i + 7 ≤ X.1) (h : REL I J) (kk : ∀ I J, REL I J → AW muL_law 179 3254 1338 [.ref 100000, .ref 0, .ref 170, .int (nI i)] [] (sk0, X, I, J) Q) : AW muL_law 179 3254 303 [.ref 100000, .ref 0, .ref 170, .int (nI i)] [] (sk0, X, I, J) Q := by
  refine AW.aload_n dL_law_303 rfl rfl ?_
  refine AW.aload_n dL_law_304 rfl rfl ?_
  refine AW.iload_n dL_law_305 rfl rfl ?_
  refine AW.iconst (v := nI 1) dL_law_306 (by decide) ?_
  first | refine AW.iaddN dL_law_307 ?_ | refine AW.iadd dL_law_307 ?_
  refine AW.sld rfl dL_law_308 _ rfl (by omega) (by omega) ?_
  show AW muL_law _ _ 309 _ _ _ _
  refine AW.aload_n dL_law_309 rfl rfl ?_
  refine AW.iload_n dL_law_310 rfl rfl ?_
  refine AW.iconst (v := nI 2) dL_law_311 (by decide) ?_
  first | refine AW.iaddN dL_law_312 ?_ | refine AW.iadd dL_law_312 ?_
  refine AW.sld rfl dL_law_313 _ rfl (by omega) (by omega) ?_
  refine cs_L_law_314 (by first | exact k0_0 | exact k0_170) (by decide) (by decide) (Nat.le_of_ble_eq_true rfl) (AWi.mono (fun r1 σ1 q1 => ?_) (b_gift _ _ X I J h))
  show AW muL_law _ _ 317 _ _ _ _
  obtain ⟨I1, J1, rfl, hm⟩ := q1
  refine AW.aload_n dL_law_317 rfl rfl ?_
  refine AW.aload_n dL_law_318 rfl rfl ?_
  refine AW.iload_n dL_law_319 rfl rfl ?_
  refine AW.iconst (v := nI 1) dL_law_320 (by decide) ?_
  first | refine AW.iaddN dL_law_321 ?_ | refine AW.iadd dL_law_321 ?_
  refine AW.sld rfl dL_law_322 _ rfl (by omega) (by omega) ?_
  show AW muL_law _ _ 323 _ _ _ _
  refine AW.aload_n dL_law_323 rfl rfl ?_
  refine AW.iload_n dL_law_324 rfl rfl ?_
  refine AW.iconst (v := nI 2) dL_law_325 (by decide) ?_
  first | refine AW.iaddN dL_law_326 ?_ | refine AW.iadd dL_law_326 ?_
  refine AW.sld rfl dL_law_327 _ rfl (by omega) (by omega) ?_
  refine cs_L_law_328 (by first | exact k0_0 | exact k0_170) (by decide) (by decide) (Nat.le_of_ble_eq_true rfl) (AWi.mono (fun r2 σ2 q2 => ?_) hm)
  show AW muL_law _ _ 331 _ _ _ _
  obtain ⟨rfl, I2, J2, rfl, hR⟩ := q2
  exact AW.icmp_eq (tgt := 1338) dL_law_331 (by decide) (fun _ => kk I2 J2 hR) (fun e => absurd rfl e)
theorem l_room (hX : X.1 ≤ 3584) (hi : i + 7 ≤ X.1) (h : REL I J) (kk : ∀ I J, REL I J → AW muL_law 179 3254 1338 [.ref 100000, .ref 0, .ref 170, .int (nI i)] [] (sk0, X, I, J) Q) : AW muL_law 179 3254 336 [.ref 100000, .ref 0, .ref 170, .int (nI i)] [] (sk0, X, I, J) Q := by
  refine AW.aload_n dL_law_336 rfl rfl ?_
  refine AW.aload_n dL_law_337 rfl rfl ?_
  refine AW.iload_n dL_law_338 rfl rfl ?_
  refine AW.iconst (v := nI 1) dL_law_339 (by decide) ?_
  first | refine AW.iaddN dL_law_340 ?_ | refine AW.iadd dL_law_340 ?_
  refine AW.sld rfl dL_law_341 _ rfl (by omega) (by omega) ?_
  show AW muL_law _ _ 342 _ _ _ _
  refine AW.aload_n dL_law_342 rfl rfl ?_
  refine AW.iload_n dL_law_343 rfl rfl ?_
  refine AW.iconst (v := nI 2) dL_law_344 (by decide) ?_
  first | refine AW.iaddN dL_law_345 ?_ | refine AW.iadd dL_law_345 ?_
  refine AW.sld rfl dL_law_346 _ rfl (by omega) (by omega) ?_
  refine cs_L_law_347 (by first | exact k0_0 | exact k0_170) (by decide) (by decide) (Nat.le_of_ble_eq_true rfl) (AWi.mono (fun r1 σ1 q1 => ?_) (b_room _ _ X I J h))
  show AW muL_law _ _ 350 _ _ _ _
  obtain ⟨I1, J1, rfl, hm⟩ := q1
  refine AW.aload_n dL_law_350 rfl rfl ?_
  refine AW.aload_n dL_law_351 rfl rfl ?_
  refine AW.iload_n dL_law_352 rfl rfl ?_
  refine AW.iconst (v := nI 1) dL_law_353 (by decide) ?_
  first | refine AW.iaddN dL_law_354 ?_ | refine AW.iadd dL_law_354 ?_
  refine AW.sld rfl dL_law_355 _ rfl (by omega) (by omega) ?_
  show AW muL_law _ _ 356 _ _ _ _
  refine AW.aload_n dL_law_356 rfl rfl ?_
  refine AW.iload_n dL_law_357 rfl rfl ?_
  refine AW.iconst (v := nI 2) dL_law_358 (by decide) ?_
  first | refine AW.iaddN dL_law_359 ?_ | refine AW.iadd dL_law_359 ?_
  refine AW.sld rfl dL_law_360 _ rfl (by omega) (by omega) ?_
  refine cs_L_law_361 (by first | exact k0_0 | exact k0_170) (by decide) (by decide) (Nat.le_of_ble_eq_true rfl) (AWi.mono (fun r2 σ2 q2 => ?_) hm)
  show AW muL_law _ _ 364 _ _ _ _
  obtain ⟨rfl, I2, J2, rfl, hR⟩ := q2
  exact AW.icmp_eq (tgt := 1338) dL_law_364 (by decide) (fun _ => kk I2 J2 hR) (fun e => absurd rfl e)
theorem l_bed (hX : X.1 ≤ 3584) (hi : i + 7 ≤ X.1) (h : REL I J) (kk : ∀ I J, REL I J → AW muL_law 179 3254 1338 [.ref 100000, .ref 0, .ref 170, .int (nI i)] [] (sk0, X, I, J) Q) : AW muL_law 179 3254 369 [.ref 100000, .ref 0, .ref 170, .int (nI i)] [] (sk0, X, I, J) Q := by
  refine AW.aload_n dL_law_369 rfl rfl ?_
  refine AW.aload_n dL_law_370 rfl rfl ?_
  refine AW.iload_n dL_law_371 rfl rfl ?_
  refine AW.iconst (v := nI 1) dL_law_372 (by decide) ?_
  first | refine AW.iaddN dL_law_373 ?_ | refine AW.iadd dL_law_373 ?_
  refine AW.sld rfl dL_law_374 _ rfl (by omega) (by omega) ?_
  show AW muL_law _ _ 375 _ _ _ _
  refine AW.aload_n dL_law_375 rfl rfl ?_
  refine AW.iload_n dL_law_376 rfl rfl ?_
  refine AW.iconst (v := nI 2) dL_law_377 (by decide) ?_
  first | refine AW.iaddN dL_law_378 ?_ | refine AW.iadd dL_law_378 ?_
  refine AW.sld rfl dL_law_379 _ rfl (by omega) (by omega) ?_
  refine cs_L_law_380 (by first | exact k0_0 | exact k0_170) (by decide) (by decide) (Nat.le_of_ble_eq_true rfl) (AWi.mono (fun r1 σ1 q1 => ?_) (b_bed _ _ X I J h))
  show AW muL_law _ _ 383 _ _ _ _
  obtain ⟨I1, J1, rfl, hm⟩ := q1
  refine AW.aload_n dL_law_383 rfl rfl ?_
  refine AW.aload_n dL_law_384 rfl rfl ?_
  refine AW.iload_n dL_law_385 rfl rfl ?_
  refine AW.iconst (v := nI 1) dL_law_386 (by decide) ?_
  first | refine AW.iaddN dL_law_387 ?_ | refine AW.iadd dL_law_387 ?_
  refine AW.sld rfl dL_law_388 _ rfl (by omega) (by omega) ?_
  show AW muL_law _ _ 389 _ _ _ _
  refine AW.aload_n dL_law_389 rfl rfl ?_
  refine AW.iload_n dL_law_390 rfl rfl ?_
  refine AW.iconst (v := nI 2) dL_law_391 (by decide) ?_
  first | refine AW.iaddN dL_law_392 ?_ | refine AW.iadd dL_law_392 ?_
  refine AW.sld rfl dL_law_393 _ rfl (by omega) (by omega) ?_
  refine cs_L_law_394 (by first | exact k0_0 | exact k0_170) (by decide) (by decide) (Nat.le_of_ble_eq_true rfl) (AWi.mono (fun r2 σ2 q2 => ?_) hm)
  show AW muL_law _ _ 397 _ _ _ _
  obtain ⟨rfl, I2, J2, rfl, hR⟩ := q2
  exact AW.icmp_eq (tgt := 1338) dL_law_397 (by decide) (fun _ => kk I2 J2 hR) (fun e => absurd rfl e)
theorem l_type (hX : X.1 ≤ 3584) (hi : i + 7 ≤ X.1) (h : REL I J) (kk : ∀ I J, REL I J → AW muL_law 179 3254 1338 [.ref 100000, .ref 0, .ref 170, .int (nI i)] [] (sk0, X, I, J) Q) : AW muL_law 179 3254 402 [.ref 100000, .ref 0, .ref 170, .int (nI i)] [] (sk0, X, I, J) Q := by
  refine AW.aload_n dL_law_402 rfl rfl ?_
  refine AW.aload_n dL_law_403 rfl rfl ?_
  refine AW.iload_n dL_law_404 rfl rfl ?_
  refine AW.iconst (v := nI 1) dL_law_405 (by decide) ?_
  first | refine AW.iaddN dL_law_406 ?_ | refine AW.iadd dL_law_406 ?_
  refine AW.sld rfl dL_law_407 _ rfl (by omega) (by omega) ?_
  show AW muL_law _ _ 408 _ _ _ _
  refine cs_L_law_408 (by first | exact k0_0 | exact k0_170) (by decide) (by decide) (Nat.le_of_ble_eq_true rfl) (AWi.mono (fun r1 σ1 q1 => ?_) (b_type _ X I J h))
  obtain ⟨I1, J1, rfl, hm⟩ := q1
  refine AW.aload_n dL_law_411 rfl rfl ?_
  refine AW.aload_n dL_law_412 rfl rfl ?_
  refine AW.iload_n dL_law_413 rfl rfl ?_
  refine AW.iconst (v := nI 1) dL_law_414 (by decide) ?_
  first | refine AW.iaddN dL_law_415 ?_ | refine AW.iadd dL_law_415 ?_
  show AW muL_law _ _ 416 _ _ _ _
  refine AW.sld rfl dL_law_416 _ rfl (by omega) (by omega) ?_
  refine cs_L_law_417 (by first | exact k0_0 | exact k0_170) (by decide) (by decide) (Nat.le_of_ble_eq_true rfl) (AWi.mono (fun r2 σ2 q2 => ?_) hm)
  obtain ⟨rfl, I2, J2, rfl, hR⟩ := q2
  exact AW.icmp_eq (tgt := 1338) dL_law_420 (by decide) (fun _ => kk I2 J2 hR) (fun e => absurd rfl e)
theorem l_house (hX : X.1 ≤ 3584) (hi : i + 7 ≤ X.1) (h : REL I J) (kk : ∀ I J, REL I J → AW muL_law 179 3254 1338 [.ref 100000, .ref 0, .ref 170, .int (nI i)] [] (sk0, X, I, J) Q) : AW muL_law 179 3254 425 [.ref 100000, .ref 0, .ref 170, .int (nI i)] [] (sk0, X, I, J) Q := by
  refine AW.aload_n dL_law_425 rfl rfl ?_
  refine cs_L_law_426 (by first | exact k0_0 | exact k0_170) (by decide) (by decide) (Nat.le_of_ble_eq_true rfl) (AWi.mono (fun r1 σ1 q1 => ?_) (b_house X I J h))
  obtain ⟨I1, J1, rfl, hm⟩ := q1
  refine AW.aload_n dL_law_429 rfl rfl ?_
  refine cs_L_law_430 (by first | exact k0_0 | exact k0_170) (by decide) (by decide) (Nat.le_of_ble_eq_true rfl) (AWi.mono (fun r2 σ2 q2 => ?_) hm)
  obtain ⟨rfl, I2, J2, rfl, hR⟩ := q2
  exact AW.icmp_eq (tgt := 1338) dL_law_433 (by decide) (fun _ => kk I2 J2 hR) (fun e => absurd rfl e)
theorem l_count (hX : X.1 ≤ 3584) (hi : i + 7 ≤ X.1) (h : REL I J) (kk : ∀ I J, REL I J → AW muL_law 179 3254 1338 [.ref 100000, .ref 0, .ref 170, .int (nI i)] [] (sk0, X, I, J) Q) : AW muL_law 179 3254 438 [.ref 100000, .ref 0, .ref 170, .int (nI i)] [] (sk0, X, I, J) Q := by
  refine AW.aload_n dL_law_438 rfl rfl ?_
  refine AW.aload_n dL_law_439 rfl rfl ?_
  refine AW.iload_n dL_law_440 rfl rfl ?_
  refine AW.iconst (v := nI 1) dL_law_441 (by decide) ?_
  first | refine AW.iaddN dL_law_442 ?_ | refine AW.iadd dL_law_442 ?_
  refine AW.sld rfl dL_law_443 _ rfl (by omega) (by omega) ?_
  show AW muL_law _ _ 444 _ _ _ _
  refine cs_L_law_444 (by first | exact k0_0 | exact k0_170) (by decide) (by decide) (Nat.le_of_ble_eq_true rfl) (AWi.mono (fun r1 σ1 q1 => ?_) (b_count _ X I J h))
  obtain ⟨I1, J1, rfl, hm⟩ := q1
  refine AW.aload_n dL_law_447 rfl rfl ?_
  refine AW.aload_n dL_law_448 rfl rfl ?_
  refine AW.iload_n dL_law_449 rfl rfl ?_
  refine AW.iconst (v := nI 1) dL_law_450 (by decide) ?_
  first | refine AW.iaddN dL_law_451 ?_ | refine AW.iadd dL_law_451 ?_
  show AW muL_law _ _ 452 _ _ _ _
  refine AW.sld rfl dL_law_452 _ rfl (by omega) (by omega) ?_
  refine cs_L_law_453 (by first | exact k0_0 | exact k0_170) (by decide) (by decide) (Nat.le_of_ble_eq_true rfl) (AWi.mono (fun r2 σ2 q2 => ?_) hm)
  obtain ⟨rfl, I2, J2, rfl, hR⟩ := q2
  exact AW.icmp_eq (tgt := 1338) dL_law_456 (by decide) (fun _ => kk I2 J2 hR) (fun e => absurd rfl e)
theorem l_nights (hX : X.1 ≤ 3584) (hi : i + 7 ≤ X.1) (h : REL I J) (kk : ∀ I J, REL I J → AW muL_law 179 3254 1338 [.ref 100000, .ref 0, .ref 170, .int (nI i)] [] (sk0, X, I, J) Q) : AW muL_law 179 3254 461 [.ref 100000, .ref 0, .ref 170, .int (nI i)] [] (sk0, X, I, J) Q := by
  refine AW.aload_n dL_law_461 rfl rfl ?_
  refine AW.aload_n dL_law_462 rfl rfl ?_
  refine AW.iload_n dL_law_463 rfl rfl ?_
  refine AW.iconst (v := nI 1) dL_law_464 (by decide) ?_
  first | refine AW.iaddN dL_law_465 ?_ | refine AW.iadd dL_law_465 ?_
  refine AW.sld rfl dL_law_466 _ rfl (by omega) (by omega) ?_
  show AW muL_law _ _ 467 _ _ _ _
  refine cs_L_law_467 (by first | exact k0_0 | exact k0_170) (by decide) (by decide) (Nat.le_of_ble_eq_true rfl) (AWi.mono (fun r1 σ1 q1 => ?_) (b_nights _ X I J h))
  obtain ⟨I1, J1, rfl, hm⟩ := q1
  refine AW.aload_n dL_law_470 rfl rfl ?_
  refine AW.aload_n dL_law_471 rfl rfl ?_
  refine AW.iload_n dL_law_472 rfl rfl ?_
  refine AW.iconst (v := nI 1) dL_law_473 (by decide) ?_
  first | refine AW.iaddN dL_law_474 ?_ | refine AW.iadd dL_law_474 ?_
  show AW muL_law _ _ 475 _ _ _ _
  refine AW.sld rfl dL_law_475 _ rfl (by omega) (by omega) ?_
  refine cs_L_law_476 (by first | exact k0_0 | exact k0_170) (by decide) (by decide) (Nat.le_of_ble_eq_true rfl) (AWi.mono (fun r2 σ2 q2 => ?_) hm)
  obtain ⟨rfl, I2, J2, rfl, hR⟩ := q2
  exact AW.icmp_eq (tgt := 1338) dL_law_479 (by decide) (fun _ => kk I2 J2 hR) (fun e => absurd rfl e)
theorem l_move (hX : X.1 ≤ 3584) (hi : i + 7 ≤ X.1) (h : REL I J) (kk : ∀ I J, REL I J → AW muL_law 179 3254 1338 [.ref 100000, .ref 0, .ref 170, .int (nI i)] [] (sk0, X, I, J) Q) : AW muL_law 179 3254 484 [.ref 100000, .ref 0, .ref 170, .int (nI i)] [] (sk0, X, I, J) Q := by
  refine AW.aload_n dL_law_484 rfl rfl ?_
  refine AW.aload_n dL_law_485 rfl rfl ?_
  refine AW.iload_n dL_law_486 rfl rfl ?_
  refine AW.iconst (v := nI 1) dL_law_487 (by decide) ?_
  first | refine AW.iaddN dL_law_488 ?_ | refine AW.iadd dL_law_488 ?_
  refine AW.sld rfl dL_law_489 _ rfl (by omega) (by omega) ?_
  show AW muL_law _ _ 490 _ _ _ _
  refine AW.aload_n dL_law_490 rfl rfl ?_
  refine AW.iload_n dL_law_491 rfl rfl ?_
  refine AW.iconst (v := nI 2) dL_law_492 (by decide) ?_
  first | refine AW.iaddN dL_law_493 ?_ | refine AW.iadd dL_law_493 ?_
  refine AW.sld rfl dL_law_494 _ rfl (by omega) (by omega) ?_
  refine cs_L_law_495 (by first | exact k0_0 | exact k0_170) (by decide) (by decide) (Nat.le_of_ble_eq_true rfl) (AWi.mono (fun r1 σ1 q1 => ?_) (b_move _ _ X I J h))
  show AW muL_law _ _ 498 _ _ _ _
  obtain ⟨I1, J1, rfl, hm⟩ := q1
  refine AW.aload_n dL_law_498 rfl rfl ?_
  refine AW.aload_n dL_law_499 rfl rfl ?_
  refine AW.iload_n dL_law_500 rfl rfl ?_
  refine AW.iconst (v := nI 1) dL_law_501 (by decide) ?_
  first | refine AW.iaddN dL_law_502 ?_ | refine AW.iadd dL_law_502 ?_
  refine AW.sld rfl dL_law_503 _ rfl (by omega) (by omega) ?_
  show AW muL_law _ _ 504 _ _ _ _
  refine AW.aload_n dL_law_504 rfl rfl ?_
  refine AW.iload_n dL_law_505 rfl rfl ?_
  refine AW.iconst (v := nI 2) dL_law_506 (by decide) ?_
  first | refine AW.iaddN dL_law_507 ?_ | refine AW.iadd dL_law_507 ?_
  refine AW.sld rfl dL_law_508 _ rfl (by omega) (by omega) ?_
  refine cs_L_law_509 (by first | exact k0_0 | exact k0_170) (by decide) (by decide) (Nat.le_of_ble_eq_true rfl) (AWi.mono (fun r2 σ2 q2 => ?_) hm)
  show AW muL_law _ _ 512 _ _ _ _
  obtain ⟨rfl, I2, J2, rfl, hR⟩ := q2
  exact AW.icmp_eq (tgt := 1338) dL_law_512 (by decide) (fun _ => kk I2 J2 hR) (fun e => absurd rfl e)
theorem l_pass (hX : X.1 ≤ 3584) (hi : i + 7 ≤ X.1) (h : REL I J) (kk : ∀ I J, REL I J → AW muL_law 179 3254 1338 [.ref 100000, .ref 0, .ref 170, .int (nI i)] [] (sk0, X, I, J) Q) : AW muL_law 179 3254 517 [.ref 100000, .ref 0, .ref 170, .int (nI i)] [] (sk0, X, I, J) Q := by
  refine AW.aload_n dL_law_517 rfl rfl ?_
  refine AW.aload_n dL_law_518 rfl rfl ?_
  refine AW.iload_n dL_law_519 rfl rfl ?_
  refine AW.iconst (v := nI 1) dL_law_520 (by decide) ?_
  first | refine AW.iaddN dL_law_521 ?_ | refine AW.iadd dL_law_521 ?_
  refine AW.sld rfl dL_law_522 _ rfl (by omega) (by omega) ?_
  show AW muL_law _ _ 523 _ _ _ _
  refine AW.aload_n dL_law_523 rfl rfl ?_
  refine AW.iload_n dL_law_524 rfl rfl ?_
  refine AW.iconst (v := nI 2) dL_law_525 (by decide) ?_
  first | refine AW.iaddN dL_law_526 ?_ | refine AW.iadd dL_law_526 ?_
  refine AW.sld rfl dL_law_527 _ rfl (by omega) (by omega) ?_
  refine cs_L_law_528 (by first | exact k0_0 | exact k0_170) (by decide) (by decide) (Nat.le_of_ble_eq_true rfl) (AWi.mono (fun r1 σ1 q1 => ?_) (b_pass _ _ X I J h))
  show AW muL_law _ _ 531 _ _ _ _
  obtain ⟨I1, J1, rfl, hm⟩ := q1
  refine AW.aload_n dL_law_531 rfl rfl ?_
  refine AW.aload_n dL_law_532 rfl rfl ?_
  refine AW.iload_n dL_law_533 rfl rfl ?_
  refine AW.iconst (v := nI 1) dL_law_534 (by decide) ?_
  first | refine AW.iaddN dL_law_535 ?_ | refine AW.iadd dL_law_535 ?_
  refine AW.sld rfl dL_law_536 _ rfl (by omega) (by omega) ?_
  show AW muL_law _ _ 537 _ _ _ _
  refine AW.aload_n dL_law_537 rfl rfl ?_
  refine AW.iload_n dL_law_538 rfl rfl ?_
  refine AW.iconst (v := nI 2) dL_law_539 (by decide) ?_
  first | refine AW.iaddN dL_law_540 ?_ | refine AW.iadd dL_law_540 ?_
  refine AW.sld rfl dL_law_541 _ rfl (by omega) (by omega) ?_
  refine cs_L_law_542 (by first | exact k0_0 | exact k0_170) (by decide) (by decide) (Nat.le_of_ble_eq_true rfl) (AWi.mono (fun r2 σ2 q2 => ?_) hm)
  show AW muL_law _ _ 545 _ _ _ _
  obtain ⟨rfl, I2, J2, rfl, hR⟩ := q2
  exact AW.icmp_eq (tgt := 1338) dL_law_545 (by decide) (fun _ => kk I2 J2 hR) (fun e => absurd rfl e)
theorem l_back (hX : X.1 ≤ 3584) (hi : i + 7 ≤ X.1) (h : REL I J) (kk : ∀ I J, REL I J → AW muL_law 179 3254 1338 [.ref 100000, .ref 0, .ref 170, .int (nI i)] [] (sk0, X, I, J) Q) : AW muL_law 179 3254 550 [.ref 100000, .ref 0, .ref 170, .int (nI i)] [] (sk0, X, I, J) Q := by
  refine AW.aload_n dL_law_550 rfl rfl ?_
  refine AW.aload_n dL_law_551 rfl rfl ?_
  refine AW.iload_n dL_law_552 rfl rfl ?_
  refine AW.iconst (v := nI 1) dL_law_553 (by decide) ?_
  first | refine AW.iaddN dL_law_554 ?_ | refine AW.iadd dL_law_554 ?_
  refine AW.sld rfl dL_law_555 _ rfl (by omega) (by omega) ?_
  show AW muL_law _ _ 556 _ _ _ _
  refine cs_L_law_556 (by first | exact k0_0 | exact k0_170) (by decide) (by decide) (Nat.le_of_ble_eq_true rfl) (AWi.mono (fun r1 σ1 q1 => ?_) (b_back _ X I J h))
  obtain ⟨I1, J1, rfl, hm⟩ := q1
  refine AW.aload_n dL_law_559 rfl rfl ?_
  refine AW.aload_n dL_law_560 rfl rfl ?_
  refine AW.iload_n dL_law_561 rfl rfl ?_
  refine AW.iconst (v := nI 1) dL_law_562 (by decide) ?_
  first | refine AW.iaddN dL_law_563 ?_ | refine AW.iadd dL_law_563 ?_
  show AW muL_law _ _ 564 _ _ _ _
  refine AW.sld rfl dL_law_564 _ rfl (by omega) (by omega) ?_
  refine cs_L_law_565 (by first | exact k0_0 | exact k0_170) (by decide) (by decide) (Nat.le_of_ble_eq_true rfl) (AWi.mono (fun r2 σ2 q2 => ?_) hm)
  obtain ⟨rfl, I2, J2, rfl, hR⟩ := q2
  exact AW.icmp_eq (tgt := 1338) dL_law_568 (by decide) (fun _ => kk I2 J2 hR) (fun e => absurd rfl e)
theorem l_drift (hX : X.1 ≤ 3584) (hi : i + 7 ≤ X.1) (h : REL I J) (kk : ∀ I J, REL I J → AW muL_law 179 3254 1338 [.ref 100000, .ref 0, .ref 170, .int (nI i)] [] (sk0, X, I, J) Q) : AW muL_law 179 3254 573 [.ref 100000, .ref 0, .ref 170, .int (nI i)] [] (sk0, X, I, J) Q := by
  refine AW.aload_n dL_law_573 rfl rfl ?_
  refine AW.aload_n dL_law_574 rfl rfl ?_
  refine AW.iload_n dL_law_575 rfl rfl ?_
  refine AW.iconst (v := nI 1) dL_law_576 (by decide) ?_
  first | refine AW.iaddN dL_law_577 ?_ | refine AW.iadd dL_law_577 ?_
  refine AW.sld rfl dL_law_578 _ rfl (by omega) (by omega) ?_
  show AW muL_law _ _ 579 _ _ _ _
  refine cs_L_law_579 (by first | exact k0_0 | exact k0_170) (by decide) (by decide) (Nat.le_of_ble_eq_true rfl) (AWi.mono (fun r1 σ1 q1 => ?_) (b_drift _ X I J h))
  obtain ⟨I1, J1, rfl, hm⟩ := q1
  refine AW.aload_n dL_law_582 rfl rfl ?_
  refine AW.aload_n dL_law_583 rfl rfl ?_
  refine AW.iload_n dL_law_584 rfl rfl ?_
  refine AW.iconst (v := nI 1) dL_law_585 (by decide) ?_
  first | refine AW.iaddN dL_law_586 ?_ | refine AW.iadd dL_law_586 ?_
  show AW muL_law _ _ 587 _ _ _ _
  refine AW.sld rfl dL_law_587 _ rfl (by omega) (by omega) ?_
  refine cs_L_law_588 (by first | exact k0_0 | exact k0_170) (by decide) (by decide) (Nat.le_of_ble_eq_true rfl) (AWi.mono (fun r2 σ2 q2 => ?_) hm)
  obtain ⟨rfl, I2, J2, rfl, hR⟩ := q2
  exact AW.icmp_eq (tgt := 1338) dL_law_591 (by decide) (fun _ => kk I2 J2 hR) (fun e => absurd rfl e)
theorem l_undo (hX : X.1 ≤ 3584) (hi : i + 7 ≤ X.1) (h : REL I J) (kk : ∀ I J, REL I J → AW muL_law 179 3254 1338 [.ref 100000, .ref 0, .ref 170, .int (nI i)] [] (sk0, X, I, J) Q) : AW muL_law 179 3254 596 [.ref 100000, .ref 0, .ref 170, .int (nI i)] [] (sk0, X, I, J) Q := by
  refine AW.aload_n dL_law_596 rfl rfl ?_
  refine cs_L_law_597 (by first | exact k0_0 | exact k0_170) (by decide) (by decide) (Nat.le_of_ble_eq_true rfl) (AWi.mono (fun r1 σ1 q1 => ?_) (b_undo X I J h))
  obtain ⟨I1, J1, rfl, hm⟩ := q1
  refine AW.aload_n dL_law_600 rfl rfl ?_
  refine cs_L_law_601 (by first | exact k0_0 | exact k0_170) (by decide) (by decide) (Nat.le_of_ble_eq_true rfl) (AWi.mono (fun r2 σ2 q2 => ?_) hm)
  obtain ⟨rfl, I2, J2, rfl, hR⟩ := q2
  exact AW.icmp_eq (tgt := 1338) dL_law_604 (by decide) (fun _ => kk I2 J2 hR) (fun e => absurd rfl e)
theorem l_seed (hX : X.1 ≤ 3584) (hi : i + 7 ≤ X.1) (h : REL I J) (kk : ∀ I J, REL I J → AW muL_law 179 3254 1338 [.ref 100000, .ref 0, .ref 170, .int (nI i)] [] (sk0, X, I, J) Q) : AW muL_law 179 3254 609 [.ref 100000, .ref 0, .ref 170, .int (nI i)] [] (sk0, X, I, J) Q := by
  refine AW.aload_n dL_law_609 rfl rfl ?_
  refine AW.aload_n dL_law_610 rfl rfl ?_
  refine AW.iload_n dL_law_611 rfl rfl ?_
  refine AW.iconst (v := nI 1) dL_law_612 (by decide) ?_
  first | refine AW.iaddN dL_law_613 ?_ | refine AW.iadd dL_law_613 ?_
  refine AW.sld rfl dL_law_614 _ rfl (by omega) (by omega) ?_
  show AW muL_law _ _ 615 _ _ _ _
  refine cs_L_law_615 (by first | exact k0_0 | exact k0_170) (by decide) (by decide) (Nat.le_of_ble_eq_true rfl) (AWi.mono (fun r1 σ1 q1 => ?_) (b_seed _ X I J h))
  obtain ⟨I1, J1, rfl, hm⟩ := q1
  refine AW.aload_n dL_law_618 rfl rfl ?_
  refine AW.aload_n dL_law_619 rfl rfl ?_
  refine AW.iload_n dL_law_620 rfl rfl ?_
  refine AW.iconst (v := nI 1) dL_law_621 (by decide) ?_
  first | refine AW.iaddN dL_law_622 ?_ | refine AW.iadd dL_law_622 ?_
  show AW muL_law _ _ 623 _ _ _ _
  refine AW.sld rfl dL_law_623 _ rfl (by omega) (by omega) ?_
  refine cs_L_law_624 (by first | exact k0_0 | exact k0_170) (by decide) (by decide) (Nat.le_of_ble_eq_true rfl) (AWi.mono (fun r2 σ2 q2 => ?_) hm)
  obtain ⟨rfl, I2, J2, rfl, hR⟩ := q2
  exact AW.icmp_eq (tgt := 1338) dL_law_627 (by decide) (fun _ => kk I2 J2 hR) (fun e => absurd rfl e)
theorem l_ahead (hX : X.1 ≤ 3584) (hi : i + 7 ≤ X.1) (h : REL I J) (kk : ∀ I J, REL I J → AW muL_law 179 3254 1338 [.ref 100000, .ref 0, .ref 170, .int (nI i)] [] (sk0, X, I, J) Q) : AW muL_law 179 3254 632 [.ref 100000, .ref 0, .ref 170, .int (nI i)] [] (sk0, X, I, J) Q := by
  refine AW.aload_n dL_law_632 rfl rfl ?_
  refine AW.aload_n dL_law_633 rfl rfl ?_
  refine AW.iload_n dL_law_634 rfl rfl ?_
  refine AW.iconst (v := nI 1) dL_law_635 (by decide) ?_
  first | refine AW.iaddN dL_law_636 ?_ | refine AW.iadd dL_law_636 ?_
  refine AW.sld rfl dL_law_637 _ rfl (by omega) (by omega) ?_
  show AW muL_law _ _ 638 _ _ _ _
  refine AW.aload_n dL_law_638 rfl rfl ?_
  refine AW.iload_n dL_law_639 rfl rfl ?_
  refine AW.iconst (v := nI 2) dL_law_640 (by decide) ?_
  first | refine AW.iaddN dL_law_641 ?_ | refine AW.iadd dL_law_641 ?_
  refine AW.sld rfl dL_law_642 _ rfl (by omega) (by omega) ?_
  refine cs_L_law_643 (by first | exact k0_0 | exact k0_170) (by decide) (by decide) (Nat.le_of_ble_eq_true rfl) (AWi.mono (fun r1 σ1 q1 => ?_) (b_ahead _ _ X I J h))
  show AW muL_law _ _ 646 _ _ _ _
  obtain ⟨I1, J1, rfl, hm⟩ := q1
  refine AW.aload_n dL_law_646 rfl rfl ?_
  refine AW.aload_n dL_law_647 rfl rfl ?_
  refine AW.iload_n dL_law_648 rfl rfl ?_
  refine AW.iconst (v := nI 1) dL_law_649 (by decide) ?_
  first | refine AW.iaddN dL_law_650 ?_ | refine AW.iadd dL_law_650 ?_
  refine AW.sld rfl dL_law_651 _ rfl (by omega) (by omega) ?_
  show AW muL_law _ _ 652 _ _ _ _
  refine AW.aload_n dL_law_652 rfl rfl ?_
  refine AW.iload_n dL_law_653 rfl rfl ?_
  refine AW.iconst (v := nI 2) dL_law_654 (by decide) ?_
  first | refine AW.iaddN dL_law_655 ?_ | refine AW.iadd dL_law_655 ?_
  refine AW.sld rfl dL_law_656 _ rfl (by omega) (by omega) ?_
  refine cs_L_law_657 (by first | exact k0_0 | exact k0_170) (by decide) (by decide) (Nat.le_of_ble_eq_true rfl) (AWi.mono (fun r2 σ2 q2 => ?_) hm)
  show AW muL_law _ _ 660 _ _ _ _
  obtain ⟨rfl, I2, J2, rfl, hR⟩ := q2
  exact AW.icmp_eq (tgt := 1338) dL_law_660 (by decide) (fun _ => kk I2 J2 hR) (fun e => absurd rfl e)
theorem l_loudAhead (hX : X.1 ≤ 3584) (hi : i + 7 ≤ X.1) (h : REL I J) (kk : ∀ I J, REL I J → AW muL_law 179 3254 1338 [.ref 100000, .ref 0, .ref 170, .int (nI i)] [] (sk0, X, I, J) Q) : AW muL_law 179 3254 665 [.ref 100000, .ref 0, .ref 170, .int (nI i)] [] (sk0, X, I, J) Q := by
  refine AW.aload_n dL_law_665 rfl rfl ?_
  refine AW.aload_n dL_law_666 rfl rfl ?_
  refine AW.iload_n dL_law_667 rfl rfl ?_
  refine AW.iconst (v := nI 1) dL_law_668 (by decide) ?_
  first | refine AW.iaddN dL_law_669 ?_ | refine AW.iadd dL_law_669 ?_
  refine AW.sld rfl dL_law_670 _ rfl (by omega) (by omega) ?_
  show AW muL_law _ _ 671 _ _ _ _
  refine AW.aload_n dL_law_671 rfl rfl ?_
  refine AW.iload_n dL_law_672 rfl rfl ?_
  refine AW.iconst (v := nI 2) dL_law_673 (by decide) ?_
  first | refine AW.iaddN dL_law_674 ?_ | refine AW.iadd dL_law_674 ?_
  refine AW.sld rfl dL_law_675 _ rfl (by omega) (by omega) ?_
  refine cs_L_law_676 (by first | exact k0_0 | exact k0_170) (by decide) (by decide) (Nat.le_of_ble_eq_true rfl) (AWi.mono (fun r1 σ1 q1 => ?_) (b_loudAhead _ _ X I J h))
  show AW muL_law _ _ 679 _ _ _ _
  obtain ⟨I1, J1, rfl, hm⟩ := q1
  refine AW.aload_n dL_law_679 rfl rfl ?_
  refine AW.aload_n dL_law_680 rfl rfl ?_
  refine AW.iload_n dL_law_681 rfl rfl ?_
  refine AW.iconst (v := nI 1) dL_law_682 (by decide) ?_
  first | refine AW.iaddN dL_law_683 ?_ | refine AW.iadd dL_law_683 ?_
  refine AW.sld rfl dL_law_684 _ rfl (by omega) (by omega) ?_
  show AW muL_law _ _ 685 _ _ _ _
  refine AW.aload_n dL_law_685 rfl rfl ?_
  refine AW.iload_n dL_law_686 rfl rfl ?_
  refine AW.iconst (v := nI 2) dL_law_687 (by decide) ?_
  first | refine AW.iaddN dL_law_688 ?_ | refine AW.iadd dL_law_688 ?_
  refine AW.sld rfl dL_law_689 _ rfl (by omega) (by omega) ?_
  refine cs_L_law_690 (by first | exact k0_0 | exact k0_170) (by decide) (by decide) (Nat.le_of_ble_eq_true rfl) (AWi.mono (fun r2 σ2 q2 => ?_) hm)
  show AW muL_law _ _ 693 _ _ _ _
  obtain ⟨rfl, I2, J2, rfl, hR⟩ := q2
  exact AW.icmp_eq (tgt := 1338) dL_law_693 (by decide) (fun _ => kk I2 J2 hR) (fun e => absurd rfl e)
theorem l_sleeps (hX : X.1 ≤ 3584) (hi : i + 7 ≤ X.1) (h : REL I J) (kk : ∀ I J, REL I J → AW muL_law 179 3254 1338 [.ref 100000, .ref 0, .ref 170, .int (nI i)] [] (sk0, X, I, J) Q) : AW muL_law 179 3254 698 [.ref 100000, .ref 0, .ref 170, .int (nI i)] [] (sk0, X, I, J) Q := by
  refine AW.aload_n dL_law_698 rfl rfl ?_
  refine AW.aload_n dL_law_699 rfl rfl ?_
  refine AW.iload_n dL_law_700 rfl rfl ?_
  refine AW.iconst (v := nI 1) dL_law_701 (by decide) ?_
  first | refine AW.iaddN dL_law_702 ?_ | refine AW.iadd dL_law_702 ?_
  refine AW.sld rfl dL_law_703 _ rfl (by omega) (by omega) ?_
  show AW muL_law _ _ 704 _ _ _ _
  refine AW.aload_n dL_law_704 rfl rfl ?_
  refine AW.iload_n dL_law_705 rfl rfl ?_
  refine AW.iconst (v := nI 2) dL_law_706 (by decide) ?_
  first | refine AW.iaddN dL_law_707 ?_ | refine AW.iadd dL_law_707 ?_
  refine AW.sld rfl dL_law_708 _ rfl (by omega) (by omega) ?_
  refine cs_L_law_709 (by first | exact k0_0 | exact k0_170) (by decide) (by decide) (Nat.le_of_ble_eq_true rfl) (AWi.mono (fun r1 σ1 q1 => ?_) (b_sleeps _ _ X I J h))
  show AW muL_law _ _ 712 _ _ _ _
  obtain ⟨I1, J1, rfl, hm⟩ := q1
  refine AW.aload_n dL_law_712 rfl rfl ?_
  refine AW.aload_n dL_law_713 rfl rfl ?_
  refine AW.iload_n dL_law_714 rfl rfl ?_
  refine AW.iconst (v := nI 1) dL_law_715 (by decide) ?_
  first | refine AW.iaddN dL_law_716 ?_ | refine AW.iadd dL_law_716 ?_
  refine AW.sld rfl dL_law_717 _ rfl (by omega) (by omega) ?_
  show AW muL_law _ _ 718 _ _ _ _
  refine AW.aload_n dL_law_718 rfl rfl ?_
  refine AW.iload_n dL_law_719 rfl rfl ?_
  refine AW.iconst (v := nI 2) dL_law_720 (by decide) ?_
  first | refine AW.iaddN dL_law_721 ?_ | refine AW.iadd dL_law_721 ?_
  refine AW.sld rfl dL_law_722 _ rfl (by omega) (by omega) ?_
  refine cs_L_law_723 (by first | exact k0_0 | exact k0_170) (by decide) (by decide) (Nat.le_of_ble_eq_true rfl) (AWi.mono (fun r2 σ2 q2 => ?_) hm)
  show AW muL_law _ _ 726 _ _ _ _
  obtain ⟨rfl, I2, J2, rfl, hR⟩ := q2
  exact AW.icmp_eq (tgt := 1338) dL_law_726 (by decide) (fun _ => kk I2 J2 hR) (fun e => absurd rfl e)
theorem l_peace (hX : X.1 ≤ 3584) (hi : i + 7 ≤ X.1) (h : REL I J) (kk : ∀ I J, REL I J → AW muL_law 179 3254 1338 [.ref 100000, .ref 0, .ref 170, .int (nI i)] [] (sk0, X, I, J) Q) : AW muL_law 179 3254 731 [.ref 100000, .ref 0, .ref 170, .int (nI i)] [] (sk0, X, I, J) Q := by
  refine AW.aload_n dL_law_731 rfl rfl ?_
  refine cs_L_law_732 (by first | exact k0_0 | exact k0_170) (by decide) (by decide) (Nat.le_of_ble_eq_true rfl) (AWi.mono (fun r1 σ1 q1 => ?_) (b_peace X I J h))
  obtain ⟨I1, J1, rfl, hm⟩ := q1
  refine AW.aload_n dL_law_735 rfl rfl ?_
  refine cs_L_law_736 (by first | exact k0_0 | exact k0_170) (by decide) (by decide) (Nat.le_of_ble_eq_true rfl) (AWi.mono (fun r2 σ2 q2 => ?_) hm)
  obtain ⟨rfl, I2, J2, rfl, hR⟩ := q2
  exact AW.icmp_eq (tgt := 1338) dL_law_739 (by decide) (fun _ => kk I2 J2 hR) (fun e => absurd rfl e)
theorem l_best (hX : X.1 ≤ 3584) (hi : i + 7 ≤ X.1) (h : REL I J) (kk : ∀ I J, REL I J → AW muL_law 179 3254 1338 [.ref 100000, .ref 0, .ref 170, .int (nI i)] [] (sk0, X, I, J) Q) : AW muL_law 179 3254 744 [.ref 100000, .ref 0, .ref 170, .int (nI i)] [] (sk0, X, I, J) Q := by
  refine AW.aload_n dL_law_744 rfl rfl ?_
  refine AW.aload_n dL_law_745 rfl rfl ?_
  refine AW.iload_n dL_law_746 rfl rfl ?_
  refine AW.iconst (v := nI 1) dL_law_747 (by decide) ?_
  first | refine AW.iaddN dL_law_748 ?_ | refine AW.iadd dL_law_748 ?_
  refine AW.sld rfl dL_law_749 _ rfl (by omega) (by omega) ?_
  show AW muL_law _ _ 750 _ _ _ _
  refine AW.aload_n dL_law_750 rfl rfl ?_
  refine AW.iload_n dL_law_751 rfl rfl ?_
  refine AW.iconst (v := nI 2) dL_law_752 (by decide) ?_
  first | refine AW.iaddN dL_law_753 ?_ | refine AW.iadd dL_law_753 ?_
  refine AW.sld rfl dL_law_754 _ rfl (by omega) (by omega) ?_
  refine AW.aload_n dL_law_755 rfl rfl ?_
  show AW muL_law _ _ 756 _ _ _ _
  refine AW.iload_n dL_law_756 rfl rfl ?_
  refine AW.iconst (v := nI 3) dL_law_757 (by decide) ?_
  first | refine AW.iaddN dL_law_758 ?_ | refine AW.iadd dL_law_758 ?_
  refine AW.sld rfl dL_law_759 _ rfl (by omega) (by omega) ?_
  refine cs_L_law_760 (by first | exact k0_0 | exact k0_170) (by decide) (by decide) (Nat.le_of_ble_eq_true rfl) (AWi.mono (fun r1 σ1 q1 => ?_) (b_best _ _ _ X I J h))
  obtain ⟨I1, J1, rfl, hm⟩ := q1
  refine AW.aload_n dL_law_763 rfl rfl ?_
  show AW muL_law _ _ 764 _ _ _ _
  refine AW.aload_n dL_law_764 rfl rfl ?_
  refine AW.iload_n dL_law_765 rfl rfl ?_
  refine AW.iconst (v := nI 1) dL_law_766 (by decide) ?_
  first | refine AW.iaddN dL_law_767 ?_ | refine AW.iadd dL_law_767 ?_
  refine AW.sld rfl dL_law_768 _ rfl (by omega) (by omega) ?_
  refine AW.aload_n dL_law_769 rfl rfl ?_
  show AW muL_law _ _ 770 _ _ _ _
  refine AW.iload_n dL_law_770 rfl rfl ?_
  refine AW.iconst (v := nI 2) dL_law_771 (by decide) ?_
  first | refine AW.iaddN dL_law_772 ?_ | refine AW.iadd dL_law_772 ?_
  refine AW.sld rfl dL_law_773 _ rfl (by omega) (by omega) ?_
  refine AW.aload_n dL_law_774 rfl rfl ?_
  refine AW.iload_n dL_law_775 rfl rfl ?_
  show AW muL_law _ _ 776 _ _ _ _
  refine AW.iconst (v := nI 3) dL_law_776 (by decide) ?_
  first | refine AW.iaddN dL_law_777 ?_ | refine AW.iadd dL_law_777 ?_
  refine AW.sld rfl dL_law_778 _ rfl (by omega) (by omega) ?_
  refine cs_L_law_779 (by first | exact k0_0 | exact k0_170) (by decide) (by decide) (Nat.le_of_ble_eq_true rfl) (AWi.mono (fun r2 σ2 q2 => ?_) hm)
  obtain ⟨rfl, I2, J2, rfl, hR⟩ := q2
  exact AW.icmp_eq (tgt := 1338) dL_law_782 (by decide) (fun _ => kk I2 J2 hR) (fun e => absurd rfl e)
theorem l_bestBed (hX : X.1 ≤ 3584) (hi : i + 7 ≤ X.1) (h : REL I J) (kk : ∀ I J, REL I J → AW muL_law 179 3254 1338 [.ref 100000, .ref 0, .ref 170, .int (nI i)] [] (sk0, X, I, J) Q) : AW muL_law 179 3254 787 [.ref 100000, .ref 0, .ref 170, .int (nI i)] [] (sk0, X, I, J) Q := by
  refine AW.aload_n dL_law_787 rfl rfl ?_
  refine AW.aload_n dL_law_788 rfl rfl ?_
  refine AW.iload_n dL_law_789 rfl rfl ?_
  refine AW.iconst (v := nI 1) dL_law_790 (by decide) ?_
  first | refine AW.iaddN dL_law_791 ?_ | refine AW.iadd dL_law_791 ?_
  refine AW.sld rfl dL_law_792 _ rfl (by omega) (by omega) ?_
  show AW muL_law _ _ 793 _ _ _ _
  refine AW.aload_n dL_law_793 rfl rfl ?_
  refine AW.iload_n dL_law_794 rfl rfl ?_
  refine AW.iconst (v := nI 2) dL_law_795 (by decide) ?_
  first | refine AW.iaddN dL_law_796 ?_ | refine AW.iadd dL_law_796 ?_
  refine AW.sld rfl dL_law_797 _ rfl (by omega) (by omega) ?_
  refine AW.aload_n dL_law_798 rfl rfl ?_
  show AW muL_law _ _ 799 _ _ _ _
  refine AW.iload_n dL_law_799 rfl rfl ?_
  refine AW.iconst (v := nI 3) dL_law_800 (by decide) ?_
  first | refine AW.iaddN dL_law_801 ?_ | refine AW.iadd dL_law_801 ?_
  refine AW.sld rfl dL_law_802 _ rfl (by omega) (by omega) ?_
  refine cs_L_law_803 (by first | exact k0_0 | exact k0_170) (by decide) (by decide) (Nat.le_of_ble_eq_true rfl) (AWi.mono (fun r1 σ1 q1 => ?_) (b_bestBed _ _ _ X I J h))
  obtain ⟨I1, J1, rfl, hm⟩ := q1
  refine AW.aload_n dL_law_806 rfl rfl ?_
  show AW muL_law _ _ 807 _ _ _ _
  refine AW.aload_n dL_law_807 rfl rfl ?_
  refine AW.iload_n dL_law_808 rfl rfl ?_
  refine AW.iconst (v := nI 1) dL_law_809 (by decide) ?_
  first | refine AW.iaddN dL_law_810 ?_ | refine AW.iadd dL_law_810 ?_
  refine AW.sld rfl dL_law_811 _ rfl (by omega) (by omega) ?_
  refine AW.aload_n dL_law_812 rfl rfl ?_
  show AW muL_law _ _ 813 _ _ _ _
  refine AW.iload_n dL_law_813 rfl rfl ?_
  refine AW.iconst (v := nI 2) dL_law_814 (by decide) ?_
  first | refine AW.iaddN dL_law_815 ?_ | refine AW.iadd dL_law_815 ?_
  refine AW.sld rfl dL_law_816 _ rfl (by omega) (by omega) ?_
  refine AW.aload_n dL_law_817 rfl rfl ?_
  refine AW.iload_n dL_law_818 rfl rfl ?_
  show AW muL_law _ _ 819 _ _ _ _
  refine AW.iconst (v := nI 3) dL_law_819 (by decide) ?_
  first | refine AW.iaddN dL_law_820 ?_ | refine AW.iadd dL_law_820 ?_
  refine AW.sld rfl dL_law_821 _ rfl (by omega) (by omega) ?_
  refine cs_L_law_822 (by first | exact k0_0 | exact k0_170) (by decide) (by decide) (Nat.le_of_ble_eq_true rfl) (AWi.mono (fun r2 σ2 q2 => ?_) hm)
  obtain ⟨rfl, I2, J2, rfl, hR⟩ := q2
  exact AW.icmp_eq (tgt := 1338) dL_law_825 (by decide) (fun _ => kk I2 J2 hR) (fun e => absurd rfl e)
theorem l_change (hX : X.1 ≤ 3584) (hi : i + 7 ≤ X.1) (h : REL I J) (kk : ∀ I J, REL I J → AW muL_law 179 3254 1338 [.ref 100000, .ref 0, .ref 170, .int (nI i)] [] (sk0, X, I, J) Q) : AW muL_law 179 3254 830 [.ref 100000, .ref 0, .ref 170, .int (nI i)] [] (sk0, X, I, J) Q := by
  refine AW.aload_n dL_law_830 rfl rfl ?_
  refine AW.aload_n dL_law_831 rfl rfl ?_
  refine AW.iload_n dL_law_832 rfl rfl ?_
  refine AW.iconst (v := nI 1) dL_law_833 (by decide) ?_
  first | refine AW.iaddN dL_law_834 ?_ | refine AW.iadd dL_law_834 ?_
  refine AW.sld rfl dL_law_835 _ rfl (by omega) (by omega) ?_
  show AW muL_law _ _ 836 _ _ _ _
  refine AW.aload_n dL_law_836 rfl rfl ?_
  refine AW.iload_n dL_law_837 rfl rfl ?_
  refine AW.iconst (v := nI 2) dL_law_838 (by decide) ?_
  first | refine AW.iaddN dL_law_839 ?_ | refine AW.iadd dL_law_839 ?_
  refine AW.sld rfl dL_law_840 _ rfl (by omega) (by omega) ?_
  refine cs_L_law_841 (by first | exact k0_0 | exact k0_170) (by decide) (by decide) (Nat.le_of_ble_eq_true rfl) (AWi.mono (fun r1 σ1 q1 => ?_) (b_change _ _ X I J h))
  show AW muL_law _ _ 844 _ _ _ _
  obtain ⟨I1, J1, rfl, hm⟩ := q1
  refine AW.aload_n dL_law_844 rfl rfl ?_
  refine AW.aload_n dL_law_845 rfl rfl ?_
  refine AW.iload_n dL_law_846 rfl rfl ?_
  refine AW.iconst (v := nI 1) dL_law_847 (by decide) ?_
  first | refine AW.iaddN dL_law_848 ?_ | refine AW.iadd dL_law_848 ?_
  refine AW.sld rfl dL_law_849 _ rfl (by omega) (by omega) ?_
  show AW muL_law _ _ 850 _ _ _ _
  refine AW.aload_n dL_law_850 rfl rfl ?_
  refine AW.iload_n dL_law_851 rfl rfl ?_
  refine AW.iconst (v := nI 2) dL_law_852 (by decide) ?_
  first | refine AW.iaddN dL_law_853 ?_ | refine AW.iadd dL_law_853 ?_
  refine AW.sld rfl dL_law_854 _ rfl (by omega) (by omega) ?_
  refine cs_L_law_855 (by first | exact k0_0 | exact k0_170) (by decide) (by decide) (Nat.le_of_ble_eq_true rfl) (AWi.mono (fun r2 σ2 q2 => ?_) hm)
  show AW muL_law _ _ 858 _ _ _ _
  obtain ⟨rfl, I2, J2, rfl, hR⟩ := q2
  exact AW.icmp_eq (tgt := 1338) dL_law_858 (by decide) (fun _ => kk I2 J2 hR) (fun e => absurd rfl e)
theorem l_backs (hX : X.1 ≤ 3584) (hi : i + 7 ≤ X.1) (h : REL I J) (kk : ∀ I J, REL I J → AW muL_law 179 3254 1338 [.ref 100000, .ref 0, .ref 170, .int (nI i)] [] (sk0, X, I, J) Q) : AW muL_law 179 3254 863 [.ref 100000, .ref 0, .ref 170, .int (nI i)] [] (sk0, X, I, J) Q := by
  refine AW.aload_n dL_law_863 rfl rfl ?_
  refine AW.aload_n dL_law_864 rfl rfl ?_
  refine AW.iload_n dL_law_865 rfl rfl ?_
  refine AW.iconst (v := nI 1) dL_law_866 (by decide) ?_
  first | refine AW.iaddN dL_law_867 ?_ | refine AW.iadd dL_law_867 ?_
  refine AW.sld rfl dL_law_868 _ rfl (by omega) (by omega) ?_
  show AW muL_law _ _ 869 _ _ _ _
  refine AW.aload_n dL_law_869 rfl rfl ?_
  refine AW.iload_n dL_law_870 rfl rfl ?_
  refine AW.iconst (v := nI 2) dL_law_871 (by decide) ?_
  first | refine AW.iaddN dL_law_872 ?_ | refine AW.iadd dL_law_872 ?_
  refine AW.sld rfl dL_law_873 _ rfl (by omega) (by omega) ?_
  refine cs_L_law_874 (by first | exact k0_0 | exact k0_170) (by decide) (by decide) (Nat.le_of_ble_eq_true rfl) (AWi.mono (fun r1 σ1 q1 => ?_) (b_backs _ _ X I J h))
  show AW muL_law _ _ 877 _ _ _ _
  obtain ⟨I1, J1, rfl, hm⟩ := q1
  refine AW.aload_n dL_law_877 rfl rfl ?_
  refine AW.aload_n dL_law_878 rfl rfl ?_
  refine AW.iload_n dL_law_879 rfl rfl ?_
  refine AW.iconst (v := nI 1) dL_law_880 (by decide) ?_
  first | refine AW.iaddN dL_law_881 ?_ | refine AW.iadd dL_law_881 ?_
  refine AW.sld rfl dL_law_882 _ rfl (by omega) (by omega) ?_
  show AW muL_law _ _ 883 _ _ _ _
  refine AW.aload_n dL_law_883 rfl rfl ?_
  refine AW.iload_n dL_law_884 rfl rfl ?_
  refine AW.iconst (v := nI 2) dL_law_885 (by decide) ?_
  first | refine AW.iaddN dL_law_886 ?_ | refine AW.iadd dL_law_886 ?_
  refine AW.sld rfl dL_law_887 _ rfl (by omega) (by omega) ?_
  refine cs_L_law_888 (by first | exact k0_0 | exact k0_170) (by decide) (by decide) (Nat.le_of_ble_eq_true rfl) (AWi.mono (fun r2 σ2 q2 => ?_) hm)
  show AW muL_law _ _ 891 _ _ _ _
  obtain ⟨rfl, I2, J2, rfl, hR⟩ := q2
  exact AW.icmp_eq (tgt := 1338) dL_law_891 (by decide) (fun _ => kk I2 J2 hR) (fun e => absurd rfl e)
theorem l_luck (hX : X.1 ≤ 3584) (hi : i + 7 ≤ X.1) (h : REL I J) (kk : ∀ I J, REL I J → AW muL_law 179 3254 1338 [.ref 100000, .ref 0, .ref 170, .int (nI i)] [] (sk0, X, I, J) Q) : AW muL_law 179 3254 896 [.ref 100000, .ref 0, .ref 170, .int (nI i)] [] (sk0, X, I, J) Q := by
  refine AW.aload_n dL_law_896 rfl rfl ?_
  refine AW.aload_n dL_law_897 rfl rfl ?_
  refine AW.iload_n dL_law_898 rfl rfl ?_
  refine AW.iconst (v := nI 1) dL_law_899 (by decide) ?_
  first | refine AW.iaddN dL_law_900 ?_ | refine AW.iadd dL_law_900 ?_
  refine AW.sld rfl dL_law_901 _ rfl (by omega) (by omega) ?_
  show AW muL_law _ _ 902 _ _ _ _
  refine AW.aload_n dL_law_902 rfl rfl ?_
  refine AW.iload_n dL_law_903 rfl rfl ?_
  refine AW.iconst (v := nI 2) dL_law_904 (by decide) ?_
  first | refine AW.iaddN dL_law_905 ?_ | refine AW.iadd dL_law_905 ?_
  refine AW.sld rfl dL_law_906 _ rfl (by omega) (by omega) ?_
  refine AW.aload_n dL_law_907 rfl rfl ?_
  show AW muL_law _ _ 908 _ _ _ _
  refine AW.iload_n dL_law_908 rfl rfl ?_
  refine AW.iconst (v := nI 3) dL_law_909 (by decide) ?_
  first | refine AW.iaddN dL_law_910 ?_ | refine AW.iadd dL_law_910 ?_
  refine AW.sld rfl dL_law_911 _ rfl (by omega) (by omega) ?_
  refine cs_L_law_912 (by first | exact k0_0 | exact k0_170) (by decide) (by decide) (Nat.le_of_ble_eq_true rfl) (AWi.mono (fun r1 σ1 q1 => ?_) (b_luck _ _ _ X I J h))
  obtain ⟨I1, J1, rfl, hm⟩ := q1
  refine AW.aload_n dL_law_915 rfl rfl ?_
  show AW muL_law _ _ 916 _ _ _ _
  refine AW.aload_n dL_law_916 rfl rfl ?_
  refine AW.iload_n dL_law_917 rfl rfl ?_
  refine AW.iconst (v := nI 1) dL_law_918 (by decide) ?_
  first | refine AW.iaddN dL_law_919 ?_ | refine AW.iadd dL_law_919 ?_
  refine AW.sld rfl dL_law_920 _ rfl (by omega) (by omega) ?_
  refine AW.aload_n dL_law_921 rfl rfl ?_
  show AW muL_law _ _ 922 _ _ _ _
  refine AW.iload_n dL_law_922 rfl rfl ?_
  refine AW.iconst (v := nI 2) dL_law_923 (by decide) ?_
  first | refine AW.iaddN dL_law_924 ?_ | refine AW.iadd dL_law_924 ?_
  refine AW.sld rfl dL_law_925 _ rfl (by omega) (by omega) ?_
  refine AW.aload_n dL_law_926 rfl rfl ?_
  refine AW.iload_n dL_law_927 rfl rfl ?_
  show AW muL_law _ _ 928 _ _ _ _
  refine AW.iconst (v := nI 3) dL_law_928 (by decide) ?_
  first | refine AW.iaddN dL_law_929 ?_ | refine AW.iadd dL_law_929 ?_
  refine AW.sld rfl dL_law_930 _ rfl (by omega) (by omega) ?_
  refine cs_L_law_931 (by first | exact k0_0 | exact k0_170) (by decide) (by decide) (Nat.le_of_ble_eq_true rfl) (AWi.mono (fun r2 σ2 q2 => ?_) hm)
  obtain ⟨rfl, I2, J2, rfl, hR⟩ := q2
  exact AW.icmp_eq (tgt := 1338) dL_law_934 (by decide) (fun _ => kk I2 J2 hR) (fun e => absurd rfl e)
theorem l_thanked (hX : X.1 ≤ 3584) (hi : i + 7 ≤ X.1) (h : REL I J) (kk : ∀ I J, REL I J → AW muL_law 179 3254 1338 [.ref 100000, .ref 0, .ref 170, .int (nI i)] [] (sk0, X, I, J) Q) : AW muL_law 179 3254 939 [.ref 100000, .ref 0, .ref 170, .int (nI i)] [] (sk0, X, I, J) Q := by
  refine AW.aload_n dL_law_939 rfl rfl ?_
  refine AW.aload_n dL_law_940 rfl rfl ?_
  refine AW.iload_n dL_law_941 rfl rfl ?_
  refine AW.iconst (v := nI 1) dL_law_942 (by decide) ?_
  first | refine AW.iaddN dL_law_943 ?_ | refine AW.iadd dL_law_943 ?_
  refine AW.sld rfl dL_law_944 _ rfl (by omega) (by omega) ?_
  show AW muL_law _ _ 945 _ _ _ _
  refine cs_L_law_945 (by first | exact k0_0 | exact k0_170) (by decide) (by decide) (Nat.le_of_ble_eq_true rfl) (AWi.mono (fun r1 σ1 q1 => ?_) (b_thanked _ X I J h))
  obtain ⟨I1, J1, rfl, hm⟩ := q1
  refine AW.aload_n dL_law_948 rfl rfl ?_
  refine AW.aload_n dL_law_949 rfl rfl ?_
  refine AW.iload_n dL_law_950 rfl rfl ?_
  refine AW.iconst (v := nI 1) dL_law_951 (by decide) ?_
  first | refine AW.iaddN dL_law_952 ?_ | refine AW.iadd dL_law_952 ?_
  show AW muL_law _ _ 953 _ _ _ _
  refine AW.sld rfl dL_law_953 _ rfl (by omega) (by omega) ?_
  refine cs_L_law_954 (by first | exact k0_0 | exact k0_170) (by decide) (by decide) (Nat.le_of_ble_eq_true rfl) (AWi.mono (fun r2 σ2 q2 => ?_) hm)
  obtain ⟨rfl, I2, J2, rfl, hR⟩ := q2
  exact AW.icmp_eq (tgt := 1338) dL_law_957 (by decide) (fun _ => kk I2 J2 hR) (fun e => absurd rfl e)
theorem l_image (hX : X.1 ≤ 3584) (hi : i + 7 ≤ X.1) (h : REL I J) (kk : ∀ I J, REL I J → AW muL_law 179 3254 1338 [.ref 100000, .ref 0, .ref 170, .int (nI i)] [] (sk0, X, I, J) Q) : AW muL_law 179 3254 962 [.ref 100000, .ref 0, .ref 170, .int (nI i)] [] (sk0, X, I, J) Q := by
  refine AW.aload_n dL_law_962 rfl rfl ?_
  refine cs_L_law_963 (by first | exact k0_0 | exact k0_170) (by decide) (by decide) (Nat.le_of_ble_eq_true rfl) (AWi.mono (fun r1 σ1 q1 => ?_) (b_image X I J h))
  obtain ⟨I1, J1, rfl, hm⟩ := q1
  refine AW.aload_n dL_law_966 rfl rfl ?_
  refine cs_L_law_967 (by first | exact k0_0 | exact k0_170) (by decide) (by decide) (Nat.le_of_ble_eq_true rfl) (AWi.mono (fun r2 σ2 q2 => ?_) hm)
  obtain ⟨rfl, I2, J2, rfl, hR⟩ := q2
  exact AW.icmp_eq (tgt := 1338) dL_law_970 (by decide) (fun _ => kk I2 J2 hR) (fun e => absurd rfl e)
theorem l_restore (hX : X.1 ≤ 3584) (hi : i + 7 ≤ X.1) (h : REL I J) (kk : ∀ I J, REL I J → AW muL_law 179 3254 1338 [.ref 100000, .ref 0, .ref 170, .int (nI i)] [] (sk0, X, I, J) Q) : AW muL_law 179 3254 975 [.ref 100000, .ref 0, .ref 170, .int (nI i)] [] (sk0, X, I, J) Q := by
  refine AW.aload_n dL_law_975 rfl rfl ?_
  refine cs_L_law_976 (by first | exact k0_0 | exact k0_170) (by decide) (by decide) (Nat.le_of_ble_eq_true rfl) (AWi.mono (fun r1 σ1 q1 => ?_) (b_restore X I J h))
  obtain ⟨I1, J1, rfl, hm⟩ := q1
  refine AW.aload_n dL_law_979 rfl rfl ?_
  refine cs_L_law_980 (by first | exact k0_0 | exact k0_170) (by decide) (by decide) (Nat.le_of_ble_eq_true rfl) (AWi.mono (fun r2 σ2 q2 => ?_) hm)
  obtain ⟨rfl, I2, J2, rfl, hR⟩ := q2
  exact AW.icmp_eq (tgt := 1338) dL_law_983 (by decide) (fun _ => kk I2 J2 hR) (fun e => absurd rfl e)
theorem l_heard (hX : X.1 ≤ 3584) (hi : i + 7 ≤ X.1) (h : REL I J) (kk : ∀ I J, REL I J → AW muL_law 179 3254 1338 [.ref 100000, .ref 0, .ref 170, .int (nI i)] [] (sk0, X, I, J) Q) : AW muL_law 179 3254 988 [.ref 100000, .ref 0, .ref 170, .int (nI i)] [] (sk0, X, I, J) Q := by
  refine AW.aload_n dL_law_988 rfl rfl ?_
  refine AW.aload_n dL_law_989 rfl rfl ?_
  refine AW.iload_n dL_law_990 rfl rfl ?_
  refine AW.iconst (v := nI 1) dL_law_991 (by decide) ?_
  first | refine AW.iaddN dL_law_992 ?_ | refine AW.iadd dL_law_992 ?_
  refine AW.sld rfl dL_law_993 _ rfl (by omega) (by omega) ?_
  show AW muL_law _ _ 994 _ _ _ _
  refine AW.aload_n dL_law_994 rfl rfl ?_
  refine AW.iload_n dL_law_995 rfl rfl ?_
  refine AW.iconst (v := nI 2) dL_law_996 (by decide) ?_
  first | refine AW.iaddN dL_law_997 ?_ | refine AW.iadd dL_law_997 ?_
  refine AW.sld rfl dL_law_998 _ rfl (by omega) (by omega) ?_
  refine AW.aload_n dL_law_999 rfl rfl ?_
  show AW muL_law _ _ 1000 _ _ _ _
  refine AW.iload_n dL_law_1000 rfl rfl ?_
  refine AW.iconst (v := nI 3) dL_law_1001 (by decide) ?_
  first | refine AW.iaddN dL_law_1002 ?_ | refine AW.iadd dL_law_1002 ?_
  refine AW.sld rfl dL_law_1003 _ rfl (by omega) (by omega) ?_
  refine AW.aload_n dL_law_1004 rfl rfl ?_
  refine AW.iload_n dL_law_1005 rfl rfl ?_
  show AW muL_law _ _ 1006 _ _ _ _
  refine AW.iconst (v := nI 4) dL_law_1006 (by decide) ?_
  first | refine AW.iaddN dL_law_1007 ?_ | refine AW.iadd dL_law_1007 ?_
  refine AW.sld rfl dL_law_1008 _ rfl (by omega) (by omega) ?_
  refine AW.aload_n dL_law_1009 rfl rfl ?_
  refine AW.iload_n dL_law_1010 rfl rfl ?_
  refine AW.iconst (v := nI 5) dL_law_1011 (by decide) ?_
  show AW muL_law _ _ 1012 _ _ _ _
  first | refine AW.iaddN dL_law_1012 ?_ | refine AW.iadd dL_law_1012 ?_
  refine AW.sld rfl dL_law_1013 _ rfl (by omega) (by omega) ?_
  refine AW.aload_n dL_law_1014 rfl rfl ?_
  refine AW.iload_n dL_law_1015 rfl rfl ?_
  refine AW.bipush (v := nI 6) dL_law_1016 (by decide) ?_
  first | refine AW.iaddN dL_law_1018 ?_ | refine AW.iadd dL_law_1018 ?_
  show AW muL_law _ _ 1019 _ _ _ _
  refine AW.sld rfl dL_law_1019 _ rfl (by omega) (by omega) ?_
  refine cs_L_law_1020 (by first | exact k0_0 | exact k0_170) (by decide) (by decide) (Nat.le_of_ble_eq_true rfl) (AWi.mono (fun r1 σ1 q1 => ?_) (b_heard _ _ _ _ _ _ X I J h))
  obtain ⟨I1, J1, rfl, hm⟩ := q1
  refine AW.aload_n dL_law_1023 rfl rfl ?_
  refine AW.aload_n dL_law_1024 rfl rfl ?_
  refine AW.iload_n dL_law_1025 rfl rfl ?_
  refine AW.iconst (v := nI 1) dL_law_1026 (by decide) ?_
  show AW muL_law _ _ 1027 _ _ _ _
  first | refine AW.iaddN dL_law_1027 ?_ | refine AW.iadd dL_law_1027 ?_
  refine AW.sld rfl dL_law_1028 _ rfl (by omega) (by omega) ?_
  refine AW.aload_n dL_law_1029 rfl rfl ?_
  refine AW.iload_n dL_law_1030 rfl rfl ?_
  refine AW.iconst (v := nI 2) dL_law_1031 (by decide) ?_
  first | refine AW.iaddN dL_law_1032 ?_ | refine AW.iadd dL_law_1032 ?_
  show AW muL_law _ _ 1033 _ _ _ _
  refine AW.sld rfl dL_law_1033 _ rfl (by omega) (by omega) ?_
  refine AW.aload_n dL_law_1034 rfl rfl ?_
  refine AW.iload_n dL_law_1035 rfl rfl ?_
  refine AW.iconst (v := nI 3) dL_law_1036 (by decide) ?_
  first | refine AW.iaddN dL_law_1037 ?_ | refine AW.iadd dL_law_1037 ?_
  refine AW.sld rfl dL_law_1038 _ rfl (by omega) (by omega) ?_
  show AW muL_law _ _ 1039 _ _ _ _
  refine AW.aload_n dL_law_1039 rfl rfl ?_
  refine AW.iload_n dL_law_1040 rfl rfl ?_
  refine AW.iconst (v := nI 4) dL_law_1041 (by decide) ?_
  first | refine AW.iaddN dL_law_1042 ?_ | refine AW.iadd dL_law_1042 ?_
  refine AW.sld rfl dL_law_1043 _ rfl (by omega) (by omega) ?_
  refine AW.aload_n dL_law_1044 rfl rfl ?_
  show AW muL_law _ _ 1045 _ _ _ _
  refine AW.iload_n dL_law_1045 rfl rfl ?_
  refine AW.iconst (v := nI 5) dL_law_1046 (by decide) ?_
  first | refine AW.iaddN dL_law_1047 ?_ | refine AW.iadd dL_law_1047 ?_
  refine AW.sld rfl dL_law_1048 _ rfl (by omega) (by omega) ?_
  refine AW.aload_n dL_law_1049 rfl rfl ?_
  refine AW.iload_n dL_law_1050 rfl rfl ?_
  show AW muL_law _ _ 1051 _ _ _ _
  refine AW.bipush (v := nI 6) dL_law_1051 (by decide) ?_
  first | refine AW.iaddN dL_law_1053 ?_ | refine AW.iadd dL_law_1053 ?_
  refine AW.sld rfl dL_law_1054 _ rfl (by omega) (by omega) ?_
  refine cs_L_law_1055 (by first | exact k0_0 | exact k0_170) (by decide) (by decide) (Nat.le_of_ble_eq_true rfl) (AWi.mono (fun r2 σ2 q2 => ?_) hm)
  obtain ⟨rfl, I2, J2, rfl, hR⟩ := q2
  exact AW.icmp_eq (tgt := 1338) dL_law_1058 (by decide) (fun _ => kk I2 J2 hR) (fun e => absurd rfl e)
theorem l_film (hX : X.1 ≤ 3584) (hi : i + 7 ≤ X.1) (h : REL I J) (kk : ∀ I J, REL I J → AW muL_law 179 3254 1338 [.ref 100000, .ref 0, .ref 170, .int (nI i)] [] (sk0, X, I, J) Q) : AW muL_law 179 3254 1063 [.ref 100000, .ref 0, .ref 170, .int (nI i)] [] (sk0, X, I, J) Q := by
  refine AW.aload_n dL_law_1063 rfl rfl ?_
  refine AW.aload_n dL_law_1064 rfl rfl ?_
  refine AW.iload_n dL_law_1065 rfl rfl ?_
  refine AW.iconst (v := nI 1) dL_law_1066 (by decide) ?_
  first | refine AW.iaddN dL_law_1067 ?_ | refine AW.iadd dL_law_1067 ?_
  refine AW.sld rfl dL_law_1068 _ rfl (by omega) (by omega) ?_
  show AW muL_law _ _ 1069 _ _ _ _
  refine AW.aload_n dL_law_1069 rfl rfl ?_
  refine AW.iload_n dL_law_1070 rfl rfl ?_
  refine AW.iconst (v := nI 2) dL_law_1071 (by decide) ?_
  first | refine AW.iaddN dL_law_1072 ?_ | refine AW.iadd dL_law_1072 ?_
  refine AW.sld rfl dL_law_1073 _ rfl (by omega) (by omega) ?_
  refine AW.aload_n dL_law_1074 rfl rfl ?_
  show AW muL_law _ _ 1075 _ _ _ _
  refine AW.iload_n dL_law_1075 rfl rfl ?_
  refine AW.iconst (v := nI 3) dL_law_1076 (by decide) ?_
  first | refine AW.iaddN dL_law_1077 ?_ | refine AW.iadd dL_law_1077 ?_
  refine AW.sld rfl dL_law_1078 _ rfl (by omega) (by omega) ?_
  refine AW.aload_n dL_law_1079 rfl rfl ?_
  refine AW.iload_n dL_law_1080 rfl rfl ?_
  show AW muL_law _ _ 1081 _ _ _ _
  refine AW.iconst (v := nI 4) dL_law_1081 (by decide) ?_
  first | refine AW.iaddN dL_law_1082 ?_ | refine AW.iadd dL_law_1082 ?_
  refine AW.sld rfl dL_law_1083 _ rfl (by omega) (by omega) ?_
  refine AW.aload_n dL_law_1084 rfl rfl ?_
  refine AW.iload_n dL_law_1085 rfl rfl ?_
  refine AW.iconst (v := nI 5) dL_law_1086 (by decide) ?_
  show AW muL_law _ _ 1087 _ _ _ _
  first | refine AW.iaddN dL_law_1087 ?_ | refine AW.iadd dL_law_1087 ?_
  refine AW.sld rfl dL_law_1088 _ rfl (by omega) (by omega) ?_
  refine cs_L_law_1089 (by first | exact k0_0 | exact k0_170) (by decide) (by decide) (Nat.le_of_ble_eq_true rfl) (AWi.mono (fun r1 σ1 q1 => ?_) (b_film _ _ _ _ _ X I J h))
  obtain ⟨I1, J1, rfl, hm⟩ := q1
  refine AW.aload_n dL_law_1092 rfl rfl ?_
  refine AW.aload_n dL_law_1093 rfl rfl ?_
  refine AW.iload_n dL_law_1094 rfl rfl ?_
  show AW muL_law _ _ 1095 _ _ _ _
  refine AW.iconst (v := nI 1) dL_law_1095 (by decide) ?_
  first | refine AW.iaddN dL_law_1096 ?_ | refine AW.iadd dL_law_1096 ?_
  refine AW.sld rfl dL_law_1097 _ rfl (by omega) (by omega) ?_
  refine AW.aload_n dL_law_1098 rfl rfl ?_
  refine AW.iload_n dL_law_1099 rfl rfl ?_
  refine AW.iconst (v := nI 2) dL_law_1100 (by decide) ?_
  show AW muL_law _ _ 1101 _ _ _ _
  first | refine AW.iaddN dL_law_1101 ?_ | refine AW.iadd dL_law_1101 ?_
  refine AW.sld rfl dL_law_1102 _ rfl (by omega) (by omega) ?_
  refine AW.aload_n dL_law_1103 rfl rfl ?_
  refine AW.iload_n dL_law_1104 rfl rfl ?_
  refine AW.iconst (v := nI 3) dL_law_1105 (by decide) ?_
  first | refine AW.iaddN dL_law_1106 ?_ | refine AW.iadd dL_law_1106 ?_
  show AW muL_law _ _ 1107 _ _ _ _
  refine AW.sld rfl dL_law_1107 _ rfl (by omega) (by omega) ?_
  refine AW.aload_n dL_law_1108 rfl rfl ?_
  refine AW.iload_n dL_law_1109 rfl rfl ?_
  refine AW.iconst (v := nI 4) dL_law_1110 (by decide) ?_
  first | refine AW.iaddN dL_law_1111 ?_ | refine AW.iadd dL_law_1111 ?_
  refine AW.sld rfl dL_law_1112 _ rfl (by omega) (by omega) ?_
  show AW muL_law _ _ 1113 _ _ _ _
  refine AW.aload_n dL_law_1113 rfl rfl ?_
  refine AW.iload_n dL_law_1114 rfl rfl ?_
  refine AW.iconst (v := nI 5) dL_law_1115 (by decide) ?_
  first | refine AW.iaddN dL_law_1116 ?_ | refine AW.iadd dL_law_1116 ?_
  refine AW.sld rfl dL_law_1117 _ rfl (by omega) (by omega) ?_
  refine cs_L_law_1118 (by first | exact k0_0 | exact k0_170) (by decide) (by decide) (Nat.le_of_ble_eq_true rfl) (AWi.mono (fun r2 σ2 q2 => ?_) hm)
  show AW muL_law _ _ 1121 _ _ _ _
  obtain ⟨rfl, I2, J2, rfl, hR⟩ := q2
  exact AW.icmp_eq (tgt := 1338) dL_law_1121 (by decide) (fun _ => kk I2 J2 hR) (fun e => absurd rfl e)
theorem l_sheet (hX : X.1 ≤ 3584) (hi : i + 7 ≤ X.1) (h : REL I J) (kk : ∀ I J, REL I J → AW muL_law 179 3254 1338 [.ref 100000, .ref 0, .ref 170, .int (nI i)] [] (sk0, X, I, J) Q) : AW muL_law 179 3254 1126 [.ref 100000, .ref 0, .ref 170, .int (nI i)] [] (sk0, X, I, J) Q := by
  refine AW.aload_n dL_law_1126 rfl rfl ?_
  refine AW.aload_n dL_law_1127 rfl rfl ?_
  refine AW.iload_n dL_law_1128 rfl rfl ?_
  refine AW.iconst (v := nI 1) dL_law_1129 (by decide) ?_
  first | refine AW.iaddN dL_law_1130 ?_ | refine AW.iadd dL_law_1130 ?_
  refine AW.sld rfl dL_law_1131 _ rfl (by omega) (by omega) ?_
  show AW muL_law _ _ 1132 _ _ _ _
  refine AW.aload_n dL_law_1132 rfl rfl ?_
  refine AW.iload_n dL_law_1133 rfl rfl ?_
  refine AW.iconst (v := nI 2) dL_law_1134 (by decide) ?_
  first | refine AW.iaddN dL_law_1135 ?_ | refine AW.iadd dL_law_1135 ?_
  refine AW.sld rfl dL_law_1136 _ rfl (by omega) (by omega) ?_
  refine AW.aload_n dL_law_1137 rfl rfl ?_
  show AW muL_law _ _ 1138 _ _ _ _
  refine AW.iload_n dL_law_1138 rfl rfl ?_
  refine AW.iconst (v := nI 3) dL_law_1139 (by decide) ?_
  first | refine AW.iaddN dL_law_1140 ?_ | refine AW.iadd dL_law_1140 ?_
  refine AW.sld rfl dL_law_1141 _ rfl (by omega) (by omega) ?_
  refine cs_L_law_1142 (by first | exact k0_0 | exact k0_170) (by decide) (by decide) (Nat.le_of_ble_eq_true rfl) (AWi.mono (fun r1 σ1 q1 => ?_) (b_sheet _ _ _ X I J h))
  obtain ⟨I1, J1, rfl, hm⟩ := q1
  refine AW.aload_n dL_law_1145 rfl rfl ?_
  show AW muL_law _ _ 1146 _ _ _ _
  refine AW.aload_n dL_law_1146 rfl rfl ?_
  refine AW.iload_n dL_law_1147 rfl rfl ?_
  refine AW.iconst (v := nI 1) dL_law_1148 (by decide) ?_
  first | refine AW.iaddN dL_law_1149 ?_ | refine AW.iadd dL_law_1149 ?_
  refine AW.sld rfl dL_law_1150 _ rfl (by omega) (by omega) ?_
  refine AW.aload_n dL_law_1151 rfl rfl ?_
  show AW muL_law _ _ 1152 _ _ _ _
  refine AW.iload_n dL_law_1152 rfl rfl ?_
  refine AW.iconst (v := nI 2) dL_law_1153 (by decide) ?_
  first | refine AW.iaddN dL_law_1154 ?_ | refine AW.iadd dL_law_1154 ?_
  refine AW.sld rfl dL_law_1155 _ rfl (by omega) (by omega) ?_
  refine AW.aload_n dL_law_1156 rfl rfl ?_
  refine AW.iload_n dL_law_1157 rfl rfl ?_
  show AW muL_law _ _ 1158 _ _ _ _
  refine AW.iconst (v := nI 3) dL_law_1158 (by decide) ?_
  first | refine AW.iaddN dL_law_1159 ?_ | refine AW.iadd dL_law_1159 ?_
  refine AW.sld rfl dL_law_1160 _ rfl (by omega) (by omega) ?_
  refine cs_L_law_1161 (by first | exact k0_0 | exact k0_170) (by decide) (by decide) (Nat.le_of_ble_eq_true rfl) (AWi.mono (fun r2 σ2 q2 => ?_) hm)
  obtain ⟨rfl, I2, J2, rfl, hR⟩ := q2
  exact AW.icmp_eq (tgt := 1338) dL_law_1164 (by decide) (fun _ => kk I2 J2 hR) (fun e => absurd rfl e)
theorem l_drop (hX : X.1 ≤ 3584) (hi : i + 7 ≤ X.1) (h : REL I J) (kk : ∀ I J, REL I J → AW muL_law 179 3254 1338 [.ref 100000, .ref 0, .ref 170, .int (nI i)] [] (sk0, X, I, J) Q) : AW muL_law 179 3254 1169 [.ref 100000, .ref 0, .ref 170, .int (nI i)] [] (sk0, X, I, J) Q := by
  refine AW.aload_n dL_law_1169 rfl rfl ?_
  refine AW.aload_n dL_law_1170 rfl rfl ?_
  refine AW.iload_n dL_law_1171 rfl rfl ?_
  refine AW.iconst (v := nI 1) dL_law_1172 (by decide) ?_
  first | refine AW.iaddN dL_law_1173 ?_ | refine AW.iadd dL_law_1173 ?_
  refine AW.sld rfl dL_law_1174 _ rfl (by omega) (by omega) ?_
  show AW muL_law _ _ 1175 _ _ _ _
  refine cs_L_law_1175 (by first | exact k0_0 | exact k0_170) (by decide) (by decide) (Nat.le_of_ble_eq_true rfl) (AWi.mono (fun r1 σ1 q1 => ?_) (b_drop _ X I J h))
  obtain ⟨I1, J1, rfl, hm⟩ := q1
  refine AW.aload_n dL_law_1178 rfl rfl ?_
  refine AW.aload_n dL_law_1179 rfl rfl ?_
  refine AW.iload_n dL_law_1180 rfl rfl ?_
  refine AW.iconst (v := nI 1) dL_law_1181 (by decide) ?_
  first | refine AW.iaddN dL_law_1182 ?_ | refine AW.iadd dL_law_1182 ?_
  show AW muL_law _ _ 1183 _ _ _ _
  refine AW.sld rfl dL_law_1183 _ rfl (by omega) (by omega) ?_
  refine cs_L_law_1184 (by first | exact k0_0 | exact k0_170) (by decide) (by decide) (Nat.le_of_ble_eq_true rfl) (AWi.mono (fun r2 σ2 q2 => ?_) hm)
  obtain ⟨rfl, I2, J2, rfl, hR⟩ := q2
  exact AW.icmp_eq (tgt := 1338) dL_law_1187 (by decide) (fun _ => kk I2 J2 hR) (fun e => absurd rfl e)
theorem l_item (hX : X.1 ≤ 3584) (hi : i + 7 ≤ X.1) (h : REL I J) (kk : ∀ I J, REL I J → AW muL_law 179 3254 1338 [.ref 100000, .ref 0, .ref 170, .int (nI i)] [] (sk0, X, I, J) Q) : AW muL_law 179 3254 1192 [.ref 100000, .ref 0, .ref 170, .int (nI i)] [] (sk0, X, I, J) Q := by
  refine AW.aload_n dL_law_1192 rfl rfl ?_
  refine AW.aload_n dL_law_1193 rfl rfl ?_
  refine AW.iload_n dL_law_1194 rfl rfl ?_
  refine AW.iconst (v := nI 1) dL_law_1195 (by decide) ?_
  first | refine AW.iaddN dL_law_1196 ?_ | refine AW.iadd dL_law_1196 ?_
  refine AW.sld rfl dL_law_1197 _ rfl (by omega) (by omega) ?_
  show AW muL_law _ _ 1198 _ _ _ _
  refine AW.aload_n dL_law_1198 rfl rfl ?_
  refine AW.iload_n dL_law_1199 rfl rfl ?_
  refine AW.iconst (v := nI 2) dL_law_1200 (by decide) ?_
  first | refine AW.iaddN dL_law_1201 ?_ | refine AW.iadd dL_law_1201 ?_
  refine AW.sld rfl dL_law_1202 _ rfl (by omega) (by omega) ?_
  refine AW.aload_n dL_law_1203 rfl rfl ?_
  show AW muL_law _ _ 1204 _ _ _ _
  refine AW.iload_n dL_law_1204 rfl rfl ?_
  refine AW.iconst (v := nI 3) dL_law_1205 (by decide) ?_
  first | refine AW.iaddN dL_law_1206 ?_ | refine AW.iadd dL_law_1206 ?_
  refine AW.sld rfl dL_law_1207 _ rfl (by omega) (by omega) ?_
  refine AW.aload_n dL_law_1208 rfl rfl ?_
  refine AW.iload_n dL_law_1209 rfl rfl ?_
  show AW muL_law _ _ 1210 _ _ _ _
  refine AW.iconst (v := nI 4) dL_law_1210 (by decide) ?_
  first | refine AW.iaddN dL_law_1211 ?_ | refine AW.iadd dL_law_1211 ?_
  refine AW.sld rfl dL_law_1212 _ rfl (by omega) (by omega) ?_
  refine AW.i2l dL_law_1213 ?_
  refine AW.bipush (v := nI 32) dL_law_1214 (by decide) ?_
  refine AW.lshl dL_law_1216 ?_
  show AW muL_law _ _ 1217 _ _ _ _
  refine AW.aload_n dL_law_1217 rfl rfl ?_
  refine AW.iload_n dL_law_1218 rfl rfl ?_
  refine AW.iconst (v := nI 5) dL_law_1219 (by decide) ?_
  first | refine AW.iaddN dL_law_1220 ?_ | refine AW.iadd dL_law_1220 ?_
  refine AW.sld rfl dL_law_1221 _ rfl (by omega) (by omega) ?_
  refine AW.i2l dL_law_1222 ?_
  show AW muL_law _ _ 1223 _ _ _ _
  refine AW.ldc2 (v := lN 4294967295) dL_law_1223 wKL_L_148 ?_
  refine AW.land dL_law_1226 ?_
  refine AW.lor dL_law_1227 ?_
  refine cs_L_law_1228 (by first | exact k0_0 | exact k0_170) (by decide) (by decide) (Nat.le_of_ble_eq_true rfl) (AWi.mono (fun r1 σ1 q1 => ?_) (b_item _ _ _ _ X I J h))
  obtain ⟨I1, J1, rfl, hm⟩ := q1
  refine AW.aload_n dL_law_1231 rfl rfl ?_
  refine AW.aload_n dL_law_1232 rfl rfl ?_
  show AW muL_law _ _ 1233 _ _ _ _
  refine AW.iload_n dL_law_1233 rfl rfl ?_
  refine AW.iconst (v := nI 1) dL_law_1234 (by decide) ?_
  first | refine AW.iaddN dL_law_1235 ?_ | refine AW.iadd dL_law_1235 ?_
  refine AW.sld rfl dL_law_1236 _ rfl (by omega) (by omega) ?_
  refine AW.aload_n dL_law_1237 rfl rfl ?_
  refine AW.iload_n dL_law_1238 rfl rfl ?_
  show AW muL_law _ _ 1239 _ _ _ _
  refine AW.iconst (v := nI 2) dL_law_1239 (by decide) ?_
  first | refine AW.iaddN dL_law_1240 ?_ | refine AW.iadd dL_law_1240 ?_
  refine AW.sld rfl dL_law_1241 _ rfl (by omega) (by omega) ?_
  refine AW.aload_n dL_law_1242 rfl rfl ?_
  refine AW.iload_n dL_law_1243 rfl rfl ?_
  refine AW.iconst (v := nI 3) dL_law_1244 (by decide) ?_
  show AW muL_law _ _ 1245 _ _ _ _
  first | refine AW.iaddN dL_law_1245 ?_ | refine AW.iadd dL_law_1245 ?_
  refine AW.sld rfl dL_law_1246 _ rfl (by omega) (by omega) ?_
  refine AW.aload_n dL_law_1247 rfl rfl ?_
  refine AW.iload_n dL_law_1248 rfl rfl ?_
  refine AW.iconst (v := nI 4) dL_law_1249 (by decide) ?_
  first | refine AW.iaddN dL_law_1250 ?_ | refine AW.iadd dL_law_1250 ?_
  show AW muL_law _ _ 1251 _ _ _ _
  refine AW.sld rfl dL_law_1251 _ rfl (by omega) (by omega) ?_
  refine AW.i2l dL_law_1252 ?_
  refine AW.bipush (v := nI 32) dL_law_1253 (by decide) ?_
  refine AW.lshl dL_law_1255 ?_
  refine AW.aload_n dL_law_1256 rfl rfl ?_
  refine AW.iload_n dL_law_1257 rfl rfl ?_
  show AW muL_law _ _ 1258 _ _ _ _
  refine AW.iconst (v := nI 5) dL_law_1258 (by decide) ?_
  first | refine AW.iaddN dL_law_1259 ?_ | refine AW.iadd dL_law_1259 ?_
  refine AW.sld rfl dL_law_1260 _ rfl (by omega) (by omega) ?_
  refine AW.i2l dL_law_1261 ?_
  refine AW.ldc2 (v := lN 4294967295) dL_law_1262 wKL_L_148 ?_
  refine AW.land dL_law_1265 ?_
  show AW muL_law _ _ 1266 _ _ _ _
  refine AW.lor dL_law_1266 ?_
  refine cs_L_law_1267 (by first | exact k0_0 | exact k0_170) (by decide) (by decide) (Nat.le_of_ble_eq_true rfl) (AWi.mono (fun r2 σ2 q2 => ?_) hm)
  obtain ⟨rfl, I2, J2, rfl, hR⟩ := q2
  exact AW.icmp_eq (tgt := 1338) dL_law_1270 (by decide) (fun _ => kk I2 J2 hR) (fun e => absurd rfl e)
theorem l_copy (hX : X.1 ≤ 3584) (hi : i + 7 ≤ X.1) (h : REL I J) (kk : ∀ I J, REL I J → AW muL_law 179 3254 1338 [.ref 100000, .ref 0, .ref 170, .int (nI i)] [] (sk0, X, I, J) Q) : AW muL_law 179 3254 1275 [.ref 100000, .ref 0, .ref 170, .int (nI i)] [] (sk0, X, I, J) Q := by
  refine AW.aload_n dL_law_1275 rfl rfl ?_
  refine AW.aload_n dL_law_1276 rfl rfl ?_
  refine AW.iload_n dL_law_1277 rfl rfl ?_
  refine AW.iconst (v := nI 1) dL_law_1278 (by decide) ?_
  first | refine AW.iaddN dL_law_1279 ?_ | refine AW.iadd dL_law_1279 ?_
  refine AW.sld rfl dL_law_1280 _ rfl (by omega) (by omega) ?_
  show AW muL_law _ _ 1281 _ _ _ _
  refine AW.aload_n dL_law_1281 rfl rfl ?_
  refine AW.iload_n dL_law_1282 rfl rfl ?_
  refine AW.iconst (v := nI 2) dL_law_1283 (by decide) ?_
  first | refine AW.iaddN dL_law_1284 ?_ | refine AW.iadd dL_law_1284 ?_
  refine AW.sld rfl dL_law_1285 _ rfl (by omega) (by omega) ?_
  refine AW.aload_n dL_law_1286 rfl rfl ?_
  show AW muL_law _ _ 1287 _ _ _ _
  refine AW.iload_n dL_law_1287 rfl rfl ?_
  refine AW.iconst (v := nI 3) dL_law_1288 (by decide) ?_
  first | refine AW.iaddN dL_law_1289 ?_ | refine AW.iadd dL_law_1289 ?_
  refine AW.sld rfl dL_law_1290 _ rfl (by omega) (by omega) ?_
  refine AW.aload_n dL_law_1291 rfl rfl ?_
  refine AW.iload_n dL_law_1292 rfl rfl ?_
  show AW muL_law _ _ 1293 _ _ _ _
  refine AW.iconst (v := nI 4) dL_law_1293 (by decide) ?_
  first | refine AW.iaddN dL_law_1294 ?_ | refine AW.iadd dL_law_1294 ?_
  refine AW.sld rfl dL_law_1295 _ rfl (by omega) (by omega) ?_
  refine AW.aload_n dL_law_1296 rfl rfl ?_
  refine AW.iload_n dL_law_1297 rfl rfl ?_
  refine AW.iconst (v := nI 5) dL_law_1298 (by decide) ?_
  show AW muL_law _ _ 1299 _ _ _ _
  first | refine AW.iaddN dL_law_1299 ?_ | refine AW.iadd dL_law_1299 ?_
  refine AW.sld rfl dL_law_1300 _ rfl (by omega) (by omega) ?_
  refine cs_L_law_1301 (by first | exact k0_0 | exact k0_170) (by decide) (by decide) (Nat.le_of_ble_eq_true rfl) (AWi.mono (fun r1 σ1 q1 => ?_) (b_copy _ _ _ _ _ X I J h))
  obtain ⟨I1, J1, rfl, hm⟩ := q1
  refine AW.aload_n dL_law_1304 rfl rfl ?_
  refine AW.aload_n dL_law_1305 rfl rfl ?_
  refine AW.iload_n dL_law_1306 rfl rfl ?_
  show AW muL_law _ _ 1307 _ _ _ _
  refine AW.iconst (v := nI 1) dL_law_1307 (by decide) ?_
  first | refine AW.iaddN dL_law_1308 ?_ | refine AW.iadd dL_law_1308 ?_
  refine AW.sld rfl dL_law_1309 _ rfl (by omega) (by omega) ?_
  refine AW.aload_n dL_law_1310 rfl rfl ?_
  refine AW.iload_n dL_law_1311 rfl rfl ?_
  refine AW.iconst (v := nI 2) dL_law_1312 (by decide) ?_
  show AW muL_law _ _ 1313 _ _ _ _
  first | refine AW.iaddN dL_law_1313 ?_ | refine AW.iadd dL_law_1313 ?_
  refine AW.sld rfl dL_law_1314 _ rfl (by omega) (by omega) ?_
  refine AW.aload_n dL_law_1315 rfl rfl ?_
  refine AW.iload_n dL_law_1316 rfl rfl ?_
  refine AW.iconst (v := nI 3) dL_law_1317 (by decide) ?_
  first | refine AW.iaddN dL_law_1318 ?_ | refine AW.iadd dL_law_1318 ?_
  show AW muL_law _ _ 1319 _ _ _ _
  refine AW.sld rfl dL_law_1319 _ rfl (by omega) (by omega) ?_
  refine AW.aload_n dL_law_1320 rfl rfl ?_
  refine AW.iload_n dL_law_1321 rfl rfl ?_
  refine AW.iconst (v := nI 4) dL_law_1322 (by decide) ?_
  first | refine AW.iaddN dL_law_1323 ?_ | refine AW.iadd dL_law_1323 ?_
  refine AW.sld rfl dL_law_1324 _ rfl (by omega) (by omega) ?_
  show AW muL_law _ _ 1325 _ _ _ _
  refine AW.aload_n dL_law_1325 rfl rfl ?_
  refine AW.iload_n dL_law_1326 rfl rfl ?_
  refine AW.iconst (v := nI 5) dL_law_1327 (by decide) ?_
  first | refine AW.iaddN dL_law_1328 ?_ | refine AW.iadd dL_law_1328 ?_
  refine AW.sld rfl dL_law_1329 _ rfl (by omega) (by omega) ?_
  refine cs_L_law_1330 (by first | exact k0_0 | exact k0_170) (by decide) (by decide) (Nat.le_of_ble_eq_true rfl) (AWi.mono (fun r2 σ2 q2 => ?_) hm)
  show AW muL_law _ _ 1333 _ _ _ _
  obtain ⟨rfl, I2, J2, rfl, hR⟩ := q2
  exact AW.icmp_eq (tgt := 1338) dL_law_1333 (by decide) (fun _ => kk I2 J2 hR) (fun e => absurd rfl e)
theorem l_turn (hX : X.1 ≤ 3584) (hi : i + 7 ≤ X.1) (h : REL I J) (kk : ∀ I J, REL I J → AW muL_law 179 3254 1338 [.ref 100000, .ref 0, .ref 170, .int (nI i)] [] (sk0, X, I, J) Q) : AW muL_law 179 3254 27 [.ref 100000, .ref 0, .ref 170, .int (nI i)] [] (sk0, X, I, J) Q := by
  refine AW.aload_n dL_law_27 rfl rfl ?_
  refine AW.iload_n dL_law_28 rfl rfl ?_
  refine AW.sld rfl dL_law_29 _ rfl (by omega) (by omega) ?_
  refine AW.bipush (v := nI 63) dL_law_30 (by decide) ?_
  refine AW.iand dL_law_32 ?_
  generalize X.2 i &&& nI 63 = w
  by_cases hw : inR w 0 34
  · obtain ⟨k, -, hk, rfl⟩ := hw
    rcases (show k = 0 ∨ k = 1 ∨ k = 2 ∨ k = 3 ∨ k = 4 ∨ k = 5 ∨ k = 6 ∨ k = 7 ∨ k = 8 ∨ k = 9 ∨ k = 10 ∨ k = 11 ∨ k = 12 ∨ k = 13 ∨ k = 14 ∨ k = 15 ∨ k = 16 ∨ k = 17 ∨ k = 18 ∨ k = 19 ∨ k = 20 ∨ k = 21 ∨ k = 22 ∨ k = 23 ∨ k = 24 ∨ k = 25 ∨ k = 26 ∨ k = 27 ∨ k = 28 ∨ k = 29 ∨ k = 30 ∨ k = 31 ∨ k = 32 ∨ k = 33 by omega) with rfl | rfl | rfl | rfl | rfl | rfl | rfl | rfl | rfl | rfl | rfl | rfl | rfl | rfl | rfl | rfl | rfl | rfl | rfl | rfl | rfl | rfl | rfl | rfl | rfl | rfl | rfl | rfl | rfl | rfl | rfl | rfl | rfl | rfl
    · exact AW.tableIn (tgt := 184) dL_law_33 (by decide) (by decide) rfl (by decide) (l_sleeper hX hi h kk)
    · exact AW.tableIn (tgt := 217) dL_law_33 (by decide) (by decide) rfl (by decide) (l_thing hX hi h kk)
    · exact AW.tableIn (tgt := 270) dL_law_33 (by decide) (by decide) rfl (by decide) (l_of hX hi h kk)
    · exact AW.tableIn (tgt := 303) dL_law_33 (by decide) (by decide) rfl (by decide) (l_gift hX hi h kk)
    · exact AW.tableIn (tgt := 336) dL_law_33 (by decide) (by decide) rfl (by decide) (l_room hX hi h kk)
    · exact AW.tableIn (tgt := 369) dL_law_33 (by decide) (by decide) rfl (by decide) (l_bed hX hi h kk)
    · exact AW.tableIn (tgt := 402) dL_law_33 (by decide) (by decide) rfl (by decide) (l_type hX hi h kk)
    · exact AW.tableIn (tgt := 425) dL_law_33 (by decide) (by decide) rfl (by decide) (l_house hX hi h kk)
    · exact AW.tableIn (tgt := 438) dL_law_33 (by decide) (by decide) rfl (by decide) (l_count hX hi h kk)
    · exact AW.tableIn (tgt := 461) dL_law_33 (by decide) (by decide) rfl (by decide) (l_nights hX hi h kk)
    · exact AW.tableIn (tgt := 484) dL_law_33 (by decide) (by decide) rfl (by decide) (l_move hX hi h kk)
    · exact AW.tableIn (tgt := 517) dL_law_33 (by decide) (by decide) rfl (by decide) (l_pass hX hi h kk)
    · exact AW.tableIn (tgt := 550) dL_law_33 (by decide) (by decide) rfl (by decide) (l_back hX hi h kk)
    · exact AW.tableIn (tgt := 573) dL_law_33 (by decide) (by decide) rfl (by decide) (l_drift hX hi h kk)
    · exact AW.tableIn (tgt := 596) dL_law_33 (by decide) (by decide) rfl (by decide) (l_undo hX hi h kk)
    · exact AW.tableIn (tgt := 609) dL_law_33 (by decide) (by decide) rfl (by decide) (l_seed hX hi h kk)
    · exact AW.tableIn (tgt := 632) dL_law_33 (by decide) (by decide) rfl (by decide) (l_ahead hX hi h kk)
    · exact AW.tableIn (tgt := 665) dL_law_33 (by decide) (by decide) rfl (by decide) (l_loudAhead hX hi h kk)
    · exact AW.tableIn (tgt := 698) dL_law_33 (by decide) (by decide) rfl (by decide) (l_sleeps hX hi h kk)
    · exact AW.tableIn (tgt := 731) dL_law_33 (by decide) (by decide) rfl (by decide) (l_peace hX hi h kk)
    · exact AW.tableIn (tgt := 744) dL_law_33 (by decide) (by decide) rfl (by decide) (l_best hX hi h kk)
    · exact AW.tableIn (tgt := 787) dL_law_33 (by decide) (by decide) rfl (by decide) (l_bestBed hX hi h kk)
    · exact AW.tableIn (tgt := 830) dL_law_33 (by decide) (by decide) rfl (by decide) (l_change hX hi h kk)
    · exact AW.tableIn (tgt := 863) dL_law_33 (by decide) (by decide) rfl (by decide) (l_backs hX hi h kk)
    · exact AW.tableIn (tgt := 896) dL_law_33 (by decide) (by decide) rfl (by decide) (l_luck hX hi h kk)
    · exact AW.tableIn (tgt := 939) dL_law_33 (by decide) (by decide) rfl (by decide) (l_thanked hX hi h kk)
    · exact AW.tableIn (tgt := 962) dL_law_33 (by decide) (by decide) rfl (by decide) (l_image hX hi h kk)
    · exact AW.tableIn (tgt := 975) dL_law_33 (by decide) (by decide) rfl (by decide) (l_restore hX hi h kk)
    · exact AW.tableIn (tgt := 988) dL_law_33 (by decide) (by decide) rfl (by decide) (l_heard hX hi h kk)
    · exact AW.tableIn (tgt := 1063) dL_law_33 (by decide) (by decide) rfl (by decide) (l_film hX hi h kk)
    · exact AW.tableIn (tgt := 1126) dL_law_33 (by decide) (by decide) rfl (by decide) (l_sheet hX hi h kk)
    · exact AW.tableIn (tgt := 1169) dL_law_33 (by decide) (by decide) rfl (by decide) (l_drop hX hi h kk)
    · exact AW.tableIn (tgt := 1192) dL_law_33 (by decide) (by decide) rfl (by decide) (l_item hX hi h kk)
    · exact AW.tableIn (tgt := 1275) dL_law_33 (by decide) (by decide) rfl (by decide) (l_copy hX hi h kk)
  · exact AW.tableOut (tgt := 1338) dL_law_33 (out_of hw (by decide)) (by decide) (kk I J h)
theorem l_loop (hX : X.1 ≤ 3584) : ∀ (n i : Nat) (I : sd_I) (J : sd_J), X.1 + 1 ≤ i + n → i ≤ X.1 → REL I J → AW muL_law 179 3254 18 [.ref 100000, .ref 0, .ref 170, .int (nI i)] [] (sk0, X, I, J) (fun r _ => r = some (nI 1)) := by
  intro n
  induction n with
  | zero => intro i I J h1 h2; omega
  | succ n ih =>
    intro i I J h1 h2 h
    have hs : (nI X.1 - nI 7).toInt = (X.1 : Int) - 7 := pk_sub_toInt (by omega) (by decide)
    have hti : (nI i).toInt = (i : Int) := nI_toInt (by omega)
    refine AW.iload_n dL_law_18 rfl rfl ?_
    refine AW.aload_n dL_law_19 rfl rfl ?_
    refine AW.slen rfl dL_law_20 ?_
    refine AW.bipush (v := nI 7) dL_law_21 (by decide) ?_
    refine AW.isub dL_law_23 ?_
    refine AW.icmp_gt (tgt := 1344) dL_law_24 (by decide) (fun c => ?_) (fun c => ?_)
    · refine AW.iconst (v := nI 1) dL_law_1344 (by decide) ?_
      exact AW.iret dL_law_1345 ⟨_, rfl, by decide⟩ (Nat.le_of_ble_eq_true rfl) (Nat.le_of_ble_eq_true rfl) rfl
    · rw [i_lt, hs, hti] at c
      refine l_turn hX (by omega) h (fun I J hR => ?_)
      refine AW.iinc (v := nI (i + 7)) dL_law_1338 rfl (by rw [← nI_add]; rfl) (by decide) rfl rfl ?_
      refine AW.goto (tgt := 18) dL_law_1341 (by decide) ?_
      exact ih (i + 7) I J (by omega) (by omega) hR
end Law
