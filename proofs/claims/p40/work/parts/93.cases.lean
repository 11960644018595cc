/-! the law's cases: laid by wip/gen/law.py -/
section LC
variable {l : Launch} {G : zG} {b L : Nat} {xs : Nat → Int32} {h : zH} {R : zH → Prop} {n : Nat}
set_option maxHeartbeats 2000000 in
theorem L_feed (hN : 0 < gN G ∧ gs G 0 = 8 ∧ 45 < gN G ∧ gs G 45 = 9) (hn : 5 * n + 5 ≤ L) (hL : L ≤ 2560) (D : DuI l G mX3_feed mX4_feed [vI (sx xs n 1)] h false R) (kE : ∀ h', R h' → Rw l G b L xs 1337 [some (vR 3000), some (vR 0), some (vR 45), some (vI (5 * (n : Int)))] [] h') : Rw l G b L xs 204 [some (vR 3000), some (vR 0), some (vR 45), some (vI (5 * (n : Int)))] [] h := by
  obtain ⟨d, hd, c1⟩ := D
  refine w_aload_n 205 dL_law_204 rfl rfl ?_
  refine w_aload_n 206 dL_law_205 rfl rfl ?_
  refine w_iload_n 207 dL_law_206 rfl rfl ?_
  refine w_iconst 208 dL_law_207 rfl rfl ?_
  refine w_iadd (v := 5 * (n : Int) + 1) 209 dL_law_208 rfl (w32_id (by omega) (by omega)) ?_
  refine w_sld 210 dL_law_209 rfl (by omega) (by omega) (sx_e (n := n) (j := 1) (by omega)) ?_
  refine w_c1 213 dL_law_210 rfl kv_L_13 hN.1 hN.2.1 hd c1 rfl (fun r h1 q => ?_)
  obtain ⟨v, rfl, d', hd', c2⟩ := q
  refine w_pop 214 dL_law_213 rfl rfl ?_
  refine w_aload_n 215 dL_law_214 rfl rfl ?_
  refine w_aload_n 216 dL_law_215 rfl rfl ?_
  refine w_iload_n 217 dL_law_216 rfl rfl ?_
  refine w_iconst 218 dL_law_217 rfl rfl ?_
  refine w_iadd (v := 5 * (n : Int) + 1) 219 dL_law_218 rfl (w32_id (by omega) (by omega)) ?_
  refine w_sld 220 dL_law_219 rfl (by omega) (by omega) (sx_e (n := n) (j := 1) (by omega)) ?_
  refine w_c1 223 dL_law_220 rfl kv_L_17 hN.2.2.1 hN.2.2.2 hd' c2 rfl (fun r' h2 q => ?_)
  obtain ⟨v', rfl, hc, hR⟩ := q
  refine w_pop 224 dL_law_223 rfl rfl ?_
  refine w_goto 1337 dL_law_224 rfl ?_
  exact kE _ hR
set_option maxHeartbeats 2000000 in
theorem L_end (hN : 0 < gN G ∧ gs G 0 = 8 ∧ 45 < gN G ∧ gs G 45 = 9) (hn : 5 * n + 5 ≤ L) (hL : L ≤ 2560) (D : DuI l G mX3_end mX4_end [vI (sx xs n 1)] h false R) (kE : ∀ h', R h' → Rw l G b L xs 1337 [some (vR 3000), some (vR 0), some (vR 45), some (vI (5 * (n : Int)))] [] h') : Rw l G b L xs 227 [some (vR 3000), some (vR 0), some (vR 45), some (vI (5 * (n : Int)))] [] h := by
  obtain ⟨d, hd, c1⟩ := D
  refine w_aload_n 228 dL_law_227 rfl rfl ?_
  refine w_aload_n 229 dL_law_228 rfl rfl ?_
  refine w_iload_n 230 dL_law_229 rfl rfl ?_
  refine w_iconst 231 dL_law_230 rfl rfl ?_
  refine w_iadd (v := 5 * (n : Int) + 1) 232 dL_law_231 rfl (w32_id (by omega) (by omega)) ?_
  refine w_sld 233 dL_law_232 rfl (by omega) (by omega) (sx_e (n := n) (j := 1) (by omega)) ?_
  refine w_c1 236 dL_law_233 rfl kv_L_18 hN.1 hN.2.1 hd c1 rfl (fun r h1 q => ?_)
  obtain ⟨v, rfl, d', hd', c2⟩ := q
  refine w_pop 237 dL_law_236 rfl rfl ?_
  refine w_aload_n 238 dL_law_237 rfl rfl ?_
  refine w_aload_n 239 dL_law_238 rfl rfl ?_
  refine w_iload_n 240 dL_law_239 rfl rfl ?_
  refine w_iconst 241 dL_law_240 rfl rfl ?_
  refine w_iadd (v := 5 * (n : Int) + 1) 242 dL_law_241 rfl (w32_id (by omega) (by omega)) ?_
  refine w_sld 243 dL_law_242 rfl (by omega) (by omega) (sx_e (n := n) (j := 1) (by omega)) ?_
  refine w_c1 246 dL_law_243 rfl kv_L_21 hN.2.2.1 hN.2.2.2 hd' c2 rfl (fun r' h2 q => ?_)
  obtain ⟨v', rfl, hc, hR⟩ := q
  refine w_pop 247 dL_law_246 rfl rfl ?_
  refine w_goto 1337 dL_law_247 rfl ?_
  exact kE _ hR
set_option maxHeartbeats 2000000 in
theorem L_text (hN : 0 < gN G ∧ gs G 0 = 8 ∧ 45 < gN G ∧ gs G 45 = 9) (hn : 5 * n + 5 ≤ L) (hL : L ≤ 2560) (D : DuI l G mX3_text mX4_text [] h false R) (kE : ∀ h', R h' → Rw l G b L xs 1337 [some (vR 3000), some (vR 0), some (vR 45), some (vI (5 * (n : Int)))] [] h') : Rw l G b L xs 250 [some (vR 3000), some (vR 0), some (vR 45), some (vI (5 * (n : Int)))] [] h := by
  obtain ⟨d, hd, c1⟩ := D
  refine w_aload_n 251 dL_law_250 rfl rfl ?_
  refine w_c0 254 dL_law_251 rfl kv_L_22 hN.1 hN.2.1 hd c1 rfl (fun r h1 q => ?_)
  obtain ⟨v, rfl, d', hd', c2⟩ := q
  refine w_pop 255 dL_law_254 rfl rfl ?_
  refine w_aload_n 256 dL_law_255 rfl rfl ?_
  refine w_c0 259 dL_law_256 rfl kv_L_26 hN.2.2.1 hN.2.2.2 hd' c2 rfl (fun r' h2 q => ?_)
  obtain ⟨v', rfl, hc, hR⟩ := q
  refine w_pop 260 dL_law_259 rfl rfl ?_
  refine w_goto 1337 dL_law_260 rfl ?_
  exact kE _ hR
set_option maxHeartbeats 2000000 in
theorem L_fault (hN : 0 < gN G ∧ gs G 0 = 8 ∧ 45 < gN G ∧ gs G 45 = 9) (hn : 5 * n + 5 ≤ L) (hL : L ≤ 2560) (D : DuI l G mX3_fault mX4_fault [] h false R) (kE : ∀ h', R h' → Rw l G b L xs 1337 [some (vR 3000), some (vR 0), some (vR 45), some (vI (5 * (n : Int)))] [] h') : Rw l G b L xs 263 [some (vR 3000), some (vR 0), some (vR 45), some (vI (5 * (n : Int)))] [] h := by
  obtain ⟨d, hd, c1⟩ := D
  refine w_aload_n 264 dL_law_263 rfl rfl ?_
  refine w_c0 267 dL_law_264 rfl kv_L_27 hN.1 hN.2.1 hd c1 rfl (fun r h1 q => ?_)
  obtain ⟨v, rfl, d', hd', c2⟩ := q
  refine w_pop 268 dL_law_267 rfl rfl ?_
  refine w_aload_n 269 dL_law_268 rfl rfl ?_
  refine w_c0 272 dL_law_269 rfl kv_L_30 hN.2.2.1 hN.2.2.2 hd' c2 rfl (fun r' h2 q => ?_)
  obtain ⟨v', rfl, hc, hR⟩ := q
  refine w_pop 273 dL_law_272 rfl rfl ?_
  refine w_goto 1337 dL_law_273 rfl ?_
  exact kE _ hR
set_option maxHeartbeats 2000000 in
theorem L_rule (hN : 0 < gN G ∧ gs G 0 = 8 ∧ 45 < gN G ∧ gs G 45 = 9) (hn : 5 * n + 5 ≤ L) (hL : L ≤ 2560) (D : DuI l G mX3_rule mX4_rule [vI (sx xs n 1)] h false R) (kE : ∀ h', R h' → Rw l G b L xs 1337 [some (vR 3000), some (vR 0), some (vR 45), some (vI (5 * (n : Int)))] [] h') : Rw l G b L xs 276 [some (vR 3000), some (vR 0), some (vR 45), some (vI (5 * (n : Int)))] [] h := by
  obtain ⟨d, hd, c1⟩ := D
  refine w_aload_n 277 dL_law_276 rfl rfl ?_
  refine w_aload_n 278 dL_law_277 rfl rfl ?_
  refine w_iload_n 279 dL_law_278 rfl rfl ?_
  refine w_iconst 280 dL_law_279 rfl rfl ?_
  refine w_iadd (v := 5 * (n : Int) + 1) 281 dL_law_280 rfl (w32_id (by omega) (by omega)) ?_
  refine w_sld 282 dL_law_281 rfl (by omega) (by omega) (sx_e (n := n) (j := 1) (by omega)) ?_
  refine w_c1 285 dL_law_282 rfl kv_L_31 hN.1 hN.2.1 hd c1 rfl (fun r h1 q => ?_)
  obtain ⟨v, rfl, d', hd', c2⟩ := q
  refine w_pop 286 dL_law_285 rfl rfl ?_
  refine w_aload_n 287 dL_law_286 rfl rfl ?_
  refine w_aload_n 288 dL_law_287 rfl rfl ?_
  refine w_iload_n 289 dL_law_288 rfl rfl ?_
  refine w_iconst 290 dL_law_289 rfl rfl ?_
  refine w_iadd (v := 5 * (n : Int) + 1) 291 dL_law_290 rfl (w32_id (by omega) (by omega)) ?_
  refine w_sld 292 dL_law_291 rfl (by omega) (by omega) (sx_e (n := n) (j := 1) (by omega)) ?_
  refine w_c1 295 dL_law_292 rfl kv_L_34 hN.2.2.1 hN.2.2.2 hd' c2 rfl (fun r' h2 q => ?_)
  obtain ⟨v', rfl, hc, hR⟩ := q
  refine w_pop 296 dL_law_295 rfl rfl ?_
  refine w_goto 1337 dL_law_296 rfl ?_
  exact kE _ hR
set_option maxHeartbeats 2000000 in
theorem L_man (hN : 0 < gN G ∧ gs G 0 = 8 ∧ 45 < gN G ∧ gs G 45 = 9) (hn : 5 * n + 5 ≤ L) (hL : L ≤ 2560) (D : DuI l G mX3_man mX4_man [vI (sx xs n 1), vI (sx xs n 2)] h false R) (kE : ∀ h', R h' → Rw l G b L xs 1337 [some (vR 3000), some (vR 0), some (vR 45), some (vI (5 * (n : Int)))] [] h') : Rw l G b L xs 299 [some (vR 3000), some (vR 0), some (vR 45), some (vI (5 * (n : Int)))] [] h := by
  obtain ⟨d, hd, c1⟩ := D
  refine w_aload_n 300 dL_law_299 rfl rfl ?_
  refine w_aload_n 301 dL_law_300 rfl rfl ?_
  refine w_iload_n 302 dL_law_301 rfl rfl ?_
  refine w_iconst 303 dL_law_302 rfl rfl ?_
  refine w_iadd (v := 5 * (n : Int) + 1) 304 dL_law_303 rfl (w32_id (by omega) (by omega)) ?_
  refine w_sld 305 dL_law_304 rfl (by omega) (by omega) (sx_e (n := n) (j := 1) (by omega)) ?_
  refine w_aload_n 306 dL_law_305 rfl rfl ?_
  refine w_iload_n 307 dL_law_306 rfl rfl ?_
  refine w_iconst 308 dL_law_307 rfl rfl ?_
  refine w_iadd (v := 5 * (n : Int) + 2) 309 dL_law_308 rfl (w32_id (by omega) (by omega)) ?_
  refine w_sld 310 dL_law_309 rfl (by omega) (by omega) (sx_e (n := n) (j := 2) (by omega)) ?_
  refine w_c2 313 dL_law_310 rfl kv_L_35 hN.1 hN.2.1 hd c1 rfl (fun r h1 q => ?_)
  obtain ⟨v, rfl, d', hd', c2⟩ := q
  refine w_pop 314 dL_law_313 rfl rfl ?_
  refine w_aload_n 315 dL_law_314 rfl rfl ?_
  refine w_aload_n 316 dL_law_315 rfl rfl ?_
  refine w_iload_n 317 dL_law_316 rfl rfl ?_
  refine w_iconst 318 dL_law_317 rfl rfl ?_
  refine w_iadd (v := 5 * (n : Int) + 1) 319 dL_law_318 rfl (w32_id (by omega) (by omega)) ?_
  refine w_sld 320 dL_law_319 rfl (by omega) (by omega) (sx_e (n := n) (j := 1) (by omega)) ?_
  refine w_aload_n 321 dL_law_320 rfl rfl ?_
  refine w_iload_n 322 dL_law_321 rfl rfl ?_
  refine w_iconst 323 dL_law_322 rfl rfl ?_
  refine w_iadd (v := 5 * (n : Int) + 2) 324 dL_law_323 rfl (w32_id (by omega) (by omega)) ?_
  refine w_sld 325 dL_law_324 rfl (by omega) (by omega) (sx_e (n := n) (j := 2) (by omega)) ?_
  refine w_c2 328 dL_law_325 rfl kv_L_39 hN.2.2.1 hN.2.2.2 hd' c2 rfl (fun r' h2 q => ?_)
  obtain ⟨v', rfl, hc, hR⟩ := q
  refine w_pop 329 dL_law_328 rfl rfl ?_
  refine w_goto 1337 dL_law_329 rfl ?_
  exact kE _ hR
set_option maxHeartbeats 2000000 in
theorem L_rota (hN : 0 < gN G ∧ gs G 0 = 8 ∧ 45 < gN G ∧ gs G 45 = 9) (hn : 5 * n + 5 ≤ L) (hL : L ≤ 2560) (D : DuI l G mX3_rota mX4_rota [vI (sx xs n 1)] h false R) (kE : ∀ h', R h' → Rw l G b L xs 1337 [some (vR 3000), some (vR 0), some (vR 45), some (vI (5 * (n : Int)))] [] h') : Rw l G b L xs 332 [some (vR 3000), some (vR 0), some (vR 45), some (vI (5 * (n : Int)))] [] h := by
  obtain ⟨d, hd, c1⟩ := D
  refine w_aload_n 333 dL_law_332 rfl rfl ?_
  refine w_aload_n 334 dL_law_333 rfl rfl ?_
  refine w_iload_n 335 dL_law_334 rfl rfl ?_
  refine w_iconst 336 dL_law_335 rfl rfl ?_
  refine w_iadd (v := 5 * (n : Int) + 1) 337 dL_law_336 rfl (w32_id (by omega) (by omega)) ?_
  refine w_sld 338 dL_law_337 rfl (by omega) (by omega) (sx_e (n := n) (j := 1) (by omega)) ?_
  refine w_c1 341 dL_law_338 rfl kv_L_40 hN.1 hN.2.1 hd c1 rfl (fun r h1 q => ?_)
  obtain ⟨v, rfl, d', hd', c2⟩ := q
  refine w_pop 342 dL_law_341 rfl rfl ?_
  refine w_aload_n 343 dL_law_342 rfl rfl ?_
  refine w_aload_n 344 dL_law_343 rfl rfl ?_
  refine w_iload_n 345 dL_law_344 rfl rfl ?_
  refine w_iconst 346 dL_law_345 rfl rfl ?_
  refine w_iadd (v := 5 * (n : Int) + 1) 347 dL_law_346 rfl (w32_id (by omega) (by omega)) ?_
  refine w_sld 348 dL_law_347 rfl (by omega) (by omega) (sx_e (n := n) (j := 1) (by omega)) ?_
  refine w_c1 351 dL_law_348 rfl kv_L_43 hN.2.2.1 hN.2.2.2 hd' c2 rfl (fun r' h2 q => ?_)
  obtain ⟨v', rfl, hc, hR⟩ := q
  refine w_pop 352 dL_law_351 rfl rfl ?_
  refine w_goto 1337 dL_law_352 rfl ?_
  exact kE _ hR
set_option maxHeartbeats 2000000 in
theorem L_deed (hN : 0 < gN G ∧ gs G 0 = 8 ∧ 45 < gN G ∧ gs G 45 = 9) (hn : 5 * n + 5 ≤ L) (hL : L ≤ 2560) (D : DuI l G mX3_deed mX4_deed [vI (sx xs n 1), vI (sx xs n 2)] h false R) (kE : ∀ h', R h' → Rw l G b L xs 1337 [some (vR 3000), some (vR 0), some (vR 45), some (vI (5 * (n : Int)))] [] h') : Rw l G b L xs 355 [some (vR 3000), some (vR 0), some (vR 45), some (vI (5 * (n : Int)))] [] h := by
  obtain ⟨d, hd, c1⟩ := D
  refine w_aload_n 356 dL_law_355 rfl rfl ?_
  refine w_aload_n 357 dL_law_356 rfl rfl ?_
  refine w_iload_n 358 dL_law_357 rfl rfl ?_
  refine w_iconst 359 dL_law_358 rfl rfl ?_
  refine w_iadd (v := 5 * (n : Int) + 1) 360 dL_law_359 rfl (w32_id (by omega) (by omega)) ?_
  refine w_sld 361 dL_law_360 rfl (by omega) (by omega) (sx_e (n := n) (j := 1) (by omega)) ?_
  refine w_aload_n 362 dL_law_361 rfl rfl ?_
  refine w_iload_n 363 dL_law_362 rfl rfl ?_
  refine w_iconst 364 dL_law_363 rfl rfl ?_
  refine w_iadd (v := 5 * (n : Int) + 2) 365 dL_law_364 rfl (w32_id (by omega) (by omega)) ?_
  refine w_sld 366 dL_law_365 rfl (by omega) (by omega) (sx_e (n := n) (j := 2) (by omega)) ?_
  refine w_c2 369 dL_law_366 rfl kv_L_44 hN.1 hN.2.1 hd c1 rfl (fun r h1 q => ?_)
  obtain ⟨v, rfl, d', hd', c2⟩ := q
  refine w_pop 370 dL_law_369 rfl rfl ?_
  refine w_aload_n 371 dL_law_370 rfl rfl ?_
  refine w_aload_n 372 dL_law_371 rfl rfl ?_
  refine w_iload_n 373 dL_law_372 rfl rfl ?_
  refine w_iconst 374 dL_law_373 rfl rfl ?_
  refine w_iadd (v := 5 * (n : Int) + 1) 375 dL_law_374 rfl (w32_id (by omega) (by omega)) ?_
  refine w_sld 376 dL_law_375 rfl (by omega) (by omega) (sx_e (n := n) (j := 1) (by omega)) ?_
  refine w_aload_n 377 dL_law_376 rfl rfl ?_
  refine w_iload_n 378 dL_law_377 rfl rfl ?_
  refine w_iconst 379 dL_law_378 rfl rfl ?_
  refine w_iadd (v := 5 * (n : Int) + 2) 380 dL_law_379 rfl (w32_id (by omega) (by omega)) ?_
  refine w_sld 381 dL_law_380 rfl (by omega) (by omega) (sx_e (n := n) (j := 2) (by omega)) ?_
  refine w_c2 384 dL_law_381 rfl kv_L_47 hN.2.2.1 hN.2.2.2 hd' c2 rfl (fun r' h2 q => ?_)
  obtain ⟨v', rfl, hc, hR⟩ := q
  refine w_pop 385 dL_law_384 rfl rfl ?_
  refine w_goto 1337 dL_law_385 rfl ?_
  exact kE _ hR
set_option maxHeartbeats 2000000 in
theorem L_alter (hN : 0 < gN G ∧ gs G 0 = 8 ∧ 45 < gN G ∧ gs G 45 = 9) (hn : 5 * n + 5 ≤ L) (hL : L ≤ 2560) (D : DuI l G mX3_alter mX4_alter [vI (sx xs n 1), vI (sx xs n 2), vI (sx xs n 3)] h false R) (kE : ∀ h', R h' → Rw l G b L xs 1337 [some (vR 3000), some (vR 0), some (vR 45), some (vI (5 * (n : Int)))] [] h') : Rw l G b L xs 388 [some (vR 3000), some (vR 0), some (vR 45), some (vI (5 * (n : Int)))] [] h := by
  obtain ⟨d, hd, c1⟩ := D
  refine w_aload_n 389 dL_law_388 rfl rfl ?_
  refine w_aload_n 390 dL_law_389 rfl rfl ?_
  refine w_iload_n 391 dL_law_390 rfl rfl ?_
  refine w_iconst 392 dL_law_391 rfl rfl ?_
  refine w_iadd (v := 5 * (n : Int) + 1) 393 dL_law_392 rfl (w32_id (by omega) (by omega)) ?_
  refine w_sld 394 dL_law_393 rfl (by omega) (by omega) (sx_e (n := n) (j := 1) (by omega)) ?_
  refine w_aload_n 395 dL_law_394 rfl rfl ?_
  refine w_iload_n 396 dL_law_395 rfl rfl ?_
  refine w_iconst 397 dL_law_396 rfl rfl ?_
  refine w_iadd (v := 5 * (n : Int) + 2) 398 dL_law_397 rfl (w32_id (by omega) (by omega)) ?_
  refine w_sld 399 dL_law_398 rfl (by omega) (by omega) (sx_e (n := n) (j := 2) (by omega)) ?_
  refine w_aload_n 400 dL_law_399 rfl rfl ?_
  refine w_iload_n 401 dL_law_400 rfl rfl ?_
  refine w_iconst 402 dL_law_401 rfl rfl ?_
  refine w_iadd (v := 5 * (n : Int) + 3) 403 dL_law_402 rfl (w32_id (by omega) (by omega)) ?_
  refine w_sld 404 dL_law_403 rfl (by omega) (by omega) (sx_e (n := n) (j := 3) (by omega)) ?_
  refine w_c3 407 dL_law_404 rfl kv_L_48 hN.1 hN.2.1 hd c1 rfl (fun r h1 q => ?_)
  obtain ⟨v, rfl, d', hd', c2⟩ := q
  refine w_pop 408 dL_law_407 rfl rfl ?_
  refine w_aload_n 409 dL_law_408 rfl rfl ?_
  refine w_aload_n 410 dL_law_409 rfl rfl ?_
  refine w_iload_n 411 dL_law_410 rfl rfl ?_
  refine w_iconst 412 dL_law_411 rfl rfl ?_
  refine w_iadd (v := 5 * (n : Int) + 1) 413 dL_law_412 rfl (w32_id (by omega) (by omega)) ?_
  refine w_sld 414 dL_law_413 rfl (by omega) (by omega) (sx_e (n := n) (j := 1) (by omega)) ?_
  refine w_aload_n 415 dL_law_414 rfl rfl ?_
  refine w_iload_n 416 dL_law_415 rfl rfl ?_
  refine w_iconst 417 dL_law_416 rfl rfl ?_
  refine w_iadd (v := 5 * (n : Int) + 2) 418 dL_law_417 rfl (w32_id (by omega) (by omega)) ?_
  refine w_sld 419 dL_law_418 rfl (by omega) (by omega) (sx_e (n := n) (j := 2) (by omega)) ?_
  refine w_aload_n 420 dL_law_419 rfl rfl ?_
  refine w_iload_n 421 dL_law_420 rfl rfl ?_
  refine w_iconst 422 dL_law_421 rfl rfl ?_
  refine w_iadd (v := 5 * (n : Int) + 3) 423 dL_law_422 rfl (w32_id (by omega) (by omega)) ?_
  refine w_sld 424 dL_law_423 rfl (by omega) (by omega) (sx_e (n := n) (j := 3) (by omega)) ?_
  refine w_c3 427 dL_law_424 rfl kv_L_52 hN.2.2.1 hN.2.2.2 hd' c2 rfl (fun r' h2 q => ?_)
  obtain ⟨v', rfl, hc, hR⟩ := q
  refine w_pop 428 dL_law_427 rfl rfl ?_
  refine w_goto 1337 dL_law_428 rfl ?_
  exact kE _ hR
set_option maxHeartbeats 2000000 in
theorem L_move (hN : 0 < gN G ∧ gs G 0 = 8 ∧ 45 < gN G ∧ gs G 45 = 9) (hn : 5 * n + 5 ≤ L) (hL : L ≤ 2560) (D : DuI l G mX3_move mX4_move [vI (sx xs n 1), vI (sx xs n 2), vI (sx xs n 3)] h false R) (kE : ∀ h', R h' → Rw l G b L xs 1337 [some (vR 3000), some (vR 0), some (vR 45), some (vI (5 * (n : Int)))] [] h') : Rw l G b L xs 431 [some (vR 3000), some (vR 0), some (vR 45), some (vI (5 * (n : Int)))] [] h := by
  obtain ⟨d, hd, c1⟩ := D
  refine w_aload_n 432 dL_law_431 rfl rfl ?_
  refine w_aload_n 433 dL_law_432 rfl rfl ?_
  refine w_iload_n 434 dL_law_433 rfl rfl ?_
  refine w_iconst 435 dL_law_434 rfl rfl ?_
  refine w_iadd (v := 5 * (n : Int) + 1) 436 dL_law_435 rfl (w32_id (by omega) (by omega)) ?_
  refine w_sld 437 dL_law_436 rfl (by omega) (by omega) (sx_e (n := n) (j := 1) (by omega)) ?_
  refine w_aload_n 438 dL_law_437 rfl rfl ?_
  refine w_iload_n 439 dL_law_438 rfl rfl ?_
  refine w_iconst 440 dL_law_439 rfl rfl ?_
  refine w_iadd (v := 5 * (n : Int) + 2) 441 dL_law_440 rfl (w32_id (by omega) (by omega)) ?_
  refine w_sld 442 dL_law_441 rfl (by omega) (by omega) (sx_e (n := n) (j := 2) (by omega)) ?_
  refine w_aload_n 443 dL_law_442 rfl rfl ?_
  refine w_iload_n 444 dL_law_443 rfl rfl ?_
  refine w_iconst 445 dL_law_444 rfl rfl ?_
  refine w_iadd (v := 5 * (n : Int) + 3) 446 dL_law_445 rfl (w32_id (by omega) (by omega)) ?_
  refine w_sld 447 dL_law_446 rfl (by omega) (by omega) (sx_e (n := n) (j := 3) (by omega)) ?_
  refine w_c3 450 dL_law_447 rfl kv_L_53 hN.1 hN.2.1 hd c1 rfl (fun r h1 q => ?_)
  obtain ⟨v, rfl, d', hd', c2⟩ := q
  refine w_pop 451 dL_law_450 rfl rfl ?_
  refine w_aload_n 452 dL_law_451 rfl rfl ?_
  refine w_aload_n 453 dL_law_452 rfl rfl ?_
  refine w_iload_n 454 dL_law_453 rfl rfl ?_
  refine w_iconst 455 dL_law_454 rfl rfl ?_
  refine w_iadd (v := 5 * (n : Int) + 1) 456 dL_law_455 rfl (w32_id (by omega) (by omega)) ?_
  refine w_sld 457 dL_law_456 rfl (by omega) (by omega) (sx_e (n := n) (j := 1) (by omega)) ?_
  refine w_aload_n 458 dL_law_457 rfl rfl ?_
  refine w_iload_n 459 dL_law_458 rfl rfl ?_
  refine w_iconst 460 dL_law_459 rfl rfl ?_
  refine w_iadd (v := 5 * (n : Int) + 2) 461 dL_law_460 rfl (w32_id (by omega) (by omega)) ?_
  refine w_sld 462 dL_law_461 rfl (by omega) (by omega) (sx_e (n := n) (j := 2) (by omega)) ?_
  refine w_aload_n 463 dL_law_462 rfl rfl ?_
  refine w_iload_n 464 dL_law_463 rfl rfl ?_
  refine w_iconst 465 dL_law_464 rfl rfl ?_
  refine w_iadd (v := 5 * (n : Int) + 3) 466 dL_law_465 rfl (w32_id (by omega) (by omega)) ?_
  refine w_sld 467 dL_law_466 rfl (by omega) (by omega) (sx_e (n := n) (j := 3) (by omega)) ?_
  refine w_c3 470 dL_law_467 rfl kv_L_56 hN.2.2.1 hN.2.2.2 hd' c2 rfl (fun r' h2 q => ?_)
  obtain ⟨v', rfl, hc, hR⟩ := q
  refine w_pop 471 dL_law_470 rfl rfl ?_
  refine w_goto 1337 dL_law_471 rfl ?_
  exact kE _ hR
set_option maxHeartbeats 2000000 in
theorem L_shift (hN : 0 < gN G ∧ gs G 0 = 8 ∧ 45 < gN G ∧ gs G 45 = 9) (hn : 5 * n + 5 ≤ L) (hL : L ≤ 2560) (D : DuI l G mX3_shift mX4_shift [vI (sx xs n 1), vI (sx xs n 2)] h false R) (kE : ∀ h', R h' → Rw l G b L xs 1337 [some (vR 3000), some (vR 0), some (vR 45), some (vI (5 * (n : Int)))] [] h') : Rw l G b L xs 474 [some (vR 3000), some (vR 0), some (vR 45), some (vI (5 * (n : Int)))] [] h := by
  obtain ⟨d, hd, c1⟩ := D
  refine w_aload_n 475 dL_law_474 rfl rfl ?_
  refine w_aload_n 476 dL_law_475 rfl rfl ?_
  refine w_iload_n 477 dL_law_476 rfl rfl ?_
  refine w_iconst 478 dL_law_477 rfl rfl ?_
  refine w_iadd (v := 5 * (n : Int) + 1) 479 dL_law_478 rfl (w32_id (by omega) (by omega)) ?_
  refine w_sld 480 dL_law_479 rfl (by omega) (by omega) (sx_e (n := n) (j := 1) (by omega)) ?_
  refine w_aload_n 481 dL_law_480 rfl rfl ?_
  refine w_iload_n 482 dL_law_481 rfl rfl ?_
  refine w_iconst 483 dL_law_482 rfl rfl ?_
  refine w_iadd (v := 5 * (n : Int) + 2) 484 dL_law_483 rfl (w32_id (by omega) (by omega)) ?_
  refine w_sld 485 dL_law_484 rfl (by omega) (by omega) (sx_e (n := n) (j := 2) (by omega)) ?_
  refine w_c2 488 dL_law_485 rfl kv_L_57 hN.1 hN.2.1 hd c1 rfl (fun r h1 q => ?_)
  obtain ⟨v, rfl, d', hd', c2⟩ := q
  refine w_pop 489 dL_law_488 rfl rfl ?_
  refine w_aload_n 490 dL_law_489 rfl rfl ?_
  refine w_aload_n 491 dL_law_490 rfl rfl ?_
  refine w_iload_n 492 dL_law_491 rfl rfl ?_
  refine w_iconst 493 dL_law_492 rfl rfl ?_
  refine w_iadd (v := 5 * (n : Int) + 1) 494 dL_law_493 rfl (w32_id (by omega) (by omega)) ?_
  refine w_sld 495 dL_law_494 rfl (by omega) (by omega) (sx_e (n := n) (j := 1) (by omega)) ?_
  refine w_aload_n 496 dL_law_495 rfl rfl ?_
  refine w_iload_n 497 dL_law_496 rfl rfl ?_
  refine w_iconst 498 dL_law_497 rfl rfl ?_
  refine w_iadd (v := 5 * (n : Int) + 2) 499 dL_law_498 rfl (w32_id (by omega) (by omega)) ?_
  refine w_sld 500 dL_law_499 rfl (by omega) (by omega) (sx_e (n := n) (j := 2) (by omega)) ?_
  refine w_c2 503 dL_law_500 rfl kv_L_60 hN.2.2.1 hN.2.2.2 hd' c2 rfl (fun r' h2 q => ?_)
  obtain ⟨v', rfl, hc, hR⟩ := q
  refine w_pop 504 dL_law_503 rfl rfl ?_
  refine w_goto 1337 dL_law_504 rfl ?_
  exact kE _ hR
set_option maxHeartbeats 2000000 in
theorem L_cloud (hN : 0 < gN G ∧ gs G 0 = 8 ∧ 45 < gN G ∧ gs G 45 = 9) (hn : 5 * n + 5 ≤ L) (hL : L ≤ 2560) (D : DuI l G mX3_cloud mX4_cloud [vI (sx xs n 1), vI (if sx xs n 2 = 0 then 0 else 1)] h false R) (kE : ∀ h', R h' → Rw l G b L xs 1337 [some (vR 3000), some (vR 0), some (vR 45), some (vI (5 * (n : Int)))] [] h') : Rw l G b L xs 507 [some (vR 3000), some (vR 0), some (vR 45), some (vI (5 * (n : Int)))] [] h := by
  obtain ⟨d, hd, c1⟩ := D
  by_cases hb : sx xs n 2 = 0
  · rw [if_pos hb] at c1
    refine w_aload_n 508 dL_law_507 rfl rfl ?_
    refine w_aload_n 509 dL_law_508 rfl rfl ?_
    refine w_iload_n 510 dL_law_509 rfl rfl ?_
    refine w_iconst 511 dL_law_510 rfl rfl ?_
    refine w_iadd (v := 5 * (n : Int) + 1) 512 dL_law_511 rfl (w32_id (by omega) (by omega)) ?_
    refine w_sld 513 dL_law_512 rfl (by omega) (by omega) (sx_e (n := n) (j := 1) (by omega)) ?_
    refine w_aload_n 514 dL_law_513 rfl rfl ?_
    refine w_iload_n 515 dL_law_514 rfl rfl ?_
    refine w_iconst 516 dL_law_515 rfl rfl ?_
    refine w_iadd (v := 5 * (n : Int) + 2) 517 dL_law_516 rfl (w32_id (by omega) (by omega)) ?_
    refine w_sld 518 dL_law_517 rfl (by omega) (by omega) (sx_e (n := n) (j := 2) (by omega)) ?_
    refine w_if_eq 525 521 dL_law_518 rfl rfl (fun _ => ?_) (fun z => absurd hb z)
    refine w_iconst 526 dL_law_525 rfl rfl ?_
    refine w_c2 529 dL_law_526 rfl kv_L_61 hN.1 hN.2.1 hd c1 rfl (fun r h1 q => ?_)
    obtain ⟨v, rfl, d', hd', c2⟩ := q
    refine w_pop 530 dL_law_529 rfl rfl ?_
    refine w_aload_n 531 dL_law_530 rfl rfl ?_
    refine w_aload_n 532 dL_law_531 rfl rfl ?_
    refine w_iload_n 533 dL_law_532 rfl rfl ?_
    refine w_iconst 534 dL_law_533 rfl rfl ?_
    refine w_iadd (v := 5 * (n : Int) + 1) 535 dL_law_534 rfl (w32_id (by omega) (by omega)) ?_
    refine w_sld 536 dL_law_535 rfl (by omega) (by omega) (sx_e (n := n) (j := 1) (by omega)) ?_
    refine w_aload_n 537 dL_law_536 rfl rfl ?_
    refine w_iload_n 538 dL_law_537 rfl rfl ?_
    refine w_iconst 539 dL_law_538 rfl rfl ?_
    refine w_iadd (v := 5 * (n : Int) + 2) 540 dL_law_539 rfl (w32_id (by omega) (by omega)) ?_
    refine w_sld 541 dL_law_540 rfl (by omega) (by omega) (sx_e (n := n) (j := 2) (by omega)) ?_
    refine w_if_eq 548 544 dL_law_541 rfl rfl (fun _ => ?_) (fun z => absurd hb z)
    refine w_iconst 549 dL_law_548 rfl rfl ?_
    refine w_c2 552 dL_law_549 rfl kv_L_65 hN.2.2.1 hN.2.2.2 hd' c2 rfl (fun r' h2 q => ?_)
    obtain ⟨v', rfl, hc, hR⟩ := q
    refine w_pop 553 dL_law_552 rfl rfl ?_
    refine w_goto 1337 dL_law_553 rfl ?_
    exact kE _ hR
  · rw [if_neg hb] at c1
    refine w_aload_n 508 dL_law_507 rfl rfl ?_
    refine w_aload_n 509 dL_law_508 rfl rfl ?_
    refine w_iload_n 510 dL_law_509 rfl rfl ?_
    refine w_iconst 511 dL_law_510 rfl rfl ?_
    refine w_iadd (v := 5 * (n : Int) + 1) 512 dL_law_511 rfl (w32_id (by omega) (by omega)) ?_
    refine w_sld 513 dL_law_512 rfl (by omega) (by omega) (sx_e (n := n) (j := 1) (by omega)) ?_
    refine w_aload_n 514 dL_law_513 rfl rfl ?_
    refine w_iload_n 515 dL_law_514 rfl rfl ?_
    refine w_iconst 516 dL_law_515 rfl rfl ?_
    refine w_iadd (v := 5 * (n : Int) + 2) 517 dL_law_516 rfl (w32_id (by omega) (by omega)) ?_
    refine w_sld 518 dL_law_517 rfl (by omega) (by omega) (sx_e (n := n) (j := 2) (by omega)) ?_
    refine w_if_eq 525 521 dL_law_518 rfl rfl (fun z => absurd z hb) (fun _ => ?_)
    refine w_iconst 522 dL_law_521 rfl rfl ?_
    refine w_goto 526 dL_law_522 rfl ?_
    refine w_c2 529 dL_law_526 rfl kv_L_61 hN.1 hN.2.1 hd c1 rfl (fun r h1 q => ?_)
    obtain ⟨v, rfl, d', hd', c2⟩ := q
    refine w_pop 530 dL_law_529 rfl rfl ?_
    refine w_aload_n 531 dL_law_530 rfl rfl ?_
    refine w_aload_n 532 dL_law_531 rfl rfl ?_
    refine w_iload_n 533 dL_law_532 rfl rfl ?_
    refine w_iconst 534 dL_law_533 rfl rfl ?_
    refine w_iadd (v := 5 * (n : Int) + 1) 535 dL_law_534 rfl (w32_id (by omega) (by omega)) ?_
    refine w_sld 536 dL_law_535 rfl (by omega) (by omega) (sx_e (n := n) (j := 1) (by omega)) ?_
    refine w_aload_n 537 dL_law_536 rfl rfl ?_
    refine w_iload_n 538 dL_law_537 rfl rfl ?_
    refine w_iconst 539 dL_law_538 rfl rfl ?_
    refine w_iadd (v := 5 * (n : Int) + 2) 540 dL_law_539 rfl (w32_id (by omega) (by omega)) ?_
    refine w_sld 541 dL_law_540 rfl (by omega) (by omega) (sx_e (n := n) (j := 2) (by omega)) ?_
    refine w_if_eq 548 544 dL_law_541 rfl rfl (fun z => absurd z hb) (fun _ => ?_)
    refine w_iconst 545 dL_law_544 rfl rfl ?_
    refine w_goto 549 dL_law_545 rfl ?_
    refine w_c2 552 dL_law_549 rfl kv_L_65 hN.2.2.1 hN.2.2.2 hd' c2 rfl (fun r' h2 q => ?_)
    obtain ⟨v', rfl, hc, hR⟩ := q
    refine w_pop 553 dL_law_552 rfl rfl ?_
    refine w_goto 1337 dL_law_553 rfl ?_
    exact kE _ hR
set_option maxHeartbeats 2000000 in
theorem L_paint (hN : 0 < gN G ∧ gs G 0 = 8 ∧ 45 < gN G ∧ gs G 45 = 9) (hn : 5 * n + 5 ≤ L) (hL : L ≤ 2560) (D : DuI l G mX3_paint mX4_paint [vI (sx xs n 1)] h false R) (kE : ∀ h', R h' → Rw l G b L xs 1337 [some (vR 3000), some (vR 0), some (vR 45), some (vI (5 * (n : Int)))] [] h') : Rw l G b L xs 556 [some (vR 3000), some (vR 0), some (vR 45), some (vI (5 * (n : Int)))] [] h := by
  obtain ⟨d, hd, c1⟩ := D
  refine w_aload_n 557 dL_law_556 rfl rfl ?_
  refine w_aload_n 558 dL_law_557 rfl rfl ?_
  refine w_iload_n 559 dL_law_558 rfl rfl ?_
  refine w_iconst 560 dL_law_559 rfl rfl ?_
  refine w_iadd (v := 5 * (n : Int) + 1) 561 dL_law_560 rfl (w32_id (by omega) (by omega)) ?_
  refine w_sld 562 dL_law_561 rfl (by omega) (by omega) (sx_e (n := n) (j := 1) (by omega)) ?_
  refine w_c1 565 dL_law_562 rfl kv_L_66 hN.1 hN.2.1 hd c1 rfl (fun r h1 q => ?_)
  obtain ⟨v, rfl, d', hd', c2⟩ := q
  refine w_pop 566 dL_law_565 rfl rfl ?_
  refine w_aload_n 567 dL_law_566 rfl rfl ?_
  refine w_aload_n 568 dL_law_567 rfl rfl ?_
  refine w_iload_n 569 dL_law_568 rfl rfl ?_
  refine w_iconst 570 dL_law_569 rfl rfl ?_
  refine w_iadd (v := 5 * (n : Int) + 1) 571 dL_law_570 rfl (w32_id (by omega) (by omega)) ?_
  refine w_sld 572 dL_law_571 rfl (by omega) (by omega) (sx_e (n := n) (j := 1) (by omega)) ?_
  refine w_c1 575 dL_law_572 rfl kv_L_69 hN.2.2.1 hN.2.2.2 hd' c2 rfl (fun r' h2 q => ?_)
  obtain ⟨v', rfl, hc, hR⟩ := q
  refine w_pop 576 dL_law_575 rfl rfl ?_
  refine w_goto 1337 dL_law_576 rfl ?_
  exact kE _ hR
set_option maxHeartbeats 2000000 in
theorem L_want (hN : 0 < gN G ∧ gs G 0 = 8 ∧ 45 < gN G ∧ gs G 45 = 9) (hn : 5 * n + 5 ≤ L) (hL : L ≤ 2560) (D : DuI l G mX3_want mX4_want [vI (sx xs n 1), vI (sx xs n 2)] h false R) (kE : ∀ h', R h' → Rw l G b L xs 1337 [some (vR 3000), some (vR 0), some (vR 45), some (vI (5 * (n : Int)))] [] h') : Rw l G b L xs 579 [some (vR 3000), some (vR 0), some (vR 45), some (vI (5 * (n : Int)))] [] h := by
  obtain ⟨d, hd, c1⟩ := D
  refine w_aload_n 580 dL_law_579 rfl rfl ?_
  refine w_aload_n 581 dL_law_580 rfl rfl ?_
  refine w_iload_n 582 dL_law_581 rfl rfl ?_
  refine w_iconst 583 dL_law_582 rfl rfl ?_
  refine w_iadd (v := 5 * (n : Int) + 1) 584 dL_law_583 rfl (w32_id (by omega) (by omega)) ?_
  refine w_sld 585 dL_law_584 rfl (by omega) (by omega) (sx_e (n := n) (j := 1) (by omega)) ?_
  refine w_aload_n 586 dL_law_585 rfl rfl ?_
  refine w_iload_n 587 dL_law_586 rfl rfl ?_
  refine w_iconst 588 dL_law_587 rfl rfl ?_
  refine w_iadd (v := 5 * (n : Int) + 2) 589 dL_law_588 rfl (w32_id (by omega) (by omega)) ?_
  refine w_sld 590 dL_law_589 rfl (by omega) (by omega) (sx_e (n := n) (j := 2) (by omega)) ?_
  refine w_c2 593 dL_law_590 rfl kv_L_70 hN.1 hN.2.1 hd c1 rfl (fun r h1 q => ?_)
  obtain ⟨v, rfl, d', hd', c2⟩ := q
  refine w_pop 594 dL_law_593 rfl rfl ?_
  refine w_aload_n 595 dL_law_594 rfl rfl ?_
  refine w_aload_n 596 dL_law_595 rfl rfl ?_
  refine w_iload_n 597 dL_law_596 rfl rfl ?_
  refine w_iconst 598 dL_law_597 rfl rfl ?_
  refine w_iadd (v := 5 * (n : Int) + 1) 599 dL_law_598 rfl (w32_id (by omega) (by omega)) ?_
  refine w_sld 600 dL_law_599 rfl (by omega) (by omega) (sx_e (n := n) (j := 1) (by omega)) ?_
  refine w_aload_n 601 dL_law_600 rfl rfl ?_
  refine w_iload_n 602 dL_law_601 rfl rfl ?_
  refine w_iconst 603 dL_law_602 rfl rfl ?_
  refine w_iadd (v := 5 * (n : Int) + 2) 604 dL_law_603 rfl (w32_id (by omega) (by omega)) ?_
  refine w_sld 605 dL_law_604 rfl (by omega) (by omega) (sx_e (n := n) (j := 2) (by omega)) ?_
  refine w_c2 608 dL_law_605 rfl kv_L_73 hN.2.2.1 hN.2.2.2 hd' c2 rfl (fun r' h2 q => ?_)
  obtain ⟨v', rfl, hc, hR⟩ := q
  refine w_pop 609 dL_law_608 rfl rfl ?_
  refine w_goto 1337 dL_law_609 rfl ?_
  exact kE _ hR
set_option maxHeartbeats 2000000 in
theorem L_drop (hN : 0 < gN G ∧ gs G 0 = 8 ∧ 45 < gN G ∧ gs G 45 = 9) (hn : 5 * n + 5 ≤ L) (hL : L ≤ 2560) (D : DuI l G mX3_drop mX4_drop [vI (sx xs n 1)] h false R) (kE : ∀ h', R h' → Rw l G b L xs 1337 [some (vR 3000), some (vR 0), some (vR 45), some (vI (5 * (n : Int)))] [] h') : Rw l G b L xs 612 [some (vR 3000), some (vR 0), some (vR 45), some (vI (5 * (n : Int)))] [] h := by
  obtain ⟨d, hd, c1⟩ := D
  refine w_aload_n 613 dL_law_612 rfl rfl ?_
  refine w_aload_n 614 dL_law_613 rfl rfl ?_
  refine w_iload_n 615 dL_law_614 rfl rfl ?_
  refine w_iconst 616 dL_law_615 rfl rfl ?_
  refine w_iadd (v := 5 * (n : Int) + 1) 617 dL_law_616 rfl (w32_id (by omega) (by omega)) ?_
  refine w_sld 618 dL_law_617 rfl (by omega) (by omega) (sx_e (n := n) (j := 1) (by omega)) ?_
  refine w_c1 621 dL_law_618 rfl kv_L_74 hN.1 hN.2.1 hd c1 rfl (fun r h1 q => ?_)
  obtain ⟨v, rfl, d', hd', c2⟩ := q
  refine w_pop 622 dL_law_621 rfl rfl ?_
  refine w_aload_n 623 dL_law_622 rfl rfl ?_
  refine w_aload_n 624 dL_law_623 rfl rfl ?_
  refine w_iload_n 625 dL_law_624 rfl rfl ?_
  refine w_iconst 626 dL_law_625 rfl rfl ?_
  refine w_iadd (v := 5 * (n : Int) + 1) 627 dL_law_626 rfl (w32_id (by omega) (by omega)) ?_
  refine w_sld 628 dL_law_627 rfl (by omega) (by omega) (sx_e (n := n) (j := 1) (by omega)) ?_
  refine w_c1 631 dL_law_628 rfl kv_L_77 hN.2.2.1 hN.2.2.2 hd' c2 rfl (fun r' h2 q => ?_)
  obtain ⟨v', rfl, hc, hR⟩ := q
  refine w_pop 632 dL_law_631 rfl rfl ?_
  refine w_goto 1337 dL_law_632 rfl ?_
  exact kE _ hR
set_option maxHeartbeats 2000000 in
theorem L_shows (hN : 0 < gN G ∧ gs G 0 = 8 ∧ 45 < gN G ∧ gs G 45 = 9) (hn : 5 * n + 5 ≤ L) (hL : L ≤ 2560) (D : DuI l G mX3_shows mX4_shows [vI (sx xs n 1)] h false R) (kE : ∀ h', R h' → Rw l G b L xs 1337 [some (vR 3000), some (vR 0), some (vR 45), some (vI (5 * (n : Int)))] [] h') : Rw l G b L xs 635 [some (vR 3000), some (vR 0), some (vR 45), some (vI (5 * (n : Int)))] [] h := by
  obtain ⟨d, hd, c1⟩ := D
  refine w_aload_n 636 dL_law_635 rfl rfl ?_
  refine w_aload_n 637 dL_law_636 rfl rfl ?_
  refine w_iload_n 638 dL_law_637 rfl rfl ?_
  refine w_iconst 639 dL_law_638 rfl rfl ?_
  refine w_iadd (v := 5 * (n : Int) + 1) 640 dL_law_639 rfl (w32_id (by omega) (by omega)) ?_
  refine w_sld 641 dL_law_640 rfl (by omega) (by omega) (sx_e (n := n) (j := 1) (by omega)) ?_
  refine w_c1 644 dL_law_641 rfl kv_L_78 hN.1 hN.2.1 hd c1 rfl (fun r h1 q => ?_)
  obtain ⟨v, rfl, d', hd', c2⟩ := q
  refine w_pop 645 dL_law_644 rfl rfl ?_
  refine w_aload_n 646 dL_law_645 rfl rfl ?_
  refine w_aload_n 647 dL_law_646 rfl rfl ?_
  refine w_iload_n 648 dL_law_647 rfl rfl ?_
  refine w_iconst 649 dL_law_648 rfl rfl ?_
  refine w_iadd (v := 5 * (n : Int) + 1) 650 dL_law_649 rfl (w32_id (by omega) (by omega)) ?_
  refine w_sld 651 dL_law_650 rfl (by omega) (by omega) (sx_e (n := n) (j := 1) (by omega)) ?_
  refine w_c1 654 dL_law_651 rfl kv_L_81 hN.2.2.1 hN.2.2.2 hd' c2 rfl (fun r' h2 q => ?_)
  obtain ⟨v', rfl, hc, hR⟩ := q
  refine w_pop 655 dL_law_654 rfl rfl ?_
  refine w_goto 1337 dL_law_655 rfl ?_
  exact kE _ hR
set_option maxHeartbeats 2000000 in
theorem L_lost (hN : 0 < gN G ∧ gs G 0 = 8 ∧ 45 < gN G ∧ gs G 45 = 9) (hn : 5 * n + 5 ≤ L) (hL : L ≤ 2560) (D : DuI l G mX3_lost mX4_lost [vI (sx xs n 1)] h false R) (kE : ∀ h', R h' → Rw l G b L xs 1337 [some (vR 3000), some (vR 0), some (vR 45), some (vI (5 * (n : Int)))] [] h') : Rw l G b L xs 658 [some (vR 3000), some (vR 0), some (vR 45), some (vI (5 * (n : Int)))] [] h := by
  obtain ⟨d, hd, c1⟩ := D
  refine w_aload_n 659 dL_law_658 rfl rfl ?_
  refine w_aload_n 660 dL_law_659 rfl rfl ?_
  refine w_iload_n 661 dL_law_660 rfl rfl ?_
  refine w_iconst 662 dL_law_661 rfl rfl ?_
  refine w_iadd (v := 5 * (n : Int) + 1) 663 dL_law_662 rfl (w32_id (by omega) (by omega)) ?_
  refine w_sld 664 dL_law_663 rfl (by omega) (by omega) (sx_e (n := n) (j := 1) (by omega)) ?_
  refine w_c1 667 dL_law_664 rfl kv_L_82 hN.1 hN.2.1 hd c1 rfl (fun r h1 q => ?_)
  obtain ⟨v, rfl, d', hd', c2⟩ := q
  refine w_pop 668 dL_law_667 rfl rfl ?_
  refine w_aload_n 669 dL_law_668 rfl rfl ?_
  refine w_aload_n 670 dL_law_669 rfl rfl ?_
  refine w_iload_n 671 dL_law_670 rfl rfl ?_
  refine w_iconst 672 dL_law_671 rfl rfl ?_
  refine w_iadd (v := 5 * (n : Int) + 1) 673 dL_law_672 rfl (w32_id (by omega) (by omega)) ?_
  refine w_sld 674 dL_law_673 rfl (by omega) (by omega) (sx_e (n := n) (j := 1) (by omega)) ?_
  refine w_c1 677 dL_law_674 rfl kv_L_85 hN.2.2.1 hN.2.2.2 hd' c2 rfl (fun r' h2 q => ?_)
  obtain ⟨v', rfl, hc, hR⟩ := q
  refine w_pop 678 dL_law_677 rfl rfl ?_
  refine w_goto 1337 dL_law_678 rfl ?_
  exact kE _ hR
set_option maxHeartbeats 2000000 in
theorem L_worst (hN : 0 < gN G ∧ gs G 0 = 8 ∧ 45 < gN G ∧ gs G 45 = 9) (hn : 5 * n + 5 ≤ L) (hL : L ≤ 2560) (D : DuI l G mX3_worst mX4_worst [vI (sx xs n 1)] h false R) (kE : ∀ h', R h' → Rw l G b L xs 1337 [some (vR 3000), some (vR 0), some (vR 45), some (vI (5 * (n : Int)))] [] h') : Rw l G b L xs 681 [some (vR 3000), some (vR 0), some (vR 45), some (vI (5 * (n : Int)))] [] h := by
  obtain ⟨d, hd, c1⟩ := D
  refine w_aload_n 682 dL_law_681 rfl rfl ?_
  refine w_aload_n 683 dL_law_682 rfl rfl ?_
  refine w_iload_n 684 dL_law_683 rfl rfl ?_
  refine w_iconst 685 dL_law_684 rfl rfl ?_
  refine w_iadd (v := 5 * (n : Int) + 1) 686 dL_law_685 rfl (w32_id (by omega) (by omega)) ?_
  refine w_sld 687 dL_law_686 rfl (by omega) (by omega) (sx_e (n := n) (j := 1) (by omega)) ?_
  refine w_c1 690 dL_law_687 rfl kv_L_86 hN.1 hN.2.1 hd c1 rfl (fun r h1 q => ?_)
  obtain ⟨v, rfl, d', hd', c2⟩ := q
  refine w_pop 691 dL_law_690 rfl rfl ?_
  refine w_aload_n 692 dL_law_691 rfl rfl ?_
  refine w_aload_n 693 dL_law_692 rfl rfl ?_
  refine w_iload_n 694 dL_law_693 rfl rfl ?_
  refine w_iconst 695 dL_law_694 rfl rfl ?_
  refine w_iadd (v := 5 * (n : Int) + 1) 696 dL_law_695 rfl (w32_id (by omega) (by omega)) ?_
  refine w_sld 697 dL_law_696 rfl (by omega) (by omega) (sx_e (n := n) (j := 1) (by omega)) ?_
  refine w_c1 700 dL_law_697 rfl kv_L_89 hN.2.2.1 hN.2.2.2 hd' c2 rfl (fun r' h2 q => ?_)
  obtain ⟨v', rfl, hc, hR⟩ := q
  refine w_pop 701 dL_law_700 rfl rfl ?_
  refine w_goto 1337 dL_law_701 rfl ?_
  exact kE _ hR
set_option maxHeartbeats 2000000 in
theorem L_done (hN : 0 < gN G ∧ gs G 0 = 8 ∧ 45 < gN G ∧ gs G 45 = 9) (hn : 5 * n + 5 ≤ L) (hL : L ≤ 2560) (D : DuI l G mX3_done mX4_done [vI (sx xs n 1)] h false R) (kE : ∀ h', R h' → Rw l G b L xs 1337 [some (vR 3000), some (vR 0), some (vR 45), some (vI (5 * (n : Int)))] [] h') : Rw l G b L xs 704 [some (vR 3000), some (vR 0), some (vR 45), some (vI (5 * (n : Int)))] [] h := by
  obtain ⟨d, hd, c1⟩ := D
  refine w_aload_n 705 dL_law_704 rfl rfl ?_
  refine w_aload_n 706 dL_law_705 rfl rfl ?_
  refine w_iload_n 707 dL_law_706 rfl rfl ?_
  refine w_iconst 708 dL_law_707 rfl rfl ?_
  refine w_iadd (v := 5 * (n : Int) + 1) 709 dL_law_708 rfl (w32_id (by omega) (by omega)) ?_
  refine w_sld 710 dL_law_709 rfl (by omega) (by omega) (sx_e (n := n) (j := 1) (by omega)) ?_
  refine w_c1 713 dL_law_710 rfl kv_L_90 hN.1 hN.2.1 hd c1 rfl (fun r h1 q => ?_)
  obtain ⟨v, rfl, d', hd', c2⟩ := q
  refine w_pop 714 dL_law_713 rfl rfl ?_
  refine w_aload_n 715 dL_law_714 rfl rfl ?_
  refine w_aload_n 716 dL_law_715 rfl rfl ?_
  refine w_iload_n 717 dL_law_716 rfl rfl ?_
  refine w_iconst 718 dL_law_717 rfl rfl ?_
  refine w_iadd (v := 5 * (n : Int) + 1) 719 dL_law_718 rfl (w32_id (by omega) (by omega)) ?_
  refine w_sld 720 dL_law_719 rfl (by omega) (by omega) (sx_e (n := n) (j := 1) (by omega)) ?_
  refine w_c1 723 dL_law_720 rfl kv_L_93 hN.2.2.1 hN.2.2.2 hd' c2 rfl (fun r' h2 q => ?_)
  obtain ⟨v', rfl, hc, hR⟩ := q
  refine w_pop 724 dL_law_723 rfl rfl ?_
  refine w_goto 1337 dL_law_724 rfl ?_
  exact kE _ hR
set_option maxHeartbeats 2000000 in
theorem L_lean (hN : 0 < gN G ∧ gs G 0 = 8 ∧ 45 < gN G ∧ gs G 45 = 9) (hn : 5 * n + 5 ≤ L) (hL : L ≤ 2560) (D : DuI l G mX3_lean mX4_lean [vI (sx xs n 1), vI (sx xs n 2), vI (sx xs n 3)] h false R) (kE : ∀ h', R h' → Rw l G b L xs 1337 [some (vR 3000), some (vR 0), some (vR 45), some (vI (5 * (n : Int)))] [] h') : Rw l G b L xs 727 [some (vR 3000), some (vR 0), some (vR 45), some (vI (5 * (n : Int)))] [] h := by
  obtain ⟨d, hd, c1⟩ := D
  refine w_aload_n 728 dL_law_727 rfl rfl ?_
  refine w_aload_n 729 dL_law_728 rfl rfl ?_
  refine w_iload_n 730 dL_law_729 rfl rfl ?_
  refine w_iconst 731 dL_law_730 rfl rfl ?_
  refine w_iadd (v := 5 * (n : Int) + 1) 732 dL_law_731 rfl (w32_id (by omega) (by omega)) ?_
  refine w_sld 733 dL_law_732 rfl (by omega) (by omega) (sx_e (n := n) (j := 1) (by omega)) ?_
  refine w_aload_n 734 dL_law_733 rfl rfl ?_
  refine w_iload_n 735 dL_law_734 rfl rfl ?_
  refine w_iconst 736 dL_law_735 rfl rfl ?_
  refine w_iadd (v := 5 * (n : Int) + 2) 737 dL_law_736 rfl (w32_id (by omega) (by omega)) ?_
  refine w_sld 738 dL_law_737 rfl (by omega) (by omega) (sx_e (n := n) (j := 2) (by omega)) ?_
  refine w_aload_n 739 dL_law_738 rfl rfl ?_
  refine w_iload_n 740 dL_law_739 rfl rfl ?_
  refine w_iconst 741 dL_law_740 rfl rfl ?_
  refine w_iadd (v := 5 * (n : Int) + 3) 742 dL_law_741 rfl (w32_id (by omega) (by omega)) ?_
  refine w_sld 743 dL_law_742 rfl (by omega) (by omega) (sx_e (n := n) (j := 3) (by omega)) ?_
  refine w_c3 746 dL_law_743 rfl kv_L_94 hN.1 hN.2.1 hd c1 rfl (fun r h1 q => ?_)
  obtain ⟨v, rfl, d', hd', c2⟩ := q
  refine w_pop 747 dL_law_746 rfl rfl ?_
  refine w_aload_n 748 dL_law_747 rfl rfl ?_
  refine w_aload_n 749 dL_law_748 rfl rfl ?_
  refine w_iload_n 750 dL_law_749 rfl rfl ?_
  refine w_iconst 751 dL_law_750 rfl rfl ?_
  refine w_iadd (v := 5 * (n : Int) + 1) 752 dL_law_751 rfl (w32_id (by omega) (by omega)) ?_
  refine w_sld 753 dL_law_752 rfl (by omega) (by omega) (sx_e (n := n) (j := 1) (by omega)) ?_
  refine w_aload_n 754 dL_law_753 rfl rfl ?_
  refine w_iload_n 755 dL_law_754 rfl rfl ?_
  refine w_iconst 756 dL_law_755 rfl rfl ?_
  refine w_iadd (v := 5 * (n : Int) + 2) 757 dL_law_756 rfl (w32_id (by omega) (by omega)) ?_
  refine w_sld 758 dL_law_757 rfl (by omega) (by omega) (sx_e (n := n) (j := 2) (by omega)) ?_
  refine w_aload_n 759 dL_law_758 rfl rfl ?_
  refine w_iload_n 760 dL_law_759 rfl rfl ?_
  refine w_iconst 761 dL_law_760 rfl rfl ?_
  refine w_iadd (v := 5 * (n : Int) + 3) 762 dL_law_761 rfl (w32_id (by omega) (by omega)) ?_
  refine w_sld 763 dL_law_762 rfl (by omega) (by omega) (sx_e (n := n) (j := 3) (by omega)) ?_
  refine w_c3 766 dL_law_763 rfl kv_L_97 hN.2.2.1 hN.2.2.2 hd' c2 rfl (fun r' h2 q => ?_)
  obtain ⟨v', rfl, hc, hR⟩ := q
  refine w_pop 767 dL_law_766 rfl rfl ?_
  refine w_goto 1337 dL_law_767 rfl ?_
  exact kE _ hR
set_option maxHeartbeats 2000000 in
theorem L_mark (hN : 0 < gN G ∧ gs G 0 = 8 ∧ 45 < gN G ∧ gs G 45 = 9) (hn : 5 * n + 5 ≤ L) (hL : L ≤ 2560) (D : DuI l G mX3_mark mX4_mark [vI (sx xs n 1)] h false R) (kE : ∀ h', R h' → Rw l G b L xs 1337 [some (vR 3000), some (vR 0), some (vR 45), some (vI (5 * (n : Int)))] [] h') : Rw l G b L xs 770 [some (vR 3000), some (vR 0), some (vR 45), some (vI (5 * (n : Int)))] [] h := by
  obtain ⟨d, hd, c1⟩ := D
  refine w_aload_n 771 dL_law_770 rfl rfl ?_
  refine w_aload_n 772 dL_law_771 rfl rfl ?_
  refine w_iload_n 773 dL_law_772 rfl rfl ?_
  refine w_iconst 774 dL_law_773 rfl rfl ?_
  refine w_iadd (v := 5 * (n : Int) + 1) 775 dL_law_774 rfl (w32_id (by omega) (by omega)) ?_
  refine w_sld 776 dL_law_775 rfl (by omega) (by omega) (sx_e (n := n) (j := 1) (by omega)) ?_
  refine w_c1 779 dL_law_776 rfl kv_L_98 hN.1 hN.2.1 hd c1 rfl (fun r h1 q => ?_)
  obtain ⟨v, rfl, d', hd', c2⟩ := q
  refine w_pop 780 dL_law_779 rfl rfl ?_
  refine w_aload_n 781 dL_law_780 rfl rfl ?_
  refine w_aload_n 782 dL_law_781 rfl rfl ?_
  refine w_iload_n 783 dL_law_782 rfl rfl ?_
  refine w_iconst 784 dL_law_783 rfl rfl ?_
  refine w_iadd (v := 5 * (n : Int) + 1) 785 dL_law_784 rfl (w32_id (by omega) (by omega)) ?_
  refine w_sld 786 dL_law_785 rfl (by omega) (by omega) (sx_e (n := n) (j := 1) (by omega)) ?_
  refine w_c1 789 dL_law_786 rfl kv_L_101 hN.2.2.1 hN.2.2.2 hd' c2 rfl (fun r' h2 q => ?_)
  obtain ⟨v', rfl, hc, hR⟩ := q
  refine w_pop 790 dL_law_789 rfl rfl ?_
  refine w_goto 1337 dL_law_790 rfl ?_
  exact kE _ hR
set_option maxHeartbeats 2000000 in
theorem L_give (hN : 0 < gN G ∧ gs G 0 = 8 ∧ 45 < gN G ∧ gs G 45 = 9) (hn : 5 * n + 5 ≤ L) (hL : L ≤ 2560) (D : DuI l G mX3_give mX4_give [vI (sx xs n 1)] h false R) (kE : ∀ h', R h' → Rw l G b L xs 1337 [some (vR 3000), some (vR 0), some (vR 45), some (vI (5 * (n : Int)))] [] h') : Rw l G b L xs 793 [some (vR 3000), some (vR 0), some (vR 45), some (vI (5 * (n : Int)))] [] h := by
  obtain ⟨d, hd, c1⟩ := D
  refine w_aload_n 794 dL_law_793 rfl rfl ?_
  refine w_aload_n 795 dL_law_794 rfl rfl ?_
  refine w_iload_n 796 dL_law_795 rfl rfl ?_
  refine w_iconst 797 dL_law_796 rfl rfl ?_
  refine w_iadd (v := 5 * (n : Int) + 1) 798 dL_law_797 rfl (w32_id (by omega) (by omega)) ?_
  refine w_sld 799 dL_law_798 rfl (by omega) (by omega) (sx_e (n := n) (j := 1) (by omega)) ?_
  refine w_c1 802 dL_law_799 rfl kv_L_102 hN.1 hN.2.1 hd c1 rfl (fun r h1 q => ?_)
  obtain ⟨v, rfl, d', hd', c2⟩ := q
  refine w_pop 803 dL_law_802 rfl rfl ?_
  refine w_aload_n 804 dL_law_803 rfl rfl ?_
  refine w_aload_n 805 dL_law_804 rfl rfl ?_
  refine w_iload_n 806 dL_law_805 rfl rfl ?_
  refine w_iconst 807 dL_law_806 rfl rfl ?_
  refine w_iadd (v := 5 * (n : Int) + 1) 808 dL_law_807 rfl (w32_id (by omega) (by omega)) ?_
  refine w_sld 809 dL_law_808 rfl (by omega) (by omega) (sx_e (n := n) (j := 1) (by omega)) ?_
  refine w_c1 812 dL_law_809 rfl kv_L_105 hN.2.2.1 hN.2.2.2 hd' c2 rfl (fun r' h2 q => ?_)
  obtain ⟨v', rfl, hc, hR⟩ := q
  refine w_pop 813 dL_law_812 rfl rfl ?_
  refine w_goto 1337 dL_law_813 rfl ?_
  exact kE _ hR
set_option maxHeartbeats 2000000 in
theorem L_swap (hN : 0 < gN G ∧ gs G 0 = 8 ∧ 45 < gN G ∧ gs G 45 = 9) (hn : 5 * n + 5 ≤ L) (hL : L ≤ 2560) (D : DuI l G mX3_swap mX4_swap [vI (sx xs n 1)] h false R) (kE : ∀ h', R h' → Rw l G b L xs 1337 [some (vR 3000), some (vR 0), some (vR 45), some (vI (5 * (n : Int)))] [] h') : Rw l G b L xs 816 [some (vR 3000), some (vR 0), some (vR 45), some (vI (5 * (n : Int)))] [] h := by
  obtain ⟨d, hd, c1⟩ := D
  refine w_aload_n 817 dL_law_816 rfl rfl ?_
  refine w_aload_n 818 dL_law_817 rfl rfl ?_
  refine w_iload_n 819 dL_law_818 rfl rfl ?_
  refine w_iconst 820 dL_law_819 rfl rfl ?_
  refine w_iadd (v := 5 * (n : Int) + 1) 821 dL_law_820 rfl (w32_id (by omega) (by omega)) ?_
  refine w_sld 822 dL_law_821 rfl (by omega) (by omega) (sx_e (n := n) (j := 1) (by omega)) ?_
  refine w_c1 825 dL_law_822 rfl kv_L_106 hN.1 hN.2.1 hd c1 rfl (fun r h1 q => ?_)
  obtain ⟨v, rfl, d', hd', c2⟩ := q
  refine w_pop 826 dL_law_825 rfl rfl ?_
  refine w_aload_n 827 dL_law_826 rfl rfl ?_
  refine w_aload_n 828 dL_law_827 rfl rfl ?_
  refine w_iload_n 829 dL_law_828 rfl rfl ?_
  refine w_iconst 830 dL_law_829 rfl rfl ?_
  refine w_iadd (v := 5 * (n : Int) + 1) 831 dL_law_830 rfl (w32_id (by omega) (by omega)) ?_
  refine w_sld 832 dL_law_831 rfl (by omega) (by omega) (sx_e (n := n) (j := 1) (by omega)) ?_
  refine w_c1 835 dL_law_832 rfl kv_L_109 hN.2.2.1 hN.2.2.2 hd' c2 rfl (fun r' h2 q => ?_)
  obtain ⟨v', rfl, hc, hR⟩ := q
  refine w_pop 836 dL_law_835 rfl rfl ?_
  refine w_goto 1337 dL_law_836 rfl ?_
  exact kE _ hR
set_option maxHeartbeats 2000000 in
theorem L_sole (hN : 0 < gN G ∧ gs G 0 = 8 ∧ 45 < gN G ∧ gs G 45 = 9) (hn : 5 * n + 5 ≤ L) (hL : L ≤ 2560) (D : DuI l G mX3_sole mX4_sole [vI (sx xs n 1)] h false R) (kE : ∀ h', R h' → Rw l G b L xs 1337 [some (vR 3000), some (vR 0), some (vR 45), some (vI (5 * (n : Int)))] [] h') : Rw l G b L xs 839 [some (vR 3000), some (vR 0), some (vR 45), some (vI (5 * (n : Int)))] [] h := by
  obtain ⟨d, hd, c1⟩ := D
  refine w_aload_n 840 dL_law_839 rfl rfl ?_
  refine w_aload_n 841 dL_law_840 rfl rfl ?_
  refine w_iload_n 842 dL_law_841 rfl rfl ?_
  refine w_iconst 843 dL_law_842 rfl rfl ?_
  refine w_iadd (v := 5 * (n : Int) + 1) 844 dL_law_843 rfl (w32_id (by omega) (by omega)) ?_
  refine w_sld 845 dL_law_844 rfl (by omega) (by omega) (sx_e (n := n) (j := 1) (by omega)) ?_
  refine w_c1 848 dL_law_845 rfl kv_L_110 hN.1 hN.2.1 hd c1 rfl (fun r h1 q => ?_)
  obtain ⟨v, rfl, d', hd', c2⟩ := q
  refine w_pop 849 dL_law_848 rfl rfl ?_
  refine w_aload_n 850 dL_law_849 rfl rfl ?_
  refine w_aload_n 851 dL_law_850 rfl rfl ?_
  refine w_iload_n 852 dL_law_851 rfl rfl ?_
  refine w_iconst 853 dL_law_852 rfl rfl ?_
  refine w_iadd (v := 5 * (n : Int) + 1) 854 dL_law_853 rfl (w32_id (by omega) (by omega)) ?_
  refine w_sld 855 dL_law_854 rfl (by omega) (by omega) (sx_e (n := n) (j := 1) (by omega)) ?_
  refine w_c1 858 dL_law_855 rfl kv_L_113 hN.2.2.1 hN.2.2.2 hd' c2 rfl (fun r' h2 q => ?_)
  obtain ⟨v', rfl, hc, hR⟩ := q
  refine w_pop 859 dL_law_858 rfl rfl ?_
  refine w_goto 1337 dL_law_859 rfl ?_
  exact kE _ hR
set_option maxHeartbeats 2000000 in
theorem L_mean (hN : 0 < gN G ∧ gs G 0 = 8 ∧ 45 < gN G ∧ gs G 45 = 9) (hn : 5 * n + 5 ≤ L) (hL : L ≤ 2560) (D : DuL l G mX3_mean mX4_mean [vI (sx xs n 1), vI (sx xs n 2)] h false R) (kE : ∀ h', R h' → Rw l G b L xs 1337 [some (vR 3000), some (vR 0), some (vR 45), some (vI (5 * (n : Int)))] [] h') : Rw l G b L xs 862 [some (vR 3000), some (vR 0), some (vR 45), some (vI (5 * (n : Int)))] [] h := by
  obtain ⟨d, hd, c1⟩ := D
  refine w_aload_n 863 dL_law_862 rfl rfl ?_
  refine w_aload_n 864 dL_law_863 rfl rfl ?_
  refine w_iload_n 865 dL_law_864 rfl rfl ?_
  refine w_iconst 866 dL_law_865 rfl rfl ?_
  refine w_iadd (v := 5 * (n : Int) + 1) 867 dL_law_866 rfl (w32_id (by omega) (by omega)) ?_
  refine w_sld 868 dL_law_867 rfl (by omega) (by omega) (sx_e (n := n) (j := 1) (by omega)) ?_
  refine w_aload_n 869 dL_law_868 rfl rfl ?_
  refine w_iload_n 870 dL_law_869 rfl rfl ?_
  refine w_iconst 871 dL_law_870 rfl rfl ?_
  refine w_iadd (v := 5 * (n : Int) + 2) 872 dL_law_871 rfl (w32_id (by omega) (by omega)) ?_
  refine w_sld 873 dL_law_872 rfl (by omega) (by omega) (sx_e (n := n) (j := 2) (by omega)) ?_
  refine w_c2 876 dL_law_873 rfl kv_L_114 hN.1 hN.2.1 hd c1 rfl (fun r h1 q => ?_)
  obtain ⟨v, rfl, d', hd', c2⟩ := q
  refine w_pop2 877 dL_law_876 rfl ?_
  refine w_aload_n 878 dL_law_877 rfl rfl ?_
  refine w_aload_n 879 dL_law_878 rfl rfl ?_
  refine w_iload_n 880 dL_law_879 rfl rfl ?_
  refine w_iconst 881 dL_law_880 rfl rfl ?_
  refine w_iadd (v := 5 * (n : Int) + 1) 882 dL_law_881 rfl (w32_id (by omega) (by omega)) ?_
  refine w_sld 883 dL_law_882 rfl (by omega) (by omega) (sx_e (n := n) (j := 1) (by omega)) ?_
  refine w_aload_n 884 dL_law_883 rfl rfl ?_
  refine w_iload_n 885 dL_law_884 rfl rfl ?_
  refine w_iconst 886 dL_law_885 rfl rfl ?_
  refine w_iadd (v := 5 * (n : Int) + 2) 887 dL_law_886 rfl (w32_id (by omega) (by omega)) ?_
  refine w_sld 888 dL_law_887 rfl (by omega) (by omega) (sx_e (n := n) (j := 2) (by omega)) ?_
  refine w_c2 891 dL_law_888 rfl kv_L_118 hN.2.2.1 hN.2.2.2 hd' c2 rfl (fun r' h2 q => ?_)
  obtain ⟨v', rfl, hc, hR⟩ := q
  refine w_pop2 892 dL_law_891 rfl ?_
  refine w_goto 1337 dL_law_892 rfl ?_
  exact kE _ hR
set_option maxHeartbeats 2000000 in
theorem L_luck (hN : 0 < gN G ∧ gs G 0 = 8 ∧ 45 < gN G ∧ gs G 45 = 9) (hn : 5 * n + 5 ≤ L) (hL : L ≤ 2560) (D : DuL l G mX3_luck mX4_luck [vI (sx xs n 1), vI (sx xs n 2), vI (sx xs n 3)] h false R) (kE : ∀ h', R h' → Rw l G b L xs 1337 [some (vR 3000), some (vR 0), some (vR 45), some (vI (5 * (n : Int)))] [] h') : Rw l G b L xs 895 [some (vR 3000), some (vR 0), some (vR 45), some (vI (5 * (n : Int)))] [] h := by
  obtain ⟨d, hd, c1⟩ := D
  refine w_aload_n 896 dL_law_895 rfl rfl ?_
  refine w_aload_n 897 dL_law_896 rfl rfl ?_
  refine w_iload_n 898 dL_law_897 rfl rfl ?_
  refine w_iconst 899 dL_law_898 rfl rfl ?_
  refine w_iadd (v := 5 * (n : Int) + 1) 900 dL_law_899 rfl (w32_id (by omega) (by omega)) ?_
  refine w_sld 901 dL_law_900 rfl (by omega) (by omega) (sx_e (n := n) (j := 1) (by omega)) ?_
  refine w_aload_n 902 dL_law_901 rfl rfl ?_
  refine w_iload_n 903 dL_law_902 rfl rfl ?_
  refine w_iconst 904 dL_law_903 rfl rfl ?_
  refine w_iadd (v := 5 * (n : Int) + 2) 905 dL_law_904 rfl (w32_id (by omega) (by omega)) ?_
  refine w_sld 906 dL_law_905 rfl (by omega) (by omega) (sx_e (n := n) (j := 2) (by omega)) ?_
  refine w_aload_n 907 dL_law_906 rfl rfl ?_
  refine w_iload_n 908 dL_law_907 rfl rfl ?_
  refine w_iconst 909 dL_law_908 rfl rfl ?_
  refine w_iadd (v := 5 * (n : Int) + 3) 910 dL_law_909 rfl (w32_id (by omega) (by omega)) ?_
  refine w_sld 911 dL_law_910 rfl (by omega) (by omega) (sx_e (n := n) (j := 3) (by omega)) ?_
  refine w_c3 914 dL_law_911 rfl kv_L_119 hN.1 hN.2.1 hd c1 rfl (fun r h1 q => ?_)
  obtain ⟨v, rfl, d', hd', c2⟩ := q
  refine w_pop2 915 dL_law_914 rfl ?_
  refine w_aload_n 916 dL_law_915 rfl rfl ?_
  refine w_aload_n 917 dL_law_916 rfl rfl ?_
  refine w_iload_n 918 dL_law_917 rfl rfl ?_
  refine w_iconst 919 dL_law_918 rfl rfl ?_
  refine w_iadd (v := 5 * (n : Int) + 1) 920 dL_law_919 rfl (w32_id (by omega) (by omega)) ?_
  refine w_sld 921 dL_law_920 rfl (by omega) (by omega) (sx_e (n := n) (j := 1) (by omega)) ?_
  refine w_aload_n 922 dL_law_921 rfl rfl ?_
  refine w_iload_n 923 dL_law_922 rfl rfl ?_
  refine w_iconst 924 dL_law_923 rfl rfl ?_
  refine w_iadd (v := 5 * (n : Int) + 2) 925 dL_law_924 rfl (w32_id (by omega) (by omega)) ?_
  refine w_sld 926 dL_law_925 rfl (by omega) (by omega) (sx_e (n := n) (j := 2) (by omega)) ?_
  refine w_aload_n 927 dL_law_926 rfl rfl ?_
  refine w_iload_n 928 dL_law_927 rfl rfl ?_
  refine w_iconst 929 dL_law_928 rfl rfl ?_
  refine w_iadd (v := 5 * (n : Int) + 3) 930 dL_law_929 rfl (w32_id (by omega) (by omega)) ?_
  refine w_sld 931 dL_law_930 rfl (by omega) (by omega) (sx_e (n := n) (j := 3) (by omega)) ?_
  refine w_c3 934 dL_law_931 rfl kv_L_123 hN.2.2.1 hN.2.2.2 hd' c2 rfl (fun r' h2 q => ?_)
  obtain ⟨v', rfl, hc, hR⟩ := q
  refine w_pop2 935 dL_law_934 rfl ?_
  refine w_goto 1337 dL_law_935 rfl ?_
  exact kE _ hR
set_option maxHeartbeats 2000000 in
theorem L_see (hN : 0 < gN G ∧ gs G 0 = 8 ∧ 45 < gN G ∧ gs G 45 = 9) (hn : 5 * n + 5 ≤ L) (hL : L ≤ 2560) (D : DuI l G mX3_see mX4_see [vI (sx xs n 1), vI (sx xs n 2)] h false R) (kE : ∀ h', R h' → Rw l G b L xs 1337 [some (vR 3000), some (vR 0), some (vR 45), some (vI (5 * (n : Int)))] [] h') : Rw l G b L xs 938 [some (vR 3000), some (vR 0), some (vR 45), some (vI (5 * (n : Int)))] [] h := by
  obtain ⟨d, hd, c1⟩ := D
  refine w_aload_n 939 dL_law_938 rfl rfl ?_
  refine w_aload_n 940 dL_law_939 rfl rfl ?_
  refine w_iload_n 941 dL_law_940 rfl rfl ?_
  refine w_iconst 942 dL_law_941 rfl rfl ?_
  refine w_iadd (v := 5 * (n : Int) + 1) 943 dL_law_942 rfl (w32_id (by omega) (by omega)) ?_
  refine w_sld 944 dL_law_943 rfl (by omega) (by omega) (sx_e (n := n) (j := 1) (by omega)) ?_
  refine w_aload_n 945 dL_law_944 rfl rfl ?_
  refine w_iload_n 946 dL_law_945 rfl rfl ?_
  refine w_iconst 947 dL_law_946 rfl rfl ?_
  refine w_iadd (v := 5 * (n : Int) + 2) 948 dL_law_947 rfl (w32_id (by omega) (by omega)) ?_
  refine w_sld 949 dL_law_948 rfl (by omega) (by omega) (sx_e (n := n) (j := 2) (by omega)) ?_
  refine w_c2 952 dL_law_949 rfl kv_L_124 hN.1 hN.2.1 hd c1 rfl (fun r h1 q => ?_)
  obtain ⟨v, rfl, d', hd', c2⟩ := q
  refine w_pop 953 dL_law_952 rfl rfl ?_
  refine w_aload_n 954 dL_law_953 rfl rfl ?_
  refine w_aload_n 955 dL_law_954 rfl rfl ?_
  refine w_iload_n 956 dL_law_955 rfl rfl ?_
  refine w_iconst 957 dL_law_956 rfl rfl ?_
  refine w_iadd (v := 5 * (n : Int) + 1) 958 dL_law_957 rfl (w32_id (by omega) (by omega)) ?_
  refine w_sld 959 dL_law_958 rfl (by omega) (by omega) (sx_e (n := n) (j := 1) (by omega)) ?_
  refine w_aload_n 960 dL_law_959 rfl rfl ?_
  refine w_iload_n 961 dL_law_960 rfl rfl ?_
  refine w_iconst 962 dL_law_961 rfl rfl ?_
  refine w_iadd (v := 5 * (n : Int) + 2) 963 dL_law_962 rfl (w32_id (by omega) (by omega)) ?_
  refine w_sld 964 dL_law_963 rfl (by omega) (by omega) (sx_e (n := n) (j := 2) (by omega)) ?_
  refine w_c2 967 dL_law_964 rfl kv_L_127 hN.2.2.1 hN.2.2.2 hd' c2 rfl (fun r' h2 q => ?_)
  obtain ⟨v', rfl, hc, hR⟩ := q
  refine w_pop 968 dL_law_967 rfl rfl ?_
  refine w_goto 1337 dL_law_968 rfl ?_
  exact kE _ hR
set_option maxHeartbeats 2000000 in
theorem L_forget (hN : 0 < gN G ∧ gs G 0 = 8 ∧ 45 < gN G ∧ gs G 45 = 9) (hn : 5 * n + 5 ≤ L) (hL : L ≤ 2560) (D : DuI l G mX3_forget mX4_forget [vI (sx xs n 1)] h false R) (kE : ∀ h', R h' → Rw l G b L xs 1337 [some (vR 3000), some (vR 0), some (vR 45), some (vI (5 * (n : Int)))] [] h') : Rw l G b L xs 971 [some (vR 3000), some (vR 0), some (vR 45), some (vI (5 * (n : Int)))] [] h := by
  obtain ⟨d, hd, c1⟩ := D
  refine w_aload_n 972 dL_law_971 rfl rfl ?_
  refine w_aload_n 973 dL_law_972 rfl rfl ?_
  refine w_iload_n 974 dL_law_973 rfl rfl ?_
  refine w_iconst 975 dL_law_974 rfl rfl ?_
  refine w_iadd (v := 5 * (n : Int) + 1) 976 dL_law_975 rfl (w32_id (by omega) (by omega)) ?_
  refine w_sld 977 dL_law_976 rfl (by omega) (by omega) (sx_e (n := n) (j := 1) (by omega)) ?_
  refine w_c1 980 dL_law_977 rfl kv_L_128 hN.1 hN.2.1 hd c1 rfl (fun r h1 q => ?_)
  obtain ⟨v, rfl, d', hd', c2⟩ := q
  refine w_pop 981 dL_law_980 rfl rfl ?_
  refine w_aload_n 982 dL_law_981 rfl rfl ?_
  refine w_aload_n 983 dL_law_982 rfl rfl ?_
  refine w_iload_n 984 dL_law_983 rfl rfl ?_
  refine w_iconst 985 dL_law_984 rfl rfl ?_
  refine w_iadd (v := 5 * (n : Int) + 1) 986 dL_law_985 rfl (w32_id (by omega) (by omega)) ?_
  refine w_sld 987 dL_law_986 rfl (by omega) (by omega) (sx_e (n := n) (j := 1) (by omega)) ?_
  refine w_c1 990 dL_law_987 rfl kv_L_131 hN.2.2.1 hN.2.2.2 hd' c2 rfl (fun r' h2 q => ?_)
  obtain ⟨v', rfl, hc, hR⟩ := q
  refine w_pop 991 dL_law_990 rfl rfl ?_
  refine w_goto 1337 dL_law_991 rfl ?_
  exact kE _ hR
set_option maxHeartbeats 2000000 in
theorem L_leans (hN : 0 < gN G ∧ gs G 0 = 8 ∧ 45 < gN G ∧ gs G 45 = 9) (hn : 5 * n + 5 ≤ L) (hL : L ≤ 2560) (D : DuI l G mX3_leans mX4_leans [vI (sx xs n 1)] h false R) (kE : ∀ h', R h' → Rw l G b L xs 1337 [some (vR 3000), some (vR 0), some (vR 45), some (vI (5 * (n : Int)))] [] h') : Rw l G b L xs 994 [some (vR 3000), some (vR 0), some (vR 45), some (vI (5 * (n : Int)))] [] h := by
  obtain ⟨d, hd, c1⟩ := D
  refine w_aload_n 995 dL_law_994 rfl rfl ?_
  refine w_aload_n 996 dL_law_995 rfl rfl ?_
  refine w_iload_n 997 dL_law_996 rfl rfl ?_
  refine w_iconst 998 dL_law_997 rfl rfl ?_
  refine w_iadd (v := 5 * (n : Int) + 1) 999 dL_law_998 rfl (w32_id (by omega) (by omega)) ?_
  refine w_sld 1000 dL_law_999 rfl (by omega) (by omega) (sx_e (n := n) (j := 1) (by omega)) ?_
  refine w_c1 1003 dL_law_1000 rfl kv_L_132 hN.1 hN.2.1 hd c1 rfl (fun r h1 q => ?_)
  obtain ⟨v, rfl, d', hd', c2⟩ := q
  refine w_pop 1004 dL_law_1003 rfl rfl ?_
  refine w_aload_n 1005 dL_law_1004 rfl rfl ?_
  refine w_aload_n 1006 dL_law_1005 rfl rfl ?_
  refine w_iload_n 1007 dL_law_1006 rfl rfl ?_
  refine w_iconst 1008 dL_law_1007 rfl rfl ?_
  refine w_iadd (v := 5 * (n : Int) + 1) 1009 dL_law_1008 rfl (w32_id (by omega) (by omega)) ?_
  refine w_sld 1010 dL_law_1009 rfl (by omega) (by omega) (sx_e (n := n) (j := 1) (by omega)) ?_
  refine w_c1 1013 dL_law_1010 rfl kv_L_135 hN.2.2.1 hN.2.2.2 hd' c2 rfl (fun r' h2 q => ?_)
  obtain ⟨v', rfl, hc, hR⟩ := q
  refine w_pop 1014 dL_law_1013 rfl rfl ?_
  refine w_goto 1337 dL_law_1014 rfl ?_
  exact kE _ hR
set_option maxHeartbeats 2000000 in
theorem L_kinds (hN : 0 < gN G ∧ gs G 0 = 8 ∧ 45 < gN G ∧ gs G 45 = 9) (hn : 5 * n + 5 ≤ L) (hL : L ≤ 2560) (D : DuI l G mX3_kinds mX4_kinds [vI (sx xs n 1)] h false R) (kE : ∀ h', R h' → Rw l G b L xs 1337 [some (vR 3000), some (vR 0), some (vR 45), some (vI (5 * (n : Int)))] [] h') : Rw l G b L xs 1017 [some (vR 3000), some (vR 0), some (vR 45), some (vI (5 * (n : Int)))] [] h := by
  obtain ⟨d, hd, c1⟩ := D
  refine w_aload_n 1018 dL_law_1017 rfl rfl ?_
  refine w_aload_n 1019 dL_law_1018 rfl rfl ?_
  refine w_iload_n 1020 dL_law_1019 rfl rfl ?_
  refine w_iconst 1021 dL_law_1020 rfl rfl ?_
  refine w_iadd (v := 5 * (n : Int) + 1) 1022 dL_law_1021 rfl (w32_id (by omega) (by omega)) ?_
  refine w_sld 1023 dL_law_1022 rfl (by omega) (by omega) (sx_e (n := n) (j := 1) (by omega)) ?_
  refine w_c1 1026 dL_law_1023 rfl kv_L_136 hN.1 hN.2.1 hd c1 rfl (fun r h1 q => ?_)
  obtain ⟨v, rfl, d', hd', c2⟩ := q
  refine w_pop 1027 dL_law_1026 rfl rfl ?_
  refine w_aload_n 1028 dL_law_1027 rfl rfl ?_
  refine w_aload_n 1029 dL_law_1028 rfl rfl ?_
  refine w_iload_n 1030 dL_law_1029 rfl rfl ?_
  refine w_iconst 1031 dL_law_1030 rfl rfl ?_
  refine w_iadd (v := 5 * (n : Int) + 1) 1032 dL_law_1031 rfl (w32_id (by omega) (by omega)) ?_
  refine w_sld 1033 dL_law_1032 rfl (by omega) (by omega) (sx_e (n := n) (j := 1) (by omega)) ?_
  refine w_c1 1036 dL_law_1033 rfl kv_L_139 hN.2.2.1 hN.2.2.2 hd' c2 rfl (fun r' h2 q => ?_)
  obtain ⟨v', rfl, hc, hR⟩ := q
  refine w_pop 1037 dL_law_1036 rfl rfl ?_
  refine w_goto 1337 dL_law_1037 rfl ?_
  exact kE _ hR
set_option maxHeartbeats 2000000 in
theorem L_ask (hN : 0 < gN G ∧ gs G 0 = 8 ∧ 45 < gN G ∧ gs G 45 = 9) (hn : 5 * n + 5 ≤ L) (hL : L ≤ 2560) (D : DuI l G mX3_ask mX4_ask [vI (sx xs n 1), vI (sx xs n 2)] h false R) (kE : ∀ h', R h' → Rw l G b L xs 1337 [some (vR 3000), some (vR 0), some (vR 45), some (vI (5 * (n : Int)))] [] h') : Rw l G b L xs 1040 [some (vR 3000), some (vR 0), some (vR 45), some (vI (5 * (n : Int)))] [] h := by
  obtain ⟨d, hd, c1⟩ := D
  refine w_aload_n 1041 dL_law_1040 rfl rfl ?_
  refine w_aload_n 1042 dL_law_1041 rfl rfl ?_
  refine w_iload_n 1043 dL_law_1042 rfl rfl ?_
  refine w_iconst 1044 dL_law_1043 rfl rfl ?_
  refine w_iadd (v := 5 * (n : Int) + 1) 1045 dL_law_1044 rfl (w32_id (by omega) (by omega)) ?_
  refine w_sld 1046 dL_law_1045 rfl (by omega) (by omega) (sx_e (n := n) (j := 1) (by omega)) ?_
  refine w_aload_n 1047 dL_law_1046 rfl rfl ?_
  refine w_iload_n 1048 dL_law_1047 rfl rfl ?_
  refine w_iconst 1049 dL_law_1048 rfl rfl ?_
  refine w_iadd (v := 5 * (n : Int) + 2) 1050 dL_law_1049 rfl (w32_id (by omega) (by omega)) ?_
  refine w_sld 1051 dL_law_1050 rfl (by omega) (by omega) (sx_e (n := n) (j := 2) (by omega)) ?_
  refine w_c2 1054 dL_law_1051 rfl kv_L_140 hN.1 hN.2.1 hd c1 rfl (fun r h1 q => ?_)
  obtain ⟨v, rfl, d', hd', c2⟩ := q
  refine w_pop 1055 dL_law_1054 rfl rfl ?_
  refine w_aload_n 1056 dL_law_1055 rfl rfl ?_
  refine w_aload_n 1057 dL_law_1056 rfl rfl ?_
  refine w_iload_n 1058 dL_law_1057 rfl rfl ?_
  refine w_iconst 1059 dL_law_1058 rfl rfl ?_
  refine w_iadd (v := 5 * (n : Int) + 1) 1060 dL_law_1059 rfl (w32_id (by omega) (by omega)) ?_
  refine w_sld 1061 dL_law_1060 rfl (by omega) (by omega) (sx_e (n := n) (j := 1) (by omega)) ?_
  refine w_aload_n 1062 dL_law_1061 rfl rfl ?_
  refine w_iload_n 1063 dL_law_1062 rfl rfl ?_
  refine w_iconst 1064 dL_law_1063 rfl rfl ?_
  refine w_iadd (v := 5 * (n : Int) + 2) 1065 dL_law_1064 rfl (w32_id (by omega) (by omega)) ?_
  refine w_sld 1066 dL_law_1065 rfl (by omega) (by omega) (sx_e (n := n) (j := 2) (by omega)) ?_
  refine w_c2 1069 dL_law_1066 rfl kv_L_143 hN.2.2.1 hN.2.2.2 hd' c2 rfl (fun r' h2 q => ?_)
  obtain ⟨v', rfl, hc, hR⟩ := q
  refine w_pop 1070 dL_law_1069 rfl rfl ?_
  refine w_goto 1337 dL_law_1070 rfl ?_
  exact kE _ hR
set_option maxHeartbeats 2000000 in
theorem L_drift (hN : 0 < gN G ∧ gs G 0 = 8 ∧ 45 < gN G ∧ gs G 45 = 9) (hn : 5 * n + 5 ≤ L) (hL : L ≤ 2560) (D : DuI l G mX3_drift mX4_drift [vI (sx xs n 1), vI (sx xs n 2), vI (sx xs n 3)] h false R) (kE : ∀ h', R h' → Rw l G b L xs 1337 [some (vR 3000), some (vR 0), some (vR 45), some (vI (5 * (n : Int)))] [] h') : Rw l G b L xs 1073 [some (vR 3000), some (vR 0), some (vR 45), some (vI (5 * (n : Int)))] [] h := by
  obtain ⟨d, hd, c1⟩ := D
  refine w_aload_n 1074 dL_law_1073 rfl rfl ?_
  refine w_aload_n 1075 dL_law_1074 rfl rfl ?_
  refine w_iload_n 1076 dL_law_1075 rfl rfl ?_
  refine w_iconst 1077 dL_law_1076 rfl rfl ?_
  refine w_iadd (v := 5 * (n : Int) + 1) 1078 dL_law_1077 rfl (w32_id (by omega) (by omega)) ?_
  refine w_sld 1079 dL_law_1078 rfl (by omega) (by omega) (sx_e (n := n) (j := 1) (by omega)) ?_
  refine w_aload_n 1080 dL_law_1079 rfl rfl ?_
  refine w_iload_n 1081 dL_law_1080 rfl rfl ?_
  refine w_iconst 1082 dL_law_1081 rfl rfl ?_
  refine w_iadd (v := 5 * (n : Int) + 2) 1083 dL_law_1082 rfl (w32_id (by omega) (by omega)) ?_
  refine w_sld 1084 dL_law_1083 rfl (by omega) (by omega) (sx_e (n := n) (j := 2) (by omega)) ?_
  refine w_aload_n 1085 dL_law_1084 rfl rfl ?_
  refine w_iload_n 1086 dL_law_1085 rfl rfl ?_
  refine w_iconst 1087 dL_law_1086 rfl rfl ?_
  refine w_iadd (v := 5 * (n : Int) + 3) 1088 dL_law_1087 rfl (w32_id (by omega) (by omega)) ?_
  refine w_sld 1089 dL_law_1088 rfl (by omega) (by omega) (sx_e (n := n) (j := 3) (by omega)) ?_
  refine w_c3 1092 dL_law_1089 rfl kv_L_144 hN.1 hN.2.1 hd c1 rfl (fun r h1 q => ?_)
  obtain ⟨v, rfl, d', hd', c2⟩ := q
  refine w_pop 1093 dL_law_1092 rfl rfl ?_
  refine w_aload_n 1094 dL_law_1093 rfl rfl ?_
  refine w_aload_n 1095 dL_law_1094 rfl rfl ?_
  refine w_iload_n 1096 dL_law_1095 rfl rfl ?_
  refine w_iconst 1097 dL_law_1096 rfl rfl ?_
  refine w_iadd (v := 5 * (n : Int) + 1) 1098 dL_law_1097 rfl (w32_id (by omega) (by omega)) ?_
  refine w_sld 1099 dL_law_1098 rfl (by omega) (by omega) (sx_e (n := n) (j := 1) (by omega)) ?_
  refine w_aload_n 1100 dL_law_1099 rfl rfl ?_
  refine w_iload_n 1101 dL_law_1100 rfl rfl ?_
  refine w_iconst 1102 dL_law_1101 rfl rfl ?_
  refine w_iadd (v := 5 * (n : Int) + 2) 1103 dL_law_1102 rfl (w32_id (by omega) (by omega)) ?_
  refine w_sld 1104 dL_law_1103 rfl (by omega) (by omega) (sx_e (n := n) (j := 2) (by omega)) ?_
  refine w_aload_n 1105 dL_law_1104 rfl rfl ?_
  refine w_iload_n 1106 dL_law_1105 rfl rfl ?_
  refine w_iconst 1107 dL_law_1106 rfl rfl ?_
  refine w_iadd (v := 5 * (n : Int) + 3) 1108 dL_law_1107 rfl (w32_id (by omega) (by omega)) ?_
  refine w_sld 1109 dL_law_1108 rfl (by omega) (by omega) (sx_e (n := n) (j := 3) (by omega)) ?_
  refine w_c3 1112 dL_law_1109 rfl kv_L_147 hN.2.2.1 hN.2.2.2 hd' c2 rfl (fun r' h2 q => ?_)
  obtain ⟨v', rfl, hc, hR⟩ := q
  refine w_pop 1113 dL_law_1112 rfl rfl ?_
  refine w_goto 1337 dL_law_1113 rfl ?_
  exact kE _ hR
set_option maxHeartbeats 2000000 in
theorem L_keep (hN : 0 < gN G ∧ gs G 0 = 8 ∧ 45 < gN G ∧ gs G 45 = 9) (hn : 5 * n + 5 ≤ L) (hL : L ≤ 2560) (D : DuI l G mX3_keep mX4_keep [vI (sx xs n 1)] h false R) (kE : ∀ h', R h' → Rw l G b L xs 1337 [some (vR 3000), some (vR 0), some (vR 45), some (vI (5 * (n : Int)))] [] h') : Rw l G b L xs 1116 [some (vR 3000), some (vR 0), some (vR 45), some (vI (5 * (n : Int)))] [] h := by
  obtain ⟨d, hd, c1⟩ := D
  refine w_aload_n 1117 dL_law_1116 rfl rfl ?_
  refine w_aload_n 1118 dL_law_1117 rfl rfl ?_
  refine w_iload_n 1119 dL_law_1118 rfl rfl ?_
  refine w_iconst 1120 dL_law_1119 rfl rfl ?_
  refine w_iadd (v := 5 * (n : Int) + 1) 1121 dL_law_1120 rfl (w32_id (by omega) (by omega)) ?_
  refine w_sld 1122 dL_law_1121 rfl (by omega) (by omega) (sx_e (n := n) (j := 1) (by omega)) ?_
  refine w_c1 1125 dL_law_1122 rfl kv_L_148 hN.1 hN.2.1 hd c1 rfl (fun r h1 q => ?_)
  obtain ⟨v, rfl, d', hd', c2⟩ := q
  refine w_pop 1126 dL_law_1125 rfl rfl ?_
  refine w_aload_n 1127 dL_law_1126 rfl rfl ?_
  refine w_aload_n 1128 dL_law_1127 rfl rfl ?_
  refine w_iload_n 1129 dL_law_1128 rfl rfl ?_
  refine w_iconst 1130 dL_law_1129 rfl rfl ?_
  refine w_iadd (v := 5 * (n : Int) + 1) 1131 dL_law_1130 rfl (w32_id (by omega) (by omega)) ?_
  refine w_sld 1132 dL_law_1131 rfl (by omega) (by omega) (sx_e (n := n) (j := 1) (by omega)) ?_
  refine w_c1 1135 dL_law_1132 rfl kv_L_151 hN.2.2.1 hN.2.2.2 hd' c2 rfl (fun r' h2 q => ?_)
  obtain ⟨v', rfl, hc, hR⟩ := q
  refine w_pop 1136 dL_law_1135 rfl rfl ?_
  refine w_goto 1337 dL_law_1136 rfl ?_
  exact kE _ hR
set_option maxHeartbeats 2000000 in
theorem L_back (hN : 0 < gN G ∧ gs G 0 = 8 ∧ 45 < gN G ∧ gs G 45 = 9) (hn : 5 * n + 5 ≤ L) (hL : L ≤ 2560) (D : DuI l G mX3_back mX4_back [vI (sx xs n 1)] h false R) (kE : ∀ h', R h' → Rw l G b L xs 1337 [some (vR 3000), some (vR 0), some (vR 45), some (vI (5 * (n : Int)))] [] h') : Rw l G b L xs 1139 [some (vR 3000), some (vR 0), some (vR 45), some (vI (5 * (n : Int)))] [] h := by
  obtain ⟨d, hd, c1⟩ := D
  refine w_aload_n 1140 dL_law_1139 rfl rfl ?_
  refine w_aload_n 1141 dL_law_1140 rfl rfl ?_
  refine w_iload_n 1142 dL_law_1141 rfl rfl ?_
  refine w_iconst 1143 dL_law_1142 rfl rfl ?_
  refine w_iadd (v := 5 * (n : Int) + 1) 1144 dL_law_1143 rfl (w32_id (by omega) (by omega)) ?_
  refine w_sld 1145 dL_law_1144 rfl (by omega) (by omega) (sx_e (n := n) (j := 1) (by omega)) ?_
  refine w_c1 1148 dL_law_1145 rfl kv_L_152 hN.1 hN.2.1 hd c1 rfl (fun r h1 q => ?_)
  obtain ⟨v, rfl, d', hd', c2⟩ := q
  refine w_pop 1149 dL_law_1148 rfl rfl ?_
  refine w_aload_n 1150 dL_law_1149 rfl rfl ?_
  refine w_aload_n 1151 dL_law_1150 rfl rfl ?_
  refine w_iload_n 1152 dL_law_1151 rfl rfl ?_
  refine w_iconst 1153 dL_law_1152 rfl rfl ?_
  refine w_iadd (v := 5 * (n : Int) + 1) 1154 dL_law_1153 rfl (w32_id (by omega) (by omega)) ?_
  refine w_sld 1155 dL_law_1154 rfl (by omega) (by omega) (sx_e (n := n) (j := 1) (by omega)) ?_
  refine w_c1 1158 dL_law_1155 rfl kv_L_155 hN.2.2.1 hN.2.2.2 hd' c2 rfl (fun r' h2 q => ?_)
  obtain ⟨v', rfl, hc, hR⟩ := q
  refine w_pop 1159 dL_law_1158 rfl rfl ?_
  refine w_goto 1337 dL_law_1159 rfl ?_
  exact kE _ hR
set_option maxHeartbeats 2000000 in
theorem L_sheet (hN : 0 < gN G ∧ gs G 0 = 8 ∧ 45 < gN G ∧ gs G 45 = 9) (hn : 5 * n + 5 ≤ L) (hL : L ≤ 2560) (D : DuI l G mX3_sheet mX4_sheet [vI (sx xs n 1), vI (sx xs n 2), vI (sx xs n 3)] h false R) (kE : ∀ h', R h' → Rw l G b L xs 1337 [some (vR 3000), some (vR 0), some (vR 45), some (vI (5 * (n : Int)))] [] h') : Rw l G b L xs 1162 [some (vR 3000), some (vR 0), some (vR 45), some (vI (5 * (n : Int)))] [] h := by
  obtain ⟨d, hd, c1⟩ := D
  refine w_aload_n 1163 dL_law_1162 rfl rfl ?_
  refine w_aload_n 1164 dL_law_1163 rfl rfl ?_
  refine w_iload_n 1165 dL_law_1164 rfl rfl ?_
  refine w_iconst 1166 dL_law_1165 rfl rfl ?_
  refine w_iadd (v := 5 * (n : Int) + 1) 1167 dL_law_1166 rfl (w32_id (by omega) (by omega)) ?_
  refine w_sld 1168 dL_law_1167 rfl (by omega) (by omega) (sx_e (n := n) (j := 1) (by omega)) ?_
  refine w_aload_n 1169 dL_law_1168 rfl rfl ?_
  refine w_iload_n 1170 dL_law_1169 rfl rfl ?_
  refine w_iconst 1171 dL_law_1170 rfl rfl ?_
  refine w_iadd (v := 5 * (n : Int) + 2) 1172 dL_law_1171 rfl (w32_id (by omega) (by omega)) ?_
  refine w_sld 1173 dL_law_1172 rfl (by omega) (by omega) (sx_e (n := n) (j := 2) (by omega)) ?_
  refine w_aload_n 1174 dL_law_1173 rfl rfl ?_
  refine w_iload_n 1175 dL_law_1174 rfl rfl ?_
  refine w_iconst 1176 dL_law_1175 rfl rfl ?_
  refine w_iadd (v := 5 * (n : Int) + 3) 1177 dL_law_1176 rfl (w32_id (by omega) (by omega)) ?_
  refine w_sld 1178 dL_law_1177 rfl (by omega) (by omega) (sx_e (n := n) (j := 3) (by omega)) ?_
  refine w_c3 1181 dL_law_1178 rfl kv_L_156 hN.1 hN.2.1 hd c1 rfl (fun r h1 q => ?_)
  obtain ⟨v, rfl, d', hd', c2⟩ := q
  refine w_pop 1182 dL_law_1181 rfl rfl ?_
  refine w_aload_n 1183 dL_law_1182 rfl rfl ?_
  refine w_aload_n 1184 dL_law_1183 rfl rfl ?_
  refine w_iload_n 1185 dL_law_1184 rfl rfl ?_
  refine w_iconst 1186 dL_law_1185 rfl rfl ?_
  refine w_iadd (v := 5 * (n : Int) + 1) 1187 dL_law_1186 rfl (w32_id (by omega) (by omega)) ?_
  refine w_sld 1188 dL_law_1187 rfl (by omega) (by omega) (sx_e (n := n) (j := 1) (by omega)) ?_
  refine w_aload_n 1189 dL_law_1188 rfl rfl ?_
  refine w_iload_n 1190 dL_law_1189 rfl rfl ?_
  refine w_iconst 1191 dL_law_1190 rfl rfl ?_
  refine w_iadd (v := 5 * (n : Int) + 2) 1192 dL_law_1191 rfl (w32_id (by omega) (by omega)) ?_
  refine w_sld 1193 dL_law_1192 rfl (by omega) (by omega) (sx_e (n := n) (j := 2) (by omega)) ?_
  refine w_aload_n 1194 dL_law_1193 rfl rfl ?_
  refine w_iload_n 1195 dL_law_1194 rfl rfl ?_
  refine w_iconst 1196 dL_law_1195 rfl rfl ?_
  refine w_iadd (v := 5 * (n : Int) + 3) 1197 dL_law_1196 rfl (w32_id (by omega) (by omega)) ?_
  refine w_sld 1198 dL_law_1197 rfl (by omega) (by omega) (sx_e (n := n) (j := 3) (by omega)) ?_
  refine w_c3 1201 dL_law_1198 rfl kv_L_159 hN.2.2.1 hN.2.2.2 hd' c2 rfl (fun r' h2 q => ?_)
  obtain ⟨v', rfl, hc, hR⟩ := q
  refine w_pop 1202 dL_law_1201 rfl rfl ?_
  refine w_goto 1337 dL_law_1202 rfl ?_
  exact kE _ hR
set_option maxHeartbeats 2000000 in
theorem L_lay (hN : 0 < gN G ∧ gs G 0 = 8 ∧ 45 < gN G ∧ gs G 45 = 9) (hn : 5 * n + 5 ≤ L) (hL : L ≤ 2560) (D : DuI l G mX3_lay mX4_lay [vI (sx xs n 1), vI (sx xs n 2), vI (sx xs n 3)] h false R) (kE : ∀ h', R h' → Rw l G b L xs 1337 [some (vR 3000), some (vR 0), some (vR 45), some (vI (5 * (n : Int)))] [] h') : Rw l G b L xs 1205 [some (vR 3000), some (vR 0), some (vR 45), some (vI (5 * (n : Int)))] [] h := by
  obtain ⟨d, hd, c1⟩ := D
  refine w_aload_n 1206 dL_law_1205 rfl rfl ?_
  refine w_aload_n 1207 dL_law_1206 rfl rfl ?_
  refine w_iload_n 1208 dL_law_1207 rfl rfl ?_
  refine w_iconst 1209 dL_law_1208 rfl rfl ?_
  refine w_iadd (v := 5 * (n : Int) + 1) 1210 dL_law_1209 rfl (w32_id (by omega) (by omega)) ?_
  refine w_sld 1211 dL_law_1210 rfl (by omega) (by omega) (sx_e (n := n) (j := 1) (by omega)) ?_
  refine w_aload_n 1212 dL_law_1211 rfl rfl ?_
  refine w_iload_n 1213 dL_law_1212 rfl rfl ?_
  refine w_iconst 1214 dL_law_1213 rfl rfl ?_
  refine w_iadd (v := 5 * (n : Int) + 2) 1215 dL_law_1214 rfl (w32_id (by omega) (by omega)) ?_
  refine w_sld 1216 dL_law_1215 rfl (by omega) (by omega) (sx_e (n := n) (j := 2) (by omega)) ?_
  refine w_aload_n 1217 dL_law_1216 rfl rfl ?_
  refine w_iload_n 1218 dL_law_1217 rfl rfl ?_
  refine w_iconst 1219 dL_law_1218 rfl rfl ?_
  refine w_iadd (v := 5 * (n : Int) + 3) 1220 dL_law_1219 rfl (w32_id (by omega) (by omega)) ?_
  refine w_sld 1221 dL_law_1220 rfl (by omega) (by omega) (sx_e (n := n) (j := 3) (by omega)) ?_
  refine w_c3 1224 dL_law_1221 rfl kv_L_160 hN.1 hN.2.1 hd c1 rfl (fun r h1 q => ?_)
  obtain ⟨v, rfl, d', hd', c2⟩ := q
  refine w_pop 1225 dL_law_1224 rfl rfl ?_
  refine w_aload_n 1226 dL_law_1225 rfl rfl ?_
  refine w_aload_n 1227 dL_law_1226 rfl rfl ?_
  refine w_iload_n 1228 dL_law_1227 rfl rfl ?_
  refine w_iconst 1229 dL_law_1228 rfl rfl ?_
  refine w_iadd (v := 5 * (n : Int) + 1) 1230 dL_law_1229 rfl (w32_id (by omega) (by omega)) ?_
  refine w_sld 1231 dL_law_1230 rfl (by omega) (by omega) (sx_e (n := n) (j := 1) (by omega)) ?_
  refine w_aload_n 1232 dL_law_1231 rfl rfl ?_
  refine w_iload_n 1233 dL_law_1232 rfl rfl ?_
  refine w_iconst 1234 dL_law_1233 rfl rfl ?_
  refine w_iadd (v := 5 * (n : Int) + 2) 1235 dL_law_1234 rfl (w32_id (by omega) (by omega)) ?_
  refine w_sld 1236 dL_law_1235 rfl (by omega) (by omega) (sx_e (n := n) (j := 2) (by omega)) ?_
  refine w_aload_n 1237 dL_law_1236 rfl rfl ?_
  refine w_iload_n 1238 dL_law_1237 rfl rfl ?_
  refine w_iconst 1239 dL_law_1238 rfl rfl ?_
  refine w_iadd (v := 5 * (n : Int) + 3) 1240 dL_law_1239 rfl (w32_id (by omega) (by omega)) ?_
  refine w_sld 1241 dL_law_1240 rfl (by omega) (by omega) (sx_e (n := n) (j := 3) (by omega)) ?_
  refine w_c3 1244 dL_law_1241 rfl kv_L_163 hN.2.2.1 hN.2.2.2 hd' c2 rfl (fun r' h2 q => ?_)
  obtain ⟨v', rfl, hc, hR⟩ := q
  refine w_pop 1245 dL_law_1244 rfl rfl ?_
  refine w_goto 1337 dL_law_1245 rfl ?_
  exact kE _ hR
set_option maxHeartbeats 2000000 in
theorem L_read (hN : 0 < gN G ∧ gs G 0 = 8 ∧ 45 < gN G ∧ gs G 45 = 9) (hn : 5 * n + 5 ≤ L) (hL : L ≤ 2560) (D : DuI l G mX3_read mX4_read [vI (sx xs n 1), vI (sx xs n 2), vI (sx xs n 3), vI (sx xs n 4)] h false R) (kE : ∀ h', R h' → Rw l G b L xs 1337 [some (vR 3000), some (vR 0), some (vR 45), some (vI (5 * (n : Int)))] [] h') : Rw l G b L xs 1248 [some (vR 3000), some (vR 0), some (vR 45), some (vI (5 * (n : Int)))] [] h := by
  obtain ⟨d, hd, c1⟩ := D
  refine w_aload_n 1249 dL_law_1248 rfl rfl ?_
  refine w_aload_n 1250 dL_law_1249 rfl rfl ?_
  refine w_iload_n 1251 dL_law_1250 rfl rfl ?_
  refine w_iconst 1252 dL_law_1251 rfl rfl ?_
  refine w_iadd (v := 5 * (n : Int) + 1) 1253 dL_law_1252 rfl (w32_id (by omega) (by omega)) ?_
  refine w_sld 1254 dL_law_1253 rfl (by omega) (by omega) (sx_e (n := n) (j := 1) (by omega)) ?_
  refine w_aload_n 1255 dL_law_1254 rfl rfl ?_
  refine w_iload_n 1256 dL_law_1255 rfl rfl ?_
  refine w_iconst 1257 dL_law_1256 rfl rfl ?_
  refine w_iadd (v := 5 * (n : Int) + 2) 1258 dL_law_1257 rfl (w32_id (by omega) (by omega)) ?_
  refine w_sld 1259 dL_law_1258 rfl (by omega) (by omega) (sx_e (n := n) (j := 2) (by omega)) ?_
  refine w_aload_n 1260 dL_law_1259 rfl rfl ?_
  refine w_iload_n 1261 dL_law_1260 rfl rfl ?_
  refine w_iconst 1262 dL_law_1261 rfl rfl ?_
  refine w_iadd (v := 5 * (n : Int) + 3) 1263 dL_law_1262 rfl (w32_id (by omega) (by omega)) ?_
  refine w_sld 1264 dL_law_1263 rfl (by omega) (by omega) (sx_e (n := n) (j := 3) (by omega)) ?_
  refine w_aload_n 1265 dL_law_1264 rfl rfl ?_
  refine w_iload_n 1266 dL_law_1265 rfl rfl ?_
  refine w_iconst 1267 dL_law_1266 rfl rfl ?_
  refine w_iadd (v := 5 * (n : Int) + 4) 1268 dL_law_1267 rfl (w32_id (by omega) (by omega)) ?_
  refine w_sld 1269 dL_law_1268 rfl (by omega) (by omega) (sx_e (n := n) (j := 4) (by omega)) ?_
  refine w_c4 1272 dL_law_1269 rfl kv_L_164 hN.1 hN.2.1 hd c1 rfl (fun r h1 q => ?_)
  obtain ⟨v, rfl, d', hd', c2⟩ := q
  refine w_pop 1273 dL_law_1272 rfl rfl ?_
  refine w_aload_n 1274 dL_law_1273 rfl rfl ?_
  refine w_aload_n 1275 dL_law_1274 rfl rfl ?_
  refine w_iload_n 1276 dL_law_1275 rfl rfl ?_
  refine w_iconst 1277 dL_law_1276 rfl rfl ?_
  refine w_iadd (v := 5 * (n : Int) + 1) 1278 dL_law_1277 rfl (w32_id (by omega) (by omega)) ?_
  refine w_sld 1279 dL_law_1278 rfl (by omega) (by omega) (sx_e (n := n) (j := 1) (by omega)) ?_
  refine w_aload_n 1280 dL_law_1279 rfl rfl ?_
  refine w_iload_n 1281 dL_law_1280 rfl rfl ?_
  refine w_iconst 1282 dL_law_1281 rfl rfl ?_
  refine w_iadd (v := 5 * (n : Int) + 2) 1283 dL_law_1282 rfl (w32_id (by omega) (by omega)) ?_
  refine w_sld 1284 dL_law_1283 rfl (by omega) (by omega) (sx_e (n := n) (j := 2) (by omega)) ?_
  refine w_aload_n 1285 dL_law_1284 rfl rfl ?_
  refine w_iload_n 1286 dL_law_1285 rfl rfl ?_
  refine w_iconst 1287 dL_law_1286 rfl rfl ?_
  refine w_iadd (v := 5 * (n : Int) + 3) 1288 dL_law_1287 rfl (w32_id (by omega) (by omega)) ?_
  refine w_sld 1289 dL_law_1288 rfl (by omega) (by omega) (sx_e (n := n) (j := 3) (by omega)) ?_
  refine w_aload_n 1290 dL_law_1289 rfl rfl ?_
  refine w_iload_n 1291 dL_law_1290 rfl rfl ?_
  refine w_iconst 1292 dL_law_1291 rfl rfl ?_
  refine w_iadd (v := 5 * (n : Int) + 4) 1293 dL_law_1292 rfl (w32_id (by omega) (by omega)) ?_
  refine w_sld 1294 dL_law_1293 rfl (by omega) (by omega) (sx_e (n := n) (j := 4) (by omega)) ?_
  refine w_c4 1297 dL_law_1294 rfl kv_L_168 hN.2.2.1 hN.2.2.2 hd' c2 rfl (fun r' h2 q => ?_)
  obtain ⟨v', rfl, hc, hR⟩ := q
  refine w_pop 1298 dL_law_1297 rfl rfl ?_
  refine w_goto 1337 dL_law_1298 rfl ?_
  exact kE _ hR
set_option maxHeartbeats 2000000 in
theorem L_torn (hN : 0 < gN G ∧ gs G 0 = 8 ∧ 45 < gN G ∧ gs G 45 = 9) (hn : 5 * n + 5 ≤ L) (hL : L ≤ 2560) (D : DuI l G mX3_torn mX4_torn [] h false R) (kE : ∀ h', R h' → Rw l G b L xs 1337 [some (vR 3000), some (vR 0), some (vR 45), some (vI (5 * (n : Int)))] [] h') : Rw l G b L xs 1301 [some (vR 3000), some (vR 0), some (vR 45), some (vI (5 * (n : Int)))] [] h := by
  obtain ⟨d, hd, c1⟩ := D
  refine w_aload_n 1302 dL_law_1301 rfl rfl ?_
  refine w_c0 1305 dL_law_1302 rfl kv_L_169 hN.1 hN.2.1 hd c1 rfl (fun r h1 q => ?_)
  obtain ⟨v, rfl, d', hd', c2⟩ := q
  refine w_pop 1306 dL_law_1305 rfl rfl ?_
  refine w_aload_n 1307 dL_law_1306 rfl rfl ?_
  refine w_c0 1310 dL_law_1307 rfl kv_L_172 hN.2.2.1 hN.2.2.2 hd' c2 rfl (fun r' h2 q => ?_)
  obtain ⟨v', rfl, hc, hR⟩ := q
  refine w_pop 1311 dL_law_1310 rfl rfl ?_
  refine w_goto 1337 dL_law_1311 rfl ?_
  exact kE _ hR
set_option maxHeartbeats 2000000 in
theorem L_count (hN : 0 < gN G ∧ gs G 0 = 8 ∧ 45 < gN G ∧ gs G 45 = 9) (hn : 5 * n + 5 ≤ L) (hL : L ≤ 2560) (D : DuI l G mX3_count mX4_count [vI (sx xs n 1)] h true R) (kE : ∀ h', R h' → Rw l G b L xs 1337 [some (vR 3000), some (vR 0), some (vR 45), some (vI (5 * (n : Int)))] [] h') : Rw l G b L xs 1314 [some (vR 3000), some (vR 0), some (vR 45), some (vI (5 * (n : Int)))] [] h := by
  obtain ⟨d, hd, c1⟩ := D
  refine w_aload_n 1315 dL_law_1314 rfl rfl ?_
  refine w_aload_n 1316 dL_law_1315 rfl rfl ?_
  refine w_iload_n 1317 dL_law_1316 rfl rfl ?_
  refine w_iconst 1318 dL_law_1317 rfl rfl ?_
  refine w_iadd (v := 5 * (n : Int) + 1) 1319 dL_law_1318 rfl (w32_id (by omega) (by omega)) ?_
  refine w_sld 1320 dL_law_1319 rfl (by omega) (by omega) (sx_e (n := n) (j := 1) (by omega)) ?_
  refine w_c1 1323 dL_law_1320 rfl kv_L_173 hN.1 hN.2.1 hd c1 rfl (fun r h1 q => ?_)
  obtain ⟨v, rfl, d', hd', c2⟩ := q
  refine w_aload_n 1324 dL_law_1323 rfl rfl ?_
  refine w_aload_n 1325 dL_law_1324 rfl rfl ?_
  refine w_iload_n 1326 dL_law_1325 rfl rfl ?_
  refine w_iconst 1327 dL_law_1326 rfl rfl ?_
  refine w_iadd (v := 5 * (n : Int) + 1) 1328 dL_law_1327 rfl (w32_id (by omega) (by omega)) ?_
  refine w_sld 1329 dL_law_1328 rfl (by omega) (by omega) (sx_e (n := n) (j := 1) (by omega)) ?_
  refine w_c1 1332 dL_law_1329 rfl kv_L_176 hN.2.2.1 hN.2.2.2 hd' c2 rfl (fun r' h2 q => ?_)
  obtain ⟨v', rfl, hc, hR⟩ := q
  refine w_icmp_eq 1337 1335 dL_law_1332 rfl rfl (fun _ => ?_) (fun z => absurd (hc rfl) z)
  exact kE _ hR
end LC
/-- class and reference at every call, from this world, to a world with R -/
def DU (l : Launch) (G : zG) (xs : Nat → Int32) (n : Nat) (h : zH) (R : zH → Prop) : Prop := (DuI l G mX3_feed mX4_feed [vI (sx xs n 1)] h false R) ∧ (DuI l G mX3_end mX4_end [vI (sx xs n 1)] h false R) ∧ (DuI l G mX3_text mX4_text [] h false R) ∧ (DuI l G mX3_fault mX4_fault [] h false R) ∧ (DuI l G mX3_rule mX4_rule [vI (sx xs n 1)] h false R) ∧ (DuI l G mX3_man mX4_man [vI (sx xs n 1), vI (sx xs n 2)] h false R) ∧ (DuI l G mX3_rota mX4_rota [vI (sx xs n 1)] h false R) ∧ (DuI l G mX3_deed mX4_deed [vI (sx xs n 1), vI (sx xs n 2)] h false R) ∧ (DuI l G mX3_alter mX4_alter [vI (sx xs n 1), vI (sx xs n 2), vI (sx xs n 3)] h false R) ∧ (DuI l G mX3_move mX4_move [vI (sx xs n 1), vI (sx xs n 2), vI (sx xs n 3)] h false R) ∧ (DuI l G mX3_shift mX4_shift [vI (sx xs n 1), vI (sx xs n 2)] h false R) ∧ (DuI l G mX3_cloud mX4_cloud [vI (sx xs n 1), vI (if sx xs n 2 = 0 then 0 else 1)] h false R) ∧ (DuI l G mX3_paint mX4_paint [vI (sx xs n 1)] h false R) ∧ (DuI l G mX3_want mX4_want [vI (sx xs n 1), vI (sx xs n 2)] h false R) ∧ (DuI l G mX3_drop mX4_drop [vI (sx xs n 1)] h false R) ∧ (DuI l G mX3_shows mX4_shows [vI (sx xs n 1)] h false R) ∧ (DuI l G mX3_lost mX4_lost [vI (sx xs n 1)] h false R) ∧ (DuI l G mX3_worst mX4_worst [vI (sx xs n 1)] h false R) ∧ (DuI l G mX3_done mX4_done [vI (sx xs n 1)] h false R) ∧ (DuI l G mX3_lean mX4_lean [vI (sx xs n 1), vI (sx xs n 2), vI (sx xs n 3)] h false R) ∧ (DuI l G mX3_mark mX4_mark [vI (sx xs n 1)] h false R) ∧ (DuI l G mX3_give mX4_give [vI (sx xs n 1)] h false R) ∧ (DuI l G mX3_swap mX4_swap [vI (sx xs n 1)] h false R) ∧ (DuI l G mX3_sole mX4_sole [vI (sx xs n 1)] h false R) ∧ (DuL l G mX3_mean mX4_mean [vI (sx xs n 1), vI (sx xs n 2)] h false R) ∧ (DuL l G mX3_luck mX4_luck [vI (sx xs n 1), vI (sx xs n 2), vI (sx xs n 3)] h false R) ∧ (DuI l G mX3_see mX4_see [vI (sx xs n 1), vI (sx xs n 2)] h false R) ∧ (DuI l G mX3_forget mX4_forget [vI (sx xs n 1)] h false R) ∧ (DuI l G mX3_leans mX4_leans [vI (sx xs n 1)] h false R) ∧ (DuI l G mX3_kinds mX4_kinds [vI (sx xs n 1)] h false R) ∧ (DuI l G mX3_ask mX4_ask [vI (sx xs n 1), vI (sx xs n 2)] h false R) ∧ (DuI l G mX3_drift mX4_drift [vI (sx xs n 1), vI (sx xs n 2), vI (sx xs n 3)] h false R) ∧ (DuI l G mX3_keep mX4_keep [vI (sx xs n 1)] h false R) ∧ (DuI l G mX3_back mX4_back [vI (sx xs n 1)] h false R) ∧ (DuI l G mX3_sheet mX4_sheet [vI (sx xs n 1), vI (sx xs n 2), vI (sx xs n 3)] h false R) ∧ (DuI l G mX3_lay mX4_lay [vI (sx xs n 1), vI (sx xs n 2), vI (sx xs n 3)] h false R) ∧ (DuI l G mX3_read mX4_read [vI (sx xs n 1), vI (sx xs n 2), vI (sx xs n 3), vI (sx xs n 4)] h false R) ∧ (DuI l G mX3_torn mX4_torn [] h false R) ∧ (DuI l G mX3_count mX4_count [vI (sx xs n 1)] h true R)
section LC
variable {l : Launch} {G : zG} {b L : Nat} {xs : Nat → Int32}
set_option maxHeartbeats 4000000 in
theorem law_loop {I : Nat → zH → Prop} (hN : 0 < gN G ∧ gs G 0 = 8 ∧ 45 < gN G ∧ gs G 45 = 9) (hL : L ≤ 2560) (hD : ∀ (n : Nat) (h : zH), 5 * n + 5 ≤ L → okH h → I n h → DU l G xs n h (I (n + 1))) (hO : ∀ (n : Nat) (h : zH), 5 * n + 5 ≤ L → I n h → I (n + 1) h) : ∀ (r n : Nat) (h : zH), L < 5 * n + 5 + r → 5 * n ≤ L + 4 → I n h → Rw l G b L xs 18 [some (vR 3000), some (vR 0), some (vR 45), some (vI (5 * (n : Int)))] [] h := by
  intro r
  induction r with
  | zero =>
    intro n h hr h1 hI
    refine w_iload_n 19 dL_law_18 rfl rfl ?_
    refine w_aload_n 20 dL_law_19 rfl rfl ?_
    refine w_slen 21 dL_law_20 rfl ?_
    refine w_iconst 22 dL_law_21 rfl rfl ?_
    refine w_isub (v := (L : Int) - 5) 23 dL_law_22 rfl (w32_id (by omega) (by omega)) ?_
    refine w_icmp_gt 1343 26 dL_law_23 rfl rfl (fun _ => ?_) (fun z => absurd z (by omega))
    refine w_iconst 1344 dL_law_1343 rfl rfl ?_
    exact w_ret dL_law_1344
  | succ r ih =>
    intro n h hr h1 hI
    refine w_iload_n 19 dL_law_18 rfl rfl ?_
    refine w_aload_n 20 dL_law_19 rfl rfl ?_
    refine w_slen 21 dL_law_20 rfl ?_
    refine w_iconst 22 dL_law_21 rfl rfl ?_
    refine w_isub (v := (L : Int) - 5) 23 dL_law_22 rfl (w32_id (by omega) (by omega)) ?_
    refine w_icmp_gt 1343 26 dL_law_23 rfl rfl (fun _ => ?_) (fun z => ?_)
    · refine w_iconst 1344 dL_law_1343 rfl rfl ?_
      exact w_ret dL_law_1344
    have hn : 5 * n + 5 ≤ L := by omega
    have kE : ∀ h', I (n + 1) h' → Rw l G b L xs 1337 [some (vR 3000), some (vR 0), some (vR 45), some (vI (5 * (n : Int)))] [] h' := by
      intro h' hI'
      refine w_iinc (x := 5 * (n : Int)) 1340 (5 * ((n + 1 : Nat) : Int)) dL_law_1337 rfl rfl rfl rfl (by rw [w32_id (by omega) (by omega)]; omega) ?_
      refine w_goto 18 dL_law_1340 rfl ?_
      exact ih (n + 1) h' (by omega) (by omega) hI'
    refine w_aload_n 27 dL_law_26 rfl rfl ?_
    refine w_iload_n 28 dL_law_27 rfl rfl ?_
    refine w_sld 29 dL_law_28 rfl (by omega) (by omega) (sx_e (n := n) (j := 0) (by omega)) ?_
    refine w_bipush 31 dL_law_29 rfl rfl rfl ?_
    refine w_iand 32 dL_law_31 rfl rfl ?_
    refine Rw.ok (fun hok => ?_)
    obtain ⟨D0, D1, D2, D3, D4, D5, D6, D7, D8, D9, D10, D11, D12, D13, D14, D15, D16, D17, D18, D19, D20, D21, D22, D23, D24, D25, D26, D27, D28, D29, D30, D31, D32, D33, D34, D35, D36, D37, D38⟩ := hD n h hn hok.2.2 hI
    generalize z_iand (sx xs n 0) 63 = x
    by_cases hx : x < 0 ∨ 38 < x
    · refine w_tabOut 1337 dL_law_32 hx rfl ?_
      exact kE h (hO n h hn hI)
    rcases (show x = 0 ∨ x = 1 ∨ x = 2 ∨ x = 3 ∨ x = 4 ∨ x = 5 ∨ x = 6 ∨ x = 7 ∨ x = 8 ∨ x = 9 ∨ x = 10 ∨ x = 11 ∨ x = 12 ∨ x = 13 ∨ x = 14 ∨ x = 15 ∨ x = 16 ∨ x = 17 ∨ x = 18 ∨ x = 19 ∨ x = 20 ∨ x = 21 ∨ x = 22 ∨ x = 23 ∨ x = 24 ∨ x = 25 ∨ x = 26 ∨ x = 27 ∨ x = 28 ∨ x = 29 ∨ x = 30 ∨ x = 31 ∨ x = 32 ∨ x = 33 ∨ x = 34 ∨ x = 35 ∨ x = 36 ∨ x = 37 ∨ x = 38 by omega) with rfl | rfl | rfl | rfl | rfl | rfl | rfl | rfl | rfl | rfl | rfl | rfl | rfl | rfl | rfl | rfl | rfl | rfl | rfl | rfl | rfl | rfl | rfl | rfl | rfl | rfl | rfl | rfl | rfl | rfl | rfl | rfl | rfl | rfl | rfl | rfl | rfl | rfl | rfl
    · exact w_tabIn 204 dL_law_32 (by omega) (by omega) rfl rfl (L_feed hN hn hL D0 kE)
    · exact w_tabIn 227 dL_law_32 (by omega) (by omega) rfl rfl (L_end hN hn hL D1 kE)
    · exact w_tabIn 250 dL_law_32 (by omega) (by omega) rfl rfl (L_text hN hn hL D2 kE)
    · exact w_tabIn 263 dL_law_32 (by omega) (by omega) rfl rfl (L_fault hN hn hL D3 kE)
    · exact w_tabIn 276 dL_law_32 (by omega) (by omega) rfl rfl (L_rule hN hn hL D4 kE)
    · exact w_tabIn 299 dL_law_32 (by omega) (by omega) rfl rfl (L_man hN hn hL D5 kE)
    · exact w_tabIn 332 dL_law_32 (by omega) (by omega) rfl rfl (L_rota hN hn hL D6 kE)
    · exact w_tabIn 355 dL_law_32 (by omega) (by omega) rfl rfl (L_deed hN hn hL D7 kE)
    · exact w_tabIn 388 dL_law_32 (by omega) (by omega) rfl rfl (L_alter hN hn hL D8 kE)
    · exact w_tabIn 431 dL_law_32 (by omega) (by omega) rfl rfl (L_move hN hn hL D9 kE)
    · exact w_tabIn 474 dL_law_32 (by omega) (by omega) rfl rfl (L_shift hN hn hL D10 kE)
    · exact w_tabIn 507 dL_law_32 (by omega) (by omega) rfl rfl (L_cloud hN hn hL D11 kE)
    · exact w_tabIn 556 dL_law_32 (by omega) (by omega) rfl rfl (L_paint hN hn hL D12 kE)
    · exact w_tabIn 579 dL_law_32 (by omega) (by omega) rfl rfl (L_want hN hn hL D13 kE)
    · exact w_tabIn 612 dL_law_32 (by omega) (by omega) rfl rfl (L_drop hN hn hL D14 kE)
    · exact w_tabIn 635 dL_law_32 (by omega) (by omega) rfl rfl (L_shows hN hn hL D15 kE)
    · exact w_tabIn 658 dL_law_32 (by omega) (by omega) rfl rfl (L_lost hN hn hL D16 kE)
    · exact w_tabIn 681 dL_law_32 (by omega) (by omega) rfl rfl (L_worst hN hn hL D17 kE)
    · exact w_tabIn 704 dL_law_32 (by omega) (by omega) rfl rfl (L_done hN hn hL D18 kE)
    · exact w_tabIn 727 dL_law_32 (by omega) (by omega) rfl rfl (L_lean hN hn hL D19 kE)
    · exact w_tabIn 770 dL_law_32 (by omega) (by omega) rfl rfl (L_mark hN hn hL D20 kE)
    · exact w_tabIn 793 dL_law_32 (by omega) (by omega) rfl rfl (L_give hN hn hL D21 kE)
    · exact w_tabIn 816 dL_law_32 (by omega) (by omega) rfl rfl (L_swap hN hn hL D22 kE)
    · exact w_tabIn 839 dL_law_32 (by omega) (by omega) rfl rfl (L_sole hN hn hL D23 kE)
    · exact w_tabIn 862 dL_law_32 (by omega) (by omega) rfl rfl (L_mean hN hn hL D24 kE)
    · exact w_tabIn 895 dL_law_32 (by omega) (by omega) rfl rfl (L_luck hN hn hL D25 kE)
    · exact w_tabIn 938 dL_law_32 (by omega) (by omega) rfl rfl (L_see hN hn hL D26 kE)
    · exact w_tabIn 971 dL_law_32 (by omega) (by omega) rfl rfl (L_forget hN hn hL D27 kE)
    · exact w_tabIn 994 dL_law_32 (by omega) (by omega) rfl rfl (L_leans hN hn hL D28 kE)
    · exact w_tabIn 1017 dL_law_32 (by omega) (by omega) rfl rfl (L_kinds hN hn hL D29 kE)
    · exact w_tabIn 1040 dL_law_32 (by omega) (by omega) rfl rfl (L_ask hN hn hL D30 kE)
    · exact w_tabIn 1073 dL_law_32 (by omega) (by omega) rfl rfl (L_drift hN hn hL D31 kE)
    · exact w_tabIn 1116 dL_law_32 (by omega) (by omega) rfl rfl (L_keep hN hn hL D32 kE)
    · exact w_tabIn 1139 dL_law_32 (by omega) (by omega) rfl rfl (L_back hN hn hL D33 kE)
    · exact w_tabIn 1162 dL_law_32 (by omega) (by omega) rfl rfl (L_sheet hN hn hL D34 kE)
    · exact w_tabIn 1205 dL_law_32 (by omega) (by omega) rfl rfl (L_lay hN hn hL D35 kE)
    · exact w_tabIn 1248 dL_law_32 (by omega) (by omega) rfl rfl (L_read hN hn hL D36 kE)
    · exact w_tabIn 1301 dL_law_32 (by omega) (by omega) rfl rfl (L_torn hN hn hL D37 kE)
    · exact w_tabIn 1314 dL_law_32 (by omega) (by omega) rfl rfl (L_count hN hn hL D38 kE)
end LC
