set_option maxRecDepth 100000 in
set_option maxHeartbeats 1000000 in
theorem law_stall {X : PX} {S : SW} {M : Mem} {b L : Nat} {sc : Nat → Int32} {i : Int} (C : Cx X S RL cL_law 11 448) (Q : Sc X b L sc) (hR : Rel M) (i0 : 0 ≤ i) (i1 : i + 10 ≤ (L : Int)) (K : ∀ M2 : Mem, Rel M2 → PW X S M2 1612 [some (.ref b), some (rv S 2 0 0), some (rv S 3 0 0), some (iv i)] []) : PW X S M 192 [some (.ref b), some (rv S 2 0 0), some (rv S 3 0 0), some (iv i)] [] := by
  have hL := Q.2.2.2
  refine pw_aload_n C dL_law_192 rfl ?_
  refine pw_aref C dL_law_193 rfl ?_
  refine pw_iload_n C dL_law_194 rfl ?_
  refine pw_iconst C dL_law_195 ?_
  refine pw_iadd C dL_law_196 ?_
  refine pw_sld C Q (by omega) (by omega) dL_law_197 ?_
  refine pw_aref C dL_law_198 rfl ?_
  refine pw_iload_n C dL_law_199 rfl ?_
  refine pw_iconst C dL_law_200 ?_
  refine pw_iadd C dL_law_201 ?_
  refine pw_sld C Q (by omega) (by omega) dL_law_202 ?_
  refine pw_aref C dL_law_203 rfl ?_
  refine pw_iload_n C dL_law_204 rfl ?_
  refine pw_iconst C dL_law_205 ?_
  refine pw_iadd C dL_law_206 ?_
  refine pw_sld C Q (by omega) (by omega) dL_law_207 ?_
  refine pw_aref C dL_law_208 rfl ?_
  refine pw_iload_n C dL_law_209 rfl ?_
  refine pw_iconst C dL_law_210 ?_
  refine pw_iadd C dL_law_211 ?_
  refine pw_sld C Q (by omega) (by omega) dL_law_212 ?_
  refine pw_cVP C [_, _, _, _] mi_X8_stall mv_X8_stall ml_L_13 oC_0 rfl (c_X8_stall (sv_R _ _) (sv_R _ _) (sv_R _ _) (sv_R _ _) hR.1 hR.2.1 hR.2.2.1) (by decide) rfl (Nat.le_of_ble_eq_true rfl) dL_law_213 ?_
  rintro v8 N ⟨x8, V8, rfl, hS8, hKP⟩
  refine pw_V 3 ?_
  rw [hKP.1]
  refine pw_aload_n C dL_law_216 rfl ?_
  refine pw_aref C dL_law_217 rfl ?_
  refine pw_iload_n C dL_law_218 rfl ?_
  refine pw_iconst C dL_law_219 ?_
  refine pw_iadd C dL_law_220 ?_
  refine pw_sld C Q (by omega) (by omega) dL_law_221 ?_
  refine pw_aref C dL_law_222 rfl ?_
  refine pw_iload_n C dL_law_223 rfl ?_
  refine pw_iconst C dL_law_224 ?_
  refine pw_iadd C dL_law_225 ?_
  refine pw_sld C Q (by omega) (by omega) dL_law_226 ?_
  refine pw_aref C dL_law_227 rfl ?_
  refine pw_iload_n C dL_law_228 rfl ?_
  refine pw_iconst C dL_law_229 ?_
  refine pw_iadd C dL_law_230 ?_
  refine pw_sld C Q (by omega) (by omega) dL_law_231 ?_
  refine pw_aref C dL_law_232 rfl ?_
  refine pw_iload_n C dL_law_233 rfl ?_
  refine pw_iconst C dL_law_234 ?_
  refine pw_iadd C dL_law_235 ?_
  refine pw_sld C Q (by omega) (by omega) dL_law_236 ?_
  refine pw_cVP C [_, _, _, _] mi_X9_stall mv_X9_stall ml_L_17 oM_0 rfl (c_X9_stall (sv_R _ _) (sv_R _ _) (sv_R _ _) (sv_R _ _) hR.i9 hR.s9) (by decide) rfl (Nat.le_of_ble_eq_true rfl) dL_law_237 ?_
  rintro v9 N2 ⟨x9, U, rfl, rfl, hS9, hs⟩
  obtain ⟨e9, o1, o2, o3, o4⟩ := stall_e hR.1 hR.2.1 hR.2.2.2.2.2 hR.2.2.2.1 hR.2.2.2.2.1 hS8 hS9
  subst e9
  refine pw_isame (tgt := 1612) C dL_law_240 rfl ?_
  exact K _ (Rel.go hKP o1 o2 o3 (sh_fl hR.2.2.1 _) o4 (P2.fl hR.2.2.2.2.1 (by rw [z_look hR.2.2.2.2.1])) (EQ.rf 0 0 _) hs)
set_option maxRecDepth 100000 in
set_option maxHeartbeats 1000000 in
theorem law_ofSort {X : PX} {S : SW} {M : Mem} {b L : Nat} {sc : Nat → Int32} {i : Int} (C : Cx X S RL cL_law 11 448) (Q : Sc X b L sc) (hR : Rel M) (i0 : 0 ≤ i) (i1 : i + 10 ≤ (L : Int)) (K : ∀ M2 : Mem, Rel M2 → PW X S M2 1612 [some (.ref b), some (rv S 2 0 0), some (rv S 3 0 0), some (iv i)] []) : PW X S M 245 [some (.ref b), some (rv S 2 0 0), some (rv S 3 0 0), some (iv i)] [] := by
  have hL := Q.2.2.2
  refine pw_aload_n C dL_law_245 rfl ?_
  refine pw_aref C dL_law_246 rfl ?_
  refine pw_iload_n C dL_law_247 rfl ?_
  refine pw_iconst C dL_law_248 ?_
  refine pw_iadd C dL_law_249 ?_
  refine pw_sld C Q (by omega) (by omega) dL_law_250 ?_
  refine pw_aref C dL_law_251 rfl ?_
  refine pw_iload_n C dL_law_252 rfl ?_
  refine pw_iconst C dL_law_253 ?_
  refine pw_iadd C dL_law_254 ?_
  refine pw_sld C Q (by omega) (by omega) dL_law_255 ?_
  refine pw_cVP C [_, _] mi_X8_ofSort mv_X8_ofSort ml_L_18 oC_0 rfl (c_X8_ofSort (sv_R _ _) (sv_R _ _) hR.1 hR.2.1 hR.2.2.1) (by decide) rfl (Nat.le_of_ble_eq_true rfl) dL_law_256 ?_
  rintro v8 N ⟨rfl, hKP⟩
  refine pw_V 3 ?_
  rw [hKP.1]
  refine pw_aload_n C dL_law_259 rfl ?_
  refine pw_aref C dL_law_260 rfl ?_
  refine pw_iload_n C dL_law_261 rfl ?_
  refine pw_iconst C dL_law_262 ?_
  refine pw_iadd C dL_law_263 ?_
  refine pw_sld C Q (by omega) (by omega) dL_law_264 ?_
  refine pw_aref C dL_law_265 rfl ?_
  refine pw_iload_n C dL_law_266 rfl ?_
  refine pw_iconst C dL_law_267 ?_
  refine pw_iadd C dL_law_268 ?_
  refine pw_sld C Q (by omega) (by omega) dL_law_269 ?_
  refine pw_cVP C [_, _] mi_X9_ofSort mv_X9_ofSort ml_L_22 oM_0 rfl (c_X9_ofSort (sv_R _ _) (sv_R _ _) hR.i9) (by decide) rfl (Nat.le_of_ble_eq_true rfl) dL_law_270 ?_
  rintro v9 N2 ⟨rfl, U, rfl, hU, hP⟩
  rw [e_ofSort hR.2.2.2.1]
  refine pw_isame (tgt := 1612) C dL_law_273 rfl ?_
  exact K _ (hR.same hKP (by rw [hU]; exact EQ.rf 0 0 _) (P3.msE hP))
set_option maxRecDepth 100000 in
set_option maxHeartbeats 1000000 in
theorem law_fresh {X : PX} {S : SW} {M : Mem} {b L : Nat} {sc : Nat → Int32} {i : Int} (C : Cx X S RL cL_law 11 448) (Q : Sc X b L sc) (hR : Rel M) (i0 : 0 ≤ i) (i1 : i + 10 ≤ (L : Int)) (K : ∀ M2 : Mem, Rel M2 → PW X S M2 1612 [some (.ref b), some (rv S 2 0 0), some (rv S 3 0 0), some (iv i)] []) : PW X S M 278 [some (.ref b), some (rv S 2 0 0), some (rv S 3 0 0), some (iv i)] [] := by
  have hL := Q.2.2.2
  refine pw_aload_n C dL_law_278 rfl ?_
  refine pw_aref C dL_law_279 rfl ?_
  refine pw_iload_n C dL_law_280 rfl ?_
  refine pw_iconst C dL_law_281 ?_
  refine pw_iadd C dL_law_282 ?_
  refine pw_sld C Q (by omega) (by omega) dL_law_283 ?_
  refine pw_aref C dL_law_284 rfl ?_
  refine pw_iload_n C dL_law_285 rfl ?_
  refine pw_iconst C dL_law_286 ?_
  refine pw_iadd C dL_law_287 ?_
  refine pw_sld C Q (by omega) (by omega) dL_law_288 ?_
  refine pw_cVP C [_, _] mi_X8_fresh mv_X8_fresh ml_L_23 oC_0 rfl (c_X8_fresh (sv_R _ _) (sv_R _ _) hR.1 hR.2.1 hR.2.2.1) (by decide) rfl (Nat.le_of_ble_eq_true rfl) dL_law_289 ?_
  rintro v8 N ⟨rfl, hKP⟩
  refine pw_V 3 ?_
  rw [hKP.1]
  refine pw_aload_n C dL_law_292 rfl ?_
  refine pw_aref C dL_law_293 rfl ?_
  refine pw_iload_n C dL_law_294 rfl ?_
  refine pw_iconst C dL_law_295 ?_
  refine pw_iadd C dL_law_296 ?_
  refine pw_sld C Q (by omega) (by omega) dL_law_297 ?_
  refine pw_aref C dL_law_298 rfl ?_
  refine pw_iload_n C dL_law_299 rfl ?_
  refine pw_iconst C dL_law_300 ?_
  refine pw_iadd C dL_law_301 ?_
  refine pw_sld C Q (by omega) (by omega) dL_law_302 ?_
  refine pw_cVP C [_, _] mi_X9_fresh mv_X9_fresh ml_L_26 oM_0 rfl (c_X9_fresh (sv_R _ _) (sv_R _ _) hR.i9) (by decide) rfl (Nat.le_of_ble_eq_true rfl) dL_law_303 ?_
  rintro v9 N2 ⟨rfl, U, rfl, hU, hP⟩
  rw [e_fresh hR.2.2.2.1]
  refine pw_isame (tgt := 1612) C dL_law_306 rfl ?_
  exact K _ (hR.same hKP (by rw [hU]; exact EQ.rf 0 0 _) (P3.msE hP))
set_option maxRecDepth 100000 in
set_option maxHeartbeats 1000000 in
theorem law_fish {X : PX} {S : SW} {M : Mem} {b L : Nat} {sc : Nat → Int32} {i : Int} (C : Cx X S RL cL_law 11 448) (Q : Sc X b L sc) (hR : Rel M) (i0 : 0 ≤ i) (i1 : i + 10 ≤ (L : Int)) (K : ∀ M2 : Mem, Rel M2 → PW X S M2 1612 [some (.ref b), some (rv S 2 0 0), some (rv S 3 0 0), some (iv i)] []) : PW X S M 311 [some (.ref b), some (rv S 2 0 0), some (rv S 3 0 0), some (iv i)] [] := by
  have hL := Q.2.2.2
  refine pw_aload_n C dL_law_311 rfl ?_
  refine pw_aref C dL_law_312 rfl ?_
  refine pw_iload_n C dL_law_313 rfl ?_
  refine pw_iconst C dL_law_314 ?_
  refine pw_iadd C dL_law_315 ?_
  refine pw_sld C Q (by omega) (by omega) dL_law_316 ?_
  refine pw_aref C dL_law_317 rfl ?_
  refine pw_iload_n C dL_law_318 rfl ?_
  refine pw_iconst C dL_law_319 ?_
  refine pw_iadd C dL_law_320 ?_
  refine pw_sld C Q (by omega) (by omega) dL_law_321 ?_
  refine pw_cVP C [_, _] mi_X8_fish mv_X8_fish ml_L_27 oC_0 rfl (c_X8_fish (sv_R _ _) (sv_R _ _) hR.1 hR.2.1 hR.2.2.1) (by decide) rfl (Nat.le_of_ble_eq_true rfl) dL_law_322 ?_
  rintro v8 N ⟨rfl, hKP⟩
  refine pw_V 3 ?_
  rw [hKP.1]
  refine pw_aload_n C dL_law_325 rfl ?_
  refine pw_aref C dL_law_326 rfl ?_
  refine pw_iload_n C dL_law_327 rfl ?_
  refine pw_iconst C dL_law_328 ?_
  refine pw_iadd C dL_law_329 ?_
  refine pw_sld C Q (by omega) (by omega) dL_law_330 ?_
  refine pw_aref C dL_law_331 rfl ?_
  refine pw_iload_n C dL_law_332 rfl ?_
  refine pw_iconst C dL_law_333 ?_
  refine pw_iadd C dL_law_334 ?_
  refine pw_sld C Q (by omega) (by omega) dL_law_335 ?_
  refine pw_cVP C [_, _] mi_X9_fish mv_X9_fish ml_L_30 oM_0 rfl (c_X9_fish (sv_R _ _) (sv_R _ _) hR.i9) (by decide) rfl (Nat.le_of_ble_eq_true rfl) dL_law_336 ?_
  rintro v9 N2 ⟨rfl, U, rfl, hU, hP⟩
  rw [e_fish hR.2.2.2.1]
  refine pw_isame (tgt := 1612) C dL_law_339 rfl ?_
  exact K _ (hR.day hKP (ok_fish hR.1 _ _) (at_vif rfl rfl) (at_vif rfl rfl) (at_vif rfl rfl) (v_fish hR.2.2.2.1 _ _) (by rw [hU]; exact EQ.rf 0 0 _) (P3.msE hP))
set_option maxRecDepth 100000 in
set_option maxHeartbeats 1000000 in
theorem law_slate {X : PX} {S : SW} {M : Mem} {b L : Nat} {sc : Nat → Int32} {i : Int} (C : Cx X S RL cL_law 11 448) (Q : Sc X b L sc) (hR : Rel M) (i0 : 0 ≤ i) (i1 : i + 10 ≤ (L : Int)) (K : ∀ M2 : Mem, Rel M2 → PW X S M2 1612 [some (.ref b), some (rv S 2 0 0), some (rv S 3 0 0), some (iv i)] []) : PW X S M 344 [some (.ref b), some (rv S 2 0 0), some (rv S 3 0 0), some (iv i)] [] := by
  have hL := Q.2.2.2
  refine pw_aload_n C dL_law_344 rfl ?_
  refine pw_aref C dL_law_345 rfl ?_
  refine pw_iload_n C dL_law_346 rfl ?_
  refine pw_iconst C dL_law_347 ?_
  refine pw_iadd C dL_law_348 ?_
  refine pw_sld C Q (by omega) (by omega) dL_law_349 ?_
  refine pw_aref C dL_law_350 rfl ?_
  refine pw_iload_n C dL_law_351 rfl ?_
  refine pw_iconst C dL_law_352 ?_
  refine pw_iadd C dL_law_353 ?_
  refine pw_sld C Q (by omega) (by omega) dL_law_354 ?_
  refine pw_cVP C [_, _] mi_X8_slate mv_X8_slate ml_L_31 oC_0 rfl (c_X8_slate (sv_R _ _) (sv_R _ _) hR.1 hR.2.1 hR.2.2.1) (by decide) rfl (Nat.le_of_ble_eq_true rfl) dL_law_355 ?_
  rintro v8 N ⟨rfl, hKP⟩
  refine pw_V 3 ?_
  rw [hKP.1]
  refine pw_aload_n C dL_law_358 rfl ?_
  refine pw_aref C dL_law_359 rfl ?_
  refine pw_iload_n C dL_law_360 rfl ?_
  refine pw_iconst C dL_law_361 ?_
  refine pw_iadd C dL_law_362 ?_
  refine pw_sld C Q (by omega) (by omega) dL_law_363 ?_
  refine pw_aref C dL_law_364 rfl ?_
  refine pw_iload_n C dL_law_365 rfl ?_
  refine pw_iconst C dL_law_366 ?_
  refine pw_iadd C dL_law_367 ?_
  refine pw_sld C Q (by omega) (by omega) dL_law_368 ?_
  refine pw_cVP C [_, _] mi_X9_slate mv_X9_slate ml_L_34 oM_0 rfl (c_X9_slate (sv_R _ _) (sv_R _ _) hR.i9) (by decide) rfl (Nat.le_of_ble_eq_true rfl) dL_law_369 ?_
  rintro v9 N2 ⟨rfl, U, rfl, hU, hP⟩
  rw [e_slate hR.2.2.2.1]
  refine pw_isame (tgt := 1612) C dL_law_372 rfl ?_
  exact K _ (hR.same hKP (by rw [hU]; exact EQ.rf 0 0 _) (P3.msE hP))
set_option maxRecDepth 100000 in
set_option maxHeartbeats 1000000 in
theorem law_write {X : PX} {S : SW} {M : Mem} {b L : Nat} {sc : Nat → Int32} {i : Int} (C : Cx X S RL cL_law 11 448) (Q : Sc X b L sc) (hR : Rel M) (i0 : 0 ≤ i) (i1 : i + 10 ≤ (L : Int)) (K : ∀ M2 : Mem, Rel M2 → PW X S M2 1612 [some (.ref b), some (rv S 2 0 0), some (rv S 3 0 0), some (iv i)] []) : PW X S M 377 [some (.ref b), some (rv S 2 0 0), some (rv S 3 0 0), some (iv i)] [] := by
  have hL := Q.2.2.2
  refine pw_aload_n C dL_law_377 rfl ?_
  refine pw_aref C dL_law_378 rfl ?_
  refine pw_iload_n C dL_law_379 rfl ?_
  refine pw_iconst C dL_law_380 ?_
  refine pw_iadd C dL_law_381 ?_
  refine pw_sld C Q (by omega) (by omega) dL_law_382 ?_
  refine pw_aref C dL_law_383 rfl ?_
  refine pw_iload_n C dL_law_384 rfl ?_
  refine pw_iconst C dL_law_385 ?_
  refine pw_iadd C dL_law_386 ?_
  refine pw_sld C Q (by omega) (by omega) dL_law_387 ?_
  refine pw_aref C dL_law_388 rfl ?_
  refine pw_iload_n C dL_law_389 rfl ?_
  refine pw_iconst C dL_law_390 ?_
  refine pw_iadd C dL_law_391 ?_
  refine pw_sld C Q (by omega) (by omega) dL_law_392 ?_
  refine pw_cVP C [_, _, _] mi_X8_write mv_X8_write ml_L_35 oC_0 rfl (c_X8_write (sv_R _ _) (sv_R _ _) (sv_R _ _) hR.1 hR.2.1 hR.2.2.1) (by decide) rfl (Nat.le_of_ble_eq_true rfl) dL_law_393 ?_
  rintro v8 N ⟨rfl, hKP⟩
  refine pw_V 3 ?_
  rw [hKP.1]
  refine pw_aload_n C dL_law_396 rfl ?_
  refine pw_aref C dL_law_397 rfl ?_
  refine pw_iload_n C dL_law_398 rfl ?_
  refine pw_iconst C dL_law_399 ?_
  refine pw_iadd C dL_law_400 ?_
  refine pw_sld C Q (by omega) (by omega) dL_law_401 ?_
  refine pw_aref C dL_law_402 rfl ?_
  refine pw_iload_n C dL_law_403 rfl ?_
  refine pw_iconst C dL_law_404 ?_
  refine pw_iadd C dL_law_405 ?_
  refine pw_sld C Q (by omega) (by omega) dL_law_406 ?_
  refine pw_aref C dL_law_407 rfl ?_
  refine pw_iload_n C dL_law_408 rfl ?_
  refine pw_iconst C dL_law_409 ?_
  refine pw_iadd C dL_law_410 ?_
  refine pw_sld C Q (by omega) (by omega) dL_law_411 ?_
  refine pw_cVP C [_, _, _] mi_X9_write mv_X9_write ml_L_39 oM_0 rfl (c_X9_write (sv_R _ _) (sv_R _ _) (sv_R _ _) hR.i9) (by decide) rfl (Nat.le_of_ble_eq_true rfl) dL_law_412 ?_
  rintro v9 N2 ⟨rfl, U, rfl, hU, hP⟩
  rw [e_write hR.2.2.2.1]
  refine pw_isame (tgt := 1612) C dL_law_415 rfl ?_
  exact K _ (hR.day hKP (ok_write hR.1 _ _ _) (at_vif rfl rfl) (at_vif rfl rfl) (at_vif rfl rfl) (v_write hR.2.2.2.1 _ _ _) (by rw [hU]; exact EQ.rf 0 0 _) (P3.msE hP))
set_option maxRecDepth 100000 in
set_option maxHeartbeats 1000000 in
theorem law_copyOut {X : PX} {S : SW} {M : Mem} {b L : Nat} {sc : Nat → Int32} {i : Int} (C : Cx X S RL cL_law 11 448) (Q : Sc X b L sc) (hR : Rel M) (i0 : 0 ≤ i) (i1 : i + 10 ≤ (L : Int)) (K : ∀ M2 : Mem, Rel M2 → PW X S M2 1612 [some (.ref b), some (rv S 2 0 0), some (rv S 3 0 0), some (iv i)] []) : PW X S M 420 [some (.ref b), some (rv S 2 0 0), some (rv S 3 0 0), some (iv i)] [] := by
  have hL := Q.2.2.2
  refine pw_aload_n C dL_law_420 rfl ?_
  refine pw_aref C dL_law_421 rfl ?_
  refine pw_iload_n C dL_law_422 rfl ?_
  refine pw_iconst C dL_law_423 ?_
  refine pw_iadd C dL_law_424 ?_
  refine pw_sld C Q (by omega) (by omega) dL_law_425 ?_
  refine pw_aref C dL_law_426 rfl ?_
  refine pw_iload_n C dL_law_427 rfl ?_
  refine pw_iconst C dL_law_428 ?_
  refine pw_iadd C dL_law_429 ?_
  refine pw_sld C Q (by omega) (by omega) dL_law_430 ?_
  refine pw_aref C dL_law_431 rfl ?_
  refine pw_iload_n C dL_law_432 rfl ?_
  refine pw_iconst C dL_law_433 ?_
  refine pw_iadd C dL_law_434 ?_
  refine pw_sld C Q (by omega) (by omega) dL_law_435 ?_
  refine pw_aref C dL_law_436 rfl ?_
  refine pw_iload_n C dL_law_437 rfl ?_
  refine pw_iconst C dL_law_438 ?_
  refine pw_iadd C dL_law_439 ?_
  refine pw_sld C Q (by omega) (by omega) dL_law_440 ?_
  refine pw_aref C dL_law_441 rfl ?_
  refine pw_iload_n C dL_law_442 rfl ?_
  refine pw_iconst C dL_law_443 ?_
  refine pw_iadd C dL_law_444 ?_
  refine pw_sld C Q (by omega) (by omega) dL_law_445 ?_
  refine pw_cVP C [_, _, _, _, _] mi_X8_copyOut mv_X8_copyOut ml_L_40 oC_0 rfl (c_X8_copyOut (sv_R _ _) (sv_R _ _) (sv_R _ _) (sv_R _ _) (sv_R _ _) hR.1 hR.2.1 hR.2.2.1) (by decide) rfl (Nat.le_of_ble_eq_true rfl) dL_law_446 ?_
  rintro v8 N ⟨rfl, hKP⟩
  refine pw_V 3 ?_
  rw [hKP.1]
  refine pw_aload_n C dL_law_449 rfl ?_
  refine pw_aref C dL_law_450 rfl ?_
  refine pw_iload_n C dL_law_451 rfl ?_
  refine pw_iconst C dL_law_452 ?_
  refine pw_iadd C dL_law_453 ?_
  refine pw_sld C Q (by omega) (by omega) dL_law_454 ?_
  refine pw_aref C dL_law_455 rfl ?_
  refine pw_iload_n C dL_law_456 rfl ?_
  refine pw_iconst C dL_law_457 ?_
  refine pw_iadd C dL_law_458 ?_
  refine pw_sld C Q (by omega) (by omega) dL_law_459 ?_
  refine pw_aref C dL_law_460 rfl ?_
  refine pw_iload_n C dL_law_461 rfl ?_
  refine pw_iconst C dL_law_462 ?_
  refine pw_iadd C dL_law_463 ?_
  refine pw_sld C Q (by omega) (by omega) dL_law_464 ?_
  refine pw_aref C dL_law_465 rfl ?_
  refine pw_iload_n C dL_law_466 rfl ?_
  refine pw_iconst C dL_law_467 ?_
  refine pw_iadd C dL_law_468 ?_
  refine pw_sld C Q (by omega) (by omega) dL_law_469 ?_
  refine pw_aref C dL_law_470 rfl ?_
  refine pw_iload_n C dL_law_471 rfl ?_
  refine pw_iconst C dL_law_472 ?_
  refine pw_iadd C dL_law_473 ?_
  refine pw_sld C Q (by omega) (by omega) dL_law_474 ?_
  refine pw_cVP C [_, _, _, _, _] mi_X9_copyOut mv_X9_copyOut ml_L_44 oM_0 rfl (c_X9_copyOut (sv_R _ _) (sv_R _ _) (sv_R _ _) (sv_R _ _) (sv_R _ _) hR.i9 hR.s9) (by decide) rfl (Nat.le_of_ble_eq_true rfl) dL_law_475 ?_
  rintro v9 N2 ⟨rfl, U, rfl, hU, hs⟩
  have ca := co_all hR.2.2.2.1 hR.1 hR.2.2.2.2.1 (sv sc (i + 1)) (sv sc (i + 2)) (sv sc (i + 3)) (sv sc (i + 4)) (sv sc (i + 5))
  rw [ca.1]
  refine pw_isame (tgt := 1612) C dL_law_478 rfl ?_
  exact K _ (Rel.go hKP (ok_co hR.1 _ _ _ _ _ _) (at_vif (by exact hR.2.1) hR.2.1) (fun h => (at_vif (by rfl) rfl : vCo _ _ _ _ _ _ _ 1 0 5 = M 0 1 0 5).trans (hR.2.2.2.2.2 (((at_vif (by rfl) rfl : vCo _ _ _ _ _ _ _ 1 0 6 = M 0 1 0 6)).symm.trans h))) (sh_fl hR.2.2.1 _) ca.2.2 (P2.fl hR.2.2.2.2.1 ca.2.1.symm) hU hs)
set_option maxRecDepth 100000 in
set_option maxHeartbeats 1000000 in
theorem law_soup {X : PX} {S : SW} {M : Mem} {b L : Nat} {sc : Nat → Int32} {i : Int} (C : Cx X S RL cL_law 11 448) (Q : Sc X b L sc) (hR : Rel M) (i0 : 0 ≤ i) (i1 : i + 10 ≤ (L : Int)) (K : ∀ M2 : Mem, Rel M2 → PW X S M2 1612 [some (.ref b), some (rv S 2 0 0), some (rv S 3 0 0), some (iv i)] []) : PW X S M 483 [some (.ref b), some (rv S 2 0 0), some (rv S 3 0 0), some (iv i)] [] := by
  have hL := Q.2.2.2
  refine pw_aload_n C dL_law_483 rfl ?_
  refine pw_aref C dL_law_484 rfl ?_
  refine pw_iload_n C dL_law_485 rfl ?_
  refine pw_iconst C dL_law_486 ?_
  refine pw_iadd C dL_law_487 ?_
  refine pw_sld C Q (by omega) (by omega) dL_law_488 ?_
  refine pw_cVP C [_] mi_X8_soup mv_X8_soup ml_L_45 oC_0 rfl (c_X8_soup (sv_R _ _) hR.1 hR.2.1 hR.2.2.1) (by decide) rfl (Nat.le_of_ble_eq_true rfl) dL_law_489 ?_
  rintro v8 N ⟨rfl, hKP⟩
  refine pw_V 3 ?_
  rw [hKP.1]
  refine pw_aload_n C dL_law_492 rfl ?_
  refine pw_aref C dL_law_493 rfl ?_
  refine pw_iload_n C dL_law_494 rfl ?_
  refine pw_iconst C dL_law_495 ?_
  refine pw_iadd C dL_law_496 ?_
  refine pw_sld C Q (by omega) (by omega) dL_law_497 ?_
  refine pw_cVP C [_] mi_X9_soup mv_X9_soup ml_L_49 oM_0 rfl (c_X9_soup (sv_R _ _) hR.i9) (by decide) rfl (Nat.le_of_ble_eq_true rfl) dL_law_498 ?_
  rintro v9 N2 ⟨rfl, U, rfl, hU, hP⟩
  rw [e_soup hR.2.2.2.1]
  refine pw_isame (tgt := 1612) C dL_law_501 rfl ?_
  exact K _ (hR.day hKP (ok_soup hR.1 _) (at_vif rfl rfl) (at_vif rfl rfl) (at_vif rfl rfl) (v_soup hR.2.2.2.1 _) (by rw [hU]; exact EQ.rf 0 0 _) (P3.msE hP))
set_option maxRecDepth 100000 in
set_option maxHeartbeats 1000000 in
theorem law_buyer {X : PX} {S : SW} {M : Mem} {b L : Nat} {sc : Nat → Int32} {i : Int} (C : Cx X S RL cL_law 11 448) (Q : Sc X b L sc) (hR : Rel M) (i0 : 0 ≤ i) (i1 : i + 10 ≤ (L : Int)) (K : ∀ M2 : Mem, Rel M2 → PW X S M2 1612 [some (.ref b), some (rv S 2 0 0), some (rv S 3 0 0), some (iv i)] []) : PW X S M 545 [some (.ref b), some (rv S 2 0 0), some (rv S 3 0 0), some (iv i)] [] := by
  have hL := Q.2.2.2
  refine pw_aload_n C dL_law_545 rfl ?_
  refine pw_aref C dL_law_546 rfl ?_
  refine pw_iload_n C dL_law_547 rfl ?_
  refine pw_iconst C dL_law_548 ?_
  refine pw_iadd C dL_law_549 ?_
  refine pw_sld C Q (by omega) (by omega) dL_law_550 ?_
  refine pw_aref C dL_law_551 rfl ?_
  refine pw_iload_n C dL_law_552 rfl ?_
  refine pw_iconst C dL_law_553 ?_
  refine pw_iadd C dL_law_554 ?_
  refine pw_sld C Q (by omega) (by omega) dL_law_555 ?_
  refine pw_aref C dL_law_556 rfl ?_
  refine pw_iload_n C dL_law_557 rfl ?_
  refine pw_iconst C dL_law_558 ?_
  refine pw_iadd C dL_law_559 ?_
  refine pw_sld C Q (by omega) (by omega) dL_law_560 ?_
  refine pw_aref C dL_law_561 rfl ?_
  refine pw_iload_n C dL_law_562 rfl ?_
  refine pw_iconst C dL_law_563 ?_
  refine pw_iadd C dL_law_564 ?_
  refine pw_sld C Q (by omega) (by omega) dL_law_565 ?_
  refine pw_cVP C [_, _, _, _] mi_X8_buyer mv_X8_buyer ml_L_55 oC_0 rfl (c_X8_buyer (sv_R _ _) (sv_R _ _) (sv_R _ _) (sv_R _ _) hR.1 hR.2.1 hR.2.2.1) (by decide) rfl (Nat.le_of_ble_eq_true rfl) dL_law_566 ?_
  rintro v8 N ⟨rfl, hKP⟩
  refine pw_V 3 ?_
  rw [hKP.1]
  refine pw_aload_n C dL_law_569 rfl ?_
  refine pw_aref C dL_law_570 rfl ?_
  refine pw_iload_n C dL_law_571 rfl ?_
  refine pw_iconst C dL_law_572 ?_
  refine pw_iadd C dL_law_573 ?_
  refine pw_sld C Q (by omega) (by omega) dL_law_574 ?_
  refine pw_aref C dL_law_575 rfl ?_
  refine pw_iload_n C dL_law_576 rfl ?_
  refine pw_iconst C dL_law_577 ?_
  refine pw_iadd C dL_law_578 ?_
  refine pw_sld C Q (by omega) (by omega) dL_law_579 ?_
  refine pw_aref C dL_law_580 rfl ?_
  refine pw_iload_n C dL_law_581 rfl ?_
  refine pw_iconst C dL_law_582 ?_
  refine pw_iadd C dL_law_583 ?_
  refine pw_sld C Q (by omega) (by omega) dL_law_584 ?_
  refine pw_aref C dL_law_585 rfl ?_
  refine pw_iload_n C dL_law_586 rfl ?_
  refine pw_iconst C dL_law_587 ?_
  refine pw_iadd C dL_law_588 ?_
  refine pw_sld C Q (by omega) (by omega) dL_law_589 ?_
  refine pw_cVP C [_, _, _, _] mi_X9_buyer mv_X9_buyer ml_L_58 oM_0 rfl (c_X9_buyer (sv_R _ _) (sv_R _ _) (sv_R _ _) (sv_R _ _) hR.i9) (by decide) rfl (Nat.le_of_ble_eq_true rfl) dL_law_590 ?_
  rintro v9 N2 ⟨rfl, U, rfl, hU, hP⟩
  rw [e_buyer hR.2.2.2.1]
  refine pw_isame (tgt := 1612) C dL_law_593 rfl ?_
  exact K _ (hR.day hKP (ok_buyer hR.1 _ _ _ _) (at_vif rfl rfl) (at_vif rfl rfl) (at_vif rfl rfl) (v_buyer hR.2.2.2.1 _ _ _ _) (by rw [hU]; exact EQ.rf 0 0 _) (P3.msE hP))
set_option maxRecDepth 100000 in
set_option maxHeartbeats 1000000 in
theorem law_ofBuyer {X : PX} {S : SW} {M : Mem} {b L : Nat} {sc : Nat → Int32} {i : Int} (C : Cx X S RL cL_law 11 448) (Q : Sc X b L sc) (hR : Rel M) (i0 : 0 ≤ i) (i1 : i + 10 ≤ (L : Int)) (K : ∀ M2 : Mem, Rel M2 → PW X S M2 1612 [some (.ref b), some (rv S 2 0 0), some (rv S 3 0 0), some (iv i)] []) : PW X S M 598 [some (.ref b), some (rv S 2 0 0), some (rv S 3 0 0), some (iv i)] [] := by
  have hL := Q.2.2.2
  refine pw_aload_n C dL_law_598 rfl ?_
  refine pw_aref C dL_law_599 rfl ?_
  refine pw_iload_n C dL_law_600 rfl ?_
  refine pw_iconst C dL_law_601 ?_
  refine pw_iadd C dL_law_602 ?_
  refine pw_sld C Q (by omega) (by omega) dL_law_603 ?_
  refine pw_aref C dL_law_604 rfl ?_
  refine pw_iload_n C dL_law_605 rfl ?_
  refine pw_iconst C dL_law_606 ?_
  refine pw_iadd C dL_law_607 ?_
  refine pw_sld C Q (by omega) (by omega) dL_law_608 ?_
  refine pw_cVP C [_, _] mi_X8_ofBuyer mv_X8_ofBuyer ml_L_59 oC_0 rfl (c_X8_ofBuyer (sv_R _ _) (sv_R _ _) hR.1 hR.2.1 hR.2.2.1) (by decide) rfl (Nat.le_of_ble_eq_true rfl) dL_law_609 ?_
  rintro v8 N ⟨rfl, hKP⟩
  refine pw_V 3 ?_
  rw [hKP.1]
  refine pw_aload_n C dL_law_612 rfl ?_
  refine pw_aref C dL_law_613 rfl ?_
  refine pw_iload_n C dL_law_614 rfl ?_
  refine pw_iconst C dL_law_615 ?_
  refine pw_iadd C dL_law_616 ?_
  refine pw_sld C Q (by omega) (by omega) dL_law_617 ?_
  refine pw_aref C dL_law_618 rfl ?_
  refine pw_iload_n C dL_law_619 rfl ?_
  refine pw_iconst C dL_law_620 ?_
  refine pw_iadd C dL_law_621 ?_
  refine pw_sld C Q (by omega) (by omega) dL_law_622 ?_
  refine pw_cVP C [_, _] mi_X9_ofBuyer mv_X9_ofBuyer ml_L_62 oM_0 rfl (c_X9_ofBuyer (sv_R _ _) (sv_R _ _) hR.i9) (by decide) rfl (Nat.le_of_ble_eq_true rfl) dL_law_623 ?_
  rintro v9 N2 ⟨rfl, U, rfl, hU, hP⟩
  rw [e_ofBuyer hR.2.2.2.1]
  refine pw_isame (tgt := 1612) C dL_law_626 rfl ?_
  exact K _ (hR.same hKP (by rw [hU]; exact EQ.rf 0 0 _) (P3.msE hP))
set_option maxRecDepth 100000 in
set_option maxHeartbeats 1000000 in
theorem law_worth {X : PX} {S : SW} {M : Mem} {b L : Nat} {sc : Nat → Int32} {i : Int} (C : Cx X S RL cL_law 11 448) (Q : Sc X b L sc) (hR : Rel M) (i0 : 0 ≤ i) (i1 : i + 10 ≤ (L : Int)) (K : ∀ M2 : Mem, Rel M2 → PW X S M2 1612 [some (.ref b), some (rv S 2 0 0), some (rv S 3 0 0), some (iv i)] []) : PW X S M 631 [some (.ref b), some (rv S 2 0 0), some (rv S 3 0 0), some (iv i)] [] := by
  have hL := Q.2.2.2
  refine pw_aload_n C dL_law_631 rfl ?_
  refine pw_aref C dL_law_632 rfl ?_
  refine pw_iload_n C dL_law_633 rfl ?_
  refine pw_iconst C dL_law_634 ?_
  refine pw_iadd C dL_law_635 ?_
  refine pw_sld C Q (by omega) (by omega) dL_law_636 ?_
  refine pw_aref C dL_law_637 rfl ?_
  refine pw_iload_n C dL_law_638 rfl ?_
  refine pw_iconst C dL_law_639 ?_
  refine pw_iadd C dL_law_640 ?_
  refine pw_sld C Q (by omega) (by omega) dL_law_641 ?_
  refine pw_aref C dL_law_642 rfl ?_
  refine pw_iload_n C dL_law_643 rfl ?_
  refine pw_iconst C dL_law_644 ?_
  refine pw_iadd C dL_law_645 ?_
  refine pw_sld C Q (by omega) (by omega) dL_law_646 ?_
  refine pw_cVP C [_, _, _] mi_X8_worth mv_X8_worth ml_L_63 oC_0 rfl (c_X8_worth (sv_R _ _) (sv_R _ _) (sv_R _ _) hR.1 hR.2.1 hR.2.2.1) (by decide) rfl (Nat.le_of_ble_eq_true rfl) dL_law_647 ?_
  rintro v8 N ⟨rfl, hKP⟩
  refine pw_V 3 ?_
  rw [hKP.1]
  refine pw_aload_n C dL_law_650 rfl ?_
  refine pw_aref C dL_law_651 rfl ?_
  refine pw_iload_n C dL_law_652 rfl ?_
  refine pw_iconst C dL_law_653 ?_
  refine pw_iadd C dL_law_654 ?_
  refine pw_sld C Q (by omega) (by omega) dL_law_655 ?_
  refine pw_aref C dL_law_656 rfl ?_
  refine pw_iload_n C dL_law_657 rfl ?_
  refine pw_iconst C dL_law_658 ?_
  refine pw_iadd C dL_law_659 ?_
  refine pw_sld C Q (by omega) (by omega) dL_law_660 ?_
  refine pw_aref C dL_law_661 rfl ?_
  refine pw_iload_n C dL_law_662 rfl ?_
  refine pw_iconst C dL_law_663 ?_
  refine pw_iadd C dL_law_664 ?_
  refine pw_sld C Q (by omega) (by omega) dL_law_665 ?_
  refine pw_cVP C [_, _, _] mi_X9_worth mv_X9_worth ml_L_66 oM_0 rfl (c_X9_worth (sv_R _ _) (sv_R _ _) (sv_R _ _) hR.i9) (by decide) rfl (Nat.le_of_ble_eq_true rfl) dL_law_666 ?_
  rintro v9 N2 ⟨rfl, U, rfl, hU, hP⟩
  rw [e_worth hR.1 hR.2.2.2.1]
  refine pw_isame (tgt := 1612) C dL_law_669 rfl ?_
  exact K _ (hR.same hKP hU (P3.msE hP))
set_option maxRecDepth 100000 in
set_option maxHeartbeats 1000000 in
theorem law_day {X : PX} {S : SW} {M : Mem} {b L : Nat} {sc : Nat → Int32} {i : Int} (C : Cx X S RL cL_law 11 448) (Q : Sc X b L sc) (hR : Rel M) (i0 : 0 ≤ i) (i1 : i + 10 ≤ (L : Int)) (K : ∀ M2 : Mem, Rel M2 → PW X S M2 1612 [some (.ref b), some (rv S 2 0 0), some (rv S 3 0 0), some (iv i)] []) : PW X S M 674 [some (.ref b), some (rv S 2 0 0), some (rv S 3 0 0), some (iv i)] [] := by
  have hL := Q.2.2.2
  refine pw_aload_n C dL_law_674 rfl ?_
  refine pw_aref C dL_law_675 rfl ?_
  refine pw_iload_n C dL_law_676 rfl ?_
  refine pw_iconst C dL_law_677 ?_
  refine pw_iadd C dL_law_678 ?_
  refine pw_sld C Q (by omega) (by omega) dL_law_679 ?_
  refine pw_cVP C [_] mi_X8_day mv_X8_day ml_L_67 oC_0 rfl (c_X8_day (sv_R _ _) hR.1 hR.2.1 hR.2.2.1) (by decide) rfl (Nat.le_of_ble_eq_true rfl) dL_law_680 ?_
  rintro v8 N ⟨rfl, hKP⟩
  refine pw_V 3 ?_
  rw [hKP.1]
  refine pw_aload_n C dL_law_683 rfl ?_
  refine pw_aref C dL_law_684 rfl ?_
  refine pw_iload_n C dL_law_685 rfl ?_
  refine pw_iconst C dL_law_686 ?_
  refine pw_iadd C dL_law_687 ?_
  refine pw_sld C Q (by omega) (by omega) dL_law_688 ?_
  refine pw_cVP C [_] mi_X9_day mv_X9_day ml_L_70 oM_0 rfl (c_X9_day (sv_R _ _) hR.i9) (by decide) rfl (Nat.le_of_ble_eq_true rfl) dL_law_689 ?_
  rintro v9 N2 ⟨rfl, U, rfl, hU, hP⟩
  rw [e_day hR.1 hR.2.2.2.1 hR.2.1 rfl]
  refine pw_isame (tgt := 1612) C dL_law_692 rfl ?_
  exact K _ (hR.same hKP hU (P3.msE hP))
set_option maxRecDepth 100000 in
set_option maxHeartbeats 1000000 in
theorem law_bought {X : PX} {S : SW} {M : Mem} {b L : Nat} {sc : Nat → Int32} {i : Int} (C : Cx X S RL cL_law 11 448) (Q : Sc X b L sc) (hR : Rel M) (i0 : 0 ≤ i) (i1 : i + 10 ≤ (L : Int)) (K : ∀ M2 : Mem, Rel M2 → PW X S M2 1612 [some (.ref b), some (rv S 2 0 0), some (rv S 3 0 0), some (iv i)] []) : PW X S M 697 [some (.ref b), some (rv S 2 0 0), some (rv S 3 0 0), some (iv i)] [] := by
  have hL := Q.2.2.2
  refine pw_aload_n C dL_law_697 rfl ?_
  refine pw_aref C dL_law_698 rfl ?_
  refine pw_iload_n C dL_law_699 rfl ?_
  refine pw_iconst C dL_law_700 ?_
  refine pw_iadd C dL_law_701 ?_
  refine pw_sld C Q (by omega) (by omega) dL_law_702 ?_
  refine pw_aref C dL_law_703 rfl ?_
  refine pw_iload_n C dL_law_704 rfl ?_
  refine pw_iconst C dL_law_705 ?_
  refine pw_iadd C dL_law_706 ?_
  refine pw_sld C Q (by omega) (by omega) dL_law_707 ?_
  refine pw_cVP C [_, _] mi_X8_bought mv_X8_bought ml_L_71 oC_0 rfl (c_X8_bought (sv_R _ _) (sv_R _ _) hR.1 hR.2.1 hR.2.2.1) (by decide) rfl (Nat.le_of_ble_eq_true rfl) dL_law_708 ?_
  rintro v8 N ⟨rfl, hKP⟩
  refine pw_V 3 ?_
  rw [hKP.1]
  refine pw_aload_n C dL_law_711 rfl ?_
  refine pw_aref C dL_law_712 rfl ?_
  refine pw_iload_n C dL_law_713 rfl ?_
  refine pw_iconst C dL_law_714 ?_
  refine pw_iadd C dL_law_715 ?_
  refine pw_sld C Q (by omega) (by omega) dL_law_716 ?_
  refine pw_aref C dL_law_717 rfl ?_
  refine pw_iload_n C dL_law_718 rfl ?_
  refine pw_iconst C dL_law_719 ?_
  refine pw_iadd C dL_law_720 ?_
  refine pw_sld C Q (by omega) (by omega) dL_law_721 ?_
  refine pw_cVP C [_, _] mi_X9_bought mv_X9_bought ml_L_74 oM_0 rfl (c_X9_bought (sv_R _ _) (sv_R _ _) hR.i9) (by decide) rfl (Nat.le_of_ble_eq_true rfl) dL_law_722 ?_
  rintro v9 N2 ⟨rfl, U, rfl, hU, hP⟩
  rw [e_bought hR.1 hR.2.2.2.1 hR.2.1 rfl]
  refine pw_isame (tgt := 1612) C dL_law_725 rfl ?_
  exact K _ (hR.same hKP hU (P3.msE hP))
set_option maxRecDepth 100000 in
set_option maxHeartbeats 1000000 in
theorem law_sold {X : PX} {S : SW} {M : Mem} {b L : Nat} {sc : Nat → Int32} {i : Int} (C : Cx X S RL cL_law 11 448) (Q : Sc X b L sc) (hR : Rel M) (i0 : 0 ≤ i) (i1 : i + 10 ≤ (L : Int)) (K : ∀ M2 : Mem, Rel M2 → PW X S M2 1612 [some (.ref b), some (rv S 2 0 0), some (rv S 3 0 0), some (iv i)] []) : PW X S M 730 [some (.ref b), some (rv S 2 0 0), some (rv S 3 0 0), some (iv i)] [] := by
  have hL := Q.2.2.2
  refine pw_aload_n C dL_law_730 rfl ?_
  refine pw_aref C dL_law_731 rfl ?_
  refine pw_iload_n C dL_law_732 rfl ?_
  refine pw_iconst C dL_law_733 ?_
  refine pw_iadd C dL_law_734 ?_
  refine pw_sld C Q (by omega) (by omega) dL_law_735 ?_
  refine pw_aref C dL_law_736 rfl ?_
  refine pw_iload_n C dL_law_737 rfl ?_
  refine pw_iconst C dL_law_738 ?_
  refine pw_iadd C dL_law_739 ?_
  refine pw_sld C Q (by omega) (by omega) dL_law_740 ?_
  refine pw_cVP C [_, _] mi_X8_sold mv_X8_sold ml_L_75 oC_0 rfl (c_X8_sold (sv_R _ _) (sv_R _ _) hR.1 hR.2.1 hR.2.2.1) (by decide) rfl (Nat.le_of_ble_eq_true rfl) dL_law_741 ?_
  rintro v8 N ⟨rfl, hKP⟩
  refine pw_V 3 ?_
  rw [hKP.1]
  refine pw_aload_n C dL_law_744 rfl ?_
  refine pw_aref C dL_law_745 rfl ?_
  refine pw_iload_n C dL_law_746 rfl ?_
  refine pw_iconst C dL_law_747 ?_
  refine pw_iadd C dL_law_748 ?_
  refine pw_sld C Q (by omega) (by omega) dL_law_749 ?_
  refine pw_aref C dL_law_750 rfl ?_
  refine pw_iload_n C dL_law_751 rfl ?_
  refine pw_iconst C dL_law_752 ?_
  refine pw_iadd C dL_law_753 ?_
  refine pw_sld C Q (by omega) (by omega) dL_law_754 ?_
  refine pw_cVP C [_, _] mi_X9_sold mv_X9_sold ml_L_78 oM_0 rfl (c_X9_sold (sv_R _ _) (sv_R _ _) hR.i9) (by decide) rfl (Nat.le_of_ble_eq_true rfl) dL_law_755 ?_
  rintro v9 N2 ⟨rfl, U, rfl, hU, hP⟩
  rw [e_sold hR.1 hR.2.2.2.1 hR.2.1 rfl]
  refine pw_isame (tgt := 1612) C dL_law_758 rfl ?_
  exact K _ (hR.same hKP hU (P3.msE hP))
set_option maxRecDepth 100000 in
set_option maxHeartbeats 1000000 in
theorem law_best {X : PX} {S : SW} {M : Mem} {b L : Nat} {sc : Nat → Int32} {i : Int} (C : Cx X S RL cL_law 11 448) (Q : Sc X b L sc) (hR : Rel M) (i0 : 0 ≤ i) (i1 : i + 10 ≤ (L : Int)) (K : ∀ M2 : Mem, Rel M2 → PW X S M2 1612 [some (.ref b), some (rv S 2 0 0), some (rv S 3 0 0), some (iv i)] []) : PW X S M 763 [some (.ref b), some (rv S 2 0 0), some (rv S 3 0 0), some (iv i)] [] := by
  have hL := Q.2.2.2
  refine pw_aload_n C dL_law_763 rfl ?_
  refine pw_aref C dL_law_764 rfl ?_
  refine pw_iload_n C dL_law_765 rfl ?_
  refine pw_iconst C dL_law_766 ?_
  refine pw_iadd C dL_law_767 ?_
  refine pw_sld C Q (by omega) (by omega) dL_law_768 ?_
  refine pw_aref C dL_law_769 rfl ?_
  refine pw_iload_n C dL_law_770 rfl ?_
  refine pw_iconst C dL_law_771 ?_
  refine pw_iadd C dL_law_772 ?_
  refine pw_sld C Q (by omega) (by omega) dL_law_773 ?_
  refine pw_aref C dL_law_774 rfl ?_
  refine pw_iload_n C dL_law_775 rfl ?_
  refine pw_iconst C dL_law_776 ?_
  refine pw_iadd C dL_law_777 ?_
  refine pw_sld C Q (by omega) (by omega) dL_law_778 ?_
  refine pw_cVP C [_, _, _] mi_X8_best mv_X8_best ml_L_79 oC_0 rfl (c_X8_best (sv_R _ _) (sv_R _ _) (sv_R _ _) hR.1 hR.2.1 hR.2.2.1) (by decide) rfl (Nat.le_of_ble_eq_true rfl) dL_law_779 ?_
  rintro v8 N ⟨rfl, hKP⟩
  refine pw_V 3 ?_
  rw [hKP.1]
  refine pw_aload_n C dL_law_782 rfl ?_
  refine pw_aref C dL_law_783 rfl ?_
  refine pw_iload_n C dL_law_784 rfl ?_
  refine pw_iconst C dL_law_785 ?_
  refine pw_iadd C dL_law_786 ?_
  refine pw_sld C Q (by omega) (by omega) dL_law_787 ?_
  refine pw_aref C dL_law_788 rfl ?_
  refine pw_iload_n C dL_law_789 rfl ?_
  refine pw_iconst C dL_law_790 ?_
  refine pw_iadd C dL_law_791 ?_
  refine pw_sld C Q (by omega) (by omega) dL_law_792 ?_
  refine pw_aref C dL_law_793 rfl ?_
  refine pw_iload_n C dL_law_794 rfl ?_
  refine pw_iconst C dL_law_795 ?_
  refine pw_iadd C dL_law_796 ?_
  refine pw_sld C Q (by omega) (by omega) dL_law_797 ?_
  refine pw_cVP C [_, _, _] mi_X9_best mv_X9_best ml_L_82 oM_0 rfl (c_X9_best (sv_R _ _) (sv_R _ _) (sv_R _ _) hR.i9) (by decide) rfl (Nat.le_of_ble_eq_true rfl) dL_law_798 ?_
  rintro v9 N2 ⟨rfl, U, rfl, hU, hP⟩
  rw [e_best hR.1 hR.2.2.2.1 hR.2.1 rfl]
  refine pw_isame (tgt := 1612) C dL_law_801 rfl ?_
  exact K _ (hR.same hKP hU (P3.msE hP))
set_option maxRecDepth 100000 in
set_option maxHeartbeats 1000000 in
theorem law_takeOff {X : PX} {S : SW} {M : Mem} {b L : Nat} {sc : Nat → Int32} {i : Int} (C : Cx X S RL cL_law 11 448) (Q : Sc X b L sc) (hR : Rel M) (i0 : 0 ≤ i) (i1 : i + 10 ≤ (L : Int)) (K : ∀ M2 : Mem, Rel M2 → PW X S M2 1612 [some (.ref b), some (rv S 2 0 0), some (rv S 3 0 0), some (iv i)] []) : PW X S M 806 [some (.ref b), some (rv S 2 0 0), some (rv S 3 0 0), some (iv i)] [] := by
  have hL := Q.2.2.2
  refine pw_aload_n C dL_law_806 rfl ?_
  refine pw_aref C dL_law_807 rfl ?_
  refine pw_iload_n C dL_law_808 rfl ?_
  refine pw_iconst C dL_law_809 ?_
  refine pw_iadd C dL_law_810 ?_
  refine pw_sld C Q (by omega) (by omega) dL_law_811 ?_
  refine pw_cVP C [_] mi_X8_takeOff mv_X8_takeOff ml_L_83 oC_0 rfl (c_X8_takeOff (sv_R _ _) hR.1 hR.2.1 hR.2.2.1) (by decide) rfl (Nat.le_of_ble_eq_true rfl) dL_law_812 ?_
  rintro v8 N ⟨rfl, hKP⟩
  refine pw_V 3 ?_
  rw [hKP.1]
  refine pw_aload_n C dL_law_815 rfl ?_
  refine pw_aref C dL_law_816 rfl ?_
  refine pw_iload_n C dL_law_817 rfl ?_
  refine pw_iconst C dL_law_818 ?_
  refine pw_iadd C dL_law_819 ?_
  refine pw_sld C Q (by omega) (by omega) dL_law_820 ?_
  refine pw_cVP C [_] mi_X9_takeOff mv_X9_takeOff ml_L_86 oM_0 rfl (c_X9_takeOff (sv_R _ _) hR.i9) (by decide) rfl (Nat.le_of_ble_eq_true rfl) dL_law_821 ?_
  rintro v9 N2 ⟨rfl, U, rfl, hU, hP⟩
  rw [e_take hR.1 hR.2.2.2.1 hR.2.1 rfl]
  refine pw_isame (tgt := 1612) C dL_law_824 rfl ?_
  exact K _ (hR.same hKP hU (P3.msE hP))
set_option maxRecDepth 100000 in
set_option maxHeartbeats 1000000 in
theorem law_fetch {X : PX} {S : SW} {M : Mem} {b L : Nat} {sc : Nat → Int32} {i : Int} (C : Cx X S RL cL_law 11 448) (Q : Sc X b L sc) (hR : Rel M) (i0 : 0 ≤ i) (i1 : i + 10 ≤ (L : Int)) (K : ∀ M2 : Mem, Rel M2 → PW X S M2 1612 [some (.ref b), some (rv S 2 0 0), some (rv S 3 0 0), some (iv i)] []) : PW X S M 829 [some (.ref b), some (rv S 2 0 0), some (rv S 3 0 0), some (iv i)] [] := by
  have hL := Q.2.2.2
  refine pw_aload_n C dL_law_829 rfl ?_
  refine pw_aref C dL_law_830 rfl ?_
  refine pw_iload_n C dL_law_831 rfl ?_
  refine pw_iconst C dL_law_832 ?_
  refine pw_iadd C dL_law_833 ?_
  refine pw_sld C Q (by omega) (by omega) dL_law_834 ?_
  refine pw_cVP C [_] mi_X8_fetch mv_X8_fetch ml_L_87 oC_0 rfl (c_X8_fetch (sv_R _ _) hR.1 hR.2.1 hR.2.2.1) (by decide) rfl (Nat.le_of_ble_eq_true rfl) dL_law_835 ?_
  rintro v8 N ⟨x8, rfl, hF8, hKP⟩
  refine pw_V 3 ?_
  rw [hKP.1]
  refine pw_aload_n C dL_law_838 rfl ?_
  refine pw_aref C dL_law_839 rfl ?_
  refine pw_iload_n C dL_law_840 rfl ?_
  refine pw_iconst C dL_law_841 ?_
  refine pw_iadd C dL_law_842 ?_
  refine pw_sld C Q (by omega) (by omega) dL_law_843 ?_
  refine pw_cVP C [_] mi_X9_fetch mv_X9_fetch ml_L_90 oM_0 rfl (c_X9_fetch (sv_R _ _) hR.i9) (by decide) rfl (Nat.le_of_ble_eq_true rfl) dL_law_844 ?_
  rintro v9 N2 ⟨x9, rfl, hF9, U, rfl, hU, hP⟩
  have e9 := e_fetch hR.1 hR.2.2.2.1 hR.2.1 rfl hF8 hF9
  subst e9
  refine pw_isame (tgt := 1612) C dL_law_847 rfl ?_
  exact K _ (hR.same hKP hU (P3.msE hP))
set_option maxRecDepth 100000 in
set_option maxHeartbeats 1000000 in
theorem law_carried {X : PX} {S : SW} {M : Mem} {b L : Nat} {sc : Nat → Int32} {i : Int} (C : Cx X S RL cL_law 11 448) (Q : Sc X b L sc) (hR : Rel M) (i0 : 0 ≤ i) (i1 : i + 10 ≤ (L : Int)) (K : ∀ M2 : Mem, Rel M2 → PW X S M2 1612 [some (.ref b), some (rv S 2 0 0), some (rv S 3 0 0), some (iv i)] []) : PW X S M 852 [some (.ref b), some (rv S 2 0 0), some (rv S 3 0 0), some (iv i)] [] := by
  have hL := Q.2.2.2
  refine pw_aload_n C dL_law_852 rfl ?_
  refine pw_aref C dL_law_853 rfl ?_
  refine pw_iload_n C dL_law_854 rfl ?_
  refine pw_iconst C dL_law_855 ?_
  refine pw_iadd C dL_law_856 ?_
  refine pw_sld C Q (by omega) (by omega) dL_law_857 ?_
  refine pw_cVP C [_] mi_X8_carried mv_X8_carried ml_L_91 oC_0 rfl (c_X8_carried (sv_R _ _) hR.1 hR.2.1 hR.2.2.1) (by decide) rfl (Nat.le_of_ble_eq_true rfl) dL_law_858 ?_
  rintro v8 N ⟨rfl, hKP⟩
  refine pw_V 3 ?_
  rw [hKP.1]
  refine pw_aload_n C dL_law_861 rfl ?_
  refine pw_aref C dL_law_862 rfl ?_
  refine pw_iload_n C dL_law_863 rfl ?_
  refine pw_iconst C dL_law_864 ?_
  refine pw_iadd C dL_law_865 ?_
  refine pw_sld C Q (by omega) (by omega) dL_law_866 ?_
  refine pw_cVP C [_] mi_X9_carried mv_X9_carried ml_L_94 oM_0 rfl (c_X9_carried (sv_R _ _) hR.i9) (by decide) rfl (Nat.le_of_ble_eq_true rfl) dL_law_867 ?_
  rintro v9 N2 ⟨rfl, U, rfl, hU, hP⟩
  rw [e_carried hR.1 hR.2.2.2.1 hR.2.1 rfl]
  refine pw_isame (tgt := 1612) C dL_law_870 rfl ?_
  exact K _ (hR.same hKP hU (P3.msE hP))
set_option maxRecDepth 100000 in
set_option maxHeartbeats 1000000 in
theorem law_cook {X : PX} {S : SW} {M : Mem} {b L : Nat} {sc : Nat → Int32} {i : Int} (C : Cx X S RL cL_law 11 448) (Q : Sc X b L sc) (hR : Rel M) (i0 : 0 ≤ i) (i1 : i + 10 ≤ (L : Int)) (K : ∀ M2 : Mem, Rel M2 → PW X S M2 1612 [some (.ref b), some (rv S 2 0 0), some (rv S 3 0 0), some (iv i)] []) : PW X S M 875 [some (.ref b), some (rv S 2 0 0), some (rv S 3 0 0), some (iv i)] [] := by
  have hL := Q.2.2.2
  refine pw_aload_n C dL_law_875 rfl ?_
  refine pw_aref C dL_law_876 rfl ?_
  refine pw_iload_n C dL_law_877 rfl ?_
  refine pw_iconst C dL_law_878 ?_
  refine pw_iadd C dL_law_879 ?_
  refine pw_sld C Q (by omega) (by omega) dL_law_880 ?_
  refine pw_aref C dL_law_881 rfl ?_
  refine pw_iload_n C dL_law_882 rfl ?_
  refine pw_iconst C dL_law_883 ?_
  refine pw_iadd C dL_law_884 ?_
  refine pw_sld C Q (by omega) (by omega) dL_law_885 ?_
  refine pw_aref C dL_law_886 rfl ?_
  refine pw_iload_n C dL_law_887 rfl ?_
  refine pw_iconst C dL_law_888 ?_
  refine pw_iadd C dL_law_889 ?_
  refine pw_sld C Q (by omega) (by omega) dL_law_890 ?_
  refine pw_cVP C [_, _, _] mi_X8_cook mv_X8_cook ml_L_95 oC_0 rfl (c_X8_cook (sv_R _ _) (sv_R _ _) (sv_R _ _) hR.1 hR.2.1 hR.2.2.1) (by decide) rfl (Nat.le_of_ble_eq_true rfl) dL_law_891 ?_
  rintro v8 N ⟨rfl, hKP⟩
  refine pw_V 3 ?_
  rw [hKP.1]
  refine pw_aload_n C dL_law_894 rfl ?_
  refine pw_aref C dL_law_895 rfl ?_
  refine pw_iload_n C dL_law_896 rfl ?_
  refine pw_iconst C dL_law_897 ?_
  refine pw_iadd C dL_law_898 ?_
  refine pw_sld C Q (by omega) (by omega) dL_law_899 ?_
  refine pw_aref C dL_law_900 rfl ?_
  refine pw_iload_n C dL_law_901 rfl ?_
  refine pw_iconst C dL_law_902 ?_
  refine pw_iadd C dL_law_903 ?_
  refine pw_sld C Q (by omega) (by omega) dL_law_904 ?_
  refine pw_aref C dL_law_905 rfl ?_
  refine pw_iload_n C dL_law_906 rfl ?_
  refine pw_iconst C dL_law_907 ?_
  refine pw_iadd C dL_law_908 ?_
  refine pw_sld C Q (by omega) (by omega) dL_law_909 ?_
  refine pw_cVP C [_, _, _] mi_X9_cook mv_X9_cook ml_L_98 oM_0 rfl (c_X9_cook (sv_R _ _) (sv_R _ _) (sv_R _ _) hR.i9) (by decide) rfl (Nat.le_of_ble_eq_true rfl) dL_law_910 ?_
  rintro v9 N2 ⟨rfl, U, rfl, hU, hP⟩
  rw [e_cook hR.1 hR.2.2.2.1 hR.2.1 rfl]
  refine pw_isame (tgt := 1612) C dL_law_913 rfl ?_
  exact K _ (hR.same hKP hU (P3.msE hP))
set_option maxRecDepth 100000 in
set_option maxHeartbeats 1000000 in
theorem law_mean {X : PX} {S : SW} {M : Mem} {b L : Nat} {sc : Nat → Int32} {i : Int} (C : Cx X S RL cL_law 11 448) (Q : Sc X b L sc) (hR : Rel M) (i0 : 0 ≤ i) (i1 : i + 10 ≤ (L : Int)) (K : ∀ M2 : Mem, Rel M2 → PW X S M2 1612 [some (.ref b), some (rv S 2 0 0), some (rv S 3 0 0), some (iv i)] []) : PW X S M 918 [some (.ref b), some (rv S 2 0 0), some (rv S 3 0 0), some (iv i)] [] := by
  have hL := Q.2.2.2
  refine pw_aload_n C dL_law_918 rfl ?_
  refine pw_aref C dL_law_919 rfl ?_
  refine pw_iload_n C dL_law_920 rfl ?_
  refine pw_iconst C dL_law_921 ?_
  refine pw_iadd C dL_law_922 ?_
  refine pw_sld C Q (by omega) (by omega) dL_law_923 ?_
  refine pw_aref C dL_law_924 rfl ?_
  refine pw_iload_n C dL_law_925 rfl ?_
  refine pw_iconst C dL_law_926 ?_
  refine pw_iadd C dL_law_927 ?_
  refine pw_sld C Q (by omega) (by omega) dL_law_928 ?_
  refine pw_aref C dL_law_929 rfl ?_
  refine pw_iload_n C dL_law_930 rfl ?_
  refine pw_iconst C dL_law_931 ?_
  refine pw_iadd C dL_law_932 ?_
  refine pw_sld C Q (by omega) (by omega) dL_law_933 ?_
  refine pw_aref C dL_law_934 rfl ?_
  refine pw_iload_n C dL_law_935 rfl ?_
  refine pw_iconst C dL_law_936 ?_
  refine pw_iadd C dL_law_937 ?_
  refine pw_sld C Q (by omega) (by omega) dL_law_938 ?_
  refine pw_aref C dL_law_939 rfl ?_
  refine pw_iload_n C dL_law_940 rfl ?_
  refine pw_iconst C dL_law_941 ?_
  refine pw_iadd C dL_law_942 ?_
  refine pw_sld C Q (by omega) (by omega) dL_law_943 ?_
  refine pw_aref C dL_law_944 rfl ?_
  refine pw_iload_n C dL_law_945 rfl ?_
  refine pw_bipush C dL_law_946 (by decide) ?_
  refine pw_iadd C dL_law_948 ?_
  refine pw_sld C Q (by omega) (by omega) dL_law_949 ?_
  refine pw_aref C dL_law_950 rfl ?_
  refine pw_iload_n C dL_law_951 rfl ?_
  refine pw_bipush C dL_law_952 (by decide) ?_
  refine pw_iadd C dL_law_954 ?_
  refine pw_sld C Q (by omega) (by omega) dL_law_955 ?_
  refine pw_aref C dL_law_956 rfl ?_
  refine pw_iload_n C dL_law_957 rfl ?_
  refine pw_bipush C dL_law_958 (by decide) ?_
  refine pw_iadd C dL_law_960 ?_
  refine pw_sld C Q (by omega) (by omega) dL_law_961 ?_
  refine pw_aref C dL_law_962 rfl ?_
  refine pw_iload_n C dL_law_963 rfl ?_
  refine pw_bipush C dL_law_964 (by decide) ?_
  refine pw_iadd C dL_law_966 ?_
  refine pw_sld C Q (by omega) (by omega) dL_law_967 ?_
  refine pw_cVP C [_, _, _, _, _, _, _, _, _] mi_X8_mean mv_X8_mean ml_L_99 oC_0 rfl (c_X8_mean (sv_R _ _) (sv_R _ _) (sv_R _ _) (sv_R _ _) (sv_R _ _) (sv_R _ _) (sv_R _ _) (sv_R _ _) (sv_R _ _) hR.1 hR.2.1 hR.2.2.1) (by decide) rfl (Nat.le_of_ble_eq_true rfl) dL_law_968 ?_
  rintro v8 N ⟨rfl, hKP⟩
  refine pw_V 3 ?_
  rw [hKP.1]
  refine pw_aload_n C dL_law_971 rfl ?_
  refine pw_aref C dL_law_972 rfl ?_
  refine pw_iload_n C dL_law_973 rfl ?_
  refine pw_iconst C dL_law_974 ?_
  refine pw_iadd C dL_law_975 ?_
  refine pw_sld C Q (by omega) (by omega) dL_law_976 ?_
  refine pw_aref C dL_law_977 rfl ?_
  refine pw_iload_n C dL_law_978 rfl ?_
  refine pw_iconst C dL_law_979 ?_
  refine pw_iadd C dL_law_980 ?_
  refine pw_sld C Q (by omega) (by omega) dL_law_981 ?_
  refine pw_aref C dL_law_982 rfl ?_
  refine pw_iload_n C dL_law_983 rfl ?_
  refine pw_iconst C dL_law_984 ?_
  refine pw_iadd C dL_law_985 ?_
  refine pw_sld C Q (by omega) (by omega) dL_law_986 ?_
  refine pw_aref C dL_law_987 rfl ?_
  refine pw_iload_n C dL_law_988 rfl ?_
  refine pw_iconst C dL_law_989 ?_
  refine pw_iadd C dL_law_990 ?_
  refine pw_sld C Q (by omega) (by omega) dL_law_991 ?_
  refine pw_aref C dL_law_992 rfl ?_
  refine pw_iload_n C dL_law_993 rfl ?_
  refine pw_iconst C dL_law_994 ?_
  refine pw_iadd C dL_law_995 ?_
  refine pw_sld C Q (by omega) (by omega) dL_law_996 ?_
  refine pw_aref C dL_law_997 rfl ?_
  refine pw_iload_n C dL_law_998 rfl ?_
  refine pw_bipush C dL_law_999 (by decide) ?_
  refine pw_iadd C dL_law_1001 ?_
  refine pw_sld C Q (by omega) (by omega) dL_law_1002 ?_
  refine pw_aref C dL_law_1003 rfl ?_
  refine pw_iload_n C dL_law_1004 rfl ?_
  refine pw_bipush C dL_law_1005 (by decide) ?_
  refine pw_iadd C dL_law_1007 ?_
  refine pw_sld C Q (by omega) (by omega) dL_law_1008 ?_
  refine pw_aref C dL_law_1009 rfl ?_
  refine pw_iload_n C dL_law_1010 rfl ?_
  refine pw_bipush C dL_law_1011 (by decide) ?_
  refine pw_iadd C dL_law_1013 ?_
  refine pw_sld C Q (by omega) (by omega) dL_law_1014 ?_
  refine pw_aref C dL_law_1015 rfl ?_
  refine pw_iload_n C dL_law_1016 rfl ?_
  refine pw_bipush C dL_law_1017 (by decide) ?_
  refine pw_iadd C dL_law_1019 ?_
  refine pw_sld C Q (by omega) (by omega) dL_law_1020 ?_
  refine pw_cVP C [_, _, _, _, _, _, _, _, _] mi_X9_mean mv_X9_mean ml_L_103 oM_0 rfl (c_X9_mean (sv_R _ _) (sv_R _ _) (sv_R _ _) (sv_R _ _) (sv_R _ _) (sv_R _ _) (sv_R _ _) (sv_R _ _) (sv_R _ _) hR.i9 hR.s9) (by decide) rfl (Nat.le_of_ble_eq_true rfl) dL_law_1021 ?_
  rintro v9 N2 ⟨rfl, U, rfl, hU, hs⟩
  rw [z_mean hR.2.2.2.2.1]
  refine pw_lsame C dL_law_1024 ?_
  refine pw_if_eq (tgt := 1612) C dL_law_1025 rfl ⟨by decide, by decide⟩ (fun _ => ?_) (fun h => absurd rfl h)
  exact K _ (hR.rest hKP (sh_fl hR.2.2.1 _) (P2.fl hR.2.2.2.2.1 (by rw [z_look hR.2.2.2.2.1])) hU hs)
set_option maxRecDepth 100000 in
set_option maxHeartbeats 1000000 in
theorem law_howMany {X : PX} {S : SW} {M : Mem} {b L : Nat} {sc : Nat → Int32} {i : Int} (C : Cx X S RL cL_law 11 448) (Q : Sc X b L sc) (hR : Rel M) (i0 : 0 ≤ i) (i1 : i + 10 ≤ (L : Int)) (K : ∀ M2 : Mem, Rel M2 → PW X S M2 1612 [some (.ref b), some (rv S 2 0 0), some (rv S 3 0 0), some (iv i)] []) : PW X S M 1030 [some (.ref b), some (rv S 2 0 0), some (rv S 3 0 0), some (iv i)] [] := by
  have hL := Q.2.2.2
  refine pw_aload_n C dL_law_1030 rfl ?_
  refine pw_aref C dL_law_1031 rfl ?_
  refine pw_iload_n C dL_law_1032 rfl ?_
  refine pw_iconst C dL_law_1033 ?_
  refine pw_iadd C dL_law_1034 ?_
  refine pw_sld C Q (by omega) (by omega) dL_law_1035 ?_
  refine pw_aref C dL_law_1036 rfl ?_
  refine pw_iload_n C dL_law_1037 rfl ?_
  refine pw_iconst C dL_law_1038 ?_
  refine pw_iadd C dL_law_1039 ?_
  refine pw_sld C Q (by omega) (by omega) dL_law_1040 ?_
  refine pw_aref C dL_law_1041 rfl ?_
  refine pw_iload_n C dL_law_1042 rfl ?_
  refine pw_iconst C dL_law_1043 ?_
  refine pw_iadd C dL_law_1044 ?_
  refine pw_sld C Q (by omega) (by omega) dL_law_1045 ?_
  refine pw_aref C dL_law_1046 rfl ?_
  refine pw_iload_n C dL_law_1047 rfl ?_
  refine pw_iconst C dL_law_1048 ?_
  refine pw_iadd C dL_law_1049 ?_
  refine pw_sld C Q (by omega) (by omega) dL_law_1050 ?_
  refine pw_aref C dL_law_1051 rfl ?_
  refine pw_iload_n C dL_law_1052 rfl ?_
  refine pw_iconst C dL_law_1053 ?_
  refine pw_iadd C dL_law_1054 ?_
  refine pw_sld C Q (by omega) (by omega) dL_law_1055 ?_
  refine pw_aref C dL_law_1056 rfl ?_
  refine pw_iload_n C dL_law_1057 rfl ?_
  refine pw_bipush C dL_law_1058 (by decide) ?_
  refine pw_iadd C dL_law_1060 ?_
  refine pw_sld C Q (by omega) (by omega) dL_law_1061 ?_
  refine pw_aref C dL_law_1062 rfl ?_
  refine pw_iload_n C dL_law_1063 rfl ?_
  refine pw_bipush C dL_law_1064 (by decide) ?_
  refine pw_iadd C dL_law_1066 ?_
  refine pw_sld C Q (by omega) (by omega) dL_law_1067 ?_
  refine pw_cVP C [_, _, _, _, _, _, _] mi_X8_howMany mv_X8_howMany ml_L_104 oC_0 rfl (c_X8_howMany (sv_R _ _) (sv_R _ _) (sv_R _ _) (sv_R _ _) (sv_R _ _) (sv_R _ _) (sv_R _ _) hR.1 hR.2.1 hR.2.2.1) (by decide) rfl (Nat.le_of_ble_eq_true rfl) dL_law_1068 ?_
  rintro v8 N ⟨rfl, hKP⟩
  refine pw_V 3 ?_
  rw [hKP.1]
  refine pw_aload_n C dL_law_1071 rfl ?_
  refine pw_aref C dL_law_1072 rfl ?_
  refine pw_iload_n C dL_law_1073 rfl ?_
  refine pw_iconst C dL_law_1074 ?_
  refine pw_iadd C dL_law_1075 ?_
  refine pw_sld C Q (by omega) (by omega) dL_law_1076 ?_
  refine pw_aref C dL_law_1077 rfl ?_
  refine pw_iload_n C dL_law_1078 rfl ?_
  refine pw_iconst C dL_law_1079 ?_
  refine pw_iadd C dL_law_1080 ?_
  refine pw_sld C Q (by omega) (by omega) dL_law_1081 ?_
  refine pw_aref C dL_law_1082 rfl ?_
  refine pw_iload_n C dL_law_1083 rfl ?_
  refine pw_iconst C dL_law_1084 ?_
  refine pw_iadd C dL_law_1085 ?_
  refine pw_sld C Q (by omega) (by omega) dL_law_1086 ?_
  refine pw_aref C dL_law_1087 rfl ?_
  refine pw_iload_n C dL_law_1088 rfl ?_
  refine pw_iconst C dL_law_1089 ?_
  refine pw_iadd C dL_law_1090 ?_
  refine pw_sld C Q (by omega) (by omega) dL_law_1091 ?_
  refine pw_aref C dL_law_1092 rfl ?_
  refine pw_iload_n C dL_law_1093 rfl ?_
  refine pw_iconst C dL_law_1094 ?_
  refine pw_iadd C dL_law_1095 ?_
  refine pw_sld C Q (by omega) (by omega) dL_law_1096 ?_
  refine pw_aref C dL_law_1097 rfl ?_
  refine pw_iload_n C dL_law_1098 rfl ?_
  refine pw_bipush C dL_law_1099 (by decide) ?_
  refine pw_iadd C dL_law_1101 ?_
  refine pw_sld C Q (by omega) (by omega) dL_law_1102 ?_
  refine pw_aref C dL_law_1103 rfl ?_
  refine pw_iload_n C dL_law_1104 rfl ?_
  refine pw_bipush C dL_law_1105 (by decide) ?_
  refine pw_iadd C dL_law_1107 ?_
  refine pw_sld C Q (by omega) (by omega) dL_law_1108 ?_
  refine pw_cVP C [_, _, _, _, _, _, _] mi_X9_howMany mv_X9_howMany ml_L_108 oM_0 rfl (c_X9_howMany (sv_R _ _) (sv_R _ _) (sv_R _ _) (sv_R _ _) (sv_R _ _) (sv_R _ _) (sv_R _ _) hR.i9 hR.s9) (by decide) rfl (Nat.le_of_ble_eq_true rfl) dL_law_1109 ?_
  rintro v9 N2 ⟨rfl, U, rfl, hU, hs⟩
  rw [z_how hR.2.2.2.2.1]
  refine pw_isame (tgt := 1612) C dL_law_1112 rfl ?_
  exact K _ (hR.rest hKP (sh_fl hR.2.2.1 _) (P2.fl hR.2.2.2.2.1 (by rw [z_look hR.2.2.2.2.1])) hU hs)
set_option maxRecDepth 100000 in
set_option maxHeartbeats 1000000 in
theorem law_right {X : PX} {S : SW} {M : Mem} {b L : Nat} {sc : Nat → Int32} {i : Int} (C : Cx X S RL cL_law 11 448) (Q : Sc X b L sc) (hR : Rel M) (i0 : 0 ≤ i) (i1 : i + 10 ≤ (L : Int)) (K : ∀ M2 : Mem, Rel M2 → PW X S M2 1612 [some (.ref b), some (rv S 2 0 0), some (rv S 3 0 0), some (iv i)] []) : PW X S M 1117 [some (.ref b), some (rv S 2 0 0), some (rv S 3 0 0), some (iv i)] [] := by
  have hL := Q.2.2.2
  refine pw_aload_n C dL_law_1117 rfl ?_
  refine pw_aref C dL_law_1118 rfl ?_
  refine pw_iload_n C dL_law_1119 rfl ?_
  refine pw_iconst C dL_law_1120 ?_
  refine pw_iadd C dL_law_1121 ?_
  refine pw_sld C Q (by omega) (by omega) dL_law_1122 ?_
  refine pw_aref C dL_law_1123 rfl ?_
  refine pw_iload_n C dL_law_1124 rfl ?_
  refine pw_iconst C dL_law_1125 ?_
  refine pw_iadd C dL_law_1126 ?_
  refine pw_sld C Q (by omega) (by omega) dL_law_1127 ?_
  refine pw_aref C dL_law_1128 rfl ?_
  refine pw_iload_n C dL_law_1129 rfl ?_
  refine pw_iconst C dL_law_1130 ?_
  refine pw_iadd C dL_law_1131 ?_
  refine pw_sld C Q (by omega) (by omega) dL_law_1132 ?_
  refine pw_cVP C [_, _, _] mi_X8_right mv_X8_right ml_L_109 oC_0 rfl (c_X8_right (sv_R _ _) (sv_R _ _) (sv_R _ _) hR.1 hR.2.1 hR.2.2.1) (by decide) rfl (Nat.le_of_ble_eq_true rfl) dL_law_1133 ?_
  rintro v8 N ⟨rfl, hKP⟩
  refine pw_V 3 ?_
  rw [hKP.1]
  refine pw_aload_n C dL_law_1136 rfl ?_
  refine pw_aref C dL_law_1137 rfl ?_
  refine pw_iload_n C dL_law_1138 rfl ?_
  refine pw_iconst C dL_law_1139 ?_
  refine pw_iadd C dL_law_1140 ?_
  refine pw_sld C Q (by omega) (by omega) dL_law_1141 ?_
  refine pw_aref C dL_law_1142 rfl ?_
  refine pw_iload_n C dL_law_1143 rfl ?_
  refine pw_iconst C dL_law_1144 ?_
  refine pw_iadd C dL_law_1145 ?_
  refine pw_sld C Q (by omega) (by omega) dL_law_1146 ?_
  refine pw_aref C dL_law_1147 rfl ?_
  refine pw_iload_n C dL_law_1148 rfl ?_
  refine pw_iconst C dL_law_1149 ?_
  refine pw_iadd C dL_law_1150 ?_
  refine pw_sld C Q (by omega) (by omega) dL_law_1151 ?_
  refine pw_cVP C [_, _, _] mi_X9_right mv_X9_right ml_L_113 oM_0 rfl (c_X9_right (sv_R _ _) (sv_R _ _) (sv_R _ _) hR.i9 hR.s9 (fun q => hR.2.2.2.1.h.trans (hR.2.2.2.2.2 (hR.2.2.2.1.n.symm.trans q)))) (by decide) rfl (Nat.le_of_ble_eq_true rfl) dL_law_1152 ?_
  rintro v9 N2 ⟨rfl, U, rfl, hU, hs⟩
  rw [e_right hR.2.2.2.1]
  refine pw_lsame C dL_law_1155 ?_
  refine pw_if_eq (tgt := 1612) C dL_law_1156 rfl ⟨by decide, by decide⟩ (fun _ => ?_) (fun h => absurd rfl h)
  exact K _ (hR.same hKP hU hs)
set_option maxRecDepth 100000 in
set_option maxHeartbeats 1000000 in
theorem law_rests {X : PX} {S : SW} {M : Mem} {b L : Nat} {sc : Nat → Int32} {i : Int} (C : Cx X S RL cL_law 11 448) (Q : Sc X b L sc) (hR : Rel M) (i0 : 0 ≤ i) (i1 : i + 10 ≤ (L : Int)) (K : ∀ M2 : Mem, Rel M2 → PW X S M2 1612 [some (.ref b), some (rv S 2 0 0), some (rv S 3 0 0), some (iv i)] []) : PW X S M 1161 [some (.ref b), some (rv S 2 0 0), some (rv S 3 0 0), some (iv i)] [] := by
  have hL := Q.2.2.2
  refine pw_aload_n C dL_law_1161 rfl ?_
  refine pw_aref C dL_law_1162 rfl ?_
  refine pw_iload_n C dL_law_1163 rfl ?_
  refine pw_iconst C dL_law_1164 ?_
  refine pw_iadd C dL_law_1165 ?_
  refine pw_sld C Q (by omega) (by omega) dL_law_1166 ?_
  refine pw_aref C dL_law_1167 rfl ?_
  refine pw_iload_n C dL_law_1168 rfl ?_
  refine pw_iconst C dL_law_1169 ?_
  refine pw_iadd C dL_law_1170 ?_
  refine pw_sld C Q (by omega) (by omega) dL_law_1171 ?_
  refine pw_aref C dL_law_1172 rfl ?_
  refine pw_iload_n C dL_law_1173 rfl ?_
  refine pw_iconst C dL_law_1174 ?_
  refine pw_iadd C dL_law_1175 ?_
  refine pw_sld C Q (by omega) (by omega) dL_law_1176 ?_
  refine pw_cVP C [_, _, _] mi_X8_rests mv_X8_rests ml_L_114 oC_0 rfl (c_X8_rests (sv_R _ _) (sv_R _ _) (sv_R _ _) hR.1 hR.2.1 hR.2.2.1) (by decide) rfl (Nat.le_of_ble_eq_true rfl) dL_law_1177 ?_
  rintro v8 N ⟨rfl, hKP⟩
  refine pw_V 3 ?_
  rw [hKP.1]
  refine pw_aload_n C dL_law_1180 rfl ?_
  refine pw_aref C dL_law_1181 rfl ?_
  refine pw_iload_n C dL_law_1182 rfl ?_
  refine pw_iconst C dL_law_1183 ?_
  refine pw_iadd C dL_law_1184 ?_
  refine pw_sld C Q (by omega) (by omega) dL_law_1185 ?_
  refine pw_aref C dL_law_1186 rfl ?_
  refine pw_iload_n C dL_law_1187 rfl ?_
  refine pw_iconst C dL_law_1188 ?_
  refine pw_iadd C dL_law_1189 ?_
  refine pw_sld C Q (by omega) (by omega) dL_law_1190 ?_
  refine pw_aref C dL_law_1191 rfl ?_
  refine pw_iload_n C dL_law_1192 rfl ?_
  refine pw_iconst C dL_law_1193 ?_
  refine pw_iadd C dL_law_1194 ?_
  refine pw_sld C Q (by omega) (by omega) dL_law_1195 ?_
  refine pw_cVP C [_, _, _] mi_X9_rests mv_X9_rests ml_L_117 oM_0 rfl (c_X9_rests (sv_R _ _) (sv_R _ _) (sv_R _ _) hR.i9 hR.s9) (by decide) rfl (Nat.le_of_ble_eq_true rfl) dL_law_1196 ?_
  rintro v9 N2 ⟨rfl, U, rfl, hU, hs⟩
  rw [z_rests hR.2.2.2.2.1]
  refine pw_isame (tgt := 1612) C dL_law_1199 rfl ?_
  exact K _ (hR.rest hKP (sh_fl hR.2.2.1 _) (P2.fl hR.2.2.2.2.1 (by rw [z_look hR.2.2.2.2.1])) hU hs)
set_option maxRecDepth 100000 in
set_option maxHeartbeats 1000000 in
theorem law_mixed {X : PX} {S : SW} {M : Mem} {b L : Nat} {sc : Nat → Int32} {i : Int} (C : Cx X S RL cL_law 11 448) (Q : Sc X b L sc) (hR : Rel M) (i0 : 0 ≤ i) (i1 : i + 10 ≤ (L : Int)) (K : ∀ M2 : Mem, Rel M2 → PW X S M2 1612 [some (.ref b), some (rv S 2 0 0), some (rv S 3 0 0), some (iv i)] []) : PW X S M 1204 [some (.ref b), some (rv S 2 0 0), some (rv S 3 0 0), some (iv i)] [] := by
  have hL := Q.2.2.2
  refine pw_aload_n C dL_law_1204 rfl ?_
  refine pw_aref C dL_law_1205 rfl ?_
  refine pw_iload_n C dL_law_1206 rfl ?_
  refine pw_iconst C dL_law_1207 ?_
  refine pw_iadd C dL_law_1208 ?_
  refine pw_sld C Q (by omega) (by omega) dL_law_1209 ?_
  refine pw_aref C dL_law_1210 rfl ?_
  refine pw_iload_n C dL_law_1211 rfl ?_
  refine pw_iconst C dL_law_1212 ?_
  refine pw_iadd C dL_law_1213 ?_
  refine pw_sld C Q (by omega) (by omega) dL_law_1214 ?_
  refine pw_aref C dL_law_1215 rfl ?_
  refine pw_iload_n C dL_law_1216 rfl ?_
  refine pw_iconst C dL_law_1217 ?_
  refine pw_iadd C dL_law_1218 ?_
  refine pw_sld C Q (by omega) (by omega) dL_law_1219 ?_
  refine pw_aref C dL_law_1220 rfl ?_
  refine pw_iload_n C dL_law_1221 rfl ?_
  refine pw_iconst C dL_law_1222 ?_
  refine pw_iadd C dL_law_1223 ?_
  refine pw_sld C Q (by omega) (by omega) dL_law_1224 ?_
  refine pw_aref C dL_law_1225 rfl ?_
  refine pw_iload_n C dL_law_1226 rfl ?_
  refine pw_iconst C dL_law_1227 ?_
  refine pw_iadd C dL_law_1228 ?_
  refine pw_sld C Q (by omega) (by omega) dL_law_1229 ?_
  refine pw_cVP C [_, _, _, _, _] mi_X8_mixed mv_X8_mixed ml_L_118 oC_0 rfl (c_X8_mixed (sv_R _ _) (sv_R _ _) (sv_R _ _) (sv_R _ _) (sv_R _ _) hR.1 hR.2.1 hR.2.2.1) (by decide) rfl (Nat.le_of_ble_eq_true rfl) dL_law_1230 ?_
  rintro v8 N ⟨rfl, hKP⟩
  refine pw_V 3 ?_
  rw [hKP.1]
  refine pw_aload_n C dL_law_1233 rfl ?_
  refine pw_aref C dL_law_1234 rfl ?_
  refine pw_iload_n C dL_law_1235 rfl ?_
  refine pw_iconst C dL_law_1236 ?_
  refine pw_iadd C dL_law_1237 ?_
  refine pw_sld C Q (by omega) (by omega) dL_law_1238 ?_
  refine pw_aref C dL_law_1239 rfl ?_
  refine pw_iload_n C dL_law_1240 rfl ?_
  refine pw_iconst C dL_law_1241 ?_
  refine pw_iadd C dL_law_1242 ?_
  refine pw_sld C Q (by omega) (by omega) dL_law_1243 ?_
  refine pw_aref C dL_law_1244 rfl ?_
  refine pw_iload_n C dL_law_1245 rfl ?_
  refine pw_iconst C dL_law_1246 ?_
  refine pw_iadd C dL_law_1247 ?_
  refine pw_sld C Q (by omega) (by omega) dL_law_1248 ?_
  refine pw_aref C dL_law_1249 rfl ?_
  refine pw_iload_n C dL_law_1250 rfl ?_
  refine pw_iconst C dL_law_1251 ?_
  refine pw_iadd C dL_law_1252 ?_
  refine pw_sld C Q (by omega) (by omega) dL_law_1253 ?_
  refine pw_aref C dL_law_1254 rfl ?_
  refine pw_iload_n C dL_law_1255 rfl ?_
  refine pw_iconst C dL_law_1256 ?_
  refine pw_iadd C dL_law_1257 ?_
  refine pw_sld C Q (by omega) (by omega) dL_law_1258 ?_
  refine pw_cVP C [_, _, _, _, _] mi_X9_mixed mv_X9_mixed ml_L_122 oM_0 rfl (c_X9_mixed (sv_R _ _) (sv_R _ _) (sv_R _ _) (sv_R _ _) (sv_R _ _) hR.i9 hR.s9) (by decide) rfl (Nat.le_of_ble_eq_true rfl) dL_law_1259 ?_
  rintro v9 N2 ⟨rfl, U, rfl, hU, hs⟩
  rw [z_mixed hR.2.2.2.2.1]
  refine pw_lsame C dL_law_1262 ?_
  refine pw_if_eq (tgt := 1612) C dL_law_1263 rfl ⟨by decide, by decide⟩ (fun _ => ?_) (fun h => absurd rfl h)
  exact K _ (hR.rest hKP (sh_fl hR.2.2.1 _) (P2.fl hR.2.2.2.2.1 (by rw [z_look hR.2.2.2.2.1])) hU hs)
set_option maxRecDepth 100000 in
set_option maxHeartbeats 1000000 in
theorem law_sheet {X : PX} {S : SW} {M : Mem} {b L : Nat} {sc : Nat → Int32} {i : Int} (C : Cx X S RL cL_law 11 448) (Q : Sc X b L sc) (hR : Rel M) (i0 : 0 ≤ i) (i1 : i + 10 ≤ (L : Int)) (K : ∀ M2 : Mem, Rel M2 → PW X S M2 1612 [some (.ref b), some (rv S 2 0 0), some (rv S 3 0 0), some (iv i)] []) : PW X S M 1268 [some (.ref b), some (rv S 2 0 0), some (rv S 3 0 0), some (iv i)] [] := by
  have hL := Q.2.2.2
  refine pw_aload_n C dL_law_1268 rfl ?_
  refine pw_aref C dL_law_1269 rfl ?_
  refine pw_iload_n C dL_law_1270 rfl ?_
  refine pw_iconst C dL_law_1271 ?_
  refine pw_iadd C dL_law_1272 ?_
  refine pw_sld C Q (by omega) (by omega) dL_law_1273 ?_
  refine pw_aref C dL_law_1274 rfl ?_
  refine pw_iload_n C dL_law_1275 rfl ?_
  refine pw_iconst C dL_law_1276 ?_
  refine pw_iadd C dL_law_1277 ?_
  refine pw_sld C Q (by omega) (by omega) dL_law_1278 ?_
  refine pw_aref C dL_law_1279 rfl ?_
  refine pw_iload_n C dL_law_1280 rfl ?_
  refine pw_iconst C dL_law_1281 ?_
  refine pw_iadd C dL_law_1282 ?_
  refine pw_sld C Q (by omega) (by omega) dL_law_1283 ?_
  refine pw_cVP C [_, _, _] mi_X8_sheet mv_X8_sheet ml_L_123 oC_0 rfl (c_X8_sheet (sv_R _ _) (sv_R _ _) (sv_R _ _) hR.1 hR.2.1 hR.2.2.1) (by decide) rfl (Nat.le_of_ble_eq_true rfl) dL_law_1284 ?_
  rintro v8 N ⟨rfl, hKP⟩
  refine pw_V 3 ?_
  rw [hKP.1]
  refine pw_aload_n C dL_law_1287 rfl ?_
  refine pw_aref C dL_law_1288 rfl ?_
  refine pw_iload_n C dL_law_1289 rfl ?_
  refine pw_iconst C dL_law_1290 ?_
  refine pw_iadd C dL_law_1291 ?_
  refine pw_sld C Q (by omega) (by omega) dL_law_1292 ?_
  refine pw_aref C dL_law_1293 rfl ?_
  refine pw_iload_n C dL_law_1294 rfl ?_
  refine pw_iconst C dL_law_1295 ?_
  refine pw_iadd C dL_law_1296 ?_
  refine pw_sld C Q (by omega) (by omega) dL_law_1297 ?_
  refine pw_aref C dL_law_1298 rfl ?_
  refine pw_iload_n C dL_law_1299 rfl ?_
  refine pw_iconst C dL_law_1300 ?_
  refine pw_iadd C dL_law_1301 ?_
  refine pw_sld C Q (by omega) (by omega) dL_law_1302 ?_
  refine pw_cVP C [_, _, _] mi_X9_sheet mv_X9_sheet ml_L_126 oM_0 rfl (c_X9_sheet (sv_R _ _) (sv_R _ _) (sv_R _ _) hR.i9 hR.s9) (by decide) rfl (Nat.le_of_ble_eq_true rfl) dL_law_1303 ?_
  rintro v9 N2 ⟨rfl, U, rfl, hU, hs⟩
  rw [z_sheet hR.2.2.2.2.1]
  refine pw_isame (tgt := 1612) C dL_law_1306 rfl ?_
  exact K _ (hR.rest hKP (sh_sheet hR.2.2.1 _ _ _) (zz_sheet hR.2.2.2.2.1 _ _ _) hU hs)
set_option maxRecDepth 100000 in
set_option maxHeartbeats 1000000 in
theorem law_lose {X : PX} {S : SW} {M : Mem} {b L : Nat} {sc : Nat → Int32} {i : Int} (C : Cx X S RL cL_law 11 448) (Q : Sc X b L sc) (hR : Rel M) (i0 : 0 ≤ i) (i1 : i + 10 ≤ (L : Int)) (K : ∀ M2 : Mem, Rel M2 → PW X S M2 1612 [some (.ref b), some (rv S 2 0 0), some (rv S 3 0 0), some (iv i)] []) : PW X S M 1311 [some (.ref b), some (rv S 2 0 0), some (rv S 3 0 0), some (iv i)] [] := by
  have hL := Q.2.2.2
  refine pw_aload_n C dL_law_1311 rfl ?_
  refine pw_aref C dL_law_1312 rfl ?_
  refine pw_iload_n C dL_law_1313 rfl ?_
  refine pw_iconst C dL_law_1314 ?_
  refine pw_iadd C dL_law_1315 ?_
  refine pw_sld C Q (by omega) (by omega) dL_law_1316 ?_
  refine pw_cVP C [_] mi_X8_lose mv_X8_lose ml_L_127 oC_0 rfl (c_X8_lose (sv_R _ _) hR.1 hR.2.1 hR.2.2.1) (by decide) rfl (Nat.le_of_ble_eq_true rfl) dL_law_1317 ?_
  rintro v8 N ⟨rfl, hKP⟩
  refine pw_V 3 ?_
  rw [hKP.1]
  refine pw_aload_n C dL_law_1320 rfl ?_
  refine pw_aref C dL_law_1321 rfl ?_
  refine pw_iload_n C dL_law_1322 rfl ?_
  refine pw_iconst C dL_law_1323 ?_
  refine pw_iadd C dL_law_1324 ?_
  refine pw_sld C Q (by omega) (by omega) dL_law_1325 ?_
  refine pw_cVP C [_] mi_X9_lose mv_X9_lose ml_L_130 oM_0 rfl (c_X9_lose (sv_R _ _) hR.i9 hR.s9) (by decide) rfl (Nat.le_of_ble_eq_true rfl) dL_law_1326 ?_
  rintro v9 N2 ⟨rfl, U, rfl, hU, hs⟩
  rw [z_lose hR.2.2.2.2.1]
  refine pw_isame (tgt := 1612) C dL_law_1329 rfl ?_
  exact K _ (hR.rest hKP (sh_lose hR.2.2.1 _) (zz_lose hR.2.2.2.2.1 _) hU hs)
set_option maxRecDepth 100000 in
set_option maxHeartbeats 1000000 in
theorem law_put {X : PX} {S : SW} {M : Mem} {b L : Nat} {sc : Nat → Int32} {i : Int} (C : Cx X S RL cL_law 11 448) (Q : Sc X b L sc) (hR : Rel M) (i0 : 0 ≤ i) (i1 : i + 10 ≤ (L : Int)) (K : ∀ M2 : Mem, Rel M2 → PW X S M2 1612 [some (.ref b), some (rv S 2 0 0), some (rv S 3 0 0), some (iv i)] []) : PW X S M 1334 [some (.ref b), some (rv S 2 0 0), some (rv S 3 0 0), some (iv i)] [] := by
  have hL := Q.2.2.2
  refine pw_aload_n C dL_law_1334 rfl ?_
  refine pw_aref C dL_law_1335 rfl ?_
  refine pw_iload_n C dL_law_1336 rfl ?_
  refine pw_iconst C dL_law_1337 ?_
  refine pw_iadd C dL_law_1338 ?_
  refine pw_sld C Q (by omega) (by omega) dL_law_1339 ?_
  refine pw_aref C dL_law_1340 rfl ?_
  refine pw_iload_n C dL_law_1341 rfl ?_
  refine pw_iconst C dL_law_1342 ?_
  refine pw_iadd C dL_law_1343 ?_
  refine pw_sld C Q (by omega) (by omega) dL_law_1344 ?_
  refine pw_aref C dL_law_1345 rfl ?_
  refine pw_iload_n C dL_law_1346 rfl ?_
  refine pw_iconst C dL_law_1347 ?_
  refine pw_iadd C dL_law_1348 ?_
  refine pw_sld C Q (by omega) (by omega) dL_law_1349 ?_
  refine pw_cVP C [_, _, _] mi_X8_put mv_X8_put ml_L_131 oC_0 rfl (c_X8_put (sv_R _ _) (sv_R _ _) (sv_R _ _) hR.1 hR.2.1 hR.2.2.1) (by decide) rfl (Nat.le_of_ble_eq_true rfl) dL_law_1350 ?_
  rintro v8 N ⟨rfl, hKP⟩
  refine pw_V 3 ?_
  rw [hKP.1]
  refine pw_aload_n C dL_law_1353 rfl ?_
  refine pw_aref C dL_law_1354 rfl ?_
  refine pw_iload_n C dL_law_1355 rfl ?_
  refine pw_iconst C dL_law_1356 ?_
  refine pw_iadd C dL_law_1357 ?_
  refine pw_sld C Q (by omega) (by omega) dL_law_1358 ?_
  refine pw_aref C dL_law_1359 rfl ?_
  refine pw_iload_n C dL_law_1360 rfl ?_
  refine pw_iconst C dL_law_1361 ?_
  refine pw_iadd C dL_law_1362 ?_
  refine pw_sld C Q (by omega) (by omega) dL_law_1363 ?_
  refine pw_aref C dL_law_1364 rfl ?_
  refine pw_iload_n C dL_law_1365 rfl ?_
  refine pw_iconst C dL_law_1366 ?_
  refine pw_iadd C dL_law_1367 ?_
  refine pw_sld C Q (by omega) (by omega) dL_law_1368 ?_
  refine pw_cVP C [_, _, _] mi_X9_put mv_X9_put ml_L_134 oM_0 rfl (c_X9_put (sv_R _ _) (sv_R _ _) (sv_R _ _) hR.i9 hR.s9) (by decide) rfl (Nat.le_of_ble_eq_true rfl) dL_law_1369 ?_
  rintro v9 N2 ⟨rfl, U, rfl, hU, hs⟩
  rw [z_put hR.2.2.2.2.1]
  refine pw_isame (tgt := 1612) C dL_law_1372 rfl ?_
  exact K _ (hR.rest hKP (sh_put hR.2.2.1 _ _ _) (zz_put hR.2.2.2.2.1 _ _ _) hU hs)
set_option maxRecDepth 100000 in
set_option maxHeartbeats 1000000 in
theorem law_cell {X : PX} {S : SW} {M : Mem} {b L : Nat} {sc : Nat → Int32} {i : Int} (C : Cx X S RL cL_law 11 448) (Q : Sc X b L sc) (hR : Rel M) (i0 : 0 ≤ i) (i1 : i + 10 ≤ (L : Int)) (K : ∀ M2 : Mem, Rel M2 → PW X S M2 1612 [some (.ref b), some (rv S 2 0 0), some (rv S 3 0 0), some (iv i)] []) : PW X S M 1377 [some (.ref b), some (rv S 2 0 0), some (rv S 3 0 0), some (iv i)] [] := by
  have hL := Q.2.2.2
  refine pw_aload_n C dL_law_1377 rfl ?_
  refine pw_aref C dL_law_1378 rfl ?_
  refine pw_iload_n C dL_law_1379 rfl ?_
  refine pw_iconst C dL_law_1380 ?_
  refine pw_iadd C dL_law_1381 ?_
  refine pw_sld C Q (by omega) (by omega) dL_law_1382 ?_
  refine pw_aref C dL_law_1383 rfl ?_
  refine pw_iload_n C dL_law_1384 rfl ?_
  refine pw_iconst C dL_law_1385 ?_
  refine pw_iadd C dL_law_1386 ?_
  refine pw_sld C Q (by omega) (by omega) dL_law_1387 ?_
  refine pw_aref C dL_law_1388 rfl ?_
  refine pw_iload_n C dL_law_1389 rfl ?_
  refine pw_iconst C dL_law_1390 ?_
  refine pw_iadd C dL_law_1391 ?_
  refine pw_sld C Q (by omega) (by omega) dL_law_1392 ?_
  refine pw_cVP C [_, _, _] mi_X8_cell mv_X8_cell ml_L_135 oC_0 rfl (c_X8_cell (sv_R _ _) (sv_R _ _) (sv_R _ _) hR.1 hR.2.1 hR.2.2.1) (by decide) rfl (Nat.le_of_ble_eq_true rfl) dL_law_1393 ?_
  rintro v8 N ⟨rfl, hKP⟩
  refine pw_V 3 ?_
  rw [hKP.1]
  refine pw_aload_n C dL_law_1396 rfl ?_
  refine pw_aref C dL_law_1397 rfl ?_
  refine pw_iload_n C dL_law_1398 rfl ?_
  refine pw_iconst C dL_law_1399 ?_
  refine pw_iadd C dL_law_1400 ?_
  refine pw_sld C Q (by omega) (by omega) dL_law_1401 ?_
  refine pw_aref C dL_law_1402 rfl ?_
  refine pw_iload_n C dL_law_1403 rfl ?_
  refine pw_iconst C dL_law_1404 ?_
  refine pw_iadd C dL_law_1405 ?_
  refine pw_sld C Q (by omega) (by omega) dL_law_1406 ?_
  refine pw_aref C dL_law_1407 rfl ?_
  refine pw_iload_n C dL_law_1408 rfl ?_
  refine pw_iconst C dL_law_1409 ?_
  refine pw_iadd C dL_law_1410 ?_
  refine pw_sld C Q (by omega) (by omega) dL_law_1411 ?_
  refine pw_cVP C [_, _, _] mi_X9_cell mv_X9_cell ml_L_138 oM_0 rfl (c_X9_cell (sv_R _ _) (sv_R _ _) (sv_R _ _) hR.i9 hR.s9) (by decide) rfl (Nat.le_of_ble_eq_true rfl) dL_law_1412 ?_
  rintro v9 N2 ⟨rfl, U, rfl, hU, hs⟩
  rw [z_cell hR.2.2.2.2.1]
  refine pw_lsame C dL_law_1415 ?_
  refine pw_if_eq (tgt := 1612) C dL_law_1416 rfl ⟨by decide, by decide⟩ (fun _ => ?_) (fun h => absurd rfl h)
  exact K _ (hR.rest hKP (sh_fl hR.2.2.1 _) (P2.fl hR.2.2.2.2.1 (by rw [z_look hR.2.2.2.2.1])) hU hs)
set_option maxRecDepth 100000 in
set_option maxHeartbeats 1000000 in
theorem law_copy {X : PX} {S : SW} {M : Mem} {b L : Nat} {sc : Nat → Int32} {i : Int} (C : Cx X S RL cL_law 11 448) (Q : Sc X b L sc) (hR : Rel M) (i0 : 0 ≤ i) (i1 : i + 10 ≤ (L : Int)) (K : ∀ M2 : Mem, Rel M2 → PW X S M2 1612 [some (.ref b), some (rv S 2 0 0), some (rv S 3 0 0), some (iv i)] []) : PW X S M 1421 [some (.ref b), some (rv S 2 0 0), some (rv S 3 0 0), some (iv i)] [] := by
  have hL := Q.2.2.2
  refine pw_aload_n C dL_law_1421 rfl ?_
  refine pw_aref C dL_law_1422 rfl ?_
  refine pw_iload_n C dL_law_1423 rfl ?_
  refine pw_iconst C dL_law_1424 ?_
  refine pw_iadd C dL_law_1425 ?_
  refine pw_sld C Q (by omega) (by omega) dL_law_1426 ?_
  refine pw_aref C dL_law_1427 rfl ?_
  refine pw_iload_n C dL_law_1428 rfl ?_
  refine pw_iconst C dL_law_1429 ?_
  refine pw_iadd C dL_law_1430 ?_
  refine pw_sld C Q (by omega) (by omega) dL_law_1431 ?_
  refine pw_aref C dL_law_1432 rfl ?_
  refine pw_iload_n C dL_law_1433 rfl ?_
  refine pw_iconst C dL_law_1434 ?_
  refine pw_iadd C dL_law_1435 ?_
  refine pw_sld C Q (by omega) (by omega) dL_law_1436 ?_
  refine pw_aref C dL_law_1437 rfl ?_
  refine pw_iload_n C dL_law_1438 rfl ?_
  refine pw_iconst C dL_law_1439 ?_
  refine pw_iadd C dL_law_1440 ?_
  refine pw_sld C Q (by omega) (by omega) dL_law_1441 ?_
  refine pw_aref C dL_law_1442 rfl ?_
  refine pw_iload_n C dL_law_1443 rfl ?_
  refine pw_iconst C dL_law_1444 ?_
  refine pw_iadd C dL_law_1445 ?_
  refine pw_sld C Q (by omega) (by omega) dL_law_1446 ?_
  refine pw_cVP C [_, _, _, _, _] mi_X8_copy mv_X8_copy ml_L_139 oC_0 rfl (c_X8_copy (sv_R _ _) (sv_R _ _) (sv_R _ _) (sv_R _ _) (sv_R _ _) hR.1 hR.2.1 hR.2.2.1) (by decide) rfl (Nat.le_of_ble_eq_true rfl) dL_law_1447 ?_
  rintro v8 N ⟨rfl, hKP⟩
  refine pw_V 3 ?_
  rw [hKP.1]
  refine pw_aload_n C dL_law_1450 rfl ?_
  refine pw_aref C dL_law_1451 rfl ?_
  refine pw_iload_n C dL_law_1452 rfl ?_
  refine pw_iconst C dL_law_1453 ?_
  refine pw_iadd C dL_law_1454 ?_
  refine pw_sld C Q (by omega) (by omega) dL_law_1455 ?_
  refine pw_aref C dL_law_1456 rfl ?_
  refine pw_iload_n C dL_law_1457 rfl ?_
  refine pw_iconst C dL_law_1458 ?_
  refine pw_iadd C dL_law_1459 ?_
  refine pw_sld C Q (by omega) (by omega) dL_law_1460 ?_
  refine pw_aref C dL_law_1461 rfl ?_
  refine pw_iload_n C dL_law_1462 rfl ?_
  refine pw_iconst C dL_law_1463 ?_
  refine pw_iadd C dL_law_1464 ?_
  refine pw_sld C Q (by omega) (by omega) dL_law_1465 ?_
  refine pw_aref C dL_law_1466 rfl ?_
  refine pw_iload_n C dL_law_1467 rfl ?_
  refine pw_iconst C dL_law_1468 ?_
  refine pw_iadd C dL_law_1469 ?_
  refine pw_sld C Q (by omega) (by omega) dL_law_1470 ?_
  refine pw_aref C dL_law_1471 rfl ?_
  refine pw_iload_n C dL_law_1472 rfl ?_
  refine pw_iconst C dL_law_1473 ?_
  refine pw_iadd C dL_law_1474 ?_
  refine pw_sld C Q (by omega) (by omega) dL_law_1475 ?_
  refine pw_cVP C [_, _, _, _, _] mi_X9_copy mv_X9_copy ml_L_142 oM_0 rfl (c_X9_copy (sv_R _ _) (sv_R _ _) (sv_R _ _) (sv_R _ _) (sv_R _ _) hR.i9 hR.s9) (by decide) rfl (Nat.le_of_ble_eq_true rfl) dL_law_1476 ?_
  rintro v9 N2 ⟨rfl, U, rfl, hU, hs⟩
  rw [z_copy hR.2.2.2.2.1]
  refine pw_isame (tgt := 1612) C dL_law_1479 rfl ?_
  exact K _ (hR.rest hKP (sh_copy hR.2.2.1 _ _ _ _ _) (zz_copy hR.2.2.2.2.1 _ _ _ _ _) hU hs)
set_option maxRecDepth 100000 in
set_option maxHeartbeats 1000000 in
theorem law_tell {X : PX} {S : SW} {M : Mem} {b L : Nat} {sc : Nat → Int32} {i : Int} (C : Cx X S RL cL_law 11 448) (Q : Sc X b L sc) (hR : Rel M) (i0 : 0 ≤ i) (i1 : i + 10 ≤ (L : Int)) (K : ∀ M2 : Mem, Rel M2 → PW X S M2 1612 [some (.ref b), some (rv S 2 0 0), some (rv S 3 0 0), some (iv i)] []) : PW X S M 1484 [some (.ref b), some (rv S 2 0 0), some (rv S 3 0 0), some (iv i)] [] := by
  have hL := Q.2.2.2
  refine pw_aload_n C dL_law_1484 rfl ?_
  refine pw_aref C dL_law_1485 rfl ?_
  refine pw_iload_n C dL_law_1486 rfl ?_
  refine pw_iconst C dL_law_1487 ?_
  refine pw_iadd C dL_law_1488 ?_
  refine pw_sld C Q (by omega) (by omega) dL_law_1489 ?_
  refine pw_cVP C [_] mi_X8_tell mv_X8_tell ml_L_143 oC_0 rfl (c_X8_tell (sv_R _ _) hR.1 hR.2.1 hR.2.2.1) (by decide) rfl (Nat.le_of_ble_eq_true rfl) dL_law_1490 ?_
  rintro v8 N ⟨rfl, hKP⟩
  refine pw_V 3 ?_
  rw [hKP.1]
  refine pw_aload_n C dL_law_1493 rfl ?_
  refine pw_aref C dL_law_1494 rfl ?_
  refine pw_iload_n C dL_law_1495 rfl ?_
  refine pw_iconst C dL_law_1496 ?_
  refine pw_iadd C dL_law_1497 ?_
  refine pw_sld C Q (by omega) (by omega) dL_law_1498 ?_
  refine pw_cVP C [_] mi_X9_tell mv_X9_tell ml_L_146 oM_0 rfl (c_X9_tell (sv_R _ _) hR.i9 hR.s9) (by decide) rfl (Nat.le_of_ble_eq_true rfl) dL_law_1499 ?_
  rintro v9 N2 ⟨rfl, U, rfl, hU, hs⟩
  rw [e_tell hR.2.2.2.1]
  refine pw_isame (tgt := 1612) C dL_law_1502 rfl ?_
  exact K _ (hR.rest hKP (sh_tell _ hR.2.2.1 _) (zz_tell hR.2.2.2.1 hR.2.2.2.2.1 _) hU hs)
set_option maxRecDepth 100000 in
set_option maxHeartbeats 1000000 in
theorem law_greet {X : PX} {S : SW} {M : Mem} {b L : Nat} {sc : Nat → Int32} {i : Int} (C : Cx X S RL cL_law 11 448) (Q : Sc X b L sc) (hR : Rel M) (i0 : 0 ≤ i) (i1 : i + 10 ≤ (L : Int)) (K : ∀ M2 : Mem, Rel M2 → PW X S M2 1612 [some (.ref b), some (rv S 2 0 0), some (rv S 3 0 0), some (iv i)] []) : PW X S M 1507 [some (.ref b), some (rv S 2 0 0), some (rv S 3 0 0), some (iv i)] [] := by
  have hL := Q.2.2.2
  refine pw_aload_n C dL_law_1507 rfl ?_
  refine pw_aref C dL_law_1508 rfl ?_
  refine pw_iload_n C dL_law_1509 rfl ?_
  refine pw_iconst C dL_law_1510 ?_
  refine pw_iadd C dL_law_1511 ?_
  refine pw_sld C Q (by omega) (by omega) dL_law_1512 ?_
  refine pw_cVP C [_] mi_X8_greet mv_X8_greet ml_L_147 oC_0 rfl (c_X8_greet (sv_R _ _) hR.1 hR.2.1 hR.2.2.1) (by decide) rfl (Nat.le_of_ble_eq_true rfl) dL_law_1513 ?_
  rintro v8 N ⟨rfl, hKP⟩
  refine pw_V 3 ?_
  rw [hKP.1]
  refine pw_aload_n C dL_law_1516 rfl ?_
  refine pw_aref C dL_law_1517 rfl ?_
  refine pw_iload_n C dL_law_1518 rfl ?_
  refine pw_iconst C dL_law_1519 ?_
  refine pw_iadd C dL_law_1520 ?_
  refine pw_sld C Q (by omega) (by omega) dL_law_1521 ?_
  refine pw_cVP C [_] mi_X9_greet mv_X9_greet ml_L_150 oM_0 rfl (c_X9_greet (sv_R _ _) hR.i9 hR.s9) (by decide) rfl (Nat.le_of_ble_eq_true rfl) dL_law_1522 ?_
  rintro v9 N2 ⟨rfl, U, rfl, hU, hs⟩
  rw [e_greet hR.2.2.2.1]
  refine pw_isame (tgt := 1612) C dL_law_1525 rfl ?_
  exact K _ (hR.rest hKP (sh_greet _ hR.2.2.1 _) (zz_greet hR.2.2.2.1 hR.2.2.2.2.1 _) hU hs)
set_option maxRecDepth 100000 in
set_option maxHeartbeats 1000000 in
theorem law_as {X : PX} {S : SW} {M : Mem} {b L : Nat} {sc : Nat → Int32} {i : Int} (C : Cx X S RL cL_law 11 448) (Q : Sc X b L sc) (hR : Rel M) (i0 : 0 ≤ i) (i1 : i + 10 ≤ (L : Int)) (K : ∀ M2 : Mem, Rel M2 → PW X S M2 1612 [some (.ref b), some (rv S 2 0 0), some (rv S 3 0 0), some (iv i)] []) : PW X S M 1530 [some (.ref b), some (rv S 2 0 0), some (rv S 3 0 0), some (iv i)] [] := by
  have hL := Q.2.2.2
  refine pw_aload_n C dL_law_1530 rfl ?_
  refine pw_aref C dL_law_1531 rfl ?_
  refine pw_iload_n C dL_law_1532 rfl ?_
  refine pw_iconst C dL_law_1533 ?_
  refine pw_iadd C dL_law_1534 ?_
  refine pw_sld C Q (by omega) (by omega) dL_law_1535 ?_
  refine pw_aref C dL_law_1536 rfl ?_
  refine pw_iload_n C dL_law_1537 rfl ?_
  refine pw_iconst C dL_law_1538 ?_
  refine pw_iadd C dL_law_1539 ?_
  refine pw_sld C Q (by omega) (by omega) dL_law_1540 ?_
  refine pw_cVP C [_, _] mi_X8_as mv_X8_as ml_L_151 oC_0 rfl (c_X8_as (sv_R _ _) (sv_R _ _) hR.1 hR.2.1 hR.2.2.1) (by decide) rfl (Nat.le_of_ble_eq_true rfl) dL_law_1541 ?_
  rintro v8 N ⟨rfl, hKP⟩
  refine pw_V 3 ?_
  rw [hKP.1]
  refine pw_aload_n C dL_law_1544 rfl ?_
  refine pw_aref C dL_law_1545 rfl ?_
  refine pw_iload_n C dL_law_1546 rfl ?_
  refine pw_iconst C dL_law_1547 ?_
  refine pw_iadd C dL_law_1548 ?_
  refine pw_sld C Q (by omega) (by omega) dL_law_1549 ?_
  refine pw_aref C dL_law_1550 rfl ?_
  refine pw_iload_n C dL_law_1551 rfl ?_
  refine pw_iconst C dL_law_1552 ?_
  refine pw_iadd C dL_law_1553 ?_
  refine pw_sld C Q (by omega) (by omega) dL_law_1554 ?_
  refine pw_cVP C [_, _] mi_X9_as mv_X9_as ml_L_154 oM_0 rfl (c_X9_as (sv_R _ _) (sv_R _ _) hR.i9 hR.s9) (by decide) rfl (Nat.le_of_ble_eq_true rfl) dL_law_1555 ?_
  rintro v9 N2 ⟨rfl, U, rfl, hU, hs⟩
  rw [e_as hR.2.2.2.1]
  refine pw_isame (tgt := 1612) C dL_law_1558 rfl ?_
  exact K _ (hR.rest hKP (sh_fl hR.2.2.1 _) (P2.fl hR.2.2.2.2.1 (by rw [e_as hR.2.2.2.1])) hU hs)
set_option maxRecDepth 100000 in
set_option maxHeartbeats 1000000 in
theorem law_trace {X : PX} {S : SW} {M : Mem} {b L : Nat} {sc : Nat → Int32} {i : Int} (C : Cx X S RL cL_law 11 448) (Q : Sc X b L sc) (hR : Rel M) (i0 : 0 ≤ i) (i1 : i + 10 ≤ (L : Int)) (K : ∀ M2 : Mem, Rel M2 → PW X S M2 1612 [some (.ref b), some (rv S 2 0 0), some (rv S 3 0 0), some (iv i)] []) : PW X S M 1563 [some (.ref b), some (rv S 2 0 0), some (rv S 3 0 0), some (iv i)] [] := by
  have hL := Q.2.2.2
  refine pw_aload_n C dL_law_1563 rfl ?_
  refine pw_cVP C [] mi_X8_trace mv_X8_trace ml_L_155 oC_0 rfl (c_X8_trace  hR.1 hR.2.1 hR.2.2.1) (by decide) rfl (Nat.le_of_ble_eq_true rfl) dL_law_1564 ?_
  rintro v8 N ⟨rfl, hKP⟩
  refine pw_V 3 ?_
  rw [hKP.1]
  refine pw_aload_n C dL_law_1567 rfl ?_
  refine pw_cVP C [] mi_X9_trace mv_X9_trace ml_L_159 oM_0 rfl (c_X9_trace  hR.i9 hR.s9) (by decide) rfl (Nat.le_of_ble_eq_true rfl) dL_law_1568 ?_
  rintro v9 N2 ⟨rfl, U, rfl, hU, hs⟩
  rw [hR.2.2.2.2.1 0 0 5 (Or.inl rfl)]
  refine pw_isame (tgt := 1612) C dL_law_1571 rfl ?_
  exact K _ (hR.same hKP hU hs)
set_option maxRecDepth 100000 in
set_option maxHeartbeats 1000000 in
theorem law_fault {X : PX} {S : SW} {M : Mem} {b L : Nat} {sc : Nat → Int32} {i : Int} (C : Cx X S RL cL_law 11 448) (Q : Sc X b L sc) (hR : Rel M) (i0 : 0 ≤ i) (i1 : i + 10 ≤ (L : Int)) (K : ∀ M2 : Mem, Rel M2 → PW X S M2 1612 [some (.ref b), some (rv S 2 0 0), some (rv S 3 0 0), some (iv i)] []) : PW X S M 1576 [some (.ref b), some (rv S 2 0 0), some (rv S 3 0 0), some (iv i)] [] := by
  have hL := Q.2.2.2
  refine pw_aload_n C dL_law_1576 rfl ?_
  refine pw_cVP C [] mi_X8_fault mv_X8_fault ml_L_160 oC_0 rfl (c_X8_fault  hR.1 hR.2.1 hR.2.2.1) (by decide) rfl (Nat.le_of_ble_eq_true rfl) dL_law_1577 ?_
  rintro v8 N ⟨rfl, hKP⟩
  refine pw_V 3 ?_
  rw [hKP.1]
  refine pw_aload_n C dL_law_1580 rfl ?_
  refine pw_cVP C [] mi_X9_fault mv_X9_fault ml_L_163 oM_0 rfl (c_X9_fault  hR.i9 hR.s9) (by decide) rfl (Nat.le_of_ble_eq_true rfl) dL_law_1581 ?_
  rintro v9 N2 ⟨rfl, U, rfl, hU, hs⟩
  rw [hR.2.2.2.2.1 0 0 6 (Or.inl rfl)]
  refine pw_isame (tgt := 1612) C dL_law_1584 rfl ?_
  exact K _ (hR.same hKP hU hs)
set_option maxRecDepth 100000 in
set_option maxHeartbeats 1000000 in
theorem law_many {X : PX} {S : SW} {M : Mem} {b L : Nat} {sc : Nat → Int32} {i : Int} (C : Cx X S RL cL_law 11 448) (Q : Sc X b L sc) (hR : Rel M) (i0 : 0 ≤ i) (i1 : i + 10 ≤ (L : Int)) (K : ∀ M2 : Mem, Rel M2 → PW X S M2 1612 [some (.ref b), some (rv S 2 0 0), some (rv S 3 0 0), some (iv i)] []) : PW X S M 1589 [some (.ref b), some (rv S 2 0 0), some (rv S 3 0 0), some (iv i)] [] := by
  have hL := Q.2.2.2
  refine pw_aload_n C dL_law_1589 rfl ?_
  refine pw_aref C dL_law_1590 rfl ?_
  refine pw_iload_n C dL_law_1591 rfl ?_
  refine pw_iconst C dL_law_1592 ?_
  refine pw_iadd C dL_law_1593 ?_
  refine pw_sld C Q (by omega) (by omega) dL_law_1594 ?_
  refine pw_cVP C [_] mi_X8_many mv_X8_many ml_L_164 oC_0 rfl (c_X8_many (sv_R _ _) hR.1 hR.2.1 hR.2.2.1) (by decide) rfl (Nat.le_of_ble_eq_true rfl) dL_law_1595 ?_
  rintro v8 N ⟨rfl, hKP⟩
  refine pw_V 3 ?_
  rw [hKP.1]
  refine pw_aload_n C dL_law_1598 rfl ?_
  refine pw_aref C dL_law_1599 rfl ?_
  refine pw_iload_n C dL_law_1600 rfl ?_
  refine pw_iconst C dL_law_1601 ?_
  refine pw_iadd C dL_law_1602 ?_
  refine pw_sld C Q (by omega) (by omega) dL_law_1603 ?_
  refine pw_cVP C [_] mi_X9_many mv_X9_many ml_L_167 oM_0 rfl (c_X9_many (sv_R _ _) hR.i9 hR.s9) (by decide) rfl (Nat.le_of_ble_eq_true rfl) dL_law_1604 ?_
  rintro v9 N2 ⟨rfl, U, rfl, hU, hs⟩
  rw [e_many hR.2.2.2.1]
  refine pw_isame (tgt := 1612) C dL_law_1607 rfl ?_
  exact K _ (hR.same hKP hU hs)
