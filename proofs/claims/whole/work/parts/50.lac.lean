section P50
theorem ixs {G : Gb} {i : Nat} (j : Nat) (hj : j ≤ 4) (hi : i + 5 ≤ G.L) (hL : G.L < 2 ^ 31) : Ix (nI i + nI j) (i + j) G.L := ⟨nI_add i j, by omega, hL⟩
variable {l : Launch} {G : Gb} {h H0 X Y h' : List Ce} {r : Rs} {w ht sd pl ln i k : Nat} {md sh hi : Bool} {sx sy : Int32} {c1 : List Value}
theorem law_pixel (hi9 : i + 5 ≤ G.L) (hGL : G.L < 2 ^ 31) {b : Int32} (d1 : Do l G k_La_pixel [.ref 1, .int (G.xs (i + 1)), .int (G.xs (i + 2)), .int (G.xs (i + 3)), .int (G.xs (i + 4)), .ref 46] h (ri (nI k)) X) (d2 : Do l G k_Mo_pixel [.ref 28, .int (G.xs (i + 1)), .int (G.xs (i + 2)), .int (G.xs (i + 3)), .int (G.xs (i + 4))] X (ri b) Y) (cX : X[27]? = some (.inr (8, c1))) (cY : Y[27]? = some (MoO (nI k) w ht sd md pl sh sx sy ln hi)) (hk : k ≤ 3) (ho : k = 0 → ∃ z, Y[45]? = some (LA z) ∧ z z0 = b.toInt64) (kk : V l G k_La_law H0 1438 [(0, .ref 0), (1, .ref 1), (2, .ref 28), (3, .ref 46), (4, .int (nI i))] [] Y r h') : V l G k_La_law H0 160 [(0, .ref 0), (1, .ref 1), (2, .ref 28), (3, .ref 46), (4, .int (nI i))] [] h r h' := by
  refine V_aload_n d_La_law_160 rfl ?_
  refine V_aload_n d_La_law_161 rfl ?_
  refine V_iload d_La_law_162 rfl ?_
  refine V_iconst (v := 1) d_La_law_164 (by decide) ?_
  refine V_iadd d_La_law_165 ?_
  refine V_sldN d_La_law_166 (ixs 1 (by omega) hi9 hGL) ?_
  refine V_aload_n d_La_law_167 rfl ?_
  refine V_iload d_La_law_168 rfl ?_
  refine V_iconst (v := 2) d_La_law_170 (by decide) ?_
  refine V_iadd d_La_law_171 ?_
  refine V_sldN d_La_law_172 (ixs 2 (by omega) hi9 hGL) ?_
  refine V_aload_n d_La_law_173 rfl ?_
  refine V_iload d_La_law_174 rfl ?_
  refine V_iconst (v := 3) d_La_law_176 (by decide) ?_
  refine V_iadd d_La_law_177 ?_
  refine V_sldN d_La_law_178 (ixs 3 (by omega) hi9 hGL) ?_
  refine V_aload_n d_La_law_179 rfl ?_
  refine V_iload d_La_law_180 rfl ?_
  refine V_iconst (v := 4) d_La_law_182 (by decide) ?_
  refine V_iadd d_La_law_183 ?_
  refine V_sldN d_La_law_184 (ixs 4 (by omega) hi9 hGL) ?_
  refine V_aload_n d_La_law_185 rfl ?_
  refine V_cS s_La_law_186 d1 rfl rfl (Nat.le_of_ble_eq_true rfl) ?_
  refine V_istore d_La_law_189 (by decide) rfl ?_
  refine V_aload_n d_La_law_191 rfl ?_
  refine V_aload_n d_La_law_192 rfl ?_
  refine V_iload d_La_law_193 rfl ?_
  refine V_iconst (v := 1) d_La_law_195 (by decide) ?_
  refine V_iadd d_La_law_196 ?_
  refine V_sldN d_La_law_197 (ixs 1 (by omega) hi9 hGL) ?_
  refine V_aload_n d_La_law_198 rfl ?_
  refine V_iload d_La_law_199 rfl ?_
  refine V_iconst (v := 2) d_La_law_201 (by decide) ?_
  refine V_iadd d_La_law_202 ?_
  refine V_sldN d_La_law_203 (ixs 2 (by omega) hi9 hGL) ?_
  refine V_aload_n d_La_law_204 rfl ?_
  refine V_iload d_La_law_205 rfl ?_
  refine V_iconst (v := 3) d_La_law_207 (by decide) ?_
  refine V_iadd d_La_law_208 ?_
  refine V_sldN d_La_law_209 (ixs 3 (by omega) hi9 hGL) ?_
  refine V_aload_n d_La_law_210 rfl ?_
  refine V_iload d_La_law_211 rfl ?_
  refine V_iconst (v := 4) d_La_law_213 (by decide) ?_
  refine V_iadd d_La_law_214 ?_
  refine V_sldN d_La_law_215 (ixs 4 (by omega) hi9 hGL) ?_
  refine V_cV s_La_law_216 d2 cX rfl rfl (Nat.le_of_ble_eq_true rfl) ?_
  refine V_istore d_La_law_219 (by decide) rfl ?_
  refine V_aload_n d_La_law_221 rfl ?_
  refine V_cV s_La_law_222 (mo_thrown cY) cY rfl rfl (Nat.le_of_ble_eq_true rfl) ?_
  refine V_iload d_La_law_225 rfl ?_
  refine V_icmp_eq (tgt := 232) d_La_law_227 (by decide) (fun _ => ?_) (fun c9 => absurd ((rfl : nI k = nI k)) c9)
  refine V_iload d_La_law_232 rfl ?_
  rcases Nat.eq_zero_or_pos k with q9 | q9
  · obtain ⟨z, hz1, hz2⟩ := ho q9
    refine V_if_ne (tgt := 249) d_La_law_234 (by decide) (fun c9 => absurd ((by rw [q9]; rfl)) c9) (fun _ => ?_)
    refine V_aload_n d_La_law_237 rfl ?_
    refine V_iconst (v := 0) d_La_law_238 (by decide) ?_
    refine V_lald d_La_law_239 hz1 vin0 ?_
    refine V_iload d_La_law_240 rfl ?_
    refine V_i2l d_La_law_242 ?_
    refine V_lcmp d_La_law_243 ?_
    refine V_if_eq (tgt := 249) d_La_law_244 (by decide) (fun _ => ?_) (fun c9 => absurd (((lgc0 _ _).mpr hz2)) c9)
    refine V_goto (tgt := 1438) d_La_law_249 (by decide) ?_
    refine V_keep [0, 1, 2, 3, 4] ?_
    exact kk
  · refine V_if_ne (tgt := 249) d_La_law_234 (by decide) (fun _ => ?_) (fun c9 => absurd (c9 : _) ((nI_ne0 q9 (by omega))))
    refine V_goto (tgt := 1438) d_La_law_249 (by decide) ?_
    refine V_keep [0, 1, 2, 3, 4] ?_
    exact kk
theorem law_match (hi9 : i + 5 ≤ G.L) (hGL : G.L < 2 ^ 31) {b : Int32} (d1 : Do l G k_La_match [.ref 1, .int (G.xs (i + 1)), .int (G.xs (i + 2)), .int (G.xs (i + 3)), .int (G.xs (i + 4)), .ref 46] h (ri (nI k)) X) (d2 : Do l G k_Mo_match [.ref 28, .int (G.xs (i + 1)), .int (G.xs (i + 2)), .int (G.xs (i + 3)), .int (G.xs (i + 4))] X (ri b) Y) (cX : X[27]? = some (.inr (8, c1))) (cY : Y[27]? = some (MoO (nI k) w ht sd md pl sh sx sy ln hi)) (hk : k ≤ 3) (ho : k = 0 → ∃ z, Y[45]? = some (LA z) ∧ z z0 = b.toInt64) (kk : V l G k_La_law H0 1438 [(0, .ref 0), (1, .ref 1), (2, .ref 28), (3, .ref 46), (4, .int (nI i))] [] Y r h') : V l G k_La_law H0 252 [(0, .ref 0), (1, .ref 1), (2, .ref 28), (3, .ref 46), (4, .int (nI i))] [] h r h' := by
  refine V_aload_n d_La_law_252 rfl ?_
  refine V_aload_n d_La_law_253 rfl ?_
  refine V_iload d_La_law_254 rfl ?_
  refine V_iconst (v := 1) d_La_law_256 (by decide) ?_
  refine V_iadd d_La_law_257 ?_
  refine V_sldN d_La_law_258 (ixs 1 (by omega) hi9 hGL) ?_
  refine V_aload_n d_La_law_259 rfl ?_
  refine V_iload d_La_law_260 rfl ?_
  refine V_iconst (v := 2) d_La_law_262 (by decide) ?_
  refine V_iadd d_La_law_263 ?_
  refine V_sldN d_La_law_264 (ixs 2 (by omega) hi9 hGL) ?_
  refine V_aload_n d_La_law_265 rfl ?_
  refine V_iload d_La_law_266 rfl ?_
  refine V_iconst (v := 3) d_La_law_268 (by decide) ?_
  refine V_iadd d_La_law_269 ?_
  refine V_sldN d_La_law_270 (ixs 3 (by omega) hi9 hGL) ?_
  refine V_aload_n d_La_law_271 rfl ?_
  refine V_iload d_La_law_272 rfl ?_
  refine V_iconst (v := 4) d_La_law_274 (by decide) ?_
  refine V_iadd d_La_law_275 ?_
  refine V_sldN d_La_law_276 (ixs 4 (by omega) hi9 hGL) ?_
  refine V_aload_n d_La_law_277 rfl ?_
  refine V_cS s_La_law_278 d1 rfl rfl (Nat.le_of_ble_eq_true rfl) ?_
  refine V_istore d_La_law_281 (by decide) rfl ?_
  refine V_aload_n d_La_law_283 rfl ?_
  refine V_aload_n d_La_law_284 rfl ?_
  refine V_iload d_La_law_285 rfl ?_
  refine V_iconst (v := 1) d_La_law_287 (by decide) ?_
  refine V_iadd d_La_law_288 ?_
  refine V_sldN d_La_law_289 (ixs 1 (by omega) hi9 hGL) ?_
  refine V_aload_n d_La_law_290 rfl ?_
  refine V_iload d_La_law_291 rfl ?_
  refine V_iconst (v := 2) d_La_law_293 (by decide) ?_
  refine V_iadd d_La_law_294 ?_
  refine V_sldN d_La_law_295 (ixs 2 (by omega) hi9 hGL) ?_
  refine V_aload_n d_La_law_296 rfl ?_
  refine V_iload d_La_law_297 rfl ?_
  refine V_iconst (v := 3) d_La_law_299 (by decide) ?_
  refine V_iadd d_La_law_300 ?_
  refine V_sldN d_La_law_301 (ixs 3 (by omega) hi9 hGL) ?_
  refine V_aload_n d_La_law_302 rfl ?_
  refine V_iload d_La_law_303 rfl ?_
  refine V_iconst (v := 4) d_La_law_305 (by decide) ?_
  refine V_iadd d_La_law_306 ?_
  refine V_sldN d_La_law_307 (ixs 4 (by omega) hi9 hGL) ?_
  refine V_cV s_La_law_308 d2 cX rfl rfl (Nat.le_of_ble_eq_true rfl) ?_
  refine V_istore d_La_law_311 (by decide) rfl ?_
  refine V_aload_n d_La_law_313 rfl ?_
  refine V_cV s_La_law_314 (mo_thrown cY) cY rfl rfl (Nat.le_of_ble_eq_true rfl) ?_
  refine V_iload d_La_law_317 rfl ?_
  refine V_icmp_eq (tgt := 324) d_La_law_319 (by decide) (fun _ => ?_) (fun c9 => absurd ((rfl : nI k = nI k)) c9)
  refine V_iload d_La_law_324 rfl ?_
  rcases Nat.eq_zero_or_pos k with q9 | q9
  · obtain ⟨z, hz1, hz2⟩ := ho q9
    refine V_if_ne (tgt := 341) d_La_law_326 (by decide) (fun c9 => absurd ((by rw [q9]; rfl)) c9) (fun _ => ?_)
    refine V_aload_n d_La_law_329 rfl ?_
    refine V_iconst (v := 0) d_La_law_330 (by decide) ?_
    refine V_lald d_La_law_331 hz1 vin0 ?_
    refine V_iload d_La_law_332 rfl ?_
    refine V_i2l d_La_law_334 ?_
    refine V_lcmp d_La_law_335 ?_
    refine V_if_eq (tgt := 341) d_La_law_336 (by decide) (fun _ => ?_) (fun c9 => absurd (((lgc0 _ _).mpr hz2)) c9)
    refine V_goto (tgt := 1438) d_La_law_341 (by decide) ?_
    refine V_keep [0, 1, 2, 3, 4] ?_
    exact kk
  · refine V_if_ne (tgt := 341) d_La_law_326 (by decide) (fun _ => ?_) (fun c9 => absurd (c9 : _) ((nI_ne0 q9 (by omega))))
    refine V_goto (tgt := 1438) d_La_law_341 (by decide) ?_
    refine V_keep [0, 1, 2, 3, 4] ?_
    exact kk
theorem law_found (hi9 : i + 5 ≤ G.L) (hGL : G.L < 2 ^ 31) {b : Int32} (d1 : Do l G k_La_found [.ref 1, .int (G.xs (i + 1)), .ref 46] h (ri (nI k)) X) (d2 : Do l G k_Mo_found [.ref 28, .int (G.xs (i + 1))] X (ri b) Y) (cX : X[27]? = some (.inr (8, c1))) (cY : Y[27]? = some (MoO (nI k) w ht sd md pl sh sx sy ln hi)) (hk : k ≤ 3) (ho : k = 0 → ∃ z, Y[45]? = some (LA z) ∧ z z0 = b.toInt64) (kk : V l G k_La_law H0 1438 [(0, .ref 0), (1, .ref 1), (2, .ref 28), (3, .ref 46), (4, .int (nI i))] [] Y r h') : V l G k_La_law H0 344 [(0, .ref 0), (1, .ref 1), (2, .ref 28), (3, .ref 46), (4, .int (nI i))] [] h r h' := by
  refine V_aload_n d_La_law_344 rfl ?_
  refine V_aload_n d_La_law_345 rfl ?_
  refine V_iload d_La_law_346 rfl ?_
  refine V_iconst (v := 1) d_La_law_348 (by decide) ?_
  refine V_iadd d_La_law_349 ?_
  refine V_sldN d_La_law_350 (ixs 1 (by omega) hi9 hGL) ?_
  refine V_aload_n d_La_law_351 rfl ?_
  refine V_cS s_La_law_352 d1 rfl rfl (Nat.le_of_ble_eq_true rfl) ?_
  refine V_istore d_La_law_355 (by decide) rfl ?_
  refine V_aload_n d_La_law_357 rfl ?_
  refine V_aload_n d_La_law_358 rfl ?_
  refine V_iload d_La_law_359 rfl ?_
  refine V_iconst (v := 1) d_La_law_361 (by decide) ?_
  refine V_iadd d_La_law_362 ?_
  refine V_sldN d_La_law_363 (ixs 1 (by omega) hi9 hGL) ?_
  refine V_cV s_La_law_364 d2 cX rfl rfl (Nat.le_of_ble_eq_true rfl) ?_
  refine V_istore d_La_law_367 (by decide) rfl ?_
  refine V_aload_n d_La_law_369 rfl ?_
  refine V_cV s_La_law_370 (mo_thrown cY) cY rfl rfl (Nat.le_of_ble_eq_true rfl) ?_
  refine V_iload d_La_law_373 rfl ?_
  refine V_icmp_eq (tgt := 380) d_La_law_375 (by decide) (fun _ => ?_) (fun c9 => absurd ((rfl : nI k = nI k)) c9)
  refine V_iload d_La_law_380 rfl ?_
  rcases Nat.eq_zero_or_pos k with q9 | q9
  · obtain ⟨z, hz1, hz2⟩ := ho q9
    refine V_if_ne (tgt := 397) d_La_law_382 (by decide) (fun c9 => absurd ((by rw [q9]; rfl)) c9) (fun _ => ?_)
    refine V_aload_n d_La_law_385 rfl ?_
    refine V_iconst (v := 0) d_La_law_386 (by decide) ?_
    refine V_lald d_La_law_387 hz1 vin0 ?_
    refine V_iload d_La_law_388 rfl ?_
    refine V_i2l d_La_law_390 ?_
    refine V_lcmp d_La_law_391 ?_
    refine V_if_eq (tgt := 397) d_La_law_392 (by decide) (fun _ => ?_) (fun c9 => absurd (((lgc0 _ _).mpr hz2)) c9)
    refine V_goto (tgt := 1438) d_La_law_397 (by decide) ?_
    refine V_keep [0, 1, 2, 3, 4] ?_
    exact kk
  · refine V_if_ne (tgt := 397) d_La_law_382 (by decide) (fun _ => ?_) (fun c9 => absurd (c9 : _) ((nI_ne0 q9 (by omega))))
    refine V_goto (tgt := 1438) d_La_law_397 (by decide) ?_
    refine V_keep [0, 1, 2, 3, 4] ?_
    exact kk
theorem law_place (hi9 : i + 5 ≤ G.L) (hGL : G.L < 2 ^ 31) {b : Int32} (d1 : Do l G k_La_place [.ref 1, .ref 46] h (ri (nI k)) X) (d2 : Do l G k_Mo_place [.ref 28] X (ri b) Y) (cX : X[27]? = some (.inr (8, c1))) (cY : Y[27]? = some (MoO (nI k) w ht sd md pl sh sx sy ln hi)) (hk : k ≤ 3) (ho : k = 0 → ∃ z, Y[45]? = some (LA z) ∧ z z0 = b.toInt64) (kk : V l G k_La_law H0 1438 [(0, .ref 0), (1, .ref 1), (2, .ref 28), (3, .ref 46), (4, .int (nI i))] [] Y r h') : V l G k_La_law H0 400 [(0, .ref 0), (1, .ref 1), (2, .ref 28), (3, .ref 46), (4, .int (nI i))] [] h r h' := by
  refine V_aload_n d_La_law_400 rfl ?_
  refine V_aload_n d_La_law_401 rfl ?_
  refine V_cS s_La_law_402 d1 rfl rfl (Nat.le_of_ble_eq_true rfl) ?_
  refine V_istore d_La_law_405 (by decide) rfl ?_
  refine V_aload_n d_La_law_407 rfl ?_
  refine V_cV s_La_law_408 d2 cX rfl rfl (Nat.le_of_ble_eq_true rfl) ?_
  refine V_istore d_La_law_411 (by decide) rfl ?_
  refine V_aload_n d_La_law_413 rfl ?_
  refine V_cV s_La_law_414 (mo_thrown cY) cY rfl rfl (Nat.le_of_ble_eq_true rfl) ?_
  refine V_iload d_La_law_417 rfl ?_
  refine V_icmp_eq (tgt := 424) d_La_law_419 (by decide) (fun _ => ?_) (fun c9 => absurd ((rfl : nI k = nI k)) c9)
  refine V_iload d_La_law_424 rfl ?_
  rcases Nat.eq_zero_or_pos k with q9 | q9
  · obtain ⟨z, hz1, hz2⟩ := ho q9
    refine V_if_ne (tgt := 441) d_La_law_426 (by decide) (fun c9 => absurd ((by rw [q9]; rfl)) c9) (fun _ => ?_)
    refine V_aload_n d_La_law_429 rfl ?_
    refine V_iconst (v := 0) d_La_law_430 (by decide) ?_
    refine V_lald d_La_law_431 hz1 vin0 ?_
    refine V_iload d_La_law_432 rfl ?_
    refine V_i2l d_La_law_434 ?_
    refine V_lcmp d_La_law_435 ?_
    refine V_if_eq (tgt := 441) d_La_law_436 (by decide) (fun _ => ?_) (fun c9 => absurd (((lgc0 _ _).mpr hz2)) c9)
    refine V_goto (tgt := 1438) d_La_law_441 (by decide) ?_
    refine V_keep [0, 1, 2, 3, 4] ?_
    exact kk
  · refine V_if_ne (tgt := 441) d_La_law_426 (by decide) (fun _ => ?_) (fun c9 => absurd (c9 : _) ((nI_ne0 q9 (by omega))))
    refine V_goto (tgt := 1438) d_La_law_441 (by decide) ?_
    refine V_keep [0, 1, 2, 3, 4] ?_
    exact kk
theorem law_seen (hi9 : i + 5 ≤ G.L) (hGL : G.L < 2 ^ 31) {b : Bool} (d1 : Do l G k_La_seen [.ref 1, .int (G.xs (i + 1)), .int (G.xs (i + 2)), .int (G.xs (i + 3)), .int (G.xs (i + 4)), .ref 46] h (ri (nI k)) X) (d2 : Do l G k_Mo_seen [.ref 28, .int (G.xs (i + 1)), .int (G.xs (i + 2)), .int (G.xs (i + 3)), .int (G.xs (i + 4))] X (rz b) Y) (cX : X[27]? = some (.inr (8, c1))) (cY : Y[27]? = some (MoO (nI k) w ht sd md pl sh sx sy ln hi)) (hk : k ≤ 3) (ho : k = 0 → ∃ z, Y[45]? = some (LA z) ∧ z z0 = bL b) (kk : V l G k_La_law H0 1438 [(0, .ref 0), (1, .ref 1), (2, .ref 28), (3, .ref 46), (4, .int (nI i))] [] Y r h') : V l G k_La_law H0 444 [(0, .ref 0), (1, .ref 1), (2, .ref 28), (3, .ref 46), (4, .int (nI i))] [] h r h' := by
  refine V_aload_n d_La_law_444 rfl ?_
  refine V_aload_n d_La_law_445 rfl ?_
  refine V_iload d_La_law_446 rfl ?_
  refine V_iconst (v := 1) d_La_law_448 (by decide) ?_
  refine V_iadd d_La_law_449 ?_
  refine V_sldN d_La_law_450 (ixs 1 (by omega) hi9 hGL) ?_
  refine V_aload_n d_La_law_451 rfl ?_
  refine V_iload d_La_law_452 rfl ?_
  refine V_iconst (v := 2) d_La_law_454 (by decide) ?_
  refine V_iadd d_La_law_455 ?_
  refine V_sldN d_La_law_456 (ixs 2 (by omega) hi9 hGL) ?_
  refine V_aload_n d_La_law_457 rfl ?_
  refine V_iload d_La_law_458 rfl ?_
  refine V_iconst (v := 3) d_La_law_460 (by decide) ?_
  refine V_iadd d_La_law_461 ?_
  refine V_sldN d_La_law_462 (ixs 3 (by omega) hi9 hGL) ?_
  refine V_aload_n d_La_law_463 rfl ?_
  refine V_iload d_La_law_464 rfl ?_
  refine V_iconst (v := 4) d_La_law_466 (by decide) ?_
  refine V_iadd d_La_law_467 ?_
  refine V_sldN d_La_law_468 (ixs 4 (by omega) hi9 hGL) ?_
  refine V_aload_n d_La_law_469 rfl ?_
  refine V_cS s_La_law_470 d1 rfl rfl (Nat.le_of_ble_eq_true rfl) ?_
  refine V_istore d_La_law_473 (by decide) rfl ?_
  refine V_aload_n d_La_law_475 rfl ?_
  refine V_aload_n d_La_law_476 rfl ?_
  refine V_iload d_La_law_477 rfl ?_
  refine V_iconst (v := 1) d_La_law_479 (by decide) ?_
  refine V_iadd d_La_law_480 ?_
  refine V_sldN d_La_law_481 (ixs 1 (by omega) hi9 hGL) ?_
  refine V_aload_n d_La_law_482 rfl ?_
  refine V_iload d_La_law_483 rfl ?_
  refine V_iconst (v := 2) d_La_law_485 (by decide) ?_
  refine V_iadd d_La_law_486 ?_
  refine V_sldN d_La_law_487 (ixs 2 (by omega) hi9 hGL) ?_
  refine V_aload_n d_La_law_488 rfl ?_
  refine V_iload d_La_law_489 rfl ?_
  refine V_iconst (v := 3) d_La_law_491 (by decide) ?_
  refine V_iadd d_La_law_492 ?_
  refine V_sldN d_La_law_493 (ixs 3 (by omega) hi9 hGL) ?_
  refine V_aload_n d_La_law_494 rfl ?_
  refine V_iload d_La_law_495 rfl ?_
  refine V_iconst (v := 4) d_La_law_497 (by decide) ?_
  refine V_iadd d_La_law_498 ?_
  refine V_sldN d_La_law_499 (ixs 4 (by omega) hi9 hGL) ?_
  refine V_cV s_La_law_500 d2 cX rfl rfl (Nat.le_of_ble_eq_true rfl) ?_
  refine V_istore d_La_law_503 (by decide) rfl ?_
  refine V_aload_n d_La_law_505 rfl ?_
  refine V_cV s_La_law_506 (mo_thrown cY) cY rfl rfl (Nat.le_of_ble_eq_true rfl) ?_
  refine V_iload d_La_law_509 rfl ?_
  refine V_icmp_eq (tgt := 516) d_La_law_511 (by decide) (fun _ => ?_) (fun c9 => absurd ((rfl : nI k = nI k)) c9)
  refine V_iload d_La_law_516 rfl ?_
  rcases Nat.eq_zero_or_pos k with q9 | q9
  · obtain ⟨z, hz1, hz2⟩ := ho q9
    refine V_if_ne (tgt := 540) d_La_law_518 (by decide) (fun c9 => absurd ((by rw [q9]; rfl)) c9) (fun _ => ?_)
    refine V_aload_n d_La_law_521 rfl ?_
    refine V_iconst (v := 0) d_La_law_522 (by decide) ?_
    refine V_lald d_La_law_523 hz1 vin0 ?_
    refine V_iload d_La_law_524 rfl ?_
    cases b with
    | false =>
      refine V_if_eq (tgt := 533) d_La_law_526 (by decide) (fun _ => ?_) (fun c9 => absurd ((rfl : bI false = 0)) c9)
      refine V_lconst (v := 0) d_La_law_533 (by decide) ?_
      refine V_lcmp d_La_law_534 ?_
      refine V_if_eq (tgt := 540) d_La_law_535 (by decide) (fun _ => ?_) (fun c9 => absurd (((lgc0 _ _).mpr hz2)) c9)
      refine V_goto (tgt := 1438) d_La_law_540 (by decide) ?_
      refine V_keep [0, 1, 2, 3, 4] ?_
      exact kk
    | true =>
      refine V_if_eq (tgt := 533) d_La_law_526 (by decide) (fun c9 => absurd c9 ((by decide : ¬ bI true = 0))) (fun _ => ?_)
      refine V_lconst (v := 1) d_La_law_529 (by decide) ?_
      refine V_goto (tgt := 534) d_La_law_530 (by decide) ?_
      refine V_lcmp d_La_law_534 ?_
      refine V_if_eq (tgt := 540) d_La_law_535 (by decide) (fun _ => ?_) (fun c9 => absurd (((lgc0 _ _).mpr hz2)) c9)
      refine V_goto (tgt := 1438) d_La_law_540 (by decide) ?_
      refine V_keep [0, 1, 2, 3, 4] ?_
      exact kk
  · refine V_if_ne (tgt := 540) d_La_law_518 (by decide) (fun _ => ?_) (fun c9 => absurd (c9 : _) ((nI_ne0 q9 (by omega))))
    refine V_goto (tgt := 1438) d_La_law_540 (by decide) ?_
    refine V_keep [0, 1, 2, 3, 4] ?_
    exact kk
theorem law_relative (hi9 : i + 5 ≤ G.L) (hGL : G.L < 2 ^ 31) {b : Int32} (d1 : Do l G k_La_relative [.ref 1, .int (G.xs (i + 1)), .int (G.xs (i + 2)), .int (G.xs (i + 3)), .int (G.xs (i + 4)), .ref 46] h (ri (nI k)) X) (d2 : Do l G k_Mo_relative [.ref 28, .int (G.xs (i + 1)), .int (G.xs (i + 2)), .int (G.xs (i + 3)), .int (G.xs (i + 4))] X (ri b) Y) (cX : X[27]? = some (.inr (8, c1))) (cY : Y[27]? = some (MoO (nI k) w ht sd md pl sh sx sy ln hi)) (hk : k ≤ 3) (ho : k = 0 → ∃ z, Y[45]? = some (LA z) ∧ z z0 = b.toInt64) (kk : V l G k_La_law H0 1438 [(0, .ref 0), (1, .ref 1), (2, .ref 28), (3, .ref 46), (4, .int (nI i))] [] Y r h') : V l G k_La_law H0 543 [(0, .ref 0), (1, .ref 1), (2, .ref 28), (3, .ref 46), (4, .int (nI i))] [] h r h' := by
  refine V_aload_n d_La_law_543 rfl ?_
  refine V_aload_n d_La_law_544 rfl ?_
  refine V_iload d_La_law_545 rfl ?_
  refine V_iconst (v := 1) d_La_law_547 (by decide) ?_
  refine V_iadd d_La_law_548 ?_
  refine V_sldN d_La_law_549 (ixs 1 (by omega) hi9 hGL) ?_
  refine V_aload_n d_La_law_550 rfl ?_
  refine V_iload d_La_law_551 rfl ?_
  refine V_iconst (v := 2) d_La_law_553 (by decide) ?_
  refine V_iadd d_La_law_554 ?_
  refine V_sldN d_La_law_555 (ixs 2 (by omega) hi9 hGL) ?_
  refine V_aload_n d_La_law_556 rfl ?_
  refine V_iload d_La_law_557 rfl ?_
  refine V_iconst (v := 3) d_La_law_559 (by decide) ?_
  refine V_iadd d_La_law_560 ?_
  refine V_sldN d_La_law_561 (ixs 3 (by omega) hi9 hGL) ?_
  refine V_aload_n d_La_law_562 rfl ?_
  refine V_iload d_La_law_563 rfl ?_
  refine V_iconst (v := 4) d_La_law_565 (by decide) ?_
  refine V_iadd d_La_law_566 ?_
  refine V_sldN d_La_law_567 (ixs 4 (by omega) hi9 hGL) ?_
  refine V_aload_n d_La_law_568 rfl ?_
  refine V_cS s_La_law_569 d1 rfl rfl (Nat.le_of_ble_eq_true rfl) ?_
  refine V_istore d_La_law_572 (by decide) rfl ?_
  refine V_aload_n d_La_law_574 rfl ?_
  refine V_aload_n d_La_law_575 rfl ?_
  refine V_iload d_La_law_576 rfl ?_
  refine V_iconst (v := 1) d_La_law_578 (by decide) ?_
  refine V_iadd d_La_law_579 ?_
  refine V_sldN d_La_law_580 (ixs 1 (by omega) hi9 hGL) ?_
  refine V_aload_n d_La_law_581 rfl ?_
  refine V_iload d_La_law_582 rfl ?_
  refine V_iconst (v := 2) d_La_law_584 (by decide) ?_
  refine V_iadd d_La_law_585 ?_
  refine V_sldN d_La_law_586 (ixs 2 (by omega) hi9 hGL) ?_
  refine V_aload_n d_La_law_587 rfl ?_
  refine V_iload d_La_law_588 rfl ?_
  refine V_iconst (v := 3) d_La_law_590 (by decide) ?_
  refine V_iadd d_La_law_591 ?_
  refine V_sldN d_La_law_592 (ixs 3 (by omega) hi9 hGL) ?_
  refine V_aload_n d_La_law_593 rfl ?_
  refine V_iload d_La_law_594 rfl ?_
  refine V_iconst (v := 4) d_La_law_596 (by decide) ?_
  refine V_iadd d_La_law_597 ?_
  refine V_sldN d_La_law_598 (ixs 4 (by omega) hi9 hGL) ?_
  refine V_cV s_La_law_599 d2 cX rfl rfl (Nat.le_of_ble_eq_true rfl) ?_
  refine V_istore d_La_law_602 (by decide) rfl ?_
  refine V_aload_n d_La_law_604 rfl ?_
  refine V_cV s_La_law_605 (mo_thrown cY) cY rfl rfl (Nat.le_of_ble_eq_true rfl) ?_
  refine V_iload d_La_law_608 rfl ?_
  refine V_icmp_eq (tgt := 615) d_La_law_610 (by decide) (fun _ => ?_) (fun c9 => absurd ((rfl : nI k = nI k)) c9)
  refine V_iload d_La_law_615 rfl ?_
  rcases Nat.eq_zero_or_pos k with q9 | q9
  · obtain ⟨z, hz1, hz2⟩ := ho q9
    refine V_if_ne (tgt := 632) d_La_law_617 (by decide) (fun c9 => absurd ((by rw [q9]; rfl)) c9) (fun _ => ?_)
    refine V_aload_n d_La_law_620 rfl ?_
    refine V_iconst (v := 0) d_La_law_621 (by decide) ?_
    refine V_lald d_La_law_622 hz1 vin0 ?_
    refine V_iload d_La_law_623 rfl ?_
    refine V_i2l d_La_law_625 ?_
    refine V_lcmp d_La_law_626 ?_
    refine V_if_eq (tgt := 632) d_La_law_627 (by decide) (fun _ => ?_) (fun c9 => absurd (((lgc0 _ _).mpr hz2)) c9)
    refine V_goto (tgt := 1438) d_La_law_632 (by decide) ?_
    refine V_keep [0, 1, 2, 3, 4] ?_
    exact kk
  · refine V_if_ne (tgt := 632) d_La_law_617 (by decide) (fun _ => ?_) (fun c9 => absurd (c9 : _) ((nI_ne0 q9 (by omega))))
    refine V_goto (tgt := 1438) d_La_law_632 (by decide) ?_
    refine V_keep [0, 1, 2, 3, 4] ?_
    exact kk
theorem law_shift (hi9 : i + 5 ≤ G.L) (hGL : G.L < 2 ^ 31) {b : Int32} (d1 : Do l G k_La_shift [.ref 1, .int (G.xs (i + 1)), .ref 46] h (ri (nI k)) X) (d2 : Do l G k_Mo_shift [.ref 28, .int (G.xs (i + 1))] X (ri b) Y) (cX : X[27]? = some (.inr (8, c1))) (cY : Y[27]? = some (MoO (nI k) w ht sd md pl sh sx sy ln hi)) (hk : k ≤ 3) (ho : k = 0 → ∃ z, Y[45]? = some (LA z) ∧ z z0 = b.toInt64) (kk : V l G k_La_law H0 1438 [(0, .ref 0), (1, .ref 1), (2, .ref 28), (3, .ref 46), (4, .int (nI i))] [] Y r h') : V l G k_La_law H0 635 [(0, .ref 0), (1, .ref 1), (2, .ref 28), (3, .ref 46), (4, .int (nI i))] [] h r h' := by
  refine V_aload_n d_La_law_635 rfl ?_
  refine V_aload_n d_La_law_636 rfl ?_
  refine V_iload d_La_law_637 rfl ?_
  refine V_iconst (v := 1) d_La_law_639 (by decide) ?_
  refine V_iadd d_La_law_640 ?_
  refine V_sldN d_La_law_641 (ixs 1 (by omega) hi9 hGL) ?_
  refine V_aload_n d_La_law_642 rfl ?_
  refine V_cS s_La_law_643 d1 rfl rfl (Nat.le_of_ble_eq_true rfl) ?_
  refine V_istore d_La_law_646 (by decide) rfl ?_
  refine V_aload_n d_La_law_648 rfl ?_
  refine V_aload_n d_La_law_649 rfl ?_
  refine V_iload d_La_law_650 rfl ?_
  refine V_iconst (v := 1) d_La_law_652 (by decide) ?_
  refine V_iadd d_La_law_653 ?_
  refine V_sldN d_La_law_654 (ixs 1 (by omega) hi9 hGL) ?_
  refine V_cV s_La_law_655 d2 cX rfl rfl (Nat.le_of_ble_eq_true rfl) ?_
  refine V_istore d_La_law_658 (by decide) rfl ?_
  refine V_aload_n d_La_law_660 rfl ?_
  refine V_cV s_La_law_661 (mo_thrown cY) cY rfl rfl (Nat.le_of_ble_eq_true rfl) ?_
  refine V_iload d_La_law_664 rfl ?_
  refine V_icmp_eq (tgt := 671) d_La_law_666 (by decide) (fun _ => ?_) (fun c9 => absurd ((rfl : nI k = nI k)) c9)
  refine V_iload d_La_law_671 rfl ?_
  rcases Nat.eq_zero_or_pos k with q9 | q9
  · obtain ⟨z, hz1, hz2⟩ := ho q9
    refine V_if_ne (tgt := 688) d_La_law_673 (by decide) (fun c9 => absurd ((by rw [q9]; rfl)) c9) (fun _ => ?_)
    refine V_aload_n d_La_law_676 rfl ?_
    refine V_iconst (v := 0) d_La_law_677 (by decide) ?_
    refine V_lald d_La_law_678 hz1 vin0 ?_
    refine V_iload d_La_law_679 rfl ?_
    refine V_i2l d_La_law_681 ?_
    refine V_lcmp d_La_law_682 ?_
    refine V_if_eq (tgt := 688) d_La_law_683 (by decide) (fun _ => ?_) (fun c9 => absurd (((lgc0 _ _).mpr hz2)) c9)
    refine V_goto (tgt := 1438) d_La_law_688 (by decide) ?_
    refine V_keep [0, 1, 2, 3, 4] ?_
    exact kk
  · refine V_if_ne (tgt := 688) d_La_law_673 (by decide) (fun _ => ?_) (fun c9 => absurd (c9 : _) ((nI_ne0 q9 (by omega))))
    refine V_goto (tgt := 1438) d_La_law_688 (by decide) ?_
    refine V_keep [0, 1, 2, 3, 4] ?_
    exact kk
theorem law_spare (hi9 : i + 5 ≤ G.L) (hGL : G.L < 2 ^ 31) {b : Bool} (d1 : Do l G k_La_spare [.ref 1, .int (G.xs (i + 1)), .int (bI (!decide (G.xs (i + 2) = 0))), .ref 46] h (ri (nI k)) X) (d2 : Do l G k_Mo_spare [.ref 28, .int (G.xs (i + 1)), .int (bI (!decide (G.xs (i + 2) = 0)))] X (rz b) Y) (cX : X[27]? = some (.inr (8, c1))) (cY : Y[27]? = some (MoO (nI k) w ht sd md pl sh sx sy ln hi)) (hk : k ≤ 3) (ho : k = 0 → ∃ z, Y[45]? = some (LA z) ∧ z z0 = bL b) (kk : V l G k_La_law H0 1438 [(0, .ref 0), (1, .ref 1), (2, .ref 28), (3, .ref 46), (4, .int (nI i))] [] Y r h') : V l G k_La_law H0 691 [(0, .ref 0), (1, .ref 1), (2, .ref 28), (3, .ref 46), (4, .int (nI i))] [] h r h' := by
  have rest : V l G k_La_law H0 716 [(0, .ref 0), (1, .ref 1), (2, .ref 28), (3, .ref 46), (4, .int (nI i))] [.int (nI k)] X r h' := by
    have r2 : V l G k_La_law H0 739 [(0, .ref 0), (1, .ref 1), (2, .ref 28), (3, .ref 46), (4, .int (nI i)), (5, .int (nI k))] [.int (bI (!decide (G.xs (i + 2) = 0))), .int (G.xs (i + 1)), .ref 28] X r h' := by
      refine V_cV s_La_law_739 d2 cX rfl rfl (Nat.le_of_ble_eq_true rfl) ?_
      refine V_istore d_La_law_742 (by decide) rfl ?_
      refine V_aload_n d_La_law_744 rfl ?_
      refine V_cV s_La_law_745 (mo_thrown cY) cY rfl rfl (Nat.le_of_ble_eq_true rfl) ?_
      refine V_iload d_La_law_748 rfl ?_
      refine V_icmp_eq (tgt := 755) d_La_law_750 (by decide) (fun _ => ?_) (fun c9 => absurd ((rfl : nI k = nI k)) c9)
      refine V_iload d_La_law_755 rfl ?_
      rcases Nat.eq_zero_or_pos k with q9 | q9
      · obtain ⟨z, hz1, hz2⟩ := ho q9
        refine V_if_ne (tgt := 779) d_La_law_757 (by decide) (fun c9 => absurd ((by rw [q9]; rfl)) c9) (fun _ => ?_)
        refine V_aload_n d_La_law_760 rfl ?_
        refine V_iconst (v := 0) d_La_law_761 (by decide) ?_
        refine V_lald d_La_law_762 hz1 vin0 ?_
        refine V_iload d_La_law_763 rfl ?_
        cases b with
        | false =>
          refine V_if_eq (tgt := 772) d_La_law_765 (by decide) (fun _ => ?_) (fun c9 => absurd ((rfl : bI false = 0)) c9)
          refine V_lconst (v := 0) d_La_law_772 (by decide) ?_
          refine V_lcmp d_La_law_773 ?_
          refine V_if_eq (tgt := 779) d_La_law_774 (by decide) (fun _ => ?_) (fun c9 => absurd (((lgc0 _ _).mpr hz2)) c9)
          refine V_goto (tgt := 1438) d_La_law_779 (by decide) ?_
          refine V_keep [0, 1, 2, 3, 4] ?_
          exact kk
        | true =>
          refine V_if_eq (tgt := 772) d_La_law_765 (by decide) (fun c9 => absurd c9 ((by decide : ¬ bI true = 0))) (fun _ => ?_)
          refine V_lconst (v := 1) d_La_law_768 (by decide) ?_
          refine V_goto (tgt := 773) d_La_law_769 (by decide) ?_
          refine V_lcmp d_La_law_773 ?_
          refine V_if_eq (tgt := 779) d_La_law_774 (by decide) (fun _ => ?_) (fun c9 => absurd (((lgc0 _ _).mpr hz2)) c9)
          refine V_goto (tgt := 1438) d_La_law_779 (by decide) ?_
          refine V_keep [0, 1, 2, 3, 4] ?_
          exact kk
      · refine V_if_ne (tgt := 779) d_La_law_757 (by decide) (fun _ => ?_) (fun c9 => absurd (c9 : _) ((nI_ne0 q9 (by omega))))
        refine V_goto (tgt := 1438) d_La_law_779 (by decide) ?_
        refine V_keep [0, 1, 2, 3, 4] ?_
        exact kk
    refine V_istore d_La_law_716 (by decide) rfl ?_
    refine V_aload_n d_La_law_718 rfl ?_
    refine V_aload_n d_La_law_719 rfl ?_
    refine V_iload d_La_law_720 rfl ?_
    refine V_iconst (v := 1) d_La_law_722 (by decide) ?_
    refine V_iadd d_La_law_723 ?_
    refine V_sldN d_La_law_724 (ixs 1 (by omega) hi9 hGL) ?_
    refine V_aload_n d_La_law_725 rfl ?_
    refine V_iload d_La_law_726 rfl ?_
    refine V_iconst (v := 2) d_La_law_728 (by decide) ?_
    refine V_iadd d_La_law_729 ?_
    refine V_sldN d_La_law_730 (ixs 2 (by omega) hi9 hGL) ?_
    refine V_if_eq (tgt := 738) d_La_law_731 (by decide) (fun c9 => ?_) (fun c9 => ?_)
    · rw [decide_eq_true c9] at r2
      refine V_iconst (v := 0) d_La_law_738 (by decide) ?_
      exact r2
    · rw [decide_eq_false c9] at r2
      refine V_iconst (v := 1) d_La_law_734 (by decide) ?_
      refine V_goto (tgt := 739) d_La_law_735 (by decide) ?_
      exact r2
  have r1 : V l G k_La_law H0 712 [(0, .ref 0), (1, .ref 1), (2, .ref 28), (3, .ref 46), (4, .int (nI i))] [.int (bI (!decide (G.xs (i + 2) = 0))), .int (G.xs (i + 1)), .ref 1] h r h' := by
    refine V_aload_n d_La_law_712 rfl ?_
    refine V_cS s_La_law_713 d1 rfl rfl (Nat.le_of_ble_eq_true rfl) ?_
    exact rest
  refine V_aload_n d_La_law_691 rfl ?_
  refine V_aload_n d_La_law_692 rfl ?_
  refine V_iload d_La_law_693 rfl ?_
  refine V_iconst (v := 1) d_La_law_695 (by decide) ?_
  refine V_iadd d_La_law_696 ?_
  refine V_sldN d_La_law_697 (ixs 1 (by omega) hi9 hGL) ?_
  refine V_aload_n d_La_law_698 rfl ?_
  refine V_iload d_La_law_699 rfl ?_
  refine V_iconst (v := 2) d_La_law_701 (by decide) ?_
  refine V_iadd d_La_law_702 ?_
  refine V_sldN d_La_law_703 (ixs 2 (by omega) hi9 hGL) ?_
  refine V_if_eq (tgt := 711) d_La_law_704 (by decide) (fun c9 => ?_) (fun c9 => ?_)
  · rw [decide_eq_true c9] at r1
    refine V_iconst (v := 0) d_La_law_711 (by decide) ?_
    exact r1
  · rw [decide_eq_false c9] at r1
    refine V_iconst (v := 1) d_La_law_707 (by decide) ?_
    refine V_goto (tgt := 712) d_La_law_708 (by decide) ?_
    exact r1
theorem law_run (hi9 : i + 5 ≤ G.L) (hGL : G.L < 2 ^ 31) {b : Int32} (d1 : Do l G k_La_run [.ref 1, .int (G.xs (i + 1)), .ref 46] h (ri (nI k)) X) (d2 : Do l G k_Mo_run [.ref 28, .int (G.xs (i + 1))] X (ri b) Y) (cX : X[27]? = some (.inr (8, c1))) (cY : Y[27]? = some (MoO (nI k) w ht sd md pl sh sx sy ln hi)) (hk : k ≤ 3) (ho : k = 0 → ∃ z, Y[45]? = some (LA z) ∧ z z0 = b.toInt64) (kk : V l G k_La_law H0 1438 [(0, .ref 0), (1, .ref 1), (2, .ref 28), (3, .ref 46), (4, .int (nI i))] [] Y r h') : V l G k_La_law H0 782 [(0, .ref 0), (1, .ref 1), (2, .ref 28), (3, .ref 46), (4, .int (nI i))] [] h r h' := by
  refine V_aload_n d_La_law_782 rfl ?_
  refine V_aload_n d_La_law_783 rfl ?_
  refine V_iload d_La_law_784 rfl ?_
  refine V_iconst (v := 1) d_La_law_786 (by decide) ?_
  refine V_iadd d_La_law_787 ?_
  refine V_sldN d_La_law_788 (ixs 1 (by omega) hi9 hGL) ?_
  refine V_aload_n d_La_law_789 rfl ?_
  refine V_cS s_La_law_790 d1 rfl rfl (Nat.le_of_ble_eq_true rfl) ?_
  refine V_istore d_La_law_793 (by decide) rfl ?_
  refine V_aload_n d_La_law_795 rfl ?_
  refine V_aload_n d_La_law_796 rfl ?_
  refine V_iload d_La_law_797 rfl ?_
  refine V_iconst (v := 1) d_La_law_799 (by decide) ?_
  refine V_iadd d_La_law_800 ?_
  refine V_sldN d_La_law_801 (ixs 1 (by omega) hi9 hGL) ?_
  refine V_cV s_La_law_802 d2 cX rfl rfl (Nat.le_of_ble_eq_true rfl) ?_
  refine V_istore d_La_law_805 (by decide) rfl ?_
  refine V_aload_n d_La_law_807 rfl ?_
  refine V_cV s_La_law_808 (mo_thrown cY) cY rfl rfl (Nat.le_of_ble_eq_true rfl) ?_
  refine V_iload d_La_law_811 rfl ?_
  refine V_icmp_eq (tgt := 818) d_La_law_813 (by decide) (fun _ => ?_) (fun c9 => absurd ((rfl : nI k = nI k)) c9)
  refine V_iload d_La_law_818 rfl ?_
  rcases Nat.eq_zero_or_pos k with q9 | q9
  · obtain ⟨z, hz1, hz2⟩ := ho q9
    refine V_if_ne (tgt := 835) d_La_law_820 (by decide) (fun c9 => absurd ((by rw [q9]; rfl)) c9) (fun _ => ?_)
    refine V_aload_n d_La_law_823 rfl ?_
    refine V_iconst (v := 0) d_La_law_824 (by decide) ?_
    refine V_lald d_La_law_825 hz1 vin0 ?_
    refine V_iload d_La_law_826 rfl ?_
    refine V_i2l d_La_law_828 ?_
    refine V_lcmp d_La_law_829 ?_
    refine V_if_eq (tgt := 835) d_La_law_830 (by decide) (fun _ => ?_) (fun c9 => absurd (((lgc0 _ _).mpr hz2)) c9)
    refine V_goto (tgt := 1438) d_La_law_835 (by decide) ?_
    refine V_keep [0, 1, 2, 3, 4] ?_
    exact kk
  · refine V_if_ne (tgt := 835) d_La_law_820 (by decide) (fun _ => ?_) (fun c9 => absurd (c9 : _) ((nI_ne0 q9 (by omega))))
    refine V_goto (tgt := 1438) d_La_law_835 (by decide) ?_
    refine V_keep [0, 1, 2, 3, 4] ?_
    exact kk
theorem law_at (hi9 : i + 5 ≤ G.L) (hGL : G.L < 2 ^ 31) {b : Int32} (d1 : Do l G k_La_at [.ref 1, .int (G.xs (i + 1)), .int (G.xs (i + 2)), .ref 46] h (ri (nI k)) X) (d2 : Do l G k_Mo_at [.ref 28, .int (G.xs (i + 1)), .int (G.xs (i + 2))] X (ri b) Y) (cX : X[27]? = some (.inr (8, c1))) (cY : Y[27]? = some (MoO (nI k) w ht sd md pl sh sx sy ln hi)) (hk : k ≤ 3) (ho : k = 0 → ∃ z, Y[45]? = some (LA z) ∧ z z0 = b.toInt64) (kk : V l G k_La_law H0 1438 [(0, .ref 0), (1, .ref 1), (2, .ref 28), (3, .ref 46), (4, .int (nI i))] [] Y r h') : V l G k_La_law H0 852 [(0, .ref 0), (1, .ref 1), (2, .ref 28), (3, .ref 46), (4, .int (nI i))] [] h r h' := by
  refine V_aload_n d_La_law_852 rfl ?_
  refine V_aload_n d_La_law_853 rfl ?_
  refine V_iload d_La_law_854 rfl ?_
  refine V_iconst (v := 1) d_La_law_856 (by decide) ?_
  refine V_iadd d_La_law_857 ?_
  refine V_sldN d_La_law_858 (ixs 1 (by omega) hi9 hGL) ?_
  refine V_aload_n d_La_law_859 rfl ?_
  refine V_iload d_La_law_860 rfl ?_
  refine V_iconst (v := 2) d_La_law_862 (by decide) ?_
  refine V_iadd d_La_law_863 ?_
  refine V_sldN d_La_law_864 (ixs 2 (by omega) hi9 hGL) ?_
  refine V_aload_n d_La_law_865 rfl ?_
  refine V_cS s_La_law_866 d1 rfl rfl (Nat.le_of_ble_eq_true rfl) ?_
  refine V_istore d_La_law_869 (by decide) rfl ?_
  refine V_aload_n d_La_law_871 rfl ?_
  refine V_aload_n d_La_law_872 rfl ?_
  refine V_iload d_La_law_873 rfl ?_
  refine V_iconst (v := 1) d_La_law_875 (by decide) ?_
  refine V_iadd d_La_law_876 ?_
  refine V_sldN d_La_law_877 (ixs 1 (by omega) hi9 hGL) ?_
  refine V_aload_n d_La_law_878 rfl ?_
  refine V_iload d_La_law_879 rfl ?_
  refine V_iconst (v := 2) d_La_law_881 (by decide) ?_
  refine V_iadd d_La_law_882 ?_
  refine V_sldN d_La_law_883 (ixs 2 (by omega) hi9 hGL) ?_
  refine V_cV s_La_law_884 d2 cX rfl rfl (Nat.le_of_ble_eq_true rfl) ?_
  refine V_istore d_La_law_887 (by decide) rfl ?_
  refine V_aload_n d_La_law_889 rfl ?_
  refine V_cV s_La_law_890 (mo_thrown cY) cY rfl rfl (Nat.le_of_ble_eq_true rfl) ?_
  refine V_iload d_La_law_893 rfl ?_
  refine V_icmp_eq (tgt := 900) d_La_law_895 (by decide) (fun _ => ?_) (fun c9 => absurd ((rfl : nI k = nI k)) c9)
  refine V_iload d_La_law_900 rfl ?_
  rcases Nat.eq_zero_or_pos k with q9 | q9
  · obtain ⟨z, hz1, hz2⟩ := ho q9
    refine V_if_ne (tgt := 917) d_La_law_902 (by decide) (fun c9 => absurd ((by rw [q9]; rfl)) c9) (fun _ => ?_)
    refine V_aload_n d_La_law_905 rfl ?_
    refine V_iconst (v := 0) d_La_law_906 (by decide) ?_
    refine V_lald d_La_law_907 hz1 vin0 ?_
    refine V_iload d_La_law_908 rfl ?_
    refine V_i2l d_La_law_910 ?_
    refine V_lcmp d_La_law_911 ?_
    refine V_if_eq (tgt := 917) d_La_law_912 (by decide) (fun _ => ?_) (fun c9 => absurd (((lgc0 _ _).mpr hz2)) c9)
    refine V_goto (tgt := 1438) d_La_law_917 (by decide) ?_
    refine V_keep [0, 1, 2, 3, 4] ?_
    exact kk
  · refine V_if_ne (tgt := 917) d_La_law_902 (by decide) (fun _ => ?_) (fun c9 => absurd (c9 : _) ((nI_ne0 q9 (by omega))))
    refine V_goto (tgt := 1438) d_La_law_917 (by decide) ?_
    refine V_keep [0, 1, 2, 3, 4] ?_
    exact kk
theorem law_offset (hi9 : i + 5 ≤ G.L) (hGL : G.L < 2 ^ 31) {b : Int32} (d1 : Do l G k_La_offset [.ref 1, .int (G.xs (i + 1)), .int (G.xs (i + 2)), .ref 46] h (ri (nI k)) X) (d2 : Do l G k_Mo_offset [.ref 28, .int (G.xs (i + 1)), .int (G.xs (i + 2))] X (ri b) Y) (cX : X[27]? = some (.inr (8, c1))) (cY : Y[27]? = some (MoO (nI k) w ht sd md pl sh sx sy ln hi)) (hk : k ≤ 3) (ho : k = 0 → ∃ z, Y[45]? = some (LA z) ∧ z z0 = b.toInt64) (kk : V l G k_La_law H0 1438 [(0, .ref 0), (1, .ref 1), (2, .ref 28), (3, .ref 46), (4, .int (nI i))] [] Y r h') : V l G k_La_law H0 920 [(0, .ref 0), (1, .ref 1), (2, .ref 28), (3, .ref 46), (4, .int (nI i))] [] h r h' := by
  refine V_aload_n d_La_law_920 rfl ?_
  refine V_aload_n d_La_law_921 rfl ?_
  refine V_iload d_La_law_922 rfl ?_
  refine V_iconst (v := 1) d_La_law_924 (by decide) ?_
  refine V_iadd d_La_law_925 ?_
  refine V_sldN d_La_law_926 (ixs 1 (by omega) hi9 hGL) ?_
  refine V_aload_n d_La_law_927 rfl ?_
  refine V_iload d_La_law_928 rfl ?_
  refine V_iconst (v := 2) d_La_law_930 (by decide) ?_
  refine V_iadd d_La_law_931 ?_
  refine V_sldN d_La_law_932 (ixs 2 (by omega) hi9 hGL) ?_
  refine V_aload_n d_La_law_933 rfl ?_
  refine V_cS s_La_law_934 d1 rfl rfl (Nat.le_of_ble_eq_true rfl) ?_
  refine V_istore d_La_law_937 (by decide) rfl ?_
  refine V_aload_n d_La_law_939 rfl ?_
  refine V_aload_n d_La_law_940 rfl ?_
  refine V_iload d_La_law_941 rfl ?_
  refine V_iconst (v := 1) d_La_law_943 (by decide) ?_
  refine V_iadd d_La_law_944 ?_
  refine V_sldN d_La_law_945 (ixs 1 (by omega) hi9 hGL) ?_
  refine V_aload_n d_La_law_946 rfl ?_
  refine V_iload d_La_law_947 rfl ?_
  refine V_iconst (v := 2) d_La_law_949 (by decide) ?_
  refine V_iadd d_La_law_950 ?_
  refine V_sldN d_La_law_951 (ixs 2 (by omega) hi9 hGL) ?_
  refine V_cV s_La_law_952 d2 cX rfl rfl (Nat.le_of_ble_eq_true rfl) ?_
  refine V_istore d_La_law_955 (by decide) rfl ?_
  refine V_aload_n d_La_law_957 rfl ?_
  refine V_cV s_La_law_958 (mo_thrown cY) cY rfl rfl (Nat.le_of_ble_eq_true rfl) ?_
  refine V_iload d_La_law_961 rfl ?_
  refine V_icmp_eq (tgt := 968) d_La_law_963 (by decide) (fun _ => ?_) (fun c9 => absurd ((rfl : nI k = nI k)) c9)
  refine V_iload d_La_law_968 rfl ?_
  rcases Nat.eq_zero_or_pos k with q9 | q9
  · obtain ⟨z, hz1, hz2⟩ := ho q9
    refine V_if_ne (tgt := 985) d_La_law_970 (by decide) (fun c9 => absurd ((by rw [q9]; rfl)) c9) (fun _ => ?_)
    refine V_aload_n d_La_law_973 rfl ?_
    refine V_iconst (v := 0) d_La_law_974 (by decide) ?_
    refine V_lald d_La_law_975 hz1 vin0 ?_
    refine V_iload d_La_law_976 rfl ?_
    refine V_i2l d_La_law_978 ?_
    refine V_lcmp d_La_law_979 ?_
    refine V_if_eq (tgt := 985) d_La_law_980 (by decide) (fun _ => ?_) (fun c9 => absurd (((lgc0 _ _).mpr hz2)) c9)
    refine V_goto (tgt := 1438) d_La_law_985 (by decide) ?_
    refine V_keep [0, 1, 2, 3, 4] ?_
    exact kk
  · refine V_if_ne (tgt := 985) d_La_law_970 (by decide) (fun _ => ?_) (fun c9 => absurd (c9 : _) ((nI_ne0 q9 (by omega))))
    refine V_goto (tgt := 1438) d_La_law_985 (by decide) ?_
    refine V_keep [0, 1, 2, 3, 4] ?_
    exact kk
theorem law_miss (hi9 : i + 5 ≤ G.L) (hGL : G.L < 2 ^ 31) {b : Int64} (d1 : Do l G k_La_miss [.ref 1, .int (G.xs (i + 1)), .ref 46] h (ri (nI k)) X) (d2 : Do l G k_Mo_miss [.ref 28, .int (G.xs (i + 1))] X (rl b) Y) (cX : X[27]? = some (.inr (8, c1))) (cY : Y[27]? = some (MoO (nI k) w ht sd md pl sh sx sy ln hi)) (hk : k ≤ 3) (ho : k = 0 → ∃ z, Y[45]? = some (LA z) ∧ z z0 = b) (kk : V l G k_La_law H0 1438 [(0, .ref 0), (1, .ref 1), (2, .ref 28), (3, .ref 46), (4, .int (nI i))] [] Y r h') : V l G k_La_law H0 988 [(0, .ref 0), (1, .ref 1), (2, .ref 28), (3, .ref 46), (4, .int (nI i))] [] h r h' := by
  refine V_aload_n d_La_law_988 rfl ?_
  refine V_aload_n d_La_law_989 rfl ?_
  refine V_iload d_La_law_990 rfl ?_
  refine V_iconst (v := 1) d_La_law_992 (by decide) ?_
  refine V_iadd d_La_law_993 ?_
  refine V_sldN d_La_law_994 (ixs 1 (by omega) hi9 hGL) ?_
  refine V_aload_n d_La_law_995 rfl ?_
  refine V_cS s_La_law_996 d1 rfl rfl (Nat.le_of_ble_eq_true rfl) ?_
  refine V_istore d_La_law_999 (by decide) rfl ?_
  refine V_aload_n d_La_law_1001 rfl ?_
  refine V_aload_n d_La_law_1002 rfl ?_
  refine V_iload d_La_law_1003 rfl ?_
  refine V_iconst (v := 1) d_La_law_1005 (by decide) ?_
  refine V_iadd d_La_law_1006 ?_
  refine V_sldN d_La_law_1007 (ixs 1 (by omega) hi9 hGL) ?_
  refine V_cV s_La_law_1008 d2 cX rfl rfl (Nat.le_of_ble_eq_true rfl) ?_
  refine V_lstore d_La_law_1011 (by decide) rfl ?_
  refine V_aload_n d_La_law_1013 rfl ?_
  refine V_cV s_La_law_1014 (mo_thrown cY) cY rfl rfl (Nat.le_of_ble_eq_true rfl) ?_
  refine V_iload d_La_law_1017 rfl ?_
  refine V_icmp_eq (tgt := 1024) d_La_law_1019 (by decide) (fun _ => ?_) (fun c9 => absurd ((rfl : nI k = nI k)) c9)
  refine V_iload d_La_law_1024 rfl ?_
  rcases Nat.eq_zero_or_pos k with q9 | q9
  · obtain ⟨z, hz1, hz2⟩ := ho q9
    refine V_if_ne (tgt := 1040) d_La_law_1026 (by decide) (fun c9 => absurd ((by rw [q9]; rfl)) c9) (fun _ => ?_)
    refine V_aload_n d_La_law_1029 rfl ?_
    refine V_iconst (v := 0) d_La_law_1030 (by decide) ?_
    refine V_lald d_La_law_1031 hz1 vin0 ?_
    refine V_lload d_La_law_1032 rfl ?_
    refine V_lcmp d_La_law_1034 ?_
    refine V_if_eq (tgt := 1040) d_La_law_1035 (by decide) (fun _ => ?_) (fun c9 => absurd (((lgc0 _ _).mpr hz2)) c9)
    refine V_goto (tgt := 1438) d_La_law_1040 (by decide) ?_
    refine V_keep [0, 1, 2, 3, 4] ?_
    exact kk
  · refine V_if_ne (tgt := 1040) d_La_law_1026 (by decide) (fun _ => ?_) (fun c9 => absurd (c9 : _) ((nI_ne0 q9 (by omega))))
    refine V_goto (tgt := 1438) d_La_law_1040 (by decide) ?_
    refine V_keep [0, 1, 2, 3, 4] ?_
    exact kk
theorem law_known (hi9 : i + 5 ≤ G.L) (hGL : G.L < 2 ^ 31) {b : Int32} (d1 : Do l G k_La_known [.ref 1, .int (G.xs (i + 1)), .int (G.xs (i + 2)), .int (G.xs (i + 3)), .ref 46] h (ri (nI k)) X) (d2 : Do l G k_Mo_known [.ref 28, .int (G.xs (i + 1)), .int (G.xs (i + 2)), .int (G.xs (i + 3))] X (ri b) Y) (cX : X[27]? = some (.inr (8, c1))) (cY : Y[27]? = some (MoO (nI k) w ht sd md pl sh sx sy ln hi)) (hk : k ≤ 3) (ho : k = 0 → ∃ z, Y[45]? = some (LA z) ∧ z z0 = b.toInt64) (kk : V l G k_La_law H0 1438 [(0, .ref 0), (1, .ref 1), (2, .ref 28), (3, .ref 46), (4, .int (nI i))] [] Y r h') : V l G k_La_law H0 1043 [(0, .ref 0), (1, .ref 1), (2, .ref 28), (3, .ref 46), (4, .int (nI i))] [] h r h' := by
  refine V_aload_n d_La_law_1043 rfl ?_
  refine V_aload_n d_La_law_1044 rfl ?_
  refine V_iload d_La_law_1045 rfl ?_
  refine V_iconst (v := 1) d_La_law_1047 (by decide) ?_
  refine V_iadd d_La_law_1048 ?_
  refine V_sldN d_La_law_1049 (ixs 1 (by omega) hi9 hGL) ?_
  refine V_aload_n d_La_law_1050 rfl ?_
  refine V_iload d_La_law_1051 rfl ?_
  refine V_iconst (v := 2) d_La_law_1053 (by decide) ?_
  refine V_iadd d_La_law_1054 ?_
  refine V_sldN d_La_law_1055 (ixs 2 (by omega) hi9 hGL) ?_
  refine V_aload_n d_La_law_1056 rfl ?_
  refine V_iload d_La_law_1057 rfl ?_
  refine V_iconst (v := 3) d_La_law_1059 (by decide) ?_
  refine V_iadd d_La_law_1060 ?_
  refine V_sldN d_La_law_1061 (ixs 3 (by omega) hi9 hGL) ?_
  refine V_aload_n d_La_law_1062 rfl ?_
  refine V_cS s_La_law_1063 d1 rfl rfl (Nat.le_of_ble_eq_true rfl) ?_
  refine V_istore d_La_law_1066 (by decide) rfl ?_
  refine V_aload_n d_La_law_1068 rfl ?_
  refine V_aload_n d_La_law_1069 rfl ?_
  refine V_iload d_La_law_1070 rfl ?_
  refine V_iconst (v := 1) d_La_law_1072 (by decide) ?_
  refine V_iadd d_La_law_1073 ?_
  refine V_sldN d_La_law_1074 (ixs 1 (by omega) hi9 hGL) ?_
  refine V_aload_n d_La_law_1075 rfl ?_
  refine V_iload d_La_law_1076 rfl ?_
  refine V_iconst (v := 2) d_La_law_1078 (by decide) ?_
  refine V_iadd d_La_law_1079 ?_
  refine V_sldN d_La_law_1080 (ixs 2 (by omega) hi9 hGL) ?_
  refine V_aload_n d_La_law_1081 rfl ?_
  refine V_iload d_La_law_1082 rfl ?_
  refine V_iconst (v := 3) d_La_law_1084 (by decide) ?_
  refine V_iadd d_La_law_1085 ?_
  refine V_sldN d_La_law_1086 (ixs 3 (by omega) hi9 hGL) ?_
  refine V_cV s_La_law_1087 d2 cX rfl rfl (Nat.le_of_ble_eq_true rfl) ?_
  refine V_istore d_La_law_1090 (by decide) rfl ?_
  refine V_aload_n d_La_law_1092 rfl ?_
  refine V_cV s_La_law_1093 (mo_thrown cY) cY rfl rfl (Nat.le_of_ble_eq_true rfl) ?_
  refine V_iload d_La_law_1096 rfl ?_
  refine V_icmp_eq (tgt := 1103) d_La_law_1098 (by decide) (fun _ => ?_) (fun c9 => absurd ((rfl : nI k = nI k)) c9)
  refine V_iload d_La_law_1103 rfl ?_
  rcases Nat.eq_zero_or_pos k with q9 | q9
  · obtain ⟨z, hz1, hz2⟩ := ho q9
    refine V_if_ne (tgt := 1120) d_La_law_1105 (by decide) (fun c9 => absurd ((by rw [q9]; rfl)) c9) (fun _ => ?_)
    refine V_aload_n d_La_law_1108 rfl ?_
    refine V_iconst (v := 0) d_La_law_1109 (by decide) ?_
    refine V_lald d_La_law_1110 hz1 vin0 ?_
    refine V_iload d_La_law_1111 rfl ?_
    refine V_i2l d_La_law_1113 ?_
    refine V_lcmp d_La_law_1114 ?_
    refine V_if_eq (tgt := 1120) d_La_law_1115 (by decide) (fun _ => ?_) (fun c9 => absurd (((lgc0 _ _).mpr hz2)) c9)
    refine V_goto (tgt := 1438) d_La_law_1120 (by decide) ?_
    refine V_keep [0, 1, 2, 3, 4] ?_
    exact kk
  · refine V_if_ne (tgt := 1120) d_La_law_1105 (by decide) (fun _ => ?_) (fun c9 => absurd (c9 : _) ((nI_ne0 q9 (by omega))))
    refine V_goto (tgt := 1438) d_La_law_1120 (by decide) ?_
    refine V_keep [0, 1, 2, 3, 4] ?_
    exact kk
theorem law_scale (hi9 : i + 5 ≤ G.L) (hGL : G.L < 2 ^ 31) {b : Int64} (d1 : Do l G k_La_scale [.ref 1, .int (G.xs (i + 1)), .ref 46] h (ri (nI k)) X) (d2 : Do l G k_Mo_scale [.ref 28, .int (G.xs (i + 1))] X (rl b) Y) (cX : X[27]? = some (.inr (8, c1))) (cY : Y[27]? = some (MoO (nI k) w ht sd md pl sh sx sy ln hi)) (hk : k ≤ 3) (ho : k = 0 → ∃ z, Y[45]? = some (LA z) ∧ z z0 = b) (kk : V l G k_La_law H0 1438 [(0, .ref 0), (1, .ref 1), (2, .ref 28), (3, .ref 46), (4, .int (nI i))] [] Y r h') : V l G k_La_law H0 1123 [(0, .ref 0), (1, .ref 1), (2, .ref 28), (3, .ref 46), (4, .int (nI i))] [] h r h' := by
  refine V_aload_n d_La_law_1123 rfl ?_
  refine V_aload_n d_La_law_1124 rfl ?_
  refine V_iload d_La_law_1125 rfl ?_
  refine V_iconst (v := 1) d_La_law_1127 (by decide) ?_
  refine V_iadd d_La_law_1128 ?_
  refine V_sldN d_La_law_1129 (ixs 1 (by omega) hi9 hGL) ?_
  refine V_aload_n d_La_law_1130 rfl ?_
  refine V_cS s_La_law_1131 d1 rfl rfl (Nat.le_of_ble_eq_true rfl) ?_
  refine V_istore d_La_law_1134 (by decide) rfl ?_
  refine V_aload_n d_La_law_1136 rfl ?_
  refine V_aload_n d_La_law_1137 rfl ?_
  refine V_iload d_La_law_1138 rfl ?_
  refine V_iconst (v := 1) d_La_law_1140 (by decide) ?_
  refine V_iadd d_La_law_1141 ?_
  refine V_sldN d_La_law_1142 (ixs 1 (by omega) hi9 hGL) ?_
  refine V_cV s_La_law_1143 d2 cX rfl rfl (Nat.le_of_ble_eq_true rfl) ?_
  refine V_lstore d_La_law_1146 (by decide) rfl ?_
  refine V_aload_n d_La_law_1148 rfl ?_
  refine V_cV s_La_law_1149 (mo_thrown cY) cY rfl rfl (Nat.le_of_ble_eq_true rfl) ?_
  refine V_iload d_La_law_1152 rfl ?_
  refine V_icmp_eq (tgt := 1159) d_La_law_1154 (by decide) (fun _ => ?_) (fun c9 => absurd ((rfl : nI k = nI k)) c9)
  refine V_iload d_La_law_1159 rfl ?_
  rcases Nat.eq_zero_or_pos k with q9 | q9
  · obtain ⟨z, hz1, hz2⟩ := ho q9
    refine V_if_ne (tgt := 1175) d_La_law_1161 (by decide) (fun c9 => absurd ((by rw [q9]; rfl)) c9) (fun _ => ?_)
    refine V_aload_n d_La_law_1164 rfl ?_
    refine V_iconst (v := 0) d_La_law_1165 (by decide) ?_
    refine V_lald d_La_law_1166 hz1 vin0 ?_
    refine V_lload d_La_law_1167 rfl ?_
    refine V_lcmp d_La_law_1169 ?_
    refine V_if_eq (tgt := 1175) d_La_law_1170 (by decide) (fun _ => ?_) (fun c9 => absurd (((lgc0 _ _).mpr hz2)) c9)
    refine V_goto (tgt := 1438) d_La_law_1175 (by decide) ?_
    refine V_keep [0, 1, 2, 3, 4] ?_
    exact kk
  · refine V_if_ne (tgt := 1175) d_La_law_1161 (by decide) (fun _ => ?_) (fun c9 => absurd (c9 : _) ((nI_ne0 q9 (by omega))))
    refine V_goto (tgt := 1438) d_La_law_1175 (by decide) ?_
    refine V_keep [0, 1, 2, 3, 4] ?_
    exact kk
theorem law_heights (hi9 : i + 5 ≤ G.L) (hGL : G.L < 2 ^ 31) {b : Int32} (d1 : Do l G k_La_heights [.ref 1, .int (G.xs (i + 1)), .int (G.xs (i + 2)), .int (G.xs (i + 3)), .ref 46] h (ri (nI k)) X) (d2 : Do l G k_Mo_heights [.ref 28, .int (G.xs (i + 1)), .int (G.xs (i + 2)), .int (G.xs (i + 3))] X (ri b) Y) (cX : X[27]? = some (.inr (8, c1))) (cY : Y[27]? = some (MoO (nI k) w ht sd md pl sh sx sy ln hi)) (hk : k ≤ 3) (ho : k = 0 → ∃ z, Y[45]? = some (LA z) ∧ z z0 = b.toInt64) (kk : V l G k_La_law H0 1438 [(0, .ref 0), (1, .ref 1), (2, .ref 28), (3, .ref 46), (4, .int (nI i))] [] Y r h') : V l G k_La_law H0 1178 [(0, .ref 0), (1, .ref 1), (2, .ref 28), (3, .ref 46), (4, .int (nI i))] [] h r h' := by
  refine V_aload_n d_La_law_1178 rfl ?_
  refine V_aload_n d_La_law_1179 rfl ?_
  refine V_iload d_La_law_1180 rfl ?_
  refine V_iconst (v := 1) d_La_law_1182 (by decide) ?_
  refine V_iadd d_La_law_1183 ?_
  refine V_sldN d_La_law_1184 (ixs 1 (by omega) hi9 hGL) ?_
  refine V_aload_n d_La_law_1185 rfl ?_
  refine V_iload d_La_law_1186 rfl ?_
  refine V_iconst (v := 2) d_La_law_1188 (by decide) ?_
  refine V_iadd d_La_law_1189 ?_
  refine V_sldN d_La_law_1190 (ixs 2 (by omega) hi9 hGL) ?_
  refine V_aload_n d_La_law_1191 rfl ?_
  refine V_iload d_La_law_1192 rfl ?_
  refine V_iconst (v := 3) d_La_law_1194 (by decide) ?_
  refine V_iadd d_La_law_1195 ?_
  refine V_sldN d_La_law_1196 (ixs 3 (by omega) hi9 hGL) ?_
  refine V_aload_n d_La_law_1197 rfl ?_
  refine V_cS s_La_law_1198 d1 rfl rfl (Nat.le_of_ble_eq_true rfl) ?_
  refine V_istore d_La_law_1201 (by decide) rfl ?_
  refine V_aload_n d_La_law_1203 rfl ?_
  refine V_aload_n d_La_law_1204 rfl ?_
  refine V_iload d_La_law_1205 rfl ?_
  refine V_iconst (v := 1) d_La_law_1207 (by decide) ?_
  refine V_iadd d_La_law_1208 ?_
  refine V_sldN d_La_law_1209 (ixs 1 (by omega) hi9 hGL) ?_
  refine V_aload_n d_La_law_1210 rfl ?_
  refine V_iload d_La_law_1211 rfl ?_
  refine V_iconst (v := 2) d_La_law_1213 (by decide) ?_
  refine V_iadd d_La_law_1214 ?_
  refine V_sldN d_La_law_1215 (ixs 2 (by omega) hi9 hGL) ?_
  refine V_aload_n d_La_law_1216 rfl ?_
  refine V_iload d_La_law_1217 rfl ?_
  refine V_iconst (v := 3) d_La_law_1219 (by decide) ?_
  refine V_iadd d_La_law_1220 ?_
  refine V_sldN d_La_law_1221 (ixs 3 (by omega) hi9 hGL) ?_
  refine V_cV s_La_law_1222 d2 cX rfl rfl (Nat.le_of_ble_eq_true rfl) ?_
  refine V_istore d_La_law_1225 (by decide) rfl ?_
  refine V_aload_n d_La_law_1227 rfl ?_
  refine V_cV s_La_law_1228 (mo_thrown cY) cY rfl rfl (Nat.le_of_ble_eq_true rfl) ?_
  refine V_iload d_La_law_1231 rfl ?_
  refine V_icmp_eq (tgt := 1238) d_La_law_1233 (by decide) (fun _ => ?_) (fun c9 => absurd ((rfl : nI k = nI k)) c9)
  refine V_iload d_La_law_1238 rfl ?_
  rcases Nat.eq_zero_or_pos k with q9 | q9
  · obtain ⟨z, hz1, hz2⟩ := ho q9
    refine V_if_ne (tgt := 1255) d_La_law_1240 (by decide) (fun c9 => absurd ((by rw [q9]; rfl)) c9) (fun _ => ?_)
    refine V_aload_n d_La_law_1243 rfl ?_
    refine V_iconst (v := 0) d_La_law_1244 (by decide) ?_
    refine V_lald d_La_law_1245 hz1 vin0 ?_
    refine V_iload d_La_law_1246 rfl ?_
    refine V_i2l d_La_law_1248 ?_
    refine V_lcmp d_La_law_1249 ?_
    refine V_if_eq (tgt := 1255) d_La_law_1250 (by decide) (fun _ => ?_) (fun c9 => absurd (((lgc0 _ _).mpr hz2)) c9)
    refine V_goto (tgt := 1438) d_La_law_1255 (by decide) ?_
    refine V_keep [0, 1, 2, 3, 4] ?_
    exact kk
  · refine V_if_ne (tgt := 1255) d_La_law_1240 (by decide) (fun _ => ?_) (fun c9 => absurd (c9 : _) ((nI_ne0 q9 (by omega))))
    refine V_goto (tgt := 1438) d_La_law_1255 (by decide) ?_
    refine V_keep [0, 1, 2, 3, 4] ?_
    exact kk
theorem law_depth (hi9 : i + 5 ≤ G.L) (hGL : G.L < 2 ^ 31) {b : Int32} (d1 : Do l G k_La_depth [.ref 1, .int (G.xs (i + 1)), .int (G.xs (i + 2)), .ref 46] h (ri (nI k)) X) (d2 : Do l G k_Mo_depth [.ref 28, .int (G.xs (i + 1)), .int (G.xs (i + 2))] X (ri b) Y) (cX : X[27]? = some (.inr (8, c1))) (cY : Y[27]? = some (MoO (nI k) w ht sd md pl sh sx sy ln hi)) (hk : k ≤ 3) (ho : k = 0 → ∃ z, Y[45]? = some (LA z) ∧ z z0 = b.toInt64) (kk : V l G k_La_law H0 1438 [(0, .ref 0), (1, .ref 1), (2, .ref 28), (3, .ref 46), (4, .int (nI i))] [] Y r h') : V l G k_La_law H0 1258 [(0, .ref 0), (1, .ref 1), (2, .ref 28), (3, .ref 46), (4, .int (nI i))] [] h r h' := by
  refine V_aload_n d_La_law_1258 rfl ?_
  refine V_aload_n d_La_law_1259 rfl ?_
  refine V_iload d_La_law_1260 rfl ?_
  refine V_iconst (v := 1) d_La_law_1262 (by decide) ?_
  refine V_iadd d_La_law_1263 ?_
  refine V_sldN d_La_law_1264 (ixs 1 (by omega) hi9 hGL) ?_
  refine V_aload_n d_La_law_1265 rfl ?_
  refine V_iload d_La_law_1266 rfl ?_
  refine V_iconst (v := 2) d_La_law_1268 (by decide) ?_
  refine V_iadd d_La_law_1269 ?_
  refine V_sldN d_La_law_1270 (ixs 2 (by omega) hi9 hGL) ?_
  refine V_aload_n d_La_law_1271 rfl ?_
  refine V_cS s_La_law_1272 d1 rfl rfl (Nat.le_of_ble_eq_true rfl) ?_
  refine V_istore d_La_law_1275 (by decide) rfl ?_
  refine V_aload_n d_La_law_1277 rfl ?_
  refine V_aload_n d_La_law_1278 rfl ?_
  refine V_iload d_La_law_1279 rfl ?_
  refine V_iconst (v := 1) d_La_law_1281 (by decide) ?_
  refine V_iadd d_La_law_1282 ?_
  refine V_sldN d_La_law_1283 (ixs 1 (by omega) hi9 hGL) ?_
  refine V_aload_n d_La_law_1284 rfl ?_
  refine V_iload d_La_law_1285 rfl ?_
  refine V_iconst (v := 2) d_La_law_1287 (by decide) ?_
  refine V_iadd d_La_law_1288 ?_
  refine V_sldN d_La_law_1289 (ixs 2 (by omega) hi9 hGL) ?_
  refine V_cV s_La_law_1290 d2 cX rfl rfl (Nat.le_of_ble_eq_true rfl) ?_
  refine V_istore d_La_law_1293 (by decide) rfl ?_
  refine V_aload_n d_La_law_1295 rfl ?_
  refine V_cV s_La_law_1296 (mo_thrown cY) cY rfl rfl (Nat.le_of_ble_eq_true rfl) ?_
  refine V_iload d_La_law_1299 rfl ?_
  refine V_icmp_eq (tgt := 1306) d_La_law_1301 (by decide) (fun _ => ?_) (fun c9 => absurd ((rfl : nI k = nI k)) c9)
  refine V_iload d_La_law_1306 rfl ?_
  rcases Nat.eq_zero_or_pos k with q9 | q9
  · obtain ⟨z, hz1, hz2⟩ := ho q9
    refine V_if_ne (tgt := 1323) d_La_law_1308 (by decide) (fun c9 => absurd ((by rw [q9]; rfl)) c9) (fun _ => ?_)
    refine V_aload_n d_La_law_1311 rfl ?_
    refine V_iconst (v := 0) d_La_law_1312 (by decide) ?_
    refine V_lald d_La_law_1313 hz1 vin0 ?_
    refine V_iload d_La_law_1314 rfl ?_
    refine V_i2l d_La_law_1316 ?_
    refine V_lcmp d_La_law_1317 ?_
    refine V_if_eq (tgt := 1323) d_La_law_1318 (by decide) (fun _ => ?_) (fun c9 => absurd (((lgc0 _ _).mpr hz2)) c9)
    refine V_goto (tgt := 1438) d_La_law_1323 (by decide) ?_
    refine V_keep [0, 1, 2, 3, 4] ?_
    exact kk
  · refine V_if_ne (tgt := 1323) d_La_law_1308 (by decide) (fun _ => ?_) (fun c9 => absurd (c9 : _) ((nI_ne0 q9 (by omega))))
    refine V_goto (tgt := 1438) d_La_law_1323 (by decide) ?_
    refine V_keep [0, 1, 2, 3, 4] ?_
    exact kk
theorem law_holes (hi9 : i + 5 ≤ G.L) (hGL : G.L < 2 ^ 31) {b : Int32} (d1 : Do l G k_La_holes [.ref 1, .int (G.xs (i + 1)), .ref 46] h (ri (nI k)) X) (d2 : Do l G k_Mo_holes [.ref 28, .int (G.xs (i + 1))] X (ri b) Y) (cX : X[27]? = some (.inr (8, c1))) (cY : Y[27]? = some (MoO (nI k) w ht sd md pl sh sx sy ln hi)) (hk : k ≤ 3) (ho : k = 0 → ∃ z, Y[45]? = some (LA z) ∧ z z0 = b.toInt64) (kk : V l G k_La_law H0 1438 [(0, .ref 0), (1, .ref 1), (2, .ref 28), (3, .ref 46), (4, .int (nI i))] [] Y r h') : V l G k_La_law H0 1326 [(0, .ref 0), (1, .ref 1), (2, .ref 28), (3, .ref 46), (4, .int (nI i))] [] h r h' := by
  refine V_aload_n d_La_law_1326 rfl ?_
  refine V_aload_n d_La_law_1327 rfl ?_
  refine V_iload d_La_law_1328 rfl ?_
  refine V_iconst (v := 1) d_La_law_1330 (by decide) ?_
  refine V_iadd d_La_law_1331 ?_
  refine V_sldN d_La_law_1332 (ixs 1 (by omega) hi9 hGL) ?_
  refine V_aload_n d_La_law_1333 rfl ?_
  refine V_cS s_La_law_1334 d1 rfl rfl (Nat.le_of_ble_eq_true rfl) ?_
  refine V_istore d_La_law_1337 (by decide) rfl ?_
  refine V_aload_n d_La_law_1339 rfl ?_
  refine V_aload_n d_La_law_1340 rfl ?_
  refine V_iload d_La_law_1341 rfl ?_
  refine V_iconst (v := 1) d_La_law_1343 (by decide) ?_
  refine V_iadd d_La_law_1344 ?_
  refine V_sldN d_La_law_1345 (ixs 1 (by omega) hi9 hGL) ?_
  refine V_cV s_La_law_1346 d2 cX rfl rfl (Nat.le_of_ble_eq_true rfl) ?_
  refine V_istore d_La_law_1349 (by decide) rfl ?_
  refine V_aload_n d_La_law_1351 rfl ?_
  refine V_cV s_La_law_1352 (mo_thrown cY) cY rfl rfl (Nat.le_of_ble_eq_true rfl) ?_
  refine V_iload d_La_law_1355 rfl ?_
  refine V_icmp_eq (tgt := 1362) d_La_law_1357 (by decide) (fun _ => ?_) (fun c9 => absurd ((rfl : nI k = nI k)) c9)
  refine V_iload d_La_law_1362 rfl ?_
  rcases Nat.eq_zero_or_pos k with q9 | q9
  · obtain ⟨z, hz1, hz2⟩ := ho q9
    refine V_if_ne (tgt := 1379) d_La_law_1364 (by decide) (fun c9 => absurd ((by rw [q9]; rfl)) c9) (fun _ => ?_)
    refine V_aload_n d_La_law_1367 rfl ?_
    refine V_iconst (v := 0) d_La_law_1368 (by decide) ?_
    refine V_lald d_La_law_1369 hz1 vin0 ?_
    refine V_iload d_La_law_1370 rfl ?_
    refine V_i2l d_La_law_1372 ?_
    refine V_lcmp d_La_law_1373 ?_
    refine V_if_eq (tgt := 1379) d_La_law_1374 (by decide) (fun _ => ?_) (fun c9 => absurd (((lgc0 _ _).mpr hz2)) c9)
    refine V_goto (tgt := 1438) d_La_law_1379 (by decide) ?_
    refine V_keep [0, 1, 2, 3, 4] ?_
    exact kk
  · refine V_if_ne (tgt := 1379) d_La_law_1364 (by decide) (fun _ => ?_) (fun c9 => absurd (c9 : _) ((nI_ne0 q9 (by omega))))
    refine V_goto (tgt := 1438) d_La_law_1379 (by decide) ?_
    refine V_keep [0, 1, 2, 3, 4] ?_
    exact kk
theorem law_count (hi9 : i + 5 ≤ G.L) (hGL : G.L < 2 ^ 31) {b : Int32} (d1 : Do l G k_La_count [.ref 1, .int (G.xs (i + 1)), .ref 46] h (ri (nI k)) X) (d2 : Do l G k_Mo_count [.ref 28, .int (G.xs (i + 1))] X (ri b) Y) (cX : X[27]? = some (.inr (8, c1))) (cY : Y[27]? = some (MoO (nI k) w ht sd md pl sh sx sy ln hi)) (hk : k ≤ 3) (ho : k = 0 → ∃ z, Y[45]? = some (LA z) ∧ z z0 = b.toInt64) (kk : V l G k_La_law H0 1438 [(0, .ref 0), (1, .ref 1), (2, .ref 28), (3, .ref 46), (4, .int (nI i))] [] Y r h') : V l G k_La_law H0 1382 [(0, .ref 0), (1, .ref 1), (2, .ref 28), (3, .ref 46), (4, .int (nI i))] [] h r h' := by
  refine V_aload_n d_La_law_1382 rfl ?_
  refine V_aload_n d_La_law_1383 rfl ?_
  refine V_iload d_La_law_1384 rfl ?_
  refine V_iconst (v := 1) d_La_law_1386 (by decide) ?_
  refine V_iadd d_La_law_1387 ?_
  refine V_sldN d_La_law_1388 (ixs 1 (by omega) hi9 hGL) ?_
  refine V_aload_n d_La_law_1389 rfl ?_
  refine V_cS s_La_law_1390 d1 rfl rfl (Nat.le_of_ble_eq_true rfl) ?_
  refine V_istore d_La_law_1393 (by decide) rfl ?_
  refine V_aload_n d_La_law_1395 rfl ?_
  refine V_aload_n d_La_law_1396 rfl ?_
  refine V_iload d_La_law_1397 rfl ?_
  refine V_iconst (v := 1) d_La_law_1399 (by decide) ?_
  refine V_iadd d_La_law_1400 ?_
  refine V_sldN d_La_law_1401 (ixs 1 (by omega) hi9 hGL) ?_
  refine V_cV s_La_law_1402 d2 cX rfl rfl (Nat.le_of_ble_eq_true rfl) ?_
  refine V_istore d_La_law_1405 (by decide) rfl ?_
  refine V_aload_n d_La_law_1407 rfl ?_
  refine V_cV s_La_law_1408 (mo_thrown cY) cY rfl rfl (Nat.le_of_ble_eq_true rfl) ?_
  refine V_iload d_La_law_1411 rfl ?_
  refine V_icmp_eq (tgt := 1418) d_La_law_1413 (by decide) (fun _ => ?_) (fun c9 => absurd ((rfl : nI k = nI k)) c9)
  refine V_iload d_La_law_1418 rfl ?_
  rcases Nat.eq_zero_or_pos k with q9 | q9
  · obtain ⟨z, hz1, hz2⟩ := ho q9
    refine V_if_ne (tgt := 1435) d_La_law_1420 (by decide) (fun c9 => absurd ((by rw [q9]; rfl)) c9) (fun _ => ?_)
    refine V_aload_n d_La_law_1423 rfl ?_
    refine V_iconst (v := 0) d_La_law_1424 (by decide) ?_
    refine V_lald d_La_law_1425 hz1 vin0 ?_
    refine V_iload d_La_law_1426 rfl ?_
    refine V_i2l d_La_law_1428 ?_
    refine V_lcmp d_La_law_1429 ?_
    refine V_if_eq (tgt := 1435) d_La_law_1430 (by decide) (fun _ => ?_) (fun c9 => absurd (((lgc0 _ _).mpr hz2)) c9)
    refine V_goto (tgt := 1438) d_La_law_1435 (by decide) ?_
    refine V_keep [0, 1, 2, 3, 4] ?_
    exact kk
  · refine V_if_ne (tgt := 1435) d_La_law_1420 (by decide) (fun _ => ?_) (fun c9 => absurd (c9 : _) ((nI_ne0 q9 (by omega))))
    refine V_goto (tgt := 1438) d_La_law_1435 (by decide) ?_
    refine V_keep [0, 1, 2, 3, 4] ?_
    exact kk
theorem law_sum {b : Int64} {fs : List Value} (d1 : Do l G k_Pm_sum [.ref 1] h (rl b) h) (d2 : Do l G k_Mo_sum [.ref 28] h (rl b) Y) (c0 : h[0]? = some (.inr (7, fs))) (cX : h[27]? = some (.inr (8, c1))) (kk : V l G k_La_law H0 1438 [(0, .ref 0), (1, .ref 1), (2, .ref 28), (3, .ref 46), (4, .int (nI i))] [] Y r h') : V l G k_La_law H0 838 [(0, .ref 0), (1, .ref 1), (2, .ref 28), (3, .ref 46), (4, .int (nI i))] [] h r h' := by
  refine V_aload_n d_La_law_838 rfl ?_
  refine V_cV s_La_law_839 d1 c0 rfl rfl (Nat.le_of_ble_eq_true rfl) ?_
  refine V_aload_n d_La_law_842 rfl ?_
  refine V_cV s_La_law_843 d2 cX rfl rfl (Nat.le_of_ble_eq_true rfl) ?_
  refine V_lcmp d_La_law_846 ?_
  refine V_if_eq (tgt := 1438) d_La_law_847 (by decide) (fun _ => ?_) (fun c9 => absurd (((lgc0 _ _).mpr rfl)) c9)
  exact kk
end P50
