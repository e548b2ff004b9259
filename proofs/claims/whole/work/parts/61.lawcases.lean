set_option maxRecDepth 100000 in
set_option maxHeartbeats 4000000 in
theorem lc_0 {X1 X2 : am_X} {l : Launch} {p : Program} {e : Env} {s : State} {m : MethodId} {below : List Frame} {meth : Method} {c : Code} {b L : Nat} {xs : Nat → Int32} {nc ns : Nat} (C : am_LC X1 X2 l p s m meth c b L xs) (hnc : nc ≤ 600000) (hns : ns ≤ 7302249) {i : Int32} (hv : ∀ k : Nat, k < 10 → vp_in (i + Int32.ofNat k) L) {r : Int32} {σ1 σ2 σ2' : am_H} (h1 : f_X11_status σ1 = some r) (h2 : f_X12_status σ2 = some (r, σ2')) (kk : am_LG X1 X2 l p e s m below meth c b L xs nc ns 2540 [(0, .ref b), (1, .ref (am_ad X1 11 0)), (2, .ref (am_ad X2 12 0)), (3, .int i)] [] σ1 σ2') : am_LG X1 X2 l p e s m below meth c b L xs nc ns 244 [(0, .ref b), (1, .ref (am_ad X1 11 0)), (2, .ref (am_ad X2 12 0)), (3, .int i)] [] σ1 σ2 := by
  refine w_aload_n C (pc := 244) 1 rfl dL_law_244 rfl ?_
  refine w_c1 C (pc := 245) (As := []) (st := []) (st1 := [.int r]) kk_11 (in_11 C.2.1.1 (Nat.le_refl 1)) mV_X11_status (tb_3 (List.mem_of_getElem? (i := 70) (by decide +kernel))) rfl (Nat.le_of_ble_eq_true rfl) (Nat.le_of_ble_eq_true rfl) hnc hns (k_X11_status C.2.1  σ1 h1) dL_law_245 rfl rfl ?_
  refine w_aload_n C (pc := 248) 2 rfl dL_law_248 rfl ?_
  refine w_c2 C (pc := 249) (As := []) (st := [.int r]) (st1 := [.int r, .int r]) kk_12 (in_12 C.2.2.1 (Nat.le_refl 1)) mV_X12_status (tb_8 (List.mem_of_getElem? (i := 67) (by decide +kernel))) rfl (Nat.le_of_ble_eq_true rfl) (Nat.le_of_ble_eq_true rfl) hnc hns (k_X12_status C.2.2.1  σ2 h2) dL_law_249 rfl rfl ?_
  exact w_ieq C (pc := 252) 2540 dL_law_252 rfl kk
set_option maxRecDepth 100000 in
set_option maxHeartbeats 4000000 in
theorem lc_1 {X1 X2 : am_X} {l : Launch} {p : Program} {e : Env} {s : State} {m : MethodId} {below : List Frame} {meth : Method} {c : Code} {b L : Nat} {xs : Nat → Int32} {nc ns : Nat} (C : am_LC X1 X2 l p s m meth c b L xs) (hnc : nc ≤ 600000) (hns : ns ≤ 7302249) {i : Int32} (hv : ∀ k : Nat, k < 10 → vp_in (i + Int32.ofNat k) L) {r : Int64} {σ1 σ2 σ2' : am_H} (h1 : f_X11_top σ1 = some r) (h2 : f_X12_top σ2 = some (r, σ2')) (kk : am_LG X1 X2 l p e s m below meth c b L xs nc ns 2540 [(0, .ref b), (1, .ref (am_ad X1 11 0)), (2, .ref (am_ad X2 12 0)), (3, .int i)] [] σ1 σ2') : am_LG X1 X2 l p e s m below meth c b L xs nc ns 257 [(0, .ref b), (1, .ref (am_ad X1 11 0)), (2, .ref (am_ad X2 12 0)), (3, .int i)] [] σ1 σ2 := by
  refine w_aload_n C (pc := 257) 1 rfl dL_law_257 rfl ?_
  refine w_c1 C (pc := 258) (As := []) (st := []) (st1 := [.long r]) kk_11 (in_11 C.2.1.1 (Nat.le_refl 1)) mV_X11_top (tb_3 (List.mem_of_getElem? (i := 74) (by decide +kernel))) rfl (Nat.le_of_ble_eq_true rfl) (Nat.le_of_ble_eq_true rfl) hnc hns (k_X11_top C.2.1  σ1 h1) dL_law_258 rfl rfl ?_
  refine w_aload_n C (pc := 261) 2 rfl dL_law_261 rfl ?_
  refine w_c2 C (pc := 262) (As := []) (st := [.long r]) (st1 := [.long r, .long r]) kk_12 (in_12 C.2.2.1 (Nat.le_refl 1)) mV_X12_top (tb_8 (List.mem_of_getElem? (i := 71) (by decide +kernel))) rfl (Nat.le_of_ble_eq_true rfl) (Nat.le_of_ble_eq_true rfl) hnc hns (k_X12_top C.2.2.1  σ2 h2) dL_law_262 rfl rfl ?_
  exact w_leq C (pc := 265) 2540 dL_law_265 dL_law_266 rfl kk
set_option maxRecDepth 100000 in
set_option maxHeartbeats 4000000 in
theorem lc_2 {X1 X2 : am_X} {l : Launch} {p : Program} {e : Env} {s : State} {m : MethodId} {below : List Frame} {meth : Method} {c : Code} {b L : Nat} {xs : Nat → Int32} {nc ns : Nat} (C : am_LC X1 X2 l p s m meth c b L xs) (hnc : nc ≤ 600000) (hns : ns ≤ 7302249) {i : Int32} (hv : ∀ k : Nat, k < 10 → vp_in (i + Int32.ofNat k) L) {r : Int64} {σ1 σ2 σ2' : am_H} (h1 : f_X11_bottom σ1 = some r) (h2 : f_X12_bottom σ2 = some (r, σ2')) (kk : am_LG X1 X2 l p e s m below meth c b L xs nc ns 2540 [(0, .ref b), (1, .ref (am_ad X1 11 0)), (2, .ref (am_ad X2 12 0)), (3, .int i)] [] σ1 σ2') : am_LG X1 X2 l p e s m below meth c b L xs nc ns 271 [(0, .ref b), (1, .ref (am_ad X1 11 0)), (2, .ref (am_ad X2 12 0)), (3, .int i)] [] σ1 σ2 := by
  refine w_aload_n C (pc := 271) 1 rfl dL_law_271 rfl ?_
  refine w_c1 C (pc := 272) (As := []) (st := []) (st1 := [.long r]) kk_11 (in_11 C.2.1.1 (Nat.le_refl 1)) mV_X11_bottom (tb_3 (List.mem_of_getElem? (i := 78) (by decide +kernel))) rfl (Nat.le_of_ble_eq_true rfl) (Nat.le_of_ble_eq_true rfl) hnc hns (k_X11_bottom C.2.1  σ1 h1) dL_law_272 rfl rfl ?_
  refine w_aload_n C (pc := 275) 2 rfl dL_law_275 rfl ?_
  refine w_c2 C (pc := 276) (As := []) (st := [.long r]) (st1 := [.long r, .long r]) kk_12 (in_12 C.2.2.1 (Nat.le_refl 1)) mV_X12_bottom (tb_8 (List.mem_of_getElem? (i := 75) (by decide +kernel))) rfl (Nat.le_of_ble_eq_true rfl) (Nat.le_of_ble_eq_true rfl) hnc hns (k_X12_bottom C.2.2.1  σ2 h2) dL_law_276 rfl rfl ?_
  exact w_leq C (pc := 279) 2540 dL_law_279 dL_law_280 rfl kk
set_option maxRecDepth 100000 in
set_option maxHeartbeats 4000000 in
theorem lc_3 {X1 X2 : am_X} {l : Launch} {p : Program} {e : Env} {s : State} {m : MethodId} {below : List Frame} {meth : Method} {c : Code} {b L : Nat} {xs : Nat → Int32} {nc ns : Nat} (C : am_LC X1 X2 l p s m meth c b L xs) (hnc : nc ≤ 600000) (hns : ns ≤ 7302249) {i : Int32} (hv : ∀ k : Nat, k < 10 → vp_in (i + Int32.ofNat k) L) {r : Bool} {σ1 σ2 σ1' σ2' : am_H} (h1 : f_X11_tray (xs (i + 1).toNatClampNeg) (xs (i + 2).toNatClampNeg) (xs (i + 3).toNatClampNeg) σ1 = some (r, σ1')) (h2 : f_X12_tray (xs (i + 1).toNatClampNeg) (xs (i + 2).toNatClampNeg) (xs (i + 3).toNatClampNeg) σ2 = some (r, σ2')) (kk : am_LG X1 X2 l p e s m below meth c b L xs nc ns 2540 [(0, .ref b), (1, .ref (am_ad X1 11 0)), (2, .ref (am_ad X2 12 0)), (3, .int i)] [] σ1' σ2') : am_LG X1 X2 l p e s m below meth c b L xs nc ns 285 [(0, .ref b), (1, .ref (am_ad X1 11 0)), (2, .ref (am_ad X2 12 0)), (3, .int i)] [] σ1 σ2 := by
  refine w_aload_n C (pc := 285) 1 rfl dL_law_285 rfl ?_
  refine w_aload_n C (pc := 286) 0 rfl dL_law_286 rfl ?_
  refine w_iload_n C (pc := 287) 3 rfl dL_law_287 rfl ?_
  refine w_iconst C (pc := 288) (v := 1) dL_law_288 (by decide) ?_
  refine w_iadd C (pc := 289) dL_law_289 ?_
  refine w_sld C (pc := 290) (hv 1 (by decide)) dL_law_290 ?_
  refine w_aload_n C (pc := 291) 0 rfl dL_law_291 rfl ?_
  refine w_iload_n C (pc := 292) 3 rfl dL_law_292 rfl ?_
  refine w_iconst C (pc := 293) (v := 2) dL_law_293 (by decide) ?_
  refine w_iadd C (pc := 294) dL_law_294 ?_
  refine w_sld C (pc := 295) (hv 2 (by decide)) dL_law_295 ?_
  refine w_aload_n C (pc := 296) 0 rfl dL_law_296 rfl ?_
  refine w_iload_n C (pc := 297) 3 rfl dL_law_297 rfl ?_
  refine w_iconst C (pc := 298) (v := 3) dL_law_298 (by decide) ?_
  refine w_iadd C (pc := 299) dL_law_299 ?_
  refine w_sld C (pc := 300) (hv 3 (by decide)) dL_law_300 ?_
  refine w_c1 C (pc := 301) (As := [.int (xs (i + 1).toNatClampNeg), .int (xs (i + 2).toNatClampNeg), .int (xs (i + 3).toNatClampNeg)]) (st := []) (st1 := [.int (am_b r)]) kk_11 (in_11 C.2.1.1 (Nat.le_refl 1)) mV_X11_tray (tb_3 (List.mem_of_getElem? (i := 82) (by decide +kernel))) rfl (Nat.le_of_ble_eq_true rfl) (Nat.le_of_ble_eq_true rfl) hnc hns (k_X11_tray C.2.1 (xs (i + 1).toNatClampNeg) (xs (i + 2).toNatClampNeg) (xs (i + 3).toNatClampNeg) σ1 h1) dL_law_301 rfl rfl ?_
  refine w_aload_n C (pc := 304) 2 rfl dL_law_304 rfl ?_
  refine w_aload_n C (pc := 305) 0 rfl dL_law_305 rfl ?_
  refine w_iload_n C (pc := 306) 3 rfl dL_law_306 rfl ?_
  refine w_iconst C (pc := 307) (v := 1) dL_law_307 (by decide) ?_
  refine w_iadd C (pc := 308) dL_law_308 ?_
  refine w_sld C (pc := 309) (hv 1 (by decide)) dL_law_309 ?_
  refine w_aload_n C (pc := 310) 0 rfl dL_law_310 rfl ?_
  refine w_iload_n C (pc := 311) 3 rfl dL_law_311 rfl ?_
  refine w_iconst C (pc := 312) (v := 2) dL_law_312 (by decide) ?_
  refine w_iadd C (pc := 313) dL_law_313 ?_
  refine w_sld C (pc := 314) (hv 2 (by decide)) dL_law_314 ?_
  refine w_aload_n C (pc := 315) 0 rfl dL_law_315 rfl ?_
  refine w_iload_n C (pc := 316) 3 rfl dL_law_316 rfl ?_
  refine w_iconst C (pc := 317) (v := 3) dL_law_317 (by decide) ?_
  refine w_iadd C (pc := 318) dL_law_318 ?_
  refine w_sld C (pc := 319) (hv 3 (by decide)) dL_law_319 ?_
  refine w_c2 C (pc := 320) (As := [.int (xs (i + 1).toNatClampNeg), .int (xs (i + 2).toNatClampNeg), .int (xs (i + 3).toNatClampNeg)]) (st := [.int (am_b r)]) (st1 := [.int (am_b r), .int (am_b r)]) kk_12 (in_12 C.2.2.1 (Nat.le_refl 1)) mV_X12_tray (tb_8 (List.mem_of_getElem? (i := 79) (by decide +kernel))) rfl (Nat.le_of_ble_eq_true rfl) (Nat.le_of_ble_eq_true rfl) hnc hns (k_X12_tray C.2.2.1 (xs (i + 1).toNatClampNeg) (xs (i + 2).toNatClampNeg) (xs (i + 3).toNatClampNeg) σ2 h2) dL_law_320 rfl rfl ?_
  exact w_ieq C (pc := 323) 2540 dL_law_323 rfl kk
set_option maxRecDepth 100000 in
set_option maxHeartbeats 4000000 in
theorem lc_4 {X1 X2 : am_X} {l : Launch} {p : Program} {e : Env} {s : State} {m : MethodId} {below : List Frame} {meth : Method} {c : Code} {b L : Nat} {xs : Nat → Int32} {nc ns : Nat} (C : am_LC X1 X2 l p s m meth c b L xs) (hnc : nc ≤ 600000) (hns : ns ≤ 7302249) {i : Int32} (hv : ∀ k : Nat, k < 10 → vp_in (i + Int32.ofNat k) L) {r : Bool} {σ1 σ2 σ1' σ2' : am_H} (h1 : f_X11_write (xs (i + 1).toNatClampNeg) (xs (i + 2).toNatClampNeg) (((Int32.toInt64 (xs (i + 3).toNatClampNeg)) <<< (Int32.toInt64 32 &&& 63)) ||| ((Int32.toInt64 (xs (i + 4).toNatClampNeg)) &&& 4294967295)) σ1 = some (r, σ1')) (h2 : f_X12_write (xs (i + 1).toNatClampNeg) (xs (i + 2).toNatClampNeg) (((Int32.toInt64 (xs (i + 3).toNatClampNeg)) <<< (Int32.toInt64 32 &&& 63)) ||| ((Int32.toInt64 (xs (i + 4).toNatClampNeg)) &&& 4294967295)) σ2 = some (r, σ2')) (kk : am_LG X1 X2 l p e s m below meth c b L xs nc ns 2540 [(0, .ref b), (1, .ref (am_ad X1 11 0)), (2, .ref (am_ad X2 12 0)), (3, .int i)] [] σ1' σ2') : am_LG X1 X2 l p e s m below meth c b L xs nc ns 328 [(0, .ref b), (1, .ref (am_ad X1 11 0)), (2, .ref (am_ad X2 12 0)), (3, .int i)] [] σ1 σ2 := by
  refine w_aload_n C (pc := 328) 1 rfl dL_law_328 rfl ?_
  refine w_aload_n C (pc := 329) 0 rfl dL_law_329 rfl ?_
  refine w_iload_n C (pc := 330) 3 rfl dL_law_330 rfl ?_
  refine w_iconst C (pc := 331) (v := 1) dL_law_331 (by decide) ?_
  refine w_iadd C (pc := 332) dL_law_332 ?_
  refine w_sld C (pc := 333) (hv 1 (by decide)) dL_law_333 ?_
  refine w_aload_n C (pc := 334) 0 rfl dL_law_334 rfl ?_
  refine w_iload_n C (pc := 335) 3 rfl dL_law_335 rfl ?_
  refine w_iconst C (pc := 336) (v := 2) dL_law_336 (by decide) ?_
  refine w_iadd C (pc := 337) dL_law_337 ?_
  refine w_sld C (pc := 338) (hv 2 (by decide)) dL_law_338 ?_
  refine w_aload_n C (pc := 339) 0 rfl dL_law_339 rfl ?_
  refine w_iload_n C (pc := 340) 3 rfl dL_law_340 rfl ?_
  refine w_iconst C (pc := 341) (v := 3) dL_law_341 (by decide) ?_
  refine w_iadd C (pc := 342) dL_law_342 ?_
  refine w_sld C (pc := 343) (hv 3 (by decide)) dL_law_343 ?_
  refine w_i2l C (pc := 344) dL_law_344 ?_
  refine w_bipush C (pc := 345) (v := 32) dL_law_345 (by decide) ?_
  refine w_lshl C (pc := 347) dL_law_347 ?_
  refine w_aload_n C (pc := 348) 0 rfl dL_law_348 rfl ?_
  refine w_iload_n C (pc := 349) 3 rfl dL_law_349 rfl ?_
  refine w_iconst C (pc := 350) (v := 4) dL_law_350 (by decide) ?_
  refine w_iadd C (pc := 351) dL_law_351 ?_
  refine w_sld C (pc := 352) (hv 4 (by decide)) dL_law_352 ?_
  refine w_i2l C (pc := 353) dL_law_353 ?_
  refine w_ldc2 C (pc := 354) (v := 4294967295) (tb_10 (List.mem_of_getElem? (i := 147) (by decide +kernel))) dL_law_354 ?_
  refine w_land C (pc := 357) dL_law_357 ?_
  refine w_lor C (pc := 358) dL_law_358 ?_
  refine w_c1 C (pc := 359) (As := [.int (xs (i + 1).toNatClampNeg), .int (xs (i + 2).toNatClampNeg), .long (((Int32.toInt64 (xs (i + 3).toNatClampNeg)) <<< (Int32.toInt64 32 &&& 63)) ||| ((Int32.toInt64 (xs (i + 4).toNatClampNeg)) &&& 4294967295))]) (st := []) (st1 := [.int (am_b r)]) kk_11 (in_11 C.2.1.1 (Nat.le_refl 1)) mV_X11_write (tb_3 (List.mem_of_getElem? (i := 108) (by decide +kernel))) rfl (Nat.le_of_ble_eq_true rfl) (Nat.le_of_ble_eq_true rfl) hnc hns (k_X11_write C.2.1 (xs (i + 1).toNatClampNeg) (xs (i + 2).toNatClampNeg) (((Int32.toInt64 (xs (i + 3).toNatClampNeg)) <<< (Int32.toInt64 32 &&& 63)) ||| ((Int32.toInt64 (xs (i + 4).toNatClampNeg)) &&& 4294967295)) σ1 h1) dL_law_359 rfl rfl ?_
  refine w_aload_n C (pc := 362) 2 rfl dL_law_362 rfl ?_
  refine w_aload_n C (pc := 363) 0 rfl dL_law_363 rfl ?_
  refine w_iload_n C (pc := 364) 3 rfl dL_law_364 rfl ?_
  refine w_iconst C (pc := 365) (v := 1) dL_law_365 (by decide) ?_
  refine w_iadd C (pc := 366) dL_law_366 ?_
  refine w_sld C (pc := 367) (hv 1 (by decide)) dL_law_367 ?_
  refine w_aload_n C (pc := 368) 0 rfl dL_law_368 rfl ?_
  refine w_iload_n C (pc := 369) 3 rfl dL_law_369 rfl ?_
  refine w_iconst C (pc := 370) (v := 2) dL_law_370 (by decide) ?_
  refine w_iadd C (pc := 371) dL_law_371 ?_
  refine w_sld C (pc := 372) (hv 2 (by decide)) dL_law_372 ?_
  refine w_aload_n C (pc := 373) 0 rfl dL_law_373 rfl ?_
  refine w_iload_n C (pc := 374) 3 rfl dL_law_374 rfl ?_
  refine w_iconst C (pc := 375) (v := 3) dL_law_375 (by decide) ?_
  refine w_iadd C (pc := 376) dL_law_376 ?_
  refine w_sld C (pc := 377) (hv 3 (by decide)) dL_law_377 ?_
  refine w_i2l C (pc := 378) dL_law_378 ?_
  refine w_bipush C (pc := 379) (v := 32) dL_law_379 (by decide) ?_
  refine w_lshl C (pc := 381) dL_law_381 ?_
  refine w_aload_n C (pc := 382) 0 rfl dL_law_382 rfl ?_
  refine w_iload_n C (pc := 383) 3 rfl dL_law_383 rfl ?_
  refine w_iconst C (pc := 384) (v := 4) dL_law_384 (by decide) ?_
  refine w_iadd C (pc := 385) dL_law_385 ?_
  refine w_sld C (pc := 386) (hv 4 (by decide)) dL_law_386 ?_
  refine w_i2l C (pc := 387) dL_law_387 ?_
  refine w_ldc2 C (pc := 388) (v := 4294967295) (tb_10 (List.mem_of_getElem? (i := 147) (by decide +kernel))) dL_law_388 ?_
  refine w_land C (pc := 391) dL_law_391 ?_
  refine w_lor C (pc := 392) dL_law_392 ?_
  refine w_c2 C (pc := 393) (As := [.int (xs (i + 1).toNatClampNeg), .int (xs (i + 2).toNatClampNeg), .long (((Int32.toInt64 (xs (i + 3).toNatClampNeg)) <<< (Int32.toInt64 32 &&& 63)) ||| ((Int32.toInt64 (xs (i + 4).toNatClampNeg)) &&& 4294967295))]) (st := [.int (am_b r)]) (st1 := [.int (am_b r), .int (am_b r)]) kk_12 (in_12 C.2.2.1 (Nat.le_refl 1)) mV_X12_write (tb_8 (List.mem_of_getElem? (i := 87) (by decide +kernel))) rfl (Nat.le_of_ble_eq_true rfl) (Nat.le_of_ble_eq_true rfl) hnc hns (k_X12_write C.2.2.1 (xs (i + 1).toNatClampNeg) (xs (i + 2).toNatClampNeg) (((Int32.toInt64 (xs (i + 3).toNatClampNeg)) <<< (Int32.toInt64 32 &&& 63)) ||| ((Int32.toInt64 (xs (i + 4).toNatClampNeg)) &&& 4294967295)) σ2 h2) dL_law_393 rfl rfl ?_
  exact w_ieq C (pc := 396) 2540 dL_law_396 rfl kk
set_option maxRecDepth 100000 in
set_option maxHeartbeats 4000000 in
theorem lc_5 {X1 X2 : am_X} {l : Launch} {p : Program} {e : Env} {s : State} {m : MethodId} {below : List Frame} {meth : Method} {c : Code} {b L : Nat} {xs : Nat → Int32} {nc ns : Nat} (C : am_LC X1 X2 l p s m meth c b L xs) (hnc : nc ≤ 600000) (hns : ns ≤ 7302249) {i : Int32} (hv : ∀ k : Nat, k < 10 → vp_in (i + Int32.ofNat k) L) {r : Int64} {σ1 σ2 σ1' σ2' : am_H} (h1 : f_X11_read (xs (i + 1).toNatClampNeg) (xs (i + 2).toNatClampNeg) σ1 = some (r, σ1')) (h2 : f_X12_read (xs (i + 1).toNatClampNeg) (xs (i + 2).toNatClampNeg) σ2 = some (r, σ2')) (kk : am_LG X1 X2 l p e s m below meth c b L xs nc ns 2540 [(0, .ref b), (1, .ref (am_ad X1 11 0)), (2, .ref (am_ad X2 12 0)), (3, .int i)] [] σ1' σ2') : am_LG X1 X2 l p e s m below meth c b L xs nc ns 401 [(0, .ref b), (1, .ref (am_ad X1 11 0)), (2, .ref (am_ad X2 12 0)), (3, .int i)] [] σ1 σ2 := by
  refine w_aload_n C (pc := 401) 1 rfl dL_law_401 rfl ?_
  refine w_aload_n C (pc := 402) 0 rfl dL_law_402 rfl ?_
  refine w_iload_n C (pc := 403) 3 rfl dL_law_403 rfl ?_
  refine w_iconst C (pc := 404) (v := 1) dL_law_404 (by decide) ?_
  refine w_iadd C (pc := 405) dL_law_405 ?_
  refine w_sld C (pc := 406) (hv 1 (by decide)) dL_law_406 ?_
  refine w_aload_n C (pc := 407) 0 rfl dL_law_407 rfl ?_
  refine w_iload_n C (pc := 408) 3 rfl dL_law_408 rfl ?_
  refine w_iconst C (pc := 409) (v := 2) dL_law_409 (by decide) ?_
  refine w_iadd C (pc := 410) dL_law_410 ?_
  refine w_sld C (pc := 411) (hv 2 (by decide)) dL_law_411 ?_
  refine w_c1 C (pc := 412) (As := [.int (xs (i + 1).toNatClampNeg), .int (xs (i + 2).toNatClampNeg)]) (st := []) (st1 := [.long r]) kk_11 (in_11 C.2.1.1 (Nat.le_refl 1)) mV_X11_read (tb_3 (List.mem_of_getElem? (i := 124) (by decide +kernel))) rfl (Nat.le_of_ble_eq_true rfl) (Nat.le_of_ble_eq_true rfl) hnc hns (k_X11_read C.2.1 (xs (i + 1).toNatClampNeg) (xs (i + 2).toNatClampNeg) σ1 h1) dL_law_412 rfl rfl ?_
  refine w_aload_n C (pc := 415) 2 rfl dL_law_415 rfl ?_
  refine w_aload_n C (pc := 416) 0 rfl dL_law_416 rfl ?_
  refine w_iload_n C (pc := 417) 3 rfl dL_law_417 rfl ?_
  refine w_iconst C (pc := 418) (v := 1) dL_law_418 (by decide) ?_
  refine w_iadd C (pc := 419) dL_law_419 ?_
  refine w_sld C (pc := 420) (hv 1 (by decide)) dL_law_420 ?_
  refine w_aload_n C (pc := 421) 0 rfl dL_law_421 rfl ?_
  refine w_iload_n C (pc := 422) 3 rfl dL_law_422 rfl ?_
  refine w_iconst C (pc := 423) (v := 2) dL_law_423 (by decide) ?_
  refine w_iadd C (pc := 424) dL_law_424 ?_
  refine w_sld C (pc := 425) (hv 2 (by decide)) dL_law_425 ?_
  refine w_c2 C (pc := 426) (As := [.int (xs (i + 1).toNatClampNeg), .int (xs (i + 2).toNatClampNeg)]) (st := [.long r]) (st1 := [.long r, .long r]) kk_12 (in_12 C.2.2.1 (Nat.le_refl 1)) mV_X12_read (tb_8 (List.mem_of_getElem? (i := 102) (by decide +kernel))) rfl (Nat.le_of_ble_eq_true rfl) (Nat.le_of_ble_eq_true rfl) hnc hns (k_X12_read C.2.2.1 (xs (i + 1).toNatClampNeg) (xs (i + 2).toNatClampNeg) σ2 h2) dL_law_426 rfl rfl ?_
  exact w_leq C (pc := 429) 2540 dL_law_429 dL_law_430 rfl kk
set_option maxRecDepth 100000 in
set_option maxHeartbeats 4000000 in
theorem lc_6 {X1 X2 : am_X} {l : Launch} {p : Program} {e : Env} {s : State} {m : MethodId} {below : List Frame} {meth : Method} {c : Code} {b L : Nat} {xs : Nat → Int32} {nc ns : Nat} (C : am_LC X1 X2 l p s m meth c b L xs) (hnc : nc ≤ 600000) (hns : ns ≤ 7302249) {i : Int32} (hv : ∀ k : Nat, k < 10 → vp_in (i + Int32.ofNat k) L) {r : Bool} {σ1 σ2 σ1' σ2' : am_H} (h1 : f_X11_pour (xs (i + 1).toNatClampNeg) (xs (i + 2).toNatClampNeg) (xs (i + 3).toNatClampNeg) (xs (i + 4).toNatClampNeg) (xs (i + 5).toNatClampNeg) σ1 = some (r, σ1')) (h2 : f_X12_pour (xs (i + 1).toNatClampNeg) (xs (i + 2).toNatClampNeg) (xs (i + 3).toNatClampNeg) (xs (i + 4).toNatClampNeg) (xs (i + 5).toNatClampNeg) σ2 = some (r, σ2')) (kk : am_LG X1 X2 l p e s m below meth c b L xs nc ns 2540 [(0, .ref b), (1, .ref (am_ad X1 11 0)), (2, .ref (am_ad X2 12 0)), (3, .int i)] [] σ1' σ2') : am_LG X1 X2 l p e s m below meth c b L xs nc ns 435 [(0, .ref b), (1, .ref (am_ad X1 11 0)), (2, .ref (am_ad X2 12 0)), (3, .int i)] [] σ1 σ2 := by
  refine w_aload_n C (pc := 435) 1 rfl dL_law_435 rfl ?_
  refine w_aload_n C (pc := 436) 0 rfl dL_law_436 rfl ?_
  refine w_iload_n C (pc := 437) 3 rfl dL_law_437 rfl ?_
  refine w_iconst C (pc := 438) (v := 1) dL_law_438 (by decide) ?_
  refine w_iadd C (pc := 439) dL_law_439 ?_
  refine w_sld C (pc := 440) (hv 1 (by decide)) dL_law_440 ?_
  refine w_aload_n C (pc := 441) 0 rfl dL_law_441 rfl ?_
  refine w_iload_n C (pc := 442) 3 rfl dL_law_442 rfl ?_
  refine w_iconst C (pc := 443) (v := 2) dL_law_443 (by decide) ?_
  refine w_iadd C (pc := 444) dL_law_444 ?_
  refine w_sld C (pc := 445) (hv 2 (by decide)) dL_law_445 ?_
  refine w_aload_n C (pc := 446) 0 rfl dL_law_446 rfl ?_
  refine w_iload_n C (pc := 447) 3 rfl dL_law_447 rfl ?_
  refine w_iconst C (pc := 448) (v := 3) dL_law_448 (by decide) ?_
  refine w_iadd C (pc := 449) dL_law_449 ?_
  refine w_sld C (pc := 450) (hv 3 (by decide)) dL_law_450 ?_
  refine w_aload_n C (pc := 451) 0 rfl dL_law_451 rfl ?_
  refine w_iload_n C (pc := 452) 3 rfl dL_law_452 rfl ?_
  refine w_iconst C (pc := 453) (v := 4) dL_law_453 (by decide) ?_
  refine w_iadd C (pc := 454) dL_law_454 ?_
  refine w_sld C (pc := 455) (hv 4 (by decide)) dL_law_455 ?_
  refine w_aload_n C (pc := 456) 0 rfl dL_law_456 rfl ?_
  refine w_iload_n C (pc := 457) 3 rfl dL_law_457 rfl ?_
  refine w_iconst C (pc := 458) (v := 5) dL_law_458 (by decide) ?_
  refine w_iadd C (pc := 459) dL_law_459 ?_
  refine w_sld C (pc := 460) (hv 5 (by decide)) dL_law_460 ?_
  refine w_c1 C (pc := 461) (As := [.int (xs (i + 1).toNatClampNeg), .int (xs (i + 2).toNatClampNeg), .int (xs (i + 3).toNatClampNeg), .int (xs (i + 4).toNatClampNeg), .int (xs (i + 5).toNatClampNeg)]) (st := []) (st1 := [.int (am_b r)]) kk_11 (in_11 C.2.1.1 (Nat.le_refl 1)) mV_X11_pour (tb_3 (List.mem_of_getElem? (i := 137) (by decide +kernel))) rfl (Nat.le_of_ble_eq_true rfl) (Nat.le_of_ble_eq_true rfl) hnc hns (k_X11_pour C.2.1 (xs (i + 1).toNatClampNeg) (xs (i + 2).toNatClampNeg) (xs (i + 3).toNatClampNeg) (xs (i + 4).toNatClampNeg) (xs (i + 5).toNatClampNeg) σ1 h1) dL_law_461 rfl rfl ?_
  refine w_aload_n C (pc := 464) 2 rfl dL_law_464 rfl ?_
  refine w_aload_n C (pc := 465) 0 rfl dL_law_465 rfl ?_
  refine w_iload_n C (pc := 466) 3 rfl dL_law_466 rfl ?_
  refine w_iconst C (pc := 467) (v := 1) dL_law_467 (by decide) ?_
  refine w_iadd C (pc := 468) dL_law_468 ?_
  refine w_sld C (pc := 469) (hv 1 (by decide)) dL_law_469 ?_
  refine w_aload_n C (pc := 470) 0 rfl dL_law_470 rfl ?_
  refine w_iload_n C (pc := 471) 3 rfl dL_law_471 rfl ?_
  refine w_iconst C (pc := 472) (v := 2) dL_law_472 (by decide) ?_
  refine w_iadd C (pc := 473) dL_law_473 ?_
  refine w_sld C (pc := 474) (hv 2 (by decide)) dL_law_474 ?_
  refine w_aload_n C (pc := 475) 0 rfl dL_law_475 rfl ?_
  refine w_iload_n C (pc := 476) 3 rfl dL_law_476 rfl ?_
  refine w_iconst C (pc := 477) (v := 3) dL_law_477 (by decide) ?_
  refine w_iadd C (pc := 478) dL_law_478 ?_
  refine w_sld C (pc := 479) (hv 3 (by decide)) dL_law_479 ?_
  refine w_aload_n C (pc := 480) 0 rfl dL_law_480 rfl ?_
  refine w_iload_n C (pc := 481) 3 rfl dL_law_481 rfl ?_
  refine w_iconst C (pc := 482) (v := 4) dL_law_482 (by decide) ?_
  refine w_iadd C (pc := 483) dL_law_483 ?_
  refine w_sld C (pc := 484) (hv 4 (by decide)) dL_law_484 ?_
  refine w_aload_n C (pc := 485) 0 rfl dL_law_485 rfl ?_
  refine w_iload_n C (pc := 486) 3 rfl dL_law_486 rfl ?_
  refine w_iconst C (pc := 487) (v := 5) dL_law_487 (by decide) ?_
  refine w_iadd C (pc := 488) dL_law_488 ?_
  refine w_sld C (pc := 489) (hv 5 (by decide)) dL_law_489 ?_
  refine w_c2 C (pc := 490) (As := [.int (xs (i + 1).toNatClampNeg), .int (xs (i + 2).toNatClampNeg), .int (xs (i + 3).toNatClampNeg), .int (xs (i + 4).toNatClampNeg), .int (xs (i + 5).toNatClampNeg)]) (st := [.int (am_b r)]) (st1 := [.int (am_b r), .int (am_b r)]) kk_12 (in_12 C.2.2.1 (Nat.le_refl 1)) mV_X12_pour (tb_8 (List.mem_of_getElem? (i := 107) (by decide +kernel))) rfl (Nat.le_of_ble_eq_true rfl) (Nat.le_of_ble_eq_true rfl) hnc hns (k_X12_pour C.2.2.1 (xs (i + 1).toNatClampNeg) (xs (i + 2).toNatClampNeg) (xs (i + 3).toNatClampNeg) (xs (i + 4).toNatClampNeg) (xs (i + 5).toNatClampNeg) σ2 h2) dL_law_490 rfl rfl ?_
  exact w_ieq C (pc := 493) 2540 dL_law_493 rfl kk
set_option maxRecDepth 100000 in
set_option maxHeartbeats 4000000 in
theorem lc_7 {X1 X2 : am_X} {l : Launch} {p : Program} {e : Env} {s : State} {m : MethodId} {below : List Frame} {meth : Method} {c : Code} {b L : Nat} {xs : Nat → Int32} {nc ns : Nat} (C : am_LC X1 X2 l p s m meth c b L xs) (hnc : nc ≤ 600000) (hns : ns ≤ 7302249) {i : Int32} (hv : ∀ k : Nat, k < 10 → vp_in (i + Int32.ofNat k) L) {r : Int32} {σ1 σ2 σ1' σ2' : am_H} (h1 : f_X11_feed (xs (i + 1).toNatClampNeg) (xs (i + 2).toNatClampNeg) (xs (i + 3).toNatClampNeg) (xs (i + 4).toNatClampNeg) (xs (i + 5).toNatClampNeg) σ1 = some (r, σ1')) (h2 : f_X12_feed (xs (i + 1).toNatClampNeg) (xs (i + 2).toNatClampNeg) (xs (i + 3).toNatClampNeg) (xs (i + 4).toNatClampNeg) (xs (i + 5).toNatClampNeg) σ2 = some (r, σ2')) (kk : am_LG X1 X2 l p e s m below meth c b L xs nc ns 2540 [(0, .ref b), (1, .ref (am_ad X1 11 0)), (2, .ref (am_ad X2 12 0)), (3, .int i)] [] σ1' σ2') : am_LG X1 X2 l p e s m below meth c b L xs nc ns 498 [(0, .ref b), (1, .ref (am_ad X1 11 0)), (2, .ref (am_ad X2 12 0)), (3, .int i)] [] σ1 σ2 := by
  refine w_aload_n C (pc := 498) 1 rfl dL_law_498 rfl ?_
  refine w_aload_n C (pc := 499) 0 rfl dL_law_499 rfl ?_
  refine w_iload_n C (pc := 500) 3 rfl dL_law_500 rfl ?_
  refine w_iconst C (pc := 501) (v := 1) dL_law_501 (by decide) ?_
  refine w_iadd C (pc := 502) dL_law_502 ?_
  refine w_sld C (pc := 503) (hv 1 (by decide)) dL_law_503 ?_
  refine w_aload_n C (pc := 504) 0 rfl dL_law_504 rfl ?_
  refine w_iload_n C (pc := 505) 3 rfl dL_law_505 rfl ?_
  refine w_iconst C (pc := 506) (v := 2) dL_law_506 (by decide) ?_
  refine w_iadd C (pc := 507) dL_law_507 ?_
  refine w_sld C (pc := 508) (hv 2 (by decide)) dL_law_508 ?_
  refine w_aload_n C (pc := 509) 0 rfl dL_law_509 rfl ?_
  refine w_iload_n C (pc := 510) 3 rfl dL_law_510 rfl ?_
  refine w_iconst C (pc := 511) (v := 3) dL_law_511 (by decide) ?_
  refine w_iadd C (pc := 512) dL_law_512 ?_
  refine w_sld C (pc := 513) (hv 3 (by decide)) dL_law_513 ?_
  refine w_aload_n C (pc := 514) 0 rfl dL_law_514 rfl ?_
  refine w_iload_n C (pc := 515) 3 rfl dL_law_515 rfl ?_
  refine w_iconst C (pc := 516) (v := 4) dL_law_516 (by decide) ?_
  refine w_iadd C (pc := 517) dL_law_517 ?_
  refine w_sld C (pc := 518) (hv 4 (by decide)) dL_law_518 ?_
  refine w_aload_n C (pc := 519) 0 rfl dL_law_519 rfl ?_
  refine w_iload_n C (pc := 520) 3 rfl dL_law_520 rfl ?_
  refine w_iconst C (pc := 521) (v := 5) dL_law_521 (by decide) ?_
  refine w_iadd C (pc := 522) dL_law_522 ?_
  refine w_sld C (pc := 523) (hv 5 (by decide)) dL_law_523 ?_
  refine w_c1 C (pc := 524) (As := [.int (xs (i + 1).toNatClampNeg), .int (xs (i + 2).toNatClampNeg), .int (xs (i + 3).toNatClampNeg), .int (xs (i + 4).toNatClampNeg), .int (xs (i + 5).toNatClampNeg)]) (st := []) (st1 := [.int r]) kk_11 (in_11 C.2.1.1 (Nat.le_refl 1)) mV_X11_feed (tb_3 (List.mem_of_getElem? (i := 148) (by decide +kernel))) rfl (Nat.le_of_ble_eq_true rfl) (Nat.le_of_ble_eq_true rfl) hnc hns (k_X11_feed C.2.1 (xs (i + 1).toNatClampNeg) (xs (i + 2).toNatClampNeg) (xs (i + 3).toNatClampNeg) (xs (i + 4).toNatClampNeg) (xs (i + 5).toNatClampNeg) σ1 h1) dL_law_524 rfl rfl ?_
  refine w_aload_n C (pc := 527) 2 rfl dL_law_527 rfl ?_
  refine w_aload_n C (pc := 528) 0 rfl dL_law_528 rfl ?_
  refine w_iload_n C (pc := 529) 3 rfl dL_law_529 rfl ?_
  refine w_iconst C (pc := 530) (v := 1) dL_law_530 (by decide) ?_
  refine w_iadd C (pc := 531) dL_law_531 ?_
  refine w_sld C (pc := 532) (hv 1 (by decide)) dL_law_532 ?_
  refine w_aload_n C (pc := 533) 0 rfl dL_law_533 rfl ?_
  refine w_iload_n C (pc := 534) 3 rfl dL_law_534 rfl ?_
  refine w_iconst C (pc := 535) (v := 2) dL_law_535 (by decide) ?_
  refine w_iadd C (pc := 536) dL_law_536 ?_
  refine w_sld C (pc := 537) (hv 2 (by decide)) dL_law_537 ?_
  refine w_aload_n C (pc := 538) 0 rfl dL_law_538 rfl ?_
  refine w_iload_n C (pc := 539) 3 rfl dL_law_539 rfl ?_
  refine w_iconst C (pc := 540) (v := 3) dL_law_540 (by decide) ?_
  refine w_iadd C (pc := 541) dL_law_541 ?_
  refine w_sld C (pc := 542) (hv 3 (by decide)) dL_law_542 ?_
  refine w_aload_n C (pc := 543) 0 rfl dL_law_543 rfl ?_
  refine w_iload_n C (pc := 544) 3 rfl dL_law_544 rfl ?_
  refine w_iconst C (pc := 545) (v := 4) dL_law_545 (by decide) ?_
  refine w_iadd C (pc := 546) dL_law_546 ?_
  refine w_sld C (pc := 547) (hv 4 (by decide)) dL_law_547 ?_
  refine w_aload_n C (pc := 548) 0 rfl dL_law_548 rfl ?_
  refine w_iload_n C (pc := 549) 3 rfl dL_law_549 rfl ?_
  refine w_iconst C (pc := 550) (v := 5) dL_law_550 (by decide) ?_
  refine w_iadd C (pc := 551) dL_law_551 ?_
  refine w_sld C (pc := 552) (hv 5 (by decide)) dL_law_552 ?_
  refine w_c2 C (pc := 553) (As := [.int (xs (i + 1).toNatClampNeg), .int (xs (i + 2).toNatClampNeg), .int (xs (i + 3).toNatClampNeg), .int (xs (i + 4).toNatClampNeg), .int (xs (i + 5).toNatClampNeg)]) (st := [.int r]) (st1 := [.int r, .int r]) kk_12 (in_12 C.2.2.1 (Nat.le_refl 1)) mV_X12_feed (tb_8 (List.mem_of_getElem? (i := 111) (by decide +kernel))) rfl (Nat.le_of_ble_eq_true rfl) (Nat.le_of_ble_eq_true rfl) hnc hns (k_X12_feed C.2.2.1 (xs (i + 1).toNatClampNeg) (xs (i + 2).toNatClampNeg) (xs (i + 3).toNatClampNeg) (xs (i + 4).toNatClampNeg) (xs (i + 5).toNatClampNeg) σ2 h2) dL_law_553 rfl rfl ?_
  exact w_ieq C (pc := 556) 2540 dL_law_556 rfl kk
set_option maxRecDepth 100000 in
set_option maxHeartbeats 4000000 in
theorem lc_8 {X1 X2 : am_X} {l : Launch} {p : Program} {e : Env} {s : State} {m : MethodId} {below : List Frame} {meth : Method} {c : Code} {b L : Nat} {xs : Nat → Int32} {nc ns : Nat} (C : am_LC X1 X2 l p s m meth c b L xs) (hnc : nc ≤ 600000) (hns : ns ≤ 7302249) {i : Int32} (hv : ∀ k : Nat, k < 10 → vp_in (i + Int32.ofNat k) L) {r : Int32} {σ1 σ2 σ1' σ2' : am_H} (h1 : f_X11_machine (xs (i + 1).toNatClampNeg) (xs (i + 2).toNatClampNeg) σ1 = some (r, σ1')) (h2 : f_X12_machine (xs (i + 1).toNatClampNeg) (xs (i + 2).toNatClampNeg) σ2 = some (r, σ2')) (kk : am_LG X1 X2 l p e s m below meth c b L xs nc ns 2540 [(0, .ref b), (1, .ref (am_ad X1 11 0)), (2, .ref (am_ad X2 12 0)), (3, .int i)] [] σ1' σ2') : am_LG X1 X2 l p e s m below meth c b L xs nc ns 561 [(0, .ref b), (1, .ref (am_ad X1 11 0)), (2, .ref (am_ad X2 12 0)), (3, .int i)] [] σ1 σ2 := by
  refine w_aload_n C (pc := 561) 1 rfl dL_law_561 rfl ?_
  refine w_aload_n C (pc := 562) 0 rfl dL_law_562 rfl ?_
  refine w_iload_n C (pc := 563) 3 rfl dL_law_563 rfl ?_
  refine w_iconst C (pc := 564) (v := 1) dL_law_564 (by decide) ?_
  refine w_iadd C (pc := 565) dL_law_565 ?_
  refine w_sld C (pc := 566) (hv 1 (by decide)) dL_law_566 ?_
  refine w_aload_n C (pc := 567) 0 rfl dL_law_567 rfl ?_
  refine w_iload_n C (pc := 568) 3 rfl dL_law_568 rfl ?_
  refine w_iconst C (pc := 569) (v := 2) dL_law_569 (by decide) ?_
  refine w_iadd C (pc := 570) dL_law_570 ?_
  refine w_sld C (pc := 571) (hv 2 (by decide)) dL_law_571 ?_
  refine w_c1 C (pc := 572) (As := [.int (xs (i + 1).toNatClampNeg), .int (xs (i + 2).toNatClampNeg)]) (st := []) (st1 := [.int r]) kk_11 (in_11 C.2.1.1 (Nat.le_refl 1)) mV_X11_machine (tb_3 (List.mem_of_getElem? (i := 156) (by decide +kernel))) rfl (Nat.le_of_ble_eq_true rfl) (Nat.le_of_ble_eq_true rfl) hnc hns (k_X11_machine C.2.1 (xs (i + 1).toNatClampNeg) (xs (i + 2).toNatClampNeg) σ1 h1) dL_law_572 rfl rfl ?_
  refine w_aload_n C (pc := 575) 2 rfl dL_law_575 rfl ?_
  refine w_aload_n C (pc := 576) 0 rfl dL_law_576 rfl ?_
  refine w_iload_n C (pc := 577) 3 rfl dL_law_577 rfl ?_
  refine w_iconst C (pc := 578) (v := 1) dL_law_578 (by decide) ?_
  refine w_iadd C (pc := 579) dL_law_579 ?_
  refine w_sld C (pc := 580) (hv 1 (by decide)) dL_law_580 ?_
  refine w_aload_n C (pc := 581) 0 rfl dL_law_581 rfl ?_
  refine w_iload_n C (pc := 582) 3 rfl dL_law_582 rfl ?_
  refine w_iconst C (pc := 583) (v := 2) dL_law_583 (by decide) ?_
  refine w_iadd C (pc := 584) dL_law_584 ?_
  refine w_sld C (pc := 585) (hv 2 (by decide)) dL_law_585 ?_
  refine w_c2 C (pc := 586) (As := [.int (xs (i + 1).toNatClampNeg), .int (xs (i + 2).toNatClampNeg)]) (st := [.int r]) (st1 := [.int r, .int r]) kk_12 (in_12 C.2.2.1 (Nat.le_refl 1)) mV_X12_machine (tb_8 (List.mem_of_getElem? (i := 119) (by decide +kernel))) rfl (Nat.le_of_ble_eq_true rfl) (Nat.le_of_ble_eq_true rfl) hnc hns (k_X12_machine C.2.2.1 (xs (i + 1).toNatClampNeg) (xs (i + 2).toNatClampNeg) σ2 h2) dL_law_586 rfl rfl ?_
  exact w_ieq C (pc := 589) 2540 dL_law_589 rfl kk
set_option maxRecDepth 100000 in
set_option maxHeartbeats 4000000 in
theorem lc_9 {X1 X2 : am_X} {l : Launch} {p : Program} {e : Env} {s : State} {m : MethodId} {below : List Frame} {meth : Method} {c : Code} {b L : Nat} {xs : Nat → Int32} {nc ns : Nat} (C : am_LC X1 X2 l p s m meth c b L xs) (hnc : nc ≤ 600000) (hns : ns ≤ 7302249) {i : Int32} (hv : ∀ k : Nat, k < 10 → vp_in (i + Int32.ofNat k) L) {r : Int32} {σ1 σ2 σ2' : am_H} (h1 : f_X11_fault (xs (i + 1).toNatClampNeg) σ1 = some r) (h2 : f_X12_fault (xs (i + 1).toNatClampNeg) σ2 = some (r, σ2')) (kk : am_LG X1 X2 l p e s m below meth c b L xs nc ns 2540 [(0, .ref b), (1, .ref (am_ad X1 11 0)), (2, .ref (am_ad X2 12 0)), (3, .int i)] [] σ1 σ2') : am_LG X1 X2 l p e s m below meth c b L xs nc ns 594 [(0, .ref b), (1, .ref (am_ad X1 11 0)), (2, .ref (am_ad X2 12 0)), (3, .int i)] [] σ1 σ2 := by
  refine w_aload_n C (pc := 594) 1 rfl dL_law_594 rfl ?_
  refine w_aload_n C (pc := 595) 0 rfl dL_law_595 rfl ?_
  refine w_iload_n C (pc := 596) 3 rfl dL_law_596 rfl ?_
  refine w_iconst C (pc := 597) (v := 1) dL_law_597 (by decide) ?_
  refine w_iadd C (pc := 598) dL_law_598 ?_
  refine w_sld C (pc := 599) (hv 1 (by decide)) dL_law_599 ?_
  refine w_c1 C (pc := 600) (As := [.int (xs (i + 1).toNatClampNeg)]) (st := []) (st1 := [.int r]) kk_11 (in_11 C.2.1.1 (Nat.le_refl 1)) mV_X11_fault (tb_4 (List.mem_of_getElem? (i := 126) (by decide +kernel))) rfl (Nat.le_of_ble_eq_true rfl) (Nat.le_of_ble_eq_true rfl) hnc hns (k_X11_fault C.2.1 (xs (i + 1).toNatClampNeg) σ1 h1) dL_law_600 rfl rfl ?_
  refine w_aload_n C (pc := 603) 2 rfl dL_law_603 rfl ?_
  refine w_aload_n C (pc := 604) 0 rfl dL_law_604 rfl ?_
  refine w_iload_n C (pc := 605) 3 rfl dL_law_605 rfl ?_
  refine w_iconst C (pc := 606) (v := 1) dL_law_606 (by decide) ?_
  refine w_iadd C (pc := 607) dL_law_607 ?_
  refine w_sld C (pc := 608) (hv 1 (by decide)) dL_law_608 ?_
  refine w_c2 C (pc := 609) (As := [.int (xs (i + 1).toNatClampNeg)]) (st := [.int r]) (st1 := [.int r, .int r]) kk_12 (in_12 C.2.2.1 (Nat.le_refl 1)) mV_X12_fault (tb_8 (List.mem_of_getElem? (i := 236) (by decide +kernel))) rfl (Nat.le_of_ble_eq_true rfl) (Nat.le_of_ble_eq_true rfl) hnc hns (k_X12_fault C.2.2.1 (xs (i + 1).toNatClampNeg) σ2 h2) dL_law_609 rfl rfl ?_
  exact w_ieq C (pc := 612) 2540 dL_law_612 rfl kk
set_option maxRecDepth 100000 in
set_option maxHeartbeats 4000000 in
theorem lc_10 {X1 X2 : am_X} {l : Launch} {p : Program} {e : Env} {s : State} {m : MethodId} {below : List Frame} {meth : Method} {c : Code} {b L : Nat} {xs : Nat → Int32} {nc ns : Nat} (C : am_LC X1 X2 l p s m meth c b L xs) (hnc : nc ≤ 600000) (hns : ns ≤ 7302249) {i : Int32} (hv : ∀ k : Nat, k < 10 → vp_in (i + Int32.ofNat k) L) {r : Int32} {σ1 σ2 σ1' σ2' : am_H} (h1 : f_X11_told (xs (i + 1).toNatClampNeg) (xs (i + 2).toNatClampNeg) σ1 = some (r, σ1')) (h2 : f_X12_told (xs (i + 1).toNatClampNeg) (xs (i + 2).toNatClampNeg) σ2 = some (r, σ2')) (kk : am_LG X1 X2 l p e s m below meth c b L xs nc ns 2540 [(0, .ref b), (1, .ref (am_ad X1 11 0)), (2, .ref (am_ad X2 12 0)), (3, .int i)] [] σ1' σ2') : am_LG X1 X2 l p e s m below meth c b L xs nc ns 617 [(0, .ref b), (1, .ref (am_ad X1 11 0)), (2, .ref (am_ad X2 12 0)), (3, .int i)] [] σ1 σ2 := by
  refine w_aload_n C (pc := 617) 1 rfl dL_law_617 rfl ?_
  refine w_aload_n C (pc := 618) 0 rfl dL_law_618 rfl ?_
  refine w_iload_n C (pc := 619) 3 rfl dL_law_619 rfl ?_
  refine w_iconst C (pc := 620) (v := 1) dL_law_620 (by decide) ?_
  refine w_iadd C (pc := 621) dL_law_621 ?_
  refine w_sld C (pc := 622) (hv 1 (by decide)) dL_law_622 ?_
  refine w_aload_n C (pc := 623) 0 rfl dL_law_623 rfl ?_
  refine w_iload_n C (pc := 624) 3 rfl dL_law_624 rfl ?_
  refine w_iconst C (pc := 625) (v := 2) dL_law_625 (by decide) ?_
  refine w_iadd C (pc := 626) dL_law_626 ?_
  refine w_sld C (pc := 627) (hv 2 (by decide)) dL_law_627 ?_
  refine w_c1 C (pc := 628) (As := [.int (xs (i + 1).toNatClampNeg), .int (xs (i + 2).toNatClampNeg)]) (st := []) (st1 := [.int r]) kk_11 (in_11 C.2.1.1 (Nat.le_refl 1)) mV_X11_told (tb_4 (List.mem_of_getElem? (i := 130) (by decide +kernel))) rfl (Nat.le_of_ble_eq_true rfl) (Nat.le_of_ble_eq_true rfl) hnc hns (k_X11_told C.2.1 (xs (i + 1).toNatClampNeg) (xs (i + 2).toNatClampNeg) σ1 h1) dL_law_628 rfl rfl ?_
  refine w_aload_n C (pc := 631) 2 rfl dL_law_631 rfl ?_
  refine w_aload_n C (pc := 632) 0 rfl dL_law_632 rfl ?_
  refine w_iload_n C (pc := 633) 3 rfl dL_law_633 rfl ?_
  refine w_iconst C (pc := 634) (v := 1) dL_law_634 (by decide) ?_
  refine w_iadd C (pc := 635) dL_law_635 ?_
  refine w_sld C (pc := 636) (hv 1 (by decide)) dL_law_636 ?_
  refine w_aload_n C (pc := 637) 0 rfl dL_law_637 rfl ?_
  refine w_iload_n C (pc := 638) 3 rfl dL_law_638 rfl ?_
  refine w_iconst C (pc := 639) (v := 2) dL_law_639 (by decide) ?_
  refine w_iadd C (pc := 640) dL_law_640 ?_
  refine w_sld C (pc := 641) (hv 2 (by decide)) dL_law_641 ?_
  refine w_c2 C (pc := 642) (As := [.int (xs (i + 1).toNatClampNeg), .int (xs (i + 2).toNatClampNeg)]) (st := [.int r]) (st1 := [.int r, .int r]) kk_12 (in_12 C.2.2.1 (Nat.le_refl 1)) mV_X12_told (tb_9 (List.mem_of_getElem? (i := 0) (by decide +kernel))) rfl (Nat.le_of_ble_eq_true rfl) (Nat.le_of_ble_eq_true rfl) hnc hns (k_X12_told C.2.2.1 (xs (i + 1).toNatClampNeg) (xs (i + 2).toNatClampNeg) σ2 h2) dL_law_642 rfl rfl ?_
  exact w_ieq C (pc := 645) 2540 dL_law_645 rfl kk
set_option maxRecDepth 100000 in
set_option maxHeartbeats 4000000 in
theorem lc_11 {X1 X2 : am_X} {l : Launch} {p : Program} {e : Env} {s : State} {m : MethodId} {below : List Frame} {meth : Method} {c : Code} {b L : Nat} {xs : Nat → Int32} {nc ns : Nat} (C : am_LC X1 X2 l p s m meth c b L xs) (hnc : nc ≤ 600000) (hns : ns ≤ 7302249) {i : Int32} (hv : ∀ k : Nat, k < 10 → vp_in (i + Int32.ofNat k) L) {r : Int32} {σ1 σ2 σ1' σ2' : am_H} (h1 : f_X11_wave (xs (i + 1).toNatClampNeg) (xs (i + 2).toNatClampNeg) (xs (i + 3).toNatClampNeg) σ1 = some (r, σ1')) (h2 : f_X12_wave (xs (i + 1).toNatClampNeg) (xs (i + 2).toNatClampNeg) (xs (i + 3).toNatClampNeg) σ2 = some (r, σ2')) (kk : am_LG X1 X2 l p e s m below meth c b L xs nc ns 2540 [(0, .ref b), (1, .ref (am_ad X1 11 0)), (2, .ref (am_ad X2 12 0)), (3, .int i)] [] σ1' σ2') : am_LG X1 X2 l p e s m below meth c b L xs nc ns 650 [(0, .ref b), (1, .ref (am_ad X1 11 0)), (2, .ref (am_ad X2 12 0)), (3, .int i)] [] σ1 σ2 := by
  refine w_aload_n C (pc := 650) 1 rfl dL_law_650 rfl ?_
  refine w_aload_n C (pc := 651) 0 rfl dL_law_651 rfl ?_
  refine w_iload_n C (pc := 652) 3 rfl dL_law_652 rfl ?_
  refine w_iconst C (pc := 653) (v := 1) dL_law_653 (by decide) ?_
  refine w_iadd C (pc := 654) dL_law_654 ?_
  refine w_sld C (pc := 655) (hv 1 (by decide)) dL_law_655 ?_
  refine w_aload_n C (pc := 656) 0 rfl dL_law_656 rfl ?_
  refine w_iload_n C (pc := 657) 3 rfl dL_law_657 rfl ?_
  refine w_iconst C (pc := 658) (v := 2) dL_law_658 (by decide) ?_
  refine w_iadd C (pc := 659) dL_law_659 ?_
  refine w_sld C (pc := 660) (hv 2 (by decide)) dL_law_660 ?_
  refine w_aload_n C (pc := 661) 0 rfl dL_law_661 rfl ?_
  refine w_iload_n C (pc := 662) 3 rfl dL_law_662 rfl ?_
  refine w_iconst C (pc := 663) (v := 3) dL_law_663 (by decide) ?_
  refine w_iadd C (pc := 664) dL_law_664 ?_
  refine w_sld C (pc := 665) (hv 3 (by decide)) dL_law_665 ?_
  refine w_c1 C (pc := 666) (As := [.int (xs (i + 1).toNatClampNeg), .int (xs (i + 2).toNatClampNeg), .int (xs (i + 3).toNatClampNeg)]) (st := []) (st1 := [.int r]) kk_11 (in_11 C.2.1.1 (Nat.le_refl 1)) mV_X11_wave (tb_4 (List.mem_of_getElem? (i := 135) (by decide +kernel))) rfl (Nat.le_of_ble_eq_true rfl) (Nat.le_of_ble_eq_true rfl) hnc hns (k_X11_wave C.2.1 (xs (i + 1).toNatClampNeg) (xs (i + 2).toNatClampNeg) (xs (i + 3).toNatClampNeg) σ1 h1) dL_law_666 rfl rfl ?_
  refine w_aload_n C (pc := 669) 2 rfl dL_law_669 rfl ?_
  refine w_aload_n C (pc := 670) 0 rfl dL_law_670 rfl ?_
  refine w_iload_n C (pc := 671) 3 rfl dL_law_671 rfl ?_
  refine w_iconst C (pc := 672) (v := 1) dL_law_672 (by decide) ?_
  refine w_iadd C (pc := 673) dL_law_673 ?_
  refine w_sld C (pc := 674) (hv 1 (by decide)) dL_law_674 ?_
  refine w_aload_n C (pc := 675) 0 rfl dL_law_675 rfl ?_
  refine w_iload_n C (pc := 676) 3 rfl dL_law_676 rfl ?_
  refine w_iconst C (pc := 677) (v := 2) dL_law_677 (by decide) ?_
  refine w_iadd C (pc := 678) dL_law_678 ?_
  refine w_sld C (pc := 679) (hv 2 (by decide)) dL_law_679 ?_
  refine w_aload_n C (pc := 680) 0 rfl dL_law_680 rfl ?_
  refine w_iload_n C (pc := 681) 3 rfl dL_law_681 rfl ?_
  refine w_iconst C (pc := 682) (v := 3) dL_law_682 (by decide) ?_
  refine w_iadd C (pc := 683) dL_law_683 ?_
  refine w_sld C (pc := 684) (hv 3 (by decide)) dL_law_684 ?_
  refine w_c2 C (pc := 685) (As := [.int (xs (i + 1).toNatClampNeg), .int (xs (i + 2).toNatClampNeg), .int (xs (i + 3).toNatClampNeg)]) (st := [.int r]) (st1 := [.int r, .int r]) kk_12 (in_12 C.2.2.1 (Nat.le_refl 1)) mV_X12_wave (tb_9 (List.mem_of_getElem? (i := 4) (by decide +kernel))) rfl (Nat.le_of_ble_eq_true rfl) (Nat.le_of_ble_eq_true rfl) hnc hns (k_X12_wave C.2.2.1 (xs (i + 1).toNatClampNeg) (xs (i + 2).toNatClampNeg) (xs (i + 3).toNatClampNeg) σ2 h2) dL_law_685 rfl rfl ?_
  exact w_ieq C (pc := 688) 2540 dL_law_688 rfl kk
set_option maxRecDepth 100000 in
set_option maxHeartbeats 4000000 in
theorem lc_12 {X1 X2 : am_X} {l : Launch} {p : Program} {e : Env} {s : State} {m : MethodId} {below : List Frame} {meth : Method} {c : Code} {b L : Nat} {xs : Nat → Int32} {nc ns : Nat} (C : am_LC X1 X2 l p s m meth c b L xs) (hnc : nc ≤ 600000) (hns : ns ≤ 7302249) {i : Int32} (hv : ∀ k : Nat, k < 10 → vp_in (i + Int32.ofNat k) L) {r : Bool} {σ1 σ2 σ1' σ2' : am_H} (h1 : f_X11_set (xs (i + 1).toNatClampNeg) (xs (i + 2).toNatClampNeg) (xs (i + 3).toNatClampNeg) (xs (i + 4).toNatClampNeg) σ1 = some (r, σ1')) (h2 : f_X12_set (xs (i + 1).toNatClampNeg) (xs (i + 2).toNatClampNeg) (xs (i + 3).toNatClampNeg) (xs (i + 4).toNatClampNeg) σ2 = some (r, σ2')) (kk : am_LG X1 X2 l p e s m below meth c b L xs nc ns 2540 [(0, .ref b), (1, .ref (am_ad X1 11 0)), (2, .ref (am_ad X2 12 0)), (3, .int i)] [] σ1' σ2') : am_LG X1 X2 l p e s m below meth c b L xs nc ns 693 [(0, .ref b), (1, .ref (am_ad X1 11 0)), (2, .ref (am_ad X2 12 0)), (3, .int i)] [] σ1 σ2 := by
  refine w_aload_n C (pc := 693) 1 rfl dL_law_693 rfl ?_
  refine w_aload_n C (pc := 694) 0 rfl dL_law_694 rfl ?_
  refine w_iload_n C (pc := 695) 3 rfl dL_law_695 rfl ?_
  refine w_iconst C (pc := 696) (v := 1) dL_law_696 (by decide) ?_
  refine w_iadd C (pc := 697) dL_law_697 ?_
  refine w_sld C (pc := 698) (hv 1 (by decide)) dL_law_698 ?_
  refine w_aload_n C (pc := 699) 0 rfl dL_law_699 rfl ?_
  refine w_iload_n C (pc := 700) 3 rfl dL_law_700 rfl ?_
  refine w_iconst C (pc := 701) (v := 2) dL_law_701 (by decide) ?_
  refine w_iadd C (pc := 702) dL_law_702 ?_
  refine w_sld C (pc := 703) (hv 2 (by decide)) dL_law_703 ?_
  refine w_aload_n C (pc := 704) 0 rfl dL_law_704 rfl ?_
  refine w_iload_n C (pc := 705) 3 rfl dL_law_705 rfl ?_
  refine w_iconst C (pc := 706) (v := 3) dL_law_706 (by decide) ?_
  refine w_iadd C (pc := 707) dL_law_707 ?_
  refine w_sld C (pc := 708) (hv 3 (by decide)) dL_law_708 ?_
  refine w_aload_n C (pc := 709) 0 rfl dL_law_709 rfl ?_
  refine w_iload_n C (pc := 710) 3 rfl dL_law_710 rfl ?_
  refine w_iconst C (pc := 711) (v := 4) dL_law_711 (by decide) ?_
  refine w_iadd C (pc := 712) dL_law_712 ?_
  refine w_sld C (pc := 713) (hv 4 (by decide)) dL_law_713 ?_
  refine w_c1 C (pc := 714) (As := [.int (xs (i + 1).toNatClampNeg), .int (xs (i + 2).toNatClampNeg), .int (xs (i + 3).toNatClampNeg), .int (xs (i + 4).toNatClampNeg)]) (st := []) (st1 := [.int (am_b r)]) kk_11 (in_11 C.2.1.1 (Nat.le_refl 1)) mV_X11_set (tb_4 (List.mem_of_getElem? (i := 155) (by decide +kernel))) rfl (Nat.le_of_ble_eq_true rfl) (Nat.le_of_ble_eq_true rfl) hnc hns (k_X11_set C.2.1 (xs (i + 1).toNatClampNeg) (xs (i + 2).toNatClampNeg) (xs (i + 3).toNatClampNeg) (xs (i + 4).toNatClampNeg) σ1 h1) dL_law_714 rfl rfl ?_
  refine w_aload_n C (pc := 717) 2 rfl dL_law_717 rfl ?_
  refine w_aload_n C (pc := 718) 0 rfl dL_law_718 rfl ?_
  refine w_iload_n C (pc := 719) 3 rfl dL_law_719 rfl ?_
  refine w_iconst C (pc := 720) (v := 1) dL_law_720 (by decide) ?_
  refine w_iadd C (pc := 721) dL_law_721 ?_
  refine w_sld C (pc := 722) (hv 1 (by decide)) dL_law_722 ?_
  refine w_aload_n C (pc := 723) 0 rfl dL_law_723 rfl ?_
  refine w_iload_n C (pc := 724) 3 rfl dL_law_724 rfl ?_
  refine w_iconst C (pc := 725) (v := 2) dL_law_725 (by decide) ?_
  refine w_iadd C (pc := 726) dL_law_726 ?_
  refine w_sld C (pc := 727) (hv 2 (by decide)) dL_law_727 ?_
  refine w_aload_n C (pc := 728) 0 rfl dL_law_728 rfl ?_
  refine w_iload_n C (pc := 729) 3 rfl dL_law_729 rfl ?_
  refine w_iconst C (pc := 730) (v := 3) dL_law_730 (by decide) ?_
  refine w_iadd C (pc := 731) dL_law_731 ?_
  refine w_sld C (pc := 732) (hv 3 (by decide)) dL_law_732 ?_
  refine w_aload_n C (pc := 733) 0 rfl dL_law_733 rfl ?_
  refine w_iload_n C (pc := 734) 3 rfl dL_law_734 rfl ?_
  refine w_iconst C (pc := 735) (v := 4) dL_law_735 (by decide) ?_
  refine w_iadd C (pc := 736) dL_law_736 ?_
  refine w_sld C (pc := 737) (hv 4 (by decide)) dL_law_737 ?_
  refine w_c2 C (pc := 738) (As := [.int (xs (i + 1).toNatClampNeg), .int (xs (i + 2).toNatClampNeg), .int (xs (i + 3).toNatClampNeg), .int (xs (i + 4).toNatClampNeg)]) (st := [.int (am_b r)]) (st1 := [.int (am_b r), .int (am_b r)]) kk_12 (in_12 C.2.2.1 (Nat.le_refl 1)) mV_X12_set (tb_9 (List.mem_of_getElem? (i := 21) (by decide +kernel))) rfl (Nat.le_of_ble_eq_true rfl) (Nat.le_of_ble_eq_true rfl) hnc hns (k_X12_set C.2.2.1 (xs (i + 1).toNatClampNeg) (xs (i + 2).toNatClampNeg) (xs (i + 3).toNatClampNeg) (xs (i + 4).toNatClampNeg) σ2 h2) dL_law_738 rfl rfl ?_
  exact w_ieq C (pc := 741) 2540 dL_law_741 rfl kk
set_option maxRecDepth 100000 in
set_option maxHeartbeats 4000000 in
theorem lc_13 {X1 X2 : am_X} {l : Launch} {p : Program} {e : Env} {s : State} {m : MethodId} {below : List Frame} {meth : Method} {c : Code} {b L : Nat} {xs : Nat → Int32} {nc ns : Nat} (C : am_LC X1 X2 l p s m meth c b L xs) (hnc : nc ≤ 600000) (hns : ns ≤ 7302249) {i : Int32} (hv : ∀ k : Nat, k < 10 → vp_in (i + Int32.ofNat k) L) {r : Int32} {σ1 σ2 σ1' σ2' : am_H} (h1 : f_X11_place (xs (i + 1).toNatClampNeg) (xs (i + 2).toNatClampNeg) (xs (i + 3).toNatClampNeg) (decide (¬ (xs (i + 4).toNatClampNeg) = 0)) σ1 = some (r, σ1')) (h2 : f_X12_place (xs (i + 1).toNatClampNeg) (xs (i + 2).toNatClampNeg) (xs (i + 3).toNatClampNeg) (decide (¬ (xs (i + 4).toNatClampNeg) = 0)) σ2 = some (r, σ2')) (kk : am_LG X1 X2 l p e s m below meth c b L xs nc ns 2540 [(0, .ref b), (1, .ref (am_ad X1 11 0)), (2, .ref (am_ad X2 12 0)), (3, .int i)] [] σ1' σ2') : am_LG X1 X2 l p e s m below meth c b L xs nc ns 746 [(0, .ref b), (1, .ref (am_ad X1 11 0)), (2, .ref (am_ad X2 12 0)), (3, .int i)] [] σ1 σ2 := by
  refine w_aload_n C (pc := 746) 1 rfl dL_law_746 rfl ?_
  refine w_aload_n C (pc := 747) 0 rfl dL_law_747 rfl ?_
  refine w_iload_n C (pc := 748) 3 rfl dL_law_748 rfl ?_
  refine w_iconst C (pc := 749) (v := 1) dL_law_749 (by decide) ?_
  refine w_iadd C (pc := 750) dL_law_750 ?_
  refine w_sld C (pc := 751) (hv 1 (by decide)) dL_law_751 ?_
  refine w_aload_n C (pc := 752) 0 rfl dL_law_752 rfl ?_
  refine w_iload_n C (pc := 753) 3 rfl dL_law_753 rfl ?_
  refine w_iconst C (pc := 754) (v := 2) dL_law_754 (by decide) ?_
  refine w_iadd C (pc := 755) dL_law_755 ?_
  refine w_sld C (pc := 756) (hv 2 (by decide)) dL_law_756 ?_
  refine w_aload_n C (pc := 757) 0 rfl dL_law_757 rfl ?_
  refine w_iload_n C (pc := 758) 3 rfl dL_law_758 rfl ?_
  refine w_iconst C (pc := 759) (v := 3) dL_law_759 (by decide) ?_
  refine w_iadd C (pc := 760) dL_law_760 ?_
  refine w_sld C (pc := 761) (hv 3 (by decide)) dL_law_761 ?_
  refine w_aload_n C (pc := 762) 0 rfl dL_law_762 rfl ?_
  refine w_iload_n C (pc := 763) 3 rfl dL_law_763 rfl ?_
  refine w_iconst C (pc := 764) (v := 4) dL_law_764 (by decide) ?_
  refine w_iadd C (pc := 765) dL_law_765 ?_
  refine w_sld C (pc := 766) (hv 4 (by decide)) dL_law_766 ?_
  refine w_nz C (pc := 767) dL_law_767 dL_law_770 dL_law_771 dL_law_774 ?_
  refine w_c1 C (pc := 775) (As := [.int (xs (i + 1).toNatClampNeg), .int (xs (i + 2).toNatClampNeg), .int (xs (i + 3).toNatClampNeg), .int (am_b (decide (¬ (xs (i + 4).toNatClampNeg) = 0)))]) (st := []) (st1 := [.int r]) kk_11 (in_11 C.2.1.1 (Nat.le_refl 1)) mV_X11_place (tb_4 (List.mem_of_getElem? (i := 162) (by decide +kernel))) rfl (Nat.le_of_ble_eq_true rfl) (Nat.le_of_ble_eq_true rfl) hnc hns (k_X11_place C.2.1 (xs (i + 1).toNatClampNeg) (xs (i + 2).toNatClampNeg) (xs (i + 3).toNatClampNeg) (decide (¬ (xs (i + 4).toNatClampNeg) = 0)) σ1 h1) dL_law_775 rfl rfl ?_
  refine w_aload_n C (pc := 778) 2 rfl dL_law_778 rfl ?_
  refine w_aload_n C (pc := 779) 0 rfl dL_law_779 rfl ?_
  refine w_iload_n C (pc := 780) 3 rfl dL_law_780 rfl ?_
  refine w_iconst C (pc := 781) (v := 1) dL_law_781 (by decide) ?_
  refine w_iadd C (pc := 782) dL_law_782 ?_
  refine w_sld C (pc := 783) (hv 1 (by decide)) dL_law_783 ?_
  refine w_aload_n C (pc := 784) 0 rfl dL_law_784 rfl ?_
  refine w_iload_n C (pc := 785) 3 rfl dL_law_785 rfl ?_
  refine w_iconst C (pc := 786) (v := 2) dL_law_786 (by decide) ?_
  refine w_iadd C (pc := 787) dL_law_787 ?_
  refine w_sld C (pc := 788) (hv 2 (by decide)) dL_law_788 ?_
  refine w_aload_n C (pc := 789) 0 rfl dL_law_789 rfl ?_
  refine w_iload_n C (pc := 790) 3 rfl dL_law_790 rfl ?_
  refine w_iconst C (pc := 791) (v := 3) dL_law_791 (by decide) ?_
  refine w_iadd C (pc := 792) dL_law_792 ?_
  refine w_sld C (pc := 793) (hv 3 (by decide)) dL_law_793 ?_
  refine w_aload_n C (pc := 794) 0 rfl dL_law_794 rfl ?_
  refine w_iload_n C (pc := 795) 3 rfl dL_law_795 rfl ?_
  refine w_iconst C (pc := 796) (v := 4) dL_law_796 (by decide) ?_
  refine w_iadd C (pc := 797) dL_law_797 ?_
  refine w_sld C (pc := 798) (hv 4 (by decide)) dL_law_798 ?_
  refine w_nz C (pc := 799) dL_law_799 dL_law_802 dL_law_803 dL_law_806 ?_
  refine w_c2 C (pc := 807) (As := [.int (xs (i + 1).toNatClampNeg), .int (xs (i + 2).toNatClampNeg), .int (xs (i + 3).toNatClampNeg), .int (am_b (decide (¬ (xs (i + 4).toNatClampNeg) = 0)))]) (st := [.int r]) (st1 := [.int r, .int r]) kk_12 (in_12 C.2.2.1 (Nat.le_refl 1)) mV_X12_place (tb_9 (List.mem_of_getElem? (i := 27) (by decide +kernel))) rfl (Nat.le_of_ble_eq_true rfl) (Nat.le_of_ble_eq_true rfl) hnc hns (k_X12_place C.2.2.1 (xs (i + 1).toNatClampNeg) (xs (i + 2).toNatClampNeg) (xs (i + 3).toNatClampNeg) (decide (¬ (xs (i + 4).toNatClampNeg) = 0)) σ2 h2) dL_law_807 rfl rfl ?_
  exact w_ieq C (pc := 810) 2540 dL_law_810 rfl kk
set_option maxRecDepth 100000 in
set_option maxHeartbeats 4000000 in
theorem lc_14 {X1 X2 : am_X} {l : Launch} {p : Program} {e : Env} {s : State} {m : MethodId} {below : List Frame} {meth : Method} {c : Code} {b L : Nat} {xs : Nat → Int32} {nc ns : Nat} (C : am_LC X1 X2 l p s m meth c b L xs) (hnc : nc ≤ 600000) (hns : ns ≤ 7302249) {i : Int32} (hv : ∀ k : Nat, k < 10 → vp_in (i + Int32.ofNat k) L) {r : Int32} {σ1 σ2 σ1' σ2' : am_H} (h1 : f_X11_height (xs (i + 1).toNatClampNeg) (xs (i + 2).toNatClampNeg) (decide (¬ (xs (i + 3).toNatClampNeg) = 0)) σ1 = some (r, σ1')) (h2 : f_X12_height (xs (i + 1).toNatClampNeg) (xs (i + 2).toNatClampNeg) (decide (¬ (xs (i + 3).toNatClampNeg) = 0)) σ2 = some (r, σ2')) (kk : am_LG X1 X2 l p e s m below meth c b L xs nc ns 2540 [(0, .ref b), (1, .ref (am_ad X1 11 0)), (2, .ref (am_ad X2 12 0)), (3, .int i)] [] σ1' σ2') : am_LG X1 X2 l p e s m below meth c b L xs nc ns 815 [(0, .ref b), (1, .ref (am_ad X1 11 0)), (2, .ref (am_ad X2 12 0)), (3, .int i)] [] σ1 σ2 := by
  refine w_aload_n C (pc := 815) 1 rfl dL_law_815 rfl ?_
  refine w_aload_n C (pc := 816) 0 rfl dL_law_816 rfl ?_
  refine w_iload_n C (pc := 817) 3 rfl dL_law_817 rfl ?_
  refine w_iconst C (pc := 818) (v := 1) dL_law_818 (by decide) ?_
  refine w_iadd C (pc := 819) dL_law_819 ?_
  refine w_sld C (pc := 820) (hv 1 (by decide)) dL_law_820 ?_
  refine w_aload_n C (pc := 821) 0 rfl dL_law_821 rfl ?_
  refine w_iload_n C (pc := 822) 3 rfl dL_law_822 rfl ?_
  refine w_iconst C (pc := 823) (v := 2) dL_law_823 (by decide) ?_
  refine w_iadd C (pc := 824) dL_law_824 ?_
  refine w_sld C (pc := 825) (hv 2 (by decide)) dL_law_825 ?_
  refine w_aload_n C (pc := 826) 0 rfl dL_law_826 rfl ?_
  refine w_iload_n C (pc := 827) 3 rfl dL_law_827 rfl ?_
  refine w_iconst C (pc := 828) (v := 3) dL_law_828 (by decide) ?_
  refine w_iadd C (pc := 829) dL_law_829 ?_
  refine w_sld C (pc := 830) (hv 3 (by decide)) dL_law_830 ?_
  refine w_nz C (pc := 831) dL_law_831 dL_law_834 dL_law_835 dL_law_838 ?_
  refine w_c1 C (pc := 839) (As := [.int (xs (i + 1).toNatClampNeg), .int (xs (i + 2).toNatClampNeg), .int (am_b (decide (¬ (xs (i + 3).toNatClampNeg) = 0)))]) (st := []) (st1 := [.int r]) kk_11 (in_11 C.2.1.1 (Nat.le_refl 1)) mV_X11_height (tb_4 (List.mem_of_getElem? (i := 182) (by decide +kernel))) rfl (Nat.le_of_ble_eq_true rfl) (Nat.le_of_ble_eq_true rfl) hnc hns (k_X11_height C.2.1 (xs (i + 1).toNatClampNeg) (xs (i + 2).toNatClampNeg) (decide (¬ (xs (i + 3).toNatClampNeg) = 0)) σ1 h1) dL_law_839 rfl rfl ?_
  refine w_aload_n C (pc := 842) 2 rfl dL_law_842 rfl ?_
  refine w_aload_n C (pc := 843) 0 rfl dL_law_843 rfl ?_
  refine w_iload_n C (pc := 844) 3 rfl dL_law_844 rfl ?_
  refine w_iconst C (pc := 845) (v := 1) dL_law_845 (by decide) ?_
  refine w_iadd C (pc := 846) dL_law_846 ?_
  refine w_sld C (pc := 847) (hv 1 (by decide)) dL_law_847 ?_
  refine w_aload_n C (pc := 848) 0 rfl dL_law_848 rfl ?_
  refine w_iload_n C (pc := 849) 3 rfl dL_law_849 rfl ?_
  refine w_iconst C (pc := 850) (v := 2) dL_law_850 (by decide) ?_
  refine w_iadd C (pc := 851) dL_law_851 ?_
  refine w_sld C (pc := 852) (hv 2 (by decide)) dL_law_852 ?_
  refine w_aload_n C (pc := 853) 0 rfl dL_law_853 rfl ?_
  refine w_iload_n C (pc := 854) 3 rfl dL_law_854 rfl ?_
  refine w_iconst C (pc := 855) (v := 3) dL_law_855 (by decide) ?_
  refine w_iadd C (pc := 856) dL_law_856 ?_
  refine w_sld C (pc := 857) (hv 3 (by decide)) dL_law_857 ?_
  refine w_nz C (pc := 858) dL_law_858 dL_law_861 dL_law_862 dL_law_865 ?_
  refine w_c2 C (pc := 866) (As := [.int (xs (i + 1).toNatClampNeg), .int (xs (i + 2).toNatClampNeg), .int (am_b (decide (¬ (xs (i + 3).toNatClampNeg) = 0)))]) (st := [.int r]) (st1 := [.int r, .int r]) kk_12 (in_12 C.2.2.1 (Nat.le_refl 1)) mV_X12_height (tb_9 (List.mem_of_getElem? (i := 52) (by decide +kernel))) rfl (Nat.le_of_ble_eq_true rfl) (Nat.le_of_ble_eq_true rfl) hnc hns (k_X12_height C.2.2.1 (xs (i + 1).toNatClampNeg) (xs (i + 2).toNatClampNeg) (decide (¬ (xs (i + 3).toNatClampNeg) = 0)) σ2 h2) dL_law_866 rfl rfl ?_
  exact w_ieq C (pc := 869) 2540 dL_law_869 rfl kk
set_option maxRecDepth 100000 in
set_option maxHeartbeats 4000000 in
theorem lc_15 {X1 X2 : am_X} {l : Launch} {p : Program} {e : Env} {s : State} {m : MethodId} {below : List Frame} {meth : Method} {c : Code} {b L : Nat} {xs : Nat → Int32} {nc ns : Nat} (C : am_LC X1 X2 l p s m meth c b L xs) (hnc : nc ≤ 600000) (hns : ns ≤ 7302249) {i : Int32} (hv : ∀ k : Nat, k < 10 → vp_in (i + Int32.ofNat k) L) {r : Int32} {σ1 σ2 σ1' σ2' : am_H} (h1 : f_X11_pointer (xs (i + 1).toNatClampNeg) (xs (i + 2).toNatClampNeg) (xs (i + 3).toNatClampNeg) σ1 = some (r, σ1')) (h2 : f_X12_pointer (xs (i + 1).toNatClampNeg) (xs (i + 2).toNatClampNeg) (xs (i + 3).toNatClampNeg) σ2 = some (r, σ2')) (kk : am_LG X1 X2 l p e s m below meth c b L xs nc ns 2540 [(0, .ref b), (1, .ref (am_ad X1 11 0)), (2, .ref (am_ad X2 12 0)), (3, .int i)] [] σ1' σ2') : am_LG X1 X2 l p e s m below meth c b L xs nc ns 874 [(0, .ref b), (1, .ref (am_ad X1 11 0)), (2, .ref (am_ad X2 12 0)), (3, .int i)] [] σ1 σ2 := by
  refine w_aload_n C (pc := 874) 1 rfl dL_law_874 rfl ?_
  refine w_aload_n C (pc := 875) 0 rfl dL_law_875 rfl ?_
  refine w_iload_n C (pc := 876) 3 rfl dL_law_876 rfl ?_
  refine w_iconst C (pc := 877) (v := 1) dL_law_877 (by decide) ?_
  refine w_iadd C (pc := 878) dL_law_878 ?_
  refine w_sld C (pc := 879) (hv 1 (by decide)) dL_law_879 ?_
  refine w_aload_n C (pc := 880) 0 rfl dL_law_880 rfl ?_
  refine w_iload_n C (pc := 881) 3 rfl dL_law_881 rfl ?_
  refine w_iconst C (pc := 882) (v := 2) dL_law_882 (by decide) ?_
  refine w_iadd C (pc := 883) dL_law_883 ?_
  refine w_sld C (pc := 884) (hv 2 (by decide)) dL_law_884 ?_
  refine w_aload_n C (pc := 885) 0 rfl dL_law_885 rfl ?_
  refine w_iload_n C (pc := 886) 3 rfl dL_law_886 rfl ?_
  refine w_iconst C (pc := 887) (v := 3) dL_law_887 (by decide) ?_
  refine w_iadd C (pc := 888) dL_law_888 ?_
  refine w_sld C (pc := 889) (hv 3 (by decide)) dL_law_889 ?_
  refine w_c1 C (pc := 890) (As := [.int (xs (i + 1).toNatClampNeg), .int (xs (i + 2).toNatClampNeg), .int (xs (i + 3).toNatClampNeg)]) (st := []) (st1 := [.int r]) kk_11 (in_11 C.2.1.1 (Nat.le_refl 1)) mV_X11_pointer (tb_4 (List.mem_of_getElem? (i := 202) (by decide +kernel))) rfl (Nat.le_of_ble_eq_true rfl) (Nat.le_of_ble_eq_true rfl) hnc hns (k_X11_pointer C.2.1 (xs (i + 1).toNatClampNeg) (xs (i + 2).toNatClampNeg) (xs (i + 3).toNatClampNeg) σ1 h1) dL_law_890 rfl rfl ?_
  refine w_aload_n C (pc := 893) 2 rfl dL_law_893 rfl ?_
  refine w_aload_n C (pc := 894) 0 rfl dL_law_894 rfl ?_
  refine w_iload_n C (pc := 895) 3 rfl dL_law_895 rfl ?_
  refine w_iconst C (pc := 896) (v := 1) dL_law_896 (by decide) ?_
  refine w_iadd C (pc := 897) dL_law_897 ?_
  refine w_sld C (pc := 898) (hv 1 (by decide)) dL_law_898 ?_
  refine w_aload_n C (pc := 899) 0 rfl dL_law_899 rfl ?_
  refine w_iload_n C (pc := 900) 3 rfl dL_law_900 rfl ?_
  refine w_iconst C (pc := 901) (v := 2) dL_law_901 (by decide) ?_
  refine w_iadd C (pc := 902) dL_law_902 ?_
  refine w_sld C (pc := 903) (hv 2 (by decide)) dL_law_903 ?_
  refine w_aload_n C (pc := 904) 0 rfl dL_law_904 rfl ?_
  refine w_iload_n C (pc := 905) 3 rfl dL_law_905 rfl ?_
  refine w_iconst C (pc := 906) (v := 3) dL_law_906 (by decide) ?_
  refine w_iadd C (pc := 907) dL_law_907 ?_
  refine w_sld C (pc := 908) (hv 3 (by decide)) dL_law_908 ?_
  refine w_c2 C (pc := 909) (As := [.int (xs (i + 1).toNatClampNeg), .int (xs (i + 2).toNatClampNeg), .int (xs (i + 3).toNatClampNeg)]) (st := [.int r]) (st1 := [.int r, .int r]) kk_12 (in_12 C.2.2.1 (Nat.le_refl 1)) mV_X12_pointer (tb_9 (List.mem_of_getElem? (i := 63) (by decide +kernel))) rfl (Nat.le_of_ble_eq_true rfl) (Nat.le_of_ble_eq_true rfl) hnc hns (k_X12_pointer C.2.2.1 (xs (i + 1).toNatClampNeg) (xs (i + 2).toNatClampNeg) (xs (i + 3).toNatClampNeg) σ2 h2) dL_law_909 rfl rfl ?_
  exact w_ieq C (pc := 912) 2540 dL_law_912 rfl kk
set_option maxRecDepth 100000 in
set_option maxHeartbeats 4000000 in
theorem lc_16 {X1 X2 : am_X} {l : Launch} {p : Program} {e : Env} {s : State} {m : MethodId} {below : List Frame} {meth : Method} {c : Code} {b L : Nat} {xs : Nat → Int32} {nc ns : Nat} (C : am_LC X1 X2 l p s m meth c b L xs) (hnc : nc ≤ 600000) (hns : ns ≤ 7302249) {i : Int32} (hv : ∀ k : Nat, k < 10 → vp_in (i + Int32.ofNat k) L) {r : Bool} {σ1 σ2 σ1' σ2' : am_H} (h1 : f_X11_off (xs (i + 1).toNatClampNeg) (xs (i + 2).toNatClampNeg) (xs (i + 3).toNatClampNeg) σ1 = some (r, σ1')) (h2 : f_X12_off (xs (i + 1).toNatClampNeg) (xs (i + 2).toNatClampNeg) (xs (i + 3).toNatClampNeg) σ2 = some (r, σ2')) (kk : am_LG X1 X2 l p e s m below meth c b L xs nc ns 2540 [(0, .ref b), (1, .ref (am_ad X1 11 0)), (2, .ref (am_ad X2 12 0)), (3, .int i)] [] σ1' σ2') : am_LG X1 X2 l p e s m below meth c b L xs nc ns 917 [(0, .ref b), (1, .ref (am_ad X1 11 0)), (2, .ref (am_ad X2 12 0)), (3, .int i)] [] σ1 σ2 := by
  refine w_aload_n C (pc := 917) 1 rfl dL_law_917 rfl ?_
  refine w_aload_n C (pc := 918) 0 rfl dL_law_918 rfl ?_
  refine w_iload_n C (pc := 919) 3 rfl dL_law_919 rfl ?_
  refine w_iconst C (pc := 920) (v := 1) dL_law_920 (by decide) ?_
  refine w_iadd C (pc := 921) dL_law_921 ?_
  refine w_sld C (pc := 922) (hv 1 (by decide)) dL_law_922 ?_
  refine w_aload_n C (pc := 923) 0 rfl dL_law_923 rfl ?_
  refine w_iload_n C (pc := 924) 3 rfl dL_law_924 rfl ?_
  refine w_iconst C (pc := 925) (v := 2) dL_law_925 (by decide) ?_
  refine w_iadd C (pc := 926) dL_law_926 ?_
  refine w_sld C (pc := 927) (hv 2 (by decide)) dL_law_927 ?_
  refine w_aload_n C (pc := 928) 0 rfl dL_law_928 rfl ?_
  refine w_iload_n C (pc := 929) 3 rfl dL_law_929 rfl ?_
  refine w_iconst C (pc := 930) (v := 3) dL_law_930 (by decide) ?_
  refine w_iadd C (pc := 931) dL_law_931 ?_
  refine w_sld C (pc := 932) (hv 3 (by decide)) dL_law_932 ?_
  refine w_c1 C (pc := 933) (As := [.int (xs (i + 1).toNatClampNeg), .int (xs (i + 2).toNatClampNeg), .int (xs (i + 3).toNatClampNeg)]) (st := []) (st1 := [.int (am_b r)]) kk_11 (in_11 C.2.1.1 (Nat.le_refl 1)) mV_X11_off (tb_4 (List.mem_of_getElem? (i := 214) (by decide +kernel))) rfl (Nat.le_of_ble_eq_true rfl) (Nat.le_of_ble_eq_true rfl) hnc hns (k_X11_off C.2.1 (xs (i + 1).toNatClampNeg) (xs (i + 2).toNatClampNeg) (xs (i + 3).toNatClampNeg) σ1 h1) dL_law_933 rfl rfl ?_
  refine w_aload_n C (pc := 936) 2 rfl dL_law_936 rfl ?_
  refine w_aload_n C (pc := 937) 0 rfl dL_law_937 rfl ?_
  refine w_iload_n C (pc := 938) 3 rfl dL_law_938 rfl ?_
  refine w_iconst C (pc := 939) (v := 1) dL_law_939 (by decide) ?_
  refine w_iadd C (pc := 940) dL_law_940 ?_
  refine w_sld C (pc := 941) (hv 1 (by decide)) dL_law_941 ?_
  refine w_aload_n C (pc := 942) 0 rfl dL_law_942 rfl ?_
  refine w_iload_n C (pc := 943) 3 rfl dL_law_943 rfl ?_
  refine w_iconst C (pc := 944) (v := 2) dL_law_944 (by decide) ?_
  refine w_iadd C (pc := 945) dL_law_945 ?_
  refine w_sld C (pc := 946) (hv 2 (by decide)) dL_law_946 ?_
  refine w_aload_n C (pc := 947) 0 rfl dL_law_947 rfl ?_
  refine w_iload_n C (pc := 948) 3 rfl dL_law_948 rfl ?_
  refine w_iconst C (pc := 949) (v := 3) dL_law_949 (by decide) ?_
  refine w_iadd C (pc := 950) dL_law_950 ?_
  refine w_sld C (pc := 951) (hv 3 (by decide)) dL_law_951 ?_
  refine w_c2 C (pc := 952) (As := [.int (xs (i + 1).toNatClampNeg), .int (xs (i + 2).toNatClampNeg), .int (xs (i + 3).toNatClampNeg)]) (st := [.int (am_b r)]) (st1 := [.int (am_b r), .int (am_b r)]) kk_12 (in_12 C.2.2.1 (Nat.le_refl 1)) mV_X12_off (tb_9 (List.mem_of_getElem? (i := 68) (by decide +kernel))) rfl (Nat.le_of_ble_eq_true rfl) (Nat.le_of_ble_eq_true rfl) hnc hns (k_X12_off C.2.2.1 (xs (i + 1).toNatClampNeg) (xs (i + 2).toNatClampNeg) (xs (i + 3).toNatClampNeg) σ2 h2) dL_law_952 rfl rfl ?_
  exact w_ieq C (pc := 955) 2540 dL_law_955 rfl kk
set_option maxRecDepth 100000 in
set_option maxHeartbeats 4000000 in
theorem lc_17 {X1 X2 : am_X} {l : Launch} {p : Program} {e : Env} {s : State} {m : MethodId} {below : List Frame} {meth : Method} {c : Code} {b L : Nat} {xs : Nat → Int32} {nc ns : Nat} (C : am_LC X1 X2 l p s m meth c b L xs) (hnc : nc ≤ 600000) (hns : ns ≤ 7302249) {i : Int32} (hv : ∀ k : Nat, k < 10 → vp_in (i + Int32.ofNat k) L) {r : Int32} {σ1 σ2 σ1' σ2' : am_H} (h1 : f_X11_train (xs (i + 1).toNatClampNeg) (xs (i + 2).toNatClampNeg) (xs (i + 3).toNatClampNeg) σ1 = some (r, σ1')) (h2 : f_X12_train (xs (i + 1).toNatClampNeg) (xs (i + 2).toNatClampNeg) (xs (i + 3).toNatClampNeg) σ2 = some (r, σ2')) (kk : am_LG X1 X2 l p e s m below meth c b L xs nc ns 2540 [(0, .ref b), (1, .ref (am_ad X1 11 0)), (2, .ref (am_ad X2 12 0)), (3, .int i)] [] σ1' σ2') : am_LG X1 X2 l p e s m below meth c b L xs nc ns 960 [(0, .ref b), (1, .ref (am_ad X1 11 0)), (2, .ref (am_ad X2 12 0)), (3, .int i)] [] σ1 σ2 := by
  refine w_aload_n C (pc := 960) 1 rfl dL_law_960 rfl ?_
  refine w_aload_n C (pc := 961) 0 rfl dL_law_961 rfl ?_
  refine w_iload_n C (pc := 962) 3 rfl dL_law_962 rfl ?_
  refine w_iconst C (pc := 963) (v := 1) dL_law_963 (by decide) ?_
  refine w_iadd C (pc := 964) dL_law_964 ?_
  refine w_sld C (pc := 965) (hv 1 (by decide)) dL_law_965 ?_
  refine w_aload_n C (pc := 966) 0 rfl dL_law_966 rfl ?_
  refine w_iload_n C (pc := 967) 3 rfl dL_law_967 rfl ?_
  refine w_iconst C (pc := 968) (v := 2) dL_law_968 (by decide) ?_
  refine w_iadd C (pc := 969) dL_law_969 ?_
  refine w_sld C (pc := 970) (hv 2 (by decide)) dL_law_970 ?_
  refine w_aload_n C (pc := 971) 0 rfl dL_law_971 rfl ?_
  refine w_iload_n C (pc := 972) 3 rfl dL_law_972 rfl ?_
  refine w_iconst C (pc := 973) (v := 3) dL_law_973 (by decide) ?_
  refine w_iadd C (pc := 974) dL_law_974 ?_
  refine w_sld C (pc := 975) (hv 3 (by decide)) dL_law_975 ?_
  refine w_c1 C (pc := 976) (As := [.int (xs (i + 1).toNatClampNeg), .int (xs (i + 2).toNatClampNeg), .int (xs (i + 3).toNatClampNeg)]) (st := []) (st1 := [.int r]) kk_11 (in_11 C.2.1.1 (Nat.le_refl 1)) mV_X11_train (tb_4 (List.mem_of_getElem? (i := 237) (by decide +kernel))) rfl (Nat.le_of_ble_eq_true rfl) (Nat.le_of_ble_eq_true rfl) hnc hns (k_X11_train C.2.1 (xs (i + 1).toNatClampNeg) (xs (i + 2).toNatClampNeg) (xs (i + 3).toNatClampNeg) σ1 h1) dL_law_976 rfl rfl ?_
  refine w_aload_n C (pc := 979) 2 rfl dL_law_979 rfl ?_
  refine w_aload_n C (pc := 980) 0 rfl dL_law_980 rfl ?_
  refine w_iload_n C (pc := 981) 3 rfl dL_law_981 rfl ?_
  refine w_iconst C (pc := 982) (v := 1) dL_law_982 (by decide) ?_
  refine w_iadd C (pc := 983) dL_law_983 ?_
  refine w_sld C (pc := 984) (hv 1 (by decide)) dL_law_984 ?_
  refine w_aload_n C (pc := 985) 0 rfl dL_law_985 rfl ?_
  refine w_iload_n C (pc := 986) 3 rfl dL_law_986 rfl ?_
  refine w_iconst C (pc := 987) (v := 2) dL_law_987 (by decide) ?_
  refine w_iadd C (pc := 988) dL_law_988 ?_
  refine w_sld C (pc := 989) (hv 2 (by decide)) dL_law_989 ?_
  refine w_aload_n C (pc := 990) 0 rfl dL_law_990 rfl ?_
  refine w_iload_n C (pc := 991) 3 rfl dL_law_991 rfl ?_
  refine w_iconst C (pc := 992) (v := 3) dL_law_992 (by decide) ?_
  refine w_iadd C (pc := 993) dL_law_993 ?_
  refine w_sld C (pc := 994) (hv 3 (by decide)) dL_law_994 ?_
  refine w_c2 C (pc := 995) (As := [.int (xs (i + 1).toNatClampNeg), .int (xs (i + 2).toNatClampNeg), .int (xs (i + 3).toNatClampNeg)]) (st := [.int r]) (st1 := [.int r, .int r]) kk_12 (in_12 C.2.2.1 (Nat.le_refl 1)) mV_X12_train (tb_9 (List.mem_of_getElem? (i := 81) (by decide +kernel))) rfl (Nat.le_of_ble_eq_true rfl) (Nat.le_of_ble_eq_true rfl) hnc hns (k_X12_train C.2.2.1 (xs (i + 1).toNatClampNeg) (xs (i + 2).toNatClampNeg) (xs (i + 3).toNatClampNeg) σ2 h2) dL_law_995 rfl rfl ?_
  exact w_ieq C (pc := 998) 2540 dL_law_998 rfl kk
set_option maxRecDepth 100000 in
set_option maxHeartbeats 4000000 in
theorem lc_18 {X1 X2 : am_X} {l : Launch} {p : Program} {e : Env} {s : State} {m : MethodId} {below : List Frame} {meth : Method} {c : Code} {b L : Nat} {xs : Nat → Int32} {nc ns : Nat} (C : am_LC X1 X2 l p s m meth c b L xs) (hnc : nc ≤ 600000) (hns : ns ≤ 7302249) {i : Int32} (hv : ∀ k : Nat, k < 10 → vp_in (i + Int32.ofNat k) L) {r : Int32} {σ1 σ2 σ1' σ2' : am_H} (h1 : f_X11_trained (xs (i + 1).toNatClampNeg) σ1 = some (r, σ1')) (h2 : f_X12_trained (xs (i + 1).toNatClampNeg) σ2 = some (r, σ2')) (kk : am_LG X1 X2 l p e s m below meth c b L xs nc ns 2540 [(0, .ref b), (1, .ref (am_ad X1 11 0)), (2, .ref (am_ad X2 12 0)), (3, .int i)] [] σ1' σ2') : am_LG X1 X2 l p e s m below meth c b L xs nc ns 1003 [(0, .ref b), (1, .ref (am_ad X1 11 0)), (2, .ref (am_ad X2 12 0)), (3, .int i)] [] σ1 σ2 := by
  refine w_aload_n C (pc := 1003) 1 rfl dL_law_1003 rfl ?_
  refine w_aload_n C (pc := 1004) 0 rfl dL_law_1004 rfl ?_
  refine w_iload_n C (pc := 1005) 3 rfl dL_law_1005 rfl ?_
  refine w_iconst C (pc := 1006) (v := 1) dL_law_1006 (by decide) ?_
  refine w_iadd C (pc := 1007) dL_law_1007 ?_
  refine w_sld C (pc := 1008) (hv 1 (by decide)) dL_law_1008 ?_
  refine w_c1 C (pc := 1009) (As := [.int (xs (i + 1).toNatClampNeg)]) (st := []) (st1 := [.int r]) kk_11 (in_11 C.2.1.1 (Nat.le_refl 1)) mV_X11_trained (tb_5 (List.mem_of_getElem? (i := 23) (by decide +kernel))) rfl (Nat.le_of_ble_eq_true rfl) (Nat.le_of_ble_eq_true rfl) hnc hns (k_X11_trained C.2.1 (xs (i + 1).toNatClampNeg) σ1 h1) dL_law_1009 rfl rfl ?_
  refine w_aload_n C (pc := 1012) 2 rfl dL_law_1012 rfl ?_
  refine w_aload_n C (pc := 1013) 0 rfl dL_law_1013 rfl ?_
  refine w_iload_n C (pc := 1014) 3 rfl dL_law_1014 rfl ?_
  refine w_iconst C (pc := 1015) (v := 1) dL_law_1015 (by decide) ?_
  refine w_iadd C (pc := 1016) dL_law_1016 ?_
  refine w_sld C (pc := 1017) (hv 1 (by decide)) dL_law_1017 ?_
  refine w_c2 C (pc := 1018) (As := [.int (xs (i + 1).toNatClampNeg)]) (st := [.int r]) (st1 := [.int r, .int r]) kk_12 (in_12 C.2.2.1 (Nat.le_refl 1)) mV_X12_trained (tb_9 (List.mem_of_getElem? (i := 110) (by decide +kernel))) rfl (Nat.le_of_ble_eq_true rfl) (Nat.le_of_ble_eq_true rfl) hnc hns (k_X12_trained C.2.2.1 (xs (i + 1).toNatClampNeg) σ2 h2) dL_law_1018 rfl rfl ?_
  exact w_ieq C (pc := 1021) 2540 dL_law_1021 rfl kk
set_option maxRecDepth 100000 in
set_option maxHeartbeats 4000000 in
theorem lc_19 {X1 X2 : am_X} {l : Launch} {p : Program} {e : Env} {s : State} {m : MethodId} {below : List Frame} {meth : Method} {c : Code} {b L : Nat} {xs : Nat → Int32} {nc ns : Nat} (C : am_LC X1 X2 l p s m meth c b L xs) (hnc : nc ≤ 600000) (hns : ns ≤ 7302249) {i : Int32} (hv : ∀ k : Nat, k < 10 → vp_in (i + Int32.ofNat k) L) {r : Int32} {σ1 σ2 σ1' σ2' : am_H} (h1 : f_X11_share (xs (i + 1).toNatClampNeg) (xs (i + 2).toNatClampNeg) (xs (i + 3).toNatClampNeg) (xs (i + 4).toNatClampNeg) σ1 = some (r, σ1')) (h2 : f_X12_share (xs (i + 1).toNatClampNeg) (xs (i + 2).toNatClampNeg) (xs (i + 3).toNatClampNeg) (xs (i + 4).toNatClampNeg) σ2 = some (r, σ2')) (kk : am_LG X1 X2 l p e s m below meth c b L xs nc ns 2540 [(0, .ref b), (1, .ref (am_ad X1 11 0)), (2, .ref (am_ad X2 12 0)), (3, .int i)] [] σ1' σ2') : am_LG X1 X2 l p e s m below meth c b L xs nc ns 1026 [(0, .ref b), (1, .ref (am_ad X1 11 0)), (2, .ref (am_ad X2 12 0)), (3, .int i)] [] σ1 σ2 := by
  refine w_aload_n C (pc := 1026) 1 rfl dL_law_1026 rfl ?_
  refine w_aload_n C (pc := 1027) 0 rfl dL_law_1027 rfl ?_
  refine w_iload_n C (pc := 1028) 3 rfl dL_law_1028 rfl ?_
  refine w_iconst C (pc := 1029) (v := 1) dL_law_1029 (by decide) ?_
  refine w_iadd C (pc := 1030) dL_law_1030 ?_
  refine w_sld C (pc := 1031) (hv 1 (by decide)) dL_law_1031 ?_
  refine w_aload_n C (pc := 1032) 0 rfl dL_law_1032 rfl ?_
  refine w_iload_n C (pc := 1033) 3 rfl dL_law_1033 rfl ?_
  refine w_iconst C (pc := 1034) (v := 2) dL_law_1034 (by decide) ?_
  refine w_iadd C (pc := 1035) dL_law_1035 ?_
  refine w_sld C (pc := 1036) (hv 2 (by decide)) dL_law_1036 ?_
  refine w_aload_n C (pc := 1037) 0 rfl dL_law_1037 rfl ?_
  refine w_iload_n C (pc := 1038) 3 rfl dL_law_1038 rfl ?_
  refine w_iconst C (pc := 1039) (v := 3) dL_law_1039 (by decide) ?_
  refine w_iadd C (pc := 1040) dL_law_1040 ?_
  refine w_sld C (pc := 1041) (hv 3 (by decide)) dL_law_1041 ?_
  refine w_aload_n C (pc := 1042) 0 rfl dL_law_1042 rfl ?_
  refine w_iload_n C (pc := 1043) 3 rfl dL_law_1043 rfl ?_
  refine w_iconst C (pc := 1044) (v := 4) dL_law_1044 (by decide) ?_
  refine w_iadd C (pc := 1045) dL_law_1045 ?_
  refine w_sld C (pc := 1046) (hv 4 (by decide)) dL_law_1046 ?_
  refine w_c1 C (pc := 1047) (As := [.int (xs (i + 1).toNatClampNeg), .int (xs (i + 2).toNatClampNeg), .int (xs (i + 3).toNatClampNeg), .int (xs (i + 4).toNatClampNeg)]) (st := []) (st1 := [.int r]) kk_11 (in_11 C.2.1.1 (Nat.le_refl 1)) mV_X11_share (tb_5 (List.mem_of_getElem? (i := 27) (by decide +kernel))) rfl (Nat.le_of_ble_eq_true rfl) (Nat.le_of_ble_eq_true rfl) hnc hns (k_X11_share C.2.1 (xs (i + 1).toNatClampNeg) (xs (i + 2).toNatClampNeg) (xs (i + 3).toNatClampNeg) (xs (i + 4).toNatClampNeg) σ1 h1) dL_law_1047 rfl rfl ?_
  refine w_aload_n C (pc := 1050) 2 rfl dL_law_1050 rfl ?_
  refine w_aload_n C (pc := 1051) 0 rfl dL_law_1051 rfl ?_
  refine w_iload_n C (pc := 1052) 3 rfl dL_law_1052 rfl ?_
  refine w_iconst C (pc := 1053) (v := 1) dL_law_1053 (by decide) ?_
  refine w_iadd C (pc := 1054) dL_law_1054 ?_
  refine w_sld C (pc := 1055) (hv 1 (by decide)) dL_law_1055 ?_
  refine w_aload_n C (pc := 1056) 0 rfl dL_law_1056 rfl ?_
  refine w_iload_n C (pc := 1057) 3 rfl dL_law_1057 rfl ?_
  refine w_iconst C (pc := 1058) (v := 2) dL_law_1058 (by decide) ?_
  refine w_iadd C (pc := 1059) dL_law_1059 ?_
  refine w_sld C (pc := 1060) (hv 2 (by decide)) dL_law_1060 ?_
  refine w_aload_n C (pc := 1061) 0 rfl dL_law_1061 rfl ?_
  refine w_iload_n C (pc := 1062) 3 rfl dL_law_1062 rfl ?_
  refine w_iconst C (pc := 1063) (v := 3) dL_law_1063 (by decide) ?_
  refine w_iadd C (pc := 1064) dL_law_1064 ?_
  refine w_sld C (pc := 1065) (hv 3 (by decide)) dL_law_1065 ?_
  refine w_aload_n C (pc := 1066) 0 rfl dL_law_1066 rfl ?_
  refine w_iload_n C (pc := 1067) 3 rfl dL_law_1067 rfl ?_
  refine w_iconst C (pc := 1068) (v := 4) dL_law_1068 (by decide) ?_
  refine w_iadd C (pc := 1069) dL_law_1069 ?_
  refine w_sld C (pc := 1070) (hv 4 (by decide)) dL_law_1070 ?_
  refine w_c2 C (pc := 1071) (As := [.int (xs (i + 1).toNatClampNeg), .int (xs (i + 2).toNatClampNeg), .int (xs (i + 3).toNatClampNeg), .int (xs (i + 4).toNatClampNeg)]) (st := [.int r]) (st1 := [.int r, .int r]) kk_12 (in_12 C.2.2.1 (Nat.le_refl 1)) mV_X12_share (tb_9 (List.mem_of_getElem? (i := 114) (by decide +kernel))) rfl (Nat.le_of_ble_eq_true rfl) (Nat.le_of_ble_eq_true rfl) hnc hns (k_X12_share C.2.2.1 (xs (i + 1).toNatClampNeg) (xs (i + 2).toNatClampNeg) (xs (i + 3).toNatClampNeg) (xs (i + 4).toNatClampNeg) σ2 h2) dL_law_1071 rfl rfl ?_
  exact w_ieq C (pc := 1074) 2540 dL_law_1074 rfl kk
set_option maxRecDepth 100000 in
set_option maxHeartbeats 4000000 in
theorem lc_20 {X1 X2 : am_X} {l : Launch} {p : Program} {e : Env} {s : State} {m : MethodId} {below : List Frame} {meth : Method} {c : Code} {b L : Nat} {xs : Nat → Int32} {nc ns : Nat} (C : am_LC X1 X2 l p s m meth c b L xs) (hnc : nc ≤ 600000) (hns : ns ≤ 7302249) {i : Int32} (hv : ∀ k : Nat, k < 10 → vp_in (i + Int32.ofNat k) L) {r : Int32} {σ1 σ2 σ1' σ2' : am_H} (h1 : f_X11_shared (xs (i + 1).toNatClampNeg) σ1 = some (r, σ1')) (h2 : f_X12_shared (xs (i + 1).toNatClampNeg) σ2 = some (r, σ2')) (kk : am_LG X1 X2 l p e s m below meth c b L xs nc ns 2540 [(0, .ref b), (1, .ref (am_ad X1 11 0)), (2, .ref (am_ad X2 12 0)), (3, .int i)] [] σ1' σ2') : am_LG X1 X2 l p e s m below meth c b L xs nc ns 1079 [(0, .ref b), (1, .ref (am_ad X1 11 0)), (2, .ref (am_ad X2 12 0)), (3, .int i)] [] σ1 σ2 := by
  refine w_aload_n C (pc := 1079) 1 rfl dL_law_1079 rfl ?_
  refine w_aload_n C (pc := 1080) 0 rfl dL_law_1080 rfl ?_
  refine w_iload_n C (pc := 1081) 3 rfl dL_law_1081 rfl ?_
  refine w_iconst C (pc := 1082) (v := 1) dL_law_1082 (by decide) ?_
  refine w_iadd C (pc := 1083) dL_law_1083 ?_
  refine w_sld C (pc := 1084) (hv 1 (by decide)) dL_law_1084 ?_
  refine w_c1 C (pc := 1085) (As := [.int (xs (i + 1).toNatClampNeg)]) (st := []) (st1 := [.int r]) kk_11 (in_11 C.2.1.1 (Nat.le_refl 1)) mV_X11_shared (tb_5 (List.mem_of_getElem? (i := 60) (by decide +kernel))) rfl (Nat.le_of_ble_eq_true rfl) (Nat.le_of_ble_eq_true rfl) hnc hns (k_X11_shared C.2.1 (xs (i + 1).toNatClampNeg) σ1 h1) dL_law_1085 rfl rfl ?_
  refine w_aload_n C (pc := 1088) 2 rfl dL_law_1088 rfl ?_
  refine w_aload_n C (pc := 1089) 0 rfl dL_law_1089 rfl ?_
  refine w_iload_n C (pc := 1090) 3 rfl dL_law_1090 rfl ?_
  refine w_iconst C (pc := 1091) (v := 1) dL_law_1091 (by decide) ?_
  refine w_iadd C (pc := 1092) dL_law_1092 ?_
  refine w_sld C (pc := 1093) (hv 1 (by decide)) dL_law_1093 ?_
  refine w_c2 C (pc := 1094) (As := [.int (xs (i + 1).toNatClampNeg)]) (st := [.int r]) (st1 := [.int r, .int r]) kk_12 (in_12 C.2.2.1 (Nat.le_refl 1)) mV_X12_shared (tb_9 (List.mem_of_getElem? (i := 128) (by decide +kernel))) rfl (Nat.le_of_ble_eq_true rfl) (Nat.le_of_ble_eq_true rfl) hnc hns (k_X12_shared C.2.2.1 (xs (i + 1).toNatClampNeg) σ2 h2) dL_law_1094 rfl rfl ?_
  exact w_ieq C (pc := 1097) 2540 dL_law_1097 rfl kk
set_option maxRecDepth 100000 in
set_option maxHeartbeats 4000000 in
theorem lc_21 {X1 X2 : am_X} {l : Launch} {p : Program} {e : Env} {s : State} {m : MethodId} {below : List Frame} {meth : Method} {c : Code} {b L : Nat} {xs : Nat → Int32} {nc ns : Nat} (C : am_LC X1 X2 l p s m meth c b L xs) (hnc : nc ≤ 600000) (hns : ns ≤ 7302249) {i : Int32} (hv : ∀ k : Nat, k < 10 → vp_in (i + Int32.ofNat k) L) {r : Bool} {σ1 σ2 σ1' σ2' : am_H} (h1 : f_X11_settings (xs (i + 1).toNatClampNeg) (xs (i + 2).toNatClampNeg) (xs (i + 3).toNatClampNeg) (xs (i + 4).toNatClampNeg) (xs (i + 5).toNatClampNeg) (xs (i + 6).toNatClampNeg) (xs (i + 7).toNatClampNeg) σ1 = some (r, σ1')) (h2 : f_X12_settings (xs (i + 1).toNatClampNeg) (xs (i + 2).toNatClampNeg) (xs (i + 3).toNatClampNeg) (xs (i + 4).toNatClampNeg) (xs (i + 5).toNatClampNeg) (xs (i + 6).toNatClampNeg) (xs (i + 7).toNatClampNeg) σ2 = some (r, σ2')) (kk : am_LG X1 X2 l p e s m below meth c b L xs nc ns 2540 [(0, .ref b), (1, .ref (am_ad X1 11 0)), (2, .ref (am_ad X2 12 0)), (3, .int i)] [] σ1' σ2') : am_LG X1 X2 l p e s m below meth c b L xs nc ns 1102 [(0, .ref b), (1, .ref (am_ad X1 11 0)), (2, .ref (am_ad X2 12 0)), (3, .int i)] [] σ1 σ2 := by
  refine w_aload_n C (pc := 1102) 1 rfl dL_law_1102 rfl ?_
  refine w_aload_n C (pc := 1103) 0 rfl dL_law_1103 rfl ?_
  refine w_iload_n C (pc := 1104) 3 rfl dL_law_1104 rfl ?_
  refine w_iconst C (pc := 1105) (v := 1) dL_law_1105 (by decide) ?_
  refine w_iadd C (pc := 1106) dL_law_1106 ?_
  refine w_sld C (pc := 1107) (hv 1 (by decide)) dL_law_1107 ?_
  refine w_aload_n C (pc := 1108) 0 rfl dL_law_1108 rfl ?_
  refine w_iload_n C (pc := 1109) 3 rfl dL_law_1109 rfl ?_
  refine w_iconst C (pc := 1110) (v := 2) dL_law_1110 (by decide) ?_
  refine w_iadd C (pc := 1111) dL_law_1111 ?_
  refine w_sld C (pc := 1112) (hv 2 (by decide)) dL_law_1112 ?_
  refine w_aload_n C (pc := 1113) 0 rfl dL_law_1113 rfl ?_
  refine w_iload_n C (pc := 1114) 3 rfl dL_law_1114 rfl ?_
  refine w_iconst C (pc := 1115) (v := 3) dL_law_1115 (by decide) ?_
  refine w_iadd C (pc := 1116) dL_law_1116 ?_
  refine w_sld C (pc := 1117) (hv 3 (by decide)) dL_law_1117 ?_
  refine w_aload_n C (pc := 1118) 0 rfl dL_law_1118 rfl ?_
  refine w_iload_n C (pc := 1119) 3 rfl dL_law_1119 rfl ?_
  refine w_iconst C (pc := 1120) (v := 4) dL_law_1120 (by decide) ?_
  refine w_iadd C (pc := 1121) dL_law_1121 ?_
  refine w_sld C (pc := 1122) (hv 4 (by decide)) dL_law_1122 ?_
  refine w_aload_n C (pc := 1123) 0 rfl dL_law_1123 rfl ?_
  refine w_iload_n C (pc := 1124) 3 rfl dL_law_1124 rfl ?_
  refine w_iconst C (pc := 1125) (v := 5) dL_law_1125 (by decide) ?_
  refine w_iadd C (pc := 1126) dL_law_1126 ?_
  refine w_sld C (pc := 1127) (hv 5 (by decide)) dL_law_1127 ?_
  refine w_aload_n C (pc := 1128) 0 rfl dL_law_1128 rfl ?_
  refine w_iload_n C (pc := 1129) 3 rfl dL_law_1129 rfl ?_
  refine w_bipush C (pc := 1130) (v := 6) dL_law_1130 (by decide) ?_
  refine w_iadd C (pc := 1132) dL_law_1132 ?_
  refine w_sld C (pc := 1133) (hv 6 (by decide)) dL_law_1133 ?_
  refine w_aload_n C (pc := 1134) 0 rfl dL_law_1134 rfl ?_
  refine w_iload_n C (pc := 1135) 3 rfl dL_law_1135 rfl ?_
  refine w_bipush C (pc := 1136) (v := 7) dL_law_1136 (by decide) ?_
  refine w_iadd C (pc := 1138) dL_law_1138 ?_
  refine w_sld C (pc := 1139) (hv 7 (by decide)) dL_law_1139 ?_
  refine w_c1 C (pc := 1140) (As := [.int (xs (i + 1).toNatClampNeg), .int (xs (i + 2).toNatClampNeg), .int (xs (i + 3).toNatClampNeg), .int (xs (i + 4).toNatClampNeg), .int (xs (i + 5).toNatClampNeg), .int (xs (i + 6).toNatClampNeg), .int (xs (i + 7).toNatClampNeg)]) (st := []) (st1 := [.int (am_b r)]) kk_11 (in_11 C.2.1.1 (Nat.le_refl 1)) mV_X11_settings (tb_5 (List.mem_of_getElem? (i := 64) (by decide +kernel))) rfl (Nat.le_of_ble_eq_true rfl) (Nat.le_of_ble_eq_true rfl) hnc hns (k_X11_settings C.2.1 (xs (i + 1).toNatClampNeg) (xs (i + 2).toNatClampNeg) (xs (i + 3).toNatClampNeg) (xs (i + 4).toNatClampNeg) (xs (i + 5).toNatClampNeg) (xs (i + 6).toNatClampNeg) (xs (i + 7).toNatClampNeg) σ1 h1) dL_law_1140 rfl rfl ?_
  refine w_aload_n C (pc := 1143) 2 rfl dL_law_1143 rfl ?_
  refine w_aload_n C (pc := 1144) 0 rfl dL_law_1144 rfl ?_
  refine w_iload_n C (pc := 1145) 3 rfl dL_law_1145 rfl ?_
  refine w_iconst C (pc := 1146) (v := 1) dL_law_1146 (by decide) ?_
  refine w_iadd C (pc := 1147) dL_law_1147 ?_
  refine w_sld C (pc := 1148) (hv 1 (by decide)) dL_law_1148 ?_
  refine w_aload_n C (pc := 1149) 0 rfl dL_law_1149 rfl ?_
  refine w_iload_n C (pc := 1150) 3 rfl dL_law_1150 rfl ?_
  refine w_iconst C (pc := 1151) (v := 2) dL_law_1151 (by decide) ?_
  refine w_iadd C (pc := 1152) dL_law_1152 ?_
  refine w_sld C (pc := 1153) (hv 2 (by decide)) dL_law_1153 ?_
  refine w_aload_n C (pc := 1154) 0 rfl dL_law_1154 rfl ?_
  refine w_iload_n C (pc := 1155) 3 rfl dL_law_1155 rfl ?_
  refine w_iconst C (pc := 1156) (v := 3) dL_law_1156 (by decide) ?_
  refine w_iadd C (pc := 1157) dL_law_1157 ?_
  refine w_sld C (pc := 1158) (hv 3 (by decide)) dL_law_1158 ?_
  refine w_aload_n C (pc := 1159) 0 rfl dL_law_1159 rfl ?_
  refine w_iload_n C (pc := 1160) 3 rfl dL_law_1160 rfl ?_
  refine w_iconst C (pc := 1161) (v := 4) dL_law_1161 (by decide) ?_
  refine w_iadd C (pc := 1162) dL_law_1162 ?_
  refine w_sld C (pc := 1163) (hv 4 (by decide)) dL_law_1163 ?_
  refine w_aload_n C (pc := 1164) 0 rfl dL_law_1164 rfl ?_
  refine w_iload_n C (pc := 1165) 3 rfl dL_law_1165 rfl ?_
  refine w_iconst C (pc := 1166) (v := 5) dL_law_1166 (by decide) ?_
  refine w_iadd C (pc := 1167) dL_law_1167 ?_
  refine w_sld C (pc := 1168) (hv 5 (by decide)) dL_law_1168 ?_
  refine w_aload_n C (pc := 1169) 0 rfl dL_law_1169 rfl ?_
  refine w_iload_n C (pc := 1170) 3 rfl dL_law_1170 rfl ?_
  refine w_bipush C (pc := 1171) (v := 6) dL_law_1171 (by decide) ?_
  refine w_iadd C (pc := 1173) dL_law_1173 ?_
  refine w_sld C (pc := 1174) (hv 6 (by decide)) dL_law_1174 ?_
  refine w_aload_n C (pc := 1175) 0 rfl dL_law_1175 rfl ?_
  refine w_iload_n C (pc := 1176) 3 rfl dL_law_1176 rfl ?_
  refine w_bipush C (pc := 1177) (v := 7) dL_law_1177 (by decide) ?_
  refine w_iadd C (pc := 1179) dL_law_1179 ?_
  refine w_sld C (pc := 1180) (hv 7 (by decide)) dL_law_1180 ?_
  refine w_c2 C (pc := 1181) (As := [.int (xs (i + 1).toNatClampNeg), .int (xs (i + 2).toNatClampNeg), .int (xs (i + 3).toNatClampNeg), .int (xs (i + 4).toNatClampNeg), .int (xs (i + 5).toNatClampNeg), .int (xs (i + 6).toNatClampNeg), .int (xs (i + 7).toNatClampNeg)]) (st := [.int (am_b r)]) (st1 := [.int (am_b r), .int (am_b r)]) kk_12 (in_12 C.2.2.1 (Nat.le_refl 1)) mV_X12_settings (tb_9 (List.mem_of_getElem? (i := 132) (by decide +kernel))) rfl (Nat.le_of_ble_eq_true rfl) (Nat.le_of_ble_eq_true rfl) hnc hns (k_X12_settings C.2.2.1 (xs (i + 1).toNatClampNeg) (xs (i + 2).toNatClampNeg) (xs (i + 3).toNatClampNeg) (xs (i + 4).toNatClampNeg) (xs (i + 5).toNatClampNeg) (xs (i + 6).toNatClampNeg) (xs (i + 7).toNatClampNeg) σ2 h2) dL_law_1181 rfl rfl ?_
  exact w_ieq C (pc := 1184) 2540 dL_law_1184 rfl kk
set_option maxRecDepth 100000 in
set_option maxHeartbeats 4000000 in
theorem lc_22 {X1 X2 : am_X} {l : Launch} {p : Program} {e : Env} {s : State} {m : MethodId} {below : List Frame} {meth : Method} {c : Code} {b L : Nat} {xs : Nat → Int32} {nc ns : Nat} (C : am_LC X1 X2 l p s m meth c b L xs) (hnc : nc ≤ 600000) (hns : ns ≤ 7302249) {i : Int32} (hv : ∀ k : Nat, k < 10 → vp_in (i + Int32.ofNat k) L) {r : Int32} {σ1 σ2 σ1' σ2' : am_H} (h1 : f_X11_changed (xs (i + 1).toNatClampNeg) (xs (i + 2).toNatClampNeg) (xs (i + 3).toNatClampNeg) (xs (i + 4).toNatClampNeg) (xs (i + 5).toNatClampNeg) (xs (i + 6).toNatClampNeg) (xs (i + 7).toNatClampNeg) (xs (i + 8).toNatClampNeg) (xs (i + 9).toNatClampNeg) σ1 = some (r, σ1')) (h2 : f_X12_changed (xs (i + 1).toNatClampNeg) (xs (i + 2).toNatClampNeg) (xs (i + 3).toNatClampNeg) (xs (i + 4).toNatClampNeg) (xs (i + 5).toNatClampNeg) (xs (i + 6).toNatClampNeg) (xs (i + 7).toNatClampNeg) (xs (i + 8).toNatClampNeg) (xs (i + 9).toNatClampNeg) σ2 = some (r, σ2')) (kk : am_LG X1 X2 l p e s m below meth c b L xs nc ns 2540 [(0, .ref b), (1, .ref (am_ad X1 11 0)), (2, .ref (am_ad X2 12 0)), (3, .int i)] [] σ1' σ2') : am_LG X1 X2 l p e s m below meth c b L xs nc ns 1189 [(0, .ref b), (1, .ref (am_ad X1 11 0)), (2, .ref (am_ad X2 12 0)), (3, .int i)] [] σ1 σ2 := by
  refine w_aload_n C (pc := 1189) 1 rfl dL_law_1189 rfl ?_
  refine w_aload_n C (pc := 1190) 0 rfl dL_law_1190 rfl ?_
  refine w_iload_n C (pc := 1191) 3 rfl dL_law_1191 rfl ?_
  refine w_iconst C (pc := 1192) (v := 1) dL_law_1192 (by decide) ?_
  refine w_iadd C (pc := 1193) dL_law_1193 ?_
  refine w_sld C (pc := 1194) (hv 1 (by decide)) dL_law_1194 ?_
  refine w_aload_n C (pc := 1195) 0 rfl dL_law_1195 rfl ?_
  refine w_iload_n C (pc := 1196) 3 rfl dL_law_1196 rfl ?_
  refine w_iconst C (pc := 1197) (v := 2) dL_law_1197 (by decide) ?_
  refine w_iadd C (pc := 1198) dL_law_1198 ?_
  refine w_sld C (pc := 1199) (hv 2 (by decide)) dL_law_1199 ?_
  refine w_aload_n C (pc := 1200) 0 rfl dL_law_1200 rfl ?_
  refine w_iload_n C (pc := 1201) 3 rfl dL_law_1201 rfl ?_
  refine w_iconst C (pc := 1202) (v := 3) dL_law_1202 (by decide) ?_
  refine w_iadd C (pc := 1203) dL_law_1203 ?_
  refine w_sld C (pc := 1204) (hv 3 (by decide)) dL_law_1204 ?_
  refine w_aload_n C (pc := 1205) 0 rfl dL_law_1205 rfl ?_
  refine w_iload_n C (pc := 1206) 3 rfl dL_law_1206 rfl ?_
  refine w_iconst C (pc := 1207) (v := 4) dL_law_1207 (by decide) ?_
  refine w_iadd C (pc := 1208) dL_law_1208 ?_
  refine w_sld C (pc := 1209) (hv 4 (by decide)) dL_law_1209 ?_
  refine w_aload_n C (pc := 1210) 0 rfl dL_law_1210 rfl ?_
  refine w_iload_n C (pc := 1211) 3 rfl dL_law_1211 rfl ?_
  refine w_iconst C (pc := 1212) (v := 5) dL_law_1212 (by decide) ?_
  refine w_iadd C (pc := 1213) dL_law_1213 ?_
  refine w_sld C (pc := 1214) (hv 5 (by decide)) dL_law_1214 ?_
  refine w_aload_n C (pc := 1215) 0 rfl dL_law_1215 rfl ?_
  refine w_iload_n C (pc := 1216) 3 rfl dL_law_1216 rfl ?_
  refine w_bipush C (pc := 1217) (v := 6) dL_law_1217 (by decide) ?_
  refine w_iadd C (pc := 1219) dL_law_1219 ?_
  refine w_sld C (pc := 1220) (hv 6 (by decide)) dL_law_1220 ?_
  refine w_aload_n C (pc := 1221) 0 rfl dL_law_1221 rfl ?_
  refine w_iload_n C (pc := 1222) 3 rfl dL_law_1222 rfl ?_
  refine w_bipush C (pc := 1223) (v := 7) dL_law_1223 (by decide) ?_
  refine w_iadd C (pc := 1225) dL_law_1225 ?_
  refine w_sld C (pc := 1226) (hv 7 (by decide)) dL_law_1226 ?_
  refine w_aload_n C (pc := 1227) 0 rfl dL_law_1227 rfl ?_
  refine w_iload_n C (pc := 1228) 3 rfl dL_law_1228 rfl ?_
  refine w_bipush C (pc := 1229) (v := 8) dL_law_1229 (by decide) ?_
  refine w_iadd C (pc := 1231) dL_law_1231 ?_
  refine w_sld C (pc := 1232) (hv 8 (by decide)) dL_law_1232 ?_
  refine w_aload_n C (pc := 1233) 0 rfl dL_law_1233 rfl ?_
  refine w_iload_n C (pc := 1234) 3 rfl dL_law_1234 rfl ?_
  refine w_bipush C (pc := 1235) (v := 9) dL_law_1235 (by decide) ?_
  refine w_iadd C (pc := 1237) dL_law_1237 ?_
  refine w_sld C (pc := 1238) (hv 9 (by decide)) dL_law_1238 ?_
  refine w_c1 C (pc := 1239) (As := [.int (xs (i + 1).toNatClampNeg), .int (xs (i + 2).toNatClampNeg), .int (xs (i + 3).toNatClampNeg), .int (xs (i + 4).toNatClampNeg), .int (xs (i + 5).toNatClampNeg), .int (xs (i + 6).toNatClampNeg), .int (xs (i + 7).toNatClampNeg), .int (xs (i + 8).toNatClampNeg), .int (xs (i + 9).toNatClampNeg)]) (st := []) (st1 := [.int r]) kk_11 (in_11 C.2.1.1 (Nat.le_refl 1)) mV_X11_changed (tb_5 (List.mem_of_getElem? (i := 113) (by decide +kernel))) rfl (Nat.le_of_ble_eq_true rfl) (Nat.le_of_ble_eq_true rfl) hnc hns (k_X11_changed C.2.1 (xs (i + 1).toNatClampNeg) (xs (i + 2).toNatClampNeg) (xs (i + 3).toNatClampNeg) (xs (i + 4).toNatClampNeg) (xs (i + 5).toNatClampNeg) (xs (i + 6).toNatClampNeg) (xs (i + 7).toNatClampNeg) (xs (i + 8).toNatClampNeg) (xs (i + 9).toNatClampNeg) σ1 h1) dL_law_1239 rfl rfl ?_
  refine w_aload_n C (pc := 1242) 2 rfl dL_law_1242 rfl ?_
  refine w_aload_n C (pc := 1243) 0 rfl dL_law_1243 rfl ?_
  refine w_iload_n C (pc := 1244) 3 rfl dL_law_1244 rfl ?_
  refine w_iconst C (pc := 1245) (v := 1) dL_law_1245 (by decide) ?_
  refine w_iadd C (pc := 1246) dL_law_1246 ?_
  refine w_sld C (pc := 1247) (hv 1 (by decide)) dL_law_1247 ?_
  refine w_aload_n C (pc := 1248) 0 rfl dL_law_1248 rfl ?_
  refine w_iload_n C (pc := 1249) 3 rfl dL_law_1249 rfl ?_
  refine w_iconst C (pc := 1250) (v := 2) dL_law_1250 (by decide) ?_
  refine w_iadd C (pc := 1251) dL_law_1251 ?_
  refine w_sld C (pc := 1252) (hv 2 (by decide)) dL_law_1252 ?_
  refine w_aload_n C (pc := 1253) 0 rfl dL_law_1253 rfl ?_
  refine w_iload_n C (pc := 1254) 3 rfl dL_law_1254 rfl ?_
  refine w_iconst C (pc := 1255) (v := 3) dL_law_1255 (by decide) ?_
  refine w_iadd C (pc := 1256) dL_law_1256 ?_
  refine w_sld C (pc := 1257) (hv 3 (by decide)) dL_law_1257 ?_
  refine w_aload_n C (pc := 1258) 0 rfl dL_law_1258 rfl ?_
  refine w_iload_n C (pc := 1259) 3 rfl dL_law_1259 rfl ?_
  refine w_iconst C (pc := 1260) (v := 4) dL_law_1260 (by decide) ?_
  refine w_iadd C (pc := 1261) dL_law_1261 ?_
  refine w_sld C (pc := 1262) (hv 4 (by decide)) dL_law_1262 ?_
  refine w_aload_n C (pc := 1263) 0 rfl dL_law_1263 rfl ?_
  refine w_iload_n C (pc := 1264) 3 rfl dL_law_1264 rfl ?_
  refine w_iconst C (pc := 1265) (v := 5) dL_law_1265 (by decide) ?_
  refine w_iadd C (pc := 1266) dL_law_1266 ?_
  refine w_sld C (pc := 1267) (hv 5 (by decide)) dL_law_1267 ?_
  refine w_aload_n C (pc := 1268) 0 rfl dL_law_1268 rfl ?_
  refine w_iload_n C (pc := 1269) 3 rfl dL_law_1269 rfl ?_
  refine w_bipush C (pc := 1270) (v := 6) dL_law_1270 (by decide) ?_
  refine w_iadd C (pc := 1272) dL_law_1272 ?_
  refine w_sld C (pc := 1273) (hv 6 (by decide)) dL_law_1273 ?_
  refine w_aload_n C (pc := 1274) 0 rfl dL_law_1274 rfl ?_
  refine w_iload_n C (pc := 1275) 3 rfl dL_law_1275 rfl ?_
  refine w_bipush C (pc := 1276) (v := 7) dL_law_1276 (by decide) ?_
  refine w_iadd C (pc := 1278) dL_law_1278 ?_
  refine w_sld C (pc := 1279) (hv 7 (by decide)) dL_law_1279 ?_
  refine w_aload_n C (pc := 1280) 0 rfl dL_law_1280 rfl ?_
  refine w_iload_n C (pc := 1281) 3 rfl dL_law_1281 rfl ?_
  refine w_bipush C (pc := 1282) (v := 8) dL_law_1282 (by decide) ?_
  refine w_iadd C (pc := 1284) dL_law_1284 ?_
  refine w_sld C (pc := 1285) (hv 8 (by decide)) dL_law_1285 ?_
  refine w_aload_n C (pc := 1286) 0 rfl dL_law_1286 rfl ?_
  refine w_iload_n C (pc := 1287) 3 rfl dL_law_1287 rfl ?_
  refine w_bipush C (pc := 1288) (v := 9) dL_law_1288 (by decide) ?_
  refine w_iadd C (pc := 1290) dL_law_1290 ?_
  refine w_sld C (pc := 1291) (hv 9 (by decide)) dL_law_1291 ?_
  refine w_c2 C (pc := 1292) (As := [.int (xs (i + 1).toNatClampNeg), .int (xs (i + 2).toNatClampNeg), .int (xs (i + 3).toNatClampNeg), .int (xs (i + 4).toNatClampNeg), .int (xs (i + 5).toNatClampNeg), .int (xs (i + 6).toNatClampNeg), .int (xs (i + 7).toNatClampNeg), .int (xs (i + 8).toNatClampNeg), .int (xs (i + 9).toNatClampNeg)]) (st := [.int r]) (st1 := [.int r, .int r]) kk_12 (in_12 C.2.2.1 (Nat.le_refl 1)) mV_X12_changed (tb_9 (List.mem_of_getElem? (i := 174) (by decide +kernel))) rfl (Nat.le_of_ble_eq_true rfl) (Nat.le_of_ble_eq_true rfl) hnc hns (k_X12_changed C.2.2.1 (xs (i + 1).toNatClampNeg) (xs (i + 2).toNatClampNeg) (xs (i + 3).toNatClampNeg) (xs (i + 4).toNatClampNeg) (xs (i + 5).toNatClampNeg) (xs (i + 6).toNatClampNeg) (xs (i + 7).toNatClampNeg) (xs (i + 8).toNatClampNeg) (xs (i + 9).toNatClampNeg) σ2 h2) dL_law_1292 rfl rfl ?_
  exact w_ieq C (pc := 1295) 2540 dL_law_1295 rfl kk
set_option maxRecDepth 100000 in
set_option maxHeartbeats 4000000 in
theorem lc_23 {X1 X2 : am_X} {l : Launch} {p : Program} {e : Env} {s : State} {m : MethodId} {below : List Frame} {meth : Method} {c : Code} {b L : Nat} {xs : Nat → Int32} {nc ns : Nat} (C : am_LC X1 X2 l p s m meth c b L xs) (hnc : nc ≤ 600000) (hns : ns ≤ 7302249) {i : Int32} (hv : ∀ k : Nat, k < 10 → vp_in (i + Int32.ofNat k) L) {r : Int32} {σ1 σ2 σ1' σ2' : am_H} (h1 : f_X11_slipped (xs (i + 1).toNatClampNeg) (xs (i + 2).toNatClampNeg) (xs (i + 3).toNatClampNeg) (xs (i + 4).toNatClampNeg) (xs (i + 5).toNatClampNeg) σ1 = some (r, σ1')) (h2 : f_X12_slipped (xs (i + 1).toNatClampNeg) (xs (i + 2).toNatClampNeg) (xs (i + 3).toNatClampNeg) (xs (i + 4).toNatClampNeg) (xs (i + 5).toNatClampNeg) σ2 = some (r, σ2')) (kk : am_LG X1 X2 l p e s m below meth c b L xs nc ns 2540 [(0, .ref b), (1, .ref (am_ad X1 11 0)), (2, .ref (am_ad X2 12 0)), (3, .int i)] [] σ1' σ2') : am_LG X1 X2 l p e s m below meth c b L xs nc ns 1300 [(0, .ref b), (1, .ref (am_ad X1 11 0)), (2, .ref (am_ad X2 12 0)), (3, .int i)] [] σ1 σ2 := by
  refine w_aload_n C (pc := 1300) 1 rfl dL_law_1300 rfl ?_
  refine w_aload_n C (pc := 1301) 0 rfl dL_law_1301 rfl ?_
  refine w_iload_n C (pc := 1302) 3 rfl dL_law_1302 rfl ?_
  refine w_iconst C (pc := 1303) (v := 1) dL_law_1303 (by decide) ?_
  refine w_iadd C (pc := 1304) dL_law_1304 ?_
  refine w_sld C (pc := 1305) (hv 1 (by decide)) dL_law_1305 ?_
  refine w_aload_n C (pc := 1306) 0 rfl dL_law_1306 rfl ?_
  refine w_iload_n C (pc := 1307) 3 rfl dL_law_1307 rfl ?_
  refine w_iconst C (pc := 1308) (v := 2) dL_law_1308 (by decide) ?_
  refine w_iadd C (pc := 1309) dL_law_1309 ?_
  refine w_sld C (pc := 1310) (hv 2 (by decide)) dL_law_1310 ?_
  refine w_aload_n C (pc := 1311) 0 rfl dL_law_1311 rfl ?_
  refine w_iload_n C (pc := 1312) 3 rfl dL_law_1312 rfl ?_
  refine w_iconst C (pc := 1313) (v := 3) dL_law_1313 (by decide) ?_
  refine w_iadd C (pc := 1314) dL_law_1314 ?_
  refine w_sld C (pc := 1315) (hv 3 (by decide)) dL_law_1315 ?_
  refine w_aload_n C (pc := 1316) 0 rfl dL_law_1316 rfl ?_
  refine w_iload_n C (pc := 1317) 3 rfl dL_law_1317 rfl ?_
  refine w_iconst C (pc := 1318) (v := 4) dL_law_1318 (by decide) ?_
  refine w_iadd C (pc := 1319) dL_law_1319 ?_
  refine w_sld C (pc := 1320) (hv 4 (by decide)) dL_law_1320 ?_
  refine w_aload_n C (pc := 1321) 0 rfl dL_law_1321 rfl ?_
  refine w_iload_n C (pc := 1322) 3 rfl dL_law_1322 rfl ?_
  refine w_iconst C (pc := 1323) (v := 5) dL_law_1323 (by decide) ?_
  refine w_iadd C (pc := 1324) dL_law_1324 ?_
  refine w_sld C (pc := 1325) (hv 5 (by decide)) dL_law_1325 ?_
  refine w_c1 C (pc := 1326) (As := [.int (xs (i + 1).toNatClampNeg), .int (xs (i + 2).toNatClampNeg), .int (xs (i + 3).toNatClampNeg), .int (xs (i + 4).toNatClampNeg), .int (xs (i + 5).toNatClampNeg)]) (st := []) (st1 := [.int r]) kk_11 (in_11 C.2.1.1 (Nat.le_refl 1)) mV_X11_slipped (tb_5 (List.mem_of_getElem? (i := 126) (by decide +kernel))) rfl (Nat.le_of_ble_eq_true rfl) (Nat.le_of_ble_eq_true rfl) hnc hns (k_X11_slipped C.2.1 (xs (i + 1).toNatClampNeg) (xs (i + 2).toNatClampNeg) (xs (i + 3).toNatClampNeg) (xs (i + 4).toNatClampNeg) (xs (i + 5).toNatClampNeg) σ1 h1) dL_law_1326 rfl rfl ?_
  refine w_aload_n C (pc := 1329) 2 rfl dL_law_1329 rfl ?_
  refine w_aload_n C (pc := 1330) 0 rfl dL_law_1330 rfl ?_
  refine w_iload_n C (pc := 1331) 3 rfl dL_law_1331 rfl ?_
  refine w_iconst C (pc := 1332) (v := 1) dL_law_1332 (by decide) ?_
  refine w_iadd C (pc := 1333) dL_law_1333 ?_
  refine w_sld C (pc := 1334) (hv 1 (by decide)) dL_law_1334 ?_
  refine w_aload_n C (pc := 1335) 0 rfl dL_law_1335 rfl ?_
  refine w_iload_n C (pc := 1336) 3 rfl dL_law_1336 rfl ?_
  refine w_iconst C (pc := 1337) (v := 2) dL_law_1337 (by decide) ?_
  refine w_iadd C (pc := 1338) dL_law_1338 ?_
  refine w_sld C (pc := 1339) (hv 2 (by decide)) dL_law_1339 ?_
  refine w_aload_n C (pc := 1340) 0 rfl dL_law_1340 rfl ?_
  refine w_iload_n C (pc := 1341) 3 rfl dL_law_1341 rfl ?_
  refine w_iconst C (pc := 1342) (v := 3) dL_law_1342 (by decide) ?_
  refine w_iadd C (pc := 1343) dL_law_1343 ?_
  refine w_sld C (pc := 1344) (hv 3 (by decide)) dL_law_1344 ?_
  refine w_aload_n C (pc := 1345) 0 rfl dL_law_1345 rfl ?_
  refine w_iload_n C (pc := 1346) 3 rfl dL_law_1346 rfl ?_
  refine w_iconst C (pc := 1347) (v := 4) dL_law_1347 (by decide) ?_
  refine w_iadd C (pc := 1348) dL_law_1348 ?_
  refine w_sld C (pc := 1349) (hv 4 (by decide)) dL_law_1349 ?_
  refine w_aload_n C (pc := 1350) 0 rfl dL_law_1350 rfl ?_
  refine w_iload_n C (pc := 1351) 3 rfl dL_law_1351 rfl ?_
  refine w_iconst C (pc := 1352) (v := 5) dL_law_1352 (by decide) ?_
  refine w_iadd C (pc := 1353) dL_law_1353 ?_
  refine w_sld C (pc := 1354) (hv 5 (by decide)) dL_law_1354 ?_
  refine w_c2 C (pc := 1355) (As := [.int (xs (i + 1).toNatClampNeg), .int (xs (i + 2).toNatClampNeg), .int (xs (i + 3).toNatClampNeg), .int (xs (i + 4).toNatClampNeg), .int (xs (i + 5).toNatClampNeg)]) (st := [.int r]) (st1 := [.int r, .int r]) kk_12 (in_12 C.2.2.1 (Nat.le_refl 1)) mV_X12_slipped (tb_9 (List.mem_of_getElem? (i := 179) (by decide +kernel))) rfl (Nat.le_of_ble_eq_true rfl) (Nat.le_of_ble_eq_true rfl) hnc hns (k_X12_slipped C.2.2.1 (xs (i + 1).toNatClampNeg) (xs (i + 2).toNatClampNeg) (xs (i + 3).toNatClampNeg) (xs (i + 4).toNatClampNeg) (xs (i + 5).toNatClampNeg) σ2 h2) dL_law_1355 rfl rfl ?_
  exact w_ieq C (pc := 1358) 2540 dL_law_1358 rfl kk
set_option maxRecDepth 100000 in
set_option maxHeartbeats 4000000 in
theorem lc_24 {X1 X2 : am_X} {l : Launch} {p : Program} {e : Env} {s : State} {m : MethodId} {below : List Frame} {meth : Method} {c : Code} {b L : Nat} {xs : Nat → Int32} {nc ns : Nat} (C : am_LC X1 X2 l p s m meth c b L xs) (hnc : nc ≤ 600000) (hns : ns ≤ 7302249) {i : Int32} (hv : ∀ k : Nat, k < 10 → vp_in (i + Int32.ofNat k) L) {r : Int32} {σ1 σ2 σ1' σ2' : am_H} (h1 : f_X11_slip σ1 = some (r, σ1')) (h2 : f_X12_slip σ2 = some (r, σ2')) (kk : am_LG X1 X2 l p e s m below meth c b L xs nc ns 2540 [(0, .ref b), (1, .ref (am_ad X1 11 0)), (2, .ref (am_ad X2 12 0)), (3, .int i)] [] σ1' σ2') : am_LG X1 X2 l p e s m below meth c b L xs nc ns 1363 [(0, .ref b), (1, .ref (am_ad X1 11 0)), (2, .ref (am_ad X2 12 0)), (3, .int i)] [] σ1 σ2 := by
  refine w_aload_n C (pc := 1363) 1 rfl dL_law_1363 rfl ?_
  refine w_c1 C (pc := 1364) (As := []) (st := []) (st1 := [.int r]) kk_11 (in_11 C.2.1.1 (Nat.le_refl 1)) mV_X11_slip (tb_5 (List.mem_of_getElem? (i := 151) (by decide +kernel))) rfl (Nat.le_of_ble_eq_true rfl) (Nat.le_of_ble_eq_true rfl) hnc hns (k_X11_slip C.2.1  σ1 h1) dL_law_1364 rfl rfl ?_
  refine w_aload_n C (pc := 1367) 2 rfl dL_law_1367 rfl ?_
  refine w_c2 C (pc := 1368) (As := []) (st := [.int r]) (st1 := [.int r, .int r]) kk_12 (in_12 C.2.2.1 (Nat.le_refl 1)) mV_X12_slip (tb_9 (List.mem_of_getElem? (i := 188) (by decide +kernel))) rfl (Nat.le_of_ble_eq_true rfl) (Nat.le_of_ble_eq_true rfl) hnc hns (k_X12_slip C.2.2.1  σ2 h2) dL_law_1368 rfl rfl ?_
  exact w_ieq C (pc := 1371) 2540 dL_law_1371 rfl kk
set_option maxRecDepth 100000 in
set_option maxHeartbeats 4000000 in
theorem lc_25 {X1 X2 : am_X} {l : Launch} {p : Program} {e : Env} {s : State} {m : MethodId} {below : List Frame} {meth : Method} {c : Code} {b L : Nat} {xs : Nat → Int32} {nc ns : Nat} (C : am_LC X1 X2 l p s m meth c b L xs) (hnc : nc ≤ 600000) (hns : ns ≤ 7302249) {i : Int32} (hv : ∀ k : Nat, k < 10 → vp_in (i + Int32.ofNat k) L) {r : Int32} {σ1 σ2 σ1' σ2' : am_H} (h1 : f_X11_neighbour (xs (i + 1).toNatClampNeg) (xs (i + 2).toNatClampNeg) (xs (i + 3).toNatClampNeg) (xs (i + 4).toNatClampNeg) σ1 = some (r, σ1')) (h2 : f_X12_neighbour (xs (i + 1).toNatClampNeg) (xs (i + 2).toNatClampNeg) (xs (i + 3).toNatClampNeg) (xs (i + 4).toNatClampNeg) σ2 = some (r, σ2')) (kk : am_LG X1 X2 l p e s m below meth c b L xs nc ns 2540 [(0, .ref b), (1, .ref (am_ad X1 11 0)), (2, .ref (am_ad X2 12 0)), (3, .int i)] [] σ1' σ2') : am_LG X1 X2 l p e s m below meth c b L xs nc ns 1376 [(0, .ref b), (1, .ref (am_ad X1 11 0)), (2, .ref (am_ad X2 12 0)), (3, .int i)] [] σ1 σ2 := by
  refine w_aload_n C (pc := 1376) 1 rfl dL_law_1376 rfl ?_
  refine w_aload_n C (pc := 1377) 0 rfl dL_law_1377 rfl ?_
  refine w_iload_n C (pc := 1378) 3 rfl dL_law_1378 rfl ?_
  refine w_iconst C (pc := 1379) (v := 1) dL_law_1379 (by decide) ?_
  refine w_iadd C (pc := 1380) dL_law_1380 ?_
  refine w_sld C (pc := 1381) (hv 1 (by decide)) dL_law_1381 ?_
  refine w_aload_n C (pc := 1382) 0 rfl dL_law_1382 rfl ?_
  refine w_iload_n C (pc := 1383) 3 rfl dL_law_1383 rfl ?_
  refine w_iconst C (pc := 1384) (v := 2) dL_law_1384 (by decide) ?_
  refine w_iadd C (pc := 1385) dL_law_1385 ?_
  refine w_sld C (pc := 1386) (hv 2 (by decide)) dL_law_1386 ?_
  refine w_aload_n C (pc := 1387) 0 rfl dL_law_1387 rfl ?_
  refine w_iload_n C (pc := 1388) 3 rfl dL_law_1388 rfl ?_
  refine w_iconst C (pc := 1389) (v := 3) dL_law_1389 (by decide) ?_
  refine w_iadd C (pc := 1390) dL_law_1390 ?_
  refine w_sld C (pc := 1391) (hv 3 (by decide)) dL_law_1391 ?_
  refine w_aload_n C (pc := 1392) 0 rfl dL_law_1392 rfl ?_
  refine w_iload_n C (pc := 1393) 3 rfl dL_law_1393 rfl ?_
  refine w_iconst C (pc := 1394) (v := 4) dL_law_1394 (by decide) ?_
  refine w_iadd C (pc := 1395) dL_law_1395 ?_
  refine w_sld C (pc := 1396) (hv 4 (by decide)) dL_law_1396 ?_
  refine w_c1 C (pc := 1397) (As := [.int (xs (i + 1).toNatClampNeg), .int (xs (i + 2).toNatClampNeg), .int (xs (i + 3).toNatClampNeg), .int (xs (i + 4).toNatClampNeg)]) (st := []) (st1 := [.int r]) kk_11 (in_11 C.2.1.1 (Nat.le_refl 1)) mV_X11_neighbour (tb_5 (List.mem_of_getElem? (i := 155) (by decide +kernel))) rfl (Nat.le_of_ble_eq_true rfl) (Nat.le_of_ble_eq_true rfl) hnc hns (k_X11_neighbour C.2.1 (xs (i + 1).toNatClampNeg) (xs (i + 2).toNatClampNeg) (xs (i + 3).toNatClampNeg) (xs (i + 4).toNatClampNeg) σ1 h1) dL_law_1397 rfl rfl ?_
  refine w_aload_n C (pc := 1400) 2 rfl dL_law_1400 rfl ?_
  refine w_aload_n C (pc := 1401) 0 rfl dL_law_1401 rfl ?_
  refine w_iload_n C (pc := 1402) 3 rfl dL_law_1402 rfl ?_
  refine w_iconst C (pc := 1403) (v := 1) dL_law_1403 (by decide) ?_
  refine w_iadd C (pc := 1404) dL_law_1404 ?_
  refine w_sld C (pc := 1405) (hv 1 (by decide)) dL_law_1405 ?_
  refine w_aload_n C (pc := 1406) 0 rfl dL_law_1406 rfl ?_
  refine w_iload_n C (pc := 1407) 3 rfl dL_law_1407 rfl ?_
  refine w_iconst C (pc := 1408) (v := 2) dL_law_1408 (by decide) ?_
  refine w_iadd C (pc := 1409) dL_law_1409 ?_
  refine w_sld C (pc := 1410) (hv 2 (by decide)) dL_law_1410 ?_
  refine w_aload_n C (pc := 1411) 0 rfl dL_law_1411 rfl ?_
  refine w_iload_n C (pc := 1412) 3 rfl dL_law_1412 rfl ?_
  refine w_iconst C (pc := 1413) (v := 3) dL_law_1413 (by decide) ?_
  refine w_iadd C (pc := 1414) dL_law_1414 ?_
  refine w_sld C (pc := 1415) (hv 3 (by decide)) dL_law_1415 ?_
  refine w_aload_n C (pc := 1416) 0 rfl dL_law_1416 rfl ?_
  refine w_iload_n C (pc := 1417) 3 rfl dL_law_1417 rfl ?_
  refine w_iconst C (pc := 1418) (v := 4) dL_law_1418 (by decide) ?_
  refine w_iadd C (pc := 1419) dL_law_1419 ?_
  refine w_sld C (pc := 1420) (hv 4 (by decide)) dL_law_1420 ?_
  refine w_c2 C (pc := 1421) (As := [.int (xs (i + 1).toNatClampNeg), .int (xs (i + 2).toNatClampNeg), .int (xs (i + 3).toNatClampNeg), .int (xs (i + 4).toNatClampNeg)]) (st := [.int r]) (st1 := [.int r, .int r]) kk_12 (in_12 C.2.2.1 (Nat.le_refl 1)) mV_X12_neighbour (tb_9 (List.mem_of_getElem? (i := 192) (by decide +kernel))) rfl (Nat.le_of_ble_eq_true rfl) (Nat.le_of_ble_eq_true rfl) hnc hns (k_X12_neighbour C.2.2.1 (xs (i + 1).toNatClampNeg) (xs (i + 2).toNatClampNeg) (xs (i + 3).toNatClampNeg) (xs (i + 4).toNatClampNeg) σ2 h2) dL_law_1421 rfl rfl ?_
  exact w_ieq C (pc := 1424) 2540 dL_law_1424 rfl kk
set_option maxRecDepth 100000 in
set_option maxHeartbeats 4000000 in
theorem lc_26 {X1 X2 : am_X} {l : Launch} {p : Program} {e : Env} {s : State} {m : MethodId} {below : List Frame} {meth : Method} {c : Code} {b L : Nat} {xs : Nat → Int32} {nc ns : Nat} (C : am_LC X1 X2 l p s m meth c b L xs) (hnc : nc ≤ 600000) (hns : ns ≤ 7302249) {i : Int32} (hv : ∀ k : Nat, k < 10 → vp_in (i + Int32.ofNat k) L) {r : Int32} {σ1 σ2 σ1' σ2' : am_H} (h1 : f_X11_lag σ1 = some (r, σ1')) (h2 : f_X12_lag σ2 = some (r, σ2')) (kk : am_LG X1 X2 l p e s m below meth c b L xs nc ns 2540 [(0, .ref b), (1, .ref (am_ad X1 11 0)), (2, .ref (am_ad X2 12 0)), (3, .int i)] [] σ1' σ2') : am_LG X1 X2 l p e s m below meth c b L xs nc ns 1429 [(0, .ref b), (1, .ref (am_ad X1 11 0)), (2, .ref (am_ad X2 12 0)), (3, .int i)] [] σ1 σ2 := by
  refine w_aload_n C (pc := 1429) 1 rfl dL_law_1429 rfl ?_
  refine w_c1 C (pc := 1430) (As := []) (st := []) (st1 := [.int r]) kk_11 (in_11 C.2.1.1 (Nat.le_refl 1)) mV_X11_lag (tb_5 (List.mem_of_getElem? (i := 171) (by decide +kernel))) rfl (Nat.le_of_ble_eq_true rfl) (Nat.le_of_ble_eq_true rfl) hnc hns (k_X11_lag C.2.1  σ1 h1) dL_law_1430 rfl rfl ?_
  refine w_aload_n C (pc := 1433) 2 rfl dL_law_1433 rfl ?_
  refine w_c2 C (pc := 1434) (As := []) (st := [.int r]) (st1 := [.int r, .int r]) kk_12 (in_12 C.2.2.1 (Nat.le_refl 1)) mV_X12_lag (tb_9 (List.mem_of_getElem? (i := 200) (by decide +kernel))) rfl (Nat.le_of_ble_eq_true rfl) (Nat.le_of_ble_eq_true rfl) hnc hns (k_X12_lag C.2.2.1  σ2 h2) dL_law_1434 rfl rfl ?_
  exact w_ieq C (pc := 1437) 2540 dL_law_1437 rfl kk
set_option maxRecDepth 100000 in
set_option maxHeartbeats 4000000 in
theorem lc_27 {X1 X2 : am_X} {l : Launch} {p : Program} {e : Env} {s : State} {m : MethodId} {below : List Frame} {meth : Method} {c : Code} {b L : Nat} {xs : Nat → Int32} {nc ns : Nat} (C : am_LC X1 X2 l p s m meth c b L xs) (hnc : nc ≤ 600000) (hns : ns ≤ 7302249) {i : Int32} (hv : ∀ k : Nat, k < 10 → vp_in (i + Int32.ofNat k) L) {r : Int32} {σ1 σ2 σ1' σ2' : am_H} (h1 : f_X11_led (xs (i + 1).toNatClampNeg) (xs (i + 2).toNatClampNeg) (xs (i + 3).toNatClampNeg) (xs (i + 4).toNatClampNeg) σ1 = some (r, σ1')) (h2 : f_X12_led (xs (i + 1).toNatClampNeg) (xs (i + 2).toNatClampNeg) (xs (i + 3).toNatClampNeg) (xs (i + 4).toNatClampNeg) σ2 = some (r, σ2')) (kk : am_LG X1 X2 l p e s m below meth c b L xs nc ns 2540 [(0, .ref b), (1, .ref (am_ad X1 11 0)), (2, .ref (am_ad X2 12 0)), (3, .int i)] [] σ1' σ2') : am_LG X1 X2 l p e s m below meth c b L xs nc ns 1442 [(0, .ref b), (1, .ref (am_ad X1 11 0)), (2, .ref (am_ad X2 12 0)), (3, .int i)] [] σ1 σ2 := by
  refine w_aload_n C (pc := 1442) 1 rfl dL_law_1442 rfl ?_
  refine w_aload_n C (pc := 1443) 0 rfl dL_law_1443 rfl ?_
  refine w_iload_n C (pc := 1444) 3 rfl dL_law_1444 rfl ?_
  refine w_iconst C (pc := 1445) (v := 1) dL_law_1445 (by decide) ?_
  refine w_iadd C (pc := 1446) dL_law_1446 ?_
  refine w_sld C (pc := 1447) (hv 1 (by decide)) dL_law_1447 ?_
  refine w_aload_n C (pc := 1448) 0 rfl dL_law_1448 rfl ?_
  refine w_iload_n C (pc := 1449) 3 rfl dL_law_1449 rfl ?_
  refine w_iconst C (pc := 1450) (v := 2) dL_law_1450 (by decide) ?_
  refine w_iadd C (pc := 1451) dL_law_1451 ?_
  refine w_sld C (pc := 1452) (hv 2 (by decide)) dL_law_1452 ?_
  refine w_aload_n C (pc := 1453) 0 rfl dL_law_1453 rfl ?_
  refine w_iload_n C (pc := 1454) 3 rfl dL_law_1454 rfl ?_
  refine w_iconst C (pc := 1455) (v := 3) dL_law_1455 (by decide) ?_
  refine w_iadd C (pc := 1456) dL_law_1456 ?_
  refine w_sld C (pc := 1457) (hv 3 (by decide)) dL_law_1457 ?_
  refine w_aload_n C (pc := 1458) 0 rfl dL_law_1458 rfl ?_
  refine w_iload_n C (pc := 1459) 3 rfl dL_law_1459 rfl ?_
  refine w_iconst C (pc := 1460) (v := 4) dL_law_1460 (by decide) ?_
  refine w_iadd C (pc := 1461) dL_law_1461 ?_
  refine w_sld C (pc := 1462) (hv 4 (by decide)) dL_law_1462 ?_
  refine w_c1 C (pc := 1463) (As := [.int (xs (i + 1).toNatClampNeg), .int (xs (i + 2).toNatClampNeg), .int (xs (i + 3).toNatClampNeg), .int (xs (i + 4).toNatClampNeg)]) (st := []) (st1 := [.int r]) kk_11 (in_11 C.2.1.1 (Nat.le_refl 1)) mV_X11_led (tb_5 (List.mem_of_getElem? (i := 175) (by decide +kernel))) rfl (Nat.le_of_ble_eq_true rfl) (Nat.le_of_ble_eq_true rfl) hnc hns (k_X11_led C.2.1 (xs (i + 1).toNatClampNeg) (xs (i + 2).toNatClampNeg) (xs (i + 3).toNatClampNeg) (xs (i + 4).toNatClampNeg) σ1 h1) dL_law_1463 rfl rfl ?_
  refine w_aload_n C (pc := 1466) 2 rfl dL_law_1466 rfl ?_
  refine w_aload_n C (pc := 1467) 0 rfl dL_law_1467 rfl ?_
  refine w_iload_n C (pc := 1468) 3 rfl dL_law_1468 rfl ?_
  refine w_iconst C (pc := 1469) (v := 1) dL_law_1469 (by decide) ?_
  refine w_iadd C (pc := 1470) dL_law_1470 ?_
  refine w_sld C (pc := 1471) (hv 1 (by decide)) dL_law_1471 ?_
  refine w_aload_n C (pc := 1472) 0 rfl dL_law_1472 rfl ?_
  refine w_iload_n C (pc := 1473) 3 rfl dL_law_1473 rfl ?_
  refine w_iconst C (pc := 1474) (v := 2) dL_law_1474 (by decide) ?_
  refine w_iadd C (pc := 1475) dL_law_1475 ?_
  refine w_sld C (pc := 1476) (hv 2 (by decide)) dL_law_1476 ?_
  refine w_aload_n C (pc := 1477) 0 rfl dL_law_1477 rfl ?_
  refine w_iload_n C (pc := 1478) 3 rfl dL_law_1478 rfl ?_
  refine w_iconst C (pc := 1479) (v := 3) dL_law_1479 (by decide) ?_
  refine w_iadd C (pc := 1480) dL_law_1480 ?_
  refine w_sld C (pc := 1481) (hv 3 (by decide)) dL_law_1481 ?_
  refine w_aload_n C (pc := 1482) 0 rfl dL_law_1482 rfl ?_
  refine w_iload_n C (pc := 1483) 3 rfl dL_law_1483 rfl ?_
  refine w_iconst C (pc := 1484) (v := 4) dL_law_1484 (by decide) ?_
  refine w_iadd C (pc := 1485) dL_law_1485 ?_
  refine w_sld C (pc := 1486) (hv 4 (by decide)) dL_law_1486 ?_
  refine w_c2 C (pc := 1487) (As := [.int (xs (i + 1).toNatClampNeg), .int (xs (i + 2).toNatClampNeg), .int (xs (i + 3).toNatClampNeg), .int (xs (i + 4).toNatClampNeg)]) (st := [.int r]) (st1 := [.int r, .int r]) kk_12 (in_12 C.2.2.1 (Nat.le_refl 1)) mV_X12_led (tb_9 (List.mem_of_getElem? (i := 204) (by decide +kernel))) rfl (Nat.le_of_ble_eq_true rfl) (Nat.le_of_ble_eq_true rfl) hnc hns (k_X12_led C.2.2.1 (xs (i + 1).toNatClampNeg) (xs (i + 2).toNatClampNeg) (xs (i + 3).toNatClampNeg) (xs (i + 4).toNatClampNeg) σ2 h2) dL_law_1487 rfl rfl ?_
  exact w_ieq C (pc := 1490) 2540 dL_law_1490 rfl kk
set_option maxRecDepth 100000 in
set_option maxHeartbeats 4000000 in
theorem lc_28 {X1 X2 : am_X} {l : Launch} {p : Program} {e : Env} {s : State} {m : MethodId} {below : List Frame} {meth : Method} {c : Code} {b L : Nat} {xs : Nat → Int32} {nc ns : Nat} (C : am_LC X1 X2 l p s m meth c b L xs) (hnc : nc ≤ 600000) (hns : ns ≤ 7302249) {i : Int32} (hv : ∀ k : Nat, k < 10 → vp_in (i + Int32.ofNat k) L) {r : Int32} {σ1 σ2 σ1' σ2' : am_H} (h1 : f_X11_wheel (xs (i + 1).toNatClampNeg) σ1 = some (r, σ1')) (h2 : f_X12_wheel (xs (i + 1).toNatClampNeg) σ2 = some (r, σ2')) (kk : am_LG X1 X2 l p e s m below meth c b L xs nc ns 2540 [(0, .ref b), (1, .ref (am_ad X1 11 0)), (2, .ref (am_ad X2 12 0)), (3, .int i)] [] σ1' σ2') : am_LG X1 X2 l p e s m below meth c b L xs nc ns 1495 [(0, .ref b), (1, .ref (am_ad X1 11 0)), (2, .ref (am_ad X2 12 0)), (3, .int i)] [] σ1 σ2 := by
  refine w_aload_n C (pc := 1495) 1 rfl dL_law_1495 rfl ?_
  refine w_aload_n C (pc := 1496) 0 rfl dL_law_1496 rfl ?_
  refine w_iload_n C (pc := 1497) 3 rfl dL_law_1497 rfl ?_
  refine w_iconst C (pc := 1498) (v := 1) dL_law_1498 (by decide) ?_
  refine w_iadd C (pc := 1499) dL_law_1499 ?_
  refine w_sld C (pc := 1500) (hv 1 (by decide)) dL_law_1500 ?_
  refine w_c1 C (pc := 1501) (As := [.int (xs (i + 1).toNatClampNeg)]) (st := []) (st1 := [.int r]) kk_11 (in_11 C.2.1.1 (Nat.le_refl 1)) mV_X11_wheel (tb_5 (List.mem_of_getElem? (i := 203) (by decide +kernel))) rfl (Nat.le_of_ble_eq_true rfl) (Nat.le_of_ble_eq_true rfl) hnc hns (k_X11_wheel C.2.1 (xs (i + 1).toNatClampNeg) σ1 h1) dL_law_1501 rfl rfl ?_
  refine w_aload_n C (pc := 1504) 2 rfl dL_law_1504 rfl ?_
  refine w_aload_n C (pc := 1505) 0 rfl dL_law_1505 rfl ?_
  refine w_iload_n C (pc := 1506) 3 rfl dL_law_1506 rfl ?_
  refine w_iconst C (pc := 1507) (v := 1) dL_law_1507 (by decide) ?_
  refine w_iadd C (pc := 1508) dL_law_1508 ?_
  refine w_sld C (pc := 1509) (hv 1 (by decide)) dL_law_1509 ?_
  refine w_c2 C (pc := 1510) (As := [.int (xs (i + 1).toNatClampNeg)]) (st := [.int r]) (st1 := [.int r, .int r]) kk_12 (in_12 C.2.2.1 (Nat.le_refl 1)) mV_X12_wheel (tb_9 (List.mem_of_getElem? (i := 212) (by decide +kernel))) rfl (Nat.le_of_ble_eq_true rfl) (Nat.le_of_ble_eq_true rfl) hnc hns (k_X12_wheel C.2.2.1 (xs (i + 1).toNatClampNeg) σ2 h2) dL_law_1510 rfl rfl ?_
  exact w_ieq C (pc := 1513) 2540 dL_law_1513 rfl kk
set_option maxRecDepth 100000 in
set_option maxHeartbeats 4000000 in
theorem lc_29 {X1 X2 : am_X} {l : Launch} {p : Program} {e : Env} {s : State} {m : MethodId} {below : List Frame} {meth : Method} {c : Code} {b L : Nat} {xs : Nat → Int32} {nc ns : Nat} (C : am_LC X1 X2 l p s m meth c b L xs) (hnc : nc ≤ 600000) (hns : ns ≤ 7302249) {i : Int32} (hv : ∀ k : Nat, k < 10 → vp_in (i + Int32.ofNat k) L) {r : Int32} {σ1 σ2 σ1' σ2' : am_H} (h1 : f_X11_extreme (xs (i + 1).toNatClampNeg) (xs (i + 2).toNatClampNeg) (xs (i + 3).toNatClampNeg) (decide (¬ (xs (i + 4).toNatClampNeg) = 0)) (decide (¬ (xs (i + 5).toNatClampNeg) = 0)) σ1 = some (r, σ1')) (h2 : f_X12_extreme (xs (i + 1).toNatClampNeg) (xs (i + 2).toNatClampNeg) (xs (i + 3).toNatClampNeg) (decide (¬ (xs (i + 4).toNatClampNeg) = 0)) (decide (¬ (xs (i + 5).toNatClampNeg) = 0)) σ2 = some (r, σ2')) (kk : am_LG X1 X2 l p e s m below meth c b L xs nc ns 2540 [(0, .ref b), (1, .ref (am_ad X1 11 0)), (2, .ref (am_ad X2 12 0)), (3, .int i)] [] σ1' σ2') : am_LG X1 X2 l p e s m below meth c b L xs nc ns 1518 [(0, .ref b), (1, .ref (am_ad X1 11 0)), (2, .ref (am_ad X2 12 0)), (3, .int i)] [] σ1 σ2 := by
  refine w_aload_n C (pc := 1518) 1 rfl dL_law_1518 rfl ?_
  refine w_aload_n C (pc := 1519) 0 rfl dL_law_1519 rfl ?_
  refine w_iload_n C (pc := 1520) 3 rfl dL_law_1520 rfl ?_
  refine w_iconst C (pc := 1521) (v := 1) dL_law_1521 (by decide) ?_
  refine w_iadd C (pc := 1522) dL_law_1522 ?_
  refine w_sld C (pc := 1523) (hv 1 (by decide)) dL_law_1523 ?_
  refine w_aload_n C (pc := 1524) 0 rfl dL_law_1524 rfl ?_
  refine w_iload_n C (pc := 1525) 3 rfl dL_law_1525 rfl ?_
  refine w_iconst C (pc := 1526) (v := 2) dL_law_1526 (by decide) ?_
  refine w_iadd C (pc := 1527) dL_law_1527 ?_
  refine w_sld C (pc := 1528) (hv 2 (by decide)) dL_law_1528 ?_
  refine w_aload_n C (pc := 1529) 0 rfl dL_law_1529 rfl ?_
  refine w_iload_n C (pc := 1530) 3 rfl dL_law_1530 rfl ?_
  refine w_iconst C (pc := 1531) (v := 3) dL_law_1531 (by decide) ?_
  refine w_iadd C (pc := 1532) dL_law_1532 ?_
  refine w_sld C (pc := 1533) (hv 3 (by decide)) dL_law_1533 ?_
  refine w_aload_n C (pc := 1534) 0 rfl dL_law_1534 rfl ?_
  refine w_iload_n C (pc := 1535) 3 rfl dL_law_1535 rfl ?_
  refine w_iconst C (pc := 1536) (v := 4) dL_law_1536 (by decide) ?_
  refine w_iadd C (pc := 1537) dL_law_1537 ?_
  refine w_sld C (pc := 1538) (hv 4 (by decide)) dL_law_1538 ?_
  refine w_nz C (pc := 1539) dL_law_1539 dL_law_1542 dL_law_1543 dL_law_1546 ?_
  refine w_aload_n C (pc := 1547) 0 rfl dL_law_1547 rfl ?_
  refine w_iload_n C (pc := 1548) 3 rfl dL_law_1548 rfl ?_
  refine w_iconst C (pc := 1549) (v := 5) dL_law_1549 (by decide) ?_
  refine w_iadd C (pc := 1550) dL_law_1550 ?_
  refine w_sld C (pc := 1551) (hv 5 (by decide)) dL_law_1551 ?_
  refine w_nz C (pc := 1552) dL_law_1552 dL_law_1555 dL_law_1556 dL_law_1559 ?_
  refine w_c1 C (pc := 1560) (As := [.int (xs (i + 1).toNatClampNeg), .int (xs (i + 2).toNatClampNeg), .int (xs (i + 3).toNatClampNeg), .int (am_b (decide (¬ (xs (i + 4).toNatClampNeg) = 0))), .int (am_b (decide (¬ (xs (i + 5).toNatClampNeg) = 0)))]) (st := []) (st1 := [.int r]) kk_11 (in_11 C.2.1.1 (Nat.le_refl 1)) mV_X11_extreme (tb_5 (List.mem_of_getElem? (i := 207) (by decide +kernel))) rfl (Nat.le_of_ble_eq_true rfl) (Nat.le_of_ble_eq_true rfl) hnc hns (k_X11_extreme C.2.1 (xs (i + 1).toNatClampNeg) (xs (i + 2).toNatClampNeg) (xs (i + 3).toNatClampNeg) (decide (¬ (xs (i + 4).toNatClampNeg) = 0)) (decide (¬ (xs (i + 5).toNatClampNeg) = 0)) σ1 h1) dL_law_1560 rfl rfl ?_
  refine w_aload_n C (pc := 1563) 2 rfl dL_law_1563 rfl ?_
  refine w_aload_n C (pc := 1564) 0 rfl dL_law_1564 rfl ?_
  refine w_iload_n C (pc := 1565) 3 rfl dL_law_1565 rfl ?_
  refine w_iconst C (pc := 1566) (v := 1) dL_law_1566 (by decide) ?_
  refine w_iadd C (pc := 1567) dL_law_1567 ?_
  refine w_sld C (pc := 1568) (hv 1 (by decide)) dL_law_1568 ?_
  refine w_aload_n C (pc := 1569) 0 rfl dL_law_1569 rfl ?_
  refine w_iload_n C (pc := 1570) 3 rfl dL_law_1570 rfl ?_
  refine w_iconst C (pc := 1571) (v := 2) dL_law_1571 (by decide) ?_
  refine w_iadd C (pc := 1572) dL_law_1572 ?_
  refine w_sld C (pc := 1573) (hv 2 (by decide)) dL_law_1573 ?_
  refine w_aload_n C (pc := 1574) 0 rfl dL_law_1574 rfl ?_
  refine w_iload_n C (pc := 1575) 3 rfl dL_law_1575 rfl ?_
  refine w_iconst C (pc := 1576) (v := 3) dL_law_1576 (by decide) ?_
  refine w_iadd C (pc := 1577) dL_law_1577 ?_
  refine w_sld C (pc := 1578) (hv 3 (by decide)) dL_law_1578 ?_
  refine w_aload_n C (pc := 1579) 0 rfl dL_law_1579 rfl ?_
  refine w_iload_n C (pc := 1580) 3 rfl dL_law_1580 rfl ?_
  refine w_iconst C (pc := 1581) (v := 4) dL_law_1581 (by decide) ?_
  refine w_iadd C (pc := 1582) dL_law_1582 ?_
  refine w_sld C (pc := 1583) (hv 4 (by decide)) dL_law_1583 ?_
  refine w_nz C (pc := 1584) dL_law_1584 dL_law_1587 dL_law_1588 dL_law_1591 ?_
  refine w_aload_n C (pc := 1592) 0 rfl dL_law_1592 rfl ?_
  refine w_iload_n C (pc := 1593) 3 rfl dL_law_1593 rfl ?_
  refine w_iconst C (pc := 1594) (v := 5) dL_law_1594 (by decide) ?_
  refine w_iadd C (pc := 1595) dL_law_1595 ?_
  refine w_sld C (pc := 1596) (hv 5 (by decide)) dL_law_1596 ?_
  refine w_nz C (pc := 1597) dL_law_1597 dL_law_1600 dL_law_1601 dL_law_1604 ?_
  refine w_c2 C (pc := 1605) (As := [.int (xs (i + 1).toNatClampNeg), .int (xs (i + 2).toNatClampNeg), .int (xs (i + 3).toNatClampNeg), .int (am_b (decide (¬ (xs (i + 4).toNatClampNeg) = 0))), .int (am_b (decide (¬ (xs (i + 5).toNatClampNeg) = 0)))]) (st := [.int r]) (st1 := [.int r, .int r]) kk_12 (in_12 C.2.2.1 (Nat.le_refl 1)) mV_X12_extreme (tb_9 (List.mem_of_getElem? (i := 216) (by decide +kernel))) rfl (Nat.le_of_ble_eq_true rfl) (Nat.le_of_ble_eq_true rfl) hnc hns (k_X12_extreme C.2.2.1 (xs (i + 1).toNatClampNeg) (xs (i + 2).toNatClampNeg) (xs (i + 3).toNatClampNeg) (decide (¬ (xs (i + 4).toNatClampNeg) = 0)) (decide (¬ (xs (i + 5).toNatClampNeg) = 0)) σ2 h2) dL_law_1605 rfl rfl ?_
  exact w_ieq C (pc := 1608) 2540 dL_law_1608 rfl kk
set_option maxRecDepth 100000 in
set_option maxHeartbeats 4000000 in
theorem lc_30 {X1 X2 : am_X} {l : Launch} {p : Program} {e : Env} {s : State} {m : MethodId} {below : List Frame} {meth : Method} {c : Code} {b L : Nat} {xs : Nat → Int32} {nc ns : Nat} (C : am_LC X1 X2 l p s m meth c b L xs) (hnc : nc ≤ 600000) (hns : ns ≤ 7302249) {i : Int32} (hv : ∀ k : Nat, k < 10 → vp_in (i + Int32.ofNat k) L) {r : Int32} {σ1 σ2 σ1' σ2' : am_H} (h1 : f_X11_bounds (xs (i + 1).toNatClampNeg) (xs (i + 2).toNatClampNeg) (xs (i + 3).toNatClampNeg) (xs (i + 4).toNatClampNeg) σ1 = some (r, σ1')) (h2 : f_X12_bounds (xs (i + 1).toNatClampNeg) (xs (i + 2).toNatClampNeg) (xs (i + 3).toNatClampNeg) (xs (i + 4).toNatClampNeg) σ2 = some (r, σ2')) (kk : am_LG X1 X2 l p e s m below meth c b L xs nc ns 2540 [(0, .ref b), (1, .ref (am_ad X1 11 0)), (2, .ref (am_ad X2 12 0)), (3, .int i)] [] σ1' σ2') : am_LG X1 X2 l p e s m below meth c b L xs nc ns 1613 [(0, .ref b), (1, .ref (am_ad X1 11 0)), (2, .ref (am_ad X2 12 0)), (3, .int i)] [] σ1 σ2 := by
  refine w_aload_n C (pc := 1613) 1 rfl dL_law_1613 rfl ?_
  refine w_aload_n C (pc := 1614) 0 rfl dL_law_1614 rfl ?_
  refine w_iload_n C (pc := 1615) 3 rfl dL_law_1615 rfl ?_
  refine w_iconst C (pc := 1616) (v := 1) dL_law_1616 (by decide) ?_
  refine w_iadd C (pc := 1617) dL_law_1617 ?_
  refine w_sld C (pc := 1618) (hv 1 (by decide)) dL_law_1618 ?_
  refine w_aload_n C (pc := 1619) 0 rfl dL_law_1619 rfl ?_
  refine w_iload_n C (pc := 1620) 3 rfl dL_law_1620 rfl ?_
  refine w_iconst C (pc := 1621) (v := 2) dL_law_1621 (by decide) ?_
  refine w_iadd C (pc := 1622) dL_law_1622 ?_
  refine w_sld C (pc := 1623) (hv 2 (by decide)) dL_law_1623 ?_
  refine w_aload_n C (pc := 1624) 0 rfl dL_law_1624 rfl ?_
  refine w_iload_n C (pc := 1625) 3 rfl dL_law_1625 rfl ?_
  refine w_iconst C (pc := 1626) (v := 3) dL_law_1626 (by decide) ?_
  refine w_iadd C (pc := 1627) dL_law_1627 ?_
  refine w_sld C (pc := 1628) (hv 3 (by decide)) dL_law_1628 ?_
  refine w_aload_n C (pc := 1629) 0 rfl dL_law_1629 rfl ?_
  refine w_iload_n C (pc := 1630) 3 rfl dL_law_1630 rfl ?_
  refine w_iconst C (pc := 1631) (v := 4) dL_law_1631 (by decide) ?_
  refine w_iadd C (pc := 1632) dL_law_1632 ?_
  refine w_sld C (pc := 1633) (hv 4 (by decide)) dL_law_1633 ?_
  refine w_c1 C (pc := 1634) (As := [.int (xs (i + 1).toNatClampNeg), .int (xs (i + 2).toNatClampNeg), .int (xs (i + 3).toNatClampNeg), .int (xs (i + 4).toNatClampNeg)]) (st := []) (st1 := [.int r]) kk_11 (in_11 C.2.1.1 (Nat.le_refl 1)) mV_X11_bounds (tb_5 (List.mem_of_getElem? (i := 215) (by decide +kernel))) rfl (Nat.le_of_ble_eq_true rfl) (Nat.le_of_ble_eq_true rfl) hnc hns (k_X11_bounds C.2.1 (xs (i + 1).toNatClampNeg) (xs (i + 2).toNatClampNeg) (xs (i + 3).toNatClampNeg) (xs (i + 4).toNatClampNeg) σ1 h1) dL_law_1634 rfl rfl ?_
  refine w_aload_n C (pc := 1637) 2 rfl dL_law_1637 rfl ?_
  refine w_aload_n C (pc := 1638) 0 rfl dL_law_1638 rfl ?_
  refine w_iload_n C (pc := 1639) 3 rfl dL_law_1639 rfl ?_
  refine w_iconst C (pc := 1640) (v := 1) dL_law_1640 (by decide) ?_
  refine w_iadd C (pc := 1641) dL_law_1641 ?_
  refine w_sld C (pc := 1642) (hv 1 (by decide)) dL_law_1642 ?_
  refine w_aload_n C (pc := 1643) 0 rfl dL_law_1643 rfl ?_
  refine w_iload_n C (pc := 1644) 3 rfl dL_law_1644 rfl ?_
  refine w_iconst C (pc := 1645) (v := 2) dL_law_1645 (by decide) ?_
  refine w_iadd C (pc := 1646) dL_law_1646 ?_
  refine w_sld C (pc := 1647) (hv 2 (by decide)) dL_law_1647 ?_
  refine w_aload_n C (pc := 1648) 0 rfl dL_law_1648 rfl ?_
  refine w_iload_n C (pc := 1649) 3 rfl dL_law_1649 rfl ?_
  refine w_iconst C (pc := 1650) (v := 3) dL_law_1650 (by decide) ?_
  refine w_iadd C (pc := 1651) dL_law_1651 ?_
  refine w_sld C (pc := 1652) (hv 3 (by decide)) dL_law_1652 ?_
  refine w_aload_n C (pc := 1653) 0 rfl dL_law_1653 rfl ?_
  refine w_iload_n C (pc := 1654) 3 rfl dL_law_1654 rfl ?_
  refine w_iconst C (pc := 1655) (v := 4) dL_law_1655 (by decide) ?_
  refine w_iadd C (pc := 1656) dL_law_1656 ?_
  refine w_sld C (pc := 1657) (hv 4 (by decide)) dL_law_1657 ?_
  refine w_c2 C (pc := 1658) (As := [.int (xs (i + 1).toNatClampNeg), .int (xs (i + 2).toNatClampNeg), .int (xs (i + 3).toNatClampNeg), .int (xs (i + 4).toNatClampNeg)]) (st := [.int r]) (st1 := [.int r, .int r]) kk_12 (in_12 C.2.2.1 (Nat.le_refl 1)) mV_X12_bounds (tb_9 (List.mem_of_getElem? (i := 223) (by decide +kernel))) rfl (Nat.le_of_ble_eq_true rfl) (Nat.le_of_ble_eq_true rfl) hnc hns (k_X12_bounds C.2.2.1 (xs (i + 1).toNatClampNeg) (xs (i + 2).toNatClampNeg) (xs (i + 3).toNatClampNeg) (xs (i + 4).toNatClampNeg) σ2 h2) dL_law_1658 rfl rfl ?_
  exact w_ieq C (pc := 1661) 2540 dL_law_1661 rfl kk
set_option maxRecDepth 100000 in
set_option maxHeartbeats 4000000 in
theorem lc_31 {X1 X2 : am_X} {l : Launch} {p : Program} {e : Env} {s : State} {m : MethodId} {below : List Frame} {meth : Method} {c : Code} {b L : Nat} {xs : Nat → Int32} {nc ns : Nat} (C : am_LC X1 X2 l p s m meth c b L xs) (hnc : nc ≤ 600000) (hns : ns ≤ 7302249) {i : Int32} (hv : ∀ k : Nat, k < 10 → vp_in (i + Int32.ofNat k) L) {r : Bool} {σ1 σ2 σ1' σ2' : am_H} (h1 : f_X11_ask (xs (i + 1).toNatClampNeg) (xs (i + 2).toNatClampNeg) (xs (i + 3).toNatClampNeg) (decide (¬ (xs (i + 4).toNatClampNeg) = 0)) (xs (i + 5).toNatClampNeg) (xs (i + 6).toNatClampNeg) (xs (i + 7).toNatClampNeg) (xs (i + 8).toNatClampNeg) σ1 = some (r, σ1')) (h2 : f_X12_ask (xs (i + 1).toNatClampNeg) (xs (i + 2).toNatClampNeg) (xs (i + 3).toNatClampNeg) (decide (¬ (xs (i + 4).toNatClampNeg) = 0)) (xs (i + 5).toNatClampNeg) (xs (i + 6).toNatClampNeg) (xs (i + 7).toNatClampNeg) (xs (i + 8).toNatClampNeg) σ2 = some (r, σ2')) (kk : am_LG X1 X2 l p e s m below meth c b L xs nc ns 2540 [(0, .ref b), (1, .ref (am_ad X1 11 0)), (2, .ref (am_ad X2 12 0)), (3, .int i)] [] σ1' σ2') : am_LG X1 X2 l p e s m below meth c b L xs nc ns 1666 [(0, .ref b), (1, .ref (am_ad X1 11 0)), (2, .ref (am_ad X2 12 0)), (3, .int i)] [] σ1 σ2 := by
  refine w_aload_n C (pc := 1666) 1 rfl dL_law_1666 rfl ?_
  refine w_aload_n C (pc := 1667) 0 rfl dL_law_1667 rfl ?_
  refine w_iload_n C (pc := 1668) 3 rfl dL_law_1668 rfl ?_
  refine w_iconst C (pc := 1669) (v := 1) dL_law_1669 (by decide) ?_
  refine w_iadd C (pc := 1670) dL_law_1670 ?_
  refine w_sld C (pc := 1671) (hv 1 (by decide)) dL_law_1671 ?_
  refine w_aload_n C (pc := 1672) 0 rfl dL_law_1672 rfl ?_
  refine w_iload_n C (pc := 1673) 3 rfl dL_law_1673 rfl ?_
  refine w_iconst C (pc := 1674) (v := 2) dL_law_1674 (by decide) ?_
  refine w_iadd C (pc := 1675) dL_law_1675 ?_
  refine w_sld C (pc := 1676) (hv 2 (by decide)) dL_law_1676 ?_
  refine w_aload_n C (pc := 1677) 0 rfl dL_law_1677 rfl ?_
  refine w_iload_n C (pc := 1678) 3 rfl dL_law_1678 rfl ?_
  refine w_iconst C (pc := 1679) (v := 3) dL_law_1679 (by decide) ?_
  refine w_iadd C (pc := 1680) dL_law_1680 ?_
  refine w_sld C (pc := 1681) (hv 3 (by decide)) dL_law_1681 ?_
  refine w_aload_n C (pc := 1682) 0 rfl dL_law_1682 rfl ?_
  refine w_iload_n C (pc := 1683) 3 rfl dL_law_1683 rfl ?_
  refine w_iconst C (pc := 1684) (v := 4) dL_law_1684 (by decide) ?_
  refine w_iadd C (pc := 1685) dL_law_1685 ?_
  refine w_sld C (pc := 1686) (hv 4 (by decide)) dL_law_1686 ?_
  refine w_nz C (pc := 1687) dL_law_1687 dL_law_1690 dL_law_1691 dL_law_1694 ?_
  refine w_aload_n C (pc := 1695) 0 rfl dL_law_1695 rfl ?_
  refine w_iload_n C (pc := 1696) 3 rfl dL_law_1696 rfl ?_
  refine w_iconst C (pc := 1697) (v := 5) dL_law_1697 (by decide) ?_
  refine w_iadd C (pc := 1698) dL_law_1698 ?_
  refine w_sld C (pc := 1699) (hv 5 (by decide)) dL_law_1699 ?_
  refine w_aload_n C (pc := 1700) 0 rfl dL_law_1700 rfl ?_
  refine w_iload_n C (pc := 1701) 3 rfl dL_law_1701 rfl ?_
  refine w_bipush C (pc := 1702) (v := 6) dL_law_1702 (by decide) ?_
  refine w_iadd C (pc := 1704) dL_law_1704 ?_
  refine w_sld C (pc := 1705) (hv 6 (by decide)) dL_law_1705 ?_
  refine w_aload_n C (pc := 1706) 0 rfl dL_law_1706 rfl ?_
  refine w_iload_n C (pc := 1707) 3 rfl dL_law_1707 rfl ?_
  refine w_bipush C (pc := 1708) (v := 7) dL_law_1708 (by decide) ?_
  refine w_iadd C (pc := 1710) dL_law_1710 ?_
  refine w_sld C (pc := 1711) (hv 7 (by decide)) dL_law_1711 ?_
  refine w_aload_n C (pc := 1712) 0 rfl dL_law_1712 rfl ?_
  refine w_iload_n C (pc := 1713) 3 rfl dL_law_1713 rfl ?_
  refine w_bipush C (pc := 1714) (v := 8) dL_law_1714 (by decide) ?_
  refine w_iadd C (pc := 1716) dL_law_1716 ?_
  refine w_sld C (pc := 1717) (hv 8 (by decide)) dL_law_1717 ?_
  refine w_c1 C (pc := 1718) (As := [.int (xs (i + 1).toNatClampNeg), .int (xs (i + 2).toNatClampNeg), .int (xs (i + 3).toNatClampNeg), .int (am_b (decide (¬ (xs (i + 4).toNatClampNeg) = 0))), .int (xs (i + 5).toNatClampNeg), .int (xs (i + 6).toNatClampNeg), .int (xs (i + 7).toNatClampNeg), .int (xs (i + 8).toNatClampNeg)]) (st := []) (st1 := [.int (am_b r)]) kk_11 (in_11 C.2.1.1 (Nat.le_refl 1)) mV_X11_ask (tb_5 (List.mem_of_getElem? (i := 227) (by decide +kernel))) rfl (Nat.le_of_ble_eq_true rfl) (Nat.le_of_ble_eq_true rfl) hnc hns (k_X11_ask C.2.1 (xs (i + 1).toNatClampNeg) (xs (i + 2).toNatClampNeg) (xs (i + 3).toNatClampNeg) (decide (¬ (xs (i + 4).toNatClampNeg) = 0)) (xs (i + 5).toNatClampNeg) (xs (i + 6).toNatClampNeg) (xs (i + 7).toNatClampNeg) (xs (i + 8).toNatClampNeg) σ1 h1) dL_law_1718 rfl rfl ?_
  refine w_aload_n C (pc := 1721) 2 rfl dL_law_1721 rfl ?_
  refine w_aload_n C (pc := 1722) 0 rfl dL_law_1722 rfl ?_
  refine w_iload_n C (pc := 1723) 3 rfl dL_law_1723 rfl ?_
  refine w_iconst C (pc := 1724) (v := 1) dL_law_1724 (by decide) ?_
  refine w_iadd C (pc := 1725) dL_law_1725 ?_
  refine w_sld C (pc := 1726) (hv 1 (by decide)) dL_law_1726 ?_
  refine w_aload_n C (pc := 1727) 0 rfl dL_law_1727 rfl ?_
  refine w_iload_n C (pc := 1728) 3 rfl dL_law_1728 rfl ?_
  refine w_iconst C (pc := 1729) (v := 2) dL_law_1729 (by decide) ?_
  refine w_iadd C (pc := 1730) dL_law_1730 ?_
  refine w_sld C (pc := 1731) (hv 2 (by decide)) dL_law_1731 ?_
  refine w_aload_n C (pc := 1732) 0 rfl dL_law_1732 rfl ?_
  refine w_iload_n C (pc := 1733) 3 rfl dL_law_1733 rfl ?_
  refine w_iconst C (pc := 1734) (v := 3) dL_law_1734 (by decide) ?_
  refine w_iadd C (pc := 1735) dL_law_1735 ?_
  refine w_sld C (pc := 1736) (hv 3 (by decide)) dL_law_1736 ?_
  refine w_aload_n C (pc := 1737) 0 rfl dL_law_1737 rfl ?_
  refine w_iload_n C (pc := 1738) 3 rfl dL_law_1738 rfl ?_
  refine w_iconst C (pc := 1739) (v := 4) dL_law_1739 (by decide) ?_
  refine w_iadd C (pc := 1740) dL_law_1740 ?_
  refine w_sld C (pc := 1741) (hv 4 (by decide)) dL_law_1741 ?_
  refine w_nz C (pc := 1742) dL_law_1742 dL_law_1745 dL_law_1746 dL_law_1749 ?_
  refine w_aload_n C (pc := 1750) 0 rfl dL_law_1750 rfl ?_
  refine w_iload_n C (pc := 1751) 3 rfl dL_law_1751 rfl ?_
  refine w_iconst C (pc := 1752) (v := 5) dL_law_1752 (by decide) ?_
  refine w_iadd C (pc := 1753) dL_law_1753 ?_
  refine w_sld C (pc := 1754) (hv 5 (by decide)) dL_law_1754 ?_
  refine w_aload_n C (pc := 1755) 0 rfl dL_law_1755 rfl ?_
  refine w_iload_n C (pc := 1756) 3 rfl dL_law_1756 rfl ?_
  refine w_bipush C (pc := 1757) (v := 6) dL_law_1757 (by decide) ?_
  refine w_iadd C (pc := 1759) dL_law_1759 ?_
  refine w_sld C (pc := 1760) (hv 6 (by decide)) dL_law_1760 ?_
  refine w_aload_n C (pc := 1761) 0 rfl dL_law_1761 rfl ?_
  refine w_iload_n C (pc := 1762) 3 rfl dL_law_1762 rfl ?_
  refine w_bipush C (pc := 1763) (v := 7) dL_law_1763 (by decide) ?_
  refine w_iadd C (pc := 1765) dL_law_1765 ?_
  refine w_sld C (pc := 1766) (hv 7 (by decide)) dL_law_1766 ?_
  refine w_aload_n C (pc := 1767) 0 rfl dL_law_1767 rfl ?_
  refine w_iload_n C (pc := 1768) 3 rfl dL_law_1768 rfl ?_
  refine w_bipush C (pc := 1769) (v := 8) dL_law_1769 (by decide) ?_
  refine w_iadd C (pc := 1771) dL_law_1771 ?_
  refine w_sld C (pc := 1772) (hv 8 (by decide)) dL_law_1772 ?_
  refine w_c2 C (pc := 1773) (As := [.int (xs (i + 1).toNatClampNeg), .int (xs (i + 2).toNatClampNeg), .int (xs (i + 3).toNatClampNeg), .int (am_b (decide (¬ (xs (i + 4).toNatClampNeg) = 0))), .int (xs (i + 5).toNatClampNeg), .int (xs (i + 6).toNatClampNeg), .int (xs (i + 7).toNatClampNeg), .int (xs (i + 8).toNatClampNeg)]) (st := [.int (am_b r)]) (st1 := [.int (am_b r), .int (am_b r)]) kk_12 (in_12 C.2.2.1 (Nat.le_refl 1)) mV_X12_ask (tb_9 (List.mem_of_getElem? (i := 233) (by decide +kernel))) rfl (Nat.le_of_ble_eq_true rfl) (Nat.le_of_ble_eq_true rfl) hnc hns (k_X12_ask C.2.2.1 (xs (i + 1).toNatClampNeg) (xs (i + 2).toNatClampNeg) (xs (i + 3).toNatClampNeg) (decide (¬ (xs (i + 4).toNatClampNeg) = 0)) (xs (i + 5).toNatClampNeg) (xs (i + 6).toNatClampNeg) (xs (i + 7).toNatClampNeg) (xs (i + 8).toNatClampNeg) σ2 h2) dL_law_1773 rfl rfl ?_
  exact w_ieq C (pc := 1776) 2540 dL_law_1776 rfl kk
set_option maxRecDepth 100000 in
set_option maxHeartbeats 4000000 in
theorem lc_32 {X1 X2 : am_X} {l : Launch} {p : Program} {e : Env} {s : State} {m : MethodId} {below : List Frame} {meth : Method} {c : Code} {b L : Nat} {xs : Nat → Int32} {nc ns : Nat} (C : am_LC X1 X2 l p s m meth c b L xs) (hnc : nc ≤ 600000) (hns : ns ≤ 7302249) {i : Int32} (hv : ∀ k : Nat, k < 10 → vp_in (i + Int32.ofNat k) L) {r : Int32} {σ1 σ2 σ1' σ2' : am_H} (h1 : f_X11_landing (xs (i + 1).toNatClampNeg) (xs (i + 2).toNatClampNeg) (xs (i + 3).toNatClampNeg) σ1 = some (r, σ1')) (h2 : f_X12_landing (xs (i + 1).toNatClampNeg) (xs (i + 2).toNatClampNeg) (xs (i + 3).toNatClampNeg) σ2 = some (r, σ2')) (kk : am_LG X1 X2 l p e s m below meth c b L xs nc ns 2540 [(0, .ref b), (1, .ref (am_ad X1 11 0)), (2, .ref (am_ad X2 12 0)), (3, .int i)] [] σ1' σ2') : am_LG X1 X2 l p e s m below meth c b L xs nc ns 1781 [(0, .ref b), (1, .ref (am_ad X1 11 0)), (2, .ref (am_ad X2 12 0)), (3, .int i)] [] σ1 σ2 := by
  refine w_aload_n C (pc := 1781) 1 rfl dL_law_1781 rfl ?_
  refine w_aload_n C (pc := 1782) 0 rfl dL_law_1782 rfl ?_
  refine w_iload_n C (pc := 1783) 3 rfl dL_law_1783 rfl ?_
  refine w_iconst C (pc := 1784) (v := 1) dL_law_1784 (by decide) ?_
  refine w_iadd C (pc := 1785) dL_law_1785 ?_
  refine w_sld C (pc := 1786) (hv 1 (by decide)) dL_law_1786 ?_
  refine w_aload_n C (pc := 1787) 0 rfl dL_law_1787 rfl ?_
  refine w_iload_n C (pc := 1788) 3 rfl dL_law_1788 rfl ?_
  refine w_iconst C (pc := 1789) (v := 2) dL_law_1789 (by decide) ?_
  refine w_iadd C (pc := 1790) dL_law_1790 ?_
  refine w_sld C (pc := 1791) (hv 2 (by decide)) dL_law_1791 ?_
  refine w_aload_n C (pc := 1792) 0 rfl dL_law_1792 rfl ?_
  refine w_iload_n C (pc := 1793) 3 rfl dL_law_1793 rfl ?_
  refine w_iconst C (pc := 1794) (v := 3) dL_law_1794 (by decide) ?_
  refine w_iadd C (pc := 1795) dL_law_1795 ?_
  refine w_sld C (pc := 1796) (hv 3 (by decide)) dL_law_1796 ?_
  refine w_c1 C (pc := 1797) (As := [.int (xs (i + 1).toNatClampNeg), .int (xs (i + 2).toNatClampNeg), .int (xs (i + 3).toNatClampNeg)]) (st := []) (st1 := [.int r]) kk_11 (in_11 C.2.1.1 (Nat.le_refl 1)) mV_X11_landing (tb_5 (List.mem_of_getElem? (i := 232) (by decide +kernel))) rfl (Nat.le_of_ble_eq_true rfl) (Nat.le_of_ble_eq_true rfl) hnc hns (k_X11_landing C.2.1 (xs (i + 1).toNatClampNeg) (xs (i + 2).toNatClampNeg) (xs (i + 3).toNatClampNeg) σ1 h1) dL_law_1797 rfl rfl ?_
  refine w_aload_n C (pc := 1800) 2 rfl dL_law_1800 rfl ?_
  refine w_aload_n C (pc := 1801) 0 rfl dL_law_1801 rfl ?_
  refine w_iload_n C (pc := 1802) 3 rfl dL_law_1802 rfl ?_
  refine w_iconst C (pc := 1803) (v := 1) dL_law_1803 (by decide) ?_
  refine w_iadd C (pc := 1804) dL_law_1804 ?_
  refine w_sld C (pc := 1805) (hv 1 (by decide)) dL_law_1805 ?_
  refine w_aload_n C (pc := 1806) 0 rfl dL_law_1806 rfl ?_
  refine w_iload_n C (pc := 1807) 3 rfl dL_law_1807 rfl ?_
  refine w_iconst C (pc := 1808) (v := 2) dL_law_1808 (by decide) ?_
  refine w_iadd C (pc := 1809) dL_law_1809 ?_
  refine w_sld C (pc := 1810) (hv 2 (by decide)) dL_law_1810 ?_
  refine w_aload_n C (pc := 1811) 0 rfl dL_law_1811 rfl ?_
  refine w_iload_n C (pc := 1812) 3 rfl dL_law_1812 rfl ?_
  refine w_iconst C (pc := 1813) (v := 3) dL_law_1813 (by decide) ?_
  refine w_iadd C (pc := 1814) dL_law_1814 ?_
  refine w_sld C (pc := 1815) (hv 3 (by decide)) dL_law_1815 ?_
  refine w_c2 C (pc := 1816) (As := [.int (xs (i + 1).toNatClampNeg), .int (xs (i + 2).toNatClampNeg), .int (xs (i + 3).toNatClampNeg)]) (st := [.int r]) (st1 := [.int r, .int r]) kk_12 (in_12 C.2.2.1 (Nat.le_refl 1)) mV_X12_landing (tb_9 (List.mem_of_getElem? (i := 239) (by decide +kernel))) rfl (Nat.le_of_ble_eq_true rfl) (Nat.le_of_ble_eq_true rfl) hnc hns (k_X12_landing C.2.2.1 (xs (i + 1).toNatClampNeg) (xs (i + 2).toNatClampNeg) (xs (i + 3).toNatClampNeg) σ2 h2) dL_law_1816 rfl rfl ?_
  exact w_ieq C (pc := 1819) 2540 dL_law_1819 rfl kk
set_option maxRecDepth 100000 in
set_option maxHeartbeats 4000000 in
theorem lc_33 {X1 X2 : am_X} {l : Launch} {p : Program} {e : Env} {s : State} {m : MethodId} {below : List Frame} {meth : Method} {c : Code} {b L : Nat} {xs : Nat → Int32} {nc ns : Nat} (C : am_LC X1 X2 l p s m meth c b L xs) (hnc : nc ≤ 600000) (hns : ns ≤ 7302249) {i : Int32} (hv : ∀ k : Nat, k < 10 → vp_in (i + Int32.ofNat k) L) {r : Int32} {σ1 σ2 σ1' σ2' : am_H} (h1 : f_X11_spread (xs (i + 1).toNatClampNeg) (xs (i + 2).toNatClampNeg) (xs (i + 3).toNatClampNeg) (xs (i + 4).toNatClampNeg) σ1 = some (r, σ1')) (h2 : f_X12_spread (xs (i + 1).toNatClampNeg) (xs (i + 2).toNatClampNeg) (xs (i + 3).toNatClampNeg) (xs (i + 4).toNatClampNeg) σ2 = some (r, σ2')) (kk : am_LG X1 X2 l p e s m below meth c b L xs nc ns 2540 [(0, .ref b), (1, .ref (am_ad X1 11 0)), (2, .ref (am_ad X2 12 0)), (3, .int i)] [] σ1' σ2') : am_LG X1 X2 l p e s m below meth c b L xs nc ns 1824 [(0, .ref b), (1, .ref (am_ad X1 11 0)), (2, .ref (am_ad X2 12 0)), (3, .int i)] [] σ1 σ2 := by
  refine w_aload_n C (pc := 1824) 1 rfl dL_law_1824 rfl ?_
  refine w_aload_n C (pc := 1825) 0 rfl dL_law_1825 rfl ?_
  refine w_iload_n C (pc := 1826) 3 rfl dL_law_1826 rfl ?_
  refine w_iconst C (pc := 1827) (v := 1) dL_law_1827 (by decide) ?_
  refine w_iadd C (pc := 1828) dL_law_1828 ?_
  refine w_sld C (pc := 1829) (hv 1 (by decide)) dL_law_1829 ?_
  refine w_aload_n C (pc := 1830) 0 rfl dL_law_1830 rfl ?_
  refine w_iload_n C (pc := 1831) 3 rfl dL_law_1831 rfl ?_
  refine w_iconst C (pc := 1832) (v := 2) dL_law_1832 (by decide) ?_
  refine w_iadd C (pc := 1833) dL_law_1833 ?_
  refine w_sld C (pc := 1834) (hv 2 (by decide)) dL_law_1834 ?_
  refine w_aload_n C (pc := 1835) 0 rfl dL_law_1835 rfl ?_
  refine w_iload_n C (pc := 1836) 3 rfl dL_law_1836 rfl ?_
  refine w_iconst C (pc := 1837) (v := 3) dL_law_1837 (by decide) ?_
  refine w_iadd C (pc := 1838) dL_law_1838 ?_
  refine w_sld C (pc := 1839) (hv 3 (by decide)) dL_law_1839 ?_
  refine w_aload_n C (pc := 1840) 0 rfl dL_law_1840 rfl ?_
  refine w_iload_n C (pc := 1841) 3 rfl dL_law_1841 rfl ?_
  refine w_iconst C (pc := 1842) (v := 4) dL_law_1842 (by decide) ?_
  refine w_iadd C (pc := 1843) dL_law_1843 ?_
  refine w_sld C (pc := 1844) (hv 4 (by decide)) dL_law_1844 ?_
  refine w_c1 C (pc := 1845) (As := [.int (xs (i + 1).toNatClampNeg), .int (xs (i + 2).toNatClampNeg), .int (xs (i + 3).toNatClampNeg), .int (xs (i + 4).toNatClampNeg)]) (st := []) (st1 := [.int r]) kk_11 (in_11 C.2.1.1 (Nat.le_refl 1)) mV_X11_spread (tb_6 (List.mem_of_getElem? (i := 17) (by decide +kernel))) rfl (Nat.le_of_ble_eq_true rfl) (Nat.le_of_ble_eq_true rfl) hnc hns (k_X11_spread C.2.1 (xs (i + 1).toNatClampNeg) (xs (i + 2).toNatClampNeg) (xs (i + 3).toNatClampNeg) (xs (i + 4).toNatClampNeg) σ1 h1) dL_law_1845 rfl rfl ?_
  refine w_aload_n C (pc := 1848) 2 rfl dL_law_1848 rfl ?_
  refine w_aload_n C (pc := 1849) 0 rfl dL_law_1849 rfl ?_
  refine w_iload_n C (pc := 1850) 3 rfl dL_law_1850 rfl ?_
  refine w_iconst C (pc := 1851) (v := 1) dL_law_1851 (by decide) ?_
  refine w_iadd C (pc := 1852) dL_law_1852 ?_
  refine w_sld C (pc := 1853) (hv 1 (by decide)) dL_law_1853 ?_
  refine w_aload_n C (pc := 1854) 0 rfl dL_law_1854 rfl ?_
  refine w_iload_n C (pc := 1855) 3 rfl dL_law_1855 rfl ?_
  refine w_iconst C (pc := 1856) (v := 2) dL_law_1856 (by decide) ?_
  refine w_iadd C (pc := 1857) dL_law_1857 ?_
  refine w_sld C (pc := 1858) (hv 2 (by decide)) dL_law_1858 ?_
  refine w_aload_n C (pc := 1859) 0 rfl dL_law_1859 rfl ?_
  refine w_iload_n C (pc := 1860) 3 rfl dL_law_1860 rfl ?_
  refine w_iconst C (pc := 1861) (v := 3) dL_law_1861 (by decide) ?_
  refine w_iadd C (pc := 1862) dL_law_1862 ?_
  refine w_sld C (pc := 1863) (hv 3 (by decide)) dL_law_1863 ?_
  refine w_aload_n C (pc := 1864) 0 rfl dL_law_1864 rfl ?_
  refine w_iload_n C (pc := 1865) 3 rfl dL_law_1865 rfl ?_
  refine w_iconst C (pc := 1866) (v := 4) dL_law_1866 (by decide) ?_
  refine w_iadd C (pc := 1867) dL_law_1867 ?_
  refine w_sld C (pc := 1868) (hv 4 (by decide)) dL_law_1868 ?_
  refine w_c2 C (pc := 1869) (As := [.int (xs (i + 1).toNatClampNeg), .int (xs (i + 2).toNatClampNeg), .int (xs (i + 3).toNatClampNeg), .int (xs (i + 4).toNatClampNeg)]) (st := [.int r]) (st1 := [.int r, .int r]) kk_12 (in_12 C.2.2.1 (Nat.le_refl 1)) mV_X12_spread (tb_10 (List.mem_of_getElem? (i := 8) (by decide +kernel))) rfl (Nat.le_of_ble_eq_true rfl) (Nat.le_of_ble_eq_true rfl) hnc hns (k_X12_spread C.2.2.1 (xs (i + 1).toNatClampNeg) (xs (i + 2).toNatClampNeg) (xs (i + 3).toNatClampNeg) (xs (i + 4).toNatClampNeg) σ2 h2) dL_law_1869 rfl rfl ?_
  exact w_ieq C (pc := 1872) 2540 dL_law_1872 rfl kk
set_option maxRecDepth 100000 in
set_option maxHeartbeats 4000000 in
theorem lc_34 {X1 X2 : am_X} {l : Launch} {p : Program} {e : Env} {s : State} {m : MethodId} {below : List Frame} {meth : Method} {c : Code} {b L : Nat} {xs : Nat → Int32} {nc ns : Nat} (C : am_LC X1 X2 l p s m meth c b L xs) (hnc : nc ≤ 600000) (hns : ns ≤ 7302249) {i : Int32} (hv : ∀ k : Nat, k < 10 → vp_in (i + Int32.ofNat k) L) {r : Int32} {σ1 σ2 σ1' σ2' : am_H} (h1 : f_X11_spreadTold (xs (i + 1).toNatClampNeg) σ1 = some (r, σ1')) (h2 : f_X12_spreadTold (xs (i + 1).toNatClampNeg) σ2 = some (r, σ2')) (kk : am_LG X1 X2 l p e s m below meth c b L xs nc ns 2540 [(0, .ref b), (1, .ref (am_ad X1 11 0)), (2, .ref (am_ad X2 12 0)), (3, .int i)] [] σ1' σ2') : am_LG X1 X2 l p e s m below meth c b L xs nc ns 1877 [(0, .ref b), (1, .ref (am_ad X1 11 0)), (2, .ref (am_ad X2 12 0)), (3, .int i)] [] σ1 σ2 := by
  refine w_aload_n C (pc := 1877) 1 rfl dL_law_1877 rfl ?_
  refine w_aload_n C (pc := 1878) 0 rfl dL_law_1878 rfl ?_
  refine w_iload_n C (pc := 1879) 3 rfl dL_law_1879 rfl ?_
  refine w_iconst C (pc := 1880) (v := 1) dL_law_1880 (by decide) ?_
  refine w_iadd C (pc := 1881) dL_law_1881 ?_
  refine w_sld C (pc := 1882) (hv 1 (by decide)) dL_law_1882 ?_
  refine w_c1 C (pc := 1883) (As := [.int (xs (i + 1).toNatClampNeg)]) (st := []) (st1 := [.int r]) kk_11 (in_11 C.2.1.1 (Nat.le_refl 1)) mV_X11_spreadTold (tb_6 (List.mem_of_getElem? (i := 46) (by decide +kernel))) rfl (Nat.le_of_ble_eq_true rfl) (Nat.le_of_ble_eq_true rfl) hnc hns (k_X11_spreadTold C.2.1 (xs (i + 1).toNatClampNeg) σ1 h1) dL_law_1883 rfl rfl ?_
  refine w_aload_n C (pc := 1886) 2 rfl dL_law_1886 rfl ?_
  refine w_aload_n C (pc := 1887) 0 rfl dL_law_1887 rfl ?_
  refine w_iload_n C (pc := 1888) 3 rfl dL_law_1888 rfl ?_
  refine w_iconst C (pc := 1889) (v := 1) dL_law_1889 (by decide) ?_
  refine w_iadd C (pc := 1890) dL_law_1890 ?_
  refine w_sld C (pc := 1891) (hv 1 (by decide)) dL_law_1891 ?_
  refine w_c2 C (pc := 1892) (As := [.int (xs (i + 1).toNatClampNeg)]) (st := [.int r]) (st1 := [.int r, .int r]) kk_12 (in_12 C.2.2.1 (Nat.le_refl 1)) mV_X12_spreadTold (tb_10 (List.mem_of_getElem? (i := 12) (by decide +kernel))) rfl (Nat.le_of_ble_eq_true rfl) (Nat.le_of_ble_eq_true rfl) hnc hns (k_X12_spreadTold C.2.2.1 (xs (i + 1).toNatClampNeg) σ2 h2) dL_law_1892 rfl rfl ?_
  exact w_ieq C (pc := 1895) 2540 dL_law_1895 rfl kk
set_option maxRecDepth 100000 in
set_option maxHeartbeats 4000000 in
theorem lc_35 {X1 X2 : am_X} {l : Launch} {p : Program} {e : Env} {s : State} {m : MethodId} {below : List Frame} {meth : Method} {c : Code} {b L : Nat} {xs : Nat → Int32} {nc ns : Nat} (C : am_LC X1 X2 l p s m meth c b L xs) (hnc : nc ≤ 600000) (hns : ns ≤ 7302249) {i : Int32} (hv : ∀ k : Nat, k < 10 → vp_in (i + Int32.ofNat k) L) {r : Int32} {σ1 σ2 σ1' σ2' : am_H} (h1 : f_X11_compare (xs (i + 1).toNatClampNeg) (xs (i + 2).toNatClampNeg) (xs (i + 3).toNatClampNeg) σ1 = some (r, σ1')) (h2 : f_X12_compare (xs (i + 1).toNatClampNeg) (xs (i + 2).toNatClampNeg) (xs (i + 3).toNatClampNeg) σ2 = some (r, σ2')) (kk : am_LG X1 X2 l p e s m below meth c b L xs nc ns 2540 [(0, .ref b), (1, .ref (am_ad X1 11 0)), (2, .ref (am_ad X2 12 0)), (3, .int i)] [] σ1' σ2') : am_LG X1 X2 l p e s m below meth c b L xs nc ns 1900 [(0, .ref b), (1, .ref (am_ad X1 11 0)), (2, .ref (am_ad X2 12 0)), (3, .int i)] [] σ1 σ2 := by
  refine w_aload_n C (pc := 1900) 1 rfl dL_law_1900 rfl ?_
  refine w_aload_n C (pc := 1901) 0 rfl dL_law_1901 rfl ?_
  refine w_iload_n C (pc := 1902) 3 rfl dL_law_1902 rfl ?_
  refine w_iconst C (pc := 1903) (v := 1) dL_law_1903 (by decide) ?_
  refine w_iadd C (pc := 1904) dL_law_1904 ?_
  refine w_sld C (pc := 1905) (hv 1 (by decide)) dL_law_1905 ?_
  refine w_aload_n C (pc := 1906) 0 rfl dL_law_1906 rfl ?_
  refine w_iload_n C (pc := 1907) 3 rfl dL_law_1907 rfl ?_
  refine w_iconst C (pc := 1908) (v := 2) dL_law_1908 (by decide) ?_
  refine w_iadd C (pc := 1909) dL_law_1909 ?_
  refine w_sld C (pc := 1910) (hv 2 (by decide)) dL_law_1910 ?_
  refine w_aload_n C (pc := 1911) 0 rfl dL_law_1911 rfl ?_
  refine w_iload_n C (pc := 1912) 3 rfl dL_law_1912 rfl ?_
  refine w_iconst C (pc := 1913) (v := 3) dL_law_1913 (by decide) ?_
  refine w_iadd C (pc := 1914) dL_law_1914 ?_
  refine w_sld C (pc := 1915) (hv 3 (by decide)) dL_law_1915 ?_
  refine w_c1 C (pc := 1916) (As := [.int (xs (i + 1).toNatClampNeg), .int (xs (i + 2).toNatClampNeg), .int (xs (i + 3).toNatClampNeg)]) (st := []) (st1 := [.int r]) kk_11 (in_11 C.2.1.1 (Nat.le_refl 1)) mV_X11_compare (tb_6 (List.mem_of_getElem? (i := 50) (by decide +kernel))) rfl (Nat.le_of_ble_eq_true rfl) (Nat.le_of_ble_eq_true rfl) hnc hns (k_X11_compare C.2.1 (xs (i + 1).toNatClampNeg) (xs (i + 2).toNatClampNeg) (xs (i + 3).toNatClampNeg) σ1 h1) dL_law_1916 rfl rfl ?_
  refine w_aload_n C (pc := 1919) 2 rfl dL_law_1919 rfl ?_
  refine w_aload_n C (pc := 1920) 0 rfl dL_law_1920 rfl ?_
  refine w_iload_n C (pc := 1921) 3 rfl dL_law_1921 rfl ?_
  refine w_iconst C (pc := 1922) (v := 1) dL_law_1922 (by decide) ?_
  refine w_iadd C (pc := 1923) dL_law_1923 ?_
  refine w_sld C (pc := 1924) (hv 1 (by decide)) dL_law_1924 ?_
  refine w_aload_n C (pc := 1925) 0 rfl dL_law_1925 rfl ?_
  refine w_iload_n C (pc := 1926) 3 rfl dL_law_1926 rfl ?_
  refine w_iconst C (pc := 1927) (v := 2) dL_law_1927 (by decide) ?_
  refine w_iadd C (pc := 1928) dL_law_1928 ?_
  refine w_sld C (pc := 1929) (hv 2 (by decide)) dL_law_1929 ?_
  refine w_aload_n C (pc := 1930) 0 rfl dL_law_1930 rfl ?_
  refine w_iload_n C (pc := 1931) 3 rfl dL_law_1931 rfl ?_
  refine w_iconst C (pc := 1932) (v := 3) dL_law_1932 (by decide) ?_
  refine w_iadd C (pc := 1933) dL_law_1933 ?_
  refine w_sld C (pc := 1934) (hv 3 (by decide)) dL_law_1934 ?_
  refine w_c2 C (pc := 1935) (As := [.int (xs (i + 1).toNatClampNeg), .int (xs (i + 2).toNatClampNeg), .int (xs (i + 3).toNatClampNeg)]) (st := [.int r]) (st1 := [.int r, .int r]) kk_12 (in_12 C.2.2.1 (Nat.le_refl 1)) mV_X12_compare (tb_10 (List.mem_of_getElem? (i := 16) (by decide +kernel))) rfl (Nat.le_of_ble_eq_true rfl) (Nat.le_of_ble_eq_true rfl) hnc hns (k_X12_compare C.2.2.1 (xs (i + 1).toNatClampNeg) (xs (i + 2).toNatClampNeg) (xs (i + 3).toNatClampNeg) σ2 h2) dL_law_1935 rfl rfl ?_
  exact w_ieq C (pc := 1938) 2540 dL_law_1938 rfl kk
set_option maxRecDepth 100000 in
set_option maxHeartbeats 4000000 in
theorem lc_36 {X1 X2 : am_X} {l : Launch} {p : Program} {e : Env} {s : State} {m : MethodId} {below : List Frame} {meth : Method} {c : Code} {b L : Nat} {xs : Nat → Int32} {nc ns : Nat} (C : am_LC X1 X2 l p s m meth c b L xs) (hnc : nc ≤ 600000) (hns : ns ≤ 7302249) {i : Int32} (hv : ∀ k : Nat, k < 10 → vp_in (i + Int32.ofNat k) L) {r : Int32} {σ1 σ2 σ1' σ2' : am_H} (h1 : f_X11_waters (xs (i + 1).toNatClampNeg) (xs (i + 2).toNatClampNeg) (decide (¬ (xs (i + 3).toNatClampNeg) = 0)) (decide (¬ (xs (i + 4).toNatClampNeg) = 0)) σ1 = some (r, σ1')) (h2 : f_X12_waters (xs (i + 1).toNatClampNeg) (xs (i + 2).toNatClampNeg) (decide (¬ (xs (i + 3).toNatClampNeg) = 0)) (decide (¬ (xs (i + 4).toNatClampNeg) = 0)) σ2 = some (r, σ2')) (kk : am_LG X1 X2 l p e s m below meth c b L xs nc ns 2540 [(0, .ref b), (1, .ref (am_ad X1 11 0)), (2, .ref (am_ad X2 12 0)), (3, .int i)] [] σ1' σ2') : am_LG X1 X2 l p e s m below meth c b L xs nc ns 1943 [(0, .ref b), (1, .ref (am_ad X1 11 0)), (2, .ref (am_ad X2 12 0)), (3, .int i)] [] σ1 σ2 := by
  refine w_aload_n C (pc := 1943) 1 rfl dL_law_1943 rfl ?_
  refine w_aload_n C (pc := 1944) 0 rfl dL_law_1944 rfl ?_
  refine w_iload_n C (pc := 1945) 3 rfl dL_law_1945 rfl ?_
  refine w_iconst C (pc := 1946) (v := 1) dL_law_1946 (by decide) ?_
  refine w_iadd C (pc := 1947) dL_law_1947 ?_
  refine w_sld C (pc := 1948) (hv 1 (by decide)) dL_law_1948 ?_
  refine w_aload_n C (pc := 1949) 0 rfl dL_law_1949 rfl ?_
  refine w_iload_n C (pc := 1950) 3 rfl dL_law_1950 rfl ?_
  refine w_iconst C (pc := 1951) (v := 2) dL_law_1951 (by decide) ?_
  refine w_iadd C (pc := 1952) dL_law_1952 ?_
  refine w_sld C (pc := 1953) (hv 2 (by decide)) dL_law_1953 ?_
  refine w_aload_n C (pc := 1954) 0 rfl dL_law_1954 rfl ?_
  refine w_iload_n C (pc := 1955) 3 rfl dL_law_1955 rfl ?_
  refine w_iconst C (pc := 1956) (v := 3) dL_law_1956 (by decide) ?_
  refine w_iadd C (pc := 1957) dL_law_1957 ?_
  refine w_sld C (pc := 1958) (hv 3 (by decide)) dL_law_1958 ?_
  refine w_nz C (pc := 1959) dL_law_1959 dL_law_1962 dL_law_1963 dL_law_1966 ?_
  refine w_aload_n C (pc := 1967) 0 rfl dL_law_1967 rfl ?_
  refine w_iload_n C (pc := 1968) 3 rfl dL_law_1968 rfl ?_
  refine w_iconst C (pc := 1969) (v := 4) dL_law_1969 (by decide) ?_
  refine w_iadd C (pc := 1970) dL_law_1970 ?_
  refine w_sld C (pc := 1971) (hv 4 (by decide)) dL_law_1971 ?_
  refine w_nz C (pc := 1972) dL_law_1972 dL_law_1975 dL_law_1976 dL_law_1979 ?_
  refine w_c1 C (pc := 1980) (As := [.int (xs (i + 1).toNatClampNeg), .int (xs (i + 2).toNatClampNeg), .int (am_b (decide (¬ (xs (i + 3).toNatClampNeg) = 0))), .int (am_b (decide (¬ (xs (i + 4).toNatClampNeg) = 0)))]) (st := []) (st1 := [.int r]) kk_11 (in_11 C.2.1.1 (Nat.le_refl 1)) mV_X11_waters (tb_6 (List.mem_of_getElem? (i := 55) (by decide +kernel))) rfl (Nat.le_of_ble_eq_true rfl) (Nat.le_of_ble_eq_true rfl) hnc hns (k_X11_waters C.2.1 (xs (i + 1).toNatClampNeg) (xs (i + 2).toNatClampNeg) (decide (¬ (xs (i + 3).toNatClampNeg) = 0)) (decide (¬ (xs (i + 4).toNatClampNeg) = 0)) σ1 h1) dL_law_1980 rfl rfl ?_
  refine w_aload_n C (pc := 1983) 2 rfl dL_law_1983 rfl ?_
  refine w_aload_n C (pc := 1984) 0 rfl dL_law_1984 rfl ?_
  refine w_iload_n C (pc := 1985) 3 rfl dL_law_1985 rfl ?_
  refine w_iconst C (pc := 1986) (v := 1) dL_law_1986 (by decide) ?_
  refine w_iadd C (pc := 1987) dL_law_1987 ?_
  refine w_sld C (pc := 1988) (hv 1 (by decide)) dL_law_1988 ?_
  refine w_aload_n C (pc := 1989) 0 rfl dL_law_1989 rfl ?_
  refine w_iload_n C (pc := 1990) 3 rfl dL_law_1990 rfl ?_
  refine w_iconst C (pc := 1991) (v := 2) dL_law_1991 (by decide) ?_
  refine w_iadd C (pc := 1992) dL_law_1992 ?_
  refine w_sld C (pc := 1993) (hv 2 (by decide)) dL_law_1993 ?_
  refine w_aload_n C (pc := 1994) 0 rfl dL_law_1994 rfl ?_
  refine w_iload_n C (pc := 1995) 3 rfl dL_law_1995 rfl ?_
  refine w_iconst C (pc := 1996) (v := 3) dL_law_1996 (by decide) ?_
  refine w_iadd C (pc := 1997) dL_law_1997 ?_
  refine w_sld C (pc := 1998) (hv 3 (by decide)) dL_law_1998 ?_
  refine w_nz C (pc := 1999) dL_law_1999 dL_law_2002 dL_law_2003 dL_law_2006 ?_
  refine w_aload_n C (pc := 2007) 0 rfl dL_law_2007 rfl ?_
  refine w_iload_n C (pc := 2008) 3 rfl dL_law_2008 rfl ?_
  refine w_iconst C (pc := 2009) (v := 4) dL_law_2009 (by decide) ?_
  refine w_iadd C (pc := 2010) dL_law_2010 ?_
  refine w_sld C (pc := 2011) (hv 4 (by decide)) dL_law_2011 ?_
  refine w_nz C (pc := 2012) dL_law_2012 dL_law_2015 dL_law_2016 dL_law_2019 ?_
  refine w_c2 C (pc := 2020) (As := [.int (xs (i + 1).toNatClampNeg), .int (xs (i + 2).toNatClampNeg), .int (am_b (decide (¬ (xs (i + 3).toNatClampNeg) = 0))), .int (am_b (decide (¬ (xs (i + 4).toNatClampNeg) = 0)))]) (st := [.int r]) (st1 := [.int r, .int r]) kk_12 (in_12 C.2.2.1 (Nat.le_refl 1)) mV_X12_waters (tb_10 (List.mem_of_getElem? (i := 20) (by decide +kernel))) rfl (Nat.le_of_ble_eq_true rfl) (Nat.le_of_ble_eq_true rfl) hnc hns (k_X12_waters C.2.2.1 (xs (i + 1).toNatClampNeg) (xs (i + 2).toNatClampNeg) (decide (¬ (xs (i + 3).toNatClampNeg) = 0)) (decide (¬ (xs (i + 4).toNatClampNeg) = 0)) σ2 h2) dL_law_2020 rfl rfl ?_
  exact w_ieq C (pc := 2023) 2540 dL_law_2023 rfl kk
set_option maxRecDepth 100000 in
set_option maxHeartbeats 4000000 in
theorem lc_37 {X1 X2 : am_X} {l : Launch} {p : Program} {e : Env} {s : State} {m : MethodId} {below : List Frame} {meth : Method} {c : Code} {b L : Nat} {xs : Nat → Int32} {nc ns : Nat} (C : am_LC X1 X2 l p s m meth c b L xs) (hnc : nc ≤ 600000) (hns : ns ≤ 7302249) {i : Int32} (hv : ∀ k : Nat, k < 10 → vp_in (i + Int32.ofNat k) L) {r : Int32} {σ1 σ2 σ1' σ2' : am_H} (h1 : f_X11_water (xs (i + 1).toNatClampNeg) (xs (i + 2).toNatClampNeg) (decide (¬ (xs (i + 3).toNatClampNeg) = 0)) (decide (¬ (xs (i + 4).toNatClampNeg) = 0)) (xs (i + 5).toNatClampNeg) σ1 = some (r, σ1')) (h2 : f_X12_water (xs (i + 1).toNatClampNeg) (xs (i + 2).toNatClampNeg) (decide (¬ (xs (i + 3).toNatClampNeg) = 0)) (decide (¬ (xs (i + 4).toNatClampNeg) = 0)) (xs (i + 5).toNatClampNeg) σ2 = some (r, σ2')) (kk : am_LG X1 X2 l p e s m below meth c b L xs nc ns 2540 [(0, .ref b), (1, .ref (am_ad X1 11 0)), (2, .ref (am_ad X2 12 0)), (3, .int i)] [] σ1' σ2') : am_LG X1 X2 l p e s m below meth c b L xs nc ns 2028 [(0, .ref b), (1, .ref (am_ad X1 11 0)), (2, .ref (am_ad X2 12 0)), (3, .int i)] [] σ1 σ2 := by
  refine w_aload_n C (pc := 2028) 1 rfl dL_law_2028 rfl ?_
  refine w_aload_n C (pc := 2029) 0 rfl dL_law_2029 rfl ?_
  refine w_iload_n C (pc := 2030) 3 rfl dL_law_2030 rfl ?_
  refine w_iconst C (pc := 2031) (v := 1) dL_law_2031 (by decide) ?_
  refine w_iadd C (pc := 2032) dL_law_2032 ?_
  refine w_sld C (pc := 2033) (hv 1 (by decide)) dL_law_2033 ?_
  refine w_aload_n C (pc := 2034) 0 rfl dL_law_2034 rfl ?_
  refine w_iload_n C (pc := 2035) 3 rfl dL_law_2035 rfl ?_
  refine w_iconst C (pc := 2036) (v := 2) dL_law_2036 (by decide) ?_
  refine w_iadd C (pc := 2037) dL_law_2037 ?_
  refine w_sld C (pc := 2038) (hv 2 (by decide)) dL_law_2038 ?_
  refine w_aload_n C (pc := 2039) 0 rfl dL_law_2039 rfl ?_
  refine w_iload_n C (pc := 2040) 3 rfl dL_law_2040 rfl ?_
  refine w_iconst C (pc := 2041) (v := 3) dL_law_2041 (by decide) ?_
  refine w_iadd C (pc := 2042) dL_law_2042 ?_
  refine w_sld C (pc := 2043) (hv 3 (by decide)) dL_law_2043 ?_
  refine w_nz C (pc := 2044) dL_law_2044 dL_law_2047 dL_law_2048 dL_law_2051 ?_
  refine w_aload_n C (pc := 2052) 0 rfl dL_law_2052 rfl ?_
  refine w_iload_n C (pc := 2053) 3 rfl dL_law_2053 rfl ?_
  refine w_iconst C (pc := 2054) (v := 4) dL_law_2054 (by decide) ?_
  refine w_iadd C (pc := 2055) dL_law_2055 ?_
  refine w_sld C (pc := 2056) (hv 4 (by decide)) dL_law_2056 ?_
  refine w_nz C (pc := 2057) dL_law_2057 dL_law_2060 dL_law_2061 dL_law_2064 ?_
  refine w_aload_n C (pc := 2065) 0 rfl dL_law_2065 rfl ?_
  refine w_iload_n C (pc := 2066) 3 rfl dL_law_2066 rfl ?_
  refine w_iconst C (pc := 2067) (v := 5) dL_law_2067 (by decide) ?_
  refine w_iadd C (pc := 2068) dL_law_2068 ?_
  refine w_sld C (pc := 2069) (hv 5 (by decide)) dL_law_2069 ?_
  refine w_c1 C (pc := 2070) (As := [.int (xs (i + 1).toNatClampNeg), .int (xs (i + 2).toNatClampNeg), .int (am_b (decide (¬ (xs (i + 3).toNatClampNeg) = 0))), .int (am_b (decide (¬ (xs (i + 4).toNatClampNeg) = 0))), .int (xs (i + 5).toNatClampNeg)]) (st := []) (st1 := [.int r]) kk_11 (in_11 C.2.1.1 (Nat.le_refl 1)) mV_X11_water (tb_6 (List.mem_of_getElem? (i := 76) (by decide +kernel))) rfl (Nat.le_of_ble_eq_true rfl) (Nat.le_of_ble_eq_true rfl) hnc hns (k_X11_water C.2.1 (xs (i + 1).toNatClampNeg) (xs (i + 2).toNatClampNeg) (decide (¬ (xs (i + 3).toNatClampNeg) = 0)) (decide (¬ (xs (i + 4).toNatClampNeg) = 0)) (xs (i + 5).toNatClampNeg) σ1 h1) dL_law_2070 rfl rfl ?_
  refine w_aload_n C (pc := 2073) 2 rfl dL_law_2073 rfl ?_
  refine w_aload_n C (pc := 2074) 0 rfl dL_law_2074 rfl ?_
  refine w_iload_n C (pc := 2075) 3 rfl dL_law_2075 rfl ?_
  refine w_iconst C (pc := 2076) (v := 1) dL_law_2076 (by decide) ?_
  refine w_iadd C (pc := 2077) dL_law_2077 ?_
  refine w_sld C (pc := 2078) (hv 1 (by decide)) dL_law_2078 ?_
  refine w_aload_n C (pc := 2079) 0 rfl dL_law_2079 rfl ?_
  refine w_iload_n C (pc := 2080) 3 rfl dL_law_2080 rfl ?_
  refine w_iconst C (pc := 2081) (v := 2) dL_law_2081 (by decide) ?_
  refine w_iadd C (pc := 2082) dL_law_2082 ?_
  refine w_sld C (pc := 2083) (hv 2 (by decide)) dL_law_2083 ?_
  refine w_aload_n C (pc := 2084) 0 rfl dL_law_2084 rfl ?_
  refine w_iload_n C (pc := 2085) 3 rfl dL_law_2085 rfl ?_
  refine w_iconst C (pc := 2086) (v := 3) dL_law_2086 (by decide) ?_
  refine w_iadd C (pc := 2087) dL_law_2087 ?_
  refine w_sld C (pc := 2088) (hv 3 (by decide)) dL_law_2088 ?_
  refine w_nz C (pc := 2089) dL_law_2089 dL_law_2092 dL_law_2093 dL_law_2096 ?_
  refine w_aload_n C (pc := 2097) 0 rfl dL_law_2097 rfl ?_
  refine w_iload_n C (pc := 2098) 3 rfl dL_law_2098 rfl ?_
  refine w_iconst C (pc := 2099) (v := 4) dL_law_2099 (by decide) ?_
  refine w_iadd C (pc := 2100) dL_law_2100 ?_
  refine w_sld C (pc := 2101) (hv 4 (by decide)) dL_law_2101 ?_
  refine w_nz C (pc := 2102) dL_law_2102 dL_law_2105 dL_law_2106 dL_law_2109 ?_
  refine w_aload_n C (pc := 2110) 0 rfl dL_law_2110 rfl ?_
  refine w_iload_n C (pc := 2111) 3 rfl dL_law_2111 rfl ?_
  refine w_iconst C (pc := 2112) (v := 5) dL_law_2112 (by decide) ?_
  refine w_iadd C (pc := 2113) dL_law_2113 ?_
  refine w_sld C (pc := 2114) (hv 5 (by decide)) dL_law_2114 ?_
  refine w_c2 C (pc := 2115) (As := [.int (xs (i + 1).toNatClampNeg), .int (xs (i + 2).toNatClampNeg), .int (am_b (decide (¬ (xs (i + 3).toNatClampNeg) = 0))), .int (am_b (decide (¬ (xs (i + 4).toNatClampNeg) = 0))), .int (xs (i + 5).toNatClampNeg)]) (st := [.int r]) (st1 := [.int r, .int r]) kk_12 (in_12 C.2.2.1 (Nat.le_refl 1)) mV_X12_water (tb_10 (List.mem_of_getElem? (i := 37) (by decide +kernel))) rfl (Nat.le_of_ble_eq_true rfl) (Nat.le_of_ble_eq_true rfl) hnc hns (k_X12_water C.2.2.1 (xs (i + 1).toNatClampNeg) (xs (i + 2).toNatClampNeg) (decide (¬ (xs (i + 3).toNatClampNeg) = 0)) (decide (¬ (xs (i + 4).toNatClampNeg) = 0)) (xs (i + 5).toNatClampNeg) σ2 h2) dL_law_2115 rfl rfl ?_
  exact w_ieq C (pc := 2118) 2540 dL_law_2118 rfl kk
set_option maxRecDepth 100000 in
set_option maxHeartbeats 4000000 in
theorem lc_38 {X1 X2 : am_X} {l : Launch} {p : Program} {e : Env} {s : State} {m : MethodId} {below : List Frame} {meth : Method} {c : Code} {b L : Nat} {xs : Nat → Int32} {nc ns : Nat} (C : am_LC X1 X2 l p s m meth c b L xs) (hnc : nc ≤ 600000) (hns : ns ≤ 7302249) {i : Int32} (hv : ∀ k : Nat, k < 10 → vp_in (i + Int32.ofNat k) L) {r : Int32} {σ1 σ2 σ1' σ2' : am_H} (h1 : f_X11_range (xs (i + 1).toNatClampNeg) (xs (i + 2).toNatClampNeg) (decide (¬ (xs (i + 3).toNatClampNeg) = 0)) σ1 = some (r, σ1')) (h2 : f_X12_range (xs (i + 1).toNatClampNeg) (xs (i + 2).toNatClampNeg) (decide (¬ (xs (i + 3).toNatClampNeg) = 0)) σ2 = some (r, σ2')) (kk : am_LG X1 X2 l p e s m below meth c b L xs nc ns 2540 [(0, .ref b), (1, .ref (am_ad X1 11 0)), (2, .ref (am_ad X2 12 0)), (3, .int i)] [] σ1' σ2') : am_LG X1 X2 l p e s m below meth c b L xs nc ns 2123 [(0, .ref b), (1, .ref (am_ad X1 11 0)), (2, .ref (am_ad X2 12 0)), (3, .int i)] [] σ1 σ2 := by
  refine w_aload_n C (pc := 2123) 1 rfl dL_law_2123 rfl ?_
  refine w_aload_n C (pc := 2124) 0 rfl dL_law_2124 rfl ?_
  refine w_iload_n C (pc := 2125) 3 rfl dL_law_2125 rfl ?_
  refine w_iconst C (pc := 2126) (v := 1) dL_law_2126 (by decide) ?_
  refine w_iadd C (pc := 2127) dL_law_2127 ?_
  refine w_sld C (pc := 2128) (hv 1 (by decide)) dL_law_2128 ?_
  refine w_aload_n C (pc := 2129) 0 rfl dL_law_2129 rfl ?_
  refine w_iload_n C (pc := 2130) 3 rfl dL_law_2130 rfl ?_
  refine w_iconst C (pc := 2131) (v := 2) dL_law_2131 (by decide) ?_
  refine w_iadd C (pc := 2132) dL_law_2132 ?_
  refine w_sld C (pc := 2133) (hv 2 (by decide)) dL_law_2133 ?_
  refine w_aload_n C (pc := 2134) 0 rfl dL_law_2134 rfl ?_
  refine w_iload_n C (pc := 2135) 3 rfl dL_law_2135 rfl ?_
  refine w_iconst C (pc := 2136) (v := 3) dL_law_2136 (by decide) ?_
  refine w_iadd C (pc := 2137) dL_law_2137 ?_
  refine w_sld C (pc := 2138) (hv 3 (by decide)) dL_law_2138 ?_
  refine w_nz C (pc := 2139) dL_law_2139 dL_law_2142 dL_law_2143 dL_law_2146 ?_
  refine w_c1 C (pc := 2147) (As := [.int (xs (i + 1).toNatClampNeg), .int (xs (i + 2).toNatClampNeg), .int (am_b (decide (¬ (xs (i + 3).toNatClampNeg) = 0)))]) (st := []) (st1 := [.int r]) kk_11 (in_11 C.2.1.1 (Nat.le_refl 1)) mV_X11_range (tb_6 (List.mem_of_getElem? (i := 84) (by decide +kernel))) rfl (Nat.le_of_ble_eq_true rfl) (Nat.le_of_ble_eq_true rfl) hnc hns (k_X11_range C.2.1 (xs (i + 1).toNatClampNeg) (xs (i + 2).toNatClampNeg) (decide (¬ (xs (i + 3).toNatClampNeg) = 0)) σ1 h1) dL_law_2147 rfl rfl ?_
  refine w_aload_n C (pc := 2150) 2 rfl dL_law_2150 rfl ?_
  refine w_aload_n C (pc := 2151) 0 rfl dL_law_2151 rfl ?_
  refine w_iload_n C (pc := 2152) 3 rfl dL_law_2152 rfl ?_
  refine w_iconst C (pc := 2153) (v := 1) dL_law_2153 (by decide) ?_
  refine w_iadd C (pc := 2154) dL_law_2154 ?_
  refine w_sld C (pc := 2155) (hv 1 (by decide)) dL_law_2155 ?_
  refine w_aload_n C (pc := 2156) 0 rfl dL_law_2156 rfl ?_
  refine w_iload_n C (pc := 2157) 3 rfl dL_law_2157 rfl ?_
  refine w_iconst C (pc := 2158) (v := 2) dL_law_2158 (by decide) ?_
  refine w_iadd C (pc := 2159) dL_law_2159 ?_
  refine w_sld C (pc := 2160) (hv 2 (by decide)) dL_law_2160 ?_
  refine w_aload_n C (pc := 2161) 0 rfl dL_law_2161 rfl ?_
  refine w_iload_n C (pc := 2162) 3 rfl dL_law_2162 rfl ?_
  refine w_iconst C (pc := 2163) (v := 3) dL_law_2163 (by decide) ?_
  refine w_iadd C (pc := 2164) dL_law_2164 ?_
  refine w_sld C (pc := 2165) (hv 3 (by decide)) dL_law_2165 ?_
  refine w_nz C (pc := 2166) dL_law_2166 dL_law_2169 dL_law_2170 dL_law_2173 ?_
  refine w_c2 C (pc := 2174) (As := [.int (xs (i + 1).toNatClampNeg), .int (xs (i + 2).toNatClampNeg), .int (am_b (decide (¬ (xs (i + 3).toNatClampNeg) = 0)))]) (st := [.int r]) (st1 := [.int r, .int r]) kk_12 (in_12 C.2.2.1 (Nat.le_refl 1)) mV_X12_range (tb_10 (List.mem_of_getElem? (i := 45) (by decide +kernel))) rfl (Nat.le_of_ble_eq_true rfl) (Nat.le_of_ble_eq_true rfl) hnc hns (k_X12_range C.2.2.1 (xs (i + 1).toNatClampNeg) (xs (i + 2).toNatClampNeg) (decide (¬ (xs (i + 3).toNatClampNeg) = 0)) σ2 h2) dL_law_2174 rfl rfl ?_
  exact w_ieq C (pc := 2177) 2540 dL_law_2177 rfl kk
set_option maxRecDepth 100000 in
set_option maxHeartbeats 4000000 in
theorem lc_39 {X1 X2 : am_X} {l : Launch} {p : Program} {e : Env} {s : State} {m : MethodId} {below : List Frame} {meth : Method} {c : Code} {b L : Nat} {xs : Nat → Int32} {nc ns : Nat} (C : am_LC X1 X2 l p s m meth c b L xs) (hnc : nc ≤ 600000) (hns : ns ≤ 7302249) {i : Int32} (hv : ∀ k : Nat, k < 10 → vp_in (i + Int32.ofNat k) L) {r : Int32} {σ1 σ2 σ1' σ2' : am_H} (h1 : f_X11_gap (xs (i + 1).toNatClampNeg) (xs (i + 2).toNatClampNeg) (decide (¬ (xs (i + 3).toNatClampNeg) = 0)) (xs (i + 4).toNatClampNeg) σ1 = some (r, σ1')) (h2 : f_X12_gap (xs (i + 1).toNatClampNeg) (xs (i + 2).toNatClampNeg) (decide (¬ (xs (i + 3).toNatClampNeg) = 0)) (xs (i + 4).toNatClampNeg) σ2 = some (r, σ2')) (kk : am_LG X1 X2 l p e s m below meth c b L xs nc ns 2540 [(0, .ref b), (1, .ref (am_ad X1 11 0)), (2, .ref (am_ad X2 12 0)), (3, .int i)] [] σ1' σ2') : am_LG X1 X2 l p e s m below meth c b L xs nc ns 2182 [(0, .ref b), (1, .ref (am_ad X1 11 0)), (2, .ref (am_ad X2 12 0)), (3, .int i)] [] σ1 σ2 := by
  refine w_aload_n C (pc := 2182) 1 rfl dL_law_2182 rfl ?_
  refine w_aload_n C (pc := 2183) 0 rfl dL_law_2183 rfl ?_
  refine w_iload_n C (pc := 2184) 3 rfl dL_law_2184 rfl ?_
  refine w_iconst C (pc := 2185) (v := 1) dL_law_2185 (by decide) ?_
  refine w_iadd C (pc := 2186) dL_law_2186 ?_
  refine w_sld C (pc := 2187) (hv 1 (by decide)) dL_law_2187 ?_
  refine w_aload_n C (pc := 2188) 0 rfl dL_law_2188 rfl ?_
  refine w_iload_n C (pc := 2189) 3 rfl dL_law_2189 rfl ?_
  refine w_iconst C (pc := 2190) (v := 2) dL_law_2190 (by decide) ?_
  refine w_iadd C (pc := 2191) dL_law_2191 ?_
  refine w_sld C (pc := 2192) (hv 2 (by decide)) dL_law_2192 ?_
  refine w_aload_n C (pc := 2193) 0 rfl dL_law_2193 rfl ?_
  refine w_iload_n C (pc := 2194) 3 rfl dL_law_2194 rfl ?_
  refine w_iconst C (pc := 2195) (v := 3) dL_law_2195 (by decide) ?_
  refine w_iadd C (pc := 2196) dL_law_2196 ?_
  refine w_sld C (pc := 2197) (hv 3 (by decide)) dL_law_2197 ?_
  refine w_nz C (pc := 2198) dL_law_2198 dL_law_2201 dL_law_2202 dL_law_2205 ?_
  refine w_aload_n C (pc := 2206) 0 rfl dL_law_2206 rfl ?_
  refine w_iload_n C (pc := 2207) 3 rfl dL_law_2207 rfl ?_
  refine w_iconst C (pc := 2208) (v := 4) dL_law_2208 (by decide) ?_
  refine w_iadd C (pc := 2209) dL_law_2209 ?_
  refine w_sld C (pc := 2210) (hv 4 (by decide)) dL_law_2210 ?_
  refine w_c1 C (pc := 2211) (As := [.int (xs (i + 1).toNatClampNeg), .int (xs (i + 2).toNatClampNeg), .int (am_b (decide (¬ (xs (i + 3).toNatClampNeg) = 0))), .int (xs (i + 4).toNatClampNeg)]) (st := []) (st1 := [.int r]) kk_11 (in_11 C.2.1.1 (Nat.le_refl 1)) mV_X11_gap (tb_6 (List.mem_of_getElem? (i := 93) (by decide +kernel))) rfl (Nat.le_of_ble_eq_true rfl) (Nat.le_of_ble_eq_true rfl) hnc hns (k_X11_gap C.2.1 (xs (i + 1).toNatClampNeg) (xs (i + 2).toNatClampNeg) (decide (¬ (xs (i + 3).toNatClampNeg) = 0)) (xs (i + 4).toNatClampNeg) σ1 h1) dL_law_2211 rfl rfl ?_
  refine w_aload_n C (pc := 2214) 2 rfl dL_law_2214 rfl ?_
  refine w_aload_n C (pc := 2215) 0 rfl dL_law_2215 rfl ?_
  refine w_iload_n C (pc := 2216) 3 rfl dL_law_2216 rfl ?_
  refine w_iconst C (pc := 2217) (v := 1) dL_law_2217 (by decide) ?_
  refine w_iadd C (pc := 2218) dL_law_2218 ?_
  refine w_sld C (pc := 2219) (hv 1 (by decide)) dL_law_2219 ?_
  refine w_aload_n C (pc := 2220) 0 rfl dL_law_2220 rfl ?_
  refine w_iload_n C (pc := 2221) 3 rfl dL_law_2221 rfl ?_
  refine w_iconst C (pc := 2222) (v := 2) dL_law_2222 (by decide) ?_
  refine w_iadd C (pc := 2223) dL_law_2223 ?_
  refine w_sld C (pc := 2224) (hv 2 (by decide)) dL_law_2224 ?_
  refine w_aload_n C (pc := 2225) 0 rfl dL_law_2225 rfl ?_
  refine w_iload_n C (pc := 2226) 3 rfl dL_law_2226 rfl ?_
  refine w_iconst C (pc := 2227) (v := 3) dL_law_2227 (by decide) ?_
  refine w_iadd C (pc := 2228) dL_law_2228 ?_
  refine w_sld C (pc := 2229) (hv 3 (by decide)) dL_law_2229 ?_
  refine w_nz C (pc := 2230) dL_law_2230 dL_law_2233 dL_law_2234 dL_law_2237 ?_
  refine w_aload_n C (pc := 2238) 0 rfl dL_law_2238 rfl ?_
  refine w_iload_n C (pc := 2239) 3 rfl dL_law_2239 rfl ?_
  refine w_iconst C (pc := 2240) (v := 4) dL_law_2240 (by decide) ?_
  refine w_iadd C (pc := 2241) dL_law_2241 ?_
  refine w_sld C (pc := 2242) (hv 4 (by decide)) dL_law_2242 ?_
  refine w_c2 C (pc := 2243) (As := [.int (xs (i + 1).toNatClampNeg), .int (xs (i + 2).toNatClampNeg), .int (am_b (decide (¬ (xs (i + 3).toNatClampNeg) = 0))), .int (xs (i + 4).toNatClampNeg)]) (st := [.int r]) (st1 := [.int r, .int r]) kk_12 (in_12 C.2.2.1 (Nat.le_refl 1)) mV_X12_gap (tb_10 (List.mem_of_getElem? (i := 49) (by decide +kernel))) rfl (Nat.le_of_ble_eq_true rfl) (Nat.le_of_ble_eq_true rfl) hnc hns (k_X12_gap C.2.2.1 (xs (i + 1).toNatClampNeg) (xs (i + 2).toNatClampNeg) (decide (¬ (xs (i + 3).toNatClampNeg) = 0)) (xs (i + 4).toNatClampNeg) σ2 h2) dL_law_2243 rfl rfl ?_
  exact w_ieq C (pc := 2246) 2540 dL_law_2246 rfl kk
set_option maxRecDepth 100000 in
set_option maxHeartbeats 4000000 in
theorem lc_40 {X1 X2 : am_X} {l : Launch} {p : Program} {e : Env} {s : State} {m : MethodId} {below : List Frame} {meth : Method} {c : Code} {b L : Nat} {xs : Nat → Int32} {nc ns : Nat} (C : am_LC X1 X2 l p s m meth c b L xs) (hnc : nc ≤ 600000) (hns : ns ≤ 7302249) {i : Int32} (hv : ∀ k : Nat, k < 10 → vp_in (i + Int32.ofNat k) L) {r : Int32} {σ1 σ2 σ1' σ2' : am_H} (h1 : f_X11_worn (xs (i + 1).toNatClampNeg) (xs (i + 2).toNatClampNeg) (xs (i + 3).toNatClampNeg) (xs (i + 4).toNatClampNeg) σ1 = some (r, σ1')) (h2 : f_X12_worn (xs (i + 1).toNatClampNeg) (xs (i + 2).toNatClampNeg) (xs (i + 3).toNatClampNeg) (xs (i + 4).toNatClampNeg) σ2 = some (r, σ2')) (kk : am_LG X1 X2 l p e s m below meth c b L xs nc ns 2540 [(0, .ref b), (1, .ref (am_ad X1 11 0)), (2, .ref (am_ad X2 12 0)), (3, .int i)] [] σ1' σ2') : am_LG X1 X2 l p e s m below meth c b L xs nc ns 2251 [(0, .ref b), (1, .ref (am_ad X1 11 0)), (2, .ref (am_ad X2 12 0)), (3, .int i)] [] σ1 σ2 := by
  refine w_aload_n C (pc := 2251) 1 rfl dL_law_2251 rfl ?_
  refine w_aload_n C (pc := 2252) 0 rfl dL_law_2252 rfl ?_
  refine w_iload_n C (pc := 2253) 3 rfl dL_law_2253 rfl ?_
  refine w_iconst C (pc := 2254) (v := 1) dL_law_2254 (by decide) ?_
  refine w_iadd C (pc := 2255) dL_law_2255 ?_
  refine w_sld C (pc := 2256) (hv 1 (by decide)) dL_law_2256 ?_
  refine w_aload_n C (pc := 2257) 0 rfl dL_law_2257 rfl ?_
  refine w_iload_n C (pc := 2258) 3 rfl dL_law_2258 rfl ?_
  refine w_iconst C (pc := 2259) (v := 2) dL_law_2259 (by decide) ?_
  refine w_iadd C (pc := 2260) dL_law_2260 ?_
  refine w_sld C (pc := 2261) (hv 2 (by decide)) dL_law_2261 ?_
  refine w_aload_n C (pc := 2262) 0 rfl dL_law_2262 rfl ?_
  refine w_iload_n C (pc := 2263) 3 rfl dL_law_2263 rfl ?_
  refine w_iconst C (pc := 2264) (v := 3) dL_law_2264 (by decide) ?_
  refine w_iadd C (pc := 2265) dL_law_2265 ?_
  refine w_sld C (pc := 2266) (hv 3 (by decide)) dL_law_2266 ?_
  refine w_aload_n C (pc := 2267) 0 rfl dL_law_2267 rfl ?_
  refine w_iload_n C (pc := 2268) 3 rfl dL_law_2268 rfl ?_
  refine w_iconst C (pc := 2269) (v := 4) dL_law_2269 (by decide) ?_
  refine w_iadd C (pc := 2270) dL_law_2270 ?_
  refine w_sld C (pc := 2271) (hv 4 (by decide)) dL_law_2271 ?_
  refine w_c1 C (pc := 2272) (As := [.int (xs (i + 1).toNatClampNeg), .int (xs (i + 2).toNatClampNeg), .int (xs (i + 3).toNatClampNeg), .int (xs (i + 4).toNatClampNeg)]) (st := []) (st1 := [.int r]) kk_11 (in_11 C.2.1.1 (Nat.le_refl 1)) mV_X11_worn (tb_6 (List.mem_of_getElem? (i := 99) (by decide +kernel))) rfl (Nat.le_of_ble_eq_true rfl) (Nat.le_of_ble_eq_true rfl) hnc hns (k_X11_worn C.2.1 (xs (i + 1).toNatClampNeg) (xs (i + 2).toNatClampNeg) (xs (i + 3).toNatClampNeg) (xs (i + 4).toNatClampNeg) σ1 h1) dL_law_2272 rfl rfl ?_
  refine w_aload_n C (pc := 2275) 2 rfl dL_law_2275 rfl ?_
  refine w_aload_n C (pc := 2276) 0 rfl dL_law_2276 rfl ?_
  refine w_iload_n C (pc := 2277) 3 rfl dL_law_2277 rfl ?_
  refine w_iconst C (pc := 2278) (v := 1) dL_law_2278 (by decide) ?_
  refine w_iadd C (pc := 2279) dL_law_2279 ?_
  refine w_sld C (pc := 2280) (hv 1 (by decide)) dL_law_2280 ?_
  refine w_aload_n C (pc := 2281) 0 rfl dL_law_2281 rfl ?_
  refine w_iload_n C (pc := 2282) 3 rfl dL_law_2282 rfl ?_
  refine w_iconst C (pc := 2283) (v := 2) dL_law_2283 (by decide) ?_
  refine w_iadd C (pc := 2284) dL_law_2284 ?_
  refine w_sld C (pc := 2285) (hv 2 (by decide)) dL_law_2285 ?_
  refine w_aload_n C (pc := 2286) 0 rfl dL_law_2286 rfl ?_
  refine w_iload_n C (pc := 2287) 3 rfl dL_law_2287 rfl ?_
  refine w_iconst C (pc := 2288) (v := 3) dL_law_2288 (by decide) ?_
  refine w_iadd C (pc := 2289) dL_law_2289 ?_
  refine w_sld C (pc := 2290) (hv 3 (by decide)) dL_law_2290 ?_
  refine w_aload_n C (pc := 2291) 0 rfl dL_law_2291 rfl ?_
  refine w_iload_n C (pc := 2292) 3 rfl dL_law_2292 rfl ?_
  refine w_iconst C (pc := 2293) (v := 4) dL_law_2293 (by decide) ?_
  refine w_iadd C (pc := 2294) dL_law_2294 ?_
  refine w_sld C (pc := 2295) (hv 4 (by decide)) dL_law_2295 ?_
  refine w_c2 C (pc := 2296) (As := [.int (xs (i + 1).toNatClampNeg), .int (xs (i + 2).toNatClampNeg), .int (xs (i + 3).toNatClampNeg), .int (xs (i + 4).toNatClampNeg)]) (st := [.int r]) (st1 := [.int r, .int r]) kk_12 (in_12 C.2.2.1 (Nat.le_refl 1)) mV_X12_worn (tb_10 (List.mem_of_getElem? (i := 53) (by decide +kernel))) rfl (Nat.le_of_ble_eq_true rfl) (Nat.le_of_ble_eq_true rfl) hnc hns (k_X12_worn C.2.2.1 (xs (i + 1).toNatClampNeg) (xs (i + 2).toNatClampNeg) (xs (i + 3).toNatClampNeg) (xs (i + 4).toNatClampNeg) σ2 h2) dL_law_2296 rfl rfl ?_
  exact w_ieq C (pc := 2299) 2540 dL_law_2299 rfl kk
set_option maxRecDepth 100000 in
set_option maxHeartbeats 4000000 in
theorem lc_41 {X1 X2 : am_X} {l : Launch} {p : Program} {e : Env} {s : State} {m : MethodId} {below : List Frame} {meth : Method} {c : Code} {b L : Nat} {xs : Nat → Int32} {nc ns : Nat} (C : am_LC X1 X2 l p s m meth c b L xs) (hnc : nc ≤ 600000) (hns : ns ≤ 7302249) {i : Int32} (hv : ∀ k : Nat, k < 10 → vp_in (i + Int32.ofNat k) L) {r : Int32} {σ1 σ2 σ1' σ2' : am_H} (h1 : f_X11_lasts (xs (i + 1).toNatClampNeg) (xs (i + 2).toNatClampNeg) σ1 = some (r, σ1')) (h2 : f_X12_lasts (xs (i + 1).toNatClampNeg) (xs (i + 2).toNatClampNeg) σ2 = some (r, σ2')) (kk : am_LG X1 X2 l p e s m below meth c b L xs nc ns 2540 [(0, .ref b), (1, .ref (am_ad X1 11 0)), (2, .ref (am_ad X2 12 0)), (3, .int i)] [] σ1' σ2') : am_LG X1 X2 l p e s m below meth c b L xs nc ns 2304 [(0, .ref b), (1, .ref (am_ad X1 11 0)), (2, .ref (am_ad X2 12 0)), (3, .int i)] [] σ1 σ2 := by
  refine w_aload_n C (pc := 2304) 1 rfl dL_law_2304 rfl ?_
  refine w_aload_n C (pc := 2305) 0 rfl dL_law_2305 rfl ?_
  refine w_iload_n C (pc := 2306) 3 rfl dL_law_2306 rfl ?_
  refine w_iconst C (pc := 2307) (v := 1) dL_law_2307 (by decide) ?_
  refine w_iadd C (pc := 2308) dL_law_2308 ?_
  refine w_sld C (pc := 2309) (hv 1 (by decide)) dL_law_2309 ?_
  refine w_aload_n C (pc := 2310) 0 rfl dL_law_2310 rfl ?_
  refine w_iload_n C (pc := 2311) 3 rfl dL_law_2311 rfl ?_
  refine w_iconst C (pc := 2312) (v := 2) dL_law_2312 (by decide) ?_
  refine w_iadd C (pc := 2313) dL_law_2313 ?_
  refine w_sld C (pc := 2314) (hv 2 (by decide)) dL_law_2314 ?_
  refine w_c1 C (pc := 2315) (As := [.int (xs (i + 1).toNatClampNeg), .int (xs (i + 2).toNatClampNeg)]) (st := []) (st1 := [.int r]) kk_11 (in_11 C.2.1.1 (Nat.le_refl 1)) mV_X11_lasts (tb_6 (List.mem_of_getElem? (i := 108) (by decide +kernel))) rfl (Nat.le_of_ble_eq_true rfl) (Nat.le_of_ble_eq_true rfl) hnc hns (k_X11_lasts C.2.1 (xs (i + 1).toNatClampNeg) (xs (i + 2).toNatClampNeg) σ1 h1) dL_law_2315 rfl rfl ?_
  refine w_aload_n C (pc := 2318) 2 rfl dL_law_2318 rfl ?_
  refine w_aload_n C (pc := 2319) 0 rfl dL_law_2319 rfl ?_
  refine w_iload_n C (pc := 2320) 3 rfl dL_law_2320 rfl ?_
  refine w_iconst C (pc := 2321) (v := 1) dL_law_2321 (by decide) ?_
  refine w_iadd C (pc := 2322) dL_law_2322 ?_
  refine w_sld C (pc := 2323) (hv 1 (by decide)) dL_law_2323 ?_
  refine w_aload_n C (pc := 2324) 0 rfl dL_law_2324 rfl ?_
  refine w_iload_n C (pc := 2325) 3 rfl dL_law_2325 rfl ?_
  refine w_iconst C (pc := 2326) (v := 2) dL_law_2326 (by decide) ?_
  refine w_iadd C (pc := 2327) dL_law_2327 ?_
  refine w_sld C (pc := 2328) (hv 2 (by decide)) dL_law_2328 ?_
  refine w_c2 C (pc := 2329) (As := [.int (xs (i + 1).toNatClampNeg), .int (xs (i + 2).toNatClampNeg)]) (st := [.int r]) (st1 := [.int r, .int r]) kk_12 (in_12 C.2.2.1 (Nat.le_refl 1)) mV_X12_lasts (tb_10 (List.mem_of_getElem? (i := 65) (by decide +kernel))) rfl (Nat.le_of_ble_eq_true rfl) (Nat.le_of_ble_eq_true rfl) hnc hns (k_X12_lasts C.2.2.1 (xs (i + 1).toNatClampNeg) (xs (i + 2).toNatClampNeg) σ2 h2) dL_law_2329 rfl rfl ?_
  exact w_ieq C (pc := 2332) 2540 dL_law_2332 rfl kk
set_option maxRecDepth 100000 in
set_option maxHeartbeats 4000000 in
theorem lc_42 {X1 X2 : am_X} {l : Launch} {p : Program} {e : Env} {s : State} {m : MethodId} {below : List Frame} {meth : Method} {c : Code} {b L : Nat} {xs : Nat → Int32} {nc ns : Nat} (C : am_LC X1 X2 l p s m meth c b L xs) (hnc : nc ≤ 600000) (hns : ns ≤ 7302249) {i : Int32} (hv : ∀ k : Nat, k < 10 → vp_in (i + Int32.ofNat k) L) {r : Int64} {σ1 σ2 σ1' σ2' : am_H} (h1 : f_X11_trade (xs (i + 1).toNatClampNeg) σ1 = some (r, σ1')) (h2 : f_X12_trade (xs (i + 1).toNatClampNeg) σ2 = some (r, σ2')) (kk : am_LG X1 X2 l p e s m below meth c b L xs nc ns 2540 [(0, .ref b), (1, .ref (am_ad X1 11 0)), (2, .ref (am_ad X2 12 0)), (3, .int i)] [] σ1' σ2') : am_LG X1 X2 l p e s m below meth c b L xs nc ns 2337 [(0, .ref b), (1, .ref (am_ad X1 11 0)), (2, .ref (am_ad X2 12 0)), (3, .int i)] [] σ1 σ2 := by
  refine w_aload_n C (pc := 2337) 1 rfl dL_law_2337 rfl ?_
  refine w_aload_n C (pc := 2338) 0 rfl dL_law_2338 rfl ?_
  refine w_iload_n C (pc := 2339) 3 rfl dL_law_2339 rfl ?_
  refine w_iconst C (pc := 2340) (v := 1) dL_law_2340 (by decide) ?_
  refine w_iadd C (pc := 2341) dL_law_2341 ?_
  refine w_sld C (pc := 2342) (hv 1 (by decide)) dL_law_2342 ?_
  refine w_c1 C (pc := 2343) (As := [.int (xs (i + 1).toNatClampNeg)]) (st := []) (st1 := [.long r]) kk_11 (in_11 C.2.1.1 (Nat.le_refl 1)) mV_X11_trade (tb_6 (List.mem_of_getElem? (i := 131) (by decide +kernel))) rfl (Nat.le_of_ble_eq_true rfl) (Nat.le_of_ble_eq_true rfl) hnc hns (k_X11_trade C.2.1 (xs (i + 1).toNatClampNeg) σ1 h1) dL_law_2343 rfl rfl ?_
  refine w_aload_n C (pc := 2346) 2 rfl dL_law_2346 rfl ?_
  refine w_aload_n C (pc := 2347) 0 rfl dL_law_2347 rfl ?_
  refine w_iload_n C (pc := 2348) 3 rfl dL_law_2348 rfl ?_
  refine w_iconst C (pc := 2349) (v := 1) dL_law_2349 (by decide) ?_
  refine w_iadd C (pc := 2350) dL_law_2350 ?_
  refine w_sld C (pc := 2351) (hv 1 (by decide)) dL_law_2351 ?_
  refine w_c2 C (pc := 2352) (As := [.int (xs (i + 1).toNatClampNeg)]) (st := [.long r]) (st1 := [.long r, .long r]) kk_12 (in_12 C.2.2.1 (Nat.le_refl 1)) mV_X12_trade (tb_10 (List.mem_of_getElem? (i := 74) (by decide +kernel))) rfl (Nat.le_of_ble_eq_true rfl) (Nat.le_of_ble_eq_true rfl) hnc hns (k_X12_trade C.2.2.1 (xs (i + 1).toNatClampNeg) σ2 h2) dL_law_2352 rfl rfl ?_
  exact w_leq C (pc := 2355) 2540 dL_law_2355 dL_law_2356 rfl kk
set_option maxRecDepth 100000 in
set_option maxHeartbeats 4000000 in
theorem lc_43 {X1 X2 : am_X} {l : Launch} {p : Program} {e : Env} {s : State} {m : MethodId} {below : List Frame} {meth : Method} {c : Code} {b L : Nat} {xs : Nat → Int32} {nc ns : Nat} (C : am_LC X1 X2 l p s m meth c b L xs) (hnc : nc ≤ 600000) (hns : ns ≤ 7302249) {i : Int32} (hv : ∀ k : Nat, k < 10 → vp_in (i + Int32.ofNat k) L) {r : Int32} {σ1 σ2 σ1' σ2' : am_H} (h1 : f_X11_traded (xs (i + 1).toNatClampNeg) σ1 = some (r, σ1')) (h2 : f_X12_traded (xs (i + 1).toNatClampNeg) σ2 = some (r, σ2')) (kk : am_LG X1 X2 l p e s m below meth c b L xs nc ns 2540 [(0, .ref b), (1, .ref (am_ad X1 11 0)), (2, .ref (am_ad X2 12 0)), (3, .int i)] [] σ1' σ2') : am_LG X1 X2 l p e s m below meth c b L xs nc ns 2361 [(0, .ref b), (1, .ref (am_ad X1 11 0)), (2, .ref (am_ad X2 12 0)), (3, .int i)] [] σ1 σ2 := by
  refine w_aload_n C (pc := 2361) 1 rfl dL_law_2361 rfl ?_
  refine w_aload_n C (pc := 2362) 0 rfl dL_law_2362 rfl ?_
  refine w_iload_n C (pc := 2363) 3 rfl dL_law_2363 rfl ?_
  refine w_iconst C (pc := 2364) (v := 1) dL_law_2364 (by decide) ?_
  refine w_iadd C (pc := 2365) dL_law_2365 ?_
  refine w_sld C (pc := 2366) (hv 1 (by decide)) dL_law_2366 ?_
  refine w_c1 C (pc := 2367) (As := [.int (xs (i + 1).toNatClampNeg)]) (st := []) (st1 := [.int r]) kk_11 (in_11 C.2.1.1 (Nat.le_refl 1)) mV_X11_traded (tb_6 (List.mem_of_getElem? (i := 167) (by decide +kernel))) rfl (Nat.le_of_ble_eq_true rfl) (Nat.le_of_ble_eq_true rfl) hnc hns (k_X11_traded C.2.1 (xs (i + 1).toNatClampNeg) σ1 h1) dL_law_2367 rfl rfl ?_
  refine w_aload_n C (pc := 2370) 2 rfl dL_law_2370 rfl ?_
  refine w_aload_n C (pc := 2371) 0 rfl dL_law_2371 rfl ?_
  refine w_iload_n C (pc := 2372) 3 rfl dL_law_2372 rfl ?_
  refine w_iconst C (pc := 2373) (v := 1) dL_law_2373 (by decide) ?_
  refine w_iadd C (pc := 2374) dL_law_2374 ?_
  refine w_sld C (pc := 2375) (hv 1 (by decide)) dL_law_2375 ?_
  refine w_c2 C (pc := 2376) (As := [.int (xs (i + 1).toNatClampNeg)]) (st := [.int r]) (st1 := [.int r, .int r]) kk_12 (in_12 C.2.2.1 (Nat.le_refl 1)) mV_X12_traded (tb_10 (List.mem_of_getElem? (i := 86) (by decide +kernel))) rfl (Nat.le_of_ble_eq_true rfl) (Nat.le_of_ble_eq_true rfl) hnc hns (k_X12_traded C.2.2.1 (xs (i + 1).toNatClampNeg) σ2 h2) dL_law_2376 rfl rfl ?_
  exact w_ieq C (pc := 2379) 2540 dL_law_2379 rfl kk
set_option maxRecDepth 100000 in
set_option maxHeartbeats 4000000 in
theorem lc_44 {X1 X2 : am_X} {l : Launch} {p : Program} {e : Env} {s : State} {m : MethodId} {below : List Frame} {meth : Method} {c : Code} {b L : Nat} {xs : Nat → Int32} {nc ns : Nat} (C : am_LC X1 X2 l p s m meth c b L xs) (hnc : nc ≤ 600000) (hns : ns ≤ 7302249) {i : Int32} (hv : ∀ k : Nat, k < 10 → vp_in (i + Int32.ofNat k) L) {r : Int32} {σ1 σ2 σ1' σ2' : am_H} (h1 : f_X11_orders (xs (i + 1).toNatClampNeg) σ1 = some (r, σ1')) (h2 : f_X12_orders (xs (i + 1).toNatClampNeg) σ2 = some (r, σ2')) (kk : am_LG X1 X2 l p e s m below meth c b L xs nc ns 2540 [(0, .ref b), (1, .ref (am_ad X1 11 0)), (2, .ref (am_ad X2 12 0)), (3, .int i)] [] σ1' σ2') : am_LG X1 X2 l p e s m below meth c b L xs nc ns 2384 [(0, .ref b), (1, .ref (am_ad X1 11 0)), (2, .ref (am_ad X2 12 0)), (3, .int i)] [] σ1 σ2 := by
  refine w_aload_n C (pc := 2384) 1 rfl dL_law_2384 rfl ?_
  refine w_aload_n C (pc := 2385) 0 rfl dL_law_2385 rfl ?_
  refine w_iload_n C (pc := 2386) 3 rfl dL_law_2386 rfl ?_
  refine w_iconst C (pc := 2387) (v := 1) dL_law_2387 (by decide) ?_
  refine w_iadd C (pc := 2388) dL_law_2388 ?_
  refine w_sld C (pc := 2389) (hv 1 (by decide)) dL_law_2389 ?_
  refine w_c1 C (pc := 2390) (As := [.int (xs (i + 1).toNatClampNeg)]) (st := []) (st1 := [.int r]) kk_11 (in_11 C.2.1.1 (Nat.le_refl 1)) mV_X11_orders (tb_6 (List.mem_of_getElem? (i := 171) (by decide +kernel))) rfl (Nat.le_of_ble_eq_true rfl) (Nat.le_of_ble_eq_true rfl) hnc hns (k_X11_orders C.2.1 (xs (i + 1).toNatClampNeg) σ1 h1) dL_law_2390 rfl rfl ?_
  refine w_aload_n C (pc := 2393) 2 rfl dL_law_2393 rfl ?_
  refine w_aload_n C (pc := 2394) 0 rfl dL_law_2394 rfl ?_
  refine w_iload_n C (pc := 2395) 3 rfl dL_law_2395 rfl ?_
  refine w_iconst C (pc := 2396) (v := 1) dL_law_2396 (by decide) ?_
  refine w_iadd C (pc := 2397) dL_law_2397 ?_
  refine w_sld C (pc := 2398) (hv 1 (by decide)) dL_law_2398 ?_
  refine w_c2 C (pc := 2399) (As := [.int (xs (i + 1).toNatClampNeg)]) (st := [.int r]) (st1 := [.int r, .int r]) kk_12 (in_12 C.2.2.1 (Nat.le_refl 1)) mV_X12_orders (tb_10 (List.mem_of_getElem? (i := 90) (by decide +kernel))) rfl (Nat.le_of_ble_eq_true rfl) (Nat.le_of_ble_eq_true rfl) hnc hns (k_X12_orders C.2.2.1 (xs (i + 1).toNatClampNeg) σ2 h2) dL_law_2399 rfl rfl ?_
  exact w_ieq C (pc := 2402) 2540 dL_law_2402 rfl kk
set_option maxRecDepth 100000 in
set_option maxHeartbeats 4000000 in
theorem lc_45 {X1 X2 : am_X} {l : Launch} {p : Program} {e : Env} {s : State} {m : MethodId} {below : List Frame} {meth : Method} {c : Code} {b L : Nat} {xs : Nat → Int32} {nc ns : Nat} (C : am_LC X1 X2 l p s m meth c b L xs) (hnc : nc ≤ 600000) (hns : ns ≤ 7302249) {i : Int32} (hv : ∀ k : Nat, k < 10 → vp_in (i + Int32.ofNat k) L) {r : Int32} {σ1 σ2 σ1' σ2' : am_H} (h1 : f_X11_obey (xs (i + 1).toNatClampNeg) (xs (i + 2).toNatClampNeg) σ1 = some (r, σ1')) (h2 : f_X12_obey (xs (i + 1).toNatClampNeg) (xs (i + 2).toNatClampNeg) σ2 = some (r, σ2')) (kk : am_LG X1 X2 l p e s m below meth c b L xs nc ns 2540 [(0, .ref b), (1, .ref (am_ad X1 11 0)), (2, .ref (am_ad X2 12 0)), (3, .int i)] [] σ1' σ2') : am_LG X1 X2 l p e s m below meth c b L xs nc ns 2407 [(0, .ref b), (1, .ref (am_ad X1 11 0)), (2, .ref (am_ad X2 12 0)), (3, .int i)] [] σ1 σ2 := by
  refine w_aload_n C (pc := 2407) 1 rfl dL_law_2407 rfl ?_
  refine w_aload_n C (pc := 2408) 0 rfl dL_law_2408 rfl ?_
  refine w_iload_n C (pc := 2409) 3 rfl dL_law_2409 rfl ?_
  refine w_iconst C (pc := 2410) (v := 1) dL_law_2410 (by decide) ?_
  refine w_iadd C (pc := 2411) dL_law_2411 ?_
  refine w_sld C (pc := 2412) (hv 1 (by decide)) dL_law_2412 ?_
  refine w_aload_n C (pc := 2413) 0 rfl dL_law_2413 rfl ?_
  refine w_iload_n C (pc := 2414) 3 rfl dL_law_2414 rfl ?_
  refine w_iconst C (pc := 2415) (v := 2) dL_law_2415 (by decide) ?_
  refine w_iadd C (pc := 2416) dL_law_2416 ?_
  refine w_sld C (pc := 2417) (hv 2 (by decide)) dL_law_2417 ?_
  refine w_c1 C (pc := 2418) (As := [.int (xs (i + 1).toNatClampNeg), .int (xs (i + 2).toNatClampNeg)]) (st := []) (st1 := [.int r]) kk_11 (in_11 C.2.1.1 (Nat.le_refl 1)) mV_X11_obey (tb_6 (List.mem_of_getElem? (i := 224) (by decide +kernel))) rfl (Nat.le_of_ble_eq_true rfl) (Nat.le_of_ble_eq_true rfl) hnc hns (k_X11_obey C.2.1 (xs (i + 1).toNatClampNeg) (xs (i + 2).toNatClampNeg) σ1 h1) dL_law_2418 rfl rfl ?_
  refine w_aload_n C (pc := 2421) 2 rfl dL_law_2421 rfl ?_
  refine w_aload_n C (pc := 2422) 0 rfl dL_law_2422 rfl ?_
  refine w_iload_n C (pc := 2423) 3 rfl dL_law_2423 rfl ?_
  refine w_iconst C (pc := 2424) (v := 1) dL_law_2424 (by decide) ?_
  refine w_iadd C (pc := 2425) dL_law_2425 ?_
  refine w_sld C (pc := 2426) (hv 1 (by decide)) dL_law_2426 ?_
  refine w_aload_n C (pc := 2427) 0 rfl dL_law_2427 rfl ?_
  refine w_iload_n C (pc := 2428) 3 rfl dL_law_2428 rfl ?_
  refine w_iconst C (pc := 2429) (v := 2) dL_law_2429 (by decide) ?_
  refine w_iadd C (pc := 2430) dL_law_2430 ?_
  refine w_sld C (pc := 2431) (hv 2 (by decide)) dL_law_2431 ?_
  refine w_c2 C (pc := 2432) (As := [.int (xs (i + 1).toNatClampNeg), .int (xs (i + 2).toNatClampNeg)]) (st := [.int r]) (st1 := [.int r, .int r]) kk_12 (in_12 C.2.2.1 (Nat.le_refl 1)) mV_X12_obey (tb_10 (List.mem_of_getElem? (i := 114) (by decide +kernel))) rfl (Nat.le_of_ble_eq_true rfl) (Nat.le_of_ble_eq_true rfl) hnc hns (k_X12_obey C.2.2.1 (xs (i + 1).toNatClampNeg) (xs (i + 2).toNatClampNeg) σ2 h2) dL_law_2432 rfl rfl ?_
  exact w_ieq C (pc := 2435) 2540 dL_law_2435 rfl kk
set_option maxRecDepth 100000 in
set_option maxHeartbeats 4000000 in
theorem lc_46 {X1 X2 : am_X} {l : Launch} {p : Program} {e : Env} {s : State} {m : MethodId} {below : List Frame} {meth : Method} {c : Code} {b L : Nat} {xs : Nat → Int32} {nc ns : Nat} (C : am_LC X1 X2 l p s m meth c b L xs) (hnc : nc ≤ 600000) (hns : ns ≤ 7302249) {i : Int32} (hv : ∀ k : Nat, k < 10 → vp_in (i + Int32.ofNat k) L) {r : Int64} {σ1 σ2 σ1' σ2' : am_H} (h1 : f_X11_obeyed (xs (i + 1).toNatClampNeg) σ1 = some (r, σ1')) (h2 : f_X12_obeyed (xs (i + 1).toNatClampNeg) σ2 = some (r, σ2')) (kk : am_LG X1 X2 l p e s m below meth c b L xs nc ns 2540 [(0, .ref b), (1, .ref (am_ad X1 11 0)), (2, .ref (am_ad X2 12 0)), (3, .int i)] [] σ1' σ2') : am_LG X1 X2 l p e s m below meth c b L xs nc ns 2440 [(0, .ref b), (1, .ref (am_ad X1 11 0)), (2, .ref (am_ad X2 12 0)), (3, .int i)] [] σ1 σ2 := by
  refine w_aload_n C (pc := 2440) 1 rfl dL_law_2440 rfl ?_
  refine w_aload_n C (pc := 2441) 0 rfl dL_law_2441 rfl ?_
  refine w_iload_n C (pc := 2442) 3 rfl dL_law_2442 rfl ?_
  refine w_iconst C (pc := 2443) (v := 1) dL_law_2443 (by decide) ?_
  refine w_iadd C (pc := 2444) dL_law_2444 ?_
  refine w_sld C (pc := 2445) (hv 1 (by decide)) dL_law_2445 ?_
  refine w_c1 C (pc := 2446) (As := [.int (xs (i + 1).toNatClampNeg)]) (st := []) (st1 := [.long r]) kk_11 (in_11 C.2.1.1 (Nat.le_refl 1)) mV_X11_obeyed (tb_7 (List.mem_of_getElem? (i := 30) (by decide +kernel))) rfl (Nat.le_of_ble_eq_true rfl) (Nat.le_of_ble_eq_true rfl) hnc hns (k_X11_obeyed C.2.1 (xs (i + 1).toNatClampNeg) σ1 h1) dL_law_2446 rfl rfl ?_
  refine w_aload_n C (pc := 2449) 2 rfl dL_law_2449 rfl ?_
  refine w_aload_n C (pc := 2450) 0 rfl dL_law_2450 rfl ?_
  refine w_iload_n C (pc := 2451) 3 rfl dL_law_2451 rfl ?_
  refine w_iconst C (pc := 2452) (v := 1) dL_law_2452 (by decide) ?_
  refine w_iadd C (pc := 2453) dL_law_2453 ?_
  refine w_sld C (pc := 2454) (hv 1 (by decide)) dL_law_2454 ?_
  refine w_c2 C (pc := 2455) (As := [.int (xs (i + 1).toNatClampNeg)]) (st := [.long r]) (st1 := [.long r, .long r]) kk_12 (in_12 C.2.2.1 (Nat.le_refl 1)) mV_X12_obeyed (tb_10 (List.mem_of_getElem? (i := 134) (by decide +kernel))) rfl (Nat.le_of_ble_eq_true rfl) (Nat.le_of_ble_eq_true rfl) hnc hns (k_X12_obeyed C.2.2.1 (xs (i + 1).toNatClampNeg) σ2 h2) dL_law_2455 rfl rfl ?_
  exact w_leq C (pc := 2458) 2540 dL_law_2458 dL_law_2459 rfl kk
set_option maxRecDepth 100000 in
set_option maxHeartbeats 4000000 in
theorem lc_47 {X1 X2 : am_X} {l : Launch} {p : Program} {e : Env} {s : State} {m : MethodId} {below : List Frame} {meth : Method} {c : Code} {b L : Nat} {xs : Nat → Int32} {nc ns : Nat} (C : am_LC X1 X2 l p s m meth c b L xs) (hnc : nc ≤ 600000) (hns : ns ≤ 7302249) {i : Int32} (hv : ∀ k : Nat, k < 10 → vp_in (i + Int32.ofNat k) L) {r : Int32} {σ1 σ2 σ1' σ2' : am_H} (h1 : f_X11_marked (xs (i + 1).toNatClampNeg) σ1 = some (r, σ1')) (h2 : f_X12_marked (xs (i + 1).toNatClampNeg) σ2 = some (r, σ2')) (kk : am_LG X1 X2 l p e s m below meth c b L xs nc ns 2540 [(0, .ref b), (1, .ref (am_ad X1 11 0)), (2, .ref (am_ad X2 12 0)), (3, .int i)] [] σ1' σ2') : am_LG X1 X2 l p e s m below meth c b L xs nc ns 2464 [(0, .ref b), (1, .ref (am_ad X1 11 0)), (2, .ref (am_ad X2 12 0)), (3, .int i)] [] σ1 σ2 := by
  refine w_aload_n C (pc := 2464) 1 rfl dL_law_2464 rfl ?_
  refine w_aload_n C (pc := 2465) 0 rfl dL_law_2465 rfl ?_
  refine w_iload_n C (pc := 2466) 3 rfl dL_law_2466 rfl ?_
  refine w_iconst C (pc := 2467) (v := 1) dL_law_2467 (by decide) ?_
  refine w_iadd C (pc := 2468) dL_law_2468 ?_
  refine w_sld C (pc := 2469) (hv 1 (by decide)) dL_law_2469 ?_
  refine w_c1 C (pc := 2470) (As := [.int (xs (i + 1).toNatClampNeg)]) (st := []) (st1 := [.int r]) kk_11 (in_11 C.2.1.1 (Nat.le_refl 1)) mV_X11_marked (tb_7 (List.mem_of_getElem? (i := 34) (by decide +kernel))) rfl (Nat.le_of_ble_eq_true rfl) (Nat.le_of_ble_eq_true rfl) hnc hns (k_X11_marked C.2.1 (xs (i + 1).toNatClampNeg) σ1 h1) dL_law_2470 rfl rfl ?_
  refine w_aload_n C (pc := 2473) 2 rfl dL_law_2473 rfl ?_
  refine w_aload_n C (pc := 2474) 0 rfl dL_law_2474 rfl ?_
  refine w_iload_n C (pc := 2475) 3 rfl dL_law_2475 rfl ?_
  refine w_iconst C (pc := 2476) (v := 1) dL_law_2476 (by decide) ?_
  refine w_iadd C (pc := 2477) dL_law_2477 ?_
  refine w_sld C (pc := 2478) (hv 1 (by decide)) dL_law_2478 ?_
  refine w_c2 C (pc := 2479) (As := [.int (xs (i + 1).toNatClampNeg)]) (st := [.int r]) (st1 := [.int r, .int r]) kk_12 (in_12 C.2.2.1 (Nat.le_refl 1)) mV_X12_marked (tb_10 (List.mem_of_getElem? (i := 138) (by decide +kernel))) rfl (Nat.le_of_ble_eq_true rfl) (Nat.le_of_ble_eq_true rfl) hnc hns (k_X12_marked C.2.2.1 (xs (i + 1).toNatClampNeg) σ2 h2) dL_law_2479 rfl rfl ?_
  exact w_ieq C (pc := 2482) 2540 dL_law_2482 rfl kk
set_option maxRecDepth 100000 in
set_option maxHeartbeats 4000000 in
theorem lc_48 {X1 X2 : am_X} {l : Launch} {p : Program} {e : Env} {s : State} {m : MethodId} {below : List Frame} {meth : Method} {c : Code} {b L : Nat} {xs : Nat → Int32} {nc ns : Nat} (C : am_LC X1 X2 l p s m meth c b L xs) (hnc : nc ≤ 600000) (hns : ns ≤ 7302249) {i : Int32} (hv : ∀ k : Nat, k < 10 → vp_in (i + Int32.ofNat k) L) {r : Int32} {σ1 σ2 σ1' σ2' : am_H} (h1 : f_X11_table (xs (i + 1).toNatClampNeg) (xs (i + 2).toNatClampNeg) (xs (i + 3).toNatClampNeg) (xs (i + 4).toNatClampNeg) σ1 = some (r, σ1')) (h2 : f_X12_table (xs (i + 1).toNatClampNeg) (xs (i + 2).toNatClampNeg) (xs (i + 3).toNatClampNeg) (xs (i + 4).toNatClampNeg) σ2 = some (r, σ2')) (kk : am_LG X1 X2 l p e s m below meth c b L xs nc ns 2540 [(0, .ref b), (1, .ref (am_ad X1 11 0)), (2, .ref (am_ad X2 12 0)), (3, .int i)] [] σ1' σ2') : am_LG X1 X2 l p e s m below meth c b L xs nc ns 2487 [(0, .ref b), (1, .ref (am_ad X1 11 0)), (2, .ref (am_ad X2 12 0)), (3, .int i)] [] σ1 σ2 := by
  refine w_aload_n C (pc := 2487) 1 rfl dL_law_2487 rfl ?_
  refine w_aload_n C (pc := 2488) 0 rfl dL_law_2488 rfl ?_
  refine w_iload_n C (pc := 2489) 3 rfl dL_law_2489 rfl ?_
  refine w_iconst C (pc := 2490) (v := 1) dL_law_2490 (by decide) ?_
  refine w_iadd C (pc := 2491) dL_law_2491 ?_
  refine w_sld C (pc := 2492) (hv 1 (by decide)) dL_law_2492 ?_
  refine w_aload_n C (pc := 2493) 0 rfl dL_law_2493 rfl ?_
  refine w_iload_n C (pc := 2494) 3 rfl dL_law_2494 rfl ?_
  refine w_iconst C (pc := 2495) (v := 2) dL_law_2495 (by decide) ?_
  refine w_iadd C (pc := 2496) dL_law_2496 ?_
  refine w_sld C (pc := 2497) (hv 2 (by decide)) dL_law_2497 ?_
  refine w_aload_n C (pc := 2498) 0 rfl dL_law_2498 rfl ?_
  refine w_iload_n C (pc := 2499) 3 rfl dL_law_2499 rfl ?_
  refine w_iconst C (pc := 2500) (v := 3) dL_law_2500 (by decide) ?_
  refine w_iadd C (pc := 2501) dL_law_2501 ?_
  refine w_sld C (pc := 2502) (hv 3 (by decide)) dL_law_2502 ?_
  refine w_aload_n C (pc := 2503) 0 rfl dL_law_2503 rfl ?_
  refine w_iload_n C (pc := 2504) 3 rfl dL_law_2504 rfl ?_
  refine w_iconst C (pc := 2505) (v := 4) dL_law_2505 (by decide) ?_
  refine w_iadd C (pc := 2506) dL_law_2506 ?_
  refine w_sld C (pc := 2507) (hv 4 (by decide)) dL_law_2507 ?_
  refine w_c1 C (pc := 2508) (As := [.int (xs (i + 1).toNatClampNeg), .int (xs (i + 2).toNatClampNeg), .int (xs (i + 3).toNatClampNeg), .int (xs (i + 4).toNatClampNeg)]) (st := []) (st1 := [.int r]) kk_11 (in_11 C.2.1.1 (Nat.le_refl 1)) mV_X11_table (tb_7 (List.mem_of_getElem? (i := 38) (by decide +kernel))) rfl (Nat.le_of_ble_eq_true rfl) (Nat.le_of_ble_eq_true rfl) hnc hns (k_X11_table C.2.1 (xs (i + 1).toNatClampNeg) (xs (i + 2).toNatClampNeg) (xs (i + 3).toNatClampNeg) (xs (i + 4).toNatClampNeg) σ1 h1) dL_law_2508 rfl rfl ?_
  refine w_aload_n C (pc := 2511) 2 rfl dL_law_2511 rfl ?_
  refine w_aload_n C (pc := 2512) 0 rfl dL_law_2512 rfl ?_
  refine w_iload_n C (pc := 2513) 3 rfl dL_law_2513 rfl ?_
  refine w_iconst C (pc := 2514) (v := 1) dL_law_2514 (by decide) ?_
  refine w_iadd C (pc := 2515) dL_law_2515 ?_
  refine w_sld C (pc := 2516) (hv 1 (by decide)) dL_law_2516 ?_
  refine w_aload_n C (pc := 2517) 0 rfl dL_law_2517 rfl ?_
  refine w_iload_n C (pc := 2518) 3 rfl dL_law_2518 rfl ?_
  refine w_iconst C (pc := 2519) (v := 2) dL_law_2519 (by decide) ?_
  refine w_iadd C (pc := 2520) dL_law_2520 ?_
  refine w_sld C (pc := 2521) (hv 2 (by decide)) dL_law_2521 ?_
  refine w_aload_n C (pc := 2522) 0 rfl dL_law_2522 rfl ?_
  refine w_iload_n C (pc := 2523) 3 rfl dL_law_2523 rfl ?_
  refine w_iconst C (pc := 2524) (v := 3) dL_law_2524 (by decide) ?_
  refine w_iadd C (pc := 2525) dL_law_2525 ?_
  refine w_sld C (pc := 2526) (hv 3 (by decide)) dL_law_2526 ?_
  refine w_aload_n C (pc := 2527) 0 rfl dL_law_2527 rfl ?_
  refine w_iload_n C (pc := 2528) 3 rfl dL_law_2528 rfl ?_
  refine w_iconst C (pc := 2529) (v := 4) dL_law_2529 (by decide) ?_
  refine w_iadd C (pc := 2530) dL_law_2530 ?_
  refine w_sld C (pc := 2531) (hv 4 (by decide)) dL_law_2531 ?_
  refine w_c2 C (pc := 2532) (As := [.int (xs (i + 1).toNatClampNeg), .int (xs (i + 2).toNatClampNeg), .int (xs (i + 3).toNatClampNeg), .int (xs (i + 4).toNatClampNeg)]) (st := [.int r]) (st1 := [.int r, .int r]) kk_12 (in_12 C.2.2.1 (Nat.le_refl 1)) mV_X12_table (tb_10 (List.mem_of_getElem? (i := 142) (by decide +kernel))) rfl (Nat.le_of_ble_eq_true rfl) (Nat.le_of_ble_eq_true rfl) hnc hns (k_X12_table C.2.2.1 (xs (i + 1).toNatClampNeg) (xs (i + 2).toNatClampNeg) (xs (i + 3).toNatClampNeg) (xs (i + 4).toNatClampNeg) σ2 h2) dL_law_2532 rfl rfl ?_
  exact w_ieq C (pc := 2535) 2540 dL_law_2535 rfl kk
/-- status -/
def am_op_0 (Rel : am_H → am_H → Prop) : Prop := ∀ (σ1 σ2 : am_H), Rel σ1 σ2 → ∃ (r : Int32) (σ2' : am_H), f_X11_status σ1 = some r ∧ f_X12_status σ2 = some (r, σ2') ∧ Rel σ1 σ2'
/-- top -/
def am_op_1 (Rel : am_H → am_H → Prop) : Prop := ∀ (σ1 σ2 : am_H), Rel σ1 σ2 → ∃ (r : Int64) (σ2' : am_H), f_X11_top σ1 = some r ∧ f_X12_top σ2 = some (r, σ2') ∧ Rel σ1 σ2'
/-- bottom -/
def am_op_2 (Rel : am_H → am_H → Prop) : Prop := ∀ (σ1 σ2 : am_H), Rel σ1 σ2 → ∃ (r : Int64) (σ2' : am_H), f_X11_bottom σ1 = some r ∧ f_X12_bottom σ2 = some (r, σ2') ∧ Rel σ1 σ2'
/-- tray -/
def am_op_3 (Rel : am_H → am_H → Prop) : Prop := ∀ (σ1 σ2 : am_H), Rel σ1 σ2 → ∀ (v1 : Int32) (v2 : Int32) (v3 : Int32), ∃ (r : Bool) (σ1' σ2' : am_H), f_X11_tray v1 v2 v3 σ1 = some (r, σ1') ∧ f_X12_tray v1 v2 v3 σ2 = some (r, σ2') ∧ Rel σ1' σ2'
/-- write -/
def am_op_4 (Rel : am_H → am_H → Prop) : Prop := ∀ (σ1 σ2 : am_H), Rel σ1 σ2 → ∀ (v1 : Int32) (v2 : Int32) (v3 : Int64), ∃ (r : Bool) (σ1' σ2' : am_H), f_X11_write v1 v2 v3 σ1 = some (r, σ1') ∧ f_X12_write v1 v2 v3 σ2 = some (r, σ2') ∧ Rel σ1' σ2'
/-- read -/
def am_op_5 (Rel : am_H → am_H → Prop) : Prop := ∀ (σ1 σ2 : am_H), Rel σ1 σ2 → ∀ (v1 : Int32) (v2 : Int32), ∃ (r : Int64) (σ1' σ2' : am_H), f_X11_read v1 v2 σ1 = some (r, σ1') ∧ f_X12_read v1 v2 σ2 = some (r, σ2') ∧ Rel σ1' σ2'
/-- pour -/
def am_op_6 (Rel : am_H → am_H → Prop) : Prop := ∀ (σ1 σ2 : am_H), Rel σ1 σ2 → ∀ (v1 : Int32) (v2 : Int32) (v3 : Int32) (v4 : Int32) (v5 : Int32), ∃ (r : Bool) (σ1' σ2' : am_H), f_X11_pour v1 v2 v3 v4 v5 σ1 = some (r, σ1') ∧ f_X12_pour v1 v2 v3 v4 v5 σ2 = some (r, σ2') ∧ Rel σ1' σ2'
/-- feed -/
def am_op_7 (Rel : am_H → am_H → Prop) : Prop := ∀ (σ1 σ2 : am_H), Rel σ1 σ2 → ∀ (v1 : Int32) (v2 : Int32) (v3 : Int32) (v4 : Int32) (v5 : Int32), ∃ (r : Int32) (σ1' σ2' : am_H), f_X11_feed v1 v2 v3 v4 v5 σ1 = some (r, σ1') ∧ f_X12_feed v1 v2 v3 v4 v5 σ2 = some (r, σ2') ∧ Rel σ1' σ2'
/-- machine -/
def am_op_8 (Rel : am_H → am_H → Prop) : Prop := ∀ (σ1 σ2 : am_H), Rel σ1 σ2 → ∀ (v1 : Int32) (v2 : Int32), ∃ (r : Int32) (σ1' σ2' : am_H), f_X11_machine v1 v2 σ1 = some (r, σ1') ∧ f_X12_machine v1 v2 σ2 = some (r, σ2') ∧ Rel σ1' σ2'
/-- fault -/
def am_op_9 (Rel : am_H → am_H → Prop) : Prop := ∀ (σ1 σ2 : am_H), Rel σ1 σ2 → ∀ (v1 : Int32), ∃ (r : Int32) (σ2' : am_H), f_X11_fault v1 σ1 = some r ∧ f_X12_fault v1 σ2 = some (r, σ2') ∧ Rel σ1 σ2'
/-- told -/
def am_op_10 (Rel : am_H → am_H → Prop) : Prop := ∀ (σ1 σ2 : am_H), Rel σ1 σ2 → ∀ (v1 : Int32) (v2 : Int32), ∃ (r : Int32) (σ1' σ2' : am_H), f_X11_told v1 v2 σ1 = some (r, σ1') ∧ f_X12_told v1 v2 σ2 = some (r, σ2') ∧ Rel σ1' σ2'
/-- wave -/
def am_op_11 (Rel : am_H → am_H → Prop) : Prop := ∀ (σ1 σ2 : am_H), Rel σ1 σ2 → ∀ (v1 : Int32) (v2 : Int32) (v3 : Int32), ∃ (r : Int32) (σ1' σ2' : am_H), f_X11_wave v1 v2 v3 σ1 = some (r, σ1') ∧ f_X12_wave v1 v2 v3 σ2 = some (r, σ2') ∧ Rel σ1' σ2'
/-- set -/
def am_op_12 (Rel : am_H → am_H → Prop) : Prop := ∀ (σ1 σ2 : am_H), Rel σ1 σ2 → ∀ (v1 : Int32) (v2 : Int32) (v3 : Int32) (v4 : Int32), ∃ (r : Bool) (σ1' σ2' : am_H), f_X11_set v1 v2 v3 v4 σ1 = some (r, σ1') ∧ f_X12_set v1 v2 v3 v4 σ2 = some (r, σ2') ∧ Rel σ1' σ2'
/-- place -/
def am_op_13 (Rel : am_H → am_H → Prop) : Prop := ∀ (σ1 σ2 : am_H), Rel σ1 σ2 → ∀ (v1 : Int32) (v2 : Int32) (v3 : Int32) (v4 : Bool), ∃ (r : Int32) (σ1' σ2' : am_H), f_X11_place v1 v2 v3 v4 σ1 = some (r, σ1') ∧ f_X12_place v1 v2 v3 v4 σ2 = some (r, σ2') ∧ Rel σ1' σ2'
/-- height -/
def am_op_14 (Rel : am_H → am_H → Prop) : Prop := ∀ (σ1 σ2 : am_H), Rel σ1 σ2 → ∀ (v1 : Int32) (v2 : Int32) (v3 : Bool), ∃ (r : Int32) (σ1' σ2' : am_H), f_X11_height v1 v2 v3 σ1 = some (r, σ1') ∧ f_X12_height v1 v2 v3 σ2 = some (r, σ2') ∧ Rel σ1' σ2'
/-- pointer -/
def am_op_15 (Rel : am_H → am_H → Prop) : Prop := ∀ (σ1 σ2 : am_H), Rel σ1 σ2 → ∀ (v1 : Int32) (v2 : Int32) (v3 : Int32), ∃ (r : Int32) (σ1' σ2' : am_H), f_X11_pointer v1 v2 v3 σ1 = some (r, σ1') ∧ f_X12_pointer v1 v2 v3 σ2 = some (r, σ2') ∧ Rel σ1' σ2'
/-- off -/
def am_op_16 (Rel : am_H → am_H → Prop) : Prop := ∀ (σ1 σ2 : am_H), Rel σ1 σ2 → ∀ (v1 : Int32) (v2 : Int32) (v3 : Int32), ∃ (r : Bool) (σ1' σ2' : am_H), f_X11_off v1 v2 v3 σ1 = some (r, σ1') ∧ f_X12_off v1 v2 v3 σ2 = some (r, σ2') ∧ Rel σ1' σ2'
/-- train -/
def am_op_17 (Rel : am_H → am_H → Prop) : Prop := ∀ (σ1 σ2 : am_H), Rel σ1 σ2 → ∀ (v1 : Int32) (v2 : Int32) (v3 : Int32), ∃ (r : Int32) (σ1' σ2' : am_H), f_X11_train v1 v2 v3 σ1 = some (r, σ1') ∧ f_X12_train v1 v2 v3 σ2 = some (r, σ2') ∧ Rel σ1' σ2'
/-- trained -/
def am_op_18 (Rel : am_H → am_H → Prop) : Prop := ∀ (σ1 σ2 : am_H), Rel σ1 σ2 → ∀ (v1 : Int32), ∃ (r : Int32) (σ1' σ2' : am_H), f_X11_trained v1 σ1 = some (r, σ1') ∧ f_X12_trained v1 σ2 = some (r, σ2') ∧ Rel σ1' σ2'
/-- share -/
def am_op_19 (Rel : am_H → am_H → Prop) : Prop := ∀ (σ1 σ2 : am_H), Rel σ1 σ2 → ∀ (v1 : Int32) (v2 : Int32) (v3 : Int32) (v4 : Int32), ∃ (r : Int32) (σ1' σ2' : am_H), f_X11_share v1 v2 v3 v4 σ1 = some (r, σ1') ∧ f_X12_share v1 v2 v3 v4 σ2 = some (r, σ2') ∧ Rel σ1' σ2'
/-- shared -/
def am_op_20 (Rel : am_H → am_H → Prop) : Prop := ∀ (σ1 σ2 : am_H), Rel σ1 σ2 → ∀ (v1 : Int32), ∃ (r : Int32) (σ1' σ2' : am_H), f_X11_shared v1 σ1 = some (r, σ1') ∧ f_X12_shared v1 σ2 = some (r, σ2') ∧ Rel σ1' σ2'
/-- settings -/
def am_op_21 (Rel : am_H → am_H → Prop) : Prop := ∀ (σ1 σ2 : am_H), Rel σ1 σ2 → ∀ (v1 : Int32) (v2 : Int32) (v3 : Int32) (v4 : Int32) (v5 : Int32) (v6 : Int32) (v7 : Int32), ∃ (r : Bool) (σ1' σ2' : am_H), f_X11_settings v1 v2 v3 v4 v5 v6 v7 σ1 = some (r, σ1') ∧ f_X12_settings v1 v2 v3 v4 v5 v6 v7 σ2 = some (r, σ2') ∧ Rel σ1' σ2'
/-- changed -/
def am_op_22 (Rel : am_H → am_H → Prop) : Prop := ∀ (σ1 σ2 : am_H), Rel σ1 σ2 → ∀ (v1 : Int32) (v2 : Int32) (v3 : Int32) (v4 : Int32) (v5 : Int32) (v6 : Int32) (v7 : Int32) (v8 : Int32) (v9 : Int32), ∃ (r : Int32) (σ1' σ2' : am_H), f_X11_changed v1 v2 v3 v4 v5 v6 v7 v8 v9 σ1 = some (r, σ1') ∧ f_X12_changed v1 v2 v3 v4 v5 v6 v7 v8 v9 σ2 = some (r, σ2') ∧ Rel σ1' σ2'
/-- slipped -/
def am_op_23 (Rel : am_H → am_H → Prop) : Prop := ∀ (σ1 σ2 : am_H), Rel σ1 σ2 → ∀ (v1 : Int32) (v2 : Int32) (v3 : Int32) (v4 : Int32) (v5 : Int32), ∃ (r : Int32) (σ1' σ2' : am_H), f_X11_slipped v1 v2 v3 v4 v5 σ1 = some (r, σ1') ∧ f_X12_slipped v1 v2 v3 v4 v5 σ2 = some (r, σ2') ∧ Rel σ1' σ2'
/-- slip -/
def am_op_24 (Rel : am_H → am_H → Prop) : Prop := ∀ (σ1 σ2 : am_H), Rel σ1 σ2 → ∃ (r : Int32) (σ1' σ2' : am_H), f_X11_slip σ1 = some (r, σ1') ∧ f_X12_slip σ2 = some (r, σ2') ∧ Rel σ1' σ2'
/-- neighbour -/
def am_op_25 (Rel : am_H → am_H → Prop) : Prop := ∀ (σ1 σ2 : am_H), Rel σ1 σ2 → ∀ (v1 : Int32) (v2 : Int32) (v3 : Int32) (v4 : Int32), ∃ (r : Int32) (σ1' σ2' : am_H), f_X11_neighbour v1 v2 v3 v4 σ1 = some (r, σ1') ∧ f_X12_neighbour v1 v2 v3 v4 σ2 = some (r, σ2') ∧ Rel σ1' σ2'
/-- lag -/
def am_op_26 (Rel : am_H → am_H → Prop) : Prop := ∀ (σ1 σ2 : am_H), Rel σ1 σ2 → ∃ (r : Int32) (σ1' σ2' : am_H), f_X11_lag σ1 = some (r, σ1') ∧ f_X12_lag σ2 = some (r, σ2') ∧ Rel σ1' σ2'
/-- led -/
def am_op_27 (Rel : am_H → am_H → Prop) : Prop := ∀ (σ1 σ2 : am_H), Rel σ1 σ2 → ∀ (v1 : Int32) (v2 : Int32) (v3 : Int32) (v4 : Int32), ∃ (r : Int32) (σ1' σ2' : am_H), f_X11_led v1 v2 v3 v4 σ1 = some (r, σ1') ∧ f_X12_led v1 v2 v3 v4 σ2 = some (r, σ2') ∧ Rel σ1' σ2'
/-- wheel -/
def am_op_28 (Rel : am_H → am_H → Prop) : Prop := ∀ (σ1 σ2 : am_H), Rel σ1 σ2 → ∀ (v1 : Int32), ∃ (r : Int32) (σ1' σ2' : am_H), f_X11_wheel v1 σ1 = some (r, σ1') ∧ f_X12_wheel v1 σ2 = some (r, σ2') ∧ Rel σ1' σ2'
/-- extreme -/
def am_op_29 (Rel : am_H → am_H → Prop) : Prop := ∀ (σ1 σ2 : am_H), Rel σ1 σ2 → ∀ (v1 : Int32) (v2 : Int32) (v3 : Int32) (v4 : Bool) (v5 : Bool), ∃ (r : Int32) (σ1' σ2' : am_H), f_X11_extreme v1 v2 v3 v4 v5 σ1 = some (r, σ1') ∧ f_X12_extreme v1 v2 v3 v4 v5 σ2 = some (r, σ2') ∧ Rel σ1' σ2'
/-- bounds -/
def am_op_30 (Rel : am_H → am_H → Prop) : Prop := ∀ (σ1 σ2 : am_H), Rel σ1 σ2 → ∀ (v1 : Int32) (v2 : Int32) (v3 : Int32) (v4 : Int32), ∃ (r : Int32) (σ1' σ2' : am_H), f_X11_bounds v1 v2 v3 v4 σ1 = some (r, σ1') ∧ f_X12_bounds v1 v2 v3 v4 σ2 = some (r, σ2') ∧ Rel σ1' σ2'
/-- ask -/
def am_op_31 (Rel : am_H → am_H → Prop) : Prop := ∀ (σ1 σ2 : am_H), Rel σ1 σ2 → ∀ (v1 : Int32) (v2 : Int32) (v3 : Int32) (v4 : Bool) (v5 : Int32) (v6 : Int32) (v7 : Int32) (v8 : Int32), ∃ (r : Bool) (σ1' σ2' : am_H), f_X11_ask v1 v2 v3 v4 v5 v6 v7 v8 σ1 = some (r, σ1') ∧ f_X12_ask v1 v2 v3 v4 v5 v6 v7 v8 σ2 = some (r, σ2') ∧ Rel σ1' σ2'
/-- landing -/
def am_op_32 (Rel : am_H → am_H → Prop) : Prop := ∀ (σ1 σ2 : am_H), Rel σ1 σ2 → ∀ (v1 : Int32) (v2 : Int32) (v3 : Int32), ∃ (r : Int32) (σ1' σ2' : am_H), f_X11_landing v1 v2 v3 σ1 = some (r, σ1') ∧ f_X12_landing v1 v2 v3 σ2 = some (r, σ2') ∧ Rel σ1' σ2'
/-- spread -/
def am_op_33 (Rel : am_H → am_H → Prop) : Prop := ∀ (σ1 σ2 : am_H), Rel σ1 σ2 → ∀ (v1 : Int32) (v2 : Int32) (v3 : Int32) (v4 : Int32), ∃ (r : Int32) (σ1' σ2' : am_H), f_X11_spread v1 v2 v3 v4 σ1 = some (r, σ1') ∧ f_X12_spread v1 v2 v3 v4 σ2 = some (r, σ2') ∧ Rel σ1' σ2'
/-- spreadTold -/
def am_op_34 (Rel : am_H → am_H → Prop) : Prop := ∀ (σ1 σ2 : am_H), Rel σ1 σ2 → ∀ (v1 : Int32), ∃ (r : Int32) (σ1' σ2' : am_H), f_X11_spreadTold v1 σ1 = some (r, σ1') ∧ f_X12_spreadTold v1 σ2 = some (r, σ2') ∧ Rel σ1' σ2'
/-- compare -/
def am_op_35 (Rel : am_H → am_H → Prop) : Prop := ∀ (σ1 σ2 : am_H), Rel σ1 σ2 → ∀ (v1 : Int32) (v2 : Int32) (v3 : Int32), ∃ (r : Int32) (σ1' σ2' : am_H), f_X11_compare v1 v2 v3 σ1 = some (r, σ1') ∧ f_X12_compare v1 v2 v3 σ2 = some (r, σ2') ∧ Rel σ1' σ2'
/-- waters -/
def am_op_36 (Rel : am_H → am_H → Prop) : Prop := ∀ (σ1 σ2 : am_H), Rel σ1 σ2 → ∀ (v1 : Int32) (v2 : Int32) (v3 : Bool) (v4 : Bool), ∃ (r : Int32) (σ1' σ2' : am_H), f_X11_waters v1 v2 v3 v4 σ1 = some (r, σ1') ∧ f_X12_waters v1 v2 v3 v4 σ2 = some (r, σ2') ∧ Rel σ1' σ2'
/-- water -/
def am_op_37 (Rel : am_H → am_H → Prop) : Prop := ∀ (σ1 σ2 : am_H), Rel σ1 σ2 → ∀ (v1 : Int32) (v2 : Int32) (v3 : Bool) (v4 : Bool) (v5 : Int32), ∃ (r : Int32) (σ1' σ2' : am_H), f_X11_water v1 v2 v3 v4 v5 σ1 = some (r, σ1') ∧ f_X12_water v1 v2 v3 v4 v5 σ2 = some (r, σ2') ∧ Rel σ1' σ2'
/-- range -/
def am_op_38 (Rel : am_H → am_H → Prop) : Prop := ∀ (σ1 σ2 : am_H), Rel σ1 σ2 → ∀ (v1 : Int32) (v2 : Int32) (v3 : Bool), ∃ (r : Int32) (σ1' σ2' : am_H), f_X11_range v1 v2 v3 σ1 = some (r, σ1') ∧ f_X12_range v1 v2 v3 σ2 = some (r, σ2') ∧ Rel σ1' σ2'
/-- gap -/
def am_op_39 (Rel : am_H → am_H → Prop) : Prop := ∀ (σ1 σ2 : am_H), Rel σ1 σ2 → ∀ (v1 : Int32) (v2 : Int32) (v3 : Bool) (v4 : Int32), ∃ (r : Int32) (σ1' σ2' : am_H), f_X11_gap v1 v2 v3 v4 σ1 = some (r, σ1') ∧ f_X12_gap v1 v2 v3 v4 σ2 = some (r, σ2') ∧ Rel σ1' σ2'
/-- worn -/
def am_op_40 (Rel : am_H → am_H → Prop) : Prop := ∀ (σ1 σ2 : am_H), Rel σ1 σ2 → ∀ (v1 : Int32) (v2 : Int32) (v3 : Int32) (v4 : Int32), ∃ (r : Int32) (σ1' σ2' : am_H), f_X11_worn v1 v2 v3 v4 σ1 = some (r, σ1') ∧ f_X12_worn v1 v2 v3 v4 σ2 = some (r, σ2') ∧ Rel σ1' σ2'
/-- lasts -/
def am_op_41 (Rel : am_H → am_H → Prop) : Prop := ∀ (σ1 σ2 : am_H), Rel σ1 σ2 → ∀ (v1 : Int32) (v2 : Int32), ∃ (r : Int32) (σ1' σ2' : am_H), f_X11_lasts v1 v2 σ1 = some (r, σ1') ∧ f_X12_lasts v1 v2 σ2 = some (r, σ2') ∧ Rel σ1' σ2'
/-- trade -/
def am_op_42 (Rel : am_H → am_H → Prop) : Prop := ∀ (σ1 σ2 : am_H), Rel σ1 σ2 → ∀ (v1 : Int32), ∃ (r : Int64) (σ1' σ2' : am_H), f_X11_trade v1 σ1 = some (r, σ1') ∧ f_X12_trade v1 σ2 = some (r, σ2') ∧ Rel σ1' σ2'
/-- traded -/
def am_op_43 (Rel : am_H → am_H → Prop) : Prop := ∀ (σ1 σ2 : am_H), Rel σ1 σ2 → ∀ (v1 : Int32), ∃ (r : Int32) (σ1' σ2' : am_H), f_X11_traded v1 σ1 = some (r, σ1') ∧ f_X12_traded v1 σ2 = some (r, σ2') ∧ Rel σ1' σ2'
/-- orders -/
def am_op_44 (Rel : am_H → am_H → Prop) : Prop := ∀ (σ1 σ2 : am_H), Rel σ1 σ2 → ∀ (v1 : Int32), ∃ (r : Int32) (σ1' σ2' : am_H), f_X11_orders v1 σ1 = some (r, σ1') ∧ f_X12_orders v1 σ2 = some (r, σ2') ∧ Rel σ1' σ2'
/-- obey -/
def am_op_45 (Rel : am_H → am_H → Prop) : Prop := ∀ (σ1 σ2 : am_H), Rel σ1 σ2 → ∀ (v1 : Int32) (v2 : Int32), ∃ (r : Int32) (σ1' σ2' : am_H), f_X11_obey v1 v2 σ1 = some (r, σ1') ∧ f_X12_obey v1 v2 σ2 = some (r, σ2') ∧ Rel σ1' σ2'
/-- obeyed -/
def am_op_46 (Rel : am_H → am_H → Prop) : Prop := ∀ (σ1 σ2 : am_H), Rel σ1 σ2 → ∀ (v1 : Int32), ∃ (r : Int64) (σ1' σ2' : am_H), f_X11_obeyed v1 σ1 = some (r, σ1') ∧ f_X12_obeyed v1 σ2 = some (r, σ2') ∧ Rel σ1' σ2'
/-- marked -/
def am_op_47 (Rel : am_H → am_H → Prop) : Prop := ∀ (σ1 σ2 : am_H), Rel σ1 σ2 → ∀ (v1 : Int32), ∃ (r : Int32) (σ1' σ2' : am_H), f_X11_marked v1 σ1 = some (r, σ1') ∧ f_X12_marked v1 σ2 = some (r, σ2') ∧ Rel σ1' σ2'
/-- table -/
def am_op_48 (Rel : am_H → am_H → Prop) : Prop := ∀ (σ1 σ2 : am_H), Rel σ1 σ2 → ∀ (v1 : Int32) (v2 : Int32) (v3 : Int32) (v4 : Int32), ∃ (r : Int32) (σ1' σ2' : am_H), f_X11_table v1 v2 v3 v4 σ1 = some (r, σ1') ∧ f_X12_table v1 v2 v3 v4 σ2 = some (r, σ2') ∧ Rel σ1' σ2'
/-- every call of both sides, from states that are related: the same answer, and related again -/
def am_all (Rel : am_H → am_H → Prop) : Prop := am_op_0 Rel ∧ am_op_1 Rel ∧ am_op_2 Rel ∧ am_op_3 Rel ∧ am_op_4 Rel ∧ am_op_5 Rel ∧ am_op_6 Rel ∧ am_op_7 Rel ∧ am_op_8 Rel ∧ am_op_9 Rel ∧ am_op_10 Rel ∧ am_op_11 Rel ∧ am_op_12 Rel ∧ am_op_13 Rel ∧ am_op_14 Rel ∧ am_op_15 Rel ∧ am_op_16 Rel ∧ am_op_17 Rel ∧ am_op_18 Rel ∧ am_op_19 Rel ∧ am_op_20 Rel ∧ am_op_21 Rel ∧ am_op_22 Rel ∧ am_op_23 Rel ∧ am_op_24 Rel ∧ am_op_25 Rel ∧ am_op_26 Rel ∧ am_op_27 Rel ∧ am_op_28 Rel ∧ am_op_29 Rel ∧ am_op_30 Rel ∧ am_op_31 Rel ∧ am_op_32 Rel ∧ am_op_33 Rel ∧ am_op_34 Rel ∧ am_op_35 Rel ∧ am_op_36 Rel ∧ am_op_37 Rel ∧ am_op_38 Rel ∧ am_op_39 Rel ∧ am_op_40 Rel ∧ am_op_41 Rel ∧ am_op_42 Rel ∧ am_op_43 Rel ∧ am_op_44 Rel ∧ am_op_45 Rel ∧ am_op_46 Rel ∧ am_op_47 Rel ∧ am_op_48 Rel
theorem am_nN {n : Nat} (h : n < 2 ^ 31) : (Int32.ofNat n).toInt = (n : Int) := Int32.toInt_ofNat_of_lt h
theorem am_idx {i k L : Nat} (hL : L ≤ 5120) (h : i + 10 ≤ L) (hk : k < 10) : vp_in (Int32.ofNat i + Int32.ofNat k) L := by
  have e : Int32.ofNat i + Int32.ofNat k = Int32.ofNat (i + k) := (Int32.ofNat_add i k).symm
  rw [e]
  unfold vp_in
  have h1 := am_nN (n := i + k) (by omega)
  rw [Int32.lt_iff_toInt_lt, h1]
  have h2 : (Int32.ofNat (i + k)).toNatClampNeg = i + k := by
    show (Int32.ofNat (i + k)).toInt.toNat = i + k
    rw [h1]
    omega
  rw [h2]
  have h3 : (0 : Int32).toInt = 0 := rfl
  rw [h3]
  omega
theorem am_le10 {i L : Nat} (hL : L ≤ 5120) (hi : i ≤ 6000) : (Int32.ofNat L - 10 < Int32.ofNat i) ↔ L < i + 10 := by
  rw [Int32.lt_iff_toInt_lt, am_nN (by omega), Int32.toInt_sub, am_nN (by omega)]
  have h3 : (10 : Int32).toInt = 10 := rfl
  rw [h3]
  have e : ((L : Int) - 10).bmod (2 ^ 32) = (L : Int) - 10 := Int.bmod_eq_of_le (by omega) (by omega)
  rw [e]
  omega
set_option maxRecDepth 100000 in
set_option maxHeartbeats 4000000 in
theorem law_loop {X1 X2 : am_X} {l : Launch} {p : Program} {e : Env} {s : State} {m : MethodId} {below : List Frame} {meth : Method} {c : Code} {b L : Nat} {xs : Nat → Int32} {nc ns : Nat} (C : am_LC X1 X2 l p s m meth c b L xs) (hL : L ≤ 5120) (hnc : nc ≤ 600000) (hns : ns ≤ 7302249) (Rel : am_H → am_H → Prop) (hall : am_all Rel) : ∀ (n i : Nat), i ≤ L + 9 → L + 10 ≤ i + n → ∀ (σ1 σ2 : am_H), Rel σ1 σ2 → am_LG X1 X2 l p e s m below meth c b L xs nc ns 18 [(0, .ref b), (1, .ref (am_ad X1 11 0)), (2, .ref (am_ad X2 12 0)), (3, .int (Int32.ofNat i))] [] σ1 σ2 := by
  intro n
  induction n with
  | zero => intro i h1 h2; exact absurd h2 (by omega)
  | succ n ih =>
    intro i hi hin σ1 σ2 hR
    refine w_iload_n C (pc := 18) 3 rfl dL_law_18 rfl ?_
    refine w_aload_n C (pc := 19) 0 rfl dL_law_19 rfl ?_
    refine w_slen C (pc := 20) dL_law_20 ?_
    refine w_bipush C (pc := 21) (v := 10) dL_law_21 (by decide) ?_
    refine w_isub C (pc := 23) dL_law_23 ?_
    refine w_igt C (pc := 24) 2546 dL_law_24 rfl (fun hq => ?_) (fun hq => ?_)
    · refine w_iconst C (pc := 2546) (v := 1) dL_law_2546 (by decide) ?_
      intro H locs ls hP1 hP2 hS hl
      obtain ⟨⟨hx, hb, hr, hml, hown, hts, hX, hbl, hlk, -⟩, -⟩ := id C
      refine va_forget (fun q hq => hS.2.2 q hq) ?_
      refine W.widen (k := 600000) (n := 7302249) hnc hns ?_
      exact lw_ret hx hb hr hlk dL_law_2547
    · have hq2 : i + 10 ≤ L := by
        rcases Nat.lt_or_ge L (i + 10) with z | z
        · exact absurd ((am_le10 hL (by omega)).mpr z) hq
        · exact z
      have hv : ∀ k : Nat, k < 10 → vp_in (Int32.ofNat i + Int32.ofNat k) L := fun k hk => am_idx hL hq2 hk
      have back : ∀ (σ1 σ2 : am_H), Rel σ1 σ2 → am_LG X1 X2 l p e s m below meth c b L xs nc ns 2540 [(0, .ref b), (1, .ref (am_ad X1 11 0)), (2, .ref (am_ad X2 12 0)), (3, .int (Int32.ofNat i))] [] σ1 σ2 := by
        intro σ1 σ2 hR
        refine w_iinc C (pc := 2540) (v := Int32.ofNat (i + 10)) 3 [(3, .int (Int32.ofNat (i + 10))), (0, .ref b), (1, .ref (am_ad X1 11 0)), (2, .ref (am_ad X2 12 0))] dL_law_2540 rfl (Int32.ofNat_add i 10).symm (by decide) rfl ?_
        refine w_goto C (pc := 2543) 18 dL_law_2543 rfl ?_
        exact w_sub [1, 2, 3, 0] rfl (ih (i + 10) (by omega) (by omega) σ1 σ2 hR)
      refine w_aload_n C (pc := 27) 0 rfl dL_law_27 rfl ?_
      refine w_iload_n C (pc := 28) 3 rfl dL_law_28 rfl ?_
      have hv0 : vp_in (Int32.ofNat i) L := by
        have := hv 0 (by decide)
        rwa [show Int32.ofNat i + Int32.ofNat 0 = Int32.ofNat i from Int32.add_zero _] at this
      refine w_sld C (pc := 29) hv0 dL_law_29 ?_
      refine w_bipush C (pc := 30) (v := 63) dL_law_30 (by decide) ?_
      refine w_iand C (pc := 32) dL_law_32 ?_
      obtain ⟨o0, o1, o2, o3, o4, o5, o6, o7, o8, o9, o10, o11, o12, o13, o14, o15, o16, o17, o18, o19, o20, o21, o22, o23, o24, o25, o26, o27, o28, o29, o30, o31, o32, o33, o34, o35, o36, o37, o38, o39, o40, o41, o42, o43, o44, o45, o46, o47, o48⟩ := hall
      by_cases c0 : xs (Int32.ofNat i).toNatClampNeg &&& 63 = 0
      · refine w_swE C (pc := 33) 244 c0 dL_law_33 (by decide) (by decide) rfl rfl ?_
        obtain ⟨r, σ2', e1, e2, hR2⟩ := o0 σ1 σ2 hR
        exact lc_0 C hnc hns hv e1 e2 (back σ1 σ2' hR2)
      by_cases c1 : xs (Int32.ofNat i).toNatClampNeg &&& 63 = 1
      · refine w_swE C (pc := 33) 257 c1 dL_law_33 (by decide) (by decide) rfl rfl ?_
        obtain ⟨r, σ2', e1, e2, hR2⟩ := o1 σ1 σ2 hR
        exact lc_1 C hnc hns hv e1 e2 (back σ1 σ2' hR2)
      by_cases c2 : xs (Int32.ofNat i).toNatClampNeg &&& 63 = 2
      · refine w_swE C (pc := 33) 271 c2 dL_law_33 (by decide) (by decide) rfl rfl ?_
        obtain ⟨r, σ2', e1, e2, hR2⟩ := o2 σ1 σ2 hR
        exact lc_2 C hnc hns hv e1 e2 (back σ1 σ2' hR2)
      by_cases c3 : xs (Int32.ofNat i).toNatClampNeg &&& 63 = 3
      · refine w_swE C (pc := 33) 285 c3 dL_law_33 (by decide) (by decide) rfl rfl ?_
        obtain ⟨r, σ1', σ2', e1, e2, hR2⟩ := o3 σ1 σ2 hR (xs (Int32.ofNat i + 1).toNatClampNeg) (xs (Int32.ofNat i + 2).toNatClampNeg) (xs (Int32.ofNat i + 3).toNatClampNeg)
        exact lc_3 C hnc hns hv e1 e2 (back σ1' σ2' hR2)
      by_cases c4 : xs (Int32.ofNat i).toNatClampNeg &&& 63 = 4
      · refine w_swE C (pc := 33) 328 c4 dL_law_33 (by decide) (by decide) rfl rfl ?_
        obtain ⟨r, σ1', σ2', e1, e2, hR2⟩ := o4 σ1 σ2 hR (xs (Int32.ofNat i + 1).toNatClampNeg) (xs (Int32.ofNat i + 2).toNatClampNeg) (((Int32.toInt64 (xs (Int32.ofNat i + 3).toNatClampNeg)) <<< (Int32.toInt64 32 &&& 63)) ||| ((Int32.toInt64 (xs (Int32.ofNat i + 4).toNatClampNeg)) &&& 4294967295))
        exact lc_4 C hnc hns hv e1 e2 (back σ1' σ2' hR2)
      by_cases c5 : xs (Int32.ofNat i).toNatClampNeg &&& 63 = 5
      · refine w_swE C (pc := 33) 401 c5 dL_law_33 (by decide) (by decide) rfl rfl ?_
        obtain ⟨r, σ1', σ2', e1, e2, hR2⟩ := o5 σ1 σ2 hR (xs (Int32.ofNat i + 1).toNatClampNeg) (xs (Int32.ofNat i + 2).toNatClampNeg)
        exact lc_5 C hnc hns hv e1 e2 (back σ1' σ2' hR2)
      by_cases c6 : xs (Int32.ofNat i).toNatClampNeg &&& 63 = 6
      · refine w_swE C (pc := 33) 435 c6 dL_law_33 (by decide) (by decide) rfl rfl ?_
        obtain ⟨r, σ1', σ2', e1, e2, hR2⟩ := o6 σ1 σ2 hR (xs (Int32.ofNat i + 1).toNatClampNeg) (xs (Int32.ofNat i + 2).toNatClampNeg) (xs (Int32.ofNat i + 3).toNatClampNeg) (xs (Int32.ofNat i + 4).toNatClampNeg) (xs (Int32.ofNat i + 5).toNatClampNeg)
        exact lc_6 C hnc hns hv e1 e2 (back σ1' σ2' hR2)
      by_cases c7 : xs (Int32.ofNat i).toNatClampNeg &&& 63 = 7
      · refine w_swE C (pc := 33) 498 c7 dL_law_33 (by decide) (by decide) rfl rfl ?_
        obtain ⟨r, σ1', σ2', e1, e2, hR2⟩ := o7 σ1 σ2 hR (xs (Int32.ofNat i + 1).toNatClampNeg) (xs (Int32.ofNat i + 2).toNatClampNeg) (xs (Int32.ofNat i + 3).toNatClampNeg) (xs (Int32.ofNat i + 4).toNatClampNeg) (xs (Int32.ofNat i + 5).toNatClampNeg)
        exact lc_7 C hnc hns hv e1 e2 (back σ1' σ2' hR2)
      by_cases c8 : xs (Int32.ofNat i).toNatClampNeg &&& 63 = 8
      · refine w_swE C (pc := 33) 561 c8 dL_law_33 (by decide) (by decide) rfl rfl ?_
        obtain ⟨r, σ1', σ2', e1, e2, hR2⟩ := o8 σ1 σ2 hR (xs (Int32.ofNat i + 1).toNatClampNeg) (xs (Int32.ofNat i + 2).toNatClampNeg)
        exact lc_8 C hnc hns hv e1 e2 (back σ1' σ2' hR2)
      by_cases c9 : xs (Int32.ofNat i).toNatClampNeg &&& 63 = 9
      · refine w_swE C (pc := 33) 594 c9 dL_law_33 (by decide) (by decide) rfl rfl ?_
        obtain ⟨r, σ2', e1, e2, hR2⟩ := o9 σ1 σ2 hR (xs (Int32.ofNat i + 1).toNatClampNeg)
        exact lc_9 C hnc hns hv e1 e2 (back σ1 σ2' hR2)
      by_cases c10 : xs (Int32.ofNat i).toNatClampNeg &&& 63 = 10
      · refine w_swE C (pc := 33) 617 c10 dL_law_33 (by decide) (by decide) rfl rfl ?_
        obtain ⟨r, σ1', σ2', e1, e2, hR2⟩ := o10 σ1 σ2 hR (xs (Int32.ofNat i + 1).toNatClampNeg) (xs (Int32.ofNat i + 2).toNatClampNeg)
        exact lc_10 C hnc hns hv e1 e2 (back σ1' σ2' hR2)
      by_cases c11 : xs (Int32.ofNat i).toNatClampNeg &&& 63 = 11
      · refine w_swE C (pc := 33) 650 c11 dL_law_33 (by decide) (by decide) rfl rfl ?_
        obtain ⟨r, σ1', σ2', e1, e2, hR2⟩ := o11 σ1 σ2 hR (xs (Int32.ofNat i + 1).toNatClampNeg) (xs (Int32.ofNat i + 2).toNatClampNeg) (xs (Int32.ofNat i + 3).toNatClampNeg)
        exact lc_11 C hnc hns hv e1 e2 (back σ1' σ2' hR2)
      by_cases c12 : xs (Int32.ofNat i).toNatClampNeg &&& 63 = 12
      · refine w_swE C (pc := 33) 693 c12 dL_law_33 (by decide) (by decide) rfl rfl ?_
        obtain ⟨r, σ1', σ2', e1, e2, hR2⟩ := o12 σ1 σ2 hR (xs (Int32.ofNat i + 1).toNatClampNeg) (xs (Int32.ofNat i + 2).toNatClampNeg) (xs (Int32.ofNat i + 3).toNatClampNeg) (xs (Int32.ofNat i + 4).toNatClampNeg)
        exact lc_12 C hnc hns hv e1 e2 (back σ1' σ2' hR2)
      by_cases c13 : xs (Int32.ofNat i).toNatClampNeg &&& 63 = 13
      · refine w_swE C (pc := 33) 746 c13 dL_law_33 (by decide) (by decide) rfl rfl ?_
        obtain ⟨r, σ1', σ2', e1, e2, hR2⟩ := o13 σ1 σ2 hR (xs (Int32.ofNat i + 1).toNatClampNeg) (xs (Int32.ofNat i + 2).toNatClampNeg) (xs (Int32.ofNat i + 3).toNatClampNeg) (decide (¬ (xs (Int32.ofNat i + 4).toNatClampNeg) = 0))
        exact lc_13 C hnc hns hv e1 e2 (back σ1' σ2' hR2)
      by_cases c14 : xs (Int32.ofNat i).toNatClampNeg &&& 63 = 14
      · refine w_swE C (pc := 33) 815 c14 dL_law_33 (by decide) (by decide) rfl rfl ?_
        obtain ⟨r, σ1', σ2', e1, e2, hR2⟩ := o14 σ1 σ2 hR (xs (Int32.ofNat i + 1).toNatClampNeg) (xs (Int32.ofNat i + 2).toNatClampNeg) (decide (¬ (xs (Int32.ofNat i + 3).toNatClampNeg) = 0))
        exact lc_14 C hnc hns hv e1 e2 (back σ1' σ2' hR2)
      by_cases c15 : xs (Int32.ofNat i).toNatClampNeg &&& 63 = 15
      · refine w_swE C (pc := 33) 874 c15 dL_law_33 (by decide) (by decide) rfl rfl ?_
        obtain ⟨r, σ1', σ2', e1, e2, hR2⟩ := o15 σ1 σ2 hR (xs (Int32.ofNat i + 1).toNatClampNeg) (xs (Int32.ofNat i + 2).toNatClampNeg) (xs (Int32.ofNat i + 3).toNatClampNeg)
        exact lc_15 C hnc hns hv e1 e2 (back σ1' σ2' hR2)
      by_cases c16 : xs (Int32.ofNat i).toNatClampNeg &&& 63 = 16
      · refine w_swE C (pc := 33) 917 c16 dL_law_33 (by decide) (by decide) rfl rfl ?_
        obtain ⟨r, σ1', σ2', e1, e2, hR2⟩ := o16 σ1 σ2 hR (xs (Int32.ofNat i + 1).toNatClampNeg) (xs (Int32.ofNat i + 2).toNatClampNeg) (xs (Int32.ofNat i + 3).toNatClampNeg)
        exact lc_16 C hnc hns hv e1 e2 (back σ1' σ2' hR2)
      by_cases c17 : xs (Int32.ofNat i).toNatClampNeg &&& 63 = 17
      · refine w_swE C (pc := 33) 960 c17 dL_law_33 (by decide) (by decide) rfl rfl ?_
        obtain ⟨r, σ1', σ2', e1, e2, hR2⟩ := o17 σ1 σ2 hR (xs (Int32.ofNat i + 1).toNatClampNeg) (xs (Int32.ofNat i + 2).toNatClampNeg) (xs (Int32.ofNat i + 3).toNatClampNeg)
        exact lc_17 C hnc hns hv e1 e2 (back σ1' σ2' hR2)
      by_cases c18 : xs (Int32.ofNat i).toNatClampNeg &&& 63 = 18
      · refine w_swE C (pc := 33) 1003 c18 dL_law_33 (by decide) (by decide) rfl rfl ?_
        obtain ⟨r, σ1', σ2', e1, e2, hR2⟩ := o18 σ1 σ2 hR (xs (Int32.ofNat i + 1).toNatClampNeg)
        exact lc_18 C hnc hns hv e1 e2 (back σ1' σ2' hR2)
      by_cases c19 : xs (Int32.ofNat i).toNatClampNeg &&& 63 = 19
      · refine w_swE C (pc := 33) 1026 c19 dL_law_33 (by decide) (by decide) rfl rfl ?_
        obtain ⟨r, σ1', σ2', e1, e2, hR2⟩ := o19 σ1 σ2 hR (xs (Int32.ofNat i + 1).toNatClampNeg) (xs (Int32.ofNat i + 2).toNatClampNeg) (xs (Int32.ofNat i + 3).toNatClampNeg) (xs (Int32.ofNat i + 4).toNatClampNeg)
        exact lc_19 C hnc hns hv e1 e2 (back σ1' σ2' hR2)
      by_cases c20 : xs (Int32.ofNat i).toNatClampNeg &&& 63 = 20
      · refine w_swE C (pc := 33) 1079 c20 dL_law_33 (by decide) (by decide) rfl rfl ?_
        obtain ⟨r, σ1', σ2', e1, e2, hR2⟩ := o20 σ1 σ2 hR (xs (Int32.ofNat i + 1).toNatClampNeg)
        exact lc_20 C hnc hns hv e1 e2 (back σ1' σ2' hR2)
      by_cases c21 : xs (Int32.ofNat i).toNatClampNeg &&& 63 = 21
      · refine w_swE C (pc := 33) 1102 c21 dL_law_33 (by decide) (by decide) rfl rfl ?_
        obtain ⟨r, σ1', σ2', e1, e2, hR2⟩ := o21 σ1 σ2 hR (xs (Int32.ofNat i + 1).toNatClampNeg) (xs (Int32.ofNat i + 2).toNatClampNeg) (xs (Int32.ofNat i + 3).toNatClampNeg) (xs (Int32.ofNat i + 4).toNatClampNeg) (xs (Int32.ofNat i + 5).toNatClampNeg) (xs (Int32.ofNat i + 6).toNatClampNeg) (xs (Int32.ofNat i + 7).toNatClampNeg)
        exact lc_21 C hnc hns hv e1 e2 (back σ1' σ2' hR2)
      by_cases c22 : xs (Int32.ofNat i).toNatClampNeg &&& 63 = 22
      · refine w_swE C (pc := 33) 1189 c22 dL_law_33 (by decide) (by decide) rfl rfl ?_
        obtain ⟨r, σ1', σ2', e1, e2, hR2⟩ := o22 σ1 σ2 hR (xs (Int32.ofNat i + 1).toNatClampNeg) (xs (Int32.ofNat i + 2).toNatClampNeg) (xs (Int32.ofNat i + 3).toNatClampNeg) (xs (Int32.ofNat i + 4).toNatClampNeg) (xs (Int32.ofNat i + 5).toNatClampNeg) (xs (Int32.ofNat i + 6).toNatClampNeg) (xs (Int32.ofNat i + 7).toNatClampNeg) (xs (Int32.ofNat i + 8).toNatClampNeg) (xs (Int32.ofNat i + 9).toNatClampNeg)
        exact lc_22 C hnc hns hv e1 e2 (back σ1' σ2' hR2)
      by_cases c23 : xs (Int32.ofNat i).toNatClampNeg &&& 63 = 23
      · refine w_swE C (pc := 33) 1300 c23 dL_law_33 (by decide) (by decide) rfl rfl ?_
        obtain ⟨r, σ1', σ2', e1, e2, hR2⟩ := o23 σ1 σ2 hR (xs (Int32.ofNat i + 1).toNatClampNeg) (xs (Int32.ofNat i + 2).toNatClampNeg) (xs (Int32.ofNat i + 3).toNatClampNeg) (xs (Int32.ofNat i + 4).toNatClampNeg) (xs (Int32.ofNat i + 5).toNatClampNeg)
        exact lc_23 C hnc hns hv e1 e2 (back σ1' σ2' hR2)
      by_cases c24 : xs (Int32.ofNat i).toNatClampNeg &&& 63 = 24
      · refine w_swE C (pc := 33) 1363 c24 dL_law_33 (by decide) (by decide) rfl rfl ?_
        obtain ⟨r, σ1', σ2', e1, e2, hR2⟩ := o24 σ1 σ2 hR
        exact lc_24 C hnc hns hv e1 e2 (back σ1' σ2' hR2)
      by_cases c25 : xs (Int32.ofNat i).toNatClampNeg &&& 63 = 25
      · refine w_swE C (pc := 33) 1376 c25 dL_law_33 (by decide) (by decide) rfl rfl ?_
        obtain ⟨r, σ1', σ2', e1, e2, hR2⟩ := o25 σ1 σ2 hR (xs (Int32.ofNat i + 1).toNatClampNeg) (xs (Int32.ofNat i + 2).toNatClampNeg) (xs (Int32.ofNat i + 3).toNatClampNeg) (xs (Int32.ofNat i + 4).toNatClampNeg)
        exact lc_25 C hnc hns hv e1 e2 (back σ1' σ2' hR2)
      by_cases c26 : xs (Int32.ofNat i).toNatClampNeg &&& 63 = 26
      · refine w_swE C (pc := 33) 1429 c26 dL_law_33 (by decide) (by decide) rfl rfl ?_
        obtain ⟨r, σ1', σ2', e1, e2, hR2⟩ := o26 σ1 σ2 hR
        exact lc_26 C hnc hns hv e1 e2 (back σ1' σ2' hR2)
      by_cases c27 : xs (Int32.ofNat i).toNatClampNeg &&& 63 = 27
      · refine w_swE C (pc := 33) 1442 c27 dL_law_33 (by decide) (by decide) rfl rfl ?_
        obtain ⟨r, σ1', σ2', e1, e2, hR2⟩ := o27 σ1 σ2 hR (xs (Int32.ofNat i + 1).toNatClampNeg) (xs (Int32.ofNat i + 2).toNatClampNeg) (xs (Int32.ofNat i + 3).toNatClampNeg) (xs (Int32.ofNat i + 4).toNatClampNeg)
        exact lc_27 C hnc hns hv e1 e2 (back σ1' σ2' hR2)
      by_cases c28 : xs (Int32.ofNat i).toNatClampNeg &&& 63 = 28
      · refine w_swE C (pc := 33) 1495 c28 dL_law_33 (by decide) (by decide) rfl rfl ?_
        obtain ⟨r, σ1', σ2', e1, e2, hR2⟩ := o28 σ1 σ2 hR (xs (Int32.ofNat i + 1).toNatClampNeg)
        exact lc_28 C hnc hns hv e1 e2 (back σ1' σ2' hR2)
      by_cases c29 : xs (Int32.ofNat i).toNatClampNeg &&& 63 = 29
      · refine w_swE C (pc := 33) 1518 c29 dL_law_33 (by decide) (by decide) rfl rfl ?_
        obtain ⟨r, σ1', σ2', e1, e2, hR2⟩ := o29 σ1 σ2 hR (xs (Int32.ofNat i + 1).toNatClampNeg) (xs (Int32.ofNat i + 2).toNatClampNeg) (xs (Int32.ofNat i + 3).toNatClampNeg) (decide (¬ (xs (Int32.ofNat i + 4).toNatClampNeg) = 0)) (decide (¬ (xs (Int32.ofNat i + 5).toNatClampNeg) = 0))
        exact lc_29 C hnc hns hv e1 e2 (back σ1' σ2' hR2)
      by_cases c30 : xs (Int32.ofNat i).toNatClampNeg &&& 63 = 30
      · refine w_swE C (pc := 33) 1613 c30 dL_law_33 (by decide) (by decide) rfl rfl ?_
        obtain ⟨r, σ1', σ2', e1, e2, hR2⟩ := o30 σ1 σ2 hR (xs (Int32.ofNat i + 1).toNatClampNeg) (xs (Int32.ofNat i + 2).toNatClampNeg) (xs (Int32.ofNat i + 3).toNatClampNeg) (xs (Int32.ofNat i + 4).toNatClampNeg)
        exact lc_30 C hnc hns hv e1 e2 (back σ1' σ2' hR2)
      by_cases c31 : xs (Int32.ofNat i).toNatClampNeg &&& 63 = 31
      · refine w_swE C (pc := 33) 1666 c31 dL_law_33 (by decide) (by decide) rfl rfl ?_
        obtain ⟨r, σ1', σ2', e1, e2, hR2⟩ := o31 σ1 σ2 hR (xs (Int32.ofNat i + 1).toNatClampNeg) (xs (Int32.ofNat i + 2).toNatClampNeg) (xs (Int32.ofNat i + 3).toNatClampNeg) (decide (¬ (xs (Int32.ofNat i + 4).toNatClampNeg) = 0)) (xs (Int32.ofNat i + 5).toNatClampNeg) (xs (Int32.ofNat i + 6).toNatClampNeg) (xs (Int32.ofNat i + 7).toNatClampNeg) (xs (Int32.ofNat i + 8).toNatClampNeg)
        exact lc_31 C hnc hns hv e1 e2 (back σ1' σ2' hR2)
      by_cases c32 : xs (Int32.ofNat i).toNatClampNeg &&& 63 = 32
      · refine w_swE C (pc := 33) 1781 c32 dL_law_33 (by decide) (by decide) rfl rfl ?_
        obtain ⟨r, σ1', σ2', e1, e2, hR2⟩ := o32 σ1 σ2 hR (xs (Int32.ofNat i + 1).toNatClampNeg) (xs (Int32.ofNat i + 2).toNatClampNeg) (xs (Int32.ofNat i + 3).toNatClampNeg)
        exact lc_32 C hnc hns hv e1 e2 (back σ1' σ2' hR2)
      by_cases c33 : xs (Int32.ofNat i).toNatClampNeg &&& 63 = 33
      · refine w_swE C (pc := 33) 1824 c33 dL_law_33 (by decide) (by decide) rfl rfl ?_
        obtain ⟨r, σ1', σ2', e1, e2, hR2⟩ := o33 σ1 σ2 hR (xs (Int32.ofNat i + 1).toNatClampNeg) (xs (Int32.ofNat i + 2).toNatClampNeg) (xs (Int32.ofNat i + 3).toNatClampNeg) (xs (Int32.ofNat i + 4).toNatClampNeg)
        exact lc_33 C hnc hns hv e1 e2 (back σ1' σ2' hR2)
      by_cases c34 : xs (Int32.ofNat i).toNatClampNeg &&& 63 = 34
      · refine w_swE C (pc := 33) 1877 c34 dL_law_33 (by decide) (by decide) rfl rfl ?_
        obtain ⟨r, σ1', σ2', e1, e2, hR2⟩ := o34 σ1 σ2 hR (xs (Int32.ofNat i + 1).toNatClampNeg)
        exact lc_34 C hnc hns hv e1 e2 (back σ1' σ2' hR2)
      by_cases c35 : xs (Int32.ofNat i).toNatClampNeg &&& 63 = 35
      · refine w_swE C (pc := 33) 1900 c35 dL_law_33 (by decide) (by decide) rfl rfl ?_
        obtain ⟨r, σ1', σ2', e1, e2, hR2⟩ := o35 σ1 σ2 hR (xs (Int32.ofNat i + 1).toNatClampNeg) (xs (Int32.ofNat i + 2).toNatClampNeg) (xs (Int32.ofNat i + 3).toNatClampNeg)
        exact lc_35 C hnc hns hv e1 e2 (back σ1' σ2' hR2)
      by_cases c36 : xs (Int32.ofNat i).toNatClampNeg &&& 63 = 36
      · refine w_swE C (pc := 33) 1943 c36 dL_law_33 (by decide) (by decide) rfl rfl ?_
        obtain ⟨r, σ1', σ2', e1, e2, hR2⟩ := o36 σ1 σ2 hR (xs (Int32.ofNat i + 1).toNatClampNeg) (xs (Int32.ofNat i + 2).toNatClampNeg) (decide (¬ (xs (Int32.ofNat i + 3).toNatClampNeg) = 0)) (decide (¬ (xs (Int32.ofNat i + 4).toNatClampNeg) = 0))
        exact lc_36 C hnc hns hv e1 e2 (back σ1' σ2' hR2)
      by_cases c37 : xs (Int32.ofNat i).toNatClampNeg &&& 63 = 37
      · refine w_swE C (pc := 33) 2028 c37 dL_law_33 (by decide) (by decide) rfl rfl ?_
        obtain ⟨r, σ1', σ2', e1, e2, hR2⟩ := o37 σ1 σ2 hR (xs (Int32.ofNat i + 1).toNatClampNeg) (xs (Int32.ofNat i + 2).toNatClampNeg) (decide (¬ (xs (Int32.ofNat i + 3).toNatClampNeg) = 0)) (decide (¬ (xs (Int32.ofNat i + 4).toNatClampNeg) = 0)) (xs (Int32.ofNat i + 5).toNatClampNeg)
        exact lc_37 C hnc hns hv e1 e2 (back σ1' σ2' hR2)
      by_cases c38 : xs (Int32.ofNat i).toNatClampNeg &&& 63 = 38
      · refine w_swE C (pc := 33) 2123 c38 dL_law_33 (by decide) (by decide) rfl rfl ?_
        obtain ⟨r, σ1', σ2', e1, e2, hR2⟩ := o38 σ1 σ2 hR (xs (Int32.ofNat i + 1).toNatClampNeg) (xs (Int32.ofNat i + 2).toNatClampNeg) (decide (¬ (xs (Int32.ofNat i + 3).toNatClampNeg) = 0))
        exact lc_38 C hnc hns hv e1 e2 (back σ1' σ2' hR2)
      by_cases c39 : xs (Int32.ofNat i).toNatClampNeg &&& 63 = 39
      · refine w_swE C (pc := 33) 2182 c39 dL_law_33 (by decide) (by decide) rfl rfl ?_
        obtain ⟨r, σ1', σ2', e1, e2, hR2⟩ := o39 σ1 σ2 hR (xs (Int32.ofNat i + 1).toNatClampNeg) (xs (Int32.ofNat i + 2).toNatClampNeg) (decide (¬ (xs (Int32.ofNat i + 3).toNatClampNeg) = 0)) (xs (Int32.ofNat i + 4).toNatClampNeg)
        exact lc_39 C hnc hns hv e1 e2 (back σ1' σ2' hR2)
      by_cases c40 : xs (Int32.ofNat i).toNatClampNeg &&& 63 = 40
      · refine w_swE C (pc := 33) 2251 c40 dL_law_33 (by decide) (by decide) rfl rfl ?_
        obtain ⟨r, σ1', σ2', e1, e2, hR2⟩ := o40 σ1 σ2 hR (xs (Int32.ofNat i + 1).toNatClampNeg) (xs (Int32.ofNat i + 2).toNatClampNeg) (xs (Int32.ofNat i + 3).toNatClampNeg) (xs (Int32.ofNat i + 4).toNatClampNeg)
        exact lc_40 C hnc hns hv e1 e2 (back σ1' σ2' hR2)
      by_cases c41 : xs (Int32.ofNat i).toNatClampNeg &&& 63 = 41
      · refine w_swE C (pc := 33) 2304 c41 dL_law_33 (by decide) (by decide) rfl rfl ?_
        obtain ⟨r, σ1', σ2', e1, e2, hR2⟩ := o41 σ1 σ2 hR (xs (Int32.ofNat i + 1).toNatClampNeg) (xs (Int32.ofNat i + 2).toNatClampNeg)
        exact lc_41 C hnc hns hv e1 e2 (back σ1' σ2' hR2)
      by_cases c42 : xs (Int32.ofNat i).toNatClampNeg &&& 63 = 42
      · refine w_swE C (pc := 33) 2337 c42 dL_law_33 (by decide) (by decide) rfl rfl ?_
        obtain ⟨r, σ1', σ2', e1, e2, hR2⟩ := o42 σ1 σ2 hR (xs (Int32.ofNat i + 1).toNatClampNeg)
        exact lc_42 C hnc hns hv e1 e2 (back σ1' σ2' hR2)
      by_cases c43 : xs (Int32.ofNat i).toNatClampNeg &&& 63 = 43
      · refine w_swE C (pc := 33) 2361 c43 dL_law_33 (by decide) (by decide) rfl rfl ?_
        obtain ⟨r, σ1', σ2', e1, e2, hR2⟩ := o43 σ1 σ2 hR (xs (Int32.ofNat i + 1).toNatClampNeg)
        exact lc_43 C hnc hns hv e1 e2 (back σ1' σ2' hR2)
      by_cases c44 : xs (Int32.ofNat i).toNatClampNeg &&& 63 = 44
      · refine w_swE C (pc := 33) 2384 c44 dL_law_33 (by decide) (by decide) rfl rfl ?_
        obtain ⟨r, σ1', σ2', e1, e2, hR2⟩ := o44 σ1 σ2 hR (xs (Int32.ofNat i + 1).toNatClampNeg)
        exact lc_44 C hnc hns hv e1 e2 (back σ1' σ2' hR2)
      by_cases c45 : xs (Int32.ofNat i).toNatClampNeg &&& 63 = 45
      · refine w_swE C (pc := 33) 2407 c45 dL_law_33 (by decide) (by decide) rfl rfl ?_
        obtain ⟨r, σ1', σ2', e1, e2, hR2⟩ := o45 σ1 σ2 hR (xs (Int32.ofNat i + 1).toNatClampNeg) (xs (Int32.ofNat i + 2).toNatClampNeg)
        exact lc_45 C hnc hns hv e1 e2 (back σ1' σ2' hR2)
      by_cases c46 : xs (Int32.ofNat i).toNatClampNeg &&& 63 = 46
      · refine w_swE C (pc := 33) 2440 c46 dL_law_33 (by decide) (by decide) rfl rfl ?_
        obtain ⟨r, σ1', σ2', e1, e2, hR2⟩ := o46 σ1 σ2 hR (xs (Int32.ofNat i + 1).toNatClampNeg)
        exact lc_46 C hnc hns hv e1 e2 (back σ1' σ2' hR2)
      by_cases c47 : xs (Int32.ofNat i).toNatClampNeg &&& 63 = 47
      · refine w_swE C (pc := 33) 2464 c47 dL_law_33 (by decide) (by decide) rfl rfl ?_
        obtain ⟨r, σ1', σ2', e1, e2, hR2⟩ := o47 σ1 σ2 hR (xs (Int32.ofNat i + 1).toNatClampNeg)
        exact lc_47 C hnc hns hv e1 e2 (back σ1' σ2' hR2)
      by_cases c48 : xs (Int32.ofNat i).toNatClampNeg &&& 63 = 48
      · refine w_swE C (pc := 33) 2487 c48 dL_law_33 (by decide) (by decide) rfl rfl ?_
        obtain ⟨r, σ1', σ2', e1, e2, hR2⟩ := o48 σ1 σ2 hR (xs (Int32.ofNat i + 1).toNatClampNeg) (xs (Int32.ofNat i + 2).toNatClampNeg) (xs (Int32.ofNat i + 3).toNatClampNeg) (xs (Int32.ofNat i + 4).toNatClampNeg)
        exact lc_48 C hnc hns hv e1 e2 (back σ1' σ2' hR2)
      refine w_swO C (pc := 33) 2540 dL_law_33 (am_sw_out 49 (by decide) ?_) rfl (back σ1 σ2 hR)
      intro k hk
      rcases (by omega : k = 0 ∨ k = 1 ∨ k = 2 ∨ k = 3 ∨ k = 4 ∨ k = 5 ∨ k = 6 ∨ k = 7 ∨ k = 8 ∨ k = 9 ∨ k = 10 ∨ k = 11 ∨ k = 12 ∨ k = 13 ∨ k = 14 ∨ k = 15 ∨ k = 16 ∨ k = 17 ∨ k = 18 ∨ k = 19 ∨ k = 20 ∨ k = 21 ∨ k = 22 ∨ k = 23 ∨ k = 24 ∨ k = 25 ∨ k = 26 ∨ k = 27 ∨ k = 28 ∨ k = 29 ∨ k = 30 ∨ k = 31 ∨ k = 32 ∨ k = 33 ∨ k = 34 ∨ k = 35 ∨ k = 36 ∨ k = 37 ∨ k = 38 ∨ k = 39 ∨ k = 40 ∨ k = 41 ∨ k = 42 ∨ k = 43 ∨ k = 44 ∨ k = 45 ∨ k = 46 ∨ k = 47 ∨ k = 48) with rfl | rfl | rfl | rfl | rfl | rfl | rfl | rfl | rfl | rfl | rfl | rfl | rfl | rfl | rfl | rfl | rfl | rfl | rfl | rfl | rfl | rfl | rfl | rfl | rfl | rfl | rfl | rfl | rfl | rfl | rfl | rfl | rfl | rfl | rfl | rfl | rfl | rfl | rfl | rfl | rfl | rfl | rfl | rfl | rfl | rfl | rfl | rfl | rfl
      · exact c0
      · exact c1
      · exact c2
      · exact c3
      · exact c4
      · exact c5
      · exact c6
      · exact c7
      · exact c8
      · exact c9
      · exact c10
      · exact c11
      · exact c12
      · exact c13
      · exact c14
      · exact c15
      · exact c16
      · exact c17
      · exact c18
      · exact c19
      · exact c20
      · exact c21
      · exact c22
      · exact c23
      · exact c24
      · exact c25
      · exact c26
      · exact c27
      · exact c28
      · exact c29
      · exact c30
      · exact c31
      · exact c32
      · exact c33
      · exact c34
      · exact c35
      · exact c36
      · exact c37
      · exact c38
      · exact c39
      · exact c40
      · exact c41
      · exact c42
      · exact c43
      · exact c44
      · exact c45
      · exact c46
      · exact c47
      · exact c48
