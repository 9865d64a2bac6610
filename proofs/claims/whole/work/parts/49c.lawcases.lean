def gL_0 (sn : Nat) (sc : Nat → Int) (i : Int) (K : Hp → RT) (G : Hp) : RT := br (rdC sn sc (iadd i 1)) fun v1 => br (rdC sn sc (iadd i 2)) fun v2 => br (rdC sn sc (iadd i 3)) fun v3 => br (rdC sn sc (iadd i 4)) fun v4 => br (rdC sn sc (iadd i 5)) fun v5 => br (rdC sn sc (iadd i 6)) fun v6 => bn (mg G (fX11_feed 0 (lor' (lshl v1 32) (land' v2 4294967295)) (lor' (lshl v3 32) (land' v4 4294967295)) (lor' (lshl v5 32) (land' v6 4294967295)) G)) fun v8 G7 => br (rdC sn sc (iadd i 1)) fun v9 => br (rdC sn sc (iadd i 2)) fun v10 => br (rdC sn sc (iadd i 3)) fun v11 => br (rdC sn sc (iadd i 4)) fun v12 => br (rdC sn sc (iadd i 5)) fun v13 => br (rdC sn sc (iadd i 6)) fun v14 => bn (mg G7 (fX12_feed 111 (lor' (lshl v9 32) (land' v10 4294967295)) (lor' (lshl v11 32) (land' v12 4294967295)) (lor' (lshl v13 32) (land' v14 4294967295)) G7)) fun v16 G15 => if v8 = v16 then K G15 else rz 0 G15
set_option maxRecDepth 20000 in
set_option maxHeartbeats 4000000 in
theorem uL_0 {cx : CX} {x : WX} {b sn : Nat} {sc : Nat → Int} {k : Nat} (C : LC cx x b sn sc) (hk1 : k + 1 ≤ 4000) (i : Int) (K : Hp → RT) (G : Hp) (hK : ∀ g, Y (cxk cx k) x 7 (some .boolean) 130 1676 [(0, vR 500), (1, vR 0), (2, vR 111), (3, vR 129), (4, vI i)] [] g (K g)) : Y (cxk cx k) x 7 (some .boolean) 130 244 [(0, vR 500), (1, vR 0), (2, vR 111), (3, vR 129), (4, vI i)] [] G (gL_0 sn sc i K G) := by
  have hk : k ≤ 4000 := by omega
  have F := Fk C hk
  unfold gL_0
  refine x_aload_n F dL_law_244 rfl rfl rfl ?_
  refine x_aload_n F dL_law_245 rfl rfl rfl ?_
  refine x_iload F dL_law_246 rfl rfl ?_
  refine x_iconst F dL_law_248 ⟨by decide, by decide⟩ rfl ?_
  refine x_iadd F dL_law_249 rfl ?_
  refine x_scrLd C hk dL_law_250 rfl (fun v1 => ?_)
  refine x_i2l F dL_law_251 rfl ?_
  refine x_bipush F dL_law_252 ⟨by decide, by decide⟩ (by decide) rfl ?_
  refine x_lshl F dL_law_254 rfl ?_
  refine x_aload_n F dL_law_255 rfl rfl rfl ?_
  refine x_iload F dL_law_256 rfl rfl ?_
  refine x_iconst F dL_law_258 ⟨by decide, by decide⟩ rfl ?_
  refine x_iadd F dL_law_259 rfl ?_
  refine x_scrLd C hk dL_law_260 rfl (fun v2 => ?_)
  refine x_i2l F dL_law_261 rfl ?_
  refine x_ldc2 (v := 4294967295) F kjL_19 dL_law_262 ⟨by decide, by decide⟩ (by decide) rfl ?_
  refine x_land F dL_law_265 rfl ?_
  refine x_lor F dL_law_266 rfl ?_
  refine x_aload_n F dL_law_267 rfl rfl rfl ?_
  refine x_iload F dL_law_268 rfl rfl ?_
  refine x_iconst F dL_law_270 ⟨by decide, by decide⟩ rfl ?_
  refine x_iadd F dL_law_271 rfl ?_
  refine x_scrLd C hk dL_law_272 rfl (fun v3 => ?_)
  refine x_i2l F dL_law_273 rfl ?_
  refine x_bipush F dL_law_274 ⟨by decide, by decide⟩ (by decide) rfl ?_
  refine x_lshl F dL_law_276 rfl ?_
  refine x_aload_n F dL_law_277 rfl rfl rfl ?_
  refine x_iload F dL_law_278 rfl rfl ?_
  refine x_iconst F dL_law_280 ⟨by decide, by decide⟩ rfl ?_
  refine x_iadd F dL_law_281 rfl ?_
  refine x_scrLd C hk dL_law_282 rfl (fun v4 => ?_)
  refine x_i2l F dL_law_283 rfl ?_
  refine x_ldc2 (v := 4294967295) F kjL_19 dL_law_284 ⟨by decide, by decide⟩ (by decide) rfl ?_
  refine x_land F dL_law_287 rfl ?_
  refine x_lor F dL_law_288 rfl ?_
  refine x_aload_n F dL_law_289 rfl rfl rfl ?_
  refine x_iload F dL_law_290 rfl rfl ?_
  refine x_iconst F dL_law_292 ⟨by decide, by decide⟩ rfl ?_
  refine x_iadd F dL_law_293 rfl ?_
  refine x_scrLd C hk dL_law_294 rfl (fun v5 => ?_)
  refine x_i2l F dL_law_295 rfl ?_
  refine x_bipush F dL_law_296 ⟨by decide, by decide⟩ (by decide) rfl ?_
  refine x_lshl F dL_law_298 rfl ?_
  refine x_aload_n F dL_law_299 rfl rfl rfl ?_
  refine x_iload F dL_law_300 rfl rfl ?_
  refine x_bipush F dL_law_302 ⟨by decide, by decide⟩ (by decide) rfl ?_
  refine x_iadd F dL_law_304 rfl ?_
  refine x_scrLd C hk dL_law_305 rfl (fun v6 => ?_)
  refine x_i2l F dL_law_306 rfl ?_
  refine x_ldc2 (v := 4294967295) F kjL_19 dL_law_307 ⟨by decide, by decide⟩ (by decide) rfl ?_
  refine x_land F dL_law_310 rfl ?_
  refine x_lor F dL_law_311 rfl ?_
  refine x_callL C hk (as := [vL (lor' (lshl v1 32) (land' v2 4294967295)), vL (lor' (lshl v3 32) (land' v4 4294967295)), vL (lor' (lshl v5 32) (land' v6 4294967295))]) (S := []) lkL_21 mX11_feed rfl rfl (by decide) (tX11_feed cx.l x F.2.2.2.2.2.2.2.2.1 G 0 (lor' (lshl v1 32) (land' v2 4294967295)) (lor' (lshl v3 32) (land' v4 4294967295)) (lor' (lshl v5 32) (land' v6 4294967295)) rfl) (Nat.le_of_ble_eq_true rfl) (Nat.le_of_ble_eq_true rfl) dL_law_312 rfl rfl (fun v8 G7 => ?_)
  refine x_aload_n F dL_law_315 rfl rfl rfl ?_
  refine x_aload_n F dL_law_316 rfl rfl rfl ?_
  refine x_iload F dL_law_317 rfl rfl ?_
  refine x_iconst F dL_law_319 ⟨by decide, by decide⟩ rfl ?_
  refine x_iadd F dL_law_320 rfl ?_
  refine x_scrLd C hk dL_law_321 rfl (fun v9 => ?_)
  refine x_i2l F dL_law_322 rfl ?_
  refine x_bipush F dL_law_323 ⟨by decide, by decide⟩ (by decide) rfl ?_
  refine x_lshl F dL_law_325 rfl ?_
  refine x_aload_n F dL_law_326 rfl rfl rfl ?_
  refine x_iload F dL_law_327 rfl rfl ?_
  refine x_iconst F dL_law_329 ⟨by decide, by decide⟩ rfl ?_
  refine x_iadd F dL_law_330 rfl ?_
  refine x_scrLd C hk dL_law_331 rfl (fun v10 => ?_)
  refine x_i2l F dL_law_332 rfl ?_
  refine x_ldc2 (v := 4294967295) F kjL_19 dL_law_333 ⟨by decide, by decide⟩ (by decide) rfl ?_
  refine x_land F dL_law_336 rfl ?_
  refine x_lor F dL_law_337 rfl ?_
  refine x_aload_n F dL_law_338 rfl rfl rfl ?_
  refine x_iload F dL_law_339 rfl rfl ?_
  refine x_iconst F dL_law_341 ⟨by decide, by decide⟩ rfl ?_
  refine x_iadd F dL_law_342 rfl ?_
  refine x_scrLd C hk dL_law_343 rfl (fun v11 => ?_)
  refine x_i2l F dL_law_344 rfl ?_
  refine x_bipush F dL_law_345 ⟨by decide, by decide⟩ (by decide) rfl ?_
  refine x_lshl F dL_law_347 rfl ?_
  refine x_aload_n F dL_law_348 rfl rfl rfl ?_
  refine x_iload F dL_law_349 rfl rfl ?_
  refine x_iconst F dL_law_351 ⟨by decide, by decide⟩ rfl ?_
  refine x_iadd F dL_law_352 rfl ?_
  refine x_scrLd C hk dL_law_353 rfl (fun v12 => ?_)
  refine x_i2l F dL_law_354 rfl ?_
  refine x_ldc2 (v := 4294967295) F kjL_19 dL_law_355 ⟨by decide, by decide⟩ (by decide) rfl ?_
  refine x_land F dL_law_358 rfl ?_
  refine x_lor F dL_law_359 rfl ?_
  refine x_aload_n F dL_law_360 rfl rfl rfl ?_
  refine x_iload F dL_law_361 rfl rfl ?_
  refine x_iconst F dL_law_363 ⟨by decide, by decide⟩ rfl ?_
  refine x_iadd F dL_law_364 rfl ?_
  refine x_scrLd C hk dL_law_365 rfl (fun v13 => ?_)
  refine x_i2l F dL_law_366 rfl ?_
  refine x_bipush F dL_law_367 ⟨by decide, by decide⟩ (by decide) rfl ?_
  refine x_lshl F dL_law_369 rfl ?_
  refine x_aload_n F dL_law_370 rfl rfl rfl ?_
  refine x_iload F dL_law_371 rfl rfl ?_
  refine x_bipush F dL_law_373 ⟨by decide, by decide⟩ (by decide) rfl ?_
  refine x_iadd F dL_law_375 rfl ?_
  refine x_scrLd C hk dL_law_376 rfl (fun v14 => ?_)
  refine x_i2l F dL_law_377 rfl ?_
  refine x_ldc2 (v := 4294967295) F kjL_19 dL_law_378 ⟨by decide, by decide⟩ (by decide) rfl ?_
  refine x_land F dL_law_381 rfl ?_
  refine x_lor F dL_law_382 rfl ?_
  refine x_callL C hk (as := [vL (lor' (lshl v9 32) (land' v10 4294967295)), vL (lor' (lshl v11 32) (land' v12 4294967295)), vL (lor' (lshl v13 32) (land' v14 4294967295))]) (S := [vI v8]) lkL_25 mX12_feed rfl rfl (by decide) (tX12_feed cx.l x F.2.2.2.2.2.2.2.2.1 G7 111 (lor' (lshl v9 32) (land' v10 4294967295)) (lor' (lshl v11 32) (land' v12 4294967295)) (lor' (lshl v13 32) (land' v14 4294967295)) rfl) (Nat.le_of_ble_eq_true rfl) (Nat.le_of_ble_eq_true rfl) dL_law_383 rfl rfl (fun v16 G15 => ?_)
  refine x_icmpeq (pt := 1676) F dL_law_386 rfl rfl ?_ ?_
  · exact hK G15
  · refine x_iconst F dL_law_389 ⟨by decide, by decide⟩ rfl ?_
    exact x_retL C hk (Nat.le_refl _) dL_law_390
def gL_1 (sn : Nat) (sc : Nat → Int) (i : Int) (K : Hp → RT) (G : Hp) : RT := bn (mg G (fX11_ring 0 G)) fun v2 G1 => bn (mg G1 (fX12_ring 111 G1)) fun v4 G3 => if v2 = v4 then K G3 else rz 0 G3
set_option maxRecDepth 20000 in
set_option maxHeartbeats 4000000 in
theorem uL_1 {cx : CX} {x : WX} {b sn : Nat} {sc : Nat → Int} {k : Nat} (C : LC cx x b sn sc) (hk1 : k + 1 ≤ 4000) (i : Int) (K : Hp → RT) (G : Hp) (hK : ∀ g, Y (cxk cx k) x 7 (some .boolean) 130 1676 [(0, vR 500), (1, vR 0), (2, vR 111), (3, vR 129), (4, vI i)] [] g (K g)) : Y (cxk cx k) x 7 (some .boolean) 130 391 [(0, vR 500), (1, vR 0), (2, vR 111), (3, vR 129), (4, vI i)] [] G (gL_1 sn sc i K G) := by
  have hk : k ≤ 4000 := by omega
  have F := Fk C hk
  unfold gL_1
  refine x_aload_n F dL_law_391 rfl rfl rfl ?_
  refine x_callL C hk (as := []) (S := []) lkL_26 mX11_ring rfl rfl (by decide) (tX11_ring cx.l x F.2.2.2.2.2.2.2.2.1 G 0 rfl) (Nat.le_of_ble_eq_true rfl) (Nat.le_of_ble_eq_true rfl) dL_law_392 rfl rfl (fun v2 G1 => ?_)
  refine x_aload_n F dL_law_395 rfl rfl rfl ?_
  refine x_callL C hk (as := []) (S := [vI v2]) lkL_30 mX12_ring rfl rfl (by decide) (tX12_ring cx.l x F.2.2.2.2.2.2.2.2.1 G1 111 rfl) (Nat.le_of_ble_eq_true rfl) (Nat.le_of_ble_eq_true rfl) dL_law_396 rfl rfl (fun v4 G3 => ?_)
  refine x_icmpeq (pt := 1676) F dL_law_399 rfl rfl ?_ ?_
  · exact hK G3
  · refine x_iconst F dL_law_402 ⟨by decide, by decide⟩ rfl ?_
    exact x_retL C hk (Nat.le_refl _) dL_law_403
def gL_2 (sn : Nat) (sc : Nat → Int) (i : Int) (K : Hp → RT) (G : Hp) : RT := bn (mg G (fX11_work 0 G)) fun v2 G1 => bn (mg G1 (fX12_work 111 G1)) fun v4 G3 => if v2 = v4 then K G3 else rz 0 G3
set_option maxRecDepth 20000 in
set_option maxHeartbeats 4000000 in
theorem uL_2 {cx : CX} {x : WX} {b sn : Nat} {sc : Nat → Int} {k : Nat} (C : LC cx x b sn sc) (hk1 : k + 1 ≤ 4000) (i : Int) (K : Hp → RT) (G : Hp) (hK : ∀ g, Y (cxk cx k) x 7 (some .boolean) 130 1676 [(0, vR 500), (1, vR 0), (2, vR 111), (3, vR 129), (4, vI i)] [] g (K g)) : Y (cxk cx k) x 7 (some .boolean) 130 404 [(0, vR 500), (1, vR 0), (2, vR 111), (3, vR 129), (4, vI i)] [] G (gL_2 sn sc i K G) := by
  have hk : k ≤ 4000 := by omega
  have F := Fk C hk
  unfold gL_2
  refine x_aload_n F dL_law_404 rfl rfl rfl ?_
  refine x_callL C hk (as := []) (S := []) lkL_31 mX11_work rfl rfl (by decide) (tX11_work cx.l x F.2.2.2.2.2.2.2.2.1 G 0 rfl) (Nat.le_of_ble_eq_true rfl) (Nat.le_of_ble_eq_true rfl) dL_law_405 rfl rfl (fun v2 G1 => ?_)
  refine x_aload_n F dL_law_408 rfl rfl rfl ?_
  refine x_callL C hk (as := []) (S := [vI v2]) lkL_34 mX12_work rfl rfl (by decide) (tX12_work cx.l x F.2.2.2.2.2.2.2.2.1 G1 111 rfl) (Nat.le_of_ble_eq_true rfl) (Nat.le_of_ble_eq_true rfl) dL_law_409 rfl rfl (fun v4 G3 => ?_)
  refine x_icmpeq (pt := 1676) F dL_law_412 rfl rfl ?_ ?_
  · exact hK G3
  · refine x_iconst F dL_law_415 ⟨by decide, by decide⟩ rfl ?_
    exact x_retL C hk (Nat.le_refl _) dL_law_416
def gL_3 (sn : Nat) (sc : Nat → Int) (i : Int) (K : Hp → RT) (G : Hp) : RT := br (rdC sn sc (iadd i 1)) fun v1 => br (rdC sn sc (iadd i 2)) fun v2 => bn (mg G (fX11_node 0 v1 v2 G)) fun v4 G3 => br (rdC sn sc (iadd i 1)) fun v5 => br (rdC sn sc (iadd i 2)) fun v6 => bn (mg G3 (fX12_node 111 v5 v6 G3)) fun v8 G7 => if v4 = v8 then K G7 else rz 0 G7
set_option maxRecDepth 20000 in
set_option maxHeartbeats 4000000 in
theorem uL_3 {cx : CX} {x : WX} {b sn : Nat} {sc : Nat → Int} {k : Nat} (C : LC cx x b sn sc) (hk1 : k + 1 ≤ 4000) (i : Int) (K : Hp → RT) (G : Hp) (hK : ∀ g, Y (cxk cx k) x 7 (some .boolean) 130 1676 [(0, vR 500), (1, vR 0), (2, vR 111), (3, vR 129), (4, vI i)] [] g (K g)) : Y (cxk cx k) x 7 (some .boolean) 130 417 [(0, vR 500), (1, vR 0), (2, vR 111), (3, vR 129), (4, vI i)] [] G (gL_3 sn sc i K G) := by
  have hk : k ≤ 4000 := by omega
  have F := Fk C hk
  unfold gL_3
  refine x_aload_n F dL_law_417 rfl rfl rfl ?_
  refine x_aload_n F dL_law_418 rfl rfl rfl ?_
  refine x_iload F dL_law_419 rfl rfl ?_
  refine x_iconst F dL_law_421 ⟨by decide, by decide⟩ rfl ?_
  refine x_iadd F dL_law_422 rfl ?_
  refine x_scrLd C hk dL_law_423 rfl (fun v1 => ?_)
  refine x_aload_n F dL_law_424 rfl rfl rfl ?_
  refine x_iload F dL_law_425 rfl rfl ?_
  refine x_iconst F dL_law_427 ⟨by decide, by decide⟩ rfl ?_
  refine x_iadd F dL_law_428 rfl ?_
  refine x_scrLd C hk dL_law_429 rfl (fun v2 => ?_)
  refine x_callL C hk (as := [vI v1, vI v2]) (S := []) lkL_35 mX11_node rfl rfl (by decide) (tX11_node cx.l x F.2.2.2.2.2.2.2.2.1 G 0 v1 v2 rfl) (Nat.le_of_ble_eq_true rfl) (Nat.le_of_ble_eq_true rfl) dL_law_430 rfl rfl (fun v4 G3 => ?_)
  refine x_aload_n F dL_law_433 rfl rfl rfl ?_
  refine x_aload_n F dL_law_434 rfl rfl rfl ?_
  refine x_iload F dL_law_435 rfl rfl ?_
  refine x_iconst F dL_law_437 ⟨by decide, by decide⟩ rfl ?_
  refine x_iadd F dL_law_438 rfl ?_
  refine x_scrLd C hk dL_law_439 rfl (fun v5 => ?_)
  refine x_aload_n F dL_law_440 rfl rfl rfl ?_
  refine x_iload F dL_law_441 rfl rfl ?_
  refine x_iconst F dL_law_443 ⟨by decide, by decide⟩ rfl ?_
  refine x_iadd F dL_law_444 rfl ?_
  refine x_scrLd C hk dL_law_445 rfl (fun v6 => ?_)
  refine x_callL C hk (as := [vI v5, vI v6]) (S := [vI v4]) lkL_39 mX12_node rfl rfl (by decide) (tX12_node cx.l x F.2.2.2.2.2.2.2.2.1 G3 111 v5 v6 rfl) (Nat.le_of_ble_eq_true rfl) (Nat.le_of_ble_eq_true rfl) dL_law_446 rfl rfl (fun v8 G7 => ?_)
  refine x_icmpeq (pt := 1676) F dL_law_449 rfl rfl ?_ ?_
  · exact hK G7
  · refine x_iconst F dL_law_452 ⟨by decide, by decide⟩ rfl ?_
    exact x_retL C hk (Nat.le_refl _) dL_law_453
def gL_4 (sn : Nat) (sc : Nat → Int) (i : Int) (K : Hp → RT) (G : Hp) : RT := br (rdC sn sc (iadd i 1)) fun v1 => br (rdC sn sc (iadd i 2)) fun v2 => bn (mg G (fX11_listed 0 v1 v2 G)) fun v4 G3 => br (rdC sn sc (iadd i 1)) fun v5 => br (rdC sn sc (iadd i 2)) fun v6 => bn (mg G3 (fX12_listed 111 v5 v6 G3)) fun v8 G7 => if v4 = v8 then K G7 else rz 0 G7
set_option maxRecDepth 20000 in
set_option maxHeartbeats 4000000 in
theorem uL_4 {cx : CX} {x : WX} {b sn : Nat} {sc : Nat → Int} {k : Nat} (C : LC cx x b sn sc) (hk1 : k + 1 ≤ 4000) (i : Int) (K : Hp → RT) (G : Hp) (hK : ∀ g, Y (cxk cx k) x 7 (some .boolean) 130 1676 [(0, vR 500), (1, vR 0), (2, vR 111), (3, vR 129), (4, vI i)] [] g (K g)) : Y (cxk cx k) x 7 (some .boolean) 130 454 [(0, vR 500), (1, vR 0), (2, vR 111), (3, vR 129), (4, vI i)] [] G (gL_4 sn sc i K G) := by
  have hk : k ≤ 4000 := by omega
  have F := Fk C hk
  unfold gL_4
  refine x_aload_n F dL_law_454 rfl rfl rfl ?_
  refine x_aload_n F dL_law_455 rfl rfl rfl ?_
  refine x_iload F dL_law_456 rfl rfl ?_
  refine x_iconst F dL_law_458 ⟨by decide, by decide⟩ rfl ?_
  refine x_iadd F dL_law_459 rfl ?_
  refine x_scrLd C hk dL_law_460 rfl (fun v1 => ?_)
  refine x_aload_n F dL_law_461 rfl rfl rfl ?_
  refine x_iload F dL_law_462 rfl rfl ?_
  refine x_iconst F dL_law_464 ⟨by decide, by decide⟩ rfl ?_
  refine x_iadd F dL_law_465 rfl ?_
  refine x_scrLd C hk dL_law_466 rfl (fun v2 => ?_)
  refine x_callL C hk (as := [vI v1, vI v2]) (S := []) lkL_40 mX11_listed rfl rfl (by decide) (tX11_listed cx.l x F.2.2.2.2.2.2.2.2.1 G 0 v1 v2 rfl) (Nat.le_of_ble_eq_true rfl) (Nat.le_of_ble_eq_true rfl) dL_law_467 rfl rfl (fun v4 G3 => ?_)
  refine x_aload_n F dL_law_470 rfl rfl rfl ?_
  refine x_aload_n F dL_law_471 rfl rfl rfl ?_
  refine x_iload F dL_law_472 rfl rfl ?_
  refine x_iconst F dL_law_474 ⟨by decide, by decide⟩ rfl ?_
  refine x_iadd F dL_law_475 rfl ?_
  refine x_scrLd C hk dL_law_476 rfl (fun v5 => ?_)
  refine x_aload_n F dL_law_477 rfl rfl rfl ?_
  refine x_iload F dL_law_478 rfl rfl ?_
  refine x_iconst F dL_law_480 ⟨by decide, by decide⟩ rfl ?_
  refine x_iadd F dL_law_481 rfl ?_
  refine x_scrLd C hk dL_law_482 rfl (fun v6 => ?_)
  refine x_callL C hk (as := [vI v5, vI v6]) (S := [vI v4]) lkL_43 mX12_listed rfl rfl (by decide) (tX12_listed cx.l x F.2.2.2.2.2.2.2.2.1 G3 111 v5 v6 rfl) (Nat.le_of_ble_eq_true rfl) (Nat.le_of_ble_eq_true rfl) dL_law_483 rfl rfl (fun v8 G7 => ?_)
  refine x_icmpeq (pt := 1676) F dL_law_486 rfl rfl ?_ ?_
  · exact hK G7
  · refine x_iconst F dL_law_489 ⟨by decide, by decide⟩ rfl ?_
    exact x_retL C hk (Nat.le_refl _) dL_law_490
def gL_5 (sn : Nat) (sc : Nat → Int) (i : Int) (K : Hp → RT) (G : Hp) : RT := br (rdC sn sc (iadd i 1)) fun v1 => br (rdC sn sc (iadd i 2)) fun v2 => bn (mg G (fX11_finger 0 v1 v2 G)) fun v4 G3 => br (rdC sn sc (iadd i 1)) fun v5 => br (rdC sn sc (iadd i 2)) fun v6 => bn (mg G3 (fX12_finger 111 v5 v6 G3)) fun v8 G7 => if v4 = v8 then K G7 else rz 0 G7
set_option maxRecDepth 20000 in
set_option maxHeartbeats 4000000 in
theorem uL_5 {cx : CX} {x : WX} {b sn : Nat} {sc : Nat → Int} {k : Nat} (C : LC cx x b sn sc) (hk1 : k + 1 ≤ 4000) (i : Int) (K : Hp → RT) (G : Hp) (hK : ∀ g, Y (cxk cx k) x 7 (some .boolean) 130 1676 [(0, vR 500), (1, vR 0), (2, vR 111), (3, vR 129), (4, vI i)] [] g (K g)) : Y (cxk cx k) x 7 (some .boolean) 130 491 [(0, vR 500), (1, vR 0), (2, vR 111), (3, vR 129), (4, vI i)] [] G (gL_5 sn sc i K G) := by
  have hk : k ≤ 4000 := by omega
  have F := Fk C hk
  unfold gL_5
  refine x_aload_n F dL_law_491 rfl rfl rfl ?_
  refine x_aload_n F dL_law_492 rfl rfl rfl ?_
  refine x_iload F dL_law_493 rfl rfl ?_
  refine x_iconst F dL_law_495 ⟨by decide, by decide⟩ rfl ?_
  refine x_iadd F dL_law_496 rfl ?_
  refine x_scrLd C hk dL_law_497 rfl (fun v1 => ?_)
  refine x_aload_n F dL_law_498 rfl rfl rfl ?_
  refine x_iload F dL_law_499 rfl rfl ?_
  refine x_iconst F dL_law_501 ⟨by decide, by decide⟩ rfl ?_
  refine x_iadd F dL_law_502 rfl ?_
  refine x_scrLd C hk dL_law_503 rfl (fun v2 => ?_)
  refine x_callL C hk (as := [vI v1, vI v2]) (S := []) lkL_44 mX11_finger rfl rfl (by decide) (tX11_finger cx.l x F.2.2.2.2.2.2.2.2.1 G 0 v1 v2 rfl) (Nat.le_of_ble_eq_true rfl) (Nat.le_of_ble_eq_true rfl) dL_law_504 rfl rfl (fun v4 G3 => ?_)
  refine x_aload_n F dL_law_507 rfl rfl rfl ?_
  refine x_aload_n F dL_law_508 rfl rfl rfl ?_
  refine x_iload F dL_law_509 rfl rfl ?_
  refine x_iconst F dL_law_511 ⟨by decide, by decide⟩ rfl ?_
  refine x_iadd F dL_law_512 rfl ?_
  refine x_scrLd C hk dL_law_513 rfl (fun v5 => ?_)
  refine x_aload_n F dL_law_514 rfl rfl rfl ?_
  refine x_iload F dL_law_515 rfl rfl ?_
  refine x_iconst F dL_law_517 ⟨by decide, by decide⟩ rfl ?_
  refine x_iadd F dL_law_518 rfl ?_
  refine x_scrLd C hk dL_law_519 rfl (fun v6 => ?_)
  refine x_callL C hk (as := [vI v5, vI v6]) (S := [vI v4]) lkL_47 mX12_finger rfl rfl (by decide) (tX12_finger cx.l x F.2.2.2.2.2.2.2.2.1 G3 111 v5 v6 rfl) (Nat.le_of_ble_eq_true rfl) (Nat.le_of_ble_eq_true rfl) dL_law_520 rfl rfl (fun v8 G7 => ?_)
  refine x_icmpeq (pt := 1676) F dL_law_523 rfl rfl ?_ ?_
  · exact hK G7
  · refine x_iconst F dL_law_526 ⟨by decide, by decide⟩ rfl ?_
    exact x_retL C hk (Nat.le_refl _) dL_law_527
def gL_6 (sn : Nat) (sc : Nat → Int) (i : Int) (K : Hp → RT) (G : Hp) : RT := br (rdC sn sc (iadd i 1)) fun v1 => br (rdC sn sc (iadd i 2)) fun v2 => bn (mg G (fX11_key 0 v1 v2 G)) fun v4 G3 => br (rdC sn sc (iadd i 1)) fun v5 => br (rdC sn sc (iadd i 2)) fun v6 => bn (mg G3 (fX12_key 111 v5 v6 G3)) fun v8 G7 => if v4 = v8 then K G7 else rz 0 G7
set_option maxRecDepth 20000 in
set_option maxHeartbeats 4000000 in
theorem uL_6 {cx : CX} {x : WX} {b sn : Nat} {sc : Nat → Int} {k : Nat} (C : LC cx x b sn sc) (hk1 : k + 1 ≤ 4000) (i : Int) (K : Hp → RT) (G : Hp) (hK : ∀ g, Y (cxk cx k) x 7 (some .boolean) 130 1676 [(0, vR 500), (1, vR 0), (2, vR 111), (3, vR 129), (4, vI i)] [] g (K g)) : Y (cxk cx k) x 7 (some .boolean) 130 528 [(0, vR 500), (1, vR 0), (2, vR 111), (3, vR 129), (4, vI i)] [] G (gL_6 sn sc i K G) := by
  have hk : k ≤ 4000 := by omega
  have F := Fk C hk
  unfold gL_6
  refine x_aload_n F dL_law_528 rfl rfl rfl ?_
  refine x_aload_n F dL_law_529 rfl rfl rfl ?_
  refine x_iload F dL_law_530 rfl rfl ?_
  refine x_iconst F dL_law_532 ⟨by decide, by decide⟩ rfl ?_
  refine x_iadd F dL_law_533 rfl ?_
  refine x_scrLd C hk dL_law_534 rfl (fun v1 => ?_)
  refine x_aload_n F dL_law_535 rfl rfl rfl ?_
  refine x_iload F dL_law_536 rfl rfl ?_
  refine x_iconst F dL_law_538 ⟨by decide, by decide⟩ rfl ?_
  refine x_iadd F dL_law_539 rfl ?_
  refine x_scrLd C hk dL_law_540 rfl (fun v2 => ?_)
  refine x_callL C hk (as := [vI v1, vI v2]) (S := []) lkL_48 mX11_key rfl rfl (by decide) (tX11_key cx.l x F.2.2.2.2.2.2.2.2.1 G 0 v1 v2 rfl) (Nat.le_of_ble_eq_true rfl) (Nat.le_of_ble_eq_true rfl) dL_law_541 rfl rfl (fun v4 G3 => ?_)
  refine x_aload_n F dL_law_544 rfl rfl rfl ?_
  refine x_aload_n F dL_law_545 rfl rfl rfl ?_
  refine x_iload F dL_law_546 rfl rfl ?_
  refine x_iconst F dL_law_548 ⟨by decide, by decide⟩ rfl ?_
  refine x_iadd F dL_law_549 rfl ?_
  refine x_scrLd C hk dL_law_550 rfl (fun v5 => ?_)
  refine x_aload_n F dL_law_551 rfl rfl rfl ?_
  refine x_iload F dL_law_552 rfl rfl ?_
  refine x_iconst F dL_law_554 ⟨by decide, by decide⟩ rfl ?_
  refine x_iadd F dL_law_555 rfl ?_
  refine x_scrLd C hk dL_law_556 rfl (fun v6 => ?_)
  refine x_callL C hk (as := [vI v5, vI v6]) (S := [vI v4]) lkL_51 mX12_key rfl rfl (by decide) (tX12_key cx.l x F.2.2.2.2.2.2.2.2.1 G3 111 v5 v6 rfl) (Nat.le_of_ble_eq_true rfl) (Nat.le_of_ble_eq_true rfl) dL_law_557 rfl rfl (fun v8 G7 => ?_)
  refine x_icmpeq (pt := 1676) F dL_law_560 rfl rfl ?_ ?_
  · exact hK G7
  · refine x_iconst F dL_law_563 ⟨by decide, by decide⟩ rfl ?_
    exact x_retL C hk (Nat.le_refl _) dL_law_564
def gL_7 (sn : Nat) (sc : Nat → Int) (i : Int) (K : Hp → RT) (G : Hp) : RT := br (rdC sn sc (iadd i 1)) fun v1 => bn (mg G (fX11_start 0 v1 G)) fun v3 G2 => br (rdC sn sc (iadd i 1)) fun v4 => bn (mg G2 (fX12_start 111 v4 G2)) fun v6 G5 => if v3 = v6 then K G5 else rz 0 G5
set_option maxRecDepth 20000 in
set_option maxHeartbeats 4000000 in
theorem uL_7 {cx : CX} {x : WX} {b sn : Nat} {sc : Nat → Int} {k : Nat} (C : LC cx x b sn sc) (hk1 : k + 1 ≤ 4000) (i : Int) (K : Hp → RT) (G : Hp) (hK : ∀ g, Y (cxk cx k) x 7 (some .boolean) 130 1676 [(0, vR 500), (1, vR 0), (2, vR 111), (3, vR 129), (4, vI i)] [] g (K g)) : Y (cxk cx k) x 7 (some .boolean) 130 565 [(0, vR 500), (1, vR 0), (2, vR 111), (3, vR 129), (4, vI i)] [] G (gL_7 sn sc i K G) := by
  have hk : k ≤ 4000 := by omega
  have F := Fk C hk
  unfold gL_7
  refine x_aload_n F dL_law_565 rfl rfl rfl ?_
  refine x_aload_n F dL_law_566 rfl rfl rfl ?_
  refine x_iload F dL_law_567 rfl rfl ?_
  refine x_iconst F dL_law_569 ⟨by decide, by decide⟩ rfl ?_
  refine x_iadd F dL_law_570 rfl ?_
  refine x_scrLd C hk dL_law_571 rfl (fun v1 => ?_)
  refine x_callL C hk (as := [vI v1]) (S := []) lkL_52 mX11_start rfl rfl (by decide) (tX11_start cx.l x F.2.2.2.2.2.2.2.2.1 G 0 v1 rfl) (Nat.le_of_ble_eq_true rfl) (Nat.le_of_ble_eq_true rfl) dL_law_572 rfl rfl (fun v3 G2 => ?_)
  refine x_aload_n F dL_law_575 rfl rfl rfl ?_
  refine x_aload_n F dL_law_576 rfl rfl rfl ?_
  refine x_iload F dL_law_577 rfl rfl ?_
  refine x_iconst F dL_law_579 ⟨by decide, by decide⟩ rfl ?_
  refine x_iadd F dL_law_580 rfl ?_
  refine x_scrLd C hk dL_law_581 rfl (fun v4 => ?_)
  refine x_callL C hk (as := [vI v4]) (S := [vI v3]) lkL_56 mX12_start rfl rfl (by decide) (tX12_start cx.l x F.2.2.2.2.2.2.2.2.1 G2 111 v4 rfl) (Nat.le_of_ble_eq_true rfl) (Nat.le_of_ble_eq_true rfl) dL_law_582 rfl rfl (fun v6 G5 => ?_)
  refine x_icmpeq (pt := 1676) F dL_law_585 rfl rfl ?_ ?_
  · exact hK G5
  · refine x_iconst F dL_law_588 ⟨by decide, by decide⟩ rfl ?_
    exact x_retL C hk (Nat.le_refl _) dL_law_589
def gL_8 (sn : Nat) (sc : Nat → Int) (i : Int) (K : Hp → RT) (G : Hp) : RT := br (rdC sn sc (iadd i 1)) fun v1 => br (rdC sn sc (iadd i 2)) fun v2 => bn (mg G (fX11_join 0 v1 v2 G)) fun v4 G3 => br (rdC sn sc (iadd i 1)) fun v5 => br (rdC sn sc (iadd i 2)) fun v6 => bn (mg G3 (fX12_join 111 v5 v6 G3)) fun v8 G7 => if v4 = v8 then K G7 else rz 0 G7
set_option maxRecDepth 20000 in
set_option maxHeartbeats 4000000 in
theorem uL_8 {cx : CX} {x : WX} {b sn : Nat} {sc : Nat → Int} {k : Nat} (C : LC cx x b sn sc) (hk1 : k + 1 ≤ 4000) (i : Int) (K : Hp → RT) (G : Hp) (hK : ∀ g, Y (cxk cx k) x 7 (some .boolean) 130 1676 [(0, vR 500), (1, vR 0), (2, vR 111), (3, vR 129), (4, vI i)] [] g (K g)) : Y (cxk cx k) x 7 (some .boolean) 130 590 [(0, vR 500), (1, vR 0), (2, vR 111), (3, vR 129), (4, vI i)] [] G (gL_8 sn sc i K G) := by
  have hk : k ≤ 4000 := by omega
  have F := Fk C hk
  unfold gL_8
  refine x_aload_n F dL_law_590 rfl rfl rfl ?_
  refine x_aload_n F dL_law_591 rfl rfl rfl ?_
  refine x_iload F dL_law_592 rfl rfl ?_
  refine x_iconst F dL_law_594 ⟨by decide, by decide⟩ rfl ?_
  refine x_iadd F dL_law_595 rfl ?_
  refine x_scrLd C hk dL_law_596 rfl (fun v1 => ?_)
  refine x_aload_n F dL_law_597 rfl rfl rfl ?_
  refine x_iload F dL_law_598 rfl rfl ?_
  refine x_iconst F dL_law_600 ⟨by decide, by decide⟩ rfl ?_
  refine x_iadd F dL_law_601 rfl ?_
  refine x_scrLd C hk dL_law_602 rfl (fun v2 => ?_)
  refine x_callL C hk (as := [vI v1, vI v2]) (S := []) lkL_57 mX11_join rfl rfl (by decide) (tX11_join cx.l x F.2.2.2.2.2.2.2.2.1 G 0 v1 v2 rfl) (Nat.le_of_ble_eq_true rfl) (Nat.le_of_ble_eq_true rfl) dL_law_603 rfl rfl (fun v4 G3 => ?_)
  refine x_aload_n F dL_law_606 rfl rfl rfl ?_
  refine x_aload_n F dL_law_607 rfl rfl rfl ?_
  refine x_iload F dL_law_608 rfl rfl ?_
  refine x_iconst F dL_law_610 ⟨by decide, by decide⟩ rfl ?_
  refine x_iadd F dL_law_611 rfl ?_
  refine x_scrLd C hk dL_law_612 rfl (fun v5 => ?_)
  refine x_aload_n F dL_law_613 rfl rfl rfl ?_
  refine x_iload F dL_law_614 rfl rfl ?_
  refine x_iconst F dL_law_616 ⟨by decide, by decide⟩ rfl ?_
  refine x_iadd F dL_law_617 rfl ?_
  refine x_scrLd C hk dL_law_618 rfl (fun v6 => ?_)
  refine x_callL C hk (as := [vI v5, vI v6]) (S := [vI v4]) lkL_60 mX12_join rfl rfl (by decide) (tX12_join cx.l x F.2.2.2.2.2.2.2.2.1 G3 111 v5 v6 rfl) (Nat.le_of_ble_eq_true rfl) (Nat.le_of_ble_eq_true rfl) dL_law_619 rfl rfl (fun v8 G7 => ?_)
  refine x_icmpeq (pt := 1676) F dL_law_622 rfl rfl ?_ ?_
  · exact hK G7
  · refine x_iconst F dL_law_625 ⟨by decide, by decide⟩ rfl ?_
    exact x_retL C hk (Nat.le_refl _) dL_law_626
def gL_9 (sn : Nat) (sc : Nat → Int) (i : Int) (K : Hp → RT) (G : Hp) : RT := br (rdC sn sc (iadd i 1)) fun v1 => bn (mg G (fX11_leave 0 v1 G)) fun v3 G2 => br (rdC sn sc (iadd i 1)) fun v4 => bn (mg G2 (fX12_leave 111 v4 G2)) fun v6 G5 => if v3 = v6 then K G5 else rz 0 G5
set_option maxRecDepth 20000 in
set_option maxHeartbeats 4000000 in
theorem uL_9 {cx : CX} {x : WX} {b sn : Nat} {sc : Nat → Int} {k : Nat} (C : LC cx x b sn sc) (hk1 : k + 1 ≤ 4000) (i : Int) (K : Hp → RT) (G : Hp) (hK : ∀ g, Y (cxk cx k) x 7 (some .boolean) 130 1676 [(0, vR 500), (1, vR 0), (2, vR 111), (3, vR 129), (4, vI i)] [] g (K g)) : Y (cxk cx k) x 7 (some .boolean) 130 627 [(0, vR 500), (1, vR 0), (2, vR 111), (3, vR 129), (4, vI i)] [] G (gL_9 sn sc i K G) := by
  have hk : k ≤ 4000 := by omega
  have F := Fk C hk
  unfold gL_9
  refine x_aload_n F dL_law_627 rfl rfl rfl ?_
  refine x_aload_n F dL_law_628 rfl rfl rfl ?_
  refine x_iload F dL_law_629 rfl rfl ?_
  refine x_iconst F dL_law_631 ⟨by decide, by decide⟩ rfl ?_
  refine x_iadd F dL_law_632 rfl ?_
  refine x_scrLd C hk dL_law_633 rfl (fun v1 => ?_)
  refine x_callL C hk (as := [vI v1]) (S := []) lkL_61 mX11_leave rfl rfl (by decide) (tX11_leave cx.l x F.2.2.2.2.2.2.2.2.1 G 0 v1 rfl) (Nat.le_of_ble_eq_true rfl) (Nat.le_of_ble_eq_true rfl) dL_law_634 rfl rfl (fun v3 G2 => ?_)
  refine x_aload_n F dL_law_637 rfl rfl rfl ?_
  refine x_aload_n F dL_law_638 rfl rfl rfl ?_
  refine x_iload F dL_law_639 rfl rfl ?_
  refine x_iconst F dL_law_641 ⟨by decide, by decide⟩ rfl ?_
  refine x_iadd F dL_law_642 rfl ?_
  refine x_scrLd C hk dL_law_643 rfl (fun v4 => ?_)
  refine x_callL C hk (as := [vI v4]) (S := [vI v3]) lkL_64 mX12_leave rfl rfl (by decide) (tX12_leave cx.l x F.2.2.2.2.2.2.2.2.1 G2 111 v4 rfl) (Nat.le_of_ble_eq_true rfl) (Nat.le_of_ble_eq_true rfl) dL_law_644 rfl rfl (fun v6 G5 => ?_)
  refine x_icmpeq (pt := 1676) F dL_law_647 rfl rfl ?_ ?_
  · exact hK G5
  · refine x_iconst F dL_law_650 ⟨by decide, by decide⟩ rfl ?_
    exact x_retL C hk (Nat.le_refl _) dL_law_651
def gL_10 (sn : Nat) (sc : Nat → Int) (i : Int) (K : Hp → RT) (G : Hp) : RT := br (rdC sn sc (iadd i 1)) fun v1 => bn (mg G (fX11_fail 0 v1 G)) fun v3 G2 => br (rdC sn sc (iadd i 1)) fun v4 => bn (mg G2 (fX12_fail 111 v4 G2)) fun v6 G5 => if v3 = v6 then K G5 else rz 0 G5
set_option maxRecDepth 20000 in
set_option maxHeartbeats 4000000 in
theorem uL_10 {cx : CX} {x : WX} {b sn : Nat} {sc : Nat → Int} {k : Nat} (C : LC cx x b sn sc) (hk1 : k + 1 ≤ 4000) (i : Int) (K : Hp → RT) (G : Hp) (hK : ∀ g, Y (cxk cx k) x 7 (some .boolean) 130 1676 [(0, vR 500), (1, vR 0), (2, vR 111), (3, vR 129), (4, vI i)] [] g (K g)) : Y (cxk cx k) x 7 (some .boolean) 130 652 [(0, vR 500), (1, vR 0), (2, vR 111), (3, vR 129), (4, vI i)] [] G (gL_10 sn sc i K G) := by
  have hk : k ≤ 4000 := by omega
  have F := Fk C hk
  unfold gL_10
  refine x_aload_n F dL_law_652 rfl rfl rfl ?_
  refine x_aload_n F dL_law_653 rfl rfl rfl ?_
  refine x_iload F dL_law_654 rfl rfl ?_
  refine x_iconst F dL_law_656 ⟨by decide, by decide⟩ rfl ?_
  refine x_iadd F dL_law_657 rfl ?_
  refine x_scrLd C hk dL_law_658 rfl (fun v1 => ?_)
  refine x_callL C hk (as := [vI v1]) (S := []) lkL_65 mX11_fail rfl rfl (by decide) (tX11_fail cx.l x F.2.2.2.2.2.2.2.2.1 G 0 v1 rfl) (Nat.le_of_ble_eq_true rfl) (Nat.le_of_ble_eq_true rfl) dL_law_659 rfl rfl (fun v3 G2 => ?_)
  refine x_aload_n F dL_law_662 rfl rfl rfl ?_
  refine x_aload_n F dL_law_663 rfl rfl rfl ?_
  refine x_iload F dL_law_664 rfl rfl ?_
  refine x_iconst F dL_law_666 ⟨by decide, by decide⟩ rfl ?_
  refine x_iadd F dL_law_667 rfl ?_
  refine x_scrLd C hk dL_law_668 rfl (fun v4 => ?_)
  refine x_callL C hk (as := [vI v4]) (S := [vI v3]) lkL_69 mX12_fail rfl rfl (by decide) (tX12_fail cx.l x F.2.2.2.2.2.2.2.2.1 G2 111 v4 rfl) (Nat.le_of_ble_eq_true rfl) (Nat.le_of_ble_eq_true rfl) dL_law_669 rfl rfl (fun v6 G5 => ?_)
  refine x_icmpeq (pt := 1676) F dL_law_672 rfl rfl ?_ ?_
  · exact hK G5
  · refine x_iconst F dL_law_675 ⟨by decide, by decide⟩ rfl ?_
    exact x_retL C hk (Nat.le_refl _) dL_law_676
def gL_11 (sn : Nat) (sc : Nat → Int) (i : Int) (K : Hp → RT) (G : Hp) : RT := br (rdC sn sc (iadd i 1)) fun v1 => bn (mg G (fX11_tidy 0 v1 G)) fun v3 G2 => br (rdC sn sc (iadd i 1)) fun v4 => bn (mg G2 (fX12_tidy 111 v4 G2)) fun v6 G5 => if v3 = v6 then K G5 else rz 0 G5
set_option maxRecDepth 20000 in
set_option maxHeartbeats 4000000 in
theorem uL_11 {cx : CX} {x : WX} {b sn : Nat} {sc : Nat → Int} {k : Nat} (C : LC cx x b sn sc) (hk1 : k + 1 ≤ 4000) (i : Int) (K : Hp → RT) (G : Hp) (hK : ∀ g, Y (cxk cx k) x 7 (some .boolean) 130 1676 [(0, vR 500), (1, vR 0), (2, vR 111), (3, vR 129), (4, vI i)] [] g (K g)) : Y (cxk cx k) x 7 (some .boolean) 130 677 [(0, vR 500), (1, vR 0), (2, vR 111), (3, vR 129), (4, vI i)] [] G (gL_11 sn sc i K G) := by
  have hk : k ≤ 4000 := by omega
  have F := Fk C hk
  unfold gL_11
  refine x_aload_n F dL_law_677 rfl rfl rfl ?_
  refine x_aload_n F dL_law_678 rfl rfl rfl ?_
  refine x_iload F dL_law_679 rfl rfl ?_
  refine x_iconst F dL_law_681 ⟨by decide, by decide⟩ rfl ?_
  refine x_iadd F dL_law_682 rfl ?_
  refine x_scrLd C hk dL_law_683 rfl (fun v1 => ?_)
  refine x_callL C hk (as := [vI v1]) (S := []) lkL_70 mX11_tidy rfl rfl (by decide) (tX11_tidy cx.l x F.2.2.2.2.2.2.2.2.1 G 0 v1 rfl) (Nat.le_of_ble_eq_true rfl) (Nat.le_of_ble_eq_true rfl) dL_law_684 rfl rfl (fun v3 G2 => ?_)
  refine x_aload_n F dL_law_687 rfl rfl rfl ?_
  refine x_aload_n F dL_law_688 rfl rfl rfl ?_
  refine x_iload F dL_law_689 rfl rfl ?_
  refine x_iconst F dL_law_691 ⟨by decide, by decide⟩ rfl ?_
  refine x_iadd F dL_law_692 rfl ?_
  refine x_scrLd C hk dL_law_693 rfl (fun v4 => ?_)
  refine x_callL C hk (as := [vI v4]) (S := [vI v3]) lkL_73 mX12_tidy rfl rfl (by decide) (tX12_tidy cx.l x F.2.2.2.2.2.2.2.2.1 G2 111 v4 rfl) (Nat.le_of_ble_eq_true rfl) (Nat.le_of_ble_eq_true rfl) dL_law_694 rfl rfl (fun v6 G5 => ?_)
  refine x_icmpeq (pt := 1676) F dL_law_697 rfl rfl ?_ ?_
  · exact hK G5
  · refine x_iconst F dL_law_700 ⟨by decide, by decide⟩ rfl ?_
    exact x_retL C hk (Nat.le_refl _) dL_law_701
def gL_12 (sn : Nat) (sc : Nat → Int) (i : Int) (K : Hp → RT) (G : Hp) : RT := br (rdC sn sc (iadd i 1)) fun v1 => bn (mg G (fX11_flush 0 v1 G)) fun v3 G2 => br (rdC sn sc (iadd i 1)) fun v4 => bn (mg G2 (fX12_flush 111 v4 G2)) fun v6 G5 => if v3 = v6 then K G5 else rz 0 G5
set_option maxRecDepth 20000 in
set_option maxHeartbeats 4000000 in
theorem uL_12 {cx : CX} {x : WX} {b sn : Nat} {sc : Nat → Int} {k : Nat} (C : LC cx x b sn sc) (hk1 : k + 1 ≤ 4000) (i : Int) (K : Hp → RT) (G : Hp) (hK : ∀ g, Y (cxk cx k) x 7 (some .boolean) 130 1676 [(0, vR 500), (1, vR 0), (2, vR 111), (3, vR 129), (4, vI i)] [] g (K g)) : Y (cxk cx k) x 7 (some .boolean) 130 702 [(0, vR 500), (1, vR 0), (2, vR 111), (3, vR 129), (4, vI i)] [] G (gL_12 sn sc i K G) := by
  have hk : k ≤ 4000 := by omega
  have F := Fk C hk
  unfold gL_12
  refine x_aload_n F dL_law_702 rfl rfl rfl ?_
  refine x_aload_n F dL_law_703 rfl rfl rfl ?_
  refine x_iload F dL_law_704 rfl rfl ?_
  refine x_iconst F dL_law_706 ⟨by decide, by decide⟩ rfl ?_
  refine x_iadd F dL_law_707 rfl ?_
  refine x_scrLd C hk dL_law_708 rfl (fun v1 => ?_)
  refine x_callL C hk (as := [vI v1]) (S := []) lkL_74 mX11_flush rfl rfl (by decide) (tX11_flush cx.l x F.2.2.2.2.2.2.2.2.1 G 0 v1 rfl) (Nat.le_of_ble_eq_true rfl) (Nat.le_of_ble_eq_true rfl) dL_law_709 rfl rfl (fun v3 G2 => ?_)
  refine x_aload_n F dL_law_712 rfl rfl rfl ?_
  refine x_aload_n F dL_law_713 rfl rfl rfl ?_
  refine x_iload F dL_law_714 rfl rfl ?_
  refine x_iconst F dL_law_716 ⟨by decide, by decide⟩ rfl ?_
  refine x_iadd F dL_law_717 rfl ?_
  refine x_scrLd C hk dL_law_718 rfl (fun v4 => ?_)
  refine x_callL C hk (as := [vI v4]) (S := [vI v3]) lkL_77 mX12_flush rfl rfl (by decide) (tX12_flush cx.l x F.2.2.2.2.2.2.2.2.1 G2 111 v4 rfl) (Nat.le_of_ble_eq_true rfl) (Nat.le_of_ble_eq_true rfl) dL_law_719 rfl rfl (fun v6 G5 => ?_)
  refine x_icmpeq (pt := 1676) F dL_law_722 rfl rfl ?_ ?_
  · exact hK G5
  · refine x_iconst F dL_law_725 ⟨by decide, by decide⟩ rfl ?_
    exact x_retL C hk (Nat.le_refl _) dL_law_726
def gL_13 (sn : Nat) (sc : Nat → Int) (i : Int) (K : Hp → RT) (G : Hp) : RT := br (rdC sn sc (iadd i 1)) fun v1 => br (rdC sn sc (iadd i 2)) fun v2 => bn (mg G (fX11_fix 0 v1 v2 G)) fun v4 G3 => br (rdC sn sc (iadd i 1)) fun v5 => br (rdC sn sc (iadd i 2)) fun v6 => bn (mg G3 (fX12_fix 111 v5 v6 G3)) fun v8 G7 => if v4 = v8 then K G7 else rz 0 G7
set_option maxRecDepth 20000 in
set_option maxHeartbeats 4000000 in
theorem uL_13 {cx : CX} {x : WX} {b sn : Nat} {sc : Nat → Int} {k : Nat} (C : LC cx x b sn sc) (hk1 : k + 1 ≤ 4000) (i : Int) (K : Hp → RT) (G : Hp) (hK : ∀ g, Y (cxk cx k) x 7 (some .boolean) 130 1676 [(0, vR 500), (1, vR 0), (2, vR 111), (3, vR 129), (4, vI i)] [] g (K g)) : Y (cxk cx k) x 7 (some .boolean) 130 727 [(0, vR 500), (1, vR 0), (2, vR 111), (3, vR 129), (4, vI i)] [] G (gL_13 sn sc i K G) := by
  have hk : k ≤ 4000 := by omega
  have F := Fk C hk
  unfold gL_13
  refine x_aload_n F dL_law_727 rfl rfl rfl ?_
  refine x_aload_n F dL_law_728 rfl rfl rfl ?_
  refine x_iload F dL_law_729 rfl rfl ?_
  refine x_iconst F dL_law_731 ⟨by decide, by decide⟩ rfl ?_
  refine x_iadd F dL_law_732 rfl ?_
  refine x_scrLd C hk dL_law_733 rfl (fun v1 => ?_)
  refine x_aload_n F dL_law_734 rfl rfl rfl ?_
  refine x_iload F dL_law_735 rfl rfl ?_
  refine x_iconst F dL_law_737 ⟨by decide, by decide⟩ rfl ?_
  refine x_iadd F dL_law_738 rfl ?_
  refine x_scrLd C hk dL_law_739 rfl (fun v2 => ?_)
  refine x_callL C hk (as := [vI v1, vI v2]) (S := []) lkL_78 mX11_fix rfl rfl (by decide) (tX11_fix cx.l x F.2.2.2.2.2.2.2.2.1 G 0 v1 v2 rfl) (Nat.le_of_ble_eq_true rfl) (Nat.le_of_ble_eq_true rfl) dL_law_740 rfl rfl (fun v4 G3 => ?_)
  refine x_aload_n F dL_law_743 rfl rfl rfl ?_
  refine x_aload_n F dL_law_744 rfl rfl rfl ?_
  refine x_iload F dL_law_745 rfl rfl ?_
  refine x_iconst F dL_law_747 ⟨by decide, by decide⟩ rfl ?_
  refine x_iadd F dL_law_748 rfl ?_
  refine x_scrLd C hk dL_law_749 rfl (fun v5 => ?_)
  refine x_aload_n F dL_law_750 rfl rfl rfl ?_
  refine x_iload F dL_law_751 rfl rfl ?_
  refine x_iconst F dL_law_753 ⟨by decide, by decide⟩ rfl ?_
  refine x_iadd F dL_law_754 rfl ?_
  refine x_scrLd C hk dL_law_755 rfl (fun v6 => ?_)
  refine x_callL C hk (as := [vI v5, vI v6]) (S := [vI v4]) lkL_82 mX12_fix rfl rfl (by decide) (tX12_fix cx.l x F.2.2.2.2.2.2.2.2.1 G3 111 v5 v6 rfl) (Nat.le_of_ble_eq_true rfl) (Nat.le_of_ble_eq_true rfl) dL_law_756 rfl rfl (fun v8 G7 => ?_)
  refine x_icmpeq (pt := 1676) F dL_law_759 rfl rfl ?_ ?_
  · exact hK G7
  · refine x_iconst F dL_law_762 ⟨by decide, by decide⟩ rfl ?_
    exact x_retL C hk (Nat.le_refl _) dL_law_763
def gL_14 (sn : Nat) (sc : Nat → Int) (i : Int) (K : Hp → RT) (G : Hp) : RT := br (rdC sn sc (iadd i 1)) fun v1 => bn (mg G (fX11_mend 0 v1 G)) fun v3 G2 => br (rdC sn sc (iadd i 1)) fun v4 => bn (mg G2 (fX12_mend 111 v4 G2)) fun v6 G5 => if v3 = v6 then K G5 else rz 0 G5
set_option maxRecDepth 20000 in
set_option maxHeartbeats 4000000 in
theorem uL_14 {cx : CX} {x : WX} {b sn : Nat} {sc : Nat → Int} {k : Nat} (C : LC cx x b sn sc) (hk1 : k + 1 ≤ 4000) (i : Int) (K : Hp → RT) (G : Hp) (hK : ∀ g, Y (cxk cx k) x 7 (some .boolean) 130 1676 [(0, vR 500), (1, vR 0), (2, vR 111), (3, vR 129), (4, vI i)] [] g (K g)) : Y (cxk cx k) x 7 (some .boolean) 130 764 [(0, vR 500), (1, vR 0), (2, vR 111), (3, vR 129), (4, vI i)] [] G (gL_14 sn sc i K G) := by
  have hk : k ≤ 4000 := by omega
  have F := Fk C hk
  unfold gL_14
  refine x_aload_n F dL_law_764 rfl rfl rfl ?_
  refine x_aload_n F dL_law_765 rfl rfl rfl ?_
  refine x_iload F dL_law_766 rfl rfl ?_
  refine x_iconst F dL_law_768 ⟨by decide, by decide⟩ rfl ?_
  refine x_iadd F dL_law_769 rfl ?_
  refine x_scrLd C hk dL_law_770 rfl (fun v1 => ?_)
  refine x_callL C hk (as := [vI v1]) (S := []) lkL_83 mX11_mend rfl rfl (by decide) (tX11_mend cx.l x F.2.2.2.2.2.2.2.2.1 G 0 v1 rfl) (Nat.le_of_ble_eq_true rfl) (Nat.le_of_ble_eq_true rfl) dL_law_771 rfl rfl (fun v3 G2 => ?_)
  refine x_aload_n F dL_law_774 rfl rfl rfl ?_
  refine x_aload_n F dL_law_775 rfl rfl rfl ?_
  refine x_iload F dL_law_776 rfl rfl ?_
  refine x_iconst F dL_law_778 ⟨by decide, by decide⟩ rfl ?_
  refine x_iadd F dL_law_779 rfl ?_
  refine x_scrLd C hk dL_law_780 rfl (fun v4 => ?_)
  refine x_callL C hk (as := [vI v4]) (S := [vI v3]) lkL_86 mX12_mend rfl rfl (by decide) (tX12_mend cx.l x F.2.2.2.2.2.2.2.2.1 G2 111 v4 rfl) (Nat.le_of_ble_eq_true rfl) (Nat.le_of_ble_eq_true rfl) dL_law_781 rfl rfl (fun v6 G5 => ?_)
  refine x_icmpeq (pt := 1676) F dL_law_784 rfl rfl ?_ ?_
  · exact hK G5
  · refine x_iconst F dL_law_787 ⟨by decide, by decide⟩ rfl ?_
    exact x_retL C hk (Nat.le_refl _) dL_law_788
def gL_15 (sn : Nat) (sc : Nat → Int) (i : Int) (K : Hp → RT) (G : Hp) : RT := br (rdC sn sc (iadd i 1)) fun v1 => br (rdC sn sc (iadd i 2)) fun v2 => bn (mg G (fX11_put 0 v1 v2 G)) fun v4 G3 => br (rdC sn sc (iadd i 1)) fun v5 => br (rdC sn sc (iadd i 2)) fun v6 => bn (mg G3 (fX12_put 111 v5 v6 G3)) fun v8 G7 => if v4 = v8 then K G7 else rz 0 G7
set_option maxRecDepth 20000 in
set_option maxHeartbeats 4000000 in
theorem uL_15 {cx : CX} {x : WX} {b sn : Nat} {sc : Nat → Int} {k : Nat} (C : LC cx x b sn sc) (hk1 : k + 1 ≤ 4000) (i : Int) (K : Hp → RT) (G : Hp) (hK : ∀ g, Y (cxk cx k) x 7 (some .boolean) 130 1676 [(0, vR 500), (1, vR 0), (2, vR 111), (3, vR 129), (4, vI i)] [] g (K g)) : Y (cxk cx k) x 7 (some .boolean) 130 789 [(0, vR 500), (1, vR 0), (2, vR 111), (3, vR 129), (4, vI i)] [] G (gL_15 sn sc i K G) := by
  have hk : k ≤ 4000 := by omega
  have F := Fk C hk
  unfold gL_15
  refine x_aload_n F dL_law_789 rfl rfl rfl ?_
  refine x_aload_n F dL_law_790 rfl rfl rfl ?_
  refine x_iload F dL_law_791 rfl rfl ?_
  refine x_iconst F dL_law_793 ⟨by decide, by decide⟩ rfl ?_
  refine x_iadd F dL_law_794 rfl ?_
  refine x_scrLd C hk dL_law_795 rfl (fun v1 => ?_)
  refine x_aload_n F dL_law_796 rfl rfl rfl ?_
  refine x_iload F dL_law_797 rfl rfl ?_
  refine x_iconst F dL_law_799 ⟨by decide, by decide⟩ rfl ?_
  refine x_iadd F dL_law_800 rfl ?_
  refine x_scrLd C hk dL_law_801 rfl (fun v2 => ?_)
  refine x_callL C hk (as := [vI v1, vI v2]) (S := []) lkL_87 mX11_put rfl rfl (by decide) (tX11_put cx.l x F.2.2.2.2.2.2.2.2.1 G 0 v1 v2 rfl) (Nat.le_of_ble_eq_true rfl) (Nat.le_of_ble_eq_true rfl) dL_law_802 rfl rfl (fun v4 G3 => ?_)
  refine x_aload_n F dL_law_805 rfl rfl rfl ?_
  refine x_aload_n F dL_law_806 rfl rfl rfl ?_
  refine x_iload F dL_law_807 rfl rfl ?_
  refine x_iconst F dL_law_809 ⟨by decide, by decide⟩ rfl ?_
  refine x_iadd F dL_law_810 rfl ?_
  refine x_scrLd C hk dL_law_811 rfl (fun v5 => ?_)
  refine x_aload_n F dL_law_812 rfl rfl rfl ?_
  refine x_iload F dL_law_813 rfl rfl ?_
  refine x_iconst F dL_law_815 ⟨by decide, by decide⟩ rfl ?_
  refine x_iadd F dL_law_816 rfl ?_
  refine x_scrLd C hk dL_law_817 rfl (fun v6 => ?_)
  refine x_callL C hk (as := [vI v5, vI v6]) (S := [vI v4]) lkL_90 mX12_put rfl rfl (by decide) (tX12_put cx.l x F.2.2.2.2.2.2.2.2.1 G3 111 v5 v6 rfl) (Nat.le_of_ble_eq_true rfl) (Nat.le_of_ble_eq_true rfl) dL_law_818 rfl rfl (fun v8 G7 => ?_)
  refine x_icmpeq (pt := 1676) F dL_law_821 rfl rfl ?_ ?_
  · exact hK G7
  · refine x_iconst F dL_law_824 ⟨by decide, by decide⟩ rfl ?_
    exact x_retL C hk (Nat.le_refl _) dL_law_825
def gL_16 (sn : Nat) (sc : Nat → Int) (i : Int) (K : Hp → RT) (G : Hp) : RT := br (rdC sn sc (iadd i 1)) fun v1 => bn (mg G (fX11_hand 0 v1 G)) fun v3 G2 => br (rdC sn sc (iadd i 1)) fun v4 => bn (mg G2 (fX12_hand 111 v4 G2)) fun v6 G5 => if v3 = v6 then K G5 else rz 0 G5
set_option maxRecDepth 20000 in
set_option maxHeartbeats 4000000 in
theorem uL_16 {cx : CX} {x : WX} {b sn : Nat} {sc : Nat → Int} {k : Nat} (C : LC cx x b sn sc) (hk1 : k + 1 ≤ 4000) (i : Int) (K : Hp → RT) (G : Hp) (hK : ∀ g, Y (cxk cx k) x 7 (some .boolean) 130 1676 [(0, vR 500), (1, vR 0), (2, vR 111), (3, vR 129), (4, vI i)] [] g (K g)) : Y (cxk cx k) x 7 (some .boolean) 130 826 [(0, vR 500), (1, vR 0), (2, vR 111), (3, vR 129), (4, vI i)] [] G (gL_16 sn sc i K G) := by
  have hk : k ≤ 4000 := by omega
  have F := Fk C hk
  unfold gL_16
  refine x_aload_n F dL_law_826 rfl rfl rfl ?_
  refine x_aload_n F dL_law_827 rfl rfl rfl ?_
  refine x_iload F dL_law_828 rfl rfl ?_
  refine x_iconst F dL_law_830 ⟨by decide, by decide⟩ rfl ?_
  refine x_iadd F dL_law_831 rfl ?_
  refine x_scrLd C hk dL_law_832 rfl (fun v1 => ?_)
  refine x_callL C hk (as := [vI v1]) (S := []) lkL_91 mX11_hand rfl rfl (by decide) (tX11_hand cx.l x F.2.2.2.2.2.2.2.2.1 G 0 v1 rfl) (Nat.le_of_ble_eq_true rfl) (Nat.le_of_ble_eq_true rfl) dL_law_833 rfl rfl (fun v3 G2 => ?_)
  refine x_aload_n F dL_law_836 rfl rfl rfl ?_
  refine x_aload_n F dL_law_837 rfl rfl rfl ?_
  refine x_iload F dL_law_838 rfl rfl ?_
  refine x_iconst F dL_law_840 ⟨by decide, by decide⟩ rfl ?_
  refine x_iadd F dL_law_841 rfl ?_
  refine x_scrLd C hk dL_law_842 rfl (fun v4 => ?_)
  refine x_callL C hk (as := [vI v4]) (S := [vI v3]) lkL_94 mX12_hand rfl rfl (by decide) (tX12_hand cx.l x F.2.2.2.2.2.2.2.2.1 G2 111 v4 rfl) (Nat.le_of_ble_eq_true rfl) (Nat.le_of_ble_eq_true rfl) dL_law_843 rfl rfl (fun v6 G5 => ?_)
  refine x_icmpeq (pt := 1676) F dL_law_846 rfl rfl ?_ ?_
  · exact hK G5
  · refine x_iconst F dL_law_849 ⟨by decide, by decide⟩ rfl ?_
    exact x_retL C hk (Nat.le_refl _) dL_law_850
def gL_17 (sn : Nat) (sc : Nat → Int) (i : Int) (K : Hp → RT) (G : Hp) : RT := bn (mg G (fX11_undo 0 G)) fun v2 G1 => bn (mg G1 (fX12_undo 111 G1)) fun v4 G3 => if v2 = v4 then K G3 else rz 0 G3
set_option maxRecDepth 20000 in
set_option maxHeartbeats 4000000 in
theorem uL_17 {cx : CX} {x : WX} {b sn : Nat} {sc : Nat → Int} {k : Nat} (C : LC cx x b sn sc) (hk1 : k + 1 ≤ 4000) (i : Int) (K : Hp → RT) (G : Hp) (hK : ∀ g, Y (cxk cx k) x 7 (some .boolean) 130 1676 [(0, vR 500), (1, vR 0), (2, vR 111), (3, vR 129), (4, vI i)] [] g (K g)) : Y (cxk cx k) x 7 (some .boolean) 130 851 [(0, vR 500), (1, vR 0), (2, vR 111), (3, vR 129), (4, vI i)] [] G (gL_17 sn sc i K G) := by
  have hk : k ≤ 4000 := by omega
  have F := Fk C hk
  unfold gL_17
  refine x_aload_n F dL_law_851 rfl rfl rfl ?_
  refine x_callL C hk (as := []) (S := []) lkL_95 mX11_undo rfl rfl (by decide) (tX11_undo cx.l x F.2.2.2.2.2.2.2.2.1 G 0 rfl) (Nat.le_of_ble_eq_true rfl) (Nat.le_of_ble_eq_true rfl) dL_law_852 rfl rfl (fun v2 G1 => ?_)
  refine x_aload_n F dL_law_855 rfl rfl rfl ?_
  refine x_callL C hk (as := []) (S := [vI v2]) lkL_99 mX12_undo rfl rfl (by decide) (tX12_undo cx.l x F.2.2.2.2.2.2.2.2.1 G1 111 rfl) (Nat.le_of_ble_eq_true rfl) (Nat.le_of_ble_eq_true rfl) dL_law_856 rfl rfl (fun v4 G3 => ?_)
  refine x_icmpeq (pt := 1676) F dL_law_859 rfl rfl ?_ ?_
  · exact hK G3
  · refine x_iconst F dL_law_862 ⟨by decide, by decide⟩ rfl ?_
    exact x_retL C hk (Nat.le_refl _) dL_law_863
def gL_18 (sn : Nat) (sc : Nat → Int) (i : Int) (K : Hp → RT) (G : Hp) : RT := br (rdC sn sc (iadd i 1)) fun v1 => bn (mg G (fX11_judged 0 v1 G)) fun v3 G2 => br (rdC sn sc (iadd i 1)) fun v4 => bn (mg G2 (fX12_judged 111 v4 G2)) fun v6 G5 => if v3 = v6 then K G5 else rz 0 G5
set_option maxRecDepth 20000 in
set_option maxHeartbeats 4000000 in
theorem uL_18 {cx : CX} {x : WX} {b sn : Nat} {sc : Nat → Int} {k : Nat} (C : LC cx x b sn sc) (hk1 : k + 1 ≤ 4000) (i : Int) (K : Hp → RT) (G : Hp) (hK : ∀ g, Y (cxk cx k) x 7 (some .boolean) 130 1676 [(0, vR 500), (1, vR 0), (2, vR 111), (3, vR 129), (4, vI i)] [] g (K g)) : Y (cxk cx k) x 7 (some .boolean) 130 864 [(0, vR 500), (1, vR 0), (2, vR 111), (3, vR 129), (4, vI i)] [] G (gL_18 sn sc i K G) := by
  have hk : k ≤ 4000 := by omega
  have F := Fk C hk
  unfold gL_18
  refine x_aload_n F dL_law_864 rfl rfl rfl ?_
  refine x_aload_n F dL_law_865 rfl rfl rfl ?_
  refine x_iload F dL_law_866 rfl rfl ?_
  refine x_iconst F dL_law_868 ⟨by decide, by decide⟩ rfl ?_
  refine x_iadd F dL_law_869 rfl ?_
  refine x_scrLd C hk dL_law_870 rfl (fun v1 => ?_)
  refine x_callL C hk (as := [vI v1]) (S := []) lkL_100 mX11_judged rfl rfl (by decide) (tX11_judged cx.l x F.2.2.2.2.2.2.2.2.1 G 0 v1 rfl) (Nat.le_of_ble_eq_true rfl) (Nat.le_of_ble_eq_true rfl) dL_law_871 rfl rfl (fun v3 G2 => ?_)
  refine x_aload_n F dL_law_874 rfl rfl rfl ?_
  refine x_aload_n F dL_law_875 rfl rfl rfl ?_
  refine x_iload F dL_law_876 rfl rfl ?_
  refine x_iconst F dL_law_878 ⟨by decide, by decide⟩ rfl ?_
  refine x_iadd F dL_law_879 rfl ?_
  refine x_scrLd C hk dL_law_880 rfl (fun v4 => ?_)
  refine x_callL C hk (as := [vI v4]) (S := [vI v3]) lkL_103 mX12_judged rfl rfl (by decide) (tX12_judged cx.l x F.2.2.2.2.2.2.2.2.1 G2 111 v4 rfl) (Nat.le_of_ble_eq_true rfl) (Nat.le_of_ble_eq_true rfl) dL_law_881 rfl rfl (fun v6 G5 => ?_)
  refine x_icmpeq (pt := 1676) F dL_law_884 rfl rfl ?_ ?_
  · exact hK G5
  · refine x_iconst F dL_law_887 ⟨by decide, by decide⟩ rfl ?_
    exact x_retL C hk (Nat.le_refl _) dL_law_888
def gL_19 (sn : Nat) (sc : Nat → Int) (i : Int) (K : Hp → RT) (G : Hp) : RT := br (rdC sn sc (iadd i 1)) fun v1 => br (rdC sn sc (iadd i 2)) fun v2 => bn (mg G (fX11_find 0 v1 v2 G)) fun v4 G3 => br (rdC sn sc (iadd i 1)) fun v5 => br (rdC sn sc (iadd i 2)) fun v6 => bn (mg G3 (fX12_find 111 v5 v6 G3)) fun v8 G7 => if v4 = v8 then K G7 else rz 0 G7
set_option maxRecDepth 20000 in
set_option maxHeartbeats 4000000 in
theorem uL_19 {cx : CX} {x : WX} {b sn : Nat} {sc : Nat → Int} {k : Nat} (C : LC cx x b sn sc) (hk1 : k + 1 ≤ 4000) (i : Int) (K : Hp → RT) (G : Hp) (hK : ∀ g, Y (cxk cx k) x 7 (some .boolean) 130 1676 [(0, vR 500), (1, vR 0), (2, vR 111), (3, vR 129), (4, vI i)] [] g (K g)) : Y (cxk cx k) x 7 (some .boolean) 130 889 [(0, vR 500), (1, vR 0), (2, vR 111), (3, vR 129), (4, vI i)] [] G (gL_19 sn sc i K G) := by
  have hk : k ≤ 4000 := by omega
  have F := Fk C hk
  unfold gL_19
  refine x_aload_n F dL_law_889 rfl rfl rfl ?_
  refine x_aload_n F dL_law_890 rfl rfl rfl ?_
  refine x_iload F dL_law_891 rfl rfl ?_
  refine x_iconst F dL_law_893 ⟨by decide, by decide⟩ rfl ?_
  refine x_iadd F dL_law_894 rfl ?_
  refine x_scrLd C hk dL_law_895 rfl (fun v1 => ?_)
  refine x_aload_n F dL_law_896 rfl rfl rfl ?_
  refine x_iload F dL_law_897 rfl rfl ?_
  refine x_iconst F dL_law_899 ⟨by decide, by decide⟩ rfl ?_
  refine x_iadd F dL_law_900 rfl ?_
  refine x_scrLd C hk dL_law_901 rfl (fun v2 => ?_)
  refine x_callL C hk (as := [vI v1, vI v2]) (S := []) lkL_104 mX11_find rfl rfl (by decide) (tX11_find cx.l x F.2.2.2.2.2.2.2.2.1 G 0 v1 v2 rfl) (Nat.le_of_ble_eq_true rfl) (Nat.le_of_ble_eq_true rfl) dL_law_902 rfl rfl (fun v4 G3 => ?_)
  refine x_aload_n F dL_law_905 rfl rfl rfl ?_
  refine x_aload_n F dL_law_906 rfl rfl rfl ?_
  refine x_iload F dL_law_907 rfl rfl ?_
  refine x_iconst F dL_law_909 ⟨by decide, by decide⟩ rfl ?_
  refine x_iadd F dL_law_910 rfl ?_
  refine x_scrLd C hk dL_law_911 rfl (fun v5 => ?_)
  refine x_aload_n F dL_law_912 rfl rfl rfl ?_
  refine x_iload F dL_law_913 rfl rfl ?_
  refine x_iconst F dL_law_915 ⟨by decide, by decide⟩ rfl ?_
  refine x_iadd F dL_law_916 rfl ?_
  refine x_scrLd C hk dL_law_917 rfl (fun v6 => ?_)
  refine x_callL C hk (as := [vI v5, vI v6]) (S := [vI v4]) lkL_107 mX12_find rfl rfl (by decide) (tX12_find cx.l x F.2.2.2.2.2.2.2.2.1 G3 111 v5 v6 rfl) (Nat.le_of_ble_eq_true rfl) (Nat.le_of_ble_eq_true rfl) dL_law_918 rfl rfl (fun v8 G7 => ?_)
  refine x_icmpeq (pt := 1676) F dL_law_921 rfl rfl ?_ ?_
  · exact hK G7
  · refine x_iconst F dL_law_924 ⟨by decide, by decide⟩ rfl ?_
    exact x_retL C hk (Nat.le_refl _) dL_law_925
def gL_20 (sn : Nat) (sc : Nat → Int) (i : Int) (K : Hp → RT) (G : Hp) : RT := br (rdC sn sc (iadd i 1)) fun v1 => br (rdC sn sc (iadd i 2)) fun v2 => bn (mg G (fX11_steps 0 v1 v2 G)) fun v4 G3 => br (rdC sn sc (iadd i 1)) fun v5 => br (rdC sn sc (iadd i 2)) fun v6 => bn (mg G3 (fX12_steps 111 v5 v6 G3)) fun v8 G7 => if v4 = v8 then K G7 else rz 0 G7
set_option maxRecDepth 20000 in
set_option maxHeartbeats 4000000 in
theorem uL_20 {cx : CX} {x : WX} {b sn : Nat} {sc : Nat → Int} {k : Nat} (C : LC cx x b sn sc) (hk1 : k + 1 ≤ 4000) (i : Int) (K : Hp → RT) (G : Hp) (hK : ∀ g, Y (cxk cx k) x 7 (some .boolean) 130 1676 [(0, vR 500), (1, vR 0), (2, vR 111), (3, vR 129), (4, vI i)] [] g (K g)) : Y (cxk cx k) x 7 (some .boolean) 130 926 [(0, vR 500), (1, vR 0), (2, vR 111), (3, vR 129), (4, vI i)] [] G (gL_20 sn sc i K G) := by
  have hk : k ≤ 4000 := by omega
  have F := Fk C hk
  unfold gL_20
  refine x_aload_n F dL_law_926 rfl rfl rfl ?_
  refine x_aload_n F dL_law_927 rfl rfl rfl ?_
  refine x_iload F dL_law_928 rfl rfl ?_
  refine x_iconst F dL_law_930 ⟨by decide, by decide⟩ rfl ?_
  refine x_iadd F dL_law_931 rfl ?_
  refine x_scrLd C hk dL_law_932 rfl (fun v1 => ?_)
  refine x_aload_n F dL_law_933 rfl rfl rfl ?_
  refine x_iload F dL_law_934 rfl rfl ?_
  refine x_iconst F dL_law_936 ⟨by decide, by decide⟩ rfl ?_
  refine x_iadd F dL_law_937 rfl ?_
  refine x_scrLd C hk dL_law_938 rfl (fun v2 => ?_)
  refine x_callL C hk (as := [vI v1, vI v2]) (S := []) lkL_108 mX11_steps rfl rfl (by decide) (tX11_steps cx.l x F.2.2.2.2.2.2.2.2.1 G 0 v1 v2 rfl) (Nat.le_of_ble_eq_true rfl) (Nat.le_of_ble_eq_true rfl) dL_law_939 rfl rfl (fun v4 G3 => ?_)
  refine x_aload_n F dL_law_942 rfl rfl rfl ?_
  refine x_aload_n F dL_law_943 rfl rfl rfl ?_
  refine x_iload F dL_law_944 rfl rfl ?_
  refine x_iconst F dL_law_946 ⟨by decide, by decide⟩ rfl ?_
  refine x_iadd F dL_law_947 rfl ?_
  refine x_scrLd C hk dL_law_948 rfl (fun v5 => ?_)
  refine x_aload_n F dL_law_949 rfl rfl rfl ?_
  refine x_iload F dL_law_950 rfl rfl ?_
  refine x_iconst F dL_law_952 ⟨by decide, by decide⟩ rfl ?_
  refine x_iadd F dL_law_953 rfl ?_
  refine x_scrLd C hk dL_law_954 rfl (fun v6 => ?_)
  refine x_callL C hk (as := [vI v5, vI v6]) (S := [vI v4]) lkL_111 mX12_steps rfl rfl (by decide) (tX12_steps cx.l x F.2.2.2.2.2.2.2.2.1 G3 111 v5 v6 rfl) (Nat.le_of_ble_eq_true rfl) (Nat.le_of_ble_eq_true rfl) dL_law_955 rfl rfl (fun v8 G7 => ?_)
  refine x_icmpeq (pt := 1676) F dL_law_958 rfl rfl ?_ ?_
  · exact hK G7
  · refine x_iconst F dL_law_961 ⟨by decide, by decide⟩ rfl ?_
    exact x_retL C hk (Nat.le_refl _) dL_law_962
def gL_21 (sn : Nat) (sc : Nat → Int) (i : Int) (K : Hp → RT) (G : Hp) : RT := br (rdC sn sc (iadd i 1)) fun v1 => br (rdC sn sc (iadd i 2)) fun v2 => br (rdC sn sc (iadd i 3)) fun v3 => bn (fL_route v1 v2 v3 G) fun v5 G4 => bd v5 fun v6 => br (rdC sn sc (iadd i 1)) fun v7 => br (rdC sn sc (iadd i 2)) fun v8 => br (rdC sn sc (iadd i 3)) fun v9 => bn (mg G4 (fX12_route 111 v7 v8 v9 G4)) fun v11 G10 => bd v11 fun v12 => bn (mg G10 (fX12_thrown 111 G10)) fun v14 G13 => if v14 = v6 then (jn (K G13) fun (K15 : RT) => if v6 = 0 then (br (rd G13 129 1 0) fun v16 => if (lcmp' v16 v12) = 0 then K15 else rz 0 G13) else K15) else rz 0 G13
set_option maxRecDepth 20000 in
set_option maxHeartbeats 4000000 in
theorem uL_21 {cx : CX} {x : WX} {b sn : Nat} {sc : Nat → Int} {k : Nat} (C : LC cx x b sn sc) (hk1 : k + 1 ≤ 4000) (i : Int) (K : Hp → RT) (G : Hp) (hK : ∀ g, Y (cxk cx (k + 1)) x 7 (some .boolean) 130 1676 [(0, vR 500), (1, vR 0), (2, vR 111), (3, vR 129), (4, vI i)] [] g (K g)) : Y (cxk cx k) x 7 (some .boolean) 130 963 [(0, vR 500), (1, vR 0), (2, vR 111), (3, vR 129), (4, vI i)] [] G (gL_21 sn sc i K G) := by
  have hk : k ≤ 4000 := by omega
  have F := Fk C hk
  unfold gL_21
  refine x_aload_n F dL_law_963 rfl rfl rfl ?_
  refine x_aload_n F dL_law_964 rfl rfl rfl ?_
  refine x_iload F dL_law_965 rfl rfl ?_
  refine x_iconst F dL_law_967 ⟨by decide, by decide⟩ rfl ?_
  refine x_iadd F dL_law_968 rfl ?_
  refine x_scrLd C hk dL_law_969 rfl (fun v1 => ?_)
  refine x_aload_n F dL_law_970 rfl rfl rfl ?_
  refine x_iload F dL_law_971 rfl rfl ?_
  refine x_iconst F dL_law_973 ⟨by decide, by decide⟩ rfl ?_
  refine x_iadd F dL_law_974 rfl ?_
  refine x_scrLd C hk dL_law_975 rfl (fun v2 => ?_)
  refine x_aload_n F dL_law_976 rfl rfl rfl ?_
  refine x_iload F dL_law_977 rfl rfl ?_
  refine x_iconst F dL_law_979 ⟨by decide, by decide⟩ rfl ?_
  refine x_iadd F dL_law_980 rfl ?_
  refine x_scrLd C hk dL_law_981 rfl (fun v3 => ?_)
  refine x_aload_n F dL_law_982 rfl rfl rfl ?_
  refine x_callR C hk dL_law_983 rfl (fun v5 G4 => ?_)
  have hk : k + 1 ≤ 4000 := hk1
  have F := Fk C hk
  refine x_istore F dL_law_986 (by decide) rfl rfl (fun v6 => ?_)
  show Y (cxk cx (k + 1)) x _ _ _ _ [(0, vR 500), (1, vR 0), (2, vR 111), (3, vR 129), (4, vI i), (5, vI v6)] _ _ _
  refine x_aload_n F dL_law_988 rfl rfl rfl ?_
  refine x_aload_n F dL_law_989 rfl rfl rfl ?_
  refine x_iload F dL_law_990 rfl rfl ?_
  refine x_iconst F dL_law_992 ⟨by decide, by decide⟩ rfl ?_
  refine x_iadd F dL_law_993 rfl ?_
  refine x_scrLd C hk dL_law_994 rfl (fun v7 => ?_)
  refine x_aload_n F dL_law_995 rfl rfl rfl ?_
  refine x_iload F dL_law_996 rfl rfl ?_
  refine x_iconst F dL_law_998 ⟨by decide, by decide⟩ rfl ?_
  refine x_iadd F dL_law_999 rfl ?_
  refine x_scrLd C hk dL_law_1000 rfl (fun v8 => ?_)
  refine x_aload_n F dL_law_1001 rfl rfl rfl ?_
  refine x_iload F dL_law_1002 rfl rfl ?_
  refine x_iconst F dL_law_1004 ⟨by decide, by decide⟩ rfl ?_
  refine x_iadd F dL_law_1005 rfl ?_
  refine x_scrLd C hk dL_law_1006 rfl (fun v9 => ?_)
  refine x_callL C hk (as := [vI v7, vI v8, vI v9]) (S := []) lkL_117 mX12_route rfl rfl (by decide) (tX12_route cx.l x F.2.2.2.2.2.2.2.2.1 G4 111 v7 v8 v9 rfl) (Nat.le_of_ble_eq_true rfl) (Nat.le_of_ble_eq_true rfl) dL_law_1007 rfl rfl (fun v11 G10 => ?_)
  refine x_istore F dL_law_1010 (by decide) rfl rfl (fun v12 => ?_)
  show Y (cxk cx (k + 1)) x _ _ _ _ [(0, vR 500), (1, vR 0), (2, vR 111), (3, vR 129), (4, vI i), (5, vI v6), (6, vI v12)] _ _ _
  refine x_aload_n F dL_law_1012 rfl rfl rfl ?_
  refine x_callL C hk (as := []) (S := []) lkL_118 mX12_thrown rfl rfl (by decide) (tX12_thrown cx.l x F.2.2.2.2.2.2.2.2.1 G10 111 rfl) (Nat.le_of_ble_eq_true rfl) (Nat.le_of_ble_eq_true rfl) dL_law_1013 rfl rfl (fun v14 G13 => ?_)
  refine x_iload F dL_law_1016 rfl rfl ?_
  refine x_icmpeq (pt := 1023) F dL_law_1018 rfl rfl ?_ ?_
  · refine x_iload F dL_law_1023 rfl rfl ?_
    refine x_jn (fun (K15 : RT) => Y (cxk cx (k + 1)) x 7 (some .boolean) 130 1040 [(0, vR 500), (1, vR 0), (2, vR 111), (3, vR 129), (4, vI i)] [] G13 K15) ?_ (fun K15 hK15 => ?_)
    · refine x_goto (pc' := 1676) F dL_law_1040 rfl ?_
      exact hK G13
    · refine x_ifne (pt := 1040) F dL_law_1025 rfl rfl ?_ ?_
      · refine x_aload_n F dL_law_1028 rfl rfl rfl ?_
        refine x_iconst F dL_law_1029 ⟨by decide, by decide⟩ rfl ?_
        refine x_outLd C hk dL_law_1030 rfl (fun v16 => ?_)
        refine x_iload F dL_law_1031 rfl rfl ?_
        refine x_i2l F dL_law_1033 rfl ?_
        refine x_lcmp F dL_law_1034 rfl ?_
        refine x_ifeq (pt := 1040) F dL_law_1035 rfl rfl ?_ ?_
        · refine x_dp (L' := [(0, vR 500), (1, vR 0), (2, vR 111), (3, vR 129), (4, vI i)]) [0, 1, 2, 3, 4] rfl ?_
          exact hK15
        · refine x_iconst F dL_law_1038 ⟨by decide, by decide⟩ rfl ?_
          exact x_retL C hk (Nat.le_refl _) dL_law_1039
      · refine x_dp (L' := [(0, vR 500), (1, vR 0), (2, vR 111), (3, vR 129), (4, vI i)]) [0, 1, 2, 3, 4] rfl ?_
        exact hK15
  · refine x_iconst F dL_law_1021 ⟨by decide, by decide⟩ rfl ?_
    exact x_retL C hk (Nat.le_refl _) dL_law_1022
def gL_22 (sn : Nat) (sc : Nat → Int) (i : Int) (K : Hp → RT) (G : Hp) : RT := bn (mg G (fX11_astray 0 G)) fun v2 G1 => bn (mg G1 (fX12_astray 111 G1)) fun v4 G3 => if v2 = v4 then K G3 else rz 0 G3
set_option maxRecDepth 20000 in
set_option maxHeartbeats 4000000 in
theorem uL_22 {cx : CX} {x : WX} {b sn : Nat} {sc : Nat → Int} {k : Nat} (C : LC cx x b sn sc) (hk1 : k + 1 ≤ 4000) (i : Int) (K : Hp → RT) (G : Hp) (hK : ∀ g, Y (cxk cx k) x 7 (some .boolean) 130 1676 [(0, vR 500), (1, vR 0), (2, vR 111), (3, vR 129), (4, vI i)] [] g (K g)) : Y (cxk cx k) x 7 (some .boolean) 130 1043 [(0, vR 500), (1, vR 0), (2, vR 111), (3, vR 129), (4, vI i)] [] G (gL_22 sn sc i K G) := by
  have hk : k ≤ 4000 := by omega
  have F := Fk C hk
  unfold gL_22
  refine x_aload_n F dL_law_1043 rfl rfl rfl ?_
  refine x_callL C hk (as := []) (S := []) lkL_121 mX11_astray rfl rfl (by decide) (tX11_astray cx.l x F.2.2.2.2.2.2.2.2.1 G 0 rfl) (Nat.le_of_ble_eq_true rfl) (Nat.le_of_ble_eq_true rfl) dL_law_1044 rfl rfl (fun v2 G1 => ?_)
  refine x_aload_n F dL_law_1047 rfl rfl rfl ?_
  refine x_callL C hk (as := []) (S := [vI v2]) lkL_124 mX12_astray rfl rfl (by decide) (tX12_astray cx.l x F.2.2.2.2.2.2.2.2.1 G1 111 rfl) (Nat.le_of_ble_eq_true rfl) (Nat.le_of_ble_eq_true rfl) dL_law_1048 rfl rfl (fun v4 G3 => ?_)
  refine x_icmpeq (pt := 1676) F dL_law_1051 rfl rfl ?_ ?_
  · exact hK G3
  · refine x_iconst F dL_law_1054 ⟨by decide, by decide⟩ rfl ?_
    exact x_retL C hk (Nat.le_refl _) dL_law_1055
def gL_23 (sn : Nat) (sc : Nat → Int) (i : Int) (K : Hp → RT) (G : Hp) : RT := bn (mg G (fX11_lost 0 G)) fun v2 G1 => bn (mg G1 (fX12_lost 111 G1)) fun v4 G3 => if v2 = v4 then K G3 else rz 0 G3
set_option maxRecDepth 20000 in
set_option maxHeartbeats 4000000 in
theorem uL_23 {cx : CX} {x : WX} {b sn : Nat} {sc : Nat → Int} {k : Nat} (C : LC cx x b sn sc) (hk1 : k + 1 ≤ 4000) (i : Int) (K : Hp → RT) (G : Hp) (hK : ∀ g, Y (cxk cx k) x 7 (some .boolean) 130 1676 [(0, vR 500), (1, vR 0), (2, vR 111), (3, vR 129), (4, vI i)] [] g (K g)) : Y (cxk cx k) x 7 (some .boolean) 130 1056 [(0, vR 500), (1, vR 0), (2, vR 111), (3, vR 129), (4, vI i)] [] G (gL_23 sn sc i K G) := by
  have hk : k ≤ 4000 := by omega
  have F := Fk C hk
  unfold gL_23
  refine x_aload_n F dL_law_1056 rfl rfl rfl ?_
  refine x_callL C hk (as := []) (S := []) lkL_125 mX11_lost rfl rfl (by decide) (tX11_lost cx.l x F.2.2.2.2.2.2.2.2.1 G 0 rfl) (Nat.le_of_ble_eq_true rfl) (Nat.le_of_ble_eq_true rfl) dL_law_1057 rfl rfl (fun v2 G1 => ?_)
  refine x_aload_n F dL_law_1060 rfl rfl rfl ?_
  refine x_callL C hk (as := []) (S := [vI v2]) lkL_128 mX12_lost rfl rfl (by decide) (tX12_lost cx.l x F.2.2.2.2.2.2.2.2.1 G1 111 rfl) (Nat.le_of_ble_eq_true rfl) (Nat.le_of_ble_eq_true rfl) dL_law_1061 rfl rfl (fun v4 G3 => ?_)
  refine x_icmpeq (pt := 1676) F dL_law_1064 rfl rfl ?_ ?_
  · exact hK G3
  · refine x_iconst F dL_law_1067 ⟨by decide, by decide⟩ rfl ?_
    exact x_retL C hk (Nat.le_refl _) dL_law_1068
def gL_24 (sn : Nat) (sc : Nat → Int) (i : Int) (K : Hp → RT) (G : Hp) : RT := br (rdC sn sc (iadd i 1)) fun v1 => bn (mg G (fX11_cycles 0 v1 G)) fun v3 G2 => br (rdC sn sc (iadd i 1)) fun v4 => bn (mg G2 (fX12_cycles 111 v4 G2)) fun v6 G5 => if v3 = v6 then K G5 else rz 0 G5
set_option maxRecDepth 20000 in
set_option maxHeartbeats 4000000 in
theorem uL_24 {cx : CX} {x : WX} {b sn : Nat} {sc : Nat → Int} {k : Nat} (C : LC cx x b sn sc) (hk1 : k + 1 ≤ 4000) (i : Int) (K : Hp → RT) (G : Hp) (hK : ∀ g, Y (cxk cx k) x 7 (some .boolean) 130 1676 [(0, vR 500), (1, vR 0), (2, vR 111), (3, vR 129), (4, vI i)] [] g (K g)) : Y (cxk cx k) x 7 (some .boolean) 130 1069 [(0, vR 500), (1, vR 0), (2, vR 111), (3, vR 129), (4, vI i)] [] G (gL_24 sn sc i K G) := by
  have hk : k ≤ 4000 := by omega
  have F := Fk C hk
  unfold gL_24
  refine x_aload_n F dL_law_1069 rfl rfl rfl ?_
  refine x_aload_n F dL_law_1070 rfl rfl rfl ?_
  refine x_iload F dL_law_1071 rfl rfl ?_
  refine x_iconst F dL_law_1073 ⟨by decide, by decide⟩ rfl ?_
  refine x_iadd F dL_law_1074 rfl ?_
  refine x_scrLd C hk dL_law_1075 rfl (fun v1 => ?_)
  refine x_callL C hk (as := [vI v1]) (S := []) lkL_129 mX11_cycles rfl rfl (by decide) (tX11_cycles cx.l x F.2.2.2.2.2.2.2.2.1 G 0 v1 rfl) (Nat.le_of_ble_eq_true rfl) (Nat.le_of_ble_eq_true rfl) dL_law_1076 rfl rfl (fun v3 G2 => ?_)
  refine x_aload_n F dL_law_1079 rfl rfl rfl ?_
  refine x_aload_n F dL_law_1080 rfl rfl rfl ?_
  refine x_iload F dL_law_1081 rfl rfl ?_
  refine x_iconst F dL_law_1083 ⟨by decide, by decide⟩ rfl ?_
  refine x_iadd F dL_law_1084 rfl ?_
  refine x_scrLd C hk dL_law_1085 rfl (fun v4 => ?_)
  refine x_callL C hk (as := [vI v4]) (S := [vI v3]) lkL_132 mX12_cycles rfl rfl (by decide) (tX12_cycles cx.l x F.2.2.2.2.2.2.2.2.1 G2 111 v4 rfl) (Nat.le_of_ble_eq_true rfl) (Nat.le_of_ble_eq_true rfl) dL_law_1086 rfl rfl (fun v6 G5 => ?_)
  refine x_icmpeq (pt := 1676) F dL_law_1089 rfl rfl ?_ ?_
  · exact hK G5
  · refine x_iconst F dL_law_1092 ⟨by decide, by decide⟩ rfl ?_
    exact x_retL C hk (Nat.le_refl _) dL_law_1093
def gL_25 (sn : Nat) (sc : Nat → Int) (i : Int) (K : Hp → RT) (G : Hp) : RT := bn (mg G (fX11_ordered 0 G)) fun v2 G1 => bn (mg G1 (fX12_ordered 111 G1)) fun v4 G3 => if v2 = v4 then K G3 else rz 0 G3
set_option maxRecDepth 20000 in
set_option maxHeartbeats 4000000 in
theorem uL_25 {cx : CX} {x : WX} {b sn : Nat} {sc : Nat → Int} {k : Nat} (C : LC cx x b sn sc) (hk1 : k + 1 ≤ 4000) (i : Int) (K : Hp → RT) (G : Hp) (hK : ∀ g, Y (cxk cx k) x 7 (some .boolean) 130 1676 [(0, vR 500), (1, vR 0), (2, vR 111), (3, vR 129), (4, vI i)] [] g (K g)) : Y (cxk cx k) x 7 (some .boolean) 130 1094 [(0, vR 500), (1, vR 0), (2, vR 111), (3, vR 129), (4, vI i)] [] G (gL_25 sn sc i K G) := by
  have hk : k ≤ 4000 := by omega
  have F := Fk C hk
  unfold gL_25
  refine x_aload_n F dL_law_1094 rfl rfl rfl ?_
  refine x_callL C hk (as := []) (S := []) lkL_133 mX11_ordered rfl rfl (by decide) (tX11_ordered cx.l x F.2.2.2.2.2.2.2.2.1 G 0 rfl) (Nat.le_of_ble_eq_true rfl) (Nat.le_of_ble_eq_true rfl) dL_law_1095 rfl rfl (fun v2 G1 => ?_)
  refine x_aload_n F dL_law_1098 rfl rfl rfl ?_
  refine x_callL C hk (as := []) (S := [vI v2]) lkL_136 mX12_ordered rfl rfl (by decide) (tX12_ordered cx.l x F.2.2.2.2.2.2.2.2.1 G1 111 rfl) (Nat.le_of_ble_eq_true rfl) (Nat.le_of_ble_eq_true rfl) dL_law_1099 rfl rfl (fun v4 G3 => ?_)
  refine x_icmpeq (pt := 1676) F dL_law_1102 rfl rfl ?_ ?_
  · exact hK G3
  · refine x_iconst F dL_law_1105 ⟨by decide, by decide⟩ rfl ?_
    exact x_retL C hk (Nat.le_refl _) dL_law_1106
def gL_26 (sn : Nat) (sc : Nat → Int) (i : Int) (K : Hp → RT) (G : Hp) : RT := bn (mg G (fX11_amiss 0 G)) fun v2 G1 => bn (mg G1 (fX12_amiss 111 G1)) fun v4 G3 => if v2 = v4 then K G3 else rz 0 G3
set_option maxRecDepth 20000 in
set_option maxHeartbeats 4000000 in
theorem uL_26 {cx : CX} {x : WX} {b sn : Nat} {sc : Nat → Int} {k : Nat} (C : LC cx x b sn sc) (hk1 : k + 1 ≤ 4000) (i : Int) (K : Hp → RT) (G : Hp) (hK : ∀ g, Y (cxk cx k) x 7 (some .boolean) 130 1676 [(0, vR 500), (1, vR 0), (2, vR 111), (3, vR 129), (4, vI i)] [] g (K g)) : Y (cxk cx k) x 7 (some .boolean) 130 1107 [(0, vR 500), (1, vR 0), (2, vR 111), (3, vR 129), (4, vI i)] [] G (gL_26 sn sc i K G) := by
  have hk : k ≤ 4000 := by omega
  have F := Fk C hk
  unfold gL_26
  refine x_aload_n F dL_law_1107 rfl rfl rfl ?_
  refine x_callL C hk (as := []) (S := []) lkL_137 mX11_amiss rfl rfl (by decide) (tX11_amiss cx.l x F.2.2.2.2.2.2.2.2.1 G 0 rfl) (Nat.le_of_ble_eq_true rfl) (Nat.le_of_ble_eq_true rfl) dL_law_1108 rfl rfl (fun v2 G1 => ?_)
  refine x_aload_n F dL_law_1111 rfl rfl rfl ?_
  refine x_callL C hk (as := []) (S := [vI v2]) lkL_140 mX12_amiss rfl rfl (by decide) (tX12_amiss cx.l x F.2.2.2.2.2.2.2.2.1 G1 111 rfl) (Nat.le_of_ble_eq_true rfl) (Nat.le_of_ble_eq_true rfl) dL_law_1112 rfl rfl (fun v4 G3 => ?_)
  refine x_icmpeq (pt := 1676) F dL_law_1115 rfl rfl ?_ ?_
  · exact hK G3
  · refine x_iconst F dL_law_1118 ⟨by decide, by decide⟩ rfl ?_
    exact x_retL C hk (Nat.le_refl _) dL_law_1119
def gL_27 (sn : Nat) (sc : Nat → Int) (i : Int) (K : Hp → RT) (G : Hp) : RT := bn (mg G (fX11_behind 0 G)) fun v2 G1 => bn (mg G1 (fX12_behind 111 G1)) fun v4 G3 => if v2 = v4 then K G3 else rz 0 G3
set_option maxRecDepth 20000 in
set_option maxHeartbeats 4000000 in
theorem uL_27 {cx : CX} {x : WX} {b sn : Nat} {sc : Nat → Int} {k : Nat} (C : LC cx x b sn sc) (hk1 : k + 1 ≤ 4000) (i : Int) (K : Hp → RT) (G : Hp) (hK : ∀ g, Y (cxk cx k) x 7 (some .boolean) 130 1676 [(0, vR 500), (1, vR 0), (2, vR 111), (3, vR 129), (4, vI i)] [] g (K g)) : Y (cxk cx k) x 7 (some .boolean) 130 1120 [(0, vR 500), (1, vR 0), (2, vR 111), (3, vR 129), (4, vI i)] [] G (gL_27 sn sc i K G) := by
  have hk : k ≤ 4000 := by omega
  have F := Fk C hk
  unfold gL_27
  refine x_aload_n F dL_law_1120 rfl rfl rfl ?_
  refine x_callL C hk (as := []) (S := []) lkL_141 mX11_behind rfl rfl (by decide) (tX11_behind cx.l x F.2.2.2.2.2.2.2.2.1 G 0 rfl) (Nat.le_of_ble_eq_true rfl) (Nat.le_of_ble_eq_true rfl) dL_law_1121 rfl rfl (fun v2 G1 => ?_)
  refine x_aload_n F dL_law_1124 rfl rfl rfl ?_
  refine x_callL C hk (as := []) (S := [vI v2]) lkL_144 mX12_behind rfl rfl (by decide) (tX12_behind cx.l x F.2.2.2.2.2.2.2.2.1 G1 111 rfl) (Nat.le_of_ble_eq_true rfl) (Nat.le_of_ble_eq_true rfl) dL_law_1125 rfl rfl (fun v4 G3 => ?_)
  refine x_icmpeq (pt := 1676) F dL_law_1128 rfl rfl ?_ ?_
  · exact hK G3
  · refine x_iconst F dL_law_1131 ⟨by decide, by decide⟩ rfl ?_
    exact x_retL C hk (Nat.le_refl _) dL_law_1132
def gL_28 (sn : Nat) (sc : Nat → Int) (i : Int) (K : Hp → RT) (G : Hp) : RT := bn (mg G (fX11_rests 0 G)) fun v2 G1 => bn (mg G1 (fX12_rests 111 G1)) fun v4 G3 => if v2 = v4 then K G3 else rz 0 G3
set_option maxRecDepth 20000 in
set_option maxHeartbeats 4000000 in
theorem uL_28 {cx : CX} {x : WX} {b sn : Nat} {sc : Nat → Int} {k : Nat} (C : LC cx x b sn sc) (hk1 : k + 1 ≤ 4000) (i : Int) (K : Hp → RT) (G : Hp) (hK : ∀ g, Y (cxk cx k) x 7 (some .boolean) 130 1676 [(0, vR 500), (1, vR 0), (2, vR 111), (3, vR 129), (4, vI i)] [] g (K g)) : Y (cxk cx k) x 7 (some .boolean) 130 1133 [(0, vR 500), (1, vR 0), (2, vR 111), (3, vR 129), (4, vI i)] [] G (gL_28 sn sc i K G) := by
  have hk : k ≤ 4000 := by omega
  have F := Fk C hk
  unfold gL_28
  refine x_aload_n F dL_law_1133 rfl rfl rfl ?_
  refine x_callL C hk (as := []) (S := []) lkL_145 mX11_rests rfl rfl (by decide) (tX11_rests cx.l x F.2.2.2.2.2.2.2.2.1 G 0 rfl) (Nat.le_of_ble_eq_true rfl) (Nat.le_of_ble_eq_true rfl) dL_law_1134 rfl rfl (fun v2 G1 => ?_)
  refine x_aload_n F dL_law_1137 rfl rfl rfl ?_
  refine x_callL C hk (as := []) (S := [vI v2]) lkL_148 mX12_rests rfl rfl (by decide) (tX12_rests cx.l x F.2.2.2.2.2.2.2.2.1 G1 111 rfl) (Nat.le_of_ble_eq_true rfl) (Nat.le_of_ble_eq_true rfl) dL_law_1138 rfl rfl (fun v4 G3 => ?_)
  refine x_icmpeq (pt := 1676) F dL_law_1141 rfl rfl ?_ ?_
  · exact hK G3
  · refine x_iconst F dL_law_1144 ⟨by decide, by decide⟩ rfl ?_
    exact x_retL C hk (Nat.le_refl _) dL_law_1145
def gL_29 (sn : Nat) (sc : Nat → Int) (i : Int) (K : Hp → RT) (G : Hp) : RT := br (rdC sn sc (iadd i 1)) fun v1 => br (rdC sn sc (iadd i 2)) fun v2 => bn (mg G (fX11_after 0 v1 v2 G)) fun v4 G3 => br (rdC sn sc (iadd i 1)) fun v5 => br (rdC sn sc (iadd i 2)) fun v6 => bn (mg G3 (fX12_after 111 v5 v6 G3)) fun v8 G7 => if v4 = v8 then K G7 else rz 0 G7
set_option maxRecDepth 20000 in
set_option maxHeartbeats 4000000 in
theorem uL_29 {cx : CX} {x : WX} {b sn : Nat} {sc : Nat → Int} {k : Nat} (C : LC cx x b sn sc) (hk1 : k + 1 ≤ 4000) (i : Int) (K : Hp → RT) (G : Hp) (hK : ∀ g, Y (cxk cx k) x 7 (some .boolean) 130 1676 [(0, vR 500), (1, vR 0), (2, vR 111), (3, vR 129), (4, vI i)] [] g (K g)) : Y (cxk cx k) x 7 (some .boolean) 130 1146 [(0, vR 500), (1, vR 0), (2, vR 111), (3, vR 129), (4, vI i)] [] G (gL_29 sn sc i K G) := by
  have hk : k ≤ 4000 := by omega
  have F := Fk C hk
  unfold gL_29
  refine x_aload_n F dL_law_1146 rfl rfl rfl ?_
  refine x_aload_n F dL_law_1147 rfl rfl rfl ?_
  refine x_iload F dL_law_1148 rfl rfl ?_
  refine x_iconst F dL_law_1150 ⟨by decide, by decide⟩ rfl ?_
  refine x_iadd F dL_law_1151 rfl ?_
  refine x_scrLd C hk dL_law_1152 rfl (fun v1 => ?_)
  refine x_aload_n F dL_law_1153 rfl rfl rfl ?_
  refine x_iload F dL_law_1154 rfl rfl ?_
  refine x_iconst F dL_law_1156 ⟨by decide, by decide⟩ rfl ?_
  refine x_iadd F dL_law_1157 rfl ?_
  refine x_scrLd C hk dL_law_1158 rfl (fun v2 => ?_)
  refine x_callL C hk (as := [vI v1, vI v2]) (S := []) lkL_149 mX11_after rfl rfl (by decide) (tX11_after cx.l x F.2.2.2.2.2.2.2.2.1 G 0 v1 v2 rfl) (Nat.le_of_ble_eq_true rfl) (Nat.le_of_ble_eq_true rfl) dL_law_1159 rfl rfl (fun v4 G3 => ?_)
  refine x_aload_n F dL_law_1162 rfl rfl rfl ?_
  refine x_aload_n F dL_law_1163 rfl rfl rfl ?_
  refine x_iload F dL_law_1164 rfl rfl ?_
  refine x_iconst F dL_law_1166 ⟨by decide, by decide⟩ rfl ?_
  refine x_iadd F dL_law_1167 rfl ?_
  refine x_scrLd C hk dL_law_1168 rfl (fun v5 => ?_)
  refine x_aload_n F dL_law_1169 rfl rfl rfl ?_
  refine x_iload F dL_law_1170 rfl rfl ?_
  refine x_iconst F dL_law_1172 ⟨by decide, by decide⟩ rfl ?_
  refine x_iadd F dL_law_1173 rfl ?_
  refine x_scrLd C hk dL_law_1174 rfl (fun v6 => ?_)
  refine x_callL C hk (as := [vI v5, vI v6]) (S := [vI v4]) lkL_152 mX12_after rfl rfl (by decide) (tX12_after cx.l x F.2.2.2.2.2.2.2.2.1 G3 111 v5 v6 rfl) (Nat.le_of_ble_eq_true rfl) (Nat.le_of_ble_eq_true rfl) dL_law_1175 rfl rfl (fun v8 G7 => ?_)
  refine x_icmpeq (pt := 1676) F dL_law_1178 rfl rfl ?_ ?_
  · exact hK G7
  · refine x_iconst F dL_law_1181 ⟨by decide, by decide⟩ rfl ?_
    exact x_retL C hk (Nat.le_refl _) dL_law_1182
def gL_30 (sn : Nat) (sc : Nat → Int) (i : Int) (K : Hp → RT) (G : Hp) : RT := br (rdC sn sc (iadd i 1)) fun v1 => bn (mg G (fX11_wrongs 0 v1 G)) fun v3 G2 => br (rdC sn sc (iadd i 1)) fun v4 => bn (mg G2 (fX12_wrongs 111 v4 G2)) fun v6 G5 => if v3 = v6 then K G5 else rz 0 G5
set_option maxRecDepth 20000 in
set_option maxHeartbeats 4000000 in
theorem uL_30 {cx : CX} {x : WX} {b sn : Nat} {sc : Nat → Int} {k : Nat} (C : LC cx x b sn sc) (hk1 : k + 1 ≤ 4000) (i : Int) (K : Hp → RT) (G : Hp) (hK : ∀ g, Y (cxk cx k) x 7 (some .boolean) 130 1676 [(0, vR 500), (1, vR 0), (2, vR 111), (3, vR 129), (4, vI i)] [] g (K g)) : Y (cxk cx k) x 7 (some .boolean) 130 1183 [(0, vR 500), (1, vR 0), (2, vR 111), (3, vR 129), (4, vI i)] [] G (gL_30 sn sc i K G) := by
  have hk : k ≤ 4000 := by omega
  have F := Fk C hk
  unfold gL_30
  refine x_aload_n F dL_law_1183 rfl rfl rfl ?_
  refine x_aload_n F dL_law_1184 rfl rfl rfl ?_
  refine x_iload F dL_law_1185 rfl rfl ?_
  refine x_iconst F dL_law_1187 ⟨by decide, by decide⟩ rfl ?_
  refine x_iadd F dL_law_1188 rfl ?_
  refine x_scrLd C hk dL_law_1189 rfl (fun v1 => ?_)
  refine x_callL C hk (as := [vI v1]) (S := []) lkL_153 mX11_wrongs rfl rfl (by decide) (tX11_wrongs cx.l x F.2.2.2.2.2.2.2.2.1 G 0 v1 rfl) (Nat.le_of_ble_eq_true rfl) (Nat.le_of_ble_eq_true rfl) dL_law_1190 rfl rfl (fun v3 G2 => ?_)
  refine x_aload_n F dL_law_1193 rfl rfl rfl ?_
  refine x_aload_n F dL_law_1194 rfl rfl rfl ?_
  refine x_iload F dL_law_1195 rfl rfl ?_
  refine x_iconst F dL_law_1197 ⟨by decide, by decide⟩ rfl ?_
  refine x_iadd F dL_law_1198 rfl ?_
  refine x_scrLd C hk dL_law_1199 rfl (fun v4 => ?_)
  refine x_callL C hk (as := [vI v4]) (S := [vI v3]) lkL_156 mX12_wrongs rfl rfl (by decide) (tX12_wrongs cx.l x F.2.2.2.2.2.2.2.2.1 G2 111 v4 rfl) (Nat.le_of_ble_eq_true rfl) (Nat.le_of_ble_eq_true rfl) dL_law_1200 rfl rfl (fun v6 G5 => ?_)
  refine x_icmpeq (pt := 1676) F dL_law_1203 rfl rfl ?_ ?_
  · exact hK G5
  · refine x_iconst F dL_law_1206 ⟨by decide, by decide⟩ rfl ?_
    exact x_retL C hk (Nat.le_refl _) dL_law_1207
def gL_31 (sn : Nat) (sc : Nat → Int) (i : Int) (K : Hp → RT) (G : Hp) : RT := br (rdC sn sc (iadd i 1)) fun v1 => bn (mg G (fX11_far 0 v1 G)) fun v3 G2 => br (rdC sn sc (iadd i 1)) fun v4 => bn (mg G2 (fX12_far 111 v4 G2)) fun v6 G5 => if v3 = v6 then K G5 else rz 0 G5
set_option maxRecDepth 20000 in
set_option maxHeartbeats 4000000 in
theorem uL_31 {cx : CX} {x : WX} {b sn : Nat} {sc : Nat → Int} {k : Nat} (C : LC cx x b sn sc) (hk1 : k + 1 ≤ 4000) (i : Int) (K : Hp → RT) (G : Hp) (hK : ∀ g, Y (cxk cx k) x 7 (some .boolean) 130 1676 [(0, vR 500), (1, vR 0), (2, vR 111), (3, vR 129), (4, vI i)] [] g (K g)) : Y (cxk cx k) x 7 (some .boolean) 130 1208 [(0, vR 500), (1, vR 0), (2, vR 111), (3, vR 129), (4, vI i)] [] G (gL_31 sn sc i K G) := by
  have hk : k ≤ 4000 := by omega
  have F := Fk C hk
  unfold gL_31
  refine x_aload_n F dL_law_1208 rfl rfl rfl ?_
  refine x_aload_n F dL_law_1209 rfl rfl rfl ?_
  refine x_iload F dL_law_1210 rfl rfl ?_
  refine x_iconst F dL_law_1212 ⟨by decide, by decide⟩ rfl ?_
  refine x_iadd F dL_law_1213 rfl ?_
  refine x_scrLd C hk dL_law_1214 rfl (fun v1 => ?_)
  refine x_callL C hk (as := [vI v1]) (S := []) lkL_157 mX11_far rfl rfl (by decide) (tX11_far cx.l x F.2.2.2.2.2.2.2.2.1 G 0 v1 rfl) (Nat.le_of_ble_eq_true rfl) (Nat.le_of_ble_eq_true rfl) dL_law_1215 rfl rfl (fun v3 G2 => ?_)
  refine x_aload_n F dL_law_1218 rfl rfl rfl ?_
  refine x_aload_n F dL_law_1219 rfl rfl rfl ?_
  refine x_iload F dL_law_1220 rfl rfl ?_
  refine x_iconst F dL_law_1222 ⟨by decide, by decide⟩ rfl ?_
  refine x_iadd F dL_law_1223 rfl ?_
  refine x_scrLd C hk dL_law_1224 rfl (fun v4 => ?_)
  refine x_callL C hk (as := [vI v4]) (S := [vI v3]) lkL_160 mX12_far rfl rfl (by decide) (tX12_far cx.l x F.2.2.2.2.2.2.2.2.1 G2 111 v4 rfl) (Nat.le_of_ble_eq_true rfl) (Nat.le_of_ble_eq_true rfl) dL_law_1225 rfl rfl (fun v6 G5 => ?_)
  refine x_icmpeq (pt := 1676) F dL_law_1228 rfl rfl ?_ ?_
  · exact hK G5
  · refine x_iconst F dL_law_1231 ⟨by decide, by decide⟩ rfl ?_
    exact x_retL C hk (Nat.le_refl _) dL_law_1232
def gL_32 (sn : Nat) (sc : Nat → Int) (i : Int) (K : Hp → RT) (G : Hp) : RT := br (rdC sn sc (iadd i 1)) fun v1 => bn (mg G (fX11_arc 0 v1 G)) fun v3 G2 => br (rdC sn sc (iadd i 1)) fun v4 => bn (mg G2 (fX12_arc 111 v4 G2)) fun v6 G5 => if v3 = v6 then K G5 else rz 0 G5
set_option maxRecDepth 20000 in
set_option maxHeartbeats 4000000 in
theorem uL_32 {cx : CX} {x : WX} {b sn : Nat} {sc : Nat → Int} {k : Nat} (C : LC cx x b sn sc) (hk1 : k + 1 ≤ 4000) (i : Int) (K : Hp → RT) (G : Hp) (hK : ∀ g, Y (cxk cx k) x 7 (some .boolean) 130 1676 [(0, vR 500), (1, vR 0), (2, vR 111), (3, vR 129), (4, vI i)] [] g (K g)) : Y (cxk cx k) x 7 (some .boolean) 130 1233 [(0, vR 500), (1, vR 0), (2, vR 111), (3, vR 129), (4, vI i)] [] G (gL_32 sn sc i K G) := by
  have hk : k ≤ 4000 := by omega
  have F := Fk C hk
  unfold gL_32
  refine x_aload_n F dL_law_1233 rfl rfl rfl ?_
  refine x_aload_n F dL_law_1234 rfl rfl rfl ?_
  refine x_iload F dL_law_1235 rfl rfl ?_
  refine x_iconst F dL_law_1237 ⟨by decide, by decide⟩ rfl ?_
  refine x_iadd F dL_law_1238 rfl ?_
  refine x_scrLd C hk dL_law_1239 rfl (fun v1 => ?_)
  refine x_callL C hk (as := [vI v1]) (S := []) lkL_161 mX11_arc rfl rfl (by decide) (tX11_arc cx.l x F.2.2.2.2.2.2.2.2.1 G 0 v1 rfl) (Nat.le_of_ble_eq_true rfl) (Nat.le_of_ble_eq_true rfl) dL_law_1240 rfl rfl (fun v3 G2 => ?_)
  refine x_aload_n F dL_law_1243 rfl rfl rfl ?_
  refine x_aload_n F dL_law_1244 rfl rfl rfl ?_
  refine x_iload F dL_law_1245 rfl rfl ?_
  refine x_iconst F dL_law_1247 ⟨by decide, by decide⟩ rfl ?_
  refine x_iadd F dL_law_1248 rfl ?_
  refine x_scrLd C hk dL_law_1249 rfl (fun v4 => ?_)
  refine x_callL C hk (as := [vI v4]) (S := [vI v3]) lkL_164 mX12_arc rfl rfl (by decide) (tX12_arc cx.l x F.2.2.2.2.2.2.2.2.1 G2 111 v4 rfl) (Nat.le_of_ble_eq_true rfl) (Nat.le_of_ble_eq_true rfl) dL_law_1250 rfl rfl (fun v6 G5 => ?_)
  refine x_icmpeq (pt := 1676) F dL_law_1253 rfl rfl ?_ ?_
  · exact hK G5
  · refine x_iconst F dL_law_1256 ⟨by decide, by decide⟩ rfl ?_
    exact x_retL C hk (Nat.le_refl _) dL_law_1257
def gL_33 (sn : Nat) (sc : Nat → Int) (i : Int) (K : Hp → RT) (G : Hp) : RT := br (rdC sn sc (iadd i 1)) fun v1 => bn (mg G (fX11_load 0 v1 G)) fun v3 G2 => br (rdC sn sc (iadd i 1)) fun v4 => bn (mg G2 (fX12_load 111 v4 G2)) fun v6 G5 => if v3 = v6 then K G5 else rz 0 G5
set_option maxRecDepth 20000 in
set_option maxHeartbeats 4000000 in
theorem uL_33 {cx : CX} {x : WX} {b sn : Nat} {sc : Nat → Int} {k : Nat} (C : LC cx x b sn sc) (hk1 : k + 1 ≤ 4000) (i : Int) (K : Hp → RT) (G : Hp) (hK : ∀ g, Y (cxk cx k) x 7 (some .boolean) 130 1676 [(0, vR 500), (1, vR 0), (2, vR 111), (3, vR 129), (4, vI i)] [] g (K g)) : Y (cxk cx k) x 7 (some .boolean) 130 1258 [(0, vR 500), (1, vR 0), (2, vR 111), (3, vR 129), (4, vI i)] [] G (gL_33 sn sc i K G) := by
  have hk : k ≤ 4000 := by omega
  have F := Fk C hk
  unfold gL_33
  refine x_aload_n F dL_law_1258 rfl rfl rfl ?_
  refine x_aload_n F dL_law_1259 rfl rfl rfl ?_
  refine x_iload F dL_law_1260 rfl rfl ?_
  refine x_iconst F dL_law_1262 ⟨by decide, by decide⟩ rfl ?_
  refine x_iadd F dL_law_1263 rfl ?_
  refine x_scrLd C hk dL_law_1264 rfl (fun v1 => ?_)
  refine x_callL C hk (as := [vI v1]) (S := []) lkL_165 mX11_load rfl rfl (by decide) (tX11_load cx.l x F.2.2.2.2.2.2.2.2.1 G 0 v1 rfl) (Nat.le_of_ble_eq_true rfl) (Nat.le_of_ble_eq_true rfl) dL_law_1265 rfl rfl (fun v3 G2 => ?_)
  refine x_aload_n F dL_law_1268 rfl rfl rfl ?_
  refine x_aload_n F dL_law_1269 rfl rfl rfl ?_
  refine x_iload F dL_law_1270 rfl rfl ?_
  refine x_iconst F dL_law_1272 ⟨by decide, by decide⟩ rfl ?_
  refine x_iadd F dL_law_1273 rfl ?_
  refine x_scrLd C hk dL_law_1274 rfl (fun v4 => ?_)
  refine x_callL C hk (as := [vI v4]) (S := [vI v3]) lkL_168 mX12_load rfl rfl (by decide) (tX12_load cx.l x F.2.2.2.2.2.2.2.2.1 G2 111 v4 rfl) (Nat.le_of_ble_eq_true rfl) (Nat.le_of_ble_eq_true rfl) dL_law_1275 rfl rfl (fun v6 G5 => ?_)
  refine x_icmpeq (pt := 1676) F dL_law_1278 rfl rfl ?_ ?_
  · exact hK G5
  · refine x_iconst F dL_law_1281 ⟨by decide, by decide⟩ rfl ?_
    exact x_retL C hk (Nat.le_refl _) dL_law_1282
def gL_34 (sn : Nat) (sc : Nat → Int) (i : Int) (K : Hp → RT) (G : Hp) : RT := br (rdC sn sc (iadd i 1)) fun v1 => bn (mg G (fX11_hosts 0 v1 G)) fun v3 G2 => br (rdC sn sc (iadd i 1)) fun v4 => bn (mg G2 (fX12_hosts 111 v4 G2)) fun v6 G5 => if v3 = v6 then K G5 else rz 0 G5
set_option maxRecDepth 20000 in
set_option maxHeartbeats 4000000 in
theorem uL_34 {cx : CX} {x : WX} {b sn : Nat} {sc : Nat → Int} {k : Nat} (C : LC cx x b sn sc) (hk1 : k + 1 ≤ 4000) (i : Int) (K : Hp → RT) (G : Hp) (hK : ∀ g, Y (cxk cx k) x 7 (some .boolean) 130 1676 [(0, vR 500), (1, vR 0), (2, vR 111), (3, vR 129), (4, vI i)] [] g (K g)) : Y (cxk cx k) x 7 (some .boolean) 130 1283 [(0, vR 500), (1, vR 0), (2, vR 111), (3, vR 129), (4, vI i)] [] G (gL_34 sn sc i K G) := by
  have hk : k ≤ 4000 := by omega
  have F := Fk C hk
  unfold gL_34
  refine x_aload_n F dL_law_1283 rfl rfl rfl ?_
  refine x_aload_n F dL_law_1284 rfl rfl rfl ?_
  refine x_iload F dL_law_1285 rfl rfl ?_
  refine x_iconst F dL_law_1287 ⟨by decide, by decide⟩ rfl ?_
  refine x_iadd F dL_law_1288 rfl ?_
  refine x_scrLd C hk dL_law_1289 rfl (fun v1 => ?_)
  refine x_callL C hk (as := [vI v1]) (S := []) lkL_169 mX11_hosts rfl rfl (by decide) (tX11_hosts cx.l x F.2.2.2.2.2.2.2.2.1 G 0 v1 rfl) (Nat.le_of_ble_eq_true rfl) (Nat.le_of_ble_eq_true rfl) dL_law_1290 rfl rfl (fun v3 G2 => ?_)
  refine x_aload_n F dL_law_1293 rfl rfl rfl ?_
  refine x_aload_n F dL_law_1294 rfl rfl rfl ?_
  refine x_iload F dL_law_1295 rfl rfl ?_
  refine x_iconst F dL_law_1297 ⟨by decide, by decide⟩ rfl ?_
  refine x_iadd F dL_law_1298 rfl ?_
  refine x_scrLd C hk dL_law_1299 rfl (fun v4 => ?_)
  refine x_callL C hk (as := [vI v4]) (S := [vI v3]) lkL_172 mX12_hosts rfl rfl (by decide) (tX12_hosts cx.l x F.2.2.2.2.2.2.2.2.1 G2 111 v4 rfl) (Nat.le_of_ble_eq_true rfl) (Nat.le_of_ble_eq_true rfl) dL_law_1300 rfl rfl (fun v6 G5 => ?_)
  refine x_icmpeq (pt := 1676) F dL_law_1303 rfl rfl ?_ ?_
  · exact hK G5
  · refine x_iconst F dL_law_1306 ⟨by decide, by decide⟩ rfl ?_
    exact x_retL C hk (Nat.le_refl _) dL_law_1307
def gL_35 (sn : Nat) (sc : Nat → Int) (i : Int) (K : Hp → RT) (G : Hp) : RT := br (rdC sn sc (iadd i 1)) fun v1 => bn (mg G (fX11_reaches 0 v1 G)) fun v3 G2 => br (rdC sn sc (iadd i 1)) fun v4 => bn (mg G2 (fX12_reaches 111 v4 G2)) fun v6 G5 => if v3 = v6 then K G5 else rz 0 G5
set_option maxRecDepth 20000 in
set_option maxHeartbeats 4000000 in
theorem uL_35 {cx : CX} {x : WX} {b sn : Nat} {sc : Nat → Int} {k : Nat} (C : LC cx x b sn sc) (hk1 : k + 1 ≤ 4000) (i : Int) (K : Hp → RT) (G : Hp) (hK : ∀ g, Y (cxk cx k) x 7 (some .boolean) 130 1676 [(0, vR 500), (1, vR 0), (2, vR 111), (3, vR 129), (4, vI i)] [] g (K g)) : Y (cxk cx k) x 7 (some .boolean) 130 1308 [(0, vR 500), (1, vR 0), (2, vR 111), (3, vR 129), (4, vI i)] [] G (gL_35 sn sc i K G) := by
  have hk : k ≤ 4000 := by omega
  have F := Fk C hk
  unfold gL_35
  refine x_aload_n F dL_law_1308 rfl rfl rfl ?_
  refine x_aload_n F dL_law_1309 rfl rfl rfl ?_
  refine x_iload F dL_law_1310 rfl rfl ?_
  refine x_iconst F dL_law_1312 ⟨by decide, by decide⟩ rfl ?_
  refine x_iadd F dL_law_1313 rfl ?_
  refine x_scrLd C hk dL_law_1314 rfl (fun v1 => ?_)
  refine x_callL C hk (as := [vI v1]) (S := []) lkL_173 mX11_reaches rfl rfl (by decide) (tX11_reaches cx.l x F.2.2.2.2.2.2.2.2.1 G 0 v1 rfl) (Nat.le_of_ble_eq_true rfl) (Nat.le_of_ble_eq_true rfl) dL_law_1315 rfl rfl (fun v3 G2 => ?_)
  refine x_aload_n F dL_law_1318 rfl rfl rfl ?_
  refine x_aload_n F dL_law_1319 rfl rfl rfl ?_
  refine x_iload F dL_law_1320 rfl rfl ?_
  refine x_iconst F dL_law_1322 ⟨by decide, by decide⟩ rfl ?_
  refine x_iadd F dL_law_1323 rfl ?_
  refine x_scrLd C hk dL_law_1324 rfl (fun v4 => ?_)
  refine x_callL C hk (as := [vI v4]) (S := [vI v3]) lkL_176 mX12_reaches rfl rfl (by decide) (tX12_reaches cx.l x F.2.2.2.2.2.2.2.2.1 G2 111 v4 rfl) (Nat.le_of_ble_eq_true rfl) (Nat.le_of_ble_eq_true rfl) dL_law_1325 rfl rfl (fun v6 G5 => ?_)
  refine x_icmpeq (pt := 1676) F dL_law_1328 rfl rfl ?_ ?_
  · exact hK G5
  · refine x_iconst F dL_law_1331 ⟨by decide, by decide⟩ rfl ?_
    exact x_retL C hk (Nat.le_refl _) dL_law_1332
def gL_36 (sn : Nat) (sc : Nat → Int) (i : Int) (K : Hp → RT) (G : Hp) : RT := br (rdC sn sc (iadd i 1)) fun v1 => br (rdC sn sc (iadd i 2)) fun v2 => bn (mg G (fX11_heirs 0 v1 v2 G)) fun v4 G3 => br (rdC sn sc (iadd i 1)) fun v5 => br (rdC sn sc (iadd i 2)) fun v6 => bn (mg G3 (fX12_heirs 111 v5 v6 G3)) fun v8 G7 => if v4 = v8 then K G7 else rz 0 G7
set_option maxRecDepth 20000 in
set_option maxHeartbeats 4000000 in
theorem uL_36 {cx : CX} {x : WX} {b sn : Nat} {sc : Nat → Int} {k : Nat} (C : LC cx x b sn sc) (hk1 : k + 1 ≤ 4000) (i : Int) (K : Hp → RT) (G : Hp) (hK : ∀ g, Y (cxk cx k) x 7 (some .boolean) 130 1676 [(0, vR 500), (1, vR 0), (2, vR 111), (3, vR 129), (4, vI i)] [] g (K g)) : Y (cxk cx k) x 7 (some .boolean) 130 1333 [(0, vR 500), (1, vR 0), (2, vR 111), (3, vR 129), (4, vI i)] [] G (gL_36 sn sc i K G) := by
  have hk : k ≤ 4000 := by omega
  have F := Fk C hk
  unfold gL_36
  refine x_aload_n F dL_law_1333 rfl rfl rfl ?_
  refine x_aload_n F dL_law_1334 rfl rfl rfl ?_
  refine x_iload F dL_law_1335 rfl rfl ?_
  refine x_iconst F dL_law_1337 ⟨by decide, by decide⟩ rfl ?_
  refine x_iadd F dL_law_1338 rfl ?_
  refine x_scrLd C hk dL_law_1339 rfl (fun v1 => ?_)
  refine x_aload_n F dL_law_1340 rfl rfl rfl ?_
  refine x_iload F dL_law_1341 rfl rfl ?_
  refine x_iconst F dL_law_1343 ⟨by decide, by decide⟩ rfl ?_
  refine x_iadd F dL_law_1344 rfl ?_
  refine x_scrLd C hk dL_law_1345 rfl (fun v2 => ?_)
  refine x_callL C hk (as := [vI v1, vI v2]) (S := []) lkL_177 mX11_heirs rfl rfl (by decide) (tX11_heirs cx.l x F.2.2.2.2.2.2.2.2.1 G 0 v1 v2 rfl) (Nat.le_of_ble_eq_true rfl) (Nat.le_of_ble_eq_true rfl) dL_law_1346 rfl rfl (fun v4 G3 => ?_)
  refine x_aload_n F dL_law_1349 rfl rfl rfl ?_
  refine x_aload_n F dL_law_1350 rfl rfl rfl ?_
  refine x_iload F dL_law_1351 rfl rfl ?_
  refine x_iconst F dL_law_1353 ⟨by decide, by decide⟩ rfl ?_
  refine x_iadd F dL_law_1354 rfl ?_
  refine x_scrLd C hk dL_law_1355 rfl (fun v5 => ?_)
  refine x_aload_n F dL_law_1356 rfl rfl rfl ?_
  refine x_iload F dL_law_1357 rfl rfl ?_
  refine x_iconst F dL_law_1359 ⟨by decide, by decide⟩ rfl ?_
  refine x_iadd F dL_law_1360 rfl ?_
  refine x_scrLd C hk dL_law_1361 rfl (fun v6 => ?_)
  refine x_callL C hk (as := [vI v5, vI v6]) (S := [vI v4]) lkL_180 mX12_heirs rfl rfl (by decide) (tX12_heirs cx.l x F.2.2.2.2.2.2.2.2.1 G3 111 v5 v6 rfl) (Nat.le_of_ble_eq_true rfl) (Nat.le_of_ble_eq_true rfl) dL_law_1362 rfl rfl (fun v8 G7 => ?_)
  refine x_icmpeq (pt := 1676) F dL_law_1365 rfl rfl ?_ ?_
  · exact hK G7
  · refine x_iconst F dL_law_1368 ⟨by decide, by decide⟩ rfl ?_
    exact x_retL C hk (Nat.le_refl _) dL_law_1369
def gL_37 (sn : Nat) (sc : Nat → Int) (i : Int) (K : Hp → RT) (G : Hp) : RT := bn (mg G (fX11_widest 0 G)) fun v2 G1 => bn (mg G1 (fX12_widest 111 G1)) fun v4 G3 => if v2 = v4 then K G3 else rz 0 G3
set_option maxRecDepth 20000 in
set_option maxHeartbeats 4000000 in
theorem uL_37 {cx : CX} {x : WX} {b sn : Nat} {sc : Nat → Int} {k : Nat} (C : LC cx x b sn sc) (hk1 : k + 1 ≤ 4000) (i : Int) (K : Hp → RT) (G : Hp) (hK : ∀ g, Y (cxk cx k) x 7 (some .boolean) 130 1676 [(0, vR 500), (1, vR 0), (2, vR 111), (3, vR 129), (4, vI i)] [] g (K g)) : Y (cxk cx k) x 7 (some .boolean) 130 1370 [(0, vR 500), (1, vR 0), (2, vR 111), (3, vR 129), (4, vI i)] [] G (gL_37 sn sc i K G) := by
  have hk : k ≤ 4000 := by omega
  have F := Fk C hk
  unfold gL_37
  refine x_aload_n F dL_law_1370 rfl rfl rfl ?_
  refine x_callL C hk (as := []) (S := []) lkL_181 mX11_widest rfl rfl (by decide) (tX11_widest cx.l x F.2.2.2.2.2.2.2.2.1 G 0 rfl) (Nat.le_of_ble_eq_true rfl) (Nat.le_of_ble_eq_true rfl) dL_law_1371 rfl rfl (fun v2 G1 => ?_)
  refine x_aload_n F dL_law_1374 rfl rfl rfl ?_
  refine x_callL C hk (as := []) (S := [vI v2]) lkL_184 mX12_widest rfl rfl (by decide) (tX12_widest cx.l x F.2.2.2.2.2.2.2.2.1 G1 111 rfl) (Nat.le_of_ble_eq_true rfl) (Nat.le_of_ble_eq_true rfl) dL_law_1375 rfl rfl (fun v4 G3 => ?_)
  refine x_icmpeq (pt := 1676) F dL_law_1378 rfl rfl ?_ ?_
  · exact hK G3
  · refine x_iconst F dL_law_1381 ⟨by decide, by decide⟩ rfl ?_
    exact x_retL C hk (Nat.le_refl _) dL_law_1382
def gL_38 (sn : Nat) (sc : Nat → Int) (i : Int) (K : Hp → RT) (G : Hp) : RT := br (rdC sn sc (iadd i 1)) fun v1 => bn (mg G (fX11_toil 0 v1 G)) fun v3 G2 => br (rdC sn sc (iadd i 1)) fun v4 => bn (mg G2 (fX12_toil 111 v4 G2)) fun v6 G5 => if v3 = v6 then K G5 else rz 0 G5
set_option maxRecDepth 20000 in
set_option maxHeartbeats 4000000 in
theorem uL_38 {cx : CX} {x : WX} {b sn : Nat} {sc : Nat → Int} {k : Nat} (C : LC cx x b sn sc) (hk1 : k + 1 ≤ 4000) (i : Int) (K : Hp → RT) (G : Hp) (hK : ∀ g, Y (cxk cx k) x 7 (some .boolean) 130 1676 [(0, vR 500), (1, vR 0), (2, vR 111), (3, vR 129), (4, vI i)] [] g (K g)) : Y (cxk cx k) x 7 (some .boolean) 130 1383 [(0, vR 500), (1, vR 0), (2, vR 111), (3, vR 129), (4, vI i)] [] G (gL_38 sn sc i K G) := by
  have hk : k ≤ 4000 := by omega
  have F := Fk C hk
  unfold gL_38
  refine x_aload_n F dL_law_1383 rfl rfl rfl ?_
  refine x_aload_n F dL_law_1384 rfl rfl rfl ?_
  refine x_iload F dL_law_1385 rfl rfl ?_
  refine x_iconst F dL_law_1387 ⟨by decide, by decide⟩ rfl ?_
  refine x_iadd F dL_law_1388 rfl ?_
  refine x_scrLd C hk dL_law_1389 rfl (fun v1 => ?_)
  refine x_callL C hk (as := [vI v1]) (S := []) lkL_185 mX11_toil rfl rfl (by decide) (tX11_toil cx.l x F.2.2.2.2.2.2.2.2.1 G 0 v1 rfl) (Nat.le_of_ble_eq_true rfl) (Nat.le_of_ble_eq_true rfl) dL_law_1390 rfl rfl (fun v3 G2 => ?_)
  refine x_aload_n F dL_law_1393 rfl rfl rfl ?_
  refine x_aload_n F dL_law_1394 rfl rfl rfl ?_
  refine x_iload F dL_law_1395 rfl rfl ?_
  refine x_iconst F dL_law_1397 ⟨by decide, by decide⟩ rfl ?_
  refine x_iadd F dL_law_1398 rfl ?_
  refine x_scrLd C hk dL_law_1399 rfl (fun v4 => ?_)
  refine x_callL C hk (as := [vI v4]) (S := [vI v3]) lkL_188 mX12_toil rfl rfl (by decide) (tX12_toil cx.l x F.2.2.2.2.2.2.2.2.1 G2 111 v4 rfl) (Nat.le_of_ble_eq_true rfl) (Nat.le_of_ble_eq_true rfl) dL_law_1400 rfl rfl (fun v6 G5 => ?_)
  refine x_icmpeq (pt := 1676) F dL_law_1403 rfl rfl ?_ ?_
  · exact hK G5
  · refine x_iconst F dL_law_1406 ⟨by decide, by decide⟩ rfl ?_
    exact x_retL C hk (Nat.le_refl _) dL_law_1407
def gL_39 (sn : Nat) (sc : Nat → Int) (i : Int) (K : Hp → RT) (G : Hp) : RT := br (rdC sn sc (iadd i 1)) fun v1 => bn (mg G (fX11_risk 0 v1 G)) fun v3 G2 => br (rdC sn sc (iadd i 1)) fun v4 => bn (mg G2 (fX12_risk 111 v4 G2)) fun v6 G5 => if v3 = v6 then K G5 else rz 0 G5
set_option maxRecDepth 20000 in
set_option maxHeartbeats 4000000 in
theorem uL_39 {cx : CX} {x : WX} {b sn : Nat} {sc : Nat → Int} {k : Nat} (C : LC cx x b sn sc) (hk1 : k + 1 ≤ 4000) (i : Int) (K : Hp → RT) (G : Hp) (hK : ∀ g, Y (cxk cx k) x 7 (some .boolean) 130 1676 [(0, vR 500), (1, vR 0), (2, vR 111), (3, vR 129), (4, vI i)] [] g (K g)) : Y (cxk cx k) x 7 (some .boolean) 130 1408 [(0, vR 500), (1, vR 0), (2, vR 111), (3, vR 129), (4, vI i)] [] G (gL_39 sn sc i K G) := by
  have hk : k ≤ 4000 := by omega
  have F := Fk C hk
  unfold gL_39
  refine x_aload_n F dL_law_1408 rfl rfl rfl ?_
  refine x_aload_n F dL_law_1409 rfl rfl rfl ?_
  refine x_iload F dL_law_1410 rfl rfl ?_
  refine x_iconst F dL_law_1412 ⟨by decide, by decide⟩ rfl ?_
  refine x_iadd F dL_law_1413 rfl ?_
  refine x_scrLd C hk dL_law_1414 rfl (fun v1 => ?_)
  refine x_callL C hk (as := [vI v1]) (S := []) lkL_189 mX11_risk rfl rfl (by decide) (tX11_risk cx.l x F.2.2.2.2.2.2.2.2.1 G 0 v1 rfl) (Nat.le_of_ble_eq_true rfl) (Nat.le_of_ble_eq_true rfl) dL_law_1415 rfl rfl (fun v3 G2 => ?_)
  refine x_aload_n F dL_law_1418 rfl rfl rfl ?_
  refine x_aload_n F dL_law_1419 rfl rfl rfl ?_
  refine x_iload F dL_law_1420 rfl rfl ?_
  refine x_iconst F dL_law_1422 ⟨by decide, by decide⟩ rfl ?_
  refine x_iadd F dL_law_1423 rfl ?_
  refine x_scrLd C hk dL_law_1424 rfl (fun v4 => ?_)
  refine x_callL C hk (as := [vI v4]) (S := [vI v3]) lkL_192 mX12_risk rfl rfl (by decide) (tX12_risk cx.l x F.2.2.2.2.2.2.2.2.1 G2 111 v4 rfl) (Nat.le_of_ble_eq_true rfl) (Nat.le_of_ble_eq_true rfl) dL_law_1425 rfl rfl (fun v6 G5 => ?_)
  refine x_icmpeq (pt := 1676) F dL_law_1428 rfl rfl ?_ ?_
  · exact hK G5
  · refine x_iconst F dL_law_1431 ⟨by decide, by decide⟩ rfl ?_
    exact x_retL C hk (Nat.le_refl _) dL_law_1432
def gL_40 (sn : Nat) (sc : Nat → Int) (i : Int) (K : Hp → RT) (G : Hp) : RT := br (rdC sn sc (iadd i 1)) fun v1 => bn (mg G (fX11_moves 0 v1 G)) fun v3 G2 => br (rdC sn sc (iadd i 1)) fun v4 => bn (mg G2 (fX12_moves 111 v4 G2)) fun v6 G5 => if v3 = v6 then K G5 else rz 0 G5
set_option maxRecDepth 20000 in
set_option maxHeartbeats 4000000 in
theorem uL_40 {cx : CX} {x : WX} {b sn : Nat} {sc : Nat → Int} {k : Nat} (C : LC cx x b sn sc) (hk1 : k + 1 ≤ 4000) (i : Int) (K : Hp → RT) (G : Hp) (hK : ∀ g, Y (cxk cx k) x 7 (some .boolean) 130 1676 [(0, vR 500), (1, vR 0), (2, vR 111), (3, vR 129), (4, vI i)] [] g (K g)) : Y (cxk cx k) x 7 (some .boolean) 130 1433 [(0, vR 500), (1, vR 0), (2, vR 111), (3, vR 129), (4, vI i)] [] G (gL_40 sn sc i K G) := by
  have hk : k ≤ 4000 := by omega
  have F := Fk C hk
  unfold gL_40
  refine x_aload_n F dL_law_1433 rfl rfl rfl ?_
  refine x_aload_n F dL_law_1434 rfl rfl rfl ?_
  refine x_iload F dL_law_1435 rfl rfl ?_
  refine x_iconst F dL_law_1437 ⟨by decide, by decide⟩ rfl ?_
  refine x_iadd F dL_law_1438 rfl ?_
  refine x_scrLd C hk dL_law_1439 rfl (fun v1 => ?_)
  refine x_callL C hk (as := [vI v1]) (S := []) lkL_193 mX11_moves rfl rfl (by decide) (tX11_moves cx.l x F.2.2.2.2.2.2.2.2.1 G 0 v1 rfl) (Nat.le_of_ble_eq_true rfl) (Nat.le_of_ble_eq_true rfl) dL_law_1440 rfl rfl (fun v3 G2 => ?_)
  refine x_aload_n F dL_law_1443 rfl rfl rfl ?_
  refine x_aload_n F dL_law_1444 rfl rfl rfl ?_
  refine x_iload F dL_law_1445 rfl rfl ?_
  refine x_iconst F dL_law_1447 ⟨by decide, by decide⟩ rfl ?_
  refine x_iadd F dL_law_1448 rfl ?_
  refine x_scrLd C hk dL_law_1449 rfl (fun v4 => ?_)
  refine x_callL C hk (as := [vI v4]) (S := [vI v3]) lkL_196 mX12_moves rfl rfl (by decide) (tX12_moves cx.l x F.2.2.2.2.2.2.2.2.1 G2 111 v4 rfl) (Nat.le_of_ble_eq_true rfl) (Nat.le_of_ble_eq_true rfl) dL_law_1450 rfl rfl (fun v6 G5 => ?_)
  refine x_icmpeq (pt := 1676) F dL_law_1453 rfl rfl ?_ ?_
  · exact hK G5
  · refine x_iconst F dL_law_1456 ⟨by decide, by decide⟩ rfl ?_
    exact x_retL C hk (Nat.le_refl _) dL_law_1457
def gL_41 (sn : Nat) (sc : Nat → Int) (i : Int) (K : Hp → RT) (G : Hp) : RT := br (rdC sn sc (iadd i 1)) fun v1 => br (rdC sn sc (iadd i 2)) fun v2 => br (rdC sn sc (iadd i 3)) fun v3 => jn (fun (v4 : Int) => bn (mg G (fX11_see 0 v1 v2 v4 G)) fun v7 G6 => br (rdC sn sc (iadd i 1)) fun v8 => br (rdC sn sc (iadd i 2)) fun v9 => br (rdC sn sc (iadd i 3)) fun v10 => jn (fun (v11 : Int) => bn (mg G6 (fX12_see 111 v8 v9 v11 G6)) fun v14 G13 => if v7 = v14 then K G13 else rz 0 G13) fun (K12 : Int → RT) => if v10 = 0 then K12 0 else K12 1) fun (K5 : Int → RT) => if v3 = 0 then K5 0 else K5 1
set_option maxRecDepth 20000 in
set_option maxHeartbeats 4000000 in
theorem uL_41 {cx : CX} {x : WX} {b sn : Nat} {sc : Nat → Int} {k : Nat} (C : LC cx x b sn sc) (hk1 : k + 1 ≤ 4000) (i : Int) (K : Hp → RT) (G : Hp) (hK : ∀ g, Y (cxk cx k) x 7 (some .boolean) 130 1676 [(0, vR 500), (1, vR 0), (2, vR 111), (3, vR 129), (4, vI i)] [] g (K g)) : Y (cxk cx k) x 7 (some .boolean) 130 1458 [(0, vR 500), (1, vR 0), (2, vR 111), (3, vR 129), (4, vI i)] [] G (gL_41 sn sc i K G) := by
  have hk : k ≤ 4000 := by omega
  have F := Fk C hk
  unfold gL_41
  refine x_aload_n F dL_law_1458 rfl rfl rfl ?_
  refine x_aload_n F dL_law_1459 rfl rfl rfl ?_
  refine x_iload F dL_law_1460 rfl rfl ?_
  refine x_iconst F dL_law_1462 ⟨by decide, by decide⟩ rfl ?_
  refine x_iadd F dL_law_1463 rfl ?_
  refine x_scrLd C hk dL_law_1464 rfl (fun v1 => ?_)
  refine x_aload_n F dL_law_1465 rfl rfl rfl ?_
  refine x_iload F dL_law_1466 rfl rfl ?_
  refine x_iconst F dL_law_1468 ⟨by decide, by decide⟩ rfl ?_
  refine x_iadd F dL_law_1469 rfl ?_
  refine x_scrLd C hk dL_law_1470 rfl (fun v2 => ?_)
  refine x_aload_n F dL_law_1471 rfl rfl rfl ?_
  refine x_iload F dL_law_1472 rfl rfl ?_
  refine x_iconst F dL_law_1474 ⟨by decide, by decide⟩ rfl ?_
  refine x_iadd F dL_law_1475 rfl ?_
  refine x_scrLd C hk dL_law_1476 rfl (fun v3 => ?_)
  refine x_jn (fun (K5 : Int → RT) => ∀ (v4 : Int), Y (cxk cx k) x 7 (some .boolean) 130 1485 [(0, vR 500), (1, vR 0), (2, vR 111), (3, vR 129), (4, vI i)] [vI v4, vI v2, vI v1, vR 0] G (K5 v4)) ?_ (fun K5 hK5 => ?_)
  · intro v4
    refine x_callL C hk (as := [vI v1, vI v2, vI v4]) (S := []) lkL_197 mX11_see rfl rfl (by decide) (tX11_see cx.l x F.2.2.2.2.2.2.2.2.1 G 0 v1 v2 v4 rfl) (Nat.le_of_ble_eq_true rfl) (Nat.le_of_ble_eq_true rfl) dL_law_1485 rfl rfl (fun v7 G6 => ?_)
    refine x_aload_n F dL_law_1488 rfl rfl rfl ?_
    refine x_aload_n F dL_law_1489 rfl rfl rfl ?_
    refine x_iload F dL_law_1490 rfl rfl ?_
    refine x_iconst F dL_law_1492 ⟨by decide, by decide⟩ rfl ?_
    refine x_iadd F dL_law_1493 rfl ?_
    refine x_scrLd C hk dL_law_1494 rfl (fun v8 => ?_)
    refine x_aload_n F dL_law_1495 rfl rfl rfl ?_
    refine x_iload F dL_law_1496 rfl rfl ?_
    refine x_iconst F dL_law_1498 ⟨by decide, by decide⟩ rfl ?_
    refine x_iadd F dL_law_1499 rfl ?_
    refine x_scrLd C hk dL_law_1500 rfl (fun v9 => ?_)
    refine x_aload_n F dL_law_1501 rfl rfl rfl ?_
    refine x_iload F dL_law_1502 rfl rfl ?_
    refine x_iconst F dL_law_1504 ⟨by decide, by decide⟩ rfl ?_
    refine x_iadd F dL_law_1505 rfl ?_
    refine x_scrLd C hk dL_law_1506 rfl (fun v10 => ?_)
    refine x_jn (fun (K12 : Int → RT) => ∀ (v11 : Int), Y (cxk cx k) x 7 (some .boolean) 130 1515 [(0, vR 500), (1, vR 0), (2, vR 111), (3, vR 129), (4, vI i)] [vI v11, vI v9, vI v8, vR 111, vI v7] G6 (K12 v11)) ?_ (fun K12 hK12 => ?_)
    · intro v11
      refine x_callL C hk (as := [vI v8, vI v9, vI v11]) (S := [vI v7]) lkL_201 mX12_see rfl rfl (by decide) (tX12_see cx.l x F.2.2.2.2.2.2.2.2.1 G6 111 v8 v9 v11 rfl) (Nat.le_of_ble_eq_true rfl) (Nat.le_of_ble_eq_true rfl) dL_law_1515 rfl rfl (fun v14 G13 => ?_)
      refine x_icmpeq (pt := 1676) F dL_law_1518 rfl rfl ?_ ?_
      · exact hK G13
      · refine x_iconst F dL_law_1521 ⟨by decide, by decide⟩ rfl ?_
        exact x_retL C hk (Nat.le_refl _) dL_law_1522
    · refine x_ifeq (pt := 1514) F dL_law_1507 rfl rfl ?_ ?_
      · refine x_iconst F dL_law_1514 ⟨by decide, by decide⟩ rfl ?_
        exact hK12 0
      · refine x_iconst F dL_law_1510 ⟨by decide, by decide⟩ rfl ?_
        refine x_goto (pc' := 1515) F dL_law_1511 rfl ?_
        exact hK12 1
  · refine x_ifeq (pt := 1484) F dL_law_1477 rfl rfl ?_ ?_
    · refine x_iconst F dL_law_1484 ⟨by decide, by decide⟩ rfl ?_
      exact hK5 0
    · refine x_iconst F dL_law_1480 ⟨by decide, by decide⟩ rfl ?_
      refine x_goto (pc' := 1485) F dL_law_1481 rfl ?_
      exact hK5 1
def gL_42 (sn : Nat) (sc : Nat → Int) (i : Int) (K : Hp → RT) (G : Hp) : RT := bn (mg G (fX11_who 0 G)) fun v2 G1 => bn (mg G1 (fX12_who 111 G1)) fun v4 G3 => if v2 = v4 then K G3 else rz 0 G3
set_option maxRecDepth 20000 in
set_option maxHeartbeats 4000000 in
theorem uL_42 {cx : CX} {x : WX} {b sn : Nat} {sc : Nat → Int} {k : Nat} (C : LC cx x b sn sc) (hk1 : k + 1 ≤ 4000) (i : Int) (K : Hp → RT) (G : Hp) (hK : ∀ g, Y (cxk cx k) x 7 (some .boolean) 130 1676 [(0, vR 500), (1, vR 0), (2, vR 111), (3, vR 129), (4, vI i)] [] g (K g)) : Y (cxk cx k) x 7 (some .boolean) 130 1523 [(0, vR 500), (1, vR 0), (2, vR 111), (3, vR 129), (4, vI i)] [] G (gL_42 sn sc i K G) := by
  have hk : k ≤ 4000 := by omega
  have F := Fk C hk
  unfold gL_42
  refine x_aload_n F dL_law_1523 rfl rfl rfl ?_
  refine x_callL C hk (as := []) (S := []) lkL_202 mX11_who rfl rfl (by decide) (tX11_who cx.l x F.2.2.2.2.2.2.2.2.1 G 0 rfl) (Nat.le_of_ble_eq_true rfl) (Nat.le_of_ble_eq_true rfl) dL_law_1524 rfl rfl (fun v2 G1 => ?_)
  refine x_aload_n F dL_law_1527 rfl rfl rfl ?_
  refine x_callL C hk (as := []) (S := [vI v2]) lkL_205 mX12_who rfl rfl (by decide) (tX12_who cx.l x F.2.2.2.2.2.2.2.2.1 G1 111 rfl) (Nat.le_of_ble_eq_true rfl) (Nat.le_of_ble_eq_true rfl) dL_law_1528 rfl rfl (fun v4 G3 => ?_)
  refine x_icmpeq (pt := 1676) F dL_law_1531 rfl rfl ?_ ?_
  · exact hK G3
  · refine x_iconst F dL_law_1534 ⟨by decide, by decide⟩ rfl ?_
    exact x_retL C hk (Nat.le_refl _) dL_law_1535
def gL_43 (sn : Nat) (sc : Nat → Int) (i : Int) (K : Hp → RT) (G : Hp) : RT := bn (mg G (fX11_ask 0 G)) fun v2 G1 => bn (mg G1 (fX12_ask 111 G1)) fun v4 G3 => if v2 = v4 then K G3 else rz 0 G3
set_option maxRecDepth 20000 in
set_option maxHeartbeats 4000000 in
theorem uL_43 {cx : CX} {x : WX} {b sn : Nat} {sc : Nat → Int} {k : Nat} (C : LC cx x b sn sc) (hk1 : k + 1 ≤ 4000) (i : Int) (K : Hp → RT) (G : Hp) (hK : ∀ g, Y (cxk cx k) x 7 (some .boolean) 130 1676 [(0, vR 500), (1, vR 0), (2, vR 111), (3, vR 129), (4, vI i)] [] g (K g)) : Y (cxk cx k) x 7 (some .boolean) 130 1536 [(0, vR 500), (1, vR 0), (2, vR 111), (3, vR 129), (4, vI i)] [] G (gL_43 sn sc i K G) := by
  have hk : k ≤ 4000 := by omega
  have F := Fk C hk
  unfold gL_43
  refine x_aload_n F dL_law_1536 rfl rfl rfl ?_
  refine x_callL C hk (as := []) (S := []) lkL_206 mX11_ask rfl rfl (by decide) (tX11_ask cx.l x F.2.2.2.2.2.2.2.2.1 G 0 rfl) (Nat.le_of_ble_eq_true rfl) (Nat.le_of_ble_eq_true rfl) dL_law_1537 rfl rfl (fun v2 G1 => ?_)
  refine x_aload_n F dL_law_1540 rfl rfl rfl ?_
  refine x_callL C hk (as := []) (S := [vI v2]) lkL_209 mX12_ask rfl rfl (by decide) (tX12_ask cx.l x F.2.2.2.2.2.2.2.2.1 G1 111 rfl) (Nat.le_of_ble_eq_true rfl) (Nat.le_of_ble_eq_true rfl) dL_law_1541 rfl rfl (fun v4 G3 => ?_)
  refine x_icmpeq (pt := 1676) F dL_law_1544 rfl rfl ?_ ?_
  · exact hK G3
  · refine x_iconst F dL_law_1547 ⟨by decide, by decide⟩ rfl ?_
    exact x_retL C hk (Nat.le_refl _) dL_law_1548
def gL_44 (sn : Nat) (sc : Nat → Int) (i : Int) (K : Hp → RT) (G : Hp) : RT := br (rdC sn sc (iadd i 1)) fun v1 => br (rdC sn sc (iadd i 2)) fun v2 => br (rdC sn sc (iadd i 3)) fun v3 => bn (mg G (fX11_drives 0 v1 v2 v3 G)) fun v5 G4 => br (rdC sn sc (iadd i 1)) fun v6 => br (rdC sn sc (iadd i 2)) fun v7 => br (rdC sn sc (iadd i 3)) fun v8 => bn (mg G4 (fX12_drives 111 v6 v7 v8 G4)) fun v10 G9 => if v5 = v10 then K G9 else rz 0 G9
set_option maxRecDepth 20000 in
set_option maxHeartbeats 4000000 in
theorem uL_44 {cx : CX} {x : WX} {b sn : Nat} {sc : Nat → Int} {k : Nat} (C : LC cx x b sn sc) (hk1 : k + 1 ≤ 4000) (i : Int) (K : Hp → RT) (G : Hp) (hK : ∀ g, Y (cxk cx k) x 7 (some .boolean) 130 1676 [(0, vR 500), (1, vR 0), (2, vR 111), (3, vR 129), (4, vI i)] [] g (K g)) : Y (cxk cx k) x 7 (some .boolean) 130 1549 [(0, vR 500), (1, vR 0), (2, vR 111), (3, vR 129), (4, vI i)] [] G (gL_44 sn sc i K G) := by
  have hk : k ≤ 4000 := by omega
  have F := Fk C hk
  unfold gL_44
  refine x_aload_n F dL_law_1549 rfl rfl rfl ?_
  refine x_aload_n F dL_law_1550 rfl rfl rfl ?_
  refine x_iload F dL_law_1551 rfl rfl ?_
  refine x_iconst F dL_law_1553 ⟨by decide, by decide⟩ rfl ?_
  refine x_iadd F dL_law_1554 rfl ?_
  refine x_scrLd C hk dL_law_1555 rfl (fun v1 => ?_)
  refine x_aload_n F dL_law_1556 rfl rfl rfl ?_
  refine x_iload F dL_law_1557 rfl rfl ?_
  refine x_iconst F dL_law_1559 ⟨by decide, by decide⟩ rfl ?_
  refine x_iadd F dL_law_1560 rfl ?_
  refine x_scrLd C hk dL_law_1561 rfl (fun v2 => ?_)
  refine x_aload_n F dL_law_1562 rfl rfl rfl ?_
  refine x_iload F dL_law_1563 rfl rfl ?_
  refine x_iconst F dL_law_1565 ⟨by decide, by decide⟩ rfl ?_
  refine x_iadd F dL_law_1566 rfl ?_
  refine x_scrLd C hk dL_law_1567 rfl (fun v3 => ?_)
  refine x_callL C hk (as := [vI v1, vI v2, vI v3]) (S := []) lkL_210 mX11_drives rfl rfl (by decide) (tX11_drives cx.l x F.2.2.2.2.2.2.2.2.1 G 0 v1 v2 v3 rfl) (Nat.le_of_ble_eq_true rfl) (Nat.le_of_ble_eq_true rfl) dL_law_1568 rfl rfl (fun v5 G4 => ?_)
  refine x_aload_n F dL_law_1571 rfl rfl rfl ?_
  refine x_aload_n F dL_law_1572 rfl rfl rfl ?_
  refine x_iload F dL_law_1573 rfl rfl ?_
  refine x_iconst F dL_law_1575 ⟨by decide, by decide⟩ rfl ?_
  refine x_iadd F dL_law_1576 rfl ?_
  refine x_scrLd C hk dL_law_1577 rfl (fun v6 => ?_)
  refine x_aload_n F dL_law_1578 rfl rfl rfl ?_
  refine x_iload F dL_law_1579 rfl rfl ?_
  refine x_iconst F dL_law_1581 ⟨by decide, by decide⟩ rfl ?_
  refine x_iadd F dL_law_1582 rfl ?_
  refine x_scrLd C hk dL_law_1583 rfl (fun v7 => ?_)
  refine x_aload_n F dL_law_1584 rfl rfl rfl ?_
  refine x_iload F dL_law_1585 rfl rfl ?_
  refine x_iconst F dL_law_1587 ⟨by decide, by decide⟩ rfl ?_
  refine x_iadd F dL_law_1588 rfl ?_
  refine x_scrLd C hk dL_law_1589 rfl (fun v8 => ?_)
  refine x_callL C hk (as := [vI v6, vI v7, vI v8]) (S := [vI v5]) lkL_213 mX12_drives rfl rfl (by decide) (tX12_drives cx.l x F.2.2.2.2.2.2.2.2.1 G4 111 v6 v7 v8 rfl) (Nat.le_of_ble_eq_true rfl) (Nat.le_of_ble_eq_true rfl) dL_law_1590 rfl rfl (fun v10 G9 => ?_)
  refine x_icmpeq (pt := 1676) F dL_law_1593 rfl rfl ?_ ?_
  · exact hK G9
  · refine x_iconst F dL_law_1596 ⟨by decide, by decide⟩ rfl ?_
    exact x_retL C hk (Nat.le_refl _) dL_law_1597
def gL_45 (sn : Nat) (sc : Nat → Int) (i : Int) (K : Hp → RT) (G : Hp) : RT := br (rdC sn sc (iadd i 1)) fun v1 => br (rdC sn sc (iadd i 2)) fun v2 => jn (fun (v3 : Int) => bn (mg G (fX11_mark 0 v1 v3 G)) fun v6 G5 => br (rdC sn sc (iadd i 1)) fun v7 => br (rdC sn sc (iadd i 2)) fun v8 => jn (fun (v9 : Int) => bn (mg G5 (fX12_mark 111 v7 v9 G5)) fun v12 G11 => if v6 = v12 then K G11 else rz 0 G11) fun (K10 : Int → RT) => if v8 = 0 then K10 0 else K10 1) fun (K4 : Int → RT) => if v2 = 0 then K4 0 else K4 1
set_option maxRecDepth 20000 in
set_option maxHeartbeats 4000000 in
theorem uL_45 {cx : CX} {x : WX} {b sn : Nat} {sc : Nat → Int} {k : Nat} (C : LC cx x b sn sc) (hk1 : k + 1 ≤ 4000) (i : Int) (K : Hp → RT) (G : Hp) (hK : ∀ g, Y (cxk cx k) x 7 (some .boolean) 130 1676 [(0, vR 500), (1, vR 0), (2, vR 111), (3, vR 129), (4, vI i)] [] g (K g)) : Y (cxk cx k) x 7 (some .boolean) 130 1598 [(0, vR 500), (1, vR 0), (2, vR 111), (3, vR 129), (4, vI i)] [] G (gL_45 sn sc i K G) := by
  have hk : k ≤ 4000 := by omega
  have F := Fk C hk
  unfold gL_45
  refine x_aload_n F dL_law_1598 rfl rfl rfl ?_
  refine x_aload_n F dL_law_1599 rfl rfl rfl ?_
  refine x_iload F dL_law_1600 rfl rfl ?_
  refine x_iconst F dL_law_1602 ⟨by decide, by decide⟩ rfl ?_
  refine x_iadd F dL_law_1603 rfl ?_
  refine x_scrLd C hk dL_law_1604 rfl (fun v1 => ?_)
  refine x_aload_n F dL_law_1605 rfl rfl rfl ?_
  refine x_iload F dL_law_1606 rfl rfl ?_
  refine x_iconst F dL_law_1608 ⟨by decide, by decide⟩ rfl ?_
  refine x_iadd F dL_law_1609 rfl ?_
  refine x_scrLd C hk dL_law_1610 rfl (fun v2 => ?_)
  refine x_jn (fun (K4 : Int → RT) => ∀ (v3 : Int), Y (cxk cx k) x 7 (some .boolean) 130 1619 [(0, vR 500), (1, vR 0), (2, vR 111), (3, vR 129), (4, vI i)] [vI v3, vI v1, vR 0] G (K4 v3)) ?_ (fun K4 hK4 => ?_)
  · intro v3
    refine x_callL C hk (as := [vI v1, vI v3]) (S := []) lkL_214 mX11_mark rfl rfl (by decide) (tX11_mark cx.l x F.2.2.2.2.2.2.2.2.1 G 0 v1 v3 rfl) (Nat.le_of_ble_eq_true rfl) (Nat.le_of_ble_eq_true rfl) dL_law_1619 rfl rfl (fun v6 G5 => ?_)
    refine x_aload_n F dL_law_1622 rfl rfl rfl ?_
    refine x_aload_n F dL_law_1623 rfl rfl rfl ?_
    refine x_iload F dL_law_1624 rfl rfl ?_
    refine x_iconst F dL_law_1626 ⟨by decide, by decide⟩ rfl ?_
    refine x_iadd F dL_law_1627 rfl ?_
    refine x_scrLd C hk dL_law_1628 rfl (fun v7 => ?_)
    refine x_aload_n F dL_law_1629 rfl rfl rfl ?_
    refine x_iload F dL_law_1630 rfl rfl ?_
    refine x_iconst F dL_law_1632 ⟨by decide, by decide⟩ rfl ?_
    refine x_iadd F dL_law_1633 rfl ?_
    refine x_scrLd C hk dL_law_1634 rfl (fun v8 => ?_)
    refine x_jn (fun (K10 : Int → RT) => ∀ (v9 : Int), Y (cxk cx k) x 7 (some .boolean) 130 1643 [(0, vR 500), (1, vR 0), (2, vR 111), (3, vR 129), (4, vI i)] [vI v9, vI v7, vR 111, vI v6] G5 (K10 v9)) ?_ (fun K10 hK10 => ?_)
    · intro v9
      refine x_callL C hk (as := [vI v7, vI v9]) (S := [vI v6]) lkL_218 mX12_mark rfl rfl (by decide) (tX12_mark cx.l x F.2.2.2.2.2.2.2.2.1 G5 111 v7 v9 rfl) (Nat.le_of_ble_eq_true rfl) (Nat.le_of_ble_eq_true rfl) dL_law_1643 rfl rfl (fun v12 G11 => ?_)
      refine x_icmpeq (pt := 1676) F dL_law_1646 rfl rfl ?_ ?_
      · exact hK G11
      · refine x_iconst F dL_law_1649 ⟨by decide, by decide⟩ rfl ?_
        exact x_retL C hk (Nat.le_refl _) dL_law_1650
    · refine x_ifeq (pt := 1642) F dL_law_1635 rfl rfl ?_ ?_
      · refine x_iconst F dL_law_1642 ⟨by decide, by decide⟩ rfl ?_
        exact hK10 0
      · refine x_iconst F dL_law_1638 ⟨by decide, by decide⟩ rfl ?_
        refine x_goto (pc' := 1643) F dL_law_1639 rfl ?_
        exact hK10 1
  · refine x_ifeq (pt := 1618) F dL_law_1611 rfl rfl ?_ ?_
    · refine x_iconst F dL_law_1618 ⟨by decide, by decide⟩ rfl ?_
      exact hK4 0
    · refine x_iconst F dL_law_1614 ⟨by decide, by decide⟩ rfl ?_
      refine x_goto (pc' := 1619) F dL_law_1615 rfl ?_
      exact hK4 1
def gL_46 (sn : Nat) (sc : Nat → Int) (i : Int) (K : Hp → RT) (G : Hp) : RT := br (rdC sn sc (iadd i 1)) fun v1 => bn (mg G (fX11_count 0 v1 G)) fun v3 G2 => br (rdC sn sc (iadd i 1)) fun v4 => bn (mg G2 (fX12_count 111 v4 G2)) fun v6 G5 => if v3 = v6 then K G5 else rz 0 G5
set_option maxRecDepth 20000 in
set_option maxHeartbeats 4000000 in
theorem uL_46 {cx : CX} {x : WX} {b sn : Nat} {sc : Nat → Int} {k : Nat} (C : LC cx x b sn sc) (hk1 : k + 1 ≤ 4000) (i : Int) (K : Hp → RT) (G : Hp) (hK : ∀ g, Y (cxk cx k) x 7 (some .boolean) 130 1676 [(0, vR 500), (1, vR 0), (2, vR 111), (3, vR 129), (4, vI i)] [] g (K g)) : Y (cxk cx k) x 7 (some .boolean) 130 1651 [(0, vR 500), (1, vR 0), (2, vR 111), (3, vR 129), (4, vI i)] [] G (gL_46 sn sc i K G) := by
  have hk : k ≤ 4000 := by omega
  have F := Fk C hk
  unfold gL_46
  refine x_aload_n F dL_law_1651 rfl rfl rfl ?_
  refine x_aload_n F dL_law_1652 rfl rfl rfl ?_
  refine x_iload F dL_law_1653 rfl rfl ?_
  refine x_iconst F dL_law_1655 ⟨by decide, by decide⟩ rfl ?_
  refine x_iadd F dL_law_1656 rfl ?_
  refine x_scrLd C hk dL_law_1657 rfl (fun v1 => ?_)
  refine x_callL C hk (as := [vI v1]) (S := []) lkL_219 mX11_count rfl rfl (by decide) (tX11_count cx.l x F.2.2.2.2.2.2.2.2.1 G 0 v1 rfl) (Nat.le_of_ble_eq_true rfl) (Nat.le_of_ble_eq_true rfl) dL_law_1658 rfl rfl (fun v3 G2 => ?_)
  refine x_aload_n F dL_law_1661 rfl rfl rfl ?_
  refine x_aload_n F dL_law_1662 rfl rfl rfl ?_
  refine x_iload F dL_law_1663 rfl rfl ?_
  refine x_iconst F dL_law_1665 ⟨by decide, by decide⟩ rfl ?_
  refine x_iadd F dL_law_1666 rfl ?_
  refine x_scrLd C hk dL_law_1667 rfl (fun v4 => ?_)
  refine x_callL C hk (as := [vI v4]) (S := [vI v3]) lkL_222 mX12_count rfl rfl (by decide) (tX12_count cx.l x F.2.2.2.2.2.2.2.2.1 G2 111 v4 rfl) (Nat.le_of_ble_eq_true rfl) (Nat.le_of_ble_eq_true rfl) dL_law_1668 rfl rfl (fun v6 G5 => ?_)
  refine x_icmpeq (pt := 1676) F dL_law_1671 rfl rfl ?_ ?_
  · exact hK G5
  · refine x_iconst F dL_law_1674 ⟨by decide, by decide⟩ rfl ?_
    exact x_retL C hk (Nat.le_refl _) dL_law_1675
