section LAWCASES
theorem gvL_15 : GoodIn gT (wsV RL 15 "NylonLadder" yX11_feed (Cond.code yX11_feed cX11_feed 5 (some .int) :: gT)) := good_V T_2_27 T_2_28 T_2_29 T_1_1 T_2_30
theorem hdL_15 : yX11_feed.cls ≠ "java/lang/invoke/MethodHandle" ∧ yX11_feed.cls ≠ "java/lang/invoke/VarHandle" ∧ (parseMethodDescriptor yX11_feed.desc).map (fun d => d.parameters.length) = some 2 := by decide +kernel
theorem gvL_19 : GoodIn gT (wsV RL 19 "NylonLadderModel" yX12_feed (Cond.code yX12_feed cX12_feed 5 (some .int) :: gT)) := good_V T_8_9 T_8_10 T_8_11 T_1_10 T_8_12
theorem hdL_19 : yX12_feed.cls ≠ "java/lang/invoke/MethodHandle" ∧ yX12_feed.cls ≠ "java/lang/invoke/VarHandle" ∧ (parseMethodDescriptor yX12_feed.desc).map (fun d => d.parameters.length) = some 2 := by decide +kernel
theorem dL_256 : decode code 256 = .ok (.aload_n 1, 1) := by decide +kernel
theorem dL_257 : decode code 257 = .ok (.aload_n 0, 1) := by decide +kernel
theorem dL_258 : decode code 258 = .ok (.iload_n 3, 1) := by decide +kernel
theorem dL_259 : decode code 259 = .ok (.iconst 1, 1) := by decide +kernel
theorem dL_260 : decode code 260 = .ok (.iadd, 1) := by decide +kernel
theorem dL_261 : decode code 261 = .ok (.iaload, 1) := by decide +kernel
theorem dL_262 : decode code 262 = .ok (.i2l, 1) := by decide +kernel
theorem dL_263 : decode code 263 = .ok (.bipush 32, 2) := by decide +kernel
theorem dL_265 : decode code 265 = .ok (.lshl, 1) := by decide +kernel
theorem dL_266 : decode code 266 = .ok (.aload_n 0, 1) := by decide +kernel
theorem dL_267 : decode code 267 = .ok (.iload_n 3, 1) := by decide +kernel
theorem dL_268 : decode code 268 = .ok (.iconst 2, 1) := by decide +kernel
theorem dL_269 : decode code 269 = .ok (.iadd, 1) := by decide +kernel
theorem dL_270 : decode code 270 = .ok (.iaload, 1) := by decide +kernel
theorem dL_271 : decode code 271 = .ok (.i2l, 1) := by decide +kernel
theorem dL_272 : decode code 272 = .ok (.ldc2_w 13, 3) := by decide +kernel
theorem dL_275 : decode code 275 = .ok (.land, 1) := by decide +kernel
theorem dL_276 : decode code 276 = .ok (.lor, 1) := by decide +kernel
theorem dL_277 : decode code 277 = .ok (.aload_n 0, 1) := by decide +kernel
theorem dL_278 : decode code 278 = .ok (.iload_n 3, 1) := by decide +kernel
theorem dL_279 : decode code 279 = .ok (.iconst 3, 1) := by decide +kernel
theorem dL_280 : decode code 280 = .ok (.iadd, 1) := by decide +kernel
theorem dL_281 : decode code 281 = .ok (.iaload, 1) := by decide +kernel
theorem dL_282 : decode code 282 = .ok (.invokevirtual 15, 3) := by decide +kernel
theorem dL_285 : decode code 285 = .ok (.aload_n 2, 1) := by decide +kernel
theorem dL_286 : decode code 286 = .ok (.aload_n 0, 1) := by decide +kernel
theorem dL_287 : decode code 287 = .ok (.iload_n 3, 1) := by decide +kernel
theorem dL_288 : decode code 288 = .ok (.iconst 1, 1) := by decide +kernel
theorem dL_289 : decode code 289 = .ok (.iadd, 1) := by decide +kernel
theorem dL_290 : decode code 290 = .ok (.iaload, 1) := by decide +kernel
theorem dL_291 : decode code 291 = .ok (.i2l, 1) := by decide +kernel
theorem dL_292 : decode code 292 = .ok (.bipush 32, 2) := by decide +kernel
theorem dL_294 : decode code 294 = .ok (.lshl, 1) := by decide +kernel
theorem dL_295 : decode code 295 = .ok (.aload_n 0, 1) := by decide +kernel
theorem dL_296 : decode code 296 = .ok (.iload_n 3, 1) := by decide +kernel
theorem dL_297 : decode code 297 = .ok (.iconst 2, 1) := by decide +kernel
theorem dL_298 : decode code 298 = .ok (.iadd, 1) := by decide +kernel
theorem dL_299 : decode code 299 = .ok (.iaload, 1) := by decide +kernel
theorem dL_300 : decode code 300 = .ok (.i2l, 1) := by decide +kernel
theorem dL_301 : decode code 301 = .ok (.ldc2_w 13, 3) := by decide +kernel
theorem dL_304 : decode code 304 = .ok (.land, 1) := by decide +kernel
theorem dL_305 : decode code 305 = .ok (.lor, 1) := by decide +kernel
theorem dL_306 : decode code 306 = .ok (.aload_n 0, 1) := by decide +kernel
theorem dL_307 : decode code 307 = .ok (.iload_n 3, 1) := by decide +kernel
theorem dL_308 : decode code 308 = .ok (.iconst 3, 1) := by decide +kernel
theorem dL_309 : decode code 309 = .ok (.iadd, 1) := by decide +kernel
theorem dL_310 : decode code 310 = .ok (.iaload, 1) := by decide +kernel
theorem dL_311 : decode code 311 = .ok (.invokevirtual 19, 3) := by decide +kernel
theorem dL_314 : decode code 314 = .ok (.if_icmp .eq 1639, 3) := by decide +kernel
set_option maxRecDepth 100000 in
set_option maxHeartbeats 4000000 in
theorem lc_0 {E : Ev} {p : Program} {l : Launch} {e : Env} {s : State} {m : MethodId} {below : List Frame} {meth : Method} {c : Code} {b L : Nat} {xs : Nat → Int32} {H : Heap} {locs : List Loc} {cells slots : Nat} {Q : State → Prop} {M : Mm} {ls : Array Slot} (Z : LwS E p s m meth c b L xs) (hW : Wx E s H locs M) (hi : Inv M) (L9 : L ≤ 2560) {i : Nat} (hl : lv_has ls 4 (LwL E b i)) (i4 : i + 4 < L) (hc : cells + 15 ≤ 600000) (hs : slots + 200 ≤ 7302250) (kk : ∀ (H : Heap) (locs : List Loc) (M : Mm), Wx E s H locs M → Inv M → W p l e room_1 s m #[Value.ref b] below meth c H locs (cells + 15) (slots + 200) Q (F0 m 1953 ls [])) : W p l e room_1 s m #[Value.ref b] below meth c H locs cells slots Q (F0 m 256 ls []) := by
  have C := Z.1
  obtain ⟨fv, efv⟩ : ∃ v : Int64, v = (slL (xs (i + 1)).toInt64 32) ||| ((xs (i + 2)).toInt64 &&& 4294967295) := ⟨_, rfl⟩
  obtain ⟨r, M1, M2, h1, h2, k1, v2⟩ := iv_feed hi fv (xs (i + 3))
  refine lv_aload_n C.x C.b dL_256 rfl (lv_at hl 1 rfl) ?_
  refine la_arg (j := 1) Z hW L9 hl (by omega) rfl dL_257 dL_258 dL_259 dL_260 dL_261 ?_
  refine lv_i2l (v := (xs (i + 1)).toInt64) C.x C.b dL_262 rfl ?_
  refine lv_bipush (v := 32) C.x C.b dL_263 (by decide) ?_
  refine lv_lshl (v := slL (xs (i + 1)).toInt64 32) C.x C.b dL_265 rfl ?_
  refine la_arg (j := 2) Z hW L9 hl (by omega) rfl dL_266 dL_267 dL_268 dL_269 dL_270 ?_
  refine lv_i2l (v := (xs (i + 2)).toInt64) C.x C.b dL_271 rfl ?_
  refine x_ldc2 (v := 4294967295) C T_8_236 dL_272 ?_
  refine lv_land C.x C.b dL_275 ?_
  refine lv_lor C.x C.b dL_276 ?_
  rw [← efv]
  refine la_arg (j := 3) Z hW L9 hl (by omega) rfl dL_277 dL_278 dL_279 dL_280 dL_281 ?_
  refine x_callV (As := [.long fv, .int (xs (i + 3))]) (a := 0) (rest := []) C hW hl (qX11_feed l E h1) hi.k0 (by decide) (by decide) rfl gvL_15 ⟨rfl, hdL_15⟩ rfl rfl (Nat.le_of_ble_eq_true rfl) dL_282 ⟨Nat.le_of_ble_eq_true rfl, Nat.le_of_ble_eq_true rfl⟩ ⟨by show cells + _ ≤ 600000; omega, by show slots + _ ≤ 7302250; omega⟩ (fun H locs hW => ?_)
  refine lv_aload_n C.x C.b dL_285 rfl (lv_at hl 2 rfl) ?_
  refine la_arg (j := 1) Z hW L9 hl (by omega) rfl dL_286 dL_287 dL_288 dL_289 dL_290 ?_
  refine lv_i2l (v := (xs (i + 1)).toInt64) C.x C.b dL_291 rfl ?_
  refine lv_bipush (v := 32) C.x C.b dL_292 (by decide) ?_
  refine lv_lshl (v := slL (xs (i + 1)).toInt64 32) C.x C.b dL_294 rfl ?_
  refine la_arg (j := 2) Z hW L9 hl (by omega) rfl dL_295 dL_296 dL_297 dL_298 dL_299 ?_
  refine lv_i2l (v := (xs (i + 2)).toInt64) C.x C.b dL_300 rfl ?_
  refine x_ldc2 (v := 4294967295) C T_8_236 dL_301 ?_
  refine lv_land C.x C.b dL_304 ?_
  refine lv_lor C.x C.b dL_305 ?_
  rw [← efv]
  refine la_arg (j := 3) Z hW L9 hl (by omega) rfl dL_306 dL_307 dL_308 dL_309 dL_310 ?_
  refine x_callV (As := [.long fv, .int (xs (i + 3))]) (a := 164) (rest := [.int r]) C hW hl (qX12_feed l E h2) k1 (by decide) (by decide) rfl gvL_19 ⟨rfl, hdL_19⟩ rfl rfl (Nat.le_of_ble_eq_true rfl) dL_311 ⟨Nat.le_of_ble_eq_true rfl, Nat.le_of_ble_eq_true rfl⟩ ⟨by show cells + _ + _ ≤ 600000; omega, by show slots + _ + _ ≤ 7302250; omega⟩ (fun H locs hW => ?_)
  refine lv_icmp_eq (tgt := 1953) C.x C.b dL_314 rfl (fun _ => ?_) (fun c_ => absurd rfl c_)
  refine W.widen (k := cells + 15) (n := slots + 200) (by omega) (by omega) ?_
  exact kk _ _ _ hW v2
theorem gvL_20 : GoodIn gT (wsV RL 20 "NylonLadder" yX11_drawer (Cond.code yX11_drawer cX11_drawer 2 (some .int) :: gT)) := good_V T_2_38 T_2_39 T_2_40 T_1_1 T_2_41
theorem hdL_20 : yX11_drawer.cls ≠ "java/lang/invoke/MethodHandle" ∧ yX11_drawer.cls ≠ "java/lang/invoke/VarHandle" ∧ (parseMethodDescriptor yX11_drawer.desc).map (fun d => d.parameters.length) = some 0 := by decide +kernel
theorem gvL_24 : GoodIn gT (wsV RL 24 "NylonLadderModel" yX12_drawer (Cond.code yX12_drawer cX12_drawer 1 (some .int) :: gT)) := good_V T_8_15 T_8_16 T_8_17 T_1_10 T_8_18
theorem hdL_24 : yX12_drawer.cls ≠ "java/lang/invoke/MethodHandle" ∧ yX12_drawer.cls ≠ "java/lang/invoke/VarHandle" ∧ (parseMethodDescriptor yX12_drawer.desc).map (fun d => d.parameters.length) = some 0 := by decide +kernel
theorem dL_319 : decode code 319 = .ok (.aload_n 1, 1) := by decide +kernel
theorem dL_320 : decode code 320 = .ok (.invokevirtual 20, 3) := by decide +kernel
theorem dL_323 : decode code 323 = .ok (.aload_n 2, 1) := by decide +kernel
theorem dL_324 : decode code 324 = .ok (.invokevirtual 24, 3) := by decide +kernel
theorem dL_327 : decode code 327 = .ok (.if_icmp .eq 1626, 3) := by decide +kernel
set_option maxRecDepth 100000 in
set_option maxHeartbeats 4000000 in
theorem lc_1 {E : Ev} {p : Program} {l : Launch} {e : Env} {s : State} {m : MethodId} {below : List Frame} {meth : Method} {c : Code} {b L : Nat} {xs : Nat → Int32} {H : Heap} {locs : List Loc} {cells slots : Nat} {Q : State → Prop} {M : Mm} {ls : Array Slot} (Z : LwS E p s m meth c b L xs) (hW : Wx E s H locs M) (hi : Inv M) (L9 : L ≤ 2560) {i : Nat} (hl : lv_has ls 4 (LwL E b i)) (i4 : i + 4 < L) (hc : cells + 15 ≤ 600000) (hs : slots + 200 ≤ 7302250) (kk : ∀ (H : Heap) (locs : List Loc) (M : Mm), Wx E s H locs M → Inv M → W p l e room_1 s m #[Value.ref b] below meth c H locs (cells + 15) (slots + 200) Q (F0 m 1953 ls [])) : W p l e room_1 s m #[Value.ref b] below meth c H locs cells slots Q (F0 m 319 ls []) := by
  have C := Z.1
  obtain ⟨r, M1, M2, h1, h2, k1, v2⟩ := iv_drawer hi 
  refine lv_aload_n C.x C.b dL_319 rfl (lv_at hl 1 rfl) ?_
  refine x_callV (As := []) (a := 0) (rest := []) C hW hl (qX11_drawer l E h1) hi.k0 (by decide) (by decide) rfl gvL_20 ⟨rfl, hdL_20⟩ rfl rfl (Nat.le_of_ble_eq_true rfl) dL_320 ⟨Nat.le_of_ble_eq_true rfl, Nat.le_of_ble_eq_true rfl⟩ ⟨by show cells + _ ≤ 600000; omega, by show slots + _ ≤ 7302250; omega⟩ (fun H locs hW => ?_)
  refine lv_aload_n C.x C.b dL_323 rfl (lv_at hl 2 rfl) ?_
  refine x_callV (As := []) (a := 164) (rest := [.int r]) C hW hl (qX12_drawer l E h2) k1 (by decide) (by decide) rfl gvL_24 ⟨rfl, hdL_24⟩ rfl rfl (Nat.le_of_ble_eq_true rfl) dL_324 ⟨Nat.le_of_ble_eq_true rfl, Nat.le_of_ble_eq_true rfl⟩ ⟨by show cells + _ + _ ≤ 600000; omega, by show slots + _ + _ ≤ 7302250; omega⟩ (fun H locs hW => ?_)
  refine lv_icmp_eq (tgt := 1953) C.x C.b dL_327 rfl (fun _ => ?_) (fun c_ => absurd rfl c_)
  refine W.widen (k := cells + 15) (n := slots + 200) (by omega) (by omega) ?_
  exact kk _ _ _ hW v2
theorem gvL_25 : GoodIn gT (wsV RL 25 "NylonLadder" yX11_set (Cond.code yX11_set cX11_set 4 (some .int) :: gT)) := good_V T_3_1 T_3_2 T_3_3 T_1_1 T_3_4
theorem hdL_25 : yX11_set.cls ≠ "java/lang/invoke/MethodHandle" ∧ yX11_set.cls ≠ "java/lang/invoke/VarHandle" ∧ (parseMethodDescriptor yX11_set.desc).map (fun d => d.parameters.length) = some 2 := by decide +kernel
theorem gvL_29 : GoodIn gT (wsV RL 29 "NylonLadderModel" yX12_set (Cond.code yX12_set cX12_set 4 (some .int) :: gT)) := good_V T_6_125 T_6_126 T_6_127 T_1_10 T_6_128
theorem hdL_29 : yX12_set.cls ≠ "java/lang/invoke/MethodHandle" ∧ yX12_set.cls ≠ "java/lang/invoke/VarHandle" ∧ (parseMethodDescriptor yX12_set.desc).map (fun d => d.parameters.length) = some 2 := by decide +kernel
theorem dL_332 : decode code 332 = .ok (.aload_n 1, 1) := by decide +kernel
theorem dL_333 : decode code 333 = .ok (.aload_n 0, 1) := by decide +kernel
theorem dL_334 : decode code 334 = .ok (.iload_n 3, 1) := by decide +kernel
theorem dL_335 : decode code 335 = .ok (.iconst 1, 1) := by decide +kernel
theorem dL_336 : decode code 336 = .ok (.iadd, 1) := by decide +kernel
theorem dL_337 : decode code 337 = .ok (.iaload, 1) := by decide +kernel
theorem dL_338 : decode code 338 = .ok (.aload_n 0, 1) := by decide +kernel
theorem dL_339 : decode code 339 = .ok (.iload_n 3, 1) := by decide +kernel
theorem dL_340 : decode code 340 = .ok (.iconst 2, 1) := by decide +kernel
theorem dL_341 : decode code 341 = .ok (.iadd, 1) := by decide +kernel
theorem dL_342 : decode code 342 = .ok (.iaload, 1) := by decide +kernel
theorem dL_343 : decode code 343 = .ok (.invokevirtual 25, 3) := by decide +kernel
theorem dL_346 : decode code 346 = .ok (.aload_n 2, 1) := by decide +kernel
theorem dL_347 : decode code 347 = .ok (.aload_n 0, 1) := by decide +kernel
theorem dL_348 : decode code 348 = .ok (.iload_n 3, 1) := by decide +kernel
theorem dL_349 : decode code 349 = .ok (.iconst 1, 1) := by decide +kernel
theorem dL_350 : decode code 350 = .ok (.iadd, 1) := by decide +kernel
theorem dL_351 : decode code 351 = .ok (.iaload, 1) := by decide +kernel
theorem dL_352 : decode code 352 = .ok (.aload_n 0, 1) := by decide +kernel
theorem dL_353 : decode code 353 = .ok (.iload_n 3, 1) := by decide +kernel
theorem dL_354 : decode code 354 = .ok (.iconst 2, 1) := by decide +kernel
theorem dL_355 : decode code 355 = .ok (.iadd, 1) := by decide +kernel
theorem dL_356 : decode code 356 = .ok (.iaload, 1) := by decide +kernel
theorem dL_357 : decode code 357 = .ok (.invokevirtual 29, 3) := by decide +kernel
theorem dL_360 : decode code 360 = .ok (.if_icmp .eq 1593, 3) := by decide +kernel
set_option maxRecDepth 100000 in
set_option maxHeartbeats 4000000 in
theorem lc_2 {E : Ev} {p : Program} {l : Launch} {e : Env} {s : State} {m : MethodId} {below : List Frame} {meth : Method} {c : Code} {b L : Nat} {xs : Nat → Int32} {H : Heap} {locs : List Loc} {cells slots : Nat} {Q : State → Prop} {M : Mm} {ls : Array Slot} (Z : LwS E p s m meth c b L xs) (hW : Wx E s H locs M) (hi : Inv M) (L9 : L ≤ 2560) {i : Nat} (hl : lv_has ls 4 (LwL E b i)) (i4 : i + 4 < L) (hc : cells + 15 ≤ 600000) (hs : slots + 200 ≤ 7302250) (kk : ∀ (H : Heap) (locs : List Loc) (M : Mm), Wx E s H locs M → Inv M → W p l e room_1 s m #[Value.ref b] below meth c H locs (cells + 15) (slots + 200) Q (F0 m 1953 ls [])) : W p l e room_1 s m #[Value.ref b] below meth c H locs cells slots Q (F0 m 332 ls []) := by
  have C := Z.1
  obtain ⟨r, M1, M2, h1, h2, k1, v2⟩ := iv_set hi (xs (i + 1)) (xs (i + 2))
  refine lv_aload_n C.x C.b dL_332 rfl (lv_at hl 1 rfl) ?_
  refine la_arg (j := 1) Z hW L9 hl (by omega) rfl dL_333 dL_334 dL_335 dL_336 dL_337 ?_
  refine la_arg (j := 2) Z hW L9 hl (by omega) rfl dL_338 dL_339 dL_340 dL_341 dL_342 ?_
  refine x_callV (As := [.int (xs (i + 1)), .int (xs (i + 2))]) (a := 0) (rest := []) C hW hl (qX11_set l E h1) hi.k0 (by decide) (by decide) rfl gvL_25 ⟨rfl, hdL_25⟩ rfl rfl (Nat.le_of_ble_eq_true rfl) dL_343 ⟨Nat.le_of_ble_eq_true rfl, Nat.le_of_ble_eq_true rfl⟩ ⟨by show cells + _ ≤ 600000; omega, by show slots + _ ≤ 7302250; omega⟩ (fun H locs hW => ?_)
  refine lv_aload_n C.x C.b dL_346 rfl (lv_at hl 2 rfl) ?_
  refine la_arg (j := 1) Z hW L9 hl (by omega) rfl dL_347 dL_348 dL_349 dL_350 dL_351 ?_
  refine la_arg (j := 2) Z hW L9 hl (by omega) rfl dL_352 dL_353 dL_354 dL_355 dL_356 ?_
  refine x_callV (As := [.int (xs (i + 1)), .int (xs (i + 2))]) (a := 164) (rest := [.int r]) C hW hl (qX12_set l E h2) k1 (by decide) (by decide) rfl gvL_29 ⟨rfl, hdL_29⟩ rfl rfl (Nat.le_of_ble_eq_true rfl) dL_357 ⟨Nat.le_of_ble_eq_true rfl, Nat.le_of_ble_eq_true rfl⟩ ⟨by show cells + _ + _ ≤ 600000; omega, by show slots + _ + _ ≤ 7302250; omega⟩ (fun H locs hW => ?_)
  refine lv_icmp_eq (tgt := 1953) C.x C.b dL_360 rfl (fun _ => ?_) (fun c_ => absurd rfl c_)
  refine W.widen (k := cells + 15) (n := slots + 200) (by omega) (by omega) ?_
  exact kk _ _ _ hW v2
theorem gvL_30 : GoodIn gT (wsV RL 30 "NylonLadder" yX11_lawOf (Cond.code yX11_lawOf cX11_lawOf 2 (some .int) :: gT)) := good_V T_3_10 T_3_11 T_3_12 T_1_1 T_3_13
theorem hdL_30 : yX11_lawOf.cls ≠ "java/lang/invoke/MethodHandle" ∧ yX11_lawOf.cls ≠ "java/lang/invoke/VarHandle" ∧ (parseMethodDescriptor yX11_lawOf.desc).map (fun d => d.parameters.length) = some 1 := by decide +kernel
theorem gvL_34 : GoodIn gT (wsV RL 34 "NylonLadderModel" yX12_lawOf (Cond.code yX12_lawOf cX12_lawOf 2 (some .int) :: gT)) := good_V T_6_139 T_6_140 T_6_141 T_1_10 T_6_142
theorem hdL_34 : yX12_lawOf.cls ≠ "java/lang/invoke/MethodHandle" ∧ yX12_lawOf.cls ≠ "java/lang/invoke/VarHandle" ∧ (parseMethodDescriptor yX12_lawOf.desc).map (fun d => d.parameters.length) = some 1 := by decide +kernel
theorem dL_365 : decode code 365 = .ok (.aload_n 1, 1) := by decide +kernel
theorem dL_366 : decode code 366 = .ok (.aload_n 0, 1) := by decide +kernel
theorem dL_367 : decode code 367 = .ok (.iload_n 3, 1) := by decide +kernel
theorem dL_368 : decode code 368 = .ok (.iconst 1, 1) := by decide +kernel
theorem dL_369 : decode code 369 = .ok (.iadd, 1) := by decide +kernel
theorem dL_370 : decode code 370 = .ok (.iaload, 1) := by decide +kernel
theorem dL_371 : decode code 371 = .ok (.invokevirtual 30, 3) := by decide +kernel
theorem dL_374 : decode code 374 = .ok (.aload_n 2, 1) := by decide +kernel
theorem dL_375 : decode code 375 = .ok (.aload_n 0, 1) := by decide +kernel
theorem dL_376 : decode code 376 = .ok (.iload_n 3, 1) := by decide +kernel
theorem dL_377 : decode code 377 = .ok (.iconst 1, 1) := by decide +kernel
theorem dL_378 : decode code 378 = .ok (.iadd, 1) := by decide +kernel
theorem dL_379 : decode code 379 = .ok (.iaload, 1) := by decide +kernel
theorem dL_380 : decode code 380 = .ok (.invokevirtual 34, 3) := by decide +kernel
theorem dL_383 : decode code 383 = .ok (.if_icmp .eq 1570, 3) := by decide +kernel
set_option maxRecDepth 100000 in
set_option maxHeartbeats 4000000 in
theorem lc_3 {E : Ev} {p : Program} {l : Launch} {e : Env} {s : State} {m : MethodId} {below : List Frame} {meth : Method} {c : Code} {b L : Nat} {xs : Nat → Int32} {H : Heap} {locs : List Loc} {cells slots : Nat} {Q : State → Prop} {M : Mm} {ls : Array Slot} (Z : LwS E p s m meth c b L xs) (hW : Wx E s H locs M) (hi : Inv M) (L9 : L ≤ 2560) {i : Nat} (hl : lv_has ls 4 (LwL E b i)) (i4 : i + 4 < L) (hc : cells + 15 ≤ 600000) (hs : slots + 200 ≤ 7302250) (kk : ∀ (H : Heap) (locs : List Loc) (M : Mm), Wx E s H locs M → Inv M → W p l e room_1 s m #[Value.ref b] below meth c H locs (cells + 15) (slots + 200) Q (F0 m 1953 ls [])) : W p l e room_1 s m #[Value.ref b] below meth c H locs cells slots Q (F0 m 365 ls []) := by
  have C := Z.1
  obtain ⟨r, h1, h2⟩ := iv_lawOf hi (xs (i + 1))
  refine lv_aload_n C.x C.b dL_365 rfl (lv_at hl 1 rfl) ?_
  refine la_arg (j := 1) Z hW L9 hl (by omega) rfl dL_366 dL_367 dL_368 dL_369 dL_370 ?_
  refine x_callV (As := [.int (xs (i + 1))]) (a := 0) (rest := []) C hW hl (qX11_lawOf l E h1) hi.k0 (by decide) (by decide) rfl gvL_30 ⟨rfl, hdL_30⟩ rfl rfl (Nat.le_of_ble_eq_true rfl) dL_371 ⟨Nat.le_of_ble_eq_true rfl, Nat.le_of_ble_eq_true rfl⟩ ⟨by show cells + _ ≤ 600000; omega, by show slots + _ ≤ 7302250; omega⟩ (fun H locs hW => ?_)
  refine lv_aload_n C.x C.b dL_374 rfl (lv_at hl 2 rfl) ?_
  refine la_arg (j := 1) Z hW L9 hl (by omega) rfl dL_375 dL_376 dL_377 dL_378 dL_379 ?_
  refine x_callV (As := [.int (xs (i + 1))]) (a := 164) (rest := [.int r]) C hW hl (qX12_lawOf l E h2) hi.k164 (by decide) (by decide) rfl gvL_34 ⟨rfl, hdL_34⟩ rfl rfl (Nat.le_of_ble_eq_true rfl) dL_380 ⟨Nat.le_of_ble_eq_true rfl, Nat.le_of_ble_eq_true rfl⟩ ⟨by show cells + _ + _ ≤ 600000; omega, by show slots + _ + _ ≤ 7302250; omega⟩ (fun H locs hW => ?_)
  refine lv_icmp_eq (tgt := 1953) C.x C.b dL_383 rfl (fun _ => ?_) (fun c_ => absurd rfl c_)
  refine W.widen (k := cells + 15) (n := slots + 200) (by omega) (by omega) ?_
  exact kk _ _ _ hW hi
theorem gvL_35 : GoodIn gT (wsV RL 35 "NylonLadder" yX11_stocking (Cond.code yX11_stocking cX11_stocking 5 (some .int) :: gT)) := good_V T_3_14 T_3_15 T_3_16 T_1_1 T_3_17
theorem hdL_35 : yX11_stocking.cls ≠ "java/lang/invoke/MethodHandle" ∧ yX11_stocking.cls ≠ "java/lang/invoke/VarHandle" ∧ (parseMethodDescriptor yX11_stocking.desc).map (fun d => d.parameters.length) = some 4 := by decide +kernel
theorem gvL_39 : GoodIn gT (wsV RL 39 "NylonLadderModel" yX12_stocking (Cond.code yX12_stocking cX12_stocking 5 (some .int) :: gT)) := good_V T_6_143 T_6_144 T_6_145 T_1_10 T_6_146
theorem hdL_39 : yX12_stocking.cls ≠ "java/lang/invoke/MethodHandle" ∧ yX12_stocking.cls ≠ "java/lang/invoke/VarHandle" ∧ (parseMethodDescriptor yX12_stocking.desc).map (fun d => d.parameters.length) = some 4 := by decide +kernel
theorem dL_388 : decode code 388 = .ok (.aload_n 1, 1) := by decide +kernel
theorem dL_389 : decode code 389 = .ok (.aload_n 0, 1) := by decide +kernel
theorem dL_390 : decode code 390 = .ok (.iload_n 3, 1) := by decide +kernel
theorem dL_391 : decode code 391 = .ok (.iconst 1, 1) := by decide +kernel
theorem dL_392 : decode code 392 = .ok (.iadd, 1) := by decide +kernel
theorem dL_393 : decode code 393 = .ok (.iaload, 1) := by decide +kernel
theorem dL_394 : decode code 394 = .ok (.aload_n 0, 1) := by decide +kernel
theorem dL_395 : decode code 395 = .ok (.iload_n 3, 1) := by decide +kernel
theorem dL_396 : decode code 396 = .ok (.iconst 2, 1) := by decide +kernel
theorem dL_397 : decode code 397 = .ok (.iadd, 1) := by decide +kernel
theorem dL_398 : decode code 398 = .ok (.iaload, 1) := by decide +kernel
theorem dL_399 : decode code 399 = .ok (.aload_n 0, 1) := by decide +kernel
theorem dL_400 : decode code 400 = .ok (.iload_n 3, 1) := by decide +kernel
theorem dL_401 : decode code 401 = .ok (.iconst 3, 1) := by decide +kernel
theorem dL_402 : decode code 402 = .ok (.iadd, 1) := by decide +kernel
theorem dL_403 : decode code 403 = .ok (.iaload, 1) := by decide +kernel
theorem dL_404 : decode code 404 = .ok (.aload_n 0, 1) := by decide +kernel
theorem dL_405 : decode code 405 = .ok (.iload_n 3, 1) := by decide +kernel
theorem dL_406 : decode code 406 = .ok (.iconst 4, 1) := by decide +kernel
theorem dL_407 : decode code 407 = .ok (.iadd, 1) := by decide +kernel
theorem dL_408 : decode code 408 = .ok (.iaload, 1) := by decide +kernel
theorem dL_409 : decode code 409 = .ok (.invokevirtual 35, 3) := by decide +kernel
theorem dL_412 : decode code 412 = .ok (.aload_n 2, 1) := by decide +kernel
theorem dL_413 : decode code 413 = .ok (.aload_n 0, 1) := by decide +kernel
theorem dL_414 : decode code 414 = .ok (.iload_n 3, 1) := by decide +kernel
theorem dL_415 : decode code 415 = .ok (.iconst 1, 1) := by decide +kernel
theorem dL_416 : decode code 416 = .ok (.iadd, 1) := by decide +kernel
theorem dL_417 : decode code 417 = .ok (.iaload, 1) := by decide +kernel
theorem dL_418 : decode code 418 = .ok (.aload_n 0, 1) := by decide +kernel
theorem dL_419 : decode code 419 = .ok (.iload_n 3, 1) := by decide +kernel
theorem dL_420 : decode code 420 = .ok (.iconst 2, 1) := by decide +kernel
theorem dL_421 : decode code 421 = .ok (.iadd, 1) := by decide +kernel
theorem dL_422 : decode code 422 = .ok (.iaload, 1) := by decide +kernel
theorem dL_423 : decode code 423 = .ok (.aload_n 0, 1) := by decide +kernel
theorem dL_424 : decode code 424 = .ok (.iload_n 3, 1) := by decide +kernel
theorem dL_425 : decode code 425 = .ok (.iconst 3, 1) := by decide +kernel
theorem dL_426 : decode code 426 = .ok (.iadd, 1) := by decide +kernel
theorem dL_427 : decode code 427 = .ok (.iaload, 1) := by decide +kernel
theorem dL_428 : decode code 428 = .ok (.aload_n 0, 1) := by decide +kernel
theorem dL_429 : decode code 429 = .ok (.iload_n 3, 1) := by decide +kernel
theorem dL_430 : decode code 430 = .ok (.iconst 4, 1) := by decide +kernel
theorem dL_431 : decode code 431 = .ok (.iadd, 1) := by decide +kernel
theorem dL_432 : decode code 432 = .ok (.iaload, 1) := by decide +kernel
theorem dL_433 : decode code 433 = .ok (.invokevirtual 39, 3) := by decide +kernel
theorem dL_436 : decode code 436 = .ok (.if_icmp .eq 1517, 3) := by decide +kernel
set_option maxRecDepth 100000 in
set_option maxHeartbeats 4000000 in
theorem lc_4 {E : Ev} {p : Program} {l : Launch} {e : Env} {s : State} {m : MethodId} {below : List Frame} {meth : Method} {c : Code} {b L : Nat} {xs : Nat → Int32} {H : Heap} {locs : List Loc} {cells slots : Nat} {Q : State → Prop} {M : Mm} {ls : Array Slot} (Z : LwS E p s m meth c b L xs) (hW : Wx E s H locs M) (hi : Inv M) (L9 : L ≤ 2560) {i : Nat} (hl : lv_has ls 4 (LwL E b i)) (i4 : i + 4 < L) (hc : cells + 15 ≤ 600000) (hs : slots + 200 ≤ 7302250) (kk : ∀ (H : Heap) (locs : List Loc) (M : Mm), Wx E s H locs M → Inv M → W p l e room_1 s m #[Value.ref b] below meth c H locs (cells + 15) (slots + 200) Q (F0 m 1953 ls [])) : W p l e room_1 s m #[Value.ref b] below meth c H locs cells slots Q (F0 m 388 ls []) := by
  have C := Z.1
  obtain ⟨r, M1, M2, h1, h2, k1, v2⟩ := iv_stocking hi (xs (i + 1)) (xs (i + 2)) (xs (i + 3)) (xs (i + 4))
  refine lv_aload_n C.x C.b dL_388 rfl (lv_at hl 1 rfl) ?_
  refine la_arg (j := 1) Z hW L9 hl (by omega) rfl dL_389 dL_390 dL_391 dL_392 dL_393 ?_
  refine la_arg (j := 2) Z hW L9 hl (by omega) rfl dL_394 dL_395 dL_396 dL_397 dL_398 ?_
  refine la_arg (j := 3) Z hW L9 hl (by omega) rfl dL_399 dL_400 dL_401 dL_402 dL_403 ?_
  refine la_arg (j := 4) Z hW L9 hl (by omega) rfl dL_404 dL_405 dL_406 dL_407 dL_408 ?_
  refine x_callV (As := [.int (xs (i + 1)), .int (xs (i + 2)), .int (xs (i + 3)), .int (xs (i + 4))]) (a := 0) (rest := []) C hW hl (qX11_stocking l E h1) hi.k0 (by decide) (by decide) rfl gvL_35 ⟨rfl, hdL_35⟩ rfl rfl (Nat.le_of_ble_eq_true rfl) dL_409 ⟨Nat.le_of_ble_eq_true rfl, Nat.le_of_ble_eq_true rfl⟩ ⟨by show cells + _ ≤ 600000; omega, by show slots + _ ≤ 7302250; omega⟩ (fun H locs hW => ?_)
  refine lv_aload_n C.x C.b dL_412 rfl (lv_at hl 2 rfl) ?_
  refine la_arg (j := 1) Z hW L9 hl (by omega) rfl dL_413 dL_414 dL_415 dL_416 dL_417 ?_
  refine la_arg (j := 2) Z hW L9 hl (by omega) rfl dL_418 dL_419 dL_420 dL_421 dL_422 ?_
  refine la_arg (j := 3) Z hW L9 hl (by omega) rfl dL_423 dL_424 dL_425 dL_426 dL_427 ?_
  refine la_arg (j := 4) Z hW L9 hl (by omega) rfl dL_428 dL_429 dL_430 dL_431 dL_432 ?_
  refine x_callV (As := [.int (xs (i + 1)), .int (xs (i + 2)), .int (xs (i + 3)), .int (xs (i + 4))]) (a := 164) (rest := [.int r]) C hW hl (qX12_stocking l E h2) k1 (by decide) (by decide) rfl gvL_39 ⟨rfl, hdL_39⟩ rfl rfl (Nat.le_of_ble_eq_true rfl) dL_433 ⟨Nat.le_of_ble_eq_true rfl, Nat.le_of_ble_eq_true rfl⟩ ⟨by show cells + _ + _ ≤ 600000; omega, by show slots + _ + _ ≤ 7302250; omega⟩ (fun H locs hW => ?_)
  refine lv_icmp_eq (tgt := 1953) C.x C.b dL_436 rfl (fun _ => ?_) (fun c_ => absurd rfl c_)
  refine W.widen (k := cells + 15) (n := slots + 200) (by omega) (by omega) ?_
  exact kk _ _ _ hW v2
end LAWCASES
