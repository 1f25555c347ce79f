section LAWCASES
theorem gvL_162 : GoodIn gT (wsV RL 162 "NylonLadder" yX11_day (Cond.code yX11_day cX11_day 1 (some .int) :: gT)) := good_V T_4_84 T_4_85 T_4_86 T_1_1 T_4_87
theorem hdL_162 : yX11_day.cls ≠ "java/lang/invoke/MethodHandle" ∧ yX11_day.cls ≠ "java/lang/invoke/VarHandle" ∧ (parseMethodDescriptor yX11_day.desc).map (fun d => d.parameters.length) = some 0 := by decide +kernel
theorem gvL_165 : GoodIn gT (wsV RL 165 "NylonLadderModel" yX12_day (Cond.code yX12_day cX12_day 1 (some .int) :: gT)) := good_V T_7_232 T_7_233 T_7_234 T_1_10 T_7_235
theorem hdL_165 : yX12_day.cls ≠ "java/lang/invoke/MethodHandle" ∧ yX12_day.cls ≠ "java/lang/invoke/VarHandle" ∧ (parseMethodDescriptor yX12_day.desc).map (fun d => d.parameters.length) = some 0 := by decide +kernel
theorem dL_1402 : decode code 1402 = .ok (.aload_n 1, 1) := by decide +kernel
theorem dL_1403 : decode code 1403 = .ok (.invokevirtual 162, 3) := by decide +kernel
theorem dL_1406 : decode code 1406 = .ok (.aload_n 2, 1) := by decide +kernel
theorem dL_1407 : decode code 1407 = .ok (.invokevirtual 165, 3) := by decide +kernel
theorem dL_1410 : decode code 1410 = .ok (.if_icmp .eq 543, 3) := by decide +kernel
set_option maxRecDepth 100000 in
set_option maxHeartbeats 4000000 in
theorem lc_35 {E : Ev} {p : Program} {l : Launch} {e : Env} {s : State} {m : MethodId} {below : List Frame} {meth : Method} {c : Code} {b L : Nat} {xs : Nat → Int32} {H : Heap} {locs : List Loc} {cells slots : Nat} {Q : State → Prop} {M : Mm} {ls : Array Slot} (Z : LwS E p s m meth c b L xs) (hW : Wx E s H locs M) (hi : Inv M) (L9 : L ≤ 2560) {i : Nat} (hl : lv_has ls 4 (LwL E b i)) (i4 : i + 4 < L) (hc : cells + 15 ≤ 600000) (hs : slots + 200 ≤ 7302250) (kk : ∀ (H : Heap) (locs : List Loc) (M : Mm), Wx E s H locs M → Inv M → W p l e room_1 s m #[Value.ref b] below meth c H locs (cells + 15) (slots + 200) Q (F0 m 1953 ls [])) : W p l e room_1 s m #[Value.ref b] below meth c H locs cells slots Q (F0 m 1402 ls []) := by
  have C := Z.1
  obtain ⟨r, M1, M2, h1, h2, k1, v2⟩ := iv_day hi 
  refine lv_aload_n C.x C.b dL_1402 rfl (lv_at hl 1 rfl) ?_
  refine x_callV (As := []) (a := 0) (rest := []) C hW hl (qX11_day l E h1) hi.k0 (by decide) (by decide) rfl gvL_162 ⟨rfl, hdL_162⟩ rfl rfl (Nat.le_of_ble_eq_true rfl) dL_1403 ⟨Nat.le_of_ble_eq_true rfl, Nat.le_of_ble_eq_true rfl⟩ ⟨by show cells + _ ≤ 600000; omega, by show slots + _ ≤ 7302250; omega⟩ (fun H locs hW => ?_)
  refine lv_aload_n C.x C.b dL_1406 rfl (lv_at hl 2 rfl) ?_
  refine x_callV (As := []) (a := 164) (rest := [.int r]) C hW hl (qX12_day l E h2) k1 (by decide) (by decide) rfl gvL_165 ⟨rfl, hdL_165⟩ rfl rfl (Nat.le_of_ble_eq_true rfl) dL_1407 ⟨Nat.le_of_ble_eq_true rfl, Nat.le_of_ble_eq_true rfl⟩ ⟨by show cells + _ + _ ≤ 600000; omega, by show slots + _ + _ ≤ 7302250; omega⟩ (fun H locs hW => ?_)
  refine lv_icmp_eq (tgt := 1953) C.x C.b dL_1410 rfl (fun _ => ?_) (fun c_ => absurd rfl c_)
  refine W.widen (k := cells + 15) (n := slots + 200) (by omega) (by omega) ?_
  exact kk _ _ _ hW v2
theorem gvL_166 : GoodIn gT (wsV RL 166 "NylonLadder" yX11_month (Cond.code yX11_month cX11_month 4 (some .int) :: gT)) := good_V T_4_104 T_4_105 T_4_106 T_1_1 T_4_107
theorem hdL_166 : yX11_month.cls ≠ "java/lang/invoke/MethodHandle" ∧ yX11_month.cls ≠ "java/lang/invoke/VarHandle" ∧ (parseMethodDescriptor yX11_month.desc).map (fun d => d.parameters.length) = some 1 := by decide +kernel
theorem gvL_169 : GoodIn gT (wsV RL 169 "NylonLadderModel" yX12_month (Cond.code yX12_month cX12_month 4 (some .int) :: gT)) := good_V T_8_5 T_8_6 T_8_7 T_1_10 T_8_8
theorem hdL_169 : yX12_month.cls ≠ "java/lang/invoke/MethodHandle" ∧ yX12_month.cls ≠ "java/lang/invoke/VarHandle" ∧ (parseMethodDescriptor yX12_month.desc).map (fun d => d.parameters.length) = some 1 := by decide +kernel
theorem dL_1415 : decode code 1415 = .ok (.aload_n 1, 1) := by decide +kernel
theorem dL_1416 : decode code 1416 = .ok (.aload_n 0, 1) := by decide +kernel
theorem dL_1417 : decode code 1417 = .ok (.iload_n 3, 1) := by decide +kernel
theorem dL_1418 : decode code 1418 = .ok (.iconst 1, 1) := by decide +kernel
theorem dL_1419 : decode code 1419 = .ok (.iadd, 1) := by decide +kernel
theorem dL_1420 : decode code 1420 = .ok (.iaload, 1) := by decide +kernel
theorem dL_1421 : decode code 1421 = .ok (.invokevirtual 166, 3) := by decide +kernel
theorem dL_1424 : decode code 1424 = .ok (.aload_n 2, 1) := by decide +kernel
theorem dL_1425 : decode code 1425 = .ok (.aload_n 0, 1) := by decide +kernel
theorem dL_1426 : decode code 1426 = .ok (.iload_n 3, 1) := by decide +kernel
theorem dL_1427 : decode code 1427 = .ok (.iconst 1, 1) := by decide +kernel
theorem dL_1428 : decode code 1428 = .ok (.iadd, 1) := by decide +kernel
theorem dL_1429 : decode code 1429 = .ok (.iaload, 1) := by decide +kernel
theorem dL_1430 : decode code 1430 = .ok (.invokevirtual 169, 3) := by decide +kernel
theorem dL_1433 : decode code 1433 = .ok (.if_icmp .eq 520, 3) := by decide +kernel
set_option maxRecDepth 100000 in
set_option maxHeartbeats 4000000 in
theorem lc_36 {E : Ev} {p : Program} {l : Launch} {e : Env} {s : State} {m : MethodId} {below : List Frame} {meth : Method} {c : Code} {b L : Nat} {xs : Nat → Int32} {H : Heap} {locs : List Loc} {cells slots : Nat} {Q : State → Prop} {M : Mm} {ls : Array Slot} (Z : LwS E p s m meth c b L xs) (hW : Wx E s H locs M) (hi : Inv M) (L9 : L ≤ 2560) {i : Nat} (hl : lv_has ls 4 (LwL E b i)) (i4 : i + 4 < L) (hc : cells + 15 ≤ 600000) (hs : slots + 200 ≤ 7302250) (kk : ∀ (H : Heap) (locs : List Loc) (M : Mm), Wx E s H locs M → Inv M → W p l e room_1 s m #[Value.ref b] below meth c H locs (cells + 15) (slots + 200) Q (F0 m 1953 ls [])) : W p l e room_1 s m #[Value.ref b] below meth c H locs cells slots Q (F0 m 1415 ls []) := by
  have C := Z.1
  obtain ⟨r, M1, M2, h1, h2, k1, v2⟩ := iv_month hi (xs (i + 1))
  refine lv_aload_n C.x C.b dL_1415 rfl (lv_at hl 1 rfl) ?_
  refine la_arg (j := 1) Z hW L9 hl (by omega) rfl dL_1416 dL_1417 dL_1418 dL_1419 dL_1420 ?_
  refine x_callV (As := [.int (xs (i + 1))]) (a := 0) (rest := []) C hW hl (qX11_month l E h1) hi.k0 (by decide) (by decide) rfl gvL_166 ⟨rfl, hdL_166⟩ rfl rfl (Nat.le_of_ble_eq_true rfl) dL_1421 ⟨Nat.le_of_ble_eq_true rfl, Nat.le_of_ble_eq_true rfl⟩ ⟨by show cells + _ ≤ 600000; omega, by show slots + _ ≤ 7302250; omega⟩ (fun H locs hW => ?_)
  refine lv_aload_n C.x C.b dL_1424 rfl (lv_at hl 2 rfl) ?_
  refine la_arg (j := 1) Z hW L9 hl (by omega) rfl dL_1425 dL_1426 dL_1427 dL_1428 dL_1429 ?_
  refine x_callV (As := [.int (xs (i + 1))]) (a := 164) (rest := [.int r]) C hW hl (qX12_month l E h2) k1 (by decide) (by decide) rfl gvL_169 ⟨rfl, hdL_169⟩ rfl rfl (Nat.le_of_ble_eq_true rfl) dL_1430 ⟨Nat.le_of_ble_eq_true rfl, Nat.le_of_ble_eq_true rfl⟩ ⟨by show cells + _ + _ ≤ 600000; omega, by show slots + _ + _ ≤ 7302250; omega⟩ (fun H locs hW => ?_)
  refine lv_icmp_eq (tgt := 1953) C.x C.b dL_1433 rfl (fun _ => ?_) (fun c_ => absurd rfl c_)
  refine W.widen (k := cells + 15) (n := slots + 200) (by omega) (by omega) ?_
  exact kk _ _ _ hW v2
theorem gvL_170 : GoodIn gT (wsV RL 170 "NylonLadder" yX11_prove (Cond.code yX11_prove cX11_prove 6 (some .int) :: gT)) := good_V T_4_108 T_4_109 T_4_110 T_1_1 T_4_111
theorem hdL_170 : yX11_prove.cls ≠ "java/lang/invoke/MethodHandle" ∧ yX11_prove.cls ≠ "java/lang/invoke/VarHandle" ∧ (parseMethodDescriptor yX11_prove.desc).map (fun d => d.parameters.length) = some 2 := by decide +kernel
theorem gvL_173 : GoodIn gT (wsV RL 173 "NylonLadderModel" yX12_prove (Cond.code yX12_prove cX12_prove 4 (some .int) :: gT)) := good_V T_8_98 T_8_99 T_8_100 T_1_10 T_8_101
theorem hdL_173 : yX12_prove.cls ≠ "java/lang/invoke/MethodHandle" ∧ yX12_prove.cls ≠ "java/lang/invoke/VarHandle" ∧ (parseMethodDescriptor yX12_prove.desc).map (fun d => d.parameters.length) = some 2 := by decide +kernel
theorem dL_1438 : decode code 1438 = .ok (.aload_n 1, 1) := by decide +kernel
theorem dL_1439 : decode code 1439 = .ok (.aload_n 0, 1) := by decide +kernel
theorem dL_1440 : decode code 1440 = .ok (.iload_n 3, 1) := by decide +kernel
theorem dL_1441 : decode code 1441 = .ok (.iconst 1, 1) := by decide +kernel
theorem dL_1442 : decode code 1442 = .ok (.iadd, 1) := by decide +kernel
theorem dL_1443 : decode code 1443 = .ok (.iaload, 1) := by decide +kernel
theorem dL_1444 : decode code 1444 = .ok (.aload_n 0, 1) := by decide +kernel
theorem dL_1445 : decode code 1445 = .ok (.iload_n 3, 1) := by decide +kernel
theorem dL_1446 : decode code 1446 = .ok (.iconst 2, 1) := by decide +kernel
theorem dL_1447 : decode code 1447 = .ok (.iadd, 1) := by decide +kernel
theorem dL_1448 : decode code 1448 = .ok (.iaload, 1) := by decide +kernel
theorem dL_1449 : decode code 1449 = .ok (.invokevirtual 170, 3) := by decide +kernel
theorem dL_1452 : decode code 1452 = .ok (.aload_n 2, 1) := by decide +kernel
theorem dL_1453 : decode code 1453 = .ok (.aload_n 0, 1) := by decide +kernel
theorem dL_1454 : decode code 1454 = .ok (.iload_n 3, 1) := by decide +kernel
theorem dL_1455 : decode code 1455 = .ok (.iconst 1, 1) := by decide +kernel
theorem dL_1456 : decode code 1456 = .ok (.iadd, 1) := by decide +kernel
theorem dL_1457 : decode code 1457 = .ok (.iaload, 1) := by decide +kernel
theorem dL_1458 : decode code 1458 = .ok (.aload_n 0, 1) := by decide +kernel
theorem dL_1459 : decode code 1459 = .ok (.iload_n 3, 1) := by decide +kernel
theorem dL_1460 : decode code 1460 = .ok (.iconst 2, 1) := by decide +kernel
theorem dL_1461 : decode code 1461 = .ok (.iadd, 1) := by decide +kernel
theorem dL_1462 : decode code 1462 = .ok (.iaload, 1) := by decide +kernel
theorem dL_1463 : decode code 1463 = .ok (.invokevirtual 173, 3) := by decide +kernel
theorem dL_1466 : decode code 1466 = .ok (.if_icmp .eq 487, 3) := by decide +kernel
set_option maxRecDepth 100000 in
set_option maxHeartbeats 4000000 in
theorem lc_37 {E : Ev} {p : Program} {l : Launch} {e : Env} {s : State} {m : MethodId} {below : List Frame} {meth : Method} {c : Code} {b L : Nat} {xs : Nat → Int32} {H : Heap} {locs : List Loc} {cells slots : Nat} {Q : State → Prop} {M : Mm} {ls : Array Slot} (Z : LwS E p s m meth c b L xs) (hW : Wx E s H locs M) (hi : Inv M) (L9 : L ≤ 2560) {i : Nat} (hl : lv_has ls 4 (LwL E b i)) (i4 : i + 4 < L) (hc : cells + 15 ≤ 600000) (hs : slots + 200 ≤ 7302250) (kk : ∀ (H : Heap) (locs : List Loc) (M : Mm), Wx E s H locs M → Inv M → W p l e room_1 s m #[Value.ref b] below meth c H locs (cells + 15) (slots + 200) Q (F0 m 1953 ls [])) : W p l e room_1 s m #[Value.ref b] below meth c H locs cells slots Q (F0 m 1438 ls []) := by
  have C := Z.1
  obtain ⟨r, M1, M2, h1, h2, k1, v2⟩ := iv_prove hi (xs (i + 1)) (xs (i + 2))
  refine lv_aload_n C.x C.b dL_1438 rfl (lv_at hl 1 rfl) ?_
  refine la_arg (j := 1) Z hW L9 hl (by omega) rfl dL_1439 dL_1440 dL_1441 dL_1442 dL_1443 ?_
  refine la_arg (j := 2) Z hW L9 hl (by omega) rfl dL_1444 dL_1445 dL_1446 dL_1447 dL_1448 ?_
  refine x_callV (As := [.int (xs (i + 1)), .int (xs (i + 2))]) (a := 0) (rest := []) C hW hl (qX11_prove l E h1) hi.k0 (by decide) (by decide) rfl gvL_170 ⟨rfl, hdL_170⟩ rfl rfl (Nat.le_of_ble_eq_true rfl) dL_1449 ⟨Nat.le_of_ble_eq_true rfl, Nat.le_of_ble_eq_true rfl⟩ ⟨by show cells + _ ≤ 600000; omega, by show slots + _ ≤ 7302250; omega⟩ (fun H locs hW => ?_)
  refine lv_aload_n C.x C.b dL_1452 rfl (lv_at hl 2 rfl) ?_
  refine la_arg (j := 1) Z hW L9 hl (by omega) rfl dL_1453 dL_1454 dL_1455 dL_1456 dL_1457 ?_
  refine la_arg (j := 2) Z hW L9 hl (by omega) rfl dL_1458 dL_1459 dL_1460 dL_1461 dL_1462 ?_
  refine x_callV (As := [.int (xs (i + 1)), .int (xs (i + 2))]) (a := 164) (rest := [.int r]) C hW hl (qX12_prove l E h2) k1 (by decide) (by decide) rfl gvL_173 ⟨rfl, hdL_173⟩ rfl rfl (Nat.le_of_ble_eq_true rfl) dL_1463 ⟨Nat.le_of_ble_eq_true rfl, Nat.le_of_ble_eq_true rfl⟩ ⟨by show cells + _ + _ ≤ 600000; omega, by show slots + _ + _ ≤ 7302250; omega⟩ (fun H locs hW => ?_)
  refine lv_icmp_eq (tgt := 1953) C.x C.b dL_1466 rfl (fun _ => ?_) (fun c_ => absurd rfl c_)
  refine W.widen (k := cells + 15) (n := slots + 200) (by omega) (by omega) ?_
  exact kk _ _ _ hW v2
theorem gvL_174 : GoodIn gT (wsV RL 174 "NylonLadder" yX11_row (Cond.code yX11_row cX11_row 3 (some .int) :: gT)) := good_V T_4_112 T_4_113 T_4_114 T_1_1 T_4_115
theorem hdL_174 : yX11_row.cls ≠ "java/lang/invoke/MethodHandle" ∧ yX11_row.cls ≠ "java/lang/invoke/VarHandle" ∧ (parseMethodDescriptor yX11_row.desc).map (fun d => d.parameters.length) = some 2 := by decide +kernel
theorem gvL_177 : GoodIn gT (wsV RL 177 "NylonLadderModel" yX12_row (Cond.code yX12_row cX12_row 3 (some .int) :: gT)) := good_V T_8_106 T_8_107 T_8_108 T_1_10 T_8_109
theorem hdL_177 : yX12_row.cls ≠ "java/lang/invoke/MethodHandle" ∧ yX12_row.cls ≠ "java/lang/invoke/VarHandle" ∧ (parseMethodDescriptor yX12_row.desc).map (fun d => d.parameters.length) = some 2 := by decide +kernel
theorem dL_1471 : decode code 1471 = .ok (.aload_n 1, 1) := by decide +kernel
theorem dL_1472 : decode code 1472 = .ok (.aload_n 0, 1) := by decide +kernel
theorem dL_1473 : decode code 1473 = .ok (.iload_n 3, 1) := by decide +kernel
theorem dL_1474 : decode code 1474 = .ok (.iconst 1, 1) := by decide +kernel
theorem dL_1475 : decode code 1475 = .ok (.iadd, 1) := by decide +kernel
theorem dL_1476 : decode code 1476 = .ok (.iaload, 1) := by decide +kernel
theorem dL_1477 : decode code 1477 = .ok (.aload_n 0, 1) := by decide +kernel
theorem dL_1478 : decode code 1478 = .ok (.iload_n 3, 1) := by decide +kernel
theorem dL_1479 : decode code 1479 = .ok (.iconst 2, 1) := by decide +kernel
theorem dL_1480 : decode code 1480 = .ok (.iadd, 1) := by decide +kernel
theorem dL_1481 : decode code 1481 = .ok (.iaload, 1) := by decide +kernel
theorem dL_1482 : decode code 1482 = .ok (.invokevirtual 174, 3) := by decide +kernel
theorem dL_1485 : decode code 1485 = .ok (.aload_n 2, 1) := by decide +kernel
theorem dL_1486 : decode code 1486 = .ok (.aload_n 0, 1) := by decide +kernel
theorem dL_1487 : decode code 1487 = .ok (.iload_n 3, 1) := by decide +kernel
theorem dL_1488 : decode code 1488 = .ok (.iconst 1, 1) := by decide +kernel
theorem dL_1489 : decode code 1489 = .ok (.iadd, 1) := by decide +kernel
theorem dL_1490 : decode code 1490 = .ok (.iaload, 1) := by decide +kernel
theorem dL_1491 : decode code 1491 = .ok (.aload_n 0, 1) := by decide +kernel
theorem dL_1492 : decode code 1492 = .ok (.iload_n 3, 1) := by decide +kernel
theorem dL_1493 : decode code 1493 = .ok (.iconst 2, 1) := by decide +kernel
theorem dL_1494 : decode code 1494 = .ok (.iadd, 1) := by decide +kernel
theorem dL_1495 : decode code 1495 = .ok (.iaload, 1) := by decide +kernel
theorem dL_1496 : decode code 1496 = .ok (.invokevirtual 177, 3) := by decide +kernel
theorem dL_1499 : decode code 1499 = .ok (.if_icmp .eq 454, 3) := by decide +kernel
set_option maxRecDepth 100000 in
set_option maxHeartbeats 4000000 in
theorem lc_38 {E : Ev} {p : Program} {l : Launch} {e : Env} {s : State} {m : MethodId} {below : List Frame} {meth : Method} {c : Code} {b L : Nat} {xs : Nat → Int32} {H : Heap} {locs : List Loc} {cells slots : Nat} {Q : State → Prop} {M : Mm} {ls : Array Slot} (Z : LwS E p s m meth c b L xs) (hW : Wx E s H locs M) (hi : Inv M) (L9 : L ≤ 2560) {i : Nat} (hl : lv_has ls 4 (LwL E b i)) (i4 : i + 4 < L) (hc : cells + 15 ≤ 600000) (hs : slots + 200 ≤ 7302250) (kk : ∀ (H : Heap) (locs : List Loc) (M : Mm), Wx E s H locs M → Inv M → W p l e room_1 s m #[Value.ref b] below meth c H locs (cells + 15) (slots + 200) Q (F0 m 1953 ls [])) : W p l e room_1 s m #[Value.ref b] below meth c H locs cells slots Q (F0 m 1471 ls []) := by
  have C := Z.1
  obtain ⟨r, h1, h2⟩ := iv_row hi (xs (i + 1)) (xs (i + 2))
  refine lv_aload_n C.x C.b dL_1471 rfl (lv_at hl 1 rfl) ?_
  refine la_arg (j := 1) Z hW L9 hl (by omega) rfl dL_1472 dL_1473 dL_1474 dL_1475 dL_1476 ?_
  refine la_arg (j := 2) Z hW L9 hl (by omega) rfl dL_1477 dL_1478 dL_1479 dL_1480 dL_1481 ?_
  refine x_callV (As := [.int (xs (i + 1)), .int (xs (i + 2))]) (a := 0) (rest := []) C hW hl (qX11_row l E h1) hi.k0 (by decide) (by decide) rfl gvL_174 ⟨rfl, hdL_174⟩ rfl rfl (Nat.le_of_ble_eq_true rfl) dL_1482 ⟨Nat.le_of_ble_eq_true rfl, Nat.le_of_ble_eq_true rfl⟩ ⟨by show cells + _ ≤ 600000; omega, by show slots + _ ≤ 7302250; omega⟩ (fun H locs hW => ?_)
  refine lv_aload_n C.x C.b dL_1485 rfl (lv_at hl 2 rfl) ?_
  refine la_arg (j := 1) Z hW L9 hl (by omega) rfl dL_1486 dL_1487 dL_1488 dL_1489 dL_1490 ?_
  refine la_arg (j := 2) Z hW L9 hl (by omega) rfl dL_1491 dL_1492 dL_1493 dL_1494 dL_1495 ?_
  refine x_callV (As := [.int (xs (i + 1)), .int (xs (i + 2))]) (a := 164) (rest := [.int r]) C hW hl (qX12_row l E h2) hi.k164 (by decide) (by decide) rfl gvL_177 ⟨rfl, hdL_177⟩ rfl rfl (Nat.le_of_ble_eq_true rfl) dL_1496 ⟨Nat.le_of_ble_eq_true rfl, Nat.le_of_ble_eq_true rfl⟩ ⟨by show cells + _ + _ ≤ 600000; omega, by show slots + _ + _ ≤ 7302250; omega⟩ (fun H locs hW => ?_)
  refine lv_icmp_eq (tgt := 1953) C.x C.b dL_1499 rfl (fun _ => ?_) (fun c_ => absurd rfl c_)
  refine W.widen (k := cells + 15) (n := slots + 200) (by omega) (by omega) ?_
  exact kk _ _ _ hW hi
theorem gvL_178 : GoodIn gT (wsV RL 178 "NylonLadder" yX11_alterRow (Cond.code yX11_alterRow cX11_alterRow 5 (some .int) :: gT)) := good_V T_4_120 T_4_121 T_4_122 T_1_1 T_4_123
theorem hdL_178 : yX11_alterRow.cls ≠ "java/lang/invoke/MethodHandle" ∧ yX11_alterRow.cls ≠ "java/lang/invoke/VarHandle" ∧ (parseMethodDescriptor yX11_alterRow.desc).map (fun d => d.parameters.length) = some 3 := by decide +kernel
theorem gvL_181 : GoodIn gT (wsV RL 181 "NylonLadderModel" yX12_alterRow (Cond.code yX12_alterRow cX12_alterRow 5 (some .int) :: gT)) := good_V T_8_114 T_8_115 T_8_116 T_1_10 T_8_117
theorem hdL_181 : yX12_alterRow.cls ≠ "java/lang/invoke/MethodHandle" ∧ yX12_alterRow.cls ≠ "java/lang/invoke/VarHandle" ∧ (parseMethodDescriptor yX12_alterRow.desc).map (fun d => d.parameters.length) = some 3 := by decide +kernel
theorem dL_1504 : decode code 1504 = .ok (.aload_n 1, 1) := by decide +kernel
theorem dL_1505 : decode code 1505 = .ok (.aload_n 0, 1) := by decide +kernel
theorem dL_1506 : decode code 1506 = .ok (.iload_n 3, 1) := by decide +kernel
theorem dL_1507 : decode code 1507 = .ok (.iconst 1, 1) := by decide +kernel
theorem dL_1508 : decode code 1508 = .ok (.iadd, 1) := by decide +kernel
theorem dL_1509 : decode code 1509 = .ok (.iaload, 1) := by decide +kernel
theorem dL_1510 : decode code 1510 = .ok (.aload_n 0, 1) := by decide +kernel
theorem dL_1511 : decode code 1511 = .ok (.iload_n 3, 1) := by decide +kernel
theorem dL_1512 : decode code 1512 = .ok (.iconst 2, 1) := by decide +kernel
theorem dL_1513 : decode code 1513 = .ok (.iadd, 1) := by decide +kernel
theorem dL_1514 : decode code 1514 = .ok (.iaload, 1) := by decide +kernel
theorem dL_1515 : decode code 1515 = .ok (.aload_n 0, 1) := by decide +kernel
theorem dL_1516 : decode code 1516 = .ok (.iload_n 3, 1) := by decide +kernel
theorem dL_1517 : decode code 1517 = .ok (.iconst 3, 1) := by decide +kernel
theorem dL_1518 : decode code 1518 = .ok (.iadd, 1) := by decide +kernel
theorem dL_1519 : decode code 1519 = .ok (.iaload, 1) := by decide +kernel
theorem dL_1520 : decode code 1520 = .ok (.invokevirtual 178, 3) := by decide +kernel
theorem dL_1523 : decode code 1523 = .ok (.aload_n 2, 1) := by decide +kernel
theorem dL_1524 : decode code 1524 = .ok (.aload_n 0, 1) := by decide +kernel
theorem dL_1525 : decode code 1525 = .ok (.iload_n 3, 1) := by decide +kernel
theorem dL_1526 : decode code 1526 = .ok (.iconst 1, 1) := by decide +kernel
theorem dL_1527 : decode code 1527 = .ok (.iadd, 1) := by decide +kernel
theorem dL_1528 : decode code 1528 = .ok (.iaload, 1) := by decide +kernel
theorem dL_1529 : decode code 1529 = .ok (.aload_n 0, 1) := by decide +kernel
theorem dL_1530 : decode code 1530 = .ok (.iload_n 3, 1) := by decide +kernel
theorem dL_1531 : decode code 1531 = .ok (.iconst 2, 1) := by decide +kernel
theorem dL_1532 : decode code 1532 = .ok (.iadd, 1) := by decide +kernel
theorem dL_1533 : decode code 1533 = .ok (.iaload, 1) := by decide +kernel
theorem dL_1534 : decode code 1534 = .ok (.aload_n 0, 1) := by decide +kernel
theorem dL_1535 : decode code 1535 = .ok (.iload_n 3, 1) := by decide +kernel
theorem dL_1536 : decode code 1536 = .ok (.iconst 3, 1) := by decide +kernel
theorem dL_1537 : decode code 1537 = .ok (.iadd, 1) := by decide +kernel
theorem dL_1538 : decode code 1538 = .ok (.iaload, 1) := by decide +kernel
theorem dL_1539 : decode code 1539 = .ok (.invokevirtual 181, 3) := by decide +kernel
theorem dL_1542 : decode code 1542 = .ok (.if_icmp .eq 411, 3) := by decide +kernel
set_option maxRecDepth 100000 in
set_option maxHeartbeats 4000000 in
theorem lc_39 {E : Ev} {p : Program} {l : Launch} {e : Env} {s : State} {m : MethodId} {below : List Frame} {meth : Method} {c : Code} {b L : Nat} {xs : Nat → Int32} {H : Heap} {locs : List Loc} {cells slots : Nat} {Q : State → Prop} {M : Mm} {ls : Array Slot} (Z : LwS E p s m meth c b L xs) (hW : Wx E s H locs M) (hi : Inv M) (L9 : L ≤ 2560) {i : Nat} (hl : lv_has ls 4 (LwL E b i)) (i4 : i + 4 < L) (hc : cells + 15 ≤ 600000) (hs : slots + 200 ≤ 7302250) (kk : ∀ (H : Heap) (locs : List Loc) (M : Mm), Wx E s H locs M → Inv M → W p l e room_1 s m #[Value.ref b] below meth c H locs (cells + 15) (slots + 200) Q (F0 m 1953 ls [])) : W p l e room_1 s m #[Value.ref b] below meth c H locs cells slots Q (F0 m 1504 ls []) := by
  have C := Z.1
  obtain ⟨r, M1, M2, h1, h2, k1, v2⟩ := iv_alterRow hi (xs (i + 1)) (xs (i + 2)) (xs (i + 3))
  refine lv_aload_n C.x C.b dL_1504 rfl (lv_at hl 1 rfl) ?_
  refine la_arg (j := 1) Z hW L9 hl (by omega) rfl dL_1505 dL_1506 dL_1507 dL_1508 dL_1509 ?_
  refine la_arg (j := 2) Z hW L9 hl (by omega) rfl dL_1510 dL_1511 dL_1512 dL_1513 dL_1514 ?_
  refine la_arg (j := 3) Z hW L9 hl (by omega) rfl dL_1515 dL_1516 dL_1517 dL_1518 dL_1519 ?_
  refine x_callV (As := [.int (xs (i + 1)), .int (xs (i + 2)), .int (xs (i + 3))]) (a := 0) (rest := []) C hW hl (qX11_alterRow l E h1) hi.k0 (by decide) (by decide) rfl gvL_178 ⟨rfl, hdL_178⟩ rfl rfl (Nat.le_of_ble_eq_true rfl) dL_1520 ⟨Nat.le_of_ble_eq_true rfl, Nat.le_of_ble_eq_true rfl⟩ ⟨by show cells + _ ≤ 600000; omega, by show slots + _ ≤ 7302250; omega⟩ (fun H locs hW => ?_)
  refine lv_aload_n C.x C.b dL_1523 rfl (lv_at hl 2 rfl) ?_
  refine la_arg (j := 1) Z hW L9 hl (by omega) rfl dL_1524 dL_1525 dL_1526 dL_1527 dL_1528 ?_
  refine la_arg (j := 2) Z hW L9 hl (by omega) rfl dL_1529 dL_1530 dL_1531 dL_1532 dL_1533 ?_
  refine la_arg (j := 3) Z hW L9 hl (by omega) rfl dL_1534 dL_1535 dL_1536 dL_1537 dL_1538 ?_
  refine x_callV (As := [.int (xs (i + 1)), .int (xs (i + 2)), .int (xs (i + 3))]) (a := 164) (rest := [.int r]) C hW hl (qX12_alterRow l E h2) k1 (by decide) (by decide) rfl gvL_181 ⟨rfl, hdL_181⟩ rfl rfl (Nat.le_of_ble_eq_true rfl) dL_1539 ⟨Nat.le_of_ble_eq_true rfl, Nat.le_of_ble_eq_true rfl⟩ ⟨by show cells + _ + _ ≤ 600000; omega, by show slots + _ + _ ≤ 7302250; omega⟩ (fun H locs hW => ?_)
  refine lv_icmp_eq (tgt := 1953) C.x C.b dL_1542 rfl (fun _ => ?_) (fun c_ => absurd rfl c_)
  refine W.widen (k := cells + 15) (n := slots + 200) (by omega) (by omega) ?_
  exact kk _ _ _ hW v2
end LAWCASES
