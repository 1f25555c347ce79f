section LAWCASES
theorem gvL_141 : GoodIn gT (wsV RL 141 "NylonLadder" yX11_costs (Cond.code yX11_costs cX11_costs 8 (some .long) :: gT)) := good_V T_4_52 T_4_53 T_4_54 T_1_1 T_4_55
theorem hdL_141 : yX11_costs.cls ≠ "java/lang/invoke/MethodHandle" ∧ yX11_costs.cls ≠ "java/lang/invoke/VarHandle" ∧ (parseMethodDescriptor yX11_costs.desc).map (fun d => d.parameters.length) = some 3 := by decide +kernel
theorem gvL_145 : GoodIn gT (wsV RL 145 "NylonLadderModel" yX12_costs (Cond.code yX12_costs cX12_costs 4 (some .long) :: gT)) := good_V T_7_195 T_7_196 T_7_197 T_1_10 T_7_198
theorem hdL_145 : yX12_costs.cls ≠ "java/lang/invoke/MethodHandle" ∧ yX12_costs.cls ≠ "java/lang/invoke/VarHandle" ∧ (parseMethodDescriptor yX12_costs.desc).map (fun d => d.parameters.length) = some 3 := by decide +kernel
theorem dL_1226 : decode code 1226 = .ok (.aload_n 1, 1) := by decide +kernel
theorem dL_1227 : decode code 1227 = .ok (.aload_n 0, 1) := by decide +kernel
theorem dL_1228 : decode code 1228 = .ok (.iload_n 3, 1) := by decide +kernel
theorem dL_1229 : decode code 1229 = .ok (.iconst 1, 1) := by decide +kernel
theorem dL_1230 : decode code 1230 = .ok (.iadd, 1) := by decide +kernel
theorem dL_1231 : decode code 1231 = .ok (.iaload, 1) := by decide +kernel
theorem dL_1232 : decode code 1232 = .ok (.aload_n 0, 1) := by decide +kernel
theorem dL_1233 : decode code 1233 = .ok (.iload_n 3, 1) := by decide +kernel
theorem dL_1234 : decode code 1234 = .ok (.iconst 2, 1) := by decide +kernel
theorem dL_1235 : decode code 1235 = .ok (.iadd, 1) := by decide +kernel
theorem dL_1236 : decode code 1236 = .ok (.iaload, 1) := by decide +kernel
theorem dL_1237 : decode code 1237 = .ok (.aload_n 0, 1) := by decide +kernel
theorem dL_1238 : decode code 1238 = .ok (.iload_n 3, 1) := by decide +kernel
theorem dL_1239 : decode code 1239 = .ok (.iconst 3, 1) := by decide +kernel
theorem dL_1240 : decode code 1240 = .ok (.iadd, 1) := by decide +kernel
theorem dL_1241 : decode code 1241 = .ok (.iaload, 1) := by decide +kernel
theorem dL_1242 : decode code 1242 = .ok (.invokevirtual 141, 3) := by decide +kernel
theorem dL_1245 : decode code 1245 = .ok (.aload_n 2, 1) := by decide +kernel
theorem dL_1246 : decode code 1246 = .ok (.aload_n 0, 1) := by decide +kernel
theorem dL_1247 : decode code 1247 = .ok (.iload_n 3, 1) := by decide +kernel
theorem dL_1248 : decode code 1248 = .ok (.iconst 1, 1) := by decide +kernel
theorem dL_1249 : decode code 1249 = .ok (.iadd, 1) := by decide +kernel
theorem dL_1250 : decode code 1250 = .ok (.iaload, 1) := by decide +kernel
theorem dL_1251 : decode code 1251 = .ok (.aload_n 0, 1) := by decide +kernel
theorem dL_1252 : decode code 1252 = .ok (.iload_n 3, 1) := by decide +kernel
theorem dL_1253 : decode code 1253 = .ok (.iconst 2, 1) := by decide +kernel
theorem dL_1254 : decode code 1254 = .ok (.iadd, 1) := by decide +kernel
theorem dL_1255 : decode code 1255 = .ok (.iaload, 1) := by decide +kernel
theorem dL_1256 : decode code 1256 = .ok (.aload_n 0, 1) := by decide +kernel
theorem dL_1257 : decode code 1257 = .ok (.iload_n 3, 1) := by decide +kernel
theorem dL_1258 : decode code 1258 = .ok (.iconst 3, 1) := by decide +kernel
theorem dL_1259 : decode code 1259 = .ok (.iadd, 1) := by decide +kernel
theorem dL_1260 : decode code 1260 = .ok (.iaload, 1) := by decide +kernel
theorem dL_1261 : decode code 1261 = .ok (.invokevirtual 145, 3) := by decide +kernel
theorem dL_1264 : decode code 1264 = .ok (.lcmp, 1) := by decide +kernel
theorem dL_1265 : decode code 1265 = .ok (.ifCond .eq 688, 3) := by decide +kernel
set_option maxRecDepth 100000 in
set_option maxHeartbeats 4000000 in
theorem lc_30 {E : Ev} {p : Program} {l : Launch} {e : Env} {s : State} {m : MethodId} {below : List Frame} {meth : Method} {c : Code} {b L : Nat} {xs : Nat → Int32} {H : Heap} {locs : List Loc} {cells slots : Nat} {Q : State → Prop} {M : Mm} {ls : Array Slot} (Z : LwS E p s m meth c b L xs) (hW : Wx E s H locs M) (hi : Inv M) (L9 : L ≤ 2560) {i : Nat} (hl : lv_has ls 4 (LwL E b i)) (i4 : i + 4 < L) (hc : cells + 15 ≤ 600000) (hs : slots + 200 ≤ 7302250) (kk : ∀ (H : Heap) (locs : List Loc) (M : Mm), Wx E s H locs M → Inv M → W p l e room_1 s m #[Value.ref b] below meth c H locs (cells + 15) (slots + 200) Q (F0 m 1953 ls [])) : W p l e room_1 s m #[Value.ref b] below meth c H locs cells slots Q (F0 m 1226 ls []) := by
  have C := Z.1
  obtain ⟨r, h1, h2⟩ := iv_costs hi (xs (i + 1)) (xs (i + 2)) (xs (i + 3))
  refine lv_aload_n C.x C.b dL_1226 rfl (lv_at hl 1 rfl) ?_
  refine la_arg (j := 1) Z hW L9 hl (by omega) rfl dL_1227 dL_1228 dL_1229 dL_1230 dL_1231 ?_
  refine la_arg (j := 2) Z hW L9 hl (by omega) rfl dL_1232 dL_1233 dL_1234 dL_1235 dL_1236 ?_
  refine la_arg (j := 3) Z hW L9 hl (by omega) rfl dL_1237 dL_1238 dL_1239 dL_1240 dL_1241 ?_
  refine x_callV (As := [.int (xs (i + 1)), .int (xs (i + 2)), .int (xs (i + 3))]) (a := 0) (rest := []) C hW hl (qX11_costs l E h1) hi.k0 (by decide) (by decide) rfl gvL_141 ⟨rfl, hdL_141⟩ rfl rfl (Nat.le_of_ble_eq_true rfl) dL_1242 ⟨Nat.le_of_ble_eq_true rfl, Nat.le_of_ble_eq_true rfl⟩ ⟨by show cells + _ ≤ 600000; omega, by show slots + _ ≤ 7302250; omega⟩ (fun H locs hW => ?_)
  refine lv_aload_n C.x C.b dL_1245 rfl (lv_at hl 2 rfl) ?_
  refine la_arg (j := 1) Z hW L9 hl (by omega) rfl dL_1246 dL_1247 dL_1248 dL_1249 dL_1250 ?_
  refine la_arg (j := 2) Z hW L9 hl (by omega) rfl dL_1251 dL_1252 dL_1253 dL_1254 dL_1255 ?_
  refine la_arg (j := 3) Z hW L9 hl (by omega) rfl dL_1256 dL_1257 dL_1258 dL_1259 dL_1260 ?_
  refine x_callV (As := [.int (xs (i + 1)), .int (xs (i + 2)), .int (xs (i + 3))]) (a := 164) (rest := [.long r]) C hW hl (qX12_costs l E h2) hi.k164 (by decide) (by decide) rfl gvL_145 ⟨rfl, hdL_145⟩ rfl rfl (Nat.le_of_ble_eq_true rfl) dL_1261 ⟨Nat.le_of_ble_eq_true rfl, Nat.le_of_ble_eq_true rfl⟩ ⟨by show cells + _ + _ ≤ 600000; omega, by show slots + _ + _ ≤ 7302250; omega⟩ (fun H locs hW => ?_)
  refine W.lcmp C.x C.b dL_1264 ?_
  refine lv_if_eq (tgt := 1953) C.x C.b dL_1265 rfl (fun _ => ?_) (fun c_ => absurd ((lg_cmp_eq r r).mpr rfl) c_)
  refine W.widen (k := cells + 15) (n := slots + 200) (by omega) (by omega) ?_
  exact kk _ _ _ hW hi
theorem gvL_146 : GoodIn gT (wsV RL 146 "NylonLadder" yX11_worth (Cond.code yX11_worth cX11_worth 4 (some .int) :: gT)) := good_V T_4_63 T_4_64 T_4_65 T_1_1 T_4_66
theorem hdL_146 : yX11_worth.cls ≠ "java/lang/invoke/MethodHandle" ∧ yX11_worth.cls ≠ "java/lang/invoke/VarHandle" ∧ (parseMethodDescriptor yX11_worth.desc).map (fun d => d.parameters.length) = some 1 := by decide +kernel
theorem gvL_149 : GoodIn gT (wsV RL 149 "NylonLadderModel" yX12_worth (Cond.code yX12_worth cX12_worth 6 (some .int) :: gT)) := good_V T_7_212 T_7_213 T_7_214 T_1_10 T_7_215
theorem hdL_149 : yX12_worth.cls ≠ "java/lang/invoke/MethodHandle" ∧ yX12_worth.cls ≠ "java/lang/invoke/VarHandle" ∧ (parseMethodDescriptor yX12_worth.desc).map (fun d => d.parameters.length) = some 1 := by decide +kernel
theorem dL_1270 : decode code 1270 = .ok (.aload_n 1, 1) := by decide +kernel
theorem dL_1271 : decode code 1271 = .ok (.aload_n 0, 1) := by decide +kernel
theorem dL_1272 : decode code 1272 = .ok (.iload_n 3, 1) := by decide +kernel
theorem dL_1273 : decode code 1273 = .ok (.iconst 1, 1) := by decide +kernel
theorem dL_1274 : decode code 1274 = .ok (.iadd, 1) := by decide +kernel
theorem dL_1275 : decode code 1275 = .ok (.iaload, 1) := by decide +kernel
theorem dL_1276 : decode code 1276 = .ok (.invokevirtual 146, 3) := by decide +kernel
theorem dL_1279 : decode code 1279 = .ok (.aload_n 2, 1) := by decide +kernel
theorem dL_1280 : decode code 1280 = .ok (.aload_n 0, 1) := by decide +kernel
theorem dL_1281 : decode code 1281 = .ok (.iload_n 3, 1) := by decide +kernel
theorem dL_1282 : decode code 1282 = .ok (.iconst 1, 1) := by decide +kernel
theorem dL_1283 : decode code 1283 = .ok (.iadd, 1) := by decide +kernel
theorem dL_1284 : decode code 1284 = .ok (.iaload, 1) := by decide +kernel
theorem dL_1285 : decode code 1285 = .ok (.invokevirtual 149, 3) := by decide +kernel
theorem dL_1288 : decode code 1288 = .ok (.if_icmp .eq 665, 3) := by decide +kernel
set_option maxRecDepth 100000 in
set_option maxHeartbeats 4000000 in
theorem lc_31 {E : Ev} {p : Program} {l : Launch} {e : Env} {s : State} {m : MethodId} {below : List Frame} {meth : Method} {c : Code} {b L : Nat} {xs : Nat → Int32} {H : Heap} {locs : List Loc} {cells slots : Nat} {Q : State → Prop} {M : Mm} {ls : Array Slot} (Z : LwS E p s m meth c b L xs) (hW : Wx E s H locs M) (hi : Inv M) (L9 : L ≤ 2560) {i : Nat} (hl : lv_has ls 4 (LwL E b i)) (i4 : i + 4 < L) (hc : cells + 15 ≤ 600000) (hs : slots + 200 ≤ 7302250) (kk : ∀ (H : Heap) (locs : List Loc) (M : Mm), Wx E s H locs M → Inv M → W p l e room_1 s m #[Value.ref b] below meth c H locs (cells + 15) (slots + 200) Q (F0 m 1953 ls [])) : W p l e room_1 s m #[Value.ref b] below meth c H locs cells slots Q (F0 m 1270 ls []) := by
  have C := Z.1
  obtain ⟨r, h1, h2⟩ := iv_worth hi (xs (i + 1))
  refine lv_aload_n C.x C.b dL_1270 rfl (lv_at hl 1 rfl) ?_
  refine la_arg (j := 1) Z hW L9 hl (by omega) rfl dL_1271 dL_1272 dL_1273 dL_1274 dL_1275 ?_
  refine x_callV (As := [.int (xs (i + 1))]) (a := 0) (rest := []) C hW hl (qX11_worth l E h1) hi.k0 (by decide) (by decide) rfl gvL_146 ⟨rfl, hdL_146⟩ rfl rfl (Nat.le_of_ble_eq_true rfl) dL_1276 ⟨Nat.le_of_ble_eq_true rfl, Nat.le_of_ble_eq_true rfl⟩ ⟨by show cells + _ ≤ 600000; omega, by show slots + _ ≤ 7302250; omega⟩ (fun H locs hW => ?_)
  refine lv_aload_n C.x C.b dL_1279 rfl (lv_at hl 2 rfl) ?_
  refine la_arg (j := 1) Z hW L9 hl (by omega) rfl dL_1280 dL_1281 dL_1282 dL_1283 dL_1284 ?_
  refine x_callV (As := [.int (xs (i + 1))]) (a := 164) (rest := [.int r]) C hW hl (qX12_worth l E h2) hi.k164 (by decide) (by decide) rfl gvL_149 ⟨rfl, hdL_149⟩ rfl rfl (Nat.le_of_ble_eq_true rfl) dL_1285 ⟨Nat.le_of_ble_eq_true rfl, Nat.le_of_ble_eq_true rfl⟩ ⟨by show cells + _ + _ ≤ 600000; omega, by show slots + _ + _ ≤ 7302250; omega⟩ (fun H locs hW => ?_)
  refine lv_icmp_eq (tgt := 1953) C.x C.b dL_1288 rfl (fun _ => ?_) (fun c_ => absurd rfl c_)
  refine W.widen (k := cells + 15) (n := slots + 200) (by omega) (by omega) ?_
  exact kk _ _ _ hW hi
theorem gvL_150 : GoodIn gT (wsV RL 150 "NylonLadder" yX11_since (Cond.code yX11_since cX11_since 7 (some .int) :: gT)) := good_V T_4_67 T_4_68 T_4_69 T_1_1 T_4_70
theorem hdL_150 : yX11_since.cls ≠ "java/lang/invoke/MethodHandle" ∧ yX11_since.cls ≠ "java/lang/invoke/VarHandle" ∧ (parseMethodDescriptor yX11_since.desc).map (fun d => d.parameters.length) = some 3 := by decide +kernel
theorem gvL_153 : GoodIn gT (wsV RL 153 "NylonLadderModel" yX12_since (Cond.code yX12_since cX12_since 5 (some .int) :: gT)) := good_V T_7_216 T_7_217 T_7_218 T_1_10 T_7_219
theorem hdL_153 : yX12_since.cls ≠ "java/lang/invoke/MethodHandle" ∧ yX12_since.cls ≠ "java/lang/invoke/VarHandle" ∧ (parseMethodDescriptor yX12_since.desc).map (fun d => d.parameters.length) = some 3 := by decide +kernel
theorem dL_1293 : decode code 1293 = .ok (.aload_n 1, 1) := by decide +kernel
theorem dL_1294 : decode code 1294 = .ok (.aload_n 0, 1) := by decide +kernel
theorem dL_1295 : decode code 1295 = .ok (.iload_n 3, 1) := by decide +kernel
theorem dL_1296 : decode code 1296 = .ok (.iconst 1, 1) := by decide +kernel
theorem dL_1297 : decode code 1297 = .ok (.iadd, 1) := by decide +kernel
theorem dL_1298 : decode code 1298 = .ok (.iaload, 1) := by decide +kernel
theorem dL_1299 : decode code 1299 = .ok (.aload_n 0, 1) := by decide +kernel
theorem dL_1300 : decode code 1300 = .ok (.iload_n 3, 1) := by decide +kernel
theorem dL_1301 : decode code 1301 = .ok (.iconst 2, 1) := by decide +kernel
theorem dL_1302 : decode code 1302 = .ok (.iadd, 1) := by decide +kernel
theorem dL_1303 : decode code 1303 = .ok (.iaload, 1) := by decide +kernel
theorem dL_1304 : decode code 1304 = .ok (.aload_n 0, 1) := by decide +kernel
theorem dL_1305 : decode code 1305 = .ok (.iload_n 3, 1) := by decide +kernel
theorem dL_1306 : decode code 1306 = .ok (.iconst 3, 1) := by decide +kernel
theorem dL_1307 : decode code 1307 = .ok (.iadd, 1) := by decide +kernel
theorem dL_1308 : decode code 1308 = .ok (.iaload, 1) := by decide +kernel
theorem dL_1309 : decode code 1309 = .ok (.invokevirtual 150, 3) := by decide +kernel
theorem dL_1312 : decode code 1312 = .ok (.aload_n 2, 1) := by decide +kernel
theorem dL_1313 : decode code 1313 = .ok (.aload_n 0, 1) := by decide +kernel
theorem dL_1314 : decode code 1314 = .ok (.iload_n 3, 1) := by decide +kernel
theorem dL_1315 : decode code 1315 = .ok (.iconst 1, 1) := by decide +kernel
theorem dL_1316 : decode code 1316 = .ok (.iadd, 1) := by decide +kernel
theorem dL_1317 : decode code 1317 = .ok (.iaload, 1) := by decide +kernel
theorem dL_1318 : decode code 1318 = .ok (.aload_n 0, 1) := by decide +kernel
theorem dL_1319 : decode code 1319 = .ok (.iload_n 3, 1) := by decide +kernel
theorem dL_1320 : decode code 1320 = .ok (.iconst 2, 1) := by decide +kernel
theorem dL_1321 : decode code 1321 = .ok (.iadd, 1) := by decide +kernel
theorem dL_1322 : decode code 1322 = .ok (.iaload, 1) := by decide +kernel
theorem dL_1323 : decode code 1323 = .ok (.aload_n 0, 1) := by decide +kernel
theorem dL_1324 : decode code 1324 = .ok (.iload_n 3, 1) := by decide +kernel
theorem dL_1325 : decode code 1325 = .ok (.iconst 3, 1) := by decide +kernel
theorem dL_1326 : decode code 1326 = .ok (.iadd, 1) := by decide +kernel
theorem dL_1327 : decode code 1327 = .ok (.iaload, 1) := by decide +kernel
theorem dL_1328 : decode code 1328 = .ok (.invokevirtual 153, 3) := by decide +kernel
theorem dL_1331 : decode code 1331 = .ok (.if_icmp .eq 622, 3) := by decide +kernel
set_option maxRecDepth 100000 in
set_option maxHeartbeats 4000000 in
theorem lc_32 {E : Ev} {p : Program} {l : Launch} {e : Env} {s : State} {m : MethodId} {below : List Frame} {meth : Method} {c : Code} {b L : Nat} {xs : Nat → Int32} {H : Heap} {locs : List Loc} {cells slots : Nat} {Q : State → Prop} {M : Mm} {ls : Array Slot} (Z : LwS E p s m meth c b L xs) (hW : Wx E s H locs M) (hi : Inv M) (L9 : L ≤ 2560) {i : Nat} (hl : lv_has ls 4 (LwL E b i)) (i4 : i + 4 < L) (hc : cells + 15 ≤ 600000) (hs : slots + 200 ≤ 7302250) (kk : ∀ (H : Heap) (locs : List Loc) (M : Mm), Wx E s H locs M → Inv M → W p l e room_1 s m #[Value.ref b] below meth c H locs (cells + 15) (slots + 200) Q (F0 m 1953 ls [])) : W p l e room_1 s m #[Value.ref b] below meth c H locs cells slots Q (F0 m 1293 ls []) := by
  have C := Z.1
  obtain ⟨r, M1, M2, h1, h2, k1, v2⟩ := iv_since hi (xs (i + 1)) (xs (i + 2)) (xs (i + 3))
  refine lv_aload_n C.x C.b dL_1293 rfl (lv_at hl 1 rfl) ?_
  refine la_arg (j := 1) Z hW L9 hl (by omega) rfl dL_1294 dL_1295 dL_1296 dL_1297 dL_1298 ?_
  refine la_arg (j := 2) Z hW L9 hl (by omega) rfl dL_1299 dL_1300 dL_1301 dL_1302 dL_1303 ?_
  refine la_arg (j := 3) Z hW L9 hl (by omega) rfl dL_1304 dL_1305 dL_1306 dL_1307 dL_1308 ?_
  refine x_callV (As := [.int (xs (i + 1)), .int (xs (i + 2)), .int (xs (i + 3))]) (a := 0) (rest := []) C hW hl (qX11_since l E h1) hi.k0 (by decide) (by decide) rfl gvL_150 ⟨rfl, hdL_150⟩ rfl rfl (Nat.le_of_ble_eq_true rfl) dL_1309 ⟨Nat.le_of_ble_eq_true rfl, Nat.le_of_ble_eq_true rfl⟩ ⟨by show cells + _ ≤ 600000; omega, by show slots + _ ≤ 7302250; omega⟩ (fun H locs hW => ?_)
  refine lv_aload_n C.x C.b dL_1312 rfl (lv_at hl 2 rfl) ?_
  refine la_arg (j := 1) Z hW L9 hl (by omega) rfl dL_1313 dL_1314 dL_1315 dL_1316 dL_1317 ?_
  refine la_arg (j := 2) Z hW L9 hl (by omega) rfl dL_1318 dL_1319 dL_1320 dL_1321 dL_1322 ?_
  refine la_arg (j := 3) Z hW L9 hl (by omega) rfl dL_1323 dL_1324 dL_1325 dL_1326 dL_1327 ?_
  refine x_callV (As := [.int (xs (i + 1)), .int (xs (i + 2)), .int (xs (i + 3))]) (a := 164) (rest := [.int r]) C hW hl (qX12_since l E h2) k1 (by decide) (by decide) rfl gvL_153 ⟨rfl, hdL_153⟩ rfl rfl (Nat.le_of_ble_eq_true rfl) dL_1328 ⟨Nat.le_of_ble_eq_true rfl, Nat.le_of_ble_eq_true rfl⟩ ⟨by show cells + _ + _ ≤ 600000; omega, by show slots + _ + _ ≤ 7302250; omega⟩ (fun H locs hW => ?_)
  refine lv_icmp_eq (tgt := 1953) C.x C.b dL_1331 rfl (fun _ => ?_) (fun c_ => absurd rfl c_)
  refine W.widen (k := cells + 15) (n := slots + 200) (by omega) (by omega) ?_
  exact kk _ _ _ hW v2
theorem gvL_154 : GoodIn gT (wsV RL 154 "NylonLadder" yX11_from (Cond.code yX11_from cX11_from 7 (some .int) :: gT)) := good_V T_4_76 T_4_77 T_4_78 T_1_1 T_4_79
theorem hdL_154 : yX11_from.cls ≠ "java/lang/invoke/MethodHandle" ∧ yX11_from.cls ≠ "java/lang/invoke/VarHandle" ∧ (parseMethodDescriptor yX11_from.desc).map (fun d => d.parameters.length) = some 3 := by decide +kernel
theorem gvL_157 : GoodIn gT (wsV RL 157 "NylonLadderModel" yX12_from (Cond.code yX12_from cX12_from 5 (some .int) :: gT)) := good_V T_7_224 T_7_225 T_7_226 T_1_10 T_7_227
theorem hdL_157 : yX12_from.cls ≠ "java/lang/invoke/MethodHandle" ∧ yX12_from.cls ≠ "java/lang/invoke/VarHandle" ∧ (parseMethodDescriptor yX12_from.desc).map (fun d => d.parameters.length) = some 3 := by decide +kernel
theorem dL_1336 : decode code 1336 = .ok (.aload_n 1, 1) := by decide +kernel
theorem dL_1337 : decode code 1337 = .ok (.aload_n 0, 1) := by decide +kernel
theorem dL_1338 : decode code 1338 = .ok (.iload_n 3, 1) := by decide +kernel
theorem dL_1339 : decode code 1339 = .ok (.iconst 1, 1) := by decide +kernel
theorem dL_1340 : decode code 1340 = .ok (.iadd, 1) := by decide +kernel
theorem dL_1341 : decode code 1341 = .ok (.iaload, 1) := by decide +kernel
theorem dL_1342 : decode code 1342 = .ok (.aload_n 0, 1) := by decide +kernel
theorem dL_1343 : decode code 1343 = .ok (.iload_n 3, 1) := by decide +kernel
theorem dL_1344 : decode code 1344 = .ok (.iconst 2, 1) := by decide +kernel
theorem dL_1345 : decode code 1345 = .ok (.iadd, 1) := by decide +kernel
theorem dL_1346 : decode code 1346 = .ok (.iaload, 1) := by decide +kernel
theorem dL_1347 : decode code 1347 = .ok (.aload_n 0, 1) := by decide +kernel
theorem dL_1348 : decode code 1348 = .ok (.iload_n 3, 1) := by decide +kernel
theorem dL_1349 : decode code 1349 = .ok (.iconst 3, 1) := by decide +kernel
theorem dL_1350 : decode code 1350 = .ok (.iadd, 1) := by decide +kernel
theorem dL_1351 : decode code 1351 = .ok (.iaload, 1) := by decide +kernel
theorem dL_1352 : decode code 1352 = .ok (.invokevirtual 154, 3) := by decide +kernel
theorem dL_1355 : decode code 1355 = .ok (.aload_n 2, 1) := by decide +kernel
theorem dL_1356 : decode code 1356 = .ok (.aload_n 0, 1) := by decide +kernel
theorem dL_1357 : decode code 1357 = .ok (.iload_n 3, 1) := by decide +kernel
theorem dL_1358 : decode code 1358 = .ok (.iconst 1, 1) := by decide +kernel
theorem dL_1359 : decode code 1359 = .ok (.iadd, 1) := by decide +kernel
theorem dL_1360 : decode code 1360 = .ok (.iaload, 1) := by decide +kernel
theorem dL_1361 : decode code 1361 = .ok (.aload_n 0, 1) := by decide +kernel
theorem dL_1362 : decode code 1362 = .ok (.iload_n 3, 1) := by decide +kernel
theorem dL_1363 : decode code 1363 = .ok (.iconst 2, 1) := by decide +kernel
theorem dL_1364 : decode code 1364 = .ok (.iadd, 1) := by decide +kernel
theorem dL_1365 : decode code 1365 = .ok (.iaload, 1) := by decide +kernel
theorem dL_1366 : decode code 1366 = .ok (.aload_n 0, 1) := by decide +kernel
theorem dL_1367 : decode code 1367 = .ok (.iload_n 3, 1) := by decide +kernel
theorem dL_1368 : decode code 1368 = .ok (.iconst 3, 1) := by decide +kernel
theorem dL_1369 : decode code 1369 = .ok (.iadd, 1) := by decide +kernel
theorem dL_1370 : decode code 1370 = .ok (.iaload, 1) := by decide +kernel
theorem dL_1371 : decode code 1371 = .ok (.invokevirtual 157, 3) := by decide +kernel
theorem dL_1374 : decode code 1374 = .ok (.if_icmp .eq 579, 3) := by decide +kernel
set_option maxRecDepth 100000 in
set_option maxHeartbeats 4000000 in
theorem lc_33 {E : Ev} {p : Program} {l : Launch} {e : Env} {s : State} {m : MethodId} {below : List Frame} {meth : Method} {c : Code} {b L : Nat} {xs : Nat → Int32} {H : Heap} {locs : List Loc} {cells slots : Nat} {Q : State → Prop} {M : Mm} {ls : Array Slot} (Z : LwS E p s m meth c b L xs) (hW : Wx E s H locs M) (hi : Inv M) (L9 : L ≤ 2560) {i : Nat} (hl : lv_has ls 4 (LwL E b i)) (i4 : i + 4 < L) (hc : cells + 15 ≤ 600000) (hs : slots + 200 ≤ 7302250) (kk : ∀ (H : Heap) (locs : List Loc) (M : Mm), Wx E s H locs M → Inv M → W p l e room_1 s m #[Value.ref b] below meth c H locs (cells + 15) (slots + 200) Q (F0 m 1953 ls [])) : W p l e room_1 s m #[Value.ref b] below meth c H locs cells slots Q (F0 m 1336 ls []) := by
  have C := Z.1
  obtain ⟨r, M1, M2, h1, h2, k1, v2⟩ := iv_from hi (xs (i + 1)) (xs (i + 2)) (xs (i + 3))
  refine lv_aload_n C.x C.b dL_1336 rfl (lv_at hl 1 rfl) ?_
  refine la_arg (j := 1) Z hW L9 hl (by omega) rfl dL_1337 dL_1338 dL_1339 dL_1340 dL_1341 ?_
  refine la_arg (j := 2) Z hW L9 hl (by omega) rfl dL_1342 dL_1343 dL_1344 dL_1345 dL_1346 ?_
  refine la_arg (j := 3) Z hW L9 hl (by omega) rfl dL_1347 dL_1348 dL_1349 dL_1350 dL_1351 ?_
  refine x_callV (As := [.int (xs (i + 1)), .int (xs (i + 2)), .int (xs (i + 3))]) (a := 0) (rest := []) C hW hl (qX11_from l E h1) hi.k0 (by decide) (by decide) rfl gvL_154 ⟨rfl, hdL_154⟩ rfl rfl (Nat.le_of_ble_eq_true rfl) dL_1352 ⟨Nat.le_of_ble_eq_true rfl, Nat.le_of_ble_eq_true rfl⟩ ⟨by show cells + _ ≤ 600000; omega, by show slots + _ ≤ 7302250; omega⟩ (fun H locs hW => ?_)
  refine lv_aload_n C.x C.b dL_1355 rfl (lv_at hl 2 rfl) ?_
  refine la_arg (j := 1) Z hW L9 hl (by omega) rfl dL_1356 dL_1357 dL_1358 dL_1359 dL_1360 ?_
  refine la_arg (j := 2) Z hW L9 hl (by omega) rfl dL_1361 dL_1362 dL_1363 dL_1364 dL_1365 ?_
  refine la_arg (j := 3) Z hW L9 hl (by omega) rfl dL_1366 dL_1367 dL_1368 dL_1369 dL_1370 ?_
  refine x_callV (As := [.int (xs (i + 1)), .int (xs (i + 2)), .int (xs (i + 3))]) (a := 164) (rest := [.int r]) C hW hl (qX12_from l E h2) k1 (by decide) (by decide) rfl gvL_157 ⟨rfl, hdL_157⟩ rfl rfl (Nat.le_of_ble_eq_true rfl) dL_1371 ⟨Nat.le_of_ble_eq_true rfl, Nat.le_of_ble_eq_true rfl⟩ ⟨by show cells + _ + _ ≤ 600000; omega, by show slots + _ + _ ≤ 7302250; omega⟩ (fun H locs hW => ?_)
  refine lv_icmp_eq (tgt := 1953) C.x C.b dL_1374 rfl (fun _ => ?_) (fun c_ => absurd rfl c_)
  refine W.widen (k := cells + 15) (n := slots + 200) (by omega) (by omega) ?_
  exact kk _ _ _ hW v2
theorem gvL_158 : GoodIn gT (wsV RL 158 "NylonLadder" yX11_seed (Cond.code yX11_seed cX11_seed 3 (some .int) :: gT)) := good_V T_4_80 T_4_81 T_4_82 T_1_1 T_4_83
theorem hdL_158 : yX11_seed.cls ≠ "java/lang/invoke/MethodHandle" ∧ yX11_seed.cls ≠ "java/lang/invoke/VarHandle" ∧ (parseMethodDescriptor yX11_seed.desc).map (fun d => d.parameters.length) = some 1 := by decide +kernel
theorem gvL_161 : GoodIn gT (wsV RL 161 "NylonLadderModel" yX12_seed (Cond.code yX12_seed cX12_seed 3 (some .int) :: gT)) := good_V T_7_228 T_7_229 T_7_230 T_1_10 T_7_231
theorem hdL_161 : yX12_seed.cls ≠ "java/lang/invoke/MethodHandle" ∧ yX12_seed.cls ≠ "java/lang/invoke/VarHandle" ∧ (parseMethodDescriptor yX12_seed.desc).map (fun d => d.parameters.length) = some 1 := by decide +kernel
theorem dL_1379 : decode code 1379 = .ok (.aload_n 1, 1) := by decide +kernel
theorem dL_1380 : decode code 1380 = .ok (.aload_n 0, 1) := by decide +kernel
theorem dL_1381 : decode code 1381 = .ok (.iload_n 3, 1) := by decide +kernel
theorem dL_1382 : decode code 1382 = .ok (.iconst 1, 1) := by decide +kernel
theorem dL_1383 : decode code 1383 = .ok (.iadd, 1) := by decide +kernel
theorem dL_1384 : decode code 1384 = .ok (.iaload, 1) := by decide +kernel
theorem dL_1385 : decode code 1385 = .ok (.invokevirtual 158, 3) := by decide +kernel
theorem dL_1388 : decode code 1388 = .ok (.aload_n 2, 1) := by decide +kernel
theorem dL_1389 : decode code 1389 = .ok (.aload_n 0, 1) := by decide +kernel
theorem dL_1390 : decode code 1390 = .ok (.iload_n 3, 1) := by decide +kernel
theorem dL_1391 : decode code 1391 = .ok (.iconst 1, 1) := by decide +kernel
theorem dL_1392 : decode code 1392 = .ok (.iadd, 1) := by decide +kernel
theorem dL_1393 : decode code 1393 = .ok (.iaload, 1) := by decide +kernel
theorem dL_1394 : decode code 1394 = .ok (.invokevirtual 161, 3) := by decide +kernel
theorem dL_1397 : decode code 1397 = .ok (.if_icmp .eq 556, 3) := by decide +kernel
set_option maxRecDepth 100000 in
set_option maxHeartbeats 4000000 in
theorem lc_34 {E : Ev} {p : Program} {l : Launch} {e : Env} {s : State} {m : MethodId} {below : List Frame} {meth : Method} {c : Code} {b L : Nat} {xs : Nat → Int32} {H : Heap} {locs : List Loc} {cells slots : Nat} {Q : State → Prop} {M : Mm} {ls : Array Slot} (Z : LwS E p s m meth c b L xs) (hW : Wx E s H locs M) (hi : Inv M) (L9 : L ≤ 2560) {i : Nat} (hl : lv_has ls 4 (LwL E b i)) (i4 : i + 4 < L) (hc : cells + 15 ≤ 600000) (hs : slots + 200 ≤ 7302250) (kk : ∀ (H : Heap) (locs : List Loc) (M : Mm), Wx E s H locs M → Inv M → W p l e room_1 s m #[Value.ref b] below meth c H locs (cells + 15) (slots + 200) Q (F0 m 1953 ls [])) : W p l e room_1 s m #[Value.ref b] below meth c H locs cells slots Q (F0 m 1379 ls []) := by
  have C := Z.1
  obtain ⟨r, M1, M2, h1, h2, k1, v2⟩ := iv_seed hi (xs (i + 1))
  refine lv_aload_n C.x C.b dL_1379 rfl (lv_at hl 1 rfl) ?_
  refine la_arg (j := 1) Z hW L9 hl (by omega) rfl dL_1380 dL_1381 dL_1382 dL_1383 dL_1384 ?_
  refine x_callV (As := [.int (xs (i + 1))]) (a := 0) (rest := []) C hW hl (qX11_seed l E h1) hi.k0 (by decide) (by decide) rfl gvL_158 ⟨rfl, hdL_158⟩ rfl rfl (Nat.le_of_ble_eq_true rfl) dL_1385 ⟨Nat.le_of_ble_eq_true rfl, Nat.le_of_ble_eq_true rfl⟩ ⟨by show cells + _ ≤ 600000; omega, by show slots + _ ≤ 7302250; omega⟩ (fun H locs hW => ?_)
  refine lv_aload_n C.x C.b dL_1388 rfl (lv_at hl 2 rfl) ?_
  refine la_arg (j := 1) Z hW L9 hl (by omega) rfl dL_1389 dL_1390 dL_1391 dL_1392 dL_1393 ?_
  refine x_callV (As := [.int (xs (i + 1))]) (a := 164) (rest := [.int r]) C hW hl (qX12_seed l E h2) k1 (by decide) (by decide) rfl gvL_161 ⟨rfl, hdL_161⟩ rfl rfl (Nat.le_of_ble_eq_true rfl) dL_1394 ⟨Nat.le_of_ble_eq_true rfl, Nat.le_of_ble_eq_true rfl⟩ ⟨by show cells + _ + _ ≤ 600000; omega, by show slots + _ + _ ≤ 7302250; omega⟩ (fun H locs hW => ?_)
  refine lv_icmp_eq (tgt := 1953) C.x C.b dL_1397 rfl (fun _ => ?_) (fun c_ => absurd rfl c_)
  refine W.widen (k := cells + 15) (n := slots + 200) (by omega) (by omega) ?_
  exact kk _ _ _ hW v2
end LAWCASES
