section LAWCASES
theorem gvL_121 : GoodIn gT (wsV RL 121 "NylonLadder" yX11_turned (Cond.code yX11_turned cX11_turned 10 (some .int) :: gT)) := good_V T_4_5 T_4_6 T_4_7 T_1_1 T_4_8
theorem hdL_121 : yX11_turned.cls ≠ "java/lang/invoke/MethodHandle" ∧ yX11_turned.cls ≠ "java/lang/invoke/VarHandle" ∧ (parseMethodDescriptor yX11_turned.desc).map (fun d => d.parameters.length) = some 3 := by decide +kernel
theorem gvL_124 : GoodIn gT (wsV RL 124 "NylonLadderModel" yX12_turned (Cond.code yX12_turned cX12_turned 9 (some .int) :: gT)) := good_V T_7_158 T_7_159 T_7_160 T_1_10 T_7_161
theorem hdL_124 : yX12_turned.cls ≠ "java/lang/invoke/MethodHandle" ∧ yX12_turned.cls ≠ "java/lang/invoke/VarHandle" ∧ (parseMethodDescriptor yX12_turned.desc).map (fun d => d.parameters.length) = some 3 := by decide +kernel
theorem dL_1121 : decode code 1121 = .ok (.aload_n 1, 1) := by decide +kernel
theorem dL_1122 : decode code 1122 = .ok (.aload_n 0, 1) := by decide +kernel
theorem dL_1123 : decode code 1123 = .ok (.iload_n 3, 1) := by decide +kernel
theorem dL_1124 : decode code 1124 = .ok (.iconst 1, 1) := by decide +kernel
theorem dL_1125 : decode code 1125 = .ok (.iadd, 1) := by decide +kernel
theorem dL_1126 : decode code 1126 = .ok (.iaload, 1) := by decide +kernel
theorem dL_1127 : decode code 1127 = .ok (.aload_n 0, 1) := by decide +kernel
theorem dL_1128 : decode code 1128 = .ok (.iload_n 3, 1) := by decide +kernel
theorem dL_1129 : decode code 1129 = .ok (.iconst 2, 1) := by decide +kernel
theorem dL_1130 : decode code 1130 = .ok (.iadd, 1) := by decide +kernel
theorem dL_1131 : decode code 1131 = .ok (.iaload, 1) := by decide +kernel
theorem dL_1132 : decode code 1132 = .ok (.aload_n 0, 1) := by decide +kernel
theorem dL_1133 : decode code 1133 = .ok (.iload_n 3, 1) := by decide +kernel
theorem dL_1134 : decode code 1134 = .ok (.iconst 3, 1) := by decide +kernel
theorem dL_1135 : decode code 1135 = .ok (.iadd, 1) := by decide +kernel
theorem dL_1136 : decode code 1136 = .ok (.iaload, 1) := by decide +kernel
theorem dL_1137 : decode code 1137 = .ok (.invokevirtual 121, 3) := by decide +kernel
theorem dL_1140 : decode code 1140 = .ok (.aload_n 2, 1) := by decide +kernel
theorem dL_1141 : decode code 1141 = .ok (.aload_n 0, 1) := by decide +kernel
theorem dL_1142 : decode code 1142 = .ok (.iload_n 3, 1) := by decide +kernel
theorem dL_1143 : decode code 1143 = .ok (.iconst 1, 1) := by decide +kernel
theorem dL_1144 : decode code 1144 = .ok (.iadd, 1) := by decide +kernel
theorem dL_1145 : decode code 1145 = .ok (.iaload, 1) := by decide +kernel
theorem dL_1146 : decode code 1146 = .ok (.aload_n 0, 1) := by decide +kernel
theorem dL_1147 : decode code 1147 = .ok (.iload_n 3, 1) := by decide +kernel
theorem dL_1148 : decode code 1148 = .ok (.iconst 2, 1) := by decide +kernel
theorem dL_1149 : decode code 1149 = .ok (.iadd, 1) := by decide +kernel
theorem dL_1150 : decode code 1150 = .ok (.iaload, 1) := by decide +kernel
theorem dL_1151 : decode code 1151 = .ok (.aload_n 0, 1) := by decide +kernel
theorem dL_1152 : decode code 1152 = .ok (.iload_n 3, 1) := by decide +kernel
theorem dL_1153 : decode code 1153 = .ok (.iconst 3, 1) := by decide +kernel
theorem dL_1154 : decode code 1154 = .ok (.iadd, 1) := by decide +kernel
theorem dL_1155 : decode code 1155 = .ok (.iaload, 1) := by decide +kernel
theorem dL_1156 : decode code 1156 = .ok (.invokevirtual 124, 3) := by decide +kernel
theorem dL_1159 : decode code 1159 = .ok (.if_icmp .eq 794, 3) := by decide +kernel
set_option maxRecDepth 100000 in
set_option maxHeartbeats 4000000 in
theorem lc_25 {E : Ev} {p : Program} {l : Launch} {e : Env} {s : State} {m : MethodId} {below : List Frame} {meth : Method} {c : Code} {b L : Nat} {xs : Nat → Int32} {H : Heap} {locs : List Loc} {cells slots : Nat} {Q : State → Prop} {M : Mm} {ls : Array Slot} (Z : LwS E p s m meth c b L xs) (hW : Wx E s H locs M) (hi : Inv M) (L9 : L ≤ 2560) {i : Nat} (hl : lv_has ls 4 (LwL E b i)) (i4 : i + 4 < L) (hc : cells + 15 ≤ 600000) (hs : slots + 200 ≤ 7302250) (kk : ∀ (H : Heap) (locs : List Loc) (M : Mm), Wx E s H locs M → Inv M → W p l e room_1 s m #[Value.ref b] below meth c H locs (cells + 15) (slots + 200) Q (F0 m 1953 ls [])) : W p l e room_1 s m #[Value.ref b] below meth c H locs cells slots Q (F0 m 1121 ls []) := by
  have C := Z.1
  obtain ⟨r, M1, M2, h1, h2, k1, v2⟩ := iv_turned hi (xs (i + 1)) (xs (i + 2)) (xs (i + 3))
  refine lv_aload_n C.x C.b dL_1121 rfl (lv_at hl 1 rfl) ?_
  refine la_arg (j := 1) Z hW L9 hl (by omega) rfl dL_1122 dL_1123 dL_1124 dL_1125 dL_1126 ?_
  refine la_arg (j := 2) Z hW L9 hl (by omega) rfl dL_1127 dL_1128 dL_1129 dL_1130 dL_1131 ?_
  refine la_arg (j := 3) Z hW L9 hl (by omega) rfl dL_1132 dL_1133 dL_1134 dL_1135 dL_1136 ?_
  refine x_callV (As := [.int (xs (i + 1)), .int (xs (i + 2)), .int (xs (i + 3))]) (a := 0) (rest := []) C hW hl (qX11_turned l E h1) hi.k0 (by decide) (by decide) rfl gvL_121 ⟨rfl, hdL_121⟩ rfl rfl (Nat.le_of_ble_eq_true rfl) dL_1137 ⟨Nat.le_of_ble_eq_true rfl, Nat.le_of_ble_eq_true rfl⟩ ⟨by show cells + _ ≤ 600000; omega, by show slots + _ ≤ 7302250; omega⟩ (fun H locs hW => ?_)
  refine lv_aload_n C.x C.b dL_1140 rfl (lv_at hl 2 rfl) ?_
  refine la_arg (j := 1) Z hW L9 hl (by omega) rfl dL_1141 dL_1142 dL_1143 dL_1144 dL_1145 ?_
  refine la_arg (j := 2) Z hW L9 hl (by omega) rfl dL_1146 dL_1147 dL_1148 dL_1149 dL_1150 ?_
  refine la_arg (j := 3) Z hW L9 hl (by omega) rfl dL_1151 dL_1152 dL_1153 dL_1154 dL_1155 ?_
  refine x_callV (As := [.int (xs (i + 1)), .int (xs (i + 2)), .int (xs (i + 3))]) (a := 164) (rest := [.int r]) C hW hl (qX12_turned l E h2) k1 (by decide) (by decide) rfl gvL_124 ⟨rfl, hdL_124⟩ rfl rfl (Nat.le_of_ble_eq_true rfl) dL_1156 ⟨Nat.le_of_ble_eq_true rfl, Nat.le_of_ble_eq_true rfl⟩ ⟨by show cells + _ + _ ≤ 600000; omega, by show slots + _ + _ ≤ 7302250; omega⟩ (fun H locs hW => ?_)
  refine lv_icmp_eq (tgt := 1953) C.x C.b dL_1159 rfl (fun _ => ?_) (fun c_ => absurd rfl c_)
  refine W.widen (k := cells + 15) (n := slots + 200) (by omega) (by omega) ?_
  exact kk _ _ _ hW v2
theorem gvL_125 : GoodIn gT (wsV RL 125 "NylonLadder" yX11_better (Cond.code yX11_better cX11_better 3 (some .int) :: gT)) := good_V T_4_14 T_4_15 T_4_16 T_1_1 T_4_17
theorem hdL_125 : yX11_better.cls ≠ "java/lang/invoke/MethodHandle" ∧ yX11_better.cls ≠ "java/lang/invoke/VarHandle" ∧ (parseMethodDescriptor yX11_better.desc).map (fun d => d.parameters.length) = some 0 := by decide +kernel
theorem gvL_128 : GoodIn gT (wsV RL 128 "NylonLadderModel" yX12_better (Cond.code yX12_better cX12_better 3 (some .int) :: gT)) := good_V T_7_163 T_7_164 T_7_165 T_1_10 T_7_166
theorem hdL_128 : yX12_better.cls ≠ "java/lang/invoke/MethodHandle" ∧ yX12_better.cls ≠ "java/lang/invoke/VarHandle" ∧ (parseMethodDescriptor yX12_better.desc).map (fun d => d.parameters.length) = some 0 := by decide +kernel
theorem dL_1164 : decode code 1164 = .ok (.aload_n 1, 1) := by decide +kernel
theorem dL_1165 : decode code 1165 = .ok (.invokevirtual 125, 3) := by decide +kernel
theorem dL_1168 : decode code 1168 = .ok (.aload_n 2, 1) := by decide +kernel
theorem dL_1169 : decode code 1169 = .ok (.invokevirtual 128, 3) := by decide +kernel
theorem dL_1172 : decode code 1172 = .ok (.if_icmp .eq 781, 3) := by decide +kernel
set_option maxRecDepth 100000 in
set_option maxHeartbeats 4000000 in
theorem lc_26 {E : Ev} {p : Program} {l : Launch} {e : Env} {s : State} {m : MethodId} {below : List Frame} {meth : Method} {c : Code} {b L : Nat} {xs : Nat → Int32} {H : Heap} {locs : List Loc} {cells slots : Nat} {Q : State → Prop} {M : Mm} {ls : Array Slot} (Z : LwS E p s m meth c b L xs) (hW : Wx E s H locs M) (hi : Inv M) (L9 : L ≤ 2560) {i : Nat} (hl : lv_has ls 4 (LwL E b i)) (i4 : i + 4 < L) (hc : cells + 15 ≤ 600000) (hs : slots + 200 ≤ 7302250) (kk : ∀ (H : Heap) (locs : List Loc) (M : Mm), Wx E s H locs M → Inv M → W p l e room_1 s m #[Value.ref b] below meth c H locs (cells + 15) (slots + 200) Q (F0 m 1953 ls [])) : W p l e room_1 s m #[Value.ref b] below meth c H locs cells slots Q (F0 m 1164 ls []) := by
  have C := Z.1
  obtain ⟨r, M1, M2, h1, h2, k1, v2⟩ := iv_better hi 
  refine lv_aload_n C.x C.b dL_1164 rfl (lv_at hl 1 rfl) ?_
  refine x_callV (As := []) (a := 0) (rest := []) C hW hl (qX11_better l E h1) hi.k0 (by decide) (by decide) rfl gvL_125 ⟨rfl, hdL_125⟩ rfl rfl (Nat.le_of_ble_eq_true rfl) dL_1165 ⟨Nat.le_of_ble_eq_true rfl, Nat.le_of_ble_eq_true rfl⟩ ⟨by show cells + _ ≤ 600000; omega, by show slots + _ ≤ 7302250; omega⟩ (fun H locs hW => ?_)
  refine lv_aload_n C.x C.b dL_1168 rfl (lv_at hl 2 rfl) ?_
  refine x_callV (As := []) (a := 164) (rest := [.int r]) C hW hl (qX12_better l E h2) k1 (by decide) (by decide) rfl gvL_128 ⟨rfl, hdL_128⟩ rfl rfl (Nat.le_of_ble_eq_true rfl) dL_1169 ⟨Nat.le_of_ble_eq_true rfl, Nat.le_of_ble_eq_true rfl⟩ ⟨by show cells + _ + _ ≤ 600000; omega, by show slots + _ + _ ≤ 7302250; omega⟩ (fun H locs hW => ?_)
  refine lv_icmp_eq (tgt := 1953) C.x C.b dL_1172 rfl (fun _ => ?_) (fun c_ => absurd rfl c_)
  refine W.widen (k := cells + 15) (n := slots + 200) (by omega) (by omega) ?_
  exact kk _ _ _ hW v2
theorem gvL_129 : GoodIn gT (wsV RL 129 "NylonLadder" yX11_good (Cond.code yX11_good cX11_good 3 (some .int) :: gT)) := good_V T_4_22 T_4_23 T_4_24 T_1_1 T_4_25
theorem hdL_129 : yX11_good.cls ≠ "java/lang/invoke/MethodHandle" ∧ yX11_good.cls ≠ "java/lang/invoke/VarHandle" ∧ (parseMethodDescriptor yX11_good.desc).map (fun d => d.parameters.length) = some 0 := by decide +kernel
theorem gvL_132 : GoodIn gT (wsV RL 132 "NylonLadderModel" yX12_good (Cond.code yX12_good cX12_good 3 (some .int) :: gT)) := good_V T_7_171 T_7_172 T_7_173 T_1_10 T_7_174
theorem hdL_132 : yX12_good.cls ≠ "java/lang/invoke/MethodHandle" ∧ yX12_good.cls ≠ "java/lang/invoke/VarHandle" ∧ (parseMethodDescriptor yX12_good.desc).map (fun d => d.parameters.length) = some 0 := by decide +kernel
theorem dL_1177 : decode code 1177 = .ok (.aload_n 1, 1) := by decide +kernel
theorem dL_1178 : decode code 1178 = .ok (.invokevirtual 129, 3) := by decide +kernel
theorem dL_1181 : decode code 1181 = .ok (.aload_n 2, 1) := by decide +kernel
theorem dL_1182 : decode code 1182 = .ok (.invokevirtual 132, 3) := by decide +kernel
theorem dL_1185 : decode code 1185 = .ok (.if_icmp .eq 768, 3) := by decide +kernel
set_option maxRecDepth 100000 in
set_option maxHeartbeats 4000000 in
theorem lc_27 {E : Ev} {p : Program} {l : Launch} {e : Env} {s : State} {m : MethodId} {below : List Frame} {meth : Method} {c : Code} {b L : Nat} {xs : Nat → Int32} {H : Heap} {locs : List Loc} {cells slots : Nat} {Q : State → Prop} {M : Mm} {ls : Array Slot} (Z : LwS E p s m meth c b L xs) (hW : Wx E s H locs M) (hi : Inv M) (L9 : L ≤ 2560) {i : Nat} (hl : lv_has ls 4 (LwL E b i)) (i4 : i + 4 < L) (hc : cells + 15 ≤ 600000) (hs : slots + 200 ≤ 7302250) (kk : ∀ (H : Heap) (locs : List Loc) (M : Mm), Wx E s H locs M → Inv M → W p l e room_1 s m #[Value.ref b] below meth c H locs (cells + 15) (slots + 200) Q (F0 m 1953 ls [])) : W p l e room_1 s m #[Value.ref b] below meth c H locs cells slots Q (F0 m 1177 ls []) := by
  have C := Z.1
  obtain ⟨r, h1, h2⟩ := iv_good hi 
  refine lv_aload_n C.x C.b dL_1177 rfl (lv_at hl 1 rfl) ?_
  refine x_callV (As := []) (a := 0) (rest := []) C hW hl (qX11_good l E h1) hi.k0 (by decide) (by decide) rfl gvL_129 ⟨rfl, hdL_129⟩ rfl rfl (Nat.le_of_ble_eq_true rfl) dL_1178 ⟨Nat.le_of_ble_eq_true rfl, Nat.le_of_ble_eq_true rfl⟩ ⟨by show cells + _ ≤ 600000; omega, by show slots + _ ≤ 7302250; omega⟩ (fun H locs hW => ?_)
  refine lv_aload_n C.x C.b dL_1181 rfl (lv_at hl 2 rfl) ?_
  refine x_callV (As := []) (a := 164) (rest := [.int r]) C hW hl (qX12_good l E h2) hi.k164 (by decide) (by decide) rfl gvL_132 ⟨rfl, hdL_132⟩ rfl rfl (Nat.le_of_ble_eq_true rfl) dL_1182 ⟨Nat.le_of_ble_eq_true rfl, Nat.le_of_ble_eq_true rfl⟩ ⟨by show cells + _ + _ ≤ 600000; omega, by show slots + _ + _ ≤ 7302250; omega⟩ (fun H locs hW => ?_)
  refine lv_icmp_eq (tgt := 1953) C.x C.b dL_1185 rfl (fun _ => ?_) (fun c_ => absurd rfl c_)
  refine W.widen (k := cells + 15) (n := slots + 200) (by omega) (by omega) ?_
  exact kk _ _ _ hW hi
theorem gvL_133 : GoodIn gT (wsV RL 133 "NylonLadder" yX11_pairs (Cond.code yX11_pairs cX11_pairs 5 (some .int) :: gT)) := good_V T_4_34 T_4_35 T_4_36 T_1_1 T_4_37
theorem hdL_133 : yX11_pairs.cls ≠ "java/lang/invoke/MethodHandle" ∧ yX11_pairs.cls ≠ "java/lang/invoke/VarHandle" ∧ (parseMethodDescriptor yX11_pairs.desc).map (fun d => d.parameters.length) = some 0 := by decide +kernel
theorem gvL_136 : GoodIn gT (wsV RL 136 "NylonLadderModel" yX12_pairs (Cond.code yX12_pairs cX12_pairs 5 (some .int) :: gT)) := good_V T_7_179 T_7_180 T_7_181 T_1_10 T_7_182
theorem hdL_136 : yX12_pairs.cls ≠ "java/lang/invoke/MethodHandle" ∧ yX12_pairs.cls ≠ "java/lang/invoke/VarHandle" ∧ (parseMethodDescriptor yX12_pairs.desc).map (fun d => d.parameters.length) = some 0 := by decide +kernel
theorem dL_1190 : decode code 1190 = .ok (.aload_n 1, 1) := by decide +kernel
theorem dL_1191 : decode code 1191 = .ok (.invokevirtual 133, 3) := by decide +kernel
theorem dL_1194 : decode code 1194 = .ok (.aload_n 2, 1) := by decide +kernel
theorem dL_1195 : decode code 1195 = .ok (.invokevirtual 136, 3) := by decide +kernel
theorem dL_1198 : decode code 1198 = .ok (.if_icmp .eq 755, 3) := by decide +kernel
set_option maxRecDepth 100000 in
set_option maxHeartbeats 4000000 in
theorem lc_28 {E : Ev} {p : Program} {l : Launch} {e : Env} {s : State} {m : MethodId} {below : List Frame} {meth : Method} {c : Code} {b L : Nat} {xs : Nat → Int32} {H : Heap} {locs : List Loc} {cells slots : Nat} {Q : State → Prop} {M : Mm} {ls : Array Slot} (Z : LwS E p s m meth c b L xs) (hW : Wx E s H locs M) (hi : Inv M) (L9 : L ≤ 2560) {i : Nat} (hl : lv_has ls 4 (LwL E b i)) (i4 : i + 4 < L) (hc : cells + 15 ≤ 600000) (hs : slots + 200 ≤ 7302250) (kk : ∀ (H : Heap) (locs : List Loc) (M : Mm), Wx E s H locs M → Inv M → W p l e room_1 s m #[Value.ref b] below meth c H locs (cells + 15) (slots + 200) Q (F0 m 1953 ls [])) : W p l e room_1 s m #[Value.ref b] below meth c H locs cells slots Q (F0 m 1190 ls []) := by
  have C := Z.1
  obtain ⟨r, h1, h2⟩ := iv_pairs hi 
  refine lv_aload_n C.x C.b dL_1190 rfl (lv_at hl 1 rfl) ?_
  refine x_callV (As := []) (a := 0) (rest := []) C hW hl (qX11_pairs l E h1) hi.k0 (by decide) (by decide) rfl gvL_133 ⟨rfl, hdL_133⟩ rfl rfl (Nat.le_of_ble_eq_true rfl) dL_1191 ⟨Nat.le_of_ble_eq_true rfl, Nat.le_of_ble_eq_true rfl⟩ ⟨by show cells + _ ≤ 600000; omega, by show slots + _ ≤ 7302250; omega⟩ (fun H locs hW => ?_)
  refine lv_aload_n C.x C.b dL_1194 rfl (lv_at hl 2 rfl) ?_
  refine x_callV (As := []) (a := 164) (rest := [.int r]) C hW hl (qX12_pairs l E h2) hi.k164 (by decide) (by decide) rfl gvL_136 ⟨rfl, hdL_136⟩ rfl rfl (Nat.le_of_ble_eq_true rfl) dL_1195 ⟨Nat.le_of_ble_eq_true rfl, Nat.le_of_ble_eq_true rfl⟩ ⟨by show cells + _ + _ ≤ 600000; omega, by show slots + _ + _ ≤ 7302250; omega⟩ (fun H locs hW => ?_)
  refine lv_icmp_eq (tgt := 1953) C.x C.b dL_1198 rfl (fun _ => ?_) (fun c_ => absurd rfl c_)
  refine W.widen (k := cells + 15) (n := slots + 200) (by omega) (by omega) ?_
  exact kk _ _ _ hW hi
theorem gvL_137 : GoodIn gT (wsV RL 137 "NylonLadder" yX11_mate (Cond.code yX11_mate cX11_mate 3 (some .int) :: gT)) := good_V T_4_43 T_4_44 T_4_45 T_1_1 T_4_46
theorem hdL_137 : yX11_mate.cls ≠ "java/lang/invoke/MethodHandle" ∧ yX11_mate.cls ≠ "java/lang/invoke/VarHandle" ∧ (parseMethodDescriptor yX11_mate.desc).map (fun d => d.parameters.length) = some 1 := by decide +kernel
theorem gvL_140 : GoodIn gT (wsV RL 140 "NylonLadderModel" yX12_mate (Cond.code yX12_mate cX12_mate 3 (some .int) :: gT)) := good_V T_7_187 T_7_188 T_7_189 T_1_10 T_7_190
theorem hdL_140 : yX12_mate.cls ≠ "java/lang/invoke/MethodHandle" ∧ yX12_mate.cls ≠ "java/lang/invoke/VarHandle" ∧ (parseMethodDescriptor yX12_mate.desc).map (fun d => d.parameters.length) = some 1 := by decide +kernel
theorem dL_1203 : decode code 1203 = .ok (.aload_n 1, 1) := by decide +kernel
theorem dL_1204 : decode code 1204 = .ok (.aload_n 0, 1) := by decide +kernel
theorem dL_1205 : decode code 1205 = .ok (.iload_n 3, 1) := by decide +kernel
theorem dL_1206 : decode code 1206 = .ok (.iconst 1, 1) := by decide +kernel
theorem dL_1207 : decode code 1207 = .ok (.iadd, 1) := by decide +kernel
theorem dL_1208 : decode code 1208 = .ok (.iaload, 1) := by decide +kernel
theorem dL_1209 : decode code 1209 = .ok (.invokevirtual 137, 3) := by decide +kernel
theorem dL_1212 : decode code 1212 = .ok (.aload_n 2, 1) := by decide +kernel
theorem dL_1213 : decode code 1213 = .ok (.aload_n 0, 1) := by decide +kernel
theorem dL_1214 : decode code 1214 = .ok (.iload_n 3, 1) := by decide +kernel
theorem dL_1215 : decode code 1215 = .ok (.iconst 1, 1) := by decide +kernel
theorem dL_1216 : decode code 1216 = .ok (.iadd, 1) := by decide +kernel
theorem dL_1217 : decode code 1217 = .ok (.iaload, 1) := by decide +kernel
theorem dL_1218 : decode code 1218 = .ok (.invokevirtual 140, 3) := by decide +kernel
theorem dL_1221 : decode code 1221 = .ok (.if_icmp .eq 732, 3) := by decide +kernel
set_option maxRecDepth 100000 in
set_option maxHeartbeats 4000000 in
theorem lc_29 {E : Ev} {p : Program} {l : Launch} {e : Env} {s : State} {m : MethodId} {below : List Frame} {meth : Method} {c : Code} {b L : Nat} {xs : Nat → Int32} {H : Heap} {locs : List Loc} {cells slots : Nat} {Q : State → Prop} {M : Mm} {ls : Array Slot} (Z : LwS E p s m meth c b L xs) (hW : Wx E s H locs M) (hi : Inv M) (L9 : L ≤ 2560) {i : Nat} (hl : lv_has ls 4 (LwL E b i)) (i4 : i + 4 < L) (hc : cells + 15 ≤ 600000) (hs : slots + 200 ≤ 7302250) (kk : ∀ (H : Heap) (locs : List Loc) (M : Mm), Wx E s H locs M → Inv M → W p l e room_1 s m #[Value.ref b] below meth c H locs (cells + 15) (slots + 200) Q (F0 m 1953 ls [])) : W p l e room_1 s m #[Value.ref b] below meth c H locs cells slots Q (F0 m 1203 ls []) := by
  have C := Z.1
  obtain ⟨r, h1, h2⟩ := iv_mate hi (xs (i + 1))
  refine lv_aload_n C.x C.b dL_1203 rfl (lv_at hl 1 rfl) ?_
  refine la_arg (j := 1) Z hW L9 hl (by omega) rfl dL_1204 dL_1205 dL_1206 dL_1207 dL_1208 ?_
  refine x_callV (As := [.int (xs (i + 1))]) (a := 0) (rest := []) C hW hl (qX11_mate l E h1) hi.k0 (by decide) (by decide) rfl gvL_137 ⟨rfl, hdL_137⟩ rfl rfl (Nat.le_of_ble_eq_true rfl) dL_1209 ⟨Nat.le_of_ble_eq_true rfl, Nat.le_of_ble_eq_true rfl⟩ ⟨by show cells + _ ≤ 600000; omega, by show slots + _ ≤ 7302250; omega⟩ (fun H locs hW => ?_)
  refine lv_aload_n C.x C.b dL_1212 rfl (lv_at hl 2 rfl) ?_
  refine la_arg (j := 1) Z hW L9 hl (by omega) rfl dL_1213 dL_1214 dL_1215 dL_1216 dL_1217 ?_
  refine x_callV (As := [.int (xs (i + 1))]) (a := 164) (rest := [.int r]) C hW hl (qX12_mate l E h2) hi.k164 (by decide) (by decide) rfl gvL_140 ⟨rfl, hdL_140⟩ rfl rfl (Nat.le_of_ble_eq_true rfl) dL_1218 ⟨Nat.le_of_ble_eq_true rfl, Nat.le_of_ble_eq_true rfl⟩ ⟨by show cells + _ + _ ≤ 600000; omega, by show slots + _ + _ ≤ 7302250; omega⟩ (fun H locs hW => ?_)
  refine lv_icmp_eq (tgt := 1953) C.x C.b dL_1221 rfl (fun _ => ?_) (fun c_ => absurd rfl c_)
  refine W.widen (k := cells + 15) (n := slots + 200) (by omega) (by omega) ?_
  exact kk _ _ _ hW hi
end LAWCASES
