section LAWCASES
theorem gvL_222 : GoodIn gT (wsV RL 222 "NylonLadder" yX11_keep (Cond.code yX11_keep cX11_keep 1 (some .int) :: gT)) := good_V T_6_29 T_6_30 T_6_31 T_1_1 T_6_32
theorem hdL_222 : yX11_keep.cls ≠ "java/lang/invoke/MethodHandle" ∧ yX11_keep.cls ≠ "java/lang/invoke/VarHandle" ∧ (parseMethodDescriptor yX11_keep.desc).map (fun d => d.parameters.length) = some 0 := by decide +kernel
theorem gvL_225 : GoodIn gT (wsV RL 225 "NylonLadderModel" yX12_keep (Cond.code yX12_keep cX12_keep 1 (some .int) :: gT)) := good_V T_8_228 T_8_229 T_8_230 T_1_10 T_8_231
theorem hdL_225 : yX12_keep.cls ≠ "java/lang/invoke/MethodHandle" ∧ yX12_keep.cls ≠ "java/lang/invoke/VarHandle" ∧ (parseMethodDescriptor yX12_keep.desc).map (fun d => d.parameters.length) = some 0 := by decide +kernel
theorem dL_1927 : decode code 1927 = .ok (.aload_n 1, 1) := by decide +kernel
theorem dL_1928 : decode code 1928 = .ok (.invokevirtual 222, 3) := by decide +kernel
theorem dL_1931 : decode code 1931 = .ok (.aload_n 2, 1) := by decide +kernel
theorem dL_1932 : decode code 1932 = .ok (.invokevirtual 225, 3) := by decide +kernel
theorem dL_1935 : decode code 1935 = .ok (.if_icmp .eq 18, 3) := by decide +kernel
set_option maxRecDepth 100000 in
set_option maxHeartbeats 4000000 in
theorem lc_50 {E : Ev} {p : Program} {l : Launch} {e : Env} {s : State} {m : MethodId} {below : List Frame} {meth : Method} {c : Code} {b L : Nat} {xs : Nat → Int32} {H : Heap} {locs : List Loc} {cells slots : Nat} {Q : State → Prop} {M : Mm} {ls : Array Slot} (Z : LwS E p s m meth c b L xs) (hW : Wx E s H locs M) (hi : Inv M) (L9 : L ≤ 2560) {i : Nat} (hl : lv_has ls 4 (LwL E b i)) (i4 : i + 4 < L) (hc : cells + 15 ≤ 600000) (hs : slots + 200 ≤ 7302250) (kk : ∀ (H : Heap) (locs : List Loc) (M : Mm), Wx E s H locs M → Inv M → W p l e room_1 s m #[Value.ref b] below meth c H locs (cells + 15) (slots + 200) Q (F0 m 1953 ls [])) : W p l e room_1 s m #[Value.ref b] below meth c H locs cells slots Q (F0 m 1927 ls []) := by
  have C := Z.1
  obtain ⟨r, M1, M2, h1, h2, k1, v2⟩ := iv_keep hi 
  refine lv_aload_n C.x C.b dL_1927 rfl (lv_at hl 1 rfl) ?_
  refine x_callV (As := []) (a := 0) (rest := []) C hW hl (qX11_keep l E h1) hi.k0 (by decide) (by decide) rfl gvL_222 ⟨rfl, hdL_222⟩ rfl rfl (Nat.le_of_ble_eq_true rfl) dL_1928 ⟨Nat.le_of_ble_eq_true rfl, Nat.le_of_ble_eq_true rfl⟩ ⟨by show cells + _ ≤ 600000; omega, by show slots + _ ≤ 7302250; omega⟩ (fun H locs hW => ?_)
  refine lv_aload_n C.x C.b dL_1931 rfl (lv_at hl 2 rfl) ?_
  refine x_callV (As := []) (a := 164) (rest := [.int r]) C hW hl (qX12_keep l E h2) k1 (by decide) (by decide) rfl gvL_225 ⟨rfl, hdL_225⟩ rfl rfl (Nat.le_of_ble_eq_true rfl) dL_1932 ⟨Nat.le_of_ble_eq_true rfl, Nat.le_of_ble_eq_true rfl⟩ ⟨by show cells + _ + _ ≤ 600000; omega, by show slots + _ + _ ≤ 7302250; omega⟩ (fun H locs hW => ?_)
  refine lv_icmp_eq (tgt := 1953) C.x C.b dL_1935 rfl (fun _ => ?_) (fun c_ => absurd rfl c_)
  refine W.widen (k := cells + 15) (n := slots + 200) (by omega) (by omega) ?_
  exact kk _ _ _ hW v2
theorem gvL_226 : GoodIn gT (wsV RL 226 "NylonLadder" yX11_again (Cond.code yX11_again cX11_again 1 (some .int) :: gT)) := good_V T_6_33 T_6_34 T_6_35 T_1_1 T_6_36
theorem hdL_226 : yX11_again.cls ≠ "java/lang/invoke/MethodHandle" ∧ yX11_again.cls ≠ "java/lang/invoke/VarHandle" ∧ (parseMethodDescriptor yX11_again.desc).map (fun d => d.parameters.length) = some 0 := by decide +kernel
theorem gvL_229 : GoodIn gT (wsV RL 229 "NylonLadderModel" yX12_again (Cond.code yX12_again cX12_again 1 (some .int) :: gT)) := good_V T_8_232 T_8_233 T_8_234 T_1_10 T_8_235
theorem hdL_229 : yX12_again.cls ≠ "java/lang/invoke/MethodHandle" ∧ yX12_again.cls ≠ "java/lang/invoke/VarHandle" ∧ (parseMethodDescriptor yX12_again.desc).map (fun d => d.parameters.length) = some 0 := by decide +kernel
theorem dL_1940 : decode code 1940 = .ok (.aload_n 1, 1) := by decide +kernel
theorem dL_1941 : decode code 1941 = .ok (.invokevirtual 226, 3) := by decide +kernel
theorem dL_1944 : decode code 1944 = .ok (.aload_n 2, 1) := by decide +kernel
theorem dL_1945 : decode code 1945 = .ok (.invokevirtual 229, 3) := by decide +kernel
theorem dL_1948 : decode code 1948 = .ok (.if_icmp .eq 5, 3) := by decide +kernel
set_option maxRecDepth 100000 in
set_option maxHeartbeats 4000000 in
theorem lc_51 {E : Ev} {p : Program} {l : Launch} {e : Env} {s : State} {m : MethodId} {below : List Frame} {meth : Method} {c : Code} {b L : Nat} {xs : Nat → Int32} {H : Heap} {locs : List Loc} {cells slots : Nat} {Q : State → Prop} {M : Mm} {ls : Array Slot} (Z : LwS E p s m meth c b L xs) (hW : Wx E s H locs M) (hi : Inv M) (L9 : L ≤ 2560) {i : Nat} (hl : lv_has ls 4 (LwL E b i)) (i4 : i + 4 < L) (hc : cells + 15 ≤ 600000) (hs : slots + 200 ≤ 7302250) (kk : ∀ (H : Heap) (locs : List Loc) (M : Mm), Wx E s H locs M → Inv M → W p l e room_1 s m #[Value.ref b] below meth c H locs (cells + 15) (slots + 200) Q (F0 m 1953 ls [])) : W p l e room_1 s m #[Value.ref b] below meth c H locs cells slots Q (F0 m 1940 ls []) := by
  have C := Z.1
  obtain ⟨r, M1, M2, h1, h2, k1, v2⟩ := iv_again hi 
  refine lv_aload_n C.x C.b dL_1940 rfl (lv_at hl 1 rfl) ?_
  refine x_callV (As := []) (a := 0) (rest := []) C hW hl (qX11_again l E h1) hi.k0 (by decide) (by decide) rfl gvL_226 ⟨rfl, hdL_226⟩ rfl rfl (Nat.le_of_ble_eq_true rfl) dL_1941 ⟨Nat.le_of_ble_eq_true rfl, Nat.le_of_ble_eq_true rfl⟩ ⟨by show cells + _ ≤ 600000; omega, by show slots + _ ≤ 7302250; omega⟩ (fun H locs hW => ?_)
  refine lv_aload_n C.x C.b dL_1944 rfl (lv_at hl 2 rfl) ?_
  refine x_callV (As := []) (a := 164) (rest := [.int r]) C hW hl (qX12_again l E h2) k1 (by decide) (by decide) rfl gvL_229 ⟨rfl, hdL_229⟩ rfl rfl (Nat.le_of_ble_eq_true rfl) dL_1945 ⟨Nat.le_of_ble_eq_true rfl, Nat.le_of_ble_eq_true rfl⟩ ⟨by show cells + _ + _ ≤ 600000; omega, by show slots + _ + _ ≤ 7302250; omega⟩ (fun H locs hW => ?_)
  refine lv_icmp_eq (tgt := 1953) C.x C.b dL_1948 rfl (fun _ => ?_) (fun c_ => absurd rfl c_)
  refine W.widen (k := cells + 15) (n := slots + 200) (by omega) (by omega) ?_
  exact kk _ _ _ hW v2
end LAWCASES
