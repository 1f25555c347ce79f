theorem dX11_thingOf_0 : decode cX11_thingOf 0 = .ok (.iload_n 1, 1) := by decide +kernel
theorem dX11_thingOf_1 : decode cX11_thingOf 1 = .ok (.tableswitch 105 1 5 #[35, 49, 63, 77, 91], 35) := by decide +kernel
theorem dX11_thingOf_36 : decode cX11_thingOf 36 = .ok (.new 383, 3) := by decide +kernel
theorem dX11_thingOf_39 : decode cX11_thingOf 39 = .ok (.dup, 1) := by decide +kernel
theorem dX11_thingOf_40 : decode cX11_thingOf 40 = .ok (.iload_n 2, 1) := by decide +kernel
theorem dX11_thingOf_41 : decode cX11_thingOf 41 = .ok (.iload_n 3, 1) := by decide +kernel
theorem dX11_thingOf_42 : decode cX11_thingOf 42 = .ok (.aload_n 0, 1) := by decide +kernel
theorem dX11_thingOf_43 : decode cX11_thingOf 43 = .ok (.getfield 65, 3) := by decide +kernel
theorem dX11_thingOf_46 : decode cX11_thingOf 46 = .ok (.invokespecial 385, 3) := by decide +kernel
theorem dX11_thingOf_49 : decode cX11_thingOf 49 = .ok (.areturn, 1) := by decide +kernel
theorem dX11_thingOf_50 : decode cX11_thingOf 50 = .ok (.new 388, 3) := by decide +kernel
theorem dX11_thingOf_53 : decode cX11_thingOf 53 = .ok (.dup, 1) := by decide +kernel
theorem dX11_thingOf_54 : decode cX11_thingOf 54 = .ok (.iload_n 2, 1) := by decide +kernel
theorem dX11_thingOf_55 : decode cX11_thingOf 55 = .ok (.iload_n 3, 1) := by decide +kernel
theorem dX11_thingOf_56 : decode cX11_thingOf 56 = .ok (.aload_n 0, 1) := by decide +kernel
theorem dX11_thingOf_57 : decode cX11_thingOf 57 = .ok (.getfield 65, 3) := by decide +kernel
theorem dX11_thingOf_60 : decode cX11_thingOf 60 = .ok (.invokespecial 390, 3) := by decide +kernel
theorem dX11_thingOf_63 : decode cX11_thingOf 63 = .ok (.areturn, 1) := by decide +kernel
theorem dX11_thingOf_64 : decode cX11_thingOf 64 = .ok (.new 391, 3) := by decide +kernel
theorem dX11_thingOf_67 : decode cX11_thingOf 67 = .ok (.dup, 1) := by decide +kernel
theorem dX11_thingOf_68 : decode cX11_thingOf 68 = .ok (.iload_n 2, 1) := by decide +kernel
theorem dX11_thingOf_69 : decode cX11_thingOf 69 = .ok (.iload_n 3, 1) := by decide +kernel
theorem dX11_thingOf_70 : decode cX11_thingOf 70 = .ok (.aload_n 0, 1) := by decide +kernel
theorem dX11_thingOf_71 : decode cX11_thingOf 71 = .ok (.getfield 65, 3) := by decide +kernel
theorem dX11_thingOf_74 : decode cX11_thingOf 74 = .ok (.invokespecial 393, 3) := by decide +kernel
theorem dX11_thingOf_77 : decode cX11_thingOf 77 = .ok (.areturn, 1) := by decide +kernel
theorem dX11_thingOf_78 : decode cX11_thingOf 78 = .ok (.new 394, 3) := by decide +kernel
theorem dX11_thingOf_81 : decode cX11_thingOf 81 = .ok (.dup, 1) := by decide +kernel
theorem dX11_thingOf_82 : decode cX11_thingOf 82 = .ok (.iload_n 2, 1) := by decide +kernel
theorem dX11_thingOf_83 : decode cX11_thingOf 83 = .ok (.iload_n 3, 1) := by decide +kernel
theorem dX11_thingOf_84 : decode cX11_thingOf 84 = .ok (.aload_n 0, 1) := by decide +kernel
theorem dX11_thingOf_85 : decode cX11_thingOf 85 = .ok (.getfield 65, 3) := by decide +kernel
theorem dX11_thingOf_88 : decode cX11_thingOf 88 = .ok (.invokespecial 396, 3) := by decide +kernel
theorem dX11_thingOf_91 : decode cX11_thingOf 91 = .ok (.areturn, 1) := by decide +kernel
theorem dX11_thingOf_92 : decode cX11_thingOf 92 = .ok (.new 397, 3) := by decide +kernel
theorem dX11_thingOf_95 : decode cX11_thingOf 95 = .ok (.dup, 1) := by decide +kernel
theorem dX11_thingOf_96 : decode cX11_thingOf 96 = .ok (.iload_n 2, 1) := by decide +kernel
theorem dX11_thingOf_97 : decode cX11_thingOf 97 = .ok (.iload_n 3, 1) := by decide +kernel
theorem dX11_thingOf_98 : decode cX11_thingOf 98 = .ok (.aload_n 0, 1) := by decide +kernel
theorem dX11_thingOf_99 : decode cX11_thingOf 99 = .ok (.getfield 65, 3) := by decide +kernel
theorem dX11_thingOf_102 : decode cX11_thingOf 102 = .ok (.invokespecial 399, 3) := by decide +kernel
theorem dX11_thingOf_105 : decode cX11_thingOf 105 = .ok (.areturn, 1) := by decide +kernel
theorem dX11_thingOf_106 : decode cX11_thingOf 106 = .ok (.new 336, 3) := by decide +kernel
theorem dX11_thingOf_109 : decode cX11_thingOf 109 = .ok (.dup, 1) := by decide +kernel
theorem dX11_thingOf_110 : decode cX11_thingOf 110 = .ok (.iload_n 2, 1) := by decide +kernel
theorem dX11_thingOf_111 : decode cX11_thingOf 111 = .ok (.iload_n 3, 1) := by decide +kernel
theorem dX11_thingOf_112 : decode cX11_thingOf 112 = .ok (.aload_n 0, 1) := by decide +kernel
theorem dX11_thingOf_113 : decode cX11_thingOf 113 = .ok (.getfield 65, 3) := by decide +kernel
theorem dX11_thingOf_116 : decode cX11_thingOf 116 = .ok (.invokespecial 400, 3) := by decide +kernel
theorem dX11_thingOf_119 : decode cX11_thingOf 119 = .ok (.areturn, 1) := by decide +kernel
theorem nw_X11_383 : NwO "NylonLadder" 383 8 4 := ⟨_, _, _, rfl, by decide, by decide, gxX5, tyX5_ok, T_4_201, T_4_202, T_1_18, fun _ => rfl, by decide +kernel⟩
theorem fg_X11_65_14 : FdG "NylonLadder" 65 14 11 true := ⟨_, _, _, _, rfl, by decide, by decide, by decide, gxX11, by decide, T_2_1, Or.inl rfl, rfl⟩
theorem nw_X11_388 : NwO "NylonLadder" 388 12 4 := ⟨_, _, _, rfl, by decide, by decide, gxX9, tyX9_ok, T_5_6, T_5_7, T_1_19, fun _ => rfl, by decide +kernel⟩
theorem nw_X11_391 : NwO "NylonLadder" 391 5 4 := ⟨_, _, _, rfl, by decide, by decide, gxX2, tyX2_ok, T_5_17, T_5_18, T_1_20, fun _ => rfl, by decide +kernel⟩
theorem hd_X2_init : yX2_init.cls ≠ "java/lang/invoke/MethodHandle" ∧ yX2_init.cls ≠ "java/lang/invoke/VarHandle" ∧ (parseMethodDescriptor yX2_init.desc).map (fun d => d.parameters.length) = some 3 := by decide +kernel
theorem nw_X11_394 : NwO "NylonLadder" 394 4 4 := ⟨_, _, _, rfl, by decide, by decide, gxX1, tyX1_ok, T_5_28, T_5_29, T_1_21, fun _ => rfl, by decide +kernel⟩
theorem hd_X1_init : yX1_init.cls ≠ "java/lang/invoke/MethodHandle" ∧ yX1_init.cls ≠ "java/lang/invoke/VarHandle" ∧ (parseMethodDescriptor yX1_init.desc).map (fun d => d.parameters.length) = some 3 := by decide +kernel
theorem nw_X11_397 : NwO "NylonLadder" 397 6 4 := ⟨_, _, _, rfl, by decide, by decide, gxX3, tyX3_ok, T_5_39, T_5_40, T_1_22, fun _ => rfl, by decide +kernel⟩
theorem hd_X3_init : yX3_init.cls ≠ "java/lang/invoke/MethodHandle" ∧ yX3_init.cls ≠ "java/lang/invoke/VarHandle" ∧ (parseMethodDescriptor yX3_init.desc).map (fun d => d.parameters.length) = some 3 := by decide +kernel
theorem nw_X11_336 : NwO "NylonLadder" 336 7 4 := ⟨_, _, _, rfl, by decide, by decide, gxX4, tyX4_ok, T_5_50, T_5_51, T_1_17, fun _ => rfl, by decide +kernel⟩
def fX11_thingOf (M : Mm) (o : Nat) (p1 : Int32) (p2 : Int32) (p3 : Int32) : Option (Option Nat × Mm) :=
  if p1 = 1 then
    B1 (nwO M 8) fun M36_1 =>
    B1 (rdN M36_1 o 14 11) fun a43_2 =>
    B1 (fX5_init_k8 M36_1 M.n p2 p3 a43_2) fun M46_3 =>
    some ((some M.n), M46_3)
  else
    if p1 = 2 then
      B1 (nwO M 12) fun M50_4 =>
      B1 (rdN M50_4 o 14 11) fun a57_5 =>
      B1 (fX9_init_k12 M50_4 M.n p2 p3 a57_5) fun M60_6 =>
      some ((some M.n), M60_6)
    else
      if p1 = 3 then
        B1 (nwO M 5) fun M64_7 =>
        B1 (rdN M64_7 o 14 11) fun a71_8 =>
        B1 (fX2_init_k5 M64_7 M.n p2 p3 a71_8) fun M74_9 =>
        some ((some M.n), M74_9)
      else
        if p1 = 4 then
          B1 (nwO M 4) fun M78_10 =>
          B1 (rdN M78_10 o 14 11) fun a85_11 =>
          B1 (fX1_init_k4 M78_10 M.n p2 p3 a85_11) fun M88_12 =>
          some ((some M.n), M88_12)
        else
          if p1 = 5 then
            B1 (nwO M 6) fun M92_13 =>
            B1 (rdN M92_13 o 14 11) fun a99_14 =>
            B1 (fX3_init_k6 M92_13 M.n p2 p3 a99_14) fun M102_15 =>
            some ((some M.n), M102_15)
          else
            B1 (nwO M 7) fun M106_16 =>
            B1 (rdN M106_16 o 14 11) fun a113_17 =>
            B1 (fX4_init_k7 M106_16 M.n p2 p3 a113_17) fun M116_18 =>
            some ((some M.n), M116_18)
set_option maxRecDepth 100000 in
set_option maxHeartbeats 4000000 in
theorem qX11_thingOf (l : Launch) (E : Ev) {M : Mm} {o : Nat} {p1 : Int32} {p2 : Int32} {p3 : Int32} {rz : Option Nat} {Mz : Mm} (hf : fX11_thingOf M o p1 p2 p3 = some (rz, Mz)) : Ct l E yX11_thingOf cX11_thingOf 4 (some (.object "NylonLadder$Plain")) 4 81 1 4 [.ref (E.b + o), .int p1, .int p2, .int p3] M (some (rv E.b rz)) Mz := by
  refine ct_of (by decide +kernel) (Nat.le_of_ble_eq_true rfl) fun p e s m args below meth c C hr hin hW ls hl => ?_
  have hl : lv_has ls 4 [(0, .ref (E.b + o)), (1, .int p1), (2, .int p2), (3, .int p3)] := hl
  unfold fX11_thingOf at hf
  refine lv_iload_n C.x C.b dX11_thingOf_0 rfl (lv_at hl 1 rfl) ?_
  by_cases s1_1 : p1 = 1
  · replace hf := x_ip s1_1 hf
    refine lv_tableIn (off := 35) (tgt := 36) C.x C.b dX11_thingOf_1 (by rw [s1_1]; decide) (by rw [s1_1]; decide) (by rw [s1_1]; rfl) rfl ?_
    replace hf := x_b1 hf; obtain ⟨M36_1, hM36_1, hf⟩ := hf
    refine x_newo C hW hM36_1 nw_X11_383 dX11_thingOf_36 ⟨Nat.le_of_ble_eq_true rfl, Nat.le_of_ble_eq_true rfl⟩ (fun H hW => ?_)
    refine lv_dup C.x C.b dX11_thingOf_39 rfl ?_
    refine lv_iload_n C.x C.b dX11_thingOf_40 rfl (lv_at hl 2 rfl) ?_
    refine lv_iload_n C.x C.b dX11_thingOf_41 rfl (lv_at hl 3 rfl) ?_
    refine lv_aload_n C.x C.b dX11_thingOf_42 rfl (lv_at hl 0 rfl) ?_
    replace hf := x_b1 hf; obtain ⟨a43_2, ha43_2, hf⟩ := hf
    refine x_getn C hW fg_X11_65_14 ha43_2 dX11_thingOf_43 ?_
    replace hf := x_b1 hf; obtain ⟨M46_3, hM46_3, hf⟩ := hf
    refine x_callI (As := [.int p2, .int p3, .ref (E.b + a43_2)]) (a := M.n) (rest := [.ref (E.b + M.n)]) C hW hl (qX5_init_k8 l E hM46_3) T_4_203 T_4_204 T_1_18 T_4_205 rfl hd_X5_init rfl rfl (Nat.le_of_ble_eq_true rfl) dX11_thingOf_46 ⟨Nat.le_of_ble_eq_true rfl, Nat.le_of_ble_eq_true rfl⟩ ⟨Nat.le_of_ble_eq_true rfl, Nat.le_of_ble_eq_true rfl⟩ (fun H locs hW => ?_)
    rw [x_e1 hf, x_e2 hf]
    exact x_aret C hr (Or.inl ⟨_, rfl⟩) hW dX11_thingOf_49
  · replace hf := x_in s1_1 hf
    by_cases s1_2 : p1 = 2
    · replace hf := x_ip s1_2 hf
      refine lv_tableIn (off := 49) (tgt := 50) C.x C.b dX11_thingOf_1 (by rw [s1_2]; decide) (by rw [s1_2]; decide) (by rw [s1_2]; rfl) rfl ?_
      replace hf := x_b1 hf; obtain ⟨M50_4, hM50_4, hf⟩ := hf
      refine x_newo C hW hM50_4 nw_X11_388 dX11_thingOf_50 ⟨Nat.le_of_ble_eq_true rfl, Nat.le_of_ble_eq_true rfl⟩ (fun H hW => ?_)
      refine lv_dup C.x C.b dX11_thingOf_53 rfl ?_
      refine lv_iload_n C.x C.b dX11_thingOf_54 rfl (lv_at hl 2 rfl) ?_
      refine lv_iload_n C.x C.b dX11_thingOf_55 rfl (lv_at hl 3 rfl) ?_
      refine lv_aload_n C.x C.b dX11_thingOf_56 rfl (lv_at hl 0 rfl) ?_
      replace hf := x_b1 hf; obtain ⟨a57_5, ha57_5, hf⟩ := hf
      refine x_getn C hW fg_X11_65_14 ha57_5 dX11_thingOf_57 ?_
      replace hf := x_b1 hf; obtain ⟨M60_6, hM60_6, hf⟩ := hf
      refine x_callI (As := [.int p2, .int p3, .ref (E.b + a57_5)]) (a := M.n) (rest := [.ref (E.b + M.n)]) C hW hl (qX9_init_k12 l E hM60_6) T_5_8 T_5_9 T_1_19 T_5_10 rfl hd_X9_init rfl rfl (Nat.le_of_ble_eq_true rfl) dX11_thingOf_60 ⟨Nat.le_of_ble_eq_true rfl, Nat.le_of_ble_eq_true rfl⟩ ⟨Nat.le_of_ble_eq_true rfl, Nat.le_of_ble_eq_true rfl⟩ (fun H locs hW => ?_)
      rw [x_e1 hf, x_e2 hf]
      exact x_aret C hr (Or.inl ⟨_, rfl⟩) hW dX11_thingOf_63
    · replace hf := x_in s1_2 hf
      by_cases s1_3 : p1 = 3
      · replace hf := x_ip s1_3 hf
        refine lv_tableIn (off := 63) (tgt := 64) C.x C.b dX11_thingOf_1 (by rw [s1_3]; decide) (by rw [s1_3]; decide) (by rw [s1_3]; rfl) rfl ?_
        replace hf := x_b1 hf; obtain ⟨M64_7, hM64_7, hf⟩ := hf
        refine x_newo C hW hM64_7 nw_X11_391 dX11_thingOf_64 ⟨Nat.le_of_ble_eq_true rfl, Nat.le_of_ble_eq_true rfl⟩ (fun H hW => ?_)
        refine lv_dup C.x C.b dX11_thingOf_67 rfl ?_
        refine lv_iload_n C.x C.b dX11_thingOf_68 rfl (lv_at hl 2 rfl) ?_
        refine lv_iload_n C.x C.b dX11_thingOf_69 rfl (lv_at hl 3 rfl) ?_
        refine lv_aload_n C.x C.b dX11_thingOf_70 rfl (lv_at hl 0 rfl) ?_
        replace hf := x_b1 hf; obtain ⟨a71_8, ha71_8, hf⟩ := hf
        refine x_getn C hW fg_X11_65_14 ha71_8 dX11_thingOf_71 ?_
        replace hf := x_b1 hf; obtain ⟨M74_9, hM74_9, hf⟩ := hf
        refine x_callI (As := [.int p2, .int p3, .ref (E.b + a71_8)]) (a := M.n) (rest := [.ref (E.b + M.n)]) C hW hl (qX2_init_k5 l E hM74_9) T_5_19 T_5_20 T_1_20 T_5_21 rfl hd_X2_init rfl rfl (Nat.le_of_ble_eq_true rfl) dX11_thingOf_74 ⟨Nat.le_of_ble_eq_true rfl, Nat.le_of_ble_eq_true rfl⟩ ⟨Nat.le_of_ble_eq_true rfl, Nat.le_of_ble_eq_true rfl⟩ (fun H locs hW => ?_)
        rw [x_e1 hf, x_e2 hf]
        exact x_aret C hr (Or.inl ⟨_, rfl⟩) hW dX11_thingOf_77
      · replace hf := x_in s1_3 hf
        by_cases s1_4 : p1 = 4
        · replace hf := x_ip s1_4 hf
          refine lv_tableIn (off := 77) (tgt := 78) C.x C.b dX11_thingOf_1 (by rw [s1_4]; decide) (by rw [s1_4]; decide) (by rw [s1_4]; rfl) rfl ?_
          replace hf := x_b1 hf; obtain ⟨M78_10, hM78_10, hf⟩ := hf
          refine x_newo C hW hM78_10 nw_X11_394 dX11_thingOf_78 ⟨Nat.le_of_ble_eq_true rfl, Nat.le_of_ble_eq_true rfl⟩ (fun H hW => ?_)
          refine lv_dup C.x C.b dX11_thingOf_81 rfl ?_
          refine lv_iload_n C.x C.b dX11_thingOf_82 rfl (lv_at hl 2 rfl) ?_
          refine lv_iload_n C.x C.b dX11_thingOf_83 rfl (lv_at hl 3 rfl) ?_
          refine lv_aload_n C.x C.b dX11_thingOf_84 rfl (lv_at hl 0 rfl) ?_
          replace hf := x_b1 hf; obtain ⟨a85_11, ha85_11, hf⟩ := hf
          refine x_getn C hW fg_X11_65_14 ha85_11 dX11_thingOf_85 ?_
          replace hf := x_b1 hf; obtain ⟨M88_12, hM88_12, hf⟩ := hf
          refine x_callI (As := [.int p2, .int p3, .ref (E.b + a85_11)]) (a := M.n) (rest := [.ref (E.b + M.n)]) C hW hl (qX1_init_k4 l E hM88_12) T_5_30 T_5_31 T_1_21 T_5_32 rfl hd_X1_init rfl rfl (Nat.le_of_ble_eq_true rfl) dX11_thingOf_88 ⟨Nat.le_of_ble_eq_true rfl, Nat.le_of_ble_eq_true rfl⟩ ⟨Nat.le_of_ble_eq_true rfl, Nat.le_of_ble_eq_true rfl⟩ (fun H locs hW => ?_)
          rw [x_e1 hf, x_e2 hf]
          exact x_aret C hr (Or.inl ⟨_, rfl⟩) hW dX11_thingOf_91
        · replace hf := x_in s1_4 hf
          by_cases s1_5 : p1 = 5
          · replace hf := x_ip s1_5 hf
            refine lv_tableIn (off := 91) (tgt := 92) C.x C.b dX11_thingOf_1 (by rw [s1_5]; decide) (by rw [s1_5]; decide) (by rw [s1_5]; rfl) rfl ?_
            replace hf := x_b1 hf; obtain ⟨M92_13, hM92_13, hf⟩ := hf
            refine x_newo C hW hM92_13 nw_X11_397 dX11_thingOf_92 ⟨Nat.le_of_ble_eq_true rfl, Nat.le_of_ble_eq_true rfl⟩ (fun H hW => ?_)
            refine lv_dup C.x C.b dX11_thingOf_95 rfl ?_
            refine lv_iload_n C.x C.b dX11_thingOf_96 rfl (lv_at hl 2 rfl) ?_
            refine lv_iload_n C.x C.b dX11_thingOf_97 rfl (lv_at hl 3 rfl) ?_
            refine lv_aload_n C.x C.b dX11_thingOf_98 rfl (lv_at hl 0 rfl) ?_
            replace hf := x_b1 hf; obtain ⟨a99_14, ha99_14, hf⟩ := hf
            refine x_getn C hW fg_X11_65_14 ha99_14 dX11_thingOf_99 ?_
            replace hf := x_b1 hf; obtain ⟨M102_15, hM102_15, hf⟩ := hf
            refine x_callI (As := [.int p2, .int p3, .ref (E.b + a99_14)]) (a := M.n) (rest := [.ref (E.b + M.n)]) C hW hl (qX3_init_k6 l E hM102_15) T_5_41 T_5_42 T_1_22 T_5_43 rfl hd_X3_init rfl rfl (Nat.le_of_ble_eq_true rfl) dX11_thingOf_102 ⟨Nat.le_of_ble_eq_true rfl, Nat.le_of_ble_eq_true rfl⟩ ⟨Nat.le_of_ble_eq_true rfl, Nat.le_of_ble_eq_true rfl⟩ (fun H locs hW => ?_)
            rw [x_e1 hf, x_e2 hf]
            exact x_aret C hr (Or.inl ⟨_, rfl⟩) hW dX11_thingOf_105
          · replace hf := x_in s1_5 hf
            have s1_1_ := lv_neT (a := 1) s1_1 rfl
            have s1_2_ := lv_neT (a := 2) s1_2 rfl
            have s1_3_ := lv_neT (a := 3) s1_3 rfl
            have s1_4_ := lv_neT (a := 4) s1_4 rfl
            have s1_5_ := lv_neT (a := 5) s1_5 rfl
            refine lv_tableOut (tgt := 106) C.x C.b dX11_thingOf_1 (by omega) rfl ?_
            replace hf := x_b1 hf; obtain ⟨M106_16, hM106_16, hf⟩ := hf
            refine x_newo C hW hM106_16 nw_X11_336 dX11_thingOf_106 ⟨Nat.le_of_ble_eq_true rfl, Nat.le_of_ble_eq_true rfl⟩ (fun H hW => ?_)
            refine lv_dup C.x C.b dX11_thingOf_109 rfl ?_
            refine lv_iload_n C.x C.b dX11_thingOf_110 rfl (lv_at hl 2 rfl) ?_
            refine lv_iload_n C.x C.b dX11_thingOf_111 rfl (lv_at hl 3 rfl) ?_
            refine lv_aload_n C.x C.b dX11_thingOf_112 rfl (lv_at hl 0 rfl) ?_
            replace hf := x_b1 hf; obtain ⟨a113_17, ha113_17, hf⟩ := hf
            refine x_getn C hW fg_X11_65_14 ha113_17 dX11_thingOf_113 ?_
            replace hf := x_b1 hf; obtain ⟨M116_18, hM116_18, hf⟩ := hf
            refine x_callI (As := [.int p2, .int p3, .ref (E.b + a113_17)]) (a := M.n) (rest := [.ref (E.b + M.n)]) C hW hl (qX4_init_k7 l E hM116_18) T_5_52 T_4_207 T_1_17 T_4_208 rfl hd_X4_init rfl rfl (Nat.le_of_ble_eq_true rfl) dX11_thingOf_116 ⟨Nat.le_of_ble_eq_true rfl, Nat.le_of_ble_eq_true rfl⟩ ⟨Nat.le_of_ble_eq_true rfl, Nat.le_of_ble_eq_true rfl⟩ (fun H locs hW => ?_)
            rw [x_e1 hf, x_e2 hf]
            exact x_aret C hr (Or.inl ⟨_, rfl⟩) hW dX11_thingOf_119

theorem dJ6_valueOf_2dffe_0 : decode cJ6_valueOf_2dffe 0 = .ok (.iload_n 0, 1) := by decide +kernel
theorem dJ6_valueOf_2dffe_1 : decode cJ6_valueOf_2dffe 1 = .ok (.bipush (-128), 2) := by decide +kernel
theorem dJ6_valueOf_2dffe_3 : decode cJ6_valueOf_2dffe 3 = .ok (.if_icmp .lt 20, 3) := by decide +kernel
theorem dJ6_valueOf_2dffe_6 : decode cJ6_valueOf_2dffe 6 = .ok (.iload_n 0, 1) := by decide +kernel
theorem dJ6_valueOf_2dffe_7 : decode cJ6_valueOf_2dffe 7 = .ok (.getstatic 191, 3) := by decide +kernel
theorem dJ6_valueOf_2dffe_10 : decode cJ6_valueOf_2dffe 10 = .ok (.if_icmp .gt 13, 3) := by decide +kernel
theorem dJ6_valueOf_2dffe_13 : decode cJ6_valueOf_2dffe 13 = .ok (.getstatic 195, 3) := by decide +kernel
theorem dJ6_valueOf_2dffe_16 : decode cJ6_valueOf_2dffe 16 = .ok (.iload_n 0, 1) := by decide +kernel
theorem dJ6_valueOf_2dffe_17 : decode cJ6_valueOf_2dffe 17 = .ok (.sipush 128, 3) := by decide +kernel
theorem dJ6_valueOf_2dffe_20 : decode cJ6_valueOf_2dffe 20 = .ok (.iadd, 1) := by decide +kernel
theorem dJ6_valueOf_2dffe_21 : decode cJ6_valueOf_2dffe 21 = .ok (.aaload, 1) := by decide +kernel
theorem dJ6_valueOf_2dffe_22 : decode cJ6_valueOf_2dffe 22 = .ok (.areturn, 1) := by decide +kernel
theorem dJ6_valueOf_2dffe_23 : decode cJ6_valueOf_2dffe 23 = .ok (.new 1, 3) := by decide +kernel
theorem dJ6_valueOf_2dffe_26 : decode cJ6_valueOf_2dffe 26 = .ok (.dup, 1) := by decide +kernel
theorem dJ6_valueOf_2dffe_27 : decode cJ6_valueOf_2dffe 27 = .ok (.iload_n 0, 1) := by decide +kernel
theorem dJ6_valueOf_2dffe_28 : decode cJ6_valueOf_2dffe 28 = .ok (.invokespecial 199, 3) := by decide +kernel
theorem dJ6_valueOf_2dffe_31 : decode cJ6_valueOf_2dffe 31 = .ok (.areturn, 1) := by decide +kernel
def fJ6_valueOf_2dffe (M : Mm) (p1 : Int32) : Option Int32 :=
  if p1 < (-128) then
    none
  else
    if 127 < p1 then
      none
    else
      B1 (ibx p1) fun b21_1 =>
      some p1
set_option maxRecDepth 100000 in
set_option maxHeartbeats 4000000 in
theorem qJ6_valueOf_2dffe (l : Launch) (E : Ev) {M : Mm} {p1 : Int32} {rz : Int32} (hf : fJ6_valueOf_2dffe M p1 = some rz) : Ct l E yJ6_valueOf_2dffe cJ6_valueOf_2dffe 1 (some (.object "java/lang/Integer")) 0 0 0 0 [.int p1] M (some (.ref (bxA E rz))) M := by
  refine ct_of (by decide +kernel) (Nat.le_of_ble_eq_true rfl) fun p e s m args below meth c C hr hin hW ls hl => ?_
  have hl : lv_has ls 1 [(0, .int p1)] := hl
  unfold fJ6_valueOf_2dffe at hf
  refine lv_iload_n C.x C.b dJ6_valueOf_2dffe_0 rfl (lv_at hl 0 rfl) ?_
  refine lv_bipush (v := (-128)) C.x C.b dJ6_valueOf_2dffe_1 (by decide) ?_
  refine lv_icmp_lt (tgt := 23) C.x C.b dJ6_valueOf_2dffe_3 rfl (fun c3 => ?_) (fun c3 => ?_)
  · replace hf := x_ip c3 hf
    cases hf
  · replace hf := x_in c3 hf
    refine lv_iload_n C.x C.b dJ6_valueOf_2dffe_6 rfl (lv_at hl 0 rfl) ?_
    refine x_gethi C hW T_5_68 dJ6_valueOf_2dffe_7 ?_
    refine lv_icmp_gt (tgt := 23) C.x C.b dJ6_valueOf_2dffe_10 rfl (fun c10 => ?_) (fun c10 => ?_)
    · replace hf := x_ip c10 hf
      cases hf
    · replace hf := x_in c10 hf
      refine x_getca C hW T_5_70 dJ6_valueOf_2dffe_13 ?_
      refine lv_iload_n C.x C.b dJ6_valueOf_2dffe_16 rfl (lv_at hl 0 rfl) ?_
      refine lv_sipush (v := 128) C.x C.b dJ6_valueOf_2dffe_17 (by decide) ?_
      refine lv_iadd C.x C.b dJ6_valueOf_2dffe_20 ?_
      replace hf := x_b1 hf; obtain ⟨b21_1, hb21_1, hf⟩ := hf
      refine x_icld C hW (x_ibx hb21_1).1 dJ6_valueOf_2dffe_21 ?_
      rw [x_e0 hf]
      exact x_sret C hr (Or.inl ⟨_, rfl⟩) hW dJ6_valueOf_2dffe_22

theorem dJ8_newLength_cabcc_0 : decode cJ8_newLength_cabcc 0 = .ok (.iload_n 0, 1) := by decide +kernel
theorem dJ8_newLength_cabcc_1 : decode cJ8_newLength_cabcc 1 = .ok (.iload_n 1, 1) := by decide +kernel
theorem dJ8_newLength_cabcc_2 : decode cJ8_newLength_cabcc 2 = .ok (.iload_n 2, 1) := by decide +kernel
theorem dJ8_newLength_cabcc_3 : decode cJ8_newLength_cabcc 3 = .ok (.invokestatic 194, 3) := by decide +kernel
theorem dJ8_newLength_cabcc_6 : decode cJ8_newLength_cabcc 6 = .ok (.iadd, 1) := by decide +kernel
theorem dJ8_newLength_cabcc_7 : decode cJ8_newLength_cabcc 7 = .ok (.istore_n 3, 1) := by decide +kernel
theorem dJ8_newLength_cabcc_8 : decode cJ8_newLength_cabcc 8 = .ok (.iconst 0, 1) := by decide +kernel
theorem dJ8_newLength_cabcc_9 : decode cJ8_newLength_cabcc 9 = .ok (.iload_n 3, 1) := by decide +kernel
theorem dJ8_newLength_cabcc_10 : decode cJ8_newLength_cabcc 10 = .ok (.if_icmp .ge 11, 3) := by decide +kernel
theorem dJ8_newLength_cabcc_13 : decode cJ8_newLength_cabcc 13 = .ok (.iload_n 3, 1) := by decide +kernel
theorem dJ8_newLength_cabcc_14 : decode cJ8_newLength_cabcc 14 = .ok (.ldc 200, 2) := by decide +kernel
theorem dJ8_newLength_cabcc_16 : decode cJ8_newLength_cabcc 16 = .ok (.if_icmp .gt 5, 3) := by decide +kernel
theorem dJ8_newLength_cabcc_19 : decode cJ8_newLength_cabcc 19 = .ok (.iload_n 3, 1) := by decide +kernel
theorem dJ8_newLength_cabcc_20 : decode cJ8_newLength_cabcc 20 = .ok (.ireturn, 1) := by decide +kernel
theorem dJ8_newLength_cabcc_21 : decode cJ8_newLength_cabcc 21 = .ok (.iload_n 0, 1) := by decide +kernel
theorem dJ8_newLength_cabcc_22 : decode cJ8_newLength_cabcc 22 = .ok (.iload_n 1, 1) := by decide +kernel
theorem dJ8_newLength_cabcc_23 : decode cJ8_newLength_cabcc 23 = .ok (.invokestatic 201, 3) := by decide +kernel
theorem dJ8_newLength_cabcc_26 : decode cJ8_newLength_cabcc 26 = .ok (.ireturn, 1) := by decide +kernel
def fJ8_newLength_cabcc (M : Mm) (p1 : Int32) (p2 : Int32) (p3 : Int32) : Option Int32 :=
  if (p1 + (mxI p2 p3)) ≤ 0 then
    none
  else
    if 2147483639 < (p1 + (mxI p2 p3)) then
      none
    else
      some (p1 + (mxI p2 p3))
set_option maxRecDepth 100000 in
set_option maxHeartbeats 4000000 in
theorem qJ8_newLength_cabcc (l : Launch) (E : Ev) {M : Mm} {p1 : Int32} {p2 : Int32} {p3 : Int32} {rz : Int32} (hf : fJ8_newLength_cabcc M p1 p2 p3 = some rz) : Ct l E yJ8_newLength_cabcc cJ8_newLength_cabcc 4 (some .int) 1 14 0 0 [.int p1, .int p2, .int p3] M (some (.int rz)) M := by
  refine ct_of (by decide +kernel) (Nat.le_of_ble_eq_true rfl) fun p e s m args below meth c C hr hin hW ls hl => ?_
  have hl : lv_has ls 4 [(0, .int p1), (1, .int p2), (2, .int p3)] := hl
  unfold fJ8_newLength_cabcc at hf
  refine lv_iload_n C.x C.b dJ8_newLength_cabcc_0 rfl (lv_at hl 0 rfl) ?_
  refine lv_iload_n C.x C.b dJ8_newLength_cabcc_1 rfl (lv_at hl 1 rfl) ?_
  refine lv_iload_n C.x C.b dJ8_newLength_cabcc_2 rfl (lv_at hl 2 rfl) ?_
  refine x_mmax C hl T_5_104 T_3_145 T_1_15 T_3_146 (Nat.le_of_ble_eq_true rfl) (Nat.le_of_ble_eq_true rfl) ⟨Nat.le_of_ble_eq_true rfl, Nat.le_of_ble_eq_true rfl⟩ dJ8_newLength_cabcc_3 ?_
  refine lv_iadd C.x C.b dJ8_newLength_cabcc_6 ?_
  refine lv_istore_n (lv' := [(3, .int _), (0, .int _), (1, .int _), (2, .int _)]) C.x C.b dJ8_newLength_cabcc_7 rfl hl (by decide) rfl (fun ls hl => ?_)
  refine lv_iconst (v := 0) C.x C.b dJ8_newLength_cabcc_8 (by decide) ?_
  refine lv_iload_n C.x C.b dJ8_newLength_cabcc_9 rfl (lv_at hl 0 rfl) ?_
  refine lv_icmp_ge (tgt := 21) C.x C.b dJ8_newLength_cabcc_10 rfl (fun c10 => ?_) (fun c10 => ?_)
  · replace hf := x_ip c10 hf
    cases hf
  · replace hf := x_in c10 hf
    refine lv_iload_n C.x C.b dJ8_newLength_cabcc_13 rfl (lv_at hl 0 rfl) ?_
    refine x_ldci (v := 2147483639) C T_5_105 dJ8_newLength_cabcc_14 ?_
    refine lv_icmp_gt (tgt := 21) C.x C.b dJ8_newLength_cabcc_16 rfl (fun c16 => ?_) (fun c16 => ?_)
    · replace hf := x_ip c16 hf
      cases hf
    · replace hf := x_in c16 hf
      refine lv_iload_n C.x C.b dJ8_newLength_cabcc_19 rfl (lv_at hl 0 rfl) ?_
      rw [x_e0 hf]
      exact x_iret C hr hW dJ8_newLength_cabcc_20

theorem dJ7_copyOf_6403c_0 : decode cJ7_copyOf_6403c 0 = .ok (.aload_n 2, 1) := by decide +kernel
theorem dJ7_copyOf_6403c_1 : decode cJ7_copyOf_6403c 1 = .ok (.ldc 110, 2) := by decide +kernel
theorem dJ7_copyOf_6403c_3 : decode cJ7_copyOf_6403c 3 = .ok (.if_acmp .ne 10, 3) := by decide +kernel
theorem dJ7_copyOf_6403c_6 : decode cJ7_copyOf_6403c 6 = .ok (.iload_n 1, 1) := by decide +kernel
theorem dJ7_copyOf_6403c_7 : decode cJ7_copyOf_6403c 7 = .ok (.anewarray 2, 3) := by decide +kernel
theorem dJ7_copyOf_6403c_10 : decode cJ7_copyOf_6403c 10 = .ok (.goto 14, 3) := by decide +kernel
theorem dJ7_copyOf_6403c_13 : decode cJ7_copyOf_6403c 13 = .ok (.aload_n 2, 1) := by decide +kernel
theorem dJ7_copyOf_6403c_14 : decode cJ7_copyOf_6403c 14 = .ok (.invokevirtual 90, 3) := by decide +kernel
theorem dJ7_copyOf_6403c_17 : decode cJ7_copyOf_6403c 17 = .ok (.iload_n 1, 1) := by decide +kernel
theorem dJ7_copyOf_6403c_18 : decode cJ7_copyOf_6403c 18 = .ok (.invokestatic 95, 3) := by decide +kernel
theorem dJ7_copyOf_6403c_21 : decode cJ7_copyOf_6403c 21 = .ok (.checkcast 110, 3) := by decide +kernel
theorem dJ7_copyOf_6403c_24 : decode cJ7_copyOf_6403c 24 = .ok (.astore_n 3, 1) := by decide +kernel
theorem dJ7_copyOf_6403c_25 : decode cJ7_copyOf_6403c 25 = .ok (.aload_n 0, 1) := by decide +kernel
theorem dJ7_copyOf_6403c_26 : decode cJ7_copyOf_6403c 26 = .ok (.iconst 0, 1) := by decide +kernel
theorem dJ7_copyOf_6403c_27 : decode cJ7_copyOf_6403c 27 = .ok (.aload_n 3, 1) := by decide +kernel
theorem dJ7_copyOf_6403c_28 : decode cJ7_copyOf_6403c 28 = .ok (.iconst 0, 1) := by decide +kernel
theorem dJ7_copyOf_6403c_29 : decode cJ7_copyOf_6403c 29 = .ok (.aload_n 0, 1) := by decide +kernel
theorem dJ7_copyOf_6403c_30 : decode cJ7_copyOf_6403c 30 = .ok (.arraylength, 1) := by decide +kernel
theorem dJ7_copyOf_6403c_31 : decode cJ7_copyOf_6403c 31 = .ok (.iload_n 1, 1) := by decide +kernel
theorem dJ7_copyOf_6403c_32 : decode cJ7_copyOf_6403c 32 = .ok (.invokestatic 304, 3) := by decide +kernel
theorem dJ7_copyOf_6403c_35 : decode cJ7_copyOf_6403c 35 = .ok (.invokestatic 150, 3) := by decide +kernel
theorem dJ7_copyOf_6403c_38 : decode cJ7_copyOf_6403c 38 = .ok (.aload_n 3, 1) := by decide +kernel
theorem dJ7_copyOf_6403c_39 : decode cJ7_copyOf_6403c 39 = .ok (.areturn, 1) := by decide +kernel
def fJ7_copyOf_6403c (M : Mm) (p1 : Nat) (p2 : Int32) : Option (Nat × Mm) :=
  B1 (dnw M 15 p2) fun M7_1 =>
  B1 (dln M7_1 p1) fun x30_2 =>
  B1 (dac M7_1 p1 0 M.n 0 (mnI x30_2 p2)) fun M35_3 =>
  some (M.n, M35_3)
set_option maxRecDepth 100000 in
set_option maxHeartbeats 4000000 in
theorem qJ7_copyOf_6403c (l : Launch) (E : Ev) {M : Mm} {p1 : Nat} {p2 : Int32} {rz : Nat} {Mz : Mm} (hf : fJ7_copyOf_6403c M p1 p2 = some (rz, Mz)) : Ct l E yJ7_copyOf_6403c cJ7_copyOf_6403c 4 (some (.array (.object "java/lang/Object"))) 1 18 1 15 [.ref (alA E p1), .int p2, .ref (E.x 6)] M (some (.ref (alA E rz))) Mz := by
  refine ct_of (by decide +kernel) (Nat.le_of_ble_eq_true rfl) fun p e s m args below meth c C hr hin hW ls hl => ?_
  have hl : lv_has ls 4 [(0, .ref (alA E p1)), (1, .int p2), (2, .ref (E.x 6))] := hl
  unfold fJ7_copyOf_6403c at hf
  refine lv_aload_n C.x C.b dJ7_copyOf_6403c_0 rfl (lv_at hl 2 rfl) ?_
  refine x_ldcM C T_5_134 dJ7_copyOf_6403c_1 ?_
  refine x_mmne (tgt := 13) C dJ7_copyOf_6403c_3 rfl ?_
  refine lv_iload_n C.x C.b dJ7_copyOf_6403c_6 rfl (lv_at hl 1 rfl) ?_
  replace hf := x_b1 hf; obtain ⟨M7_1, hM7_1, hf⟩ := hf
  refine x_dnw C hW hM7_1 T_5_136 (by decide) ⟨Nat.le_of_ble_eq_true rfl, Nat.le_of_ble_eq_true rfl⟩ dJ7_copyOf_6403c_7 (fun H hW => ?_)
  refine lv_goto (tgt := 24) C.x C.b dJ7_copyOf_6403c_10 rfl ?_
  refine lv_astore_n (lv' := [(3, .ref (alA E _)), (0, .ref (alA E _)), (1, .int _), (2, .ref (E.x 6))]) C.x C.b dJ7_copyOf_6403c_24 rfl hl (by decide) rfl (fun ls hl => ?_)
  refine lv_aload_n C.x C.b dJ7_copyOf_6403c_25 rfl (lv_at hl 1 rfl) ?_
  refine lv_iconst (v := 0) C.x C.b dJ7_copyOf_6403c_26 (by decide) ?_
  refine lv_aload_n C.x C.b dJ7_copyOf_6403c_27 rfl (lv_at hl 0 rfl) ?_
  refine lv_iconst (v := 0) C.x C.b dJ7_copyOf_6403c_28 (by decide) ?_
  refine lv_aload_n C.x C.b dJ7_copyOf_6403c_29 rfl (lv_at hl 1 rfl) ?_
  replace hf := x_b1 hf; obtain ⟨x30_2, hx30_2, hf⟩ := hf
  refine x_dln C hW hx30_2 dJ7_copyOf_6403c_30 ?_
  refine lv_iload_n C.x C.b dJ7_copyOf_6403c_31 rfl (lv_at hl 2 rfl) ?_
  refine x_mmin C hl T_5_137 T_3_160 T_1_15 T_3_161 (Nat.le_of_ble_eq_true rfl) (Nat.le_of_ble_eq_true rfl) ⟨Nat.le_of_ble_eq_true rfl, Nat.le_of_ble_eq_true rfl⟩ dJ7_copyOf_6403c_32 ?_
  replace hf := x_b1 hf; obtain ⟨M35_3, hM35_3, hf⟩ := hf
  refine x_dac C hW hl T_5_138 T_1_129 T_1_128 T_1_5 T_9_2 hM35_3 (Nat.le_of_ble_eq_true rfl) (Nat.le_of_ble_eq_true rfl) dJ7_copyOf_6403c_35 (fun H locs hW => ?_)
  refine lv_aload_n C.x C.b dJ7_copyOf_6403c_38 rfl (lv_at hl 0 rfl) ?_
  rw [x_e1 hf, x_e2 hf]
  exact x_sret C hr (Or.inr ⟨_, rfl⟩) hW dJ7_copyOf_6403c_39

theorem dJ7_copyOf_1904c_0 : decode cJ7_copyOf_1904c 0 = .ok (.aload_n 0, 1) := by decide +kernel
theorem dJ7_copyOf_1904c_1 : decode cJ7_copyOf_1904c 1 = .ok (.iload_n 1, 1) := by decide +kernel
theorem dJ7_copyOf_1904c_2 : decode cJ7_copyOf_1904c 2 = .ok (.aload_n 0, 1) := by decide +kernel
theorem dJ7_copyOf_1904c_3 : decode cJ7_copyOf_1904c 3 = .ok (.invokevirtual 86, 3) := by decide +kernel
theorem dJ7_copyOf_1904c_6 : decode cJ7_copyOf_1904c 6 = .ok (.invokestatic 300, 3) := by decide +kernel
theorem dJ7_copyOf_1904c_9 : decode cJ7_copyOf_1904c 9 = .ok (.areturn, 1) := by decide +kernel
theorem hd_J7_copyOf_6403c : yJ7_copyOf_6403c.cls ≠ "java/lang/invoke/MethodHandle" ∧ yJ7_copyOf_6403c.cls ≠ "java/lang/invoke/VarHandle" ∧ (parseMethodDescriptor yJ7_copyOf_6403c.desc).map (fun d => d.parameters.length) = some 3 := by decide +kernel
theorem gs_J7_300 : GoodIn gT (va_wsS "java/util/Arrays" 300 yJ7_copyOf_6403c (Cond.code yJ7_copyOf_6403c cJ7_copyOf_6403c 4 (some (.array (.object "java/lang/Object"))) :: gT)) := good_S T_5_131 T_5_132 T_1_27 T_5_133
def fJ7_copyOf_1904c (M : Mm) (p1 : Nat) (p2 : Int32) : Option (Nat × Mm) :=
  B1 (gk M p1 27) fun _ =>
  B1 (gnz p1) fun _ =>
  B2 (fJ7_copyOf_6403c M p1 p2) fun x6_2 M6_3 =>
  some (x6_2, M6_3)
set_option maxRecDepth 100000 in
set_option maxHeartbeats 4000000 in
theorem qJ7_copyOf_1904c (l : Launch) (E : Ev) {M : Mm} {p1 : Nat} {p2 : Int32} {rz : Nat} {Mz : Mm} (hf : fJ7_copyOf_1904c M p1 p2 = some (rz, Mz)) : Ct l E yJ7_copyOf_1904c cJ7_copyOf_1904c 2 (some (.array (.object "java/lang/Object"))) 2 41 1 15 [.ref (alA E p1), .int p2] M (some (.ref (alA E rz))) Mz := by
  refine ct_of (by decide +kernel) (Nat.le_of_ble_eq_true rfl) fun p e s m args below meth c C hr hin hW ls hl => ?_
  have hl : lv_has ls 2 [(0, .ref (alA E p1)), (1, .int p2)] := hl
  unfold fJ7_copyOf_1904c at hf
  refine lv_aload_n C.x C.b dJ7_copyOf_1904c_0 rfl (lv_at hl 0 rfl) ?_
  refine lv_iload_n C.x C.b dJ7_copyOf_1904c_1 rfl (lv_at hl 1 rfl) ?_
  refine lv_aload_n C.x C.b dJ7_copyOf_1904c_2 rfl (lv_at hl 0 rfl) ?_
  replace hf := x_b1 hf; obtain ⟨_, hg3_1, hf⟩ := hf
  replace hf := x_b1 hf; obtain ⟨_, hg3_1_, hf⟩ := hf
  refine x_getcl C hW hg3_1 (x_gnz hg3_1_) hl T_5_112 T_9_17 T_9_16 T_5_113 T_5_130 (Nat.le_of_ble_eq_true rfl) (Nat.le_of_ble_eq_true rfl) dJ7_copyOf_1904c_3 ?_
  replace hf := x_b2 hf; obtain ⟨x6_2, M6_3, hx6_2, hf⟩ := hf
  refine x_callS (As := [.ref (alA E p1), .int p2, .ref (E.x 6)]) (rest := []) C hW hl (qJ7_copyOf_6403c l E hx6_2) gs_J7_300 hd_J7_copyOf_6403c rfl rfl (Nat.le_of_ble_eq_true rfl) dJ7_copyOf_1904c_6 ⟨Nat.le_of_ble_eq_true rfl, Nat.le_of_ble_eq_true rfl⟩ ⟨Nat.le_of_ble_eq_true rfl, Nat.le_of_ble_eq_true rfl⟩ (fun H locs hW => ?_)
  rw [x_e1 hf, x_e2 hf]
  exact x_sret C hr (Or.inr ⟨_, rfl⟩) hW dJ7_copyOf_1904c_9

theorem dJx4a65c_grow_92f84_0 : decode cJx4a65c_grow_92f84 0 = .ok (.aload_n 0, 1) := by decide +kernel
theorem dJx4a65c_grow_92f84_1 : decode cJx4a65c_grow_92f84 1 = .ok (.getfield 9, 3) := by decide +kernel
theorem dJx4a65c_grow_92f84_4 : decode cJx4a65c_grow_92f84 4 = .ok (.arraylength, 1) := by decide +kernel
theorem dJx4a65c_grow_92f84_5 : decode cJx4a65c_grow_92f84 5 = .ok (.istore_n 2, 1) := by decide +kernel
theorem dJx4a65c_grow_92f84_6 : decode cJx4a65c_grow_92f84 6 = .ok (.iload_n 2, 1) := by decide +kernel
theorem dJx4a65c_grow_92f84_7 : decode cJx4a65c_grow_92f84 7 = .ok (.ifCond .gt 13, 3) := by decide +kernel
theorem dJx4a65c_grow_92f84_10 : decode cJx4a65c_grow_92f84 10 = .ok (.aload_n 0, 1) := by decide +kernel
theorem dJx4a65c_grow_92f84_11 : decode cJx4a65c_grow_92f84 11 = .ok (.getfield 9, 3) := by decide +kernel
theorem dJx4a65c_grow_92f84_14 : decode cJx4a65c_grow_92f84 14 = .ok (.getstatic 39, 3) := by decide +kernel
theorem dJx4a65c_grow_92f84_17 : decode cJx4a65c_grow_92f84 17 = .ok (.if_acmp .eq 28, 3) := by decide +kernel
theorem dJx4a65c_grow_92f84_20 : decode cJx4a65c_grow_92f84 20 = .ok (.iload_n 2, 1) := by decide +kernel
theorem dJx4a65c_grow_92f84_21 : decode cJx4a65c_grow_92f84 21 = .ok (.iload_n 1, 1) := by decide +kernel
theorem dJx4a65c_grow_92f84_22 : decode cJx4a65c_grow_92f84 22 = .ok (.iload_n 2, 1) := by decide +kernel
theorem dJx4a65c_grow_92f84_23 : decode cJx4a65c_grow_92f84 23 = .ok (.isub, 1) := by decide +kernel
theorem dJx4a65c_grow_92f84_24 : decode cJx4a65c_grow_92f84 24 = .ok (.iload_n 2, 1) := by decide +kernel
theorem dJx4a65c_grow_92f84_25 : decode cJx4a65c_grow_92f84 25 = .ok (.iconst 1, 1) := by decide +kernel
theorem dJx4a65c_grow_92f84_26 : decode cJx4a65c_grow_92f84 26 = .ok (.ishr, 1) := by decide +kernel
theorem dJx4a65c_grow_92f84_27 : decode cJx4a65c_grow_92f84 27 = .ok (.invokestatic 73, 3) := by decide +kernel
theorem dJx4a65c_grow_92f84_30 : decode cJx4a65c_grow_92f84 30 = .ok (.istore_n 3, 1) := by decide +kernel
theorem dJx4a65c_grow_92f84_31 : decode cJx4a65c_grow_92f84 31 = .ok (.aload_n 0, 1) := by decide +kernel
theorem dJx4a65c_grow_92f84_32 : decode cJx4a65c_grow_92f84 32 = .ok (.aload_n 0, 1) := by decide +kernel
theorem dJx4a65c_grow_92f84_33 : decode cJx4a65c_grow_92f84 33 = .ok (.getfield 9, 3) := by decide +kernel
theorem dJx4a65c_grow_92f84_36 : decode cJx4a65c_grow_92f84 36 = .ok (.iload_n 3, 1) := by decide +kernel
theorem dJx4a65c_grow_92f84_37 : decode cJx4a65c_grow_92f84 37 = .ok (.invokestatic 66, 3) := by decide +kernel
theorem dJx4a65c_grow_92f84_40 : decode cJx4a65c_grow_92f84 40 = .ok (.dup_x1, 1) := by decide +kernel
theorem dJx4a65c_grow_92f84_41 : decode cJx4a65c_grow_92f84 41 = .ok (.putfield 9, 3) := by decide +kernel
theorem dJx4a65c_grow_92f84_44 : decode cJx4a65c_grow_92f84 44 = .ok (.areturn, 1) := by decide +kernel
theorem dJx4a65c_grow_92f84_45 : decode cJx4a65c_grow_92f84 45 = .ok (.aload_n 0, 1) := by decide +kernel
theorem dJx4a65c_grow_92f84_46 : decode cJx4a65c_grow_92f84 46 = .ok (.bipush 10, 2) := by decide +kernel
theorem dJx4a65c_grow_92f84_48 : decode cJx4a65c_grow_92f84 48 = .ok (.iload_n 1, 1) := by decide +kernel
theorem dJx4a65c_grow_92f84_49 : decode cJx4a65c_grow_92f84 49 = .ok (.invokestatic 79, 3) := by decide +kernel
theorem dJx4a65c_grow_92f84_52 : decode cJx4a65c_grow_92f84 52 = .ok (.anewarray 7, 3) := by decide +kernel
theorem dJx4a65c_grow_92f84_55 : decode cJx4a65c_grow_92f84 55 = .ok (.dup_x1, 1) := by decide +kernel
theorem dJx4a65c_grow_92f84_56 : decode cJx4a65c_grow_92f84 56 = .ok (.putfield 9, 3) := by decide +kernel
theorem dJx4a65c_grow_92f84_59 : decode cJx4a65c_grow_92f84 59 = .ok (.areturn, 1) := by decide +kernel
theorem hd_J8_newLength_cabcc : yJ8_newLength_cabcc.cls ≠ "java/lang/invoke/MethodHandle" ∧ yJ8_newLength_cabcc.cls ≠ "java/lang/invoke/VarHandle" ∧ (parseMethodDescriptor yJ8_newLength_cabcc.desc).map (fun d => d.parameters.length) = some 3 := by decide +kernel
theorem gs_Jx4a65c_73 : GoodIn gT (va_wsS "java/util/ArrayList" 73 yJ8_newLength_cabcc (Cond.code yJ8_newLength_cabcc cJ8_newLength_cabcc 4 (some .int) :: gT)) := good_S T_5_101 T_5_102 T_1_26 T_5_103
theorem hd_J7_copyOf_1904c : yJ7_copyOf_1904c.cls ≠ "java/lang/invoke/MethodHandle" ∧ yJ7_copyOf_1904c.cls ≠ "java/lang/invoke/VarHandle" ∧ (parseMethodDescriptor yJ7_copyOf_1904c.desc).map (fun d => d.parameters.length) = some 2 := by decide +kernel
theorem gs_Jx4a65c_66 : GoodIn gT (va_wsS "java/util/ArrayList" 66 yJ7_copyOf_1904c (Cond.code yJ7_copyOf_1904c cJ7_copyOf_1904c 2 (some (.array (.object "java/lang/Object"))) :: gT)) := good_S T_5_109 T_5_110 T_1_27 T_5_111
def fJx4a65c_grow_92f84 (M : Mm) (o : Nat) (p1 : Int32) : Option (Nat × Mm) :=
  B1 (rdN M o 2 1) fun d1_1 =>
  B1 (dln M d1_1) fun x4_2 =>
  if 0 < x4_2 then
    B1 (fJ8_newLength_cabcc M x4_2 (p1 - x4_2) (x4_2 >>> (1 &&& 31))) fun x27_3 =>
    B1 (rdN M o 2 1) fun d33_4 =>
    B2 (fJ7_copyOf_1904c M d33_4 x27_3) fun x37_5 M37_6 =>
    B1 (wrR M37_6 o 2 1 (some x37_5)) fun M41_7 =>
    some (x37_5, M41_7)
  else
    B1 (rdN M o 2 1) fun d11_8 =>
    B1 (gz d11_8) fun _ =>
    B1 (dnw M 15 (mxI 10 p1)) fun M52_10 =>
    B1 (wrR M52_10 o 2 1 (some M.n)) fun M56_11 =>
    some (M.n, M56_11)
set_option maxRecDepth 100000 in
set_option maxHeartbeats 4000000 in
theorem qJx4a65c_grow_92f84 (l : Launch) (E : Ev) {M : Mm} {o : Nat} {p1 : Int32} {rz : Nat} {Mz : Mm} (hf : fJx4a65c_grow_92f84 M o p1 = some (rz, Mz)) : Ct l E yJx4a65c_grow_92f84 cJx4a65c_grow_92f84 4 (some (.array (.object "java/lang/Object"))) 3 62 1 15 [.ref (E.b + o), .int p1] M (some (.ref (alA E rz))) Mz := by
  refine ct_of (by decide +kernel) (Nat.le_of_ble_eq_true rfl) fun p e s m args below meth c C hr hin hW ls hl => ?_
  have hl : lv_has ls 4 [(0, .ref (E.b + o)), (1, .int p1)] := hl
  unfold fJx4a65c_grow_92f84 at hf
  refine lv_aload_n C.x C.b dJx4a65c_grow_92f84_0 rfl (lv_at hl 0 rfl) ?_
  replace hf := x_b1 hf; obtain ⟨d1_1, hd1_1, hf⟩ := hf
  refine x_lgetd C hW hd1_1 T_1_218 dJx4a65c_grow_92f84_1 ?_
  replace hf := x_b1 hf; obtain ⟨x4_2, hx4_2, hf⟩ := hf
  refine x_dln C hW hx4_2 dJx4a65c_grow_92f84_4 ?_
  refine lv_istore_n (lv' := [(2, .int _), (0, .ref (E.b + _)), (1, .int _)]) C.x C.b dJx4a65c_grow_92f84_5 rfl hl (by decide) rfl (fun ls hl => ?_)
  refine lv_iload_n C.x C.b dJx4a65c_grow_92f84_6 rfl (lv_at hl 0 rfl) ?_
  refine lv_if_gt (tgt := 20) C.x C.b dJx4a65c_grow_92f84_7 rfl (fun c7 => ?_) (fun c7 => ?_)
  · replace hf := x_ip c7 hf
    refine lv_iload_n C.x C.b dJx4a65c_grow_92f84_20 rfl (lv_at hl 0 rfl) ?_
    refine lv_iload_n C.x C.b dJx4a65c_grow_92f84_21 rfl (lv_at hl 2 rfl) ?_
    refine lv_iload_n C.x C.b dJx4a65c_grow_92f84_22 rfl (lv_at hl 0 rfl) ?_
    refine lv_isub C.x C.b dJx4a65c_grow_92f84_23 ?_
    refine lv_iload_n C.x C.b dJx4a65c_grow_92f84_24 rfl (lv_at hl 0 rfl) ?_
    refine lv_iconst (v := 1) C.x C.b dJx4a65c_grow_92f84_25 (by decide) ?_
    refine lv_ishr C.x C.b dJx4a65c_grow_92f84_26 ?_
    replace hf := x_b1 hf; obtain ⟨x27_3, hx27_3, hf⟩ := hf
    refine x_callS (As := [.int x4_2, .int (p1 - x4_2), .int (x4_2 >>> (1 &&& 31))]) (rest := []) C hW hl (qJ8_newLength_cabcc l E hx27_3) gs_Jx4a65c_73 hd_J8_newLength_cabcc rfl rfl (Nat.le_of_ble_eq_true rfl) dJx4a65c_grow_92f84_27 ⟨Nat.le_of_ble_eq_true rfl, Nat.le_of_ble_eq_true rfl⟩ ⟨Nat.le_of_ble_eq_true rfl, Nat.le_of_ble_eq_true rfl⟩ (fun H locs hW => ?_)
    refine lv_istore_n (lv' := [(3, .int _), (2, .int _), (0, .ref (E.b + _)), (1, .int _)]) C.x C.b dJx4a65c_grow_92f84_30 rfl hl (by decide) rfl (fun ls hl => ?_)
    refine lv_aload_n C.x C.b dJx4a65c_grow_92f84_31 rfl (lv_at hl 2 rfl) ?_
    refine lv_aload_n C.x C.b dJx4a65c_grow_92f84_32 rfl (lv_at hl 2 rfl) ?_
    replace hf := x_b1 hf; obtain ⟨d33_4, hd33_4, hf⟩ := hf
    refine x_lgetd C hW hd33_4 T_1_218 dJx4a65c_grow_92f84_33 ?_
    refine lv_iload_n C.x C.b dJx4a65c_grow_92f84_36 rfl (lv_at hl 0 rfl) ?_
    replace hf := x_b2 hf; obtain ⟨x37_5, M37_6, hx37_5, hf⟩ := hf
    refine x_callS (As := [.ref (alA E d33_4), .int x27_3]) (rest := [.ref (E.b + o)]) C hW hl (qJ7_copyOf_1904c l E hx37_5) gs_Jx4a65c_66 hd_J7_copyOf_1904c rfl rfl (Nat.le_of_ble_eq_true rfl) dJx4a65c_grow_92f84_37 ⟨Nat.le_of_ble_eq_true rfl, Nat.le_of_ble_eq_true rfl⟩ ⟨Nat.le_of_ble_eq_true rfl, Nat.le_of_ble_eq_true rfl⟩ (fun H locs hW => ?_)
    refine lv_dup_x1 C.x C.b dJx4a65c_grow_92f84_40 rfl rfl ?_
    replace hf := x_b1 hf; obtain ⟨M41_7, hM41_7, hf⟩ := hf
    refine x_lputd C hW hM41_7 T_1_218 dJx4a65c_grow_92f84_41 (fun H locs hW => ?_)
    rw [x_e1 hf, x_e2 hf]
    exact x_sret C hr (Or.inr ⟨_, rfl⟩) hW dJx4a65c_grow_92f84_44
  · replace hf := x_in c7 hf
    refine lv_aload_n C.x C.b dJx4a65c_grow_92f84_10 rfl (lv_at hl 1 rfl) ?_
    replace hf := x_b1 hf; obtain ⟨d11_8, hd11_8, hf⟩ := hf
    refine x_lgetd C hW hd11_8 T_1_218 dJx4a65c_grow_92f84_11 ?_
    refine x_getem C hW T_1_216 dJx4a65c_grow_92f84_14 ?_
    replace hf := x_b1 hf; obtain ⟨_, hg17_9, hf⟩ := hf
    refine x_adee (tgt := 45) C (x_gz hg17_9) dJx4a65c_grow_92f84_17 rfl ?_
    refine lv_aload_n C.x C.b dJx4a65c_grow_92f84_45 rfl (lv_at hl 1 rfl) ?_
    refine lv_bipush (v := 10) C.x C.b dJx4a65c_grow_92f84_46 (by decide) ?_
    refine lv_iload_n C.x C.b dJx4a65c_grow_92f84_48 rfl (lv_at hl 2 rfl) ?_
    refine x_mmax C hl T_5_139 T_3_145 T_1_15 T_3_146 (Nat.le_of_ble_eq_true rfl) (Nat.le_of_ble_eq_true rfl) ⟨Nat.le_of_ble_eq_true rfl, Nat.le_of_ble_eq_true rfl⟩ dJx4a65c_grow_92f84_49 ?_
    replace hf := x_b1 hf; obtain ⟨M52_10, hM52_10, hf⟩ := hf
    refine x_dnw C hW hM52_10 T_5_140 (by decide) ⟨Nat.le_of_ble_eq_true rfl, Nat.le_of_ble_eq_true rfl⟩ dJx4a65c_grow_92f84_52 (fun H hW => ?_)
    refine lv_dup_x1 C.x C.b dJx4a65c_grow_92f84_55 rfl rfl ?_
    replace hf := x_b1 hf; obtain ⟨M56_11, hM56_11, hf⟩ := hf
    refine x_lputd C hW hM56_11 T_1_218 dJx4a65c_grow_92f84_56 (fun H locs hW => ?_)
    rw [x_e1 hf, x_e2 hf]
    exact x_sret C hr (Or.inr ⟨_, rfl⟩) hW dJx4a65c_grow_92f84_59

theorem dJx4a65c_grow_d5877_0 : decode cJx4a65c_grow_d5877 0 = .ok (.aload_n 0, 1) := by decide +kernel
theorem dJx4a65c_grow_d5877_1 : decode cJx4a65c_grow_d5877 1 = .ok (.aload_n 0, 1) := by decide +kernel
theorem dJx4a65c_grow_d5877_2 : decode cJx4a65c_grow_d5877 2 = .ok (.getfield 48, 3) := by decide +kernel
theorem dJx4a65c_grow_d5877_5 : decode cJx4a65c_grow_d5877 5 = .ok (.iconst 1, 1) := by decide +kernel
theorem dJx4a65c_grow_d5877_6 : decode cJx4a65c_grow_d5877 6 = .ok (.iadd, 1) := by decide +kernel
theorem dJx4a65c_grow_d5877_7 : decode cJx4a65c_grow_d5877 7 = .ok (.invokevirtual 69, 3) := by decide +kernel
theorem dJx4a65c_grow_d5877_10 : decode cJx4a65c_grow_d5877 10 = .ok (.areturn, 1) := by decide +kernel
theorem hd_Jx4a65c_grow_92f84 : yJx4a65c_grow_92f84.cls ≠ "java/lang/invoke/MethodHandle" ∧ yJx4a65c_grow_92f84.cls ≠ "java/lang/invoke/VarHandle" ∧ (parseMethodDescriptor yJx4a65c_grow_92f84.desc).map (fun d => d.parameters.length) = some 1 := by decide +kernel
theorem gv_Jx4a65c_69 : GoodIn gT (wsV "java/util/ArrayList" 69 "java/util/ArrayList" yJx4a65c_grow_92f84 (Cond.code yJx4a65c_grow_92f84 cJx4a65c_grow_92f84 4 (some (.array (.object "java/lang/Object"))) :: gT)) := good_V T_5_97 T_5_99 TS_30 T_1_9 T_5_100
def fJx4a65c_grow_d5877 (M : Mm) (o : Nat) : Option (Nat × Mm) :=
  B1 (rdI M o 2 2) fun x2_1 =>
  B1 (gk M o 2) fun _ =>
  B2 (fJx4a65c_grow_92f84 M o (x2_1 + 1)) fun x7_3 M7_4 =>
  some (x7_3, M7_4)
set_option maxRecDepth 100000 in
set_option maxHeartbeats 4000000 in
theorem qJx4a65c_grow_d5877 (l : Launch) (E : Ev) {M : Mm} {o : Nat} {rz : Nat} {Mz : Mm} (hf : fJx4a65c_grow_d5877 M o = some (rz, Mz)) : Ct l E yJx4a65c_grow_d5877 cJx4a65c_grow_d5877 1 (some (.array (.object "java/lang/Object"))) 4 85 1 15 [.ref (E.b + o)] M (some (.ref (alA E rz))) Mz := by
  refine ct_of (by decide +kernel) (Nat.le_of_ble_eq_true rfl) fun p e s m args below meth c C hr hin hW ls hl => ?_
  have hl : lv_has ls 1 [(0, .ref (E.b + o))] := hl
  unfold fJx4a65c_grow_d5877 at hf
  refine lv_aload_n C.x C.b dJx4a65c_grow_d5877_0 rfl (lv_at hl 0 rfl) ?_
  refine lv_aload_n C.x C.b dJx4a65c_grow_d5877_1 rfl (lv_at hl 0 rfl) ?_
  replace hf := x_b1 hf; obtain ⟨x2_1, hx2_1, hf⟩ := hf
  refine x_lgeti C hW hx2_1 (by decide) T_1_219 (Or.inl rfl) dJx4a65c_grow_d5877_2 ?_
  refine lv_iconst (v := 1) C.x C.b dJx4a65c_grow_d5877_5 (by decide) ?_
  refine lv_iadd C.x C.b dJx4a65c_grow_d5877_6 ?_
  replace hf := x_b1 hf; obtain ⟨_, hk7_2, hf⟩ := hf
  replace hf := x_b2 hf; obtain ⟨x7_3, M7_4, hx7_3, hf⟩ := hf
  refine x_callV (As := [.int (x2_1 + 1)]) (a := o) (rest := []) C hW hl (qJx4a65c_grow_92f84 l E hx7_3) (x_gk hk7_2) (by decide) (by decide) rfl gv_Jx4a65c_69 ⟨rfl, hd_Jx4a65c_grow_92f84⟩ rfl rfl (Nat.le_of_ble_eq_true rfl) dJx4a65c_grow_d5877_7 ⟨Nat.le_of_ble_eq_true rfl, Nat.le_of_ble_eq_true rfl⟩ ⟨Nat.le_of_ble_eq_true rfl, Nat.le_of_ble_eq_true rfl⟩ (fun H locs hW => ?_)
  rw [x_e1 hf, x_e2 hf]
  exact x_sret C hr (Or.inr ⟨_, rfl⟩) hW dJx4a65c_grow_d5877_10

theorem dJx4a65c_add_72be8_0 : decode cJx4a65c_add_72be8 0 = .ok (.iload_n 3, 1) := by decide +kernel
theorem dJx4a65c_add_72be8_1 : decode cJx4a65c_add_72be8 1 = .ok (.aload_n 2, 1) := by decide +kernel
theorem dJx4a65c_add_72be8_2 : decode cJx4a65c_add_72be8 2 = .ok (.arraylength, 1) := by decide +kernel
theorem dJx4a65c_add_72be8_3 : decode cJx4a65c_add_72be8 3 = .ok (.if_icmp .ne 8, 3) := by decide +kernel
theorem dJx4a65c_add_72be8_6 : decode cJx4a65c_add_72be8 6 = .ok (.aload_n 0, 1) := by decide +kernel
theorem dJx4a65c_add_72be8_7 : decode cJx4a65c_add_72be8 7 = .ok (.invokevirtual 129, 3) := by decide +kernel
theorem dJx4a65c_add_72be8_10 : decode cJx4a65c_add_72be8 10 = .ok (.astore_n 2, 1) := by decide +kernel
theorem dJx4a65c_add_72be8_11 : decode cJx4a65c_add_72be8 11 = .ok (.aload_n 2, 1) := by decide +kernel
theorem dJx4a65c_add_72be8_12 : decode cJx4a65c_add_72be8 12 = .ok (.iload_n 3, 1) := by decide +kernel
theorem dJx4a65c_add_72be8_13 : decode cJx4a65c_add_72be8 13 = .ok (.aload_n 1, 1) := by decide +kernel
theorem dJx4a65c_add_72be8_14 : decode cJx4a65c_add_72be8 14 = .ok (.aastore, 1) := by decide +kernel
theorem dJx4a65c_add_72be8_15 : decode cJx4a65c_add_72be8 15 = .ok (.aload_n 0, 1) := by decide +kernel
theorem dJx4a65c_add_72be8_16 : decode cJx4a65c_add_72be8 16 = .ok (.iload_n 3, 1) := by decide +kernel
theorem dJx4a65c_add_72be8_17 : decode cJx4a65c_add_72be8 17 = .ok (.iconst 1, 1) := by decide +kernel
theorem dJx4a65c_add_72be8_18 : decode cJx4a65c_add_72be8 18 = .ok (.iadd, 1) := by decide +kernel
theorem dJx4a65c_add_72be8_19 : decode cJx4a65c_add_72be8 19 = .ok (.putfield 48, 3) := by decide +kernel
theorem dJx4a65c_add_72be8_22 : decode cJx4a65c_add_72be8 22 = .ok (.return_, 1) := by decide +kernel
theorem hd_Jx4a65c_grow_d5877 : yJx4a65c_grow_d5877.cls ≠ "java/lang/invoke/MethodHandle" ∧ yJx4a65c_grow_d5877.cls ≠ "java/lang/invoke/VarHandle" ∧ (parseMethodDescriptor yJx4a65c_grow_d5877.desc).map (fun d => d.parameters.length) = some 0 := by decide +kernel
theorem gv_Jx4a65c_129 : GoodIn gT (wsV "java/util/ArrayList" 129 "java/util/ArrayList" yJx4a65c_grow_d5877 (Cond.code yJx4a65c_grow_d5877 cJx4a65c_grow_d5877 1 (some (.array (.object "java/lang/Object"))) :: gT)) := good_V T_5_93 T_5_95 TS_29 T_1_9 T_5_96
def fJx4a65c_add_72be8 (M : Mm) (o : Nat) (p1 : Int32) (p2 : Nat) (p3 : Int32) : Option Mm :=
  B1 (dln M p2) fun x2_1 =>
  if p3 = x2_1 then
    B1 (gk M o 2) fun _ =>
    B2 (fJx4a65c_grow_d5877 M o) fun x7_5 M7_6 =>
    B1 (dsb M7_6 x7_5 p3 p1) fun M14_7 =>
    B1 (wrI M14_7 o 2 2 (p3 + 1)) fun M19_8 =>
    some M19_8
  else
    B1 (dsb M p2 p3 p1) fun M14_2 =>
    B1 (wrI M14_2 o 2 2 (p3 + 1)) fun M19_3 =>
    some M19_3
set_option maxRecDepth 100000 in
set_option maxHeartbeats 4000000 in
theorem qJx4a65c_add_72be8 (l : Launch) (E : Ev) {M : Mm} {o : Nat} {p1 : Int32} {p2 : Nat} {p3 : Int32} {Mz : Mm} (hf : fJx4a65c_add_72be8 M o p1 p2 p3 = some Mz) : Ct l E yJx4a65c_add_72be8 cJx4a65c_add_72be8 4 none 5 105 1 15 [.ref (E.b + o), .ref (bxA E p1), .ref (alA E p2), .int p3] M none Mz := by
  refine ct_of (by decide +kernel) (Nat.le_of_ble_eq_true rfl) fun p e s m args below meth c C hr hin hW ls hl => ?_
  have hl : lv_has ls 4 [(0, .ref (E.b + o)), (1, .ref (bxA E p1)), (2, .ref (alA E p2)), (3, .int p3)] := hl
  unfold fJx4a65c_add_72be8 at hf
  refine lv_iload_n C.x C.b dJx4a65c_add_72be8_0 rfl (lv_at hl 3 rfl) ?_
  refine lv_aload_n C.x C.b dJx4a65c_add_72be8_1 rfl (lv_at hl 2 rfl) ?_
  replace hf := x_b1 hf; obtain ⟨x2_1, hx2_1, hf⟩ := hf
  refine x_dln C hW hx2_1 dJx4a65c_add_72be8_2 ?_
  refine lv_icmp_ne (tgt := 11) C.x C.b dJx4a65c_add_72be8_3 rfl (fun c3 => ?_) (fun c3 => ?_)
  · replace hf := x_in c3 hf
    refine lv_aload_n C.x C.b dJx4a65c_add_72be8_11 rfl (lv_at hl 2 rfl) ?_
    refine lv_iload_n C.x C.b dJx4a65c_add_72be8_12 rfl (lv_at hl 3 rfl) ?_
    refine lv_aload_n C.x C.b dJx4a65c_add_72be8_13 rfl (lv_at hl 1 rfl) ?_
    replace hf := x_b1 hf; obtain ⟨M14_2, hM14_2, hf⟩ := hf
    refine x_dsb C hW hM14_2 T_9_2 dJx4a65c_add_72be8_14 (fun H locs hW => ?_)
    refine lv_aload_n C.x C.b dJx4a65c_add_72be8_15 rfl (lv_at hl 0 rfl) ?_
    refine lv_iload_n C.x C.b dJx4a65c_add_72be8_16 rfl (lv_at hl 3 rfl) ?_
    refine lv_iconst (v := 1) C.x C.b dJx4a65c_add_72be8_17 (by decide) ?_
    refine lv_iadd C.x C.b dJx4a65c_add_72be8_18 ?_
    replace hf := x_b1 hf; obtain ⟨M19_3, hM19_3, hf⟩ := hf
    refine x_lputi C hW hM19_3 (by decide) T_1_219 (Or.inl rfl) dJx4a65c_add_72be8_19 (fun H locs hW => ?_)
    refine W.widen (k := 1) (n := 15) (Nat.le_of_ble_eq_true rfl) (Nat.le_of_ble_eq_true rfl) ?_
    rw [x_e0 hf]
    exact x_vret C hr hW dJx4a65c_add_72be8_22
  · replace hf := x_ip c3 hf
    refine lv_aload_n C.x C.b dJx4a65c_add_72be8_6 rfl (lv_at hl 0 rfl) ?_
    replace hf := x_b1 hf; obtain ⟨_, hk7_4, hf⟩ := hf
    replace hf := x_b2 hf; obtain ⟨x7_5, M7_6, hx7_5, hf⟩ := hf
    refine x_callV (As := []) (a := o) (rest := []) C hW hl (qJx4a65c_grow_d5877 l E hx7_5) (x_gk hk7_4) (by decide) (by decide) rfl gv_Jx4a65c_129 ⟨rfl, hd_Jx4a65c_grow_d5877⟩ rfl rfl (Nat.le_of_ble_eq_true rfl) dJx4a65c_add_72be8_7 ⟨Nat.le_of_ble_eq_true rfl, Nat.le_of_ble_eq_true rfl⟩ ⟨Nat.le_of_ble_eq_true rfl, Nat.le_of_ble_eq_true rfl⟩ (fun H locs hW => ?_)
    refine lv_astore_n (lv' := [(2, .ref (alA E _)), (0, .ref (E.b + _)), (1, .ref (bxA E _)), (3, .int _)]) C.x C.b dJx4a65c_add_72be8_10 rfl hl (by decide) rfl (fun ls hl => ?_)
    refine lv_aload_n C.x C.b dJx4a65c_add_72be8_11 rfl (lv_at hl 0 rfl) ?_
    refine lv_iload_n C.x C.b dJx4a65c_add_72be8_12 rfl (lv_at hl 3 rfl) ?_
    refine lv_aload_n C.x C.b dJx4a65c_add_72be8_13 rfl (lv_at hl 2 rfl) ?_
    replace hf := x_b1 hf; obtain ⟨M14_7, hM14_7, hf⟩ := hf
    refine x_dsb C hW hM14_7 T_9_2 dJx4a65c_add_72be8_14 (fun H locs hW => ?_)
    refine lv_aload_n C.x C.b dJx4a65c_add_72be8_15 rfl (lv_at hl 1 rfl) ?_
    refine lv_iload_n C.x C.b dJx4a65c_add_72be8_16 rfl (lv_at hl 3 rfl) ?_
    refine lv_iconst (v := 1) C.x C.b dJx4a65c_add_72be8_17 (by decide) ?_
    refine lv_iadd C.x C.b dJx4a65c_add_72be8_18 ?_
    replace hf := x_b1 hf; obtain ⟨M19_8, hM19_8, hf⟩ := hf
    refine x_lputi C hW hM19_8 (by decide) T_1_219 (Or.inl rfl) dJx4a65c_add_72be8_19 (fun H locs hW => ?_)
    rw [x_e0 hf]
    exact x_vret C hr hW dJx4a65c_add_72be8_22

theorem dJx4a65c_add_9ea2d_0 : decode cJx4a65c_add_9ea2d 0 = .ok (.aload_n 0, 1) := by decide +kernel
theorem dJx4a65c_add_9ea2d_1 : decode cJx4a65c_add_9ea2d 1 = .ok (.dup, 1) := by decide +kernel
theorem dJx4a65c_add_9ea2d_2 : decode cJx4a65c_add_9ea2d 2 = .ok (.getfield 63, 3) := by decide +kernel
theorem dJx4a65c_add_9ea2d_5 : decode cJx4a65c_add_9ea2d 5 = .ok (.iconst 1, 1) := by decide +kernel
theorem dJx4a65c_add_9ea2d_6 : decode cJx4a65c_add_9ea2d 6 = .ok (.iadd, 1) := by decide +kernel
theorem dJx4a65c_add_9ea2d_7 : decode cJx4a65c_add_9ea2d 7 = .ok (.putfield 63, 3) := by decide +kernel
theorem dJx4a65c_add_9ea2d_10 : decode cJx4a65c_add_9ea2d 10 = .ok (.aload_n 0, 1) := by decide +kernel
theorem dJx4a65c_add_9ea2d_11 : decode cJx4a65c_add_9ea2d 11 = .ok (.aload_n 1, 1) := by decide +kernel
theorem dJx4a65c_add_9ea2d_12 : decode cJx4a65c_add_9ea2d 12 = .ok (.aload_n 0, 1) := by decide +kernel
theorem dJx4a65c_add_9ea2d_13 : decode cJx4a65c_add_9ea2d 13 = .ok (.getfield 9, 3) := by decide +kernel
theorem dJx4a65c_add_9ea2d_16 : decode cJx4a65c_add_9ea2d 16 = .ok (.aload_n 0, 1) := by decide +kernel
theorem dJx4a65c_add_9ea2d_17 : decode cJx4a65c_add_9ea2d 17 = .ok (.getfield 48, 3) := by decide +kernel
theorem dJx4a65c_add_9ea2d_20 : decode cJx4a65c_add_9ea2d 20 = .ok (.invokevirtual 131, 3) := by decide +kernel
theorem dJx4a65c_add_9ea2d_23 : decode cJx4a65c_add_9ea2d 23 = .ok (.iconst 1, 1) := by decide +kernel
theorem dJx4a65c_add_9ea2d_24 : decode cJx4a65c_add_9ea2d 24 = .ok (.ireturn, 1) := by decide +kernel
theorem hd_Jx4a65c_add_72be8 : yJx4a65c_add_72be8.cls ≠ "java/lang/invoke/MethodHandle" ∧ yJx4a65c_add_72be8.cls ≠ "java/lang/invoke/VarHandle" ∧ (parseMethodDescriptor yJx4a65c_add_72be8.desc).map (fun d => d.parameters.length) = some 3 := by decide +kernel
theorem gv_Jx4a65c_131 : GoodIn gT (wsV "java/util/ArrayList" 131 "java/util/ArrayList" yJx4a65c_add_72be8 (Cond.code yJx4a65c_add_72be8 cJx4a65c_add_72be8 4 none :: gT)) := good_V T_5_89 T_5_91 TS_28 T_1_9 T_5_92
def fJx4a65c_add_9ea2d (M : Mm) (o : Nat) (p1 : Int32) : Option (Int32 × Mm) :=
  B1 (rdI M o 2 0) fun x2_1 =>
  B1 (wrI M o 2 0 (x2_1 + 1)) fun M7_2 =>
  B1 (rdN M7_2 o 2 1) fun d13_3 =>
  B1 (rdI M7_2 o 2 2) fun x17_4 =>
  B1 (gk M7_2 o 2) fun _ =>
  B1 (fJx4a65c_add_72be8 M7_2 o p1 d13_3 x17_4) fun M20_6 =>
  some (1, M20_6)
set_option maxRecDepth 100000 in
set_option maxHeartbeats 4000000 in
theorem qJx4a65c_add_9ea2d (l : Launch) (E : Ev) {M : Mm} {o : Nat} {p1 : Int32} {rz : Int32} {Mz : Mm} (hf : fJx4a65c_add_9ea2d M o p1 = some (rz, Mz)) : Ct l E yJx4a65c_add_9ea2d cJx4a65c_add_9ea2d 2 (some .boolean) 6 128 1 15 [.ref (E.b + o), .ref (bxA E p1)] M (some (.int rz)) Mz := by
  refine ct_of (by decide +kernel) (Nat.le_of_ble_eq_true rfl) fun p e s m args below meth c C hr hin hW ls hl => ?_
  have hl : lv_has ls 2 [(0, .ref (E.b + o)), (1, .ref (bxA E p1))] := hl
  unfold fJx4a65c_add_9ea2d at hf
  refine lv_aload_n C.x C.b dJx4a65c_add_9ea2d_0 rfl (lv_at hl 0 rfl) ?_
  refine lv_dup C.x C.b dJx4a65c_add_9ea2d_1 rfl ?_
  replace hf := x_b1 hf; obtain ⟨x2_1, hx2_1, hf⟩ := hf
  refine x_lgeti C hW hx2_1 (by decide) T_1_221 (Or.inr T_1_222) dJx4a65c_add_9ea2d_2 ?_
  refine lv_iconst (v := 1) C.x C.b dJx4a65c_add_9ea2d_5 (by decide) ?_
  refine lv_iadd C.x C.b dJx4a65c_add_9ea2d_6 ?_
  replace hf := x_b1 hf; obtain ⟨M7_2, hM7_2, hf⟩ := hf
  refine x_lputi C hW hM7_2 (by decide) T_1_221 (Or.inr T_1_222) dJx4a65c_add_9ea2d_7 (fun H locs hW => ?_)
  refine lv_aload_n C.x C.b dJx4a65c_add_9ea2d_10 rfl (lv_at hl 0 rfl) ?_
  refine lv_aload_n C.x C.b dJx4a65c_add_9ea2d_11 rfl (lv_at hl 1 rfl) ?_
  refine lv_aload_n C.x C.b dJx4a65c_add_9ea2d_12 rfl (lv_at hl 0 rfl) ?_
  replace hf := x_b1 hf; obtain ⟨d13_3, hd13_3, hf⟩ := hf
  refine x_lgetd C hW hd13_3 T_1_218 dJx4a65c_add_9ea2d_13 ?_
  refine lv_aload_n C.x C.b dJx4a65c_add_9ea2d_16 rfl (lv_at hl 0 rfl) ?_
  replace hf := x_b1 hf; obtain ⟨x17_4, hx17_4, hf⟩ := hf
  refine x_lgeti C hW hx17_4 (by decide) T_1_219 (Or.inl rfl) dJx4a65c_add_9ea2d_17 ?_
  replace hf := x_b1 hf; obtain ⟨_, hk20_5, hf⟩ := hf
  replace hf := x_b1 hf; obtain ⟨M20_6, hM20_6, hf⟩ := hf
  refine x_callV (As := [.ref (bxA E p1), .ref (alA E d13_3), .int x17_4]) (a := o) (rest := []) C hW hl (qJx4a65c_add_72be8 l E hM20_6) (x_gk hk20_5) (by decide) (by decide) rfl gv_Jx4a65c_131 ⟨rfl, hd_Jx4a65c_add_72be8⟩ rfl rfl (Nat.le_of_ble_eq_true rfl) dJx4a65c_add_9ea2d_20 ⟨Nat.le_of_ble_eq_true rfl, Nat.le_of_ble_eq_true rfl⟩ ⟨Nat.le_of_ble_eq_true rfl, Nat.le_of_ble_eq_true rfl⟩ (fun H locs hW => ?_)
  refine lv_iconst (v := 1) C.x C.b dJx4a65c_add_9ea2d_23 (by decide) ?_
  rw [x_e1 hf, x_e2 hf]
  exact x_zret C hr hW (v := 1) (w := 1) rfl dJx4a65c_add_9ea2d_24

theorem dX4_runs_0 : decode cX4_runs 0 = .ok (.aload_n 0, 1) := by decide +kernel
theorem dX4_runs_1 : decode cX4_runs 1 = .ok (.getfield 20, 3) := by decide +kernel
theorem dX4_runs_4 : decode cX4_runs 4 = .ok (.bipush 10, 2) := by decide +kernel
theorem dX4_runs_6 : decode cX4_runs 6 = .ok (.invokestatic 24, 3) := by decide +kernel
theorem dX4_runs_9 : decode cX4_runs 9 = .ok (.invokevirtual 30, 3) := by decide +kernel
theorem dX4_runs_12 : decode cX4_runs 12 = .ok (.pop, 1) := by decide +kernel
theorem dX4_runs_13 : decode cX4_runs 13 = .ok (.iload_n 1, 1) := by decide +kernel
theorem dX4_runs_14 : decode cX4_runs 14 = .ok (.aload_n 0, 1) := by decide +kernel
theorem dX4_runs_15 : decode cX4_runs 15 = .ok (.getfield 13, 3) := by decide +kernel
theorem dX4_runs_18 : decode cX4_runs 18 = .ok (.iadd, 1) := by decide +kernel
theorem dX4_runs_19 : decode cX4_runs 19 = .ok (.ireturn, 1) := by decide +kernel
theorem fg_X4_20_4 : FdG "NylonLadder$Plain" 20 4 2 true := ⟨_, _, _, _, rfl, by decide, by decide, by decide, gxX1, by decide, T_4_222, Or.inl rfl, rfl⟩
theorem hd_J6_valueOf_2dffe : yJ6_valueOf_2dffe.cls ≠ "java/lang/invoke/MethodHandle" ∧ yJ6_valueOf_2dffe.cls ≠ "java/lang/invoke/VarHandle" ∧ (parseMethodDescriptor yJ6_valueOf_2dffe.desc).map (fun d => d.parameters.length) = some 1 := by decide +kernel
theorem gs_X4_24 : GoodIn gT (va_wsS "NylonLadder$Plain" 24 yJ6_valueOf_2dffe (Cond.code yJ6_valueOf_2dffe cJ6_valueOf_2dffe 1 (some (.object "java/lang/Integer")) :: gT)) := good_S T_5_159 T_5_66 T_1_24 T_5_67
theorem hd_Jx4a65c_add_9ea2d : yJx4a65c_add_9ea2d.cls ≠ "java/lang/invoke/MethodHandle" ∧ yJx4a65c_add_9ea2d.cls ≠ "java/lang/invoke/VarHandle" ∧ (parseMethodDescriptor yJx4a65c_add_9ea2d.desc).map (fun d => d.parameters.length) = some 1 := by decide +kernel
theorem gv_X4_30 : GoodIn gT (wsV "NylonLadder$Plain" 30 "java/util/ArrayList" yJx4a65c_add_9ea2d (Cond.code yJx4a65c_add_9ea2d cJx4a65c_add_9ea2d 2 (some .boolean) :: gT)) := good_V T_5_160 T_5_86 T_5_87 T_1_9 T_5_88
theorem fg_X4_13_4 : FdG "NylonLadder$Plain" 13 4 0 false := ⟨_, _, _, _, rfl, by decide, by decide, by decide, gxX1, by decide, T_4_210, Or.inl rfl, rfl⟩
def fX4_runs_k4 (M : Mm) (o : Nat) (p1 : Int32) : Option (Int32 × Mm) :=
  B1 (rdN M o 4 2) fun a1_1 =>
  B1 (fJ6_valueOf_2dffe M 10) fun x6_2 =>
  B1 (gk M a1_1 2) fun _ =>
  B2 (fJx4a65c_add_9ea2d M a1_1 x6_2) fun x9_4 M9_5 =>
  B1 (rdI M9_5 o 4 0) fun x15_6 =>
  some ((p1 + x15_6), M9_5)
set_option maxRecDepth 100000 in
set_option maxHeartbeats 4000000 in
theorem qX4_runs_k4 (l : Launch) (E : Ev) {M : Mm} {o : Nat} {p1 : Int32} {rz : Int32} {Mz : Mm} (hf : fX4_runs_k4 M o p1 = some (rz, Mz)) : Ct l E yX4_runs cX4_runs 2 (some .int) 7 149 1 15 [.ref (E.b + o), .int p1] M (some (.int rz)) Mz := by
  refine ct_of (by decide +kernel) (Nat.le_of_ble_eq_true rfl) fun p e s m args below meth c C hr hin hW ls hl => ?_
  have hl : lv_has ls 2 [(0, .ref (E.b + o)), (1, .int p1)] := hl
  unfold fX4_runs_k4 at hf
  refine lv_aload_n C.x C.b dX4_runs_0 rfl (lv_at hl 0 rfl) ?_
  replace hf := x_b1 hf; obtain ⟨a1_1, ha1_1, hf⟩ := hf
  refine x_getn C hW fg_X4_20_4 ha1_1 dX4_runs_1 ?_
  refine lv_bipush (v := 10) C.x C.b dX4_runs_4 (by decide) ?_
  replace hf := x_b1 hf; obtain ⟨x6_2, hx6_2, hf⟩ := hf
  refine x_callS (As := [.int 10]) (rest := [.ref (E.b + a1_1)]) C hW hl (qJ6_valueOf_2dffe l E hx6_2) gs_X4_24 hd_J6_valueOf_2dffe rfl rfl (Nat.le_of_ble_eq_true rfl) dX4_runs_6 ⟨Nat.le_of_ble_eq_true rfl, Nat.le_of_ble_eq_true rfl⟩ ⟨Nat.le_of_ble_eq_true rfl, Nat.le_of_ble_eq_true rfl⟩ (fun H locs hW => ?_)
  replace hf := x_b1 hf; obtain ⟨_, hk9_3, hf⟩ := hf
  replace hf := x_b2 hf; obtain ⟨x9_4, M9_5, hx9_4, hf⟩ := hf
  refine x_callV (As := [.ref (bxA E x6_2)]) (a := a1_1) (rest := []) C hW hl (qJx4a65c_add_9ea2d l E hx9_4) (x_gk hk9_3) (by decide) (by decide) rfl gv_X4_30 ⟨rfl, hd_Jx4a65c_add_9ea2d⟩ rfl rfl (Nat.le_of_ble_eq_true rfl) dX4_runs_9 ⟨Nat.le_of_ble_eq_true rfl, Nat.le_of_ble_eq_true rfl⟩ ⟨Nat.le_of_ble_eq_true rfl, Nat.le_of_ble_eq_true rfl⟩ (fun H locs hW => ?_)
  refine lv_pop C.x C.b dX4_runs_12 rfl ?_
  refine lv_iload_n C.x C.b dX4_runs_13 rfl (lv_at hl 1 rfl) ?_
  refine lv_aload_n C.x C.b dX4_runs_14 rfl (lv_at hl 0 rfl) ?_
  replace hf := x_b1 hf; obtain ⟨x15_6, hx15_6, hf⟩ := hf
  refine x_geti C hW fg_X4_13_4 hx15_6 dX4_runs_15 ?_
  refine lv_iadd C.x C.b dX4_runs_18 ?_
  rw [x_e1 hf, x_e2 hf]
  exact x_iret C hr hW dX4_runs_19

theorem dX9_runs_0 : decode cX9_runs 0 = .ok (.aload_n 0, 1) := by decide +kernel
theorem dX9_runs_1 : decode cX9_runs 1 = .ok (.getfield 7, 3) := by decide +kernel
theorem dX9_runs_4 : decode cX9_runs 4 = .ok (.bipush 30, 2) := by decide +kernel
theorem dX9_runs_6 : decode cX9_runs 6 = .ok (.invokestatic 13, 3) := by decide +kernel
theorem dX9_runs_9 : decode cX9_runs 9 = .ok (.invokevirtual 19, 3) := by decide +kernel
theorem dX9_runs_12 : decode cX9_runs 12 = .ok (.pop, 1) := by decide +kernel
theorem dX9_runs_13 : decode cX9_runs 13 = .ok (.aload_n 0, 1) := by decide +kernel
theorem dX9_runs_14 : decode cX9_runs 14 = .ok (.iload_n 1, 1) := by decide +kernel
theorem dX9_runs_15 : decode cX9_runs 15 = .ok (.invokespecial 25, 3) := by decide +kernel
theorem dX9_runs_18 : decode cX9_runs 18 = .ok (.iconst 3, 1) := by decide +kernel
theorem dX9_runs_19 : decode cX9_runs 19 = .ok (.imul, 1) := by decide +kernel
theorem dX9_runs_20 : decode cX9_runs 20 = .ok (.ireturn, 1) := by decide +kernel
theorem fg_X9_7_4 : FdG "NylonLadder$Thick" 7 4 2 true := ⟨_, _, _, _, rfl, by decide, by decide, by decide, gxX1, by decide, T_4_225, Or.inr T_4_226, rfl⟩
theorem gs_X9_13 : GoodIn gT (va_wsS "NylonLadder$Thick" 13 yJ6_valueOf_2dffe (Cond.code yJ6_valueOf_2dffe cJ6_valueOf_2dffe 1 (some (.object "java/lang/Integer")) :: gT)) := good_S T_5_144 T_5_66 T_1_24 T_5_67
theorem gv_X9_19 : GoodIn gT (wsV "NylonLadder$Thick" 19 "java/util/ArrayList" yJx4a65c_add_9ea2d (Cond.code yJx4a65c_add_9ea2d cJx4a65c_add_9ea2d 2 (some .boolean) :: gT)) := good_V T_5_145 T_5_86 T_5_87 T_1_9 T_5_88
theorem hd_X4_runs : yX4_runs.cls ≠ "java/lang/invoke/MethodHandle" ∧ yX4_runs.cls ≠ "java/lang/invoke/VarHandle" ∧ (parseMethodDescriptor yX4_runs.desc).map (fun d => d.parameters.length) = some 1 := by decide +kernel
theorem hdn_X4_runs : yX4_runs.name ≠ "<init>" ∧ (parseMethodDescriptor yX4_runs.desc).map (fun d => d.parameters.length) = some 1 := by decide +kernel
theorem gp_X9_25 : GoodIn gT (va_wsSU "NylonLadder$Thick" 25 yX4_runs (Cond.code yX4_runs cX4_runs 2 (some .int) :: gT)) := good_SU T_5_146 T_5_61 T_5_16 T_5_59 T_1_17 T_5_158
def fX9_runs_k4 (M : Mm) (o : Nat) (p1 : Int32) : Option (Int32 × Mm) :=
  B1 (rdN M o 4 2) fun a1_1 =>
  B1 (fJ6_valueOf_2dffe M 30) fun x6_2 =>
  B1 (gk M a1_1 2) fun _ =>
  B2 (fJx4a65c_add_9ea2d M a1_1 x6_2) fun x9_4 M9_5 =>
  B1 (gk M9_5 o 4) fun _ =>
  B2 (fX4_runs_k4 M9_5 o p1) fun x15_7 M15_8 =>
  some ((x15_7 * 3), M15_8)
set_option maxRecDepth 100000 in
set_option maxHeartbeats 4000000 in
theorem qX9_runs_k4 (l : Launch) (E : Ev) {M : Mm} {o : Nat} {p1 : Int32} {rz : Int32} {Mz : Mm} (hf : fX9_runs_k4 M o p1 = some (rz, Mz)) : Ct l E yX9_runs cX9_runs 2 (some .int) 8 170 2 30 [.ref (E.b + o), .int p1] M (some (.int rz)) Mz := by
  refine ct_of (by decide +kernel) (Nat.le_of_ble_eq_true rfl) fun p e s m args below meth c C hr hin hW ls hl => ?_
  have hl : lv_has ls 2 [(0, .ref (E.b + o)), (1, .int p1)] := hl
  unfold fX9_runs_k4 at hf
  refine lv_aload_n C.x C.b dX9_runs_0 rfl (lv_at hl 0 rfl) ?_
  replace hf := x_b1 hf; obtain ⟨a1_1, ha1_1, hf⟩ := hf
  refine x_getn C hW fg_X9_7_4 ha1_1 dX9_runs_1 ?_
  refine lv_bipush (v := 30) C.x C.b dX9_runs_4 (by decide) ?_
  replace hf := x_b1 hf; obtain ⟨x6_2, hx6_2, hf⟩ := hf
  refine x_callS (As := [.int 30]) (rest := [.ref (E.b + a1_1)]) C hW hl (qJ6_valueOf_2dffe l E hx6_2) gs_X9_13 hd_J6_valueOf_2dffe rfl rfl (Nat.le_of_ble_eq_true rfl) dX9_runs_6 ⟨Nat.le_of_ble_eq_true rfl, Nat.le_of_ble_eq_true rfl⟩ ⟨Nat.le_of_ble_eq_true rfl, Nat.le_of_ble_eq_true rfl⟩ (fun H locs hW => ?_)
  replace hf := x_b1 hf; obtain ⟨_, hk9_3, hf⟩ := hf
  replace hf := x_b2 hf; obtain ⟨x9_4, M9_5, hx9_4, hf⟩ := hf
  refine x_callV (As := [.ref (bxA E x6_2)]) (a := a1_1) (rest := []) C hW hl (qJx4a65c_add_9ea2d l E hx9_4) (x_gk hk9_3) (by decide) (by decide) rfl gv_X9_19 ⟨rfl, hd_Jx4a65c_add_9ea2d⟩ rfl rfl (Nat.le_of_ble_eq_true rfl) dX9_runs_9 ⟨Nat.le_of_ble_eq_true rfl, Nat.le_of_ble_eq_true rfl⟩ ⟨Nat.le_of_ble_eq_true rfl, Nat.le_of_ble_eq_true rfl⟩ (fun H locs hW => ?_)
  refine lv_pop C.x C.b dX9_runs_12 rfl ?_
  refine lv_aload_n C.x C.b dX9_runs_13 rfl (lv_at hl 0 rfl) ?_
  refine lv_iload_n C.x C.b dX9_runs_14 rfl (lv_at hl 1 rfl) ?_
  replace hf := x_b1 hf; obtain ⟨_, hk15_6, hf⟩ := hf
  replace hf := x_b2 hf; obtain ⟨x15_7, M15_8, hx15_7, hf⟩ := hf
  refine x_callSU (As := [.int p1]) (a := o) (rest := []) C hW hl (qX4_runs_k4 l E hx15_7) (x_gk hk15_6) (by decide) (by decide) rfl gp_X9_25 hdn_X4_runs rfl rfl (Nat.le_of_ble_eq_true rfl) dX9_runs_15 ⟨Nat.le_of_ble_eq_true rfl, Nat.le_of_ble_eq_true rfl⟩ ⟨Nat.le_of_ble_eq_true rfl, Nat.le_of_ble_eq_true rfl⟩ (fun H locs hW => ?_)
  refine lv_iconst (v := 3) C.x C.b dX9_runs_18 (by decide) ?_
  refine lv_imul C.x C.b dX9_runs_19 ?_
  rw [x_e1 hf, x_e2 hf]
  exact x_iret C hr hW dX9_runs_20

theorem dX1_runs_0 : decode cX1_runs 0 = .ok (.aload_n 0, 1) := by decide +kernel
theorem dX1_runs_1 : decode cX1_runs 1 = .ok (.getfield 7, 3) := by decide +kernel
theorem dX1_runs_4 : decode cX1_runs 4 = .ok (.bipush 40, 2) := by decide +kernel
theorem dX1_runs_6 : decode cX1_runs 6 = .ok (.invokestatic 13, 3) := by decide +kernel
theorem dX1_runs_9 : decode cX1_runs 9 = .ok (.invokevirtual 19, 3) := by decide +kernel
theorem dX1_runs_12 : decode cX1_runs 12 = .ok (.pop, 1) := by decide +kernel
theorem dX1_runs_13 : decode cX1_runs 13 = .ok (.iconst 0, 1) := by decide +kernel
theorem dX1_runs_14 : decode cX1_runs 14 = .ok (.aload_n 0, 1) := by decide +kernel
theorem dX1_runs_15 : decode cX1_runs 15 = .ok (.iload_n 1, 1) := by decide +kernel
theorem dX1_runs_16 : decode cX1_runs 16 = .ok (.invokespecial 25, 3) := by decide +kernel
theorem dX1_runs_19 : decode cX1_runs 19 = .ok (.isub, 1) := by decide +kernel
theorem dX1_runs_20 : decode cX1_runs 20 = .ok (.ireturn, 1) := by decide +kernel
theorem fg_X1_7_4 : FdG "NylonLadder$Lined" 7 4 2 true := ⟨_, _, _, _, rfl, by decide, by decide, by decide, gxX1, by decide, T_4_223, Or.inr T_4_224, rfl⟩
theorem gs_X1_13 : GoodIn gT (va_wsS "NylonLadder$Lined" 13 yJ6_valueOf_2dffe (Cond.code yJ6_valueOf_2dffe cJ6_valueOf_2dffe 1 (some (.object "java/lang/Integer")) :: gT)) := good_S T_5_65 T_5_66 T_1_24 T_5_67
theorem gv_X1_19 : GoodIn gT (wsV "NylonLadder$Lined" 19 "java/util/ArrayList" yJx4a65c_add_9ea2d (Cond.code yJx4a65c_add_9ea2d cJx4a65c_add_9ea2d 2 (some .boolean) :: gT)) := good_V T_5_85 T_5_86 T_5_87 T_1_9 T_5_88
theorem hd_X9_runs : yX9_runs.cls ≠ "java/lang/invoke/MethodHandle" ∧ yX9_runs.cls ≠ "java/lang/invoke/VarHandle" ∧ (parseMethodDescriptor yX9_runs.desc).map (fun d => d.parameters.length) = some 1 := by decide +kernel
theorem hdn_X9_runs : yX9_runs.name ≠ "<init>" ∧ (parseMethodDescriptor yX9_runs.desc).map (fun d => d.parameters.length) = some 1 := by decide +kernel
theorem gp_X1_25 : GoodIn gT (va_wsSU "NylonLadder$Lined" 25 yX9_runs (Cond.code yX9_runs cX9_runs 2 (some .int) :: gT)) := good_SU T_5_141 T_8_237 T_5_38 T_5_142 T_1_19 T_5_143
def fX1_runs_k4 (M : Mm) (o : Nat) (p1 : Int32) : Option (Int32 × Mm) :=
  B1 (rdN M o 4 2) fun a1_1 =>
  B1 (fJ6_valueOf_2dffe M 40) fun x6_2 =>
  B1 (gk M a1_1 2) fun _ =>
  B2 (fJx4a65c_add_9ea2d M a1_1 x6_2) fun x9_4 M9_5 =>
  B1 (gk M9_5 o 4) fun _ =>
  B2 (fX9_runs_k4 M9_5 o p1) fun x16_7 M16_8 =>
  some ((0 - x16_7), M16_8)
set_option maxRecDepth 100000 in
set_option maxHeartbeats 4000000 in
theorem qX1_runs_k4 (l : Launch) (E : Ev) {M : Mm} {o : Nat} {p1 : Int32} {rz : Int32} {Mz : Mm} (hf : fX1_runs_k4 M o p1 = some (rz, Mz)) : Ct l E yX1_runs cX1_runs 2 (some .int) 9 191 3 45 [.ref (E.b + o), .int p1] M (some (.int rz)) Mz := by
  refine ct_of (by decide +kernel) (Nat.le_of_ble_eq_true rfl) fun p e s m args below meth c C hr hin hW ls hl => ?_
  have hl : lv_has ls 2 [(0, .ref (E.b + o)), (1, .int p1)] := hl
  unfold fX1_runs_k4 at hf
  refine lv_aload_n C.x C.b dX1_runs_0 rfl (lv_at hl 0 rfl) ?_
  replace hf := x_b1 hf; obtain ⟨a1_1, ha1_1, hf⟩ := hf
  refine x_getn C hW fg_X1_7_4 ha1_1 dX1_runs_1 ?_
  refine lv_bipush (v := 40) C.x C.b dX1_runs_4 (by decide) ?_
  replace hf := x_b1 hf; obtain ⟨x6_2, hx6_2, hf⟩ := hf
  refine x_callS (As := [.int 40]) (rest := [.ref (E.b + a1_1)]) C hW hl (qJ6_valueOf_2dffe l E hx6_2) gs_X1_13 hd_J6_valueOf_2dffe rfl rfl (Nat.le_of_ble_eq_true rfl) dX1_runs_6 ⟨Nat.le_of_ble_eq_true rfl, Nat.le_of_ble_eq_true rfl⟩ ⟨Nat.le_of_ble_eq_true rfl, Nat.le_of_ble_eq_true rfl⟩ (fun H locs hW => ?_)
  replace hf := x_b1 hf; obtain ⟨_, hk9_3, hf⟩ := hf
  replace hf := x_b2 hf; obtain ⟨x9_4, M9_5, hx9_4, hf⟩ := hf
  refine x_callV (As := [.ref (bxA E x6_2)]) (a := a1_1) (rest := []) C hW hl (qJx4a65c_add_9ea2d l E hx9_4) (x_gk hk9_3) (by decide) (by decide) rfl gv_X1_19 ⟨rfl, hd_Jx4a65c_add_9ea2d⟩ rfl rfl (Nat.le_of_ble_eq_true rfl) dX1_runs_9 ⟨Nat.le_of_ble_eq_true rfl, Nat.le_of_ble_eq_true rfl⟩ ⟨Nat.le_of_ble_eq_true rfl, Nat.le_of_ble_eq_true rfl⟩ (fun H locs hW => ?_)
  refine lv_pop C.x C.b dX1_runs_12 rfl ?_
  refine lv_iconst (v := 0) C.x C.b dX1_runs_13 (by decide) ?_
  refine lv_aload_n C.x C.b dX1_runs_14 rfl (lv_at hl 0 rfl) ?_
  refine lv_iload_n C.x C.b dX1_runs_15 rfl (lv_at hl 1 rfl) ?_
  replace hf := x_b1 hf; obtain ⟨_, hk16_6, hf⟩ := hf
  replace hf := x_b2 hf; obtain ⟨x16_7, M16_8, hx16_7, hf⟩ := hf
  refine x_callSU (As := [.int p1]) (a := o) (rest := [.int 0]) C hW hl (qX9_runs_k4 l E hx16_7) (x_gk hk16_6) (by decide) (by decide) rfl gp_X1_25 hdn_X9_runs rfl rfl (Nat.le_of_ble_eq_true rfl) dX1_runs_16 ⟨Nat.le_of_ble_eq_true rfl, Nat.le_of_ble_eq_true rfl⟩ ⟨Nat.le_of_ble_eq_true rfl, Nat.le_of_ble_eq_true rfl⟩ (fun H locs hW => ?_)
  refine lv_isub C.x C.b dX1_runs_19 ?_
  rw [x_e1 hf, x_e2 hf]
  exact x_iret C hr hW dX1_runs_20

theorem fg_X4_20_5 : FdG "NylonLadder$Plain" 20 5 2 true := ⟨_, _, _, _, rfl, by decide, by decide, by decide, gxX2, by decide, T_4_222, Or.inl rfl, rfl⟩
theorem fg_X4_13_5 : FdG "NylonLadder$Plain" 13 5 0 false := ⟨_, _, _, _, rfl, by decide, by decide, by decide, gxX2, by decide, T_4_210, Or.inl rfl, rfl⟩
def fX4_runs_k5 (M : Mm) (o : Nat) (p1 : Int32) : Option (Int32 × Mm) :=
  B1 (rdN M o 5 2) fun a1_1 =>
  B1 (fJ6_valueOf_2dffe M 10) fun x6_2 =>
  B1 (gk M a1_1 2) fun _ =>
  B2 (fJx4a65c_add_9ea2d M a1_1 x6_2) fun x9_4 M9_5 =>
  B1 (rdI M9_5 o 5 0) fun x15_6 =>
  some ((p1 + x15_6), M9_5)
set_option maxRecDepth 100000 in
set_option maxHeartbeats 4000000 in
theorem qX4_runs_k5 (l : Launch) (E : Ev) {M : Mm} {o : Nat} {p1 : Int32} {rz : Int32} {Mz : Mm} (hf : fX4_runs_k5 M o p1 = some (rz, Mz)) : Ct l E yX4_runs cX4_runs 2 (some .int) 7 149 1 15 [.ref (E.b + o), .int p1] M (some (.int rz)) Mz := by
  refine ct_of (by decide +kernel) (Nat.le_of_ble_eq_true rfl) fun p e s m args below meth c C hr hin hW ls hl => ?_
  have hl : lv_has ls 2 [(0, .ref (E.b + o)), (1, .int p1)] := hl
  unfold fX4_runs_k5 at hf
  refine lv_aload_n C.x C.b dX4_runs_0 rfl (lv_at hl 0 rfl) ?_
  replace hf := x_b1 hf; obtain ⟨a1_1, ha1_1, hf⟩ := hf
  refine x_getn C hW fg_X4_20_5 ha1_1 dX4_runs_1 ?_
  refine lv_bipush (v := 10) C.x C.b dX4_runs_4 (by decide) ?_
  replace hf := x_b1 hf; obtain ⟨x6_2, hx6_2, hf⟩ := hf
  refine x_callS (As := [.int 10]) (rest := [.ref (E.b + a1_1)]) C hW hl (qJ6_valueOf_2dffe l E hx6_2) gs_X4_24 hd_J6_valueOf_2dffe rfl rfl (Nat.le_of_ble_eq_true rfl) dX4_runs_6 ⟨Nat.le_of_ble_eq_true rfl, Nat.le_of_ble_eq_true rfl⟩ ⟨Nat.le_of_ble_eq_true rfl, Nat.le_of_ble_eq_true rfl⟩ (fun H locs hW => ?_)
  replace hf := x_b1 hf; obtain ⟨_, hk9_3, hf⟩ := hf
  replace hf := x_b2 hf; obtain ⟨x9_4, M9_5, hx9_4, hf⟩ := hf
  refine x_callV (As := [.ref (bxA E x6_2)]) (a := a1_1) (rest := []) C hW hl (qJx4a65c_add_9ea2d l E hx9_4) (x_gk hk9_3) (by decide) (by decide) rfl gv_X4_30 ⟨rfl, hd_Jx4a65c_add_9ea2d⟩ rfl rfl (Nat.le_of_ble_eq_true rfl) dX4_runs_9 ⟨Nat.le_of_ble_eq_true rfl, Nat.le_of_ble_eq_true rfl⟩ ⟨Nat.le_of_ble_eq_true rfl, Nat.le_of_ble_eq_true rfl⟩ (fun H locs hW => ?_)
  refine lv_pop C.x C.b dX4_runs_12 rfl ?_
  refine lv_iload_n C.x C.b dX4_runs_13 rfl (lv_at hl 1 rfl) ?_
  refine lv_aload_n C.x C.b dX4_runs_14 rfl (lv_at hl 0 rfl) ?_
  replace hf := x_b1 hf; obtain ⟨x15_6, hx15_6, hf⟩ := hf
  refine x_geti C hW fg_X4_13_5 hx15_6 dX4_runs_15 ?_
  refine lv_iadd C.x C.b dX4_runs_18 ?_
  rw [x_e1 hf, x_e2 hf]
  exact x_iret C hr hW dX4_runs_19

theorem dX2_runs_0 : decode cX2_runs 0 = .ok (.aload_n 0, 1) := by decide +kernel
theorem dX2_runs_1 : decode cX2_runs 1 = .ok (.getfield 7, 3) := by decide +kernel
theorem dX2_runs_4 : decode cX2_runs 4 = .ok (.bipush 51, 2) := by decide +kernel
theorem dX2_runs_6 : decode cX2_runs 6 = .ok (.invokestatic 13, 3) := by decide +kernel
theorem dX2_runs_9 : decode cX2_runs 9 = .ok (.invokevirtual 19, 3) := by decide +kernel
theorem dX2_runs_12 : decode cX2_runs 12 = .ok (.pop, 1) := by decide +kernel
theorem dX2_runs_13 : decode cX2_runs 13 = .ok (.aload_n 0, 1) := by decide +kernel
theorem dX2_runs_14 : decode cX2_runs 14 = .ok (.iload_n 1, 1) := by decide +kernel
theorem dX2_runs_15 : decode cX2_runs 15 = .ok (.invokespecial 29, 3) := by decide +kernel
theorem dX2_runs_18 : decode cX2_runs 18 = .ok (.aload_n 0, 1) := by decide +kernel
theorem dX2_runs_19 : decode cX2_runs 19 = .ok (.getfield 32, 3) := by decide +kernel
theorem dX2_runs_22 : decode cX2_runs 22 = .ok (.isub, 1) := by decide +kernel
theorem dX2_runs_23 : decode cX2_runs 23 = .ok (.ireturn, 1) := by decide +kernel
theorem fg_X2_7_5 : FdG "NylonLadder$Mesh" 7 5 2 true := ⟨_, _, _, _, rfl, by decide, by decide, by decide, gxX2, by decide, T_4_229, Or.inr T_4_230, rfl⟩
theorem gs_X2_13 : GoodIn gT (va_wsS "NylonLadder$Mesh" 13 yJ6_valueOf_2dffe (Cond.code yJ6_valueOf_2dffe cJ6_valueOf_2dffe 1 (some (.object "java/lang/Integer")) :: gT)) := good_S T_5_150 T_5_66 T_1_24 T_5_67
theorem gv_X2_19 : GoodIn gT (wsV "NylonLadder$Mesh" 19 "java/util/ArrayList" yJx4a65c_add_9ea2d (Cond.code yJx4a65c_add_9ea2d cJx4a65c_add_9ea2d 2 (some .boolean) :: gT)) := good_V T_5_151 T_5_86 T_5_87 T_1_9 T_5_88
theorem gp_X2_29 : GoodIn gT (sup_ws "NylonLadder$Mesh" "NylonLadder$Plain" 29 ⟨"NylonLadder$Sheer", "runs", "(I)I"⟩ yX4_runs (Cond.code yX4_runs cX4_runs 2 (some .int) :: gT)) := good_SX T_5_152 T_5_153 T_5_27 T_5_5 T_5_59 T_1_17 T_5_158
theorem fg_X2_32_5 : FdG "NylonLadder$Mesh" 32 5 0 false := ⟨_, _, _, _, rfl, by decide, by decide, by decide, gxX2, by decide, T_4_211, Or.inr T_4_212, rfl⟩
def fX2_runs_k5 (M : Mm) (o : Nat) (p1 : Int32) : Option (Int32 × Mm) :=
  B1 (rdN M o 5 2) fun a1_1 =>
  B1 (fJ6_valueOf_2dffe M 51) fun x6_2 =>
  B1 (gk M a1_1 2) fun _ =>
  B2 (fJx4a65c_add_9ea2d M a1_1 x6_2) fun x9_4 M9_5 =>
  B1 (gk M9_5 o 5) fun _ =>
  B2 (fX4_runs_k5 M9_5 o p1) fun x15_7 M15_8 =>
  B1 (rdI M15_8 o 5 0) fun x19_9 =>
  some ((x15_7 - x19_9), M15_8)
set_option maxRecDepth 100000 in
set_option maxHeartbeats 4000000 in
theorem qX2_runs_k5 (l : Launch) (E : Ev) {M : Mm} {o : Nat} {p1 : Int32} {rz : Int32} {Mz : Mm} (hf : fX2_runs_k5 M o p1 = some (rz, Mz)) : Ct l E yX2_runs cX2_runs 2 (some .int) 8 170 2 30 [.ref (E.b + o), .int p1] M (some (.int rz)) Mz := by
  refine ct_of (by decide +kernel) (Nat.le_of_ble_eq_true rfl) fun p e s m args below meth c C hr hin hW ls hl => ?_
  have hl : lv_has ls 2 [(0, .ref (E.b + o)), (1, .int p1)] := hl
  unfold fX2_runs_k5 at hf
  refine lv_aload_n C.x C.b dX2_runs_0 rfl (lv_at hl 0 rfl) ?_
  replace hf := x_b1 hf; obtain ⟨a1_1, ha1_1, hf⟩ := hf
  refine x_getn C hW fg_X2_7_5 ha1_1 dX2_runs_1 ?_
  refine lv_bipush (v := 51) C.x C.b dX2_runs_4 (by decide) ?_
  replace hf := x_b1 hf; obtain ⟨x6_2, hx6_2, hf⟩ := hf
  refine x_callS (As := [.int 51]) (rest := [.ref (E.b + a1_1)]) C hW hl (qJ6_valueOf_2dffe l E hx6_2) gs_X2_13 hd_J6_valueOf_2dffe rfl rfl (Nat.le_of_ble_eq_true rfl) dX2_runs_6 ⟨Nat.le_of_ble_eq_true rfl, Nat.le_of_ble_eq_true rfl⟩ ⟨Nat.le_of_ble_eq_true rfl, Nat.le_of_ble_eq_true rfl⟩ (fun H locs hW => ?_)
  replace hf := x_b1 hf; obtain ⟨_, hk9_3, hf⟩ := hf
  replace hf := x_b2 hf; obtain ⟨x9_4, M9_5, hx9_4, hf⟩ := hf
  refine x_callV (As := [.ref (bxA E x6_2)]) (a := a1_1) (rest := []) C hW hl (qJx4a65c_add_9ea2d l E hx9_4) (x_gk hk9_3) (by decide) (by decide) rfl gv_X2_19 ⟨rfl, hd_Jx4a65c_add_9ea2d⟩ rfl rfl (Nat.le_of_ble_eq_true rfl) dX2_runs_9 ⟨Nat.le_of_ble_eq_true rfl, Nat.le_of_ble_eq_true rfl⟩ ⟨Nat.le_of_ble_eq_true rfl, Nat.le_of_ble_eq_true rfl⟩ (fun H locs hW => ?_)
  refine lv_pop C.x C.b dX2_runs_12 rfl ?_
  refine lv_aload_n C.x C.b dX2_runs_13 rfl (lv_at hl 0 rfl) ?_
  refine lv_iload_n C.x C.b dX2_runs_14 rfl (lv_at hl 1 rfl) ?_
  replace hf := x_b1 hf; obtain ⟨_, hk15_6, hf⟩ := hf
  replace hf := x_b2 hf; obtain ⟨x15_7, M15_8, hx15_7, hf⟩ := hf
  refine x_callSX (owner := "NylonLadder$Plain") (x := ⟨"NylonLadder$Sheer", "runs", "(I)I"⟩) (As := [.int p1]) (a := o) (rest := []) C hW hl (qX4_runs_k5 l E hx15_7) (x_gk hk15_6) (by decide) (by decide) rfl gp_X2_29 rfl hdn_X4_runs rfl rfl (Nat.le_of_ble_eq_true rfl) dX2_runs_15 ⟨Nat.le_of_ble_eq_true rfl, Nat.le_of_ble_eq_true rfl⟩ ⟨Nat.le_of_ble_eq_true rfl, Nat.le_of_ble_eq_true rfl⟩ (fun H locs hW => ?_)
  refine lv_aload_n C.x C.b dX2_runs_18 rfl (lv_at hl 0 rfl) ?_
  replace hf := x_b1 hf; obtain ⟨x19_9, hx19_9, hf⟩ := hf
  refine x_geti C hW fg_X2_32_5 hx19_9 dX2_runs_19 ?_
  refine lv_isub C.x C.b dX2_runs_22 ?_
  rw [x_e1 hf, x_e2 hf]
  exact x_iret C hr hW dX2_runs_23

theorem fg_X4_20_6 : FdG "NylonLadder$Plain" 20 6 2 true := ⟨_, _, _, _, rfl, by decide, by decide, by decide, gxX3, by decide, T_4_222, Or.inl rfl, rfl⟩
theorem fg_X4_13_6 : FdG "NylonLadder$Plain" 13 6 0 false := ⟨_, _, _, _, rfl, by decide, by decide, by decide, gxX3, by decide, T_4_210, Or.inl rfl, rfl⟩
def fX4_runs_k6 (M : Mm) (o : Nat) (p1 : Int32) : Option (Int32 × Mm) :=
  B1 (rdN M o 6 2) fun a1_1 =>
  B1 (fJ6_valueOf_2dffe M 10) fun x6_2 =>
  B1 (gk M a1_1 2) fun _ =>
  B2 (fJx4a65c_add_9ea2d M a1_1 x6_2) fun x9_4 M9_5 =>
  B1 (rdI M9_5 o 6 0) fun x15_6 =>
  some ((p1 + x15_6), M9_5)
set_option maxRecDepth 100000 in
set_option maxHeartbeats 4000000 in
theorem qX4_runs_k6 (l : Launch) (E : Ev) {M : Mm} {o : Nat} {p1 : Int32} {rz : Int32} {Mz : Mm} (hf : fX4_runs_k6 M o p1 = some (rz, Mz)) : Ct l E yX4_runs cX4_runs 2 (some .int) 7 149 1 15 [.ref (E.b + o), .int p1] M (some (.int rz)) Mz := by
  refine ct_of (by decide +kernel) (Nat.le_of_ble_eq_true rfl) fun p e s m args below meth c C hr hin hW ls hl => ?_
  have hl : lv_has ls 2 [(0, .ref (E.b + o)), (1, .int p1)] := hl
  unfold fX4_runs_k6 at hf
  refine lv_aload_n C.x C.b dX4_runs_0 rfl (lv_at hl 0 rfl) ?_
  replace hf := x_b1 hf; obtain ⟨a1_1, ha1_1, hf⟩ := hf
  refine x_getn C hW fg_X4_20_6 ha1_1 dX4_runs_1 ?_
  refine lv_bipush (v := 10) C.x C.b dX4_runs_4 (by decide) ?_
  replace hf := x_b1 hf; obtain ⟨x6_2, hx6_2, hf⟩ := hf
  refine x_callS (As := [.int 10]) (rest := [.ref (E.b + a1_1)]) C hW hl (qJ6_valueOf_2dffe l E hx6_2) gs_X4_24 hd_J6_valueOf_2dffe rfl rfl (Nat.le_of_ble_eq_true rfl) dX4_runs_6 ⟨Nat.le_of_ble_eq_true rfl, Nat.le_of_ble_eq_true rfl⟩ ⟨Nat.le_of_ble_eq_true rfl, Nat.le_of_ble_eq_true rfl⟩ (fun H locs hW => ?_)
  replace hf := x_b1 hf; obtain ⟨_, hk9_3, hf⟩ := hf
  replace hf := x_b2 hf; obtain ⟨x9_4, M9_5, hx9_4, hf⟩ := hf
  refine x_callV (As := [.ref (bxA E x6_2)]) (a := a1_1) (rest := []) C hW hl (qJx4a65c_add_9ea2d l E hx9_4) (x_gk hk9_3) (by decide) (by decide) rfl gv_X4_30 ⟨rfl, hd_Jx4a65c_add_9ea2d⟩ rfl rfl (Nat.le_of_ble_eq_true rfl) dX4_runs_9 ⟨Nat.le_of_ble_eq_true rfl, Nat.le_of_ble_eq_true rfl⟩ ⟨Nat.le_of_ble_eq_true rfl, Nat.le_of_ble_eq_true rfl⟩ (fun H locs hW => ?_)
  refine lv_pop C.x C.b dX4_runs_12 rfl ?_
  refine lv_iload_n C.x C.b dX4_runs_13 rfl (lv_at hl 1 rfl) ?_
  refine lv_aload_n C.x C.b dX4_runs_14 rfl (lv_at hl 0 rfl) ?_
  replace hf := x_b1 hf; obtain ⟨x15_6, hx15_6, hf⟩ := hf
  refine x_geti C hW fg_X4_13_6 hx15_6 dX4_runs_15 ?_
  refine lv_iadd C.x C.b dX4_runs_18 ?_
  rw [x_e1 hf, x_e2 hf]
  exact x_iret C hr hW dX4_runs_19

theorem fg_X4_20_12 : FdG "NylonLadder$Plain" 20 12 2 true := ⟨_, _, _, _, rfl, by decide, by decide, by decide, gxX9, by decide, T_4_222, Or.inl rfl, rfl⟩
theorem fg_X4_13_12 : FdG "NylonLadder$Plain" 13 12 0 false := ⟨_, _, _, _, rfl, by decide, by decide, by decide, gxX9, by decide, T_4_210, Or.inl rfl, rfl⟩
def fX4_runs_k12 (M : Mm) (o : Nat) (p1 : Int32) : Option (Int32 × Mm) :=
  B1 (rdN M o 12 2) fun a1_1 =>
  B1 (fJ6_valueOf_2dffe M 10) fun x6_2 =>
  B1 (gk M a1_1 2) fun _ =>
  B2 (fJx4a65c_add_9ea2d M a1_1 x6_2) fun x9_4 M9_5 =>
  B1 (rdI M9_5 o 12 0) fun x15_6 =>
  some ((p1 + x15_6), M9_5)
set_option maxRecDepth 100000 in
set_option maxHeartbeats 4000000 in
theorem qX4_runs_k12 (l : Launch) (E : Ev) {M : Mm} {o : Nat} {p1 : Int32} {rz : Int32} {Mz : Mm} (hf : fX4_runs_k12 M o p1 = some (rz, Mz)) : Ct l E yX4_runs cX4_runs 2 (some .int) 7 149 1 15 [.ref (E.b + o), .int p1] M (some (.int rz)) Mz := by
  refine ct_of (by decide +kernel) (Nat.le_of_ble_eq_true rfl) fun p e s m args below meth c C hr hin hW ls hl => ?_
  have hl : lv_has ls 2 [(0, .ref (E.b + o)), (1, .int p1)] := hl
  unfold fX4_runs_k12 at hf
  refine lv_aload_n C.x C.b dX4_runs_0 rfl (lv_at hl 0 rfl) ?_
  replace hf := x_b1 hf; obtain ⟨a1_1, ha1_1, hf⟩ := hf
  refine x_getn C hW fg_X4_20_12 ha1_1 dX4_runs_1 ?_
  refine lv_bipush (v := 10) C.x C.b dX4_runs_4 (by decide) ?_
  replace hf := x_b1 hf; obtain ⟨x6_2, hx6_2, hf⟩ := hf
  refine x_callS (As := [.int 10]) (rest := [.ref (E.b + a1_1)]) C hW hl (qJ6_valueOf_2dffe l E hx6_2) gs_X4_24 hd_J6_valueOf_2dffe rfl rfl (Nat.le_of_ble_eq_true rfl) dX4_runs_6 ⟨Nat.le_of_ble_eq_true rfl, Nat.le_of_ble_eq_true rfl⟩ ⟨Nat.le_of_ble_eq_true rfl, Nat.le_of_ble_eq_true rfl⟩ (fun H locs hW => ?_)
  replace hf := x_b1 hf; obtain ⟨_, hk9_3, hf⟩ := hf
  replace hf := x_b2 hf; obtain ⟨x9_4, M9_5, hx9_4, hf⟩ := hf
  refine x_callV (As := [.ref (bxA E x6_2)]) (a := a1_1) (rest := []) C hW hl (qJx4a65c_add_9ea2d l E hx9_4) (x_gk hk9_3) (by decide) (by decide) rfl gv_X4_30 ⟨rfl, hd_Jx4a65c_add_9ea2d⟩ rfl rfl (Nat.le_of_ble_eq_true rfl) dX4_runs_9 ⟨Nat.le_of_ble_eq_true rfl, Nat.le_of_ble_eq_true rfl⟩ ⟨Nat.le_of_ble_eq_true rfl, Nat.le_of_ble_eq_true rfl⟩ (fun H locs hW => ?_)
  refine lv_pop C.x C.b dX4_runs_12 rfl ?_
  refine lv_iload_n C.x C.b dX4_runs_13 rfl (lv_at hl 1 rfl) ?_
  refine lv_aload_n C.x C.b dX4_runs_14 rfl (lv_at hl 0 rfl) ?_
  replace hf := x_b1 hf; obtain ⟨x15_6, hx15_6, hf⟩ := hf
  refine x_geti C hW fg_X4_13_12 hx15_6 dX4_runs_15 ?_
  refine lv_iadd C.x C.b dX4_runs_18 ?_
  rw [x_e1 hf, x_e2 hf]
  exact x_iret C hr hW dX4_runs_19

theorem fg_X9_7_12 : FdG "NylonLadder$Thick" 7 12 2 true := ⟨_, _, _, _, rfl, by decide, by decide, by decide, gxX9, by decide, T_4_225, Or.inr T_4_226, rfl⟩
def fX9_runs_k12 (M : Mm) (o : Nat) (p1 : Int32) : Option (Int32 × Mm) :=
  B1 (rdN M o 12 2) fun a1_1 =>
  B1 (fJ6_valueOf_2dffe M 30) fun x6_2 =>
  B1 (gk M a1_1 2) fun _ =>
  B2 (fJx4a65c_add_9ea2d M a1_1 x6_2) fun x9_4 M9_5 =>
  B1 (gk M9_5 o 12) fun _ =>
  B2 (fX4_runs_k12 M9_5 o p1) fun x15_7 M15_8 =>
  some ((x15_7 * 3), M15_8)
set_option maxRecDepth 100000 in
set_option maxHeartbeats 4000000 in
theorem qX9_runs_k12 (l : Launch) (E : Ev) {M : Mm} {o : Nat} {p1 : Int32} {rz : Int32} {Mz : Mm} (hf : fX9_runs_k12 M o p1 = some (rz, Mz)) : Ct l E yX9_runs cX9_runs 2 (some .int) 8 170 2 30 [.ref (E.b + o), .int p1] M (some (.int rz)) Mz := by
  refine ct_of (by decide +kernel) (Nat.le_of_ble_eq_true rfl) fun p e s m args below meth c C hr hin hW ls hl => ?_
  have hl : lv_has ls 2 [(0, .ref (E.b + o)), (1, .int p1)] := hl
  unfold fX9_runs_k12 at hf
  refine lv_aload_n C.x C.b dX9_runs_0 rfl (lv_at hl 0 rfl) ?_
  replace hf := x_b1 hf; obtain ⟨a1_1, ha1_1, hf⟩ := hf
  refine x_getn C hW fg_X9_7_12 ha1_1 dX9_runs_1 ?_
  refine lv_bipush (v := 30) C.x C.b dX9_runs_4 (by decide) ?_
  replace hf := x_b1 hf; obtain ⟨x6_2, hx6_2, hf⟩ := hf
  refine x_callS (As := [.int 30]) (rest := [.ref (E.b + a1_1)]) C hW hl (qJ6_valueOf_2dffe l E hx6_2) gs_X9_13 hd_J6_valueOf_2dffe rfl rfl (Nat.le_of_ble_eq_true rfl) dX9_runs_6 ⟨Nat.le_of_ble_eq_true rfl, Nat.le_of_ble_eq_true rfl⟩ ⟨Nat.le_of_ble_eq_true rfl, Nat.le_of_ble_eq_true rfl⟩ (fun H locs hW => ?_)
  replace hf := x_b1 hf; obtain ⟨_, hk9_3, hf⟩ := hf
  replace hf := x_b2 hf; obtain ⟨x9_4, M9_5, hx9_4, hf⟩ := hf
  refine x_callV (As := [.ref (bxA E x6_2)]) (a := a1_1) (rest := []) C hW hl (qJx4a65c_add_9ea2d l E hx9_4) (x_gk hk9_3) (by decide) (by decide) rfl gv_X9_19 ⟨rfl, hd_Jx4a65c_add_9ea2d⟩ rfl rfl (Nat.le_of_ble_eq_true rfl) dX9_runs_9 ⟨Nat.le_of_ble_eq_true rfl, Nat.le_of_ble_eq_true rfl⟩ ⟨Nat.le_of_ble_eq_true rfl, Nat.le_of_ble_eq_true rfl⟩ (fun H locs hW => ?_)
  refine lv_pop C.x C.b dX9_runs_12 rfl ?_
  refine lv_aload_n C.x C.b dX9_runs_13 rfl (lv_at hl 0 rfl) ?_
  refine lv_iload_n C.x C.b dX9_runs_14 rfl (lv_at hl 1 rfl) ?_
  replace hf := x_b1 hf; obtain ⟨_, hk15_6, hf⟩ := hf
  replace hf := x_b2 hf; obtain ⟨x15_7, M15_8, hx15_7, hf⟩ := hf
  refine x_callSU (As := [.int p1]) (a := o) (rest := []) C hW hl (qX4_runs_k12 l E hx15_7) (x_gk hk15_6) (by decide) (by decide) rfl gp_X9_25 hdn_X4_runs rfl rfl (Nat.le_of_ble_eq_true rfl) dX9_runs_15 ⟨Nat.le_of_ble_eq_true rfl, Nat.le_of_ble_eq_true rfl⟩ ⟨Nat.le_of_ble_eq_true rfl, Nat.le_of_ble_eq_true rfl⟩ (fun H locs hW => ?_)
  refine lv_iconst (v := 3) C.x C.b dX9_runs_18 (by decide) ?_
  refine lv_imul C.x C.b dX9_runs_19 ?_
  rw [x_e1 hf, x_e2 hf]
  exact x_iret C hr hW dX9_runs_20

theorem fg_X4_20_8 : FdG "NylonLadder$Plain" 20 8 2 true := ⟨_, _, _, _, rfl, by decide, by decide, by decide, gxX5, by decide, T_4_222, Or.inl rfl, rfl⟩
theorem fg_X4_13_8 : FdG "NylonLadder$Plain" 13 8 0 false := ⟨_, _, _, _, rfl, by decide, by decide, by decide, gxX5, by decide, T_4_210, Or.inl rfl, rfl⟩
def fX4_runs_k8 (M : Mm) (o : Nat) (p1 : Int32) : Option (Int32 × Mm) :=
  B1 (rdN M o 8 2) fun a1_1 =>
  B1 (fJ6_valueOf_2dffe M 10) fun x6_2 =>
  B1 (gk M a1_1 2) fun _ =>
  B2 (fJx4a65c_add_9ea2d M a1_1 x6_2) fun x9_4 M9_5 =>
  B1 (rdI M9_5 o 8 0) fun x15_6 =>
  some ((p1 + x15_6), M9_5)
set_option maxRecDepth 100000 in
set_option maxHeartbeats 4000000 in
theorem qX4_runs_k8 (l : Launch) (E : Ev) {M : Mm} {o : Nat} {p1 : Int32} {rz : Int32} {Mz : Mm} (hf : fX4_runs_k8 M o p1 = some (rz, Mz)) : Ct l E yX4_runs cX4_runs 2 (some .int) 7 149 1 15 [.ref (E.b + o), .int p1] M (some (.int rz)) Mz := by
  refine ct_of (by decide +kernel) (Nat.le_of_ble_eq_true rfl) fun p e s m args below meth c C hr hin hW ls hl => ?_
  have hl : lv_has ls 2 [(0, .ref (E.b + o)), (1, .int p1)] := hl
  unfold fX4_runs_k8 at hf
  refine lv_aload_n C.x C.b dX4_runs_0 rfl (lv_at hl 0 rfl) ?_
  replace hf := x_b1 hf; obtain ⟨a1_1, ha1_1, hf⟩ := hf
  refine x_getn C hW fg_X4_20_8 ha1_1 dX4_runs_1 ?_
  refine lv_bipush (v := 10) C.x C.b dX4_runs_4 (by decide) ?_
  replace hf := x_b1 hf; obtain ⟨x6_2, hx6_2, hf⟩ := hf
  refine x_callS (As := [.int 10]) (rest := [.ref (E.b + a1_1)]) C hW hl (qJ6_valueOf_2dffe l E hx6_2) gs_X4_24 hd_J6_valueOf_2dffe rfl rfl (Nat.le_of_ble_eq_true rfl) dX4_runs_6 ⟨Nat.le_of_ble_eq_true rfl, Nat.le_of_ble_eq_true rfl⟩ ⟨Nat.le_of_ble_eq_true rfl, Nat.le_of_ble_eq_true rfl⟩ (fun H locs hW => ?_)
  replace hf := x_b1 hf; obtain ⟨_, hk9_3, hf⟩ := hf
  replace hf := x_b2 hf; obtain ⟨x9_4, M9_5, hx9_4, hf⟩ := hf
  refine x_callV (As := [.ref (bxA E x6_2)]) (a := a1_1) (rest := []) C hW hl (qJx4a65c_add_9ea2d l E hx9_4) (x_gk hk9_3) (by decide) (by decide) rfl gv_X4_30 ⟨rfl, hd_Jx4a65c_add_9ea2d⟩ rfl rfl (Nat.le_of_ble_eq_true rfl) dX4_runs_9 ⟨Nat.le_of_ble_eq_true rfl, Nat.le_of_ble_eq_true rfl⟩ ⟨Nat.le_of_ble_eq_true rfl, Nat.le_of_ble_eq_true rfl⟩ (fun H locs hW => ?_)
  refine lv_pop C.x C.b dX4_runs_12 rfl ?_
  refine lv_iload_n C.x C.b dX4_runs_13 rfl (lv_at hl 1 rfl) ?_
  refine lv_aload_n C.x C.b dX4_runs_14 rfl (lv_at hl 0 rfl) ?_
  replace hf := x_b1 hf; obtain ⟨x15_6, hx15_6, hf⟩ := hf
  refine x_geti C hW fg_X4_13_8 hx15_6 dX4_runs_15 ?_
  refine lv_iadd C.x C.b dX4_runs_18 ?_
  rw [x_e1 hf, x_e2 hf]
  exact x_iret C hr hW dX4_runs_19

theorem fg_X4_20_7 : FdG "NylonLadder$Plain" 20 7 2 true := ⟨_, _, _, _, rfl, by decide, by decide, by decide, gxX4, by decide, T_4_222, Or.inl rfl, rfl⟩
theorem fg_X4_13_7 : FdG "NylonLadder$Plain" 13 7 0 false := ⟨_, _, _, _, rfl, by decide, by decide, by decide, gxX4, by decide, T_4_210, Or.inl rfl, rfl⟩
def fX4_runs_k7 (M : Mm) (o : Nat) (p1 : Int32) : Option (Int32 × Mm) :=
  B1 (rdN M o 7 2) fun a1_1 =>
  B1 (fJ6_valueOf_2dffe M 10) fun x6_2 =>
  B1 (gk M a1_1 2) fun _ =>
  B2 (fJx4a65c_add_9ea2d M a1_1 x6_2) fun x9_4 M9_5 =>
  B1 (rdI M9_5 o 7 0) fun x15_6 =>
  some ((p1 + x15_6), M9_5)
set_option maxRecDepth 100000 in
set_option maxHeartbeats 4000000 in
theorem qX4_runs_k7 (l : Launch) (E : Ev) {M : Mm} {o : Nat} {p1 : Int32} {rz : Int32} {Mz : Mm} (hf : fX4_runs_k7 M o p1 = some (rz, Mz)) : Ct l E yX4_runs cX4_runs 2 (some .int) 7 149 1 15 [.ref (E.b + o), .int p1] M (some (.int rz)) Mz := by
  refine ct_of (by decide +kernel) (Nat.le_of_ble_eq_true rfl) fun p e s m args below meth c C hr hin hW ls hl => ?_
  have hl : lv_has ls 2 [(0, .ref (E.b + o)), (1, .int p1)] := hl
  unfold fX4_runs_k7 at hf
  refine lv_aload_n C.x C.b dX4_runs_0 rfl (lv_at hl 0 rfl) ?_
  replace hf := x_b1 hf; obtain ⟨a1_1, ha1_1, hf⟩ := hf
  refine x_getn C hW fg_X4_20_7 ha1_1 dX4_runs_1 ?_
  refine lv_bipush (v := 10) C.x C.b dX4_runs_4 (by decide) ?_
  replace hf := x_b1 hf; obtain ⟨x6_2, hx6_2, hf⟩ := hf
  refine x_callS (As := [.int 10]) (rest := [.ref (E.b + a1_1)]) C hW hl (qJ6_valueOf_2dffe l E hx6_2) gs_X4_24 hd_J6_valueOf_2dffe rfl rfl (Nat.le_of_ble_eq_true rfl) dX4_runs_6 ⟨Nat.le_of_ble_eq_true rfl, Nat.le_of_ble_eq_true rfl⟩ ⟨Nat.le_of_ble_eq_true rfl, Nat.le_of_ble_eq_true rfl⟩ (fun H locs hW => ?_)
  replace hf := x_b1 hf; obtain ⟨_, hk9_3, hf⟩ := hf
  replace hf := x_b2 hf; obtain ⟨x9_4, M9_5, hx9_4, hf⟩ := hf
  refine x_callV (As := [.ref (bxA E x6_2)]) (a := a1_1) (rest := []) C hW hl (qJx4a65c_add_9ea2d l E hx9_4) (x_gk hk9_3) (by decide) (by decide) rfl gv_X4_30 ⟨rfl, hd_Jx4a65c_add_9ea2d⟩ rfl rfl (Nat.le_of_ble_eq_true rfl) dX4_runs_9 ⟨Nat.le_of_ble_eq_true rfl, Nat.le_of_ble_eq_true rfl⟩ ⟨Nat.le_of_ble_eq_true rfl, Nat.le_of_ble_eq_true rfl⟩ (fun H locs hW => ?_)
  refine lv_pop C.x C.b dX4_runs_12 rfl ?_
  refine lv_iload_n C.x C.b dX4_runs_13 rfl (lv_at hl 1 rfl) ?_
  refine lv_aload_n C.x C.b dX4_runs_14 rfl (lv_at hl 0 rfl) ?_
  replace hf := x_b1 hf; obtain ⟨x15_6, hx15_6, hf⟩ := hf
  refine x_geti C hW fg_X4_13_7 hx15_6 dX4_runs_15 ?_
  refine lv_iadd C.x C.b dX4_runs_18 ?_
  rw [x_e1 hf, x_e2 hf]
  exact x_iret C hr hW dX4_runs_19

theorem dX4_dries_0 : decode cX4_dries 0 = .ok (.aload_n 0, 1) := by decide +kernel
theorem dX4_dries_1 : decode cX4_dries 1 = .ok (.getfield 20, 3) := by decide +kernel
theorem dX4_dries_4 : decode cX4_dries 4 = .ok (.bipush 11, 2) := by decide +kernel
theorem dX4_dries_6 : decode cX4_dries 6 = .ok (.invokestatic 24, 3) := by decide +kernel
theorem dX4_dries_9 : decode cX4_dries 9 = .ok (.invokevirtual 30, 3) := by decide +kernel
theorem dX4_dries_12 : decode cX4_dries 12 = .ok (.pop, 1) := by decide +kernel
theorem dX4_dries_13 : decode cX4_dries 13 = .ok (.aload_n 0, 1) := by decide +kernel
theorem dX4_dries_14 : decode cX4_dries 14 = .ok (.iload_n 1, 1) := by decide +kernel
theorem dX4_dries_15 : decode cX4_dries 15 = .ok (.invokevirtual 36, 3) := by decide +kernel
theorem dX4_dries_18 : decode cX4_dries 18 = .ok (.iconst 2, 1) := by decide +kernel
theorem dX4_dries_19 : decode cX4_dries 19 = .ok (.imul, 1) := by decide +kernel
theorem dX4_dries_20 : decode cX4_dries 20 = .ok (.ireturn, 1) := by decide +kernel
theorem hd_X1_runs : yX1_runs.cls ≠ "java/lang/invoke/MethodHandle" ∧ yX1_runs.cls ≠ "java/lang/invoke/VarHandle" ∧ (parseMethodDescriptor yX1_runs.desc).map (fun d => d.parameters.length) = some 1 := by decide +kernel
theorem hdo_X4_36 : ("NylonLadder$Plain" : String) ≠ "java/lang/invoke/MethodHandle" ∧ ("NylonLadder$Plain" : String) ≠ "java/lang/invoke/VarHandle" ∧ (parseMethodDescriptor "(I)I").map (fun d => d.parameters.length) = some 1 := by decide +kernel
theorem gu_X4_36_4 : GoodIn gT (va_wsO "NylonLadder$Plain" 36 "NylonLadder$Lined" "NylonLadder$Plain" ⟨"NylonLadder$Plain", "runs", "(I)I"⟩ yX1_runs (Cond.code yX1_runs cX1_runs 2 (some .int) :: gT)) := good_O T_5_182 T_5_61 T_5_59 T_5_62 T_5_63 T_1_21 T_5_64
def fX4_dries_k4 (M : Mm) (o : Nat) (p1 : Int32) : Option (Int32 × Mm) :=
  B1 (rdN M o 4 2) fun a1_1 =>
  B1 (fJ6_valueOf_2dffe M 11) fun x6_2 =>
  B1 (gk M a1_1 2) fun _ =>
  B2 (fJx4a65c_add_9ea2d M a1_1 x6_2) fun x9_4 M9_5 =>
  B1 (gk M9_5 o 4) fun _ =>
  B2 (fX1_runs_k4 M9_5 o p1) fun x15_7 M15_8 =>
  some ((x15_7 * 2), M15_8)
set_option maxRecDepth 100000 in
set_option maxHeartbeats 4000000 in
theorem qX4_dries_k4 (l : Launch) (E : Ev) {M : Mm} {o : Nat} {p1 : Int32} {rz : Int32} {Mz : Mm} (hf : fX4_dries_k4 M o p1 = some (rz, Mz)) : Ct l E yX4_dries cX4_dries 2 (some .int) 10 212 4 60 [.ref (E.b + o), .int p1] M (some (.int rz)) Mz := by
  refine ct_of (by decide +kernel) (Nat.le_of_ble_eq_true rfl) fun p e s m args below meth c C hr hin hW ls hl => ?_
  have hl : lv_has ls 2 [(0, .ref (E.b + o)), (1, .int p1)] := hl
  unfold fX4_dries_k4 at hf
  refine lv_aload_n C.x C.b dX4_dries_0 rfl (lv_at hl 0 rfl) ?_
  replace hf := x_b1 hf; obtain ⟨a1_1, ha1_1, hf⟩ := hf
  refine x_getn C hW fg_X4_20_4 ha1_1 dX4_dries_1 ?_
  refine lv_bipush (v := 11) C.x C.b dX4_dries_4 (by decide) ?_
  replace hf := x_b1 hf; obtain ⟨x6_2, hx6_2, hf⟩ := hf
  refine x_callS (As := [.int 11]) (rest := [.ref (E.b + a1_1)]) C hW hl (qJ6_valueOf_2dffe l E hx6_2) gs_X4_24 hd_J6_valueOf_2dffe rfl rfl (Nat.le_of_ble_eq_true rfl) dX4_dries_6 ⟨Nat.le_of_ble_eq_true rfl, Nat.le_of_ble_eq_true rfl⟩ ⟨Nat.le_of_ble_eq_true rfl, Nat.le_of_ble_eq_true rfl⟩ (fun H locs hW => ?_)
  replace hf := x_b1 hf; obtain ⟨_, hk9_3, hf⟩ := hf
  replace hf := x_b2 hf; obtain ⟨x9_4, M9_5, hx9_4, hf⟩ := hf
  refine x_callV (As := [.ref (bxA E x6_2)]) (a := a1_1) (rest := []) C hW hl (qJx4a65c_add_9ea2d l E hx9_4) (x_gk hk9_3) (by decide) (by decide) rfl gv_X4_30 ⟨rfl, hd_Jx4a65c_add_9ea2d⟩ rfl rfl (Nat.le_of_ble_eq_true rfl) dX4_dries_9 ⟨Nat.le_of_ble_eq_true rfl, Nat.le_of_ble_eq_true rfl⟩ ⟨Nat.le_of_ble_eq_true rfl, Nat.le_of_ble_eq_true rfl⟩ (fun H locs hW => ?_)
  refine lv_pop C.x C.b dX4_dries_12 rfl ?_
  refine lv_aload_n C.x C.b dX4_dries_13 rfl (lv_at hl 0 rfl) ?_
  refine lv_iload_n C.x C.b dX4_dries_14 rfl (lv_at hl 1 rfl) ?_
  replace hf := x_b1 hf; obtain ⟨_, hk15_6, hf⟩ := hf
  replace hf := x_b2 hf; obtain ⟨x15_7, M15_8, hx15_7, hf⟩ := hf
  refine x_callO (owner := "NylonLadder$Plain") (x := ⟨"NylonLadder$Plain", "runs", "(I)I"⟩) (As := [.int p1]) (a := o) (rest := []) C hW hl (qX1_runs_k4 l E hx15_7) (x_gk hk15_6) (by decide) (by decide) rfl gu_X4_36_4 T_5_158 hdo_X4_36 rfl rfl (Nat.le_of_ble_eq_true rfl) dX4_dries_15 ⟨Nat.le_of_ble_eq_true rfl, Nat.le_of_ble_eq_true rfl⟩ ⟨Nat.le_of_ble_eq_true rfl, Nat.le_of_ble_eq_true rfl⟩ (fun H locs hW => ?_)
  refine lv_iconst (v := 2) C.x C.b dX4_dries_18 (by decide) ?_
  refine lv_imul C.x C.b dX4_dries_19 ?_
  rw [x_e1 hf, x_e2 hf]
  exact x_iret C hr hW dX4_dries_20

theorem dX1_dries_0 : decode cX1_dries 0 = .ok (.aload_n 0, 1) := by decide +kernel
theorem dX1_dries_1 : decode cX1_dries 1 = .ok (.getfield 7, 3) := by decide +kernel
theorem dX1_dries_4 : decode cX1_dries 4 = .ok (.bipush 41, 2) := by decide +kernel
theorem dX1_dries_6 : decode cX1_dries 6 = .ok (.invokestatic 13, 3) := by decide +kernel
theorem dX1_dries_9 : decode cX1_dries 9 = .ok (.invokevirtual 19, 3) := by decide +kernel
theorem dX1_dries_12 : decode cX1_dries 12 = .ok (.pop, 1) := by decide +kernel
theorem dX1_dries_13 : decode cX1_dries 13 = .ok (.aload_n 0, 1) := by decide +kernel
theorem dX1_dries_14 : decode cX1_dries 14 = .ok (.iload_n 1, 1) := by decide +kernel
theorem dX1_dries_15 : decode cX1_dries 15 = .ok (.invokespecial 29, 3) := by decide +kernel
theorem dX1_dries_18 : decode cX1_dries 18 = .ok (.aload_n 0, 1) := by decide +kernel
theorem dX1_dries_19 : decode cX1_dries 19 = .ok (.aload_n 0, 1) := by decide +kernel
theorem dX1_dries_20 : decode cX1_dries 20 = .ok (.getfield 32, 3) := by decide +kernel
theorem dX1_dries_23 : decode cX1_dries 23 = .ok (.invokevirtual 36, 3) := by decide +kernel
theorem dX1_dries_26 : decode cX1_dries 26 = .ok (.iadd, 1) := by decide +kernel
theorem dX1_dries_27 : decode cX1_dries 27 = .ok (.ireturn, 1) := by decide +kernel
theorem hd_X4_dries : yX4_dries.cls ≠ "java/lang/invoke/MethodHandle" ∧ yX4_dries.cls ≠ "java/lang/invoke/VarHandle" ∧ (parseMethodDescriptor yX4_dries.desc).map (fun d => d.parameters.length) = some 1 := by decide +kernel
theorem hdn_X4_dries : yX4_dries.name ≠ "<init>" ∧ (parseMethodDescriptor yX4_dries.desc).map (fun d => d.parameters.length) = some 1 := by decide +kernel
theorem gp_X1_29 : GoodIn gT (sup_ws "NylonLadder$Lined" "NylonLadder$Plain" 29 ⟨"NylonLadder$Thick", "dries", "(I)I"⟩ yX4_dries (Cond.code yX4_dries cX4_dries 2 (some .int) :: gT)) := good_SX T_5_168 T_5_169 T_5_38 T_5_16 T_5_162 T_1_17 T_5_181
theorem fg_X1_32_4 : FdG "NylonLadder$Lined" 32 4 0 false := ⟨_, _, _, _, rfl, by decide, by decide, by decide, gxX1, by decide, T_4_213, Or.inr T_4_214, rfl⟩
theorem hdo_X1_36 : ("NylonLadder$Lined" : String) ≠ "java/lang/invoke/MethodHandle" ∧ ("NylonLadder$Lined" : String) ≠ "java/lang/invoke/VarHandle" ∧ (parseMethodDescriptor "(I)I").map (fun d => d.parameters.length) = some 1 := by decide +kernel
theorem gu_X1_36_4 : GoodIn gT (wsV "NylonLadder$Lined" 36 "NylonLadder$Lined" yX1_runs (Cond.code yX1_runs cX1_runs 2 (some .int) :: gT)) := good_V T_5_171 T_5_63 T_8_238 T_1_21 T_5_64
def fX1_dries_k4 (M : Mm) (o : Nat) (p1 : Int32) : Option (Int32 × Mm) :=
  B1 (rdN M o 4 2) fun a1_1 =>
  B1 (fJ6_valueOf_2dffe M 41) fun x6_2 =>
  B1 (gk M a1_1 2) fun _ =>
  B2 (fJx4a65c_add_9ea2d M a1_1 x6_2) fun x9_4 M9_5 =>
  B1 (gk M9_5 o 4) fun _ =>
  B2 (fX4_dries_k4 M9_5 o p1) fun x15_7 M15_8 =>
  B1 (rdI M15_8 o 4 0) fun x20_9 =>
  B1 (gk M15_8 o 4) fun _ =>
  B2 (fX1_runs_k4 M15_8 o x20_9) fun x23_11 M23_12 =>
  some ((x15_7 + x23_11), M23_12)
set_option maxRecDepth 100000 in
set_option maxHeartbeats 4000000 in
theorem qX1_dries_k4 (l : Launch) (E : Ev) {M : Mm} {o : Nat} {p1 : Int32} {rz : Int32} {Mz : Mm} (hf : fX1_dries_k4 M o p1 = some (rz, Mz)) : Ct l E yX1_dries cX1_dries 2 (some .int) 11 233 8 120 [.ref (E.b + o), .int p1] M (some (.int rz)) Mz := by
  refine ct_of (by decide +kernel) (Nat.le_of_ble_eq_true rfl) fun p e s m args below meth c C hr hin hW ls hl => ?_
  have hl : lv_has ls 2 [(0, .ref (E.b + o)), (1, .int p1)] := hl
  unfold fX1_dries_k4 at hf
  refine lv_aload_n C.x C.b dX1_dries_0 rfl (lv_at hl 0 rfl) ?_
  replace hf := x_b1 hf; obtain ⟨a1_1, ha1_1, hf⟩ := hf
  refine x_getn C hW fg_X1_7_4 ha1_1 dX1_dries_1 ?_
  refine lv_bipush (v := 41) C.x C.b dX1_dries_4 (by decide) ?_
  replace hf := x_b1 hf; obtain ⟨x6_2, hx6_2, hf⟩ := hf
  refine x_callS (As := [.int 41]) (rest := [.ref (E.b + a1_1)]) C hW hl (qJ6_valueOf_2dffe l E hx6_2) gs_X1_13 hd_J6_valueOf_2dffe rfl rfl (Nat.le_of_ble_eq_true rfl) dX1_dries_6 ⟨Nat.le_of_ble_eq_true rfl, Nat.le_of_ble_eq_true rfl⟩ ⟨Nat.le_of_ble_eq_true rfl, Nat.le_of_ble_eq_true rfl⟩ (fun H locs hW => ?_)
  replace hf := x_b1 hf; obtain ⟨_, hk9_3, hf⟩ := hf
  replace hf := x_b2 hf; obtain ⟨x9_4, M9_5, hx9_4, hf⟩ := hf
  refine x_callV (As := [.ref (bxA E x6_2)]) (a := a1_1) (rest := []) C hW hl (qJx4a65c_add_9ea2d l E hx9_4) (x_gk hk9_3) (by decide) (by decide) rfl gv_X1_19 ⟨rfl, hd_Jx4a65c_add_9ea2d⟩ rfl rfl (Nat.le_of_ble_eq_true rfl) dX1_dries_9 ⟨Nat.le_of_ble_eq_true rfl, Nat.le_of_ble_eq_true rfl⟩ ⟨Nat.le_of_ble_eq_true rfl, Nat.le_of_ble_eq_true rfl⟩ (fun H locs hW => ?_)
  refine lv_pop C.x C.b dX1_dries_12 rfl ?_
  refine lv_aload_n C.x C.b dX1_dries_13 rfl (lv_at hl 0 rfl) ?_
  refine lv_iload_n C.x C.b dX1_dries_14 rfl (lv_at hl 1 rfl) ?_
  replace hf := x_b1 hf; obtain ⟨_, hk15_6, hf⟩ := hf
  replace hf := x_b2 hf; obtain ⟨x15_7, M15_8, hx15_7, hf⟩ := hf
  refine x_callSX (owner := "NylonLadder$Plain") (x := ⟨"NylonLadder$Thick", "dries", "(I)I"⟩) (As := [.int p1]) (a := o) (rest := []) C hW hl (qX4_dries_k4 l E hx15_7) (x_gk hk15_6) (by decide) (by decide) rfl gp_X1_29 rfl hdn_X4_dries rfl rfl (Nat.le_of_ble_eq_true rfl) dX1_dries_15 ⟨Nat.le_of_ble_eq_true rfl, Nat.le_of_ble_eq_true rfl⟩ ⟨Nat.le_of_ble_eq_true rfl, Nat.le_of_ble_eq_true rfl⟩ (fun H locs hW => ?_)
  refine lv_aload_n C.x C.b dX1_dries_18 rfl (lv_at hl 0 rfl) ?_
  refine lv_aload_n C.x C.b dX1_dries_19 rfl (lv_at hl 0 rfl) ?_
  replace hf := x_b1 hf; obtain ⟨x20_9, hx20_9, hf⟩ := hf
  refine x_geti C hW fg_X1_32_4 hx20_9 dX1_dries_20 ?_
  replace hf := x_b1 hf; obtain ⟨_, hk23_10, hf⟩ := hf
  replace hf := x_b2 hf; obtain ⟨x23_11, M23_12, hx23_11, hf⟩ := hf
  refine x_callV (As := [.int x20_9]) (a := o) (rest := [.int x15_7]) C hW hl (qX1_runs_k4 l E hx23_11) (x_gk hk23_10) (by decide) (by decide) rfl gu_X1_36_4 ⟨rfl, hd_X1_runs⟩ rfl rfl (Nat.le_of_ble_eq_true rfl) dX1_dries_23 ⟨Nat.le_of_ble_eq_true rfl, Nat.le_of_ble_eq_true rfl⟩ ⟨Nat.le_of_ble_eq_true rfl, Nat.le_of_ble_eq_true rfl⟩ (fun H locs hW => ?_)
  refine lv_iadd C.x C.b dX1_dries_26 ?_
  rw [x_e1 hf, x_e2 hf]
  exact x_iret C hr hW dX1_dries_27

theorem hd_X2_runs : yX2_runs.cls ≠ "java/lang/invoke/MethodHandle" ∧ yX2_runs.cls ≠ "java/lang/invoke/VarHandle" ∧ (parseMethodDescriptor yX2_runs.desc).map (fun d => d.parameters.length) = some 1 := by decide +kernel
theorem gu_X4_36_5 : GoodIn gT (va_wsO "NylonLadder$Plain" 36 "NylonLadder$Mesh" "NylonLadder$Plain" ⟨"NylonLadder$Plain", "runs", "(I)I"⟩ yX2_runs (Cond.code yX2_runs cX2_runs 2 (some .int) :: gT)) := good_O T_5_182 T_5_61 T_5_59 T_5_147 T_5_148 T_1_20 T_5_149
def fX4_dries_k5 (M : Mm) (o : Nat) (p1 : Int32) : Option (Int32 × Mm) :=
  B1 (rdN M o 5 2) fun a1_1 =>
  B1 (fJ6_valueOf_2dffe M 11) fun x6_2 =>
  B1 (gk M a1_1 2) fun _ =>
  B2 (fJx4a65c_add_9ea2d M a1_1 x6_2) fun x9_4 M9_5 =>
  B1 (gk M9_5 o 5) fun _ =>
  B2 (fX2_runs_k5 M9_5 o p1) fun x15_7 M15_8 =>
  some ((x15_7 * 2), M15_8)
set_option maxRecDepth 100000 in
set_option maxHeartbeats 4000000 in
theorem qX4_dries_k5 (l : Launch) (E : Ev) {M : Mm} {o : Nat} {p1 : Int32} {rz : Int32} {Mz : Mm} (hf : fX4_dries_k5 M o p1 = some (rz, Mz)) : Ct l E yX4_dries cX4_dries 2 (some .int) 9 191 3 45 [.ref (E.b + o), .int p1] M (some (.int rz)) Mz := by
  refine ct_of (by decide +kernel) (Nat.le_of_ble_eq_true rfl) fun p e s m args below meth c C hr hin hW ls hl => ?_
  have hl : lv_has ls 2 [(0, .ref (E.b + o)), (1, .int p1)] := hl
  unfold fX4_dries_k5 at hf
  refine lv_aload_n C.x C.b dX4_dries_0 rfl (lv_at hl 0 rfl) ?_
  replace hf := x_b1 hf; obtain ⟨a1_1, ha1_1, hf⟩ := hf
  refine x_getn C hW fg_X4_20_5 ha1_1 dX4_dries_1 ?_
  refine lv_bipush (v := 11) C.x C.b dX4_dries_4 (by decide) ?_
  replace hf := x_b1 hf; obtain ⟨x6_2, hx6_2, hf⟩ := hf
  refine x_callS (As := [.int 11]) (rest := [.ref (E.b + a1_1)]) C hW hl (qJ6_valueOf_2dffe l E hx6_2) gs_X4_24 hd_J6_valueOf_2dffe rfl rfl (Nat.le_of_ble_eq_true rfl) dX4_dries_6 ⟨Nat.le_of_ble_eq_true rfl, Nat.le_of_ble_eq_true rfl⟩ ⟨Nat.le_of_ble_eq_true rfl, Nat.le_of_ble_eq_true rfl⟩ (fun H locs hW => ?_)
  replace hf := x_b1 hf; obtain ⟨_, hk9_3, hf⟩ := hf
  replace hf := x_b2 hf; obtain ⟨x9_4, M9_5, hx9_4, hf⟩ := hf
  refine x_callV (As := [.ref (bxA E x6_2)]) (a := a1_1) (rest := []) C hW hl (qJx4a65c_add_9ea2d l E hx9_4) (x_gk hk9_3) (by decide) (by decide) rfl gv_X4_30 ⟨rfl, hd_Jx4a65c_add_9ea2d⟩ rfl rfl (Nat.le_of_ble_eq_true rfl) dX4_dries_9 ⟨Nat.le_of_ble_eq_true rfl, Nat.le_of_ble_eq_true rfl⟩ ⟨Nat.le_of_ble_eq_true rfl, Nat.le_of_ble_eq_true rfl⟩ (fun H locs hW => ?_)
  refine lv_pop C.x C.b dX4_dries_12 rfl ?_
  refine lv_aload_n C.x C.b dX4_dries_13 rfl (lv_at hl 0 rfl) ?_
  refine lv_iload_n C.x C.b dX4_dries_14 rfl (lv_at hl 1 rfl) ?_
  replace hf := x_b1 hf; obtain ⟨_, hk15_6, hf⟩ := hf
  replace hf := x_b2 hf; obtain ⟨x15_7, M15_8, hx15_7, hf⟩ := hf
  refine x_callO (owner := "NylonLadder$Plain") (x := ⟨"NylonLadder$Plain", "runs", "(I)I"⟩) (As := [.int p1]) (a := o) (rest := []) C hW hl (qX2_runs_k5 l E hx15_7) (x_gk hk15_6) (by decide) (by decide) rfl gu_X4_36_5 T_5_158 hdo_X4_36 rfl rfl (Nat.le_of_ble_eq_true rfl) dX4_dries_15 ⟨Nat.le_of_ble_eq_true rfl, Nat.le_of_ble_eq_true rfl⟩ ⟨Nat.le_of_ble_eq_true rfl, Nat.le_of_ble_eq_true rfl⟩ (fun H locs hW => ?_)
  refine lv_iconst (v := 2) C.x C.b dX4_dries_18 (by decide) ?_
  refine lv_imul C.x C.b dX4_dries_19 ?_
  rw [x_e1 hf, x_e2 hf]
  exact x_iret C hr hW dX4_dries_20

theorem dX5_dries_0 : decode cX5_dries 0 = .ok (.aload_n 0, 1) := by decide +kernel
theorem dX5_dries_1 : decode cX5_dries 1 = .ok (.getfield 7, 3) := by decide +kernel
theorem dX5_dries_4 : decode cX5_dries 4 = .ok (.bipush 20, 2) := by decide +kernel
theorem dX5_dries_6 : decode cX5_dries 6 = .ok (.invokestatic 13, 3) := by decide +kernel
theorem dX5_dries_9 : decode cX5_dries 9 = .ok (.invokevirtual 19, 3) := by decide +kernel
theorem dX5_dries_12 : decode cX5_dries 12 = .ok (.pop, 1) := by decide +kernel
theorem dX5_dries_13 : decode cX5_dries 13 = .ok (.aload_n 0, 1) := by decide +kernel
theorem dX5_dries_14 : decode cX5_dries 14 = .ok (.iload_n 1, 1) := by decide +kernel
theorem dX5_dries_15 : decode cX5_dries 15 = .ok (.invokespecial 25, 3) := by decide +kernel
theorem dX5_dries_18 : decode cX5_dries 18 = .ok (.aload_n 0, 1) := by decide +kernel
theorem dX5_dries_19 : decode cX5_dries 19 = .ok (.getfield 29, 3) := by decide +kernel
theorem dX5_dries_22 : decode cX5_dries 22 = .ok (.isub, 1) := by decide +kernel
theorem dX5_dries_23 : decode cX5_dries 23 = .ok (.ireturn, 1) := by decide +kernel
theorem fg_X5_7_5 : FdG "NylonLadder$Sheer" 7 5 2 true := ⟨_, _, _, _, rfl, by decide, by decide, by decide, gxX2, by decide, T_4_227, Or.inr T_4_228, rfl⟩
theorem gs_X5_13 : GoodIn gT (va_wsS "NylonLadder$Sheer" 13 yJ6_valueOf_2dffe (Cond.code yJ6_valueOf_2dffe cJ6_valueOf_2dffe 1 (some (.object "java/lang/Integer")) :: gT)) := good_S T_5_175 T_5_66 T_1_24 T_5_67
theorem gv_X5_19 : GoodIn gT (wsV "NylonLadder$Sheer" 19 "java/util/ArrayList" yJx4a65c_add_9ea2d (Cond.code yJx4a65c_add_9ea2d cJx4a65c_add_9ea2d 2 (some .boolean) :: gT)) := good_V T_5_176 T_5_86 T_5_87 T_1_9 T_5_88
theorem gp_X5_25 : GoodIn gT (va_wsSU "NylonLadder$Sheer" 25 yX4_dries (Cond.code yX4_dries cX4_dries 2 (some .int) :: gT)) := good_SU T_5_177 T_5_164 T_5_5 T_5_162 T_1_17 T_5_181
theorem fg_X5_29_5 : FdG "NylonLadder$Sheer" 29 5 1 false := ⟨_, _, _, _, rfl, by decide, by decide, by decide, gxX2, by decide, T_4_218, Or.inr T_4_219, rfl⟩
def fX5_dries_k5 (M : Mm) (o : Nat) (p1 : Int32) : Option (Int32 × Mm) :=
  B1 (rdN M o 5 2) fun a1_1 =>
  B1 (fJ6_valueOf_2dffe M 20) fun x6_2 =>
  B1 (gk M a1_1 2) fun _ =>
  B2 (fJx4a65c_add_9ea2d M a1_1 x6_2) fun x9_4 M9_5 =>
  B1 (gk M9_5 o 5) fun _ =>
  B2 (fX4_dries_k5 M9_5 o p1) fun x15_7 M15_8 =>
  B1 (rdI M15_8 o 5 1) fun x19_9 =>
  some ((x15_7 - x19_9), M15_8)
set_option maxRecDepth 100000 in
set_option maxHeartbeats 4000000 in
theorem qX5_dries_k5 (l : Launch) (E : Ev) {M : Mm} {o : Nat} {p1 : Int32} {rz : Int32} {Mz : Mm} (hf : fX5_dries_k5 M o p1 = some (rz, Mz)) : Ct l E yX5_dries cX5_dries 2 (some .int) 10 212 4 60 [.ref (E.b + o), .int p1] M (some (.int rz)) Mz := by
  refine ct_of (by decide +kernel) (Nat.le_of_ble_eq_true rfl) fun p e s m args below meth c C hr hin hW ls hl => ?_
  have hl : lv_has ls 2 [(0, .ref (E.b + o)), (1, .int p1)] := hl
  unfold fX5_dries_k5 at hf
  refine lv_aload_n C.x C.b dX5_dries_0 rfl (lv_at hl 0 rfl) ?_
  replace hf := x_b1 hf; obtain ⟨a1_1, ha1_1, hf⟩ := hf
  refine x_getn C hW fg_X5_7_5 ha1_1 dX5_dries_1 ?_
  refine lv_bipush (v := 20) C.x C.b dX5_dries_4 (by decide) ?_
  replace hf := x_b1 hf; obtain ⟨x6_2, hx6_2, hf⟩ := hf
  refine x_callS (As := [.int 20]) (rest := [.ref (E.b + a1_1)]) C hW hl (qJ6_valueOf_2dffe l E hx6_2) gs_X5_13 hd_J6_valueOf_2dffe rfl rfl (Nat.le_of_ble_eq_true rfl) dX5_dries_6 ⟨Nat.le_of_ble_eq_true rfl, Nat.le_of_ble_eq_true rfl⟩ ⟨Nat.le_of_ble_eq_true rfl, Nat.le_of_ble_eq_true rfl⟩ (fun H locs hW => ?_)
  replace hf := x_b1 hf; obtain ⟨_, hk9_3, hf⟩ := hf
  replace hf := x_b2 hf; obtain ⟨x9_4, M9_5, hx9_4, hf⟩ := hf
  refine x_callV (As := [.ref (bxA E x6_2)]) (a := a1_1) (rest := []) C hW hl (qJx4a65c_add_9ea2d l E hx9_4) (x_gk hk9_3) (by decide) (by decide) rfl gv_X5_19 ⟨rfl, hd_Jx4a65c_add_9ea2d⟩ rfl rfl (Nat.le_of_ble_eq_true rfl) dX5_dries_9 ⟨Nat.le_of_ble_eq_true rfl, Nat.le_of_ble_eq_true rfl⟩ ⟨Nat.le_of_ble_eq_true rfl, Nat.le_of_ble_eq_true rfl⟩ (fun H locs hW => ?_)
  refine lv_pop C.x C.b dX5_dries_12 rfl ?_
  refine lv_aload_n C.x C.b dX5_dries_13 rfl (lv_at hl 0 rfl) ?_
  refine lv_iload_n C.x C.b dX5_dries_14 rfl (lv_at hl 1 rfl) ?_
  replace hf := x_b1 hf; obtain ⟨_, hk15_6, hf⟩ := hf
  replace hf := x_b2 hf; obtain ⟨x15_7, M15_8, hx15_7, hf⟩ := hf
  refine x_callSU (As := [.int p1]) (a := o) (rest := []) C hW hl (qX4_dries_k5 l E hx15_7) (x_gk hk15_6) (by decide) (by decide) rfl gp_X5_25 hdn_X4_dries rfl rfl (Nat.le_of_ble_eq_true rfl) dX5_dries_15 ⟨Nat.le_of_ble_eq_true rfl, Nat.le_of_ble_eq_true rfl⟩ ⟨Nat.le_of_ble_eq_true rfl, Nat.le_of_ble_eq_true rfl⟩ (fun H locs hW => ?_)
  refine lv_aload_n C.x C.b dX5_dries_18 rfl (lv_at hl 0 rfl) ?_
  replace hf := x_b1 hf; obtain ⟨x19_9, hx19_9, hf⟩ := hf
  refine x_geti C hW fg_X5_29_5 hx19_9 dX5_dries_19 ?_
  refine lv_isub C.x C.b dX5_dries_22 ?_
  rw [x_e1 hf, x_e2 hf]
  exact x_iret C hr hW dX5_dries_23

theorem gu_X4_36_6 : GoodIn gT (va_wsU "NylonLadder$Plain" 36 "NylonLadder$Old" "NylonLadder$Plain" ⟨"NylonLadder$Plain", "runs", "(I)I"⟩ yX4_runs (Cond.code yX4_runs cX4_runs 2 (some .int) :: gT)) := good_U T_5_182 T_5_61 T_5_155 T_5_59 T_1_17 T_5_158
def fX4_dries_k6 (M : Mm) (o : Nat) (p1 : Int32) : Option (Int32 × Mm) :=
  B1 (rdN M o 6 2) fun a1_1 =>
  B1 (fJ6_valueOf_2dffe M 11) fun x6_2 =>
  B1 (gk M a1_1 2) fun _ =>
  B2 (fJx4a65c_add_9ea2d M a1_1 x6_2) fun x9_4 M9_5 =>
  B1 (gk M9_5 o 6) fun _ =>
  B2 (fX4_runs_k6 M9_5 o p1) fun x15_7 M15_8 =>
  some ((x15_7 * 2), M15_8)
set_option maxRecDepth 100000 in
set_option maxHeartbeats 4000000 in
theorem qX4_dries_k6 (l : Launch) (E : Ev) {M : Mm} {o : Nat} {p1 : Int32} {rz : Int32} {Mz : Mm} (hf : fX4_dries_k6 M o p1 = some (rz, Mz)) : Ct l E yX4_dries cX4_dries 2 (some .int) 8 170 2 30 [.ref (E.b + o), .int p1] M (some (.int rz)) Mz := by
  refine ct_of (by decide +kernel) (Nat.le_of_ble_eq_true rfl) fun p e s m args below meth c C hr hin hW ls hl => ?_
  have hl : lv_has ls 2 [(0, .ref (E.b + o)), (1, .int p1)] := hl
  unfold fX4_dries_k6 at hf
  refine lv_aload_n C.x C.b dX4_dries_0 rfl (lv_at hl 0 rfl) ?_
  replace hf := x_b1 hf; obtain ⟨a1_1, ha1_1, hf⟩ := hf
  refine x_getn C hW fg_X4_20_6 ha1_1 dX4_dries_1 ?_
  refine lv_bipush (v := 11) C.x C.b dX4_dries_4 (by decide) ?_
  replace hf := x_b1 hf; obtain ⟨x6_2, hx6_2, hf⟩ := hf
  refine x_callS (As := [.int 11]) (rest := [.ref (E.b + a1_1)]) C hW hl (qJ6_valueOf_2dffe l E hx6_2) gs_X4_24 hd_J6_valueOf_2dffe rfl rfl (Nat.le_of_ble_eq_true rfl) dX4_dries_6 ⟨Nat.le_of_ble_eq_true rfl, Nat.le_of_ble_eq_true rfl⟩ ⟨Nat.le_of_ble_eq_true rfl, Nat.le_of_ble_eq_true rfl⟩ (fun H locs hW => ?_)
  replace hf := x_b1 hf; obtain ⟨_, hk9_3, hf⟩ := hf
  replace hf := x_b2 hf; obtain ⟨x9_4, M9_5, hx9_4, hf⟩ := hf
  refine x_callV (As := [.ref (bxA E x6_2)]) (a := a1_1) (rest := []) C hW hl (qJx4a65c_add_9ea2d l E hx9_4) (x_gk hk9_3) (by decide) (by decide) rfl gv_X4_30 ⟨rfl, hd_Jx4a65c_add_9ea2d⟩ rfl rfl (Nat.le_of_ble_eq_true rfl) dX4_dries_9 ⟨Nat.le_of_ble_eq_true rfl, Nat.le_of_ble_eq_true rfl⟩ ⟨Nat.le_of_ble_eq_true rfl, Nat.le_of_ble_eq_true rfl⟩ (fun H locs hW => ?_)
  refine lv_pop C.x C.b dX4_dries_12 rfl ?_
  refine lv_aload_n C.x C.b dX4_dries_13 rfl (lv_at hl 0 rfl) ?_
  refine lv_iload_n C.x C.b dX4_dries_14 rfl (lv_at hl 1 rfl) ?_
  replace hf := x_b1 hf; obtain ⟨_, hk15_6, hf⟩ := hf
  replace hf := x_b2 hf; obtain ⟨x15_7, M15_8, hx15_7, hf⟩ := hf
  refine x_callU (owner := "NylonLadder$Plain") (x := ⟨"NylonLadder$Plain", "runs", "(I)I"⟩) (As := [.int p1]) (a := o) (rest := []) C hW hl (qX4_runs_k6 l E hx15_7) (x_gk hk15_6) (by decide) (by decide) rfl gu_X4_36_6 rfl hdo_X4_36 rfl rfl (Nat.le_of_ble_eq_true rfl) dX4_dries_15 ⟨Nat.le_of_ble_eq_true rfl, Nat.le_of_ble_eq_true rfl⟩ ⟨Nat.le_of_ble_eq_true rfl, Nat.le_of_ble_eq_true rfl⟩ (fun H locs hW => ?_)
  refine lv_iconst (v := 2) C.x C.b dX4_dries_18 (by decide) ?_
  refine lv_imul C.x C.b dX4_dries_19 ?_
  rw [x_e1 hf, x_e2 hf]
  exact x_iret C hr hW dX4_dries_20

theorem gu_X4_36_12 : GoodIn gT (va_wsO "NylonLadder$Plain" 36 "NylonLadder$Thick" "NylonLadder$Plain" ⟨"NylonLadder$Plain", "runs", "(I)I"⟩ yX9_runs (Cond.code yX9_runs cX9_runs 2 (some .int) :: gT)) := good_O T_5_182 T_5_61 T_5_59 T_5_157 T_5_142 T_1_19 T_5_143
def fX4_dries_k12 (M : Mm) (o : Nat) (p1 : Int32) : Option (Int32 × Mm) :=
  B1 (rdN M o 12 2) fun a1_1 =>
  B1 (fJ6_valueOf_2dffe M 11) fun x6_2 =>
  B1 (gk M a1_1 2) fun _ =>
  B2 (fJx4a65c_add_9ea2d M a1_1 x6_2) fun x9_4 M9_5 =>
  B1 (gk M9_5 o 12) fun _ =>
  B2 (fX9_runs_k12 M9_5 o p1) fun x15_7 M15_8 =>
  some ((x15_7 * 2), M15_8)
set_option maxRecDepth 100000 in
set_option maxHeartbeats 4000000 in
theorem qX4_dries_k12 (l : Launch) (E : Ev) {M : Mm} {o : Nat} {p1 : Int32} {rz : Int32} {Mz : Mm} (hf : fX4_dries_k12 M o p1 = some (rz, Mz)) : Ct l E yX4_dries cX4_dries 2 (some .int) 9 191 3 45 [.ref (E.b + o), .int p1] M (some (.int rz)) Mz := by
  refine ct_of (by decide +kernel) (Nat.le_of_ble_eq_true rfl) fun p e s m args below meth c C hr hin hW ls hl => ?_
  have hl : lv_has ls 2 [(0, .ref (E.b + o)), (1, .int p1)] := hl
  unfold fX4_dries_k12 at hf
  refine lv_aload_n C.x C.b dX4_dries_0 rfl (lv_at hl 0 rfl) ?_
  replace hf := x_b1 hf; obtain ⟨a1_1, ha1_1, hf⟩ := hf
  refine x_getn C hW fg_X4_20_12 ha1_1 dX4_dries_1 ?_
  refine lv_bipush (v := 11) C.x C.b dX4_dries_4 (by decide) ?_
  replace hf := x_b1 hf; obtain ⟨x6_2, hx6_2, hf⟩ := hf
  refine x_callS (As := [.int 11]) (rest := [.ref (E.b + a1_1)]) C hW hl (qJ6_valueOf_2dffe l E hx6_2) gs_X4_24 hd_J6_valueOf_2dffe rfl rfl (Nat.le_of_ble_eq_true rfl) dX4_dries_6 ⟨Nat.le_of_ble_eq_true rfl, Nat.le_of_ble_eq_true rfl⟩ ⟨Nat.le_of_ble_eq_true rfl, Nat.le_of_ble_eq_true rfl⟩ (fun H locs hW => ?_)
  replace hf := x_b1 hf; obtain ⟨_, hk9_3, hf⟩ := hf
  replace hf := x_b2 hf; obtain ⟨x9_4, M9_5, hx9_4, hf⟩ := hf
  refine x_callV (As := [.ref (bxA E x6_2)]) (a := a1_1) (rest := []) C hW hl (qJx4a65c_add_9ea2d l E hx9_4) (x_gk hk9_3) (by decide) (by decide) rfl gv_X4_30 ⟨rfl, hd_Jx4a65c_add_9ea2d⟩ rfl rfl (Nat.le_of_ble_eq_true rfl) dX4_dries_9 ⟨Nat.le_of_ble_eq_true rfl, Nat.le_of_ble_eq_true rfl⟩ ⟨Nat.le_of_ble_eq_true rfl, Nat.le_of_ble_eq_true rfl⟩ (fun H locs hW => ?_)
  refine lv_pop C.x C.b dX4_dries_12 rfl ?_
  refine lv_aload_n C.x C.b dX4_dries_13 rfl (lv_at hl 0 rfl) ?_
  refine lv_iload_n C.x C.b dX4_dries_14 rfl (lv_at hl 1 rfl) ?_
  replace hf := x_b1 hf; obtain ⟨_, hk15_6, hf⟩ := hf
  replace hf := x_b2 hf; obtain ⟨x15_7, M15_8, hx15_7, hf⟩ := hf
  refine x_callO (owner := "NylonLadder$Plain") (x := ⟨"NylonLadder$Plain", "runs", "(I)I"⟩) (As := [.int p1]) (a := o) (rest := []) C hW hl (qX9_runs_k12 l E hx15_7) (x_gk hk15_6) (by decide) (by decide) rfl gu_X4_36_12 T_5_158 hdo_X4_36 rfl rfl (Nat.le_of_ble_eq_true rfl) dX4_dries_15 ⟨Nat.le_of_ble_eq_true rfl, Nat.le_of_ble_eq_true rfl⟩ ⟨Nat.le_of_ble_eq_true rfl, Nat.le_of_ble_eq_true rfl⟩ (fun H locs hW => ?_)
  refine lv_iconst (v := 2) C.x C.b dX4_dries_18 (by decide) ?_
  refine lv_imul C.x C.b dX4_dries_19 ?_
  rw [x_e1 hf, x_e2 hf]
  exact x_iret C hr hW dX4_dries_20

theorem gu_X4_36_8 : GoodIn gT (va_wsU "NylonLadder$Plain" 36 "NylonLadder$Sheer" "NylonLadder$Plain" ⟨"NylonLadder$Plain", "runs", "(I)I"⟩ yX4_runs (Cond.code yX4_runs cX4_runs 2 (some .int) :: gT)) := good_U T_5_182 T_5_61 T_5_156 T_5_59 T_1_17 T_5_158
def fX4_dries_k8 (M : Mm) (o : Nat) (p1 : Int32) : Option (Int32 × Mm) :=
  B1 (rdN M o 8 2) fun a1_1 =>
  B1 (fJ6_valueOf_2dffe M 11) fun x6_2 =>
  B1 (gk M a1_1 2) fun _ =>
  B2 (fJx4a65c_add_9ea2d M a1_1 x6_2) fun x9_4 M9_5 =>
  B1 (gk M9_5 o 8) fun _ =>
  B2 (fX4_runs_k8 M9_5 o p1) fun x15_7 M15_8 =>
  some ((x15_7 * 2), M15_8)
set_option maxRecDepth 100000 in
set_option maxHeartbeats 4000000 in
theorem qX4_dries_k8 (l : Launch) (E : Ev) {M : Mm} {o : Nat} {p1 : Int32} {rz : Int32} {Mz : Mm} (hf : fX4_dries_k8 M o p1 = some (rz, Mz)) : Ct l E yX4_dries cX4_dries 2 (some .int) 8 170 2 30 [.ref (E.b + o), .int p1] M (some (.int rz)) Mz := by
  refine ct_of (by decide +kernel) (Nat.le_of_ble_eq_true rfl) fun p e s m args below meth c C hr hin hW ls hl => ?_
  have hl : lv_has ls 2 [(0, .ref (E.b + o)), (1, .int p1)] := hl
  unfold fX4_dries_k8 at hf
  refine lv_aload_n C.x C.b dX4_dries_0 rfl (lv_at hl 0 rfl) ?_
  replace hf := x_b1 hf; obtain ⟨a1_1, ha1_1, hf⟩ := hf
  refine x_getn C hW fg_X4_20_8 ha1_1 dX4_dries_1 ?_
  refine lv_bipush (v := 11) C.x C.b dX4_dries_4 (by decide) ?_
  replace hf := x_b1 hf; obtain ⟨x6_2, hx6_2, hf⟩ := hf
  refine x_callS (As := [.int 11]) (rest := [.ref (E.b + a1_1)]) C hW hl (qJ6_valueOf_2dffe l E hx6_2) gs_X4_24 hd_J6_valueOf_2dffe rfl rfl (Nat.le_of_ble_eq_true rfl) dX4_dries_6 ⟨Nat.le_of_ble_eq_true rfl, Nat.le_of_ble_eq_true rfl⟩ ⟨Nat.le_of_ble_eq_true rfl, Nat.le_of_ble_eq_true rfl⟩ (fun H locs hW => ?_)
  replace hf := x_b1 hf; obtain ⟨_, hk9_3, hf⟩ := hf
  replace hf := x_b2 hf; obtain ⟨x9_4, M9_5, hx9_4, hf⟩ := hf
  refine x_callV (As := [.ref (bxA E x6_2)]) (a := a1_1) (rest := []) C hW hl (qJx4a65c_add_9ea2d l E hx9_4) (x_gk hk9_3) (by decide) (by decide) rfl gv_X4_30 ⟨rfl, hd_Jx4a65c_add_9ea2d⟩ rfl rfl (Nat.le_of_ble_eq_true rfl) dX4_dries_9 ⟨Nat.le_of_ble_eq_true rfl, Nat.le_of_ble_eq_true rfl⟩ ⟨Nat.le_of_ble_eq_true rfl, Nat.le_of_ble_eq_true rfl⟩ (fun H locs hW => ?_)
  refine lv_pop C.x C.b dX4_dries_12 rfl ?_
  refine lv_aload_n C.x C.b dX4_dries_13 rfl (lv_at hl 0 rfl) ?_
  refine lv_iload_n C.x C.b dX4_dries_14 rfl (lv_at hl 1 rfl) ?_
  replace hf := x_b1 hf; obtain ⟨_, hk15_6, hf⟩ := hf
  replace hf := x_b2 hf; obtain ⟨x15_7, M15_8, hx15_7, hf⟩ := hf
  refine x_callU (owner := "NylonLadder$Plain") (x := ⟨"NylonLadder$Plain", "runs", "(I)I"⟩) (As := [.int p1]) (a := o) (rest := []) C hW hl (qX4_runs_k8 l E hx15_7) (x_gk hk15_6) (by decide) (by decide) rfl gu_X4_36_8 rfl hdo_X4_36 rfl rfl (Nat.le_of_ble_eq_true rfl) dX4_dries_15 ⟨Nat.le_of_ble_eq_true rfl, Nat.le_of_ble_eq_true rfl⟩ ⟨Nat.le_of_ble_eq_true rfl, Nat.le_of_ble_eq_true rfl⟩ (fun H locs hW => ?_)
  refine lv_iconst (v := 2) C.x C.b dX4_dries_18 (by decide) ?_
  refine lv_imul C.x C.b dX4_dries_19 ?_
  rw [x_e1 hf, x_e2 hf]
  exact x_iret C hr hW dX4_dries_20

theorem fg_X5_7_8 : FdG "NylonLadder$Sheer" 7 8 2 true := ⟨_, _, _, _, rfl, by decide, by decide, by decide, gxX5, by decide, T_4_227, Or.inr T_4_228, rfl⟩
theorem fg_X5_29_8 : FdG "NylonLadder$Sheer" 29 8 1 false := ⟨_, _, _, _, rfl, by decide, by decide, by decide, gxX5, by decide, T_4_218, Or.inr T_4_219, rfl⟩
def fX5_dries_k8 (M : Mm) (o : Nat) (p1 : Int32) : Option (Int32 × Mm) :=
  B1 (rdN M o 8 2) fun a1_1 =>
  B1 (fJ6_valueOf_2dffe M 20) fun x6_2 =>
  B1 (gk M a1_1 2) fun _ =>
  B2 (fJx4a65c_add_9ea2d M a1_1 x6_2) fun x9_4 M9_5 =>
  B1 (gk M9_5 o 8) fun _ =>
  B2 (fX4_dries_k8 M9_5 o p1) fun x15_7 M15_8 =>
  B1 (rdI M15_8 o 8 1) fun x19_9 =>
  some ((x15_7 - x19_9), M15_8)
set_option maxRecDepth 100000 in
set_option maxHeartbeats 4000000 in
theorem qX5_dries_k8 (l : Launch) (E : Ev) {M : Mm} {o : Nat} {p1 : Int32} {rz : Int32} {Mz : Mm} (hf : fX5_dries_k8 M o p1 = some (rz, Mz)) : Ct l E yX5_dries cX5_dries 2 (some .int) 9 191 3 45 [.ref (E.b + o), .int p1] M (some (.int rz)) Mz := by
  refine ct_of (by decide +kernel) (Nat.le_of_ble_eq_true rfl) fun p e s m args below meth c C hr hin hW ls hl => ?_
  have hl : lv_has ls 2 [(0, .ref (E.b + o)), (1, .int p1)] := hl
  unfold fX5_dries_k8 at hf
  refine lv_aload_n C.x C.b dX5_dries_0 rfl (lv_at hl 0 rfl) ?_
  replace hf := x_b1 hf; obtain ⟨a1_1, ha1_1, hf⟩ := hf
  refine x_getn C hW fg_X5_7_8 ha1_1 dX5_dries_1 ?_
  refine lv_bipush (v := 20) C.x C.b dX5_dries_4 (by decide) ?_
  replace hf := x_b1 hf; obtain ⟨x6_2, hx6_2, hf⟩ := hf
  refine x_callS (As := [.int 20]) (rest := [.ref (E.b + a1_1)]) C hW hl (qJ6_valueOf_2dffe l E hx6_2) gs_X5_13 hd_J6_valueOf_2dffe rfl rfl (Nat.le_of_ble_eq_true rfl) dX5_dries_6 ⟨Nat.le_of_ble_eq_true rfl, Nat.le_of_ble_eq_true rfl⟩ ⟨Nat.le_of_ble_eq_true rfl, Nat.le_of_ble_eq_true rfl⟩ (fun H locs hW => ?_)
  replace hf := x_b1 hf; obtain ⟨_, hk9_3, hf⟩ := hf
  replace hf := x_b2 hf; obtain ⟨x9_4, M9_5, hx9_4, hf⟩ := hf
  refine x_callV (As := [.ref (bxA E x6_2)]) (a := a1_1) (rest := []) C hW hl (qJx4a65c_add_9ea2d l E hx9_4) (x_gk hk9_3) (by decide) (by decide) rfl gv_X5_19 ⟨rfl, hd_Jx4a65c_add_9ea2d⟩ rfl rfl (Nat.le_of_ble_eq_true rfl) dX5_dries_9 ⟨Nat.le_of_ble_eq_true rfl, Nat.le_of_ble_eq_true rfl⟩ ⟨Nat.le_of_ble_eq_true rfl, Nat.le_of_ble_eq_true rfl⟩ (fun H locs hW => ?_)
  refine lv_pop C.x C.b dX5_dries_12 rfl ?_
  refine lv_aload_n C.x C.b dX5_dries_13 rfl (lv_at hl 0 rfl) ?_
  refine lv_iload_n C.x C.b dX5_dries_14 rfl (lv_at hl 1 rfl) ?_
  replace hf := x_b1 hf; obtain ⟨_, hk15_6, hf⟩ := hf
  replace hf := x_b2 hf; obtain ⟨x15_7, M15_8, hx15_7, hf⟩ := hf
  refine x_callSU (As := [.int p1]) (a := o) (rest := []) C hW hl (qX4_dries_k8 l E hx15_7) (x_gk hk15_6) (by decide) (by decide) rfl gp_X5_25 hdn_X4_dries rfl rfl (Nat.le_of_ble_eq_true rfl) dX5_dries_15 ⟨Nat.le_of_ble_eq_true rfl, Nat.le_of_ble_eq_true rfl⟩ ⟨Nat.le_of_ble_eq_true rfl, Nat.le_of_ble_eq_true rfl⟩ (fun H locs hW => ?_)
  refine lv_aload_n C.x C.b dX5_dries_18 rfl (lv_at hl 0 rfl) ?_
  replace hf := x_b1 hf; obtain ⟨x19_9, hx19_9, hf⟩ := hf
  refine x_geti C hW fg_X5_29_8 hx19_9 dX5_dries_19 ?_
  refine lv_isub C.x C.b dX5_dries_22 ?_
  rw [x_e1 hf, x_e2 hf]
  exact x_iret C hr hW dX5_dries_23

theorem gu_X4_36_7 : GoodIn gT (wsV "NylonLadder$Plain" 36 "NylonLadder$Plain" yX4_runs (Cond.code yX4_runs cX4_runs 2 (some .int) :: gT)) := good_V T_5_182 T_5_59 T_5_60 T_1_17 T_5_158
def fX4_dries_k7 (M : Mm) (o : Nat) (p1 : Int32) : Option (Int32 × Mm) :=
  B1 (rdN M o 7 2) fun a1_1 =>
  B1 (fJ6_valueOf_2dffe M 11) fun x6_2 =>
  B1 (gk M a1_1 2) fun _ =>
  B2 (fJx4a65c_add_9ea2d M a1_1 x6_2) fun x9_4 M9_5 =>
  B1 (gk M9_5 o 7) fun _ =>
  B2 (fX4_runs_k7 M9_5 o p1) fun x15_7 M15_8 =>
  some ((x15_7 * 2), M15_8)
set_option maxRecDepth 100000 in
set_option maxHeartbeats 4000000 in
theorem qX4_dries_k7 (l : Launch) (E : Ev) {M : Mm} {o : Nat} {p1 : Int32} {rz : Int32} {Mz : Mm} (hf : fX4_dries_k7 M o p1 = some (rz, Mz)) : Ct l E yX4_dries cX4_dries 2 (some .int) 8 170 2 30 [.ref (E.b + o), .int p1] M (some (.int rz)) Mz := by
  refine ct_of (by decide +kernel) (Nat.le_of_ble_eq_true rfl) fun p e s m args below meth c C hr hin hW ls hl => ?_
  have hl : lv_has ls 2 [(0, .ref (E.b + o)), (1, .int p1)] := hl
  unfold fX4_dries_k7 at hf
  refine lv_aload_n C.x C.b dX4_dries_0 rfl (lv_at hl 0 rfl) ?_
  replace hf := x_b1 hf; obtain ⟨a1_1, ha1_1, hf⟩ := hf
  refine x_getn C hW fg_X4_20_7 ha1_1 dX4_dries_1 ?_
  refine lv_bipush (v := 11) C.x C.b dX4_dries_4 (by decide) ?_
  replace hf := x_b1 hf; obtain ⟨x6_2, hx6_2, hf⟩ := hf
  refine x_callS (As := [.int 11]) (rest := [.ref (E.b + a1_1)]) C hW hl (qJ6_valueOf_2dffe l E hx6_2) gs_X4_24 hd_J6_valueOf_2dffe rfl rfl (Nat.le_of_ble_eq_true rfl) dX4_dries_6 ⟨Nat.le_of_ble_eq_true rfl, Nat.le_of_ble_eq_true rfl⟩ ⟨Nat.le_of_ble_eq_true rfl, Nat.le_of_ble_eq_true rfl⟩ (fun H locs hW => ?_)
  replace hf := x_b1 hf; obtain ⟨_, hk9_3, hf⟩ := hf
  replace hf := x_b2 hf; obtain ⟨x9_4, M9_5, hx9_4, hf⟩ := hf
  refine x_callV (As := [.ref (bxA E x6_2)]) (a := a1_1) (rest := []) C hW hl (qJx4a65c_add_9ea2d l E hx9_4) (x_gk hk9_3) (by decide) (by decide) rfl gv_X4_30 ⟨rfl, hd_Jx4a65c_add_9ea2d⟩ rfl rfl (Nat.le_of_ble_eq_true rfl) dX4_dries_9 ⟨Nat.le_of_ble_eq_true rfl, Nat.le_of_ble_eq_true rfl⟩ ⟨Nat.le_of_ble_eq_true rfl, Nat.le_of_ble_eq_true rfl⟩ (fun H locs hW => ?_)
  refine lv_pop C.x C.b dX4_dries_12 rfl ?_
  refine lv_aload_n C.x C.b dX4_dries_13 rfl (lv_at hl 0 rfl) ?_
  refine lv_iload_n C.x C.b dX4_dries_14 rfl (lv_at hl 1 rfl) ?_
  replace hf := x_b1 hf; obtain ⟨_, hk15_6, hf⟩ := hf
  replace hf := x_b2 hf; obtain ⟨x15_7, M15_8, hx15_7, hf⟩ := hf
  refine x_callV (As := [.int p1]) (a := o) (rest := []) C hW hl (qX4_runs_k7 l E hx15_7) (x_gk hk15_6) (by decide) (by decide) rfl gu_X4_36_7 ⟨rfl, hd_X4_runs⟩ rfl rfl (Nat.le_of_ble_eq_true rfl) dX4_dries_15 ⟨Nat.le_of_ble_eq_true rfl, Nat.le_of_ble_eq_true rfl⟩ ⟨Nat.le_of_ble_eq_true rfl, Nat.le_of_ble_eq_true rfl⟩ (fun H locs hW => ?_)
  refine lv_iconst (v := 2) C.x C.b dX4_dries_18 (by decide) ?_
  refine lv_imul C.x C.b dX4_dries_19 ?_
  rw [x_e1 hf, x_e2 hf]
  exact x_iret C hr hW dX4_dries_20

theorem dX4_holds_0 : decode cX4_holds 0 = .ok (.aload_n 0, 1) := by decide +kernel
theorem dX4_holds_1 : decode cX4_holds 1 = .ok (.getfield 20, 3) := by decide +kernel
theorem dX4_holds_4 : decode cX4_holds 4 = .ok (.bipush 12, 2) := by decide +kernel
theorem dX4_holds_6 : decode cX4_holds 6 = .ok (.invokestatic 24, 3) := by decide +kernel
theorem dX4_holds_9 : decode cX4_holds 9 = .ok (.invokevirtual 30, 3) := by decide +kernel
theorem dX4_holds_12 : decode cX4_holds 12 = .ok (.pop, 1) := by decide +kernel
theorem dX4_holds_13 : decode cX4_holds 13 = .ok (.aload_n 0, 1) := by decide +kernel
theorem dX4_holds_14 : decode cX4_holds 14 = .ok (.getfield 17, 3) := by decide +kernel
theorem dX4_holds_17 : decode cX4_holds 17 = .ok (.aload_n 0, 1) := by decide +kernel
theorem dX4_holds_18 : decode cX4_holds 18 = .ok (.getfield 13, 3) := by decide +kernel
theorem dX4_holds_21 : decode cX4_holds 21 = .ok (.isub, 1) := by decide +kernel
theorem dX4_holds_22 : decode cX4_holds 22 = .ok (.istore_n 2, 1) := by decide +kernel
theorem dX4_holds_23 : decode cX4_holds 23 = .ok (.iload_n 2, 1) := by decide +kernel
theorem dX4_holds_24 : decode cX4_holds 24 = .ok (.ifCond .ne 10, 3) := by decide +kernel
theorem dX4_holds_27 : decode cX4_holds 27 = .ok (.aload_n 0, 1) := by decide +kernel
theorem dX4_holds_28 : decode cX4_holds 28 = .ok (.iconst 1, 1) := by decide +kernel
theorem dX4_holds_29 : decode cX4_holds 29 = .ok (.putfield 7, 3) := by decide +kernel
theorem dX4_holds_32 : decode cX4_holds 32 = .ok (.iconst 0, 1) := by decide +kernel
theorem dX4_holds_33 : decode cX4_holds 33 = .ok (.ireturn, 1) := by decide +kernel
theorem dX4_holds_34 : decode cX4_holds 34 = .ok (.iload_n 1, 1) := by decide +kernel
theorem dX4_holds_35 : decode cX4_holds 35 = .ok (.iload_n 2, 1) := by decide +kernel
theorem dX4_holds_36 : decode cX4_holds 36 = .ok (.idiv, 1) := by decide +kernel
theorem dX4_holds_37 : decode cX4_holds 37 = .ok (.ireturn, 1) := by decide +kernel
theorem fg_X4_17_4 : FdG "NylonLadder$Plain" 17 4 1 false := ⟨_, _, _, _, rfl, by decide, by decide, by decide, gxX1, by decide, T_4_217, Or.inl rfl, rfl⟩
def fX4_holds_k4 (M : Mm) (o : Nat) (p1 : Int32) : Option (Int32 × Mm) :=
  B1 (rdN M o 4 2) fun a1_1 =>
  B1 (fJ6_valueOf_2dffe M 12) fun x6_2 =>
  B1 (gk M a1_1 2) fun _ =>
  B2 (fJx4a65c_add_9ea2d M a1_1 x6_2) fun x9_4 M9_5 =>
  B1 (rdI M9_5 o 4 1) fun x14_6 =>
  B1 (rdI M9_5 o 4 0) fun x18_7 =>
  if (x14_6 - x18_7) = 0 then
    B1 (wrZ M9_5 o 4 3 1) fun M29_9 =>
    some (0, M29_9)
  else
    B1 (nzI (x14_6 - x18_7)) fun _ =>
    some ((p1 / (x14_6 - x18_7)), M9_5)
set_option maxRecDepth 100000 in
set_option maxHeartbeats 4000000 in
theorem qX4_holds_k4 (l : Launch) (E : Ev) {M : Mm} {o : Nat} {p1 : Int32} {rz : Int32} {Mz : Mm} (hf : fX4_holds_k4 M o p1 = some (rz, Mz)) : Ct l E yX4_holds cX4_holds 3 (some .int) 7 149 1 15 [.ref (E.b + o), .int p1] M (some (.int rz)) Mz := by
  refine ct_of (by decide +kernel) (Nat.le_of_ble_eq_true rfl) fun p e s m args below meth c C hr hin hW ls hl => ?_
  have hl : lv_has ls 3 [(0, .ref (E.b + o)), (1, .int p1)] := hl
  unfold fX4_holds_k4 at hf
  refine lv_aload_n C.x C.b dX4_holds_0 rfl (lv_at hl 0 rfl) ?_
  replace hf := x_b1 hf; obtain ⟨a1_1, ha1_1, hf⟩ := hf
  refine x_getn C hW fg_X4_20_4 ha1_1 dX4_holds_1 ?_
  refine lv_bipush (v := 12) C.x C.b dX4_holds_4 (by decide) ?_
  replace hf := x_b1 hf; obtain ⟨x6_2, hx6_2, hf⟩ := hf
  refine x_callS (As := [.int 12]) (rest := [.ref (E.b + a1_1)]) C hW hl (qJ6_valueOf_2dffe l E hx6_2) gs_X4_24 hd_J6_valueOf_2dffe rfl rfl (Nat.le_of_ble_eq_true rfl) dX4_holds_6 ⟨Nat.le_of_ble_eq_true rfl, Nat.le_of_ble_eq_true rfl⟩ ⟨Nat.le_of_ble_eq_true rfl, Nat.le_of_ble_eq_true rfl⟩ (fun H locs hW => ?_)
  replace hf := x_b1 hf; obtain ⟨_, hk9_3, hf⟩ := hf
  replace hf := x_b2 hf; obtain ⟨x9_4, M9_5, hx9_4, hf⟩ := hf
  refine x_callV (As := [.ref (bxA E x6_2)]) (a := a1_1) (rest := []) C hW hl (qJx4a65c_add_9ea2d l E hx9_4) (x_gk hk9_3) (by decide) (by decide) rfl gv_X4_30 ⟨rfl, hd_Jx4a65c_add_9ea2d⟩ rfl rfl (Nat.le_of_ble_eq_true rfl) dX4_holds_9 ⟨Nat.le_of_ble_eq_true rfl, Nat.le_of_ble_eq_true rfl⟩ ⟨Nat.le_of_ble_eq_true rfl, Nat.le_of_ble_eq_true rfl⟩ (fun H locs hW => ?_)
  refine lv_pop C.x C.b dX4_holds_12 rfl ?_
  refine lv_aload_n C.x C.b dX4_holds_13 rfl (lv_at hl 0 rfl) ?_
  replace hf := x_b1 hf; obtain ⟨x14_6, hx14_6, hf⟩ := hf
  refine x_geti C hW fg_X4_17_4 hx14_6 dX4_holds_14 ?_
  refine lv_aload_n C.x C.b dX4_holds_17 rfl (lv_at hl 0 rfl) ?_
  replace hf := x_b1 hf; obtain ⟨x18_7, hx18_7, hf⟩ := hf
  refine x_geti C hW fg_X4_13_4 hx18_7 dX4_holds_18 ?_
  refine lv_isub C.x C.b dX4_holds_21 ?_
  refine lv_istore_n (lv' := [(2, .int _), (0, .ref (E.b + _)), (1, .int _)]) C.x C.b dX4_holds_22 rfl hl (by decide) rfl (fun ls hl => ?_)
  refine lv_iload_n C.x C.b dX4_holds_23 rfl (lv_at hl 0 rfl) ?_
  refine lv_if_ne (tgt := 34) C.x C.b dX4_holds_24 rfl (fun c24 => ?_) (fun c24 => ?_)
  · replace hf := x_in c24 hf
    refine lv_iload_n C.x C.b dX4_holds_34 rfl (lv_at hl 2 rfl) ?_
    refine lv_iload_n C.x C.b dX4_holds_35 rfl (lv_at hl 0 rfl) ?_
    replace hf := x_b1 hf; obtain ⟨_, hz36_8, hf⟩ := hf
    refine lv_idiv C.x C.b dX4_holds_36 (x_nzI hz36_8) ?_
    rw [x_e1 hf, x_e2 hf]
    exact x_iret C hr hW dX4_holds_37
  · replace hf := x_ip c24 hf
    refine lv_aload_n C.x C.b dX4_holds_27 rfl (lv_at hl 1 rfl) ?_
    refine lv_iconst (v := 1) C.x C.b dX4_holds_28 (by decide) ?_
    replace hf := x_b1 hf; obtain ⟨M29_9, hM29_9, hf⟩ := hf
    refine x_putz C hW fp_X4_7_4 hM29_9 (fun h => by cases h) dX4_holds_29 (fun H locs hW => ?_)
    refine lv_iconst (v := 0) C.x C.b dX4_holds_32 (by decide) ?_
    rw [x_e1 hf, x_e2 hf]
    exact x_iret C hr hW dX4_holds_33

theorem fg_X4_17_5 : FdG "NylonLadder$Plain" 17 5 1 false := ⟨_, _, _, _, rfl, by decide, by decide, by decide, gxX2, by decide, T_4_217, Or.inl rfl, rfl⟩
def fX4_holds_k5 (M : Mm) (o : Nat) (p1 : Int32) : Option (Int32 × Mm) :=
  B1 (rdN M o 5 2) fun a1_1 =>
  B1 (fJ6_valueOf_2dffe M 12) fun x6_2 =>
  B1 (gk M a1_1 2) fun _ =>
  B2 (fJx4a65c_add_9ea2d M a1_1 x6_2) fun x9_4 M9_5 =>
  B1 (rdI M9_5 o 5 1) fun x14_6 =>
  B1 (rdI M9_5 o 5 0) fun x18_7 =>
  if (x14_6 - x18_7) = 0 then
    B1 (wrZ M9_5 o 5 3 1) fun M29_9 =>
    some (0, M29_9)
  else
    B1 (nzI (x14_6 - x18_7)) fun _ =>
    some ((p1 / (x14_6 - x18_7)), M9_5)
set_option maxRecDepth 100000 in
set_option maxHeartbeats 4000000 in
theorem qX4_holds_k5 (l : Launch) (E : Ev) {M : Mm} {o : Nat} {p1 : Int32} {rz : Int32} {Mz : Mm} (hf : fX4_holds_k5 M o p1 = some (rz, Mz)) : Ct l E yX4_holds cX4_holds 3 (some .int) 7 149 1 15 [.ref (E.b + o), .int p1] M (some (.int rz)) Mz := by
  refine ct_of (by decide +kernel) (Nat.le_of_ble_eq_true rfl) fun p e s m args below meth c C hr hin hW ls hl => ?_
  have hl : lv_has ls 3 [(0, .ref (E.b + o)), (1, .int p1)] := hl
  unfold fX4_holds_k5 at hf
  refine lv_aload_n C.x C.b dX4_holds_0 rfl (lv_at hl 0 rfl) ?_
  replace hf := x_b1 hf; obtain ⟨a1_1, ha1_1, hf⟩ := hf
  refine x_getn C hW fg_X4_20_5 ha1_1 dX4_holds_1 ?_
  refine lv_bipush (v := 12) C.x C.b dX4_holds_4 (by decide) ?_
  replace hf := x_b1 hf; obtain ⟨x6_2, hx6_2, hf⟩ := hf
  refine x_callS (As := [.int 12]) (rest := [.ref (E.b + a1_1)]) C hW hl (qJ6_valueOf_2dffe l E hx6_2) gs_X4_24 hd_J6_valueOf_2dffe rfl rfl (Nat.le_of_ble_eq_true rfl) dX4_holds_6 ⟨Nat.le_of_ble_eq_true rfl, Nat.le_of_ble_eq_true rfl⟩ ⟨Nat.le_of_ble_eq_true rfl, Nat.le_of_ble_eq_true rfl⟩ (fun H locs hW => ?_)
  replace hf := x_b1 hf; obtain ⟨_, hk9_3, hf⟩ := hf
  replace hf := x_b2 hf; obtain ⟨x9_4, M9_5, hx9_4, hf⟩ := hf
  refine x_callV (As := [.ref (bxA E x6_2)]) (a := a1_1) (rest := []) C hW hl (qJx4a65c_add_9ea2d l E hx9_4) (x_gk hk9_3) (by decide) (by decide) rfl gv_X4_30 ⟨rfl, hd_Jx4a65c_add_9ea2d⟩ rfl rfl (Nat.le_of_ble_eq_true rfl) dX4_holds_9 ⟨Nat.le_of_ble_eq_true rfl, Nat.le_of_ble_eq_true rfl⟩ ⟨Nat.le_of_ble_eq_true rfl, Nat.le_of_ble_eq_true rfl⟩ (fun H locs hW => ?_)
  refine lv_pop C.x C.b dX4_holds_12 rfl ?_
  refine lv_aload_n C.x C.b dX4_holds_13 rfl (lv_at hl 0 rfl) ?_
  replace hf := x_b1 hf; obtain ⟨x14_6, hx14_6, hf⟩ := hf
  refine x_geti C hW fg_X4_17_5 hx14_6 dX4_holds_14 ?_
  refine lv_aload_n C.x C.b dX4_holds_17 rfl (lv_at hl 0 rfl) ?_
  replace hf := x_b1 hf; obtain ⟨x18_7, hx18_7, hf⟩ := hf
  refine x_geti C hW fg_X4_13_5 hx18_7 dX4_holds_18 ?_
  refine lv_isub C.x C.b dX4_holds_21 ?_
  refine lv_istore_n (lv' := [(2, .int _), (0, .ref (E.b + _)), (1, .int _)]) C.x C.b dX4_holds_22 rfl hl (by decide) rfl (fun ls hl => ?_)
  refine lv_iload_n C.x C.b dX4_holds_23 rfl (lv_at hl 0 rfl) ?_
  refine lv_if_ne (tgt := 34) C.x C.b dX4_holds_24 rfl (fun c24 => ?_) (fun c24 => ?_)
  · replace hf := x_in c24 hf
    refine lv_iload_n C.x C.b dX4_holds_34 rfl (lv_at hl 2 rfl) ?_
    refine lv_iload_n C.x C.b dX4_holds_35 rfl (lv_at hl 0 rfl) ?_
    replace hf := x_b1 hf; obtain ⟨_, hz36_8, hf⟩ := hf
    refine lv_idiv C.x C.b dX4_holds_36 (x_nzI hz36_8) ?_
    rw [x_e1 hf, x_e2 hf]
    exact x_iret C hr hW dX4_holds_37
  · replace hf := x_ip c24 hf
    refine lv_aload_n C.x C.b dX4_holds_27 rfl (lv_at hl 1 rfl) ?_
    refine lv_iconst (v := 1) C.x C.b dX4_holds_28 (by decide) ?_
    replace hf := x_b1 hf; obtain ⟨M29_9, hM29_9, hf⟩ := hf
    refine x_putz C hW fp_X4_7_5 hM29_9 (fun h => by cases h) dX4_holds_29 (fun H locs hW => ?_)
    refine lv_iconst (v := 0) C.x C.b dX4_holds_32 (by decide) ?_
    rw [x_e1 hf, x_e2 hf]
    exact x_iret C hr hW dX4_holds_33

theorem dX2_holds_0 : decode cX2_holds 0 = .ok (.aload_n 0, 1) := by decide +kernel
theorem dX2_holds_1 : decode cX2_holds 1 = .ok (.getfield 7, 3) := by decide +kernel
theorem dX2_holds_4 : decode cX2_holds 4 = .ok (.bipush 50, 2) := by decide +kernel
theorem dX2_holds_6 : decode cX2_holds 6 = .ok (.invokestatic 13, 3) := by decide +kernel
theorem dX2_holds_9 : decode cX2_holds 9 = .ok (.invokevirtual 19, 3) := by decide +kernel
theorem dX2_holds_12 : decode cX2_holds 12 = .ok (.pop, 1) := by decide +kernel
theorem dX2_holds_13 : decode cX2_holds 13 = .ok (.aload_n 0, 1) := by decide +kernel
theorem dX2_holds_14 : decode cX2_holds 14 = .ok (.iload_n 1, 1) := by decide +kernel
theorem dX2_holds_15 : decode cX2_holds 15 = .ok (.iconst 2, 1) := by decide +kernel
theorem dX2_holds_16 : decode cX2_holds 16 = .ok (.iadd, 1) := by decide +kernel
theorem dX2_holds_17 : decode cX2_holds 17 = .ok (.invokespecial 25, 3) := by decide +kernel
theorem dX2_holds_20 : decode cX2_holds 20 = .ok (.iconst 1, 1) := by decide +kernel
theorem dX2_holds_21 : decode cX2_holds 21 = .ok (.ixor, 1) := by decide +kernel
theorem dX2_holds_22 : decode cX2_holds 22 = .ok (.ireturn, 1) := by decide +kernel
theorem hd_X4_holds : yX4_holds.cls ≠ "java/lang/invoke/MethodHandle" ∧ yX4_holds.cls ≠ "java/lang/invoke/VarHandle" ∧ (parseMethodDescriptor yX4_holds.desc).map (fun d => d.parameters.length) = some 1 := by decide +kernel
theorem hdn_X4_holds : yX4_holds.name ≠ "<init>" ∧ (parseMethodDescriptor yX4_holds.desc).map (fun d => d.parameters.length) = some 1 := by decide +kernel
theorem gp_X2_25 : GoodIn gT (sup_ws "NylonLadder$Mesh" "NylonLadder$Plain" 25 ⟨"NylonLadder$Sheer", "holds", "(I)I"⟩ yX4_holds (Cond.code yX4_holds cX4_holds 3 (some .int) :: gT)) := good_SX T_5_191 T_5_192 T_5_27 T_5_5 T_5_184 T_1_17 T_5_205
def fX2_holds_k5 (M : Mm) (o : Nat) (p1 : Int32) : Option (Int32 × Mm) :=
  B1 (rdN M o 5 2) fun a1_1 =>
  B1 (fJ6_valueOf_2dffe M 50) fun x6_2 =>
  B1 (gk M a1_1 2) fun _ =>
  B2 (fJx4a65c_add_9ea2d M a1_1 x6_2) fun x9_4 M9_5 =>
  B1 (gk M9_5 o 5) fun _ =>
  B2 (fX4_holds_k5 M9_5 o (p1 + 2)) fun x17_7 M17_8 =>
  some ((x17_7 ^^^ 1), M17_8)
set_option maxRecDepth 100000 in
set_option maxHeartbeats 4000000 in
theorem qX2_holds_k5 (l : Launch) (E : Ev) {M : Mm} {o : Nat} {p1 : Int32} {rz : Int32} {Mz : Mm} (hf : fX2_holds_k5 M o p1 = some (rz, Mz)) : Ct l E yX2_holds cX2_holds 2 (some .int) 8 171 2 30 [.ref (E.b + o), .int p1] M (some (.int rz)) Mz := by
  refine ct_of (by decide +kernel) (Nat.le_of_ble_eq_true rfl) fun p e s m args below meth c C hr hin hW ls hl => ?_
  have hl : lv_has ls 2 [(0, .ref (E.b + o)), (1, .int p1)] := hl
  unfold fX2_holds_k5 at hf
  refine lv_aload_n C.x C.b dX2_holds_0 rfl (lv_at hl 0 rfl) ?_
  replace hf := x_b1 hf; obtain ⟨a1_1, ha1_1, hf⟩ := hf
  refine x_getn C hW fg_X2_7_5 ha1_1 dX2_holds_1 ?_
  refine lv_bipush (v := 50) C.x C.b dX2_holds_4 (by decide) ?_
  replace hf := x_b1 hf; obtain ⟨x6_2, hx6_2, hf⟩ := hf
  refine x_callS (As := [.int 50]) (rest := [.ref (E.b + a1_1)]) C hW hl (qJ6_valueOf_2dffe l E hx6_2) gs_X2_13 hd_J6_valueOf_2dffe rfl rfl (Nat.le_of_ble_eq_true rfl) dX2_holds_6 ⟨Nat.le_of_ble_eq_true rfl, Nat.le_of_ble_eq_true rfl⟩ ⟨Nat.le_of_ble_eq_true rfl, Nat.le_of_ble_eq_true rfl⟩ (fun H locs hW => ?_)
  replace hf := x_b1 hf; obtain ⟨_, hk9_3, hf⟩ := hf
  replace hf := x_b2 hf; obtain ⟨x9_4, M9_5, hx9_4, hf⟩ := hf
  refine x_callV (As := [.ref (bxA E x6_2)]) (a := a1_1) (rest := []) C hW hl (qJx4a65c_add_9ea2d l E hx9_4) (x_gk hk9_3) (by decide) (by decide) rfl gv_X2_19 ⟨rfl, hd_Jx4a65c_add_9ea2d⟩ rfl rfl (Nat.le_of_ble_eq_true rfl) dX2_holds_9 ⟨Nat.le_of_ble_eq_true rfl, Nat.le_of_ble_eq_true rfl⟩ ⟨Nat.le_of_ble_eq_true rfl, Nat.le_of_ble_eq_true rfl⟩ (fun H locs hW => ?_)
  refine lv_pop C.x C.b dX2_holds_12 rfl ?_
  refine lv_aload_n C.x C.b dX2_holds_13 rfl (lv_at hl 0 rfl) ?_
  refine lv_iload_n C.x C.b dX2_holds_14 rfl (lv_at hl 1 rfl) ?_
  refine lv_iconst (v := 2) C.x C.b dX2_holds_15 (by decide) ?_
  refine lv_iadd C.x C.b dX2_holds_16 ?_
  replace hf := x_b1 hf; obtain ⟨_, hk17_6, hf⟩ := hf
  replace hf := x_b2 hf; obtain ⟨x17_7, M17_8, hx17_7, hf⟩ := hf
  refine x_callSX (owner := "NylonLadder$Plain") (x := ⟨"NylonLadder$Sheer", "holds", "(I)I"⟩) (As := [.int (p1 + 2)]) (a := o) (rest := []) C hW hl (qX4_holds_k5 l E hx17_7) (x_gk hk17_6) (by decide) (by decide) rfl gp_X2_25 rfl hdn_X4_holds rfl rfl (Nat.le_of_ble_eq_true rfl) dX2_holds_17 ⟨Nat.le_of_ble_eq_true rfl, Nat.le_of_ble_eq_true rfl⟩ ⟨Nat.le_of_ble_eq_true rfl, Nat.le_of_ble_eq_true rfl⟩ (fun H locs hW => ?_)
  refine lv_iconst (v := 1) C.x C.b dX2_holds_20 (by decide) ?_
  refine lv_ixor C.x C.b dX2_holds_21 ?_
  rw [x_e1 hf, x_e2 hf]
  exact x_iret C hr hW dX2_holds_22

theorem fg_X4_17_6 : FdG "NylonLadder$Plain" 17 6 1 false := ⟨_, _, _, _, rfl, by decide, by decide, by decide, gxX3, by decide, T_4_217, Or.inl rfl, rfl⟩
def fX4_holds_k6 (M : Mm) (o : Nat) (p1 : Int32) : Option (Int32 × Mm) :=
  B1 (rdN M o 6 2) fun a1_1 =>
  B1 (fJ6_valueOf_2dffe M 12) fun x6_2 =>
  B1 (gk M a1_1 2) fun _ =>
  B2 (fJx4a65c_add_9ea2d M a1_1 x6_2) fun x9_4 M9_5 =>
  B1 (rdI M9_5 o 6 1) fun x14_6 =>
  B1 (rdI M9_5 o 6 0) fun x18_7 =>
  if (x14_6 - x18_7) = 0 then
    B1 (wrZ M9_5 o 6 3 1) fun M29_9 =>
    some (0, M29_9)
  else
    B1 (nzI (x14_6 - x18_7)) fun _ =>
    some ((p1 / (x14_6 - x18_7)), M9_5)
set_option maxRecDepth 100000 in
set_option maxHeartbeats 4000000 in
theorem qX4_holds_k6 (l : Launch) (E : Ev) {M : Mm} {o : Nat} {p1 : Int32} {rz : Int32} {Mz : Mm} (hf : fX4_holds_k6 M o p1 = some (rz, Mz)) : Ct l E yX4_holds cX4_holds 3 (some .int) 7 149 1 15 [.ref (E.b + o), .int p1] M (some (.int rz)) Mz := by
  refine ct_of (by decide +kernel) (Nat.le_of_ble_eq_true rfl) fun p e s m args below meth c C hr hin hW ls hl => ?_
  have hl : lv_has ls 3 [(0, .ref (E.b + o)), (1, .int p1)] := hl
  unfold fX4_holds_k6 at hf
  refine lv_aload_n C.x C.b dX4_holds_0 rfl (lv_at hl 0 rfl) ?_
  replace hf := x_b1 hf; obtain ⟨a1_1, ha1_1, hf⟩ := hf
  refine x_getn C hW fg_X4_20_6 ha1_1 dX4_holds_1 ?_
  refine lv_bipush (v := 12) C.x C.b dX4_holds_4 (by decide) ?_
  replace hf := x_b1 hf; obtain ⟨x6_2, hx6_2, hf⟩ := hf
  refine x_callS (As := [.int 12]) (rest := [.ref (E.b + a1_1)]) C hW hl (qJ6_valueOf_2dffe l E hx6_2) gs_X4_24 hd_J6_valueOf_2dffe rfl rfl (Nat.le_of_ble_eq_true rfl) dX4_holds_6 ⟨Nat.le_of_ble_eq_true rfl, Nat.le_of_ble_eq_true rfl⟩ ⟨Nat.le_of_ble_eq_true rfl, Nat.le_of_ble_eq_true rfl⟩ (fun H locs hW => ?_)
  replace hf := x_b1 hf; obtain ⟨_, hk9_3, hf⟩ := hf
  replace hf := x_b2 hf; obtain ⟨x9_4, M9_5, hx9_4, hf⟩ := hf
  refine x_callV (As := [.ref (bxA E x6_2)]) (a := a1_1) (rest := []) C hW hl (qJx4a65c_add_9ea2d l E hx9_4) (x_gk hk9_3) (by decide) (by decide) rfl gv_X4_30 ⟨rfl, hd_Jx4a65c_add_9ea2d⟩ rfl rfl (Nat.le_of_ble_eq_true rfl) dX4_holds_9 ⟨Nat.le_of_ble_eq_true rfl, Nat.le_of_ble_eq_true rfl⟩ ⟨Nat.le_of_ble_eq_true rfl, Nat.le_of_ble_eq_true rfl⟩ (fun H locs hW => ?_)
  refine lv_pop C.x C.b dX4_holds_12 rfl ?_
  refine lv_aload_n C.x C.b dX4_holds_13 rfl (lv_at hl 0 rfl) ?_
  replace hf := x_b1 hf; obtain ⟨x14_6, hx14_6, hf⟩ := hf
  refine x_geti C hW fg_X4_17_6 hx14_6 dX4_holds_14 ?_
  refine lv_aload_n C.x C.b dX4_holds_17 rfl (lv_at hl 0 rfl) ?_
  replace hf := x_b1 hf; obtain ⟨x18_7, hx18_7, hf⟩ := hf
  refine x_geti C hW fg_X4_13_6 hx18_7 dX4_holds_18 ?_
  refine lv_isub C.x C.b dX4_holds_21 ?_
  refine lv_istore_n (lv' := [(2, .int _), (0, .ref (E.b + _)), (1, .int _)]) C.x C.b dX4_holds_22 rfl hl (by decide) rfl (fun ls hl => ?_)
  refine lv_iload_n C.x C.b dX4_holds_23 rfl (lv_at hl 0 rfl) ?_
  refine lv_if_ne (tgt := 34) C.x C.b dX4_holds_24 rfl (fun c24 => ?_) (fun c24 => ?_)
  · replace hf := x_in c24 hf
    refine lv_iload_n C.x C.b dX4_holds_34 rfl (lv_at hl 2 rfl) ?_
    refine lv_iload_n C.x C.b dX4_holds_35 rfl (lv_at hl 0 rfl) ?_
    replace hf := x_b1 hf; obtain ⟨_, hz36_8, hf⟩ := hf
    refine lv_idiv C.x C.b dX4_holds_36 (x_nzI hz36_8) ?_
    rw [x_e1 hf, x_e2 hf]
    exact x_iret C hr hW dX4_holds_37
  · replace hf := x_ip c24 hf
    refine lv_aload_n C.x C.b dX4_holds_27 rfl (lv_at hl 1 rfl) ?_
    refine lv_iconst (v := 1) C.x C.b dX4_holds_28 (by decide) ?_
    replace hf := x_b1 hf; obtain ⟨M29_9, hM29_9, hf⟩ := hf
    refine x_putz C hW fp_X4_7_6 hM29_9 (fun h => by cases h) dX4_holds_29 (fun H locs hW => ?_)
    refine lv_iconst (v := 0) C.x C.b dX4_holds_32 (by decide) ?_
    rw [x_e1 hf, x_e2 hf]
    exact x_iret C hr hW dX4_holds_33

theorem dX3_holds_0 : decode cX3_holds 0 = .ok (.aload_n 0, 1) := by decide +kernel
theorem dX3_holds_1 : decode cX3_holds 1 = .ok (.getfield 7, 3) := by decide +kernel
theorem dX3_holds_4 : decode cX3_holds 4 = .ok (.bipush 61, 2) := by decide +kernel
theorem dX3_holds_6 : decode cX3_holds 6 = .ok (.invokestatic 13, 3) := by decide +kernel
theorem dX3_holds_9 : decode cX3_holds 9 = .ok (.invokevirtual 19, 3) := by decide +kernel
theorem dX3_holds_12 : decode cX3_holds 12 = .ok (.pop, 1) := by decide +kernel
theorem dX3_holds_13 : decode cX3_holds 13 = .ok (.aload_n 0, 1) := by decide +kernel
theorem dX3_holds_14 : decode cX3_holds 14 = .ok (.iload_n 1, 1) := by decide +kernel
theorem dX3_holds_15 : decode cX3_holds 15 = .ok (.invokespecial 29, 3) := by decide +kernel
theorem dX3_holds_18 : decode cX3_holds 18 = .ok (.istore_n 2, 1) := by decide +kernel
theorem dX3_holds_19 : decode cX3_holds 19 = .ok (.aload_n 0, 1) := by decide +kernel
theorem dX3_holds_20 : decode cX3_holds 20 = .ok (.getfield 32, 3) := by decide +kernel
theorem dX3_holds_23 : decode cX3_holds 23 = .ok (.ifCond .eq 7, 3) := by decide +kernel
theorem dX3_holds_26 : decode cX3_holds 26 = .ok (.iconst 0, 1) := by decide +kernel
theorem dX3_holds_27 : decode cX3_holds 27 = .ok (.goto 13, 3) := by decide +kernel
theorem dX3_holds_30 : decode cX3_holds 30 = .ok (.iload_n 2, 1) := by decide +kernel
theorem dX3_holds_31 : decode cX3_holds 31 = .ok (.aload_n 0, 1) := by decide +kernel
theorem dX3_holds_32 : decode cX3_holds 32 = .ok (.aload_n 0, 1) := by decide +kernel
theorem dX3_holds_33 : decode cX3_holds 33 = .ok (.getfield 36, 3) := by decide +kernel
theorem dX3_holds_36 : decode cX3_holds 36 = .ok (.invokevirtual 40, 3) := by decide +kernel
theorem dX3_holds_39 : decode cX3_holds 39 = .ok (.iadd, 1) := by decide +kernel
theorem dX3_holds_40 : decode cX3_holds 40 = .ok (.ireturn, 1) := by decide +kernel
theorem fg_X3_7_6 : FdG "NylonLadder$Old" 7 6 2 true := ⟨_, _, _, _, rfl, by decide, by decide, by decide, gxX3, by decide, T_4_231, Or.inr T_4_232, rfl⟩
theorem gs_X3_13 : GoodIn gT (va_wsS "NylonLadder$Old" 13 yJ6_valueOf_2dffe (Cond.code yJ6_valueOf_2dffe cJ6_valueOf_2dffe 1 (some (.object "java/lang/Integer")) :: gT)) := good_S T_5_197 T_5_66 T_1_24 T_5_67
theorem gv_X3_19 : GoodIn gT (wsV "NylonLadder$Old" 19 "java/util/ArrayList" yJx4a65c_add_9ea2d (Cond.code yJx4a65c_add_9ea2d cJx4a65c_add_9ea2d 2 (some .boolean) :: gT)) := good_V T_5_198 T_5_86 T_5_87 T_1_9 T_5_88
theorem gp_X3_29 : GoodIn gT (va_wsSU "NylonLadder$Old" 29 yX4_holds (Cond.code yX4_holds cX4_holds 3 (some .int) :: gT)) := good_SU T_5_199 T_5_186 T_5_49 T_5_184 T_1_17 T_5_205
theorem fg_X3_32_6 : FdG "NylonLadder$Old" 32 6 3 false := ⟨_, _, _, _, rfl, by decide, by decide, by decide, gxX3, by decide, T_4_234, Or.inr T_4_235, rfl⟩
theorem fg_X3_36_6 : FdG "NylonLadder$Old" 36 6 1 false := ⟨_, _, _, _, rfl, by decide, by decide, by decide, gxX3, by decide, T_4_220, Or.inr T_4_221, rfl⟩
theorem hdo_X3_40 : ("NylonLadder$Plain" : String) ≠ "java/lang/invoke/MethodHandle" ∧ ("NylonLadder$Plain" : String) ≠ "java/lang/invoke/VarHandle" ∧ (parseMethodDescriptor "(I)I").map (fun d => d.parameters.length) = some 1 := by decide +kernel
theorem gu_X3_40_6 : GoodIn gT (va_wsU "NylonLadder$Old" 40 "NylonLadder$Old" "NylonLadder$Plain" ⟨"NylonLadder$Old", "runs", "(I)I"⟩ yX4_runs (Cond.code yX4_runs cX4_runs 2 (some .int) :: gT)) := good_U T_5_200 T_5_201 T_5_202 T_5_59 T_1_17 T_5_158
def fX3_holds_k6 (M : Mm) (o : Nat) (p1 : Int32) : Option (Int32 × Mm) :=
  B1 (rdN M o 6 2) fun a1_1 =>
  B1 (fJ6_valueOf_2dffe M 61) fun x6_2 =>
  B1 (gk M a1_1 2) fun _ =>
  B2 (fJx4a65c_add_9ea2d M a1_1 x6_2) fun x9_4 M9_5 =>
  B1 (gk M9_5 o 6) fun _ =>
  B2 (fX4_holds_k6 M9_5 o p1) fun x15_7 M15_8 =>
  B1 (rdI M15_8 o 6 3) fun x20_9 =>
  if x20_9 = 0 then
    B1 (rdI M15_8 o 6 1) fun x33_10 =>
    B1 (gk M15_8 o 6) fun _ =>
    B2 (fX4_runs_k6 M15_8 o x33_10) fun x36_12 M36_13 =>
    some ((x15_7 + x36_12), M36_13)
  else
    some (0, M15_8)
set_option maxRecDepth 100000 in
set_option maxHeartbeats 4000000 in
theorem qX3_holds_k6 (l : Launch) (E : Ev) {M : Mm} {o : Nat} {p1 : Int32} {rz : Int32} {Mz : Mm} (hf : fX3_holds_k6 M o p1 = some (rz, Mz)) : Ct l E yX3_holds cX3_holds 3 (some .int) 8 171 3 45 [.ref (E.b + o), .int p1] M (some (.int rz)) Mz := by
  refine ct_of (by decide +kernel) (Nat.le_of_ble_eq_true rfl) fun p e s m args below meth c C hr hin hW ls hl => ?_
  have hl : lv_has ls 3 [(0, .ref (E.b + o)), (1, .int p1)] := hl
  unfold fX3_holds_k6 at hf
  refine lv_aload_n C.x C.b dX3_holds_0 rfl (lv_at hl 0 rfl) ?_
  replace hf := x_b1 hf; obtain ⟨a1_1, ha1_1, hf⟩ := hf
  refine x_getn C hW fg_X3_7_6 ha1_1 dX3_holds_1 ?_
  refine lv_bipush (v := 61) C.x C.b dX3_holds_4 (by decide) ?_
  replace hf := x_b1 hf; obtain ⟨x6_2, hx6_2, hf⟩ := hf
  refine x_callS (As := [.int 61]) (rest := [.ref (E.b + a1_1)]) C hW hl (qJ6_valueOf_2dffe l E hx6_2) gs_X3_13 hd_J6_valueOf_2dffe rfl rfl (Nat.le_of_ble_eq_true rfl) dX3_holds_6 ⟨Nat.le_of_ble_eq_true rfl, Nat.le_of_ble_eq_true rfl⟩ ⟨Nat.le_of_ble_eq_true rfl, Nat.le_of_ble_eq_true rfl⟩ (fun H locs hW => ?_)
  replace hf := x_b1 hf; obtain ⟨_, hk9_3, hf⟩ := hf
  replace hf := x_b2 hf; obtain ⟨x9_4, M9_5, hx9_4, hf⟩ := hf
  refine x_callV (As := [.ref (bxA E x6_2)]) (a := a1_1) (rest := []) C hW hl (qJx4a65c_add_9ea2d l E hx9_4) (x_gk hk9_3) (by decide) (by decide) rfl gv_X3_19 ⟨rfl, hd_Jx4a65c_add_9ea2d⟩ rfl rfl (Nat.le_of_ble_eq_true rfl) dX3_holds_9 ⟨Nat.le_of_ble_eq_true rfl, Nat.le_of_ble_eq_true rfl⟩ ⟨Nat.le_of_ble_eq_true rfl, Nat.le_of_ble_eq_true rfl⟩ (fun H locs hW => ?_)
  refine lv_pop C.x C.b dX3_holds_12 rfl ?_
  refine lv_aload_n C.x C.b dX3_holds_13 rfl (lv_at hl 0 rfl) ?_
  refine lv_iload_n C.x C.b dX3_holds_14 rfl (lv_at hl 1 rfl) ?_
  replace hf := x_b1 hf; obtain ⟨_, hk15_6, hf⟩ := hf
  replace hf := x_b2 hf; obtain ⟨x15_7, M15_8, hx15_7, hf⟩ := hf
  refine x_callSU (As := [.int p1]) (a := o) (rest := []) C hW hl (qX4_holds_k6 l E hx15_7) (x_gk hk15_6) (by decide) (by decide) rfl gp_X3_29 hdn_X4_holds rfl rfl (Nat.le_of_ble_eq_true rfl) dX3_holds_15 ⟨Nat.le_of_ble_eq_true rfl, Nat.le_of_ble_eq_true rfl⟩ ⟨Nat.le_of_ble_eq_true rfl, Nat.le_of_ble_eq_true rfl⟩ (fun H locs hW => ?_)
  refine lv_istore_n (lv' := [(2, .int _), (0, .ref (E.b + _)), (1, .int _)]) C.x C.b dX3_holds_18 rfl hl (by decide) rfl (fun ls hl => ?_)
  refine lv_aload_n C.x C.b dX3_holds_19 rfl (lv_at hl 1 rfl) ?_
  replace hf := x_b1 hf; obtain ⟨x20_9, hx20_9, hf⟩ := hf
  refine x_geti C hW fg_X3_32_6 hx20_9 dX3_holds_20 ?_
  refine lv_if_eq (tgt := 30) C.x C.b dX3_holds_23 rfl (fun c23 => ?_) (fun c23 => ?_)
  · replace hf := x_ip c23 hf
    refine lv_iload_n C.x C.b dX3_holds_30 rfl (lv_at hl 0 rfl) ?_
    refine lv_aload_n C.x C.b dX3_holds_31 rfl (lv_at hl 1 rfl) ?_
    refine lv_aload_n C.x C.b dX3_holds_32 rfl (lv_at hl 1 rfl) ?_
    replace hf := x_b1 hf; obtain ⟨x33_10, hx33_10, hf⟩ := hf
    refine x_geti C hW fg_X3_36_6 hx33_10 dX3_holds_33 ?_
    replace hf := x_b1 hf; obtain ⟨_, hk36_11, hf⟩ := hf
    replace hf := x_b2 hf; obtain ⟨x36_12, M36_13, hx36_12, hf⟩ := hf
    refine x_callU (owner := "NylonLadder$Plain") (x := ⟨"NylonLadder$Old", "runs", "(I)I"⟩) (As := [.int x33_10]) (a := o) (rest := [.int x15_7]) C hW hl (qX4_runs_k6 l E hx36_12) (x_gk hk36_11) (by decide) (by decide) rfl gu_X3_40_6 rfl hdo_X3_40 rfl rfl (Nat.le_of_ble_eq_true rfl) dX3_holds_36 ⟨Nat.le_of_ble_eq_true rfl, Nat.le_of_ble_eq_true rfl⟩ ⟨Nat.le_of_ble_eq_true rfl, Nat.le_of_ble_eq_true rfl⟩ (fun H locs hW => ?_)
    refine lv_iadd C.x C.b dX3_holds_39 ?_
    rw [x_e1 hf, x_e2 hf]
    exact x_iret C hr hW dX3_holds_40
  · replace hf := x_in c23 hf
    refine lv_iconst (v := 0) C.x C.b dX3_holds_26 (by decide) ?_
    refine lv_goto (tgt := 40) C.x C.b dX3_holds_27 rfl ?_
    refine W.widen (k := 3) (n := 45) (Nat.le_of_ble_eq_true rfl) (Nat.le_of_ble_eq_true rfl) ?_
    rw [x_e1 hf, x_e2 hf]
    exact x_iret C hr hW dX3_holds_40

theorem fg_X4_17_12 : FdG "NylonLadder$Plain" 17 12 1 false := ⟨_, _, _, _, rfl, by decide, by decide, by decide, gxX9, by decide, T_4_217, Or.inl rfl, rfl⟩
def fX4_holds_k12 (M : Mm) (o : Nat) (p1 : Int32) : Option (Int32 × Mm) :=
  B1 (rdN M o 12 2) fun a1_1 =>
  B1 (fJ6_valueOf_2dffe M 12) fun x6_2 =>
  B1 (gk M a1_1 2) fun _ =>
  B2 (fJx4a65c_add_9ea2d M a1_1 x6_2) fun x9_4 M9_5 =>
  B1 (rdI M9_5 o 12 1) fun x14_6 =>
  B1 (rdI M9_5 o 12 0) fun x18_7 =>
  if (x14_6 - x18_7) = 0 then
    B1 (wrZ M9_5 o 12 3 1) fun M29_9 =>
    some (0, M29_9)
  else
    B1 (nzI (x14_6 - x18_7)) fun _ =>
    some ((p1 / (x14_6 - x18_7)), M9_5)
set_option maxRecDepth 100000 in
set_option maxHeartbeats 4000000 in
theorem qX4_holds_k12 (l : Launch) (E : Ev) {M : Mm} {o : Nat} {p1 : Int32} {rz : Int32} {Mz : Mm} (hf : fX4_holds_k12 M o p1 = some (rz, Mz)) : Ct l E yX4_holds cX4_holds 3 (some .int) 7 149 1 15 [.ref (E.b + o), .int p1] M (some (.int rz)) Mz := by
  refine ct_of (by decide +kernel) (Nat.le_of_ble_eq_true rfl) fun p e s m args below meth c C hr hin hW ls hl => ?_
  have hl : lv_has ls 3 [(0, .ref (E.b + o)), (1, .int p1)] := hl
  unfold fX4_holds_k12 at hf
  refine lv_aload_n C.x C.b dX4_holds_0 rfl (lv_at hl 0 rfl) ?_
  replace hf := x_b1 hf; obtain ⟨a1_1, ha1_1, hf⟩ := hf
  refine x_getn C hW fg_X4_20_12 ha1_1 dX4_holds_1 ?_
  refine lv_bipush (v := 12) C.x C.b dX4_holds_4 (by decide) ?_
  replace hf := x_b1 hf; obtain ⟨x6_2, hx6_2, hf⟩ := hf
  refine x_callS (As := [.int 12]) (rest := [.ref (E.b + a1_1)]) C hW hl (qJ6_valueOf_2dffe l E hx6_2) gs_X4_24 hd_J6_valueOf_2dffe rfl rfl (Nat.le_of_ble_eq_true rfl) dX4_holds_6 ⟨Nat.le_of_ble_eq_true rfl, Nat.le_of_ble_eq_true rfl⟩ ⟨Nat.le_of_ble_eq_true rfl, Nat.le_of_ble_eq_true rfl⟩ (fun H locs hW => ?_)
  replace hf := x_b1 hf; obtain ⟨_, hk9_3, hf⟩ := hf
  replace hf := x_b2 hf; obtain ⟨x9_4, M9_5, hx9_4, hf⟩ := hf
  refine x_callV (As := [.ref (bxA E x6_2)]) (a := a1_1) (rest := []) C hW hl (qJx4a65c_add_9ea2d l E hx9_4) (x_gk hk9_3) (by decide) (by decide) rfl gv_X4_30 ⟨rfl, hd_Jx4a65c_add_9ea2d⟩ rfl rfl (Nat.le_of_ble_eq_true rfl) dX4_holds_9 ⟨Nat.le_of_ble_eq_true rfl, Nat.le_of_ble_eq_true rfl⟩ ⟨Nat.le_of_ble_eq_true rfl, Nat.le_of_ble_eq_true rfl⟩ (fun H locs hW => ?_)
  refine lv_pop C.x C.b dX4_holds_12 rfl ?_
  refine lv_aload_n C.x C.b dX4_holds_13 rfl (lv_at hl 0 rfl) ?_
  replace hf := x_b1 hf; obtain ⟨x14_6, hx14_6, hf⟩ := hf
  refine x_geti C hW fg_X4_17_12 hx14_6 dX4_holds_14 ?_
  refine lv_aload_n C.x C.b dX4_holds_17 rfl (lv_at hl 0 rfl) ?_
  replace hf := x_b1 hf; obtain ⟨x18_7, hx18_7, hf⟩ := hf
  refine x_geti C hW fg_X4_13_12 hx18_7 dX4_holds_18 ?_
  refine lv_isub C.x C.b dX4_holds_21 ?_
  refine lv_istore_n (lv' := [(2, .int _), (0, .ref (E.b + _)), (1, .int _)]) C.x C.b dX4_holds_22 rfl hl (by decide) rfl (fun ls hl => ?_)
  refine lv_iload_n C.x C.b dX4_holds_23 rfl (lv_at hl 0 rfl) ?_
  refine lv_if_ne (tgt := 34) C.x C.b dX4_holds_24 rfl (fun c24 => ?_) (fun c24 => ?_)
  · replace hf := x_in c24 hf
    refine lv_iload_n C.x C.b dX4_holds_34 rfl (lv_at hl 2 rfl) ?_
    refine lv_iload_n C.x C.b dX4_holds_35 rfl (lv_at hl 0 rfl) ?_
    replace hf := x_b1 hf; obtain ⟨_, hz36_8, hf⟩ := hf
    refine lv_idiv C.x C.b dX4_holds_36 (x_nzI hz36_8) ?_
    rw [x_e1 hf, x_e2 hf]
    exact x_iret C hr hW dX4_holds_37
  · replace hf := x_ip c24 hf
    refine lv_aload_n C.x C.b dX4_holds_27 rfl (lv_at hl 1 rfl) ?_
    refine lv_iconst (v := 1) C.x C.b dX4_holds_28 (by decide) ?_
    replace hf := x_b1 hf; obtain ⟨M29_9, hM29_9, hf⟩ := hf
    refine x_putz C hW fp_X4_7_12 hM29_9 (fun h => by cases h) dX4_holds_29 (fun H locs hW => ?_)
    refine lv_iconst (v := 0) C.x C.b dX4_holds_32 (by decide) ?_
    rw [x_e1 hf, x_e2 hf]
    exact x_iret C hr hW dX4_holds_33

theorem fg_X4_17_8 : FdG "NylonLadder$Plain" 17 8 1 false := ⟨_, _, _, _, rfl, by decide, by decide, by decide, gxX5, by decide, T_4_217, Or.inl rfl, rfl⟩
def fX4_holds_k8 (M : Mm) (o : Nat) (p1 : Int32) : Option (Int32 × Mm) :=
  B1 (rdN M o 8 2) fun a1_1 =>
  B1 (fJ6_valueOf_2dffe M 12) fun x6_2 =>
  B1 (gk M a1_1 2) fun _ =>
  B2 (fJx4a65c_add_9ea2d M a1_1 x6_2) fun x9_4 M9_5 =>
  B1 (rdI M9_5 o 8 1) fun x14_6 =>
  B1 (rdI M9_5 o 8 0) fun x18_7 =>
  if (x14_6 - x18_7) = 0 then
    B1 (wrZ M9_5 o 8 3 1) fun M29_9 =>
    some (0, M29_9)
  else
    B1 (nzI (x14_6 - x18_7)) fun _ =>
    some ((p1 / (x14_6 - x18_7)), M9_5)
set_option maxRecDepth 100000 in
set_option maxHeartbeats 4000000 in
theorem qX4_holds_k8 (l : Launch) (E : Ev) {M : Mm} {o : Nat} {p1 : Int32} {rz : Int32} {Mz : Mm} (hf : fX4_holds_k8 M o p1 = some (rz, Mz)) : Ct l E yX4_holds cX4_holds 3 (some .int) 7 149 1 15 [.ref (E.b + o), .int p1] M (some (.int rz)) Mz := by
  refine ct_of (by decide +kernel) (Nat.le_of_ble_eq_true rfl) fun p e s m args below meth c C hr hin hW ls hl => ?_
  have hl : lv_has ls 3 [(0, .ref (E.b + o)), (1, .int p1)] := hl
  unfold fX4_holds_k8 at hf
  refine lv_aload_n C.x C.b dX4_holds_0 rfl (lv_at hl 0 rfl) ?_
  replace hf := x_b1 hf; obtain ⟨a1_1, ha1_1, hf⟩ := hf
  refine x_getn C hW fg_X4_20_8 ha1_1 dX4_holds_1 ?_
  refine lv_bipush (v := 12) C.x C.b dX4_holds_4 (by decide) ?_
  replace hf := x_b1 hf; obtain ⟨x6_2, hx6_2, hf⟩ := hf
  refine x_callS (As := [.int 12]) (rest := [.ref (E.b + a1_1)]) C hW hl (qJ6_valueOf_2dffe l E hx6_2) gs_X4_24 hd_J6_valueOf_2dffe rfl rfl (Nat.le_of_ble_eq_true rfl) dX4_holds_6 ⟨Nat.le_of_ble_eq_true rfl, Nat.le_of_ble_eq_true rfl⟩ ⟨Nat.le_of_ble_eq_true rfl, Nat.le_of_ble_eq_true rfl⟩ (fun H locs hW => ?_)
  replace hf := x_b1 hf; obtain ⟨_, hk9_3, hf⟩ := hf
  replace hf := x_b2 hf; obtain ⟨x9_4, M9_5, hx9_4, hf⟩ := hf
  refine x_callV (As := [.ref (bxA E x6_2)]) (a := a1_1) (rest := []) C hW hl (qJx4a65c_add_9ea2d l E hx9_4) (x_gk hk9_3) (by decide) (by decide) rfl gv_X4_30 ⟨rfl, hd_Jx4a65c_add_9ea2d⟩ rfl rfl (Nat.le_of_ble_eq_true rfl) dX4_holds_9 ⟨Nat.le_of_ble_eq_true rfl, Nat.le_of_ble_eq_true rfl⟩ ⟨Nat.le_of_ble_eq_true rfl, Nat.le_of_ble_eq_true rfl⟩ (fun H locs hW => ?_)
  refine lv_pop C.x C.b dX4_holds_12 rfl ?_
  refine lv_aload_n C.x C.b dX4_holds_13 rfl (lv_at hl 0 rfl) ?_
  replace hf := x_b1 hf; obtain ⟨x14_6, hx14_6, hf⟩ := hf
  refine x_geti C hW fg_X4_17_8 hx14_6 dX4_holds_14 ?_
  refine lv_aload_n C.x C.b dX4_holds_17 rfl (lv_at hl 0 rfl) ?_
  replace hf := x_b1 hf; obtain ⟨x18_7, hx18_7, hf⟩ := hf
  refine x_geti C hW fg_X4_13_8 hx18_7 dX4_holds_18 ?_
  refine lv_isub C.x C.b dX4_holds_21 ?_
  refine lv_istore_n (lv' := [(2, .int _), (0, .ref (E.b + _)), (1, .int _)]) C.x C.b dX4_holds_22 rfl hl (by decide) rfl (fun ls hl => ?_)
  refine lv_iload_n C.x C.b dX4_holds_23 rfl (lv_at hl 0 rfl) ?_
  refine lv_if_ne (tgt := 34) C.x C.b dX4_holds_24 rfl (fun c24 => ?_) (fun c24 => ?_)
  · replace hf := x_in c24 hf
    refine lv_iload_n C.x C.b dX4_holds_34 rfl (lv_at hl 2 rfl) ?_
    refine lv_iload_n C.x C.b dX4_holds_35 rfl (lv_at hl 0 rfl) ?_
    replace hf := x_b1 hf; obtain ⟨_, hz36_8, hf⟩ := hf
    refine lv_idiv C.x C.b dX4_holds_36 (x_nzI hz36_8) ?_
    rw [x_e1 hf, x_e2 hf]
    exact x_iret C hr hW dX4_holds_37
  · replace hf := x_ip c24 hf
    refine lv_aload_n C.x C.b dX4_holds_27 rfl (lv_at hl 1 rfl) ?_
    refine lv_iconst (v := 1) C.x C.b dX4_holds_28 (by decide) ?_
    replace hf := x_b1 hf; obtain ⟨M29_9, hM29_9, hf⟩ := hf
    refine x_putz C hW fp_X4_7_8 hM29_9 (fun h => by cases h) dX4_holds_29 (fun H locs hW => ?_)
    refine lv_iconst (v := 0) C.x C.b dX4_holds_32 (by decide) ?_
    rw [x_e1 hf, x_e2 hf]
    exact x_iret C hr hW dX4_holds_33

theorem fg_X4_17_7 : FdG "NylonLadder$Plain" 17 7 1 false := ⟨_, _, _, _, rfl, by decide, by decide, by decide, gxX4, by decide, T_4_217, Or.inl rfl, rfl⟩
def fX4_holds_k7 (M : Mm) (o : Nat) (p1 : Int32) : Option (Int32 × Mm) :=
  B1 (rdN M o 7 2) fun a1_1 =>
  B1 (fJ6_valueOf_2dffe M 12) fun x6_2 =>
  B1 (gk M a1_1 2) fun _ =>
  B2 (fJx4a65c_add_9ea2d M a1_1 x6_2) fun x9_4 M9_5 =>
  B1 (rdI M9_5 o 7 1) fun x14_6 =>
  B1 (rdI M9_5 o 7 0) fun x18_7 =>
  if (x14_6 - x18_7) = 0 then
    B1 (wrZ M9_5 o 7 3 1) fun M29_9 =>
    some (0, M29_9)
  else
    B1 (nzI (x14_6 - x18_7)) fun _ =>
    some ((p1 / (x14_6 - x18_7)), M9_5)
set_option maxRecDepth 100000 in
set_option maxHeartbeats 4000000 in
theorem qX4_holds_k7 (l : Launch) (E : Ev) {M : Mm} {o : Nat} {p1 : Int32} {rz : Int32} {Mz : Mm} (hf : fX4_holds_k7 M o p1 = some (rz, Mz)) : Ct l E yX4_holds cX4_holds 3 (some .int) 7 149 1 15 [.ref (E.b + o), .int p1] M (some (.int rz)) Mz := by
  refine ct_of (by decide +kernel) (Nat.le_of_ble_eq_true rfl) fun p e s m args below meth c C hr hin hW ls hl => ?_
  have hl : lv_has ls 3 [(0, .ref (E.b + o)), (1, .int p1)] := hl
  unfold fX4_holds_k7 at hf
  refine lv_aload_n C.x C.b dX4_holds_0 rfl (lv_at hl 0 rfl) ?_
  replace hf := x_b1 hf; obtain ⟨a1_1, ha1_1, hf⟩ := hf
  refine x_getn C hW fg_X4_20_7 ha1_1 dX4_holds_1 ?_
  refine lv_bipush (v := 12) C.x C.b dX4_holds_4 (by decide) ?_
  replace hf := x_b1 hf; obtain ⟨x6_2, hx6_2, hf⟩ := hf
  refine x_callS (As := [.int 12]) (rest := [.ref (E.b + a1_1)]) C hW hl (qJ6_valueOf_2dffe l E hx6_2) gs_X4_24 hd_J6_valueOf_2dffe rfl rfl (Nat.le_of_ble_eq_true rfl) dX4_holds_6 ⟨Nat.le_of_ble_eq_true rfl, Nat.le_of_ble_eq_true rfl⟩ ⟨Nat.le_of_ble_eq_true rfl, Nat.le_of_ble_eq_true rfl⟩ (fun H locs hW => ?_)
  replace hf := x_b1 hf; obtain ⟨_, hk9_3, hf⟩ := hf
  replace hf := x_b2 hf; obtain ⟨x9_4, M9_5, hx9_4, hf⟩ := hf
  refine x_callV (As := [.ref (bxA E x6_2)]) (a := a1_1) (rest := []) C hW hl (qJx4a65c_add_9ea2d l E hx9_4) (x_gk hk9_3) (by decide) (by decide) rfl gv_X4_30 ⟨rfl, hd_Jx4a65c_add_9ea2d⟩ rfl rfl (Nat.le_of_ble_eq_true rfl) dX4_holds_9 ⟨Nat.le_of_ble_eq_true rfl, Nat.le_of_ble_eq_true rfl⟩ ⟨Nat.le_of_ble_eq_true rfl, Nat.le_of_ble_eq_true rfl⟩ (fun H locs hW => ?_)
  refine lv_pop C.x C.b dX4_holds_12 rfl ?_
  refine lv_aload_n C.x C.b dX4_holds_13 rfl (lv_at hl 0 rfl) ?_
  replace hf := x_b1 hf; obtain ⟨x14_6, hx14_6, hf⟩ := hf
  refine x_geti C hW fg_X4_17_7 hx14_6 dX4_holds_14 ?_
  refine lv_aload_n C.x C.b dX4_holds_17 rfl (lv_at hl 0 rfl) ?_
  replace hf := x_b1 hf; obtain ⟨x18_7, hx18_7, hf⟩ := hf
  refine x_geti C hW fg_X4_13_7 hx18_7 dX4_holds_18 ?_
  refine lv_isub C.x C.b dX4_holds_21 ?_
  refine lv_istore_n (lv' := [(2, .int _), (0, .ref (E.b + _)), (1, .int _)]) C.x C.b dX4_holds_22 rfl hl (by decide) rfl (fun ls hl => ?_)
  refine lv_iload_n C.x C.b dX4_holds_23 rfl (lv_at hl 0 rfl) ?_
  refine lv_if_ne (tgt := 34) C.x C.b dX4_holds_24 rfl (fun c24 => ?_) (fun c24 => ?_)
  · replace hf := x_in c24 hf
    refine lv_iload_n C.x C.b dX4_holds_34 rfl (lv_at hl 2 rfl) ?_
    refine lv_iload_n C.x C.b dX4_holds_35 rfl (lv_at hl 0 rfl) ?_
    replace hf := x_b1 hf; obtain ⟨_, hz36_8, hf⟩ := hf
    refine lv_idiv C.x C.b dX4_holds_36 (x_nzI hz36_8) ?_
    rw [x_e1 hf, x_e2 hf]
    exact x_iret C hr hW dX4_holds_37
  · replace hf := x_ip c24 hf
    refine lv_aload_n C.x C.b dX4_holds_27 rfl (lv_at hl 1 rfl) ?_
    refine lv_iconst (v := 1) C.x C.b dX4_holds_28 (by decide) ?_
    replace hf := x_b1 hf; obtain ⟨M29_9, hM29_9, hf⟩ := hf
    refine x_putz C hW fp_X4_7_7 hM29_9 (fun h => by cases h) dX4_holds_29 (fun H locs hW => ?_)
    refine lv_iconst (v := 0) C.x C.b dX4_holds_32 (by decide) ?_
    rw [x_e1 hf, x_e2 hf]
    exact x_iret C hr hW dX4_holds_33

theorem dX4_tells_0 : decode cX4_tells 0 = .ok (.aload_n 0, 1) := by decide +kernel
theorem dX4_tells_1 : decode cX4_tells 1 = .ok (.getfield 20, 3) := by decide +kernel
theorem dX4_tells_4 : decode cX4_tells 4 = .ok (.bipush 13, 2) := by decide +kernel
theorem dX4_tells_6 : decode cX4_tells 6 = .ok (.invokestatic 24, 3) := by decide +kernel
theorem dX4_tells_9 : decode cX4_tells 9 = .ok (.invokevirtual 30, 3) := by decide +kernel
theorem dX4_tells_12 : decode cX4_tells 12 = .ok (.pop, 1) := by decide +kernel
theorem dX4_tells_13 : decode cX4_tells 13 = .ok (.aload_n 0, 1) := by decide +kernel
theorem dX4_tells_14 : decode cX4_tells 14 = .ok (.iload_n 1, 1) := by decide +kernel
theorem dX4_tells_15 : decode cX4_tells 15 = .ok (.invokevirtual 40, 3) := by decide +kernel
theorem dX4_tells_18 : decode cX4_tells 18 = .ok (.aload_n 0, 1) := by decide +kernel
theorem dX4_tells_19 : decode cX4_tells 19 = .ok (.getfield 17, 3) := by decide +kernel
theorem dX4_tells_22 : decode cX4_tells 22 = .ok (.ixor, 1) := by decide +kernel
theorem dX4_tells_23 : decode cX4_tells 23 = .ok (.ireturn, 1) := by decide +kernel
theorem hd_X1_dries : yX1_dries.cls ≠ "java/lang/invoke/MethodHandle" ∧ yX1_dries.cls ≠ "java/lang/invoke/VarHandle" ∧ (parseMethodDescriptor yX1_dries.desc).map (fun d => d.parameters.length) = some 1 := by decide +kernel
theorem hdo_X4_40 : ("NylonLadder$Plain" : String) ≠ "java/lang/invoke/MethodHandle" ∧ ("NylonLadder$Plain" : String) ≠ "java/lang/invoke/VarHandle" ∧ (parseMethodDescriptor "(I)I").map (fun d => d.parameters.length) = some 1 := by decide +kernel
theorem gu_X4_40_4 : GoodIn gT (va_wsO "NylonLadder$Plain" 40 "NylonLadder$Lined" "NylonLadder$Plain" ⟨"NylonLadder$Plain", "dries", "(I)I"⟩ yX1_dries (Cond.code yX1_dries cX1_dries 2 (some .int) :: gT)) := good_O T_5_226 T_5_164 T_5_162 T_5_165 T_5_166 T_1_21 T_5_167
def fX4_tells_k4 (M : Mm) (o : Nat) (p1 : Int32) : Option (Int32 × Mm) :=
  B1 (rdN M o 4 2) fun a1_1 =>
  B1 (fJ6_valueOf_2dffe M 13) fun x6_2 =>
  B1 (gk M a1_1 2) fun _ =>
  B2 (fJx4a65c_add_9ea2d M a1_1 x6_2) fun x9_4 M9_5 =>
  B1 (gk M9_5 o 4) fun _ =>
  B2 (fX1_dries_k4 M9_5 o p1) fun x15_7 M15_8 =>
  B1 (rdI M15_8 o 4 1) fun x19_9 =>
  some ((x15_7 ^^^ x19_9), M15_8)
set_option maxRecDepth 100000 in
set_option maxHeartbeats 4000000 in
theorem qX4_tells_k4 (l : Launch) (E : Ev) {M : Mm} {o : Nat} {p1 : Int32} {rz : Int32} {Mz : Mm} (hf : fX4_tells_k4 M o p1 = some (rz, Mz)) : Ct l E yX4_tells cX4_tells 2 (some .int) 12 254 9 135 [.ref (E.b + o), .int p1] M (some (.int rz)) Mz := by
  refine ct_of (by decide +kernel) (Nat.le_of_ble_eq_true rfl) fun p e s m args below meth c C hr hin hW ls hl => ?_
  have hl : lv_has ls 2 [(0, .ref (E.b + o)), (1, .int p1)] := hl
  unfold fX4_tells_k4 at hf
  refine lv_aload_n C.x C.b dX4_tells_0 rfl (lv_at hl 0 rfl) ?_
  replace hf := x_b1 hf; obtain ⟨a1_1, ha1_1, hf⟩ := hf
  refine x_getn C hW fg_X4_20_4 ha1_1 dX4_tells_1 ?_
  refine lv_bipush (v := 13) C.x C.b dX4_tells_4 (by decide) ?_
  replace hf := x_b1 hf; obtain ⟨x6_2, hx6_2, hf⟩ := hf
  refine x_callS (As := [.int 13]) (rest := [.ref (E.b + a1_1)]) C hW hl (qJ6_valueOf_2dffe l E hx6_2) gs_X4_24 hd_J6_valueOf_2dffe rfl rfl (Nat.le_of_ble_eq_true rfl) dX4_tells_6 ⟨Nat.le_of_ble_eq_true rfl, Nat.le_of_ble_eq_true rfl⟩ ⟨Nat.le_of_ble_eq_true rfl, Nat.le_of_ble_eq_true rfl⟩ (fun H locs hW => ?_)
  replace hf := x_b1 hf; obtain ⟨_, hk9_3, hf⟩ := hf
  replace hf := x_b2 hf; obtain ⟨x9_4, M9_5, hx9_4, hf⟩ := hf
  refine x_callV (As := [.ref (bxA E x6_2)]) (a := a1_1) (rest := []) C hW hl (qJx4a65c_add_9ea2d l E hx9_4) (x_gk hk9_3) (by decide) (by decide) rfl gv_X4_30 ⟨rfl, hd_Jx4a65c_add_9ea2d⟩ rfl rfl (Nat.le_of_ble_eq_true rfl) dX4_tells_9 ⟨Nat.le_of_ble_eq_true rfl, Nat.le_of_ble_eq_true rfl⟩ ⟨Nat.le_of_ble_eq_true rfl, Nat.le_of_ble_eq_true rfl⟩ (fun H locs hW => ?_)
  refine lv_pop C.x C.b dX4_tells_12 rfl ?_
  refine lv_aload_n C.x C.b dX4_tells_13 rfl (lv_at hl 0 rfl) ?_
  refine lv_iload_n C.x C.b dX4_tells_14 rfl (lv_at hl 1 rfl) ?_
  replace hf := x_b1 hf; obtain ⟨_, hk15_6, hf⟩ := hf
  replace hf := x_b2 hf; obtain ⟨x15_7, M15_8, hx15_7, hf⟩ := hf
  refine x_callO (owner := "NylonLadder$Plain") (x := ⟨"NylonLadder$Plain", "dries", "(I)I"⟩) (As := [.int p1]) (a := o) (rest := []) C hW hl (qX1_dries_k4 l E hx15_7) (x_gk hk15_6) (by decide) (by decide) rfl gu_X4_40_4 T_5_181 hdo_X4_40 rfl rfl (Nat.le_of_ble_eq_true rfl) dX4_tells_15 ⟨Nat.le_of_ble_eq_true rfl, Nat.le_of_ble_eq_true rfl⟩ ⟨Nat.le_of_ble_eq_true rfl, Nat.le_of_ble_eq_true rfl⟩ (fun H locs hW => ?_)
  refine lv_aload_n C.x C.b dX4_tells_18 rfl (lv_at hl 0 rfl) ?_
  replace hf := x_b1 hf; obtain ⟨x19_9, hx19_9, hf⟩ := hf
  refine x_geti C hW fg_X4_17_4 hx19_9 dX4_tells_19 ?_
  refine lv_ixor C.x C.b dX4_tells_22 ?_
  rw [x_e1 hf, x_e2 hf]
  exact x_iret C hr hW dX4_tells_23

theorem dX9_tells_0 : decode cX9_tells 0 = .ok (.aload_n 0, 1) := by decide +kernel
theorem dX9_tells_1 : decode cX9_tells 1 = .ok (.getfield 7, 3) := by decide +kernel
theorem dX9_tells_4 : decode cX9_tells 4 = .ok (.bipush 31, 2) := by decide +kernel
theorem dX9_tells_6 : decode cX9_tells 6 = .ok (.invokestatic 13, 3) := by decide +kernel
theorem dX9_tells_9 : decode cX9_tells 9 = .ok (.invokevirtual 19, 3) := by decide +kernel
theorem dX9_tells_12 : decode cX9_tells 12 = .ok (.pop, 1) := by decide +kernel
theorem dX9_tells_13 : decode cX9_tells 13 = .ok (.aload_n 0, 1) := by decide +kernel
theorem dX9_tells_14 : decode cX9_tells 14 = .ok (.iload_n 1, 1) := by decide +kernel
theorem dX9_tells_15 : decode cX9_tells 15 = .ok (.invokespecial 29, 3) := by decide +kernel
theorem dX9_tells_18 : decode cX9_tells 18 = .ok (.aload_n 0, 1) := by decide +kernel
theorem dX9_tells_19 : decode cX9_tells 19 = .ok (.aload_n 0, 1) := by decide +kernel
theorem dX9_tells_20 : decode cX9_tells 20 = .ok (.getfield 32, 3) := by decide +kernel
theorem dX9_tells_23 : decode cX9_tells 23 = .ok (.invokevirtual 36, 3) := by decide +kernel
theorem dX9_tells_26 : decode cX9_tells 26 = .ok (.iadd, 1) := by decide +kernel
theorem dX9_tells_27 : decode cX9_tells 27 = .ok (.ireturn, 1) := by decide +kernel
theorem hd_X4_tells : yX4_tells.cls ≠ "java/lang/invoke/MethodHandle" ∧ yX4_tells.cls ≠ "java/lang/invoke/VarHandle" ∧ (parseMethodDescriptor yX4_tells.desc).map (fun d => d.parameters.length) = some 1 := by decide +kernel
theorem hdn_X4_tells : yX4_tells.name ≠ "<init>" ∧ (parseMethodDescriptor yX4_tells.desc).map (fun d => d.parameters.length) = some 1 := by decide +kernel
theorem gp_X9_29 : GoodIn gT (va_wsSU "NylonLadder$Thick" 29 yX4_tells (Cond.code yX4_tells cX4_tells 2 (some .int) :: gT)) := good_SU T_5_213 T_5_209 T_5_16 T_5_207 T_1_17 T_5_225
theorem fg_X9_32_4 : FdG "NylonLadder$Thick" 32 4 0 false := ⟨_, _, _, _, rfl, by decide, by decide, by decide, gxX1, by decide, T_4_215, Or.inr T_4_216, rfl⟩
theorem hdo_X9_36 : ("NylonLadder$Plain" : String) ≠ "java/lang/invoke/MethodHandle" ∧ ("NylonLadder$Plain" : String) ≠ "java/lang/invoke/VarHandle" ∧ (parseMethodDescriptor "(I)I").map (fun d => d.parameters.length) = some 1 := by decide +kernel
theorem gu_X9_36_4 : GoodIn gT (va_wsU "NylonLadder$Thick" 36 "NylonLadder$Lined" "NylonLadder$Plain" ⟨"NylonLadder$Thick", "holds", "(I)I"⟩ yX4_holds (Cond.code yX4_holds cX4_holds 3 (some .int) :: gT)) := good_U T_5_214 T_5_215 T_5_216 T_5_184 T_1_17 T_5_205
def fX9_tells_k4 (M : Mm) (o : Nat) (p1 : Int32) : Option (Int32 × Mm) :=
  B1 (rdN M o 4 2) fun a1_1 =>
  B1 (fJ6_valueOf_2dffe M 31) fun x6_2 =>
  B1 (gk M a1_1 2) fun _ =>
  B2 (fJx4a65c_add_9ea2d M a1_1 x6_2) fun x9_4 M9_5 =>
  B1 (gk M9_5 o 4) fun _ =>
  B2 (fX4_tells_k4 M9_5 o p1) fun x15_7 M15_8 =>
  B1 (rdI M15_8 o 4 0) fun x20_9 =>
  B1 (gk M15_8 o 4) fun _ =>
  B2 (fX4_holds_k4 M15_8 o x20_9) fun x23_11 M23_12 =>
  some ((x15_7 + x23_11), M23_12)
set_option maxRecDepth 100000 in
set_option maxHeartbeats 4000000 in
theorem qX9_tells_k4 (l : Launch) (E : Ev) {M : Mm} {o : Nat} {p1 : Int32} {rz : Int32} {Mz : Mm} (hf : fX9_tells_k4 M o p1 = some (rz, Mz)) : Ct l E yX9_tells cX9_tells 2 (some .int) 13 275 11 165 [.ref (E.b + o), .int p1] M (some (.int rz)) Mz := by
  refine ct_of (by decide +kernel) (Nat.le_of_ble_eq_true rfl) fun p e s m args below meth c C hr hin hW ls hl => ?_
  have hl : lv_has ls 2 [(0, .ref (E.b + o)), (1, .int p1)] := hl
  unfold fX9_tells_k4 at hf
  refine lv_aload_n C.x C.b dX9_tells_0 rfl (lv_at hl 0 rfl) ?_
  replace hf := x_b1 hf; obtain ⟨a1_1, ha1_1, hf⟩ := hf
  refine x_getn C hW fg_X9_7_4 ha1_1 dX9_tells_1 ?_
  refine lv_bipush (v := 31) C.x C.b dX9_tells_4 (by decide) ?_
  replace hf := x_b1 hf; obtain ⟨x6_2, hx6_2, hf⟩ := hf
  refine x_callS (As := [.int 31]) (rest := [.ref (E.b + a1_1)]) C hW hl (qJ6_valueOf_2dffe l E hx6_2) gs_X9_13 hd_J6_valueOf_2dffe rfl rfl (Nat.le_of_ble_eq_true rfl) dX9_tells_6 ⟨Nat.le_of_ble_eq_true rfl, Nat.le_of_ble_eq_true rfl⟩ ⟨Nat.le_of_ble_eq_true rfl, Nat.le_of_ble_eq_true rfl⟩ (fun H locs hW => ?_)
  replace hf := x_b1 hf; obtain ⟨_, hk9_3, hf⟩ := hf
  replace hf := x_b2 hf; obtain ⟨x9_4, M9_5, hx9_4, hf⟩ := hf
  refine x_callV (As := [.ref (bxA E x6_2)]) (a := a1_1) (rest := []) C hW hl (qJx4a65c_add_9ea2d l E hx9_4) (x_gk hk9_3) (by decide) (by decide) rfl gv_X9_19 ⟨rfl, hd_Jx4a65c_add_9ea2d⟩ rfl rfl (Nat.le_of_ble_eq_true rfl) dX9_tells_9 ⟨Nat.le_of_ble_eq_true rfl, Nat.le_of_ble_eq_true rfl⟩ ⟨Nat.le_of_ble_eq_true rfl, Nat.le_of_ble_eq_true rfl⟩ (fun H locs hW => ?_)
  refine lv_pop C.x C.b dX9_tells_12 rfl ?_
  refine lv_aload_n C.x C.b dX9_tells_13 rfl (lv_at hl 0 rfl) ?_
  refine lv_iload_n C.x C.b dX9_tells_14 rfl (lv_at hl 1 rfl) ?_
  replace hf := x_b1 hf; obtain ⟨_, hk15_6, hf⟩ := hf
  replace hf := x_b2 hf; obtain ⟨x15_7, M15_8, hx15_7, hf⟩ := hf
  refine x_callSU (As := [.int p1]) (a := o) (rest := []) C hW hl (qX4_tells_k4 l E hx15_7) (x_gk hk15_6) (by decide) (by decide) rfl gp_X9_29 hdn_X4_tells rfl rfl (Nat.le_of_ble_eq_true rfl) dX9_tells_15 ⟨Nat.le_of_ble_eq_true rfl, Nat.le_of_ble_eq_true rfl⟩ ⟨Nat.le_of_ble_eq_true rfl, Nat.le_of_ble_eq_true rfl⟩ (fun H locs hW => ?_)
  refine lv_aload_n C.x C.b dX9_tells_18 rfl (lv_at hl 0 rfl) ?_
  refine lv_aload_n C.x C.b dX9_tells_19 rfl (lv_at hl 0 rfl) ?_
  replace hf := x_b1 hf; obtain ⟨x20_9, hx20_9, hf⟩ := hf
  refine x_geti C hW fg_X9_32_4 hx20_9 dX9_tells_20 ?_
  replace hf := x_b1 hf; obtain ⟨_, hk23_10, hf⟩ := hf
  replace hf := x_b2 hf; obtain ⟨x23_11, M23_12, hx23_11, hf⟩ := hf
  refine x_callU (owner := "NylonLadder$Plain") (x := ⟨"NylonLadder$Thick", "holds", "(I)I"⟩) (As := [.int x20_9]) (a := o) (rest := [.int x15_7]) C hW hl (qX4_holds_k4 l E hx23_11) (x_gk hk23_10) (by decide) (by decide) rfl gu_X9_36_4 rfl hdo_X9_36 rfl rfl (Nat.le_of_ble_eq_true rfl) dX9_tells_23 ⟨Nat.le_of_ble_eq_true rfl, Nat.le_of_ble_eq_true rfl⟩ ⟨Nat.le_of_ble_eq_true rfl, Nat.le_of_ble_eq_true rfl⟩ (fun H locs hW => ?_)
  refine lv_iadd C.x C.b dX9_tells_26 ?_
  rw [x_e1 hf, x_e2 hf]
  exact x_iret C hr hW dX9_tells_27

theorem hd_X5_dries : yX5_dries.cls ≠ "java/lang/invoke/MethodHandle" ∧ yX5_dries.cls ≠ "java/lang/invoke/VarHandle" ∧ (parseMethodDescriptor yX5_dries.desc).map (fun d => d.parameters.length) = some 1 := by decide +kernel
theorem gu_X4_40_5 : GoodIn gT (va_wsO "NylonLadder$Plain" 40 "NylonLadder$Mesh" "NylonLadder$Plain" ⟨"NylonLadder$Plain", "dries", "(I)I"⟩ yX5_dries (Cond.code yX5_dries cX5_dries 2 (some .int) :: gT)) := good_O T_5_226 T_5_164 T_5_162 T_5_172 T_5_173 T_1_18 T_5_174
def fX4_tells_k5 (M : Mm) (o : Nat) (p1 : Int32) : Option (Int32 × Mm) :=
  B1 (rdN M o 5 2) fun a1_1 =>
  B1 (fJ6_valueOf_2dffe M 13) fun x6_2 =>
  B1 (gk M a1_1 2) fun _ =>
  B2 (fJx4a65c_add_9ea2d M a1_1 x6_2) fun x9_4 M9_5 =>
  B1 (gk M9_5 o 5) fun _ =>
  B2 (fX5_dries_k5 M9_5 o p1) fun x15_7 M15_8 =>
  B1 (rdI M15_8 o 5 1) fun x19_9 =>
  some ((x15_7 ^^^ x19_9), M15_8)
set_option maxRecDepth 100000 in
set_option maxHeartbeats 4000000 in
theorem qX4_tells_k5 (l : Launch) (E : Ev) {M : Mm} {o : Nat} {p1 : Int32} {rz : Int32} {Mz : Mm} (hf : fX4_tells_k5 M o p1 = some (rz, Mz)) : Ct l E yX4_tells cX4_tells 2 (some .int) 11 233 5 75 [.ref (E.b + o), .int p1] M (some (.int rz)) Mz := by
  refine ct_of (by decide +kernel) (Nat.le_of_ble_eq_true rfl) fun p e s m args below meth c C hr hin hW ls hl => ?_
  have hl : lv_has ls 2 [(0, .ref (E.b + o)), (1, .int p1)] := hl
  unfold fX4_tells_k5 at hf
  refine lv_aload_n C.x C.b dX4_tells_0 rfl (lv_at hl 0 rfl) ?_
  replace hf := x_b1 hf; obtain ⟨a1_1, ha1_1, hf⟩ := hf
  refine x_getn C hW fg_X4_20_5 ha1_1 dX4_tells_1 ?_
  refine lv_bipush (v := 13) C.x C.b dX4_tells_4 (by decide) ?_
  replace hf := x_b1 hf; obtain ⟨x6_2, hx6_2, hf⟩ := hf
  refine x_callS (As := [.int 13]) (rest := [.ref (E.b + a1_1)]) C hW hl (qJ6_valueOf_2dffe l E hx6_2) gs_X4_24 hd_J6_valueOf_2dffe rfl rfl (Nat.le_of_ble_eq_true rfl) dX4_tells_6 ⟨Nat.le_of_ble_eq_true rfl, Nat.le_of_ble_eq_true rfl⟩ ⟨Nat.le_of_ble_eq_true rfl, Nat.le_of_ble_eq_true rfl⟩ (fun H locs hW => ?_)
  replace hf := x_b1 hf; obtain ⟨_, hk9_3, hf⟩ := hf
  replace hf := x_b2 hf; obtain ⟨x9_4, M9_5, hx9_4, hf⟩ := hf
  refine x_callV (As := [.ref (bxA E x6_2)]) (a := a1_1) (rest := []) C hW hl (qJx4a65c_add_9ea2d l E hx9_4) (x_gk hk9_3) (by decide) (by decide) rfl gv_X4_30 ⟨rfl, hd_Jx4a65c_add_9ea2d⟩ rfl rfl (Nat.le_of_ble_eq_true rfl) dX4_tells_9 ⟨Nat.le_of_ble_eq_true rfl, Nat.le_of_ble_eq_true rfl⟩ ⟨Nat.le_of_ble_eq_true rfl, Nat.le_of_ble_eq_true rfl⟩ (fun H locs hW => ?_)
  refine lv_pop C.x C.b dX4_tells_12 rfl ?_
  refine lv_aload_n C.x C.b dX4_tells_13 rfl (lv_at hl 0 rfl) ?_
  refine lv_iload_n C.x C.b dX4_tells_14 rfl (lv_at hl 1 rfl) ?_
  replace hf := x_b1 hf; obtain ⟨_, hk15_6, hf⟩ := hf
  replace hf := x_b2 hf; obtain ⟨x15_7, M15_8, hx15_7, hf⟩ := hf
  refine x_callO (owner := "NylonLadder$Plain") (x := ⟨"NylonLadder$Plain", "dries", "(I)I"⟩) (As := [.int p1]) (a := o) (rest := []) C hW hl (qX5_dries_k5 l E hx15_7) (x_gk hk15_6) (by decide) (by decide) rfl gu_X4_40_5 T_5_181 hdo_X4_40 rfl rfl (Nat.le_of_ble_eq_true rfl) dX4_tells_15 ⟨Nat.le_of_ble_eq_true rfl, Nat.le_of_ble_eq_true rfl⟩ ⟨Nat.le_of_ble_eq_true rfl, Nat.le_of_ble_eq_true rfl⟩ (fun H locs hW => ?_)
  refine lv_aload_n C.x C.b dX4_tells_18 rfl (lv_at hl 0 rfl) ?_
  replace hf := x_b1 hf; obtain ⟨x19_9, hx19_9, hf⟩ := hf
  refine x_geti C hW fg_X4_17_5 hx19_9 dX4_tells_19 ?_
  refine lv_ixor C.x C.b dX4_tells_22 ?_
  rw [x_e1 hf, x_e2 hf]
  exact x_iret C hr hW dX4_tells_23

theorem gu_X4_40_6 : GoodIn gT (va_wsU "NylonLadder$Plain" 40 "NylonLadder$Old" "NylonLadder$Plain" ⟨"NylonLadder$Plain", "dries", "(I)I"⟩ yX4_dries (Cond.code yX4_dries cX4_dries 2 (some .int) :: gT)) := good_U T_5_226 T_5_164 T_5_178 T_5_162 T_1_17 T_5_181
def fX4_tells_k6 (M : Mm) (o : Nat) (p1 : Int32) : Option (Int32 × Mm) :=
  B1 (rdN M o 6 2) fun a1_1 =>
  B1 (fJ6_valueOf_2dffe M 13) fun x6_2 =>
  B1 (gk M a1_1 2) fun _ =>
  B2 (fJx4a65c_add_9ea2d M a1_1 x6_2) fun x9_4 M9_5 =>
  B1 (gk M9_5 o 6) fun _ =>
  B2 (fX4_dries_k6 M9_5 o p1) fun x15_7 M15_8 =>
  B1 (rdI M15_8 o 6 1) fun x19_9 =>
  some ((x15_7 ^^^ x19_9), M15_8)
set_option maxRecDepth 100000 in
set_option maxHeartbeats 4000000 in
theorem qX4_tells_k6 (l : Launch) (E : Ev) {M : Mm} {o : Nat} {p1 : Int32} {rz : Int32} {Mz : Mm} (hf : fX4_tells_k6 M o p1 = some (rz, Mz)) : Ct l E yX4_tells cX4_tells 2 (some .int) 9 191 3 45 [.ref (E.b + o), .int p1] M (some (.int rz)) Mz := by
  refine ct_of (by decide +kernel) (Nat.le_of_ble_eq_true rfl) fun p e s m args below meth c C hr hin hW ls hl => ?_
  have hl : lv_has ls 2 [(0, .ref (E.b + o)), (1, .int p1)] := hl
  unfold fX4_tells_k6 at hf
  refine lv_aload_n C.x C.b dX4_tells_0 rfl (lv_at hl 0 rfl) ?_
  replace hf := x_b1 hf; obtain ⟨a1_1, ha1_1, hf⟩ := hf
  refine x_getn C hW fg_X4_20_6 ha1_1 dX4_tells_1 ?_
  refine lv_bipush (v := 13) C.x C.b dX4_tells_4 (by decide) ?_
  replace hf := x_b1 hf; obtain ⟨x6_2, hx6_2, hf⟩ := hf
  refine x_callS (As := [.int 13]) (rest := [.ref (E.b + a1_1)]) C hW hl (qJ6_valueOf_2dffe l E hx6_2) gs_X4_24 hd_J6_valueOf_2dffe rfl rfl (Nat.le_of_ble_eq_true rfl) dX4_tells_6 ⟨Nat.le_of_ble_eq_true rfl, Nat.le_of_ble_eq_true rfl⟩ ⟨Nat.le_of_ble_eq_true rfl, Nat.le_of_ble_eq_true rfl⟩ (fun H locs hW => ?_)
  replace hf := x_b1 hf; obtain ⟨_, hk9_3, hf⟩ := hf
  replace hf := x_b2 hf; obtain ⟨x9_4, M9_5, hx9_4, hf⟩ := hf
  refine x_callV (As := [.ref (bxA E x6_2)]) (a := a1_1) (rest := []) C hW hl (qJx4a65c_add_9ea2d l E hx9_4) (x_gk hk9_3) (by decide) (by decide) rfl gv_X4_30 ⟨rfl, hd_Jx4a65c_add_9ea2d⟩ rfl rfl (Nat.le_of_ble_eq_true rfl) dX4_tells_9 ⟨Nat.le_of_ble_eq_true rfl, Nat.le_of_ble_eq_true rfl⟩ ⟨Nat.le_of_ble_eq_true rfl, Nat.le_of_ble_eq_true rfl⟩ (fun H locs hW => ?_)
  refine lv_pop C.x C.b dX4_tells_12 rfl ?_
  refine lv_aload_n C.x C.b dX4_tells_13 rfl (lv_at hl 0 rfl) ?_
  refine lv_iload_n C.x C.b dX4_tells_14 rfl (lv_at hl 1 rfl) ?_
  replace hf := x_b1 hf; obtain ⟨_, hk15_6, hf⟩ := hf
  replace hf := x_b2 hf; obtain ⟨x15_7, M15_8, hx15_7, hf⟩ := hf
  refine x_callU (owner := "NylonLadder$Plain") (x := ⟨"NylonLadder$Plain", "dries", "(I)I"⟩) (As := [.int p1]) (a := o) (rest := []) C hW hl (qX4_dries_k6 l E hx15_7) (x_gk hk15_6) (by decide) (by decide) rfl gu_X4_40_6 rfl hdo_X4_40 rfl rfl (Nat.le_of_ble_eq_true rfl) dX4_tells_15 ⟨Nat.le_of_ble_eq_true rfl, Nat.le_of_ble_eq_true rfl⟩ ⟨Nat.le_of_ble_eq_true rfl, Nat.le_of_ble_eq_true rfl⟩ (fun H locs hW => ?_)
  refine lv_aload_n C.x C.b dX4_tells_18 rfl (lv_at hl 0 rfl) ?_
  replace hf := x_b1 hf; obtain ⟨x19_9, hx19_9, hf⟩ := hf
  refine x_geti C hW fg_X4_17_6 hx19_9 dX4_tells_19 ?_
  refine lv_ixor C.x C.b dX4_tells_22 ?_
  rw [x_e1 hf, x_e2 hf]
  exact x_iret C hr hW dX4_tells_23

theorem dX3_tells_0 : decode cX3_tells 0 = .ok (.aload_n 0, 1) := by decide +kernel
theorem dX3_tells_1 : decode cX3_tells 1 = .ok (.getfield 7, 3) := by decide +kernel
theorem dX3_tells_4 : decode cX3_tells 4 = .ok (.bipush 60, 2) := by decide +kernel
theorem dX3_tells_6 : decode cX3_tells 6 = .ok (.invokestatic 13, 3) := by decide +kernel
theorem dX3_tells_9 : decode cX3_tells 9 = .ok (.invokevirtual 19, 3) := by decide +kernel
theorem dX3_tells_12 : decode cX3_tells 12 = .ok (.pop, 1) := by decide +kernel
theorem dX3_tells_13 : decode cX3_tells 13 = .ok (.aload_n 0, 1) := by decide +kernel
theorem dX3_tells_14 : decode cX3_tells 14 = .ok (.iload_n 1, 1) := by decide +kernel
theorem dX3_tells_15 : decode cX3_tells 15 = .ok (.invokespecial 25, 3) := by decide +kernel
theorem dX3_tells_18 : decode cX3_tells 18 = .ok (.iconst 2, 1) := by decide +kernel
theorem dX3_tells_19 : decode cX3_tells 19 = .ok (.imul, 1) := by decide +kernel
theorem dX3_tells_20 : decode cX3_tells 20 = .ok (.ireturn, 1) := by decide +kernel
theorem gp_X3_25 : GoodIn gT (va_wsSU "NylonLadder$Old" 25 yX4_tells (Cond.code yX4_tells cX4_tells 2 (some .int) :: gT)) := good_SU T_5_222 T_5_209 T_5_49 T_5_207 T_1_17 T_5_225
def fX3_tells_k6 (M : Mm) (o : Nat) (p1 : Int32) : Option (Int32 × Mm) :=
  B1 (rdN M o 6 2) fun a1_1 =>
  B1 (fJ6_valueOf_2dffe M 60) fun x6_2 =>
  B1 (gk M a1_1 2) fun _ =>
  B2 (fJx4a65c_add_9ea2d M a1_1 x6_2) fun x9_4 M9_5 =>
  B1 (gk M9_5 o 6) fun _ =>
  B2 (fX4_tells_k6 M9_5 o p1) fun x15_7 M15_8 =>
  some ((x15_7 * 2), M15_8)
set_option maxRecDepth 100000 in
set_option maxHeartbeats 4000000 in
theorem qX3_tells_k6 (l : Launch) (E : Ev) {M : Mm} {o : Nat} {p1 : Int32} {rz : Int32} {Mz : Mm} (hf : fX3_tells_k6 M o p1 = some (rz, Mz)) : Ct l E yX3_tells cX3_tells 2 (some .int) 10 212 4 60 [.ref (E.b + o), .int p1] M (some (.int rz)) Mz := by
  refine ct_of (by decide +kernel) (Nat.le_of_ble_eq_true rfl) fun p e s m args below meth c C hr hin hW ls hl => ?_
  have hl : lv_has ls 2 [(0, .ref (E.b + o)), (1, .int p1)] := hl
  unfold fX3_tells_k6 at hf
  refine lv_aload_n C.x C.b dX3_tells_0 rfl (lv_at hl 0 rfl) ?_
  replace hf := x_b1 hf; obtain ⟨a1_1, ha1_1, hf⟩ := hf
  refine x_getn C hW fg_X3_7_6 ha1_1 dX3_tells_1 ?_
  refine lv_bipush (v := 60) C.x C.b dX3_tells_4 (by decide) ?_
  replace hf := x_b1 hf; obtain ⟨x6_2, hx6_2, hf⟩ := hf
  refine x_callS (As := [.int 60]) (rest := [.ref (E.b + a1_1)]) C hW hl (qJ6_valueOf_2dffe l E hx6_2) gs_X3_13 hd_J6_valueOf_2dffe rfl rfl (Nat.le_of_ble_eq_true rfl) dX3_tells_6 ⟨Nat.le_of_ble_eq_true rfl, Nat.le_of_ble_eq_true rfl⟩ ⟨Nat.le_of_ble_eq_true rfl, Nat.le_of_ble_eq_true rfl⟩ (fun H locs hW => ?_)
  replace hf := x_b1 hf; obtain ⟨_, hk9_3, hf⟩ := hf
  replace hf := x_b2 hf; obtain ⟨x9_4, M9_5, hx9_4, hf⟩ := hf
  refine x_callV (As := [.ref (bxA E x6_2)]) (a := a1_1) (rest := []) C hW hl (qJx4a65c_add_9ea2d l E hx9_4) (x_gk hk9_3) (by decide) (by decide) rfl gv_X3_19 ⟨rfl, hd_Jx4a65c_add_9ea2d⟩ rfl rfl (Nat.le_of_ble_eq_true rfl) dX3_tells_9 ⟨Nat.le_of_ble_eq_true rfl, Nat.le_of_ble_eq_true rfl⟩ ⟨Nat.le_of_ble_eq_true rfl, Nat.le_of_ble_eq_true rfl⟩ (fun H locs hW => ?_)
  refine lv_pop C.x C.b dX3_tells_12 rfl ?_
  refine lv_aload_n C.x C.b dX3_tells_13 rfl (lv_at hl 0 rfl) ?_
  refine lv_iload_n C.x C.b dX3_tells_14 rfl (lv_at hl 1 rfl) ?_
  replace hf := x_b1 hf; obtain ⟨_, hk15_6, hf⟩ := hf
  replace hf := x_b2 hf; obtain ⟨x15_7, M15_8, hx15_7, hf⟩ := hf
  refine x_callSU (As := [.int p1]) (a := o) (rest := []) C hW hl (qX4_tells_k6 l E hx15_7) (x_gk hk15_6) (by decide) (by decide) rfl gp_X3_25 hdn_X4_tells rfl rfl (Nat.le_of_ble_eq_true rfl) dX3_tells_15 ⟨Nat.le_of_ble_eq_true rfl, Nat.le_of_ble_eq_true rfl⟩ ⟨Nat.le_of_ble_eq_true rfl, Nat.le_of_ble_eq_true rfl⟩ (fun H locs hW => ?_)
  refine lv_iconst (v := 2) C.x C.b dX3_tells_18 (by decide) ?_
  refine lv_imul C.x C.b dX3_tells_19 ?_
  rw [x_e1 hf, x_e2 hf]
  exact x_iret C hr hW dX3_tells_20

theorem gu_X4_40_12 : GoodIn gT (va_wsU "NylonLadder$Plain" 40 "NylonLadder$Thick" "NylonLadder$Plain" ⟨"NylonLadder$Plain", "dries", "(I)I"⟩ yX4_dries (Cond.code yX4_dries cX4_dries 2 (some .int) :: gT)) := good_U T_5_226 T_5_164 T_5_180 T_5_162 T_1_17 T_5_181
def fX4_tells_k12 (M : Mm) (o : Nat) (p1 : Int32) : Option (Int32 × Mm) :=
  B1 (rdN M o 12 2) fun a1_1 =>
  B1 (fJ6_valueOf_2dffe M 13) fun x6_2 =>
  B1 (gk M a1_1 2) fun _ =>
  B2 (fJx4a65c_add_9ea2d M a1_1 x6_2) fun x9_4 M9_5 =>
  B1 (gk M9_5 o 12) fun _ =>
  B2 (fX4_dries_k12 M9_5 o p1) fun x15_7 M15_8 =>
  B1 (rdI M15_8 o 12 1) fun x19_9 =>
  some ((x15_7 ^^^ x19_9), M15_8)
set_option maxRecDepth 100000 in
set_option maxHeartbeats 4000000 in
theorem qX4_tells_k12 (l : Launch) (E : Ev) {M : Mm} {o : Nat} {p1 : Int32} {rz : Int32} {Mz : Mm} (hf : fX4_tells_k12 M o p1 = some (rz, Mz)) : Ct l E yX4_tells cX4_tells 2 (some .int) 10 212 4 60 [.ref (E.b + o), .int p1] M (some (.int rz)) Mz := by
  refine ct_of (by decide +kernel) (Nat.le_of_ble_eq_true rfl) fun p e s m args below meth c C hr hin hW ls hl => ?_
  have hl : lv_has ls 2 [(0, .ref (E.b + o)), (1, .int p1)] := hl
  unfold fX4_tells_k12 at hf
  refine lv_aload_n C.x C.b dX4_tells_0 rfl (lv_at hl 0 rfl) ?_
  replace hf := x_b1 hf; obtain ⟨a1_1, ha1_1, hf⟩ := hf
  refine x_getn C hW fg_X4_20_12 ha1_1 dX4_tells_1 ?_
  refine lv_bipush (v := 13) C.x C.b dX4_tells_4 (by decide) ?_
  replace hf := x_b1 hf; obtain ⟨x6_2, hx6_2, hf⟩ := hf
  refine x_callS (As := [.int 13]) (rest := [.ref (E.b + a1_1)]) C hW hl (qJ6_valueOf_2dffe l E hx6_2) gs_X4_24 hd_J6_valueOf_2dffe rfl rfl (Nat.le_of_ble_eq_true rfl) dX4_tells_6 ⟨Nat.le_of_ble_eq_true rfl, Nat.le_of_ble_eq_true rfl⟩ ⟨Nat.le_of_ble_eq_true rfl, Nat.le_of_ble_eq_true rfl⟩ (fun H locs hW => ?_)
  replace hf := x_b1 hf; obtain ⟨_, hk9_3, hf⟩ := hf
  replace hf := x_b2 hf; obtain ⟨x9_4, M9_5, hx9_4, hf⟩ := hf
  refine x_callV (As := [.ref (bxA E x6_2)]) (a := a1_1) (rest := []) C hW hl (qJx4a65c_add_9ea2d l E hx9_4) (x_gk hk9_3) (by decide) (by decide) rfl gv_X4_30 ⟨rfl, hd_Jx4a65c_add_9ea2d⟩ rfl rfl (Nat.le_of_ble_eq_true rfl) dX4_tells_9 ⟨Nat.le_of_ble_eq_true rfl, Nat.le_of_ble_eq_true rfl⟩ ⟨Nat.le_of_ble_eq_true rfl, Nat.le_of_ble_eq_true rfl⟩ (fun H locs hW => ?_)
  refine lv_pop C.x C.b dX4_tells_12 rfl ?_
  refine lv_aload_n C.x C.b dX4_tells_13 rfl (lv_at hl 0 rfl) ?_
  refine lv_iload_n C.x C.b dX4_tells_14 rfl (lv_at hl 1 rfl) ?_
  replace hf := x_b1 hf; obtain ⟨_, hk15_6, hf⟩ := hf
  replace hf := x_b2 hf; obtain ⟨x15_7, M15_8, hx15_7, hf⟩ := hf
  refine x_callU (owner := "NylonLadder$Plain") (x := ⟨"NylonLadder$Plain", "dries", "(I)I"⟩) (As := [.int p1]) (a := o) (rest := []) C hW hl (qX4_dries_k12 l E hx15_7) (x_gk hk15_6) (by decide) (by decide) rfl gu_X4_40_12 rfl hdo_X4_40 rfl rfl (Nat.le_of_ble_eq_true rfl) dX4_tells_15 ⟨Nat.le_of_ble_eq_true rfl, Nat.le_of_ble_eq_true rfl⟩ ⟨Nat.le_of_ble_eq_true rfl, Nat.le_of_ble_eq_true rfl⟩ (fun H locs hW => ?_)
  refine lv_aload_n C.x C.b dX4_tells_18 rfl (lv_at hl 0 rfl) ?_
  replace hf := x_b1 hf; obtain ⟨x19_9, hx19_9, hf⟩ := hf
  refine x_geti C hW fg_X4_17_12 hx19_9 dX4_tells_19 ?_
  refine lv_ixor C.x C.b dX4_tells_22 ?_
  rw [x_e1 hf, x_e2 hf]
  exact x_iret C hr hW dX4_tells_23

theorem fg_X9_32_12 : FdG "NylonLadder$Thick" 32 12 0 false := ⟨_, _, _, _, rfl, by decide, by decide, by decide, gxX9, by decide, T_4_215, Or.inr T_4_216, rfl⟩
theorem gu_X9_36_12 : GoodIn gT (va_wsU "NylonLadder$Thick" 36 "NylonLadder$Thick" "NylonLadder$Plain" ⟨"NylonLadder$Thick", "holds", "(I)I"⟩ yX4_holds (Cond.code yX4_holds cX4_holds 3 (some .int) :: gT)) := good_U T_5_214 T_5_215 T_5_217 T_5_184 T_1_17 T_5_205
def fX9_tells_k12 (M : Mm) (o : Nat) (p1 : Int32) : Option (Int32 × Mm) :=
  B1 (rdN M o 12 2) fun a1_1 =>
  B1 (fJ6_valueOf_2dffe M 31) fun x6_2 =>
  B1 (gk M a1_1 2) fun _ =>
  B2 (fJx4a65c_add_9ea2d M a1_1 x6_2) fun x9_4 M9_5 =>
  B1 (gk M9_5 o 12) fun _ =>
  B2 (fX4_tells_k12 M9_5 o p1) fun x15_7 M15_8 =>
  B1 (rdI M15_8 o 12 0) fun x20_9 =>
  B1 (gk M15_8 o 12) fun _ =>
  B2 (fX4_holds_k12 M15_8 o x20_9) fun x23_11 M23_12 =>
  some ((x15_7 + x23_11), M23_12)
set_option maxRecDepth 100000 in
set_option maxHeartbeats 4000000 in
theorem qX9_tells_k12 (l : Launch) (E : Ev) {M : Mm} {o : Nat} {p1 : Int32} {rz : Int32} {Mz : Mm} (hf : fX9_tells_k12 M o p1 = some (rz, Mz)) : Ct l E yX9_tells cX9_tells 2 (some .int) 11 233 6 90 [.ref (E.b + o), .int p1] M (some (.int rz)) Mz := by
  refine ct_of (by decide +kernel) (Nat.le_of_ble_eq_true rfl) fun p e s m args below meth c C hr hin hW ls hl => ?_
  have hl : lv_has ls 2 [(0, .ref (E.b + o)), (1, .int p1)] := hl
  unfold fX9_tells_k12 at hf
  refine lv_aload_n C.x C.b dX9_tells_0 rfl (lv_at hl 0 rfl) ?_
  replace hf := x_b1 hf; obtain ⟨a1_1, ha1_1, hf⟩ := hf
  refine x_getn C hW fg_X9_7_12 ha1_1 dX9_tells_1 ?_
  refine lv_bipush (v := 31) C.x C.b dX9_tells_4 (by decide) ?_
  replace hf := x_b1 hf; obtain ⟨x6_2, hx6_2, hf⟩ := hf
  refine x_callS (As := [.int 31]) (rest := [.ref (E.b + a1_1)]) C hW hl (qJ6_valueOf_2dffe l E hx6_2) gs_X9_13 hd_J6_valueOf_2dffe rfl rfl (Nat.le_of_ble_eq_true rfl) dX9_tells_6 ⟨Nat.le_of_ble_eq_true rfl, Nat.le_of_ble_eq_true rfl⟩ ⟨Nat.le_of_ble_eq_true rfl, Nat.le_of_ble_eq_true rfl⟩ (fun H locs hW => ?_)
  replace hf := x_b1 hf; obtain ⟨_, hk9_3, hf⟩ := hf
  replace hf := x_b2 hf; obtain ⟨x9_4, M9_5, hx9_4, hf⟩ := hf
  refine x_callV (As := [.ref (bxA E x6_2)]) (a := a1_1) (rest := []) C hW hl (qJx4a65c_add_9ea2d l E hx9_4) (x_gk hk9_3) (by decide) (by decide) rfl gv_X9_19 ⟨rfl, hd_Jx4a65c_add_9ea2d⟩ rfl rfl (Nat.le_of_ble_eq_true rfl) dX9_tells_9 ⟨Nat.le_of_ble_eq_true rfl, Nat.le_of_ble_eq_true rfl⟩ ⟨Nat.le_of_ble_eq_true rfl, Nat.le_of_ble_eq_true rfl⟩ (fun H locs hW => ?_)
  refine lv_pop C.x C.b dX9_tells_12 rfl ?_
  refine lv_aload_n C.x C.b dX9_tells_13 rfl (lv_at hl 0 rfl) ?_
  refine lv_iload_n C.x C.b dX9_tells_14 rfl (lv_at hl 1 rfl) ?_
  replace hf := x_b1 hf; obtain ⟨_, hk15_6, hf⟩ := hf
  replace hf := x_b2 hf; obtain ⟨x15_7, M15_8, hx15_7, hf⟩ := hf
  refine x_callSU (As := [.int p1]) (a := o) (rest := []) C hW hl (qX4_tells_k12 l E hx15_7) (x_gk hk15_6) (by decide) (by decide) rfl gp_X9_29 hdn_X4_tells rfl rfl (Nat.le_of_ble_eq_true rfl) dX9_tells_15 ⟨Nat.le_of_ble_eq_true rfl, Nat.le_of_ble_eq_true rfl⟩ ⟨Nat.le_of_ble_eq_true rfl, Nat.le_of_ble_eq_true rfl⟩ (fun H locs hW => ?_)
  refine lv_aload_n C.x C.b dX9_tells_18 rfl (lv_at hl 0 rfl) ?_
  refine lv_aload_n C.x C.b dX9_tells_19 rfl (lv_at hl 0 rfl) ?_
  replace hf := x_b1 hf; obtain ⟨x20_9, hx20_9, hf⟩ := hf
  refine x_geti C hW fg_X9_32_12 hx20_9 dX9_tells_20 ?_
  replace hf := x_b1 hf; obtain ⟨_, hk23_10, hf⟩ := hf
  replace hf := x_b2 hf; obtain ⟨x23_11, M23_12, hx23_11, hf⟩ := hf
  refine x_callU (owner := "NylonLadder$Plain") (x := ⟨"NylonLadder$Thick", "holds", "(I)I"⟩) (As := [.int x20_9]) (a := o) (rest := [.int x15_7]) C hW hl (qX4_holds_k12 l E hx23_11) (x_gk hk23_10) (by decide) (by decide) rfl gu_X9_36_12 rfl hdo_X9_36 rfl rfl (Nat.le_of_ble_eq_true rfl) dX9_tells_23 ⟨Nat.le_of_ble_eq_true rfl, Nat.le_of_ble_eq_true rfl⟩ ⟨Nat.le_of_ble_eq_true rfl, Nat.le_of_ble_eq_true rfl⟩ (fun H locs hW => ?_)
  refine lv_iadd C.x C.b dX9_tells_26 ?_
  rw [x_e1 hf, x_e2 hf]
  exact x_iret C hr hW dX9_tells_27

theorem gu_X4_40_8 : GoodIn gT (va_wsO "NylonLadder$Plain" 40 "NylonLadder$Sheer" "NylonLadder$Plain" ⟨"NylonLadder$Plain", "dries", "(I)I"⟩ yX5_dries (Cond.code yX5_dries cX5_dries 2 (some .int) :: gT)) := good_O T_5_226 T_5_164 T_5_162 T_5_179 T_5_173 T_1_18 T_5_174
def fX4_tells_k8 (M : Mm) (o : Nat) (p1 : Int32) : Option (Int32 × Mm) :=
  B1 (rdN M o 8 2) fun a1_1 =>
  B1 (fJ6_valueOf_2dffe M 13) fun x6_2 =>
  B1 (gk M a1_1 2) fun _ =>
  B2 (fJx4a65c_add_9ea2d M a1_1 x6_2) fun x9_4 M9_5 =>
  B1 (gk M9_5 o 8) fun _ =>
  B2 (fX5_dries_k8 M9_5 o p1) fun x15_7 M15_8 =>
  B1 (rdI M15_8 o 8 1) fun x19_9 =>
  some ((x15_7 ^^^ x19_9), M15_8)
set_option maxRecDepth 100000 in
set_option maxHeartbeats 4000000 in
theorem qX4_tells_k8 (l : Launch) (E : Ev) {M : Mm} {o : Nat} {p1 : Int32} {rz : Int32} {Mz : Mm} (hf : fX4_tells_k8 M o p1 = some (rz, Mz)) : Ct l E yX4_tells cX4_tells 2 (some .int) 10 212 4 60 [.ref (E.b + o), .int p1] M (some (.int rz)) Mz := by
  refine ct_of (by decide +kernel) (Nat.le_of_ble_eq_true rfl) fun p e s m args below meth c C hr hin hW ls hl => ?_
  have hl : lv_has ls 2 [(0, .ref (E.b + o)), (1, .int p1)] := hl
  unfold fX4_tells_k8 at hf
  refine lv_aload_n C.x C.b dX4_tells_0 rfl (lv_at hl 0 rfl) ?_
  replace hf := x_b1 hf; obtain ⟨a1_1, ha1_1, hf⟩ := hf
  refine x_getn C hW fg_X4_20_8 ha1_1 dX4_tells_1 ?_
  refine lv_bipush (v := 13) C.x C.b dX4_tells_4 (by decide) ?_
  replace hf := x_b1 hf; obtain ⟨x6_2, hx6_2, hf⟩ := hf
  refine x_callS (As := [.int 13]) (rest := [.ref (E.b + a1_1)]) C hW hl (qJ6_valueOf_2dffe l E hx6_2) gs_X4_24 hd_J6_valueOf_2dffe rfl rfl (Nat.le_of_ble_eq_true rfl) dX4_tells_6 ⟨Nat.le_of_ble_eq_true rfl, Nat.le_of_ble_eq_true rfl⟩ ⟨Nat.le_of_ble_eq_true rfl, Nat.le_of_ble_eq_true rfl⟩ (fun H locs hW => ?_)
  replace hf := x_b1 hf; obtain ⟨_, hk9_3, hf⟩ := hf
  replace hf := x_b2 hf; obtain ⟨x9_4, M9_5, hx9_4, hf⟩ := hf
  refine x_callV (As := [.ref (bxA E x6_2)]) (a := a1_1) (rest := []) C hW hl (qJx4a65c_add_9ea2d l E hx9_4) (x_gk hk9_3) (by decide) (by decide) rfl gv_X4_30 ⟨rfl, hd_Jx4a65c_add_9ea2d⟩ rfl rfl (Nat.le_of_ble_eq_true rfl) dX4_tells_9 ⟨Nat.le_of_ble_eq_true rfl, Nat.le_of_ble_eq_true rfl⟩ ⟨Nat.le_of_ble_eq_true rfl, Nat.le_of_ble_eq_true rfl⟩ (fun H locs hW => ?_)
  refine lv_pop C.x C.b dX4_tells_12 rfl ?_
  refine lv_aload_n C.x C.b dX4_tells_13 rfl (lv_at hl 0 rfl) ?_
  refine lv_iload_n C.x C.b dX4_tells_14 rfl (lv_at hl 1 rfl) ?_
  replace hf := x_b1 hf; obtain ⟨_, hk15_6, hf⟩ := hf
  replace hf := x_b2 hf; obtain ⟨x15_7, M15_8, hx15_7, hf⟩ := hf
  refine x_callO (owner := "NylonLadder$Plain") (x := ⟨"NylonLadder$Plain", "dries", "(I)I"⟩) (As := [.int p1]) (a := o) (rest := []) C hW hl (qX5_dries_k8 l E hx15_7) (x_gk hk15_6) (by decide) (by decide) rfl gu_X4_40_8 T_5_181 hdo_X4_40 rfl rfl (Nat.le_of_ble_eq_true rfl) dX4_tells_15 ⟨Nat.le_of_ble_eq_true rfl, Nat.le_of_ble_eq_true rfl⟩ ⟨Nat.le_of_ble_eq_true rfl, Nat.le_of_ble_eq_true rfl⟩ (fun H locs hW => ?_)
  refine lv_aload_n C.x C.b dX4_tells_18 rfl (lv_at hl 0 rfl) ?_
  replace hf := x_b1 hf; obtain ⟨x19_9, hx19_9, hf⟩ := hf
  refine x_geti C hW fg_X4_17_8 hx19_9 dX4_tells_19 ?_
  refine lv_ixor C.x C.b dX4_tells_22 ?_
  rw [x_e1 hf, x_e2 hf]
  exact x_iret C hr hW dX4_tells_23

theorem gu_X4_40_7 : GoodIn gT (wsV "NylonLadder$Plain" 40 "NylonLadder$Plain" yX4_dries (Cond.code yX4_dries cX4_dries 2 (some .int) :: gT)) := good_V T_5_226 T_5_162 T_5_163 T_1_17 T_5_181
def fX4_tells_k7 (M : Mm) (o : Nat) (p1 : Int32) : Option (Int32 × Mm) :=
  B1 (rdN M o 7 2) fun a1_1 =>
  B1 (fJ6_valueOf_2dffe M 13) fun x6_2 =>
  B1 (gk M a1_1 2) fun _ =>
  B2 (fJx4a65c_add_9ea2d M a1_1 x6_2) fun x9_4 M9_5 =>
  B1 (gk M9_5 o 7) fun _ =>
  B2 (fX4_dries_k7 M9_5 o p1) fun x15_7 M15_8 =>
  B1 (rdI M15_8 o 7 1) fun x19_9 =>
  some ((x15_7 ^^^ x19_9), M15_8)
set_option maxRecDepth 100000 in
set_option maxHeartbeats 4000000 in
theorem qX4_tells_k7 (l : Launch) (E : Ev) {M : Mm} {o : Nat} {p1 : Int32} {rz : Int32} {Mz : Mm} (hf : fX4_tells_k7 M o p1 = some (rz, Mz)) : Ct l E yX4_tells cX4_tells 2 (some .int) 9 191 3 45 [.ref (E.b + o), .int p1] M (some (.int rz)) Mz := by
  refine ct_of (by decide +kernel) (Nat.le_of_ble_eq_true rfl) fun p e s m args below meth c C hr hin hW ls hl => ?_
  have hl : lv_has ls 2 [(0, .ref (E.b + o)), (1, .int p1)] := hl
  unfold fX4_tells_k7 at hf
  refine lv_aload_n C.x C.b dX4_tells_0 rfl (lv_at hl 0 rfl) ?_
  replace hf := x_b1 hf; obtain ⟨a1_1, ha1_1, hf⟩ := hf
  refine x_getn C hW fg_X4_20_7 ha1_1 dX4_tells_1 ?_
  refine lv_bipush (v := 13) C.x C.b dX4_tells_4 (by decide) ?_
  replace hf := x_b1 hf; obtain ⟨x6_2, hx6_2, hf⟩ := hf
  refine x_callS (As := [.int 13]) (rest := [.ref (E.b + a1_1)]) C hW hl (qJ6_valueOf_2dffe l E hx6_2) gs_X4_24 hd_J6_valueOf_2dffe rfl rfl (Nat.le_of_ble_eq_true rfl) dX4_tells_6 ⟨Nat.le_of_ble_eq_true rfl, Nat.le_of_ble_eq_true rfl⟩ ⟨Nat.le_of_ble_eq_true rfl, Nat.le_of_ble_eq_true rfl⟩ (fun H locs hW => ?_)
  replace hf := x_b1 hf; obtain ⟨_, hk9_3, hf⟩ := hf
  replace hf := x_b2 hf; obtain ⟨x9_4, M9_5, hx9_4, hf⟩ := hf
  refine x_callV (As := [.ref (bxA E x6_2)]) (a := a1_1) (rest := []) C hW hl (qJx4a65c_add_9ea2d l E hx9_4) (x_gk hk9_3) (by decide) (by decide) rfl gv_X4_30 ⟨rfl, hd_Jx4a65c_add_9ea2d⟩ rfl rfl (Nat.le_of_ble_eq_true rfl) dX4_tells_9 ⟨Nat.le_of_ble_eq_true rfl, Nat.le_of_ble_eq_true rfl⟩ ⟨Nat.le_of_ble_eq_true rfl, Nat.le_of_ble_eq_true rfl⟩ (fun H locs hW => ?_)
  refine lv_pop C.x C.b dX4_tells_12 rfl ?_
  refine lv_aload_n C.x C.b dX4_tells_13 rfl (lv_at hl 0 rfl) ?_
  refine lv_iload_n C.x C.b dX4_tells_14 rfl (lv_at hl 1 rfl) ?_
  replace hf := x_b1 hf; obtain ⟨_, hk15_6, hf⟩ := hf
  replace hf := x_b2 hf; obtain ⟨x15_7, M15_8, hx15_7, hf⟩ := hf
  refine x_callV (As := [.int p1]) (a := o) (rest := []) C hW hl (qX4_dries_k7 l E hx15_7) (x_gk hk15_6) (by decide) (by decide) rfl gu_X4_40_7 ⟨rfl, hd_X4_dries⟩ rfl rfl (Nat.le_of_ble_eq_true rfl) dX4_tells_15 ⟨Nat.le_of_ble_eq_true rfl, Nat.le_of_ble_eq_true rfl⟩ ⟨Nat.le_of_ble_eq_true rfl, Nat.le_of_ble_eq_true rfl⟩ (fun H locs hW => ?_)
  refine lv_aload_n C.x C.b dX4_tells_18 rfl (lv_at hl 0 rfl) ?_
  replace hf := x_b1 hf; obtain ⟨x19_9, hx19_9, hf⟩ := hf
  refine x_geti C hW fg_X4_17_7 hx19_9 dX4_tells_19 ?_
  refine lv_ixor C.x C.b dX4_tells_22 ?_
  rw [x_e1 hf, x_e2 hf]
  exact x_iret C hr hW dX4_tells_23
