theorem dX8_takeLeg_0 : decode cX8_takeLeg 0 = .ok (.aload_n 0, 1) := by decide +kernel
theorem dX8_takeLeg_1 : decode cX8_takeLeg 1 = .ok (.invokevirtual 141, 3) := by decide +kernel
theorem dX8_takeLeg_4 : decode cX8_takeLeg 4 = .ok (.istore_n 2, 1) := by decide +kernel
theorem dX8_takeLeg_5 : decode cX8_takeLeg 5 = .ok (.aload_n 0, 1) := by decide +kernel
theorem dX8_takeLeg_6 : decode cX8_takeLeg 6 = .ok (.iload_n 2, 1) := by decide +kernel
theorem dX8_takeLeg_7 : decode cX8_takeLeg 7 = .ok (.ifCond .lt 16, 3) := by decide +kernel
theorem dX8_takeLeg_10 : decode cX8_takeLeg 10 = .ok (.aload_n 1, 1) := by decide +kernel
theorem dX8_takeLeg_11 : decode cX8_takeLeg 11 = .ok (.getfield 135, 3) := by decide +kernel
theorem dX8_takeLeg_14 : decode cX8_takeLeg 14 = .ok (.bipush 10, 2) := by decide +kernel
theorem dX8_takeLeg_16 : decode cX8_takeLeg 16 = .ok (.if_icmp .ge 7, 3) := by decide +kernel
theorem dX8_takeLeg_19 : decode cX8_takeLeg 19 = .ok (.iconst 1, 1) := by decide +kernel
theorem dX8_takeLeg_20 : decode cX8_takeLeg 20 = .ok (.goto 4, 3) := by decide +kernel
theorem dX8_takeLeg_23 : decode cX8_takeLeg 23 = .ok (.iconst 0, 1) := by decide +kernel
theorem dX8_takeLeg_24 : decode cX8_takeLeg 24 = .ok (.invokevirtual 99, 3) := by decide +kernel
theorem dX8_takeLeg_27 : decode cX8_takeLeg 27 = .ok (.aload_n 0, 1) := by decide +kernel
theorem dX8_takeLeg_28 : decode cX8_takeLeg 28 = .ok (.iconst 1, 1) := by decide +kernel
theorem dX8_takeLeg_29 : decode cX8_takeLeg 29 = .ok (.bipush 60, 2) := by decide +kernel
theorem dX8_takeLeg_31 : decode cX8_takeLeg 31 = .ok (.invokevirtual 128, 3) := by decide +kernel
theorem dX8_takeLeg_34 : decode cX8_takeLeg 34 = .ok (.istore_n 3, 1) := by decide +kernel
theorem dX8_takeLeg_35 : decode cX8_takeLeg 35 = .ok (.aload_n 0, 1) := by decide +kernel
theorem dX8_takeLeg_36 : decode cX8_takeLeg 36 = .ok (.getfield 41, 3) := by decide +kernel
theorem dX8_takeLeg_39 : decode cX8_takeLeg 39 = .ok (.ifCond .ge 10, 3) := by decide +kernel
theorem dX8_takeLeg_42 : decode cX8_takeLeg 42 = .ok (.aload_n 1, 1) := by decide +kernel
theorem dX8_takeLeg_43 : decode cX8_takeLeg 43 = .ok (.iload_n 2, 1) := by decide +kernel
theorem dX8_takeLeg_44 : decode cX8_takeLeg 44 = .ok (.iload_n 3, 1) := by decide +kernel
theorem dX8_takeLeg_45 : decode cX8_takeLeg 45 = .ok (.invokevirtual 144, 3) := by decide +kernel
theorem dX8_takeLeg_48 : decode cX8_takeLeg 48 = .ok (.pop, 1) := by decide +kernel
theorem dX8_takeLeg_49 : decode cX8_takeLeg 49 = .ok (.return_, 1) := by decide +kernel
theorem hd_X8_moveHere : yX8_moveHere.cls ≠ "java/lang/invoke/MethodHandle" ∧ yX8_moveHere.cls ≠ "java/lang/invoke/VarHandle" ∧ (parseMethodDescriptor yX8_moveHere.desc).map (fun d => d.parameters.length) = some 0 := by decide +kernel
theorem gv_X8_141 : GoodIn gT (wsV "NylonLadder$Tape" 141 "NylonLadder$Tape" yX8_moveHere (Cond.code yX8_moveHere cX8_moveHere 2 (some .int) :: gT)) := good_V T_2_176 T_2_178 TS_12 T_1_6 T_2_179
theorem hd_X10_addLeg : yX10_addLeg.cls ≠ "java/lang/invoke/MethodHandle" ∧ yX10_addLeg.cls ≠ "java/lang/invoke/VarHandle" ∧ (parseMethodDescriptor yX10_addLeg.desc).map (fun d => d.parameters.length) = some 2 := by decide +kernel
theorem gv_X8_144 : GoodIn gT (wsV "NylonLadder$Tape" 144 "NylonLadder$Way" yX10_addLeg (Cond.code yX10_addLeg cX10_addLeg 3 (some .boolean) :: gT)) := good_V T_2_187 T_2_188 T_2_189 T_1_3 T_2_190
theorem fg_X8_135_13 : FdG "NylonLadder$Tape" 135 13 0 false := ⟨_, _, _, _, rfl, by decide, by decide, by decide, gxX10, by decide, T_1_54, Or.inl rfl, rfl⟩
def fX8_takeLeg (M : Mm) (o : Nat) (p1 : Nat) : Option Mm :=
  B1 (gk M o 11) fun _ =>
  B1 (fX8_moveHere M o) fun x1_2 =>
  if x1_2 < 0 then
    B1 (gk M o 11) fun _ =>
    B1 (fX8_take M o 0) fun M24_4 =>
    B1 (gk M24_4 o 11) fun _ =>
    B2 (fX8_takeNumber M24_4 o 1 60) fun x31_6 M31_7 =>
    B1 (rdI M31_7 o 11 8) fun x36_8 =>
    if 0 ≤ x36_8 then
      some M31_7
    else
      B1 (gk M31_7 p1 13) fun _ =>
      B2 (fX10_addLeg M31_7 p1 x1_2 x31_6) fun x45_10 M45_11 =>
      some M45_11
  else
    B1 (rdI M p1 13 0) fun x11_12 =>
    if 10 ≤ x11_12 then
      B1 (gk M o 11) fun _ =>
      B1 (fX8_take M o 0) fun M24_14 =>
      B1 (gk M24_14 o 11) fun _ =>
      B2 (fX8_takeNumber M24_14 o 1 60) fun x31_16 M31_17 =>
      B1 (rdI M31_17 o 11 8) fun x36_18 =>
      if 0 ≤ x36_18 then
        some M31_17
      else
        B1 (gk M31_17 p1 13) fun _ =>
        B2 (fX10_addLeg M31_17 p1 x1_2 x31_16) fun x45_20 M45_21 =>
        some M45_21
    else
      B1 (gk M o 11) fun _ =>
      B1 (fX8_take M o 1) fun M24_23 =>
      B1 (gk M24_23 o 11) fun _ =>
      B2 (fX8_takeNumber M24_23 o 1 60) fun x31_25 M31_26 =>
      B1 (rdI M31_26 o 11 8) fun x36_27 =>
      if 0 ≤ x36_27 then
        some M31_26
      else
        B1 (gk M31_26 p1 13) fun _ =>
        B2 (fX10_addLeg M31_26 p1 x1_2 x31_25) fun x45_29 M45_30 =>
        some M45_30
set_option maxRecDepth 100000 in
set_option maxHeartbeats 4000000 in
theorem qX8_takeLeg (l : Launch) (E : Ev) {M : Mm} {o : Nat} {p1 : Nat} {Mz : Mm} (hf : fX8_takeLeg M o p1 = some Mz) : Ct l E yX8_takeLeg cX8_takeLeg 4 none 6 129 0 0 [.ref (E.b + o), .ref (E.b + p1)] M none Mz := by
  refine ct_of (by decide +kernel) (Nat.le_of_ble_eq_true rfl) fun p e s m args below meth c C hr hin hW ls hl => ?_
  have hl : lv_has ls 4 [(0, .ref (E.b + o)), (1, .ref (E.b + p1))] := hl
  unfold fX8_takeLeg at hf
  refine lv_aload_n C.x C.b dX8_takeLeg_0 rfl (lv_at hl 0 rfl) ?_
  replace hf := x_b1 hf; obtain ⟨_, hk1_1, hf⟩ := hf
  replace hf := x_b1 hf; obtain ⟨x1_2, hx1_2, hf⟩ := hf
  refine x_callV (As := []) (a := o) (rest := []) C hW hl (qX8_moveHere l E hx1_2) (x_gk hk1_1) (by decide) (by decide) rfl gv_X8_141 ⟨rfl, hd_X8_moveHere⟩ rfl rfl (Nat.le_of_ble_eq_true rfl) dX8_takeLeg_1 ⟨Nat.le_of_ble_eq_true rfl, Nat.le_of_ble_eq_true rfl⟩ ⟨Nat.le_of_ble_eq_true rfl, Nat.le_of_ble_eq_true rfl⟩ (fun H locs hW => ?_)
  refine lv_istore_n (lv' := [(2, .int _), (0, .ref (E.b + _)), (1, .ref (E.b + _))]) C.x C.b dX8_takeLeg_4 rfl hl (by decide) rfl (fun ls hl => ?_)
  refine lv_aload_n C.x C.b dX8_takeLeg_5 rfl (lv_at hl 1 rfl) ?_
  refine lv_iload_n C.x C.b dX8_takeLeg_6 rfl (lv_at hl 0 rfl) ?_
  refine lv_if_lt (tgt := 23) C.x C.b dX8_takeLeg_7 rfl (fun c7 => ?_) (fun c7 => ?_)
  · replace hf := x_ip c7 hf
    refine lv_iconst (v := 0) C.x C.b dX8_takeLeg_23 (by decide) ?_
    replace hf := x_b1 hf; obtain ⟨_, hk24_3, hf⟩ := hf
    replace hf := x_b1 hf; obtain ⟨M24_4, hM24_4, hf⟩ := hf
    refine x_callV (As := [.int 0]) (a := o) (rest := []) C hW hl (qX8_take l E hM24_4) (x_gk hk24_3) (by decide) (by decide) rfl gv_X8_99 ⟨rfl, hd_X8_take⟩ rfl rfl (Nat.le_of_ble_eq_true rfl) dX8_takeLeg_24 ⟨Nat.le_of_ble_eq_true rfl, Nat.le_of_ble_eq_true rfl⟩ ⟨Nat.le_of_ble_eq_true rfl, Nat.le_of_ble_eq_true rfl⟩ (fun H locs hW => ?_)
    refine lv_aload_n C.x C.b dX8_takeLeg_27 rfl (lv_at hl 1 rfl) ?_
    refine lv_iconst (v := 1) C.x C.b dX8_takeLeg_28 (by decide) ?_
    refine lv_bipush (v := 60) C.x C.b dX8_takeLeg_29 (by decide) ?_
    replace hf := x_b1 hf; obtain ⟨_, hk31_5, hf⟩ := hf
    replace hf := x_b2 hf; obtain ⟨x31_6, M31_7, hx31_6, hf⟩ := hf
    refine x_callV (As := [.int 1, .int 60]) (a := o) (rest := []) C hW hl (qX8_takeNumber l E hx31_6) (x_gk hk31_5) (by decide) (by decide) rfl gv_X8_128 ⟨rfl, hd_X8_takeNumber⟩ rfl rfl (Nat.le_of_ble_eq_true rfl) dX8_takeLeg_31 ⟨Nat.le_of_ble_eq_true rfl, Nat.le_of_ble_eq_true rfl⟩ ⟨Nat.le_of_ble_eq_true rfl, Nat.le_of_ble_eq_true rfl⟩ (fun H locs hW => ?_)
    refine lv_istore_n (lv' := [(3, .int _), (2, .int _), (0, .ref (E.b + _)), (1, .ref (E.b + _))]) C.x C.b dX8_takeLeg_34 rfl hl (by decide) rfl (fun ls hl => ?_)
    refine lv_aload_n C.x C.b dX8_takeLeg_35 rfl (lv_at hl 2 rfl) ?_
    replace hf := x_b1 hf; obtain ⟨x36_8, hx36_8, hf⟩ := hf
    refine x_geti C hW fg_X8_41_11 hx36_8 dX8_takeLeg_36 ?_
    refine lv_if_ge (tgt := 49) C.x C.b dX8_takeLeg_39 rfl (fun c39 => ?_) (fun c39 => ?_)
    · replace hf := x_ip c39 hf
      rw [x_e0 hf]
      exact x_vret C hr hW dX8_takeLeg_49
    · replace hf := x_in c39 hf
      refine lv_aload_n C.x C.b dX8_takeLeg_42 rfl (lv_at hl 3 rfl) ?_
      refine lv_iload_n C.x C.b dX8_takeLeg_43 rfl (lv_at hl 1 rfl) ?_
      refine lv_iload_n C.x C.b dX8_takeLeg_44 rfl (lv_at hl 0 rfl) ?_
      replace hf := x_b1 hf; obtain ⟨_, hk45_9, hf⟩ := hf
      replace hf := x_b2 hf; obtain ⟨x45_10, M45_11, hx45_10, hf⟩ := hf
      refine x_callV (As := [.int x1_2, .int x31_6]) (a := p1) (rest := []) C hW hl (qX10_addLeg l E hx45_10) (x_gk hk45_9) (by decide) (by decide) rfl gv_X8_144 ⟨rfl, hd_X10_addLeg⟩ rfl rfl (Nat.le_of_ble_eq_true rfl) dX8_takeLeg_45 ⟨Nat.le_of_ble_eq_true rfl, Nat.le_of_ble_eq_true rfl⟩ ⟨Nat.le_of_ble_eq_true rfl, Nat.le_of_ble_eq_true rfl⟩ (fun H locs hW => ?_)
      refine lv_pop C.x C.b dX8_takeLeg_48 rfl ?_
      rw [x_e0 hf]
      exact x_vret C hr hW dX8_takeLeg_49
  · replace hf := x_in c7 hf
    refine lv_aload_n C.x C.b dX8_takeLeg_10 rfl (lv_at hl 2 rfl) ?_
    replace hf := x_b1 hf; obtain ⟨x11_12, hx11_12, hf⟩ := hf
    refine x_geti C hW fg_X8_135_13 hx11_12 dX8_takeLeg_11 ?_
    refine lv_bipush (v := 10) C.x C.b dX8_takeLeg_14 (by decide) ?_
    refine lv_icmp_ge (tgt := 23) C.x C.b dX8_takeLeg_16 rfl (fun c16 => ?_) (fun c16 => ?_)
    · replace hf := x_ip c16 hf
      refine lv_iconst (v := 0) C.x C.b dX8_takeLeg_23 (by decide) ?_
      replace hf := x_b1 hf; obtain ⟨_, hk24_13, hf⟩ := hf
      replace hf := x_b1 hf; obtain ⟨M24_14, hM24_14, hf⟩ := hf
      refine x_callV (As := [.int 0]) (a := o) (rest := []) C hW hl (qX8_take l E hM24_14) (x_gk hk24_13) (by decide) (by decide) rfl gv_X8_99 ⟨rfl, hd_X8_take⟩ rfl rfl (Nat.le_of_ble_eq_true rfl) dX8_takeLeg_24 ⟨Nat.le_of_ble_eq_true rfl, Nat.le_of_ble_eq_true rfl⟩ ⟨Nat.le_of_ble_eq_true rfl, Nat.le_of_ble_eq_true rfl⟩ (fun H locs hW => ?_)
      refine lv_aload_n C.x C.b dX8_takeLeg_27 rfl (lv_at hl 1 rfl) ?_
      refine lv_iconst (v := 1) C.x C.b dX8_takeLeg_28 (by decide) ?_
      refine lv_bipush (v := 60) C.x C.b dX8_takeLeg_29 (by decide) ?_
      replace hf := x_b1 hf; obtain ⟨_, hk31_15, hf⟩ := hf
      replace hf := x_b2 hf; obtain ⟨x31_16, M31_17, hx31_16, hf⟩ := hf
      refine x_callV (As := [.int 1, .int 60]) (a := o) (rest := []) C hW hl (qX8_takeNumber l E hx31_16) (x_gk hk31_15) (by decide) (by decide) rfl gv_X8_128 ⟨rfl, hd_X8_takeNumber⟩ rfl rfl (Nat.le_of_ble_eq_true rfl) dX8_takeLeg_31 ⟨Nat.le_of_ble_eq_true rfl, Nat.le_of_ble_eq_true rfl⟩ ⟨Nat.le_of_ble_eq_true rfl, Nat.le_of_ble_eq_true rfl⟩ (fun H locs hW => ?_)
      refine lv_istore_n (lv' := [(3, .int _), (2, .int _), (0, .ref (E.b + _)), (1, .ref (E.b + _))]) C.x C.b dX8_takeLeg_34 rfl hl (by decide) rfl (fun ls hl => ?_)
      refine lv_aload_n C.x C.b dX8_takeLeg_35 rfl (lv_at hl 2 rfl) ?_
      replace hf := x_b1 hf; obtain ⟨x36_18, hx36_18, hf⟩ := hf
      refine x_geti C hW fg_X8_41_11 hx36_18 dX8_takeLeg_36 ?_
      refine lv_if_ge (tgt := 49) C.x C.b dX8_takeLeg_39 rfl (fun c39 => ?_) (fun c39 => ?_)
      · replace hf := x_ip c39 hf
        rw [x_e0 hf]
        exact x_vret C hr hW dX8_takeLeg_49
      · replace hf := x_in c39 hf
        refine lv_aload_n C.x C.b dX8_takeLeg_42 rfl (lv_at hl 3 rfl) ?_
        refine lv_iload_n C.x C.b dX8_takeLeg_43 rfl (lv_at hl 1 rfl) ?_
        refine lv_iload_n C.x C.b dX8_takeLeg_44 rfl (lv_at hl 0 rfl) ?_
        replace hf := x_b1 hf; obtain ⟨_, hk45_19, hf⟩ := hf
        replace hf := x_b2 hf; obtain ⟨x45_20, M45_21, hx45_20, hf⟩ := hf
        refine x_callV (As := [.int x1_2, .int x31_16]) (a := p1) (rest := []) C hW hl (qX10_addLeg l E hx45_20) (x_gk hk45_19) (by decide) (by decide) rfl gv_X8_144 ⟨rfl, hd_X10_addLeg⟩ rfl rfl (Nat.le_of_ble_eq_true rfl) dX8_takeLeg_45 ⟨Nat.le_of_ble_eq_true rfl, Nat.le_of_ble_eq_true rfl⟩ ⟨Nat.le_of_ble_eq_true rfl, Nat.le_of_ble_eq_true rfl⟩ (fun H locs hW => ?_)
        refine lv_pop C.x C.b dX8_takeLeg_48 rfl ?_
        rw [x_e0 hf]
        exact x_vret C hr hW dX8_takeLeg_49
    · replace hf := x_in c16 hf
      refine lv_iconst (v := 1) C.x C.b dX8_takeLeg_19 (by decide) ?_
      refine lv_goto (tgt := 24) C.x C.b dX8_takeLeg_20 rfl ?_
      replace hf := x_b1 hf; obtain ⟨_, hk24_22, hf⟩ := hf
      replace hf := x_b1 hf; obtain ⟨M24_23, hM24_23, hf⟩ := hf
      refine x_callV (As := [.int 1]) (a := o) (rest := []) C hW hl (qX8_take l E hM24_23) (x_gk hk24_22) (by decide) (by decide) rfl gv_X8_99 ⟨rfl, hd_X8_take⟩ rfl rfl (Nat.le_of_ble_eq_true rfl) dX8_takeLeg_24 ⟨Nat.le_of_ble_eq_true rfl, Nat.le_of_ble_eq_true rfl⟩ ⟨Nat.le_of_ble_eq_true rfl, Nat.le_of_ble_eq_true rfl⟩ (fun H locs hW => ?_)
      refine lv_aload_n C.x C.b dX8_takeLeg_27 rfl (lv_at hl 1 rfl) ?_
      refine lv_iconst (v := 1) C.x C.b dX8_takeLeg_28 (by decide) ?_
      refine lv_bipush (v := 60) C.x C.b dX8_takeLeg_29 (by decide) ?_
      replace hf := x_b1 hf; obtain ⟨_, hk31_24, hf⟩ := hf
      replace hf := x_b2 hf; obtain ⟨x31_25, M31_26, hx31_25, hf⟩ := hf
      refine x_callV (As := [.int 1, .int 60]) (a := o) (rest := []) C hW hl (qX8_takeNumber l E hx31_25) (x_gk hk31_24) (by decide) (by decide) rfl gv_X8_128 ⟨rfl, hd_X8_takeNumber⟩ rfl rfl (Nat.le_of_ble_eq_true rfl) dX8_takeLeg_31 ⟨Nat.le_of_ble_eq_true rfl, Nat.le_of_ble_eq_true rfl⟩ ⟨Nat.le_of_ble_eq_true rfl, Nat.le_of_ble_eq_true rfl⟩ (fun H locs hW => ?_)
      refine lv_istore_n (lv' := [(3, .int _), (2, .int _), (0, .ref (E.b + _)), (1, .ref (E.b + _))]) C.x C.b dX8_takeLeg_34 rfl hl (by decide) rfl (fun ls hl => ?_)
      refine lv_aload_n C.x C.b dX8_takeLeg_35 rfl (lv_at hl 2 rfl) ?_
      replace hf := x_b1 hf; obtain ⟨x36_27, hx36_27, hf⟩ := hf
      refine x_geti C hW fg_X8_41_11 hx36_27 dX8_takeLeg_36 ?_
      refine lv_if_ge (tgt := 49) C.x C.b dX8_takeLeg_39 rfl (fun c39 => ?_) (fun c39 => ?_)
      · replace hf := x_ip c39 hf
        rw [x_e0 hf]
        exact x_vret C hr hW dX8_takeLeg_49
      · replace hf := x_in c39 hf
        refine lv_aload_n C.x C.b dX8_takeLeg_42 rfl (lv_at hl 3 rfl) ?_
        refine lv_iload_n C.x C.b dX8_takeLeg_43 rfl (lv_at hl 1 rfl) ?_
        refine lv_iload_n C.x C.b dX8_takeLeg_44 rfl (lv_at hl 0 rfl) ?_
        replace hf := x_b1 hf; obtain ⟨_, hk45_28, hf⟩ := hf
        replace hf := x_b2 hf; obtain ⟨x45_29, M45_30, hx45_29, hf⟩ := hf
        refine x_callV (As := [.int x1_2, .int x31_25]) (a := p1) (rest := []) C hW hl (qX10_addLeg l E hx45_29) (x_gk hk45_28) (by decide) (by decide) rfl gv_X8_144 ⟨rfl, hd_X10_addLeg⟩ rfl rfl (Nat.le_of_ble_eq_true rfl) dX8_takeLeg_45 ⟨Nat.le_of_ble_eq_true rfl, Nat.le_of_ble_eq_true rfl⟩ ⟨Nat.le_of_ble_eq_true rfl, Nat.le_of_ble_eq_true rfl⟩ (fun H locs hW => ?_)
        refine lv_pop C.x C.b dX8_takeLeg_48 rfl ?_
        rw [x_e0 hf]
        exact x_vret C hr hW dX8_takeLeg_49

theorem dX8_takeWay_0 : decode cX8_takeWay 0 = .ok (.aload_n 0, 1) := by decide +kernel
theorem dX8_takeWay_1 : decode cX8_takeWay 1 = .ok (.iconst 1, 1) := by decide +kernel
theorem dX8_takeWay_2 : decode cX8_takeWay 2 = .ok (.invokevirtual 99, 3) := by decide +kernel
theorem dX8_takeWay_5 : decode cX8_takeWay 5 = .ok (.aload_n 1, 1) := by decide +kernel
theorem dX8_takeWay_6 : decode cX8_takeWay 6 = .ok (.iconst 0, 1) := by decide +kernel
theorem dX8_takeWay_7 : decode cX8_takeWay 7 = .ok (.putfield 135, 3) := by decide +kernel
theorem dX8_takeWay_10 : decode cX8_takeWay 10 = .ok (.aload_n 0, 1) := by decide +kernel
theorem dX8_takeWay_11 : decode cX8_takeWay 11 = .ok (.aload_n 1, 1) := by decide +kernel
theorem dX8_takeWay_12 : decode cX8_takeWay 12 = .ok (.invokevirtual 138, 3) := by decide +kernel
theorem dX8_takeWay_15 : decode cX8_takeWay 15 = .ok (.iconst 0, 1) := by decide +kernel
theorem dX8_takeWay_16 : decode cX8_takeWay 16 = .ok (.istore_n 2, 1) := by decide +kernel
theorem dX8_takeWay_17 : decode cX8_takeWay 17 = .ok (.iload_n 2, 1) := by decide +kernel
theorem dX8_takeWay_18 : decode cX8_takeWay 18 = .ok (.aload_n 0, 1) := by decide +kernel
theorem dX8_takeWay_19 : decode cX8_takeWay 19 = .ok (.getfield 35, 3) := by decide +kernel
theorem dX8_takeWay_22 : decode cX8_takeWay 22 = .ok (.if_icmp .ge 35, 3) := by decide +kernel
theorem dX8_takeWay_25 : decode cX8_takeWay 25 = .ok (.aload_n 0, 1) := by decide +kernel
theorem dX8_takeWay_26 : decode cX8_takeWay 26 = .ok (.getfield 41, 3) := by decide +kernel
theorem dX8_takeWay_29 : decode cX8_takeWay 29 = .ok (.ifCond .ge 28, 3) := by decide +kernel
theorem dX8_takeWay_32 : decode cX8_takeWay 32 = .ok (.aload_n 0, 1) := by decide +kernel
theorem dX8_takeWay_33 : decode cX8_takeWay 33 = .ok (.bipush 44, 2) := by decide +kernel
theorem dX8_takeWay_35 : decode cX8_takeWay 35 = .ok (.invokevirtual 115, 3) := by decide +kernel
theorem dX8_takeWay_38 : decode cX8_takeWay 38 = .ok (.ifCond .eq 19, 3) := by decide +kernel
theorem dX8_takeWay_41 : decode cX8_takeWay 41 = .ok (.aload_n 0, 1) := by decide +kernel
theorem dX8_takeWay_42 : decode cX8_takeWay 42 = .ok (.iconst 1, 1) := by decide +kernel
theorem dX8_takeWay_43 : decode cX8_takeWay 43 = .ok (.invokevirtual 99, 3) := by decide +kernel
theorem dX8_takeWay_46 : decode cX8_takeWay 46 = .ok (.aload_n 0, 1) := by decide +kernel
theorem dX8_takeWay_47 : decode cX8_takeWay 47 = .ok (.aload_n 1, 1) := by decide +kernel
theorem dX8_takeWay_48 : decode cX8_takeWay 48 = .ok (.invokevirtual 138, 3) := by decide +kernel
theorem dX8_takeWay_51 : decode cX8_takeWay 51 = .ok (.iinc 2 1, 3) := by decide +kernel
theorem dX8_takeWay_54 : decode cX8_takeWay 54 = .ok (.goto (-37), 3) := by decide +kernel
theorem dX8_takeWay_57 : decode cX8_takeWay 57 = .ok (.aload_n 0, 1) := by decide +kernel
theorem dX8_takeWay_58 : decode cX8_takeWay 58 = .ok (.aload_n 0, 1) := by decide +kernel
theorem dX8_takeWay_59 : decode cX8_takeWay 59 = .ok (.bipush 59, 2) := by decide +kernel
theorem dX8_takeWay_61 : decode cX8_takeWay 61 = .ok (.invokevirtual 115, 3) := by decide +kernel
theorem dX8_takeWay_64 : decode cX8_takeWay 64 = .ok (.invokevirtual 99, 3) := by decide +kernel
theorem dX8_takeWay_67 : decode cX8_takeWay 67 = .ok (.return_, 1) := by decide +kernel
theorem fp_X8_135_13 : FdP "NylonLadder$Tape" 135 13 0 false .int false := ⟨_, _, _, _, _, rfl, by decide, by decide, by decide, gxX10, by decide, T_1_54, Or.inl rfl, rfl, tyX10_ok, nmX10, by decide +kernel, rfl, fun h => by cases h⟩
theorem hd_X8_takeLeg : yX8_takeLeg.cls ≠ "java/lang/invoke/MethodHandle" ∧ yX8_takeLeg.cls ≠ "java/lang/invoke/VarHandle" ∧ (parseMethodDescriptor yX8_takeLeg.desc).map (fun d => d.parameters.length) = some 1 := by decide +kernel
theorem gv_X8_138 : GoodIn gT (wsV "NylonLadder$Tape" 138 "NylonLadder$Tape" yX8_takeLeg (Cond.code yX8_takeLeg cX8_takeLeg 4 none :: gT)) := good_V T_2_172 T_2_174 TS_11 T_1_6 T_2_175
def fX8_takeWay_L17 (o : Nat) (v1 : Nat) : Nat → Int32 → Mm → Option Mm
  | 0, _, _ => none
  | n + 1, v2, M =>
    B1 (rdI M o 11 6) fun x19_6 =>
    if x19_6 ≤ v2 then
      B1 (gk M o 11) fun _ =>
      B1 (fX8_isSign M o 59) fun x61_8 =>
      B1 (gk M o 11) fun _ =>
      B1 (fX8_take M o x61_8) fun M64_10 =>
      some M64_10
    else
      B1 (rdI M o 11 8) fun x26_11 =>
      if 0 ≤ x26_11 then
        B1 (gk M o 11) fun _ =>
        B1 (fX8_isSign M o 59) fun x61_13 =>
        B1 (gk M o 11) fun _ =>
        B1 (fX8_take M o x61_13) fun M64_15 =>
        some M64_15
      else
        B1 (gk M o 11) fun _ =>
        B1 (fX8_isSign M o 44) fun x35_17 =>
        if x35_17 = 0 then
          B1 (gk M o 11) fun _ =>
          B1 (fX8_isSign M o 59) fun x61_19 =>
          B1 (gk M o 11) fun _ =>
          B1 (fX8_take M o x61_19) fun M64_21 =>
          some M64_21
        else
          B1 (gk M o 11) fun _ =>
          B1 (fX8_take M o 1) fun M43_23 =>
          B1 (gk M43_23 o 11) fun _ =>
          B1 (fX8_takeLeg M43_23 o v1) fun M48_25 =>
          fX8_takeWay_L17 o v1 n (v2 + 1) M48_25
def fX8_takeWay (M : Mm) (o : Nat) (p1 : Nat) : Option Mm :=
  B1 (gk M o 11) fun _ =>
  B1 (fX8_take M o 1) fun M2_2 =>
  B1 (wrI M2_2 p1 13 0 0) fun M7_3 =>
  B1 (gk M7_3 o 11) fun _ =>
  B1 (fX8_takeLeg M7_3 o p1) fun M12_5 =>
  fX8_takeWay_L17 o p1 FL 0 M12_5
set_option maxRecDepth 100000 in
set_option maxHeartbeats 4000000 in
theorem kX8_takeWay_L17 {l : Launch} {E : Ev} {p : Program} {e : Env} {s : State} {m : MethodId} {args : Array Value} {below : List Frame} {meth : Method} {c : Code} (C : Cx E p s m args meth c cX8_takeWay yX8_takeWay.cls 3) (hr : meth.sig.returnType = none) (hin : yX8_takeWay.name = "<init>" → meth.name = "<init>")  {o : Nat} {v1 : Nat} {Mz : Mm} : ∀ (n : Nat) (v2 : Int32) (M : Mm), fX8_takeWay_L17 o v1 n v2 M = some Mz → ∀ (H : Heap) (locs : List Loc) (ls : Array Slot), Wx E s H locs M → lv_has ls 3 [(0, .ref (E.b + o)), (1, .ref (E.b + v1)), (2, .int v2)] → W p l e (rM 7 152 0 0) s m args below meth c H locs 0 0 (MQ below (Qp E none Mz) args s 0 0 E.A) (F0 m 17 ls []) := by
  intro n
  induction n with
  | zero =>
    intro v2 M hf
    unfold fX8_takeWay_L17 at hf
    cases hf
  | succ n ih =>
    intro v2 M hf H locs ls hW hl
    unfold fX8_takeWay_L17 at hf
    refine lv_iload_n C.x C.b dX8_takeWay_17 rfl (lv_at hl 2 rfl) ?_
    refine lv_aload_n C.x C.b dX8_takeWay_18 rfl (lv_at hl 0 rfl) ?_
    replace hf := x_b1 hf; obtain ⟨x19_6, hx19_6, hf⟩ := hf
    refine x_geti C hW fg_X8_35_11 hx19_6 dX8_takeWay_19 ?_
    refine lv_icmp_ge (tgt := 57) C.x C.b dX8_takeWay_22 rfl (fun c22 => ?_) (fun c22 => ?_)
    · replace hf := x_ip c22 hf
      refine lv_aload_n C.x C.b dX8_takeWay_57 rfl (lv_at hl 0 rfl) ?_
      refine lv_aload_n C.x C.b dX8_takeWay_58 rfl (lv_at hl 0 rfl) ?_
      refine lv_bipush (v := 59) C.x C.b dX8_takeWay_59 (by decide) ?_
      replace hf := x_b1 hf; obtain ⟨_, hk61_7, hf⟩ := hf
      replace hf := x_b1 hf; obtain ⟨x61_8, hx61_8, hf⟩ := hf
      refine x_callV (As := [.int 59]) (a := o) (rest := [.ref (E.b + o)]) C hW hl (qX8_isSign l E hx61_8) (x_gk hk61_7) (by decide) (by decide) rfl gv_X8_115 ⟨rfl, hd_X8_isSign⟩ rfl rfl (Nat.le_of_ble_eq_true rfl) dX8_takeWay_61 ⟨Nat.le_of_ble_eq_true rfl, Nat.le_of_ble_eq_true rfl⟩ ⟨Nat.le_of_ble_eq_true rfl, Nat.le_of_ble_eq_true rfl⟩ (fun H locs hW => ?_)
      replace hf := x_b1 hf; obtain ⟨_, hk64_9, hf⟩ := hf
      replace hf := x_b1 hf; obtain ⟨M64_10, hM64_10, hf⟩ := hf
      refine x_callV (As := [.int x61_8]) (a := o) (rest := []) C hW hl (qX8_take l E hM64_10) (x_gk hk64_9) (by decide) (by decide) rfl gv_X8_99 ⟨rfl, hd_X8_take⟩ rfl rfl (Nat.le_of_ble_eq_true rfl) dX8_takeWay_64 ⟨Nat.le_of_ble_eq_true rfl, Nat.le_of_ble_eq_true rfl⟩ ⟨Nat.le_of_ble_eq_true rfl, Nat.le_of_ble_eq_true rfl⟩ (fun H locs hW => ?_)
      rw [x_e0 hf]
      exact x_vret C hr hW dX8_takeWay_67
    · replace hf := x_in c22 hf
      refine lv_aload_n C.x C.b dX8_takeWay_25 rfl (lv_at hl 0 rfl) ?_
      replace hf := x_b1 hf; obtain ⟨x26_11, hx26_11, hf⟩ := hf
      refine x_geti C hW fg_X8_41_11 hx26_11 dX8_takeWay_26 ?_
      refine lv_if_ge (tgt := 57) C.x C.b dX8_takeWay_29 rfl (fun c29 => ?_) (fun c29 => ?_)
      · replace hf := x_ip c29 hf
        refine lv_aload_n C.x C.b dX8_takeWay_57 rfl (lv_at hl 0 rfl) ?_
        refine lv_aload_n C.x C.b dX8_takeWay_58 rfl (lv_at hl 0 rfl) ?_
        refine lv_bipush (v := 59) C.x C.b dX8_takeWay_59 (by decide) ?_
        replace hf := x_b1 hf; obtain ⟨_, hk61_12, hf⟩ := hf
        replace hf := x_b1 hf; obtain ⟨x61_13, hx61_13, hf⟩ := hf
        refine x_callV (As := [.int 59]) (a := o) (rest := [.ref (E.b + o)]) C hW hl (qX8_isSign l E hx61_13) (x_gk hk61_12) (by decide) (by decide) rfl gv_X8_115 ⟨rfl, hd_X8_isSign⟩ rfl rfl (Nat.le_of_ble_eq_true rfl) dX8_takeWay_61 ⟨Nat.le_of_ble_eq_true rfl, Nat.le_of_ble_eq_true rfl⟩ ⟨Nat.le_of_ble_eq_true rfl, Nat.le_of_ble_eq_true rfl⟩ (fun H locs hW => ?_)
        replace hf := x_b1 hf; obtain ⟨_, hk64_14, hf⟩ := hf
        replace hf := x_b1 hf; obtain ⟨M64_15, hM64_15, hf⟩ := hf
        refine x_callV (As := [.int x61_13]) (a := o) (rest := []) C hW hl (qX8_take l E hM64_15) (x_gk hk64_14) (by decide) (by decide) rfl gv_X8_99 ⟨rfl, hd_X8_take⟩ rfl rfl (Nat.le_of_ble_eq_true rfl) dX8_takeWay_64 ⟨Nat.le_of_ble_eq_true rfl, Nat.le_of_ble_eq_true rfl⟩ ⟨Nat.le_of_ble_eq_true rfl, Nat.le_of_ble_eq_true rfl⟩ (fun H locs hW => ?_)
        rw [x_e0 hf]
        exact x_vret C hr hW dX8_takeWay_67
      · replace hf := x_in c29 hf
        refine lv_aload_n C.x C.b dX8_takeWay_32 rfl (lv_at hl 0 rfl) ?_
        refine lv_bipush (v := 44) C.x C.b dX8_takeWay_33 (by decide) ?_
        replace hf := x_b1 hf; obtain ⟨_, hk35_16, hf⟩ := hf
        replace hf := x_b1 hf; obtain ⟨x35_17, hx35_17, hf⟩ := hf
        refine x_callV (As := [.int 44]) (a := o) (rest := []) C hW hl (qX8_isSign l E hx35_17) (x_gk hk35_16) (by decide) (by decide) rfl gv_X8_115 ⟨rfl, hd_X8_isSign⟩ rfl rfl (Nat.le_of_ble_eq_true rfl) dX8_takeWay_35 ⟨Nat.le_of_ble_eq_true rfl, Nat.le_of_ble_eq_true rfl⟩ ⟨Nat.le_of_ble_eq_true rfl, Nat.le_of_ble_eq_true rfl⟩ (fun H locs hW => ?_)
        refine lv_if_eq (tgt := 57) C.x C.b dX8_takeWay_38 rfl (fun c38 => ?_) (fun c38 => ?_)
        · replace hf := x_ip c38 hf
          refine lv_aload_n C.x C.b dX8_takeWay_57 rfl (lv_at hl 0 rfl) ?_
          refine lv_aload_n C.x C.b dX8_takeWay_58 rfl (lv_at hl 0 rfl) ?_
          refine lv_bipush (v := 59) C.x C.b dX8_takeWay_59 (by decide) ?_
          replace hf := x_b1 hf; obtain ⟨_, hk61_18, hf⟩ := hf
          replace hf := x_b1 hf; obtain ⟨x61_19, hx61_19, hf⟩ := hf
          refine x_callV (As := [.int 59]) (a := o) (rest := [.ref (E.b + o)]) C hW hl (qX8_isSign l E hx61_19) (x_gk hk61_18) (by decide) (by decide) rfl gv_X8_115 ⟨rfl, hd_X8_isSign⟩ rfl rfl (Nat.le_of_ble_eq_true rfl) dX8_takeWay_61 ⟨Nat.le_of_ble_eq_true rfl, Nat.le_of_ble_eq_true rfl⟩ ⟨Nat.le_of_ble_eq_true rfl, Nat.le_of_ble_eq_true rfl⟩ (fun H locs hW => ?_)
          replace hf := x_b1 hf; obtain ⟨_, hk64_20, hf⟩ := hf
          replace hf := x_b1 hf; obtain ⟨M64_21, hM64_21, hf⟩ := hf
          refine x_callV (As := [.int x61_19]) (a := o) (rest := []) C hW hl (qX8_take l E hM64_21) (x_gk hk64_20) (by decide) (by decide) rfl gv_X8_99 ⟨rfl, hd_X8_take⟩ rfl rfl (Nat.le_of_ble_eq_true rfl) dX8_takeWay_64 ⟨Nat.le_of_ble_eq_true rfl, Nat.le_of_ble_eq_true rfl⟩ ⟨Nat.le_of_ble_eq_true rfl, Nat.le_of_ble_eq_true rfl⟩ (fun H locs hW => ?_)
          rw [x_e0 hf]
          exact x_vret C hr hW dX8_takeWay_67
        · replace hf := x_in c38 hf
          refine lv_aload_n C.x C.b dX8_takeWay_41 rfl (lv_at hl 0 rfl) ?_
          refine lv_iconst (v := 1) C.x C.b dX8_takeWay_42 (by decide) ?_
          replace hf := x_b1 hf; obtain ⟨_, hk43_22, hf⟩ := hf
          replace hf := x_b1 hf; obtain ⟨M43_23, hM43_23, hf⟩ := hf
          refine x_callV (As := [.int 1]) (a := o) (rest := []) C hW hl (qX8_take l E hM43_23) (x_gk hk43_22) (by decide) (by decide) rfl gv_X8_99 ⟨rfl, hd_X8_take⟩ rfl rfl (Nat.le_of_ble_eq_true rfl) dX8_takeWay_43 ⟨Nat.le_of_ble_eq_true rfl, Nat.le_of_ble_eq_true rfl⟩ ⟨Nat.le_of_ble_eq_true rfl, Nat.le_of_ble_eq_true rfl⟩ (fun H locs hW => ?_)
          refine lv_aload_n C.x C.b dX8_takeWay_46 rfl (lv_at hl 0 rfl) ?_
          refine lv_aload_n C.x C.b dX8_takeWay_47 rfl (lv_at hl 1 rfl) ?_
          replace hf := x_b1 hf; obtain ⟨_, hk48_24, hf⟩ := hf
          replace hf := x_b1 hf; obtain ⟨M48_25, hM48_25, hf⟩ := hf
          refine x_callV (As := [.ref (E.b + v1)]) (a := o) (rest := []) C hW hl (qX8_takeLeg l E hM48_25) (x_gk hk48_24) (by decide) (by decide) rfl gv_X8_138 ⟨rfl, hd_X8_takeLeg⟩ rfl rfl (Nat.le_of_ble_eq_true rfl) dX8_takeWay_48 ⟨Nat.le_of_ble_eq_true rfl, Nat.le_of_ble_eq_true rfl⟩ ⟨Nat.le_of_ble_eq_true rfl, Nat.le_of_ble_eq_true rfl⟩ (fun H locs hW => ?_)
          refine lv_iinc (v := (v2 + 1)) (lv' := [(2, .int (v2 + 1)), (0, .ref (E.b + _)), (1, .ref (E.b + _))]) C.x C.b dX8_takeWay_51 hl (k := 2) rfl (by first | rfl | decide) (by decide) rfl (fun ls hl => ?_)
          refine lv_goto (tgt := 17) C.x C.b dX8_takeWay_54 rfl ?_
          exact ih (v2 + 1) M48_25 hf _ _ _ hW (lv_sub hl [1, 2, 0] rfl)
set_option maxRecDepth 100000 in
set_option maxHeartbeats 4000000 in
theorem qX8_takeWay (l : Launch) (E : Ev) {M : Mm} {o : Nat} {p1 : Nat} {Mz : Mm} (hf : fX8_takeWay M o p1 = some Mz) : Ct l E yX8_takeWay cX8_takeWay 3 none 7 152 0 0 [.ref (E.b + o), .ref (E.b + p1)] M none Mz := by
  refine ct_of (by decide +kernel) (Nat.le_of_ble_eq_true rfl) fun p e s m args below meth c C hr hin hW ls hl => ?_
  have hl : lv_has ls 3 [(0, .ref (E.b + o)), (1, .ref (E.b + p1))] := hl
  unfold fX8_takeWay at hf
  refine lv_aload_n C.x C.b dX8_takeWay_0 rfl (lv_at hl 0 rfl) ?_
  refine lv_iconst (v := 1) C.x C.b dX8_takeWay_1 (by decide) ?_
  replace hf := x_b1 hf; obtain ⟨_, hk2_1, hf⟩ := hf
  replace hf := x_b1 hf; obtain ⟨M2_2, hM2_2, hf⟩ := hf
  refine x_callV (As := [.int 1]) (a := o) (rest := []) C hW hl (qX8_take l E hM2_2) (x_gk hk2_1) (by decide) (by decide) rfl gv_X8_99 ⟨rfl, hd_X8_take⟩ rfl rfl (Nat.le_of_ble_eq_true rfl) dX8_takeWay_2 ⟨Nat.le_of_ble_eq_true rfl, Nat.le_of_ble_eq_true rfl⟩ ⟨Nat.le_of_ble_eq_true rfl, Nat.le_of_ble_eq_true rfl⟩ (fun H locs hW => ?_)
  refine lv_aload_n C.x C.b dX8_takeWay_5 rfl (lv_at hl 1 rfl) ?_
  refine lv_iconst (v := 0) C.x C.b dX8_takeWay_6 (by decide) ?_
  replace hf := x_b1 hf; obtain ⟨M7_3, hM7_3, hf⟩ := hf
  refine x_puti C hW fp_X8_135_13 hM7_3 (fun h => by cases h) dX8_takeWay_7 (fun H locs hW => ?_)
  refine lv_aload_n C.x C.b dX8_takeWay_10 rfl (lv_at hl 0 rfl) ?_
  refine lv_aload_n C.x C.b dX8_takeWay_11 rfl (lv_at hl 1 rfl) ?_
  replace hf := x_b1 hf; obtain ⟨_, hk12_4, hf⟩ := hf
  replace hf := x_b1 hf; obtain ⟨M12_5, hM12_5, hf⟩ := hf
  refine x_callV (As := [.ref (E.b + p1)]) (a := o) (rest := []) C hW hl (qX8_takeLeg l E hM12_5) (x_gk hk12_4) (by decide) (by decide) rfl gv_X8_138 ⟨rfl, hd_X8_takeLeg⟩ rfl rfl (Nat.le_of_ble_eq_true rfl) dX8_takeWay_12 ⟨Nat.le_of_ble_eq_true rfl, Nat.le_of_ble_eq_true rfl⟩ ⟨Nat.le_of_ble_eq_true rfl, Nat.le_of_ble_eq_true rfl⟩ (fun H locs hW => ?_)
  refine lv_iconst (v := 0) C.x C.b dX8_takeWay_15 (by decide) ?_
  refine lv_istore_n (lv' := [(2, .int _), (0, .ref (E.b + _)), (1, .ref (E.b + _))]) C.x C.b dX8_takeWay_16 rfl hl (by decide) rfl (fun ls hl => ?_)
  exact kX8_takeWay_L17 C hr hin FL 0 M12_5 hf _ _ _ hW (lv_sub hl [1, 2, 0] rfl)

theorem dX8_nameOfKind_0 : decode cX8_nameOfKind 0 = .ok (.iload_n 0, 1) := by decide +kernel
theorem dX8_nameOfKind_1 : decode cX8_nameOfKind 1 = .ok (.tableswitch 50 1 5 #[35, 38, 41, 44, 47], 35) := by decide +kernel
theorem dX8_nameOfKind_36 : decode cX8_nameOfKind 36 = .ok (.ldc 191, 2) := by decide +kernel
theorem dX8_nameOfKind_38 : decode cX8_nameOfKind 38 = .ok (.areturn, 1) := by decide +kernel
theorem dX8_nameOfKind_39 : decode cX8_nameOfKind 39 = .ok (.ldc 193, 2) := by decide +kernel
theorem dX8_nameOfKind_41 : decode cX8_nameOfKind 41 = .ok (.areturn, 1) := by decide +kernel
theorem dX8_nameOfKind_42 : decode cX8_nameOfKind 42 = .ok (.ldc 195, 2) := by decide +kernel
theorem dX8_nameOfKind_44 : decode cX8_nameOfKind 44 = .ok (.areturn, 1) := by decide +kernel
theorem dX8_nameOfKind_45 : decode cX8_nameOfKind 45 = .ok (.ldc 197, 2) := by decide +kernel
theorem dX8_nameOfKind_47 : decode cX8_nameOfKind 47 = .ok (.areturn, 1) := by decide +kernel
theorem dX8_nameOfKind_48 : decode cX8_nameOfKind 48 = .ok (.ldc 199, 2) := by decide +kernel
theorem dX8_nameOfKind_50 : decode cX8_nameOfKind 50 = .ok (.areturn, 1) := by decide +kernel
theorem dX8_nameOfKind_51 : decode cX8_nameOfKind 51 = .ok (.ldc 201, 2) := by decide +kernel
theorem dX8_nameOfKind_53 : decode cX8_nameOfKind 53 = .ok (.areturn, 1) := by decide +kernel
def fX8_nameOfKind (M : Mm) (p1 : Int32) : Option Nat :=
  if p1 = 1 then
    some 10
  else
    if p1 = 2 then
      some 11
    else
      if p1 = 3 then
        some 12
      else
        if p1 = 4 then
          some 13
        else
          if p1 = 5 then
            some 14
          else
            some 15
set_option maxRecDepth 100000 in
set_option maxHeartbeats 4000000 in
theorem qX8_nameOfKind (l : Launch) (E : Ev) {M : Mm} {p1 : Int32} {rz : Nat} (hf : fX8_nameOfKind M p1 = some rz) : Ct l E yX8_nameOfKind cX8_nameOfKind 1 (some (.object "java/lang/String")) 0 0 0 0 [.int p1] M (some (.ref (E.x (100 + rz)))) M := by
  refine ct_of (by decide +kernel) (Nat.le_of_ble_eq_true rfl) fun p e s m args below meth c C hr hin hW ls hl => ?_
  have hl : lv_has ls 1 [(0, .int p1)] := hl
  unfold fX8_nameOfKind at hf
  refine lv_iload_n C.x C.b dX8_nameOfKind_0 rfl (lv_at hl 0 rfl) ?_
  by_cases s1_1 : p1 = 1
  · replace hf := x_ip s1_1 hf
    refine lv_tableIn (off := 35) (tgt := 36) C.x C.b dX8_nameOfKind_1 (by rw [s1_1]; decide) (by rw [s1_1]; decide) (by rw [s1_1]; rfl) rfl ?_
    refine x_ldcS (q := 10) (tx := "sheer") C (by decide +kernel) dX8_nameOfKind_36 ?_
    rw [x_e0 hf]
    exact x_sret C hr (Or.inl ⟨_, rfl⟩) hW dX8_nameOfKind_38
  · replace hf := x_in s1_1 hf
    by_cases s1_2 : p1 = 2
    · replace hf := x_ip s1_2 hf
      refine lv_tableIn (off := 38) (tgt := 39) C.x C.b dX8_nameOfKind_1 (by rw [s1_2]; decide) (by rw [s1_2]; decide) (by rw [s1_2]; rfl) rfl ?_
      refine x_ldcS (q := 11) (tx := "thick") C (by decide +kernel) dX8_nameOfKind_39 ?_
      rw [x_e0 hf]
      exact x_sret C hr (Or.inl ⟨_, rfl⟩) hW dX8_nameOfKind_41
    · replace hf := x_in s1_2 hf
      by_cases s1_3 : p1 = 3
      · replace hf := x_ip s1_3 hf
        refine lv_tableIn (off := 41) (tgt := 42) C.x C.b dX8_nameOfKind_1 (by rw [s1_3]; decide) (by rw [s1_3]; decide) (by rw [s1_3]; rfl) rfl ?_
        refine x_ldcS (q := 12) (tx := "mesh") C (by decide +kernel) dX8_nameOfKind_42 ?_
        rw [x_e0 hf]
        exact x_sret C hr (Or.inl ⟨_, rfl⟩) hW dX8_nameOfKind_44
      · replace hf := x_in s1_3 hf
        by_cases s1_4 : p1 = 4
        · replace hf := x_ip s1_4 hf
          refine lv_tableIn (off := 44) (tgt := 45) C.x C.b dX8_nameOfKind_1 (by rw [s1_4]; decide) (by rw [s1_4]; decide) (by rw [s1_4]; rfl) rfl ?_
          refine x_ldcS (q := 13) (tx := "lined") C (by decide +kernel) dX8_nameOfKind_45 ?_
          rw [x_e0 hf]
          exact x_sret C hr (Or.inl ⟨_, rfl⟩) hW dX8_nameOfKind_47
        · replace hf := x_in s1_4 hf
          by_cases s1_5 : p1 = 5
          · replace hf := x_ip s1_5 hf
            refine lv_tableIn (off := 47) (tgt := 48) C.x C.b dX8_nameOfKind_1 (by rw [s1_5]; decide) (by rw [s1_5]; decide) (by rw [s1_5]; rfl) rfl ?_
            refine x_ldcS (q := 14) (tx := "old") C (by decide +kernel) dX8_nameOfKind_48 ?_
            rw [x_e0 hf]
            exact x_sret C hr (Or.inl ⟨_, rfl⟩) hW dX8_nameOfKind_50
          · replace hf := x_in s1_5 hf
            have s1_1_ := lv_neT (a := 1) s1_1 rfl
            have s1_2_ := lv_neT (a := 2) s1_2 rfl
            have s1_3_ := lv_neT (a := 3) s1_3 rfl
            have s1_4_ := lv_neT (a := 4) s1_4 rfl
            have s1_5_ := lv_neT (a := 5) s1_5 rfl
            refine lv_tableOut (tgt := 51) C.x C.b dX8_nameOfKind_1 (by omega) rfl ?_
            refine x_ldcS (q := 15) (tx := "plain") C (by decide +kernel) dX8_nameOfKind_51 ?_
            rw [x_e0 hf]
            exact x_sret C hr (Or.inl ⟨_, rfl⟩) hW dX8_nameOfKind_53

theorem dX8_kindHere_0 : decode cX8_kindHere 0 = .ok (.iconst 0, 1) := by decide +kernel
theorem dX8_kindHere_1 : decode cX8_kindHere 1 = .ok (.istore_n 1, 1) := by decide +kernel
theorem dX8_kindHere_2 : decode cX8_kindHere 2 = .ok (.iload_n 1, 1) := by decide +kernel
theorem dX8_kindHere_3 : decode cX8_kindHere 3 = .ok (.iconst 5, 1) := by decide +kernel
theorem dX8_kindHere_4 : decode cX8_kindHere 4 = .ok (.if_icmp .gt 22, 3) := by decide +kernel
theorem dX8_kindHere_7 : decode cX8_kindHere 7 = .ok (.aload_n 0, 1) := by decide +kernel
theorem dX8_kindHere_8 : decode cX8_kindHere 8 = .ok (.iload_n 1, 1) := by decide +kernel
theorem dX8_kindHere_9 : decode cX8_kindHere 9 = .ok (.invokestatic 184, 3) := by decide +kernel
theorem dX8_kindHere_12 : decode cX8_kindHere 12 = .ok (.invokevirtual 67, 3) := by decide +kernel
theorem dX8_kindHere_15 : decode cX8_kindHere 15 = .ok (.ifCond .eq 5, 3) := by decide +kernel
theorem dX8_kindHere_18 : decode cX8_kindHere 18 = .ok (.iload_n 1, 1) := by decide +kernel
theorem dX8_kindHere_19 : decode cX8_kindHere 19 = .ok (.ireturn, 1) := by decide +kernel
theorem dX8_kindHere_20 : decode cX8_kindHere 20 = .ok (.iinc 1 1, 3) := by decide +kernel
theorem dX8_kindHere_23 : decode cX8_kindHere 23 = .ok (.goto (-21), 3) := by decide +kernel
theorem dX8_kindHere_26 : decode cX8_kindHere 26 = .ok (.iconst (-1), 1) := by decide +kernel
theorem dX8_kindHere_27 : decode cX8_kindHere 27 = .ok (.ireturn, 1) := by decide +kernel
theorem hd_X8_nameOfKind : yX8_nameOfKind.cls ≠ "java/lang/invoke/MethodHandle" ∧ yX8_nameOfKind.cls ≠ "java/lang/invoke/VarHandle" ∧ (parseMethodDescriptor yX8_nameOfKind.desc).map (fun d => d.parameters.length) = some 1 := by decide +kernel
theorem gs_X8_184 : GoodIn gT (va_wsS "NylonLadder$Tape" 184 yX8_nameOfKind (Cond.code yX8_nameOfKind cX8_nameOfKind 1 (some (.object "java/lang/String")) :: gT)) := good_S T_2_200 T_2_201 T_1_6 T_2_202
def fX8_kindHere_L2 (M : Mm) (o : Nat) : Nat → Int32 → Option Int32
  | 0, _ => none
  | n + 1, v1 =>
    if 5 < v1 then
      some (-1)
    else
      B1 (fX8_nameOfKind M v1) fun x9_1 =>
      B1 (gk M o 11) fun _ =>
      B1 (fX8_isName M o x9_1) fun x12_3 =>
      if x12_3 = 0 then
        fX8_kindHere_L2 M o n (v1 + 1)
      else
        some v1
def fX8_kindHere (M : Mm) (o : Nat) : Option Int32 :=
  fX8_kindHere_L2 M o FL 0
set_option maxRecDepth 100000 in
set_option maxHeartbeats 4000000 in
theorem kX8_kindHere_L2 {l : Launch} {E : Ev} {p : Program} {e : Env} {s : State} {m : MethodId} {args : Array Value} {below : List Frame} {meth : Method} {c : Code} (C : Cx E p s m args meth c cX8_kindHere yX8_kindHere.cls 2) (hr : meth.sig.returnType = (some .int)) (hin : yX8_kindHere.name = "<init>" → meth.name = "<init>") {M : Mm}  {o : Nat} {rz : Int32} : ∀ (n : Nat) (v1 : Int32), fX8_kindHere_L2 M o n v1 = some rz → ∀ (H : Heap) (locs : List Loc) (ls : Array Slot), Wx E s H locs M → lv_has ls 2 [(0, .ref (E.b + o)), (1, .int v1)] → W p l e (rM 5 108 0 0) s m args below meth c H locs 0 0 (MQ below (Qp E (some (.int rz)) M) args s 0 0 E.A) (F0 m 2 ls []) := by
  intro n
  induction n with
  | zero =>
    intro v1 hf
    unfold fX8_kindHere_L2 at hf
    cases hf
  | succ n ih =>
    intro v1 hf H locs ls hW hl
    unfold fX8_kindHere_L2 at hf
    refine lv_iload_n C.x C.b dX8_kindHere_2 rfl (lv_at hl 1 rfl) ?_
    refine lv_iconst (v := 5) C.x C.b dX8_kindHere_3 (by decide) ?_
    refine lv_icmp_gt (tgt := 26) C.x C.b dX8_kindHere_4 rfl (fun c4 => ?_) (fun c4 => ?_)
    · replace hf := x_ip c4 hf
      refine lv_iconst (v := (-1)) C.x C.b dX8_kindHere_26 (by decide) ?_
      rw [x_e0 hf]
      exact x_iret C hr hW dX8_kindHere_27
    · replace hf := x_in c4 hf
      refine lv_aload_n C.x C.b dX8_kindHere_7 rfl (lv_at hl 0 rfl) ?_
      refine lv_iload_n C.x C.b dX8_kindHere_8 rfl (lv_at hl 1 rfl) ?_
      replace hf := x_b1 hf; obtain ⟨x9_1, hx9_1, hf⟩ := hf
      refine x_callS (As := [.int v1]) (rest := [.ref (E.b + o)]) C hW hl (qX8_nameOfKind l E hx9_1) gs_X8_184 hd_X8_nameOfKind rfl rfl (Nat.le_of_ble_eq_true rfl) dX8_kindHere_9 ⟨Nat.le_of_ble_eq_true rfl, Nat.le_of_ble_eq_true rfl⟩ ⟨Nat.le_of_ble_eq_true rfl, Nat.le_of_ble_eq_true rfl⟩ (fun H locs hW => ?_)
      replace hf := x_b1 hf; obtain ⟨_, hk12_2, hf⟩ := hf
      replace hf := x_b1 hf; obtain ⟨x12_3, hx12_3, hf⟩ := hf
      refine x_callV (As := [.ref (E.x (100 + x9_1))]) (a := o) (rest := []) C hW hl (qX8_isName l E hx12_3) (x_gk hk12_2) (by decide) (by decide) rfl gv_X8_67 ⟨rfl, hd_X8_isName⟩ rfl rfl (Nat.le_of_ble_eq_true rfl) dX8_kindHere_12 ⟨Nat.le_of_ble_eq_true rfl, Nat.le_of_ble_eq_true rfl⟩ ⟨Nat.le_of_ble_eq_true rfl, Nat.le_of_ble_eq_true rfl⟩ (fun H locs hW => ?_)
      refine lv_if_eq (tgt := 20) C.x C.b dX8_kindHere_15 rfl (fun c15 => ?_) (fun c15 => ?_)
      · replace hf := x_ip c15 hf
        refine lv_iinc (v := (v1 + 1)) (lv' := [(1, .int (v1 + 1)), (0, .ref (E.b + _))]) C.x C.b dX8_kindHere_20 hl (k := 1) rfl (by first | rfl | decide) (by decide) rfl (fun ls hl => ?_)
        refine lv_goto (tgt := 2) C.x C.b dX8_kindHere_23 rfl ?_
        exact ih (v1 + 1) hf _ _ _ hW (lv_sub hl [1, 0] rfl)
      · replace hf := x_in c15 hf
        refine lv_iload_n C.x C.b dX8_kindHere_18 rfl (lv_at hl 1 rfl) ?_
        rw [x_e0 hf]
        exact x_iret C hr hW dX8_kindHere_19
set_option maxRecDepth 100000 in
set_option maxHeartbeats 4000000 in
theorem qX8_kindHere (l : Launch) (E : Ev) {M : Mm} {o : Nat} {rz : Int32} (hf : fX8_kindHere M o = some rz) : Ct l E yX8_kindHere cX8_kindHere 2 (some .int) 5 108 0 0 [.ref (E.b + o)] M (some (.int rz)) M := by
  refine ct_of (by decide +kernel) (Nat.le_of_ble_eq_true rfl) fun p e s m args below meth c C hr hin hW ls hl => ?_
  have hl : lv_has ls 2 [(0, .ref (E.b + o))] := hl
  unfold fX8_kindHere at hf
  refine lv_iconst (v := 0) C.x C.b dX8_kindHere_0 (by decide) ?_
  refine lv_istore_n (lv' := [(1, .int _), (0, .ref (E.b + _))]) C.x C.b dX8_kindHere_1 rfl hl (by decide) rfl (fun ls hl => ?_)
  exact kX8_kindHere_L2 C hr hin FL 0 hf _ _ _ hW (lv_sub hl [1, 0] rfl)

theorem dX8_takeStocking_0 : decode cX8_takeStocking 0 = .ok (.aload_n 0, 1) := by decide +kernel
theorem dX8_takeStocking_1 : decode cX8_takeStocking 1 = .ok (.invokevirtual 148, 3) := by decide +kernel
theorem dX8_takeStocking_4 : decode cX8_takeStocking 4 = .ok (.istore_n 1, 1) := by decide +kernel
theorem dX8_takeStocking_5 : decode cX8_takeStocking 5 = .ok (.aload_n 0, 1) := by decide +kernel
theorem dX8_takeStocking_6 : decode cX8_takeStocking 6 = .ok (.iload_n 1, 1) := by decide +kernel
theorem dX8_takeStocking_7 : decode cX8_takeStocking 7 = .ok (.ifCond .lt 19, 3) := by decide +kernel
theorem dX8_takeStocking_10 : decode cX8_takeStocking 10 = .ok (.aload_n 0, 1) := by decide +kernel
theorem dX8_takeStocking_11 : decode cX8_takeStocking 11 = .ok (.getfield 22, 3) := by decide +kernel
theorem dX8_takeStocking_14 : decode cX8_takeStocking 14 = .ok (.getfield 151, 3) := by decide +kernel
theorem dX8_takeStocking_17 : decode cX8_takeStocking 17 = .ok (.bipush 8, 2) := by decide +kernel
theorem dX8_takeStocking_19 : decode cX8_takeStocking 19 = .ok (.if_icmp .ge 7, 3) := by decide +kernel
theorem dX8_takeStocking_22 : decode cX8_takeStocking 22 = .ok (.iconst 1, 1) := by decide +kernel
theorem dX8_takeStocking_23 : decode cX8_takeStocking 23 = .ok (.goto 4, 3) := by decide +kernel
theorem dX8_takeStocking_26 : decode cX8_takeStocking 26 = .ok (.iconst 0, 1) := by decide +kernel
theorem dX8_takeStocking_27 : decode cX8_takeStocking 27 = .ok (.invokevirtual 99, 3) := by decide +kernel
theorem dX8_takeStocking_30 : decode cX8_takeStocking 30 = .ok (.aload_n 0, 1) := by decide +kernel
theorem dX8_takeStocking_31 : decode cX8_takeStocking 31 = .ok (.iconst 0, 1) := by decide +kernel
theorem dX8_takeStocking_32 : decode cX8_takeStocking 32 = .ok (.bipush 9, 2) := by decide +kernel
theorem dX8_takeStocking_34 : decode cX8_takeStocking 34 = .ok (.invokevirtual 128, 3) := by decide +kernel
theorem dX8_takeStocking_37 : decode cX8_takeStocking 37 = .ok (.istore_n 2, 1) := by decide +kernel
theorem dX8_takeStocking_38 : decode cX8_takeStocking 38 = .ok (.aload_n 0, 1) := by decide +kernel
theorem dX8_takeStocking_39 : decode cX8_takeStocking 39 = .ok (.aload_n 0, 1) := by decide +kernel
theorem dX8_takeStocking_40 : decode cX8_takeStocking 40 = .ok (.ldc 152, 2) := by decide +kernel
theorem dX8_takeStocking_42 : decode cX8_takeStocking 42 = .ok (.invokevirtual 67, 3) := by decide +kernel
theorem dX8_takeStocking_45 : decode cX8_takeStocking 45 = .ok (.invokevirtual 99, 3) := by decide +kernel
theorem dX8_takeStocking_48 : decode cX8_takeStocking 48 = .ok (.aload_n 0, 1) := by decide +kernel
theorem dX8_takeStocking_49 : decode cX8_takeStocking 49 = .ok (.iconst 0, 1) := by decide +kernel
theorem dX8_takeStocking_50 : decode cX8_takeStocking 50 = .ok (.iconst 3, 1) := by decide +kernel
theorem dX8_takeStocking_51 : decode cX8_takeStocking 51 = .ok (.invokevirtual 128, 3) := by decide +kernel
theorem dX8_takeStocking_54 : decode cX8_takeStocking 54 = .ok (.istore_n 3, 1) := by decide +kernel
theorem dX8_takeStocking_55 : decode cX8_takeStocking 55 = .ok (.aload_n 0, 1) := by decide +kernel
theorem dX8_takeStocking_56 : decode cX8_takeStocking 56 = .ok (.aload_n 0, 1) := by decide +kernel
theorem dX8_takeStocking_57 : decode cX8_takeStocking 57 = .ok (.ldc 154, 2) := by decide +kernel
theorem dX8_takeStocking_59 : decode cX8_takeStocking 59 = .ok (.invokevirtual 67, 3) := by decide +kernel
theorem dX8_takeStocking_62 : decode cX8_takeStocking 62 = .ok (.invokevirtual 99, 3) := by decide +kernel
theorem dX8_takeStocking_65 : decode cX8_takeStocking 65 = .ok (.aload_n 0, 1) := by decide +kernel
theorem dX8_takeStocking_66 : decode cX8_takeStocking 66 = .ok (.iconst 1, 1) := by decide +kernel
theorem dX8_takeStocking_67 : decode cX8_takeStocking 67 = .ok (.bipush 30, 2) := by decide +kernel
theorem dX8_takeStocking_69 : decode cX8_takeStocking 69 = .ok (.invokevirtual 128, 3) := by decide +kernel
theorem dX8_takeStocking_72 : decode cX8_takeStocking 72 = .ok (.istore 4, 2) := by decide +kernel
theorem dX8_takeStocking_74 : decode cX8_takeStocking 74 = .ok (.bipush (-9), 2) := by decide +kernel
theorem dX8_takeStocking_76 : decode cX8_takeStocking 76 = .ok (.istore 5, 2) := by decide +kernel
theorem dX8_takeStocking_78 : decode cX8_takeStocking 78 = .ok (.bipush (-9), 2) := by decide +kernel
theorem dX8_takeStocking_80 : decode cX8_takeStocking 80 = .ok (.istore 6, 2) := by decide +kernel
theorem dX8_takeStocking_82 : decode cX8_takeStocking 82 = .ok (.aload_n 0, 1) := by decide +kernel
theorem dX8_takeStocking_83 : decode cX8_takeStocking 83 = .ok (.getfield 41, 3) := by decide +kernel
theorem dX8_takeStocking_86 : decode cX8_takeStocking 86 = .ok (.ifCond .ge 46, 3) := by decide +kernel
theorem dX8_takeStocking_89 : decode cX8_takeStocking 89 = .ok (.aload_n 0, 1) := by decide +kernel
theorem dX8_takeStocking_90 : decode cX8_takeStocking 90 = .ok (.ldc 156, 2) := by decide +kernel
theorem dX8_takeStocking_92 : decode cX8_takeStocking 92 = .ok (.invokevirtual 67, 3) := by decide +kernel
theorem dX8_takeStocking_95 : decode cX8_takeStocking 95 = .ok (.ifCond .eq 37, 3) := by decide +kernel
theorem dX8_takeStocking_98 : decode cX8_takeStocking 98 = .ok (.aload_n 0, 1) := by decide +kernel
theorem dX8_takeStocking_99 : decode cX8_takeStocking 99 = .ok (.iconst 1, 1) := by decide +kernel
theorem dX8_takeStocking_100 : decode cX8_takeStocking 100 = .ok (.invokevirtual 99, 3) := by decide +kernel
theorem dX8_takeStocking_103 : decode cX8_takeStocking 103 = .ok (.aload_n 0, 1) := by decide +kernel
theorem dX8_takeStocking_104 : decode cX8_takeStocking 104 = .ok (.iconst 0, 1) := by decide +kernel
theorem dX8_takeStocking_105 : decode cX8_takeStocking 105 = .ok (.bipush 99, 2) := by decide +kernel
theorem dX8_takeStocking_107 : decode cX8_takeStocking 107 = .ok (.invokevirtual 128, 3) := by decide +kernel
theorem dX8_takeStocking_110 : decode cX8_takeStocking 110 = .ok (.istore 5, 2) := by decide +kernel
theorem dX8_takeStocking_112 : decode cX8_takeStocking 112 = .ok (.aload_n 0, 1) := by decide +kernel
theorem dX8_takeStocking_113 : decode cX8_takeStocking 113 = .ok (.aload_n 0, 1) := by decide +kernel
theorem dX8_takeStocking_114 : decode cX8_takeStocking 114 = .ok (.ldc 158, 2) := by decide +kernel
theorem dX8_takeStocking_116 : decode cX8_takeStocking 116 = .ok (.invokevirtual 67, 3) := by decide +kernel
theorem dX8_takeStocking_119 : decode cX8_takeStocking 119 = .ok (.invokevirtual 99, 3) := by decide +kernel
theorem dX8_takeStocking_122 : decode cX8_takeStocking 122 = .ok (.aload_n 0, 1) := by decide +kernel
theorem dX8_takeStocking_123 : decode cX8_takeStocking 123 = .ok (.iload 5, 2) := by decide +kernel
theorem dX8_takeStocking_125 : decode cX8_takeStocking 125 = .ok (.bipush 99, 2) := by decide +kernel
theorem dX8_takeStocking_127 : decode cX8_takeStocking 127 = .ok (.invokevirtual 128, 3) := by decide +kernel
theorem dX8_takeStocking_130 : decode cX8_takeStocking 130 = .ok (.istore 6, 2) := by decide +kernel
theorem dX8_takeStocking_132 : decode cX8_takeStocking 132 = .ok (.aload_n 0, 1) := by decide +kernel
theorem dX8_takeStocking_133 : decode cX8_takeStocking 133 = .ok (.aload_n 0, 1) := by decide +kernel
theorem dX8_takeStocking_134 : decode cX8_takeStocking 134 = .ok (.bipush 59, 2) := by decide +kernel
theorem dX8_takeStocking_136 : decode cX8_takeStocking 136 = .ok (.invokevirtual 115, 3) := by decide +kernel
theorem dX8_takeStocking_139 : decode cX8_takeStocking 139 = .ok (.invokevirtual 99, 3) := by decide +kernel
theorem dX8_takeStocking_142 : decode cX8_takeStocking 142 = .ok (.aload_n 0, 1) := by decide +kernel
theorem dX8_takeStocking_143 : decode cX8_takeStocking 143 = .ok (.getfield 41, 3) := by decide +kernel
theorem dX8_takeStocking_146 : decode cX8_takeStocking 146 = .ok (.ifCond .ge 51, 3) := by decide +kernel
theorem dX8_takeStocking_149 : decode cX8_takeStocking 149 = .ok (.aload_n 0, 1) := by decide +kernel
theorem dX8_takeStocking_150 : decode cX8_takeStocking 150 = .ok (.getfield 22, 3) := by decide +kernel
theorem dX8_takeStocking_153 : decode cX8_takeStocking 153 = .ok (.iload_n 1, 1) := by decide +kernel
theorem dX8_takeStocking_154 : decode cX8_takeStocking 154 = .ok (.iload_n 2, 1) := by decide +kernel
theorem dX8_takeStocking_155 : decode cX8_takeStocking 155 = .ok (.iload_n 3, 1) := by decide +kernel
theorem dX8_takeStocking_156 : decode cX8_takeStocking 156 = .ok (.iload 4, 2) := by decide +kernel
theorem dX8_takeStocking_158 : decode cX8_takeStocking 158 = .ok (.invokevirtual 160, 3) := by decide +kernel
theorem dX8_takeStocking_161 : decode cX8_takeStocking 161 = .ok (.ifCond .eq 36, 3) := by decide +kernel
theorem dX8_takeStocking_164 : decode cX8_takeStocking 164 = .ok (.aload_n 0, 1) := by decide +kernel
theorem dX8_takeStocking_165 : decode cX8_takeStocking 165 = .ok (.getfield 22, 3) := by decide +kernel
theorem dX8_takeStocking_168 : decode cX8_takeStocking 168 = .ok (.getfield 164, 3) := by decide +kernel
theorem dX8_takeStocking_171 : decode cX8_takeStocking 171 = .ok (.aload_n 0, 1) := by decide +kernel
theorem dX8_takeStocking_172 : decode cX8_takeStocking 172 = .ok (.getfield 22, 3) := by decide +kernel
theorem dX8_takeStocking_175 : decode cX8_takeStocking 175 = .ok (.getfield 151, 3) := by decide +kernel
theorem dX8_takeStocking_178 : decode cX8_takeStocking 178 = .ok (.iconst 1, 1) := by decide +kernel
theorem dX8_takeStocking_179 : decode cX8_takeStocking 179 = .ok (.isub, 1) := by decide +kernel
theorem dX8_takeStocking_180 : decode cX8_takeStocking 180 = .ok (.aaload, 1) := by decide +kernel
theorem dX8_takeStocking_181 : decode cX8_takeStocking 181 = .ok (.astore 7, 2) := by decide +kernel
theorem dX8_takeStocking_183 : decode cX8_takeStocking 183 = .ok (.aload 7, 2) := by decide +kernel
theorem dX8_takeStocking_185 : decode cX8_takeStocking 185 = .ok (.iload 5, 2) := by decide +kernel
theorem dX8_takeStocking_187 : decode cX8_takeStocking 187 = .ok (.putfield 168, 3) := by decide +kernel
theorem dX8_takeStocking_190 : decode cX8_takeStocking 190 = .ok (.aload 7, 2) := by decide +kernel
theorem dX8_takeStocking_192 : decode cX8_takeStocking 192 = .ok (.iload 6, 2) := by decide +kernel
theorem dX8_takeStocking_194 : decode cX8_takeStocking 194 = .ok (.putfield 173, 3) := by decide +kernel
theorem dX8_takeStocking_197 : decode cX8_takeStocking 197 = .ok (.return_, 1) := by decide +kernel
theorem hd_X8_kindHere : yX8_kindHere.cls ≠ "java/lang/invoke/MethodHandle" ∧ yX8_kindHere.cls ≠ "java/lang/invoke/VarHandle" ∧ (parseMethodDescriptor yX8_kindHere.desc).map (fun d => d.parameters.length) = some 0 := by decide +kernel
theorem gv_X8_148 : GoodIn gT (wsV "NylonLadder$Tape" 148 "NylonLadder$Tape" yX8_kindHere (Cond.code yX8_kindHere cX8_kindHere 2 (some .int) :: gT)) := good_V T_2_196 T_2_198 TS_14 T_1_6 T_2_199
theorem hd_X0_addStocking : yX0_addStocking.cls ≠ "java/lang/invoke/MethodHandle" ∧ yX0_addStocking.cls ≠ "java/lang/invoke/VarHandle" ∧ (parseMethodDescriptor yX0_addStocking.desc).map (fun d => d.parameters.length) = some 4 := by decide +kernel
theorem gv_X8_160 : GoodIn gT (wsV "NylonLadder$Tape" 160 "NylonLadder$Drawer" yX0_addStocking (Cond.code yX0_addStocking cX0_addStocking 5 (some .boolean) :: gT)) := good_V T_2_213 T_2_214 T_2_215 T_1_2 T_2_216
theorem fg_X8_164_3 : FdG "NylonLadder$Tape" 164 3 1 true := ⟨_, _, _, _, rfl, by decide, by decide, by decide, gxX0, by decide, T_1_134, Or.inl rfl, rfl⟩
theorem fg_X8_151_3 : FdG "NylonLadder$Tape" 151 3 2 false := ⟨_, _, _, _, rfl, by decide, by decide, by decide, gxX0, by decide, T_1_138, Or.inl rfl, rfl⟩
theorem fp_X8_168_10 : FdP "NylonLadder$Tape" 168 10 6 false .int false := ⟨_, _, _, _, _, rfl, by decide, by decide, by decide, gxX7, by decide, T_1_92, Or.inl rfl, rfl, tyX7_ok, nmX7, by decide +kernel, rfl, fun h => by cases h⟩
theorem fp_X8_173_10 : FdP "NylonLadder$Tape" 173 10 7 false .int false := ⟨_, _, _, _, _, rfl, by decide, by decide, by decide, gxX7, by decide, T_1_95, Or.inl rfl, rfl, tyX7_ok, nmX7, by decide +kernel, rfl, fun h => by cases h⟩
def fX8_takeStocking (M : Mm) (o : Nat) : Option Mm :=
  B1 (gk M o 11) fun _ =>
  B1 (fX8_kindHere M o) fun x1_2 =>
  if x1_2 < 0 then
    B1 (gk M o 11) fun _ =>
    B1 (fX8_take M o 0) fun M27_4 =>
    B1 (gk M27_4 o 11) fun _ =>
    B2 (fX8_takeNumber M27_4 o 0 9) fun x34_6 M34_7 =>
    B1 (gk M34_7 o 11) fun _ =>
    B1 (fX8_isName M34_7 o 16) fun x42_9 =>
    B1 (gk M34_7 o 11) fun _ =>
    B1 (fX8_take M34_7 o x42_9) fun M45_11 =>
    B1 (gk M45_11 o 11) fun _ =>
    B2 (fX8_takeNumber M45_11 o 0 3) fun x51_13 M51_14 =>
    B1 (gk M51_14 o 11) fun _ =>
    B1 (fX8_isName M51_14 o 17) fun x59_16 =>
    B1 (gk M51_14 o 11) fun _ =>
    B1 (fX8_take M51_14 o x59_16) fun M62_18 =>
    B1 (gk M62_18 o 11) fun _ =>
    B2 (fX8_takeNumber M62_18 o 1 30) fun x69_20 M69_21 =>
    B1 (rdI M69_21 o 11 8) fun x83_22 =>
    if 0 ≤ x83_22 then
      B1 (gk M69_21 o 11) fun _ =>
      B1 (fX8_isSign M69_21 o 59) fun x136_24 =>
      B1 (gk M69_21 o 11) fun _ =>
      B1 (fX8_take M69_21 o x136_24) fun M139_26 =>
      B1 (rdI M139_26 o 11 8) fun x143_27 =>
      if 0 ≤ x143_27 then
        some M139_26
      else
        B1 (rdN M139_26 o 11 2) fun a150_28 =>
        B1 (gk M139_26 a150_28 3) fun _ =>
        B2 (fX0_addStocking M139_26 a150_28 x1_2 x34_6 x51_13 x69_20) fun x158_30 M158_31 =>
        if x158_30 = 0 then
          some M158_31
        else
          B1 (rdN M158_31 o 11 2) fun a165_32 =>
          B1 (rdN M158_31 a165_32 3 1) fun a168_33 =>
          B1 (rdN M158_31 o 11 2) fun a172_34 =>
          B1 (rdI M158_31 a172_34 3 2) fun x175_35 =>
          B1 (alN M158_31 a168_33 23 (x175_35 - 1)) fun a180_36 =>
          B1 (wrI M158_31 a180_36 10 6 (-9)) fun M187_37 =>
          B1 (wrI M187_37 a180_36 10 7 (-9)) fun M194_38 =>
          some M194_38
    else
      B1 (gk M69_21 o 11) fun _ =>
      B1 (fX8_isName M69_21 o 18) fun x92_40 =>
      if x92_40 = 0 then
        B1 (gk M69_21 o 11) fun _ =>
        B1 (fX8_isSign M69_21 o 59) fun x136_42 =>
        B1 (gk M69_21 o 11) fun _ =>
        B1 (fX8_take M69_21 o x136_42) fun M139_44 =>
        B1 (rdI M139_44 o 11 8) fun x143_45 =>
        if 0 ≤ x143_45 then
          some M139_44
        else
          B1 (rdN M139_44 o 11 2) fun a150_46 =>
          B1 (gk M139_44 a150_46 3) fun _ =>
          B2 (fX0_addStocking M139_44 a150_46 x1_2 x34_6 x51_13 x69_20) fun x158_48 M158_49 =>
          if x158_48 = 0 then
            some M158_49
          else
            B1 (rdN M158_49 o 11 2) fun a165_50 =>
            B1 (rdN M158_49 a165_50 3 1) fun a168_51 =>
            B1 (rdN M158_49 o 11 2) fun a172_52 =>
            B1 (rdI M158_49 a172_52 3 2) fun x175_53 =>
            B1 (alN M158_49 a168_51 23 (x175_53 - 1)) fun a180_54 =>
            B1 (wrI M158_49 a180_54 10 6 (-9)) fun M187_55 =>
            B1 (wrI M187_55 a180_54 10 7 (-9)) fun M194_56 =>
            some M194_56
      else
        B1 (gk M69_21 o 11) fun _ =>
        B1 (fX8_take M69_21 o 1) fun M100_58 =>
        B1 (gk M100_58 o 11) fun _ =>
        B2 (fX8_takeNumber M100_58 o 0 99) fun x107_60 M107_61 =>
        B1 (gk M107_61 o 11) fun _ =>
        B1 (fX8_isName M107_61 o 19) fun x116_63 =>
        B1 (gk M107_61 o 11) fun _ =>
        B1 (fX8_take M107_61 o x116_63) fun M119_65 =>
        B1 (gk M119_65 o 11) fun _ =>
        B2 (fX8_takeNumber M119_65 o x107_60 99) fun x127_67 M127_68 =>
        B1 (gk M127_68 o 11) fun _ =>
        B1 (fX8_isSign M127_68 o 59) fun x136_70 =>
        B1 (gk M127_68 o 11) fun _ =>
        B1 (fX8_take M127_68 o x136_70) fun M139_72 =>
        B1 (rdI M139_72 o 11 8) fun x143_73 =>
        if 0 ≤ x143_73 then
          some M139_72
        else
          B1 (rdN M139_72 o 11 2) fun a150_74 =>
          B1 (gk M139_72 a150_74 3) fun _ =>
          B2 (fX0_addStocking M139_72 a150_74 x1_2 x34_6 x51_13 x69_20) fun x158_76 M158_77 =>
          if x158_76 = 0 then
            some M158_77
          else
            B1 (rdN M158_77 o 11 2) fun a165_78 =>
            B1 (rdN M158_77 a165_78 3 1) fun a168_79 =>
            B1 (rdN M158_77 o 11 2) fun a172_80 =>
            B1 (rdI M158_77 a172_80 3 2) fun x175_81 =>
            B1 (alN M158_77 a168_79 23 (x175_81 - 1)) fun a180_82 =>
            B1 (wrI M158_77 a180_82 10 6 x107_60) fun M187_83 =>
            B1 (wrI M187_83 a180_82 10 7 x127_67) fun M194_84 =>
            some M194_84
  else
    B1 (rdN M o 11 2) fun a11_85 =>
    B1 (rdI M a11_85 3 2) fun x14_86 =>
    if 8 ≤ x14_86 then
      B1 (gk M o 11) fun _ =>
      B1 (fX8_take M o 0) fun M27_88 =>
      B1 (gk M27_88 o 11) fun _ =>
      B2 (fX8_takeNumber M27_88 o 0 9) fun x34_90 M34_91 =>
      B1 (gk M34_91 o 11) fun _ =>
      B1 (fX8_isName M34_91 o 16) fun x42_93 =>
      B1 (gk M34_91 o 11) fun _ =>
      B1 (fX8_take M34_91 o x42_93) fun M45_95 =>
      B1 (gk M45_95 o 11) fun _ =>
      B2 (fX8_takeNumber M45_95 o 0 3) fun x51_97 M51_98 =>
      B1 (gk M51_98 o 11) fun _ =>
      B1 (fX8_isName M51_98 o 17) fun x59_100 =>
      B1 (gk M51_98 o 11) fun _ =>
      B1 (fX8_take M51_98 o x59_100) fun M62_102 =>
      B1 (gk M62_102 o 11) fun _ =>
      B2 (fX8_takeNumber M62_102 o 1 30) fun x69_104 M69_105 =>
      B1 (rdI M69_105 o 11 8) fun x83_106 =>
      if 0 ≤ x83_106 then
        B1 (gk M69_105 o 11) fun _ =>
        B1 (fX8_isSign M69_105 o 59) fun x136_108 =>
        B1 (gk M69_105 o 11) fun _ =>
        B1 (fX8_take M69_105 o x136_108) fun M139_110 =>
        B1 (rdI M139_110 o 11 8) fun x143_111 =>
        if 0 ≤ x143_111 then
          some M139_110
        else
          B1 (rdN M139_110 o 11 2) fun a150_112 =>
          B1 (gk M139_110 a150_112 3) fun _ =>
          B2 (fX0_addStocking M139_110 a150_112 x1_2 x34_90 x51_97 x69_104) fun x158_114 M158_115 =>
          if x158_114 = 0 then
            some M158_115
          else
            B1 (rdN M158_115 o 11 2) fun a165_116 =>
            B1 (rdN M158_115 a165_116 3 1) fun a168_117 =>
            B1 (rdN M158_115 o 11 2) fun a172_118 =>
            B1 (rdI M158_115 a172_118 3 2) fun x175_119 =>
            B1 (alN M158_115 a168_117 23 (x175_119 - 1)) fun a180_120 =>
            B1 (wrI M158_115 a180_120 10 6 (-9)) fun M187_121 =>
            B1 (wrI M187_121 a180_120 10 7 (-9)) fun M194_122 =>
            some M194_122
      else
        B1 (gk M69_105 o 11) fun _ =>
        B1 (fX8_isName M69_105 o 18) fun x92_124 =>
        if x92_124 = 0 then
          B1 (gk M69_105 o 11) fun _ =>
          B1 (fX8_isSign M69_105 o 59) fun x136_126 =>
          B1 (gk M69_105 o 11) fun _ =>
          B1 (fX8_take M69_105 o x136_126) fun M139_128 =>
          B1 (rdI M139_128 o 11 8) fun x143_129 =>
          if 0 ≤ x143_129 then
            some M139_128
          else
            B1 (rdN M139_128 o 11 2) fun a150_130 =>
            B1 (gk M139_128 a150_130 3) fun _ =>
            B2 (fX0_addStocking M139_128 a150_130 x1_2 x34_90 x51_97 x69_104) fun x158_132 M158_133 =>
            if x158_132 = 0 then
              some M158_133
            else
              B1 (rdN M158_133 o 11 2) fun a165_134 =>
              B1 (rdN M158_133 a165_134 3 1) fun a168_135 =>
              B1 (rdN M158_133 o 11 2) fun a172_136 =>
              B1 (rdI M158_133 a172_136 3 2) fun x175_137 =>
              B1 (alN M158_133 a168_135 23 (x175_137 - 1)) fun a180_138 =>
              B1 (wrI M158_133 a180_138 10 6 (-9)) fun M187_139 =>
              B1 (wrI M187_139 a180_138 10 7 (-9)) fun M194_140 =>
              some M194_140
        else
          B1 (gk M69_105 o 11) fun _ =>
          B1 (fX8_take M69_105 o 1) fun M100_142 =>
          B1 (gk M100_142 o 11) fun _ =>
          B2 (fX8_takeNumber M100_142 o 0 99) fun x107_144 M107_145 =>
          B1 (gk M107_145 o 11) fun _ =>
          B1 (fX8_isName M107_145 o 19) fun x116_147 =>
          B1 (gk M107_145 o 11) fun _ =>
          B1 (fX8_take M107_145 o x116_147) fun M119_149 =>
          B1 (gk M119_149 o 11) fun _ =>
          B2 (fX8_takeNumber M119_149 o x107_144 99) fun x127_151 M127_152 =>
          B1 (gk M127_152 o 11) fun _ =>
          B1 (fX8_isSign M127_152 o 59) fun x136_154 =>
          B1 (gk M127_152 o 11) fun _ =>
          B1 (fX8_take M127_152 o x136_154) fun M139_156 =>
          B1 (rdI M139_156 o 11 8) fun x143_157 =>
          if 0 ≤ x143_157 then
            some M139_156
          else
            B1 (rdN M139_156 o 11 2) fun a150_158 =>
            B1 (gk M139_156 a150_158 3) fun _ =>
            B2 (fX0_addStocking M139_156 a150_158 x1_2 x34_90 x51_97 x69_104) fun x158_160 M158_161 =>
            if x158_160 = 0 then
              some M158_161
            else
              B1 (rdN M158_161 o 11 2) fun a165_162 =>
              B1 (rdN M158_161 a165_162 3 1) fun a168_163 =>
              B1 (rdN M158_161 o 11 2) fun a172_164 =>
              B1 (rdI M158_161 a172_164 3 2) fun x175_165 =>
              B1 (alN M158_161 a168_163 23 (x175_165 - 1)) fun a180_166 =>
              B1 (wrI M158_161 a180_166 10 6 x107_144) fun M187_167 =>
              B1 (wrI M187_167 a180_166 10 7 x127_151) fun M194_168 =>
              some M194_168
    else
      B1 (gk M o 11) fun _ =>
      B1 (fX8_take M o 1) fun M27_170 =>
      B1 (gk M27_170 o 11) fun _ =>
      B2 (fX8_takeNumber M27_170 o 0 9) fun x34_172 M34_173 =>
      B1 (gk M34_173 o 11) fun _ =>
      B1 (fX8_isName M34_173 o 16) fun x42_175 =>
      B1 (gk M34_173 o 11) fun _ =>
      B1 (fX8_take M34_173 o x42_175) fun M45_177 =>
      B1 (gk M45_177 o 11) fun _ =>
      B2 (fX8_takeNumber M45_177 o 0 3) fun x51_179 M51_180 =>
      B1 (gk M51_180 o 11) fun _ =>
      B1 (fX8_isName M51_180 o 17) fun x59_182 =>
      B1 (gk M51_180 o 11) fun _ =>
      B1 (fX8_take M51_180 o x59_182) fun M62_184 =>
      B1 (gk M62_184 o 11) fun _ =>
      B2 (fX8_takeNumber M62_184 o 1 30) fun x69_186 M69_187 =>
      B1 (rdI M69_187 o 11 8) fun x83_188 =>
      if 0 ≤ x83_188 then
        B1 (gk M69_187 o 11) fun _ =>
        B1 (fX8_isSign M69_187 o 59) fun x136_190 =>
        B1 (gk M69_187 o 11) fun _ =>
        B1 (fX8_take M69_187 o x136_190) fun M139_192 =>
        B1 (rdI M139_192 o 11 8) fun x143_193 =>
        if 0 ≤ x143_193 then
          some M139_192
        else
          B1 (rdN M139_192 o 11 2) fun a150_194 =>
          B1 (gk M139_192 a150_194 3) fun _ =>
          B2 (fX0_addStocking M139_192 a150_194 x1_2 x34_172 x51_179 x69_186) fun x158_196 M158_197 =>
          if x158_196 = 0 then
            some M158_197
          else
            B1 (rdN M158_197 o 11 2) fun a165_198 =>
            B1 (rdN M158_197 a165_198 3 1) fun a168_199 =>
            B1 (rdN M158_197 o 11 2) fun a172_200 =>
            B1 (rdI M158_197 a172_200 3 2) fun x175_201 =>
            B1 (alN M158_197 a168_199 23 (x175_201 - 1)) fun a180_202 =>
            B1 (wrI M158_197 a180_202 10 6 (-9)) fun M187_203 =>
            B1 (wrI M187_203 a180_202 10 7 (-9)) fun M194_204 =>
            some M194_204
      else
        B1 (gk M69_187 o 11) fun _ =>
        B1 (fX8_isName M69_187 o 18) fun x92_206 =>
        if x92_206 = 0 then
          B1 (gk M69_187 o 11) fun _ =>
          B1 (fX8_isSign M69_187 o 59) fun x136_208 =>
          B1 (gk M69_187 o 11) fun _ =>
          B1 (fX8_take M69_187 o x136_208) fun M139_210 =>
          B1 (rdI M139_210 o 11 8) fun x143_211 =>
          if 0 ≤ x143_211 then
            some M139_210
          else
            B1 (rdN M139_210 o 11 2) fun a150_212 =>
            B1 (gk M139_210 a150_212 3) fun _ =>
            B2 (fX0_addStocking M139_210 a150_212 x1_2 x34_172 x51_179 x69_186) fun x158_214 M158_215 =>
            if x158_214 = 0 then
              some M158_215
            else
              B1 (rdN M158_215 o 11 2) fun a165_216 =>
              B1 (rdN M158_215 a165_216 3 1) fun a168_217 =>
              B1 (rdN M158_215 o 11 2) fun a172_218 =>
              B1 (rdI M158_215 a172_218 3 2) fun x175_219 =>
              B1 (alN M158_215 a168_217 23 (x175_219 - 1)) fun a180_220 =>
              B1 (wrI M158_215 a180_220 10 6 (-9)) fun M187_221 =>
              B1 (wrI M187_221 a180_220 10 7 (-9)) fun M194_222 =>
              some M194_222
        else
          B1 (gk M69_187 o 11) fun _ =>
          B1 (fX8_take M69_187 o 1) fun M100_224 =>
          B1 (gk M100_224 o 11) fun _ =>
          B2 (fX8_takeNumber M100_224 o 0 99) fun x107_226 M107_227 =>
          B1 (gk M107_227 o 11) fun _ =>
          B1 (fX8_isName M107_227 o 19) fun x116_229 =>
          B1 (gk M107_227 o 11) fun _ =>
          B1 (fX8_take M107_227 o x116_229) fun M119_231 =>
          B1 (gk M119_231 o 11) fun _ =>
          B2 (fX8_takeNumber M119_231 o x107_226 99) fun x127_233 M127_234 =>
          B1 (gk M127_234 o 11) fun _ =>
          B1 (fX8_isSign M127_234 o 59) fun x136_236 =>
          B1 (gk M127_234 o 11) fun _ =>
          B1 (fX8_take M127_234 o x136_236) fun M139_238 =>
          B1 (rdI M139_238 o 11 8) fun x143_239 =>
          if 0 ≤ x143_239 then
            some M139_238
          else
            B1 (rdN M139_238 o 11 2) fun a150_240 =>
            B1 (gk M139_238 a150_240 3) fun _ =>
            B2 (fX0_addStocking M139_238 a150_240 x1_2 x34_172 x51_179 x69_186) fun x158_242 M158_243 =>
            if x158_242 = 0 then
              some M158_243
            else
              B1 (rdN M158_243 o 11 2) fun a165_244 =>
              B1 (rdN M158_243 a165_244 3 1) fun a168_245 =>
              B1 (rdN M158_243 o 11 2) fun a172_246 =>
              B1 (rdI M158_243 a172_246 3 2) fun x175_247 =>
              B1 (alN M158_243 a168_245 23 (x175_247 - 1)) fun a180_248 =>
              B1 (wrI M158_243 a180_248 10 6 x107_226) fun M187_249 =>
              B1 (wrI M187_249 a180_248 10 7 x127_233) fun M194_250 =>
              some M194_250
set_option maxRecDepth 100000 in
set_option maxHeartbeats 4000000 in
theorem qX8_takeStocking (l : Launch) (E : Ev) {M : Mm} {o : Nat} {Mz : Mm} (hf : fX8_takeStocking M o = some Mz) : Ct l E yX8_takeStocking cX8_takeStocking 8 none 6 129 0 0 [.ref (E.b + o)] M none Mz := by
  refine ct_of (by decide +kernel) (Nat.le_of_ble_eq_true rfl) fun p e s m args below meth c C hr hin hW ls hl => ?_
  have hl : lv_has ls 8 [(0, .ref (E.b + o))] := hl
  unfold fX8_takeStocking at hf
  refine lv_aload_n C.x C.b dX8_takeStocking_0 rfl (lv_at hl 0 rfl) ?_
  replace hf := x_b1 hf; obtain ⟨_, hk1_1, hf⟩ := hf
  replace hf := x_b1 hf; obtain ⟨x1_2, hx1_2, hf⟩ := hf
  refine x_callV (As := []) (a := o) (rest := []) C hW hl (qX8_kindHere l E hx1_2) (x_gk hk1_1) (by decide) (by decide) rfl gv_X8_148 ⟨rfl, hd_X8_kindHere⟩ rfl rfl (Nat.le_of_ble_eq_true rfl) dX8_takeStocking_1 ⟨Nat.le_of_ble_eq_true rfl, Nat.le_of_ble_eq_true rfl⟩ ⟨Nat.le_of_ble_eq_true rfl, Nat.le_of_ble_eq_true rfl⟩ (fun H locs hW => ?_)
  refine lv_istore_n (lv' := [(1, .int _), (0, .ref (E.b + _))]) C.x C.b dX8_takeStocking_4 rfl hl (by decide) rfl (fun ls hl => ?_)
  refine lv_aload_n C.x C.b dX8_takeStocking_5 rfl (lv_at hl 1 rfl) ?_
  refine lv_iload_n C.x C.b dX8_takeStocking_6 rfl (lv_at hl 0 rfl) ?_
  refine lv_if_lt (tgt := 26) C.x C.b dX8_takeStocking_7 rfl (fun c7 => ?_) (fun c7 => ?_)
  · replace hf := x_ip c7 hf
    refine lv_iconst (v := 0) C.x C.b dX8_takeStocking_26 (by decide) ?_
    replace hf := x_b1 hf; obtain ⟨_, hk27_3, hf⟩ := hf
    replace hf := x_b1 hf; obtain ⟨M27_4, hM27_4, hf⟩ := hf
    refine x_callV (As := [.int 0]) (a := o) (rest := []) C hW hl (qX8_take l E hM27_4) (x_gk hk27_3) (by decide) (by decide) rfl gv_X8_99 ⟨rfl, hd_X8_take⟩ rfl rfl (Nat.le_of_ble_eq_true rfl) dX8_takeStocking_27 ⟨Nat.le_of_ble_eq_true rfl, Nat.le_of_ble_eq_true rfl⟩ ⟨Nat.le_of_ble_eq_true rfl, Nat.le_of_ble_eq_true rfl⟩ (fun H locs hW => ?_)
    refine lv_aload_n C.x C.b dX8_takeStocking_30 rfl (lv_at hl 1 rfl) ?_
    refine lv_iconst (v := 0) C.x C.b dX8_takeStocking_31 (by decide) ?_
    refine lv_bipush (v := 9) C.x C.b dX8_takeStocking_32 (by decide) ?_
    replace hf := x_b1 hf; obtain ⟨_, hk34_5, hf⟩ := hf
    replace hf := x_b2 hf; obtain ⟨x34_6, M34_7, hx34_6, hf⟩ := hf
    refine x_callV (As := [.int 0, .int 9]) (a := o) (rest := []) C hW hl (qX8_takeNumber l E hx34_6) (x_gk hk34_5) (by decide) (by decide) rfl gv_X8_128 ⟨rfl, hd_X8_takeNumber⟩ rfl rfl (Nat.le_of_ble_eq_true rfl) dX8_takeStocking_34 ⟨Nat.le_of_ble_eq_true rfl, Nat.le_of_ble_eq_true rfl⟩ ⟨Nat.le_of_ble_eq_true rfl, Nat.le_of_ble_eq_true rfl⟩ (fun H locs hW => ?_)
    refine lv_istore_n (lv' := [(2, .int _), (1, .int _), (0, .ref (E.b + _))]) C.x C.b dX8_takeStocking_37 rfl hl (by decide) rfl (fun ls hl => ?_)
    refine lv_aload_n C.x C.b dX8_takeStocking_38 rfl (lv_at hl 2 rfl) ?_
    refine lv_aload_n C.x C.b dX8_takeStocking_39 rfl (lv_at hl 2 rfl) ?_
    refine x_ldcS (q := 16) (tx := "shade") C (by decide +kernel) dX8_takeStocking_40 ?_
    replace hf := x_b1 hf; obtain ⟨_, hk42_8, hf⟩ := hf
    replace hf := x_b1 hf; obtain ⟨x42_9, hx42_9, hf⟩ := hf
    refine x_callV (As := [.ref (E.x (100 + 16))]) (a := o) (rest := [.ref (E.b + o)]) C hW hl (qX8_isName l E hx42_9) (x_gk hk42_8) (by decide) (by decide) rfl gv_X8_67 ⟨rfl, hd_X8_isName⟩ rfl rfl (Nat.le_of_ble_eq_true rfl) dX8_takeStocking_42 ⟨Nat.le_of_ble_eq_true rfl, Nat.le_of_ble_eq_true rfl⟩ ⟨Nat.le_of_ble_eq_true rfl, Nat.le_of_ble_eq_true rfl⟩ (fun H locs hW => ?_)
    replace hf := x_b1 hf; obtain ⟨_, hk45_10, hf⟩ := hf
    replace hf := x_b1 hf; obtain ⟨M45_11, hM45_11, hf⟩ := hf
    refine x_callV (As := [.int x42_9]) (a := o) (rest := []) C hW hl (qX8_take l E hM45_11) (x_gk hk45_10) (by decide) (by decide) rfl gv_X8_99 ⟨rfl, hd_X8_take⟩ rfl rfl (Nat.le_of_ble_eq_true rfl) dX8_takeStocking_45 ⟨Nat.le_of_ble_eq_true rfl, Nat.le_of_ble_eq_true rfl⟩ ⟨Nat.le_of_ble_eq_true rfl, Nat.le_of_ble_eq_true rfl⟩ (fun H locs hW => ?_)
    refine lv_aload_n C.x C.b dX8_takeStocking_48 rfl (lv_at hl 2 rfl) ?_
    refine lv_iconst (v := 0) C.x C.b dX8_takeStocking_49 (by decide) ?_
    refine lv_iconst (v := 3) C.x C.b dX8_takeStocking_50 (by decide) ?_
    replace hf := x_b1 hf; obtain ⟨_, hk51_12, hf⟩ := hf
    replace hf := x_b2 hf; obtain ⟨x51_13, M51_14, hx51_13, hf⟩ := hf
    refine x_callV (As := [.int 0, .int 3]) (a := o) (rest := []) C hW hl (qX8_takeNumber l E hx51_13) (x_gk hk51_12) (by decide) (by decide) rfl gv_X8_128 ⟨rfl, hd_X8_takeNumber⟩ rfl rfl (Nat.le_of_ble_eq_true rfl) dX8_takeStocking_51 ⟨Nat.le_of_ble_eq_true rfl, Nat.le_of_ble_eq_true rfl⟩ ⟨Nat.le_of_ble_eq_true rfl, Nat.le_of_ble_eq_true rfl⟩ (fun H locs hW => ?_)
    refine lv_istore_n (lv' := [(3, .int _), (2, .int _), (1, .int _), (0, .ref (E.b + _))]) C.x C.b dX8_takeStocking_54 rfl hl (by decide) rfl (fun ls hl => ?_)
    refine lv_aload_n C.x C.b dX8_takeStocking_55 rfl (lv_at hl 3 rfl) ?_
    refine lv_aload_n C.x C.b dX8_takeStocking_56 rfl (lv_at hl 3 rfl) ?_
    refine x_ldcS (q := 17) (tx := "lasts") C (by decide +kernel) dX8_takeStocking_57 ?_
    replace hf := x_b1 hf; obtain ⟨_, hk59_15, hf⟩ := hf
    replace hf := x_b1 hf; obtain ⟨x59_16, hx59_16, hf⟩ := hf
    refine x_callV (As := [.ref (E.x (100 + 17))]) (a := o) (rest := [.ref (E.b + o)]) C hW hl (qX8_isName l E hx59_16) (x_gk hk59_15) (by decide) (by decide) rfl gv_X8_67 ⟨rfl, hd_X8_isName⟩ rfl rfl (Nat.le_of_ble_eq_true rfl) dX8_takeStocking_59 ⟨Nat.le_of_ble_eq_true rfl, Nat.le_of_ble_eq_true rfl⟩ ⟨Nat.le_of_ble_eq_true rfl, Nat.le_of_ble_eq_true rfl⟩ (fun H locs hW => ?_)
    replace hf := x_b1 hf; obtain ⟨_, hk62_17, hf⟩ := hf
    replace hf := x_b1 hf; obtain ⟨M62_18, hM62_18, hf⟩ := hf
    refine x_callV (As := [.int x59_16]) (a := o) (rest := []) C hW hl (qX8_take l E hM62_18) (x_gk hk62_17) (by decide) (by decide) rfl gv_X8_99 ⟨rfl, hd_X8_take⟩ rfl rfl (Nat.le_of_ble_eq_true rfl) dX8_takeStocking_62 ⟨Nat.le_of_ble_eq_true rfl, Nat.le_of_ble_eq_true rfl⟩ ⟨Nat.le_of_ble_eq_true rfl, Nat.le_of_ble_eq_true rfl⟩ (fun H locs hW => ?_)
    refine lv_aload_n C.x C.b dX8_takeStocking_65 rfl (lv_at hl 3 rfl) ?_
    refine lv_iconst (v := 1) C.x C.b dX8_takeStocking_66 (by decide) ?_
    refine lv_bipush (v := 30) C.x C.b dX8_takeStocking_67 (by decide) ?_
    replace hf := x_b1 hf; obtain ⟨_, hk69_19, hf⟩ := hf
    replace hf := x_b2 hf; obtain ⟨x69_20, M69_21, hx69_20, hf⟩ := hf
    refine x_callV (As := [.int 1, .int 30]) (a := o) (rest := []) C hW hl (qX8_takeNumber l E hx69_20) (x_gk hk69_19) (by decide) (by decide) rfl gv_X8_128 ⟨rfl, hd_X8_takeNumber⟩ rfl rfl (Nat.le_of_ble_eq_true rfl) dX8_takeStocking_69 ⟨Nat.le_of_ble_eq_true rfl, Nat.le_of_ble_eq_true rfl⟩ ⟨Nat.le_of_ble_eq_true rfl, Nat.le_of_ble_eq_true rfl⟩ (fun H locs hW => ?_)
    refine lv_istore (lv' := [(4, .int _), (3, .int _), (2, .int _), (1, .int _), (0, .ref (E.b + _))]) C.x C.b dX8_takeStocking_72 hl (by decide) rfl (fun ls hl => ?_)
    refine lv_bipush (v := (-9)) C.x C.b dX8_takeStocking_74 (by decide) ?_
    refine lv_istore (lv' := [(5, .int _), (4, .int _), (3, .int _), (2, .int _), (1, .int _), (0, .ref (E.b + _))]) C.x C.b dX8_takeStocking_76 hl (by decide) rfl (fun ls hl => ?_)
    refine lv_bipush (v := (-9)) C.x C.b dX8_takeStocking_78 (by decide) ?_
    refine lv_istore (lv' := [(6, .int _), (5, .int _), (4, .int _), (3, .int _), (2, .int _), (1, .int _), (0, .ref (E.b + _))]) C.x C.b dX8_takeStocking_80 hl (by decide) rfl (fun ls hl => ?_)
    refine lv_aload_n C.x C.b dX8_takeStocking_82 rfl (lv_at hl 6 rfl) ?_
    replace hf := x_b1 hf; obtain ⟨x83_22, hx83_22, hf⟩ := hf
    refine x_geti C hW fg_X8_41_11 hx83_22 dX8_takeStocking_83 ?_
    refine lv_if_ge (tgt := 132) C.x C.b dX8_takeStocking_86 rfl (fun c86 => ?_) (fun c86 => ?_)
    · replace hf := x_ip c86 hf
      refine lv_aload_n C.x C.b dX8_takeStocking_132 rfl (lv_at hl 6 rfl) ?_
      refine lv_aload_n C.x C.b dX8_takeStocking_133 rfl (lv_at hl 6 rfl) ?_
      refine lv_bipush (v := 59) C.x C.b dX8_takeStocking_134 (by decide) ?_
      replace hf := x_b1 hf; obtain ⟨_, hk136_23, hf⟩ := hf
      replace hf := x_b1 hf; obtain ⟨x136_24, hx136_24, hf⟩ := hf
      refine x_callV (As := [.int 59]) (a := o) (rest := [.ref (E.b + o)]) C hW hl (qX8_isSign l E hx136_24) (x_gk hk136_23) (by decide) (by decide) rfl gv_X8_115 ⟨rfl, hd_X8_isSign⟩ rfl rfl (Nat.le_of_ble_eq_true rfl) dX8_takeStocking_136 ⟨Nat.le_of_ble_eq_true rfl, Nat.le_of_ble_eq_true rfl⟩ ⟨Nat.le_of_ble_eq_true rfl, Nat.le_of_ble_eq_true rfl⟩ (fun H locs hW => ?_)
      replace hf := x_b1 hf; obtain ⟨_, hk139_25, hf⟩ := hf
      replace hf := x_b1 hf; obtain ⟨M139_26, hM139_26, hf⟩ := hf
      refine x_callV (As := [.int x136_24]) (a := o) (rest := []) C hW hl (qX8_take l E hM139_26) (x_gk hk139_25) (by decide) (by decide) rfl gv_X8_99 ⟨rfl, hd_X8_take⟩ rfl rfl (Nat.le_of_ble_eq_true rfl) dX8_takeStocking_139 ⟨Nat.le_of_ble_eq_true rfl, Nat.le_of_ble_eq_true rfl⟩ ⟨Nat.le_of_ble_eq_true rfl, Nat.le_of_ble_eq_true rfl⟩ (fun H locs hW => ?_)
      refine lv_aload_n C.x C.b dX8_takeStocking_142 rfl (lv_at hl 6 rfl) ?_
      replace hf := x_b1 hf; obtain ⟨x143_27, hx143_27, hf⟩ := hf
      refine x_geti C hW fg_X8_41_11 hx143_27 dX8_takeStocking_143 ?_
      refine lv_if_ge (tgt := 197) C.x C.b dX8_takeStocking_146 rfl (fun c146 => ?_) (fun c146 => ?_)
      · replace hf := x_ip c146 hf
        rw [x_e0 hf]
        exact x_vret C hr hW dX8_takeStocking_197
      · replace hf := x_in c146 hf
        refine lv_aload_n C.x C.b dX8_takeStocking_149 rfl (lv_at hl 6 rfl) ?_
        replace hf := x_b1 hf; obtain ⟨a150_28, ha150_28, hf⟩ := hf
        refine x_getn C hW fg_X8_22_11 ha150_28 dX8_takeStocking_150 ?_
        refine lv_iload_n C.x C.b dX8_takeStocking_153 rfl (lv_at hl 5 rfl) ?_
        refine lv_iload_n C.x C.b dX8_takeStocking_154 rfl (lv_at hl 4 rfl) ?_
        refine lv_iload_n C.x C.b dX8_takeStocking_155 rfl (lv_at hl 3 rfl) ?_
        refine lv_iload C.x C.b dX8_takeStocking_156 (lv_at hl 2 rfl) ?_
        replace hf := x_b1 hf; obtain ⟨_, hk158_29, hf⟩ := hf
        replace hf := x_b2 hf; obtain ⟨x158_30, M158_31, hx158_30, hf⟩ := hf
        refine x_callV (As := [.int x1_2, .int x34_6, .int x51_13, .int x69_20]) (a := a150_28) (rest := []) C hW hl (qX0_addStocking l E hx158_30) (x_gk hk158_29) (by decide) (by decide) rfl gv_X8_160 ⟨rfl, hd_X0_addStocking⟩ rfl rfl (Nat.le_of_ble_eq_true rfl) dX8_takeStocking_158 ⟨Nat.le_of_ble_eq_true rfl, Nat.le_of_ble_eq_true rfl⟩ ⟨Nat.le_of_ble_eq_true rfl, Nat.le_of_ble_eq_true rfl⟩ (fun H locs hW => ?_)
        refine lv_if_eq (tgt := 197) C.x C.b dX8_takeStocking_161 rfl (fun c161 => ?_) (fun c161 => ?_)
        · replace hf := x_ip c161 hf
          rw [x_e0 hf]
          exact x_vret C hr hW dX8_takeStocking_197
        · replace hf := x_in c161 hf
          refine lv_aload_n C.x C.b dX8_takeStocking_164 rfl (lv_at hl 6 rfl) ?_
          replace hf := x_b1 hf; obtain ⟨a165_32, ha165_32, hf⟩ := hf
          refine x_getn C hW fg_X8_22_11 ha165_32 dX8_takeStocking_165 ?_
          replace hf := x_b1 hf; obtain ⟨a168_33, ha168_33, hf⟩ := hf
          refine x_getn C hW fg_X8_164_3 ha168_33 dX8_takeStocking_168 ?_
          refine lv_aload_n C.x C.b dX8_takeStocking_171 rfl (lv_at hl 6 rfl) ?_
          replace hf := x_b1 hf; obtain ⟨a172_34, ha172_34, hf⟩ := hf
          refine x_getn C hW fg_X8_22_11 ha172_34 dX8_takeStocking_172 ?_
          replace hf := x_b1 hf; obtain ⟨x175_35, hx175_35, hf⟩ := hf
          refine x_geti C hW fg_X8_151_3 hx175_35 dX8_takeStocking_175 ?_
          refine lv_iconst (v := 1) C.x C.b dX8_takeStocking_178 (by decide) ?_
          refine lv_isub C.x C.b dX8_takeStocking_179 ?_
          replace hf := x_b1 hf; obtain ⟨a180_36, ha180_36, hf⟩ := hf
          refine x_aldn C hW (kd := 23) (by decide) (by decide) ha180_36 dX8_takeStocking_180 ?_
          refine lv_astore (lv' := [(7, .ref (E.b + _)), (6, .int _), (5, .int _), (4, .int _), (3, .int _), (2, .int _), (1, .int _), (0, .ref (E.b + _))]) C.x C.b dX8_takeStocking_181 hl (by decide) rfl (fun ls hl => ?_)
          refine lv_aload C.x C.b dX8_takeStocking_183 (lv_at hl 0 rfl) ?_
          refine lv_iload C.x C.b dX8_takeStocking_185 (lv_at hl 2 rfl) ?_
          replace hf := x_b1 hf; obtain ⟨M187_37, hM187_37, hf⟩ := hf
          refine x_puti C hW fp_X8_168_10 hM187_37 (fun h => by cases h) dX8_takeStocking_187 (fun H locs hW => ?_)
          refine lv_aload C.x C.b dX8_takeStocking_190 (lv_at hl 0 rfl) ?_
          refine lv_iload C.x C.b dX8_takeStocking_192 (lv_at hl 1 rfl) ?_
          replace hf := x_b1 hf; obtain ⟨M194_38, hM194_38, hf⟩ := hf
          refine x_puti C hW fp_X8_173_10 hM194_38 (fun h => by cases h) dX8_takeStocking_194 (fun H locs hW => ?_)
          rw [x_e0 hf]
          exact x_vret C hr hW dX8_takeStocking_197
    · replace hf := x_in c86 hf
      refine lv_aload_n C.x C.b dX8_takeStocking_89 rfl (lv_at hl 6 rfl) ?_
      refine x_ldcS (q := 18) (tx := "ladder") C (by decide +kernel) dX8_takeStocking_90 ?_
      replace hf := x_b1 hf; obtain ⟨_, hk92_39, hf⟩ := hf
      replace hf := x_b1 hf; obtain ⟨x92_40, hx92_40, hf⟩ := hf
      refine x_callV (As := [.ref (E.x (100 + 18))]) (a := o) (rest := []) C hW hl (qX8_isName l E hx92_40) (x_gk hk92_39) (by decide) (by decide) rfl gv_X8_67 ⟨rfl, hd_X8_isName⟩ rfl rfl (Nat.le_of_ble_eq_true rfl) dX8_takeStocking_92 ⟨Nat.le_of_ble_eq_true rfl, Nat.le_of_ble_eq_true rfl⟩ ⟨Nat.le_of_ble_eq_true rfl, Nat.le_of_ble_eq_true rfl⟩ (fun H locs hW => ?_)
      refine lv_if_eq (tgt := 132) C.x C.b dX8_takeStocking_95 rfl (fun c95 => ?_) (fun c95 => ?_)
      · replace hf := x_ip c95 hf
        refine lv_aload_n C.x C.b dX8_takeStocking_132 rfl (lv_at hl 6 rfl) ?_
        refine lv_aload_n C.x C.b dX8_takeStocking_133 rfl (lv_at hl 6 rfl) ?_
        refine lv_bipush (v := 59) C.x C.b dX8_takeStocking_134 (by decide) ?_
        replace hf := x_b1 hf; obtain ⟨_, hk136_41, hf⟩ := hf
        replace hf := x_b1 hf; obtain ⟨x136_42, hx136_42, hf⟩ := hf
        refine x_callV (As := [.int 59]) (a := o) (rest := [.ref (E.b + o)]) C hW hl (qX8_isSign l E hx136_42) (x_gk hk136_41) (by decide) (by decide) rfl gv_X8_115 ⟨rfl, hd_X8_isSign⟩ rfl rfl (Nat.le_of_ble_eq_true rfl) dX8_takeStocking_136 ⟨Nat.le_of_ble_eq_true rfl, Nat.le_of_ble_eq_true rfl⟩ ⟨Nat.le_of_ble_eq_true rfl, Nat.le_of_ble_eq_true rfl⟩ (fun H locs hW => ?_)
        replace hf := x_b1 hf; obtain ⟨_, hk139_43, hf⟩ := hf
        replace hf := x_b1 hf; obtain ⟨M139_44, hM139_44, hf⟩ := hf
        refine x_callV (As := [.int x136_42]) (a := o) (rest := []) C hW hl (qX8_take l E hM139_44) (x_gk hk139_43) (by decide) (by decide) rfl gv_X8_99 ⟨rfl, hd_X8_take⟩ rfl rfl (Nat.le_of_ble_eq_true rfl) dX8_takeStocking_139 ⟨Nat.le_of_ble_eq_true rfl, Nat.le_of_ble_eq_true rfl⟩ ⟨Nat.le_of_ble_eq_true rfl, Nat.le_of_ble_eq_true rfl⟩ (fun H locs hW => ?_)
        refine lv_aload_n C.x C.b dX8_takeStocking_142 rfl (lv_at hl 6 rfl) ?_
        replace hf := x_b1 hf; obtain ⟨x143_45, hx143_45, hf⟩ := hf
        refine x_geti C hW fg_X8_41_11 hx143_45 dX8_takeStocking_143 ?_
        refine lv_if_ge (tgt := 197) C.x C.b dX8_takeStocking_146 rfl (fun c146 => ?_) (fun c146 => ?_)
        · replace hf := x_ip c146 hf
          rw [x_e0 hf]
          exact x_vret C hr hW dX8_takeStocking_197
        · replace hf := x_in c146 hf
          refine lv_aload_n C.x C.b dX8_takeStocking_149 rfl (lv_at hl 6 rfl) ?_
          replace hf := x_b1 hf; obtain ⟨a150_46, ha150_46, hf⟩ := hf
          refine x_getn C hW fg_X8_22_11 ha150_46 dX8_takeStocking_150 ?_
          refine lv_iload_n C.x C.b dX8_takeStocking_153 rfl (lv_at hl 5 rfl) ?_
          refine lv_iload_n C.x C.b dX8_takeStocking_154 rfl (lv_at hl 4 rfl) ?_
          refine lv_iload_n C.x C.b dX8_takeStocking_155 rfl (lv_at hl 3 rfl) ?_
          refine lv_iload C.x C.b dX8_takeStocking_156 (lv_at hl 2 rfl) ?_
          replace hf := x_b1 hf; obtain ⟨_, hk158_47, hf⟩ := hf
          replace hf := x_b2 hf; obtain ⟨x158_48, M158_49, hx158_48, hf⟩ := hf
          refine x_callV (As := [.int x1_2, .int x34_6, .int x51_13, .int x69_20]) (a := a150_46) (rest := []) C hW hl (qX0_addStocking l E hx158_48) (x_gk hk158_47) (by decide) (by decide) rfl gv_X8_160 ⟨rfl, hd_X0_addStocking⟩ rfl rfl (Nat.le_of_ble_eq_true rfl) dX8_takeStocking_158 ⟨Nat.le_of_ble_eq_true rfl, Nat.le_of_ble_eq_true rfl⟩ ⟨Nat.le_of_ble_eq_true rfl, Nat.le_of_ble_eq_true rfl⟩ (fun H locs hW => ?_)
          refine lv_if_eq (tgt := 197) C.x C.b dX8_takeStocking_161 rfl (fun c161 => ?_) (fun c161 => ?_)
          · replace hf := x_ip c161 hf
            rw [x_e0 hf]
            exact x_vret C hr hW dX8_takeStocking_197
          · replace hf := x_in c161 hf
            refine lv_aload_n C.x C.b dX8_takeStocking_164 rfl (lv_at hl 6 rfl) ?_
            replace hf := x_b1 hf; obtain ⟨a165_50, ha165_50, hf⟩ := hf
            refine x_getn C hW fg_X8_22_11 ha165_50 dX8_takeStocking_165 ?_
            replace hf := x_b1 hf; obtain ⟨a168_51, ha168_51, hf⟩ := hf
            refine x_getn C hW fg_X8_164_3 ha168_51 dX8_takeStocking_168 ?_
            refine lv_aload_n C.x C.b dX8_takeStocking_171 rfl (lv_at hl 6 rfl) ?_
            replace hf := x_b1 hf; obtain ⟨a172_52, ha172_52, hf⟩ := hf
            refine x_getn C hW fg_X8_22_11 ha172_52 dX8_takeStocking_172 ?_
            replace hf := x_b1 hf; obtain ⟨x175_53, hx175_53, hf⟩ := hf
            refine x_geti C hW fg_X8_151_3 hx175_53 dX8_takeStocking_175 ?_
            refine lv_iconst (v := 1) C.x C.b dX8_takeStocking_178 (by decide) ?_
            refine lv_isub C.x C.b dX8_takeStocking_179 ?_
            replace hf := x_b1 hf; obtain ⟨a180_54, ha180_54, hf⟩ := hf
            refine x_aldn C hW (kd := 23) (by decide) (by decide) ha180_54 dX8_takeStocking_180 ?_
            refine lv_astore (lv' := [(7, .ref (E.b + _)), (6, .int _), (5, .int _), (4, .int _), (3, .int _), (2, .int _), (1, .int _), (0, .ref (E.b + _))]) C.x C.b dX8_takeStocking_181 hl (by decide) rfl (fun ls hl => ?_)
            refine lv_aload C.x C.b dX8_takeStocking_183 (lv_at hl 0 rfl) ?_
            refine lv_iload C.x C.b dX8_takeStocking_185 (lv_at hl 2 rfl) ?_
            replace hf := x_b1 hf; obtain ⟨M187_55, hM187_55, hf⟩ := hf
            refine x_puti C hW fp_X8_168_10 hM187_55 (fun h => by cases h) dX8_takeStocking_187 (fun H locs hW => ?_)
            refine lv_aload C.x C.b dX8_takeStocking_190 (lv_at hl 0 rfl) ?_
            refine lv_iload C.x C.b dX8_takeStocking_192 (lv_at hl 1 rfl) ?_
            replace hf := x_b1 hf; obtain ⟨M194_56, hM194_56, hf⟩ := hf
            refine x_puti C hW fp_X8_173_10 hM194_56 (fun h => by cases h) dX8_takeStocking_194 (fun H locs hW => ?_)
            rw [x_e0 hf]
            exact x_vret C hr hW dX8_takeStocking_197
      · replace hf := x_in c95 hf
        refine lv_aload_n C.x C.b dX8_takeStocking_98 rfl (lv_at hl 6 rfl) ?_
        refine lv_iconst (v := 1) C.x C.b dX8_takeStocking_99 (by decide) ?_
        replace hf := x_b1 hf; obtain ⟨_, hk100_57, hf⟩ := hf
        replace hf := x_b1 hf; obtain ⟨M100_58, hM100_58, hf⟩ := hf
        refine x_callV (As := [.int 1]) (a := o) (rest := []) C hW hl (qX8_take l E hM100_58) (x_gk hk100_57) (by decide) (by decide) rfl gv_X8_99 ⟨rfl, hd_X8_take⟩ rfl rfl (Nat.le_of_ble_eq_true rfl) dX8_takeStocking_100 ⟨Nat.le_of_ble_eq_true rfl, Nat.le_of_ble_eq_true rfl⟩ ⟨Nat.le_of_ble_eq_true rfl, Nat.le_of_ble_eq_true rfl⟩ (fun H locs hW => ?_)
        refine lv_aload_n C.x C.b dX8_takeStocking_103 rfl (lv_at hl 6 rfl) ?_
        refine lv_iconst (v := 0) C.x C.b dX8_takeStocking_104 (by decide) ?_
        refine lv_bipush (v := 99) C.x C.b dX8_takeStocking_105 (by decide) ?_
        replace hf := x_b1 hf; obtain ⟨_, hk107_59, hf⟩ := hf
        replace hf := x_b2 hf; obtain ⟨x107_60, M107_61, hx107_60, hf⟩ := hf
        refine x_callV (As := [.int 0, .int 99]) (a := o) (rest := []) C hW hl (qX8_takeNumber l E hx107_60) (x_gk hk107_59) (by decide) (by decide) rfl gv_X8_128 ⟨rfl, hd_X8_takeNumber⟩ rfl rfl (Nat.le_of_ble_eq_true rfl) dX8_takeStocking_107 ⟨Nat.le_of_ble_eq_true rfl, Nat.le_of_ble_eq_true rfl⟩ ⟨Nat.le_of_ble_eq_true rfl, Nat.le_of_ble_eq_true rfl⟩ (fun H locs hW => ?_)
        refine lv_istore (lv' := [(5, .int _), (6, .int _), (4, .int _), (3, .int _), (2, .int _), (1, .int _), (0, .ref (E.b + _))]) C.x C.b dX8_takeStocking_110 hl (by decide) rfl (fun ls hl => ?_)
        refine lv_aload_n C.x C.b dX8_takeStocking_112 rfl (lv_at hl 6 rfl) ?_
        refine lv_aload_n C.x C.b dX8_takeStocking_113 rfl (lv_at hl 6 rfl) ?_
        refine x_ldcS (q := 19) (tx := "to") C (by decide +kernel) dX8_takeStocking_114 ?_
        replace hf := x_b1 hf; obtain ⟨_, hk116_62, hf⟩ := hf
        replace hf := x_b1 hf; obtain ⟨x116_63, hx116_63, hf⟩ := hf
        refine x_callV (As := [.ref (E.x (100 + 19))]) (a := o) (rest := [.ref (E.b + o)]) C hW hl (qX8_isName l E hx116_63) (x_gk hk116_62) (by decide) (by decide) rfl gv_X8_67 ⟨rfl, hd_X8_isName⟩ rfl rfl (Nat.le_of_ble_eq_true rfl) dX8_takeStocking_116 ⟨Nat.le_of_ble_eq_true rfl, Nat.le_of_ble_eq_true rfl⟩ ⟨Nat.le_of_ble_eq_true rfl, Nat.le_of_ble_eq_true rfl⟩ (fun H locs hW => ?_)
        replace hf := x_b1 hf; obtain ⟨_, hk119_64, hf⟩ := hf
        replace hf := x_b1 hf; obtain ⟨M119_65, hM119_65, hf⟩ := hf
        refine x_callV (As := [.int x116_63]) (a := o) (rest := []) C hW hl (qX8_take l E hM119_65) (x_gk hk119_64) (by decide) (by decide) rfl gv_X8_99 ⟨rfl, hd_X8_take⟩ rfl rfl (Nat.le_of_ble_eq_true rfl) dX8_takeStocking_119 ⟨Nat.le_of_ble_eq_true rfl, Nat.le_of_ble_eq_true rfl⟩ ⟨Nat.le_of_ble_eq_true rfl, Nat.le_of_ble_eq_true rfl⟩ (fun H locs hW => ?_)
        refine lv_aload_n C.x C.b dX8_takeStocking_122 rfl (lv_at hl 6 rfl) ?_
        refine lv_iload C.x C.b dX8_takeStocking_123 (lv_at hl 0 rfl) ?_
        refine lv_bipush (v := 99) C.x C.b dX8_takeStocking_125 (by decide) ?_
        replace hf := x_b1 hf; obtain ⟨_, hk127_66, hf⟩ := hf
        replace hf := x_b2 hf; obtain ⟨x127_67, M127_68, hx127_67, hf⟩ := hf
        refine x_callV (As := [.int x107_60, .int 99]) (a := o) (rest := []) C hW hl (qX8_takeNumber l E hx127_67) (x_gk hk127_66) (by decide) (by decide) rfl gv_X8_128 ⟨rfl, hd_X8_takeNumber⟩ rfl rfl (Nat.le_of_ble_eq_true rfl) dX8_takeStocking_127 ⟨Nat.le_of_ble_eq_true rfl, Nat.le_of_ble_eq_true rfl⟩ ⟨Nat.le_of_ble_eq_true rfl, Nat.le_of_ble_eq_true rfl⟩ (fun H locs hW => ?_)
        refine lv_istore (lv' := [(6, .int _), (5, .int _), (4, .int _), (3, .int _), (2, .int _), (1, .int _), (0, .ref (E.b + _))]) C.x C.b dX8_takeStocking_130 hl (by decide) rfl (fun ls hl => ?_)
        refine lv_aload_n C.x C.b dX8_takeStocking_132 rfl (lv_at hl 6 rfl) ?_
        refine lv_aload_n C.x C.b dX8_takeStocking_133 rfl (lv_at hl 6 rfl) ?_
        refine lv_bipush (v := 59) C.x C.b dX8_takeStocking_134 (by decide) ?_
        replace hf := x_b1 hf; obtain ⟨_, hk136_69, hf⟩ := hf
        replace hf := x_b1 hf; obtain ⟨x136_70, hx136_70, hf⟩ := hf
        refine x_callV (As := [.int 59]) (a := o) (rest := [.ref (E.b + o)]) C hW hl (qX8_isSign l E hx136_70) (x_gk hk136_69) (by decide) (by decide) rfl gv_X8_115 ⟨rfl, hd_X8_isSign⟩ rfl rfl (Nat.le_of_ble_eq_true rfl) dX8_takeStocking_136 ⟨Nat.le_of_ble_eq_true rfl, Nat.le_of_ble_eq_true rfl⟩ ⟨Nat.le_of_ble_eq_true rfl, Nat.le_of_ble_eq_true rfl⟩ (fun H locs hW => ?_)
        replace hf := x_b1 hf; obtain ⟨_, hk139_71, hf⟩ := hf
        replace hf := x_b1 hf; obtain ⟨M139_72, hM139_72, hf⟩ := hf
        refine x_callV (As := [.int x136_70]) (a := o) (rest := []) C hW hl (qX8_take l E hM139_72) (x_gk hk139_71) (by decide) (by decide) rfl gv_X8_99 ⟨rfl, hd_X8_take⟩ rfl rfl (Nat.le_of_ble_eq_true rfl) dX8_takeStocking_139 ⟨Nat.le_of_ble_eq_true rfl, Nat.le_of_ble_eq_true rfl⟩ ⟨Nat.le_of_ble_eq_true rfl, Nat.le_of_ble_eq_true rfl⟩ (fun H locs hW => ?_)
        refine lv_aload_n C.x C.b dX8_takeStocking_142 rfl (lv_at hl 6 rfl) ?_
        replace hf := x_b1 hf; obtain ⟨x143_73, hx143_73, hf⟩ := hf
        refine x_geti C hW fg_X8_41_11 hx143_73 dX8_takeStocking_143 ?_
        refine lv_if_ge (tgt := 197) C.x C.b dX8_takeStocking_146 rfl (fun c146 => ?_) (fun c146 => ?_)
        · replace hf := x_ip c146 hf
          rw [x_e0 hf]
          exact x_vret C hr hW dX8_takeStocking_197
        · replace hf := x_in c146 hf
          refine lv_aload_n C.x C.b dX8_takeStocking_149 rfl (lv_at hl 6 rfl) ?_
          replace hf := x_b1 hf; obtain ⟨a150_74, ha150_74, hf⟩ := hf
          refine x_getn C hW fg_X8_22_11 ha150_74 dX8_takeStocking_150 ?_
          refine lv_iload_n C.x C.b dX8_takeStocking_153 rfl (lv_at hl 5 rfl) ?_
          refine lv_iload_n C.x C.b dX8_takeStocking_154 rfl (lv_at hl 4 rfl) ?_
          refine lv_iload_n C.x C.b dX8_takeStocking_155 rfl (lv_at hl 3 rfl) ?_
          refine lv_iload C.x C.b dX8_takeStocking_156 (lv_at hl 2 rfl) ?_
          replace hf := x_b1 hf; obtain ⟨_, hk158_75, hf⟩ := hf
          replace hf := x_b2 hf; obtain ⟨x158_76, M158_77, hx158_76, hf⟩ := hf
          refine x_callV (As := [.int x1_2, .int x34_6, .int x51_13, .int x69_20]) (a := a150_74) (rest := []) C hW hl (qX0_addStocking l E hx158_76) (x_gk hk158_75) (by decide) (by decide) rfl gv_X8_160 ⟨rfl, hd_X0_addStocking⟩ rfl rfl (Nat.le_of_ble_eq_true rfl) dX8_takeStocking_158 ⟨Nat.le_of_ble_eq_true rfl, Nat.le_of_ble_eq_true rfl⟩ ⟨Nat.le_of_ble_eq_true rfl, Nat.le_of_ble_eq_true rfl⟩ (fun H locs hW => ?_)
          refine lv_if_eq (tgt := 197) C.x C.b dX8_takeStocking_161 rfl (fun c161 => ?_) (fun c161 => ?_)
          · replace hf := x_ip c161 hf
            rw [x_e0 hf]
            exact x_vret C hr hW dX8_takeStocking_197
          · replace hf := x_in c161 hf
            refine lv_aload_n C.x C.b dX8_takeStocking_164 rfl (lv_at hl 6 rfl) ?_
            replace hf := x_b1 hf; obtain ⟨a165_78, ha165_78, hf⟩ := hf
            refine x_getn C hW fg_X8_22_11 ha165_78 dX8_takeStocking_165 ?_
            replace hf := x_b1 hf; obtain ⟨a168_79, ha168_79, hf⟩ := hf
            refine x_getn C hW fg_X8_164_3 ha168_79 dX8_takeStocking_168 ?_
            refine lv_aload_n C.x C.b dX8_takeStocking_171 rfl (lv_at hl 6 rfl) ?_
            replace hf := x_b1 hf; obtain ⟨a172_80, ha172_80, hf⟩ := hf
            refine x_getn C hW fg_X8_22_11 ha172_80 dX8_takeStocking_172 ?_
            replace hf := x_b1 hf; obtain ⟨x175_81, hx175_81, hf⟩ := hf
            refine x_geti C hW fg_X8_151_3 hx175_81 dX8_takeStocking_175 ?_
            refine lv_iconst (v := 1) C.x C.b dX8_takeStocking_178 (by decide) ?_
            refine lv_isub C.x C.b dX8_takeStocking_179 ?_
            replace hf := x_b1 hf; obtain ⟨a180_82, ha180_82, hf⟩ := hf
            refine x_aldn C hW (kd := 23) (by decide) (by decide) ha180_82 dX8_takeStocking_180 ?_
            refine lv_astore (lv' := [(7, .ref (E.b + _)), (6, .int _), (5, .int _), (4, .int _), (3, .int _), (2, .int _), (1, .int _), (0, .ref (E.b + _))]) C.x C.b dX8_takeStocking_181 hl (by decide) rfl (fun ls hl => ?_)
            refine lv_aload C.x C.b dX8_takeStocking_183 (lv_at hl 0 rfl) ?_
            refine lv_iload C.x C.b dX8_takeStocking_185 (lv_at hl 2 rfl) ?_
            replace hf := x_b1 hf; obtain ⟨M187_83, hM187_83, hf⟩ := hf
            refine x_puti C hW fp_X8_168_10 hM187_83 (fun h => by cases h) dX8_takeStocking_187 (fun H locs hW => ?_)
            refine lv_aload C.x C.b dX8_takeStocking_190 (lv_at hl 0 rfl) ?_
            refine lv_iload C.x C.b dX8_takeStocking_192 (lv_at hl 1 rfl) ?_
            replace hf := x_b1 hf; obtain ⟨M194_84, hM194_84, hf⟩ := hf
            refine x_puti C hW fp_X8_173_10 hM194_84 (fun h => by cases h) dX8_takeStocking_194 (fun H locs hW => ?_)
            rw [x_e0 hf]
            exact x_vret C hr hW dX8_takeStocking_197
  · replace hf := x_in c7 hf
    refine lv_aload_n C.x C.b dX8_takeStocking_10 rfl (lv_at hl 1 rfl) ?_
    replace hf := x_b1 hf; obtain ⟨a11_85, ha11_85, hf⟩ := hf
    refine x_getn C hW fg_X8_22_11 ha11_85 dX8_takeStocking_11 ?_
    replace hf := x_b1 hf; obtain ⟨x14_86, hx14_86, hf⟩ := hf
    refine x_geti C hW fg_X8_151_3 hx14_86 dX8_takeStocking_14 ?_
    refine lv_bipush (v := 8) C.x C.b dX8_takeStocking_17 (by decide) ?_
    refine lv_icmp_ge (tgt := 26) C.x C.b dX8_takeStocking_19 rfl (fun c19 => ?_) (fun c19 => ?_)
    · replace hf := x_ip c19 hf
      refine lv_iconst (v := 0) C.x C.b dX8_takeStocking_26 (by decide) ?_
      replace hf := x_b1 hf; obtain ⟨_, hk27_87, hf⟩ := hf
      replace hf := x_b1 hf; obtain ⟨M27_88, hM27_88, hf⟩ := hf
      refine x_callV (As := [.int 0]) (a := o) (rest := []) C hW hl (qX8_take l E hM27_88) (x_gk hk27_87) (by decide) (by decide) rfl gv_X8_99 ⟨rfl, hd_X8_take⟩ rfl rfl (Nat.le_of_ble_eq_true rfl) dX8_takeStocking_27 ⟨Nat.le_of_ble_eq_true rfl, Nat.le_of_ble_eq_true rfl⟩ ⟨Nat.le_of_ble_eq_true rfl, Nat.le_of_ble_eq_true rfl⟩ (fun H locs hW => ?_)
      refine lv_aload_n C.x C.b dX8_takeStocking_30 rfl (lv_at hl 1 rfl) ?_
      refine lv_iconst (v := 0) C.x C.b dX8_takeStocking_31 (by decide) ?_
      refine lv_bipush (v := 9) C.x C.b dX8_takeStocking_32 (by decide) ?_
      replace hf := x_b1 hf; obtain ⟨_, hk34_89, hf⟩ := hf
      replace hf := x_b2 hf; obtain ⟨x34_90, M34_91, hx34_90, hf⟩ := hf
      refine x_callV (As := [.int 0, .int 9]) (a := o) (rest := []) C hW hl (qX8_takeNumber l E hx34_90) (x_gk hk34_89) (by decide) (by decide) rfl gv_X8_128 ⟨rfl, hd_X8_takeNumber⟩ rfl rfl (Nat.le_of_ble_eq_true rfl) dX8_takeStocking_34 ⟨Nat.le_of_ble_eq_true rfl, Nat.le_of_ble_eq_true rfl⟩ ⟨Nat.le_of_ble_eq_true rfl, Nat.le_of_ble_eq_true rfl⟩ (fun H locs hW => ?_)
      refine lv_istore_n (lv' := [(2, .int _), (1, .int _), (0, .ref (E.b + _))]) C.x C.b dX8_takeStocking_37 rfl hl (by decide) rfl (fun ls hl => ?_)
      refine lv_aload_n C.x C.b dX8_takeStocking_38 rfl (lv_at hl 2 rfl) ?_
      refine lv_aload_n C.x C.b dX8_takeStocking_39 rfl (lv_at hl 2 rfl) ?_
      refine x_ldcS (q := 16) (tx := "shade") C (by decide +kernel) dX8_takeStocking_40 ?_
      replace hf := x_b1 hf; obtain ⟨_, hk42_92, hf⟩ := hf
      replace hf := x_b1 hf; obtain ⟨x42_93, hx42_93, hf⟩ := hf
      refine x_callV (As := [.ref (E.x (100 + 16))]) (a := o) (rest := [.ref (E.b + o)]) C hW hl (qX8_isName l E hx42_93) (x_gk hk42_92) (by decide) (by decide) rfl gv_X8_67 ⟨rfl, hd_X8_isName⟩ rfl rfl (Nat.le_of_ble_eq_true rfl) dX8_takeStocking_42 ⟨Nat.le_of_ble_eq_true rfl, Nat.le_of_ble_eq_true rfl⟩ ⟨Nat.le_of_ble_eq_true rfl, Nat.le_of_ble_eq_true rfl⟩ (fun H locs hW => ?_)
      replace hf := x_b1 hf; obtain ⟨_, hk45_94, hf⟩ := hf
      replace hf := x_b1 hf; obtain ⟨M45_95, hM45_95, hf⟩ := hf
      refine x_callV (As := [.int x42_93]) (a := o) (rest := []) C hW hl (qX8_take l E hM45_95) (x_gk hk45_94) (by decide) (by decide) rfl gv_X8_99 ⟨rfl, hd_X8_take⟩ rfl rfl (Nat.le_of_ble_eq_true rfl) dX8_takeStocking_45 ⟨Nat.le_of_ble_eq_true rfl, Nat.le_of_ble_eq_true rfl⟩ ⟨Nat.le_of_ble_eq_true rfl, Nat.le_of_ble_eq_true rfl⟩ (fun H locs hW => ?_)
      refine lv_aload_n C.x C.b dX8_takeStocking_48 rfl (lv_at hl 2 rfl) ?_
      refine lv_iconst (v := 0) C.x C.b dX8_takeStocking_49 (by decide) ?_
      refine lv_iconst (v := 3) C.x C.b dX8_takeStocking_50 (by decide) ?_
      replace hf := x_b1 hf; obtain ⟨_, hk51_96, hf⟩ := hf
      replace hf := x_b2 hf; obtain ⟨x51_97, M51_98, hx51_97, hf⟩ := hf
      refine x_callV (As := [.int 0, .int 3]) (a := o) (rest := []) C hW hl (qX8_takeNumber l E hx51_97) (x_gk hk51_96) (by decide) (by decide) rfl gv_X8_128 ⟨rfl, hd_X8_takeNumber⟩ rfl rfl (Nat.le_of_ble_eq_true rfl) dX8_takeStocking_51 ⟨Nat.le_of_ble_eq_true rfl, Nat.le_of_ble_eq_true rfl⟩ ⟨Nat.le_of_ble_eq_true rfl, Nat.le_of_ble_eq_true rfl⟩ (fun H locs hW => ?_)
      refine lv_istore_n (lv' := [(3, .int _), (2, .int _), (1, .int _), (0, .ref (E.b + _))]) C.x C.b dX8_takeStocking_54 rfl hl (by decide) rfl (fun ls hl => ?_)
      refine lv_aload_n C.x C.b dX8_takeStocking_55 rfl (lv_at hl 3 rfl) ?_
      refine lv_aload_n C.x C.b dX8_takeStocking_56 rfl (lv_at hl 3 rfl) ?_
      refine x_ldcS (q := 17) (tx := "lasts") C (by decide +kernel) dX8_takeStocking_57 ?_
      replace hf := x_b1 hf; obtain ⟨_, hk59_99, hf⟩ := hf
      replace hf := x_b1 hf; obtain ⟨x59_100, hx59_100, hf⟩ := hf
      refine x_callV (As := [.ref (E.x (100 + 17))]) (a := o) (rest := [.ref (E.b + o)]) C hW hl (qX8_isName l E hx59_100) (x_gk hk59_99) (by decide) (by decide) rfl gv_X8_67 ⟨rfl, hd_X8_isName⟩ rfl rfl (Nat.le_of_ble_eq_true rfl) dX8_takeStocking_59 ⟨Nat.le_of_ble_eq_true rfl, Nat.le_of_ble_eq_true rfl⟩ ⟨Nat.le_of_ble_eq_true rfl, Nat.le_of_ble_eq_true rfl⟩ (fun H locs hW => ?_)
      replace hf := x_b1 hf; obtain ⟨_, hk62_101, hf⟩ := hf
      replace hf := x_b1 hf; obtain ⟨M62_102, hM62_102, hf⟩ := hf
      refine x_callV (As := [.int x59_100]) (a := o) (rest := []) C hW hl (qX8_take l E hM62_102) (x_gk hk62_101) (by decide) (by decide) rfl gv_X8_99 ⟨rfl, hd_X8_take⟩ rfl rfl (Nat.le_of_ble_eq_true rfl) dX8_takeStocking_62 ⟨Nat.le_of_ble_eq_true rfl, Nat.le_of_ble_eq_true rfl⟩ ⟨Nat.le_of_ble_eq_true rfl, Nat.le_of_ble_eq_true rfl⟩ (fun H locs hW => ?_)
      refine lv_aload_n C.x C.b dX8_takeStocking_65 rfl (lv_at hl 3 rfl) ?_
      refine lv_iconst (v := 1) C.x C.b dX8_takeStocking_66 (by decide) ?_
      refine lv_bipush (v := 30) C.x C.b dX8_takeStocking_67 (by decide) ?_
      replace hf := x_b1 hf; obtain ⟨_, hk69_103, hf⟩ := hf
      replace hf := x_b2 hf; obtain ⟨x69_104, M69_105, hx69_104, hf⟩ := hf
      refine x_callV (As := [.int 1, .int 30]) (a := o) (rest := []) C hW hl (qX8_takeNumber l E hx69_104) (x_gk hk69_103) (by decide) (by decide) rfl gv_X8_128 ⟨rfl, hd_X8_takeNumber⟩ rfl rfl (Nat.le_of_ble_eq_true rfl) dX8_takeStocking_69 ⟨Nat.le_of_ble_eq_true rfl, Nat.le_of_ble_eq_true rfl⟩ ⟨Nat.le_of_ble_eq_true rfl, Nat.le_of_ble_eq_true rfl⟩ (fun H locs hW => ?_)
      refine lv_istore (lv' := [(4, .int _), (3, .int _), (2, .int _), (1, .int _), (0, .ref (E.b + _))]) C.x C.b dX8_takeStocking_72 hl (by decide) rfl (fun ls hl => ?_)
      refine lv_bipush (v := (-9)) C.x C.b dX8_takeStocking_74 (by decide) ?_
      refine lv_istore (lv' := [(5, .int _), (4, .int _), (3, .int _), (2, .int _), (1, .int _), (0, .ref (E.b + _))]) C.x C.b dX8_takeStocking_76 hl (by decide) rfl (fun ls hl => ?_)
      refine lv_bipush (v := (-9)) C.x C.b dX8_takeStocking_78 (by decide) ?_
      refine lv_istore (lv' := [(6, .int _), (5, .int _), (4, .int _), (3, .int _), (2, .int _), (1, .int _), (0, .ref (E.b + _))]) C.x C.b dX8_takeStocking_80 hl (by decide) rfl (fun ls hl => ?_)
      refine lv_aload_n C.x C.b dX8_takeStocking_82 rfl (lv_at hl 6 rfl) ?_
      replace hf := x_b1 hf; obtain ⟨x83_106, hx83_106, hf⟩ := hf
      refine x_geti C hW fg_X8_41_11 hx83_106 dX8_takeStocking_83 ?_
      refine lv_if_ge (tgt := 132) C.x C.b dX8_takeStocking_86 rfl (fun c86 => ?_) (fun c86 => ?_)
      · replace hf := x_ip c86 hf
        refine lv_aload_n C.x C.b dX8_takeStocking_132 rfl (lv_at hl 6 rfl) ?_
        refine lv_aload_n C.x C.b dX8_takeStocking_133 rfl (lv_at hl 6 rfl) ?_
        refine lv_bipush (v := 59) C.x C.b dX8_takeStocking_134 (by decide) ?_
        replace hf := x_b1 hf; obtain ⟨_, hk136_107, hf⟩ := hf
        replace hf := x_b1 hf; obtain ⟨x136_108, hx136_108, hf⟩ := hf
        refine x_callV (As := [.int 59]) (a := o) (rest := [.ref (E.b + o)]) C hW hl (qX8_isSign l E hx136_108) (x_gk hk136_107) (by decide) (by decide) rfl gv_X8_115 ⟨rfl, hd_X8_isSign⟩ rfl rfl (Nat.le_of_ble_eq_true rfl) dX8_takeStocking_136 ⟨Nat.le_of_ble_eq_true rfl, Nat.le_of_ble_eq_true rfl⟩ ⟨Nat.le_of_ble_eq_true rfl, Nat.le_of_ble_eq_true rfl⟩ (fun H locs hW => ?_)
        replace hf := x_b1 hf; obtain ⟨_, hk139_109, hf⟩ := hf
        replace hf := x_b1 hf; obtain ⟨M139_110, hM139_110, hf⟩ := hf
        refine x_callV (As := [.int x136_108]) (a := o) (rest := []) C hW hl (qX8_take l E hM139_110) (x_gk hk139_109) (by decide) (by decide) rfl gv_X8_99 ⟨rfl, hd_X8_take⟩ rfl rfl (Nat.le_of_ble_eq_true rfl) dX8_takeStocking_139 ⟨Nat.le_of_ble_eq_true rfl, Nat.le_of_ble_eq_true rfl⟩ ⟨Nat.le_of_ble_eq_true rfl, Nat.le_of_ble_eq_true rfl⟩ (fun H locs hW => ?_)
        refine lv_aload_n C.x C.b dX8_takeStocking_142 rfl (lv_at hl 6 rfl) ?_
        replace hf := x_b1 hf; obtain ⟨x143_111, hx143_111, hf⟩ := hf
        refine x_geti C hW fg_X8_41_11 hx143_111 dX8_takeStocking_143 ?_
        refine lv_if_ge (tgt := 197) C.x C.b dX8_takeStocking_146 rfl (fun c146 => ?_) (fun c146 => ?_)
        · replace hf := x_ip c146 hf
          rw [x_e0 hf]
          exact x_vret C hr hW dX8_takeStocking_197
        · replace hf := x_in c146 hf
          refine lv_aload_n C.x C.b dX8_takeStocking_149 rfl (lv_at hl 6 rfl) ?_
          replace hf := x_b1 hf; obtain ⟨a150_112, ha150_112, hf⟩ := hf
          refine x_getn C hW fg_X8_22_11 ha150_112 dX8_takeStocking_150 ?_
          refine lv_iload_n C.x C.b dX8_takeStocking_153 rfl (lv_at hl 5 rfl) ?_
          refine lv_iload_n C.x C.b dX8_takeStocking_154 rfl (lv_at hl 4 rfl) ?_
          refine lv_iload_n C.x C.b dX8_takeStocking_155 rfl (lv_at hl 3 rfl) ?_
          refine lv_iload C.x C.b dX8_takeStocking_156 (lv_at hl 2 rfl) ?_
          replace hf := x_b1 hf; obtain ⟨_, hk158_113, hf⟩ := hf
          replace hf := x_b2 hf; obtain ⟨x158_114, M158_115, hx158_114, hf⟩ := hf
          refine x_callV (As := [.int x1_2, .int x34_90, .int x51_97, .int x69_104]) (a := a150_112) (rest := []) C hW hl (qX0_addStocking l E hx158_114) (x_gk hk158_113) (by decide) (by decide) rfl gv_X8_160 ⟨rfl, hd_X0_addStocking⟩ rfl rfl (Nat.le_of_ble_eq_true rfl) dX8_takeStocking_158 ⟨Nat.le_of_ble_eq_true rfl, Nat.le_of_ble_eq_true rfl⟩ ⟨Nat.le_of_ble_eq_true rfl, Nat.le_of_ble_eq_true rfl⟩ (fun H locs hW => ?_)
          refine lv_if_eq (tgt := 197) C.x C.b dX8_takeStocking_161 rfl (fun c161 => ?_) (fun c161 => ?_)
          · replace hf := x_ip c161 hf
            rw [x_e0 hf]
            exact x_vret C hr hW dX8_takeStocking_197
          · replace hf := x_in c161 hf
            refine lv_aload_n C.x C.b dX8_takeStocking_164 rfl (lv_at hl 6 rfl) ?_
            replace hf := x_b1 hf; obtain ⟨a165_116, ha165_116, hf⟩ := hf
            refine x_getn C hW fg_X8_22_11 ha165_116 dX8_takeStocking_165 ?_
            replace hf := x_b1 hf; obtain ⟨a168_117, ha168_117, hf⟩ := hf
            refine x_getn C hW fg_X8_164_3 ha168_117 dX8_takeStocking_168 ?_
            refine lv_aload_n C.x C.b dX8_takeStocking_171 rfl (lv_at hl 6 rfl) ?_
            replace hf := x_b1 hf; obtain ⟨a172_118, ha172_118, hf⟩ := hf
            refine x_getn C hW fg_X8_22_11 ha172_118 dX8_takeStocking_172 ?_
            replace hf := x_b1 hf; obtain ⟨x175_119, hx175_119, hf⟩ := hf
            refine x_geti C hW fg_X8_151_3 hx175_119 dX8_takeStocking_175 ?_
            refine lv_iconst (v := 1) C.x C.b dX8_takeStocking_178 (by decide) ?_
            refine lv_isub C.x C.b dX8_takeStocking_179 ?_
            replace hf := x_b1 hf; obtain ⟨a180_120, ha180_120, hf⟩ := hf
            refine x_aldn C hW (kd := 23) (by decide) (by decide) ha180_120 dX8_takeStocking_180 ?_
            refine lv_astore (lv' := [(7, .ref (E.b + _)), (6, .int _), (5, .int _), (4, .int _), (3, .int _), (2, .int _), (1, .int _), (0, .ref (E.b + _))]) C.x C.b dX8_takeStocking_181 hl (by decide) rfl (fun ls hl => ?_)
            refine lv_aload C.x C.b dX8_takeStocking_183 (lv_at hl 0 rfl) ?_
            refine lv_iload C.x C.b dX8_takeStocking_185 (lv_at hl 2 rfl) ?_
            replace hf := x_b1 hf; obtain ⟨M187_121, hM187_121, hf⟩ := hf
            refine x_puti C hW fp_X8_168_10 hM187_121 (fun h => by cases h) dX8_takeStocking_187 (fun H locs hW => ?_)
            refine lv_aload C.x C.b dX8_takeStocking_190 (lv_at hl 0 rfl) ?_
            refine lv_iload C.x C.b dX8_takeStocking_192 (lv_at hl 1 rfl) ?_
            replace hf := x_b1 hf; obtain ⟨M194_122, hM194_122, hf⟩ := hf
            refine x_puti C hW fp_X8_173_10 hM194_122 (fun h => by cases h) dX8_takeStocking_194 (fun H locs hW => ?_)
            rw [x_e0 hf]
            exact x_vret C hr hW dX8_takeStocking_197
      · replace hf := x_in c86 hf
        refine lv_aload_n C.x C.b dX8_takeStocking_89 rfl (lv_at hl 6 rfl) ?_
        refine x_ldcS (q := 18) (tx := "ladder") C (by decide +kernel) dX8_takeStocking_90 ?_
        replace hf := x_b1 hf; obtain ⟨_, hk92_123, hf⟩ := hf
        replace hf := x_b1 hf; obtain ⟨x92_124, hx92_124, hf⟩ := hf
        refine x_callV (As := [.ref (E.x (100 + 18))]) (a := o) (rest := []) C hW hl (qX8_isName l E hx92_124) (x_gk hk92_123) (by decide) (by decide) rfl gv_X8_67 ⟨rfl, hd_X8_isName⟩ rfl rfl (Nat.le_of_ble_eq_true rfl) dX8_takeStocking_92 ⟨Nat.le_of_ble_eq_true rfl, Nat.le_of_ble_eq_true rfl⟩ ⟨Nat.le_of_ble_eq_true rfl, Nat.le_of_ble_eq_true rfl⟩ (fun H locs hW => ?_)
        refine lv_if_eq (tgt := 132) C.x C.b dX8_takeStocking_95 rfl (fun c95 => ?_) (fun c95 => ?_)
        · replace hf := x_ip c95 hf
          refine lv_aload_n C.x C.b dX8_takeStocking_132 rfl (lv_at hl 6 rfl) ?_
          refine lv_aload_n C.x C.b dX8_takeStocking_133 rfl (lv_at hl 6 rfl) ?_
          refine lv_bipush (v := 59) C.x C.b dX8_takeStocking_134 (by decide) ?_
          replace hf := x_b1 hf; obtain ⟨_, hk136_125, hf⟩ := hf
          replace hf := x_b1 hf; obtain ⟨x136_126, hx136_126, hf⟩ := hf
          refine x_callV (As := [.int 59]) (a := o) (rest := [.ref (E.b + o)]) C hW hl (qX8_isSign l E hx136_126) (x_gk hk136_125) (by decide) (by decide) rfl gv_X8_115 ⟨rfl, hd_X8_isSign⟩ rfl rfl (Nat.le_of_ble_eq_true rfl) dX8_takeStocking_136 ⟨Nat.le_of_ble_eq_true rfl, Nat.le_of_ble_eq_true rfl⟩ ⟨Nat.le_of_ble_eq_true rfl, Nat.le_of_ble_eq_true rfl⟩ (fun H locs hW => ?_)
          replace hf := x_b1 hf; obtain ⟨_, hk139_127, hf⟩ := hf
          replace hf := x_b1 hf; obtain ⟨M139_128, hM139_128, hf⟩ := hf
          refine x_callV (As := [.int x136_126]) (a := o) (rest := []) C hW hl (qX8_take l E hM139_128) (x_gk hk139_127) (by decide) (by decide) rfl gv_X8_99 ⟨rfl, hd_X8_take⟩ rfl rfl (Nat.le_of_ble_eq_true rfl) dX8_takeStocking_139 ⟨Nat.le_of_ble_eq_true rfl, Nat.le_of_ble_eq_true rfl⟩ ⟨Nat.le_of_ble_eq_true rfl, Nat.le_of_ble_eq_true rfl⟩ (fun H locs hW => ?_)
          refine lv_aload_n C.x C.b dX8_takeStocking_142 rfl (lv_at hl 6 rfl) ?_
          replace hf := x_b1 hf; obtain ⟨x143_129, hx143_129, hf⟩ := hf
          refine x_geti C hW fg_X8_41_11 hx143_129 dX8_takeStocking_143 ?_
          refine lv_if_ge (tgt := 197) C.x C.b dX8_takeStocking_146 rfl (fun c146 => ?_) (fun c146 => ?_)
          · replace hf := x_ip c146 hf
            rw [x_e0 hf]
            exact x_vret C hr hW dX8_takeStocking_197
          · replace hf := x_in c146 hf
            refine lv_aload_n C.x C.b dX8_takeStocking_149 rfl (lv_at hl 6 rfl) ?_
            replace hf := x_b1 hf; obtain ⟨a150_130, ha150_130, hf⟩ := hf
            refine x_getn C hW fg_X8_22_11 ha150_130 dX8_takeStocking_150 ?_
            refine lv_iload_n C.x C.b dX8_takeStocking_153 rfl (lv_at hl 5 rfl) ?_
            refine lv_iload_n C.x C.b dX8_takeStocking_154 rfl (lv_at hl 4 rfl) ?_
            refine lv_iload_n C.x C.b dX8_takeStocking_155 rfl (lv_at hl 3 rfl) ?_
            refine lv_iload C.x C.b dX8_takeStocking_156 (lv_at hl 2 rfl) ?_
            replace hf := x_b1 hf; obtain ⟨_, hk158_131, hf⟩ := hf
            replace hf := x_b2 hf; obtain ⟨x158_132, M158_133, hx158_132, hf⟩ := hf
            refine x_callV (As := [.int x1_2, .int x34_90, .int x51_97, .int x69_104]) (a := a150_130) (rest := []) C hW hl (qX0_addStocking l E hx158_132) (x_gk hk158_131) (by decide) (by decide) rfl gv_X8_160 ⟨rfl, hd_X0_addStocking⟩ rfl rfl (Nat.le_of_ble_eq_true rfl) dX8_takeStocking_158 ⟨Nat.le_of_ble_eq_true rfl, Nat.le_of_ble_eq_true rfl⟩ ⟨Nat.le_of_ble_eq_true rfl, Nat.le_of_ble_eq_true rfl⟩ (fun H locs hW => ?_)
            refine lv_if_eq (tgt := 197) C.x C.b dX8_takeStocking_161 rfl (fun c161 => ?_) (fun c161 => ?_)
            · replace hf := x_ip c161 hf
              rw [x_e0 hf]
              exact x_vret C hr hW dX8_takeStocking_197
            · replace hf := x_in c161 hf
              refine lv_aload_n C.x C.b dX8_takeStocking_164 rfl (lv_at hl 6 rfl) ?_
              replace hf := x_b1 hf; obtain ⟨a165_134, ha165_134, hf⟩ := hf
              refine x_getn C hW fg_X8_22_11 ha165_134 dX8_takeStocking_165 ?_
              replace hf := x_b1 hf; obtain ⟨a168_135, ha168_135, hf⟩ := hf
              refine x_getn C hW fg_X8_164_3 ha168_135 dX8_takeStocking_168 ?_
              refine lv_aload_n C.x C.b dX8_takeStocking_171 rfl (lv_at hl 6 rfl) ?_
              replace hf := x_b1 hf; obtain ⟨a172_136, ha172_136, hf⟩ := hf
              refine x_getn C hW fg_X8_22_11 ha172_136 dX8_takeStocking_172 ?_
              replace hf := x_b1 hf; obtain ⟨x175_137, hx175_137, hf⟩ := hf
              refine x_geti C hW fg_X8_151_3 hx175_137 dX8_takeStocking_175 ?_
              refine lv_iconst (v := 1) C.x C.b dX8_takeStocking_178 (by decide) ?_
              refine lv_isub C.x C.b dX8_takeStocking_179 ?_
              replace hf := x_b1 hf; obtain ⟨a180_138, ha180_138, hf⟩ := hf
              refine x_aldn C hW (kd := 23) (by decide) (by decide) ha180_138 dX8_takeStocking_180 ?_
              refine lv_astore (lv' := [(7, .ref (E.b + _)), (6, .int _), (5, .int _), (4, .int _), (3, .int _), (2, .int _), (1, .int _), (0, .ref (E.b + _))]) C.x C.b dX8_takeStocking_181 hl (by decide) rfl (fun ls hl => ?_)
              refine lv_aload C.x C.b dX8_takeStocking_183 (lv_at hl 0 rfl) ?_
              refine lv_iload C.x C.b dX8_takeStocking_185 (lv_at hl 2 rfl) ?_
              replace hf := x_b1 hf; obtain ⟨M187_139, hM187_139, hf⟩ := hf
              refine x_puti C hW fp_X8_168_10 hM187_139 (fun h => by cases h) dX8_takeStocking_187 (fun H locs hW => ?_)
              refine lv_aload C.x C.b dX8_takeStocking_190 (lv_at hl 0 rfl) ?_
              refine lv_iload C.x C.b dX8_takeStocking_192 (lv_at hl 1 rfl) ?_
              replace hf := x_b1 hf; obtain ⟨M194_140, hM194_140, hf⟩ := hf
              refine x_puti C hW fp_X8_173_10 hM194_140 (fun h => by cases h) dX8_takeStocking_194 (fun H locs hW => ?_)
              rw [x_e0 hf]
              exact x_vret C hr hW dX8_takeStocking_197
        · replace hf := x_in c95 hf
          refine lv_aload_n C.x C.b dX8_takeStocking_98 rfl (lv_at hl 6 rfl) ?_
          refine lv_iconst (v := 1) C.x C.b dX8_takeStocking_99 (by decide) ?_
          replace hf := x_b1 hf; obtain ⟨_, hk100_141, hf⟩ := hf
          replace hf := x_b1 hf; obtain ⟨M100_142, hM100_142, hf⟩ := hf
          refine x_callV (As := [.int 1]) (a := o) (rest := []) C hW hl (qX8_take l E hM100_142) (x_gk hk100_141) (by decide) (by decide) rfl gv_X8_99 ⟨rfl, hd_X8_take⟩ rfl rfl (Nat.le_of_ble_eq_true rfl) dX8_takeStocking_100 ⟨Nat.le_of_ble_eq_true rfl, Nat.le_of_ble_eq_true rfl⟩ ⟨Nat.le_of_ble_eq_true rfl, Nat.le_of_ble_eq_true rfl⟩ (fun H locs hW => ?_)
          refine lv_aload_n C.x C.b dX8_takeStocking_103 rfl (lv_at hl 6 rfl) ?_
          refine lv_iconst (v := 0) C.x C.b dX8_takeStocking_104 (by decide) ?_
          refine lv_bipush (v := 99) C.x C.b dX8_takeStocking_105 (by decide) ?_
          replace hf := x_b1 hf; obtain ⟨_, hk107_143, hf⟩ := hf
          replace hf := x_b2 hf; obtain ⟨x107_144, M107_145, hx107_144, hf⟩ := hf
          refine x_callV (As := [.int 0, .int 99]) (a := o) (rest := []) C hW hl (qX8_takeNumber l E hx107_144) (x_gk hk107_143) (by decide) (by decide) rfl gv_X8_128 ⟨rfl, hd_X8_takeNumber⟩ rfl rfl (Nat.le_of_ble_eq_true rfl) dX8_takeStocking_107 ⟨Nat.le_of_ble_eq_true rfl, Nat.le_of_ble_eq_true rfl⟩ ⟨Nat.le_of_ble_eq_true rfl, Nat.le_of_ble_eq_true rfl⟩ (fun H locs hW => ?_)
          refine lv_istore (lv' := [(5, .int _), (6, .int _), (4, .int _), (3, .int _), (2, .int _), (1, .int _), (0, .ref (E.b + _))]) C.x C.b dX8_takeStocking_110 hl (by decide) rfl (fun ls hl => ?_)
          refine lv_aload_n C.x C.b dX8_takeStocking_112 rfl (lv_at hl 6 rfl) ?_
          refine lv_aload_n C.x C.b dX8_takeStocking_113 rfl (lv_at hl 6 rfl) ?_
          refine x_ldcS (q := 19) (tx := "to") C (by decide +kernel) dX8_takeStocking_114 ?_
          replace hf := x_b1 hf; obtain ⟨_, hk116_146, hf⟩ := hf
          replace hf := x_b1 hf; obtain ⟨x116_147, hx116_147, hf⟩ := hf
          refine x_callV (As := [.ref (E.x (100 + 19))]) (a := o) (rest := [.ref (E.b + o)]) C hW hl (qX8_isName l E hx116_147) (x_gk hk116_146) (by decide) (by decide) rfl gv_X8_67 ⟨rfl, hd_X8_isName⟩ rfl rfl (Nat.le_of_ble_eq_true rfl) dX8_takeStocking_116 ⟨Nat.le_of_ble_eq_true rfl, Nat.le_of_ble_eq_true rfl⟩ ⟨Nat.le_of_ble_eq_true rfl, Nat.le_of_ble_eq_true rfl⟩ (fun H locs hW => ?_)
          replace hf := x_b1 hf; obtain ⟨_, hk119_148, hf⟩ := hf
          replace hf := x_b1 hf; obtain ⟨M119_149, hM119_149, hf⟩ := hf
          refine x_callV (As := [.int x116_147]) (a := o) (rest := []) C hW hl (qX8_take l E hM119_149) (x_gk hk119_148) (by decide) (by decide) rfl gv_X8_99 ⟨rfl, hd_X8_take⟩ rfl rfl (Nat.le_of_ble_eq_true rfl) dX8_takeStocking_119 ⟨Nat.le_of_ble_eq_true rfl, Nat.le_of_ble_eq_true rfl⟩ ⟨Nat.le_of_ble_eq_true rfl, Nat.le_of_ble_eq_true rfl⟩ (fun H locs hW => ?_)
          refine lv_aload_n C.x C.b dX8_takeStocking_122 rfl (lv_at hl 6 rfl) ?_
          refine lv_iload C.x C.b dX8_takeStocking_123 (lv_at hl 0 rfl) ?_
          refine lv_bipush (v := 99) C.x C.b dX8_takeStocking_125 (by decide) ?_
          replace hf := x_b1 hf; obtain ⟨_, hk127_150, hf⟩ := hf
          replace hf := x_b2 hf; obtain ⟨x127_151, M127_152, hx127_151, hf⟩ := hf
          refine x_callV (As := [.int x107_144, .int 99]) (a := o) (rest := []) C hW hl (qX8_takeNumber l E hx127_151) (x_gk hk127_150) (by decide) (by decide) rfl gv_X8_128 ⟨rfl, hd_X8_takeNumber⟩ rfl rfl (Nat.le_of_ble_eq_true rfl) dX8_takeStocking_127 ⟨Nat.le_of_ble_eq_true rfl, Nat.le_of_ble_eq_true rfl⟩ ⟨Nat.le_of_ble_eq_true rfl, Nat.le_of_ble_eq_true rfl⟩ (fun H locs hW => ?_)
          refine lv_istore (lv' := [(6, .int _), (5, .int _), (4, .int _), (3, .int _), (2, .int _), (1, .int _), (0, .ref (E.b + _))]) C.x C.b dX8_takeStocking_130 hl (by decide) rfl (fun ls hl => ?_)
          refine lv_aload_n C.x C.b dX8_takeStocking_132 rfl (lv_at hl 6 rfl) ?_
          refine lv_aload_n C.x C.b dX8_takeStocking_133 rfl (lv_at hl 6 rfl) ?_
          refine lv_bipush (v := 59) C.x C.b dX8_takeStocking_134 (by decide) ?_
          replace hf := x_b1 hf; obtain ⟨_, hk136_153, hf⟩ := hf
          replace hf := x_b1 hf; obtain ⟨x136_154, hx136_154, hf⟩ := hf
          refine x_callV (As := [.int 59]) (a := o) (rest := [.ref (E.b + o)]) C hW hl (qX8_isSign l E hx136_154) (x_gk hk136_153) (by decide) (by decide) rfl gv_X8_115 ⟨rfl, hd_X8_isSign⟩ rfl rfl (Nat.le_of_ble_eq_true rfl) dX8_takeStocking_136 ⟨Nat.le_of_ble_eq_true rfl, Nat.le_of_ble_eq_true rfl⟩ ⟨Nat.le_of_ble_eq_true rfl, Nat.le_of_ble_eq_true rfl⟩ (fun H locs hW => ?_)
          replace hf := x_b1 hf; obtain ⟨_, hk139_155, hf⟩ := hf
          replace hf := x_b1 hf; obtain ⟨M139_156, hM139_156, hf⟩ := hf
          refine x_callV (As := [.int x136_154]) (a := o) (rest := []) C hW hl (qX8_take l E hM139_156) (x_gk hk139_155) (by decide) (by decide) rfl gv_X8_99 ⟨rfl, hd_X8_take⟩ rfl rfl (Nat.le_of_ble_eq_true rfl) dX8_takeStocking_139 ⟨Nat.le_of_ble_eq_true rfl, Nat.le_of_ble_eq_true rfl⟩ ⟨Nat.le_of_ble_eq_true rfl, Nat.le_of_ble_eq_true rfl⟩ (fun H locs hW => ?_)
          refine lv_aload_n C.x C.b dX8_takeStocking_142 rfl (lv_at hl 6 rfl) ?_
          replace hf := x_b1 hf; obtain ⟨x143_157, hx143_157, hf⟩ := hf
          refine x_geti C hW fg_X8_41_11 hx143_157 dX8_takeStocking_143 ?_
          refine lv_if_ge (tgt := 197) C.x C.b dX8_takeStocking_146 rfl (fun c146 => ?_) (fun c146 => ?_)
          · replace hf := x_ip c146 hf
            rw [x_e0 hf]
            exact x_vret C hr hW dX8_takeStocking_197
          · replace hf := x_in c146 hf
            refine lv_aload_n C.x C.b dX8_takeStocking_149 rfl (lv_at hl 6 rfl) ?_
            replace hf := x_b1 hf; obtain ⟨a150_158, ha150_158, hf⟩ := hf
            refine x_getn C hW fg_X8_22_11 ha150_158 dX8_takeStocking_150 ?_
            refine lv_iload_n C.x C.b dX8_takeStocking_153 rfl (lv_at hl 5 rfl) ?_
            refine lv_iload_n C.x C.b dX8_takeStocking_154 rfl (lv_at hl 4 rfl) ?_
            refine lv_iload_n C.x C.b dX8_takeStocking_155 rfl (lv_at hl 3 rfl) ?_
            refine lv_iload C.x C.b dX8_takeStocking_156 (lv_at hl 2 rfl) ?_
            replace hf := x_b1 hf; obtain ⟨_, hk158_159, hf⟩ := hf
            replace hf := x_b2 hf; obtain ⟨x158_160, M158_161, hx158_160, hf⟩ := hf
            refine x_callV (As := [.int x1_2, .int x34_90, .int x51_97, .int x69_104]) (a := a150_158) (rest := []) C hW hl (qX0_addStocking l E hx158_160) (x_gk hk158_159) (by decide) (by decide) rfl gv_X8_160 ⟨rfl, hd_X0_addStocking⟩ rfl rfl (Nat.le_of_ble_eq_true rfl) dX8_takeStocking_158 ⟨Nat.le_of_ble_eq_true rfl, Nat.le_of_ble_eq_true rfl⟩ ⟨Nat.le_of_ble_eq_true rfl, Nat.le_of_ble_eq_true rfl⟩ (fun H locs hW => ?_)
            refine lv_if_eq (tgt := 197) C.x C.b dX8_takeStocking_161 rfl (fun c161 => ?_) (fun c161 => ?_)
            · replace hf := x_ip c161 hf
              rw [x_e0 hf]
              exact x_vret C hr hW dX8_takeStocking_197
            · replace hf := x_in c161 hf
              refine lv_aload_n C.x C.b dX8_takeStocking_164 rfl (lv_at hl 6 rfl) ?_
              replace hf := x_b1 hf; obtain ⟨a165_162, ha165_162, hf⟩ := hf
              refine x_getn C hW fg_X8_22_11 ha165_162 dX8_takeStocking_165 ?_
              replace hf := x_b1 hf; obtain ⟨a168_163, ha168_163, hf⟩ := hf
              refine x_getn C hW fg_X8_164_3 ha168_163 dX8_takeStocking_168 ?_
              refine lv_aload_n C.x C.b dX8_takeStocking_171 rfl (lv_at hl 6 rfl) ?_
              replace hf := x_b1 hf; obtain ⟨a172_164, ha172_164, hf⟩ := hf
              refine x_getn C hW fg_X8_22_11 ha172_164 dX8_takeStocking_172 ?_
              replace hf := x_b1 hf; obtain ⟨x175_165, hx175_165, hf⟩ := hf
              refine x_geti C hW fg_X8_151_3 hx175_165 dX8_takeStocking_175 ?_
              refine lv_iconst (v := 1) C.x C.b dX8_takeStocking_178 (by decide) ?_
              refine lv_isub C.x C.b dX8_takeStocking_179 ?_
              replace hf := x_b1 hf; obtain ⟨a180_166, ha180_166, hf⟩ := hf
              refine x_aldn C hW (kd := 23) (by decide) (by decide) ha180_166 dX8_takeStocking_180 ?_
              refine lv_astore (lv' := [(7, .ref (E.b + _)), (6, .int _), (5, .int _), (4, .int _), (3, .int _), (2, .int _), (1, .int _), (0, .ref (E.b + _))]) C.x C.b dX8_takeStocking_181 hl (by decide) rfl (fun ls hl => ?_)
              refine lv_aload C.x C.b dX8_takeStocking_183 (lv_at hl 0 rfl) ?_
              refine lv_iload C.x C.b dX8_takeStocking_185 (lv_at hl 2 rfl) ?_
              replace hf := x_b1 hf; obtain ⟨M187_167, hM187_167, hf⟩ := hf
              refine x_puti C hW fp_X8_168_10 hM187_167 (fun h => by cases h) dX8_takeStocking_187 (fun H locs hW => ?_)
              refine lv_aload C.x C.b dX8_takeStocking_190 (lv_at hl 0 rfl) ?_
              refine lv_iload C.x C.b dX8_takeStocking_192 (lv_at hl 1 rfl) ?_
              replace hf := x_b1 hf; obtain ⟨M194_168, hM194_168, hf⟩ := hf
              refine x_puti C hW fp_X8_173_10 hM194_168 (fun h => by cases h) dX8_takeStocking_194 (fun H locs hW => ?_)
              rw [x_e0 hf]
              exact x_vret C hr hW dX8_takeStocking_197
    · replace hf := x_in c19 hf
      refine lv_iconst (v := 1) C.x C.b dX8_takeStocking_22 (by decide) ?_
      refine lv_goto (tgt := 27) C.x C.b dX8_takeStocking_23 rfl ?_
      replace hf := x_b1 hf; obtain ⟨_, hk27_169, hf⟩ := hf
      replace hf := x_b1 hf; obtain ⟨M27_170, hM27_170, hf⟩ := hf
      refine x_callV (As := [.int 1]) (a := o) (rest := []) C hW hl (qX8_take l E hM27_170) (x_gk hk27_169) (by decide) (by decide) rfl gv_X8_99 ⟨rfl, hd_X8_take⟩ rfl rfl (Nat.le_of_ble_eq_true rfl) dX8_takeStocking_27 ⟨Nat.le_of_ble_eq_true rfl, Nat.le_of_ble_eq_true rfl⟩ ⟨Nat.le_of_ble_eq_true rfl, Nat.le_of_ble_eq_true rfl⟩ (fun H locs hW => ?_)
      refine lv_aload_n C.x C.b dX8_takeStocking_30 rfl (lv_at hl 1 rfl) ?_
      refine lv_iconst (v := 0) C.x C.b dX8_takeStocking_31 (by decide) ?_
      refine lv_bipush (v := 9) C.x C.b dX8_takeStocking_32 (by decide) ?_
      replace hf := x_b1 hf; obtain ⟨_, hk34_171, hf⟩ := hf
      replace hf := x_b2 hf; obtain ⟨x34_172, M34_173, hx34_172, hf⟩ := hf
      refine x_callV (As := [.int 0, .int 9]) (a := o) (rest := []) C hW hl (qX8_takeNumber l E hx34_172) (x_gk hk34_171) (by decide) (by decide) rfl gv_X8_128 ⟨rfl, hd_X8_takeNumber⟩ rfl rfl (Nat.le_of_ble_eq_true rfl) dX8_takeStocking_34 ⟨Nat.le_of_ble_eq_true rfl, Nat.le_of_ble_eq_true rfl⟩ ⟨Nat.le_of_ble_eq_true rfl, Nat.le_of_ble_eq_true rfl⟩ (fun H locs hW => ?_)
      refine lv_istore_n (lv' := [(2, .int _), (1, .int _), (0, .ref (E.b + _))]) C.x C.b dX8_takeStocking_37 rfl hl (by decide) rfl (fun ls hl => ?_)
      refine lv_aload_n C.x C.b dX8_takeStocking_38 rfl (lv_at hl 2 rfl) ?_
      refine lv_aload_n C.x C.b dX8_takeStocking_39 rfl (lv_at hl 2 rfl) ?_
      refine x_ldcS (q := 16) (tx := "shade") C (by decide +kernel) dX8_takeStocking_40 ?_
      replace hf := x_b1 hf; obtain ⟨_, hk42_174, hf⟩ := hf
      replace hf := x_b1 hf; obtain ⟨x42_175, hx42_175, hf⟩ := hf
      refine x_callV (As := [.ref (E.x (100 + 16))]) (a := o) (rest := [.ref (E.b + o)]) C hW hl (qX8_isName l E hx42_175) (x_gk hk42_174) (by decide) (by decide) rfl gv_X8_67 ⟨rfl, hd_X8_isName⟩ rfl rfl (Nat.le_of_ble_eq_true rfl) dX8_takeStocking_42 ⟨Nat.le_of_ble_eq_true rfl, Nat.le_of_ble_eq_true rfl⟩ ⟨Nat.le_of_ble_eq_true rfl, Nat.le_of_ble_eq_true rfl⟩ (fun H locs hW => ?_)
      replace hf := x_b1 hf; obtain ⟨_, hk45_176, hf⟩ := hf
      replace hf := x_b1 hf; obtain ⟨M45_177, hM45_177, hf⟩ := hf
      refine x_callV (As := [.int x42_175]) (a := o) (rest := []) C hW hl (qX8_take l E hM45_177) (x_gk hk45_176) (by decide) (by decide) rfl gv_X8_99 ⟨rfl, hd_X8_take⟩ rfl rfl (Nat.le_of_ble_eq_true rfl) dX8_takeStocking_45 ⟨Nat.le_of_ble_eq_true rfl, Nat.le_of_ble_eq_true rfl⟩ ⟨Nat.le_of_ble_eq_true rfl, Nat.le_of_ble_eq_true rfl⟩ (fun H locs hW => ?_)
      refine lv_aload_n C.x C.b dX8_takeStocking_48 rfl (lv_at hl 2 rfl) ?_
      refine lv_iconst (v := 0) C.x C.b dX8_takeStocking_49 (by decide) ?_
      refine lv_iconst (v := 3) C.x C.b dX8_takeStocking_50 (by decide) ?_
      replace hf := x_b1 hf; obtain ⟨_, hk51_178, hf⟩ := hf
      replace hf := x_b2 hf; obtain ⟨x51_179, M51_180, hx51_179, hf⟩ := hf
      refine x_callV (As := [.int 0, .int 3]) (a := o) (rest := []) C hW hl (qX8_takeNumber l E hx51_179) (x_gk hk51_178) (by decide) (by decide) rfl gv_X8_128 ⟨rfl, hd_X8_takeNumber⟩ rfl rfl (Nat.le_of_ble_eq_true rfl) dX8_takeStocking_51 ⟨Nat.le_of_ble_eq_true rfl, Nat.le_of_ble_eq_true rfl⟩ ⟨Nat.le_of_ble_eq_true rfl, Nat.le_of_ble_eq_true rfl⟩ (fun H locs hW => ?_)
      refine lv_istore_n (lv' := [(3, .int _), (2, .int _), (1, .int _), (0, .ref (E.b + _))]) C.x C.b dX8_takeStocking_54 rfl hl (by decide) rfl (fun ls hl => ?_)
      refine lv_aload_n C.x C.b dX8_takeStocking_55 rfl (lv_at hl 3 rfl) ?_
      refine lv_aload_n C.x C.b dX8_takeStocking_56 rfl (lv_at hl 3 rfl) ?_
      refine x_ldcS (q := 17) (tx := "lasts") C (by decide +kernel) dX8_takeStocking_57 ?_
      replace hf := x_b1 hf; obtain ⟨_, hk59_181, hf⟩ := hf
      replace hf := x_b1 hf; obtain ⟨x59_182, hx59_182, hf⟩ := hf
      refine x_callV (As := [.ref (E.x (100 + 17))]) (a := o) (rest := [.ref (E.b + o)]) C hW hl (qX8_isName l E hx59_182) (x_gk hk59_181) (by decide) (by decide) rfl gv_X8_67 ⟨rfl, hd_X8_isName⟩ rfl rfl (Nat.le_of_ble_eq_true rfl) dX8_takeStocking_59 ⟨Nat.le_of_ble_eq_true rfl, Nat.le_of_ble_eq_true rfl⟩ ⟨Nat.le_of_ble_eq_true rfl, Nat.le_of_ble_eq_true rfl⟩ (fun H locs hW => ?_)
      replace hf := x_b1 hf; obtain ⟨_, hk62_183, hf⟩ := hf
      replace hf := x_b1 hf; obtain ⟨M62_184, hM62_184, hf⟩ := hf
      refine x_callV (As := [.int x59_182]) (a := o) (rest := []) C hW hl (qX8_take l E hM62_184) (x_gk hk62_183) (by decide) (by decide) rfl gv_X8_99 ⟨rfl, hd_X8_take⟩ rfl rfl (Nat.le_of_ble_eq_true rfl) dX8_takeStocking_62 ⟨Nat.le_of_ble_eq_true rfl, Nat.le_of_ble_eq_true rfl⟩ ⟨Nat.le_of_ble_eq_true rfl, Nat.le_of_ble_eq_true rfl⟩ (fun H locs hW => ?_)
      refine lv_aload_n C.x C.b dX8_takeStocking_65 rfl (lv_at hl 3 rfl) ?_
      refine lv_iconst (v := 1) C.x C.b dX8_takeStocking_66 (by decide) ?_
      refine lv_bipush (v := 30) C.x C.b dX8_takeStocking_67 (by decide) ?_
      replace hf := x_b1 hf; obtain ⟨_, hk69_185, hf⟩ := hf
      replace hf := x_b2 hf; obtain ⟨x69_186, M69_187, hx69_186, hf⟩ := hf
      refine x_callV (As := [.int 1, .int 30]) (a := o) (rest := []) C hW hl (qX8_takeNumber l E hx69_186) (x_gk hk69_185) (by decide) (by decide) rfl gv_X8_128 ⟨rfl, hd_X8_takeNumber⟩ rfl rfl (Nat.le_of_ble_eq_true rfl) dX8_takeStocking_69 ⟨Nat.le_of_ble_eq_true rfl, Nat.le_of_ble_eq_true rfl⟩ ⟨Nat.le_of_ble_eq_true rfl, Nat.le_of_ble_eq_true rfl⟩ (fun H locs hW => ?_)
      refine lv_istore (lv' := [(4, .int _), (3, .int _), (2, .int _), (1, .int _), (0, .ref (E.b + _))]) C.x C.b dX8_takeStocking_72 hl (by decide) rfl (fun ls hl => ?_)
      refine lv_bipush (v := (-9)) C.x C.b dX8_takeStocking_74 (by decide) ?_
      refine lv_istore (lv' := [(5, .int _), (4, .int _), (3, .int _), (2, .int _), (1, .int _), (0, .ref (E.b + _))]) C.x C.b dX8_takeStocking_76 hl (by decide) rfl (fun ls hl => ?_)
      refine lv_bipush (v := (-9)) C.x C.b dX8_takeStocking_78 (by decide) ?_
      refine lv_istore (lv' := [(6, .int _), (5, .int _), (4, .int _), (3, .int _), (2, .int _), (1, .int _), (0, .ref (E.b + _))]) C.x C.b dX8_takeStocking_80 hl (by decide) rfl (fun ls hl => ?_)
      refine lv_aload_n C.x C.b dX8_takeStocking_82 rfl (lv_at hl 6 rfl) ?_
      replace hf := x_b1 hf; obtain ⟨x83_188, hx83_188, hf⟩ := hf
      refine x_geti C hW fg_X8_41_11 hx83_188 dX8_takeStocking_83 ?_
      refine lv_if_ge (tgt := 132) C.x C.b dX8_takeStocking_86 rfl (fun c86 => ?_) (fun c86 => ?_)
      · replace hf := x_ip c86 hf
        refine lv_aload_n C.x C.b dX8_takeStocking_132 rfl (lv_at hl 6 rfl) ?_
        refine lv_aload_n C.x C.b dX8_takeStocking_133 rfl (lv_at hl 6 rfl) ?_
        refine lv_bipush (v := 59) C.x C.b dX8_takeStocking_134 (by decide) ?_
        replace hf := x_b1 hf; obtain ⟨_, hk136_189, hf⟩ := hf
        replace hf := x_b1 hf; obtain ⟨x136_190, hx136_190, hf⟩ := hf
        refine x_callV (As := [.int 59]) (a := o) (rest := [.ref (E.b + o)]) C hW hl (qX8_isSign l E hx136_190) (x_gk hk136_189) (by decide) (by decide) rfl gv_X8_115 ⟨rfl, hd_X8_isSign⟩ rfl rfl (Nat.le_of_ble_eq_true rfl) dX8_takeStocking_136 ⟨Nat.le_of_ble_eq_true rfl, Nat.le_of_ble_eq_true rfl⟩ ⟨Nat.le_of_ble_eq_true rfl, Nat.le_of_ble_eq_true rfl⟩ (fun H locs hW => ?_)
        replace hf := x_b1 hf; obtain ⟨_, hk139_191, hf⟩ := hf
        replace hf := x_b1 hf; obtain ⟨M139_192, hM139_192, hf⟩ := hf
        refine x_callV (As := [.int x136_190]) (a := o) (rest := []) C hW hl (qX8_take l E hM139_192) (x_gk hk139_191) (by decide) (by decide) rfl gv_X8_99 ⟨rfl, hd_X8_take⟩ rfl rfl (Nat.le_of_ble_eq_true rfl) dX8_takeStocking_139 ⟨Nat.le_of_ble_eq_true rfl, Nat.le_of_ble_eq_true rfl⟩ ⟨Nat.le_of_ble_eq_true rfl, Nat.le_of_ble_eq_true rfl⟩ (fun H locs hW => ?_)
        refine lv_aload_n C.x C.b dX8_takeStocking_142 rfl (lv_at hl 6 rfl) ?_
        replace hf := x_b1 hf; obtain ⟨x143_193, hx143_193, hf⟩ := hf
        refine x_geti C hW fg_X8_41_11 hx143_193 dX8_takeStocking_143 ?_
        refine lv_if_ge (tgt := 197) C.x C.b dX8_takeStocking_146 rfl (fun c146 => ?_) (fun c146 => ?_)
        · replace hf := x_ip c146 hf
          rw [x_e0 hf]
          exact x_vret C hr hW dX8_takeStocking_197
        · replace hf := x_in c146 hf
          refine lv_aload_n C.x C.b dX8_takeStocking_149 rfl (lv_at hl 6 rfl) ?_
          replace hf := x_b1 hf; obtain ⟨a150_194, ha150_194, hf⟩ := hf
          refine x_getn C hW fg_X8_22_11 ha150_194 dX8_takeStocking_150 ?_
          refine lv_iload_n C.x C.b dX8_takeStocking_153 rfl (lv_at hl 5 rfl) ?_
          refine lv_iload_n C.x C.b dX8_takeStocking_154 rfl (lv_at hl 4 rfl) ?_
          refine lv_iload_n C.x C.b dX8_takeStocking_155 rfl (lv_at hl 3 rfl) ?_
          refine lv_iload C.x C.b dX8_takeStocking_156 (lv_at hl 2 rfl) ?_
          replace hf := x_b1 hf; obtain ⟨_, hk158_195, hf⟩ := hf
          replace hf := x_b2 hf; obtain ⟨x158_196, M158_197, hx158_196, hf⟩ := hf
          refine x_callV (As := [.int x1_2, .int x34_172, .int x51_179, .int x69_186]) (a := a150_194) (rest := []) C hW hl (qX0_addStocking l E hx158_196) (x_gk hk158_195) (by decide) (by decide) rfl gv_X8_160 ⟨rfl, hd_X0_addStocking⟩ rfl rfl (Nat.le_of_ble_eq_true rfl) dX8_takeStocking_158 ⟨Nat.le_of_ble_eq_true rfl, Nat.le_of_ble_eq_true rfl⟩ ⟨Nat.le_of_ble_eq_true rfl, Nat.le_of_ble_eq_true rfl⟩ (fun H locs hW => ?_)
          refine lv_if_eq (tgt := 197) C.x C.b dX8_takeStocking_161 rfl (fun c161 => ?_) (fun c161 => ?_)
          · replace hf := x_ip c161 hf
            rw [x_e0 hf]
            exact x_vret C hr hW dX8_takeStocking_197
          · replace hf := x_in c161 hf
            refine lv_aload_n C.x C.b dX8_takeStocking_164 rfl (lv_at hl 6 rfl) ?_
            replace hf := x_b1 hf; obtain ⟨a165_198, ha165_198, hf⟩ := hf
            refine x_getn C hW fg_X8_22_11 ha165_198 dX8_takeStocking_165 ?_
            replace hf := x_b1 hf; obtain ⟨a168_199, ha168_199, hf⟩ := hf
            refine x_getn C hW fg_X8_164_3 ha168_199 dX8_takeStocking_168 ?_
            refine lv_aload_n C.x C.b dX8_takeStocking_171 rfl (lv_at hl 6 rfl) ?_
            replace hf := x_b1 hf; obtain ⟨a172_200, ha172_200, hf⟩ := hf
            refine x_getn C hW fg_X8_22_11 ha172_200 dX8_takeStocking_172 ?_
            replace hf := x_b1 hf; obtain ⟨x175_201, hx175_201, hf⟩ := hf
            refine x_geti C hW fg_X8_151_3 hx175_201 dX8_takeStocking_175 ?_
            refine lv_iconst (v := 1) C.x C.b dX8_takeStocking_178 (by decide) ?_
            refine lv_isub C.x C.b dX8_takeStocking_179 ?_
            replace hf := x_b1 hf; obtain ⟨a180_202, ha180_202, hf⟩ := hf
            refine x_aldn C hW (kd := 23) (by decide) (by decide) ha180_202 dX8_takeStocking_180 ?_
            refine lv_astore (lv' := [(7, .ref (E.b + _)), (6, .int _), (5, .int _), (4, .int _), (3, .int _), (2, .int _), (1, .int _), (0, .ref (E.b + _))]) C.x C.b dX8_takeStocking_181 hl (by decide) rfl (fun ls hl => ?_)
            refine lv_aload C.x C.b dX8_takeStocking_183 (lv_at hl 0 rfl) ?_
            refine lv_iload C.x C.b dX8_takeStocking_185 (lv_at hl 2 rfl) ?_
            replace hf := x_b1 hf; obtain ⟨M187_203, hM187_203, hf⟩ := hf
            refine x_puti C hW fp_X8_168_10 hM187_203 (fun h => by cases h) dX8_takeStocking_187 (fun H locs hW => ?_)
            refine lv_aload C.x C.b dX8_takeStocking_190 (lv_at hl 0 rfl) ?_
            refine lv_iload C.x C.b dX8_takeStocking_192 (lv_at hl 1 rfl) ?_
            replace hf := x_b1 hf; obtain ⟨M194_204, hM194_204, hf⟩ := hf
            refine x_puti C hW fp_X8_173_10 hM194_204 (fun h => by cases h) dX8_takeStocking_194 (fun H locs hW => ?_)
            rw [x_e0 hf]
            exact x_vret C hr hW dX8_takeStocking_197
      · replace hf := x_in c86 hf
        refine lv_aload_n C.x C.b dX8_takeStocking_89 rfl (lv_at hl 6 rfl) ?_
        refine x_ldcS (q := 18) (tx := "ladder") C (by decide +kernel) dX8_takeStocking_90 ?_
        replace hf := x_b1 hf; obtain ⟨_, hk92_205, hf⟩ := hf
        replace hf := x_b1 hf; obtain ⟨x92_206, hx92_206, hf⟩ := hf
        refine x_callV (As := [.ref (E.x (100 + 18))]) (a := o) (rest := []) C hW hl (qX8_isName l E hx92_206) (x_gk hk92_205) (by decide) (by decide) rfl gv_X8_67 ⟨rfl, hd_X8_isName⟩ rfl rfl (Nat.le_of_ble_eq_true rfl) dX8_takeStocking_92 ⟨Nat.le_of_ble_eq_true rfl, Nat.le_of_ble_eq_true rfl⟩ ⟨Nat.le_of_ble_eq_true rfl, Nat.le_of_ble_eq_true rfl⟩ (fun H locs hW => ?_)
        refine lv_if_eq (tgt := 132) C.x C.b dX8_takeStocking_95 rfl (fun c95 => ?_) (fun c95 => ?_)
        · replace hf := x_ip c95 hf
          refine lv_aload_n C.x C.b dX8_takeStocking_132 rfl (lv_at hl 6 rfl) ?_
          refine lv_aload_n C.x C.b dX8_takeStocking_133 rfl (lv_at hl 6 rfl) ?_
          refine lv_bipush (v := 59) C.x C.b dX8_takeStocking_134 (by decide) ?_
          replace hf := x_b1 hf; obtain ⟨_, hk136_207, hf⟩ := hf
          replace hf := x_b1 hf; obtain ⟨x136_208, hx136_208, hf⟩ := hf
          refine x_callV (As := [.int 59]) (a := o) (rest := [.ref (E.b + o)]) C hW hl (qX8_isSign l E hx136_208) (x_gk hk136_207) (by decide) (by decide) rfl gv_X8_115 ⟨rfl, hd_X8_isSign⟩ rfl rfl (Nat.le_of_ble_eq_true rfl) dX8_takeStocking_136 ⟨Nat.le_of_ble_eq_true rfl, Nat.le_of_ble_eq_true rfl⟩ ⟨Nat.le_of_ble_eq_true rfl, Nat.le_of_ble_eq_true rfl⟩ (fun H locs hW => ?_)
          replace hf := x_b1 hf; obtain ⟨_, hk139_209, hf⟩ := hf
          replace hf := x_b1 hf; obtain ⟨M139_210, hM139_210, hf⟩ := hf
          refine x_callV (As := [.int x136_208]) (a := o) (rest := []) C hW hl (qX8_take l E hM139_210) (x_gk hk139_209) (by decide) (by decide) rfl gv_X8_99 ⟨rfl, hd_X8_take⟩ rfl rfl (Nat.le_of_ble_eq_true rfl) dX8_takeStocking_139 ⟨Nat.le_of_ble_eq_true rfl, Nat.le_of_ble_eq_true rfl⟩ ⟨Nat.le_of_ble_eq_true rfl, Nat.le_of_ble_eq_true rfl⟩ (fun H locs hW => ?_)
          refine lv_aload_n C.x C.b dX8_takeStocking_142 rfl (lv_at hl 6 rfl) ?_
          replace hf := x_b1 hf; obtain ⟨x143_211, hx143_211, hf⟩ := hf
          refine x_geti C hW fg_X8_41_11 hx143_211 dX8_takeStocking_143 ?_
          refine lv_if_ge (tgt := 197) C.x C.b dX8_takeStocking_146 rfl (fun c146 => ?_) (fun c146 => ?_)
          · replace hf := x_ip c146 hf
            rw [x_e0 hf]
            exact x_vret C hr hW dX8_takeStocking_197
          · replace hf := x_in c146 hf
            refine lv_aload_n C.x C.b dX8_takeStocking_149 rfl (lv_at hl 6 rfl) ?_
            replace hf := x_b1 hf; obtain ⟨a150_212, ha150_212, hf⟩ := hf
            refine x_getn C hW fg_X8_22_11 ha150_212 dX8_takeStocking_150 ?_
            refine lv_iload_n C.x C.b dX8_takeStocking_153 rfl (lv_at hl 5 rfl) ?_
            refine lv_iload_n C.x C.b dX8_takeStocking_154 rfl (lv_at hl 4 rfl) ?_
            refine lv_iload_n C.x C.b dX8_takeStocking_155 rfl (lv_at hl 3 rfl) ?_
            refine lv_iload C.x C.b dX8_takeStocking_156 (lv_at hl 2 rfl) ?_
            replace hf := x_b1 hf; obtain ⟨_, hk158_213, hf⟩ := hf
            replace hf := x_b2 hf; obtain ⟨x158_214, M158_215, hx158_214, hf⟩ := hf
            refine x_callV (As := [.int x1_2, .int x34_172, .int x51_179, .int x69_186]) (a := a150_212) (rest := []) C hW hl (qX0_addStocking l E hx158_214) (x_gk hk158_213) (by decide) (by decide) rfl gv_X8_160 ⟨rfl, hd_X0_addStocking⟩ rfl rfl (Nat.le_of_ble_eq_true rfl) dX8_takeStocking_158 ⟨Nat.le_of_ble_eq_true rfl, Nat.le_of_ble_eq_true rfl⟩ ⟨Nat.le_of_ble_eq_true rfl, Nat.le_of_ble_eq_true rfl⟩ (fun H locs hW => ?_)
            refine lv_if_eq (tgt := 197) C.x C.b dX8_takeStocking_161 rfl (fun c161 => ?_) (fun c161 => ?_)
            · replace hf := x_ip c161 hf
              rw [x_e0 hf]
              exact x_vret C hr hW dX8_takeStocking_197
            · replace hf := x_in c161 hf
              refine lv_aload_n C.x C.b dX8_takeStocking_164 rfl (lv_at hl 6 rfl) ?_
              replace hf := x_b1 hf; obtain ⟨a165_216, ha165_216, hf⟩ := hf
              refine x_getn C hW fg_X8_22_11 ha165_216 dX8_takeStocking_165 ?_
              replace hf := x_b1 hf; obtain ⟨a168_217, ha168_217, hf⟩ := hf
              refine x_getn C hW fg_X8_164_3 ha168_217 dX8_takeStocking_168 ?_
              refine lv_aload_n C.x C.b dX8_takeStocking_171 rfl (lv_at hl 6 rfl) ?_
              replace hf := x_b1 hf; obtain ⟨a172_218, ha172_218, hf⟩ := hf
              refine x_getn C hW fg_X8_22_11 ha172_218 dX8_takeStocking_172 ?_
              replace hf := x_b1 hf; obtain ⟨x175_219, hx175_219, hf⟩ := hf
              refine x_geti C hW fg_X8_151_3 hx175_219 dX8_takeStocking_175 ?_
              refine lv_iconst (v := 1) C.x C.b dX8_takeStocking_178 (by decide) ?_
              refine lv_isub C.x C.b dX8_takeStocking_179 ?_
              replace hf := x_b1 hf; obtain ⟨a180_220, ha180_220, hf⟩ := hf
              refine x_aldn C hW (kd := 23) (by decide) (by decide) ha180_220 dX8_takeStocking_180 ?_
              refine lv_astore (lv' := [(7, .ref (E.b + _)), (6, .int _), (5, .int _), (4, .int _), (3, .int _), (2, .int _), (1, .int _), (0, .ref (E.b + _))]) C.x C.b dX8_takeStocking_181 hl (by decide) rfl (fun ls hl => ?_)
              refine lv_aload C.x C.b dX8_takeStocking_183 (lv_at hl 0 rfl) ?_
              refine lv_iload C.x C.b dX8_takeStocking_185 (lv_at hl 2 rfl) ?_
              replace hf := x_b1 hf; obtain ⟨M187_221, hM187_221, hf⟩ := hf
              refine x_puti C hW fp_X8_168_10 hM187_221 (fun h => by cases h) dX8_takeStocking_187 (fun H locs hW => ?_)
              refine lv_aload C.x C.b dX8_takeStocking_190 (lv_at hl 0 rfl) ?_
              refine lv_iload C.x C.b dX8_takeStocking_192 (lv_at hl 1 rfl) ?_
              replace hf := x_b1 hf; obtain ⟨M194_222, hM194_222, hf⟩ := hf
              refine x_puti C hW fp_X8_173_10 hM194_222 (fun h => by cases h) dX8_takeStocking_194 (fun H locs hW => ?_)
              rw [x_e0 hf]
              exact x_vret C hr hW dX8_takeStocking_197
        · replace hf := x_in c95 hf
          refine lv_aload_n C.x C.b dX8_takeStocking_98 rfl (lv_at hl 6 rfl) ?_
          refine lv_iconst (v := 1) C.x C.b dX8_takeStocking_99 (by decide) ?_
          replace hf := x_b1 hf; obtain ⟨_, hk100_223, hf⟩ := hf
          replace hf := x_b1 hf; obtain ⟨M100_224, hM100_224, hf⟩ := hf
          refine x_callV (As := [.int 1]) (a := o) (rest := []) C hW hl (qX8_take l E hM100_224) (x_gk hk100_223) (by decide) (by decide) rfl gv_X8_99 ⟨rfl, hd_X8_take⟩ rfl rfl (Nat.le_of_ble_eq_true rfl) dX8_takeStocking_100 ⟨Nat.le_of_ble_eq_true rfl, Nat.le_of_ble_eq_true rfl⟩ ⟨Nat.le_of_ble_eq_true rfl, Nat.le_of_ble_eq_true rfl⟩ (fun H locs hW => ?_)
          refine lv_aload_n C.x C.b dX8_takeStocking_103 rfl (lv_at hl 6 rfl) ?_
          refine lv_iconst (v := 0) C.x C.b dX8_takeStocking_104 (by decide) ?_
          refine lv_bipush (v := 99) C.x C.b dX8_takeStocking_105 (by decide) ?_
          replace hf := x_b1 hf; obtain ⟨_, hk107_225, hf⟩ := hf
          replace hf := x_b2 hf; obtain ⟨x107_226, M107_227, hx107_226, hf⟩ := hf
          refine x_callV (As := [.int 0, .int 99]) (a := o) (rest := []) C hW hl (qX8_takeNumber l E hx107_226) (x_gk hk107_225) (by decide) (by decide) rfl gv_X8_128 ⟨rfl, hd_X8_takeNumber⟩ rfl rfl (Nat.le_of_ble_eq_true rfl) dX8_takeStocking_107 ⟨Nat.le_of_ble_eq_true rfl, Nat.le_of_ble_eq_true rfl⟩ ⟨Nat.le_of_ble_eq_true rfl, Nat.le_of_ble_eq_true rfl⟩ (fun H locs hW => ?_)
          refine lv_istore (lv' := [(5, .int _), (6, .int _), (4, .int _), (3, .int _), (2, .int _), (1, .int _), (0, .ref (E.b + _))]) C.x C.b dX8_takeStocking_110 hl (by decide) rfl (fun ls hl => ?_)
          refine lv_aload_n C.x C.b dX8_takeStocking_112 rfl (lv_at hl 6 rfl) ?_
          refine lv_aload_n C.x C.b dX8_takeStocking_113 rfl (lv_at hl 6 rfl) ?_
          refine x_ldcS (q := 19) (tx := "to") C (by decide +kernel) dX8_takeStocking_114 ?_
          replace hf := x_b1 hf; obtain ⟨_, hk116_228, hf⟩ := hf
          replace hf := x_b1 hf; obtain ⟨x116_229, hx116_229, hf⟩ := hf
          refine x_callV (As := [.ref (E.x (100 + 19))]) (a := o) (rest := [.ref (E.b + o)]) C hW hl (qX8_isName l E hx116_229) (x_gk hk116_228) (by decide) (by decide) rfl gv_X8_67 ⟨rfl, hd_X8_isName⟩ rfl rfl (Nat.le_of_ble_eq_true rfl) dX8_takeStocking_116 ⟨Nat.le_of_ble_eq_true rfl, Nat.le_of_ble_eq_true rfl⟩ ⟨Nat.le_of_ble_eq_true rfl, Nat.le_of_ble_eq_true rfl⟩ (fun H locs hW => ?_)
          replace hf := x_b1 hf; obtain ⟨_, hk119_230, hf⟩ := hf
          replace hf := x_b1 hf; obtain ⟨M119_231, hM119_231, hf⟩ := hf
          refine x_callV (As := [.int x116_229]) (a := o) (rest := []) C hW hl (qX8_take l E hM119_231) (x_gk hk119_230) (by decide) (by decide) rfl gv_X8_99 ⟨rfl, hd_X8_take⟩ rfl rfl (Nat.le_of_ble_eq_true rfl) dX8_takeStocking_119 ⟨Nat.le_of_ble_eq_true rfl, Nat.le_of_ble_eq_true rfl⟩ ⟨Nat.le_of_ble_eq_true rfl, Nat.le_of_ble_eq_true rfl⟩ (fun H locs hW => ?_)
          refine lv_aload_n C.x C.b dX8_takeStocking_122 rfl (lv_at hl 6 rfl) ?_
          refine lv_iload C.x C.b dX8_takeStocking_123 (lv_at hl 0 rfl) ?_
          refine lv_bipush (v := 99) C.x C.b dX8_takeStocking_125 (by decide) ?_
          replace hf := x_b1 hf; obtain ⟨_, hk127_232, hf⟩ := hf
          replace hf := x_b2 hf; obtain ⟨x127_233, M127_234, hx127_233, hf⟩ := hf
          refine x_callV (As := [.int x107_226, .int 99]) (a := o) (rest := []) C hW hl (qX8_takeNumber l E hx127_233) (x_gk hk127_232) (by decide) (by decide) rfl gv_X8_128 ⟨rfl, hd_X8_takeNumber⟩ rfl rfl (Nat.le_of_ble_eq_true rfl) dX8_takeStocking_127 ⟨Nat.le_of_ble_eq_true rfl, Nat.le_of_ble_eq_true rfl⟩ ⟨Nat.le_of_ble_eq_true rfl, Nat.le_of_ble_eq_true rfl⟩ (fun H locs hW => ?_)
          refine lv_istore (lv' := [(6, .int _), (5, .int _), (4, .int _), (3, .int _), (2, .int _), (1, .int _), (0, .ref (E.b + _))]) C.x C.b dX8_takeStocking_130 hl (by decide) rfl (fun ls hl => ?_)
          refine lv_aload_n C.x C.b dX8_takeStocking_132 rfl (lv_at hl 6 rfl) ?_
          refine lv_aload_n C.x C.b dX8_takeStocking_133 rfl (lv_at hl 6 rfl) ?_
          refine lv_bipush (v := 59) C.x C.b dX8_takeStocking_134 (by decide) ?_
          replace hf := x_b1 hf; obtain ⟨_, hk136_235, hf⟩ := hf
          replace hf := x_b1 hf; obtain ⟨x136_236, hx136_236, hf⟩ := hf
          refine x_callV (As := [.int 59]) (a := o) (rest := [.ref (E.b + o)]) C hW hl (qX8_isSign l E hx136_236) (x_gk hk136_235) (by decide) (by decide) rfl gv_X8_115 ⟨rfl, hd_X8_isSign⟩ rfl rfl (Nat.le_of_ble_eq_true rfl) dX8_takeStocking_136 ⟨Nat.le_of_ble_eq_true rfl, Nat.le_of_ble_eq_true rfl⟩ ⟨Nat.le_of_ble_eq_true rfl, Nat.le_of_ble_eq_true rfl⟩ (fun H locs hW => ?_)
          replace hf := x_b1 hf; obtain ⟨_, hk139_237, hf⟩ := hf
          replace hf := x_b1 hf; obtain ⟨M139_238, hM139_238, hf⟩ := hf
          refine x_callV (As := [.int x136_236]) (a := o) (rest := []) C hW hl (qX8_take l E hM139_238) (x_gk hk139_237) (by decide) (by decide) rfl gv_X8_99 ⟨rfl, hd_X8_take⟩ rfl rfl (Nat.le_of_ble_eq_true rfl) dX8_takeStocking_139 ⟨Nat.le_of_ble_eq_true rfl, Nat.le_of_ble_eq_true rfl⟩ ⟨Nat.le_of_ble_eq_true rfl, Nat.le_of_ble_eq_true rfl⟩ (fun H locs hW => ?_)
          refine lv_aload_n C.x C.b dX8_takeStocking_142 rfl (lv_at hl 6 rfl) ?_
          replace hf := x_b1 hf; obtain ⟨x143_239, hx143_239, hf⟩ := hf
          refine x_geti C hW fg_X8_41_11 hx143_239 dX8_takeStocking_143 ?_
          refine lv_if_ge (tgt := 197) C.x C.b dX8_takeStocking_146 rfl (fun c146 => ?_) (fun c146 => ?_)
          · replace hf := x_ip c146 hf
            rw [x_e0 hf]
            exact x_vret C hr hW dX8_takeStocking_197
          · replace hf := x_in c146 hf
            refine lv_aload_n C.x C.b dX8_takeStocking_149 rfl (lv_at hl 6 rfl) ?_
            replace hf := x_b1 hf; obtain ⟨a150_240, ha150_240, hf⟩ := hf
            refine x_getn C hW fg_X8_22_11 ha150_240 dX8_takeStocking_150 ?_
            refine lv_iload_n C.x C.b dX8_takeStocking_153 rfl (lv_at hl 5 rfl) ?_
            refine lv_iload_n C.x C.b dX8_takeStocking_154 rfl (lv_at hl 4 rfl) ?_
            refine lv_iload_n C.x C.b dX8_takeStocking_155 rfl (lv_at hl 3 rfl) ?_
            refine lv_iload C.x C.b dX8_takeStocking_156 (lv_at hl 2 rfl) ?_
            replace hf := x_b1 hf; obtain ⟨_, hk158_241, hf⟩ := hf
            replace hf := x_b2 hf; obtain ⟨x158_242, M158_243, hx158_242, hf⟩ := hf
            refine x_callV (As := [.int x1_2, .int x34_172, .int x51_179, .int x69_186]) (a := a150_240) (rest := []) C hW hl (qX0_addStocking l E hx158_242) (x_gk hk158_241) (by decide) (by decide) rfl gv_X8_160 ⟨rfl, hd_X0_addStocking⟩ rfl rfl (Nat.le_of_ble_eq_true rfl) dX8_takeStocking_158 ⟨Nat.le_of_ble_eq_true rfl, Nat.le_of_ble_eq_true rfl⟩ ⟨Nat.le_of_ble_eq_true rfl, Nat.le_of_ble_eq_true rfl⟩ (fun H locs hW => ?_)
            refine lv_if_eq (tgt := 197) C.x C.b dX8_takeStocking_161 rfl (fun c161 => ?_) (fun c161 => ?_)
            · replace hf := x_ip c161 hf
              rw [x_e0 hf]
              exact x_vret C hr hW dX8_takeStocking_197
            · replace hf := x_in c161 hf
              refine lv_aload_n C.x C.b dX8_takeStocking_164 rfl (lv_at hl 6 rfl) ?_
              replace hf := x_b1 hf; obtain ⟨a165_244, ha165_244, hf⟩ := hf
              refine x_getn C hW fg_X8_22_11 ha165_244 dX8_takeStocking_165 ?_
              replace hf := x_b1 hf; obtain ⟨a168_245, ha168_245, hf⟩ := hf
              refine x_getn C hW fg_X8_164_3 ha168_245 dX8_takeStocking_168 ?_
              refine lv_aload_n C.x C.b dX8_takeStocking_171 rfl (lv_at hl 6 rfl) ?_
              replace hf := x_b1 hf; obtain ⟨a172_246, ha172_246, hf⟩ := hf
              refine x_getn C hW fg_X8_22_11 ha172_246 dX8_takeStocking_172 ?_
              replace hf := x_b1 hf; obtain ⟨x175_247, hx175_247, hf⟩ := hf
              refine x_geti C hW fg_X8_151_3 hx175_247 dX8_takeStocking_175 ?_
              refine lv_iconst (v := 1) C.x C.b dX8_takeStocking_178 (by decide) ?_
              refine lv_isub C.x C.b dX8_takeStocking_179 ?_
              replace hf := x_b1 hf; obtain ⟨a180_248, ha180_248, hf⟩ := hf
              refine x_aldn C hW (kd := 23) (by decide) (by decide) ha180_248 dX8_takeStocking_180 ?_
              refine lv_astore (lv' := [(7, .ref (E.b + _)), (6, .int _), (5, .int _), (4, .int _), (3, .int _), (2, .int _), (1, .int _), (0, .ref (E.b + _))]) C.x C.b dX8_takeStocking_181 hl (by decide) rfl (fun ls hl => ?_)
              refine lv_aload C.x C.b dX8_takeStocking_183 (lv_at hl 0 rfl) ?_
              refine lv_iload C.x C.b dX8_takeStocking_185 (lv_at hl 2 rfl) ?_
              replace hf := x_b1 hf; obtain ⟨M187_249, hM187_249, hf⟩ := hf
              refine x_puti C hW fp_X8_168_10 hM187_249 (fun h => by cases h) dX8_takeStocking_187 (fun H locs hW => ?_)
              refine lv_aload C.x C.b dX8_takeStocking_190 (lv_at hl 0 rfl) ?_
              refine lv_iload C.x C.b dX8_takeStocking_192 (lv_at hl 1 rfl) ?_
              replace hf := x_b1 hf; obtain ⟨M194_250, hM194_250, hf⟩ := hf
              refine x_puti C hW fp_X8_173_10 hM194_250 (fun h => by cases h) dX8_takeStocking_194 (fun H locs hW => ?_)
              rw [x_e0 hf]
              exact x_vret C hr hW dX8_takeStocking_197

theorem dX8_takeClause_0 : decode cX8_takeClause 0 = .ok (.aload_n 0, 1) := by decide +kernel
theorem dX8_takeClause_1 : decode cX8_takeClause 1 = .ok (.ldc 65, 2) := by decide +kernel
theorem dX8_takeClause_3 : decode cX8_takeClause 3 = .ok (.invokevirtual 67, 3) := by decide +kernel
theorem dX8_takeClause_6 : decode cX8_takeClause 6 = .ok (.ifCond .eq 11, 3) := by decide +kernel
theorem dX8_takeClause_9 : decode cX8_takeClause 9 = .ok (.aload_n 0, 1) := by decide +kernel
theorem dX8_takeClause_10 : decode cX8_takeClause 10 = .ok (.iconst 0, 1) := by decide +kernel
theorem dX8_takeClause_11 : decode cX8_takeClause 11 = .ok (.invokevirtual 71, 3) := by decide +kernel
theorem dX8_takeClause_14 : decode cX8_takeClause 14 = .ok (.goto 108, 3) := by decide +kernel
theorem dX8_takeClause_17 : decode cX8_takeClause 17 = .ok (.aload_n 0, 1) := by decide +kernel
theorem dX8_takeClause_18 : decode cX8_takeClause 18 = .ok (.ldc 75, 2) := by decide +kernel
theorem dX8_takeClause_20 : decode cX8_takeClause 20 = .ok (.invokevirtual 67, 3) := by decide +kernel
theorem dX8_takeClause_23 : decode cX8_takeClause 23 = .ok (.ifCond .eq 11, 3) := by decide +kernel
theorem dX8_takeClause_26 : decode cX8_takeClause 26 = .ok (.aload_n 0, 1) := by decide +kernel
theorem dX8_takeClause_27 : decode cX8_takeClause 27 = .ok (.iconst 1, 1) := by decide +kernel
theorem dX8_takeClause_28 : decode cX8_takeClause 28 = .ok (.invokevirtual 71, 3) := by decide +kernel
theorem dX8_takeClause_31 : decode cX8_takeClause 31 = .ok (.goto 91, 3) := by decide +kernel
theorem dX8_takeClause_34 : decode cX8_takeClause 34 = .ok (.aload_n 0, 1) := by decide +kernel
theorem dX8_takeClause_35 : decode cX8_takeClause 35 = .ok (.ldc 77, 2) := by decide +kernel
theorem dX8_takeClause_37 : decode cX8_takeClause 37 = .ok (.invokevirtual 67, 3) := by decide +kernel
theorem dX8_takeClause_40 : decode cX8_takeClause 40 = .ok (.ifCond .eq 11, 3) := by decide +kernel
theorem dX8_takeClause_43 : decode cX8_takeClause 43 = .ok (.aload_n 0, 1) := by decide +kernel
theorem dX8_takeClause_44 : decode cX8_takeClause 44 = .ok (.iconst 0, 1) := by decide +kernel
theorem dX8_takeClause_45 : decode cX8_takeClause 45 = .ok (.invokevirtual 79, 3) := by decide +kernel
theorem dX8_takeClause_48 : decode cX8_takeClause 48 = .ok (.goto 74, 3) := by decide +kernel
theorem dX8_takeClause_51 : decode cX8_takeClause 51 = .ok (.aload_n 0, 1) := by decide +kernel
theorem dX8_takeClause_52 : decode cX8_takeClause 52 = .ok (.ldc 82, 2) := by decide +kernel
theorem dX8_takeClause_54 : decode cX8_takeClause 54 = .ok (.invokevirtual 67, 3) := by decide +kernel
theorem dX8_takeClause_57 : decode cX8_takeClause 57 = .ok (.ifCond .eq 11, 3) := by decide +kernel
theorem dX8_takeClause_60 : decode cX8_takeClause 60 = .ok (.aload_n 0, 1) := by decide +kernel
theorem dX8_takeClause_61 : decode cX8_takeClause 61 = .ok (.iconst 1, 1) := by decide +kernel
theorem dX8_takeClause_62 : decode cX8_takeClause 62 = .ok (.invokevirtual 79, 3) := by decide +kernel
theorem dX8_takeClause_65 : decode cX8_takeClause 65 = .ok (.goto 57, 3) := by decide +kernel
theorem dX8_takeClause_68 : decode cX8_takeClause 68 = .ok (.aload_n 0, 1) := by decide +kernel
theorem dX8_takeClause_69 : decode cX8_takeClause 69 = .ok (.ldc 84, 2) := by decide +kernel
theorem dX8_takeClause_71 : decode cX8_takeClause 71 = .ok (.invokevirtual 67, 3) := by decide +kernel
theorem dX8_takeClause_74 : decode cX8_takeClause 74 = .ok (.ifCond .eq 19, 3) := by decide +kernel
theorem dX8_takeClause_77 : decode cX8_takeClause 77 = .ok (.aload_n 0, 1) := by decide +kernel
theorem dX8_takeClause_78 : decode cX8_takeClause 78 = .ok (.aload_n 0, 1) := by decide +kernel
theorem dX8_takeClause_79 : decode cX8_takeClause 79 = .ok (.getfield 22, 3) := by decide +kernel
theorem dX8_takeClause_82 : decode cX8_takeClause 82 = .ok (.getfield 86, 3) := by decide +kernel
theorem dX8_takeClause_85 : decode cX8_takeClause 85 = .ok (.iconst 0, 1) := by decide +kernel
theorem dX8_takeClause_86 : decode cX8_takeClause 86 = .ok (.aaload, 1) := by decide +kernel
theorem dX8_takeClause_87 : decode cX8_takeClause 87 = .ok (.invokevirtual 90, 3) := by decide +kernel
theorem dX8_takeClause_90 : decode cX8_takeClause 90 = .ok (.goto 32, 3) := by decide +kernel
theorem dX8_takeClause_93 : decode cX8_takeClause 93 = .ok (.aload_n 0, 1) := by decide +kernel
theorem dX8_takeClause_94 : decode cX8_takeClause 94 = .ok (.ldc 94, 2) := by decide +kernel
theorem dX8_takeClause_96 : decode cX8_takeClause 96 = .ok (.invokevirtual 67, 3) := by decide +kernel
theorem dX8_takeClause_99 : decode cX8_takeClause 99 = .ok (.ifCond .eq 19, 3) := by decide +kernel
theorem dX8_takeClause_102 : decode cX8_takeClause 102 = .ok (.aload_n 0, 1) := by decide +kernel
theorem dX8_takeClause_103 : decode cX8_takeClause 103 = .ok (.aload_n 0, 1) := by decide +kernel
theorem dX8_takeClause_104 : decode cX8_takeClause 104 = .ok (.getfield 22, 3) := by decide +kernel
theorem dX8_takeClause_107 : decode cX8_takeClause 107 = .ok (.getfield 86, 3) := by decide +kernel
theorem dX8_takeClause_110 : decode cX8_takeClause 110 = .ok (.iconst 1, 1) := by decide +kernel
theorem dX8_takeClause_111 : decode cX8_takeClause 111 = .ok (.aaload, 1) := by decide +kernel
theorem dX8_takeClause_112 : decode cX8_takeClause 112 = .ok (.invokevirtual 90, 3) := by decide +kernel
theorem dX8_takeClause_115 : decode cX8_takeClause 115 = .ok (.goto 7, 3) := by decide +kernel
theorem dX8_takeClause_118 : decode cX8_takeClause 118 = .ok (.aload_n 0, 1) := by decide +kernel
theorem dX8_takeClause_119 : decode cX8_takeClause 119 = .ok (.invokevirtual 96, 3) := by decide +kernel
theorem dX8_takeClause_122 : decode cX8_takeClause 122 = .ok (.return_, 1) := by decide +kernel
theorem hd_X8_takeStocking : yX8_takeStocking.cls ≠ "java/lang/invoke/MethodHandle" ∧ yX8_takeStocking.cls ≠ "java/lang/invoke/VarHandle" ∧ (parseMethodDescriptor yX8_takeStocking.desc).map (fun d => d.parameters.length) = some 0 := by decide +kernel
theorem gv_X8_96 : GoodIn gT (wsV "NylonLadder$Tape" 96 "NylonLadder$Tape" yX8_takeStocking (Cond.code yX8_takeStocking cX8_takeStocking 8 none :: gT)) := good_V T_2_192 T_2_194 TS_13 T_1_6 T_2_195
theorem fg_X8_86_3 : FdG "NylonLadder$Tape" 86 3 4 true := ⟨_, _, _, _, rfl, by decide, by decide, by decide, gxX0, by decide, T_1_143, Or.inl rfl, rfl⟩
theorem hd_X8_takeWay : yX8_takeWay.cls ≠ "java/lang/invoke/MethodHandle" ∧ yX8_takeWay.cls ≠ "java/lang/invoke/VarHandle" ∧ (parseMethodDescriptor yX8_takeWay.desc).map (fun d => d.parameters.length) = some 1 := by decide +kernel
theorem gv_X8_90 : GoodIn gT (wsV "NylonLadder$Tape" 90 "NylonLadder$Tape" yX8_takeWay (Cond.code yX8_takeWay cX8_takeWay 3 none :: gT)) := good_V T_2_168 T_2_170 TS_10 T_1_6 T_2_171
theorem hd_X8_takeLaw : yX8_takeLaw.cls ≠ "java/lang/invoke/MethodHandle" ∧ yX8_takeLaw.cls ≠ "java/lang/invoke/VarHandle" ∧ (parseMethodDescriptor yX8_takeLaw.desc).map (fun d => d.parameters.length) = some 1 := by decide +kernel
theorem gv_X8_79 : GoodIn gT (wsV "NylonLadder$Tape" 79 "NylonLadder$Tape" yX8_takeLaw (Cond.code yX8_takeLaw cX8_takeLaw 3 none :: gT)) := good_V T_2_154 T_2_156 TS_8 T_1_6 T_2_157
theorem hd_X8_takeFoot : yX8_takeFoot.cls ≠ "java/lang/invoke/MethodHandle" ∧ yX8_takeFoot.cls ≠ "java/lang/invoke/VarHandle" ∧ (parseMethodDescriptor yX8_takeFoot.desc).map (fun d => d.parameters.length) = some 1 := by decide +kernel
theorem gv_X8_71 : GoodIn gT (wsV "NylonLadder$Tape" 71 "NylonLadder$Tape" yX8_takeFoot (Cond.code yX8_takeFoot cX8_takeFoot 3 none :: gT)) := good_V T_2_123 T_2_125 TS_4 T_1_6 T_2_126
def fX8_takeClause (M : Mm) (o : Nat) : Option Mm :=
  B1 (gk M o 11) fun _ =>
  B1 (fX8_isName M o 0) fun x3_2 =>
  if x3_2 = 0 then
    B1 (gk M o 11) fun _ =>
    B1 (fX8_isName M o 1) fun x20_4 =>
    if x20_4 = 0 then
      B1 (gk M o 11) fun _ =>
      B1 (fX8_isName M o 2) fun x37_6 =>
      if x37_6 = 0 then
        B1 (gk M o 11) fun _ =>
        B1 (fX8_isName M o 3) fun x54_8 =>
        if x54_8 = 0 then
          B1 (gk M o 11) fun _ =>
          B1 (fX8_isName M o 4) fun x71_10 =>
          if x71_10 = 0 then
            B1 (gk M o 11) fun _ =>
            B1 (fX8_isName M o 9) fun x96_12 =>
            if x96_12 = 0 then
              B1 (gk M o 11) fun _ =>
              B1 (fX8_takeStocking M o) fun M119_14 =>
              some M119_14
            else
              B1 (rdN M o 11 2) fun a104_15 =>
              B1 (rdN M a104_15 3 4) fun a107_16 =>
              B1 (alN M a107_16 24 1) fun a111_17 =>
              B1 (gk M o 11) fun _ =>
              B1 (fX8_takeWay M o a111_17) fun M112_19 =>
              some M112_19
          else
            B1 (rdN M o 11 2) fun a79_20 =>
            B1 (rdN M a79_20 3 4) fun a82_21 =>
            B1 (alN M a82_21 24 0) fun a86_22 =>
            B1 (gk M o 11) fun _ =>
            B1 (fX8_takeWay M o a86_22) fun M87_24 =>
            some M87_24
        else
          B1 (gk M o 11) fun _ =>
          B1 (fX8_takeLaw M o 1) fun M62_26 =>
          some M62_26
      else
        B1 (gk M o 11) fun _ =>
        B1 (fX8_takeLaw M o 0) fun M45_28 =>
        some M45_28
    else
      B1 (gk M o 11) fun _ =>
      B1 (fX8_takeFoot M o 1) fun M28_30 =>
      some M28_30
  else
    B1 (gk M o 11) fun _ =>
    B1 (fX8_takeFoot M o 0) fun M11_32 =>
    some M11_32
set_option maxRecDepth 100000 in
set_option maxHeartbeats 4000000 in
theorem qX8_takeClause (l : Launch) (E : Ev) {M : Mm} {o : Nat} {Mz : Mm} (hf : fX8_takeClause M o = some Mz) : Ct l E yX8_takeClause cX8_takeClause 1 none 8 174 0 0 [.ref (E.b + o)] M none Mz := by
  refine ct_of (by decide +kernel) (Nat.le_of_ble_eq_true rfl) fun p e s m args below meth c C hr hin hW ls hl => ?_
  have hl : lv_has ls 1 [(0, .ref (E.b + o))] := hl
  unfold fX8_takeClause at hf
  refine lv_aload_n C.x C.b dX8_takeClause_0 rfl (lv_at hl 0 rfl) ?_
  refine x_ldcS (q := 0) (tx := "left") C (by decide +kernel) dX8_takeClause_1 ?_
  replace hf := x_b1 hf; obtain ⟨_, hk3_1, hf⟩ := hf
  replace hf := x_b1 hf; obtain ⟨x3_2, hx3_2, hf⟩ := hf
  refine x_callV (As := [.ref (E.x (100 + 0))]) (a := o) (rest := []) C hW hl (qX8_isName l E hx3_2) (x_gk hk3_1) (by decide) (by decide) rfl gv_X8_67 ⟨rfl, hd_X8_isName⟩ rfl rfl (Nat.le_of_ble_eq_true rfl) dX8_takeClause_3 ⟨Nat.le_of_ble_eq_true rfl, Nat.le_of_ble_eq_true rfl⟩ ⟨Nat.le_of_ble_eq_true rfl, Nat.le_of_ble_eq_true rfl⟩ (fun H locs hW => ?_)
  refine lv_if_eq (tgt := 17) C.x C.b dX8_takeClause_6 rfl (fun c6 => ?_) (fun c6 => ?_)
  · replace hf := x_ip c6 hf
    refine lv_aload_n C.x C.b dX8_takeClause_17 rfl (lv_at hl 0 rfl) ?_
    refine x_ldcS (q := 1) (tx := "right") C (by decide +kernel) dX8_takeClause_18 ?_
    replace hf := x_b1 hf; obtain ⟨_, hk20_3, hf⟩ := hf
    replace hf := x_b1 hf; obtain ⟨x20_4, hx20_4, hf⟩ := hf
    refine x_callV (As := [.ref (E.x (100 + 1))]) (a := o) (rest := []) C hW hl (qX8_isName l E hx20_4) (x_gk hk20_3) (by decide) (by decide) rfl gv_X8_67 ⟨rfl, hd_X8_isName⟩ rfl rfl (Nat.le_of_ble_eq_true rfl) dX8_takeClause_20 ⟨Nat.le_of_ble_eq_true rfl, Nat.le_of_ble_eq_true rfl⟩ ⟨Nat.le_of_ble_eq_true rfl, Nat.le_of_ble_eq_true rfl⟩ (fun H locs hW => ?_)
    refine lv_if_eq (tgt := 34) C.x C.b dX8_takeClause_23 rfl (fun c23 => ?_) (fun c23 => ?_)
    · replace hf := x_ip c23 hf
      refine lv_aload_n C.x C.b dX8_takeClause_34 rfl (lv_at hl 0 rfl) ?_
      refine x_ldcS (q := 2) (tx := "step") C (by decide +kernel) dX8_takeClause_35 ?_
      replace hf := x_b1 hf; obtain ⟨_, hk37_5, hf⟩ := hf
      replace hf := x_b1 hf; obtain ⟨x37_6, hx37_6, hf⟩ := hf
      refine x_callV (As := [.ref (E.x (100 + 2))]) (a := o) (rest := []) C hW hl (qX8_isName l E hx37_6) (x_gk hk37_5) (by decide) (by decide) rfl gv_X8_67 ⟨rfl, hd_X8_isName⟩ rfl rfl (Nat.le_of_ble_eq_true rfl) dX8_takeClause_37 ⟨Nat.le_of_ble_eq_true rfl, Nat.le_of_ble_eq_true rfl⟩ ⟨Nat.le_of_ble_eq_true rfl, Nat.le_of_ble_eq_true rfl⟩ (fun H locs hW => ?_)
      refine lv_if_eq (tgt := 51) C.x C.b dX8_takeClause_40 rfl (fun c40 => ?_) (fun c40 => ?_)
      · replace hf := x_ip c40 hf
        refine lv_aload_n C.x C.b dX8_takeClause_51 rfl (lv_at hl 0 rfl) ?_
        refine x_ldcS (q := 3) (tx := "bend") C (by decide +kernel) dX8_takeClause_52 ?_
        replace hf := x_b1 hf; obtain ⟨_, hk54_7, hf⟩ := hf
        replace hf := x_b1 hf; obtain ⟨x54_8, hx54_8, hf⟩ := hf
        refine x_callV (As := [.ref (E.x (100 + 3))]) (a := o) (rest := []) C hW hl (qX8_isName l E hx54_8) (x_gk hk54_7) (by decide) (by decide) rfl gv_X8_67 ⟨rfl, hd_X8_isName⟩ rfl rfl (Nat.le_of_ble_eq_true rfl) dX8_takeClause_54 ⟨Nat.le_of_ble_eq_true rfl, Nat.le_of_ble_eq_true rfl⟩ ⟨Nat.le_of_ble_eq_true rfl, Nat.le_of_ble_eq_true rfl⟩ (fun H locs hW => ?_)
        refine lv_if_eq (tgt := 68) C.x C.b dX8_takeClause_57 rfl (fun c57 => ?_) (fun c57 => ?_)
        · replace hf := x_ip c57 hf
          refine lv_aload_n C.x C.b dX8_takeClause_68 rfl (lv_at hl 0 rfl) ?_
          refine x_ldcS (q := 4) (tx := "go") C (by decide +kernel) dX8_takeClause_69 ?_
          replace hf := x_b1 hf; obtain ⟨_, hk71_9, hf⟩ := hf
          replace hf := x_b1 hf; obtain ⟨x71_10, hx71_10, hf⟩ := hf
          refine x_callV (As := [.ref (E.x (100 + 4))]) (a := o) (rest := []) C hW hl (qX8_isName l E hx71_10) (x_gk hk71_9) (by decide) (by decide) rfl gv_X8_67 ⟨rfl, hd_X8_isName⟩ rfl rfl (Nat.le_of_ble_eq_true rfl) dX8_takeClause_71 ⟨Nat.le_of_ble_eq_true rfl, Nat.le_of_ble_eq_true rfl⟩ ⟨Nat.le_of_ble_eq_true rfl, Nat.le_of_ble_eq_true rfl⟩ (fun H locs hW => ?_)
          refine lv_if_eq (tgt := 93) C.x C.b dX8_takeClause_74 rfl (fun c74 => ?_) (fun c74 => ?_)
          · replace hf := x_ip c74 hf
            refine lv_aload_n C.x C.b dX8_takeClause_93 rfl (lv_at hl 0 rfl) ?_
            refine x_ldcS (q := 9) (tx := "cab") C (by decide +kernel) dX8_takeClause_94 ?_
            replace hf := x_b1 hf; obtain ⟨_, hk96_11, hf⟩ := hf
            replace hf := x_b1 hf; obtain ⟨x96_12, hx96_12, hf⟩ := hf
            refine x_callV (As := [.ref (E.x (100 + 9))]) (a := o) (rest := []) C hW hl (qX8_isName l E hx96_12) (x_gk hk96_11) (by decide) (by decide) rfl gv_X8_67 ⟨rfl, hd_X8_isName⟩ rfl rfl (Nat.le_of_ble_eq_true rfl) dX8_takeClause_96 ⟨Nat.le_of_ble_eq_true rfl, Nat.le_of_ble_eq_true rfl⟩ ⟨Nat.le_of_ble_eq_true rfl, Nat.le_of_ble_eq_true rfl⟩ (fun H locs hW => ?_)
            refine lv_if_eq (tgt := 118) C.x C.b dX8_takeClause_99 rfl (fun c99 => ?_) (fun c99 => ?_)
            · replace hf := x_ip c99 hf
              refine lv_aload_n C.x C.b dX8_takeClause_118 rfl (lv_at hl 0 rfl) ?_
              replace hf := x_b1 hf; obtain ⟨_, hk119_13, hf⟩ := hf
              replace hf := x_b1 hf; obtain ⟨M119_14, hM119_14, hf⟩ := hf
              refine x_callV (As := []) (a := o) (rest := []) C hW hl (qX8_takeStocking l E hM119_14) (x_gk hk119_13) (by decide) (by decide) rfl gv_X8_96 ⟨rfl, hd_X8_takeStocking⟩ rfl rfl (Nat.le_of_ble_eq_true rfl) dX8_takeClause_119 ⟨Nat.le_of_ble_eq_true rfl, Nat.le_of_ble_eq_true rfl⟩ ⟨Nat.le_of_ble_eq_true rfl, Nat.le_of_ble_eq_true rfl⟩ (fun H locs hW => ?_)
              rw [x_e0 hf]
              exact x_vret C hr hW dX8_takeClause_122
            · replace hf := x_in c99 hf
              refine lv_aload_n C.x C.b dX8_takeClause_102 rfl (lv_at hl 0 rfl) ?_
              refine lv_aload_n C.x C.b dX8_takeClause_103 rfl (lv_at hl 0 rfl) ?_
              replace hf := x_b1 hf; obtain ⟨a104_15, ha104_15, hf⟩ := hf
              refine x_getn C hW fg_X8_22_11 ha104_15 dX8_takeClause_104 ?_
              replace hf := x_b1 hf; obtain ⟨a107_16, ha107_16, hf⟩ := hf
              refine x_getn C hW fg_X8_86_3 ha107_16 dX8_takeClause_107 ?_
              refine lv_iconst (v := 1) C.x C.b dX8_takeClause_110 (by decide) ?_
              replace hf := x_b1 hf; obtain ⟨a111_17, ha111_17, hf⟩ := hf
              refine x_aldn C hW (kd := 24) (by decide) (by decide) ha111_17 dX8_takeClause_111 ?_
              replace hf := x_b1 hf; obtain ⟨_, hk112_18, hf⟩ := hf
              replace hf := x_b1 hf; obtain ⟨M112_19, hM112_19, hf⟩ := hf
              refine x_callV (As := [.ref (E.b + a111_17)]) (a := o) (rest := []) C hW hl (qX8_takeWay l E hM112_19) (x_gk hk112_18) (by decide) (by decide) rfl gv_X8_90 ⟨rfl, hd_X8_takeWay⟩ rfl rfl (Nat.le_of_ble_eq_true rfl) dX8_takeClause_112 ⟨Nat.le_of_ble_eq_true rfl, Nat.le_of_ble_eq_true rfl⟩ ⟨Nat.le_of_ble_eq_true rfl, Nat.le_of_ble_eq_true rfl⟩ (fun H locs hW => ?_)
              refine lv_goto (tgt := 122) C.x C.b dX8_takeClause_115 rfl ?_
              rw [x_e0 hf]
              exact x_vret C hr hW dX8_takeClause_122
          · replace hf := x_in c74 hf
            refine lv_aload_n C.x C.b dX8_takeClause_77 rfl (lv_at hl 0 rfl) ?_
            refine lv_aload_n C.x C.b dX8_takeClause_78 rfl (lv_at hl 0 rfl) ?_
            replace hf := x_b1 hf; obtain ⟨a79_20, ha79_20, hf⟩ := hf
            refine x_getn C hW fg_X8_22_11 ha79_20 dX8_takeClause_79 ?_
            replace hf := x_b1 hf; obtain ⟨a82_21, ha82_21, hf⟩ := hf
            refine x_getn C hW fg_X8_86_3 ha82_21 dX8_takeClause_82 ?_
            refine lv_iconst (v := 0) C.x C.b dX8_takeClause_85 (by decide) ?_
            replace hf := x_b1 hf; obtain ⟨a86_22, ha86_22, hf⟩ := hf
            refine x_aldn C hW (kd := 24) (by decide) (by decide) ha86_22 dX8_takeClause_86 ?_
            replace hf := x_b1 hf; obtain ⟨_, hk87_23, hf⟩ := hf
            replace hf := x_b1 hf; obtain ⟨M87_24, hM87_24, hf⟩ := hf
            refine x_callV (As := [.ref (E.b + a86_22)]) (a := o) (rest := []) C hW hl (qX8_takeWay l E hM87_24) (x_gk hk87_23) (by decide) (by decide) rfl gv_X8_90 ⟨rfl, hd_X8_takeWay⟩ rfl rfl (Nat.le_of_ble_eq_true rfl) dX8_takeClause_87 ⟨Nat.le_of_ble_eq_true rfl, Nat.le_of_ble_eq_true rfl⟩ ⟨Nat.le_of_ble_eq_true rfl, Nat.le_of_ble_eq_true rfl⟩ (fun H locs hW => ?_)
            refine lv_goto (tgt := 122) C.x C.b dX8_takeClause_90 rfl ?_
            rw [x_e0 hf]
            exact x_vret C hr hW dX8_takeClause_122
        · replace hf := x_in c57 hf
          refine lv_aload_n C.x C.b dX8_takeClause_60 rfl (lv_at hl 0 rfl) ?_
          refine lv_iconst (v := 1) C.x C.b dX8_takeClause_61 (by decide) ?_
          replace hf := x_b1 hf; obtain ⟨_, hk62_25, hf⟩ := hf
          replace hf := x_b1 hf; obtain ⟨M62_26, hM62_26, hf⟩ := hf
          refine x_callV (As := [.int 1]) (a := o) (rest := []) C hW hl (qX8_takeLaw l E hM62_26) (x_gk hk62_25) (by decide) (by decide) rfl gv_X8_79 ⟨rfl, hd_X8_takeLaw⟩ rfl rfl (Nat.le_of_ble_eq_true rfl) dX8_takeClause_62 ⟨Nat.le_of_ble_eq_true rfl, Nat.le_of_ble_eq_true rfl⟩ ⟨Nat.le_of_ble_eq_true rfl, Nat.le_of_ble_eq_true rfl⟩ (fun H locs hW => ?_)
          refine lv_goto (tgt := 122) C.x C.b dX8_takeClause_65 rfl ?_
          rw [x_e0 hf]
          exact x_vret C hr hW dX8_takeClause_122
      · replace hf := x_in c40 hf
        refine lv_aload_n C.x C.b dX8_takeClause_43 rfl (lv_at hl 0 rfl) ?_
        refine lv_iconst (v := 0) C.x C.b dX8_takeClause_44 (by decide) ?_
        replace hf := x_b1 hf; obtain ⟨_, hk45_27, hf⟩ := hf
        replace hf := x_b1 hf; obtain ⟨M45_28, hM45_28, hf⟩ := hf
        refine x_callV (As := [.int 0]) (a := o) (rest := []) C hW hl (qX8_takeLaw l E hM45_28) (x_gk hk45_27) (by decide) (by decide) rfl gv_X8_79 ⟨rfl, hd_X8_takeLaw⟩ rfl rfl (Nat.le_of_ble_eq_true rfl) dX8_takeClause_45 ⟨Nat.le_of_ble_eq_true rfl, Nat.le_of_ble_eq_true rfl⟩ ⟨Nat.le_of_ble_eq_true rfl, Nat.le_of_ble_eq_true rfl⟩ (fun H locs hW => ?_)
        refine lv_goto (tgt := 122) C.x C.b dX8_takeClause_48 rfl ?_
        rw [x_e0 hf]
        exact x_vret C hr hW dX8_takeClause_122
    · replace hf := x_in c23 hf
      refine lv_aload_n C.x C.b dX8_takeClause_26 rfl (lv_at hl 0 rfl) ?_
      refine lv_iconst (v := 1) C.x C.b dX8_takeClause_27 (by decide) ?_
      replace hf := x_b1 hf; obtain ⟨_, hk28_29, hf⟩ := hf
      replace hf := x_b1 hf; obtain ⟨M28_30, hM28_30, hf⟩ := hf
      refine x_callV (As := [.int 1]) (a := o) (rest := []) C hW hl (qX8_takeFoot l E hM28_30) (x_gk hk28_29) (by decide) (by decide) rfl gv_X8_71 ⟨rfl, hd_X8_takeFoot⟩ rfl rfl (Nat.le_of_ble_eq_true rfl) dX8_takeClause_28 ⟨Nat.le_of_ble_eq_true rfl, Nat.le_of_ble_eq_true rfl⟩ ⟨Nat.le_of_ble_eq_true rfl, Nat.le_of_ble_eq_true rfl⟩ (fun H locs hW => ?_)
      refine lv_goto (tgt := 122) C.x C.b dX8_takeClause_31 rfl ?_
      rw [x_e0 hf]
      exact x_vret C hr hW dX8_takeClause_122
  · replace hf := x_in c6 hf
    refine lv_aload_n C.x C.b dX8_takeClause_9 rfl (lv_at hl 0 rfl) ?_
    refine lv_iconst (v := 0) C.x C.b dX8_takeClause_10 (by decide) ?_
    replace hf := x_b1 hf; obtain ⟨_, hk11_31, hf⟩ := hf
    replace hf := x_b1 hf; obtain ⟨M11_32, hM11_32, hf⟩ := hf
    refine x_callV (As := [.int 0]) (a := o) (rest := []) C hW hl (qX8_takeFoot l E hM11_32) (x_gk hk11_31) (by decide) (by decide) rfl gv_X8_71 ⟨rfl, hd_X8_takeFoot⟩ rfl rfl (Nat.le_of_ble_eq_true rfl) dX8_takeClause_11 ⟨Nat.le_of_ble_eq_true rfl, Nat.le_of_ble_eq_true rfl⟩ ⟨Nat.le_of_ble_eq_true rfl, Nat.le_of_ble_eq_true rfl⟩ (fun H locs hW => ?_)
    refine lv_goto (tgt := 122) C.x C.b dX8_takeClause_14 rfl ?_
    rw [x_e0 hf]
    exact x_vret C hr hW dX8_takeClause_122

theorem dX8_faultOf_0 : decode cX8_faultOf 0 = .ok (.aload_n 0, 1) := by decide +kernel
theorem dX8_faultOf_1 : decode cX8_faultOf 1 = .ok (.invokevirtual 44, 3) := by decide +kernel
theorem dX8_faultOf_4 : decode cX8_faultOf 4 = .ok (.aload_n 0, 1) := by decide +kernel
theorem dX8_faultOf_5 : decode cX8_faultOf 5 = .ok (.getfield 22, 3) := by decide +kernel
theorem dX8_faultOf_8 : decode cX8_faultOf 8 = .ok (.invokevirtual 47, 3) := by decide +kernel
theorem dX8_faultOf_11 : decode cX8_faultOf 11 = .ok (.aload_n 0, 1) := by decide +kernel
theorem dX8_faultOf_12 : decode cX8_faultOf 12 = .ok (.iconst 0, 1) := by decide +kernel
theorem dX8_faultOf_13 : decode cX8_faultOf 13 = .ok (.putfield 38, 3) := by decide +kernel
theorem dX8_faultOf_16 : decode cX8_faultOf 16 = .ok (.aload_n 0, 1) := by decide +kernel
theorem dX8_faultOf_17 : decode cX8_faultOf 17 = .ok (.iconst (-1), 1) := by decide +kernel
theorem dX8_faultOf_18 : decode cX8_faultOf 18 = .ok (.putfield 41, 3) := by decide +kernel
theorem dX8_faultOf_21 : decode cX8_faultOf 21 = .ok (.iconst 0, 1) := by decide +kernel
theorem dX8_faultOf_22 : decode cX8_faultOf 22 = .ok (.istore_n 1, 1) := by decide +kernel
theorem dX8_faultOf_23 : decode cX8_faultOf 23 = .ok (.iload_n 1, 1) := by decide +kernel
theorem dX8_faultOf_24 : decode cX8_faultOf 24 = .ok (.aload_n 0, 1) := by decide +kernel
theorem dX8_faultOf_25 : decode cX8_faultOf 25 = .ok (.getfield 35, 3) := by decide +kernel
theorem dX8_faultOf_28 : decode cX8_faultOf 28 = .ok (.if_icmp .ge 32, 3) := by decide +kernel
theorem dX8_faultOf_31 : decode cX8_faultOf 31 = .ok (.aload_n 0, 1) := by decide +kernel
theorem dX8_faultOf_32 : decode cX8_faultOf 32 = .ok (.getfield 41, 3) := by decide +kernel
theorem dX8_faultOf_35 : decode cX8_faultOf 35 = .ok (.ifCond .ge 25, 3) := by decide +kernel
theorem dX8_faultOf_38 : decode cX8_faultOf 38 = .ok (.aload_n 0, 1) := by decide +kernel
theorem dX8_faultOf_39 : decode cX8_faultOf 39 = .ok (.getfield 26, 3) := by decide +kernel
theorem dX8_faultOf_42 : decode cX8_faultOf 42 = .ok (.aload_n 0, 1) := by decide +kernel
theorem dX8_faultOf_43 : decode cX8_faultOf 43 = .ok (.getfield 38, 3) := by decide +kernel
theorem dX8_faultOf_46 : decode cX8_faultOf 46 = .ok (.iaload, 1) := by decide +kernel
theorem dX8_faultOf_47 : decode cX8_faultOf 47 = .ok (.ifCond .eq 13, 3) := by decide +kernel
theorem dX8_faultOf_50 : decode cX8_faultOf 50 = .ok (.aload_n 0, 1) := by decide +kernel
theorem dX8_faultOf_51 : decode cX8_faultOf 51 = .ok (.invokevirtual 50, 3) := by decide +kernel
theorem dX8_faultOf_54 : decode cX8_faultOf 54 = .ok (.iinc 1 1, 3) := by decide +kernel
theorem dX8_faultOf_57 : decode cX8_faultOf 57 = .ok (.goto (-34), 3) := by decide +kernel
theorem dX8_faultOf_60 : decode cX8_faultOf 60 = .ok (.aload_n 0, 1) := by decide +kernel
theorem dX8_faultOf_61 : decode cX8_faultOf 61 = .ok (.getfield 41, 3) := by decide +kernel
theorem dX8_faultOf_64 : decode cX8_faultOf 64 = .ok (.ireturn, 1) := by decide +kernel
theorem hd_X8_part : yX8_part.cls ≠ "java/lang/invoke/MethodHandle" ∧ yX8_part.cls ≠ "java/lang/invoke/VarHandle" ∧ (parseMethodDescriptor yX8_part.desc).map (fun d => d.parameters.length) = some 0 := by decide +kernel
theorem gv_X8_44 : GoodIn gT (wsV "NylonLadder$Tape" 44 "NylonLadder$Tape" yX8_part (Cond.code yX8_part cX8_part 4 none :: gT)) := good_V T_2_46 T_2_48 TS_0 T_1_6 T_2_49
theorem hd_X0_empty : yX0_empty.cls ≠ "java/lang/invoke/MethodHandle" ∧ yX0_empty.cls ≠ "java/lang/invoke/VarHandle" ∧ (parseMethodDescriptor yX0_empty.desc).map (fun d => d.parameters.length) = some 0 := by decide +kernel
theorem gv_X8_47 : GoodIn gT (wsV "NylonLadder$Tape" 47 "NylonLadder$Drawer" yX0_empty (Cond.code yX0_empty cX0_empty 1 none :: gT)) := good_V T_2_58 T_2_59 T_2_60 T_1_2 T_2_61
theorem hd_X8_takeClause : yX8_takeClause.cls ≠ "java/lang/invoke/MethodHandle" ∧ yX8_takeClause.cls ≠ "java/lang/invoke/VarHandle" ∧ (parseMethodDescriptor yX8_takeClause.desc).map (fun d => d.parameters.length) = some 0 := by decide +kernel
theorem gv_X8_50 : GoodIn gT (wsV "NylonLadder$Tape" 50 "NylonLadder$Tape" yX8_takeClause (Cond.code yX8_takeClause cX8_takeClause 1 none :: gT)) := good_V T_2_66 T_2_68 TS_2 T_1_6 T_2_69
def fX8_faultOf_L23 (o : Nat) : Nat → Int32 → Mm → Option (Int32 × Mm)
  | 0, _, _ => none
  | n + 1, v1, M =>
    B1 (rdI M o 11 6) fun x25_8 =>
    if x25_8 ≤ v1 then
      B1 (rdI M o 11 8) fun x61_9 =>
      some (x61_9, M)
    else
      B1 (rdI M o 11 8) fun x32_10 =>
      if 0 ≤ x32_10 then
        B1 (rdI M o 11 8) fun x61_11 =>
        some (x61_11, M)
      else
        B1 (rdN M o 11 3) fun a39_12 =>
        B1 (rdI M o 11 7) fun x43_13 =>
        B1 (alI M a39_12 x43_13) fun x46_14 =>
        if x46_14 = 0 then
          B1 (rdI M o 11 8) fun x61_15 =>
          some (x61_15, M)
        else
          B1 (gk M o 11) fun _ =>
          B1 (fX8_takeClause M o) fun M51_17 =>
          fX8_faultOf_L23 o n (v1 + 1) M51_17
def fX8_faultOf (M : Mm) (o : Nat) : Option (Int32 × Mm) :=
  B1 (gk M o 11) fun _ =>
  B1 (fX8_part M o) fun M1_2 =>
  B1 (rdN M1_2 o 11 2) fun a5_3 =>
  B1 (gk M1_2 a5_3 3) fun _ =>
  B1 (fX0_empty M1_2 a5_3) fun M8_5 =>
  B1 (wrI M8_5 o 11 7 0) fun M13_6 =>
  B1 (wrI M13_6 o 11 8 (-1)) fun M18_7 =>
  fX8_faultOf_L23 o FL 0 M18_7
set_option maxRecDepth 100000 in
set_option maxHeartbeats 4000000 in
theorem kX8_faultOf_L23 {l : Launch} {E : Ev} {p : Program} {e : Env} {s : State} {m : MethodId} {args : Array Value} {below : List Frame} {meth : Method} {c : Code} (C : Cx E p s m args meth c cX8_faultOf yX8_faultOf.cls 2) (hr : meth.sig.returnType = (some .int)) (hin : yX8_faultOf.name = "<init>" → meth.name = "<init>")  {o : Nat} {rz : Int32} {Mz : Mm} : ∀ (n : Nat) (v1 : Int32) (M : Mm), fX8_faultOf_L23 o n v1 M = some (rz, Mz) → ∀ (H : Heap) (locs : List Loc) (ls : Array Slot), Wx E s H locs M → lv_has ls 2 [(0, .ref (E.b + o)), (1, .int v1)] → W p l e (rM 9 194 0 0) s m args below meth c H locs 0 0 (MQ below (Qp E (some (.int rz)) Mz) args s 0 0 E.A) (F0 m 23 ls []) := by
  intro n
  induction n with
  | zero =>
    intro v1 M hf
    unfold fX8_faultOf_L23 at hf
    cases hf
  | succ n ih =>
    intro v1 M hf H locs ls hW hl
    unfold fX8_faultOf_L23 at hf
    refine lv_iload_n C.x C.b dX8_faultOf_23 rfl (lv_at hl 1 rfl) ?_
    refine lv_aload_n C.x C.b dX8_faultOf_24 rfl (lv_at hl 0 rfl) ?_
    replace hf := x_b1 hf; obtain ⟨x25_8, hx25_8, hf⟩ := hf
    refine x_geti C hW fg_X8_35_11 hx25_8 dX8_faultOf_25 ?_
    refine lv_icmp_ge (tgt := 60) C.x C.b dX8_faultOf_28 rfl (fun c28 => ?_) (fun c28 => ?_)
    · replace hf := x_ip c28 hf
      refine lv_aload_n C.x C.b dX8_faultOf_60 rfl (lv_at hl 0 rfl) ?_
      replace hf := x_b1 hf; obtain ⟨x61_9, hx61_9, hf⟩ := hf
      refine x_geti C hW fg_X8_41_11 hx61_9 dX8_faultOf_61 ?_
      rw [x_e1 hf, x_e2 hf]
      exact x_iret C hr hW dX8_faultOf_64
    · replace hf := x_in c28 hf
      refine lv_aload_n C.x C.b dX8_faultOf_31 rfl (lv_at hl 0 rfl) ?_
      replace hf := x_b1 hf; obtain ⟨x32_10, hx32_10, hf⟩ := hf
      refine x_geti C hW fg_X8_41_11 hx32_10 dX8_faultOf_32 ?_
      refine lv_if_ge (tgt := 60) C.x C.b dX8_faultOf_35 rfl (fun c35 => ?_) (fun c35 => ?_)
      · replace hf := x_ip c35 hf
        refine lv_aload_n C.x C.b dX8_faultOf_60 rfl (lv_at hl 0 rfl) ?_
        replace hf := x_b1 hf; obtain ⟨x61_11, hx61_11, hf⟩ := hf
        refine x_geti C hW fg_X8_41_11 hx61_11 dX8_faultOf_61 ?_
        rw [x_e1 hf, x_e2 hf]
        exact x_iret C hr hW dX8_faultOf_64
      · replace hf := x_in c35 hf
        refine lv_aload_n C.x C.b dX8_faultOf_38 rfl (lv_at hl 0 rfl) ?_
        replace hf := x_b1 hf; obtain ⟨a39_12, ha39_12, hf⟩ := hf
        refine x_getn C hW fg_X8_26_11 ha39_12 dX8_faultOf_39 ?_
        refine lv_aload_n C.x C.b dX8_faultOf_42 rfl (lv_at hl 0 rfl) ?_
        replace hf := x_b1 hf; obtain ⟨x43_13, hx43_13, hf⟩ := hf
        refine x_geti C hW fg_X8_38_11 hx43_13 dX8_faultOf_43 ?_
        replace hf := x_b1 hf; obtain ⟨x46_14, hx46_14, hf⟩ := hf
        refine x_iald C hW hx46_14 dX8_faultOf_46 ?_
        refine lv_if_eq (tgt := 60) C.x C.b dX8_faultOf_47 rfl (fun c47 => ?_) (fun c47 => ?_)
        · replace hf := x_ip c47 hf
          refine lv_aload_n C.x C.b dX8_faultOf_60 rfl (lv_at hl 0 rfl) ?_
          replace hf := x_b1 hf; obtain ⟨x61_15, hx61_15, hf⟩ := hf
          refine x_geti C hW fg_X8_41_11 hx61_15 dX8_faultOf_61 ?_
          rw [x_e1 hf, x_e2 hf]
          exact x_iret C hr hW dX8_faultOf_64
        · replace hf := x_in c47 hf
          refine lv_aload_n C.x C.b dX8_faultOf_50 rfl (lv_at hl 0 rfl) ?_
          replace hf := x_b1 hf; obtain ⟨_, hk51_16, hf⟩ := hf
          replace hf := x_b1 hf; obtain ⟨M51_17, hM51_17, hf⟩ := hf
          refine x_callV (As := []) (a := o) (rest := []) C hW hl (qX8_takeClause l E hM51_17) (x_gk hk51_16) (by decide) (by decide) rfl gv_X8_50 ⟨rfl, hd_X8_takeClause⟩ rfl rfl (Nat.le_of_ble_eq_true rfl) dX8_faultOf_51 ⟨Nat.le_of_ble_eq_true rfl, Nat.le_of_ble_eq_true rfl⟩ ⟨Nat.le_of_ble_eq_true rfl, Nat.le_of_ble_eq_true rfl⟩ (fun H locs hW => ?_)
          refine lv_iinc (v := (v1 + 1)) (lv' := [(1, .int (v1 + 1)), (0, .ref (E.b + _))]) C.x C.b dX8_faultOf_54 hl (k := 1) rfl (by first | rfl | decide) (by decide) rfl (fun ls hl => ?_)
          refine lv_goto (tgt := 23) C.x C.b dX8_faultOf_57 rfl ?_
          exact ih (v1 + 1) M51_17 hf _ _ _ hW (lv_sub hl [1, 0] rfl)
set_option maxRecDepth 100000 in
set_option maxHeartbeats 4000000 in
theorem qX8_faultOf (l : Launch) (E : Ev) {M : Mm} {o : Nat} {rz : Int32} {Mz : Mm} (hf : fX8_faultOf M o = some (rz, Mz)) : Ct l E yX8_faultOf cX8_faultOf 2 (some .int) 9 194 0 0 [.ref (E.b + o)] M (some (.int rz)) Mz := by
  refine ct_of (by decide +kernel) (Nat.le_of_ble_eq_true rfl) fun p e s m args below meth c C hr hin hW ls hl => ?_
  have hl : lv_has ls 2 [(0, .ref (E.b + o))] := hl
  unfold fX8_faultOf at hf
  refine lv_aload_n C.x C.b dX8_faultOf_0 rfl (lv_at hl 0 rfl) ?_
  replace hf := x_b1 hf; obtain ⟨_, hk1_1, hf⟩ := hf
  replace hf := x_b1 hf; obtain ⟨M1_2, hM1_2, hf⟩ := hf
  refine x_callV (As := []) (a := o) (rest := []) C hW hl (qX8_part l E hM1_2) (x_gk hk1_1) (by decide) (by decide) rfl gv_X8_44 ⟨rfl, hd_X8_part⟩ rfl rfl (Nat.le_of_ble_eq_true rfl) dX8_faultOf_1 ⟨Nat.le_of_ble_eq_true rfl, Nat.le_of_ble_eq_true rfl⟩ ⟨Nat.le_of_ble_eq_true rfl, Nat.le_of_ble_eq_true rfl⟩ (fun H locs hW => ?_)
  refine lv_aload_n C.x C.b dX8_faultOf_4 rfl (lv_at hl 0 rfl) ?_
  replace hf := x_b1 hf; obtain ⟨a5_3, ha5_3, hf⟩ := hf
  refine x_getn C hW fg_X8_22_11 ha5_3 dX8_faultOf_5 ?_
  replace hf := x_b1 hf; obtain ⟨_, hk8_4, hf⟩ := hf
  replace hf := x_b1 hf; obtain ⟨M8_5, hM8_5, hf⟩ := hf
  refine x_callV (As := []) (a := a5_3) (rest := []) C hW hl (qX0_empty l E hM8_5) (x_gk hk8_4) (by decide) (by decide) rfl gv_X8_47 ⟨rfl, hd_X0_empty⟩ rfl rfl (Nat.le_of_ble_eq_true rfl) dX8_faultOf_8 ⟨Nat.le_of_ble_eq_true rfl, Nat.le_of_ble_eq_true rfl⟩ ⟨Nat.le_of_ble_eq_true rfl, Nat.le_of_ble_eq_true rfl⟩ (fun H locs hW => ?_)
  refine lv_aload_n C.x C.b dX8_faultOf_11 rfl (lv_at hl 0 rfl) ?_
  refine lv_iconst (v := 0) C.x C.b dX8_faultOf_12 (by decide) ?_
  replace hf := x_b1 hf; obtain ⟨M13_6, hM13_6, hf⟩ := hf
  refine x_puti C hW fp_X8_38_11 hM13_6 (fun h => by cases h) dX8_faultOf_13 (fun H locs hW => ?_)
  refine lv_aload_n C.x C.b dX8_faultOf_16 rfl (lv_at hl 0 rfl) ?_
  refine lv_iconst (v := (-1)) C.x C.b dX8_faultOf_17 (by decide) ?_
  replace hf := x_b1 hf; obtain ⟨M18_7, hM18_7, hf⟩ := hf
  refine x_puti C hW fp_X8_41_11 hM18_7 (fun h => by cases h) dX8_faultOf_18 (fun H locs hW => ?_)
  refine lv_iconst (v := 0) C.x C.b dX8_faultOf_21 (by decide) ?_
  refine lv_istore_n (lv' := [(1, .int _), (0, .ref (E.b + _))]) C.x C.b dX8_faultOf_22 rfl hl (by decide) rfl (fun ls hl => ?_)
  exact kX8_faultOf_L23 C hr hin FL 0 M18_7 hf _ _ _ hW (lv_sub hl [1, 0] rfl)

theorem dX10_minutesOf_0 : decode cX10_minutesOf 0 = .ok (.aload_n 0, 1) := by decide +kernel
theorem dX10_minutesOf_1 : decode cX10_minutesOf 1 = .ok (.iload_n 1, 1) := by decide +kernel
theorem dX10_minutesOf_2 : decode cX10_minutesOf 2 = .ok (.invokevirtual 32, 3) := by decide +kernel
theorem dX10_minutesOf_5 : decode cX10_minutesOf 5 = .ok (.ifCond .ne 5, 3) := by decide +kernel
theorem dX10_minutesOf_8 : decode cX10_minutesOf 8 = .ok (.iconst 0, 1) := by decide +kernel
theorem dX10_minutesOf_9 : decode cX10_minutesOf 9 = .ok (.ireturn, 1) := by decide +kernel
theorem dX10_minutesOf_10 : decode cX10_minutesOf 10 = .ok (.aload_n 0, 1) := by decide +kernel
theorem dX10_minutesOf_11 : decode cX10_minutesOf 11 = .ok (.getfield 15, 3) := by decide +kernel
theorem dX10_minutesOf_14 : decode cX10_minutesOf 14 = .ok (.iload_n 1, 1) := by decide +kernel
theorem dX10_minutesOf_15 : decode cX10_minutesOf 15 = .ok (.iaload, 1) := by decide +kernel
theorem dX10_minutesOf_16 : decode cX10_minutesOf 16 = .ok (.lookupswitch 54 #[(0, 28), (1, 41)], 28) := by decide +kernel
theorem dX10_minutesOf_44 : decode cX10_minutesOf 44 = .ok (.aload_n 0, 1) := by decide +kernel
theorem dX10_minutesOf_45 : decode cX10_minutesOf 45 = .ok (.getfield 19, 3) := by decide +kernel
theorem dX10_minutesOf_48 : decode cX10_minutesOf 48 = .ok (.iload_n 1, 1) := by decide +kernel
theorem dX10_minutesOf_49 : decode cX10_minutesOf 49 = .ok (.iaload, 1) := by decide +kernel
theorem dX10_minutesOf_50 : decode cX10_minutesOf 50 = .ok (.bipush 19, 2) := by decide +kernel
theorem dX10_minutesOf_52 : decode cX10_minutesOf 52 = .ok (.iadd, 1) := by decide +kernel
theorem dX10_minutesOf_53 : decode cX10_minutesOf 53 = .ok (.bipush 20, 2) := by decide +kernel
theorem dX10_minutesOf_55 : decode cX10_minutesOf 55 = .ok (.idiv, 1) := by decide +kernel
theorem dX10_minutesOf_56 : decode cX10_minutesOf 56 = .ok (.ireturn, 1) := by decide +kernel
theorem dX10_minutesOf_57 : decode cX10_minutesOf 57 = .ok (.aload_n 0, 1) := by decide +kernel
theorem dX10_minutesOf_58 : decode cX10_minutesOf 58 = .ok (.getfield 19, 3) := by decide +kernel
theorem dX10_minutesOf_61 : decode cX10_minutesOf 61 = .ok (.iload_n 1, 1) := by decide +kernel
theorem dX10_minutesOf_62 : decode cX10_minutesOf 62 = .ok (.iaload, 1) := by decide +kernel
theorem dX10_minutesOf_63 : decode cX10_minutesOf 63 = .ok (.bipush 9, 2) := by decide +kernel
theorem dX10_minutesOf_65 : decode cX10_minutesOf 65 = .ok (.iadd, 1) := by decide +kernel
theorem dX10_minutesOf_66 : decode cX10_minutesOf 66 = .ok (.bipush 10, 2) := by decide +kernel
theorem dX10_minutesOf_68 : decode cX10_minutesOf 68 = .ok (.idiv, 1) := by decide +kernel
theorem dX10_minutesOf_69 : decode cX10_minutesOf 69 = .ok (.ireturn, 1) := by decide +kernel
theorem dX10_minutesOf_70 : decode cX10_minutesOf 70 = .ok (.aload_n 0, 1) := by decide +kernel
theorem dX10_minutesOf_71 : decode cX10_minutesOf 71 = .ok (.getfield 19, 3) := by decide +kernel
theorem dX10_minutesOf_74 : decode cX10_minutesOf 74 = .ok (.iload_n 1, 1) := by decide +kernel
theorem dX10_minutesOf_75 : decode cX10_minutesOf 75 = .ok (.iaload, 1) := by decide +kernel
theorem dX10_minutesOf_76 : decode cX10_minutesOf 76 = .ok (.ireturn, 1) := by decide +kernel
theorem gv_X10_32 : GoodIn gT (wsV "NylonLadder$Way" 32 "NylonLadder$Way" yX10_hasLeg (Cond.code yX10_hasLeg cX10_hasLeg 2 (some .boolean) :: gT)) := good_V T_3_121 T_3_113 T_3_114 T_1_3 T_3_115
def fX10_minutesOf (M : Mm) (o : Nat) (p1 : Int32) : Option Int32 :=
  B1 (gk M o 13) fun _ =>
  B1 (fX10_hasLeg M o p1) fun x2_2 =>
  if x2_2 = 0 then
    some 0
  else
    B1 (rdN M o 13 1) fun a11_3 =>
    B1 (alI M a11_3 p1) fun x15_4 =>
    if x15_4 = 0 then
      B1 (rdN M o 13 2) fun a45_5 =>
      B1 (alI M a45_5 p1) fun x49_6 =>
      some ((x49_6 + 19) / 20)
    else
      if x15_4 = 1 then
        B1 (rdN M o 13 2) fun a58_7 =>
        B1 (alI M a58_7 p1) fun x62_8 =>
        some ((x62_8 + 9) / 10)
      else
        B1 (rdN M o 13 2) fun a71_9 =>
        B1 (alI M a71_9 p1) fun x75_10 =>
        some x75_10
set_option maxRecDepth 100000 in
set_option maxHeartbeats 4000000 in
theorem qX10_minutesOf (l : Launch) (E : Ev) {M : Mm} {o : Nat} {p1 : Int32} {rz : Int32} (hf : fX10_minutesOf M o p1 = some rz) : Ct l E yX10_minutesOf cX10_minutesOf 2 (some .int) 2 43 0 0 [.ref (E.b + o), .int p1] M (some (.int rz)) M := by
  refine ct_of (by decide +kernel) (Nat.le_of_ble_eq_true rfl) fun p e s m args below meth c C hr hin hW ls hl => ?_
  have hl : lv_has ls 2 [(0, .ref (E.b + o)), (1, .int p1)] := hl
  unfold fX10_minutesOf at hf
  refine lv_aload_n C.x C.b dX10_minutesOf_0 rfl (lv_at hl 0 rfl) ?_
  refine lv_iload_n C.x C.b dX10_minutesOf_1 rfl (lv_at hl 1 rfl) ?_
  replace hf := x_b1 hf; obtain ⟨_, hk2_1, hf⟩ := hf
  replace hf := x_b1 hf; obtain ⟨x2_2, hx2_2, hf⟩ := hf
  refine x_callV (As := [.int p1]) (a := o) (rest := []) C hW hl (qX10_hasLeg l E hx2_2) (x_gk hk2_1) (by decide) (by decide) rfl gv_X10_32 ⟨rfl, hd_X10_hasLeg⟩ rfl rfl (Nat.le_of_ble_eq_true rfl) dX10_minutesOf_2 ⟨Nat.le_of_ble_eq_true rfl, Nat.le_of_ble_eq_true rfl⟩ ⟨Nat.le_of_ble_eq_true rfl, Nat.le_of_ble_eq_true rfl⟩ (fun H locs hW => ?_)
  refine lv_if_ne (tgt := 10) C.x C.b dX10_minutesOf_5 rfl (fun c5 => ?_) (fun c5 => ?_)
  · replace hf := x_in c5 hf
    refine lv_aload_n C.x C.b dX10_minutesOf_10 rfl (lv_at hl 0 rfl) ?_
    replace hf := x_b1 hf; obtain ⟨a11_3, ha11_3, hf⟩ := hf
    refine x_getn C hW fg_X10_15_13 ha11_3 dX10_minutesOf_11 ?_
    refine lv_iload_n C.x C.b dX10_minutesOf_14 rfl (lv_at hl 1 rfl) ?_
    replace hf := x_b1 hf; obtain ⟨x15_4, hx15_4, hf⟩ := hf
    refine x_iald C hW hx15_4 dX10_minutesOf_15 ?_
    by_cases s16_0 : x15_4 = 0
    · replace hf := x_ip s16_0 hf
      refine lv_lookup (off := 28) (tgt := 44) C.x C.b dX10_minutesOf_16 (by decide) (by rw [s16_0]; rfl) rfl ?_
      refine lv_aload_n C.x C.b dX10_minutesOf_44 rfl (lv_at hl 0 rfl) ?_
      replace hf := x_b1 hf; obtain ⟨a45_5, ha45_5, hf⟩ := hf
      refine x_getn C hW fg_X10_19_13 ha45_5 dX10_minutesOf_45 ?_
      refine lv_iload_n C.x C.b dX10_minutesOf_48 rfl (lv_at hl 1 rfl) ?_
      replace hf := x_b1 hf; obtain ⟨x49_6, hx49_6, hf⟩ := hf
      refine x_iald C hW hx49_6 dX10_minutesOf_49 ?_
      refine lv_bipush (v := 19) C.x C.b dX10_minutesOf_50 (by decide) ?_
      refine lv_iadd C.x C.b dX10_minutesOf_52 ?_
      refine lv_bipush (v := 20) C.x C.b dX10_minutesOf_53 (by decide) ?_
      refine lv_idiv C.x C.b dX10_minutesOf_55 (by decide) ?_
      rw [x_e0 hf]
      exact x_iret C hr hW dX10_minutesOf_56
    · replace hf := x_in s16_0 hf
      by_cases s16_1 : x15_4 = 1
      · replace hf := x_ip s16_1 hf
        refine lv_lookup (off := 41) (tgt := 57) C.x C.b dX10_minutesOf_16 (by decide) (by rw [s16_1]; rfl) rfl ?_
        refine lv_aload_n C.x C.b dX10_minutesOf_57 rfl (lv_at hl 0 rfl) ?_
        replace hf := x_b1 hf; obtain ⟨a58_7, ha58_7, hf⟩ := hf
        refine x_getn C hW fg_X10_19_13 ha58_7 dX10_minutesOf_58 ?_
        refine lv_iload_n C.x C.b dX10_minutesOf_61 rfl (lv_at hl 1 rfl) ?_
        replace hf := x_b1 hf; obtain ⟨x62_8, hx62_8, hf⟩ := hf
        refine x_iald C hW hx62_8 dX10_minutesOf_62 ?_
        refine lv_bipush (v := 9) C.x C.b dX10_minutesOf_63 (by decide) ?_
        refine lv_iadd C.x C.b dX10_minutesOf_65 ?_
        refine lv_bipush (v := 10) C.x C.b dX10_minutesOf_66 (by decide) ?_
        refine lv_idiv C.x C.b dX10_minutesOf_68 (by decide) ?_
        rw [x_e0 hf]
        exact x_iret C hr hW dX10_minutesOf_69
      · replace hf := x_in s16_1 hf
        refine lv_lookup (off := 54) (tgt := 70) C.x C.b dX10_minutesOf_16 (by decide) (by show Op.lookupswitch.offset [(0, 28), (1, 41)] _ _ = _; rw [lv_osw (a := 0) s16_0 rfl, lv_osw (a := 1) s16_1 rfl]; rfl) rfl ?_
        refine lv_aload_n C.x C.b dX10_minutesOf_70 rfl (lv_at hl 0 rfl) ?_
        replace hf := x_b1 hf; obtain ⟨a71_9, ha71_9, hf⟩ := hf
        refine x_getn C hW fg_X10_19_13 ha71_9 dX10_minutesOf_71 ?_
        refine lv_iload_n C.x C.b dX10_minutesOf_74 rfl (lv_at hl 1 rfl) ?_
        replace hf := x_b1 hf; obtain ⟨x75_10, hx75_10, hf⟩ := hf
        refine x_iald C hW hx75_10 dX10_minutesOf_75 ?_
        rw [x_e0 hf]
        exact x_iret C hr hW dX10_minutesOf_76
  · replace hf := x_ip c5 hf
    refine lv_iconst (v := 0) C.x C.b dX10_minutesOf_8 (by decide) ?_
    rw [x_e0 hf]
    exact x_iret C hr hW dX10_minutesOf_9

theorem dX10_minutesOfAll_0 : decode cX10_minutesOfAll 0 = .ok (.iconst 0, 1) := by decide +kernel
theorem dX10_minutesOfAll_1 : decode cX10_minutesOfAll 1 = .ok (.istore_n 1, 1) := by decide +kernel
theorem dX10_minutesOfAll_2 : decode cX10_minutesOfAll 2 = .ok (.iconst 0, 1) := by decide +kernel
theorem dX10_minutesOfAll_3 : decode cX10_minutesOfAll 3 = .ok (.istore_n 2, 1) := by decide +kernel
theorem dX10_minutesOfAll_4 : decode cX10_minutesOfAll 4 = .ok (.iload_n 2, 1) := by decide +kernel
theorem dX10_minutesOfAll_5 : decode cX10_minutesOfAll 5 = .ok (.aload_n 0, 1) := by decide +kernel
theorem dX10_minutesOfAll_6 : decode cX10_minutesOfAll 6 = .ok (.getfield 9, 3) := by decide +kernel
theorem dX10_minutesOfAll_9 : decode cX10_minutesOfAll 9 = .ok (.if_icmp .ge 17, 3) := by decide +kernel
theorem dX10_minutesOfAll_12 : decode cX10_minutesOfAll 12 = .ok (.iload_n 1, 1) := by decide +kernel
theorem dX10_minutesOfAll_13 : decode cX10_minutesOfAll 13 = .ok (.aload_n 0, 1) := by decide +kernel
theorem dX10_minutesOfAll_14 : decode cX10_minutesOfAll 14 = .ok (.iload_n 2, 1) := by decide +kernel
theorem dX10_minutesOfAll_15 : decode cX10_minutesOfAll 15 = .ok (.invokevirtual 36, 3) := by decide +kernel
theorem dX10_minutesOfAll_18 : decode cX10_minutesOfAll 18 = .ok (.iadd, 1) := by decide +kernel
theorem dX10_minutesOfAll_19 : decode cX10_minutesOfAll 19 = .ok (.istore_n 1, 1) := by decide +kernel
theorem dX10_minutesOfAll_20 : decode cX10_minutesOfAll 20 = .ok (.iinc 2 1, 3) := by decide +kernel
theorem dX10_minutesOfAll_23 : decode cX10_minutesOfAll 23 = .ok (.goto (-19), 3) := by decide +kernel
theorem dX10_minutesOfAll_26 : decode cX10_minutesOfAll 26 = .ok (.iload_n 1, 1) := by decide +kernel
theorem dX10_minutesOfAll_27 : decode cX10_minutesOfAll 27 = .ok (.ireturn, 1) := by decide +kernel
theorem hd_X10_minutesOf : yX10_minutesOf.cls ≠ "java/lang/invoke/MethodHandle" ∧ yX10_minutesOf.cls ≠ "java/lang/invoke/VarHandle" ∧ (parseMethodDescriptor yX10_minutesOf.desc).map (fun d => d.parameters.length) = some 1 := by decide +kernel
theorem gv_X10_36 : GoodIn gT (wsV "NylonLadder$Way" 36 "NylonLadder$Way" yX10_minutesOf (Cond.code yX10_minutesOf cX10_minutesOf 2 (some .int) :: gT)) := good_V T_3_194 T_3_118 T_3_119 T_1_3 T_3_120
def fX10_minutesOfAll_L4 (M : Mm) (o : Nat) : Nat → Int32 → Int32 → Option Int32
  | 0, _, _ => none
  | n + 1, v1, v2 =>
    B1 (rdI M o 13 0) fun x6_1 =>
    if x6_1 ≤ v2 then
      some v1
    else
      B1 (gk M o 13) fun _ =>
      B1 (fX10_minutesOf M o v2) fun x15_3 =>
      fX10_minutesOfAll_L4 M o n (v1 + x15_3) (v2 + 1)
def fX10_minutesOfAll (M : Mm) (o : Nat) : Option Int32 :=
  fX10_minutesOfAll_L4 M o FL 0 0
set_option maxRecDepth 100000 in
set_option maxHeartbeats 4000000 in
theorem kX10_minutesOfAll_L4 {l : Launch} {E : Ev} {p : Program} {e : Env} {s : State} {m : MethodId} {args : Array Value} {below : List Frame} {meth : Method} {c : Code} (C : Cx E p s m args meth c cX10_minutesOfAll yX10_minutesOfAll.cls 3) (hr : meth.sig.returnType = (some .int)) (hin : yX10_minutesOfAll.name = "<init>" → meth.name = "<init>") {M : Mm}  {o : Nat} {rz : Int32} : ∀ (n : Nat) (v1 : Int32) (v2 : Int32), fX10_minutesOfAll_L4 M o n v1 v2 = some rz → ∀ (H : Heap) (locs : List Loc) (ls : Array Slot), Wx E s H locs M → lv_has ls 3 [(0, .ref (E.b + o)), (1, .int v1), (2, .int v2)] → W p l e (rM 3 64 0 0) s m args below meth c H locs 0 0 (MQ below (Qp E (some (.int rz)) M) args s 0 0 E.A) (F0 m 4 ls []) := by
  intro n
  induction n with
  | zero =>
    intro v1 v2 hf
    unfold fX10_minutesOfAll_L4 at hf
    cases hf
  | succ n ih =>
    intro v1 v2 hf H locs ls hW hl
    unfold fX10_minutesOfAll_L4 at hf
    refine lv_iload_n C.x C.b dX10_minutesOfAll_4 rfl (lv_at hl 2 rfl) ?_
    refine lv_aload_n C.x C.b dX10_minutesOfAll_5 rfl (lv_at hl 0 rfl) ?_
    replace hf := x_b1 hf; obtain ⟨x6_1, hx6_1, hf⟩ := hf
    refine x_geti C hW fg_X10_9_13 hx6_1 dX10_minutesOfAll_6 ?_
    refine lv_icmp_ge (tgt := 26) C.x C.b dX10_minutesOfAll_9 rfl (fun c9 => ?_) (fun c9 => ?_)
    · replace hf := x_ip c9 hf
      refine lv_iload_n C.x C.b dX10_minutesOfAll_26 rfl (lv_at hl 1 rfl) ?_
      rw [x_e0 hf]
      exact x_iret C hr hW dX10_minutesOfAll_27
    · replace hf := x_in c9 hf
      refine lv_iload_n C.x C.b dX10_minutesOfAll_12 rfl (lv_at hl 1 rfl) ?_
      refine lv_aload_n C.x C.b dX10_minutesOfAll_13 rfl (lv_at hl 0 rfl) ?_
      refine lv_iload_n C.x C.b dX10_minutesOfAll_14 rfl (lv_at hl 2 rfl) ?_
      replace hf := x_b1 hf; obtain ⟨_, hk15_2, hf⟩ := hf
      replace hf := x_b1 hf; obtain ⟨x15_3, hx15_3, hf⟩ := hf
      refine x_callV (As := [.int v2]) (a := o) (rest := [.int v1]) C hW hl (qX10_minutesOf l E hx15_3) (x_gk hk15_2) (by decide) (by decide) rfl gv_X10_36 ⟨rfl, hd_X10_minutesOf⟩ rfl rfl (Nat.le_of_ble_eq_true rfl) dX10_minutesOfAll_15 ⟨Nat.le_of_ble_eq_true rfl, Nat.le_of_ble_eq_true rfl⟩ ⟨Nat.le_of_ble_eq_true rfl, Nat.le_of_ble_eq_true rfl⟩ (fun H locs hW => ?_)
      refine lv_iadd C.x C.b dX10_minutesOfAll_18 ?_
      refine lv_istore_n (lv' := [(1, .int _), (0, .ref (E.b + _)), (2, .int _)]) C.x C.b dX10_minutesOfAll_19 rfl hl (by decide) rfl (fun ls hl => ?_)
      refine lv_iinc (v := (v2 + 1)) (lv' := [(2, .int (v2 + 1)), (1, .int _), (0, .ref (E.b + _))]) C.x C.b dX10_minutesOfAll_20 hl (k := 2) rfl (by first | rfl | decide) (by decide) rfl (fun ls hl => ?_)
      refine lv_goto (tgt := 4) C.x C.b dX10_minutesOfAll_23 rfl ?_
      exact ih (v1 + x15_3) (v2 + 1) hf _ _ _ hW (lv_sub hl [2, 1, 0] rfl)
set_option maxRecDepth 100000 in
set_option maxHeartbeats 4000000 in
theorem qX10_minutesOfAll (l : Launch) (E : Ev) {M : Mm} {o : Nat} {rz : Int32} (hf : fX10_minutesOfAll M o = some rz) : Ct l E yX10_minutesOfAll cX10_minutesOfAll 3 (some .int) 3 64 0 0 [.ref (E.b + o)] M (some (.int rz)) M := by
  refine ct_of (by decide +kernel) (Nat.le_of_ble_eq_true rfl) fun p e s m args below meth c C hr hin hW ls hl => ?_
  have hl : lv_has ls 3 [(0, .ref (E.b + o))] := hl
  unfold fX10_minutesOfAll at hf
  refine lv_iconst (v := 0) C.x C.b dX10_minutesOfAll_0 (by decide) ?_
  refine lv_istore_n (lv' := [(1, .int _), (0, .ref (E.b + _))]) C.x C.b dX10_minutesOfAll_1 rfl hl (by decide) rfl (fun ls hl => ?_)
  refine lv_iconst (v := 0) C.x C.b dX10_minutesOfAll_2 (by decide) ?_
  refine lv_istore_n (lv' := [(2, .int _), (1, .int _), (0, .ref (E.b + _))]) C.x C.b dX10_minutesOfAll_3 rfl hl (by decide) rfl (fun ls hl => ?_)
  exact kX10_minutesOfAll_L4 C hr hin FL 0 0 hf _ _ _ hW (lv_sub hl [2, 1, 0] rfl)

theorem dJxa1e45_init_da8c8_0 : decode cJxa1e45_init_da8c8 0 = .ok (.aload_n 0, 1) := by decide +kernel
theorem dJxa1e45_init_da8c8_1 : decode cJxa1e45_init_da8c8 1 = .ok (.invokespecial 1, 3) := by decide +kernel
theorem dJxa1e45_init_da8c8_4 : decode cJxa1e45_init_da8c8 4 = .ok (.return_, 1) := by decide +kernel
def fJxa1e45_init_da8c8 (M : Mm) (o : Nat) : Option Unit :=
  some ()
set_option maxRecDepth 100000 in
set_option maxHeartbeats 4000000 in
theorem qJxa1e45_init_da8c8 (l : Launch) (E : Ev) {M : Mm} {o : Nat} {rz : Unit} (hf : fJxa1e45_init_da8c8 M o = some rz) : Ct l E yJxa1e45_init_da8c8 cJxa1e45_init_da8c8 1 none 1 12 0 0 [.ref (E.b + o)] M none M := by
  refine ct_of (by decide +kernel) (Nat.le_of_ble_eq_true rfl) fun p e s m args below meth c C hr hin hW ls hl => ?_
  have hl : lv_has ls 1 [(0, .ref (E.b + o))] := hl
  unfold fJxa1e45_init_da8c8 at hf
  refine lv_aload_n C.x C.b dJxa1e45_init_da8c8_0 rfl (lv_at hl 0 rfl) ?_
  refine x_objInit C hl T_1_215 T_1_35 T_1_36 dJxa1e45_init_da8c8_1 (Nat.le_of_ble_eq_true rfl) (Nat.le_of_ble_eq_true rfl) ?_
  exact x_vret C hr hW dJxa1e45_init_da8c8_4

theorem dJxc12de_init_da8c8_0 : decode cJxc12de_init_da8c8 0 = .ok (.aload_n 0, 1) := by decide +kernel
theorem dJxc12de_init_da8c8_1 : decode cJxc12de_init_da8c8 1 = .ok (.invokespecial 1, 3) := by decide +kernel
theorem dJxc12de_init_da8c8_4 : decode cJxc12de_init_da8c8 4 = .ok (.aload_n 0, 1) := by decide +kernel
theorem dJxc12de_init_da8c8_5 : decode cJxc12de_init_da8c8 5 = .ok (.iconst 0, 1) := by decide +kernel
theorem dJxc12de_init_da8c8_6 : decode cJxc12de_init_da8c8 6 = .ok (.putfield 7, 3) := by decide +kernel
theorem dJxc12de_init_da8c8_9 : decode cJxc12de_init_da8c8 9 = .ok (.return_, 1) := by decide +kernel
theorem hd_Jxa1e45_init_da8c8 : yJxa1e45_init_da8c8.cls ≠ "java/lang/invoke/MethodHandle" ∧ yJxa1e45_init_da8c8.cls ≠ "java/lang/invoke/VarHandle" ∧ (parseMethodDescriptor yJxa1e45_init_da8c8.desc).map (fun d => d.parameters.length) = some 0 := by decide +kernel
def fJxc12de_init_da8c8 (M : Mm) (o : Nat) : Option Mm :=
  B1 (fJxa1e45_init_da8c8 M o) fun x1_1 =>
  B1 (wrI M o 2 0 0) fun M6_2 =>
  some M6_2
set_option maxRecDepth 100000 in
set_option maxHeartbeats 4000000 in
theorem qJxc12de_init_da8c8 (l : Launch) (E : Ev) {M : Mm} {o : Nat} {Mz : Mm} (hf : fJxc12de_init_da8c8 M o = some Mz) : Ct l E yJxc12de_init_da8c8 cJxc12de_init_da8c8 1 none 2 32 0 0 [.ref (E.b + o)] M none Mz := by
  refine ct_of (by decide +kernel) (Nat.le_of_ble_eq_true rfl) fun p e s m args below meth c C hr hin hW ls hl => ?_
  have hl : lv_has ls 1 [(0, .ref (E.b + o))] := hl
  unfold fJxc12de_init_da8c8 at hf
  refine lv_aload_n C.x C.b dJxc12de_init_da8c8_0 rfl (lv_at hl 0 rfl) ?_
  replace hf := x_b1 hf; obtain ⟨x1_1, hx1_1, hf⟩ := hf
  refine x_callI (As := []) (a := o) (rest := []) C hW hl (qJxa1e45_init_da8c8 l E hx1_1) T_1_212 T_1_213 T_1_7 T_1_214 rfl hd_Jxa1e45_init_da8c8 rfl rfl (Nat.le_of_ble_eq_true rfl) dJxc12de_init_da8c8_1 ⟨Nat.le_of_ble_eq_true rfl, Nat.le_of_ble_eq_true rfl⟩ ⟨Nat.le_of_ble_eq_true rfl, Nat.le_of_ble_eq_true rfl⟩ (fun H locs hW => ?_)
  refine lv_aload_n C.x C.b dJxc12de_init_da8c8_4 rfl (lv_at hl 0 rfl) ?_
  refine lv_iconst (v := 0) C.x C.b dJxc12de_init_da8c8_5 (by decide) ?_
  replace hf := x_b1 hf; obtain ⟨M6_2, hM6_2, hf⟩ := hf
  refine x_lputi C hW hM6_2 (by decide) T_1_220 (Or.inl rfl) dJxc12de_init_da8c8_6 (fun H locs hW => ?_)
  rw [x_e0 hf]
  exact x_vret C hr hW dJxc12de_init_da8c8_9

theorem dJx4a65c_init_da8c8_0 : decode cJx4a65c_init_da8c8 0 = .ok (.aload_n 0, 1) := by decide +kernel
theorem dJx4a65c_init_da8c8_1 : decode cJx4a65c_init_da8c8 1 = .ok (.invokespecial 1, 3) := by decide +kernel
theorem dJx4a65c_init_da8c8_4 : decode cJx4a65c_init_da8c8 4 = .ok (.aload_n 0, 1) := by decide +kernel
theorem dJx4a65c_init_da8c8_5 : decode cJx4a65c_init_da8c8 5 = .ok (.getstatic 39, 3) := by decide +kernel
theorem dJx4a65c_init_da8c8_8 : decode cJx4a65c_init_da8c8 8 = .ok (.putfield 9, 3) := by decide +kernel
theorem dJx4a65c_init_da8c8_11 : decode cJx4a65c_init_da8c8 11 = .ok (.return_, 1) := by decide +kernel
theorem hd_Jxc12de_init_da8c8 : yJxc12de_init_da8c8.cls ≠ "java/lang/invoke/MethodHandle" ∧ yJxc12de_init_da8c8.cls ≠ "java/lang/invoke/VarHandle" ∧ (parseMethodDescriptor yJxc12de_init_da8c8.desc).map (fun d => d.parameters.length) = some 0 := by decide +kernel
def fJx4a65c_init_da8c8 (M : Mm) (o : Nat) : Option Mm :=
  B1 (fJxc12de_init_da8c8 M o) fun M1_1 =>
  B1 (wrR M1_1 o 2 1 (some 0)) fun M8_2 =>
  some M8_2
set_option maxRecDepth 100000 in
set_option maxHeartbeats 4000000 in
theorem qJx4a65c_init_da8c8 (l : Launch) (E : Ev) {M : Mm} {o : Nat} {Mz : Mm} (hf : fJx4a65c_init_da8c8 M o = some Mz) : Ct l E yJx4a65c_init_da8c8 cJx4a65c_init_da8c8 1 none 3 52 0 0 [.ref (E.b + o)] M none Mz := by
  refine ct_of (by decide +kernel) (Nat.le_of_ble_eq_true rfl) fun p e s m args below meth c C hr hin hW ls hl => ?_
  have hl : lv_has ls 1 [(0, .ref (E.b + o))] := hl
  unfold fJx4a65c_init_da8c8 at hf
  refine lv_aload_n C.x C.b dJx4a65c_init_da8c8_0 rfl (lv_at hl 0 rfl) ?_
  replace hf := x_b1 hf; obtain ⟨M1_1, hM1_1, hf⟩ := hf
  refine x_callI (As := []) (a := o) (rest := []) C hW hl (qJxc12de_init_da8c8 l E hM1_1) T_1_209 T_1_210 T_1_8 T_1_211 rfl hd_Jxc12de_init_da8c8 rfl rfl (Nat.le_of_ble_eq_true rfl) dJx4a65c_init_da8c8_1 ⟨Nat.le_of_ble_eq_true rfl, Nat.le_of_ble_eq_true rfl⟩ ⟨Nat.le_of_ble_eq_true rfl, Nat.le_of_ble_eq_true rfl⟩ (fun H locs hW => ?_)
  refine lv_aload_n C.x C.b dJx4a65c_init_da8c8_4 rfl (lv_at hl 0 rfl) ?_
  refine x_getem C hW T_1_216 dJx4a65c_init_da8c8_5 ?_
  replace hf := x_b1 hf; obtain ⟨M8_2, hM8_2, hf⟩ := hf
  refine x_lputd C hW hM8_2 T_1_218 dJx4a65c_init_da8c8_8 (fun H locs hW => ?_)
  rw [x_e0 hf]
  exact x_vret C hr hW dJx4a65c_init_da8c8_11

theorem dX11_init_0 : decode cX11_init 0 = .ok (.aload_n 0, 1) := by decide +kernel
theorem dX11_init_1 : decode cX11_init 1 = .ok (.invokespecial 1, 3) := by decide +kernel
theorem dX11_init_4 : decode cX11_init 4 = .ok (.aload_n 0, 1) := by decide +kernel
theorem dX11_init_5 : decode cX11_init 5 = .ok (.new 7, 3) := by decide +kernel
theorem dX11_init_8 : decode cX11_init 8 = .ok (.dup, 1) := by decide +kernel
theorem dX11_init_9 : decode cX11_init 9 = .ok (.invokespecial 9, 3) := by decide +kernel
theorem dX11_init_12 : decode cX11_init 12 = .ok (.putfield 10, 3) := by decide +kernel
theorem dX11_init_15 : decode cX11_init 15 = .ok (.aload_n 0, 1) := by decide +kernel
theorem dX11_init_16 : decode cX11_init 16 = .ok (.new 7, 3) := by decide +kernel
theorem dX11_init_19 : decode cX11_init 19 = .ok (.dup, 1) := by decide +kernel
theorem dX11_init_20 : decode cX11_init 20 = .ok (.invokespecial 9, 3) := by decide +kernel
theorem dX11_init_23 : decode cX11_init 23 = .ok (.putfield 16, 3) := by decide +kernel
theorem dX11_init_26 : decode cX11_init 26 = .ok (.aload_n 0, 1) := by decide +kernel
theorem dX11_init_27 : decode cX11_init 27 = .ok (.iconst 0, 1) := by decide +kernel
theorem dX11_init_28 : decode cX11_init 28 = .ok (.putfield 19, 3) := by decide +kernel
theorem dX11_init_31 : decode cX11_init 31 = .ok (.aload_n 0, 1) := by decide +kernel
theorem dX11_init_32 : decode cX11_init 32 = .ok (.new 7, 3) := by decide +kernel
theorem dX11_init_35 : decode cX11_init 35 = .ok (.dup, 1) := by decide +kernel
theorem dX11_init_36 : decode cX11_init 36 = .ok (.invokespecial 9, 3) := by decide +kernel
theorem dX11_init_39 : decode cX11_init 39 = .ok (.putfield 23, 3) := by decide +kernel
theorem dX11_init_42 : decode cX11_init 42 = .ok (.aload_n 0, 1) := by decide +kernel
theorem dX11_init_43 : decode cX11_init 43 = .ok (.new 26, 3) := by decide +kernel
theorem dX11_init_46 : decode cX11_init 46 = .ok (.dup, 1) := by decide +kernel
theorem dX11_init_47 : decode cX11_init 47 = .ok (.invokespecial 28, 3) := by decide +kernel
theorem dX11_init_50 : decode cX11_init 50 = .ok (.putfield 29, 3) := by decide +kernel
theorem dX11_init_53 : decode cX11_init 53 = .ok (.aload_n 0, 1) := by decide +kernel
theorem dX11_init_54 : decode cX11_init 54 = .ok (.new 33, 3) := by decide +kernel
theorem dX11_init_57 : decode cX11_init 57 = .ok (.dup, 1) := by decide +kernel
theorem dX11_init_58 : decode cX11_init 58 = .ok (.invokespecial 35, 3) := by decide +kernel
theorem dX11_init_61 : decode cX11_init 61 = .ok (.putfield 36, 3) := by decide +kernel
theorem dX11_init_64 : decode cX11_init 64 = .ok (.aload_n 0, 1) := by decide +kernel
theorem dX11_init_65 : decode cX11_init 65 = .ok (.bipush 10, 2) := by decide +kernel
theorem dX11_init_67 : decode cX11_init 67 = .ok (.iconst 3, 1) := by decide +kernel
theorem dX11_init_68 : decode cX11_init 68 = .ok (.multianewarray 40 2, 4) := by decide +kernel
theorem dX11_init_72 : decode cX11_init 72 = .ok (.putfield 42, 3) := by decide +kernel
theorem dX11_init_75 : decode cX11_init 75 = .ok (.aload_n 0, 1) := by decide +kernel
theorem dX11_init_76 : decode cX11_init 76 = .ok (.iconst 0, 1) := by decide +kernel
theorem dX11_init_77 : decode cX11_init 77 = .ok (.putfield 45, 3) := by decide +kernel
theorem dX11_init_80 : decode cX11_init 80 = .ok (.aload_n 0, 1) := by decide +kernel
theorem dX11_init_81 : decode cX11_init 81 = .ok (.iconst 4, 1) := by decide +kernel
theorem dX11_init_82 : decode cX11_init 82 = .ok (.anewarray 49, 3) := by decide +kernel
theorem dX11_init_85 : decode cX11_init 85 = .ok (.putfield 51, 3) := by decide +kernel
theorem dX11_init_88 : decode cX11_init 88 = .ok (.aload_n 0, 1) := by decide +kernel
theorem dX11_init_89 : decode cX11_init 89 = .ok (.iconst 4, 1) := by decide +kernel
theorem dX11_init_90 : decode cX11_init 90 = .ok (.newarray .int, 2) := by decide +kernel
theorem dX11_init_92 : decode cX11_init 92 = .ok (.dup, 1) := by decide +kernel
theorem dX11_init_93 : decode cX11_init 93 = .ok (.iconst 0, 1) := by decide +kernel
theorem dX11_init_94 : decode cX11_init 94 = .ok (.iconst (-1), 1) := by decide +kernel
theorem dX11_init_95 : decode cX11_init 95 = .ok (.iastore, 1) := by decide +kernel
theorem dX11_init_96 : decode cX11_init 96 = .ok (.dup, 1) := by decide +kernel
theorem dX11_init_97 : decode cX11_init 97 = .ok (.iconst 1, 1) := by decide +kernel
theorem dX11_init_98 : decode cX11_init 98 = .ok (.iconst (-1), 1) := by decide +kernel
theorem dX11_init_99 : decode cX11_init 99 = .ok (.iastore, 1) := by decide +kernel
theorem dX11_init_100 : decode cX11_init 100 = .ok (.dup, 1) := by decide +kernel
theorem dX11_init_101 : decode cX11_init 101 = .ok (.iconst 2, 1) := by decide +kernel
theorem dX11_init_102 : decode cX11_init 102 = .ok (.iconst (-1), 1) := by decide +kernel
theorem dX11_init_103 : decode cX11_init 103 = .ok (.iastore, 1) := by decide +kernel
theorem dX11_init_104 : decode cX11_init 104 = .ok (.dup, 1) := by decide +kernel
theorem dX11_init_105 : decode cX11_init 105 = .ok (.iconst 3, 1) := by decide +kernel
theorem dX11_init_106 : decode cX11_init 106 = .ok (.iconst (-1), 1) := by decide +kernel
theorem dX11_init_107 : decode cX11_init 107 = .ok (.iastore, 1) := by decide +kernel
theorem dX11_init_108 : decode cX11_init 108 = .ok (.putfield 55, 3) := by decide +kernel
theorem dX11_init_111 : decode cX11_init 111 = .ok (.aload_n 0, 1) := by decide +kernel
theorem dX11_init_112 : decode cX11_init 112 = .ok (.iconst 4, 1) := by decide +kernel
theorem dX11_init_113 : decode cX11_init 113 = .ok (.anewarray 49, 3) := by decide +kernel
theorem dX11_init_116 : decode cX11_init 116 = .ok (.putfield 59, 3) := by decide +kernel
theorem dX11_init_119 : decode cX11_init 119 = .ok (.aload_n 0, 1) := by decide +kernel
theorem dX11_init_120 : decode cX11_init 120 = .ok (.new 62, 3) := by decide +kernel
theorem dX11_init_123 : decode cX11_init 123 = .ok (.dup, 1) := by decide +kernel
theorem dX11_init_124 : decode cX11_init 124 = .ok (.invokespecial 64, 3) := by decide +kernel
theorem dX11_init_127 : decode cX11_init 127 = .ok (.putfield 65, 3) := by decide +kernel
theorem dX11_init_130 : decode cX11_init 130 = .ok (.return_, 1) := by decide +kernel
theorem nw_X11_7 : NwO "NylonLadder" 7 3 6 := ⟨_, _, _, rfl, by decide, by decide, gxX0, tyX0_ok, T_1_37, T_1_38, T_1_2, fun _ => rfl, by decide +kernel⟩
theorem fp_X11_10_14 : FdP "NylonLadder" 10 14 0 true (.object "NylonLadder$Drawer") true := ⟨_, _, _, _, _, rfl, by decide, by decide, by decide, gxX11, by decide, T_1_230, Or.inl rfl, rfl, tyX11_ok, nmX11, by decide +kernel, rfl, fun _ => rfl⟩
theorem fp_X11_16_14 : FdP "NylonLadder" 16 14 1 true (.object "NylonLadder$Drawer") true := ⟨_, _, _, _, _, rfl, by decide, by decide, by decide, gxX11, by decide, T_1_231, Or.inl rfl, rfl, tyX11_ok, nmX11, by decide +kernel, rfl, fun _ => rfl⟩
theorem fp_X11_19_14 : FdP "NylonLadder" 19 14 2 false .boolean false := ⟨_, _, _, _, _, rfl, by decide, by decide, by decide, gxX11, by decide, T_1_232, Or.inl rfl, rfl, tyX11_ok, nmX11, by decide +kernel, rfl, fun h => by cases h⟩
theorem fp_X11_23_14 : FdP "NylonLadder" 23 14 3 true (.object "NylonLadder$Drawer") true := ⟨_, _, _, _, _, rfl, by decide, by decide, by decide, gxX11, by decide, T_1_233, Or.inl rfl, rfl, tyX11_ok, nmX11, by decide +kernel, rfl, fun _ => rfl⟩
theorem nw_X11_26 : NwO "NylonLadder" 26 10 11 := ⟨_, _, _, rfl, by decide, by decide, gxX7, tyX7_ok, T_1_160, T_1_70, T_1_4, fun _ => rfl, by decide +kernel⟩
theorem fp_X11_29_14 : FdP "NylonLadder" 29 14 4 true (.object "NylonLadder$Stocking") true := ⟨_, _, _, _, _, rfl, by decide, by decide, by decide, gxX11, by decide, T_1_234, Or.inl rfl, rfl, tyX11_ok, nmX11, by decide +kernel, rfl, fun _ => rfl⟩
theorem nw_X11_33 : NwO "NylonLadder" 33 11 9 := ⟨_, _, _, rfl, by decide, by decide, gxX8, tyX8_ok, T_1_162, T_1_163, T_1_6, fun _ => rfl, by decide +kernel⟩
theorem hd_X8_init : yX8_init.cls ≠ "java/lang/invoke/MethodHandle" ∧ yX8_init.cls ≠ "java/lang/invoke/VarHandle" ∧ (parseMethodDescriptor yX8_init.desc).map (fun d => d.parameters.length) = some 0 := by decide +kernel
theorem fp_X11_36_14 : FdP "NylonLadder" 36 14 5 true (.object "NylonLadder$Tape") true := ⟨_, _, _, _, _, rfl, by decide, by decide, by decide, gxX11, by decide, T_1_235, Or.inl rfl, rfl, tyX11_ok, nmX11, by decide +kernel, rfl, fun _ => rfl⟩
theorem fp_X11_42_14 : FdP "NylonLadder" 42 14 6 true (.array (.array .int)) true := ⟨_, _, _, _, _, rfl, by decide, by decide, by decide, gxX11, by decide, T_1_236, Or.inl rfl, rfl, tyX11_ok, nmX11, by decide +kernel, rfl, fun _ => rfl⟩
theorem fp_X11_45_14 : FdP "NylonLadder" 45 14 7 false .int false := ⟨_, _, _, _, _, rfl, by decide, by decide, by decide, gxX11, by decide, T_1_237, Or.inl rfl, rfl, tyX11_ok, nmX11, by decide +kernel, rfl, fun h => by cases h⟩
theorem fp_X11_51_14 : FdP "NylonLadder" 51 14 8 true (.array (.object "NylonLadder$Sheet")) true := ⟨_, _, _, _, _, rfl, by decide, by decide, by decide, gxX11, by decide, T_1_238, Or.inl rfl, rfl, tyX11_ok, nmX11, by decide +kernel, rfl, fun _ => rfl⟩
theorem fp_X11_55_14 : FdP "NylonLadder" 55 14 9 true (.array .int) true := ⟨_, _, _, _, _, rfl, by decide, by decide, by decide, gxX11, by decide, T_1_239, Or.inl rfl, rfl, tyX11_ok, nmX11, by decide +kernel, rfl, fun _ => rfl⟩
theorem fp_X11_59_14 : FdP "NylonLadder" 59 14 10 true (.array (.object "NylonLadder$Sheet")) true := ⟨_, _, _, _, _, rfl, by decide, by decide, by decide, gxX11, by decide, T_2_0, Or.inl rfl, rfl, tyX11_ok, nmX11, by decide +kernel, rfl, fun _ => rfl⟩
theorem nw_X11_62 : NwO "NylonLadder" 62 2 3 := ⟨_, _, _, rfl, by decide, by decide, gxJx4a65c, tyJx4a65c_ok, T_1_204, T_1_205, T_1_9, fun h => absurd rfl h, by decide +kernel⟩
theorem hd_Jx4a65c_init_da8c8 : yJx4a65c_init_da8c8.cls ≠ "java/lang/invoke/MethodHandle" ∧ yJx4a65c_init_da8c8.cls ≠ "java/lang/invoke/VarHandle" ∧ (parseMethodDescriptor yJx4a65c_init_da8c8.desc).map (fun d => d.parameters.length) = some 0 := by decide +kernel
theorem fp_X11_65_14 : FdP "NylonLadder" 65 14 11 true (.object "java/util/ArrayList") true := ⟨_, _, _, _, _, rfl, by decide, by decide, by decide, gxX11, by decide, T_2_1, Or.inl rfl, rfl, tyX11_ok, nmX11, by decide +kernel, rfl, fun _ => rfl⟩
def fX11_init (M : Mm) (o : Nat) : Option Mm :=
  B1 (nwO M 3) fun M5_1 =>
  B1 (fX0_init M5_1 M.n) fun M9_2 =>
  B1 (wrR M9_2 o 14 0 (some M.n)) fun M12_3 =>
  B1 (nwO M12_3 3) fun M16_4 =>
  B1 (fX0_init M16_4 M12_3.n) fun M20_5 =>
  B1 (wrR M20_5 o 14 1 (some M12_3.n)) fun M23_6 =>
  B1 (wrZ M23_6 o 14 2 0) fun M28_7 =>
  B1 (nwO M28_7 3) fun M32_8 =>
  B1 (fX0_init M32_8 M28_7.n) fun M36_9 =>
  B1 (wrR M36_9 o 14 3 (some M28_7.n)) fun M39_10 =>
  B1 (nwO M39_10 10) fun M43_11 =>
  B1 (fX7_init M43_11 M39_10.n) fun M47_12 =>
  B1 (wrR M47_12 o 14 4 (some M39_10.n)) fun M50_13 =>
  B1 (nwO M50_13 11) fun M54_14 =>
  B1 (fX8_init M54_14 M50_13.n) fun M58_15 =>
  B1 (wrR M58_15 o 14 5 (some M50_13.n)) fun M61_16 =>
  B1 (mna M61_16 10 3 10 3) fun M68_17 =>
  B1 (wrR M68_17 o 14 6 (some M61_16.n)) fun M72_18 =>
  B1 (wrI M72_18 o 14 7 0) fun M77_19 =>
  B1 (nwA M77_19 25 4 4) fun M82_20 =>
  B1 (wrR M82_20 o 14 8 (some M77_19.n)) fun M85_21 =>
  B1 (nwA M85_21 21 4 4) fun M90_22 =>
  B1 (asI M90_22 M85_21.n 0 (-1)) fun M95_23 =>
  B1 (asI M95_23 M85_21.n 1 (-1)) fun M99_24 =>
  B1 (asI M99_24 M85_21.n 2 (-1)) fun M103_25 =>
  B1 (asI M103_25 M85_21.n 3 (-1)) fun M107_26 =>
  B1 (wrR M107_26 o 14 9 (some M85_21.n)) fun M108_27 =>
  B1 (nwA M108_27 25 4 4) fun M113_28 =>
  B1 (wrR M113_28 o 14 10 (some M108_27.n)) fun M116_29 =>
  B1 (nwO M116_29 2) fun M120_30 =>
  B1 (fJx4a65c_init_da8c8 M120_30 M116_29.n) fun M124_31 =>
  B1 (wrR M124_31 o 14 11 (some M116_29.n)) fun M127_32 =>
  some M127_32
set_option maxRecDepth 100000 in
set_option maxHeartbeats 4000000 in
theorem qX11_init (l : Launch) (E : Ev) {M : Mm} {o : Nat} {Mz : Mm} (hf : fX11_init M o = some Mz) : Ct l E yX11_init cX11_init 1 none 4 73 163 1650 [.ref (E.b + o)] M none Mz := by
  refine ct_of (by decide +kernel) (Nat.le_of_ble_eq_true rfl) fun p e s m args below meth c C hr hin hW ls hl => ?_
  have hl : lv_has ls 1 [(0, .ref (E.b + o))] := hl
  unfold fX11_init at hf
  refine lv_aload_n C.x C.b dX11_init_0 rfl (lv_at hl 0 rfl) ?_
  refine x_objInit C hl T_1_34 T_1_35 T_1_36 dX11_init_1 (Nat.le_of_ble_eq_true rfl) (Nat.le_of_ble_eq_true rfl) ?_
  refine lv_aload_n C.x C.b dX11_init_4 rfl (lv_at hl 0 rfl) ?_
  replace hf := x_b1 hf; obtain ⟨M5_1, hM5_1, hf⟩ := hf
  refine x_newo C hW hM5_1 nw_X11_7 dX11_init_5 ⟨Nat.le_of_ble_eq_true rfl, Nat.le_of_ble_eq_true rfl⟩ (fun H hW => ?_)
  refine lv_dup C.x C.b dX11_init_8 rfl ?_
  replace hf := x_b1 hf; obtain ⟨M9_2, hM9_2, hf⟩ := hf
  refine x_callI (As := []) (a := M.n) (rest := [.ref (E.b + M.n), .ref (E.b + o)]) C hW hl (qX0_init l E hM9_2) T_1_39 T_1_40 T_1_2 T_1_41 rfl hd_X0_init rfl rfl (Nat.le_of_ble_eq_true rfl) dX11_init_9 ⟨Nat.le_of_ble_eq_true rfl, Nat.le_of_ble_eq_true rfl⟩ ⟨Nat.le_of_ble_eq_true rfl, Nat.le_of_ble_eq_true rfl⟩ (fun H locs hW => ?_)
  replace hf := x_b1 hf; obtain ⟨M12_3, hM12_3, hf⟩ := hf
  refine x_putr (v := (some M.n)) C hW fp_X11_10_14 hM12_3 (fun _ => hin rfl) rfl rfl dX11_init_12 (fun H locs hW => ?_)
  refine lv_aload_n C.x C.b dX11_init_15 rfl (lv_at hl 0 rfl) ?_
  replace hf := x_b1 hf; obtain ⟨M16_4, hM16_4, hf⟩ := hf
  refine x_newo C hW hM16_4 nw_X11_7 dX11_init_16 ⟨Nat.le_of_ble_eq_true rfl, Nat.le_of_ble_eq_true rfl⟩ (fun H hW => ?_)
  refine lv_dup C.x C.b dX11_init_19 rfl ?_
  replace hf := x_b1 hf; obtain ⟨M20_5, hM20_5, hf⟩ := hf
  refine x_callI (As := []) (a := M12_3.n) (rest := [.ref (E.b + M12_3.n), .ref (E.b + o)]) C hW hl (qX0_init l E hM20_5) T_1_39 T_1_40 T_1_2 T_1_41 rfl hd_X0_init rfl rfl (Nat.le_of_ble_eq_true rfl) dX11_init_20 ⟨Nat.le_of_ble_eq_true rfl, Nat.le_of_ble_eq_true rfl⟩ ⟨Nat.le_of_ble_eq_true rfl, Nat.le_of_ble_eq_true rfl⟩ (fun H locs hW => ?_)
  replace hf := x_b1 hf; obtain ⟨M23_6, hM23_6, hf⟩ := hf
  refine x_putr (v := (some M12_3.n)) C hW fp_X11_16_14 hM23_6 (fun _ => hin rfl) rfl rfl dX11_init_23 (fun H locs hW => ?_)
  refine lv_aload_n C.x C.b dX11_init_26 rfl (lv_at hl 0 rfl) ?_
  refine lv_iconst (v := 0) C.x C.b dX11_init_27 (by decide) ?_
  replace hf := x_b1 hf; obtain ⟨M28_7, hM28_7, hf⟩ := hf
  refine x_putz C hW fp_X11_19_14 hM28_7 (fun h => by cases h) dX11_init_28 (fun H locs hW => ?_)
  refine lv_aload_n C.x C.b dX11_init_31 rfl (lv_at hl 0 rfl) ?_
  replace hf := x_b1 hf; obtain ⟨M32_8, hM32_8, hf⟩ := hf
  refine x_newo C hW hM32_8 nw_X11_7 dX11_init_32 ⟨Nat.le_of_ble_eq_true rfl, Nat.le_of_ble_eq_true rfl⟩ (fun H hW => ?_)
  refine lv_dup C.x C.b dX11_init_35 rfl ?_
  replace hf := x_b1 hf; obtain ⟨M36_9, hM36_9, hf⟩ := hf
  refine x_callI (As := []) (a := M28_7.n) (rest := [.ref (E.b + M28_7.n), .ref (E.b + o)]) C hW hl (qX0_init l E hM36_9) T_1_39 T_1_40 T_1_2 T_1_41 rfl hd_X0_init rfl rfl (Nat.le_of_ble_eq_true rfl) dX11_init_36 ⟨Nat.le_of_ble_eq_true rfl, Nat.le_of_ble_eq_true rfl⟩ ⟨Nat.le_of_ble_eq_true rfl, Nat.le_of_ble_eq_true rfl⟩ (fun H locs hW => ?_)
  replace hf := x_b1 hf; obtain ⟨M39_10, hM39_10, hf⟩ := hf
  refine x_putr (v := (some M28_7.n)) C hW fp_X11_23_14 hM39_10 (fun _ => hin rfl) rfl rfl dX11_init_39 (fun H locs hW => ?_)
  refine lv_aload_n C.x C.b dX11_init_42 rfl (lv_at hl 0 rfl) ?_
  replace hf := x_b1 hf; obtain ⟨M43_11, hM43_11, hf⟩ := hf
  refine x_newo C hW hM43_11 nw_X11_26 dX11_init_43 ⟨Nat.le_of_ble_eq_true rfl, Nat.le_of_ble_eq_true rfl⟩ (fun H hW => ?_)
  refine lv_dup C.x C.b dX11_init_46 rfl ?_
  replace hf := x_b1 hf; obtain ⟨M47_12, hM47_12, hf⟩ := hf
  refine x_callIN (host := "NylonLadder") (As := []) (a := M39_10.n) (rest := [.ref (E.b + M39_10.n), .ref (E.b + o)]) C hW hl (qX7_init l E hM47_12) T_1_161 T_1_72 T_1_4 T_1_73 rfl hd_X7_init rfl rfl (Nat.le_of_ble_eq_true rfl) dX11_init_47 ⟨Nat.le_of_ble_eq_true rfl, Nat.le_of_ble_eq_true rfl⟩ ⟨Nat.le_of_ble_eq_true rfl, Nat.le_of_ble_eq_true rfl⟩ (fun H locs hW => ?_)
  replace hf := x_b1 hf; obtain ⟨M50_13, hM50_13, hf⟩ := hf
  refine x_putr (v := (some M39_10.n)) C hW fp_X11_29_14 hM50_13 (fun _ => hin rfl) rfl rfl dX11_init_50 (fun H locs hW => ?_)
  refine lv_aload_n C.x C.b dX11_init_53 rfl (lv_at hl 0 rfl) ?_
  replace hf := x_b1 hf; obtain ⟨M54_14, hM54_14, hf⟩ := hf
  refine x_newo C hW hM54_14 nw_X11_33 dX11_init_54 ⟨Nat.le_of_ble_eq_true rfl, Nat.le_of_ble_eq_true rfl⟩ (fun H hW => ?_)
  refine lv_dup C.x C.b dX11_init_57 rfl ?_
  replace hf := x_b1 hf; obtain ⟨M58_15, hM58_15, hf⟩ := hf
  refine x_callIN (host := "NylonLadder") (As := []) (a := M50_13.n) (rest := [.ref (E.b + M50_13.n), .ref (E.b + o)]) C hW hl (qX8_init l E hM58_15) T_1_164 T_1_165 T_1_6 T_1_166 rfl hd_X8_init rfl rfl (Nat.le_of_ble_eq_true rfl) dX11_init_58 ⟨Nat.le_of_ble_eq_true rfl, Nat.le_of_ble_eq_true rfl⟩ ⟨Nat.le_of_ble_eq_true rfl, Nat.le_of_ble_eq_true rfl⟩ (fun H locs hW => ?_)
  replace hf := x_b1 hf; obtain ⟨M61_16, hM61_16, hf⟩ := hf
  refine x_putr (v := (some M50_13.n)) C hW fp_X11_36_14 hM61_16 (fun _ => hin rfl) rfl rfl dX11_init_61 (fun H locs hW => ?_)
  refine lv_aload_n C.x C.b dX11_init_64 rfl (lv_at hl 0 rfl) ?_
  refine lv_bipush (v := 10) C.x C.b dX11_init_65 (by decide) ?_
  refine lv_iconst (v := 3) C.x C.b dX11_init_67 (by decide) ?_
  replace hf := x_b1 hf; obtain ⟨M68_17, hM68_17, hf⟩ := hf
  refine x_mna C hW hM68_17 T_1_200 T_1_69 (by decide) ⟨Nat.le_of_ble_eq_true rfl, Nat.le_of_ble_eq_true rfl⟩ dX11_init_68 (fun H hW => ?_)
  replace hf := x_b1 hf; obtain ⟨M72_18, hM72_18, hf⟩ := hf
  refine x_putr (v := (some M61_16.n)) C hW fp_X11_42_14 hM72_18 (fun _ => hin rfl) rfl rfl dX11_init_72 (fun H locs hW => ?_)
  refine lv_aload_n C.x C.b dX11_init_75 rfl (lv_at hl 0 rfl) ?_
  refine lv_iconst (v := 0) C.x C.b dX11_init_76 (by decide) ?_
  replace hf := x_b1 hf; obtain ⟨M77_19, hM77_19, hf⟩ := hf
  refine x_puti C hW fp_X11_45_14 hM77_19 (fun h => by cases h) dX11_init_77 (fun H locs hW => ?_)
  refine lv_aload_n C.x C.b dX11_init_80 rfl (lv_at hl 0 rfl) ?_
  refine lv_iconst (v := 4) C.x C.b dX11_init_81 (by decide) ?_
  replace hf := x_b1 hf; obtain ⟨M82_20, hM82_20, hf⟩ := hf
  refine x_newq C hW hM82_20 (by decide) (by decide) rfl C.T.1.2.2.2.2.1 T_1_202 (by decide) ⟨Nat.le_of_ble_eq_true rfl, Nat.le_of_ble_eq_true rfl⟩ dX11_init_82 (fun H hW => ?_)
  replace hf := x_b1 hf; obtain ⟨M85_21, hM85_21, hf⟩ := hf
  refine x_putr (v := (some M77_19.n)) C hW fp_X11_51_14 hM85_21 (fun _ => hin rfl) rfl rfl dX11_init_85 (fun H locs hW => ?_)
  refine lv_aload_n C.x C.b dX11_init_88 rfl (lv_at hl 0 rfl) ?_
  refine lv_iconst (v := 4) C.x C.b dX11_init_89 (by decide) ?_
  replace hf := x_b1 hf; obtain ⟨M90_22, hM90_22, hf⟩ := hf
  refine x_newa C hW hM90_22 T_1_69 (by decide) ⟨Nat.le_of_ble_eq_true rfl, Nat.le_of_ble_eq_true rfl⟩ dX11_init_90 (fun H hW => ?_)
  refine lv_dup C.x C.b dX11_init_92 rfl ?_
  refine lv_iconst (v := 0) C.x C.b dX11_init_93 (by decide) ?_
  refine lv_iconst (v := (-1)) C.x C.b dX11_init_94 (by decide) ?_
  replace hf := x_b1 hf; obtain ⟨M95_23, hM95_23, hf⟩ := hf
  refine x_iast C hW hM95_23 dX11_init_95 (fun H locs hW => ?_)
  refine lv_dup C.x C.b dX11_init_96 rfl ?_
  refine lv_iconst (v := 1) C.x C.b dX11_init_97 (by decide) ?_
  refine lv_iconst (v := (-1)) C.x C.b dX11_init_98 (by decide) ?_
  replace hf := x_b1 hf; obtain ⟨M99_24, hM99_24, hf⟩ := hf
  refine x_iast C hW hM99_24 dX11_init_99 (fun H locs hW => ?_)
  refine lv_dup C.x C.b dX11_init_100 rfl ?_
  refine lv_iconst (v := 2) C.x C.b dX11_init_101 (by decide) ?_
  refine lv_iconst (v := (-1)) C.x C.b dX11_init_102 (by decide) ?_
  replace hf := x_b1 hf; obtain ⟨M103_25, hM103_25, hf⟩ := hf
  refine x_iast C hW hM103_25 dX11_init_103 (fun H locs hW => ?_)
  refine lv_dup C.x C.b dX11_init_104 rfl ?_
  refine lv_iconst (v := 3) C.x C.b dX11_init_105 (by decide) ?_
  refine lv_iconst (v := (-1)) C.x C.b dX11_init_106 (by decide) ?_
  replace hf := x_b1 hf; obtain ⟨M107_26, hM107_26, hf⟩ := hf
  refine x_iast C hW hM107_26 dX11_init_107 (fun H locs hW => ?_)
  replace hf := x_b1 hf; obtain ⟨M108_27, hM108_27, hf⟩ := hf
  refine x_putr (v := (some M85_21.n)) C hW fp_X11_55_14 hM108_27 (fun _ => hin rfl) rfl rfl dX11_init_108 (fun H locs hW => ?_)
  refine lv_aload_n C.x C.b dX11_init_111 rfl (lv_at hl 0 rfl) ?_
  refine lv_iconst (v := 4) C.x C.b dX11_init_112 (by decide) ?_
  replace hf := x_b1 hf; obtain ⟨M113_28, hM113_28, hf⟩ := hf
  refine x_newq C hW hM113_28 (by decide) (by decide) rfl C.T.1.2.2.2.2.1 T_1_202 (by decide) ⟨Nat.le_of_ble_eq_true rfl, Nat.le_of_ble_eq_true rfl⟩ dX11_init_113 (fun H hW => ?_)
  replace hf := x_b1 hf; obtain ⟨M116_29, hM116_29, hf⟩ := hf
  refine x_putr (v := (some M108_27.n)) C hW fp_X11_59_14 hM116_29 (fun _ => hin rfl) rfl rfl dX11_init_116 (fun H locs hW => ?_)
  refine lv_aload_n C.x C.b dX11_init_119 rfl (lv_at hl 0 rfl) ?_
  replace hf := x_b1 hf; obtain ⟨M120_30, hM120_30, hf⟩ := hf
  refine x_newo C hW hM120_30 nw_X11_62 dX11_init_120 ⟨Nat.le_of_ble_eq_true rfl, Nat.le_of_ble_eq_true rfl⟩ (fun H hW => ?_)
  refine lv_dup C.x C.b dX11_init_123 rfl ?_
  replace hf := x_b1 hf; obtain ⟨M124_31, hM124_31, hf⟩ := hf
  refine x_callI (As := []) (a := M116_29.n) (rest := [.ref (E.b + M116_29.n), .ref (E.b + o)]) C hW hl (qJx4a65c_init_da8c8 l E hM124_31) T_1_206 T_1_207 T_1_9 T_1_208 rfl hd_Jx4a65c_init_da8c8 rfl rfl (Nat.le_of_ble_eq_true rfl) dX11_init_124 ⟨Nat.le_of_ble_eq_true rfl, Nat.le_of_ble_eq_true rfl⟩ ⟨Nat.le_of_ble_eq_true rfl, Nat.le_of_ble_eq_true rfl⟩ (fun H locs hW => ?_)
  replace hf := x_b1 hf; obtain ⟨M127_32, hM127_32, hf⟩ := hf
  refine x_putr (v := (some M116_29.n)) C hW fp_X11_65_14 hM127_32 (fun _ => hin rfl) rfl rfl dX11_init_127 (fun H locs hW => ?_)
  rw [x_e0 hf]
  exact x_vret C hr hW dX11_init_130
