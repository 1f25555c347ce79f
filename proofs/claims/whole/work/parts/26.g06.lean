theorem dX12_runsOf_0 : decode cX12_runsOf 0 = .ok (.aload_n 0, 1) := by decide +kernel
theorem dX12_runsOf_1 : decode cX12_runsOf 1 = .ok (.getfield 432, 3) := by decide +kernel
theorem dX12_runsOf_4 : decode cX12_runsOf 4 = .ok (.iconst 2, 1) := by decide +kernel
theorem dX12_runsOf_5 : decode cX12_runsOf 5 = .ok (.if_icmp .ne 9, 3) := by decide +kernel
theorem dX12_runsOf_8 : decode cX12_runsOf 8 = .ok (.aload_n 0, 1) := by decide +kernel
theorem dX12_runsOf_9 : decode cX12_runsOf 9 = .ok (.iload_n 1, 1) := by decide +kernel
theorem dX12_runsOf_10 : decode cX12_runsOf 10 = .ok (.invokevirtual 435, 3) := by decide +kernel
theorem dX12_runsOf_13 : decode cX12_runsOf 13 = .ok (.ireturn, 1) := by decide +kernel
theorem dX12_runsOf_14 : decode cX12_runsOf 14 = .ok (.aload_n 0, 1) := by decide +kernel
theorem dX12_runsOf_15 : decode cX12_runsOf 15 = .ok (.getfield 432, 3) := by decide +kernel
theorem dX12_runsOf_18 : decode cX12_runsOf 18 = .ok (.iconst 4, 1) := by decide +kernel
theorem dX12_runsOf_19 : decode cX12_runsOf 19 = .ok (.if_icmp .ne 16, 3) := by decide +kernel
theorem dX12_runsOf_22 : decode cX12_runsOf 22 = .ok (.aload_n 0, 1) := by decide +kernel
theorem dX12_runsOf_23 : decode cX12_runsOf 23 = .ok (.bipush 40, 2) := by decide +kernel
theorem dX12_runsOf_25 : decode cX12_runsOf 25 = .ok (.invokevirtual 424, 3) := by decide +kernel
theorem dX12_runsOf_28 : decode cX12_runsOf 28 = .ok (.aload_n 0, 1) := by decide +kernel
theorem dX12_runsOf_29 : decode cX12_runsOf 29 = .ok (.iload_n 1, 1) := by decide +kernel
theorem dX12_runsOf_30 : decode cX12_runsOf 30 = .ok (.invokevirtual 435, 3) := by decide +kernel
theorem dX12_runsOf_33 : decode cX12_runsOf 33 = .ok (.ineg, 1) := by decide +kernel
theorem dX12_runsOf_34 : decode cX12_runsOf 34 = .ok (.ireturn, 1) := by decide +kernel
theorem dX12_runsOf_35 : decode cX12_runsOf 35 = .ok (.aload_n 0, 1) := by decide +kernel
theorem dX12_runsOf_36 : decode cX12_runsOf 36 = .ok (.getfield 432, 3) := by decide +kernel
theorem dX12_runsOf_39 : decode cX12_runsOf 39 = .ok (.iconst 3, 1) := by decide +kernel
theorem dX12_runsOf_40 : decode cX12_runsOf 40 = .ok (.if_icmp .ne 20, 3) := by decide +kernel
theorem dX12_runsOf_43 : decode cX12_runsOf 43 = .ok (.aload_n 0, 1) := by decide +kernel
theorem dX12_runsOf_44 : decode cX12_runsOf 44 = .ok (.bipush 51, 2) := by decide +kernel
theorem dX12_runsOf_46 : decode cX12_runsOf 46 = .ok (.invokevirtual 424, 3) := by decide +kernel
theorem dX12_runsOf_49 : decode cX12_runsOf 49 = .ok (.aload_n 0, 1) := by decide +kernel
theorem dX12_runsOf_50 : decode cX12_runsOf 50 = .ok (.iload_n 1, 1) := by decide +kernel
theorem dX12_runsOf_51 : decode cX12_runsOf 51 = .ok (.invokevirtual 429, 3) := by decide +kernel
theorem dX12_runsOf_54 : decode cX12_runsOf 54 = .ok (.aload_n 0, 1) := by decide +kernel
theorem dX12_runsOf_55 : decode cX12_runsOf 55 = .ok (.getfield 426, 3) := by decide +kernel
theorem dX12_runsOf_58 : decode cX12_runsOf 58 = .ok (.isub, 1) := by decide +kernel
theorem dX12_runsOf_59 : decode cX12_runsOf 59 = .ok (.ireturn, 1) := by decide +kernel
theorem dX12_runsOf_60 : decode cX12_runsOf 60 = .ok (.aload_n 0, 1) := by decide +kernel
theorem dX12_runsOf_61 : decode cX12_runsOf 61 = .ok (.iload_n 1, 1) := by decide +kernel
theorem dX12_runsOf_62 : decode cX12_runsOf 62 = .ok (.invokevirtual 429, 3) := by decide +kernel
theorem dX12_runsOf_65 : decode cX12_runsOf 65 = .ok (.ireturn, 1) := by decide +kernel
theorem fg_X12_432_15 : FdG "NylonLadderModel" 432 15 21 false := ⟨_, _, _, _, rfl, by decide, by decide, by decide, gxX12, by decide, T_6_70, Or.inl rfl, rfl⟩
theorem hd_X12_thickRuns : yX12_thickRuns.cls ≠ "java/lang/invoke/MethodHandle" ∧ yX12_thickRuns.cls ≠ "java/lang/invoke/VarHandle" ∧ (parseMethodDescriptor yX12_thickRuns.desc).map (fun d => d.parameters.length) = some 1 := by decide +kernel
theorem gv_X12_435 : GoodIn gT (wsV "NylonLadderModel" 435 "NylonLadderModel" yX12_thickRuns (Cond.code yX12_thickRuns cX12_thickRuns 2 (some .int) :: gT)) := good_V T_8_176 T_8_178 TS_93 T_1_10 T_8_179
def fX12_runsOf (M : Mm) (o : Nat) (p1 : Int32) : Option (Int32 × Mm) :=
  B1 (rdI M o 15 21) fun x1_1 =>
  if x1_1 = 2 then
    B1 (gk M o 15) fun _ =>
    B2 (fX12_thickRuns M o p1) fun x10_19 M10_20 =>
    some (x10_19, M10_20)
  else
    B1 (rdI M o 15 21) fun x15_2 =>
    if x15_2 = 4 then
      B1 (gk M o 15) fun _ =>
      B1 (fX12_runs_ M o 40) fun M25_14 =>
      B1 (gk M25_14 o 15) fun _ =>
      B2 (fX12_thickRuns M25_14 o p1) fun x30_16 M30_17 =>
      some ((-x30_16), M30_17)
    else
      B1 (rdI M o 15 21) fun x36_3 =>
      if x36_3 = 3 then
        B1 (gk M o 15) fun _ =>
        B1 (fX12_runs_ M o 51) fun M46_8 =>
        B1 (gk M46_8 o 15) fun _ =>
        B2 (fX12_plainRuns M46_8 o p1) fun x51_10 M51_11 =>
        B1 (rdI M51_11 o 15 22) fun x55_12 =>
        some ((x51_10 - x55_12), M51_11)
      else
        B1 (gk M o 15) fun _ =>
        B2 (fX12_plainRuns M o p1) fun x62_5 M62_6 =>
        some (x62_5, M62_6)
set_option maxRecDepth 100000 in
set_option maxHeartbeats 4000000 in
theorem qX12_runsOf (l : Launch) (E : Ev) {M : Mm} {o : Nat} {p1 : Int32} {rz : Int32} {Mz : Mm} (hf : fX12_runsOf M o p1 = some (rz, Mz)) : Ct l E yX12_runsOf cX12_runsOf 2 (some .int) 3 63 0 0 [.ref (E.b + o), .int p1] M (some (.int rz)) Mz := by
  refine ct_of (by decide +kernel) (Nat.le_of_ble_eq_true rfl) fun p e s m args below meth c C hr hin hW ls hl => ?_
  have hl : lv_has ls 2 [(0, .ref (E.b + o)), (1, .int p1)] := hl
  unfold fX12_runsOf at hf
  refine lv_aload_n C.x C.b dX12_runsOf_0 rfl (lv_at hl 0 rfl) ?_
  replace hf := x_b1 hf; obtain ⟨x1_1, hx1_1, hf⟩ := hf
  refine x_geti C hW fg_X12_432_15 hx1_1 dX12_runsOf_1 ?_
  refine lv_iconst (v := 2) C.x C.b dX12_runsOf_4 (by decide) ?_
  refine lv_icmp_ne (tgt := 14) C.x C.b dX12_runsOf_5 rfl (fun c5 => ?_) (fun c5 => ?_)
  · replace hf := x_in c5 hf
    refine lv_aload_n C.x C.b dX12_runsOf_14 rfl (lv_at hl 0 rfl) ?_
    replace hf := x_b1 hf; obtain ⟨x15_2, hx15_2, hf⟩ := hf
    refine x_geti C hW fg_X12_432_15 hx15_2 dX12_runsOf_15 ?_
    refine lv_iconst (v := 4) C.x C.b dX12_runsOf_18 (by decide) ?_
    refine lv_icmp_ne (tgt := 35) C.x C.b dX12_runsOf_19 rfl (fun c19 => ?_) (fun c19 => ?_)
    · replace hf := x_in c19 hf
      refine lv_aload_n C.x C.b dX12_runsOf_35 rfl (lv_at hl 0 rfl) ?_
      replace hf := x_b1 hf; obtain ⟨x36_3, hx36_3, hf⟩ := hf
      refine x_geti C hW fg_X12_432_15 hx36_3 dX12_runsOf_36 ?_
      refine lv_iconst (v := 3) C.x C.b dX12_runsOf_39 (by decide) ?_
      refine lv_icmp_ne (tgt := 60) C.x C.b dX12_runsOf_40 rfl (fun c40 => ?_) (fun c40 => ?_)
      · replace hf := x_in c40 hf
        refine lv_aload_n C.x C.b dX12_runsOf_60 rfl (lv_at hl 0 rfl) ?_
        refine lv_iload_n C.x C.b dX12_runsOf_61 rfl (lv_at hl 1 rfl) ?_
        replace hf := x_b1 hf; obtain ⟨_, hk62_4, hf⟩ := hf
        replace hf := x_b2 hf; obtain ⟨x62_5, M62_6, hx62_5, hf⟩ := hf
        refine x_callV (As := [.int p1]) (a := o) (rest := []) C hW hl (qX12_plainRuns l E hx62_5) (x_gk hk62_4) (by decide) (by decide) rfl gv_X12_429 ⟨rfl, hd_X12_plainRuns⟩ rfl rfl (Nat.le_of_ble_eq_true rfl) dX12_runsOf_62 ⟨Nat.le_of_ble_eq_true rfl, Nat.le_of_ble_eq_true rfl⟩ ⟨Nat.le_of_ble_eq_true rfl, Nat.le_of_ble_eq_true rfl⟩ (fun H locs hW => ?_)
        rw [x_e1 hf, x_e2 hf]
        exact x_iret C hr hW dX12_runsOf_65
      · replace hf := x_ip c40 hf
        refine lv_aload_n C.x C.b dX12_runsOf_43 rfl (lv_at hl 0 rfl) ?_
        refine lv_bipush (v := 51) C.x C.b dX12_runsOf_44 (by decide) ?_
        replace hf := x_b1 hf; obtain ⟨_, hk46_7, hf⟩ := hf
        replace hf := x_b1 hf; obtain ⟨M46_8, hM46_8, hf⟩ := hf
        refine x_callV (As := [.int 51]) (a := o) (rest := []) C hW hl (qX12_runs_ l E hM46_8) (x_gk hk46_7) (by decide) (by decide) rfl gv_X12_424 ⟨rfl, hd_X12_runs_⟩ rfl rfl (Nat.le_of_ble_eq_true rfl) dX12_runsOf_46 ⟨Nat.le_of_ble_eq_true rfl, Nat.le_of_ble_eq_true rfl⟩ ⟨Nat.le_of_ble_eq_true rfl, Nat.le_of_ble_eq_true rfl⟩ (fun H locs hW => ?_)
        refine lv_aload_n C.x C.b dX12_runsOf_49 rfl (lv_at hl 0 rfl) ?_
        refine lv_iload_n C.x C.b dX12_runsOf_50 rfl (lv_at hl 1 rfl) ?_
        replace hf := x_b1 hf; obtain ⟨_, hk51_9, hf⟩ := hf
        replace hf := x_b2 hf; obtain ⟨x51_10, M51_11, hx51_10, hf⟩ := hf
        refine x_callV (As := [.int p1]) (a := o) (rest := []) C hW hl (qX12_plainRuns l E hx51_10) (x_gk hk51_9) (by decide) (by decide) rfl gv_X12_429 ⟨rfl, hd_X12_plainRuns⟩ rfl rfl (Nat.le_of_ble_eq_true rfl) dX12_runsOf_51 ⟨Nat.le_of_ble_eq_true rfl, Nat.le_of_ble_eq_true rfl⟩ ⟨Nat.le_of_ble_eq_true rfl, Nat.le_of_ble_eq_true rfl⟩ (fun H locs hW => ?_)
        refine lv_aload_n C.x C.b dX12_runsOf_54 rfl (lv_at hl 0 rfl) ?_
        replace hf := x_b1 hf; obtain ⟨x55_12, hx55_12, hf⟩ := hf
        refine x_geti C hW fg_X12_426_15 hx55_12 dX12_runsOf_55 ?_
        refine lv_isub C.x C.b dX12_runsOf_58 ?_
        rw [x_e1 hf, x_e2 hf]
        exact x_iret C hr hW dX12_runsOf_59
    · replace hf := x_ip c19 hf
      refine lv_aload_n C.x C.b dX12_runsOf_22 rfl (lv_at hl 0 rfl) ?_
      refine lv_bipush (v := 40) C.x C.b dX12_runsOf_23 (by decide) ?_
      replace hf := x_b1 hf; obtain ⟨_, hk25_13, hf⟩ := hf
      replace hf := x_b1 hf; obtain ⟨M25_14, hM25_14, hf⟩ := hf
      refine x_callV (As := [.int 40]) (a := o) (rest := []) C hW hl (qX12_runs_ l E hM25_14) (x_gk hk25_13) (by decide) (by decide) rfl gv_X12_424 ⟨rfl, hd_X12_runs_⟩ rfl rfl (Nat.le_of_ble_eq_true rfl) dX12_runsOf_25 ⟨Nat.le_of_ble_eq_true rfl, Nat.le_of_ble_eq_true rfl⟩ ⟨Nat.le_of_ble_eq_true rfl, Nat.le_of_ble_eq_true rfl⟩ (fun H locs hW => ?_)
      refine lv_aload_n C.x C.b dX12_runsOf_28 rfl (lv_at hl 0 rfl) ?_
      refine lv_iload_n C.x C.b dX12_runsOf_29 rfl (lv_at hl 1 rfl) ?_
      replace hf := x_b1 hf; obtain ⟨_, hk30_15, hf⟩ := hf
      replace hf := x_b2 hf; obtain ⟨x30_16, M30_17, hx30_16, hf⟩ := hf
      refine x_callV (As := [.int p1]) (a := o) (rest := []) C hW hl (qX12_thickRuns l E hx30_16) (x_gk hk30_15) (by decide) (by decide) rfl gv_X12_435 ⟨rfl, hd_X12_thickRuns⟩ rfl rfl (Nat.le_of_ble_eq_true rfl) dX12_runsOf_30 ⟨Nat.le_of_ble_eq_true rfl, Nat.le_of_ble_eq_true rfl⟩ ⟨Nat.le_of_ble_eq_true rfl, Nat.le_of_ble_eq_true rfl⟩ (fun H locs hW => ?_)
      refine lv_ineg C.x C.b dX12_runsOf_33 ?_
      rw [x_e1 hf, x_e2 hf]
      exact x_iret C hr hW dX12_runsOf_34
  · replace hf := x_ip c5 hf
    refine lv_aload_n C.x C.b dX12_runsOf_8 rfl (lv_at hl 0 rfl) ?_
    refine lv_iload_n C.x C.b dX12_runsOf_9 rfl (lv_at hl 1 rfl) ?_
    replace hf := x_b1 hf; obtain ⟨_, hk10_18, hf⟩ := hf
    replace hf := x_b2 hf; obtain ⟨x10_19, M10_20, hx10_19, hf⟩ := hf
    refine x_callV (As := [.int p1]) (a := o) (rest := []) C hW hl (qX12_thickRuns l E hx10_19) (x_gk hk10_18) (by decide) (by decide) rfl gv_X12_435 ⟨rfl, hd_X12_thickRuns⟩ rfl rfl (Nat.le_of_ble_eq_true rfl) dX12_runsOf_10 ⟨Nat.le_of_ble_eq_true rfl, Nat.le_of_ble_eq_true rfl⟩ ⟨Nat.le_of_ble_eq_true rfl, Nat.le_of_ble_eq_true rfl⟩ (fun H locs hW => ?_)
    rw [x_e1 hf, x_e2 hf]
    exact x_iret C hr hW dX12_runsOf_13

theorem dX12_plainDries_0 : decode cX12_plainDries 0 = .ok (.aload_n 0, 1) := by decide +kernel
theorem dX12_plainDries_1 : decode cX12_plainDries 1 = .ok (.bipush 11, 2) := by decide +kernel
theorem dX12_plainDries_3 : decode cX12_plainDries 3 = .ok (.invokevirtual 424, 3) := by decide +kernel
theorem dX12_plainDries_6 : decode cX12_plainDries 6 = .ok (.iconst 2, 1) := by decide +kernel
theorem dX12_plainDries_7 : decode cX12_plainDries 7 = .ok (.aload_n 0, 1) := by decide +kernel
theorem dX12_plainDries_8 : decode cX12_plainDries 8 = .ok (.iload_n 1, 1) := by decide +kernel
theorem dX12_plainDries_9 : decode cX12_plainDries 9 = .ok (.invokevirtual 438, 3) := by decide +kernel
theorem dX12_plainDries_12 : decode cX12_plainDries 12 = .ok (.imul, 1) := by decide +kernel
theorem dX12_plainDries_13 : decode cX12_plainDries 13 = .ok (.ireturn, 1) := by decide +kernel
theorem hd_X12_runsOf : yX12_runsOf.cls ≠ "java/lang/invoke/MethodHandle" ∧ yX12_runsOf.cls ≠ "java/lang/invoke/VarHandle" ∧ (parseMethodDescriptor yX12_runsOf.desc).map (fun d => d.parameters.length) = some 1 := by decide +kernel
theorem gv_X12_438 : GoodIn gT (wsV "NylonLadderModel" 438 "NylonLadderModel" yX12_runsOf (Cond.code yX12_runsOf cX12_runsOf 2 (some .int) :: gT)) := good_V T_8_172 T_8_174 TS_92 T_1_10 T_8_175
def fX12_plainDries (M : Mm) (o : Nat) (p1 : Int32) : Option (Int32 × Mm) :=
  B1 (gk M o 15) fun _ =>
  B1 (fX12_runs_ M o 11) fun M3_2 =>
  B1 (gk M3_2 o 15) fun _ =>
  B2 (fX12_runsOf M3_2 o p1) fun x9_4 M9_5 =>
  some ((2 * x9_4), M9_5)
set_option maxRecDepth 100000 in
set_option maxHeartbeats 4000000 in
theorem qX12_plainDries (l : Launch) (E : Ev) {M : Mm} {o : Nat} {p1 : Int32} {rz : Int32} {Mz : Mm} (hf : fX12_plainDries M o p1 = some (rz, Mz)) : Ct l E yX12_plainDries cX12_plainDries 2 (some .int) 4 84 0 0 [.ref (E.b + o), .int p1] M (some (.int rz)) Mz := by
  refine ct_of (by decide +kernel) (Nat.le_of_ble_eq_true rfl) fun p e s m args below meth c C hr hin hW ls hl => ?_
  have hl : lv_has ls 2 [(0, .ref (E.b + o)), (1, .int p1)] := hl
  unfold fX12_plainDries at hf
  refine lv_aload_n C.x C.b dX12_plainDries_0 rfl (lv_at hl 0 rfl) ?_
  refine lv_bipush (v := 11) C.x C.b dX12_plainDries_1 (by decide) ?_
  replace hf := x_b1 hf; obtain ⟨_, hk3_1, hf⟩ := hf
  replace hf := x_b1 hf; obtain ⟨M3_2, hM3_2, hf⟩ := hf
  refine x_callV (As := [.int 11]) (a := o) (rest := []) C hW hl (qX12_runs_ l E hM3_2) (x_gk hk3_1) (by decide) (by decide) rfl gv_X12_424 ⟨rfl, hd_X12_runs_⟩ rfl rfl (Nat.le_of_ble_eq_true rfl) dX12_plainDries_3 ⟨Nat.le_of_ble_eq_true rfl, Nat.le_of_ble_eq_true rfl⟩ ⟨Nat.le_of_ble_eq_true rfl, Nat.le_of_ble_eq_true rfl⟩ (fun H locs hW => ?_)
  refine lv_iconst (v := 2) C.x C.b dX12_plainDries_6 (by decide) ?_
  refine lv_aload_n C.x C.b dX12_plainDries_7 rfl (lv_at hl 0 rfl) ?_
  refine lv_iload_n C.x C.b dX12_plainDries_8 rfl (lv_at hl 1 rfl) ?_
  replace hf := x_b1 hf; obtain ⟨_, hk9_3, hf⟩ := hf
  replace hf := x_b2 hf; obtain ⟨x9_4, M9_5, hx9_4, hf⟩ := hf
  refine x_callV (As := [.int p1]) (a := o) (rest := [.int 2]) C hW hl (qX12_runsOf l E hx9_4) (x_gk hk9_3) (by decide) (by decide) rfl gv_X12_438 ⟨rfl, hd_X12_runsOf⟩ rfl rfl (Nat.le_of_ble_eq_true rfl) dX12_plainDries_9 ⟨Nat.le_of_ble_eq_true rfl, Nat.le_of_ble_eq_true rfl⟩ ⟨Nat.le_of_ble_eq_true rfl, Nat.le_of_ble_eq_true rfl⟩ (fun H locs hW => ?_)
  refine lv_imul C.x C.b dX12_plainDries_12 ?_
  rw [x_e1 hf, x_e2 hf]
  exact x_iret C hr hW dX12_plainDries_13

theorem dX12_driesOf_0 : decode cX12_driesOf 0 = .ok (.aload_n 0, 1) := by decide +kernel
theorem dX12_driesOf_1 : decode cX12_driesOf 1 = .ok (.getfield 432, 3) := by decide +kernel
theorem dX12_driesOf_4 : decode cX12_driesOf 4 = .ok (.iconst 1, 1) := by decide +kernel
theorem dX12_driesOf_5 : decode cX12_driesOf 5 = .ok (.if_icmp .eq 11, 3) := by decide +kernel
theorem dX12_driesOf_8 : decode cX12_driesOf 8 = .ok (.aload_n 0, 1) := by decide +kernel
theorem dX12_driesOf_9 : decode cX12_driesOf 9 = .ok (.getfield 432, 3) := by decide +kernel
theorem dX12_driesOf_12 : decode cX12_driesOf 12 = .ok (.iconst 3, 1) := by decide +kernel
theorem dX12_driesOf_13 : decode cX12_driesOf 13 = .ok (.if_icmp .ne 20, 3) := by decide +kernel
theorem dX12_driesOf_16 : decode cX12_driesOf 16 = .ok (.aload_n 0, 1) := by decide +kernel
theorem dX12_driesOf_17 : decode cX12_driesOf 17 = .ok (.bipush 20, 2) := by decide +kernel
theorem dX12_driesOf_19 : decode cX12_driesOf 19 = .ok (.invokevirtual 424, 3) := by decide +kernel
theorem dX12_driesOf_22 : decode cX12_driesOf 22 = .ok (.aload_n 0, 1) := by decide +kernel
theorem dX12_driesOf_23 : decode cX12_driesOf 23 = .ok (.iload_n 1, 1) := by decide +kernel
theorem dX12_driesOf_24 : decode cX12_driesOf 24 = .ok (.invokevirtual 441, 3) := by decide +kernel
theorem dX12_driesOf_27 : decode cX12_driesOf 27 = .ok (.aload_n 0, 1) := by decide +kernel
theorem dX12_driesOf_28 : decode cX12_driesOf 28 = .ok (.getfield 444, 3) := by decide +kernel
theorem dX12_driesOf_31 : decode cX12_driesOf 31 = .ok (.isub, 1) := by decide +kernel
theorem dX12_driesOf_32 : decode cX12_driesOf 32 = .ok (.ireturn, 1) := by decide +kernel
theorem dX12_driesOf_33 : decode cX12_driesOf 33 = .ok (.aload_n 0, 1) := by decide +kernel
theorem dX12_driesOf_34 : decode cX12_driesOf 34 = .ok (.getfield 432, 3) := by decide +kernel
theorem dX12_driesOf_37 : decode cX12_driesOf 37 = .ok (.iconst 4, 1) := by decide +kernel
theorem dX12_driesOf_38 : decode cX12_driesOf 38 = .ok (.if_icmp .ne 26, 3) := by decide +kernel
theorem dX12_driesOf_41 : decode cX12_driesOf 41 = .ok (.aload_n 0, 1) := by decide +kernel
theorem dX12_driesOf_42 : decode cX12_driesOf 42 = .ok (.bipush 41, 2) := by decide +kernel
theorem dX12_driesOf_44 : decode cX12_driesOf 44 = .ok (.invokevirtual 424, 3) := by decide +kernel
theorem dX12_driesOf_47 : decode cX12_driesOf 47 = .ok (.aload_n 0, 1) := by decide +kernel
theorem dX12_driesOf_48 : decode cX12_driesOf 48 = .ok (.iload_n 1, 1) := by decide +kernel
theorem dX12_driesOf_49 : decode cX12_driesOf 49 = .ok (.invokevirtual 441, 3) := by decide +kernel
theorem dX12_driesOf_52 : decode cX12_driesOf 52 = .ok (.istore_n 2, 1) := by decide +kernel
theorem dX12_driesOf_53 : decode cX12_driesOf 53 = .ok (.iload_n 2, 1) := by decide +kernel
theorem dX12_driesOf_54 : decode cX12_driesOf 54 = .ok (.aload_n 0, 1) := by decide +kernel
theorem dX12_driesOf_55 : decode cX12_driesOf 55 = .ok (.aload_n 0, 1) := by decide +kernel
theorem dX12_driesOf_56 : decode cX12_driesOf 56 = .ok (.getfield 426, 3) := by decide +kernel
theorem dX12_driesOf_59 : decode cX12_driesOf 59 = .ok (.invokevirtual 438, 3) := by decide +kernel
theorem dX12_driesOf_62 : decode cX12_driesOf 62 = .ok (.iadd, 1) := by decide +kernel
theorem dX12_driesOf_63 : decode cX12_driesOf 63 = .ok (.ireturn, 1) := by decide +kernel
theorem dX12_driesOf_64 : decode cX12_driesOf 64 = .ok (.aload_n 0, 1) := by decide +kernel
theorem dX12_driesOf_65 : decode cX12_driesOf 65 = .ok (.iload_n 1, 1) := by decide +kernel
theorem dX12_driesOf_66 : decode cX12_driesOf 66 = .ok (.invokevirtual 441, 3) := by decide +kernel
theorem dX12_driesOf_69 : decode cX12_driesOf 69 = .ok (.ireturn, 1) := by decide +kernel
theorem hd_X12_plainDries : yX12_plainDries.cls ≠ "java/lang/invoke/MethodHandle" ∧ yX12_plainDries.cls ≠ "java/lang/invoke/VarHandle" ∧ (parseMethodDescriptor yX12_plainDries.desc).map (fun d => d.parameters.length) = some 1 := by decide +kernel
theorem gv_X12_441 : GoodIn gT (wsV "NylonLadderModel" 441 "NylonLadderModel" yX12_plainDries (Cond.code yX12_plainDries cX12_plainDries 2 (some .int) :: gT)) := good_V T_8_192 T_8_194 TS_97 T_1_10 T_8_195
theorem fg_X12_444_15 : FdG "NylonLadderModel" 444 15 23 false := ⟨_, _, _, _, rfl, by decide, by decide, by decide, gxX12, by decide, T_6_72, Or.inl rfl, rfl⟩
def fX12_driesOf (M : Mm) (o : Nat) (p1 : Int32) : Option (Int32 × Mm) :=
  B1 (rdI M o 15 21) fun x1_1 =>
  if x1_1 = 1 then
    B1 (gk M o 15) fun _ =>
    B1 (fX12_runs_ M o 20) fun M19_3 =>
    B1 (gk M19_3 o 15) fun _ =>
    B2 (fX12_plainDries M19_3 o p1) fun x24_5 M24_6 =>
    B1 (rdI M24_6 o 15 23) fun x28_7 =>
    some ((x24_5 - x28_7), M24_6)
  else
    B1 (rdI M o 15 21) fun x9_8 =>
    if x9_8 = 3 then
      B1 (gk M o 15) fun _ =>
      B1 (fX12_runs_ M o 20) fun M19_23 =>
      B1 (gk M19_23 o 15) fun _ =>
      B2 (fX12_plainDries M19_23 o p1) fun x24_25 M24_26 =>
      B1 (rdI M24_26 o 15 23) fun x28_27 =>
      some ((x24_25 - x28_27), M24_26)
    else
      B1 (rdI M o 15 21) fun x34_9 =>
      if x34_9 = 4 then
        B1 (gk M o 15) fun _ =>
        B1 (fX12_runs_ M o 41) fun M44_14 =>
        B1 (gk M44_14 o 15) fun _ =>
        B2 (fX12_plainDries M44_14 o p1) fun x49_16 M49_17 =>
        B1 (rdI M49_17 o 15 22) fun x56_18 =>
        B1 (gk M49_17 o 15) fun _ =>
        B2 (fX12_runsOf M49_17 o x56_18) fun x59_20 M59_21 =>
        some ((x49_16 + x59_20), M59_21)
      else
        B1 (gk M o 15) fun _ =>
        B2 (fX12_plainDries M o p1) fun x66_11 M66_12 =>
        some (x66_11, M66_12)
set_option maxRecDepth 100000 in
set_option maxHeartbeats 4000000 in
theorem qX12_driesOf (l : Launch) (E : Ev) {M : Mm} {o : Nat} {p1 : Int32} {rz : Int32} {Mz : Mm} (hf : fX12_driesOf M o p1 = some (rz, Mz)) : Ct l E yX12_driesOf cX12_driesOf 3 (some .int) 5 105 0 0 [.ref (E.b + o), .int p1] M (some (.int rz)) Mz := by
  refine ct_of (by decide +kernel) (Nat.le_of_ble_eq_true rfl) fun p e s m args below meth c C hr hin hW ls hl => ?_
  have hl : lv_has ls 3 [(0, .ref (E.b + o)), (1, .int p1)] := hl
  unfold fX12_driesOf at hf
  refine lv_aload_n C.x C.b dX12_driesOf_0 rfl (lv_at hl 0 rfl) ?_
  replace hf := x_b1 hf; obtain ⟨x1_1, hx1_1, hf⟩ := hf
  refine x_geti C hW fg_X12_432_15 hx1_1 dX12_driesOf_1 ?_
  refine lv_iconst (v := 1) C.x C.b dX12_driesOf_4 (by decide) ?_
  refine lv_icmp_eq (tgt := 16) C.x C.b dX12_driesOf_5 rfl (fun c5 => ?_) (fun c5 => ?_)
  · replace hf := x_ip c5 hf
    refine lv_aload_n C.x C.b dX12_driesOf_16 rfl (lv_at hl 0 rfl) ?_
    refine lv_bipush (v := 20) C.x C.b dX12_driesOf_17 (by decide) ?_
    replace hf := x_b1 hf; obtain ⟨_, hk19_2, hf⟩ := hf
    replace hf := x_b1 hf; obtain ⟨M19_3, hM19_3, hf⟩ := hf
    refine x_callV (As := [.int 20]) (a := o) (rest := []) C hW hl (qX12_runs_ l E hM19_3) (x_gk hk19_2) (by decide) (by decide) rfl gv_X12_424 ⟨rfl, hd_X12_runs_⟩ rfl rfl (Nat.le_of_ble_eq_true rfl) dX12_driesOf_19 ⟨Nat.le_of_ble_eq_true rfl, Nat.le_of_ble_eq_true rfl⟩ ⟨Nat.le_of_ble_eq_true rfl, Nat.le_of_ble_eq_true rfl⟩ (fun H locs hW => ?_)
    refine lv_aload_n C.x C.b dX12_driesOf_22 rfl (lv_at hl 0 rfl) ?_
    refine lv_iload_n C.x C.b dX12_driesOf_23 rfl (lv_at hl 1 rfl) ?_
    replace hf := x_b1 hf; obtain ⟨_, hk24_4, hf⟩ := hf
    replace hf := x_b2 hf; obtain ⟨x24_5, M24_6, hx24_5, hf⟩ := hf
    refine x_callV (As := [.int p1]) (a := o) (rest := []) C hW hl (qX12_plainDries l E hx24_5) (x_gk hk24_4) (by decide) (by decide) rfl gv_X12_441 ⟨rfl, hd_X12_plainDries⟩ rfl rfl (Nat.le_of_ble_eq_true rfl) dX12_driesOf_24 ⟨Nat.le_of_ble_eq_true rfl, Nat.le_of_ble_eq_true rfl⟩ ⟨Nat.le_of_ble_eq_true rfl, Nat.le_of_ble_eq_true rfl⟩ (fun H locs hW => ?_)
    refine lv_aload_n C.x C.b dX12_driesOf_27 rfl (lv_at hl 0 rfl) ?_
    replace hf := x_b1 hf; obtain ⟨x28_7, hx28_7, hf⟩ := hf
    refine x_geti C hW fg_X12_444_15 hx28_7 dX12_driesOf_28 ?_
    refine lv_isub C.x C.b dX12_driesOf_31 ?_
    rw [x_e1 hf, x_e2 hf]
    exact x_iret C hr hW dX12_driesOf_32
  · replace hf := x_in c5 hf
    refine lv_aload_n C.x C.b dX12_driesOf_8 rfl (lv_at hl 0 rfl) ?_
    replace hf := x_b1 hf; obtain ⟨x9_8, hx9_8, hf⟩ := hf
    refine x_geti C hW fg_X12_432_15 hx9_8 dX12_driesOf_9 ?_
    refine lv_iconst (v := 3) C.x C.b dX12_driesOf_12 (by decide) ?_
    refine lv_icmp_ne (tgt := 33) C.x C.b dX12_driesOf_13 rfl (fun c13 => ?_) (fun c13 => ?_)
    · replace hf := x_in c13 hf
      refine lv_aload_n C.x C.b dX12_driesOf_33 rfl (lv_at hl 0 rfl) ?_
      replace hf := x_b1 hf; obtain ⟨x34_9, hx34_9, hf⟩ := hf
      refine x_geti C hW fg_X12_432_15 hx34_9 dX12_driesOf_34 ?_
      refine lv_iconst (v := 4) C.x C.b dX12_driesOf_37 (by decide) ?_
      refine lv_icmp_ne (tgt := 64) C.x C.b dX12_driesOf_38 rfl (fun c38 => ?_) (fun c38 => ?_)
      · replace hf := x_in c38 hf
        refine lv_aload_n C.x C.b dX12_driesOf_64 rfl (lv_at hl 0 rfl) ?_
        refine lv_iload_n C.x C.b dX12_driesOf_65 rfl (lv_at hl 1 rfl) ?_
        replace hf := x_b1 hf; obtain ⟨_, hk66_10, hf⟩ := hf
        replace hf := x_b2 hf; obtain ⟨x66_11, M66_12, hx66_11, hf⟩ := hf
        refine x_callV (As := [.int p1]) (a := o) (rest := []) C hW hl (qX12_plainDries l E hx66_11) (x_gk hk66_10) (by decide) (by decide) rfl gv_X12_441 ⟨rfl, hd_X12_plainDries⟩ rfl rfl (Nat.le_of_ble_eq_true rfl) dX12_driesOf_66 ⟨Nat.le_of_ble_eq_true rfl, Nat.le_of_ble_eq_true rfl⟩ ⟨Nat.le_of_ble_eq_true rfl, Nat.le_of_ble_eq_true rfl⟩ (fun H locs hW => ?_)
        rw [x_e1 hf, x_e2 hf]
        exact x_iret C hr hW dX12_driesOf_69
      · replace hf := x_ip c38 hf
        refine lv_aload_n C.x C.b dX12_driesOf_41 rfl (lv_at hl 0 rfl) ?_
        refine lv_bipush (v := 41) C.x C.b dX12_driesOf_42 (by decide) ?_
        replace hf := x_b1 hf; obtain ⟨_, hk44_13, hf⟩ := hf
        replace hf := x_b1 hf; obtain ⟨M44_14, hM44_14, hf⟩ := hf
        refine x_callV (As := [.int 41]) (a := o) (rest := []) C hW hl (qX12_runs_ l E hM44_14) (x_gk hk44_13) (by decide) (by decide) rfl gv_X12_424 ⟨rfl, hd_X12_runs_⟩ rfl rfl (Nat.le_of_ble_eq_true rfl) dX12_driesOf_44 ⟨Nat.le_of_ble_eq_true rfl, Nat.le_of_ble_eq_true rfl⟩ ⟨Nat.le_of_ble_eq_true rfl, Nat.le_of_ble_eq_true rfl⟩ (fun H locs hW => ?_)
        refine lv_aload_n C.x C.b dX12_driesOf_47 rfl (lv_at hl 0 rfl) ?_
        refine lv_iload_n C.x C.b dX12_driesOf_48 rfl (lv_at hl 1 rfl) ?_
        replace hf := x_b1 hf; obtain ⟨_, hk49_15, hf⟩ := hf
        replace hf := x_b2 hf; obtain ⟨x49_16, M49_17, hx49_16, hf⟩ := hf
        refine x_callV (As := [.int p1]) (a := o) (rest := []) C hW hl (qX12_plainDries l E hx49_16) (x_gk hk49_15) (by decide) (by decide) rfl gv_X12_441 ⟨rfl, hd_X12_plainDries⟩ rfl rfl (Nat.le_of_ble_eq_true rfl) dX12_driesOf_49 ⟨Nat.le_of_ble_eq_true rfl, Nat.le_of_ble_eq_true rfl⟩ ⟨Nat.le_of_ble_eq_true rfl, Nat.le_of_ble_eq_true rfl⟩ (fun H locs hW => ?_)
        refine lv_istore_n (lv' := [(2, .int _), (0, .ref (E.b + _)), (1, .int _)]) C.x C.b dX12_driesOf_52 rfl hl (by decide) rfl (fun ls hl => ?_)
        refine lv_iload_n C.x C.b dX12_driesOf_53 rfl (lv_at hl 0 rfl) ?_
        refine lv_aload_n C.x C.b dX12_driesOf_54 rfl (lv_at hl 1 rfl) ?_
        refine lv_aload_n C.x C.b dX12_driesOf_55 rfl (lv_at hl 1 rfl) ?_
        replace hf := x_b1 hf; obtain ⟨x56_18, hx56_18, hf⟩ := hf
        refine x_geti C hW fg_X12_426_15 hx56_18 dX12_driesOf_56 ?_
        replace hf := x_b1 hf; obtain ⟨_, hk59_19, hf⟩ := hf
        replace hf := x_b2 hf; obtain ⟨x59_20, M59_21, hx59_20, hf⟩ := hf
        refine x_callV (As := [.int x56_18]) (a := o) (rest := [.int x49_16]) C hW hl (qX12_runsOf l E hx59_20) (x_gk hk59_19) (by decide) (by decide) rfl gv_X12_438 ⟨rfl, hd_X12_runsOf⟩ rfl rfl (Nat.le_of_ble_eq_true rfl) dX12_driesOf_59 ⟨Nat.le_of_ble_eq_true rfl, Nat.le_of_ble_eq_true rfl⟩ ⟨Nat.le_of_ble_eq_true rfl, Nat.le_of_ble_eq_true rfl⟩ (fun H locs hW => ?_)
        refine lv_iadd C.x C.b dX12_driesOf_62 ?_
        rw [x_e1 hf, x_e2 hf]
        exact x_iret C hr hW dX12_driesOf_63
    · replace hf := x_ip c13 hf
      refine lv_aload_n C.x C.b dX12_driesOf_16 rfl (lv_at hl 0 rfl) ?_
      refine lv_bipush (v := 20) C.x C.b dX12_driesOf_17 (by decide) ?_
      replace hf := x_b1 hf; obtain ⟨_, hk19_22, hf⟩ := hf
      replace hf := x_b1 hf; obtain ⟨M19_23, hM19_23, hf⟩ := hf
      refine x_callV (As := [.int 20]) (a := o) (rest := []) C hW hl (qX12_runs_ l E hM19_23) (x_gk hk19_22) (by decide) (by decide) rfl gv_X12_424 ⟨rfl, hd_X12_runs_⟩ rfl rfl (Nat.le_of_ble_eq_true rfl) dX12_driesOf_19 ⟨Nat.le_of_ble_eq_true rfl, Nat.le_of_ble_eq_true rfl⟩ ⟨Nat.le_of_ble_eq_true rfl, Nat.le_of_ble_eq_true rfl⟩ (fun H locs hW => ?_)
      refine lv_aload_n C.x C.b dX12_driesOf_22 rfl (lv_at hl 0 rfl) ?_
      refine lv_iload_n C.x C.b dX12_driesOf_23 rfl (lv_at hl 1 rfl) ?_
      replace hf := x_b1 hf; obtain ⟨_, hk24_24, hf⟩ := hf
      replace hf := x_b2 hf; obtain ⟨x24_25, M24_26, hx24_25, hf⟩ := hf
      refine x_callV (As := [.int p1]) (a := o) (rest := []) C hW hl (qX12_plainDries l E hx24_25) (x_gk hk24_24) (by decide) (by decide) rfl gv_X12_441 ⟨rfl, hd_X12_plainDries⟩ rfl rfl (Nat.le_of_ble_eq_true rfl) dX12_driesOf_24 ⟨Nat.le_of_ble_eq_true rfl, Nat.le_of_ble_eq_true rfl⟩ ⟨Nat.le_of_ble_eq_true rfl, Nat.le_of_ble_eq_true rfl⟩ (fun H locs hW => ?_)
      refine lv_aload_n C.x C.b dX12_driesOf_27 rfl (lv_at hl 0 rfl) ?_
      replace hf := x_b1 hf; obtain ⟨x28_27, hx28_27, hf⟩ := hf
      refine x_geti C hW fg_X12_444_15 hx28_27 dX12_driesOf_28 ?_
      refine lv_isub C.x C.b dX12_driesOf_31 ?_
      rw [x_e1 hf, x_e2 hf]
      exact x_iret C hr hW dX12_driesOf_32

theorem dX12_plainHolds_0 : decode cX12_plainHolds 0 = .ok (.aload_n 0, 1) := by decide +kernel
theorem dX12_plainHolds_1 : decode cX12_plainHolds 1 = .ok (.bipush 12, 2) := by decide +kernel
theorem dX12_plainHolds_3 : decode cX12_plainHolds 3 = .ok (.invokevirtual 424, 3) := by decide +kernel
theorem dX12_plainHolds_6 : decode cX12_plainHolds 6 = .ok (.aload_n 0, 1) := by decide +kernel
theorem dX12_plainHolds_7 : decode cX12_plainHolds 7 = .ok (.aload_n 0, 1) := by decide +kernel
theorem dX12_plainHolds_8 : decode cX12_plainHolds 8 = .ok (.getfield 447, 3) := by decide +kernel
theorem dX12_plainHolds_11 : decode cX12_plainHolds 11 = .ok (.ifCond .ne 14, 3) := by decide +kernel
theorem dX12_plainHolds_14 : decode cX12_plainHolds 14 = .ok (.aload_n 0, 1) := by decide +kernel
theorem dX12_plainHolds_15 : decode cX12_plainHolds 15 = .ok (.getfield 444, 3) := by decide +kernel
theorem dX12_plainHolds_18 : decode cX12_plainHolds 18 = .ok (.aload_n 0, 1) := by decide +kernel
theorem dX12_plainHolds_19 : decode cX12_plainHolds 19 = .ok (.getfield 426, 3) := by decide +kernel
theorem dX12_plainHolds_22 : decode cX12_plainHolds 22 = .ok (.if_icmp .ne 7, 3) := by decide +kernel
theorem dX12_plainHolds_25 : decode cX12_plainHolds 25 = .ok (.iconst 1, 1) := by decide +kernel
theorem dX12_plainHolds_26 : decode cX12_plainHolds 26 = .ok (.goto 4, 3) := by decide +kernel
theorem dX12_plainHolds_29 : decode cX12_plainHolds 29 = .ok (.iconst 0, 1) := by decide +kernel
theorem dX12_plainHolds_30 : decode cX12_plainHolds 30 = .ok (.putfield 447, 3) := by decide +kernel
theorem dX12_plainHolds_33 : decode cX12_plainHolds 33 = .ok (.aload_n 0, 1) := by decide +kernel
theorem dX12_plainHolds_34 : decode cX12_plainHolds 34 = .ok (.getfield 444, 3) := by decide +kernel
theorem dX12_plainHolds_37 : decode cX12_plainHolds 37 = .ok (.aload_n 0, 1) := by decide +kernel
theorem dX12_plainHolds_38 : decode cX12_plainHolds 38 = .ok (.getfield 426, 3) := by decide +kernel
theorem dX12_plainHolds_41 : decode cX12_plainHolds 41 = .ok (.if_icmp .ne 7, 3) := by decide +kernel
theorem dX12_plainHolds_44 : decode cX12_plainHolds 44 = .ok (.iconst 0, 1) := by decide +kernel
theorem dX12_plainHolds_45 : decode cX12_plainHolds 45 = .ok (.goto 14, 3) := by decide +kernel
theorem dX12_plainHolds_48 : decode cX12_plainHolds 48 = .ok (.iload_n 1, 1) := by decide +kernel
theorem dX12_plainHolds_49 : decode cX12_plainHolds 49 = .ok (.aload_n 0, 1) := by decide +kernel
theorem dX12_plainHolds_50 : decode cX12_plainHolds 50 = .ok (.getfield 444, 3) := by decide +kernel
theorem dX12_plainHolds_53 : decode cX12_plainHolds 53 = .ok (.aload_n 0, 1) := by decide +kernel
theorem dX12_plainHolds_54 : decode cX12_plainHolds 54 = .ok (.getfield 426, 3) := by decide +kernel
theorem dX12_plainHolds_57 : decode cX12_plainHolds 57 = .ok (.isub, 1) := by decide +kernel
theorem dX12_plainHolds_58 : decode cX12_plainHolds 58 = .ok (.idiv, 1) := by decide +kernel
theorem dX12_plainHolds_59 : decode cX12_plainHolds 59 = .ok (.ireturn, 1) := by decide +kernel
theorem fg_X12_447_15 : FdG "NylonLadderModel" 447 15 24 false := ⟨_, _, _, _, rfl, by decide, by decide, by decide, gxX12, by decide, T_6_73, Or.inl rfl, rfl⟩
theorem fp_X12_447_15 : FdP "NylonLadderModel" 447 15 24 false .boolean false := ⟨_, _, _, _, _, rfl, by decide, by decide, by decide, gxX12, by decide, T_6_73, Or.inl rfl, rfl, tyX12_ok, nmX12, by decide +kernel, rfl, fun h => by cases h⟩
def fX12_plainHolds (M : Mm) (o : Nat) (p1 : Int32) : Option (Int32 × Mm) :=
  B1 (gk M o 15) fun _ =>
  B1 (fX12_runs_ M o 12) fun M3_2 =>
  B1 (rdI M3_2 o 15 24) fun x8_3 =>
  if x8_3 = 0 then
    B1 (rdI M3_2 o 15 23) fun x15_10 =>
    B1 (rdI M3_2 o 15 22) fun x19_11 =>
    if x15_10 = x19_11 then
      B1 (wrZ M3_2 o 15 24 1) fun M30_18 =>
      B1 (rdI M30_18 o 15 23) fun x34_19 =>
      B1 (rdI M30_18 o 15 22) fun x38_20 =>
      if x34_19 = x38_20 then
        some (0, M30_18)
      else
        B1 (rdI M30_18 o 15 23) fun x50_21 =>
        B1 (rdI M30_18 o 15 22) fun x54_22 =>
        B1 (nzI (x50_21 - x54_22)) fun _ =>
        some ((p1 / (x50_21 - x54_22)), M30_18)
    else
      B1 (wrZ M3_2 o 15 24 0) fun M30_12 =>
      B1 (rdI M30_12 o 15 23) fun x34_13 =>
      B1 (rdI M30_12 o 15 22) fun x38_14 =>
      if x34_13 = x38_14 then
        some (0, M30_12)
      else
        B1 (rdI M30_12 o 15 23) fun x50_15 =>
        B1 (rdI M30_12 o 15 22) fun x54_16 =>
        B1 (nzI (x50_15 - x54_16)) fun _ =>
        some ((p1 / (x50_15 - x54_16)), M30_12)
  else
    B1 (wrZ M3_2 o 15 24 1) fun M30_4 =>
    B1 (rdI M30_4 o 15 23) fun x34_5 =>
    B1 (rdI M30_4 o 15 22) fun x38_6 =>
    if x34_5 = x38_6 then
      some (0, M30_4)
    else
      B1 (rdI M30_4 o 15 23) fun x50_7 =>
      B1 (rdI M30_4 o 15 22) fun x54_8 =>
      B1 (nzI (x50_7 - x54_8)) fun _ =>
      some ((p1 / (x50_7 - x54_8)), M30_4)
set_option maxRecDepth 100000 in
set_option maxHeartbeats 4000000 in
theorem qX12_plainHolds (l : Launch) (E : Ev) {M : Mm} {o : Nat} {p1 : Int32} {rz : Int32} {Mz : Mm} (hf : fX12_plainHolds M o p1 = some (rz, Mz)) : Ct l E yX12_plainHolds cX12_plainHolds 2 (some .int) 1 21 0 0 [.ref (E.b + o), .int p1] M (some (.int rz)) Mz := by
  refine ct_of (by decide +kernel) (Nat.le_of_ble_eq_true rfl) fun p e s m args below meth c C hr hin hW ls hl => ?_
  have hl : lv_has ls 2 [(0, .ref (E.b + o)), (1, .int p1)] := hl
  unfold fX12_plainHolds at hf
  refine lv_aload_n C.x C.b dX12_plainHolds_0 rfl (lv_at hl 0 rfl) ?_
  refine lv_bipush (v := 12) C.x C.b dX12_plainHolds_1 (by decide) ?_
  replace hf := x_b1 hf; obtain ⟨_, hk3_1, hf⟩ := hf
  replace hf := x_b1 hf; obtain ⟨M3_2, hM3_2, hf⟩ := hf
  refine x_callV (As := [.int 12]) (a := o) (rest := []) C hW hl (qX12_runs_ l E hM3_2) (x_gk hk3_1) (by decide) (by decide) rfl gv_X12_424 ⟨rfl, hd_X12_runs_⟩ rfl rfl (Nat.le_of_ble_eq_true rfl) dX12_plainHolds_3 ⟨Nat.le_of_ble_eq_true rfl, Nat.le_of_ble_eq_true rfl⟩ ⟨Nat.le_of_ble_eq_true rfl, Nat.le_of_ble_eq_true rfl⟩ (fun H locs hW => ?_)
  refine lv_aload_n C.x C.b dX12_plainHolds_6 rfl (lv_at hl 0 rfl) ?_
  refine lv_aload_n C.x C.b dX12_plainHolds_7 rfl (lv_at hl 0 rfl) ?_
  replace hf := x_b1 hf; obtain ⟨x8_3, hx8_3, hf⟩ := hf
  refine x_geti C hW fg_X12_447_15 hx8_3 dX12_plainHolds_8 ?_
  refine lv_if_ne (tgt := 25) C.x C.b dX12_plainHolds_11 rfl (fun c11 => ?_) (fun c11 => ?_)
  · replace hf := x_in c11 hf
    refine lv_iconst (v := 1) C.x C.b dX12_plainHolds_25 (by decide) ?_
    refine lv_goto (tgt := 30) C.x C.b dX12_plainHolds_26 rfl ?_
    replace hf := x_b1 hf; obtain ⟨M30_4, hM30_4, hf⟩ := hf
    refine x_putz C hW fp_X12_447_15 hM30_4 (fun h => by cases h) dX12_plainHolds_30 (fun H locs hW => ?_)
    refine lv_aload_n C.x C.b dX12_plainHolds_33 rfl (lv_at hl 0 rfl) ?_
    replace hf := x_b1 hf; obtain ⟨x34_5, hx34_5, hf⟩ := hf
    refine x_geti C hW fg_X12_444_15 hx34_5 dX12_plainHolds_34 ?_
    refine lv_aload_n C.x C.b dX12_plainHolds_37 rfl (lv_at hl 0 rfl) ?_
    replace hf := x_b1 hf; obtain ⟨x38_6, hx38_6, hf⟩ := hf
    refine x_geti C hW fg_X12_426_15 hx38_6 dX12_plainHolds_38 ?_
    refine lv_icmp_ne (tgt := 48) C.x C.b dX12_plainHolds_41 rfl (fun c41 => ?_) (fun c41 => ?_)
    · replace hf := x_in c41 hf
      refine lv_iload_n C.x C.b dX12_plainHolds_48 rfl (lv_at hl 1 rfl) ?_
      refine lv_aload_n C.x C.b dX12_plainHolds_49 rfl (lv_at hl 0 rfl) ?_
      replace hf := x_b1 hf; obtain ⟨x50_7, hx50_7, hf⟩ := hf
      refine x_geti C hW fg_X12_444_15 hx50_7 dX12_plainHolds_50 ?_
      refine lv_aload_n C.x C.b dX12_plainHolds_53 rfl (lv_at hl 0 rfl) ?_
      replace hf := x_b1 hf; obtain ⟨x54_8, hx54_8, hf⟩ := hf
      refine x_geti C hW fg_X12_426_15 hx54_8 dX12_plainHolds_54 ?_
      refine lv_isub C.x C.b dX12_plainHolds_57 ?_
      replace hf := x_b1 hf; obtain ⟨_, hz58_9, hf⟩ := hf
      refine lv_idiv C.x C.b dX12_plainHolds_58 (x_nzI hz58_9) ?_
      rw [x_e1 hf, x_e2 hf]
      exact x_iret C hr hW dX12_plainHolds_59
    · replace hf := x_ip c41 hf
      refine lv_iconst (v := 0) C.x C.b dX12_plainHolds_44 (by decide) ?_
      refine lv_goto (tgt := 59) C.x C.b dX12_plainHolds_45 rfl ?_
      rw [x_e1 hf, x_e2 hf]
      exact x_iret C hr hW dX12_plainHolds_59
  · replace hf := x_ip c11 hf
    refine lv_aload_n C.x C.b dX12_plainHolds_14 rfl (lv_at hl 0 rfl) ?_
    replace hf := x_b1 hf; obtain ⟨x15_10, hx15_10, hf⟩ := hf
    refine x_geti C hW fg_X12_444_15 hx15_10 dX12_plainHolds_15 ?_
    refine lv_aload_n C.x C.b dX12_plainHolds_18 rfl (lv_at hl 0 rfl) ?_
    replace hf := x_b1 hf; obtain ⟨x19_11, hx19_11, hf⟩ := hf
    refine x_geti C hW fg_X12_426_15 hx19_11 dX12_plainHolds_19 ?_
    refine lv_icmp_ne (tgt := 29) C.x C.b dX12_plainHolds_22 rfl (fun c22 => ?_) (fun c22 => ?_)
    · replace hf := x_in c22 hf
      refine lv_iconst (v := 0) C.x C.b dX12_plainHolds_29 (by decide) ?_
      replace hf := x_b1 hf; obtain ⟨M30_12, hM30_12, hf⟩ := hf
      refine x_putz C hW fp_X12_447_15 hM30_12 (fun h => by cases h) dX12_plainHolds_30 (fun H locs hW => ?_)
      refine lv_aload_n C.x C.b dX12_plainHolds_33 rfl (lv_at hl 0 rfl) ?_
      replace hf := x_b1 hf; obtain ⟨x34_13, hx34_13, hf⟩ := hf
      refine x_geti C hW fg_X12_444_15 hx34_13 dX12_plainHolds_34 ?_
      refine lv_aload_n C.x C.b dX12_plainHolds_37 rfl (lv_at hl 0 rfl) ?_
      replace hf := x_b1 hf; obtain ⟨x38_14, hx38_14, hf⟩ := hf
      refine x_geti C hW fg_X12_426_15 hx38_14 dX12_plainHolds_38 ?_
      refine lv_icmp_ne (tgt := 48) C.x C.b dX12_plainHolds_41 rfl (fun c41 => ?_) (fun c41 => ?_)
      · replace hf := x_in c41 hf
        refine lv_iload_n C.x C.b dX12_plainHolds_48 rfl (lv_at hl 1 rfl) ?_
        refine lv_aload_n C.x C.b dX12_plainHolds_49 rfl (lv_at hl 0 rfl) ?_
        replace hf := x_b1 hf; obtain ⟨x50_15, hx50_15, hf⟩ := hf
        refine x_geti C hW fg_X12_444_15 hx50_15 dX12_plainHolds_50 ?_
        refine lv_aload_n C.x C.b dX12_plainHolds_53 rfl (lv_at hl 0 rfl) ?_
        replace hf := x_b1 hf; obtain ⟨x54_16, hx54_16, hf⟩ := hf
        refine x_geti C hW fg_X12_426_15 hx54_16 dX12_plainHolds_54 ?_
        refine lv_isub C.x C.b dX12_plainHolds_57 ?_
        replace hf := x_b1 hf; obtain ⟨_, hz58_17, hf⟩ := hf
        refine lv_idiv C.x C.b dX12_plainHolds_58 (x_nzI hz58_17) ?_
        rw [x_e1 hf, x_e2 hf]
        exact x_iret C hr hW dX12_plainHolds_59
      · replace hf := x_ip c41 hf
        refine lv_iconst (v := 0) C.x C.b dX12_plainHolds_44 (by decide) ?_
        refine lv_goto (tgt := 59) C.x C.b dX12_plainHolds_45 rfl ?_
        rw [x_e1 hf, x_e2 hf]
        exact x_iret C hr hW dX12_plainHolds_59
    · replace hf := x_ip c22 hf
      refine lv_iconst (v := 1) C.x C.b dX12_plainHolds_25 (by decide) ?_
      refine lv_goto (tgt := 30) C.x C.b dX12_plainHolds_26 rfl ?_
      replace hf := x_b1 hf; obtain ⟨M30_18, hM30_18, hf⟩ := hf
      refine x_putz C hW fp_X12_447_15 hM30_18 (fun h => by cases h) dX12_plainHolds_30 (fun H locs hW => ?_)
      refine lv_aload_n C.x C.b dX12_plainHolds_33 rfl (lv_at hl 0 rfl) ?_
      replace hf := x_b1 hf; obtain ⟨x34_19, hx34_19, hf⟩ := hf
      refine x_geti C hW fg_X12_444_15 hx34_19 dX12_plainHolds_34 ?_
      refine lv_aload_n C.x C.b dX12_plainHolds_37 rfl (lv_at hl 0 rfl) ?_
      replace hf := x_b1 hf; obtain ⟨x38_20, hx38_20, hf⟩ := hf
      refine x_geti C hW fg_X12_426_15 hx38_20 dX12_plainHolds_38 ?_
      refine lv_icmp_ne (tgt := 48) C.x C.b dX12_plainHolds_41 rfl (fun c41 => ?_) (fun c41 => ?_)
      · replace hf := x_in c41 hf
        refine lv_iload_n C.x C.b dX12_plainHolds_48 rfl (lv_at hl 1 rfl) ?_
        refine lv_aload_n C.x C.b dX12_plainHolds_49 rfl (lv_at hl 0 rfl) ?_
        replace hf := x_b1 hf; obtain ⟨x50_21, hx50_21, hf⟩ := hf
        refine x_geti C hW fg_X12_444_15 hx50_21 dX12_plainHolds_50 ?_
        refine lv_aload_n C.x C.b dX12_plainHolds_53 rfl (lv_at hl 0 rfl) ?_
        replace hf := x_b1 hf; obtain ⟨x54_22, hx54_22, hf⟩ := hf
        refine x_geti C hW fg_X12_426_15 hx54_22 dX12_plainHolds_54 ?_
        refine lv_isub C.x C.b dX12_plainHolds_57 ?_
        replace hf := x_b1 hf; obtain ⟨_, hz58_23, hf⟩ := hf
        refine lv_idiv C.x C.b dX12_plainHolds_58 (x_nzI hz58_23) ?_
        rw [x_e1 hf, x_e2 hf]
        exact x_iret C hr hW dX12_plainHolds_59
      · replace hf := x_ip c41 hf
        refine lv_iconst (v := 0) C.x C.b dX12_plainHolds_44 (by decide) ?_
        refine lv_goto (tgt := 59) C.x C.b dX12_plainHolds_45 rfl ?_
        rw [x_e1 hf, x_e2 hf]
        exact x_iret C hr hW dX12_plainHolds_59

theorem dX12_holdsOf_0 : decode cX12_holdsOf 0 = .ok (.aload_n 0, 1) := by decide +kernel
theorem dX12_holdsOf_1 : decode cX12_holdsOf 1 = .ok (.getfield 432, 3) := by decide +kernel
theorem dX12_holdsOf_4 : decode cX12_holdsOf 4 = .ok (.iconst 3, 1) := by decide +kernel
theorem dX12_holdsOf_5 : decode cX12_holdsOf 5 = .ok (.if_icmp .ne 19, 3) := by decide +kernel
theorem dX12_holdsOf_8 : decode cX12_holdsOf 8 = .ok (.aload_n 0, 1) := by decide +kernel
theorem dX12_holdsOf_9 : decode cX12_holdsOf 9 = .ok (.bipush 50, 2) := by decide +kernel
theorem dX12_holdsOf_11 : decode cX12_holdsOf 11 = .ok (.invokevirtual 424, 3) := by decide +kernel
theorem dX12_holdsOf_14 : decode cX12_holdsOf 14 = .ok (.aload_n 0, 1) := by decide +kernel
theorem dX12_holdsOf_15 : decode cX12_holdsOf 15 = .ok (.iload_n 1, 1) := by decide +kernel
theorem dX12_holdsOf_16 : decode cX12_holdsOf 16 = .ok (.iconst 2, 1) := by decide +kernel
theorem dX12_holdsOf_17 : decode cX12_holdsOf 17 = .ok (.iadd, 1) := by decide +kernel
theorem dX12_holdsOf_18 : decode cX12_holdsOf 18 = .ok (.invokevirtual 450, 3) := by decide +kernel
theorem dX12_holdsOf_21 : decode cX12_holdsOf 21 = .ok (.iconst 1, 1) := by decide +kernel
theorem dX12_holdsOf_22 : decode cX12_holdsOf 22 = .ok (.ixor, 1) := by decide +kernel
theorem dX12_holdsOf_23 : decode cX12_holdsOf 23 = .ok (.ireturn, 1) := by decide +kernel
theorem dX12_holdsOf_24 : decode cX12_holdsOf 24 = .ok (.aload_n 0, 1) := by decide +kernel
theorem dX12_holdsOf_25 : decode cX12_holdsOf 25 = .ok (.getfield 432, 3) := by decide +kernel
theorem dX12_holdsOf_28 : decode cX12_holdsOf 28 = .ok (.iconst 5, 1) := by decide +kernel
theorem dX12_holdsOf_29 : decode cX12_holdsOf 29 = .ok (.if_icmp .ne 37, 3) := by decide +kernel
theorem dX12_holdsOf_32 : decode cX12_holdsOf 32 = .ok (.aload_n 0, 1) := by decide +kernel
theorem dX12_holdsOf_33 : decode cX12_holdsOf 33 = .ok (.bipush 61, 2) := by decide +kernel
theorem dX12_holdsOf_35 : decode cX12_holdsOf 35 = .ok (.invokevirtual 424, 3) := by decide +kernel
theorem dX12_holdsOf_38 : decode cX12_holdsOf 38 = .ok (.aload_n 0, 1) := by decide +kernel
theorem dX12_holdsOf_39 : decode cX12_holdsOf 39 = .ok (.iload_n 1, 1) := by decide +kernel
theorem dX12_holdsOf_40 : decode cX12_holdsOf 40 = .ok (.invokevirtual 450, 3) := by decide +kernel
theorem dX12_holdsOf_43 : decode cX12_holdsOf 43 = .ok (.istore_n 2, 1) := by decide +kernel
theorem dX12_holdsOf_44 : decode cX12_holdsOf 44 = .ok (.aload_n 0, 1) := by decide +kernel
theorem dX12_holdsOf_45 : decode cX12_holdsOf 45 = .ok (.getfield 447, 3) := by decide +kernel
theorem dX12_holdsOf_48 : decode cX12_holdsOf 48 = .ok (.ifCond .eq 7, 3) := by decide +kernel
theorem dX12_holdsOf_51 : decode cX12_holdsOf 51 = .ok (.iconst 0, 1) := by decide +kernel
theorem dX12_holdsOf_52 : decode cX12_holdsOf 52 = .ok (.goto 13, 3) := by decide +kernel
theorem dX12_holdsOf_55 : decode cX12_holdsOf 55 = .ok (.iload_n 2, 1) := by decide +kernel
theorem dX12_holdsOf_56 : decode cX12_holdsOf 56 = .ok (.aload_n 0, 1) := by decide +kernel
theorem dX12_holdsOf_57 : decode cX12_holdsOf 57 = .ok (.aload_n 0, 1) := by decide +kernel
theorem dX12_holdsOf_58 : decode cX12_holdsOf 58 = .ok (.getfield 444, 3) := by decide +kernel
theorem dX12_holdsOf_61 : decode cX12_holdsOf 61 = .ok (.invokevirtual 438, 3) := by decide +kernel
theorem dX12_holdsOf_64 : decode cX12_holdsOf 64 = .ok (.iadd, 1) := by decide +kernel
theorem dX12_holdsOf_65 : decode cX12_holdsOf 65 = .ok (.ireturn, 1) := by decide +kernel
theorem dX12_holdsOf_66 : decode cX12_holdsOf 66 = .ok (.aload_n 0, 1) := by decide +kernel
theorem dX12_holdsOf_67 : decode cX12_holdsOf 67 = .ok (.iload_n 1, 1) := by decide +kernel
theorem dX12_holdsOf_68 : decode cX12_holdsOf 68 = .ok (.invokevirtual 450, 3) := by decide +kernel
theorem dX12_holdsOf_71 : decode cX12_holdsOf 71 = .ok (.ireturn, 1) := by decide +kernel
theorem hd_X12_plainHolds : yX12_plainHolds.cls ≠ "java/lang/invoke/MethodHandle" ∧ yX12_plainHolds.cls ≠ "java/lang/invoke/VarHandle" ∧ (parseMethodDescriptor yX12_plainHolds.desc).map (fun d => d.parameters.length) = some 1 := by decide +kernel
theorem gv_X12_450 : GoodIn gT (wsV "NylonLadderModel" 450 "NylonLadderModel" yX12_plainHolds (Cond.code yX12_plainHolds cX12_plainHolds 2 (some .int) :: gT)) := good_V T_8_200 T_8_202 TS_99 T_1_10 T_8_203
def fX12_holdsOf (M : Mm) (o : Nat) (p1 : Int32) : Option (Int32 × Mm) :=
  B1 (rdI M o 15 21) fun x1_1 =>
  if x1_1 = 3 then
    B1 (gk M o 15) fun _ =>
    B1 (fX12_runs_ M o 50) fun M11_17 =>
    B1 (gk M11_17 o 15) fun _ =>
    B2 (fX12_plainHolds M11_17 o (p1 + 2)) fun x18_19 M18_20 =>
    some ((x18_19 ^^^ 1), M18_20)
  else
    B1 (rdI M o 15 21) fun x25_2 =>
    if x25_2 = 5 then
      B1 (gk M o 15) fun _ =>
      B1 (fX12_runs_ M o 61) fun M35_7 =>
      B1 (gk M35_7 o 15) fun _ =>
      B2 (fX12_plainHolds M35_7 o p1) fun x40_9 M40_10 =>
      B1 (rdI M40_10 o 15 24) fun x45_11 =>
      if x45_11 = 0 then
        B1 (rdI M40_10 o 15 23) fun x58_12 =>
        B1 (gk M40_10 o 15) fun _ =>
        B2 (fX12_runsOf M40_10 o x58_12) fun x61_14 M61_15 =>
        some ((x40_9 + x61_14), M61_15)
      else
        some (0, M40_10)
    else
      B1 (gk M o 15) fun _ =>
      B2 (fX12_plainHolds M o p1) fun x68_4 M68_5 =>
      some (x68_4, M68_5)
set_option maxRecDepth 100000 in
set_option maxHeartbeats 4000000 in
theorem qX12_holdsOf (l : Launch) (E : Ev) {M : Mm} {o : Nat} {p1 : Int32} {rz : Int32} {Mz : Mm} (hf : fX12_holdsOf M o p1 = some (rz, Mz)) : Ct l E yX12_holdsOf cX12_holdsOf 3 (some .int) 4 84 0 0 [.ref (E.b + o), .int p1] M (some (.int rz)) Mz := by
  refine ct_of (by decide +kernel) (Nat.le_of_ble_eq_true rfl) fun p e s m args below meth c C hr hin hW ls hl => ?_
  have hl : lv_has ls 3 [(0, .ref (E.b + o)), (1, .int p1)] := hl
  unfold fX12_holdsOf at hf
  refine lv_aload_n C.x C.b dX12_holdsOf_0 rfl (lv_at hl 0 rfl) ?_
  replace hf := x_b1 hf; obtain ⟨x1_1, hx1_1, hf⟩ := hf
  refine x_geti C hW fg_X12_432_15 hx1_1 dX12_holdsOf_1 ?_
  refine lv_iconst (v := 3) C.x C.b dX12_holdsOf_4 (by decide) ?_
  refine lv_icmp_ne (tgt := 24) C.x C.b dX12_holdsOf_5 rfl (fun c5 => ?_) (fun c5 => ?_)
  · replace hf := x_in c5 hf
    refine lv_aload_n C.x C.b dX12_holdsOf_24 rfl (lv_at hl 0 rfl) ?_
    replace hf := x_b1 hf; obtain ⟨x25_2, hx25_2, hf⟩ := hf
    refine x_geti C hW fg_X12_432_15 hx25_2 dX12_holdsOf_25 ?_
    refine lv_iconst (v := 5) C.x C.b dX12_holdsOf_28 (by decide) ?_
    refine lv_icmp_ne (tgt := 66) C.x C.b dX12_holdsOf_29 rfl (fun c29 => ?_) (fun c29 => ?_)
    · replace hf := x_in c29 hf
      refine lv_aload_n C.x C.b dX12_holdsOf_66 rfl (lv_at hl 0 rfl) ?_
      refine lv_iload_n C.x C.b dX12_holdsOf_67 rfl (lv_at hl 1 rfl) ?_
      replace hf := x_b1 hf; obtain ⟨_, hk68_3, hf⟩ := hf
      replace hf := x_b2 hf; obtain ⟨x68_4, M68_5, hx68_4, hf⟩ := hf
      refine x_callV (As := [.int p1]) (a := o) (rest := []) C hW hl (qX12_plainHolds l E hx68_4) (x_gk hk68_3) (by decide) (by decide) rfl gv_X12_450 ⟨rfl, hd_X12_plainHolds⟩ rfl rfl (Nat.le_of_ble_eq_true rfl) dX12_holdsOf_68 ⟨Nat.le_of_ble_eq_true rfl, Nat.le_of_ble_eq_true rfl⟩ ⟨Nat.le_of_ble_eq_true rfl, Nat.le_of_ble_eq_true rfl⟩ (fun H locs hW => ?_)
      rw [x_e1 hf, x_e2 hf]
      exact x_iret C hr hW dX12_holdsOf_71
    · replace hf := x_ip c29 hf
      refine lv_aload_n C.x C.b dX12_holdsOf_32 rfl (lv_at hl 0 rfl) ?_
      refine lv_bipush (v := 61) C.x C.b dX12_holdsOf_33 (by decide) ?_
      replace hf := x_b1 hf; obtain ⟨_, hk35_6, hf⟩ := hf
      replace hf := x_b1 hf; obtain ⟨M35_7, hM35_7, hf⟩ := hf
      refine x_callV (As := [.int 61]) (a := o) (rest := []) C hW hl (qX12_runs_ l E hM35_7) (x_gk hk35_6) (by decide) (by decide) rfl gv_X12_424 ⟨rfl, hd_X12_runs_⟩ rfl rfl (Nat.le_of_ble_eq_true rfl) dX12_holdsOf_35 ⟨Nat.le_of_ble_eq_true rfl, Nat.le_of_ble_eq_true rfl⟩ ⟨Nat.le_of_ble_eq_true rfl, Nat.le_of_ble_eq_true rfl⟩ (fun H locs hW => ?_)
      refine lv_aload_n C.x C.b dX12_holdsOf_38 rfl (lv_at hl 0 rfl) ?_
      refine lv_iload_n C.x C.b dX12_holdsOf_39 rfl (lv_at hl 1 rfl) ?_
      replace hf := x_b1 hf; obtain ⟨_, hk40_8, hf⟩ := hf
      replace hf := x_b2 hf; obtain ⟨x40_9, M40_10, hx40_9, hf⟩ := hf
      refine x_callV (As := [.int p1]) (a := o) (rest := []) C hW hl (qX12_plainHolds l E hx40_9) (x_gk hk40_8) (by decide) (by decide) rfl gv_X12_450 ⟨rfl, hd_X12_plainHolds⟩ rfl rfl (Nat.le_of_ble_eq_true rfl) dX12_holdsOf_40 ⟨Nat.le_of_ble_eq_true rfl, Nat.le_of_ble_eq_true rfl⟩ ⟨Nat.le_of_ble_eq_true rfl, Nat.le_of_ble_eq_true rfl⟩ (fun H locs hW => ?_)
      refine lv_istore_n (lv' := [(2, .int _), (0, .ref (E.b + _)), (1, .int _)]) C.x C.b dX12_holdsOf_43 rfl hl (by decide) rfl (fun ls hl => ?_)
      refine lv_aload_n C.x C.b dX12_holdsOf_44 rfl (lv_at hl 1 rfl) ?_
      replace hf := x_b1 hf; obtain ⟨x45_11, hx45_11, hf⟩ := hf
      refine x_geti C hW fg_X12_447_15 hx45_11 dX12_holdsOf_45 ?_
      refine lv_if_eq (tgt := 55) C.x C.b dX12_holdsOf_48 rfl (fun c48 => ?_) (fun c48 => ?_)
      · replace hf := x_ip c48 hf
        refine lv_iload_n C.x C.b dX12_holdsOf_55 rfl (lv_at hl 0 rfl) ?_
        refine lv_aload_n C.x C.b dX12_holdsOf_56 rfl (lv_at hl 1 rfl) ?_
        refine lv_aload_n C.x C.b dX12_holdsOf_57 rfl (lv_at hl 1 rfl) ?_
        replace hf := x_b1 hf; obtain ⟨x58_12, hx58_12, hf⟩ := hf
        refine x_geti C hW fg_X12_444_15 hx58_12 dX12_holdsOf_58 ?_
        replace hf := x_b1 hf; obtain ⟨_, hk61_13, hf⟩ := hf
        replace hf := x_b2 hf; obtain ⟨x61_14, M61_15, hx61_14, hf⟩ := hf
        refine x_callV (As := [.int x58_12]) (a := o) (rest := [.int x40_9]) C hW hl (qX12_runsOf l E hx61_14) (x_gk hk61_13) (by decide) (by decide) rfl gv_X12_438 ⟨rfl, hd_X12_runsOf⟩ rfl rfl (Nat.le_of_ble_eq_true rfl) dX12_holdsOf_61 ⟨Nat.le_of_ble_eq_true rfl, Nat.le_of_ble_eq_true rfl⟩ ⟨Nat.le_of_ble_eq_true rfl, Nat.le_of_ble_eq_true rfl⟩ (fun H locs hW => ?_)
        refine lv_iadd C.x C.b dX12_holdsOf_64 ?_
        rw [x_e1 hf, x_e2 hf]
        exact x_iret C hr hW dX12_holdsOf_65
      · replace hf := x_in c48 hf
        refine lv_iconst (v := 0) C.x C.b dX12_holdsOf_51 (by decide) ?_
        refine lv_goto (tgt := 65) C.x C.b dX12_holdsOf_52 rfl ?_
        rw [x_e1 hf, x_e2 hf]
        exact x_iret C hr hW dX12_holdsOf_65
  · replace hf := x_ip c5 hf
    refine lv_aload_n C.x C.b dX12_holdsOf_8 rfl (lv_at hl 0 rfl) ?_
    refine lv_bipush (v := 50) C.x C.b dX12_holdsOf_9 (by decide) ?_
    replace hf := x_b1 hf; obtain ⟨_, hk11_16, hf⟩ := hf
    replace hf := x_b1 hf; obtain ⟨M11_17, hM11_17, hf⟩ := hf
    refine x_callV (As := [.int 50]) (a := o) (rest := []) C hW hl (qX12_runs_ l E hM11_17) (x_gk hk11_16) (by decide) (by decide) rfl gv_X12_424 ⟨rfl, hd_X12_runs_⟩ rfl rfl (Nat.le_of_ble_eq_true rfl) dX12_holdsOf_11 ⟨Nat.le_of_ble_eq_true rfl, Nat.le_of_ble_eq_true rfl⟩ ⟨Nat.le_of_ble_eq_true rfl, Nat.le_of_ble_eq_true rfl⟩ (fun H locs hW => ?_)
    refine lv_aload_n C.x C.b dX12_holdsOf_14 rfl (lv_at hl 0 rfl) ?_
    refine lv_iload_n C.x C.b dX12_holdsOf_15 rfl (lv_at hl 1 rfl) ?_
    refine lv_iconst (v := 2) C.x C.b dX12_holdsOf_16 (by decide) ?_
    refine lv_iadd C.x C.b dX12_holdsOf_17 ?_
    replace hf := x_b1 hf; obtain ⟨_, hk18_18, hf⟩ := hf
    replace hf := x_b2 hf; obtain ⟨x18_19, M18_20, hx18_19, hf⟩ := hf
    refine x_callV (As := [.int (p1 + 2)]) (a := o) (rest := []) C hW hl (qX12_plainHolds l E hx18_19) (x_gk hk18_18) (by decide) (by decide) rfl gv_X12_450 ⟨rfl, hd_X12_plainHolds⟩ rfl rfl (Nat.le_of_ble_eq_true rfl) dX12_holdsOf_18 ⟨Nat.le_of_ble_eq_true rfl, Nat.le_of_ble_eq_true rfl⟩ ⟨Nat.le_of_ble_eq_true rfl, Nat.le_of_ble_eq_true rfl⟩ (fun H locs hW => ?_)
    refine lv_iconst (v := 1) C.x C.b dX12_holdsOf_21 (by decide) ?_
    refine lv_ixor C.x C.b dX12_holdsOf_22 ?_
    rw [x_e1 hf, x_e2 hf]
    exact x_iret C hr hW dX12_holdsOf_23

theorem dX12_plainTells_0 : decode cX12_plainTells 0 = .ok (.aload_n 0, 1) := by decide +kernel
theorem dX12_plainTells_1 : decode cX12_plainTells 1 = .ok (.bipush 13, 2) := by decide +kernel
theorem dX12_plainTells_3 : decode cX12_plainTells 3 = .ok (.invokevirtual 424, 3) := by decide +kernel
theorem dX12_plainTells_6 : decode cX12_plainTells 6 = .ok (.aload_n 0, 1) := by decide +kernel
theorem dX12_plainTells_7 : decode cX12_plainTells 7 = .ok (.iload_n 1, 1) := by decide +kernel
theorem dX12_plainTells_8 : decode cX12_plainTells 8 = .ok (.invokevirtual 453, 3) := by decide +kernel
theorem dX12_plainTells_11 : decode cX12_plainTells 11 = .ok (.aload_n 0, 1) := by decide +kernel
theorem dX12_plainTells_12 : decode cX12_plainTells 12 = .ok (.getfield 444, 3) := by decide +kernel
theorem dX12_plainTells_15 : decode cX12_plainTells 15 = .ok (.ixor, 1) := by decide +kernel
theorem dX12_plainTells_16 : decode cX12_plainTells 16 = .ok (.ireturn, 1) := by decide +kernel
theorem hd_X12_driesOf : yX12_driesOf.cls ≠ "java/lang/invoke/MethodHandle" ∧ yX12_driesOf.cls ≠ "java/lang/invoke/VarHandle" ∧ (parseMethodDescriptor yX12_driesOf.desc).map (fun d => d.parameters.length) = some 1 := by decide +kernel
theorem gv_X12_453 : GoodIn gT (wsV "NylonLadderModel" 453 "NylonLadderModel" yX12_driesOf (Cond.code yX12_driesOf cX12_driesOf 3 (some .int) :: gT)) := good_V T_8_188 T_8_190 TS_96 T_1_10 T_8_191
def fX12_plainTells (M : Mm) (o : Nat) (p1 : Int32) : Option (Int32 × Mm) :=
  B1 (gk M o 15) fun _ =>
  B1 (fX12_runs_ M o 13) fun M3_2 =>
  B1 (gk M3_2 o 15) fun _ =>
  B2 (fX12_driesOf M3_2 o p1) fun x8_4 M8_5 =>
  B1 (rdI M8_5 o 15 23) fun x12_6 =>
  some ((x8_4 ^^^ x12_6), M8_5)
set_option maxRecDepth 100000 in
set_option maxHeartbeats 4000000 in
theorem qX12_plainTells (l : Launch) (E : Ev) {M : Mm} {o : Nat} {p1 : Int32} {rz : Int32} {Mz : Mm} (hf : fX12_plainTells M o p1 = some (rz, Mz)) : Ct l E yX12_plainTells cX12_plainTells 2 (some .int) 6 127 0 0 [.ref (E.b + o), .int p1] M (some (.int rz)) Mz := by
  refine ct_of (by decide +kernel) (Nat.le_of_ble_eq_true rfl) fun p e s m args below meth c C hr hin hW ls hl => ?_
  have hl : lv_has ls 2 [(0, .ref (E.b + o)), (1, .int p1)] := hl
  unfold fX12_plainTells at hf
  refine lv_aload_n C.x C.b dX12_plainTells_0 rfl (lv_at hl 0 rfl) ?_
  refine lv_bipush (v := 13) C.x C.b dX12_plainTells_1 (by decide) ?_
  replace hf := x_b1 hf; obtain ⟨_, hk3_1, hf⟩ := hf
  replace hf := x_b1 hf; obtain ⟨M3_2, hM3_2, hf⟩ := hf
  refine x_callV (As := [.int 13]) (a := o) (rest := []) C hW hl (qX12_runs_ l E hM3_2) (x_gk hk3_1) (by decide) (by decide) rfl gv_X12_424 ⟨rfl, hd_X12_runs_⟩ rfl rfl (Nat.le_of_ble_eq_true rfl) dX12_plainTells_3 ⟨Nat.le_of_ble_eq_true rfl, Nat.le_of_ble_eq_true rfl⟩ ⟨Nat.le_of_ble_eq_true rfl, Nat.le_of_ble_eq_true rfl⟩ (fun H locs hW => ?_)
  refine lv_aload_n C.x C.b dX12_plainTells_6 rfl (lv_at hl 0 rfl) ?_
  refine lv_iload_n C.x C.b dX12_plainTells_7 rfl (lv_at hl 1 rfl) ?_
  replace hf := x_b1 hf; obtain ⟨_, hk8_3, hf⟩ := hf
  replace hf := x_b2 hf; obtain ⟨x8_4, M8_5, hx8_4, hf⟩ := hf
  refine x_callV (As := [.int p1]) (a := o) (rest := []) C hW hl (qX12_driesOf l E hx8_4) (x_gk hk8_3) (by decide) (by decide) rfl gv_X12_453 ⟨rfl, hd_X12_driesOf⟩ rfl rfl (Nat.le_of_ble_eq_true rfl) dX12_plainTells_8 ⟨Nat.le_of_ble_eq_true rfl, Nat.le_of_ble_eq_true rfl⟩ ⟨Nat.le_of_ble_eq_true rfl, Nat.le_of_ble_eq_true rfl⟩ (fun H locs hW => ?_)
  refine lv_aload_n C.x C.b dX12_plainTells_11 rfl (lv_at hl 0 rfl) ?_
  replace hf := x_b1 hf; obtain ⟨x12_6, hx12_6, hf⟩ := hf
  refine x_geti C hW fg_X12_444_15 hx12_6 dX12_plainTells_12 ?_
  refine lv_ixor C.x C.b dX12_plainTells_15 ?_
  rw [x_e1 hf, x_e2 hf]
  exact x_iret C hr hW dX12_plainTells_16

theorem dX12_tellsOf_0 : decode cX12_tellsOf 0 = .ok (.aload_n 0, 1) := by decide +kernel
theorem dX12_tellsOf_1 : decode cX12_tellsOf 1 = .ok (.getfield 432, 3) := by decide +kernel
theorem dX12_tellsOf_4 : decode cX12_tellsOf 4 = .ok (.iconst 2, 1) := by decide +kernel
theorem dX12_tellsOf_5 : decode cX12_tellsOf 5 = .ok (.if_icmp .eq 11, 3) := by decide +kernel
theorem dX12_tellsOf_8 : decode cX12_tellsOf 8 = .ok (.aload_n 0, 1) := by decide +kernel
theorem dX12_tellsOf_9 : decode cX12_tellsOf 9 = .ok (.getfield 432, 3) := by decide +kernel
theorem dX12_tellsOf_12 : decode cX12_tellsOf 12 = .ok (.iconst 4, 1) := by decide +kernel
theorem dX12_tellsOf_13 : decode cX12_tellsOf 13 = .ok (.if_icmp .ne 26, 3) := by decide +kernel
theorem dX12_tellsOf_16 : decode cX12_tellsOf 16 = .ok (.aload_n 0, 1) := by decide +kernel
theorem dX12_tellsOf_17 : decode cX12_tellsOf 17 = .ok (.bipush 31, 2) := by decide +kernel
theorem dX12_tellsOf_19 : decode cX12_tellsOf 19 = .ok (.invokevirtual 424, 3) := by decide +kernel
theorem dX12_tellsOf_22 : decode cX12_tellsOf 22 = .ok (.aload_n 0, 1) := by decide +kernel
theorem dX12_tellsOf_23 : decode cX12_tellsOf 23 = .ok (.iload_n 1, 1) := by decide +kernel
theorem dX12_tellsOf_24 : decode cX12_tellsOf 24 = .ok (.invokevirtual 456, 3) := by decide +kernel
theorem dX12_tellsOf_27 : decode cX12_tellsOf 27 = .ok (.istore_n 2, 1) := by decide +kernel
theorem dX12_tellsOf_28 : decode cX12_tellsOf 28 = .ok (.iload_n 2, 1) := by decide +kernel
theorem dX12_tellsOf_29 : decode cX12_tellsOf 29 = .ok (.aload_n 0, 1) := by decide +kernel
theorem dX12_tellsOf_30 : decode cX12_tellsOf 30 = .ok (.aload_n 0, 1) := by decide +kernel
theorem dX12_tellsOf_31 : decode cX12_tellsOf 31 = .ok (.getfield 426, 3) := by decide +kernel
theorem dX12_tellsOf_34 : decode cX12_tellsOf 34 = .ok (.invokevirtual 459, 3) := by decide +kernel
theorem dX12_tellsOf_37 : decode cX12_tellsOf 37 = .ok (.iadd, 1) := by decide +kernel
theorem dX12_tellsOf_38 : decode cX12_tellsOf 38 = .ok (.ireturn, 1) := by decide +kernel
theorem dX12_tellsOf_39 : decode cX12_tellsOf 39 = .ok (.aload_n 0, 1) := by decide +kernel
theorem dX12_tellsOf_40 : decode cX12_tellsOf 40 = .ok (.getfield 432, 3) := by decide +kernel
theorem dX12_tellsOf_43 : decode cX12_tellsOf 43 = .ok (.iconst 5, 1) := by decide +kernel
theorem dX12_tellsOf_44 : decode cX12_tellsOf 44 = .ok (.if_icmp .ne 17, 3) := by decide +kernel
theorem dX12_tellsOf_47 : decode cX12_tellsOf 47 = .ok (.aload_n 0, 1) := by decide +kernel
theorem dX12_tellsOf_48 : decode cX12_tellsOf 48 = .ok (.bipush 60, 2) := by decide +kernel
theorem dX12_tellsOf_50 : decode cX12_tellsOf 50 = .ok (.invokevirtual 424, 3) := by decide +kernel
theorem dX12_tellsOf_53 : decode cX12_tellsOf 53 = .ok (.iconst 2, 1) := by decide +kernel
theorem dX12_tellsOf_54 : decode cX12_tellsOf 54 = .ok (.aload_n 0, 1) := by decide +kernel
theorem dX12_tellsOf_55 : decode cX12_tellsOf 55 = .ok (.iload_n 1, 1) := by decide +kernel
theorem dX12_tellsOf_56 : decode cX12_tellsOf 56 = .ok (.invokevirtual 456, 3) := by decide +kernel
theorem dX12_tellsOf_59 : decode cX12_tellsOf 59 = .ok (.imul, 1) := by decide +kernel
theorem dX12_tellsOf_60 : decode cX12_tellsOf 60 = .ok (.ireturn, 1) := by decide +kernel
theorem dX12_tellsOf_61 : decode cX12_tellsOf 61 = .ok (.aload_n 0, 1) := by decide +kernel
theorem dX12_tellsOf_62 : decode cX12_tellsOf 62 = .ok (.iload_n 1, 1) := by decide +kernel
theorem dX12_tellsOf_63 : decode cX12_tellsOf 63 = .ok (.invokevirtual 456, 3) := by decide +kernel
theorem dX12_tellsOf_66 : decode cX12_tellsOf 66 = .ok (.ireturn, 1) := by decide +kernel
theorem hd_X12_plainTells : yX12_plainTells.cls ≠ "java/lang/invoke/MethodHandle" ∧ yX12_plainTells.cls ≠ "java/lang/invoke/VarHandle" ∧ (parseMethodDescriptor yX12_plainTells.desc).map (fun d => d.parameters.length) = some 1 := by decide +kernel
theorem gv_X12_456 : GoodIn gT (wsV "NylonLadderModel" 456 "NylonLadderModel" yX12_plainTells (Cond.code yX12_plainTells cX12_plainTells 2 (some .int) :: gT)) := good_V T_8_208 T_8_210 TS_101 T_1_10 T_8_211
theorem hd_X12_holdsOf : yX12_holdsOf.cls ≠ "java/lang/invoke/MethodHandle" ∧ yX12_holdsOf.cls ≠ "java/lang/invoke/VarHandle" ∧ (parseMethodDescriptor yX12_holdsOf.desc).map (fun d => d.parameters.length) = some 1 := by decide +kernel
theorem gv_X12_459 : GoodIn gT (wsV "NylonLadderModel" 459 "NylonLadderModel" yX12_holdsOf (Cond.code yX12_holdsOf cX12_holdsOf 3 (some .int) :: gT)) := good_V T_8_196 T_8_198 TS_98 T_1_10 T_8_199
def fX12_tellsOf (M : Mm) (o : Nat) (p1 : Int32) : Option (Int32 × Mm) :=
  B1 (rdI M o 15 21) fun x1_1 =>
  if x1_1 = 2 then
    B1 (gk M o 15) fun _ =>
    B1 (fX12_runs_ M o 31) fun M19_3 =>
    B1 (gk M19_3 o 15) fun _ =>
    B2 (fX12_plainTells M19_3 o p1) fun x24_5 M24_6 =>
    B1 (rdI M24_6 o 15 22) fun x31_7 =>
    B1 (gk M24_6 o 15) fun _ =>
    B2 (fX12_holdsOf M24_6 o x31_7) fun x34_9 M34_10 =>
    some ((x24_5 + x34_9), M34_10)
  else
    B1 (rdI M o 15 21) fun x9_11 =>
    if x9_11 = 4 then
      B1 (gk M o 15) fun _ =>
      B1 (fX12_runs_ M o 31) fun M19_22 =>
      B1 (gk M19_22 o 15) fun _ =>
      B2 (fX12_plainTells M19_22 o p1) fun x24_24 M24_25 =>
      B1 (rdI M24_25 o 15 22) fun x31_26 =>
      B1 (gk M24_25 o 15) fun _ =>
      B2 (fX12_holdsOf M24_25 o x31_26) fun x34_28 M34_29 =>
      some ((x24_24 + x34_28), M34_29)
    else
      B1 (rdI M o 15 21) fun x40_12 =>
      if x40_12 = 5 then
        B1 (gk M o 15) fun _ =>
        B1 (fX12_runs_ M o 60) fun M50_17 =>
        B1 (gk M50_17 o 15) fun _ =>
        B2 (fX12_plainTells M50_17 o p1) fun x56_19 M56_20 =>
        some ((2 * x56_19), M56_20)
      else
        B1 (gk M o 15) fun _ =>
        B2 (fX12_plainTells M o p1) fun x63_14 M63_15 =>
        some (x63_14, M63_15)
set_option maxRecDepth 100000 in
set_option maxHeartbeats 4000000 in
theorem qX12_tellsOf (l : Launch) (E : Ev) {M : Mm} {o : Nat} {p1 : Int32} {rz : Int32} {Mz : Mm} (hf : fX12_tellsOf M o p1 = some (rz, Mz)) : Ct l E yX12_tellsOf cX12_tellsOf 3 (some .int) 7 148 0 0 [.ref (E.b + o), .int p1] M (some (.int rz)) Mz := by
  refine ct_of (by decide +kernel) (Nat.le_of_ble_eq_true rfl) fun p e s m args below meth c C hr hin hW ls hl => ?_
  have hl : lv_has ls 3 [(0, .ref (E.b + o)), (1, .int p1)] := hl
  unfold fX12_tellsOf at hf
  refine lv_aload_n C.x C.b dX12_tellsOf_0 rfl (lv_at hl 0 rfl) ?_
  replace hf := x_b1 hf; obtain ⟨x1_1, hx1_1, hf⟩ := hf
  refine x_geti C hW fg_X12_432_15 hx1_1 dX12_tellsOf_1 ?_
  refine lv_iconst (v := 2) C.x C.b dX12_tellsOf_4 (by decide) ?_
  refine lv_icmp_eq (tgt := 16) C.x C.b dX12_tellsOf_5 rfl (fun c5 => ?_) (fun c5 => ?_)
  · replace hf := x_ip c5 hf
    refine lv_aload_n C.x C.b dX12_tellsOf_16 rfl (lv_at hl 0 rfl) ?_
    refine lv_bipush (v := 31) C.x C.b dX12_tellsOf_17 (by decide) ?_
    replace hf := x_b1 hf; obtain ⟨_, hk19_2, hf⟩ := hf
    replace hf := x_b1 hf; obtain ⟨M19_3, hM19_3, hf⟩ := hf
    refine x_callV (As := [.int 31]) (a := o) (rest := []) C hW hl (qX12_runs_ l E hM19_3) (x_gk hk19_2) (by decide) (by decide) rfl gv_X12_424 ⟨rfl, hd_X12_runs_⟩ rfl rfl (Nat.le_of_ble_eq_true rfl) dX12_tellsOf_19 ⟨Nat.le_of_ble_eq_true rfl, Nat.le_of_ble_eq_true rfl⟩ ⟨Nat.le_of_ble_eq_true rfl, Nat.le_of_ble_eq_true rfl⟩ (fun H locs hW => ?_)
    refine lv_aload_n C.x C.b dX12_tellsOf_22 rfl (lv_at hl 0 rfl) ?_
    refine lv_iload_n C.x C.b dX12_tellsOf_23 rfl (lv_at hl 1 rfl) ?_
    replace hf := x_b1 hf; obtain ⟨_, hk24_4, hf⟩ := hf
    replace hf := x_b2 hf; obtain ⟨x24_5, M24_6, hx24_5, hf⟩ := hf
    refine x_callV (As := [.int p1]) (a := o) (rest := []) C hW hl (qX12_plainTells l E hx24_5) (x_gk hk24_4) (by decide) (by decide) rfl gv_X12_456 ⟨rfl, hd_X12_plainTells⟩ rfl rfl (Nat.le_of_ble_eq_true rfl) dX12_tellsOf_24 ⟨Nat.le_of_ble_eq_true rfl, Nat.le_of_ble_eq_true rfl⟩ ⟨Nat.le_of_ble_eq_true rfl, Nat.le_of_ble_eq_true rfl⟩ (fun H locs hW => ?_)
    refine lv_istore_n (lv' := [(2, .int _), (0, .ref (E.b + _)), (1, .int _)]) C.x C.b dX12_tellsOf_27 rfl hl (by decide) rfl (fun ls hl => ?_)
    refine lv_iload_n C.x C.b dX12_tellsOf_28 rfl (lv_at hl 0 rfl) ?_
    refine lv_aload_n C.x C.b dX12_tellsOf_29 rfl (lv_at hl 1 rfl) ?_
    refine lv_aload_n C.x C.b dX12_tellsOf_30 rfl (lv_at hl 1 rfl) ?_
    replace hf := x_b1 hf; obtain ⟨x31_7, hx31_7, hf⟩ := hf
    refine x_geti C hW fg_X12_426_15 hx31_7 dX12_tellsOf_31 ?_
    replace hf := x_b1 hf; obtain ⟨_, hk34_8, hf⟩ := hf
    replace hf := x_b2 hf; obtain ⟨x34_9, M34_10, hx34_9, hf⟩ := hf
    refine x_callV (As := [.int x31_7]) (a := o) (rest := [.int x24_5]) C hW hl (qX12_holdsOf l E hx34_9) (x_gk hk34_8) (by decide) (by decide) rfl gv_X12_459 ⟨rfl, hd_X12_holdsOf⟩ rfl rfl (Nat.le_of_ble_eq_true rfl) dX12_tellsOf_34 ⟨Nat.le_of_ble_eq_true rfl, Nat.le_of_ble_eq_true rfl⟩ ⟨Nat.le_of_ble_eq_true rfl, Nat.le_of_ble_eq_true rfl⟩ (fun H locs hW => ?_)
    refine lv_iadd C.x C.b dX12_tellsOf_37 ?_
    rw [x_e1 hf, x_e2 hf]
    exact x_iret C hr hW dX12_tellsOf_38
  · replace hf := x_in c5 hf
    refine lv_aload_n C.x C.b dX12_tellsOf_8 rfl (lv_at hl 0 rfl) ?_
    replace hf := x_b1 hf; obtain ⟨x9_11, hx9_11, hf⟩ := hf
    refine x_geti C hW fg_X12_432_15 hx9_11 dX12_tellsOf_9 ?_
    refine lv_iconst (v := 4) C.x C.b dX12_tellsOf_12 (by decide) ?_
    refine lv_icmp_ne (tgt := 39) C.x C.b dX12_tellsOf_13 rfl (fun c13 => ?_) (fun c13 => ?_)
    · replace hf := x_in c13 hf
      refine lv_aload_n C.x C.b dX12_tellsOf_39 rfl (lv_at hl 0 rfl) ?_
      replace hf := x_b1 hf; obtain ⟨x40_12, hx40_12, hf⟩ := hf
      refine x_geti C hW fg_X12_432_15 hx40_12 dX12_tellsOf_40 ?_
      refine lv_iconst (v := 5) C.x C.b dX12_tellsOf_43 (by decide) ?_
      refine lv_icmp_ne (tgt := 61) C.x C.b dX12_tellsOf_44 rfl (fun c44 => ?_) (fun c44 => ?_)
      · replace hf := x_in c44 hf
        refine lv_aload_n C.x C.b dX12_tellsOf_61 rfl (lv_at hl 0 rfl) ?_
        refine lv_iload_n C.x C.b dX12_tellsOf_62 rfl (lv_at hl 1 rfl) ?_
        replace hf := x_b1 hf; obtain ⟨_, hk63_13, hf⟩ := hf
        replace hf := x_b2 hf; obtain ⟨x63_14, M63_15, hx63_14, hf⟩ := hf
        refine x_callV (As := [.int p1]) (a := o) (rest := []) C hW hl (qX12_plainTells l E hx63_14) (x_gk hk63_13) (by decide) (by decide) rfl gv_X12_456 ⟨rfl, hd_X12_plainTells⟩ rfl rfl (Nat.le_of_ble_eq_true rfl) dX12_tellsOf_63 ⟨Nat.le_of_ble_eq_true rfl, Nat.le_of_ble_eq_true rfl⟩ ⟨Nat.le_of_ble_eq_true rfl, Nat.le_of_ble_eq_true rfl⟩ (fun H locs hW => ?_)
        rw [x_e1 hf, x_e2 hf]
        exact x_iret C hr hW dX12_tellsOf_66
      · replace hf := x_ip c44 hf
        refine lv_aload_n C.x C.b dX12_tellsOf_47 rfl (lv_at hl 0 rfl) ?_
        refine lv_bipush (v := 60) C.x C.b dX12_tellsOf_48 (by decide) ?_
        replace hf := x_b1 hf; obtain ⟨_, hk50_16, hf⟩ := hf
        replace hf := x_b1 hf; obtain ⟨M50_17, hM50_17, hf⟩ := hf
        refine x_callV (As := [.int 60]) (a := o) (rest := []) C hW hl (qX12_runs_ l E hM50_17) (x_gk hk50_16) (by decide) (by decide) rfl gv_X12_424 ⟨rfl, hd_X12_runs_⟩ rfl rfl (Nat.le_of_ble_eq_true rfl) dX12_tellsOf_50 ⟨Nat.le_of_ble_eq_true rfl, Nat.le_of_ble_eq_true rfl⟩ ⟨Nat.le_of_ble_eq_true rfl, Nat.le_of_ble_eq_true rfl⟩ (fun H locs hW => ?_)
        refine lv_iconst (v := 2) C.x C.b dX12_tellsOf_53 (by decide) ?_
        refine lv_aload_n C.x C.b dX12_tellsOf_54 rfl (lv_at hl 0 rfl) ?_
        refine lv_iload_n C.x C.b dX12_tellsOf_55 rfl (lv_at hl 1 rfl) ?_
        replace hf := x_b1 hf; obtain ⟨_, hk56_18, hf⟩ := hf
        replace hf := x_b2 hf; obtain ⟨x56_19, M56_20, hx56_19, hf⟩ := hf
        refine x_callV (As := [.int p1]) (a := o) (rest := [.int 2]) C hW hl (qX12_plainTells l E hx56_19) (x_gk hk56_18) (by decide) (by decide) rfl gv_X12_456 ⟨rfl, hd_X12_plainTells⟩ rfl rfl (Nat.le_of_ble_eq_true rfl) dX12_tellsOf_56 ⟨Nat.le_of_ble_eq_true rfl, Nat.le_of_ble_eq_true rfl⟩ ⟨Nat.le_of_ble_eq_true rfl, Nat.le_of_ble_eq_true rfl⟩ (fun H locs hW => ?_)
        refine lv_imul C.x C.b dX12_tellsOf_59 ?_
        rw [x_e1 hf, x_e2 hf]
        exact x_iret C hr hW dX12_tellsOf_60
    · replace hf := x_ip c13 hf
      refine lv_aload_n C.x C.b dX12_tellsOf_16 rfl (lv_at hl 0 rfl) ?_
      refine lv_bipush (v := 31) C.x C.b dX12_tellsOf_17 (by decide) ?_
      replace hf := x_b1 hf; obtain ⟨_, hk19_21, hf⟩ := hf
      replace hf := x_b1 hf; obtain ⟨M19_22, hM19_22, hf⟩ := hf
      refine x_callV (As := [.int 31]) (a := o) (rest := []) C hW hl (qX12_runs_ l E hM19_22) (x_gk hk19_21) (by decide) (by decide) rfl gv_X12_424 ⟨rfl, hd_X12_runs_⟩ rfl rfl (Nat.le_of_ble_eq_true rfl) dX12_tellsOf_19 ⟨Nat.le_of_ble_eq_true rfl, Nat.le_of_ble_eq_true rfl⟩ ⟨Nat.le_of_ble_eq_true rfl, Nat.le_of_ble_eq_true rfl⟩ (fun H locs hW => ?_)
      refine lv_aload_n C.x C.b dX12_tellsOf_22 rfl (lv_at hl 0 rfl) ?_
      refine lv_iload_n C.x C.b dX12_tellsOf_23 rfl (lv_at hl 1 rfl) ?_
      replace hf := x_b1 hf; obtain ⟨_, hk24_23, hf⟩ := hf
      replace hf := x_b2 hf; obtain ⟨x24_24, M24_25, hx24_24, hf⟩ := hf
      refine x_callV (As := [.int p1]) (a := o) (rest := []) C hW hl (qX12_plainTells l E hx24_24) (x_gk hk24_23) (by decide) (by decide) rfl gv_X12_456 ⟨rfl, hd_X12_plainTells⟩ rfl rfl (Nat.le_of_ble_eq_true rfl) dX12_tellsOf_24 ⟨Nat.le_of_ble_eq_true rfl, Nat.le_of_ble_eq_true rfl⟩ ⟨Nat.le_of_ble_eq_true rfl, Nat.le_of_ble_eq_true rfl⟩ (fun H locs hW => ?_)
      refine lv_istore_n (lv' := [(2, .int _), (0, .ref (E.b + _)), (1, .int _)]) C.x C.b dX12_tellsOf_27 rfl hl (by decide) rfl (fun ls hl => ?_)
      refine lv_iload_n C.x C.b dX12_tellsOf_28 rfl (lv_at hl 0 rfl) ?_
      refine lv_aload_n C.x C.b dX12_tellsOf_29 rfl (lv_at hl 1 rfl) ?_
      refine lv_aload_n C.x C.b dX12_tellsOf_30 rfl (lv_at hl 1 rfl) ?_
      replace hf := x_b1 hf; obtain ⟨x31_26, hx31_26, hf⟩ := hf
      refine x_geti C hW fg_X12_426_15 hx31_26 dX12_tellsOf_31 ?_
      replace hf := x_b1 hf; obtain ⟨_, hk34_27, hf⟩ := hf
      replace hf := x_b2 hf; obtain ⟨x34_28, M34_29, hx34_28, hf⟩ := hf
      refine x_callV (As := [.int x31_26]) (a := o) (rest := [.int x24_24]) C hW hl (qX12_holdsOf l E hx34_28) (x_gk hk34_27) (by decide) (by decide) rfl gv_X12_459 ⟨rfl, hd_X12_holdsOf⟩ rfl rfl (Nat.le_of_ble_eq_true rfl) dX12_tellsOf_34 ⟨Nat.le_of_ble_eq_true rfl, Nat.le_of_ble_eq_true rfl⟩ ⟨Nat.le_of_ble_eq_true rfl, Nat.le_of_ble_eq_true rfl⟩ (fun H locs hW => ?_)
      refine lv_iadd C.x C.b dX12_tellsOf_37 ?_
      rw [x_e1 hf, x_e2 hf]
      exact x_iret C hr hW dX12_tellsOf_38

theorem dX12_act_0 : decode cX12_act 0 = .ok (.aload_n 0, 1) := by decide +kernel
theorem dX12_act_1 : decode cX12_act 1 = .ok (.iconst 0, 1) := by decide +kernel
theorem dX12_act_2 : decode cX12_act 2 = .ok (.putfield 421, 3) := by decide +kernel
theorem dX12_act_5 : decode cX12_act 5 = .ok (.iload_n 1, 1) := by decide +kernel
theorem dX12_act_6 : decode cX12_act 6 = .ok (.invokestatic 400, 3) := by decide +kernel
theorem dX12_act_9 : decode cX12_act 9 = .ok (.ifCond .eq 18, 3) := by decide +kernel
theorem dX12_act_12 : decode cX12_act 12 = .ok (.iload_n 2, 1) := by decide +kernel
theorem dX12_act_13 : decode cX12_act 13 = .ok (.invokestatic 400, 3) := by decide +kernel
theorem dX12_act_16 : decode cX12_act 16 = .ok (.ifCond .eq 11, 3) := by decide +kernel
theorem dX12_act_19 : decode cX12_act 19 = .ok (.aload_n 0, 1) := by decide +kernel
theorem dX12_act_20 : decode cX12_act 20 = .ok (.iload_n 1, 1) := by decide +kernel
theorem dX12_act_21 : decode cX12_act 21 = .ok (.invokevirtual 415, 3) := by decide +kernel
theorem dX12_act_24 : decode cX12_act 24 = .ok (.ifCond .ne 5, 3) := by decide +kernel
theorem dX12_act_27 : decode cX12_act 27 = .ok (.iconst 0, 1) := by decide +kernel
theorem dX12_act_28 : decode cX12_act 28 = .ok (.ireturn, 1) := by decide +kernel
theorem dX12_act_29 : decode cX12_act 29 = .ok (.aload_n 0, 1) := by decide +kernel
theorem dX12_act_30 : decode cX12_act 30 = .ok (.aload_n 0, 1) := by decide +kernel
theorem dX12_act_31 : decode cX12_act 31 = .ok (.getfield 44, 3) := by decide +kernel
theorem dX12_act_34 : decode cX12_act 34 = .ok (.iload_n 1, 1) := by decide +kernel
theorem dX12_act_35 : decode cX12_act 35 = .ok (.iaload, 1) := by decide +kernel
theorem dX12_act_36 : decode cX12_act 36 = .ok (.putfield 426, 3) := by decide +kernel
theorem dX12_act_39 : decode cX12_act 39 = .ok (.aload_n 0, 1) := by decide +kernel
theorem dX12_act_40 : decode cX12_act 40 = .ok (.aload_n 0, 1) := by decide +kernel
theorem dX12_act_41 : decode cX12_act 41 = .ok (.aload_n 0, 1) := by decide +kernel
theorem dX12_act_42 : decode cX12_act 42 = .ok (.getfield 426, 3) := by decide +kernel
theorem dX12_act_45 : decode cX12_act 45 = .ok (.iconst 0, 1) := by decide +kernel
theorem dX12_act_46 : decode cX12_act 46 = .ok (.invokevirtual 67, 3) := by decide +kernel
theorem dX12_act_49 : decode cX12_act 49 = .ok (.putfield 432, 3) := by decide +kernel
theorem dX12_act_52 : decode cX12_act 52 = .ok (.aload_n 0, 1) := by decide +kernel
theorem dX12_act_53 : decode cX12_act 53 = .ok (.aload_n 0, 1) := by decide +kernel
theorem dX12_act_54 : decode cX12_act 54 = .ok (.aload_n 0, 1) := by decide +kernel
theorem dX12_act_55 : decode cX12_act 55 = .ok (.getfield 426, 3) := by decide +kernel
theorem dX12_act_58 : decode cX12_act 58 = .ok (.iconst 1, 1) := by decide +kernel
theorem dX12_act_59 : decode cX12_act 59 = .ok (.invokevirtual 67, 3) := by decide +kernel
theorem dX12_act_62 : decode cX12_act 62 = .ok (.putfield 444, 3) := by decide +kernel
theorem dX12_act_65 : decode cX12_act 65 = .ok (.aload_n 0, 1) := by decide +kernel
theorem dX12_act_66 : decode cX12_act 66 = .ok (.iconst 0, 1) := by decide +kernel
theorem dX12_act_67 : decode cX12_act 67 = .ok (.putfield 447, 3) := by decide +kernel
theorem dX12_act_70 : decode cX12_act 70 = .ok (.iload_n 2, 1) := by decide +kernel
theorem dX12_act_71 : decode cX12_act 71 = .ok (.ifCond .ne 11, 3) := by decide +kernel
theorem dX12_act_74 : decode cX12_act 74 = .ok (.aload_n 0, 1) := by decide +kernel
theorem dX12_act_75 : decode cX12_act 75 = .ok (.iload_n 3, 1) := by decide +kernel
theorem dX12_act_76 : decode cX12_act 76 = .ok (.invokevirtual 438, 3) := by decide +kernel
theorem dX12_act_79 : decode cX12_act 79 = .ok (.goto 34, 3) := by decide +kernel
theorem dX12_act_82 : decode cX12_act 82 = .ok (.iload_n 2, 1) := by decide +kernel
theorem dX12_act_83 : decode cX12_act 83 = .ok (.iconst 1, 1) := by decide +kernel
theorem dX12_act_84 : decode cX12_act 84 = .ok (.if_icmp .ne 11, 3) := by decide +kernel
theorem dX12_act_87 : decode cX12_act 87 = .ok (.aload_n 0, 1) := by decide +kernel
theorem dX12_act_88 : decode cX12_act 88 = .ok (.iload_n 3, 1) := by decide +kernel
theorem dX12_act_89 : decode cX12_act 89 = .ok (.invokevirtual 453, 3) := by decide +kernel
theorem dX12_act_92 : decode cX12_act 92 = .ok (.goto 21, 3) := by decide +kernel
theorem dX12_act_95 : decode cX12_act 95 = .ok (.iload_n 2, 1) := by decide +kernel
theorem dX12_act_96 : decode cX12_act 96 = .ok (.iconst 2, 1) := by decide +kernel
theorem dX12_act_97 : decode cX12_act 97 = .ok (.if_icmp .ne 11, 3) := by decide +kernel
theorem dX12_act_100 : decode cX12_act 100 = .ok (.aload_n 0, 1) := by decide +kernel
theorem dX12_act_101 : decode cX12_act 101 = .ok (.iload_n 3, 1) := by decide +kernel
theorem dX12_act_102 : decode cX12_act 102 = .ok (.invokevirtual 459, 3) := by decide +kernel
theorem dX12_act_105 : decode cX12_act 105 = .ok (.goto 8, 3) := by decide +kernel
theorem dX12_act_108 : decode cX12_act 108 = .ok (.aload_n 0, 1) := by decide +kernel
theorem dX12_act_109 : decode cX12_act 109 = .ok (.iload_n 3, 1) := by decide +kernel
theorem dX12_act_110 : decode cX12_act 110 = .ok (.invokevirtual 462, 3) := by decide +kernel
theorem dX12_act_113 : decode cX12_act 113 = .ok (.istore 4, 2) := by decide +kernel
theorem dX12_act_115 : decode cX12_act 115 = .ok (.aload_n 0, 1) := by decide +kernel
theorem dX12_act_116 : decode cX12_act 116 = .ok (.getfield 447, 3) := by decide +kernel
theorem dX12_act_119 : decode cX12_act 119 = .ok (.ifCond .eq 8, 3) := by decide +kernel
theorem dX12_act_122 : decode cX12_act 122 = .ok (.bipush (-15), 2) := by decide +kernel
theorem dX12_act_124 : decode cX12_act 124 = .ok (.goto 5, 3) := by decide +kernel
theorem dX12_act_127 : decode cX12_act 127 = .ok (.iload 4, 2) := by decide +kernel
theorem dX12_act_129 : decode cX12_act 129 = .ok (.ireturn, 1) := by decide +kernel
theorem fp_X12_426_15 : FdP "NylonLadderModel" 426 15 22 false .int false := ⟨_, _, _, _, _, rfl, by decide, by decide, by decide, gxX12, by decide, T_6_71, Or.inl rfl, rfl, tyX12_ok, nmX12, by decide +kernel, rfl, fun h => by cases h⟩
theorem fp_X12_432_15 : FdP "NylonLadderModel" 432 15 21 false .int false := ⟨_, _, _, _, _, rfl, by decide, by decide, by decide, gxX12, by decide, T_6_70, Or.inl rfl, rfl, tyX12_ok, nmX12, by decide +kernel, rfl, fun h => by cases h⟩
theorem fp_X12_444_15 : FdP "NylonLadderModel" 444 15 23 false .int false := ⟨_, _, _, _, _, rfl, by decide, by decide, by decide, gxX12, by decide, T_6_72, Or.inl rfl, rfl, tyX12_ok, nmX12, by decide +kernel, rfl, fun h => by cases h⟩
theorem hd_X12_tellsOf : yX12_tellsOf.cls ≠ "java/lang/invoke/MethodHandle" ∧ yX12_tellsOf.cls ≠ "java/lang/invoke/VarHandle" ∧ (parseMethodDescriptor yX12_tellsOf.desc).map (fun d => d.parameters.length) = some 1 := by decide +kernel
theorem gv_X12_462 : GoodIn gT (wsV "NylonLadderModel" 462 "NylonLadderModel" yX12_tellsOf (Cond.code yX12_tellsOf cX12_tellsOf 3 (some .int) :: gT)) := good_V T_8_204 T_8_206 TS_100 T_1_10 T_8_207
def fX12_act (M : Mm) (o : Nat) (p1 : Int32) (p2 : Int32) (p3 : Int32) : Option (Int32 × Mm) :=
  B1 (wrI M o 15 20 0) fun M2_1 =>
  B1 (fX12_isFour M2_1 p1) fun x6_2 =>
  if x6_2 = 0 then
    some (0, M2_1)
  else
    B1 (fX12_isFour M2_1 p2) fun x13_3 =>
    if x13_3 = 0 then
      some (0, M2_1)
    else
      B1 (gk M2_1 o 15) fun _ =>
      B1 (fX12_isStocking M2_1 o p1) fun x21_5 =>
      if x21_5 = 0 then
        some (0, M2_1)
      else
        B1 (rdN M2_1 o 15 17) fun a31_6 =>
        B1 (alI M2_1 a31_6 p1) fun x35_7 =>
        B1 (wrI M2_1 o 15 22 x35_7) fun M36_8 =>
        B1 (rdI M36_8 o 15 22) fun x42_9 =>
        B1 (gk M36_8 o 15) fun _ =>
        B1 (fX12_its M36_8 o x42_9 0) fun x46_11 =>
        B1 (wrI M36_8 o 15 21 x46_11) fun M49_12 =>
        B1 (rdI M49_12 o 15 22) fun x55_13 =>
        B1 (gk M49_12 o 15) fun _ =>
        B1 (fX12_its M49_12 o x55_13 1) fun x59_15 =>
        B1 (wrI M49_12 o 15 23 x59_15) fun M62_16 =>
        B1 (wrZ M62_16 o 15 24 0) fun M67_17 =>
        if p2 = 0 then
          B1 (gk M67_17 o 15) fun _ =>
          B2 (fX12_runsOf M67_17 o p3) fun x76_31 M76_32 =>
          B1 (rdI M76_32 o 15 24) fun x116_33 =>
          if x116_33 = 0 then
            some (x76_31, M76_32)
          else
            some ((-15), M76_32)
        else
          if p2 = 1 then
            B1 (gk M67_17 o 15) fun _ =>
            B2 (fX12_driesOf M67_17 o p3) fun x89_27 M89_28 =>
            B1 (rdI M89_28 o 15 24) fun x116_29 =>
            if x116_29 = 0 then
              some (x89_27, M89_28)
            else
              some ((-15), M89_28)
          else
            if p2 = 2 then
              B1 (gk M67_17 o 15) fun _ =>
              B2 (fX12_holdsOf M67_17 o p3) fun x102_23 M102_24 =>
              B1 (rdI M102_24 o 15 24) fun x116_25 =>
              if x116_25 = 0 then
                some (x102_23, M102_24)
              else
                some ((-15), M102_24)
            else
              B1 (gk M67_17 o 15) fun _ =>
              B2 (fX12_tellsOf M67_17 o p3) fun x110_19 M110_20 =>
              B1 (rdI M110_20 o 15 24) fun x116_21 =>
              if x116_21 = 0 then
                some (x110_19, M110_20)
              else
                some ((-15), M110_20)
set_option maxRecDepth 100000 in
set_option maxHeartbeats 4000000 in
theorem qX12_act (l : Launch) (E : Ev) {M : Mm} {o : Nat} {p1 : Int32} {p2 : Int32} {p3 : Int32} {rz : Int32} {Mz : Mm} (hf : fX12_act M o p1 p2 p3 = some (rz, Mz)) : Ct l E yX12_act cX12_act 5 (some .int) 8 170 0 0 [.ref (E.b + o), .int p1, .int p2, .int p3] M (some (.int rz)) Mz := by
  refine ct_of (by decide +kernel) (Nat.le_of_ble_eq_true rfl) fun p e s m args below meth c C hr hin hW ls hl => ?_
  have hl : lv_has ls 5 [(0, .ref (E.b + o)), (1, .int p1), (2, .int p2), (3, .int p3)] := hl
  unfold fX12_act at hf
  refine lv_aload_n C.x C.b dX12_act_0 rfl (lv_at hl 0 rfl) ?_
  refine lv_iconst (v := 0) C.x C.b dX12_act_1 (by decide) ?_
  replace hf := x_b1 hf; obtain ⟨M2_1, hM2_1, hf⟩ := hf
  refine x_puti C hW fp_X12_421_15 hM2_1 (fun h => by cases h) dX12_act_2 (fun H locs hW => ?_)
  refine lv_iload_n C.x C.b dX12_act_5 rfl (lv_at hl 1 rfl) ?_
  replace hf := x_b1 hf; obtain ⟨x6_2, hx6_2, hf⟩ := hf
  refine x_callS (As := [.int p1]) (rest := []) C hW hl (qX12_isFour l E hx6_2) gs_X12_400 hd_X12_isFour rfl rfl (Nat.le_of_ble_eq_true rfl) dX12_act_6 ⟨Nat.le_of_ble_eq_true rfl, Nat.le_of_ble_eq_true rfl⟩ ⟨Nat.le_of_ble_eq_true rfl, Nat.le_of_ble_eq_true rfl⟩ (fun H locs hW => ?_)
  refine lv_if_eq (tgt := 27) C.x C.b dX12_act_9 rfl (fun c9 => ?_) (fun c9 => ?_)
  · replace hf := x_ip c9 hf
    refine lv_iconst (v := 0) C.x C.b dX12_act_27 (by decide) ?_
    rw [x_e1 hf, x_e2 hf]
    exact x_iret C hr hW dX12_act_28
  · replace hf := x_in c9 hf
    refine lv_iload_n C.x C.b dX12_act_12 rfl (lv_at hl 2 rfl) ?_
    replace hf := x_b1 hf; obtain ⟨x13_3, hx13_3, hf⟩ := hf
    refine x_callS (As := [.int p2]) (rest := []) C hW hl (qX12_isFour l E hx13_3) gs_X12_400 hd_X12_isFour rfl rfl (Nat.le_of_ble_eq_true rfl) dX12_act_13 ⟨Nat.le_of_ble_eq_true rfl, Nat.le_of_ble_eq_true rfl⟩ ⟨Nat.le_of_ble_eq_true rfl, Nat.le_of_ble_eq_true rfl⟩ (fun H locs hW => ?_)
    refine lv_if_eq (tgt := 27) C.x C.b dX12_act_16 rfl (fun c16 => ?_) (fun c16 => ?_)
    · replace hf := x_ip c16 hf
      refine lv_iconst (v := 0) C.x C.b dX12_act_27 (by decide) ?_
      rw [x_e1 hf, x_e2 hf]
      exact x_iret C hr hW dX12_act_28
    · replace hf := x_in c16 hf
      refine lv_aload_n C.x C.b dX12_act_19 rfl (lv_at hl 0 rfl) ?_
      refine lv_iload_n C.x C.b dX12_act_20 rfl (lv_at hl 1 rfl) ?_
      replace hf := x_b1 hf; obtain ⟨_, hk21_4, hf⟩ := hf
      replace hf := x_b1 hf; obtain ⟨x21_5, hx21_5, hf⟩ := hf
      refine x_callV (As := [.int p1]) (a := o) (rest := []) C hW hl (qX12_isStocking l E hx21_5) (x_gk hk21_4) (by decide) (by decide) rfl gv_X12_415 ⟨rfl, hd_X12_isStocking⟩ rfl rfl (Nat.le_of_ble_eq_true rfl) dX12_act_21 ⟨Nat.le_of_ble_eq_true rfl, Nat.le_of_ble_eq_true rfl⟩ ⟨Nat.le_of_ble_eq_true rfl, Nat.le_of_ble_eq_true rfl⟩ (fun H locs hW => ?_)
      refine lv_if_ne (tgt := 29) C.x C.b dX12_act_24 rfl (fun c24 => ?_) (fun c24 => ?_)
      · replace hf := x_in c24 hf
        refine lv_aload_n C.x C.b dX12_act_29 rfl (lv_at hl 0 rfl) ?_
        refine lv_aload_n C.x C.b dX12_act_30 rfl (lv_at hl 0 rfl) ?_
        replace hf := x_b1 hf; obtain ⟨a31_6, ha31_6, hf⟩ := hf
        refine x_getn C hW fg_X12_44_15 ha31_6 dX12_act_31 ?_
        refine lv_iload_n C.x C.b dX12_act_34 rfl (lv_at hl 1 rfl) ?_
        replace hf := x_b1 hf; obtain ⟨x35_7, hx35_7, hf⟩ := hf
        refine x_iald C hW hx35_7 dX12_act_35 ?_
        replace hf := x_b1 hf; obtain ⟨M36_8, hM36_8, hf⟩ := hf
        refine x_puti C hW fp_X12_426_15 hM36_8 (fun h => by cases h) dX12_act_36 (fun H locs hW => ?_)
        refine lv_aload_n C.x C.b dX12_act_39 rfl (lv_at hl 0 rfl) ?_
        refine lv_aload_n C.x C.b dX12_act_40 rfl (lv_at hl 0 rfl) ?_
        refine lv_aload_n C.x C.b dX12_act_41 rfl (lv_at hl 0 rfl) ?_
        replace hf := x_b1 hf; obtain ⟨x42_9, hx42_9, hf⟩ := hf
        refine x_geti C hW fg_X12_426_15 hx42_9 dX12_act_42 ?_
        refine lv_iconst (v := 0) C.x C.b dX12_act_45 (by decide) ?_
        replace hf := x_b1 hf; obtain ⟨_, hk46_10, hf⟩ := hf
        replace hf := x_b1 hf; obtain ⟨x46_11, hx46_11, hf⟩ := hf
        refine x_callV (As := [.int x42_9, .int 0]) (a := o) (rest := [.ref (E.b + o)]) C hW hl (qX12_its l E hx46_11) (x_gk hk46_10) (by decide) (by decide) rfl gv_X12_67 ⟨rfl, hd_X12_its⟩ rfl rfl (Nat.le_of_ble_eq_true rfl) dX12_act_46 ⟨Nat.le_of_ble_eq_true rfl, Nat.le_of_ble_eq_true rfl⟩ ⟨Nat.le_of_ble_eq_true rfl, Nat.le_of_ble_eq_true rfl⟩ (fun H locs hW => ?_)
        replace hf := x_b1 hf; obtain ⟨M49_12, hM49_12, hf⟩ := hf
        refine x_puti C hW fp_X12_432_15 hM49_12 (fun h => by cases h) dX12_act_49 (fun H locs hW => ?_)
        refine lv_aload_n C.x C.b dX12_act_52 rfl (lv_at hl 0 rfl) ?_
        refine lv_aload_n C.x C.b dX12_act_53 rfl (lv_at hl 0 rfl) ?_
        refine lv_aload_n C.x C.b dX12_act_54 rfl (lv_at hl 0 rfl) ?_
        replace hf := x_b1 hf; obtain ⟨x55_13, hx55_13, hf⟩ := hf
        refine x_geti C hW fg_X12_426_15 hx55_13 dX12_act_55 ?_
        refine lv_iconst (v := 1) C.x C.b dX12_act_58 (by decide) ?_
        replace hf := x_b1 hf; obtain ⟨_, hk59_14, hf⟩ := hf
        replace hf := x_b1 hf; obtain ⟨x59_15, hx59_15, hf⟩ := hf
        refine x_callV (As := [.int x55_13, .int 1]) (a := o) (rest := [.ref (E.b + o)]) C hW hl (qX12_its l E hx59_15) (x_gk hk59_14) (by decide) (by decide) rfl gv_X12_67 ⟨rfl, hd_X12_its⟩ rfl rfl (Nat.le_of_ble_eq_true rfl) dX12_act_59 ⟨Nat.le_of_ble_eq_true rfl, Nat.le_of_ble_eq_true rfl⟩ ⟨Nat.le_of_ble_eq_true rfl, Nat.le_of_ble_eq_true rfl⟩ (fun H locs hW => ?_)
        replace hf := x_b1 hf; obtain ⟨M62_16, hM62_16, hf⟩ := hf
        refine x_puti C hW fp_X12_444_15 hM62_16 (fun h => by cases h) dX12_act_62 (fun H locs hW => ?_)
        refine lv_aload_n C.x C.b dX12_act_65 rfl (lv_at hl 0 rfl) ?_
        refine lv_iconst (v := 0) C.x C.b dX12_act_66 (by decide) ?_
        replace hf := x_b1 hf; obtain ⟨M67_17, hM67_17, hf⟩ := hf
        refine x_putz C hW fp_X12_447_15 hM67_17 (fun h => by cases h) dX12_act_67 (fun H locs hW => ?_)
        refine lv_iload_n C.x C.b dX12_act_70 rfl (lv_at hl 2 rfl) ?_
        refine lv_if_ne (tgt := 82) C.x C.b dX12_act_71 rfl (fun c71 => ?_) (fun c71 => ?_)
        · replace hf := x_in c71 hf
          refine lv_iload_n C.x C.b dX12_act_82 rfl (lv_at hl 2 rfl) ?_
          refine lv_iconst (v := 1) C.x C.b dX12_act_83 (by decide) ?_
          refine lv_icmp_ne (tgt := 95) C.x C.b dX12_act_84 rfl (fun c84 => ?_) (fun c84 => ?_)
          · replace hf := x_in c84 hf
            refine lv_iload_n C.x C.b dX12_act_95 rfl (lv_at hl 2 rfl) ?_
            refine lv_iconst (v := 2) C.x C.b dX12_act_96 (by decide) ?_
            refine lv_icmp_ne (tgt := 108) C.x C.b dX12_act_97 rfl (fun c97 => ?_) (fun c97 => ?_)
            · replace hf := x_in c97 hf
              refine lv_aload_n C.x C.b dX12_act_108 rfl (lv_at hl 0 rfl) ?_
              refine lv_iload_n C.x C.b dX12_act_109 rfl (lv_at hl 3 rfl) ?_
              replace hf := x_b1 hf; obtain ⟨_, hk110_18, hf⟩ := hf
              replace hf := x_b2 hf; obtain ⟨x110_19, M110_20, hx110_19, hf⟩ := hf
              refine x_callV (As := [.int p3]) (a := o) (rest := []) C hW hl (qX12_tellsOf l E hx110_19) (x_gk hk110_18) (by decide) (by decide) rfl gv_X12_462 ⟨rfl, hd_X12_tellsOf⟩ rfl rfl (Nat.le_of_ble_eq_true rfl) dX12_act_110 ⟨Nat.le_of_ble_eq_true rfl, Nat.le_of_ble_eq_true rfl⟩ ⟨Nat.le_of_ble_eq_true rfl, Nat.le_of_ble_eq_true rfl⟩ (fun H locs hW => ?_)
              refine lv_istore (lv' := [(4, .int _), (0, .ref (E.b + _)), (1, .int _), (2, .int _), (3, .int _)]) C.x C.b dX12_act_113 hl (by decide) rfl (fun ls hl => ?_)
              refine lv_aload_n C.x C.b dX12_act_115 rfl (lv_at hl 1 rfl) ?_
              replace hf := x_b1 hf; obtain ⟨x116_21, hx116_21, hf⟩ := hf
              refine x_geti C hW fg_X12_447_15 hx116_21 dX12_act_116 ?_
              refine lv_if_eq (tgt := 127) C.x C.b dX12_act_119 rfl (fun c119 => ?_) (fun c119 => ?_)
              · replace hf := x_ip c119 hf
                refine lv_iload C.x C.b dX12_act_127 (lv_at hl 0 rfl) ?_
                rw [x_e1 hf, x_e2 hf]
                exact x_iret C hr hW dX12_act_129
              · replace hf := x_in c119 hf
                refine lv_bipush (v := (-15)) C.x C.b dX12_act_122 (by decide) ?_
                refine lv_goto (tgt := 129) C.x C.b dX12_act_124 rfl ?_
                rw [x_e1 hf, x_e2 hf]
                exact x_iret C hr hW dX12_act_129
            · replace hf := x_ip c97 hf
              refine lv_aload_n C.x C.b dX12_act_100 rfl (lv_at hl 0 rfl) ?_
              refine lv_iload_n C.x C.b dX12_act_101 rfl (lv_at hl 3 rfl) ?_
              replace hf := x_b1 hf; obtain ⟨_, hk102_22, hf⟩ := hf
              replace hf := x_b2 hf; obtain ⟨x102_23, M102_24, hx102_23, hf⟩ := hf
              refine x_callV (As := [.int p3]) (a := o) (rest := []) C hW hl (qX12_holdsOf l E hx102_23) (x_gk hk102_22) (by decide) (by decide) rfl gv_X12_459 ⟨rfl, hd_X12_holdsOf⟩ rfl rfl (Nat.le_of_ble_eq_true rfl) dX12_act_102 ⟨Nat.le_of_ble_eq_true rfl, Nat.le_of_ble_eq_true rfl⟩ ⟨Nat.le_of_ble_eq_true rfl, Nat.le_of_ble_eq_true rfl⟩ (fun H locs hW => ?_)
              refine lv_goto (tgt := 113) C.x C.b dX12_act_105 rfl ?_
              refine lv_istore (lv' := [(4, .int _), (0, .ref (E.b + _)), (1, .int _), (2, .int _), (3, .int _)]) C.x C.b dX12_act_113 hl (by decide) rfl (fun ls hl => ?_)
              refine lv_aload_n C.x C.b dX12_act_115 rfl (lv_at hl 1 rfl) ?_
              replace hf := x_b1 hf; obtain ⟨x116_25, hx116_25, hf⟩ := hf
              refine x_geti C hW fg_X12_447_15 hx116_25 dX12_act_116 ?_
              refine lv_if_eq (tgt := 127) C.x C.b dX12_act_119 rfl (fun c119 => ?_) (fun c119 => ?_)
              · replace hf := x_ip c119 hf
                refine lv_iload C.x C.b dX12_act_127 (lv_at hl 0 rfl) ?_
                rw [x_e1 hf, x_e2 hf]
                exact x_iret C hr hW dX12_act_129
              · replace hf := x_in c119 hf
                refine lv_bipush (v := (-15)) C.x C.b dX12_act_122 (by decide) ?_
                refine lv_goto (tgt := 129) C.x C.b dX12_act_124 rfl ?_
                rw [x_e1 hf, x_e2 hf]
                exact x_iret C hr hW dX12_act_129
          · replace hf := x_ip c84 hf
            refine lv_aload_n C.x C.b dX12_act_87 rfl (lv_at hl 0 rfl) ?_
            refine lv_iload_n C.x C.b dX12_act_88 rfl (lv_at hl 3 rfl) ?_
            replace hf := x_b1 hf; obtain ⟨_, hk89_26, hf⟩ := hf
            replace hf := x_b2 hf; obtain ⟨x89_27, M89_28, hx89_27, hf⟩ := hf
            refine x_callV (As := [.int p3]) (a := o) (rest := []) C hW hl (qX12_driesOf l E hx89_27) (x_gk hk89_26) (by decide) (by decide) rfl gv_X12_453 ⟨rfl, hd_X12_driesOf⟩ rfl rfl (Nat.le_of_ble_eq_true rfl) dX12_act_89 ⟨Nat.le_of_ble_eq_true rfl, Nat.le_of_ble_eq_true rfl⟩ ⟨Nat.le_of_ble_eq_true rfl, Nat.le_of_ble_eq_true rfl⟩ (fun H locs hW => ?_)
            refine lv_goto (tgt := 113) C.x C.b dX12_act_92 rfl ?_
            refine lv_istore (lv' := [(4, .int _), (0, .ref (E.b + _)), (1, .int _), (2, .int _), (3, .int _)]) C.x C.b dX12_act_113 hl (by decide) rfl (fun ls hl => ?_)
            refine lv_aload_n C.x C.b dX12_act_115 rfl (lv_at hl 1 rfl) ?_
            replace hf := x_b1 hf; obtain ⟨x116_29, hx116_29, hf⟩ := hf
            refine x_geti C hW fg_X12_447_15 hx116_29 dX12_act_116 ?_
            refine lv_if_eq (tgt := 127) C.x C.b dX12_act_119 rfl (fun c119 => ?_) (fun c119 => ?_)
            · replace hf := x_ip c119 hf
              refine lv_iload C.x C.b dX12_act_127 (lv_at hl 0 rfl) ?_
              rw [x_e1 hf, x_e2 hf]
              exact x_iret C hr hW dX12_act_129
            · replace hf := x_in c119 hf
              refine lv_bipush (v := (-15)) C.x C.b dX12_act_122 (by decide) ?_
              refine lv_goto (tgt := 129) C.x C.b dX12_act_124 rfl ?_
              rw [x_e1 hf, x_e2 hf]
              exact x_iret C hr hW dX12_act_129
        · replace hf := x_ip c71 hf
          refine lv_aload_n C.x C.b dX12_act_74 rfl (lv_at hl 0 rfl) ?_
          refine lv_iload_n C.x C.b dX12_act_75 rfl (lv_at hl 3 rfl) ?_
          replace hf := x_b1 hf; obtain ⟨_, hk76_30, hf⟩ := hf
          replace hf := x_b2 hf; obtain ⟨x76_31, M76_32, hx76_31, hf⟩ := hf
          refine x_callV (As := [.int p3]) (a := o) (rest := []) C hW hl (qX12_runsOf l E hx76_31) (x_gk hk76_30) (by decide) (by decide) rfl gv_X12_438 ⟨rfl, hd_X12_runsOf⟩ rfl rfl (Nat.le_of_ble_eq_true rfl) dX12_act_76 ⟨Nat.le_of_ble_eq_true rfl, Nat.le_of_ble_eq_true rfl⟩ ⟨Nat.le_of_ble_eq_true rfl, Nat.le_of_ble_eq_true rfl⟩ (fun H locs hW => ?_)
          refine lv_goto (tgt := 113) C.x C.b dX12_act_79 rfl ?_
          refine lv_istore (lv' := [(4, .int _), (0, .ref (E.b + _)), (1, .int _), (2, .int _), (3, .int _)]) C.x C.b dX12_act_113 hl (by decide) rfl (fun ls hl => ?_)
          refine lv_aload_n C.x C.b dX12_act_115 rfl (lv_at hl 1 rfl) ?_
          replace hf := x_b1 hf; obtain ⟨x116_33, hx116_33, hf⟩ := hf
          refine x_geti C hW fg_X12_447_15 hx116_33 dX12_act_116 ?_
          refine lv_if_eq (tgt := 127) C.x C.b dX12_act_119 rfl (fun c119 => ?_) (fun c119 => ?_)
          · replace hf := x_ip c119 hf
            refine lv_iload C.x C.b dX12_act_127 (lv_at hl 0 rfl) ?_
            rw [x_e1 hf, x_e2 hf]
            exact x_iret C hr hW dX12_act_129
          · replace hf := x_in c119 hf
            refine lv_bipush (v := (-15)) C.x C.b dX12_act_122 (by decide) ?_
            refine lv_goto (tgt := 129) C.x C.b dX12_act_124 rfl ?_
            rw [x_e1 hf, x_e2 hf]
            exact x_iret C hr hW dX12_act_129
      · replace hf := x_ip c24 hf
        refine lv_iconst (v := 0) C.x C.b dX12_act_27 (by decide) ?_
        rw [x_e1 hf, x_e2 hf]
        exact x_iret C hr hW dX12_act_28

theorem dX12_trace_0 : decode cX12_trace 0 = .ok (.iload_n 1, 1) := by decide +kernel
theorem dX12_trace_1 : decode cX12_trace 1 = .ok (.i2l, 1) := by decide +kernel
theorem dX12_trace_2 : decode cX12_trace 2 = .ok (.lconst 0, 1) := by decide +kernel
theorem dX12_trace_3 : decode cX12_trace 3 = .ok (.aload_n 0, 1) := by decide +kernel
theorem dX12_trace_4 : decode cX12_trace 4 = .ok (.getfield 421, 3) := by decide +kernel
theorem dX12_trace_7 : decode cX12_trace 7 = .ok (.iconst 1, 1) := by decide +kernel
theorem dX12_trace_8 : decode cX12_trace 8 = .ok (.isub, 1) := by decide +kernel
theorem dX12_trace_9 : decode cX12_trace 9 = .ok (.i2l, 1) := by decide +kernel
theorem dX12_trace_10 : decode cX12_trace 10 = .ok (.invokestatic 61, 3) := by decide +kernel
theorem dX12_trace_13 : decode cX12_trace 13 = .ok (.ifCond .eq 12, 3) := by decide +kernel
theorem dX12_trace_16 : decode cX12_trace 16 = .ok (.aload_n 0, 1) := by decide +kernel
theorem dX12_trace_17 : decode cX12_trace 17 = .ok (.getfield 50, 3) := by decide +kernel
theorem dX12_trace_20 : decode cX12_trace 20 = .ok (.iload_n 1, 1) := by decide +kernel
theorem dX12_trace_21 : decode cX12_trace 21 = .ok (.iaload, 1) := by decide +kernel
theorem dX12_trace_22 : decode cX12_trace 22 = .ok (.goto 5, 3) := by decide +kernel
theorem dX12_trace_25 : decode cX12_trace 25 = .ok (.bipush (-3), 2) := by decide +kernel
theorem dX12_trace_27 : decode cX12_trace 27 = .ok (.ireturn, 1) := by decide +kernel
def fX12_trace (M : Mm) (o : Nat) (p1 : Int32) : Option Int32 :=
  B1 (rdI M o 15 20) fun x4_1 =>
  B1 (fX12_in M (p1.toInt64) 0 ((x4_1 - 1).toInt64)) fun x10_2 =>
  if x10_2 = 0 then
    some (-3)
  else
    B1 (rdN M o 15 19) fun a17_3 =>
    B1 (alI M a17_3 p1) fun x21_4 =>
    some x21_4
set_option maxRecDepth 100000 in
set_option maxHeartbeats 4000000 in
theorem qX12_trace (l : Launch) (E : Ev) {M : Mm} {o : Nat} {p1 : Int32} {rz : Int32} (hf : fX12_trace M o p1 = some rz) : Ct l E yX12_trace cX12_trace 2 (some .int) 1 25 0 0 [.ref (E.b + o), .int p1] M (some (.int rz)) M := by
  refine ct_of (by decide +kernel) (Nat.le_of_ble_eq_true rfl) fun p e s m args below meth c C hr hin hW ls hl => ?_
  have hl : lv_has ls 2 [(0, .ref (E.b + o)), (1, .int p1)] := hl
  unfold fX12_trace at hf
  refine lv_iload_n C.x C.b dX12_trace_0 rfl (lv_at hl 1 rfl) ?_
  refine lv_i2l (v := p1.toInt64) C.x C.b dX12_trace_1 rfl ?_
  refine lv_lconst (v := 0) C.x C.b dX12_trace_2 (by decide) ?_
  refine lv_aload_n C.x C.b dX12_trace_3 rfl (lv_at hl 0 rfl) ?_
  replace hf := x_b1 hf; obtain ⟨x4_1, hx4_1, hf⟩ := hf
  refine x_geti C hW fg_X12_421_15 hx4_1 dX12_trace_4 ?_
  refine lv_iconst (v := 1) C.x C.b dX12_trace_7 (by decide) ?_
  refine lv_isub C.x C.b dX12_trace_8 ?_
  refine lv_i2l (v := (x4_1 - 1).toInt64) C.x C.b dX12_trace_9 rfl ?_
  replace hf := x_b1 hf; obtain ⟨x10_2, hx10_2, hf⟩ := hf
  refine x_callS (As := [.long (p1.toInt64), .long 0, .long ((x4_1 - 1).toInt64)]) (rest := []) C hW hl (qX12_in l E hx10_2) gs_X12_61 hd_X12_in rfl rfl (Nat.le_of_ble_eq_true rfl) dX12_trace_10 ⟨Nat.le_of_ble_eq_true rfl, Nat.le_of_ble_eq_true rfl⟩ ⟨Nat.le_of_ble_eq_true rfl, Nat.le_of_ble_eq_true rfl⟩ (fun H locs hW => ?_)
  refine lv_if_eq (tgt := 25) C.x C.b dX12_trace_13 rfl (fun c13 => ?_) (fun c13 => ?_)
  · replace hf := x_ip c13 hf
    refine lv_bipush (v := (-3)) C.x C.b dX12_trace_25 (by decide) ?_
    rw [x_e0 hf]
    exact x_iret C hr hW dX12_trace_27
  · replace hf := x_in c13 hf
    refine lv_aload_n C.x C.b dX12_trace_16 rfl (lv_at hl 0 rfl) ?_
    replace hf := x_b1 hf; obtain ⟨a17_3, ha17_3, hf⟩ := hf
    refine x_getn C hW fg_X12_50_15 ha17_3 dX12_trace_17 ?_
    refine lv_iload_n C.x C.b dX12_trace_20 rfl (lv_at hl 1 rfl) ?_
    replace hf := x_b1 hf; obtain ⟨x21_4, hx21_4, hf⟩ := hf
    refine x_iald C hW hx21_4 dX12_trace_21 ?_
    refine lv_goto (tgt := 27) C.x C.b dX12_trace_22 rfl ?_
    rw [x_e0 hf]
    exact x_iret C hr hW dX12_trace_27

theorem dX12_ladders_0 : decode cX12_ladders 0 = .ok (.iconst 0, 1) := by decide +kernel
theorem dX12_ladders_1 : decode cX12_ladders 1 = .ok (.istore_n 1, 1) := by decide +kernel
theorem dX12_ladders_2 : decode cX12_ladders 2 = .ok (.iconst 0, 1) := by decide +kernel
theorem dX12_ladders_3 : decode cX12_ladders 3 = .ok (.istore_n 2, 1) := by decide +kernel
theorem dX12_ladders_4 : decode cX12_ladders 4 = .ok (.iload_n 2, 1) := by decide +kernel
theorem dX12_ladders_5 : decode cX12_ladders 5 = .ok (.aload_n 0, 1) := by decide +kernel
theorem dX12_ladders_6 : decode cX12_ladders 6 = .ok (.getfield 9, 3) := by decide +kernel
theorem dX12_ladders_9 : decode cX12_ladders 9 = .ok (.iconst 0, 1) := by decide +kernel
theorem dX12_ladders_10 : decode cX12_ladders 10 = .ok (.iaload, 1) := by decide +kernel
theorem dX12_ladders_11 : decode cX12_ladders 11 = .ok (.if_icmp .ge 25, 3) := by decide +kernel
theorem dX12_ladders_14 : decode cX12_ladders 14 = .ok (.iload_n 1, 1) := by decide +kernel
theorem dX12_ladders_15 : decode cX12_ladders 15 = .ok (.aload_n 0, 1) := by decide +kernel
theorem dX12_ladders_16 : decode cX12_ladders 16 = .ok (.iload_n 2, 1) := by decide +kernel
theorem dX12_ladders_17 : decode cX12_ladders 17 = .ok (.invokevirtual 71, 3) := by decide +kernel
theorem dX12_ladders_20 : decode cX12_ladders 20 = .ok (.ifCond .eq 7, 3) := by decide +kernel
theorem dX12_ladders_23 : decode cX12_ladders 23 = .ok (.iconst 1, 1) := by decide +kernel
theorem dX12_ladders_24 : decode cX12_ladders 24 = .ok (.goto 4, 3) := by decide +kernel
theorem dX12_ladders_27 : decode cX12_ladders 27 = .ok (.iconst 0, 1) := by decide +kernel
theorem dX12_ladders_28 : decode cX12_ladders 28 = .ok (.iadd, 1) := by decide +kernel
theorem dX12_ladders_29 : decode cX12_ladders 29 = .ok (.istore_n 1, 1) := by decide +kernel
theorem dX12_ladders_30 : decode cX12_ladders 30 = .ok (.iinc 2 1, 3) := by decide +kernel
theorem dX12_ladders_33 : decode cX12_ladders 33 = .ok (.goto (-29), 3) := by decide +kernel
theorem dX12_ladders_36 : decode cX12_ladders 36 = .ok (.iload_n 1, 1) := by decide +kernel
theorem dX12_ladders_37 : decode cX12_ladders 37 = .ok (.ireturn, 1) := by decide +kernel
def fX12_ladders_L4 (M : Mm) (o : Nat) : Nat → Int32 → Int32 → Option Int32
  | 0, _, _ => none
  | n + 1, v1, v2 =>
    B1 (rdN M o 15 0) fun a6_1 =>
    B1 (alI M a6_1 0) fun x10_2 =>
    if x10_2 ≤ v2 then
      some v1
    else
      B1 (gk M o 15) fun _ =>
      B1 (fX12_hasLadder M o v2) fun x17_4 =>
      if x17_4 = 0 then
        fX12_ladders_L4 M o n (v1 + 0) (v2 + 1)
      else
        fX12_ladders_L4 M o n (v1 + 1) (v2 + 1)
def fX12_ladders (M : Mm) (o : Nat) : Option Int32 :=
  fX12_ladders_L4 M o FL 0 0
set_option maxRecDepth 100000 in
set_option maxHeartbeats 4000000 in
theorem kX12_ladders_L4 {l : Launch} {E : Ev} {p : Program} {e : Env} {s : State} {m : MethodId} {args : Array Value} {below : List Frame} {meth : Method} {c : Code} (C : Cx E p s m args meth c cX12_ladders yX12_ladders.cls 3) (hr : meth.sig.returnType = (some .int)) (hin : yX12_ladders.name = "<init>" → meth.name = "<init>") {M : Mm}  {o : Nat} {rz : Int32} : ∀ (n : Nat) (v1 : Int32) (v2 : Int32), fX12_ladders_L4 M o n v1 v2 = some rz → ∀ (H : Heap) (locs : List Loc) (ls : Array Slot), Wx E s H locs M → lv_has ls 3 [(0, .ref (E.b + o)), (1, .int v1), (2, .int v2)] → W p l e (rM 2 43 0 0) s m args below meth c H locs 0 0 (MQ below (Qp E (some (.int rz)) M) args s 0 0 E.A) (F0 m 4 ls []) := by
  intro n
  induction n with
  | zero =>
    intro v1 v2 hf
    unfold fX12_ladders_L4 at hf
    cases hf
  | succ n ih =>
    intro v1 v2 hf H locs ls hW hl
    unfold fX12_ladders_L4 at hf
    refine lv_iload_n C.x C.b dX12_ladders_4 rfl (lv_at hl 2 rfl) ?_
    refine lv_aload_n C.x C.b dX12_ladders_5 rfl (lv_at hl 0 rfl) ?_
    replace hf := x_b1 hf; obtain ⟨a6_1, ha6_1, hf⟩ := hf
    refine x_getn C hW fg_X12_9_15 ha6_1 dX12_ladders_6 ?_
    refine lv_iconst (v := 0) C.x C.b dX12_ladders_9 (by decide) ?_
    replace hf := x_b1 hf; obtain ⟨x10_2, hx10_2, hf⟩ := hf
    refine x_iald C hW hx10_2 dX12_ladders_10 ?_
    refine lv_icmp_ge (tgt := 36) C.x C.b dX12_ladders_11 rfl (fun c11 => ?_) (fun c11 => ?_)
    · replace hf := x_ip c11 hf
      refine lv_iload_n C.x C.b dX12_ladders_36 rfl (lv_at hl 1 rfl) ?_
      rw [x_e0 hf]
      exact x_iret C hr hW dX12_ladders_37
    · replace hf := x_in c11 hf
      refine lv_iload_n C.x C.b dX12_ladders_14 rfl (lv_at hl 1 rfl) ?_
      refine lv_aload_n C.x C.b dX12_ladders_15 rfl (lv_at hl 0 rfl) ?_
      refine lv_iload_n C.x C.b dX12_ladders_16 rfl (lv_at hl 2 rfl) ?_
      replace hf := x_b1 hf; obtain ⟨_, hk17_3, hf⟩ := hf
      replace hf := x_b1 hf; obtain ⟨x17_4, hx17_4, hf⟩ := hf
      refine x_callV (As := [.int v2]) (a := o) (rest := [.int v1]) C hW hl (qX12_hasLadder l E hx17_4) (x_gk hk17_3) (by decide) (by decide) rfl gv_X12_71 ⟨rfl, hd_X12_hasLadder⟩ rfl rfl (Nat.le_of_ble_eq_true rfl) dX12_ladders_17 ⟨Nat.le_of_ble_eq_true rfl, Nat.le_of_ble_eq_true rfl⟩ ⟨Nat.le_of_ble_eq_true rfl, Nat.le_of_ble_eq_true rfl⟩ (fun H locs hW => ?_)
      refine lv_if_eq (tgt := 27) C.x C.b dX12_ladders_20 rfl (fun c20 => ?_) (fun c20 => ?_)
      · replace hf := x_ip c20 hf
        refine lv_iconst (v := 0) C.x C.b dX12_ladders_27 (by decide) ?_
        refine lv_iadd C.x C.b dX12_ladders_28 ?_
        refine lv_istore_n (lv' := [(1, .int _), (0, .ref (E.b + _)), (2, .int _)]) C.x C.b dX12_ladders_29 rfl hl (by decide) rfl (fun ls hl => ?_)
        refine lv_iinc (v := (v2 + 1)) (lv' := [(2, .int (v2 + 1)), (1, .int _), (0, .ref (E.b + _))]) C.x C.b dX12_ladders_30 hl (k := 2) rfl (by first | rfl | decide) (by decide) rfl (fun ls hl => ?_)
        refine lv_goto (tgt := 4) C.x C.b dX12_ladders_33 rfl ?_
        exact ih (v1 + 0) (v2 + 1) hf _ _ _ hW (lv_sub hl [2, 1, 0] rfl)
      · replace hf := x_in c20 hf
        refine lv_iconst (v := 1) C.x C.b dX12_ladders_23 (by decide) ?_
        refine lv_goto (tgt := 28) C.x C.b dX12_ladders_24 rfl ?_
        refine lv_iadd C.x C.b dX12_ladders_28 ?_
        refine lv_istore_n (lv' := [(1, .int _), (0, .ref (E.b + _)), (2, .int _)]) C.x C.b dX12_ladders_29 rfl hl (by decide) rfl (fun ls hl => ?_)
        refine lv_iinc (v := (v2 + 1)) (lv' := [(2, .int (v2 + 1)), (1, .int _), (0, .ref (E.b + _))]) C.x C.b dX12_ladders_30 hl (k := 2) rfl (by first | rfl | decide) (by decide) rfl (fun ls hl => ?_)
        refine lv_goto (tgt := 4) C.x C.b dX12_ladders_33 rfl ?_
        exact ih (v1 + 1) (v2 + 1) hf _ _ _ hW (lv_sub hl [2, 1, 0] rfl)
set_option maxRecDepth 100000 in
set_option maxHeartbeats 4000000 in
theorem qX12_ladders (l : Launch) (E : Ev) {M : Mm} {o : Nat} {rz : Int32} (hf : fX12_ladders M o = some rz) : Ct l E yX12_ladders cX12_ladders 3 (some .int) 2 43 0 0 [.ref (E.b + o)] M (some (.int rz)) M := by
  refine ct_of (by decide +kernel) (Nat.le_of_ble_eq_true rfl) fun p e s m args below meth c C hr hin hW ls hl => ?_
  have hl : lv_has ls 3 [(0, .ref (E.b + o))] := hl
  unfold fX12_ladders at hf
  refine lv_iconst (v := 0) C.x C.b dX12_ladders_0 (by decide) ?_
  refine lv_istore_n (lv' := [(1, .int _), (0, .ref (E.b + _))]) C.x C.b dX12_ladders_1 rfl hl (by decide) rfl (fun ls hl => ?_)
  refine lv_iconst (v := 0) C.x C.b dX12_ladders_2 (by decide) ?_
  refine lv_istore_n (lv' := [(2, .int _), (1, .int _), (0, .ref (E.b + _))]) C.x C.b dX12_ladders_3 rfl hl (by decide) rfl (fun ls hl => ?_)
  exact kX12_ladders_L4 C hr hin FL 0 0 hf _ _ _ hW (lv_sub hl [2, 1, 0] rfl)

theorem dX12_allDabs_0 : decode cX12_allDabs 0 = .ok (.iconst 0, 1) := by decide +kernel
theorem dX12_allDabs_1 : decode cX12_allDabs 1 = .ok (.istore_n 1, 1) := by decide +kernel
theorem dX12_allDabs_2 : decode cX12_allDabs 2 = .ok (.iconst 0, 1) := by decide +kernel
theorem dX12_allDabs_3 : decode cX12_allDabs 3 = .ok (.istore_n 2, 1) := by decide +kernel
theorem dX12_allDabs_4 : decode cX12_allDabs 4 = .ok (.iload_n 2, 1) := by decide +kernel
theorem dX12_allDabs_5 : decode cX12_allDabs 5 = .ok (.aload_n 0, 1) := by decide +kernel
theorem dX12_allDabs_6 : decode cX12_allDabs 6 = .ok (.getfield 9, 3) := by decide +kernel
theorem dX12_allDabs_9 : decode cX12_allDabs 9 = .ok (.iconst 0, 1) := by decide +kernel
theorem dX12_allDabs_10 : decode cX12_allDabs 10 = .ok (.iaload, 1) := by decide +kernel
theorem dX12_allDabs_11 : decode cX12_allDabs 11 = .ok (.if_icmp .ge 19, 3) := by decide +kernel
theorem dX12_allDabs_14 : decode cX12_allDabs 14 = .ok (.iload_n 1, 1) := by decide +kernel
theorem dX12_allDabs_15 : decode cX12_allDabs 15 = .ok (.aload_n 0, 1) := by decide +kernel
theorem dX12_allDabs_16 : decode cX12_allDabs 16 = .ok (.iload_n 2, 1) := by decide +kernel
theorem dX12_allDabs_17 : decode cX12_allDabs 17 = .ok (.bipush 8, 2) := by decide +kernel
theorem dX12_allDabs_19 : decode cX12_allDabs 19 = .ok (.invokevirtual 67, 3) := by decide +kernel
theorem dX12_allDabs_22 : decode cX12_allDabs 22 = .ok (.iadd, 1) := by decide +kernel
theorem dX12_allDabs_23 : decode cX12_allDabs 23 = .ok (.istore_n 1, 1) := by decide +kernel
theorem dX12_allDabs_24 : decode cX12_allDabs 24 = .ok (.iinc 2 1, 3) := by decide +kernel
theorem dX12_allDabs_27 : decode cX12_allDabs 27 = .ok (.goto (-23), 3) := by decide +kernel
theorem dX12_allDabs_30 : decode cX12_allDabs 30 = .ok (.iload_n 1, 1) := by decide +kernel
theorem dX12_allDabs_31 : decode cX12_allDabs 31 = .ok (.ireturn, 1) := by decide +kernel
def fX12_allDabs_L4 (M : Mm) (o : Nat) : Nat → Int32 → Int32 → Option Int32
  | 0, _, _ => none
  | n + 1, v1, v2 =>
    B1 (rdN M o 15 0) fun a6_1 =>
    B1 (alI M a6_1 0) fun x10_2 =>
    if x10_2 ≤ v2 then
      some v1
    else
      B1 (gk M o 15) fun _ =>
      B1 (fX12_its M o v2 8) fun x19_4 =>
      fX12_allDabs_L4 M o n (v1 + x19_4) (v2 + 1)
def fX12_allDabs (M : Mm) (o : Nat) : Option Int32 :=
  fX12_allDabs_L4 M o FL 0 0
set_option maxRecDepth 100000 in
set_option maxHeartbeats 4000000 in
theorem kX12_allDabs_L4 {l : Launch} {E : Ev} {p : Program} {e : Env} {s : State} {m : MethodId} {args : Array Value} {below : List Frame} {meth : Method} {c : Code} (C : Cx E p s m args meth c cX12_allDabs yX12_allDabs.cls 3) (hr : meth.sig.returnType = (some .int)) (hin : yX12_allDabs.name = "<init>" → meth.name = "<init>") {M : Mm}  {o : Nat} {rz : Int32} : ∀ (n : Nat) (v1 : Int32) (v2 : Int32), fX12_allDabs_L4 M o n v1 v2 = some rz → ∀ (H : Heap) (locs : List Loc) (ls : Array Slot), Wx E s H locs M → lv_has ls 3 [(0, .ref (E.b + o)), (1, .int v1), (2, .int v2)] → W p l e (rM 1 22 0 0) s m args below meth c H locs 0 0 (MQ below (Qp E (some (.int rz)) M) args s 0 0 E.A) (F0 m 4 ls []) := by
  intro n
  induction n with
  | zero =>
    intro v1 v2 hf
    unfold fX12_allDabs_L4 at hf
    cases hf
  | succ n ih =>
    intro v1 v2 hf H locs ls hW hl
    unfold fX12_allDabs_L4 at hf
    refine lv_iload_n C.x C.b dX12_allDabs_4 rfl (lv_at hl 2 rfl) ?_
    refine lv_aload_n C.x C.b dX12_allDabs_5 rfl (lv_at hl 0 rfl) ?_
    replace hf := x_b1 hf; obtain ⟨a6_1, ha6_1, hf⟩ := hf
    refine x_getn C hW fg_X12_9_15 ha6_1 dX12_allDabs_6 ?_
    refine lv_iconst (v := 0) C.x C.b dX12_allDabs_9 (by decide) ?_
    replace hf := x_b1 hf; obtain ⟨x10_2, hx10_2, hf⟩ := hf
    refine x_iald C hW hx10_2 dX12_allDabs_10 ?_
    refine lv_icmp_ge (tgt := 30) C.x C.b dX12_allDabs_11 rfl (fun c11 => ?_) (fun c11 => ?_)
    · replace hf := x_ip c11 hf
      refine lv_iload_n C.x C.b dX12_allDabs_30 rfl (lv_at hl 1 rfl) ?_
      rw [x_e0 hf]
      exact x_iret C hr hW dX12_allDabs_31
    · replace hf := x_in c11 hf
      refine lv_iload_n C.x C.b dX12_allDabs_14 rfl (lv_at hl 1 rfl) ?_
      refine lv_aload_n C.x C.b dX12_allDabs_15 rfl (lv_at hl 0 rfl) ?_
      refine lv_iload_n C.x C.b dX12_allDabs_16 rfl (lv_at hl 2 rfl) ?_
      refine lv_bipush (v := 8) C.x C.b dX12_allDabs_17 (by decide) ?_
      replace hf := x_b1 hf; obtain ⟨_, hk19_3, hf⟩ := hf
      replace hf := x_b1 hf; obtain ⟨x19_4, hx19_4, hf⟩ := hf
      refine x_callV (As := [.int v2, .int 8]) (a := o) (rest := [.int v1]) C hW hl (qX12_its l E hx19_4) (x_gk hk19_3) (by decide) (by decide) rfl gv_X12_67 ⟨rfl, hd_X12_its⟩ rfl rfl (Nat.le_of_ble_eq_true rfl) dX12_allDabs_19 ⟨Nat.le_of_ble_eq_true rfl, Nat.le_of_ble_eq_true rfl⟩ ⟨Nat.le_of_ble_eq_true rfl, Nat.le_of_ble_eq_true rfl⟩ (fun H locs hW => ?_)
      refine lv_iadd C.x C.b dX12_allDabs_22 ?_
      refine lv_istore_n (lv' := [(1, .int _), (0, .ref (E.b + _)), (2, .int _)]) C.x C.b dX12_allDabs_23 rfl hl (by decide) rfl (fun ls hl => ?_)
      refine lv_iinc (v := (v2 + 1)) (lv' := [(2, .int (v2 + 1)), (1, .int _), (0, .ref (E.b + _))]) C.x C.b dX12_allDabs_24 hl (k := 2) rfl (by first | rfl | decide) (by decide) rfl (fun ls hl => ?_)
      refine lv_goto (tgt := 4) C.x C.b dX12_allDabs_27 rfl ?_
      exact ih (v1 + x19_4) (v2 + 1) hf _ _ _ hW (lv_sub hl [2, 1, 0] rfl)
set_option maxRecDepth 100000 in
set_option maxHeartbeats 4000000 in
theorem qX12_allDabs (l : Launch) (E : Ev) {M : Mm} {o : Nat} {rz : Int32} (hf : fX12_allDabs M o = some rz) : Ct l E yX12_allDabs cX12_allDabs 3 (some .int) 1 22 0 0 [.ref (E.b + o)] M (some (.int rz)) M := by
  refine ct_of (by decide +kernel) (Nat.le_of_ble_eq_true rfl) fun p e s m args below meth c C hr hin hW ls hl => ?_
  have hl : lv_has ls 3 [(0, .ref (E.b + o))] := hl
  unfold fX12_allDabs at hf
  refine lv_iconst (v := 0) C.x C.b dX12_allDabs_0 (by decide) ?_
  refine lv_istore_n (lv' := [(1, .int _), (0, .ref (E.b + _))]) C.x C.b dX12_allDabs_1 rfl hl (by decide) rfl (fun ls hl => ?_)
  refine lv_iconst (v := 0) C.x C.b dX12_allDabs_2 (by decide) ?_
  refine lv_istore_n (lv' := [(2, .int _), (1, .int _), (0, .ref (E.b + _))]) C.x C.b dX12_allDabs_3 rfl hl (by decide) rfl (fun ls hl => ?_)
  exact kX12_allDabs_L4 C hr hin FL 0 0 hf _ _ _ hW (lv_sub hl [2, 1, 0] rfl)

theorem dX12_many_0 : decode cX12_many 0 = .ok (.iload_n 1, 1) := by decide +kernel
theorem dX12_many_1 : decode cX12_many 1 = .ok (.tableswitch 91 0 6 #[43, 50, 66, 71, 76, 81, 86], 43) := by decide +kernel
theorem dX12_many_44 : decode cX12_many 44 = .ok (.aload_n 0, 1) := by decide +kernel
theorem dX12_many_45 : decode cX12_many 45 = .ok (.getfield 9, 3) := by decide +kernel
theorem dX12_many_48 : decode cX12_many 48 = .ok (.iconst 0, 1) := by decide +kernel
theorem dX12_many_49 : decode cX12_many 49 = .ok (.iaload, 1) := by decide +kernel
theorem dX12_many_50 : decode cX12_many 50 = .ok (.ireturn, 1) := by decide +kernel
theorem dX12_many_51 : decode cX12_many 51 = .ok (.aload_n 0, 1) := by decide +kernel
theorem dX12_many_52 : decode cX12_many 52 = .ok (.getfield 9, 3) := by decide +kernel
theorem dX12_many_55 : decode cX12_many 55 = .ok (.bipush 12, 2) := by decide +kernel
theorem dX12_many_57 : decode cX12_many 57 = .ok (.iaload, 1) := by decide +kernel
theorem dX12_many_58 : decode cX12_many 58 = .ok (.aload_n 0, 1) := by decide +kernel
theorem dX12_many_59 : decode cX12_many 59 = .ok (.getfield 9, 3) := by decide +kernel
theorem dX12_many_62 : decode cX12_many 62 = .ok (.bipush 13, 2) := by decide +kernel
theorem dX12_many_64 : decode cX12_many 64 = .ok (.iaload, 1) := by decide +kernel
theorem dX12_many_65 : decode cX12_many 65 = .ok (.iadd, 1) := by decide +kernel
theorem dX12_many_66 : decode cX12_many 66 = .ok (.ireturn, 1) := by decide +kernel
theorem dX12_many_67 : decode cX12_many 67 = .ok (.aload_n 0, 1) := by decide +kernel
theorem dX12_many_68 : decode cX12_many 68 = .ok (.invokevirtual 465, 3) := by decide +kernel
theorem dX12_many_71 : decode cX12_many 71 = .ok (.ireturn, 1) := by decide +kernel
theorem dX12_many_72 : decode cX12_many 72 = .ok (.aload_n 0, 1) := by decide +kernel
theorem dX12_many_73 : decode cX12_many 73 = .ok (.invokevirtual 468, 3) := by decide +kernel
theorem dX12_many_76 : decode cX12_many 76 = .ok (.ireturn, 1) := by decide +kernel
theorem dX12_many_77 : decode cX12_many 77 = .ok (.aload_n 0, 1) := by decide +kernel
theorem dX12_many_78 : decode cX12_many 78 = .ok (.getfield 391, 3) := by decide +kernel
theorem dX12_many_81 : decode cX12_many 81 = .ok (.ireturn, 1) := by decide +kernel
theorem dX12_many_82 : decode cX12_many 82 = .ok (.aload_n 0, 1) := by decide +kernel
theorem dX12_many_83 : decode cX12_many 83 = .ok (.getfield 280, 3) := by decide +kernel
theorem dX12_many_86 : decode cX12_many 86 = .ok (.ireturn, 1) := by decide +kernel
theorem dX12_many_87 : decode cX12_many 87 = .ok (.aload_n 0, 1) := by decide +kernel
theorem dX12_many_88 : decode cX12_many 88 = .ok (.getfield 421, 3) := by decide +kernel
theorem dX12_many_91 : decode cX12_many 91 = .ok (.ireturn, 1) := by decide +kernel
theorem dX12_many_92 : decode cX12_many 92 = .ok (.iconst (-1), 1) := by decide +kernel
theorem dX12_many_93 : decode cX12_many 93 = .ok (.ireturn, 1) := by decide +kernel
theorem hd_X12_ladders : yX12_ladders.cls ≠ "java/lang/invoke/MethodHandle" ∧ yX12_ladders.cls ≠ "java/lang/invoke/VarHandle" ∧ (parseMethodDescriptor yX12_ladders.desc).map (fun d => d.parameters.length) = some 0 := by decide +kernel
theorem gv_X12_465 : GoodIn gT (wsV "NylonLadderModel" 465 "NylonLadderModel" yX12_ladders (Cond.code yX12_ladders cX12_ladders 3 (some .int) :: gT)) := good_V T_8_220 T_8_222 TS_102 T_1_10 T_8_223
theorem hd_X12_allDabs : yX12_allDabs.cls ≠ "java/lang/invoke/MethodHandle" ∧ yX12_allDabs.cls ≠ "java/lang/invoke/VarHandle" ∧ (parseMethodDescriptor yX12_allDabs.desc).map (fun d => d.parameters.length) = some 0 := by decide +kernel
theorem gv_X12_468 : GoodIn gT (wsV "NylonLadderModel" 468 "NylonLadderModel" yX12_allDabs (Cond.code yX12_allDabs cX12_allDabs 3 (some .int) :: gT)) := good_V T_8_224 T_8_226 TS_103 T_1_10 T_8_227
def fX12_many (M : Mm) (o : Nat) (p1 : Int32) : Option Int32 :=
  if p1 = 0 then
    B1 (rdN M o 15 0) fun a45_1 =>
    B1 (alI M a45_1 0) fun x49_2 =>
    some x49_2
  else
    if p1 = 1 then
      B1 (rdN M o 15 0) fun a52_3 =>
      B1 (alI M a52_3 12) fun x57_4 =>
      B1 (rdN M o 15 0) fun a59_5 =>
      B1 (alI M a59_5 13) fun x64_6 =>
      some (x57_4 + x64_6)
    else
      if p1 = 2 then
        B1 (gk M o 15) fun _ =>
        B1 (fX12_ladders M o) fun x68_8 =>
        some x68_8
      else
        if p1 = 3 then
          B1 (gk M o 15) fun _ =>
          B1 (fX12_allDabs M o) fun x73_10 =>
          some x73_10
        else
          if p1 = 4 then
            B1 (rdI M o 15 11) fun x78_11 =>
            some x78_11
          else
            if p1 = 5 then
              B1 (rdI M o 15 6) fun x83_12 =>
              some x83_12
            else
              if p1 = 6 then
                B1 (rdI M o 15 20) fun x88_13 =>
                some x88_13
              else
                some (-1)
set_option maxRecDepth 100000 in
set_option maxHeartbeats 4000000 in
theorem qX12_many (l : Launch) (E : Ev) {M : Mm} {o : Nat} {p1 : Int32} {rz : Int32} (hf : fX12_many M o p1 = some rz) : Ct l E yX12_many cX12_many 2 (some .int) 3 65 0 0 [.ref (E.b + o), .int p1] M (some (.int rz)) M := by
  refine ct_of (by decide +kernel) (Nat.le_of_ble_eq_true rfl) fun p e s m args below meth c C hr hin hW ls hl => ?_
  have hl : lv_has ls 2 [(0, .ref (E.b + o)), (1, .int p1)] := hl
  unfold fX12_many at hf
  refine lv_iload_n C.x C.b dX12_many_0 rfl (lv_at hl 1 rfl) ?_
  by_cases s1_0 : p1 = 0
  · replace hf := x_ip s1_0 hf
    refine lv_tableIn (off := 43) (tgt := 44) C.x C.b dX12_many_1 (by rw [s1_0]; decide) (by rw [s1_0]; decide) (by rw [s1_0]; rfl) rfl ?_
    refine lv_aload_n C.x C.b dX12_many_44 rfl (lv_at hl 0 rfl) ?_
    replace hf := x_b1 hf; obtain ⟨a45_1, ha45_1, hf⟩ := hf
    refine x_getn C hW fg_X12_9_15 ha45_1 dX12_many_45 ?_
    refine lv_iconst (v := 0) C.x C.b dX12_many_48 (by decide) ?_
    replace hf := x_b1 hf; obtain ⟨x49_2, hx49_2, hf⟩ := hf
    refine x_iald C hW hx49_2 dX12_many_49 ?_
    rw [x_e0 hf]
    exact x_iret C hr hW dX12_many_50
  · replace hf := x_in s1_0 hf
    by_cases s1_1 : p1 = 1
    · replace hf := x_ip s1_1 hf
      refine lv_tableIn (off := 50) (tgt := 51) C.x C.b dX12_many_1 (by rw [s1_1]; decide) (by rw [s1_1]; decide) (by rw [s1_1]; rfl) rfl ?_
      refine lv_aload_n C.x C.b dX12_many_51 rfl (lv_at hl 0 rfl) ?_
      replace hf := x_b1 hf; obtain ⟨a52_3, ha52_3, hf⟩ := hf
      refine x_getn C hW fg_X12_9_15 ha52_3 dX12_many_52 ?_
      refine lv_bipush (v := 12) C.x C.b dX12_many_55 (by decide) ?_
      replace hf := x_b1 hf; obtain ⟨x57_4, hx57_4, hf⟩ := hf
      refine x_iald C hW hx57_4 dX12_many_57 ?_
      refine lv_aload_n C.x C.b dX12_many_58 rfl (lv_at hl 0 rfl) ?_
      replace hf := x_b1 hf; obtain ⟨a59_5, ha59_5, hf⟩ := hf
      refine x_getn C hW fg_X12_9_15 ha59_5 dX12_many_59 ?_
      refine lv_bipush (v := 13) C.x C.b dX12_many_62 (by decide) ?_
      replace hf := x_b1 hf; obtain ⟨x64_6, hx64_6, hf⟩ := hf
      refine x_iald C hW hx64_6 dX12_many_64 ?_
      refine lv_iadd C.x C.b dX12_many_65 ?_
      rw [x_e0 hf]
      exact x_iret C hr hW dX12_many_66
    · replace hf := x_in s1_1 hf
      by_cases s1_2 : p1 = 2
      · replace hf := x_ip s1_2 hf
        refine lv_tableIn (off := 66) (tgt := 67) C.x C.b dX12_many_1 (by rw [s1_2]; decide) (by rw [s1_2]; decide) (by rw [s1_2]; rfl) rfl ?_
        refine lv_aload_n C.x C.b dX12_many_67 rfl (lv_at hl 0 rfl) ?_
        replace hf := x_b1 hf; obtain ⟨_, hk68_7, hf⟩ := hf
        replace hf := x_b1 hf; obtain ⟨x68_8, hx68_8, hf⟩ := hf
        refine x_callV (As := []) (a := o) (rest := []) C hW hl (qX12_ladders l E hx68_8) (x_gk hk68_7) (by decide) (by decide) rfl gv_X12_465 ⟨rfl, hd_X12_ladders⟩ rfl rfl (Nat.le_of_ble_eq_true rfl) dX12_many_68 ⟨Nat.le_of_ble_eq_true rfl, Nat.le_of_ble_eq_true rfl⟩ ⟨Nat.le_of_ble_eq_true rfl, Nat.le_of_ble_eq_true rfl⟩ (fun H locs hW => ?_)
        rw [x_e0 hf]
        exact x_iret C hr hW dX12_many_71
      · replace hf := x_in s1_2 hf
        by_cases s1_3 : p1 = 3
        · replace hf := x_ip s1_3 hf
          refine lv_tableIn (off := 71) (tgt := 72) C.x C.b dX12_many_1 (by rw [s1_3]; decide) (by rw [s1_3]; decide) (by rw [s1_3]; rfl) rfl ?_
          refine lv_aload_n C.x C.b dX12_many_72 rfl (lv_at hl 0 rfl) ?_
          replace hf := x_b1 hf; obtain ⟨_, hk73_9, hf⟩ := hf
          replace hf := x_b1 hf; obtain ⟨x73_10, hx73_10, hf⟩ := hf
          refine x_callV (As := []) (a := o) (rest := []) C hW hl (qX12_allDabs l E hx73_10) (x_gk hk73_9) (by decide) (by decide) rfl gv_X12_468 ⟨rfl, hd_X12_allDabs⟩ rfl rfl (Nat.le_of_ble_eq_true rfl) dX12_many_73 ⟨Nat.le_of_ble_eq_true rfl, Nat.le_of_ble_eq_true rfl⟩ ⟨Nat.le_of_ble_eq_true rfl, Nat.le_of_ble_eq_true rfl⟩ (fun H locs hW => ?_)
          rw [x_e0 hf]
          exact x_iret C hr hW dX12_many_76
        · replace hf := x_in s1_3 hf
          by_cases s1_4 : p1 = 4
          · replace hf := x_ip s1_4 hf
            refine lv_tableIn (off := 76) (tgt := 77) C.x C.b dX12_many_1 (by rw [s1_4]; decide) (by rw [s1_4]; decide) (by rw [s1_4]; rfl) rfl ?_
            refine lv_aload_n C.x C.b dX12_many_77 rfl (lv_at hl 0 rfl) ?_
            replace hf := x_b1 hf; obtain ⟨x78_11, hx78_11, hf⟩ := hf
            refine x_geti C hW fg_X12_391_15 hx78_11 dX12_many_78 ?_
            rw [x_e0 hf]
            exact x_iret C hr hW dX12_many_81
          · replace hf := x_in s1_4 hf
            by_cases s1_5 : p1 = 5
            · replace hf := x_ip s1_5 hf
              refine lv_tableIn (off := 81) (tgt := 82) C.x C.b dX12_many_1 (by rw [s1_5]; decide) (by rw [s1_5]; decide) (by rw [s1_5]; rfl) rfl ?_
              refine lv_aload_n C.x C.b dX12_many_82 rfl (lv_at hl 0 rfl) ?_
              replace hf := x_b1 hf; obtain ⟨x83_12, hx83_12, hf⟩ := hf
              refine x_geti C hW fg_X12_280_15 hx83_12 dX12_many_83 ?_
              rw [x_e0 hf]
              exact x_iret C hr hW dX12_many_86
            · replace hf := x_in s1_5 hf
              by_cases s1_6 : p1 = 6
              · replace hf := x_ip s1_6 hf
                refine lv_tableIn (off := 86) (tgt := 87) C.x C.b dX12_many_1 (by rw [s1_6]; decide) (by rw [s1_6]; decide) (by rw [s1_6]; rfl) rfl ?_
                refine lv_aload_n C.x C.b dX12_many_87 rfl (lv_at hl 0 rfl) ?_
                replace hf := x_b1 hf; obtain ⟨x88_13, hx88_13, hf⟩ := hf
                refine x_geti C hW fg_X12_421_15 hx88_13 dX12_many_88 ?_
                rw [x_e0 hf]
                exact x_iret C hr hW dX12_many_91
              · replace hf := x_in s1_6 hf
                have s1_0_ := lv_neT (a := 0) s1_0 rfl
                have s1_1_ := lv_neT (a := 1) s1_1 rfl
                have s1_2_ := lv_neT (a := 2) s1_2 rfl
                have s1_3_ := lv_neT (a := 3) s1_3 rfl
                have s1_4_ := lv_neT (a := 4) s1_4 rfl
                have s1_5_ := lv_neT (a := 5) s1_5 rfl
                have s1_6_ := lv_neT (a := 6) s1_6 rfl
                refine lv_tableOut (tgt := 92) C.x C.b dX12_many_1 (by omega) rfl ?_
                refine lv_iconst (v := (-1)) C.x C.b dX12_many_92 (by decide) ?_
                rw [x_e0 hf]
                exact x_iret C hr hW dX12_many_93

theorem dX12_keep_0 : decode cX12_keep 0 = .ok (.aload_n 0, 1) := by decide +kernel
theorem dX12_keep_1 : decode cX12_keep 1 = .ok (.getfield 9, 3) := by decide +kernel
theorem dX12_keep_4 : decode cX12_keep 4 = .ok (.aload_n 0, 1) := by decide +kernel
theorem dX12_keep_5 : decode cX12_keep 5 = .ok (.getfield 13, 3) := by decide +kernel
theorem dX12_keep_8 : decode cX12_keep 8 = .ok (.invokestatic 204, 3) := by decide +kernel
theorem dX12_keep_11 : decode cX12_keep 11 = .ok (.aload_n 0, 1) := by decide +kernel
theorem dX12_keep_12 : decode cX12_keep 12 = .ok (.iconst 1, 1) := by decide +kernel
theorem dX12_keep_13 : decode cX12_keep 13 = .ok (.putfield 471, 3) := by decide +kernel
theorem dX12_keep_16 : decode cX12_keep 16 = .ok (.iconst 1, 1) := by decide +kernel
theorem dX12_keep_17 : decode cX12_keep 17 = .ok (.ireturn, 1) := by decide +kernel
theorem fg_X12_13_15 : FdG "NylonLadderModel" 13 15 1 true := ⟨_, _, _, _, rfl, by decide, by decide, by decide, gxX12, by decide, T_6_50, Or.inl rfl, rfl⟩
theorem fp_X12_471_15 : FdP "NylonLadderModel" 471 15 4 false .boolean false := ⟨_, _, _, _, _, rfl, by decide, by decide, by decide, gxX12, by decide, T_6_53, Or.inl rfl, rfl, tyX12_ok, nmX12, by decide +kernel, rfl, fun h => by cases h⟩
def fX12_keep (M : Mm) (o : Nat) : Option (Int32 × Mm) :=
  B1 (rdN M o 15 0) fun a1_1 =>
  B1 (rdN M o 15 1) fun a5_2 =>
  B1 (fX12_become M a1_1 a5_2) fun M8_3 =>
  B1 (wrZ M8_3 o 15 4 1) fun M13_4 =>
  some (1, M13_4)
set_option maxRecDepth 100000 in
set_option maxHeartbeats 4000000 in
theorem qX12_keep (l : Launch) (E : Ev) {M : Mm} {o : Nat} {rz : Int32} {Mz : Mm} (hf : fX12_keep M o = some (rz, Mz)) : Ct l E yX12_keep cX12_keep 1 (some .int) 1 22 0 0 [.ref (E.b + o)] M (some (.int rz)) Mz := by
  refine ct_of (by decide +kernel) (Nat.le_of_ble_eq_true rfl) fun p e s m args below meth c C hr hin hW ls hl => ?_
  have hl : lv_has ls 1 [(0, .ref (E.b + o))] := hl
  unfold fX12_keep at hf
  refine lv_aload_n C.x C.b dX12_keep_0 rfl (lv_at hl 0 rfl) ?_
  replace hf := x_b1 hf; obtain ⟨a1_1, ha1_1, hf⟩ := hf
  refine x_getn C hW fg_X12_9_15 ha1_1 dX12_keep_1 ?_
  refine lv_aload_n C.x C.b dX12_keep_4 rfl (lv_at hl 0 rfl) ?_
  replace hf := x_b1 hf; obtain ⟨a5_2, ha5_2, hf⟩ := hf
  refine x_getn C hW fg_X12_13_15 ha5_2 dX12_keep_5 ?_
  replace hf := x_b1 hf; obtain ⟨M8_3, hM8_3, hf⟩ := hf
  refine x_callS (As := [.ref (E.b + a1_1), .ref (E.b + a5_2)]) (rest := []) C hW hl (qX12_become l E hM8_3) gs_X12_204 hd_X12_become rfl rfl (Nat.le_of_ble_eq_true rfl) dX12_keep_8 ⟨Nat.le_of_ble_eq_true rfl, Nat.le_of_ble_eq_true rfl⟩ ⟨Nat.le_of_ble_eq_true rfl, Nat.le_of_ble_eq_true rfl⟩ (fun H locs hW => ?_)
  refine lv_aload_n C.x C.b dX12_keep_11 rfl (lv_at hl 0 rfl) ?_
  refine lv_iconst (v := 1) C.x C.b dX12_keep_12 (by decide) ?_
  replace hf := x_b1 hf; obtain ⟨M13_4, hM13_4, hf⟩ := hf
  refine x_putz C hW fp_X12_471_15 hM13_4 (fun h => by cases h) dX12_keep_13 (fun H locs hW => ?_)
  refine lv_iconst (v := 1) C.x C.b dX12_keep_16 (by decide) ?_
  rw [x_e1 hf, x_e2 hf]
  exact x_iret C hr hW dX12_keep_17

theorem dX12_again_0 : decode cX12_again 0 = .ok (.aload_n 0, 1) := by decide +kernel
theorem dX12_again_1 : decode cX12_again 1 = .ok (.getfield 471, 3) := by decide +kernel
theorem dX12_again_4 : decode cX12_again 4 = .ok (.ifCond .ne 6, 3) := by decide +kernel
theorem dX12_again_7 : decode cX12_again 7 = .ok (.bipush (-3), 2) := by decide +kernel
theorem dX12_again_9 : decode cX12_again 9 = .ok (.ireturn, 1) := by decide +kernel
theorem dX12_again_10 : decode cX12_again 10 = .ok (.aload_n 0, 1) := by decide +kernel
theorem dX12_again_11 : decode cX12_again 11 = .ok (.getfield 13, 3) := by decide +kernel
theorem dX12_again_14 : decode cX12_again 14 = .ok (.aload_n 0, 1) := by decide +kernel
theorem dX12_again_15 : decode cX12_again 15 = .ok (.getfield 9, 3) := by decide +kernel
theorem dX12_again_18 : decode cX12_again 18 = .ok (.invokestatic 204, 3) := by decide +kernel
theorem dX12_again_21 : decode cX12_again 21 = .ok (.aload_n 0, 1) := by decide +kernel
theorem dX12_again_22 : decode cX12_again 22 = .ok (.getfield 9, 3) := by decide +kernel
theorem dX12_again_25 : decode cX12_again 25 = .ok (.iconst 0, 1) := by decide +kernel
theorem dX12_again_26 : decode cX12_again 26 = .ok (.iaload, 1) := by decide +kernel
theorem dX12_again_27 : decode cX12_again 27 = .ok (.ireturn, 1) := by decide +kernel
theorem fg_X12_471_15 : FdG "NylonLadderModel" 471 15 4 false := ⟨_, _, _, _, rfl, by decide, by decide, by decide, gxX12, by decide, T_6_53, Or.inl rfl, rfl⟩
def fX12_again (M : Mm) (o : Nat) : Option (Int32 × Mm) :=
  B1 (rdI M o 15 4) fun x1_1 =>
  if x1_1 = 0 then
    some ((-3), M)
  else
    B1 (rdN M o 15 1) fun a11_2 =>
    B1 (rdN M o 15 0) fun a15_3 =>
    B1 (fX12_become M a11_2 a15_3) fun M18_4 =>
    B1 (rdN M18_4 o 15 0) fun a22_5 =>
    B1 (alI M18_4 a22_5 0) fun x26_6 =>
    some (x26_6, M18_4)
set_option maxRecDepth 100000 in
set_option maxHeartbeats 4000000 in
theorem qX12_again (l : Launch) (E : Ev) {M : Mm} {o : Nat} {rz : Int32} {Mz : Mm} (hf : fX12_again M o = some (rz, Mz)) : Ct l E yX12_again cX12_again 1 (some .int) 1 22 0 0 [.ref (E.b + o)] M (some (.int rz)) Mz := by
  refine ct_of (by decide +kernel) (Nat.le_of_ble_eq_true rfl) fun p e s m args below meth c C hr hin hW ls hl => ?_
  have hl : lv_has ls 1 [(0, .ref (E.b + o))] := hl
  unfold fX12_again at hf
  refine lv_aload_n C.x C.b dX12_again_0 rfl (lv_at hl 0 rfl) ?_
  replace hf := x_b1 hf; obtain ⟨x1_1, hx1_1, hf⟩ := hf
  refine x_geti C hW fg_X12_471_15 hx1_1 dX12_again_1 ?_
  refine lv_if_ne (tgt := 10) C.x C.b dX12_again_4 rfl (fun c4 => ?_) (fun c4 => ?_)
  · replace hf := x_in c4 hf
    refine lv_aload_n C.x C.b dX12_again_10 rfl (lv_at hl 0 rfl) ?_
    replace hf := x_b1 hf; obtain ⟨a11_2, ha11_2, hf⟩ := hf
    refine x_getn C hW fg_X12_13_15 ha11_2 dX12_again_11 ?_
    refine lv_aload_n C.x C.b dX12_again_14 rfl (lv_at hl 0 rfl) ?_
    replace hf := x_b1 hf; obtain ⟨a15_3, ha15_3, hf⟩ := hf
    refine x_getn C hW fg_X12_9_15 ha15_3 dX12_again_15 ?_
    replace hf := x_b1 hf; obtain ⟨M18_4, hM18_4, hf⟩ := hf
    refine x_callS (As := [.ref (E.b + a11_2), .ref (E.b + a15_3)]) (rest := []) C hW hl (qX12_become l E hM18_4) gs_X12_204 hd_X12_become rfl rfl (Nat.le_of_ble_eq_true rfl) dX12_again_18 ⟨Nat.le_of_ble_eq_true rfl, Nat.le_of_ble_eq_true rfl⟩ ⟨Nat.le_of_ble_eq_true rfl, Nat.le_of_ble_eq_true rfl⟩ (fun H locs hW => ?_)
    refine lv_aload_n C.x C.b dX12_again_21 rfl (lv_at hl 0 rfl) ?_
    replace hf := x_b1 hf; obtain ⟨a22_5, ha22_5, hf⟩ := hf
    refine x_getn C hW fg_X12_9_15 ha22_5 dX12_again_22 ?_
    refine lv_iconst (v := 0) C.x C.b dX12_again_25 (by decide) ?_
    replace hf := x_b1 hf; obtain ⟨x26_6, hx26_6, hf⟩ := hf
    refine x_iald C hW hx26_6 dX12_again_26 ?_
    rw [x_e1 hf, x_e2 hf]
    exact x_iret C hr hW dX12_again_27
  · replace hf := x_ip c4 hf
    refine lv_bipush (v := (-3)) C.x C.b dX12_again_7 (by decide) ?_
    rw [x_e1 hf, x_e2 hf]
    exact x_iret C hr hW dX12_again_9

theorem dX10_init_0 : decode cX10_init 0 = .ok (.aload_n 0, 1) := by decide +kernel
theorem dX10_init_1 : decode cX10_init 1 = .ok (.invokespecial 3, 3) := by decide +kernel
theorem dX10_init_4 : decode cX10_init 4 = .ok (.aload_n 0, 1) := by decide +kernel
theorem dX10_init_5 : decode cX10_init 5 = .ok (.iconst 0, 1) := by decide +kernel
theorem dX10_init_6 : decode cX10_init 6 = .ok (.putfield 9, 3) := by decide +kernel
theorem dX10_init_9 : decode cX10_init 9 = .ok (.aload_n 0, 1) := by decide +kernel
theorem dX10_init_10 : decode cX10_init 10 = .ok (.bipush 10, 2) := by decide +kernel
theorem dX10_init_12 : decode cX10_init 12 = .ok (.newarray .int, 2) := by decide +kernel
theorem dX10_init_14 : decode cX10_init 14 = .ok (.putfield 15, 3) := by decide +kernel
theorem dX10_init_17 : decode cX10_init 17 = .ok (.aload_n 0, 1) := by decide +kernel
theorem dX10_init_18 : decode cX10_init 18 = .ok (.bipush 10, 2) := by decide +kernel
theorem dX10_init_20 : decode cX10_init 20 = .ok (.newarray .int, 2) := by decide +kernel
theorem dX10_init_22 : decode cX10_init 22 = .ok (.putfield 19, 3) := by decide +kernel
theorem dX10_init_25 : decode cX10_init 25 = .ok (.return_, 1) := by decide +kernel
theorem fp_X10_9_13 : FdP "NylonLadder$Way" 9 13 0 false .int false := ⟨_, _, _, _, _, rfl, by decide, by decide, by decide, gxX10, by decide, T_1_52, Or.inl rfl, rfl, tyX10_ok, nmX10, by decide +kernel, rfl, fun h => by cases h⟩
theorem fp_X10_15_13 : FdP "NylonLadder$Way" 15 13 1 true (.array .int) true := ⟨_, _, _, _, _, rfl, by decide, by decide, by decide, gxX10, by decide, T_1_56, Or.inl rfl, rfl, tyX10_ok, nmX10, by decide +kernel, rfl, fun _ => rfl⟩
theorem fp_X10_19_13 : FdP "NylonLadder$Way" 19 13 2 true (.array .int) true := ⟨_, _, _, _, _, rfl, by decide, by decide, by decide, gxX10, by decide, T_1_59, Or.inl rfl, rfl, tyX10_ok, nmX10, by decide +kernel, rfl, fun _ => rfl⟩
def fX10_init (M : Mm) (o : Nat) : Option Mm :=
  B1 (wrI M o 13 0 0) fun M6_1 =>
  B1 (nwA M6_1 21 10 10) fun M12_2 =>
  B1 (wrR M12_2 o 13 1 (some M6_1.n)) fun M14_3 =>
  B1 (nwA M14_3 21 10 10) fun M20_4 =>
  B1 (wrR M20_4 o 13 2 (some M14_3.n)) fun M22_5 =>
  some M22_5
set_option maxRecDepth 100000 in
set_option maxHeartbeats 4000000 in
theorem qX10_init (l : Launch) (E : Ev) {M : Mm} {o : Nat} {Mz : Mm} (hf : fX10_init M o = some Mz) : Ct l E yX10_init cX10_init 1 none 1 12 2 20 [.ref (E.b + o)] M none Mz := by
  refine ct_of (by decide +kernel) (Nat.le_of_ble_eq_true rfl) fun p e s m args below meth c C hr hin hW ls hl => ?_
  have hl : lv_has ls 1 [(0, .ref (E.b + o))] := hl
  unfold fX10_init at hf
  refine lv_aload_n C.x C.b dX10_init_0 rfl (lv_at hl 0 rfl) ?_
  refine x_objInit C hl T_1_51 T_1_35 T_1_36 dX10_init_1 (Nat.le_of_ble_eq_true rfl) (Nat.le_of_ble_eq_true rfl) ?_
  refine lv_aload_n C.x C.b dX10_init_4 rfl (lv_at hl 0 rfl) ?_
  refine lv_iconst (v := 0) C.x C.b dX10_init_5 (by decide) ?_
  replace hf := x_b1 hf; obtain ⟨M6_1, hM6_1, hf⟩ := hf
  refine x_puti C hW fp_X10_9_13 hM6_1 (fun h => by cases h) dX10_init_6 (fun H locs hW => ?_)
  refine lv_aload_n C.x C.b dX10_init_9 rfl (lv_at hl 0 rfl) ?_
  refine lv_bipush (v := 10) C.x C.b dX10_init_10 (by decide) ?_
  replace hf := x_b1 hf; obtain ⟨M12_2, hM12_2, hf⟩ := hf
  refine x_newa C hW hM12_2 T_1_69 (by decide) ⟨Nat.le_of_ble_eq_true rfl, Nat.le_of_ble_eq_true rfl⟩ dX10_init_12 (fun H hW => ?_)
  replace hf := x_b1 hf; obtain ⟨M14_3, hM14_3, hf⟩ := hf
  refine x_putr (v := (some M6_1.n)) C hW fp_X10_15_13 hM14_3 (fun _ => hin rfl) rfl rfl dX10_init_14 (fun H locs hW => ?_)
  refine lv_aload_n C.x C.b dX10_init_17 rfl (lv_at hl 0 rfl) ?_
  refine lv_bipush (v := 10) C.x C.b dX10_init_18 (by decide) ?_
  replace hf := x_b1 hf; obtain ⟨M20_4, hM20_4, hf⟩ := hf
  refine x_newa C hW hM20_4 T_1_69 (by decide) ⟨Nat.le_of_ble_eq_true rfl, Nat.le_of_ble_eq_true rfl⟩ dX10_init_20 (fun H hW => ?_)
  replace hf := x_b1 hf; obtain ⟨M22_5, hM22_5, hf⟩ := hf
  refine x_putr (v := (some M14_3.n)) C hW fp_X10_19_13 hM22_5 (fun _ => hin rfl) rfl rfl dX10_init_22 (fun H locs hW => ?_)
  rw [x_e0 hf]
  exact x_vret C hr hW dX10_init_25

theorem dX7_init_0 : decode cX7_init 0 = .ok (.aload_n 0, 1) := by decide +kernel
theorem dX7_init_1 : decode cX7_init 1 = .ok (.invokespecial 3, 3) := by decide +kernel
theorem dX7_init_4 : decode cX7_init 4 = .ok (.aload_n 0, 1) := by decide +kernel
theorem dX7_init_5 : decode cX7_init 5 = .ok (.iconst 0, 1) := by decide +kernel
theorem dX7_init_6 : decode cX7_init 6 = .ok (.putfield 9, 3) := by decide +kernel
theorem dX7_init_9 : decode cX7_init 9 = .ok (.aload_n 0, 1) := by decide +kernel
theorem dX7_init_10 : decode cX7_init 10 = .ok (.iconst 0, 1) := by decide +kernel
theorem dX7_init_11 : decode cX7_init 11 = .ok (.putfield 15, 3) := by decide +kernel
theorem dX7_init_14 : decode cX7_init 14 = .ok (.aload_n 0, 1) := by decide +kernel
theorem dX7_init_15 : decode cX7_init 15 = .ok (.iconst 0, 1) := by decide +kernel
theorem dX7_init_16 : decode cX7_init 16 = .ok (.putfield 18, 3) := by decide +kernel
theorem dX7_init_19 : decode cX7_init 19 = .ok (.aload_n 0, 1) := by decide +kernel
theorem dX7_init_20 : decode cX7_init 20 = .ok (.iconst 1, 1) := by decide +kernel
theorem dX7_init_21 : decode cX7_init 21 = .ok (.putfield 21, 3) := by decide +kernel
theorem dX7_init_24 : decode cX7_init 24 = .ok (.aload_n 0, 1) := by decide +kernel
theorem dX7_init_25 : decode cX7_init 25 = .ok (.iconst 0, 1) := by decide +kernel
theorem dX7_init_26 : decode cX7_init 26 = .ok (.putfield 24, 3) := by decide +kernel
theorem dX7_init_29 : decode cX7_init 29 = .ok (.aload_n 0, 1) := by decide +kernel
theorem dX7_init_30 : decode cX7_init 30 = .ok (.iconst 0, 1) := by decide +kernel
theorem dX7_init_31 : decode cX7_init 31 = .ok (.putfield 27, 3) := by decide +kernel
theorem dX7_init_34 : decode cX7_init 34 = .ok (.aload_n 0, 1) := by decide +kernel
theorem dX7_init_35 : decode cX7_init 35 = .ok (.bipush (-9), 2) := by decide +kernel
theorem dX7_init_37 : decode cX7_init 37 = .ok (.putfield 30, 3) := by decide +kernel
theorem dX7_init_40 : decode cX7_init 40 = .ok (.aload_n 0, 1) := by decide +kernel
theorem dX7_init_41 : decode cX7_init 41 = .ok (.bipush (-9), 2) := by decide +kernel
theorem dX7_init_43 : decode cX7_init 43 = .ok (.putfield 33, 3) := by decide +kernel
theorem dX7_init_46 : decode cX7_init 46 = .ok (.aload_n 0, 1) := by decide +kernel
theorem dX7_init_47 : decode cX7_init 47 = .ok (.iconst 0, 1) := by decide +kernel
theorem dX7_init_48 : decode cX7_init 48 = .ok (.putfield 36, 3) := by decide +kernel
theorem dX7_init_51 : decode cX7_init 51 = .ok (.aload_n 0, 1) := by decide +kernel
theorem dX7_init_52 : decode cX7_init 52 = .ok (.iconst 2, 1) := by decide +kernel
theorem dX7_init_53 : decode cX7_init 53 = .ok (.newarray .int, 2) := by decide +kernel
theorem dX7_init_55 : decode cX7_init 55 = .ok (.putfield 39, 3) := by decide +kernel
theorem dX7_init_58 : decode cX7_init 58 = .ok (.aload_n 0, 1) := by decide +kernel
theorem dX7_init_59 : decode cX7_init 59 = .ok (.iconst 2, 1) := by decide +kernel
theorem dX7_init_60 : decode cX7_init 60 = .ok (.newarray .int, 2) := by decide +kernel
theorem dX7_init_62 : decode cX7_init 62 = .ok (.putfield 43, 3) := by decide +kernel
theorem dX7_init_65 : decode cX7_init 65 = .ok (.return_, 1) := by decide +kernel
theorem fp_X7_9_10 : FdP "NylonLadder$Stocking" 9 10 0 false .int false := ⟨_, _, _, _, _, rfl, by decide, by decide, by decide, gxX7, by decide, T_1_75, Or.inl rfl, rfl, tyX7_ok, nmX7, by decide +kernel, rfl, fun h => by cases h⟩
theorem fp_X7_15_10 : FdP "NylonLadder$Stocking" 15 10 1 false .int false := ⟨_, _, _, _, _, rfl, by decide, by decide, by decide, gxX7, by decide, T_1_78, Or.inl rfl, rfl, tyX7_ok, nmX7, by decide +kernel, rfl, fun h => by cases h⟩
theorem fp_X7_18_10 : FdP "NylonLadder$Stocking" 18 10 2 false .int false := ⟨_, _, _, _, _, rfl, by decide, by decide, by decide, gxX7, by decide, T_1_80, Or.inl rfl, rfl, tyX7_ok, nmX7, by decide +kernel, rfl, fun h => by cases h⟩
theorem fp_X7_21_10 : FdP "NylonLadder$Stocking" 21 10 3 false .int false := ⟨_, _, _, _, _, rfl, by decide, by decide, by decide, gxX7, by decide, T_1_83, Or.inl rfl, rfl, tyX7_ok, nmX7, by decide +kernel, rfl, fun h => by cases h⟩
theorem fp_X7_24_10 : FdP "NylonLadder$Stocking" 24 10 4 false .int false := ⟨_, _, _, _, _, rfl, by decide, by decide, by decide, gxX7, by decide, T_1_85, Or.inl rfl, rfl, tyX7_ok, nmX7, by decide +kernel, rfl, fun h => by cases h⟩
theorem fp_X7_27_10 : FdP "NylonLadder$Stocking" 27 10 5 false .int false := ⟨_, _, _, _, _, rfl, by decide, by decide, by decide, gxX7, by decide, T_1_88, Or.inl rfl, rfl, tyX7_ok, nmX7, by decide +kernel, rfl, fun h => by cases h⟩
theorem fp_X7_30_10 : FdP "NylonLadder$Stocking" 30 10 6 false .int false := ⟨_, _, _, _, _, rfl, by decide, by decide, by decide, gxX7, by decide, T_1_90, Or.inl rfl, rfl, tyX7_ok, nmX7, by decide +kernel, rfl, fun h => by cases h⟩
theorem fp_X7_33_10 : FdP "NylonLadder$Stocking" 33 10 7 false .int false := ⟨_, _, _, _, _, rfl, by decide, by decide, by decide, gxX7, by decide, T_1_93, Or.inl rfl, rfl, tyX7_ok, nmX7, by decide +kernel, rfl, fun h => by cases h⟩
theorem fp_X7_36_10 : FdP "NylonLadder$Stocking" 36 10 8 false .int false := ⟨_, _, _, _, _, rfl, by decide, by decide, by decide, gxX7, by decide, T_1_96, Or.inl rfl, rfl, tyX7_ok, nmX7, by decide +kernel, rfl, fun h => by cases h⟩
theorem fp_X7_39_10 : FdP "NylonLadder$Stocking" 39 10 9 true (.array .int) true := ⟨_, _, _, _, _, rfl, by decide, by decide, by decide, gxX7, by decide, T_1_99, Or.inl rfl, rfl, tyX7_ok, nmX7, by decide +kernel, rfl, fun _ => rfl⟩
theorem fp_X7_43_10 : FdP "NylonLadder$Stocking" 43 10 10 true (.array .int) true := ⟨_, _, _, _, _, rfl, by decide, by decide, by decide, gxX7, by decide, T_1_100, Or.inl rfl, rfl, tyX7_ok, nmX7, by decide +kernel, rfl, fun _ => rfl⟩
def fX7_init (M : Mm) (o : Nat) : Option Mm :=
  B1 (wrI M o 10 0 0) fun M6_1 =>
  B1 (wrI M6_1 o 10 1 0) fun M11_2 =>
  B1 (wrI M11_2 o 10 2 0) fun M16_3 =>
  B1 (wrI M16_3 o 10 3 1) fun M21_4 =>
  B1 (wrI M21_4 o 10 4 0) fun M26_5 =>
  B1 (wrI M26_5 o 10 5 0) fun M31_6 =>
  B1 (wrI M31_6 o 10 6 (-9)) fun M37_7 =>
  B1 (wrI M37_7 o 10 7 (-9)) fun M43_8 =>
  B1 (wrI M43_8 o 10 8 0) fun M48_9 =>
  B1 (nwA M48_9 21 2 2) fun M53_10 =>
  B1 (wrR M53_10 o 10 9 (some M48_9.n)) fun M55_11 =>
  B1 (nwA M55_11 21 2 2) fun M60_12 =>
  B1 (wrR M60_12 o 10 10 (some M55_11.n)) fun M62_13 =>
  some M62_13
set_option maxRecDepth 100000 in
set_option maxHeartbeats 4000000 in
theorem qX7_init (l : Launch) (E : Ev) {M : Mm} {o : Nat} {Mz : Mm} (hf : fX7_init M o = some Mz) : Ct l E yX7_init cX7_init 1 none 1 12 2 4 [.ref (E.b + o)] M none Mz := by
  refine ct_of (by decide +kernel) (Nat.le_of_ble_eq_true rfl) fun p e s m args below meth c C hr hin hW ls hl => ?_
  have hl : lv_has ls 1 [(0, .ref (E.b + o))] := hl
  unfold fX7_init at hf
  refine lv_aload_n C.x C.b dX7_init_0 rfl (lv_at hl 0 rfl) ?_
  refine x_objInit C hl T_1_74 T_1_35 T_1_36 dX7_init_1 (Nat.le_of_ble_eq_true rfl) (Nat.le_of_ble_eq_true rfl) ?_
  refine lv_aload_n C.x C.b dX7_init_4 rfl (lv_at hl 0 rfl) ?_
  refine lv_iconst (v := 0) C.x C.b dX7_init_5 (by decide) ?_
  replace hf := x_b1 hf; obtain ⟨M6_1, hM6_1, hf⟩ := hf
  refine x_puti C hW fp_X7_9_10 hM6_1 (fun h => by cases h) dX7_init_6 (fun H locs hW => ?_)
  refine lv_aload_n C.x C.b dX7_init_9 rfl (lv_at hl 0 rfl) ?_
  refine lv_iconst (v := 0) C.x C.b dX7_init_10 (by decide) ?_
  replace hf := x_b1 hf; obtain ⟨M11_2, hM11_2, hf⟩ := hf
  refine x_puti C hW fp_X7_15_10 hM11_2 (fun h => by cases h) dX7_init_11 (fun H locs hW => ?_)
  refine lv_aload_n C.x C.b dX7_init_14 rfl (lv_at hl 0 rfl) ?_
  refine lv_iconst (v := 0) C.x C.b dX7_init_15 (by decide) ?_
  replace hf := x_b1 hf; obtain ⟨M16_3, hM16_3, hf⟩ := hf
  refine x_puti C hW fp_X7_18_10 hM16_3 (fun h => by cases h) dX7_init_16 (fun H locs hW => ?_)
  refine lv_aload_n C.x C.b dX7_init_19 rfl (lv_at hl 0 rfl) ?_
  refine lv_iconst (v := 1) C.x C.b dX7_init_20 (by decide) ?_
  replace hf := x_b1 hf; obtain ⟨M21_4, hM21_4, hf⟩ := hf
  refine x_puti C hW fp_X7_21_10 hM21_4 (fun h => by cases h) dX7_init_21 (fun H locs hW => ?_)
  refine lv_aload_n C.x C.b dX7_init_24 rfl (lv_at hl 0 rfl) ?_
  refine lv_iconst (v := 0) C.x C.b dX7_init_25 (by decide) ?_
  replace hf := x_b1 hf; obtain ⟨M26_5, hM26_5, hf⟩ := hf
  refine x_puti C hW fp_X7_24_10 hM26_5 (fun h => by cases h) dX7_init_26 (fun H locs hW => ?_)
  refine lv_aload_n C.x C.b dX7_init_29 rfl (lv_at hl 0 rfl) ?_
  refine lv_iconst (v := 0) C.x C.b dX7_init_30 (by decide) ?_
  replace hf := x_b1 hf; obtain ⟨M31_6, hM31_6, hf⟩ := hf
  refine x_puti C hW fp_X7_27_10 hM31_6 (fun h => by cases h) dX7_init_31 (fun H locs hW => ?_)
  refine lv_aload_n C.x C.b dX7_init_34 rfl (lv_at hl 0 rfl) ?_
  refine lv_bipush (v := (-9)) C.x C.b dX7_init_35 (by decide) ?_
  replace hf := x_b1 hf; obtain ⟨M37_7, hM37_7, hf⟩ := hf
  refine x_puti C hW fp_X7_30_10 hM37_7 (fun h => by cases h) dX7_init_37 (fun H locs hW => ?_)
  refine lv_aload_n C.x C.b dX7_init_40 rfl (lv_at hl 0 rfl) ?_
  refine lv_bipush (v := (-9)) C.x C.b dX7_init_41 (by decide) ?_
  replace hf := x_b1 hf; obtain ⟨M43_8, hM43_8, hf⟩ := hf
  refine x_puti C hW fp_X7_33_10 hM43_8 (fun h => by cases h) dX7_init_43 (fun H locs hW => ?_)
  refine lv_aload_n C.x C.b dX7_init_46 rfl (lv_at hl 0 rfl) ?_
  refine lv_iconst (v := 0) C.x C.b dX7_init_47 (by decide) ?_
  replace hf := x_b1 hf; obtain ⟨M48_9, hM48_9, hf⟩ := hf
  refine x_puti C hW fp_X7_36_10 hM48_9 (fun h => by cases h) dX7_init_48 (fun H locs hW => ?_)
  refine lv_aload_n C.x C.b dX7_init_51 rfl (lv_at hl 0 rfl) ?_
  refine lv_iconst (v := 2) C.x C.b dX7_init_52 (by decide) ?_
  replace hf := x_b1 hf; obtain ⟨M53_10, hM53_10, hf⟩ := hf
  refine x_newa C hW hM53_10 T_1_69 (by decide) ⟨Nat.le_of_ble_eq_true rfl, Nat.le_of_ble_eq_true rfl⟩ dX7_init_53 (fun H hW => ?_)
  replace hf := x_b1 hf; obtain ⟨M55_11, hM55_11, hf⟩ := hf
  refine x_putr (v := (some M48_9.n)) C hW fp_X7_39_10 hM55_11 (fun _ => hin rfl) rfl rfl dX7_init_55 (fun H locs hW => ?_)
  refine lv_aload_n C.x C.b dX7_init_58 rfl (lv_at hl 0 rfl) ?_
  refine lv_iconst (v := 2) C.x C.b dX7_init_59 (by decide) ?_
  replace hf := x_b1 hf; obtain ⟨M60_12, hM60_12, hf⟩ := hf
  refine x_newa C hW hM60_12 T_1_69 (by decide) ⟨Nat.le_of_ble_eq_true rfl, Nat.le_of_ble_eq_true rfl⟩ dX7_init_60 (fun H hW => ?_)
  replace hf := x_b1 hf; obtain ⟨M62_13, hM62_13, hf⟩ := hf
  refine x_putr (v := (some M55_11.n)) C hW fp_X7_43_10 hM62_13 (fun _ => hin rfl) rfl rfl dX7_init_62 (fun H locs hW => ?_)
  rw [x_e0 hf]
  exact x_vret C hr hW dX7_init_65

theorem dX0_init_0 : decode cX0_init 0 = .ok (.aload_n 0, 1) := by decide +kernel
theorem dX0_init_1 : decode cX0_init 1 = .ok (.invokespecial 3, 3) := by decide +kernel
theorem dX0_init_4 : decode cX0_init 4 = .ok (.aload_n 0, 1) := by decide +kernel
theorem dX0_init_5 : decode cX0_init 5 = .ok (.bipush 8, 2) := by decide +kernel
theorem dX0_init_7 : decode cX0_init 7 = .ok (.newarray .int, 2) := by decide +kernel
theorem dX0_init_9 : decode cX0_init 9 = .ok (.putfield 9, 3) := by decide +kernel
theorem dX0_init_12 : decode cX0_init 12 = .ok (.aload_n 0, 1) := by decide +kernel
theorem dX0_init_13 : decode cX0_init 13 = .ok (.bipush 8, 2) := by decide +kernel
theorem dX0_init_15 : decode cX0_init 15 = .ok (.anewarray 15, 3) := by decide +kernel
theorem dX0_init_18 : decode cX0_init 18 = .ok (.putfield 17, 3) := by decide +kernel
theorem dX0_init_21 : decode cX0_init 21 = .ok (.aload_n 0, 1) := by decide +kernel
theorem dX0_init_22 : decode cX0_init 22 = .ok (.iconst 0, 1) := by decide +kernel
theorem dX0_init_23 : decode cX0_init 23 = .ok (.putfield 21, 3) := by decide +kernel
theorem dX0_init_26 : decode cX0_init 26 = .ok (.aload_n 0, 1) := by decide +kernel
theorem dX0_init_27 : decode cX0_init 27 = .ok (.iconst 2, 1) := by decide +kernel
theorem dX0_init_28 : decode cX0_init 28 = .ok (.newarray .int, 2) := by decide +kernel
theorem dX0_init_30 : decode cX0_init 30 = .ok (.dup, 1) := by decide +kernel
theorem dX0_init_31 : decode cX0_init 31 = .ok (.iconst 0, 1) := by decide +kernel
theorem dX0_init_32 : decode cX0_init 32 = .ok (.iconst (-1), 1) := by decide +kernel
theorem dX0_init_33 : decode cX0_init 33 = .ok (.iastore, 1) := by decide +kernel
theorem dX0_init_34 : decode cX0_init 34 = .ok (.dup, 1) := by decide +kernel
theorem dX0_init_35 : decode cX0_init 35 = .ok (.iconst 1, 1) := by decide +kernel
theorem dX0_init_36 : decode cX0_init 36 = .ok (.iconst (-1), 1) := by decide +kernel
theorem dX0_init_37 : decode cX0_init 37 = .ok (.iastore, 1) := by decide +kernel
theorem dX0_init_38 : decode cX0_init 38 = .ok (.putfield 25, 3) := by decide +kernel
theorem dX0_init_41 : decode cX0_init 41 = .ok (.aload_n 0, 1) := by decide +kernel
theorem dX0_init_42 : decode cX0_init 42 = .ok (.iconst 2, 1) := by decide +kernel
theorem dX0_init_43 : decode cX0_init 43 = .ok (.anewarray 28, 3) := by decide +kernel
theorem dX0_init_46 : decode cX0_init 46 = .ok (.dup, 1) := by decide +kernel
theorem dX0_init_47 : decode cX0_init 47 = .ok (.iconst 0, 1) := by decide +kernel
theorem dX0_init_48 : decode cX0_init 48 = .ok (.new 28, 3) := by decide +kernel
theorem dX0_init_51 : decode cX0_init 51 = .ok (.dup, 1) := by decide +kernel
theorem dX0_init_52 : decode cX0_init 52 = .ok (.invokespecial 30, 3) := by decide +kernel
theorem dX0_init_55 : decode cX0_init 55 = .ok (.aastore, 1) := by decide +kernel
theorem dX0_init_56 : decode cX0_init 56 = .ok (.dup, 1) := by decide +kernel
theorem dX0_init_57 : decode cX0_init 57 = .ok (.iconst 1, 1) := by decide +kernel
theorem dX0_init_58 : decode cX0_init 58 = .ok (.new 28, 3) := by decide +kernel
theorem dX0_init_61 : decode cX0_init 61 = .ok (.dup, 1) := by decide +kernel
theorem dX0_init_62 : decode cX0_init 62 = .ok (.invokespecial 30, 3) := by decide +kernel
theorem dX0_init_65 : decode cX0_init 65 = .ok (.aastore, 1) := by decide +kernel
theorem dX0_init_66 : decode cX0_init 66 = .ok (.putfield 31, 3) := by decide +kernel
theorem dX0_init_69 : decode cX0_init 69 = .ok (.aload_n 0, 1) := by decide +kernel
theorem dX0_init_70 : decode cX0_init 70 = .ok (.iconst 1, 1) := by decide +kernel
theorem dX0_init_71 : decode cX0_init 71 = .ok (.putfield 35, 3) := by decide +kernel
theorem dX0_init_74 : decode cX0_init 74 = .ok (.iconst 0, 1) := by decide +kernel
theorem dX0_init_75 : decode cX0_init 75 = .ok (.istore_n 1, 1) := by decide +kernel
theorem dX0_init_76 : decode cX0_init 76 = .ok (.iload_n 1, 1) := by decide +kernel
theorem dX0_init_77 : decode cX0_init 77 = .ok (.bipush 8, 2) := by decide +kernel
theorem dX0_init_79 : decode cX0_init 79 = .ok (.if_icmp .ge 22, 3) := by decide +kernel
theorem dX0_init_82 : decode cX0_init 82 = .ok (.aload_n 0, 1) := by decide +kernel
theorem dX0_init_83 : decode cX0_init 83 = .ok (.getfield 17, 3) := by decide +kernel
theorem dX0_init_86 : decode cX0_init 86 = .ok (.iload_n 1, 1) := by decide +kernel
theorem dX0_init_87 : decode cX0_init 87 = .ok (.new 15, 3) := by decide +kernel
theorem dX0_init_90 : decode cX0_init 90 = .ok (.dup, 1) := by decide +kernel
theorem dX0_init_91 : decode cX0_init 91 = .ok (.invokespecial 38, 3) := by decide +kernel
theorem dX0_init_94 : decode cX0_init 94 = .ok (.aastore, 1) := by decide +kernel
theorem dX0_init_95 : decode cX0_init 95 = .ok (.iinc 1 1, 3) := by decide +kernel
theorem dX0_init_98 : decode cX0_init 98 = .ok (.goto (-22), 3) := by decide +kernel
theorem dX0_init_101 : decode cX0_init 101 = .ok (.getstatic 39, 3) := by decide +kernel
theorem dX0_init_104 : decode cX0_init 104 = .ok (.iconst 0, 1) := by decide +kernel
theorem dX0_init_105 : decode cX0_init 105 = .ok (.aload_n 0, 1) := by decide +kernel
theorem dX0_init_106 : decode cX0_init 106 = .ok (.getfield 9, 3) := by decide +kernel
theorem dX0_init_109 : decode cX0_init 109 = .ok (.iconst 0, 1) := by decide +kernel
theorem dX0_init_110 : decode cX0_init 110 = .ok (.aload_n 0, 1) := by decide +kernel
theorem dX0_init_111 : decode cX0_init 111 = .ok (.getfield 9, 3) := by decide +kernel
theorem dX0_init_114 : decode cX0_init 114 = .ok (.arraylength, 1) := by decide +kernel
theorem dX0_init_115 : decode cX0_init 115 = .ok (.invokestatic 42, 3) := by decide +kernel
theorem dX0_init_118 : decode cX0_init 118 = .ok (.return_, 1) := by decide +kernel
theorem fp_X0_9_3 : FdP "NylonLadder$Drawer" 9 3 0 true (.array .int) true := ⟨_, _, _, _, _, rfl, by decide, by decide, by decide, gxX0, by decide, T_1_130, Or.inl rfl, rfl, tyX0_ok, nmX0, by decide +kernel, rfl, fun _ => rfl⟩
theorem fp_X0_17_3 : FdP "NylonLadder$Drawer" 17 3 1 true (.array (.object "NylonLadder$Stocking")) true := ⟨_, _, _, _, _, rfl, by decide, by decide, by decide, gxX0, by decide, T_1_133, Or.inl rfl, rfl, tyX0_ok, nmX0, by decide +kernel, rfl, fun _ => rfl⟩
theorem fp_X0_21_3 : FdP "NylonLadder$Drawer" 21 3 2 false .int false := ⟨_, _, _, _, _, rfl, by decide, by decide, by decide, gxX0, by decide, T_1_136, Or.inl rfl, rfl, tyX0_ok, nmX0, by decide +kernel, rfl, fun h => by cases h⟩
theorem fp_X0_25_3 : FdP "NylonLadder$Drawer" 25 3 3 true (.array .int) true := ⟨_, _, _, _, _, rfl, by decide, by decide, by decide, gxX0, by decide, T_1_139, Or.inl rfl, rfl, tyX0_ok, nmX0, by decide +kernel, rfl, fun _ => rfl⟩
theorem nw_X0_28 : NwO "NylonLadder$Drawer" 28 13 3 := ⟨_, _, _, rfl, by decide, by decide, gxX10, tyX10_ok, T_1_45, T_1_47, T_1_3, fun _ => rfl, by decide +kernel⟩
theorem hd_X10_init : yX10_init.cls ≠ "java/lang/invoke/MethodHandle" ∧ yX10_init.cls ≠ "java/lang/invoke/VarHandle" ∧ (parseMethodDescriptor yX10_init.desc).map (fun d => d.parameters.length) = some 0 := by decide +kernel
theorem fp_X0_31_3 : FdP "NylonLadder$Drawer" 31 3 4 true (.array (.object "NylonLadder$Way")) true := ⟨_, _, _, _, _, rfl, by decide, by decide, by decide, gxX0, by decide, T_1_142, Or.inl rfl, rfl, tyX0_ok, nmX0, by decide +kernel, rfl, fun _ => rfl⟩
theorem fp_X0_35_3 : FdP "NylonLadder$Drawer" 35 3 5 false .int false := ⟨_, _, _, _, _, rfl, by decide, by decide, by decide, gxX0, by decide, T_1_145, Or.inl rfl, rfl, tyX0_ok, nmX0, by decide +kernel, rfl, fun h => by cases h⟩
theorem fg_X0_17_3 : FdG "NylonLadder$Drawer" 17 3 1 true := ⟨_, _, _, _, rfl, by decide, by decide, by decide, gxX0, by decide, T_1_133, Or.inl rfl, rfl⟩
theorem nw_X0_15 : NwO "NylonLadder$Drawer" 15 10 11 := ⟨_, _, _, rfl, by decide, by decide, gxX7, tyX7_ok, T_1_43, T_1_70, T_1_4, fun _ => rfl, by decide +kernel⟩
theorem hd_X7_init : yX7_init.cls ≠ "java/lang/invoke/MethodHandle" ∧ yX7_init.cls ≠ "java/lang/invoke/VarHandle" ∧ (parseMethodDescriptor yX7_init.desc).map (fun d => d.parameters.length) = some 0 := by decide +kernel
theorem fg_X0_9_3 : FdG "NylonLadder$Drawer" 9 3 0 true := ⟨_, _, _, _, rfl, by decide, by decide, by decide, gxX0, by decide, T_1_130, Or.inl rfl, rfl⟩
def fX0_init (M : Mm) (o : Nat) : Option Mm :=
  B1 (nwA M 21 8 8) fun M7_1 =>
  B1 (wrR M7_1 o 3 0 (some M.n)) fun M9_2 =>
  B1 (nwA M9_2 23 8 8) fun M15_3 =>
  B1 (wrR M15_3 o 3 1 (some M9_2.n)) fun M18_4 =>
  B1 (wrI M18_4 o 3 2 0) fun M23_5 =>
  B1 (nwA M23_5 21 2 2) fun M28_6 =>
  B1 (asI M28_6 M23_5.n 0 (-1)) fun M33_7 =>
  B1 (asI M33_7 M23_5.n 1 (-1)) fun M37_8 =>
  B1 (wrR M37_8 o 3 3 (some M23_5.n)) fun M38_9 =>
  B1 (nwA M38_9 24 2 2) fun M43_10 =>
  B1 (nwO M43_10 13) fun M48_11 =>
  B1 (fX10_init M48_11 M43_10.n) fun M52_12 =>
  B1 (asR M52_12 M38_9.n 24 0 13 (some M43_10.n)) fun M55_13 =>
  B1 (nwO M55_13 13) fun M58_14 =>
  B1 (fX10_init M58_14 M55_13.n) fun M62_15 =>
  B1 (asR M62_15 M38_9.n 24 1 13 (some M55_13.n)) fun M65_16 =>
  B1 (wrR M65_16 o 3 4 (some M38_9.n)) fun M66_17 =>
  B1 (wrI M66_17 o 3 5 1) fun M71_18 =>
  B1 (rdN M71_18 o 3 1) fun a83_19 =>
  B1 (nwO M71_18 10) fun M87_20 =>
  B1 (fX7_init M87_20 M71_18.n) fun M91_21 =>
  B1 (asR M91_21 a83_19 23 0 10 (some M71_18.n)) fun M94_22 =>
  B1 (rdN M94_22 o 3 1) fun a83_23 =>
  B1 (nwO M94_22 10) fun M87_24 =>
  B1 (fX7_init M87_24 M94_22.n) fun M91_25 =>
  B1 (asR M91_25 a83_23 23 1 10 (some M94_22.n)) fun M94_26 =>
  B1 (rdN M94_26 o 3 1) fun a83_27 =>
  B1 (nwO M94_26 10) fun M87_28 =>
  B1 (fX7_init M87_28 M94_26.n) fun M91_29 =>
  B1 (asR M91_29 a83_27 23 2 10 (some M94_26.n)) fun M94_30 =>
  B1 (rdN M94_30 o 3 1) fun a83_31 =>
  B1 (nwO M94_30 10) fun M87_32 =>
  B1 (fX7_init M87_32 M94_30.n) fun M91_33 =>
  B1 (asR M91_33 a83_31 23 3 10 (some M94_30.n)) fun M94_34 =>
  B1 (rdN M94_34 o 3 1) fun a83_35 =>
  B1 (nwO M94_34 10) fun M87_36 =>
  B1 (fX7_init M87_36 M94_34.n) fun M91_37 =>
  B1 (asR M91_37 a83_35 23 4 10 (some M94_34.n)) fun M94_38 =>
  B1 (rdN M94_38 o 3 1) fun a83_39 =>
  B1 (nwO M94_38 10) fun M87_40 =>
  B1 (fX7_init M87_40 M94_38.n) fun M91_41 =>
  B1 (asR M91_41 a83_39 23 5 10 (some M94_38.n)) fun M94_42 =>
  B1 (rdN M94_42 o 3 1) fun a83_43 =>
  B1 (nwO M94_42 10) fun M87_44 =>
  B1 (fX7_init M87_44 M94_42.n) fun M91_45 =>
  B1 (asR M91_45 a83_43 23 6 10 (some M94_42.n)) fun M94_46 =>
  B1 (rdN M94_46 o 3 1) fun a83_47 =>
  B1 (nwO M94_46 10) fun M87_48 =>
  B1 (fX7_init M87_48 M94_46.n) fun M91_49 =>
  B1 (asR M91_49 a83_47 23 7 10 (some M94_46.n)) fun M94_50 =>
  B1 (rdN M94_50 o 3 0) fun a106_51 =>
  B1 (rdN M94_50 o 3 0) fun a111_52 =>
  B1 (alN_ M94_50 a111_52) fun x114_53 =>
  B1 (cpS M94_50 1 0 a106_51 0 x114_53) fun M115_54 =>
  some M115_54
set_option maxRecDepth 100000 in
set_option maxHeartbeats 4000000 in
theorem qX0_init (l : Launch) (E : Ev) {M : Mm} {o : Nat} {Mz : Mm} (hf : fX0_init M o = some Mz) : Ct l E yX0_init cX0_init 2 none 2 32 34 186 [.ref (E.b + o)] M none Mz := by
  refine ct_of (by decide +kernel) (Nat.le_of_ble_eq_true rfl) fun p e s m args below meth c C hr hin hW ls hl => ?_
  have hl : lv_has ls 2 [(0, .ref (E.b + o))] := hl
  unfold fX0_init at hf
  refine lv_aload_n C.x C.b dX0_init_0 rfl (lv_at hl 0 rfl) ?_
  refine x_objInit C hl T_1_42 T_1_35 T_1_36 dX0_init_1 (Nat.le_of_ble_eq_true rfl) (Nat.le_of_ble_eq_true rfl) ?_
  refine lv_aload_n C.x C.b dX0_init_4 rfl (lv_at hl 0 rfl) ?_
  refine lv_bipush (v := 8) C.x C.b dX0_init_5 (by decide) ?_
  replace hf := x_b1 hf; obtain ⟨M7_1, hM7_1, hf⟩ := hf
  refine x_newa C hW hM7_1 T_1_69 (by decide) ⟨Nat.le_of_ble_eq_true rfl, Nat.le_of_ble_eq_true rfl⟩ dX0_init_7 (fun H hW => ?_)
  replace hf := x_b1 hf; obtain ⟨M9_2, hM9_2, hf⟩ := hf
  refine x_putr (v := (some M.n)) C hW fp_X0_9_3 hM9_2 (fun _ => hin rfl) rfl rfl dX0_init_9 (fun H locs hW => ?_)
  refine lv_aload_n C.x C.b dX0_init_12 rfl (lv_at hl 0 rfl) ?_
  refine lv_bipush (v := 8) C.x C.b dX0_init_13 (by decide) ?_
  replace hf := x_b1 hf; obtain ⟨M15_3, hM15_3, hf⟩ := hf
  refine x_newq C hW hM15_3 (by decide) (by decide) rfl C.T.1.2.2.1 T_1_43 (by decide) ⟨Nat.le_of_ble_eq_true rfl, Nat.le_of_ble_eq_true rfl⟩ dX0_init_15 (fun H hW => ?_)
  replace hf := x_b1 hf; obtain ⟨M18_4, hM18_4, hf⟩ := hf
  refine x_putr (v := (some M9_2.n)) C hW fp_X0_17_3 hM18_4 (fun _ => hin rfl) rfl rfl dX0_init_18 (fun H locs hW => ?_)
  refine lv_aload_n C.x C.b dX0_init_21 rfl (lv_at hl 0 rfl) ?_
  refine lv_iconst (v := 0) C.x C.b dX0_init_22 (by decide) ?_
  replace hf := x_b1 hf; obtain ⟨M23_5, hM23_5, hf⟩ := hf
  refine x_puti C hW fp_X0_21_3 hM23_5 (fun h => by cases h) dX0_init_23 (fun H locs hW => ?_)
  refine lv_aload_n C.x C.b dX0_init_26 rfl (lv_at hl 0 rfl) ?_
  refine lv_iconst (v := 2) C.x C.b dX0_init_27 (by decide) ?_
  replace hf := x_b1 hf; obtain ⟨M28_6, hM28_6, hf⟩ := hf
  refine x_newa C hW hM28_6 T_1_69 (by decide) ⟨Nat.le_of_ble_eq_true rfl, Nat.le_of_ble_eq_true rfl⟩ dX0_init_28 (fun H hW => ?_)
  refine lv_dup C.x C.b dX0_init_30 rfl ?_
  refine lv_iconst (v := 0) C.x C.b dX0_init_31 (by decide) ?_
  refine lv_iconst (v := (-1)) C.x C.b dX0_init_32 (by decide) ?_
  replace hf := x_b1 hf; obtain ⟨M33_7, hM33_7, hf⟩ := hf
  refine x_iast C hW hM33_7 dX0_init_33 (fun H locs hW => ?_)
  refine lv_dup C.x C.b dX0_init_34 rfl ?_
  refine lv_iconst (v := 1) C.x C.b dX0_init_35 (by decide) ?_
  refine lv_iconst (v := (-1)) C.x C.b dX0_init_36 (by decide) ?_
  replace hf := x_b1 hf; obtain ⟨M37_8, hM37_8, hf⟩ := hf
  refine x_iast C hW hM37_8 dX0_init_37 (fun H locs hW => ?_)
  replace hf := x_b1 hf; obtain ⟨M38_9, hM38_9, hf⟩ := hf
  refine x_putr (v := (some M23_5.n)) C hW fp_X0_25_3 hM38_9 (fun _ => hin rfl) rfl rfl dX0_init_38 (fun H locs hW => ?_)
  refine lv_aload_n C.x C.b dX0_init_41 rfl (lv_at hl 0 rfl) ?_
  refine lv_iconst (v := 2) C.x C.b dX0_init_42 (by decide) ?_
  replace hf := x_b1 hf; obtain ⟨M43_10, hM43_10, hf⟩ := hf
  refine x_newq C hW hM43_10 (by decide) (by decide) rfl C.T.1.2.2.2.1 T_1_45 (by decide) ⟨Nat.le_of_ble_eq_true rfl, Nat.le_of_ble_eq_true rfl⟩ dX0_init_43 (fun H hW => ?_)
  refine lv_dup C.x C.b dX0_init_46 rfl ?_
  refine lv_iconst (v := 0) C.x C.b dX0_init_47 (by decide) ?_
  replace hf := x_b1 hf; obtain ⟨M48_11, hM48_11, hf⟩ := hf
  refine x_newo C hW hM48_11 nw_X0_28 dX0_init_48 ⟨Nat.le_of_ble_eq_true rfl, Nat.le_of_ble_eq_true rfl⟩ (fun H hW => ?_)
  refine lv_dup C.x C.b dX0_init_51 rfl ?_
  replace hf := x_b1 hf; obtain ⟨M52_12, hM52_12, hf⟩ := hf
  refine x_callIN (host := "NylonLadder") (As := []) (a := M43_10.n) (rest := [.ref (E.b + M43_10.n), .int 0, .ref (E.b + M38_9.n), .ref (E.b + M38_9.n), .ref (E.b + o)]) C hW hl (qX10_init l E hM52_12) T_1_48 T_1_49 T_1_3 T_1_50 rfl hd_X10_init rfl rfl (Nat.le_of_ble_eq_true rfl) dX0_init_52 ⟨Nat.le_of_ble_eq_true rfl, Nat.le_of_ble_eq_true rfl⟩ ⟨Nat.le_of_ble_eq_true rfl, Nat.le_of_ble_eq_true rfl⟩ (fun H locs hW => ?_)
  replace hf := x_b1 hf; obtain ⟨M55_13, hM55_13, hf⟩ := hf
  refine x_aast (v := (some M43_10.n)) C hW (kd := 24) (ko := 13) (by decide) rfl rfl hM55_13 dX0_init_55 (fun H locs hW => ?_)
  refine lv_dup C.x C.b dX0_init_56 rfl ?_
  refine lv_iconst (v := 1) C.x C.b dX0_init_57 (by decide) ?_
  replace hf := x_b1 hf; obtain ⟨M58_14, hM58_14, hf⟩ := hf
  refine x_newo C hW hM58_14 nw_X0_28 dX0_init_58 ⟨Nat.le_of_ble_eq_true rfl, Nat.le_of_ble_eq_true rfl⟩ (fun H hW => ?_)
  refine lv_dup C.x C.b dX0_init_61 rfl ?_
  replace hf := x_b1 hf; obtain ⟨M62_15, hM62_15, hf⟩ := hf
  refine x_callIN (host := "NylonLadder") (As := []) (a := M55_13.n) (rest := [.ref (E.b + M55_13.n), .int 1, .ref (E.b + M38_9.n), .ref (E.b + M38_9.n), .ref (E.b + o)]) C hW hl (qX10_init l E hM62_15) T_1_48 T_1_49 T_1_3 T_1_50 rfl hd_X10_init rfl rfl (Nat.le_of_ble_eq_true rfl) dX0_init_62 ⟨Nat.le_of_ble_eq_true rfl, Nat.le_of_ble_eq_true rfl⟩ ⟨Nat.le_of_ble_eq_true rfl, Nat.le_of_ble_eq_true rfl⟩ (fun H locs hW => ?_)
  replace hf := x_b1 hf; obtain ⟨M65_16, hM65_16, hf⟩ := hf
  refine x_aast (v := (some M55_13.n)) C hW (kd := 24) (ko := 13) (by decide) rfl rfl hM65_16 dX0_init_65 (fun H locs hW => ?_)
  replace hf := x_b1 hf; obtain ⟨M66_17, hM66_17, hf⟩ := hf
  refine x_putr (v := (some M38_9.n)) C hW fp_X0_31_3 hM66_17 (fun _ => hin rfl) rfl rfl dX0_init_66 (fun H locs hW => ?_)
  refine lv_aload_n C.x C.b dX0_init_69 rfl (lv_at hl 0 rfl) ?_
  refine lv_iconst (v := 1) C.x C.b dX0_init_70 (by decide) ?_
  replace hf := x_b1 hf; obtain ⟨M71_18, hM71_18, hf⟩ := hf
  refine x_puti C hW fp_X0_35_3 hM71_18 (fun h => by cases h) dX0_init_71 (fun H locs hW => ?_)
  refine lv_iconst (v := 0) C.x C.b dX0_init_74 (by decide) ?_
  refine lv_istore_n (lv' := [(1, .int _), (0, .ref (E.b + _))]) C.x C.b dX0_init_75 rfl hl (by decide) rfl (fun ls hl => ?_)
  refine lv_iload_n C.x C.b dX0_init_76 rfl (lv_at hl 0 rfl) ?_
  refine lv_bipush (v := 8) C.x C.b dX0_init_77 (by decide) ?_
  refine lv_icmp_ge (tgt := 101) C.x C.b dX0_init_79 rfl (fun c_ => absurd c_ (by decide)) (fun _ => ?_)
  refine lv_aload_n C.x C.b dX0_init_82 rfl (lv_at hl 1 rfl) ?_
  replace hf := x_b1 hf; obtain ⟨a83_19, ha83_19, hf⟩ := hf
  refine x_getn C hW fg_X0_17_3 ha83_19 dX0_init_83 ?_
  refine lv_iload_n C.x C.b dX0_init_86 rfl (lv_at hl 0 rfl) ?_
  replace hf := x_b1 hf; obtain ⟨M87_20, hM87_20, hf⟩ := hf
  refine x_newo C hW hM87_20 nw_X0_15 dX0_init_87 ⟨Nat.le_of_ble_eq_true rfl, Nat.le_of_ble_eq_true rfl⟩ (fun H hW => ?_)
  refine lv_dup C.x C.b dX0_init_90 rfl ?_
  replace hf := x_b1 hf; obtain ⟨M91_21, hM91_21, hf⟩ := hf
  refine x_callIN (host := "NylonLadder") (As := []) (a := M71_18.n) (rest := [.ref (E.b + M71_18.n), .int 0, .ref (E.b + a83_19)]) C hW hl (qX7_init l E hM91_21) T_1_71 T_1_72 T_1_4 T_1_73 rfl hd_X7_init rfl rfl (Nat.le_of_ble_eq_true rfl) dX0_init_91 ⟨Nat.le_of_ble_eq_true rfl, Nat.le_of_ble_eq_true rfl⟩ ⟨Nat.le_of_ble_eq_true rfl, Nat.le_of_ble_eq_true rfl⟩ (fun H locs hW => ?_)
  replace hf := x_b1 hf; obtain ⟨M94_22, hM94_22, hf⟩ := hf
  refine x_aast (v := (some M71_18.n)) C hW (kd := 23) (ko := 10) (by decide) rfl rfl hM94_22 dX0_init_94 (fun H locs hW => ?_)
  refine lv_iinc (v := 1) (lv' := [(1, .int 1), (0, .ref (E.b + _))]) C.x C.b dX0_init_95 hl (k := 0) rfl (by first | rfl | decide) (by decide) rfl (fun ls hl => ?_)
  refine lv_goto (tgt := 76) C.x C.b dX0_init_98 rfl ?_
  refine lv_iload_n C.x C.b dX0_init_76 rfl (lv_at hl 0 rfl) ?_
  refine lv_bipush (v := 8) C.x C.b dX0_init_77 (by decide) ?_
  refine lv_icmp_ge (tgt := 101) C.x C.b dX0_init_79 rfl (fun c_ => absurd c_ (by decide)) (fun _ => ?_)
  refine lv_aload_n C.x C.b dX0_init_82 rfl (lv_at hl 1 rfl) ?_
  replace hf := x_b1 hf; obtain ⟨a83_23, ha83_23, hf⟩ := hf
  refine x_getn C hW fg_X0_17_3 ha83_23 dX0_init_83 ?_
  refine lv_iload_n C.x C.b dX0_init_86 rfl (lv_at hl 0 rfl) ?_
  replace hf := x_b1 hf; obtain ⟨M87_24, hM87_24, hf⟩ := hf
  refine x_newo C hW hM87_24 nw_X0_15 dX0_init_87 ⟨Nat.le_of_ble_eq_true rfl, Nat.le_of_ble_eq_true rfl⟩ (fun H hW => ?_)
  refine lv_dup C.x C.b dX0_init_90 rfl ?_
  replace hf := x_b1 hf; obtain ⟨M91_25, hM91_25, hf⟩ := hf
  refine x_callIN (host := "NylonLadder") (As := []) (a := M94_22.n) (rest := [.ref (E.b + M94_22.n), .int 1, .ref (E.b + a83_23)]) C hW hl (qX7_init l E hM91_25) T_1_71 T_1_72 T_1_4 T_1_73 rfl hd_X7_init rfl rfl (Nat.le_of_ble_eq_true rfl) dX0_init_91 ⟨Nat.le_of_ble_eq_true rfl, Nat.le_of_ble_eq_true rfl⟩ ⟨Nat.le_of_ble_eq_true rfl, Nat.le_of_ble_eq_true rfl⟩ (fun H locs hW => ?_)
  replace hf := x_b1 hf; obtain ⟨M94_26, hM94_26, hf⟩ := hf
  refine x_aast (v := (some M94_22.n)) C hW (kd := 23) (ko := 10) (by decide) rfl rfl hM94_26 dX0_init_94 (fun H locs hW => ?_)
  refine lv_iinc (v := 2) (lv' := [(1, .int 2), (0, .ref (E.b + _))]) C.x C.b dX0_init_95 hl (k := 0) rfl (by first | rfl | decide) (by decide) rfl (fun ls hl => ?_)
  refine lv_goto (tgt := 76) C.x C.b dX0_init_98 rfl ?_
  refine lv_iload_n C.x C.b dX0_init_76 rfl (lv_at hl 0 rfl) ?_
  refine lv_bipush (v := 8) C.x C.b dX0_init_77 (by decide) ?_
  refine lv_icmp_ge (tgt := 101) C.x C.b dX0_init_79 rfl (fun c_ => absurd c_ (by decide)) (fun _ => ?_)
  refine lv_aload_n C.x C.b dX0_init_82 rfl (lv_at hl 1 rfl) ?_
  replace hf := x_b1 hf; obtain ⟨a83_27, ha83_27, hf⟩ := hf
  refine x_getn C hW fg_X0_17_3 ha83_27 dX0_init_83 ?_
  refine lv_iload_n C.x C.b dX0_init_86 rfl (lv_at hl 0 rfl) ?_
  replace hf := x_b1 hf; obtain ⟨M87_28, hM87_28, hf⟩ := hf
  refine x_newo C hW hM87_28 nw_X0_15 dX0_init_87 ⟨Nat.le_of_ble_eq_true rfl, Nat.le_of_ble_eq_true rfl⟩ (fun H hW => ?_)
  refine lv_dup C.x C.b dX0_init_90 rfl ?_
  replace hf := x_b1 hf; obtain ⟨M91_29, hM91_29, hf⟩ := hf
  refine x_callIN (host := "NylonLadder") (As := []) (a := M94_26.n) (rest := [.ref (E.b + M94_26.n), .int 2, .ref (E.b + a83_27)]) C hW hl (qX7_init l E hM91_29) T_1_71 T_1_72 T_1_4 T_1_73 rfl hd_X7_init rfl rfl (Nat.le_of_ble_eq_true rfl) dX0_init_91 ⟨Nat.le_of_ble_eq_true rfl, Nat.le_of_ble_eq_true rfl⟩ ⟨Nat.le_of_ble_eq_true rfl, Nat.le_of_ble_eq_true rfl⟩ (fun H locs hW => ?_)
  replace hf := x_b1 hf; obtain ⟨M94_30, hM94_30, hf⟩ := hf
  refine x_aast (v := (some M94_26.n)) C hW (kd := 23) (ko := 10) (by decide) rfl rfl hM94_30 dX0_init_94 (fun H locs hW => ?_)
  refine lv_iinc (v := 3) (lv' := [(1, .int 3), (0, .ref (E.b + _))]) C.x C.b dX0_init_95 hl (k := 0) rfl (by first | rfl | decide) (by decide) rfl (fun ls hl => ?_)
  refine lv_goto (tgt := 76) C.x C.b dX0_init_98 rfl ?_
  refine lv_iload_n C.x C.b dX0_init_76 rfl (lv_at hl 0 rfl) ?_
  refine lv_bipush (v := 8) C.x C.b dX0_init_77 (by decide) ?_
  refine lv_icmp_ge (tgt := 101) C.x C.b dX0_init_79 rfl (fun c_ => absurd c_ (by decide)) (fun _ => ?_)
  refine lv_aload_n C.x C.b dX0_init_82 rfl (lv_at hl 1 rfl) ?_
  replace hf := x_b1 hf; obtain ⟨a83_31, ha83_31, hf⟩ := hf
  refine x_getn C hW fg_X0_17_3 ha83_31 dX0_init_83 ?_
  refine lv_iload_n C.x C.b dX0_init_86 rfl (lv_at hl 0 rfl) ?_
  replace hf := x_b1 hf; obtain ⟨M87_32, hM87_32, hf⟩ := hf
  refine x_newo C hW hM87_32 nw_X0_15 dX0_init_87 ⟨Nat.le_of_ble_eq_true rfl, Nat.le_of_ble_eq_true rfl⟩ (fun H hW => ?_)
  refine lv_dup C.x C.b dX0_init_90 rfl ?_
  replace hf := x_b1 hf; obtain ⟨M91_33, hM91_33, hf⟩ := hf
  refine x_callIN (host := "NylonLadder") (As := []) (a := M94_30.n) (rest := [.ref (E.b + M94_30.n), .int 3, .ref (E.b + a83_31)]) C hW hl (qX7_init l E hM91_33) T_1_71 T_1_72 T_1_4 T_1_73 rfl hd_X7_init rfl rfl (Nat.le_of_ble_eq_true rfl) dX0_init_91 ⟨Nat.le_of_ble_eq_true rfl, Nat.le_of_ble_eq_true rfl⟩ ⟨Nat.le_of_ble_eq_true rfl, Nat.le_of_ble_eq_true rfl⟩ (fun H locs hW => ?_)
  replace hf := x_b1 hf; obtain ⟨M94_34, hM94_34, hf⟩ := hf
  refine x_aast (v := (some M94_30.n)) C hW (kd := 23) (ko := 10) (by decide) rfl rfl hM94_34 dX0_init_94 (fun H locs hW => ?_)
  refine lv_iinc (v := 4) (lv' := [(1, .int 4), (0, .ref (E.b + _))]) C.x C.b dX0_init_95 hl (k := 0) rfl (by first | rfl | decide) (by decide) rfl (fun ls hl => ?_)
  refine lv_goto (tgt := 76) C.x C.b dX0_init_98 rfl ?_
  refine lv_iload_n C.x C.b dX0_init_76 rfl (lv_at hl 0 rfl) ?_
  refine lv_bipush (v := 8) C.x C.b dX0_init_77 (by decide) ?_
  refine lv_icmp_ge (tgt := 101) C.x C.b dX0_init_79 rfl (fun c_ => absurd c_ (by decide)) (fun _ => ?_)
  refine lv_aload_n C.x C.b dX0_init_82 rfl (lv_at hl 1 rfl) ?_
  replace hf := x_b1 hf; obtain ⟨a83_35, ha83_35, hf⟩ := hf
  refine x_getn C hW fg_X0_17_3 ha83_35 dX0_init_83 ?_
  refine lv_iload_n C.x C.b dX0_init_86 rfl (lv_at hl 0 rfl) ?_
  replace hf := x_b1 hf; obtain ⟨M87_36, hM87_36, hf⟩ := hf
  refine x_newo C hW hM87_36 nw_X0_15 dX0_init_87 ⟨Nat.le_of_ble_eq_true rfl, Nat.le_of_ble_eq_true rfl⟩ (fun H hW => ?_)
  refine lv_dup C.x C.b dX0_init_90 rfl ?_
  replace hf := x_b1 hf; obtain ⟨M91_37, hM91_37, hf⟩ := hf
  refine x_callIN (host := "NylonLadder") (As := []) (a := M94_34.n) (rest := [.ref (E.b + M94_34.n), .int 4, .ref (E.b + a83_35)]) C hW hl (qX7_init l E hM91_37) T_1_71 T_1_72 T_1_4 T_1_73 rfl hd_X7_init rfl rfl (Nat.le_of_ble_eq_true rfl) dX0_init_91 ⟨Nat.le_of_ble_eq_true rfl, Nat.le_of_ble_eq_true rfl⟩ ⟨Nat.le_of_ble_eq_true rfl, Nat.le_of_ble_eq_true rfl⟩ (fun H locs hW => ?_)
  replace hf := x_b1 hf; obtain ⟨M94_38, hM94_38, hf⟩ := hf
  refine x_aast (v := (some M94_34.n)) C hW (kd := 23) (ko := 10) (by decide) rfl rfl hM94_38 dX0_init_94 (fun H locs hW => ?_)
  refine lv_iinc (v := 5) (lv' := [(1, .int 5), (0, .ref (E.b + _))]) C.x C.b dX0_init_95 hl (k := 0) rfl (by first | rfl | decide) (by decide) rfl (fun ls hl => ?_)
  refine lv_goto (tgt := 76) C.x C.b dX0_init_98 rfl ?_
  refine lv_iload_n C.x C.b dX0_init_76 rfl (lv_at hl 0 rfl) ?_
  refine lv_bipush (v := 8) C.x C.b dX0_init_77 (by decide) ?_
  refine lv_icmp_ge (tgt := 101) C.x C.b dX0_init_79 rfl (fun c_ => absurd c_ (by decide)) (fun _ => ?_)
  refine lv_aload_n C.x C.b dX0_init_82 rfl (lv_at hl 1 rfl) ?_
  replace hf := x_b1 hf; obtain ⟨a83_39, ha83_39, hf⟩ := hf
  refine x_getn C hW fg_X0_17_3 ha83_39 dX0_init_83 ?_
  refine lv_iload_n C.x C.b dX0_init_86 rfl (lv_at hl 0 rfl) ?_
  replace hf := x_b1 hf; obtain ⟨M87_40, hM87_40, hf⟩ := hf
  refine x_newo C hW hM87_40 nw_X0_15 dX0_init_87 ⟨Nat.le_of_ble_eq_true rfl, Nat.le_of_ble_eq_true rfl⟩ (fun H hW => ?_)
  refine lv_dup C.x C.b dX0_init_90 rfl ?_
  replace hf := x_b1 hf; obtain ⟨M91_41, hM91_41, hf⟩ := hf
  refine x_callIN (host := "NylonLadder") (As := []) (a := M94_38.n) (rest := [.ref (E.b + M94_38.n), .int 5, .ref (E.b + a83_39)]) C hW hl (qX7_init l E hM91_41) T_1_71 T_1_72 T_1_4 T_1_73 rfl hd_X7_init rfl rfl (Nat.le_of_ble_eq_true rfl) dX0_init_91 ⟨Nat.le_of_ble_eq_true rfl, Nat.le_of_ble_eq_true rfl⟩ ⟨Nat.le_of_ble_eq_true rfl, Nat.le_of_ble_eq_true rfl⟩ (fun H locs hW => ?_)
  replace hf := x_b1 hf; obtain ⟨M94_42, hM94_42, hf⟩ := hf
  refine x_aast (v := (some M94_38.n)) C hW (kd := 23) (ko := 10) (by decide) rfl rfl hM94_42 dX0_init_94 (fun H locs hW => ?_)
  refine lv_iinc (v := 6) (lv' := [(1, .int 6), (0, .ref (E.b + _))]) C.x C.b dX0_init_95 hl (k := 0) rfl (by first | rfl | decide) (by decide) rfl (fun ls hl => ?_)
  refine lv_goto (tgt := 76) C.x C.b dX0_init_98 rfl ?_
  refine lv_iload_n C.x C.b dX0_init_76 rfl (lv_at hl 0 rfl) ?_
  refine lv_bipush (v := 8) C.x C.b dX0_init_77 (by decide) ?_
  refine lv_icmp_ge (tgt := 101) C.x C.b dX0_init_79 rfl (fun c_ => absurd c_ (by decide)) (fun _ => ?_)
  refine lv_aload_n C.x C.b dX0_init_82 rfl (lv_at hl 1 rfl) ?_
  replace hf := x_b1 hf; obtain ⟨a83_43, ha83_43, hf⟩ := hf
  refine x_getn C hW fg_X0_17_3 ha83_43 dX0_init_83 ?_
  refine lv_iload_n C.x C.b dX0_init_86 rfl (lv_at hl 0 rfl) ?_
  replace hf := x_b1 hf; obtain ⟨M87_44, hM87_44, hf⟩ := hf
  refine x_newo C hW hM87_44 nw_X0_15 dX0_init_87 ⟨Nat.le_of_ble_eq_true rfl, Nat.le_of_ble_eq_true rfl⟩ (fun H hW => ?_)
  refine lv_dup C.x C.b dX0_init_90 rfl ?_
  replace hf := x_b1 hf; obtain ⟨M91_45, hM91_45, hf⟩ := hf
  refine x_callIN (host := "NylonLadder") (As := []) (a := M94_42.n) (rest := [.ref (E.b + M94_42.n), .int 6, .ref (E.b + a83_43)]) C hW hl (qX7_init l E hM91_45) T_1_71 T_1_72 T_1_4 T_1_73 rfl hd_X7_init rfl rfl (Nat.le_of_ble_eq_true rfl) dX0_init_91 ⟨Nat.le_of_ble_eq_true rfl, Nat.le_of_ble_eq_true rfl⟩ ⟨Nat.le_of_ble_eq_true rfl, Nat.le_of_ble_eq_true rfl⟩ (fun H locs hW => ?_)
  replace hf := x_b1 hf; obtain ⟨M94_46, hM94_46, hf⟩ := hf
  refine x_aast (v := (some M94_42.n)) C hW (kd := 23) (ko := 10) (by decide) rfl rfl hM94_46 dX0_init_94 (fun H locs hW => ?_)
  refine lv_iinc (v := 7) (lv' := [(1, .int 7), (0, .ref (E.b + _))]) C.x C.b dX0_init_95 hl (k := 0) rfl (by first | rfl | decide) (by decide) rfl (fun ls hl => ?_)
  refine lv_goto (tgt := 76) C.x C.b dX0_init_98 rfl ?_
  refine lv_iload_n C.x C.b dX0_init_76 rfl (lv_at hl 0 rfl) ?_
  refine lv_bipush (v := 8) C.x C.b dX0_init_77 (by decide) ?_
  refine lv_icmp_ge (tgt := 101) C.x C.b dX0_init_79 rfl (fun c_ => absurd c_ (by decide)) (fun _ => ?_)
  refine lv_aload_n C.x C.b dX0_init_82 rfl (lv_at hl 1 rfl) ?_
  replace hf := x_b1 hf; obtain ⟨a83_47, ha83_47, hf⟩ := hf
  refine x_getn C hW fg_X0_17_3 ha83_47 dX0_init_83 ?_
  refine lv_iload_n C.x C.b dX0_init_86 rfl (lv_at hl 0 rfl) ?_
  replace hf := x_b1 hf; obtain ⟨M87_48, hM87_48, hf⟩ := hf
  refine x_newo C hW hM87_48 nw_X0_15 dX0_init_87 ⟨Nat.le_of_ble_eq_true rfl, Nat.le_of_ble_eq_true rfl⟩ (fun H hW => ?_)
  refine lv_dup C.x C.b dX0_init_90 rfl ?_
  replace hf := x_b1 hf; obtain ⟨M91_49, hM91_49, hf⟩ := hf
  refine x_callIN (host := "NylonLadder") (As := []) (a := M94_46.n) (rest := [.ref (E.b + M94_46.n), .int 7, .ref (E.b + a83_47)]) C hW hl (qX7_init l E hM91_49) T_1_71 T_1_72 T_1_4 T_1_73 rfl hd_X7_init rfl rfl (Nat.le_of_ble_eq_true rfl) dX0_init_91 ⟨Nat.le_of_ble_eq_true rfl, Nat.le_of_ble_eq_true rfl⟩ ⟨Nat.le_of_ble_eq_true rfl, Nat.le_of_ble_eq_true rfl⟩ (fun H locs hW => ?_)
  replace hf := x_b1 hf; obtain ⟨M94_50, hM94_50, hf⟩ := hf
  refine x_aast (v := (some M94_46.n)) C hW (kd := 23) (ko := 10) (by decide) rfl rfl hM94_50 dX0_init_94 (fun H locs hW => ?_)
  refine lv_iinc (v := 8) (lv' := [(1, .int 8), (0, .ref (E.b + _))]) C.x C.b dX0_init_95 hl (k := 0) rfl (by first | rfl | decide) (by decide) rfl (fun ls hl => ?_)
  refine lv_goto (tgt := 76) C.x C.b dX0_init_98 rfl ?_
  refine lv_iload_n C.x C.b dX0_init_76 rfl (lv_at hl 0 rfl) ?_
  refine lv_bipush (v := 8) C.x C.b dX0_init_77 (by decide) ?_
  refine lv_icmp_ge (tgt := 101) C.x C.b dX0_init_79 rfl (fun _ => ?_) (fun c_ => absurd (by decide) c_)
  refine x_getsN (k := 1) C hW (by decide) (by decide) T_1_125 dX0_init_101 ?_
  refine lv_iconst (v := 0) C.x C.b dX0_init_104 (by decide) ?_
  refine lv_aload_n C.x C.b dX0_init_105 rfl (lv_at hl 1 rfl) ?_
  replace hf := x_b1 hf; obtain ⟨a106_51, ha106_51, hf⟩ := hf
  refine x_getn C hW fg_X0_9_3 ha106_51 dX0_init_106 ?_
  refine lv_iconst (v := 0) C.x C.b dX0_init_109 (by decide) ?_
  refine lv_aload_n C.x C.b dX0_init_110 rfl (lv_at hl 1 rfl) ?_
  replace hf := x_b1 hf; obtain ⟨a111_52, ha111_52, hf⟩ := hf
  refine x_getn C hW fg_X0_9_3 ha111_52 dX0_init_111 ?_
  replace hf := x_b1 hf; obtain ⟨x114_53, hx114_53, hf⟩ := hf
  refine x_alen C hW hx114_53 dX0_init_114 ?_
  replace hf := x_b1 hf; obtain ⟨M115_54, hM115_54, hf⟩ := hf
  refine x_cpS (k := 1) C hW hl T_1_127 T_1_129 T_1_128 T_1_5 (by decide) (by decide) hM115_54 (Nat.le_of_ble_eq_true rfl) (Nat.le_of_ble_eq_true rfl) dX0_init_115 (fun H locs hW => ?_)
  rw [x_e0 hf]
  exact x_vret C hr hW dX0_init_118

theorem dX0_takeOff_0 : decode cX0_takeOff 0 = .ok (.aload_n 0, 1) := by decide +kernel
theorem dX0_takeOff_1 : decode cX0_takeOff 1 = .ok (.getfield 25, 3) := by decide +kernel
theorem dX0_takeOff_4 : decode cX0_takeOff 4 = .ok (.iconst 0, 1) := by decide +kernel
theorem dX0_takeOff_5 : decode cX0_takeOff 5 = .ok (.iconst (-1), 1) := by decide +kernel
theorem dX0_takeOff_6 : decode cX0_takeOff 6 = .ok (.iastore, 1) := by decide +kernel
theorem dX0_takeOff_7 : decode cX0_takeOff 7 = .ok (.aload_n 0, 1) := by decide +kernel
theorem dX0_takeOff_8 : decode cX0_takeOff 8 = .ok (.getfield 25, 3) := by decide +kernel
theorem dX0_takeOff_11 : decode cX0_takeOff 11 = .ok (.iconst 1, 1) := by decide +kernel
theorem dX0_takeOff_12 : decode cX0_takeOff 12 = .ok (.iconst (-1), 1) := by decide +kernel
theorem dX0_takeOff_13 : decode cX0_takeOff 13 = .ok (.iastore, 1) := by decide +kernel
theorem dX0_takeOff_14 : decode cX0_takeOff 14 = .ok (.return_, 1) := by decide +kernel
theorem fg_X0_25_3 : FdG "NylonLadder$Drawer" 25 3 3 true := ⟨_, _, _, _, rfl, by decide, by decide, by decide, gxX0, by decide, T_1_139, Or.inl rfl, rfl⟩
def fX0_takeOff (M : Mm) (o : Nat) : Option Mm :=
  B1 (rdN M o 3 3) fun a1_1 =>
  B1 (asI M a1_1 0 (-1)) fun M6_2 =>
  B1 (rdN M6_2 o 3 3) fun a8_3 =>
  B1 (asI M6_2 a8_3 1 (-1)) fun M13_4 =>
  some M13_4
set_option maxRecDepth 100000 in
set_option maxHeartbeats 4000000 in
theorem qX0_takeOff (l : Launch) (E : Ev) {M : Mm} {o : Nat} {Mz : Mm} (hf : fX0_takeOff M o = some Mz) : Ct l E yX0_takeOff cX0_takeOff 1 none 0 0 0 0 [.ref (E.b + o)] M none Mz := by
  refine ct_of (by decide +kernel) (Nat.le_of_ble_eq_true rfl) fun p e s m args below meth c C hr hin hW ls hl => ?_
  have hl : lv_has ls 1 [(0, .ref (E.b + o))] := hl
  unfold fX0_takeOff at hf
  refine lv_aload_n C.x C.b dX0_takeOff_0 rfl (lv_at hl 0 rfl) ?_
  replace hf := x_b1 hf; obtain ⟨a1_1, ha1_1, hf⟩ := hf
  refine x_getn C hW fg_X0_25_3 ha1_1 dX0_takeOff_1 ?_
  refine lv_iconst (v := 0) C.x C.b dX0_takeOff_4 (by decide) ?_
  refine lv_iconst (v := (-1)) C.x C.b dX0_takeOff_5 (by decide) ?_
  replace hf := x_b1 hf; obtain ⟨M6_2, hM6_2, hf⟩ := hf
  refine x_iast C hW hM6_2 dX0_takeOff_6 (fun H locs hW => ?_)
  refine lv_aload_n C.x C.b dX0_takeOff_7 rfl (lv_at hl 0 rfl) ?_
  replace hf := x_b1 hf; obtain ⟨a8_3, ha8_3, hf⟩ := hf
  refine x_getn C hW fg_X0_25_3 ha8_3 dX0_takeOff_8 ?_
  refine lv_iconst (v := 1) C.x C.b dX0_takeOff_11 (by decide) ?_
  refine lv_iconst (v := (-1)) C.x C.b dX0_takeOff_12 (by decide) ?_
  replace hf := x_b1 hf; obtain ⟨M13_4, hM13_4, hf⟩ := hf
  refine x_iast C hW hM13_4 dX0_takeOff_13 (fun H locs hW => ?_)
  rw [x_e0 hf]
  exact x_vret C hr hW dX0_takeOff_14

theorem dX0_empty_0 : decode cX0_empty 0 = .ok (.getstatic 39, 3) := by decide +kernel
theorem dX0_empty_3 : decode cX0_empty 3 = .ok (.iconst 0, 1) := by decide +kernel
theorem dX0_empty_4 : decode cX0_empty 4 = .ok (.aload_n 0, 1) := by decide +kernel
theorem dX0_empty_5 : decode cX0_empty 5 = .ok (.getfield 9, 3) := by decide +kernel
theorem dX0_empty_8 : decode cX0_empty 8 = .ok (.iconst 0, 1) := by decide +kernel
theorem dX0_empty_9 : decode cX0_empty 9 = .ok (.aload_n 0, 1) := by decide +kernel
theorem dX0_empty_10 : decode cX0_empty 10 = .ok (.getfield 9, 3) := by decide +kernel
theorem dX0_empty_13 : decode cX0_empty 13 = .ok (.arraylength, 1) := by decide +kernel
theorem dX0_empty_14 : decode cX0_empty 14 = .ok (.invokestatic 42, 3) := by decide +kernel
theorem dX0_empty_17 : decode cX0_empty 17 = .ok (.aload_n 0, 1) := by decide +kernel
theorem dX0_empty_18 : decode cX0_empty 18 = .ok (.iconst 0, 1) := by decide +kernel
theorem dX0_empty_19 : decode cX0_empty 19 = .ok (.putfield 21, 3) := by decide +kernel
theorem dX0_empty_22 : decode cX0_empty 22 = .ok (.aload_n 0, 1) := by decide +kernel
theorem dX0_empty_23 : decode cX0_empty 23 = .ok (.invokevirtual 48, 3) := by decide +kernel
theorem dX0_empty_26 : decode cX0_empty 26 = .ok (.aload_n 0, 1) := by decide +kernel
theorem dX0_empty_27 : decode cX0_empty 27 = .ok (.getfield 31, 3) := by decide +kernel
theorem dX0_empty_30 : decode cX0_empty 30 = .ok (.iconst 0, 1) := by decide +kernel
theorem dX0_empty_31 : decode cX0_empty 31 = .ok (.aaload, 1) := by decide +kernel
theorem dX0_empty_32 : decode cX0_empty 32 = .ok (.iconst 0, 1) := by decide +kernel
theorem dX0_empty_33 : decode cX0_empty 33 = .ok (.putfield 51, 3) := by decide +kernel
theorem dX0_empty_36 : decode cX0_empty 36 = .ok (.aload_n 0, 1) := by decide +kernel
theorem dX0_empty_37 : decode cX0_empty 37 = .ok (.getfield 31, 3) := by decide +kernel
theorem dX0_empty_40 : decode cX0_empty 40 = .ok (.iconst 1, 1) := by decide +kernel
theorem dX0_empty_41 : decode cX0_empty 41 = .ok (.aaload, 1) := by decide +kernel
theorem dX0_empty_42 : decode cX0_empty 42 = .ok (.iconst 0, 1) := by decide +kernel
theorem dX0_empty_43 : decode cX0_empty 43 = .ok (.putfield 51, 3) := by decide +kernel
theorem dX0_empty_46 : decode cX0_empty 46 = .ok (.return_, 1) := by decide +kernel
theorem hd_X0_takeOff : yX0_takeOff.cls ≠ "java/lang/invoke/MethodHandle" ∧ yX0_takeOff.cls ≠ "java/lang/invoke/VarHandle" ∧ (parseMethodDescriptor yX0_takeOff.desc).map (fun d => d.parameters.length) = some 0 := by decide +kernel
theorem gv_X0_48 : GoodIn gT (wsV "NylonLadder$Drawer" 48 "NylonLadder$Drawer" yX0_takeOff (Cond.code yX0_takeOff cX0_takeOff 1 none :: gT)) := good_V T_2_62 T_2_63 T_2_64 T_1_2 T_2_65
theorem fg_X0_31_3 : FdG "NylonLadder$Drawer" 31 3 4 true := ⟨_, _, _, _, rfl, by decide, by decide, by decide, gxX0, by decide, T_1_142, Or.inl rfl, rfl⟩
theorem fp_X0_51_13 : FdP "NylonLadder$Drawer" 51 13 0 false .int false := ⟨_, _, _, _, _, rfl, by decide, by decide, by decide, gxX10, by decide, T_1_53, Or.inl rfl, rfl, tyX10_ok, nmX10, by decide +kernel, rfl, fun h => by cases h⟩
def fX0_empty (M : Mm) (o : Nat) : Option Mm :=
  B1 (rdN M o 3 0) fun a5_1 =>
  B1 (rdN M o 3 0) fun a10_2 =>
  B1 (alN_ M a10_2) fun x13_3 =>
  B1 (cpS M 1 0 a5_1 0 x13_3) fun M14_4 =>
  B1 (wrI M14_4 o 3 2 0) fun M19_5 =>
  B1 (gk M19_5 o 3) fun _ =>
  B1 (fX0_takeOff M19_5 o) fun M23_7 =>
  B1 (rdN M23_7 o 3 4) fun a27_8 =>
  B1 (alN M23_7 a27_8 24 0) fun a31_9 =>
  B1 (wrI M23_7 a31_9 13 0 0) fun M33_10 =>
  B1 (rdN M33_10 o 3 4) fun a37_11 =>
  B1 (alN M33_10 a37_11 24 1) fun a41_12 =>
  B1 (wrI M33_10 a41_12 13 0 0) fun M43_13 =>
  some M43_13
set_option maxRecDepth 100000 in
set_option maxHeartbeats 4000000 in
theorem qX0_empty (l : Launch) (E : Ev) {M : Mm} {o : Nat} {Mz : Mm} (hf : fX0_empty M o = some Mz) : Ct l E yX0_empty cX0_empty 1 none 1 20 0 0 [.ref (E.b + o)] M none Mz := by
  refine ct_of (by decide +kernel) (Nat.le_of_ble_eq_true rfl) fun p e s m args below meth c C hr hin hW ls hl => ?_
  have hl : lv_has ls 1 [(0, .ref (E.b + o))] := hl
  unfold fX0_empty at hf
  refine x_getsN (k := 1) C hW (by decide) (by decide) T_1_125 dX0_empty_0 ?_
  refine lv_iconst (v := 0) C.x C.b dX0_empty_3 (by decide) ?_
  refine lv_aload_n C.x C.b dX0_empty_4 rfl (lv_at hl 0 rfl) ?_
  replace hf := x_b1 hf; obtain ⟨a5_1, ha5_1, hf⟩ := hf
  refine x_getn C hW fg_X0_9_3 ha5_1 dX0_empty_5 ?_
  refine lv_iconst (v := 0) C.x C.b dX0_empty_8 (by decide) ?_
  refine lv_aload_n C.x C.b dX0_empty_9 rfl (lv_at hl 0 rfl) ?_
  replace hf := x_b1 hf; obtain ⟨a10_2, ha10_2, hf⟩ := hf
  refine x_getn C hW fg_X0_9_3 ha10_2 dX0_empty_10 ?_
  replace hf := x_b1 hf; obtain ⟨x13_3, hx13_3, hf⟩ := hf
  refine x_alen C hW hx13_3 dX0_empty_13 ?_
  replace hf := x_b1 hf; obtain ⟨M14_4, hM14_4, hf⟩ := hf
  refine x_cpS (k := 1) C hW hl T_1_127 T_1_129 T_1_128 T_1_5 (by decide) (by decide) hM14_4 (Nat.le_of_ble_eq_true rfl) (Nat.le_of_ble_eq_true rfl) dX0_empty_14 (fun H locs hW => ?_)
  refine lv_aload_n C.x C.b dX0_empty_17 rfl (lv_at hl 0 rfl) ?_
  refine lv_iconst (v := 0) C.x C.b dX0_empty_18 (by decide) ?_
  replace hf := x_b1 hf; obtain ⟨M19_5, hM19_5, hf⟩ := hf
  refine x_puti C hW fp_X0_21_3 hM19_5 (fun h => by cases h) dX0_empty_19 (fun H locs hW => ?_)
  refine lv_aload_n C.x C.b dX0_empty_22 rfl (lv_at hl 0 rfl) ?_
  replace hf := x_b1 hf; obtain ⟨_, hk23_6, hf⟩ := hf
  replace hf := x_b1 hf; obtain ⟨M23_7, hM23_7, hf⟩ := hf
  refine x_callV (As := []) (a := o) (rest := []) C hW hl (qX0_takeOff l E hM23_7) (x_gk hk23_6) (by decide) (by decide) rfl gv_X0_48 ⟨rfl, hd_X0_takeOff⟩ rfl rfl (Nat.le_of_ble_eq_true rfl) dX0_empty_23 ⟨Nat.le_of_ble_eq_true rfl, Nat.le_of_ble_eq_true rfl⟩ ⟨Nat.le_of_ble_eq_true rfl, Nat.le_of_ble_eq_true rfl⟩ (fun H locs hW => ?_)
  refine lv_aload_n C.x C.b dX0_empty_26 rfl (lv_at hl 0 rfl) ?_
  replace hf := x_b1 hf; obtain ⟨a27_8, ha27_8, hf⟩ := hf
  refine x_getn C hW fg_X0_31_3 ha27_8 dX0_empty_27 ?_
  refine lv_iconst (v := 0) C.x C.b dX0_empty_30 (by decide) ?_
  replace hf := x_b1 hf; obtain ⟨a31_9, ha31_9, hf⟩ := hf
  refine x_aldn C hW (kd := 24) (by decide) (by decide) ha31_9 dX0_empty_31 ?_
  refine lv_iconst (v := 0) C.x C.b dX0_empty_32 (by decide) ?_
  replace hf := x_b1 hf; obtain ⟨M33_10, hM33_10, hf⟩ := hf
  refine x_puti C hW fp_X0_51_13 hM33_10 (fun h => by cases h) dX0_empty_33 (fun H locs hW => ?_)
  refine lv_aload_n C.x C.b dX0_empty_36 rfl (lv_at hl 0 rfl) ?_
  replace hf := x_b1 hf; obtain ⟨a37_11, ha37_11, hf⟩ := hf
  refine x_getn C hW fg_X0_31_3 ha37_11 dX0_empty_37 ?_
  refine lv_iconst (v := 1) C.x C.b dX0_empty_40 (by decide) ?_
  replace hf := x_b1 hf; obtain ⟨a41_12, ha41_12, hf⟩ := hf
  refine x_aldn C hW (kd := 24) (by decide) (by decide) ha41_12 dX0_empty_41 ?_
  refine lv_iconst (v := 0) C.x C.b dX0_empty_42 (by decide) ?_
  replace hf := x_b1 hf; obtain ⟨M43_13, hM43_13, hf⟩ := hf
  refine x_puti C hW fp_X0_51_13 hM43_13 (fun h => by cases h) dX0_empty_43 (fun H locs hW => ?_)
  rw [x_e0 hf]
  exact x_vret C hr hW dX0_empty_46

theorem dX7_loseLadder_0 : decode cX7_loseLadder 0 = .ok (.aload_n 0, 1) := by decide +kernel
theorem dX7_loseLadder_1 : decode cX7_loseLadder 1 = .ok (.bipush (-9), 2) := by decide +kernel
theorem dX7_loseLadder_3 : decode cX7_loseLadder 3 = .ok (.putfield 30, 3) := by decide +kernel
theorem dX7_loseLadder_6 : decode cX7_loseLadder 6 = .ok (.aload_n 0, 1) := by decide +kernel
theorem dX7_loseLadder_7 : decode cX7_loseLadder 7 = .ok (.bipush (-9), 2) := by decide +kernel
theorem dX7_loseLadder_9 : decode cX7_loseLadder 9 = .ok (.putfield 33, 3) := by decide +kernel
theorem dX7_loseLadder_12 : decode cX7_loseLadder 12 = .ok (.return_, 1) := by decide +kernel
def fX7_loseLadder (M : Mm) (o : Nat) : Option Mm :=
  B1 (wrI M o 10 6 (-9)) fun M3_1 =>
  B1 (wrI M3_1 o 10 7 (-9)) fun M9_2 =>
  some M9_2
set_option maxRecDepth 100000 in
set_option maxHeartbeats 4000000 in
theorem qX7_loseLadder (l : Launch) (E : Ev) {M : Mm} {o : Nat} {Mz : Mm} (hf : fX7_loseLadder M o = some Mz) : Ct l E yX7_loseLadder cX7_loseLadder 1 none 0 0 0 0 [.ref (E.b + o)] M none Mz := by
  refine ct_of (by decide +kernel) (Nat.le_of_ble_eq_true rfl) fun p e s m args below meth c C hr hin hW ls hl => ?_
  have hl : lv_has ls 1 [(0, .ref (E.b + o))] := hl
  unfold fX7_loseLadder at hf
  refine lv_aload_n C.x C.b dX7_loseLadder_0 rfl (lv_at hl 0 rfl) ?_
  refine lv_bipush (v := (-9)) C.x C.b dX7_loseLadder_1 (by decide) ?_
  replace hf := x_b1 hf; obtain ⟨M3_1, hM3_1, hf⟩ := hf
  refine x_puti C hW fp_X7_30_10 hM3_1 (fun h => by cases h) dX7_loseLadder_3 (fun H locs hW => ?_)
  refine lv_aload_n C.x C.b dX7_loseLadder_6 rfl (lv_at hl 0 rfl) ?_
  refine lv_bipush (v := (-9)) C.x C.b dX7_loseLadder_7 (by decide) ?_
  replace hf := x_b1 hf; obtain ⟨M9_2, hM9_2, hf⟩ := hf
  refine x_puti C hW fp_X7_33_10 hM9_2 (fun h => by cases h) dX7_loseLadder_9 (fun H locs hW => ?_)
  rw [x_e0 hf]
  exact x_vret C hr hW dX7_loseLadder_12

theorem dX7_begin_0 : decode cX7_begin 0 = .ok (.aload_n 0, 1) := by decide +kernel
theorem dX7_begin_1 : decode cX7_begin 1 = .ok (.iload_n 1, 1) := by decide +kernel
theorem dX7_begin_2 : decode cX7_begin 2 = .ok (.putfield 9, 3) := by decide +kernel
theorem dX7_begin_5 : decode cX7_begin 5 = .ok (.aload_n 0, 1) := by decide +kernel
theorem dX7_begin_6 : decode cX7_begin 6 = .ok (.iload_n 2, 1) := by decide +kernel
theorem dX7_begin_7 : decode cX7_begin 7 = .ok (.putfield 15, 3) := by decide +kernel
theorem dX7_begin_10 : decode cX7_begin 10 = .ok (.aload_n 0, 1) := by decide +kernel
theorem dX7_begin_11 : decode cX7_begin 11 = .ok (.iload_n 3, 1) := by decide +kernel
theorem dX7_begin_12 : decode cX7_begin 12 = .ok (.putfield 18, 3) := by decide +kernel
theorem dX7_begin_15 : decode cX7_begin 15 = .ok (.aload_n 0, 1) := by decide +kernel
theorem dX7_begin_16 : decode cX7_begin 16 = .ok (.iload 4, 2) := by decide +kernel
theorem dX7_begin_18 : decode cX7_begin 18 = .ok (.putfield 21, 3) := by decide +kernel
theorem dX7_begin_21 : decode cX7_begin 21 = .ok (.aload_n 0, 1) := by decide +kernel
theorem dX7_begin_22 : decode cX7_begin 22 = .ok (.iconst 0, 1) := by decide +kernel
theorem dX7_begin_23 : decode cX7_begin 23 = .ok (.putfield 24, 3) := by decide +kernel
theorem dX7_begin_26 : decode cX7_begin 26 = .ok (.aload_n 0, 1) := by decide +kernel
theorem dX7_begin_27 : decode cX7_begin 27 = .ok (.iconst 0, 1) := by decide +kernel
theorem dX7_begin_28 : decode cX7_begin 28 = .ok (.putfield 27, 3) := by decide +kernel
theorem dX7_begin_31 : decode cX7_begin 31 = .ok (.aload_n 0, 1) := by decide +kernel
theorem dX7_begin_32 : decode cX7_begin 32 = .ok (.iconst 0, 1) := by decide +kernel
theorem dX7_begin_33 : decode cX7_begin 33 = .ok (.putfield 36, 3) := by decide +kernel
theorem dX7_begin_36 : decode cX7_begin 36 = .ok (.aload_n 0, 1) := by decide +kernel
theorem dX7_begin_37 : decode cX7_begin 37 = .ok (.invokevirtual 46, 3) := by decide +kernel
theorem dX7_begin_40 : decode cX7_begin 40 = .ok (.return_, 1) := by decide +kernel
theorem hd_X7_loseLadder : yX7_loseLadder.cls ≠ "java/lang/invoke/MethodHandle" ∧ yX7_loseLadder.cls ≠ "java/lang/invoke/VarHandle" ∧ (parseMethodDescriptor yX7_loseLadder.desc).map (fun d => d.parameters.length) = some 0 := by decide +kernel
theorem gv_X7_46 : GoodIn gT (wsV "NylonLadder$Stocking" 46 "NylonLadder$Stocking" yX7_loseLadder (Cond.code yX7_loseLadder cX7_loseLadder 1 none :: gT)) := good_V T_2_221 T_2_222 T_2_223 T_1_4 T_2_224
def fX7_begin (M : Mm) (o : Nat) (p1 : Int32) (p2 : Int32) (p3 : Int32) (p4 : Int32) : Option Mm :=
  B1 (wrI M o 10 0 p1) fun M2_1 =>
  B1 (wrI M2_1 o 10 1 p2) fun M7_2 =>
  B1 (wrI M7_2 o 10 2 p3) fun M12_3 =>
  B1 (wrI M12_3 o 10 3 p4) fun M18_4 =>
  B1 (wrI M18_4 o 10 4 0) fun M23_5 =>
  B1 (wrI M23_5 o 10 5 0) fun M28_6 =>
  B1 (wrI M28_6 o 10 8 0) fun M33_7 =>
  B1 (gk M33_7 o 10) fun _ =>
  B1 (fX7_loseLadder M33_7 o) fun M37_9 =>
  some M37_9
set_option maxRecDepth 100000 in
set_option maxHeartbeats 4000000 in
theorem qX7_begin (l : Launch) (E : Ev) {M : Mm} {o : Nat} {p1 : Int32} {p2 : Int32} {p3 : Int32} {p4 : Int32} {Mz : Mm} (hf : fX7_begin M o p1 p2 p3 p4 = some Mz) : Ct l E yX7_begin cX7_begin 5 none 1 20 0 0 [.ref (E.b + o), .int p1, .int p2, .int p3, .int p4] M none Mz := by
  refine ct_of (by decide +kernel) (Nat.le_of_ble_eq_true rfl) fun p e s m args below meth c C hr hin hW ls hl => ?_
  have hl : lv_has ls 5 [(0, .ref (E.b + o)), (1, .int p1), (2, .int p2), (3, .int p3), (4, .int p4)] := hl
  unfold fX7_begin at hf
  refine lv_aload_n C.x C.b dX7_begin_0 rfl (lv_at hl 0 rfl) ?_
  refine lv_iload_n C.x C.b dX7_begin_1 rfl (lv_at hl 1 rfl) ?_
  replace hf := x_b1 hf; obtain ⟨M2_1, hM2_1, hf⟩ := hf
  refine x_puti C hW fp_X7_9_10 hM2_1 (fun h => by cases h) dX7_begin_2 (fun H locs hW => ?_)
  refine lv_aload_n C.x C.b dX7_begin_5 rfl (lv_at hl 0 rfl) ?_
  refine lv_iload_n C.x C.b dX7_begin_6 rfl (lv_at hl 2 rfl) ?_
  replace hf := x_b1 hf; obtain ⟨M7_2, hM7_2, hf⟩ := hf
  refine x_puti C hW fp_X7_15_10 hM7_2 (fun h => by cases h) dX7_begin_7 (fun H locs hW => ?_)
  refine lv_aload_n C.x C.b dX7_begin_10 rfl (lv_at hl 0 rfl) ?_
  refine lv_iload_n C.x C.b dX7_begin_11 rfl (lv_at hl 3 rfl) ?_
  replace hf := x_b1 hf; obtain ⟨M12_3, hM12_3, hf⟩ := hf
  refine x_puti C hW fp_X7_18_10 hM12_3 (fun h => by cases h) dX7_begin_12 (fun H locs hW => ?_)
  refine lv_aload_n C.x C.b dX7_begin_15 rfl (lv_at hl 0 rfl) ?_
  refine lv_iload C.x C.b dX7_begin_16 (lv_at hl 4 rfl) ?_
  replace hf := x_b1 hf; obtain ⟨M18_4, hM18_4, hf⟩ := hf
  refine x_puti C hW fp_X7_21_10 hM18_4 (fun h => by cases h) dX7_begin_18 (fun H locs hW => ?_)
  refine lv_aload_n C.x C.b dX7_begin_21 rfl (lv_at hl 0 rfl) ?_
  refine lv_iconst (v := 0) C.x C.b dX7_begin_22 (by decide) ?_
  replace hf := x_b1 hf; obtain ⟨M23_5, hM23_5, hf⟩ := hf
  refine x_puti C hW fp_X7_24_10 hM23_5 (fun h => by cases h) dX7_begin_23 (fun H locs hW => ?_)
  refine lv_aload_n C.x C.b dX7_begin_26 rfl (lv_at hl 0 rfl) ?_
  refine lv_iconst (v := 0) C.x C.b dX7_begin_27 (by decide) ?_
  replace hf := x_b1 hf; obtain ⟨M28_6, hM28_6, hf⟩ := hf
  refine x_puti C hW fp_X7_27_10 hM28_6 (fun h => by cases h) dX7_begin_28 (fun H locs hW => ?_)
  refine lv_aload_n C.x C.b dX7_begin_31 rfl (lv_at hl 0 rfl) ?_
  refine lv_iconst (v := 0) C.x C.b dX7_begin_32 (by decide) ?_
  replace hf := x_b1 hf; obtain ⟨M33_7, hM33_7, hf⟩ := hf
  refine x_puti C hW fp_X7_36_10 hM33_7 (fun h => by cases h) dX7_begin_33 (fun H locs hW => ?_)
  refine lv_aload_n C.x C.b dX7_begin_36 rfl (lv_at hl 0 rfl) ?_
  replace hf := x_b1 hf; obtain ⟨_, hk37_8, hf⟩ := hf
  replace hf := x_b1 hf; obtain ⟨M37_9, hM37_9, hf⟩ := hf
  refine x_callV (As := []) (a := o) (rest := []) C hW hl (qX7_loseLadder l E hM37_9) (x_gk hk37_8) (by decide) (by decide) rfl gv_X7_46 ⟨rfl, hd_X7_loseLadder⟩ rfl rfl (Nat.le_of_ble_eq_true rfl) dX7_begin_37 ⟨Nat.le_of_ble_eq_true rfl, Nat.le_of_ble_eq_true rfl⟩ ⟨Nat.le_of_ble_eq_true rfl, Nat.le_of_ble_eq_true rfl⟩ (fun H locs hW => ?_)
  rw [x_e0 hf]
  exact x_vret C hr hW dX7_begin_40

theorem dX7_become_0 : decode cX7_become 0 = .ok (.aload_n 0, 1) := by decide +kernel
theorem dX7_become_1 : decode cX7_become 1 = .ok (.aload_n 1, 1) := by decide +kernel
theorem dX7_become_2 : decode cX7_become 2 = .ok (.getfield 9, 3) := by decide +kernel
theorem dX7_become_5 : decode cX7_become 5 = .ok (.aload_n 1, 1) := by decide +kernel
theorem dX7_become_6 : decode cX7_become 6 = .ok (.getfield 15, 3) := by decide +kernel
theorem dX7_become_9 : decode cX7_become 9 = .ok (.aload_n 1, 1) := by decide +kernel
theorem dX7_become_10 : decode cX7_become 10 = .ok (.getfield 18, 3) := by decide +kernel
theorem dX7_become_13 : decode cX7_become 13 = .ok (.aload_n 1, 1) := by decide +kernel
theorem dX7_become_14 : decode cX7_become 14 = .ok (.getfield 21, 3) := by decide +kernel
theorem dX7_become_17 : decode cX7_become 17 = .ok (.invokevirtual 49, 3) := by decide +kernel
theorem dX7_become_20 : decode cX7_become 20 = .ok (.aload_n 0, 1) := by decide +kernel
theorem dX7_become_21 : decode cX7_become 21 = .ok (.aload_n 1, 1) := by decide +kernel
theorem dX7_become_22 : decode cX7_become 22 = .ok (.getfield 24, 3) := by decide +kernel
theorem dX7_become_25 : decode cX7_become 25 = .ok (.putfield 24, 3) := by decide +kernel
theorem dX7_become_28 : decode cX7_become 28 = .ok (.aload_n 0, 1) := by decide +kernel
theorem dX7_become_29 : decode cX7_become 29 = .ok (.aload_n 1, 1) := by decide +kernel
theorem dX7_become_30 : decode cX7_become 30 = .ok (.getfield 27, 3) := by decide +kernel
theorem dX7_become_33 : decode cX7_become 33 = .ok (.putfield 27, 3) := by decide +kernel
theorem dX7_become_36 : decode cX7_become 36 = .ok (.aload_n 0, 1) := by decide +kernel
theorem dX7_become_37 : decode cX7_become 37 = .ok (.aload_n 1, 1) := by decide +kernel
theorem dX7_become_38 : decode cX7_become 38 = .ok (.getfield 30, 3) := by decide +kernel
theorem dX7_become_41 : decode cX7_become 41 = .ok (.putfield 30, 3) := by decide +kernel
theorem dX7_become_44 : decode cX7_become 44 = .ok (.aload_n 0, 1) := by decide +kernel
theorem dX7_become_45 : decode cX7_become 45 = .ok (.aload_n 1, 1) := by decide +kernel
theorem dX7_become_46 : decode cX7_become 46 = .ok (.getfield 33, 3) := by decide +kernel
theorem dX7_become_49 : decode cX7_become 49 = .ok (.putfield 33, 3) := by decide +kernel
theorem dX7_become_52 : decode cX7_become 52 = .ok (.aload_n 0, 1) := by decide +kernel
theorem dX7_become_53 : decode cX7_become 53 = .ok (.aload_n 1, 1) := by decide +kernel
theorem dX7_become_54 : decode cX7_become 54 = .ok (.getfield 36, 3) := by decide +kernel
theorem dX7_become_57 : decode cX7_become 57 = .ok (.putfield 36, 3) := by decide +kernel
theorem dX7_become_60 : decode cX7_become 60 = .ok (.aload_n 1, 1) := by decide +kernel
theorem dX7_become_61 : decode cX7_become 61 = .ok (.getfield 39, 3) := by decide +kernel
theorem dX7_become_64 : decode cX7_become 64 = .ok (.iconst 0, 1) := by decide +kernel
theorem dX7_become_65 : decode cX7_become 65 = .ok (.aload_n 0, 1) := by decide +kernel
theorem dX7_become_66 : decode cX7_become 66 = .ok (.getfield 39, 3) := by decide +kernel
theorem dX7_become_69 : decode cX7_become 69 = .ok (.iconst 0, 1) := by decide +kernel
theorem dX7_become_70 : decode cX7_become 70 = .ok (.iconst 2, 1) := by decide +kernel
theorem dX7_become_71 : decode cX7_become 71 = .ok (.invokestatic 53, 3) := by decide +kernel
theorem dX7_become_74 : decode cX7_become 74 = .ok (.aload_n 1, 1) := by decide +kernel
theorem dX7_become_75 : decode cX7_become 75 = .ok (.getfield 43, 3) := by decide +kernel
theorem dX7_become_78 : decode cX7_become 78 = .ok (.iconst 0, 1) := by decide +kernel
theorem dX7_become_79 : decode cX7_become 79 = .ok (.aload_n 0, 1) := by decide +kernel
theorem dX7_become_80 : decode cX7_become 80 = .ok (.getfield 43, 3) := by decide +kernel
theorem dX7_become_83 : decode cX7_become 83 = .ok (.iconst 0, 1) := by decide +kernel
theorem dX7_become_84 : decode cX7_become 84 = .ok (.iconst 2, 1) := by decide +kernel
theorem dX7_become_85 : decode cX7_become 85 = .ok (.invokestatic 53, 3) := by decide +kernel
theorem dX7_become_88 : decode cX7_become 88 = .ok (.return_, 1) := by decide +kernel
theorem fg_X7_9_10 : FdG "NylonLadder$Stocking" 9 10 0 false := ⟨_, _, _, _, rfl, by decide, by decide, by decide, gxX7, by decide, T_1_75, Or.inl rfl, rfl⟩
theorem fg_X7_15_10 : FdG "NylonLadder$Stocking" 15 10 1 false := ⟨_, _, _, _, rfl, by decide, by decide, by decide, gxX7, by decide, T_1_78, Or.inl rfl, rfl⟩
theorem fg_X7_18_10 : FdG "NylonLadder$Stocking" 18 10 2 false := ⟨_, _, _, _, rfl, by decide, by decide, by decide, gxX7, by decide, T_1_80, Or.inl rfl, rfl⟩
theorem fg_X7_21_10 : FdG "NylonLadder$Stocking" 21 10 3 false := ⟨_, _, _, _, rfl, by decide, by decide, by decide, gxX7, by decide, T_1_83, Or.inl rfl, rfl⟩
theorem hd_X7_begin : yX7_begin.cls ≠ "java/lang/invoke/MethodHandle" ∧ yX7_begin.cls ≠ "java/lang/invoke/VarHandle" ∧ (parseMethodDescriptor yX7_begin.desc).map (fun d => d.parameters.length) = some 4 := by decide +kernel
theorem gv_X7_49 : GoodIn gT (wsV "NylonLadder$Stocking" 49 "NylonLadder$Stocking" yX7_begin (Cond.code yX7_begin cX7_begin 5 none :: gT)) := good_V T_2_233 T_2_218 T_2_219 T_1_4 T_2_220
theorem fg_X7_24_10 : FdG "NylonLadder$Stocking" 24 10 4 false := ⟨_, _, _, _, rfl, by decide, by decide, by decide, gxX7, by decide, T_1_85, Or.inl rfl, rfl⟩
theorem fg_X7_27_10 : FdG "NylonLadder$Stocking" 27 10 5 false := ⟨_, _, _, _, rfl, by decide, by decide, by decide, gxX7, by decide, T_1_88, Or.inl rfl, rfl⟩
theorem fg_X7_30_10 : FdG "NylonLadder$Stocking" 30 10 6 false := ⟨_, _, _, _, rfl, by decide, by decide, by decide, gxX7, by decide, T_1_90, Or.inl rfl, rfl⟩
theorem fg_X7_33_10 : FdG "NylonLadder$Stocking" 33 10 7 false := ⟨_, _, _, _, rfl, by decide, by decide, by decide, gxX7, by decide, T_1_93, Or.inl rfl, rfl⟩
theorem fg_X7_36_10 : FdG "NylonLadder$Stocking" 36 10 8 false := ⟨_, _, _, _, rfl, by decide, by decide, by decide, gxX7, by decide, T_1_96, Or.inl rfl, rfl⟩
theorem fg_X7_39_10 : FdG "NylonLadder$Stocking" 39 10 9 true := ⟨_, _, _, _, rfl, by decide, by decide, by decide, gxX7, by decide, T_1_99, Or.inl rfl, rfl⟩
theorem fg_X7_43_10 : FdG "NylonLadder$Stocking" 43 10 10 true := ⟨_, _, _, _, rfl, by decide, by decide, by decide, gxX7, by decide, T_1_100, Or.inl rfl, rfl⟩
def fX7_become (M : Mm) (o : Nat) (p1 : Nat) : Option Mm :=
  B1 (rdI M p1 10 0) fun x2_1 =>
  B1 (rdI M p1 10 1) fun x6_2 =>
  B1 (rdI M p1 10 2) fun x10_3 =>
  B1 (rdI M p1 10 3) fun x14_4 =>
  B1 (gk M o 10) fun _ =>
  B1 (fX7_begin M o x2_1 x6_2 x10_3 x14_4) fun M17_6 =>
  B1 (rdI M17_6 p1 10 4) fun x22_7 =>
  B1 (wrI M17_6 o 10 4 x22_7) fun M25_8 =>
  B1 (rdI M25_8 p1 10 5) fun x30_9 =>
  B1 (wrI M25_8 o 10 5 x30_9) fun M33_10 =>
  B1 (rdI M33_10 p1 10 6) fun x38_11 =>
  B1 (wrI M33_10 o 10 6 x38_11) fun M41_12 =>
  B1 (rdI M41_12 p1 10 7) fun x46_13 =>
  B1 (wrI M41_12 o 10 7 x46_13) fun M49_14 =>
  B1 (rdI M49_14 p1 10 8) fun x54_15 =>
  B1 (wrI M49_14 o 10 8 x54_15) fun M57_16 =>
  B1 (rdN M57_16 p1 10 9) fun a61_17 =>
  B1 (rdN M57_16 o 10 9) fun a66_18 =>
  B1 (cpI M57_16 a61_17 0 a66_18 0 2) fun M71_19 =>
  B1 (rdN M71_19 p1 10 10) fun a75_20 =>
  B1 (rdN M71_19 o 10 10) fun a80_21 =>
  B1 (cpI M71_19 a75_20 0 a80_21 0 2) fun M85_22 =>
  some M85_22
set_option maxRecDepth 100000 in
set_option maxHeartbeats 4000000 in
theorem qX7_become (l : Launch) (E : Ev) {M : Mm} {o : Nat} {p1 : Nat} {Mz : Mm} (hf : fX7_become M o p1 = some Mz) : Ct l E yX7_become cX7_become 2 none 2 44 0 0 [.ref (E.b + o), .ref (E.b + p1)] M none Mz := by
  refine ct_of (by decide +kernel) (Nat.le_of_ble_eq_true rfl) fun p e s m args below meth c C hr hin hW ls hl => ?_
  have hl : lv_has ls 2 [(0, .ref (E.b + o)), (1, .ref (E.b + p1))] := hl
  unfold fX7_become at hf
  refine lv_aload_n C.x C.b dX7_become_0 rfl (lv_at hl 0 rfl) ?_
  refine lv_aload_n C.x C.b dX7_become_1 rfl (lv_at hl 1 rfl) ?_
  replace hf := x_b1 hf; obtain ⟨x2_1, hx2_1, hf⟩ := hf
  refine x_geti C hW fg_X7_9_10 hx2_1 dX7_become_2 ?_
  refine lv_aload_n C.x C.b dX7_become_5 rfl (lv_at hl 1 rfl) ?_
  replace hf := x_b1 hf; obtain ⟨x6_2, hx6_2, hf⟩ := hf
  refine x_geti C hW fg_X7_15_10 hx6_2 dX7_become_6 ?_
  refine lv_aload_n C.x C.b dX7_become_9 rfl (lv_at hl 1 rfl) ?_
  replace hf := x_b1 hf; obtain ⟨x10_3, hx10_3, hf⟩ := hf
  refine x_geti C hW fg_X7_18_10 hx10_3 dX7_become_10 ?_
  refine lv_aload_n C.x C.b dX7_become_13 rfl (lv_at hl 1 rfl) ?_
  replace hf := x_b1 hf; obtain ⟨x14_4, hx14_4, hf⟩ := hf
  refine x_geti C hW fg_X7_21_10 hx14_4 dX7_become_14 ?_
  replace hf := x_b1 hf; obtain ⟨_, hk17_5, hf⟩ := hf
  replace hf := x_b1 hf; obtain ⟨M17_6, hM17_6, hf⟩ := hf
  refine x_callV (As := [.int x2_1, .int x6_2, .int x10_3, .int x14_4]) (a := o) (rest := []) C hW hl (qX7_begin l E hM17_6) (x_gk hk17_5) (by decide) (by decide) rfl gv_X7_49 ⟨rfl, hd_X7_begin⟩ rfl rfl (Nat.le_of_ble_eq_true rfl) dX7_become_17 ⟨Nat.le_of_ble_eq_true rfl, Nat.le_of_ble_eq_true rfl⟩ ⟨Nat.le_of_ble_eq_true rfl, Nat.le_of_ble_eq_true rfl⟩ (fun H locs hW => ?_)
  refine lv_aload_n C.x C.b dX7_become_20 rfl (lv_at hl 0 rfl) ?_
  refine lv_aload_n C.x C.b dX7_become_21 rfl (lv_at hl 1 rfl) ?_
  replace hf := x_b1 hf; obtain ⟨x22_7, hx22_7, hf⟩ := hf
  refine x_geti C hW fg_X7_24_10 hx22_7 dX7_become_22 ?_
  replace hf := x_b1 hf; obtain ⟨M25_8, hM25_8, hf⟩ := hf
  refine x_puti C hW fp_X7_24_10 hM25_8 (fun h => by cases h) dX7_become_25 (fun H locs hW => ?_)
  refine lv_aload_n C.x C.b dX7_become_28 rfl (lv_at hl 0 rfl) ?_
  refine lv_aload_n C.x C.b dX7_become_29 rfl (lv_at hl 1 rfl) ?_
  replace hf := x_b1 hf; obtain ⟨x30_9, hx30_9, hf⟩ := hf
  refine x_geti C hW fg_X7_27_10 hx30_9 dX7_become_30 ?_
  replace hf := x_b1 hf; obtain ⟨M33_10, hM33_10, hf⟩ := hf
  refine x_puti C hW fp_X7_27_10 hM33_10 (fun h => by cases h) dX7_become_33 (fun H locs hW => ?_)
  refine lv_aload_n C.x C.b dX7_become_36 rfl (lv_at hl 0 rfl) ?_
  refine lv_aload_n C.x C.b dX7_become_37 rfl (lv_at hl 1 rfl) ?_
  replace hf := x_b1 hf; obtain ⟨x38_11, hx38_11, hf⟩ := hf
  refine x_geti C hW fg_X7_30_10 hx38_11 dX7_become_38 ?_
  replace hf := x_b1 hf; obtain ⟨M41_12, hM41_12, hf⟩ := hf
  refine x_puti C hW fp_X7_30_10 hM41_12 (fun h => by cases h) dX7_become_41 (fun H locs hW => ?_)
  refine lv_aload_n C.x C.b dX7_become_44 rfl (lv_at hl 0 rfl) ?_
  refine lv_aload_n C.x C.b dX7_become_45 rfl (lv_at hl 1 rfl) ?_
  replace hf := x_b1 hf; obtain ⟨x46_13, hx46_13, hf⟩ := hf
  refine x_geti C hW fg_X7_33_10 hx46_13 dX7_become_46 ?_
  replace hf := x_b1 hf; obtain ⟨M49_14, hM49_14, hf⟩ := hf
  refine x_puti C hW fp_X7_33_10 hM49_14 (fun h => by cases h) dX7_become_49 (fun H locs hW => ?_)
  refine lv_aload_n C.x C.b dX7_become_52 rfl (lv_at hl 0 rfl) ?_
  refine lv_aload_n C.x C.b dX7_become_53 rfl (lv_at hl 1 rfl) ?_
  replace hf := x_b1 hf; obtain ⟨x54_15, hx54_15, hf⟩ := hf
  refine x_geti C hW fg_X7_36_10 hx54_15 dX7_become_54 ?_
  replace hf := x_b1 hf; obtain ⟨M57_16, hM57_16, hf⟩ := hf
  refine x_puti C hW fp_X7_36_10 hM57_16 (fun h => by cases h) dX7_become_57 (fun H locs hW => ?_)
  refine lv_aload_n C.x C.b dX7_become_60 rfl (lv_at hl 1 rfl) ?_
  replace hf := x_b1 hf; obtain ⟨a61_17, ha61_17, hf⟩ := hf
  refine x_getn C hW fg_X7_39_10 ha61_17 dX7_become_61 ?_
  refine lv_iconst (v := 0) C.x C.b dX7_become_64 (by decide) ?_
  refine lv_aload_n C.x C.b dX7_become_65 rfl (lv_at hl 0 rfl) ?_
  replace hf := x_b1 hf; obtain ⟨a66_18, ha66_18, hf⟩ := hf
  refine x_getn C hW fg_X7_39_10 ha66_18 dX7_become_66 ?_
  refine lv_iconst (v := 0) C.x C.b dX7_become_69 (by decide) ?_
  refine lv_iconst (v := 2) C.x C.b dX7_become_70 (by decide) ?_
  replace hf := x_b1 hf; obtain ⟨M71_19, hM71_19, hf⟩ := hf
  refine x_cpI C hW hl T_2_234 T_1_129 T_1_128 T_1_5 hM71_19 (Nat.le_of_ble_eq_true rfl) (Nat.le_of_ble_eq_true rfl) dX7_become_71 (fun H locs hW => ?_)
  refine lv_aload_n C.x C.b dX7_become_74 rfl (lv_at hl 1 rfl) ?_
  replace hf := x_b1 hf; obtain ⟨a75_20, ha75_20, hf⟩ := hf
  refine x_getn C hW fg_X7_43_10 ha75_20 dX7_become_75 ?_
  refine lv_iconst (v := 0) C.x C.b dX7_become_78 (by decide) ?_
  refine lv_aload_n C.x C.b dX7_become_79 rfl (lv_at hl 0 rfl) ?_
  replace hf := x_b1 hf; obtain ⟨a80_21, ha80_21, hf⟩ := hf
  refine x_getn C hW fg_X7_43_10 ha80_21 dX7_become_80 ?_
  refine lv_iconst (v := 0) C.x C.b dX7_become_83 (by decide) ?_
  refine lv_iconst (v := 2) C.x C.b dX7_become_84 (by decide) ?_
  replace hf := x_b1 hf; obtain ⟨M85_22, hM85_22, hf⟩ := hf
  refine x_cpI C hW hl T_2_234 T_1_129 T_1_128 T_1_5 hM85_22 (Nat.le_of_ble_eq_true rfl) (Nat.le_of_ble_eq_true rfl) dX7_become_85 (fun H locs hW => ?_)
  rw [x_e0 hf]
  exact x_vret C hr hW dX7_become_88

theorem dX10_become_0 : decode cX10_become 0 = .ok (.aload_n 0, 1) := by decide +kernel
theorem dX10_become_1 : decode cX10_become 1 = .ok (.aload_n 1, 1) := by decide +kernel
theorem dX10_become_2 : decode cX10_become 2 = .ok (.getfield 9, 3) := by decide +kernel
theorem dX10_become_5 : decode cX10_become 5 = .ok (.putfield 9, 3) := by decide +kernel
theorem dX10_become_8 : decode cX10_become 8 = .ok (.aload_n 1, 1) := by decide +kernel
theorem dX10_become_9 : decode cX10_become 9 = .ok (.getfield 15, 3) := by decide +kernel
theorem dX10_become_12 : decode cX10_become 12 = .ok (.iconst 0, 1) := by decide +kernel
theorem dX10_become_13 : decode cX10_become 13 = .ok (.aload_n 0, 1) := by decide +kernel
theorem dX10_become_14 : decode cX10_become 14 = .ok (.getfield 15, 3) := by decide +kernel
theorem dX10_become_17 : decode cX10_become 17 = .ok (.iconst 0, 1) := by decide +kernel
theorem dX10_become_18 : decode cX10_become 18 = .ok (.bipush 10, 2) := by decide +kernel
theorem dX10_become_20 : decode cX10_become 20 = .ok (.invokestatic 22, 3) := by decide +kernel
theorem dX10_become_23 : decode cX10_become 23 = .ok (.aload_n 1, 1) := by decide +kernel
theorem dX10_become_24 : decode cX10_become 24 = .ok (.getfield 19, 3) := by decide +kernel
theorem dX10_become_27 : decode cX10_become 27 = .ok (.iconst 0, 1) := by decide +kernel
theorem dX10_become_28 : decode cX10_become 28 = .ok (.aload_n 0, 1) := by decide +kernel
theorem dX10_become_29 : decode cX10_become 29 = .ok (.getfield 19, 3) := by decide +kernel
theorem dX10_become_32 : decode cX10_become 32 = .ok (.iconst 0, 1) := by decide +kernel
theorem dX10_become_33 : decode cX10_become 33 = .ok (.bipush 10, 2) := by decide +kernel
theorem dX10_become_35 : decode cX10_become 35 = .ok (.invokestatic 22, 3) := by decide +kernel
theorem dX10_become_38 : decode cX10_become 38 = .ok (.return_, 1) := by decide +kernel
theorem fg_X10_9_13 : FdG "NylonLadder$Way" 9 13 0 false := ⟨_, _, _, _, rfl, by decide, by decide, by decide, gxX10, by decide, T_1_52, Or.inl rfl, rfl⟩
theorem fg_X10_15_13 : FdG "NylonLadder$Way" 15 13 1 true := ⟨_, _, _, _, rfl, by decide, by decide, by decide, gxX10, by decide, T_1_56, Or.inl rfl, rfl⟩
theorem fg_X10_19_13 : FdG "NylonLadder$Way" 19 13 2 true := ⟨_, _, _, _, rfl, by decide, by decide, by decide, gxX10, by decide, T_1_59, Or.inl rfl, rfl⟩
def fX10_become (M : Mm) (o : Nat) (p1 : Nat) : Option Mm :=
  B1 (rdI M p1 13 0) fun x2_1 =>
  B1 (wrI M o 13 0 x2_1) fun M5_2 =>
  B1 (rdN M5_2 p1 13 1) fun a9_3 =>
  B1 (rdN M5_2 o 13 1) fun a14_4 =>
  B1 (cpI M5_2 a9_3 0 a14_4 0 10) fun M20_5 =>
  B1 (rdN M20_5 p1 13 2) fun a24_6 =>
  B1 (rdN M20_5 o 13 2) fun a29_7 =>
  B1 (cpI M20_5 a24_6 0 a29_7 0 10) fun M35_8 =>
  some M35_8
set_option maxRecDepth 100000 in
set_option maxHeartbeats 4000000 in
theorem qX10_become (l : Launch) (E : Ev) {M : Mm} {o : Nat} {p1 : Nat} {Mz : Mm} (hf : fX10_become M o p1 = some Mz) : Ct l E yX10_become cX10_become 2 none 1 18 0 0 [.ref (E.b + o), .ref (E.b + p1)] M none Mz := by
  refine ct_of (by decide +kernel) (Nat.le_of_ble_eq_true rfl) fun p e s m args below meth c C hr hin hW ls hl => ?_
  have hl : lv_has ls 2 [(0, .ref (E.b + o)), (1, .ref (E.b + p1))] := hl
  unfold fX10_become at hf
  refine lv_aload_n C.x C.b dX10_become_0 rfl (lv_at hl 0 rfl) ?_
  refine lv_aload_n C.x C.b dX10_become_1 rfl (lv_at hl 1 rfl) ?_
  replace hf := x_b1 hf; obtain ⟨x2_1, hx2_1, hf⟩ := hf
  refine x_geti C hW fg_X10_9_13 hx2_1 dX10_become_2 ?_
  replace hf := x_b1 hf; obtain ⟨M5_2, hM5_2, hf⟩ := hf
  refine x_puti C hW fp_X10_9_13 hM5_2 (fun h => by cases h) dX10_become_5 (fun H locs hW => ?_)
  refine lv_aload_n C.x C.b dX10_become_8 rfl (lv_at hl 1 rfl) ?_
  replace hf := x_b1 hf; obtain ⟨a9_3, ha9_3, hf⟩ := hf
  refine x_getn C hW fg_X10_15_13 ha9_3 dX10_become_9 ?_
  refine lv_iconst (v := 0) C.x C.b dX10_become_12 (by decide) ?_
  refine lv_aload_n C.x C.b dX10_become_13 rfl (lv_at hl 0 rfl) ?_
  replace hf := x_b1 hf; obtain ⟨a14_4, ha14_4, hf⟩ := hf
  refine x_getn C hW fg_X10_15_13 ha14_4 dX10_become_14 ?_
  refine lv_iconst (v := 0) C.x C.b dX10_become_17 (by decide) ?_
  refine lv_bipush (v := 10) C.x C.b dX10_become_18 (by decide) ?_
  replace hf := x_b1 hf; obtain ⟨M20_5, hM20_5, hf⟩ := hf
  refine x_cpI C hW hl T_2_239 T_1_129 T_1_128 T_1_5 hM20_5 (Nat.le_of_ble_eq_true rfl) (Nat.le_of_ble_eq_true rfl) dX10_become_20 (fun H locs hW => ?_)
  refine lv_aload_n C.x C.b dX10_become_23 rfl (lv_at hl 1 rfl) ?_
  replace hf := x_b1 hf; obtain ⟨a24_6, ha24_6, hf⟩ := hf
  refine x_getn C hW fg_X10_19_13 ha24_6 dX10_become_24 ?_
  refine lv_iconst (v := 0) C.x C.b dX10_become_27 (by decide) ?_
  refine lv_aload_n C.x C.b dX10_become_28 rfl (lv_at hl 0 rfl) ?_
  replace hf := x_b1 hf; obtain ⟨a29_7, ha29_7, hf⟩ := hf
  refine x_getn C hW fg_X10_19_13 ha29_7 dX10_become_29 ?_
  refine lv_iconst (v := 0) C.x C.b dX10_become_32 (by decide) ?_
  refine lv_bipush (v := 10) C.x C.b dX10_become_33 (by decide) ?_
  replace hf := x_b1 hf; obtain ⟨M35_8, hM35_8, hf⟩ := hf
  refine x_cpI C hW hl T_2_239 T_1_129 T_1_128 T_1_5 hM35_8 (Nat.le_of_ble_eq_true rfl) (Nat.le_of_ble_eq_true rfl) dX10_become_35 (fun H locs hW => ?_)
  rw [x_e0 hf]
  exact x_vret C hr hW dX10_become_38

theorem dX0_become_0 : decode cX0_become 0 = .ok (.aload_n 1, 1) := by decide +kernel
theorem dX0_become_1 : decode cX0_become 1 = .ok (.getfield 9, 3) := by decide +kernel
theorem dX0_become_4 : decode cX0_become 4 = .ok (.iconst 0, 1) := by decide +kernel
theorem dX0_become_5 : decode cX0_become 5 = .ok (.aload_n 0, 1) := by decide +kernel
theorem dX0_become_6 : decode cX0_become 6 = .ok (.getfield 9, 3) := by decide +kernel
theorem dX0_become_9 : decode cX0_become 9 = .ok (.iconst 0, 1) := by decide +kernel
theorem dX0_become_10 : decode cX0_become 10 = .ok (.aload_n 0, 1) := by decide +kernel
theorem dX0_become_11 : decode cX0_become 11 = .ok (.getfield 9, 3) := by decide +kernel
theorem dX0_become_14 : decode cX0_become 14 = .ok (.arraylength, 1) := by decide +kernel
theorem dX0_become_15 : decode cX0_become 15 = .ok (.invokestatic 42, 3) := by decide +kernel
theorem dX0_become_18 : decode cX0_become 18 = .ok (.iconst 0, 1) := by decide +kernel
theorem dX0_become_19 : decode cX0_become 19 = .ok (.istore_n 2, 1) := by decide +kernel
theorem dX0_become_20 : decode cX0_become 20 = .ok (.iload_n 2, 1) := by decide +kernel
theorem dX0_become_21 : decode cX0_become 21 = .ok (.aload_n 1, 1) := by decide +kernel
theorem dX0_become_22 : decode cX0_become 22 = .ok (.getfield 21, 3) := by decide +kernel
theorem dX0_become_25 : decode cX0_become 25 = .ok (.if_icmp .ge 24, 3) := by decide +kernel
theorem dX0_become_28 : decode cX0_become 28 = .ok (.aload_n 0, 1) := by decide +kernel
theorem dX0_become_29 : decode cX0_become 29 = .ok (.getfield 17, 3) := by decide +kernel
theorem dX0_become_32 : decode cX0_become 32 = .ok (.iload_n 2, 1) := by decide +kernel
theorem dX0_become_33 : decode cX0_become 33 = .ok (.aaload, 1) := by decide +kernel
theorem dX0_become_34 : decode cX0_become 34 = .ok (.aload_n 1, 1) := by decide +kernel
theorem dX0_become_35 : decode cX0_become 35 = .ok (.getfield 17, 3) := by decide +kernel
theorem dX0_become_38 : decode cX0_become 38 = .ok (.iload_n 2, 1) := by decide +kernel
theorem dX0_become_39 : decode cX0_become 39 = .ok (.aaload, 1) := by decide +kernel
theorem dX0_become_40 : decode cX0_become 40 = .ok (.invokevirtual 52, 3) := by decide +kernel
theorem dX0_become_43 : decode cX0_become 43 = .ok (.iinc 2 1, 3) := by decide +kernel
theorem dX0_become_46 : decode cX0_become 46 = .ok (.goto (-26), 3) := by decide +kernel
theorem dX0_become_49 : decode cX0_become 49 = .ok (.aload_n 0, 1) := by decide +kernel
theorem dX0_become_50 : decode cX0_become 50 = .ok (.aload_n 1, 1) := by decide +kernel
theorem dX0_become_51 : decode cX0_become 51 = .ok (.getfield 21, 3) := by decide +kernel
theorem dX0_become_54 : decode cX0_become 54 = .ok (.putfield 21, 3) := by decide +kernel
theorem dX0_become_57 : decode cX0_become 57 = .ok (.aload_n 0, 1) := by decide +kernel
theorem dX0_become_58 : decode cX0_become 58 = .ok (.getfield 25, 3) := by decide +kernel
theorem dX0_become_61 : decode cX0_become 61 = .ok (.iconst 0, 1) := by decide +kernel
theorem dX0_become_62 : decode cX0_become 62 = .ok (.aload_n 1, 1) := by decide +kernel
theorem dX0_become_63 : decode cX0_become 63 = .ok (.getfield 25, 3) := by decide +kernel
theorem dX0_become_66 : decode cX0_become 66 = .ok (.iconst 0, 1) := by decide +kernel
theorem dX0_become_67 : decode cX0_become 67 = .ok (.iaload, 1) := by decide +kernel
theorem dX0_become_68 : decode cX0_become 68 = .ok (.iastore, 1) := by decide +kernel
theorem dX0_become_69 : decode cX0_become 69 = .ok (.aload_n 0, 1) := by decide +kernel
theorem dX0_become_70 : decode cX0_become 70 = .ok (.getfield 25, 3) := by decide +kernel
theorem dX0_become_73 : decode cX0_become 73 = .ok (.iconst 1, 1) := by decide +kernel
theorem dX0_become_74 : decode cX0_become 74 = .ok (.aload_n 1, 1) := by decide +kernel
theorem dX0_become_75 : decode cX0_become 75 = .ok (.getfield 25, 3) := by decide +kernel
theorem dX0_become_78 : decode cX0_become 78 = .ok (.iconst 1, 1) := by decide +kernel
theorem dX0_become_79 : decode cX0_become 79 = .ok (.iaload, 1) := by decide +kernel
theorem dX0_become_80 : decode cX0_become 80 = .ok (.iastore, 1) := by decide +kernel
theorem dX0_become_81 : decode cX0_become 81 = .ok (.aload_n 0, 1) := by decide +kernel
theorem dX0_become_82 : decode cX0_become 82 = .ok (.getfield 31, 3) := by decide +kernel
theorem dX0_become_85 : decode cX0_become 85 = .ok (.iconst 0, 1) := by decide +kernel
theorem dX0_become_86 : decode cX0_become 86 = .ok (.aaload, 1) := by decide +kernel
theorem dX0_become_87 : decode cX0_become 87 = .ok (.aload_n 1, 1) := by decide +kernel
theorem dX0_become_88 : decode cX0_become 88 = .ok (.getfield 31, 3) := by decide +kernel
theorem dX0_become_91 : decode cX0_become 91 = .ok (.iconst 0, 1) := by decide +kernel
theorem dX0_become_92 : decode cX0_become 92 = .ok (.aaload, 1) := by decide +kernel
theorem dX0_become_93 : decode cX0_become 93 = .ok (.invokevirtual 56, 3) := by decide +kernel
theorem dX0_become_96 : decode cX0_become 96 = .ok (.aload_n 0, 1) := by decide +kernel
theorem dX0_become_97 : decode cX0_become 97 = .ok (.getfield 31, 3) := by decide +kernel
theorem dX0_become_100 : decode cX0_become 100 = .ok (.iconst 1, 1) := by decide +kernel
theorem dX0_become_101 : decode cX0_become 101 = .ok (.aaload, 1) := by decide +kernel
theorem dX0_become_102 : decode cX0_become 102 = .ok (.aload_n 1, 1) := by decide +kernel
theorem dX0_become_103 : decode cX0_become 103 = .ok (.getfield 31, 3) := by decide +kernel
theorem dX0_become_106 : decode cX0_become 106 = .ok (.iconst 1, 1) := by decide +kernel
theorem dX0_become_107 : decode cX0_become 107 = .ok (.aaload, 1) := by decide +kernel
theorem dX0_become_108 : decode cX0_become 108 = .ok (.invokevirtual 56, 3) := by decide +kernel
theorem dX0_become_111 : decode cX0_become 111 = .ok (.aload_n 0, 1) := by decide +kernel
theorem dX0_become_112 : decode cX0_become 112 = .ok (.aload_n 1, 1) := by decide +kernel
theorem dX0_become_113 : decode cX0_become 113 = .ok (.getfield 35, 3) := by decide +kernel
theorem dX0_become_116 : decode cX0_become 116 = .ok (.putfield 35, 3) := by decide +kernel
theorem dX0_become_119 : decode cX0_become 119 = .ok (.return_, 1) := by decide +kernel
theorem fg_X0_21_3 : FdG "NylonLadder$Drawer" 21 3 2 false := ⟨_, _, _, _, rfl, by decide, by decide, by decide, gxX0, by decide, T_1_136, Or.inl rfl, rfl⟩
theorem hd_X10_become : yX10_become.cls ≠ "java/lang/invoke/MethodHandle" ∧ yX10_become.cls ≠ "java/lang/invoke/VarHandle" ∧ (parseMethodDescriptor yX10_become.desc).map (fun d => d.parameters.length) = some 1 := by decide +kernel
theorem gv_X0_56 : GoodIn gT (wsV "NylonLadder$Drawer" 56 "NylonLadder$Way" yX10_become (Cond.code yX10_become cX10_become 2 none :: gT)) := good_V T_2_235 T_2_236 T_2_237 T_1_3 T_2_238
theorem fg_X0_35_3 : FdG "NylonLadder$Drawer" 35 3 5 false := ⟨_, _, _, _, rfl, by decide, by decide, by decide, gxX0, by decide, T_1_145, Or.inl rfl, rfl⟩
theorem hd_X7_become : yX7_become.cls ≠ "java/lang/invoke/MethodHandle" ∧ yX7_become.cls ≠ "java/lang/invoke/VarHandle" ∧ (parseMethodDescriptor yX7_become.desc).map (fun d => d.parameters.length) = some 1 := by decide +kernel
theorem gv_X0_52 : GoodIn gT (wsV "NylonLadder$Drawer" 52 "NylonLadder$Stocking" yX7_become (Cond.code yX7_become cX7_become 2 none :: gT)) := good_V T_2_229 T_2_230 T_2_231 T_1_4 T_2_232
def fX0_become_L20 (o : Nat) (v1 : Nat) : Nat → Int32 → Mm → Option Mm
  | 0, _, _ => none
  | n + 1, v2, M =>
    B1 (rdI M v1 3 2) fun x22_6 =>
    if x22_6 ≤ v2 then
      B1 (rdI M v1 3 2) fun x51_7 =>
      B1 (wrI M o 3 2 x51_7) fun M54_8 =>
      B1 (rdN M54_8 o 3 3) fun a58_9 =>
      B1 (rdN M54_8 v1 3 3) fun a63_10 =>
      B1 (alI M54_8 a63_10 0) fun x67_11 =>
      B1 (asI M54_8 a58_9 0 x67_11) fun M68_12 =>
      B1 (rdN M68_12 o 3 3) fun a70_13 =>
      B1 (rdN M68_12 v1 3 3) fun a75_14 =>
      B1 (alI M68_12 a75_14 1) fun x79_15 =>
      B1 (asI M68_12 a70_13 1 x79_15) fun M80_16 =>
      B1 (rdN M80_16 o 3 4) fun a82_17 =>
      B1 (alN M80_16 a82_17 24 0) fun a86_18 =>
      B1 (rdN M80_16 v1 3 4) fun a88_19 =>
      B1 (alN M80_16 a88_19 24 0) fun a92_20 =>
      B1 (gk M80_16 a86_18 13) fun _ =>
      B1 (fX10_become M80_16 a86_18 a92_20) fun M93_22 =>
      B1 (rdN M93_22 o 3 4) fun a97_23 =>
      B1 (alN M93_22 a97_23 24 1) fun a101_24 =>
      B1 (rdN M93_22 v1 3 4) fun a103_25 =>
      B1 (alN M93_22 a103_25 24 1) fun a107_26 =>
      B1 (gk M93_22 a101_24 13) fun _ =>
      B1 (fX10_become M93_22 a101_24 a107_26) fun M108_28 =>
      B1 (rdI M108_28 v1 3 5) fun x113_29 =>
      B1 (wrI M108_28 o 3 5 x113_29) fun M116_30 =>
      some M116_30
    else
      B1 (rdN M o 3 1) fun a29_31 =>
      B1 (alN M a29_31 23 v2) fun a33_32 =>
      B1 (rdN M v1 3 1) fun a35_33 =>
      B1 (alN M a35_33 23 v2) fun a39_34 =>
      B1 (gk M a33_32 10) fun _ =>
      B1 (fX7_become M a33_32 a39_34) fun M40_36 =>
      fX0_become_L20 o v1 n (v2 + 1) M40_36
def fX0_become (M : Mm) (o : Nat) (p1 : Nat) : Option Mm :=
  B1 (rdN M p1 3 0) fun a1_1 =>
  B1 (rdN M o 3 0) fun a6_2 =>
  B1 (rdN M o 3 0) fun a11_3 =>
  B1 (alN_ M a11_3) fun x14_4 =>
  B1 (cpI M a1_1 0 a6_2 0 x14_4) fun M15_5 =>
  fX0_become_L20 o p1 FL 0 M15_5
set_option maxRecDepth 100000 in
set_option maxHeartbeats 4000000 in
theorem kX0_become_L20 {l : Launch} {E : Ev} {p : Program} {e : Env} {s : State} {m : MethodId} {args : Array Value} {below : List Frame} {meth : Method} {c : Code} (C : Cx E p s m args meth c cX0_become yX0_become.cls 3) (hr : meth.sig.returnType = none) (hin : yX0_become.name = "<init>" → meth.name = "<init>")  {o : Nat} {v1 : Nat} {Mz : Mm} : ∀ (n : Nat) (v2 : Int32) (M : Mm), fX0_become_L20 o v1 n v2 M = some Mz → ∀ (H : Heap) (locs : List Loc) (ls : Array Slot), Wx E s H locs M → lv_has ls 3 [(0, .ref (E.b + o)), (1, .ref (E.b + v1)), (2, .int v2)] → W p l e (rM 3 65 0 0) s m args below meth c H locs 0 0 (MQ below (Qp E none Mz) args s 0 0 E.A) (F0 m 20 ls []) := by
  intro n
  induction n with
  | zero =>
    intro v2 M hf
    unfold fX0_become_L20 at hf
    cases hf
  | succ n ih =>
    intro v2 M hf H locs ls hW hl
    unfold fX0_become_L20 at hf
    refine lv_iload_n C.x C.b dX0_become_20 rfl (lv_at hl 2 rfl) ?_
    refine lv_aload_n C.x C.b dX0_become_21 rfl (lv_at hl 1 rfl) ?_
    replace hf := x_b1 hf; obtain ⟨x22_6, hx22_6, hf⟩ := hf
    refine x_geti C hW fg_X0_21_3 hx22_6 dX0_become_22 ?_
    refine lv_icmp_ge (tgt := 49) C.x C.b dX0_become_25 rfl (fun c25 => ?_) (fun c25 => ?_)
    · replace hf := x_ip c25 hf
      refine lv_aload_n C.x C.b dX0_become_49 rfl (lv_at hl 0 rfl) ?_
      refine lv_aload_n C.x C.b dX0_become_50 rfl (lv_at hl 1 rfl) ?_
      replace hf := x_b1 hf; obtain ⟨x51_7, hx51_7, hf⟩ := hf
      refine x_geti C hW fg_X0_21_3 hx51_7 dX0_become_51 ?_
      replace hf := x_b1 hf; obtain ⟨M54_8, hM54_8, hf⟩ := hf
      refine x_puti C hW fp_X0_21_3 hM54_8 (fun h => by cases h) dX0_become_54 (fun H locs hW => ?_)
      refine lv_aload_n C.x C.b dX0_become_57 rfl (lv_at hl 0 rfl) ?_
      replace hf := x_b1 hf; obtain ⟨a58_9, ha58_9, hf⟩ := hf
      refine x_getn C hW fg_X0_25_3 ha58_9 dX0_become_58 ?_
      refine lv_iconst (v := 0) C.x C.b dX0_become_61 (by decide) ?_
      refine lv_aload_n C.x C.b dX0_become_62 rfl (lv_at hl 1 rfl) ?_
      replace hf := x_b1 hf; obtain ⟨a63_10, ha63_10, hf⟩ := hf
      refine x_getn C hW fg_X0_25_3 ha63_10 dX0_become_63 ?_
      refine lv_iconst (v := 0) C.x C.b dX0_become_66 (by decide) ?_
      replace hf := x_b1 hf; obtain ⟨x67_11, hx67_11, hf⟩ := hf
      refine x_iald C hW hx67_11 dX0_become_67 ?_
      replace hf := x_b1 hf; obtain ⟨M68_12, hM68_12, hf⟩ := hf
      refine x_iast C hW hM68_12 dX0_become_68 (fun H locs hW => ?_)
      refine lv_aload_n C.x C.b dX0_become_69 rfl (lv_at hl 0 rfl) ?_
      replace hf := x_b1 hf; obtain ⟨a70_13, ha70_13, hf⟩ := hf
      refine x_getn C hW fg_X0_25_3 ha70_13 dX0_become_70 ?_
      refine lv_iconst (v := 1) C.x C.b dX0_become_73 (by decide) ?_
      refine lv_aload_n C.x C.b dX0_become_74 rfl (lv_at hl 1 rfl) ?_
      replace hf := x_b1 hf; obtain ⟨a75_14, ha75_14, hf⟩ := hf
      refine x_getn C hW fg_X0_25_3 ha75_14 dX0_become_75 ?_
      refine lv_iconst (v := 1) C.x C.b dX0_become_78 (by decide) ?_
      replace hf := x_b1 hf; obtain ⟨x79_15, hx79_15, hf⟩ := hf
      refine x_iald C hW hx79_15 dX0_become_79 ?_
      replace hf := x_b1 hf; obtain ⟨M80_16, hM80_16, hf⟩ := hf
      refine x_iast C hW hM80_16 dX0_become_80 (fun H locs hW => ?_)
      refine lv_aload_n C.x C.b dX0_become_81 rfl (lv_at hl 0 rfl) ?_
      replace hf := x_b1 hf; obtain ⟨a82_17, ha82_17, hf⟩ := hf
      refine x_getn C hW fg_X0_31_3 ha82_17 dX0_become_82 ?_
      refine lv_iconst (v := 0) C.x C.b dX0_become_85 (by decide) ?_
      replace hf := x_b1 hf; obtain ⟨a86_18, ha86_18, hf⟩ := hf
      refine x_aldn C hW (kd := 24) (by decide) (by decide) ha86_18 dX0_become_86 ?_
      refine lv_aload_n C.x C.b dX0_become_87 rfl (lv_at hl 1 rfl) ?_
      replace hf := x_b1 hf; obtain ⟨a88_19, ha88_19, hf⟩ := hf
      refine x_getn C hW fg_X0_31_3 ha88_19 dX0_become_88 ?_
      refine lv_iconst (v := 0) C.x C.b dX0_become_91 (by decide) ?_
      replace hf := x_b1 hf; obtain ⟨a92_20, ha92_20, hf⟩ := hf
      refine x_aldn C hW (kd := 24) (by decide) (by decide) ha92_20 dX0_become_92 ?_
      replace hf := x_b1 hf; obtain ⟨_, hk93_21, hf⟩ := hf
      replace hf := x_b1 hf; obtain ⟨M93_22, hM93_22, hf⟩ := hf
      refine x_callV (As := [.ref (E.b + a92_20)]) (a := a86_18) (rest := []) C hW hl (qX10_become l E hM93_22) (x_gk hk93_21) (by decide) (by decide) rfl gv_X0_56 ⟨rfl, hd_X10_become⟩ rfl rfl (Nat.le_of_ble_eq_true rfl) dX0_become_93 ⟨Nat.le_of_ble_eq_true rfl, Nat.le_of_ble_eq_true rfl⟩ ⟨Nat.le_of_ble_eq_true rfl, Nat.le_of_ble_eq_true rfl⟩ (fun H locs hW => ?_)
      refine lv_aload_n C.x C.b dX0_become_96 rfl (lv_at hl 0 rfl) ?_
      replace hf := x_b1 hf; obtain ⟨a97_23, ha97_23, hf⟩ := hf
      refine x_getn C hW fg_X0_31_3 ha97_23 dX0_become_97 ?_
      refine lv_iconst (v := 1) C.x C.b dX0_become_100 (by decide) ?_
      replace hf := x_b1 hf; obtain ⟨a101_24, ha101_24, hf⟩ := hf
      refine x_aldn C hW (kd := 24) (by decide) (by decide) ha101_24 dX0_become_101 ?_
      refine lv_aload_n C.x C.b dX0_become_102 rfl (lv_at hl 1 rfl) ?_
      replace hf := x_b1 hf; obtain ⟨a103_25, ha103_25, hf⟩ := hf
      refine x_getn C hW fg_X0_31_3 ha103_25 dX0_become_103 ?_
      refine lv_iconst (v := 1) C.x C.b dX0_become_106 (by decide) ?_
      replace hf := x_b1 hf; obtain ⟨a107_26, ha107_26, hf⟩ := hf
      refine x_aldn C hW (kd := 24) (by decide) (by decide) ha107_26 dX0_become_107 ?_
      replace hf := x_b1 hf; obtain ⟨_, hk108_27, hf⟩ := hf
      replace hf := x_b1 hf; obtain ⟨M108_28, hM108_28, hf⟩ := hf
      refine x_callV (As := [.ref (E.b + a107_26)]) (a := a101_24) (rest := []) C hW hl (qX10_become l E hM108_28) (x_gk hk108_27) (by decide) (by decide) rfl gv_X0_56 ⟨rfl, hd_X10_become⟩ rfl rfl (Nat.le_of_ble_eq_true rfl) dX0_become_108 ⟨Nat.le_of_ble_eq_true rfl, Nat.le_of_ble_eq_true rfl⟩ ⟨Nat.le_of_ble_eq_true rfl, Nat.le_of_ble_eq_true rfl⟩ (fun H locs hW => ?_)
      refine lv_aload_n C.x C.b dX0_become_111 rfl (lv_at hl 0 rfl) ?_
      refine lv_aload_n C.x C.b dX0_become_112 rfl (lv_at hl 1 rfl) ?_
      replace hf := x_b1 hf; obtain ⟨x113_29, hx113_29, hf⟩ := hf
      refine x_geti C hW fg_X0_35_3 hx113_29 dX0_become_113 ?_
      replace hf := x_b1 hf; obtain ⟨M116_30, hM116_30, hf⟩ := hf
      refine x_puti C hW fp_X0_35_3 hM116_30 (fun h => by cases h) dX0_become_116 (fun H locs hW => ?_)
      rw [x_e0 hf]
      exact x_vret C hr hW dX0_become_119
    · replace hf := x_in c25 hf
      refine lv_aload_n C.x C.b dX0_become_28 rfl (lv_at hl 0 rfl) ?_
      replace hf := x_b1 hf; obtain ⟨a29_31, ha29_31, hf⟩ := hf
      refine x_getn C hW fg_X0_17_3 ha29_31 dX0_become_29 ?_
      refine lv_iload_n C.x C.b dX0_become_32 rfl (lv_at hl 2 rfl) ?_
      replace hf := x_b1 hf; obtain ⟨a33_32, ha33_32, hf⟩ := hf
      refine x_aldn C hW (kd := 23) (by decide) (by decide) ha33_32 dX0_become_33 ?_
      refine lv_aload_n C.x C.b dX0_become_34 rfl (lv_at hl 1 rfl) ?_
      replace hf := x_b1 hf; obtain ⟨a35_33, ha35_33, hf⟩ := hf
      refine x_getn C hW fg_X0_17_3 ha35_33 dX0_become_35 ?_
      refine lv_iload_n C.x C.b dX0_become_38 rfl (lv_at hl 2 rfl) ?_
      replace hf := x_b1 hf; obtain ⟨a39_34, ha39_34, hf⟩ := hf
      refine x_aldn C hW (kd := 23) (by decide) (by decide) ha39_34 dX0_become_39 ?_
      replace hf := x_b1 hf; obtain ⟨_, hk40_35, hf⟩ := hf
      replace hf := x_b1 hf; obtain ⟨M40_36, hM40_36, hf⟩ := hf
      refine x_callV (As := [.ref (E.b + a39_34)]) (a := a33_32) (rest := []) C hW hl (qX7_become l E hM40_36) (x_gk hk40_35) (by decide) (by decide) rfl gv_X0_52 ⟨rfl, hd_X7_become⟩ rfl rfl (Nat.le_of_ble_eq_true rfl) dX0_become_40 ⟨Nat.le_of_ble_eq_true rfl, Nat.le_of_ble_eq_true rfl⟩ ⟨Nat.le_of_ble_eq_true rfl, Nat.le_of_ble_eq_true rfl⟩ (fun H locs hW => ?_)
      refine lv_iinc (v := (v2 + 1)) (lv' := [(2, .int (v2 + 1)), (0, .ref (E.b + _)), (1, .ref (E.b + _))]) C.x C.b dX0_become_43 hl (k := 2) rfl (by first | rfl | decide) (by decide) rfl (fun ls hl => ?_)
      refine lv_goto (tgt := 20) C.x C.b dX0_become_46 rfl ?_
      exact ih (v2 + 1) M40_36 hf _ _ _ hW (lv_sub hl [1, 2, 0] rfl)
set_option maxRecDepth 100000 in
set_option maxHeartbeats 4000000 in
theorem qX0_become (l : Launch) (E : Ev) {M : Mm} {o : Nat} {p1 : Nat} {Mz : Mm} (hf : fX0_become M o p1 = some Mz) : Ct l E yX0_become cX0_become 3 none 3 65 0 0 [.ref (E.b + o), .ref (E.b + p1)] M none Mz := by
  refine ct_of (by decide +kernel) (Nat.le_of_ble_eq_true rfl) fun p e s m args below meth c C hr hin hW ls hl => ?_
  have hl : lv_has ls 3 [(0, .ref (E.b + o)), (1, .ref (E.b + p1))] := hl
  unfold fX0_become at hf
  refine lv_aload_n C.x C.b dX0_become_0 rfl (lv_at hl 1 rfl) ?_
  replace hf := x_b1 hf; obtain ⟨a1_1, ha1_1, hf⟩ := hf
  refine x_getn C hW fg_X0_9_3 ha1_1 dX0_become_1 ?_
  refine lv_iconst (v := 0) C.x C.b dX0_become_4 (by decide) ?_
  refine lv_aload_n C.x C.b dX0_become_5 rfl (lv_at hl 0 rfl) ?_
  replace hf := x_b1 hf; obtain ⟨a6_2, ha6_2, hf⟩ := hf
  refine x_getn C hW fg_X0_9_3 ha6_2 dX0_become_6 ?_
  refine lv_iconst (v := 0) C.x C.b dX0_become_9 (by decide) ?_
  refine lv_aload_n C.x C.b dX0_become_10 rfl (lv_at hl 0 rfl) ?_
  replace hf := x_b1 hf; obtain ⟨a11_3, ha11_3, hf⟩ := hf
  refine x_getn C hW fg_X0_9_3 ha11_3 dX0_become_11 ?_
  replace hf := x_b1 hf; obtain ⟨x14_4, hx14_4, hf⟩ := hf
  refine x_alen C hW hx14_4 dX0_become_14 ?_
  replace hf := x_b1 hf; obtain ⟨M15_5, hM15_5, hf⟩ := hf
  refine x_cpI C hW hl T_1_127 T_1_129 T_1_128 T_1_5 hM15_5 (Nat.le_of_ble_eq_true rfl) (Nat.le_of_ble_eq_true rfl) dX0_become_15 (fun H locs hW => ?_)
  refine lv_iconst (v := 0) C.x C.b dX0_become_18 (by decide) ?_
  refine lv_istore_n (lv' := [(2, .int _), (0, .ref (E.b + _)), (1, .ref (E.b + _))]) C.x C.b dX0_become_19 rfl hl (by decide) rfl (fun ls hl => ?_)
  exact kX0_become_L20 C hr hin FL 0 M15_5 hf _ _ _ hW (lv_sub hl [1, 2, 0] rfl)
