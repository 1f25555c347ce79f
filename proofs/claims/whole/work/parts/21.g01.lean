theorem dX12_wear_0 : decode cX12_wear 0 = .ok (.iload_n 1, 1) := by decide +kernel
theorem dX12_wear_1 : decode cX12_wear 1 = .ok (.invokestatic 133, 3) := by decide +kernel
theorem dX12_wear_4 : decode cX12_wear 4 = .ok (.ifCond .eq 16, 3) := by decide +kernel
theorem dX12_wear_7 : decode cX12_wear 7 = .ok (.iload_n 2, 1) := by decide +kernel
theorem dX12_wear_8 : decode cX12_wear 8 = .ok (.iconst (-1), 1) := by decide +kernel
theorem dX12_wear_9 : decode cX12_wear 9 = .ok (.if_icmp .eq 13, 3) := by decide +kernel
theorem dX12_wear_12 : decode cX12_wear 12 = .ok (.aload_n 0, 1) := by decide +kernel
theorem dX12_wear_13 : decode cX12_wear 13 = .ok (.iload_n 2, 1) := by decide +kernel
theorem dX12_wear_14 : decode cX12_wear 14 = .ok (.invokevirtual 99, 3) := by decide +kernel
theorem dX12_wear_17 : decode cX12_wear 17 = .ok (.ifCond .ne 5, 3) := by decide +kernel
theorem dX12_wear_20 : decode cX12_wear 20 = .ok (.iconst (-1), 1) := by decide +kernel
theorem dX12_wear_21 : decode cX12_wear 21 = .ok (.ireturn, 1) := by decide +kernel
theorem dX12_wear_22 : decode cX12_wear 22 = .ok (.iload_n 2, 1) := by decide +kernel
theorem dX12_wear_23 : decode cX12_wear 23 = .ok (.ifCond .lt 18, 3) := by decide +kernel
theorem dX12_wear_26 : decode cX12_wear 26 = .ok (.aload_n 0, 1) := by decide +kernel
theorem dX12_wear_27 : decode cX12_wear 27 = .ok (.getfield 9, 3) := by decide +kernel
theorem dX12_wear_30 : decode cX12_wear 30 = .ok (.iconst 3, 1) := by decide +kernel
theorem dX12_wear_31 : decode cX12_wear 31 = .ok (.iload_n 1, 1) := by decide +kernel
theorem dX12_wear_32 : decode cX12_wear 32 = .ok (.isub, 1) := by decide +kernel
theorem dX12_wear_33 : decode cX12_wear 33 = .ok (.iaload, 1) := by decide +kernel
theorem dX12_wear_34 : decode cX12_wear 34 = .ok (.iload_n 2, 1) := by decide +kernel
theorem dX12_wear_35 : decode cX12_wear 35 = .ok (.if_icmp .ne 6, 3) := by decide +kernel
theorem dX12_wear_38 : decode cX12_wear 38 = .ok (.bipush (-4), 2) := by decide +kernel
theorem dX12_wear_40 : decode cX12_wear 40 = .ok (.ireturn, 1) := by decide +kernel
theorem dX12_wear_41 : decode cX12_wear 41 = .ok (.aload_n 0, 1) := by decide +kernel
theorem dX12_wear_42 : decode cX12_wear 42 = .ok (.getfield 9, 3) := by decide +kernel
theorem dX12_wear_45 : decode cX12_wear 45 = .ok (.iconst 2, 1) := by decide +kernel
theorem dX12_wear_46 : decode cX12_wear 46 = .ok (.iload_n 1, 1) := by decide +kernel
theorem dX12_wear_47 : decode cX12_wear 47 = .ok (.iadd, 1) := by decide +kernel
theorem dX12_wear_48 : decode cX12_wear 48 = .ok (.iaload, 1) := by decide +kernel
theorem dX12_wear_49 : decode cX12_wear 49 = .ok (.istore_n 3, 1) := by decide +kernel
theorem dX12_wear_50 : decode cX12_wear 50 = .ok (.aload_n 0, 1) := by decide +kernel
theorem dX12_wear_51 : decode cX12_wear 51 = .ok (.getfield 9, 3) := by decide +kernel
theorem dX12_wear_54 : decode cX12_wear 54 = .ok (.iconst 2, 1) := by decide +kernel
theorem dX12_wear_55 : decode cX12_wear 55 = .ok (.iload_n 1, 1) := by decide +kernel
theorem dX12_wear_56 : decode cX12_wear 56 = .ok (.iadd, 1) := by decide +kernel
theorem dX12_wear_57 : decode cX12_wear 57 = .ok (.iload_n 2, 1) := by decide +kernel
theorem dX12_wear_58 : decode cX12_wear 58 = .ok (.iastore, 1) := by decide +kernel
theorem dX12_wear_59 : decode cX12_wear 59 = .ok (.iload_n 3, 1) := by decide +kernel
theorem dX12_wear_60 : decode cX12_wear 60 = .ok (.invokestatic 105, 3) := by decide +kernel
theorem dX12_wear_63 : decode cX12_wear 63 = .ok (.ireturn, 1) := by decide +kernel
theorem hd_X12_isTwo : yX12_isTwo.cls ≠ "java/lang/invoke/MethodHandle" ∧ yX12_isTwo.cls ≠ "java/lang/invoke/VarHandle" ∧ (parseMethodDescriptor yX12_isTwo.desc).map (fun d => d.parameters.length) = some 1 := by decide +kernel
theorem gs_X12_133 : GoodIn gT (va_wsS "NylonLadderModel" 133 yX12_isTwo (Cond.code yX12_isTwo cX12_isTwo 1 (some .boolean) :: gT)) := good_S T_7_4 T_7_5 T_1_10 T_7_6
def fX12_wear (M : Mm) (o : Nat) (p1 : Int32) (p2 : Int32) : Option (Int32 × Mm) :=
  B1 (fX12_isTwo M p1) fun x1_1 =>
  if x1_1 = 0 then
    some ((-1), M)
  else
    if p2 = (-1) then
      if p2 < 0 then
        B1 (rdN M o 15 0) fun a42_2 =>
        B1 (alI M a42_2 (2 + p1)) fun x48_3 =>
        B1 (rdN M o 15 0) fun a51_4 =>
        B1 (asI M a51_4 (2 + p1) p2) fun M58_5 =>
        B1 (fX12_told M58_5 x48_3) fun x60_6 =>
        some (x60_6, M58_5)
      else
        B1 (rdN M o 15 0) fun a27_7 =>
        B1 (alI M a27_7 (3 - p1)) fun x33_8 =>
        if x33_8 = p2 then
          some ((-4), M)
        else
          B1 (rdN M o 15 0) fun a42_9 =>
          B1 (alI M a42_9 (2 + p1)) fun x48_10 =>
          B1 (rdN M o 15 0) fun a51_11 =>
          B1 (asI M a51_11 (2 + p1) p2) fun M58_12 =>
          B1 (fX12_told M58_12 x48_10) fun x60_13 =>
          some (x60_13, M58_12)
    else
      B1 (gk M o 15) fun _ =>
      B1 (fX12_isOne M o p2) fun x14_15 =>
      if x14_15 = 0 then
        some ((-1), M)
      else
        if p2 < 0 then
          B1 (rdN M o 15 0) fun a42_16 =>
          B1 (alI M a42_16 (2 + p1)) fun x48_17 =>
          B1 (rdN M o 15 0) fun a51_18 =>
          B1 (asI M a51_18 (2 + p1) p2) fun M58_19 =>
          B1 (fX12_told M58_19 x48_17) fun x60_20 =>
          some (x60_20, M58_19)
        else
          B1 (rdN M o 15 0) fun a27_21 =>
          B1 (alI M a27_21 (3 - p1)) fun x33_22 =>
          if x33_22 = p2 then
            some ((-4), M)
          else
            B1 (rdN M o 15 0) fun a42_23 =>
            B1 (alI M a42_23 (2 + p1)) fun x48_24 =>
            B1 (rdN M o 15 0) fun a51_25 =>
            B1 (asI M a51_25 (2 + p1) p2) fun M58_26 =>
            B1 (fX12_told M58_26 x48_24) fun x60_27 =>
            some (x60_27, M58_26)
set_option maxRecDepth 100000 in
set_option maxHeartbeats 4000000 in
theorem qX12_wear (l : Launch) (E : Ev) {M : Mm} {o : Nat} {p1 : Int32} {p2 : Int32} {rz : Int32} {Mz : Mm} (hf : fX12_wear M o p1 p2 = some (rz, Mz)) : Ct l E yX12_wear cX12_wear 4 (some .int) 2 46 0 0 [.ref (E.b + o), .int p1, .int p2] M (some (.int rz)) Mz := by
  refine ct_of (by decide +kernel) (Nat.le_of_ble_eq_true rfl) fun p e s m args below meth c C hr hin hW ls hl => ?_
  have hl : lv_has ls 4 [(0, .ref (E.b + o)), (1, .int p1), (2, .int p2)] := hl
  unfold fX12_wear at hf
  refine lv_iload_n C.x C.b dX12_wear_0 rfl (lv_at hl 1 rfl) ?_
  replace hf := x_b1 hf; obtain ⟨x1_1, hx1_1, hf⟩ := hf
  refine x_callS (As := [.int p1]) (rest := []) C hW hl (qX12_isTwo l E hx1_1) gs_X12_133 hd_X12_isTwo rfl rfl (Nat.le_of_ble_eq_true rfl) dX12_wear_1 ⟨Nat.le_of_ble_eq_true rfl, Nat.le_of_ble_eq_true rfl⟩ ⟨Nat.le_of_ble_eq_true rfl, Nat.le_of_ble_eq_true rfl⟩ (fun H locs hW => ?_)
  refine lv_if_eq (tgt := 20) C.x C.b dX12_wear_4 rfl (fun c4 => ?_) (fun c4 => ?_)
  · replace hf := x_ip c4 hf
    refine lv_iconst (v := (-1)) C.x C.b dX12_wear_20 (by decide) ?_
    rw [x_e1 hf, x_e2 hf]
    exact x_iret C hr hW dX12_wear_21
  · replace hf := x_in c4 hf
    refine lv_iload_n C.x C.b dX12_wear_7 rfl (lv_at hl 2 rfl) ?_
    refine lv_iconst (v := (-1)) C.x C.b dX12_wear_8 (by decide) ?_
    refine lv_icmp_eq (tgt := 22) C.x C.b dX12_wear_9 rfl (fun c9 => ?_) (fun c9 => ?_)
    · replace hf := x_ip c9 hf
      refine lv_iload_n C.x C.b dX12_wear_22 rfl (lv_at hl 2 rfl) ?_
      refine lv_if_lt (tgt := 41) C.x C.b dX12_wear_23 rfl (fun c23 => ?_) (fun c23 => ?_)
      · replace hf := x_ip c23 hf
        refine lv_aload_n C.x C.b dX12_wear_41 rfl (lv_at hl 0 rfl) ?_
        replace hf := x_b1 hf; obtain ⟨a42_2, ha42_2, hf⟩ := hf
        refine x_getn C hW fg_X12_9_15 ha42_2 dX12_wear_42 ?_
        refine lv_iconst (v := 2) C.x C.b dX12_wear_45 (by decide) ?_
        refine lv_iload_n C.x C.b dX12_wear_46 rfl (lv_at hl 1 rfl) ?_
        refine lv_iadd C.x C.b dX12_wear_47 ?_
        replace hf := x_b1 hf; obtain ⟨x48_3, hx48_3, hf⟩ := hf
        refine x_iald C hW hx48_3 dX12_wear_48 ?_
        refine lv_istore_n (lv' := [(3, .int _), (0, .ref (E.b + _)), (1, .int _), (2, .int _)]) C.x C.b dX12_wear_49 rfl hl (by decide) rfl (fun ls hl => ?_)
        refine lv_aload_n C.x C.b dX12_wear_50 rfl (lv_at hl 1 rfl) ?_
        replace hf := x_b1 hf; obtain ⟨a51_4, ha51_4, hf⟩ := hf
        refine x_getn C hW fg_X12_9_15 ha51_4 dX12_wear_51 ?_
        refine lv_iconst (v := 2) C.x C.b dX12_wear_54 (by decide) ?_
        refine lv_iload_n C.x C.b dX12_wear_55 rfl (lv_at hl 2 rfl) ?_
        refine lv_iadd C.x C.b dX12_wear_56 ?_
        refine lv_iload_n C.x C.b dX12_wear_57 rfl (lv_at hl 3 rfl) ?_
        replace hf := x_b1 hf; obtain ⟨M58_5, hM58_5, hf⟩ := hf
        refine x_iast C hW hM58_5 dX12_wear_58 (fun H locs hW => ?_)
        refine lv_iload_n C.x C.b dX12_wear_59 rfl (lv_at hl 0 rfl) ?_
        replace hf := x_b1 hf; obtain ⟨x60_6, hx60_6, hf⟩ := hf
        refine x_callS (As := [.int x48_3]) (rest := []) C hW hl (qX12_told l E hx60_6) gs_X12_105 hd_X12_told rfl rfl (Nat.le_of_ble_eq_true rfl) dX12_wear_60 ⟨Nat.le_of_ble_eq_true rfl, Nat.le_of_ble_eq_true rfl⟩ ⟨Nat.le_of_ble_eq_true rfl, Nat.le_of_ble_eq_true rfl⟩ (fun H locs hW => ?_)
        rw [x_e1 hf, x_e2 hf]
        exact x_iret C hr hW dX12_wear_63
      · replace hf := x_in c23 hf
        refine lv_aload_n C.x C.b dX12_wear_26 rfl (lv_at hl 0 rfl) ?_
        replace hf := x_b1 hf; obtain ⟨a27_7, ha27_7, hf⟩ := hf
        refine x_getn C hW fg_X12_9_15 ha27_7 dX12_wear_27 ?_
        refine lv_iconst (v := 3) C.x C.b dX12_wear_30 (by decide) ?_
        refine lv_iload_n C.x C.b dX12_wear_31 rfl (lv_at hl 1 rfl) ?_
        refine lv_isub C.x C.b dX12_wear_32 ?_
        replace hf := x_b1 hf; obtain ⟨x33_8, hx33_8, hf⟩ := hf
        refine x_iald C hW hx33_8 dX12_wear_33 ?_
        refine lv_iload_n C.x C.b dX12_wear_34 rfl (lv_at hl 2 rfl) ?_
        refine lv_icmp_ne (tgt := 41) C.x C.b dX12_wear_35 rfl (fun c35 => ?_) (fun c35 => ?_)
        · replace hf := x_in c35 hf
          refine lv_aload_n C.x C.b dX12_wear_41 rfl (lv_at hl 0 rfl) ?_
          replace hf := x_b1 hf; obtain ⟨a42_9, ha42_9, hf⟩ := hf
          refine x_getn C hW fg_X12_9_15 ha42_9 dX12_wear_42 ?_
          refine lv_iconst (v := 2) C.x C.b dX12_wear_45 (by decide) ?_
          refine lv_iload_n C.x C.b dX12_wear_46 rfl (lv_at hl 1 rfl) ?_
          refine lv_iadd C.x C.b dX12_wear_47 ?_
          replace hf := x_b1 hf; obtain ⟨x48_10, hx48_10, hf⟩ := hf
          refine x_iald C hW hx48_10 dX12_wear_48 ?_
          refine lv_istore_n (lv' := [(3, .int _), (0, .ref (E.b + _)), (1, .int _), (2, .int _)]) C.x C.b dX12_wear_49 rfl hl (by decide) rfl (fun ls hl => ?_)
          refine lv_aload_n C.x C.b dX12_wear_50 rfl (lv_at hl 1 rfl) ?_
          replace hf := x_b1 hf; obtain ⟨a51_11, ha51_11, hf⟩ := hf
          refine x_getn C hW fg_X12_9_15 ha51_11 dX12_wear_51 ?_
          refine lv_iconst (v := 2) C.x C.b dX12_wear_54 (by decide) ?_
          refine lv_iload_n C.x C.b dX12_wear_55 rfl (lv_at hl 2 rfl) ?_
          refine lv_iadd C.x C.b dX12_wear_56 ?_
          refine lv_iload_n C.x C.b dX12_wear_57 rfl (lv_at hl 3 rfl) ?_
          replace hf := x_b1 hf; obtain ⟨M58_12, hM58_12, hf⟩ := hf
          refine x_iast C hW hM58_12 dX12_wear_58 (fun H locs hW => ?_)
          refine lv_iload_n C.x C.b dX12_wear_59 rfl (lv_at hl 0 rfl) ?_
          replace hf := x_b1 hf; obtain ⟨x60_13, hx60_13, hf⟩ := hf
          refine x_callS (As := [.int x48_10]) (rest := []) C hW hl (qX12_told l E hx60_13) gs_X12_105 hd_X12_told rfl rfl (Nat.le_of_ble_eq_true rfl) dX12_wear_60 ⟨Nat.le_of_ble_eq_true rfl, Nat.le_of_ble_eq_true rfl⟩ ⟨Nat.le_of_ble_eq_true rfl, Nat.le_of_ble_eq_true rfl⟩ (fun H locs hW => ?_)
          rw [x_e1 hf, x_e2 hf]
          exact x_iret C hr hW dX12_wear_63
        · replace hf := x_ip c35 hf
          refine lv_bipush (v := (-4)) C.x C.b dX12_wear_38 (by decide) ?_
          rw [x_e1 hf, x_e2 hf]
          exact x_iret C hr hW dX12_wear_40
    · replace hf := x_in c9 hf
      refine lv_aload_n C.x C.b dX12_wear_12 rfl (lv_at hl 0 rfl) ?_
      refine lv_iload_n C.x C.b dX12_wear_13 rfl (lv_at hl 2 rfl) ?_
      replace hf := x_b1 hf; obtain ⟨_, hk14_14, hf⟩ := hf
      replace hf := x_b1 hf; obtain ⟨x14_15, hx14_15, hf⟩ := hf
      refine x_callV (As := [.int p2]) (a := o) (rest := []) C hW hl (qX12_isOne l E hx14_15) (x_gk hk14_14) (by decide) (by decide) rfl gv_X12_99 ⟨rfl, hd_X12_isOne⟩ rfl rfl (Nat.le_of_ble_eq_true rfl) dX12_wear_14 ⟨Nat.le_of_ble_eq_true rfl, Nat.le_of_ble_eq_true rfl⟩ ⟨Nat.le_of_ble_eq_true rfl, Nat.le_of_ble_eq_true rfl⟩ (fun H locs hW => ?_)
      refine lv_if_ne (tgt := 22) C.x C.b dX12_wear_17 rfl (fun c17 => ?_) (fun c17 => ?_)
      · replace hf := x_in c17 hf
        refine lv_iload_n C.x C.b dX12_wear_22 rfl (lv_at hl 2 rfl) ?_
        refine lv_if_lt (tgt := 41) C.x C.b dX12_wear_23 rfl (fun c23 => ?_) (fun c23 => ?_)
        · replace hf := x_ip c23 hf
          refine lv_aload_n C.x C.b dX12_wear_41 rfl (lv_at hl 0 rfl) ?_
          replace hf := x_b1 hf; obtain ⟨a42_16, ha42_16, hf⟩ := hf
          refine x_getn C hW fg_X12_9_15 ha42_16 dX12_wear_42 ?_
          refine lv_iconst (v := 2) C.x C.b dX12_wear_45 (by decide) ?_
          refine lv_iload_n C.x C.b dX12_wear_46 rfl (lv_at hl 1 rfl) ?_
          refine lv_iadd C.x C.b dX12_wear_47 ?_
          replace hf := x_b1 hf; obtain ⟨x48_17, hx48_17, hf⟩ := hf
          refine x_iald C hW hx48_17 dX12_wear_48 ?_
          refine lv_istore_n (lv' := [(3, .int _), (0, .ref (E.b + _)), (1, .int _), (2, .int _)]) C.x C.b dX12_wear_49 rfl hl (by decide) rfl (fun ls hl => ?_)
          refine lv_aload_n C.x C.b dX12_wear_50 rfl (lv_at hl 1 rfl) ?_
          replace hf := x_b1 hf; obtain ⟨a51_18, ha51_18, hf⟩ := hf
          refine x_getn C hW fg_X12_9_15 ha51_18 dX12_wear_51 ?_
          refine lv_iconst (v := 2) C.x C.b dX12_wear_54 (by decide) ?_
          refine lv_iload_n C.x C.b dX12_wear_55 rfl (lv_at hl 2 rfl) ?_
          refine lv_iadd C.x C.b dX12_wear_56 ?_
          refine lv_iload_n C.x C.b dX12_wear_57 rfl (lv_at hl 3 rfl) ?_
          replace hf := x_b1 hf; obtain ⟨M58_19, hM58_19, hf⟩ := hf
          refine x_iast C hW hM58_19 dX12_wear_58 (fun H locs hW => ?_)
          refine lv_iload_n C.x C.b dX12_wear_59 rfl (lv_at hl 0 rfl) ?_
          replace hf := x_b1 hf; obtain ⟨x60_20, hx60_20, hf⟩ := hf
          refine x_callS (As := [.int x48_17]) (rest := []) C hW hl (qX12_told l E hx60_20) gs_X12_105 hd_X12_told rfl rfl (Nat.le_of_ble_eq_true rfl) dX12_wear_60 ⟨Nat.le_of_ble_eq_true rfl, Nat.le_of_ble_eq_true rfl⟩ ⟨Nat.le_of_ble_eq_true rfl, Nat.le_of_ble_eq_true rfl⟩ (fun H locs hW => ?_)
          rw [x_e1 hf, x_e2 hf]
          exact x_iret C hr hW dX12_wear_63
        · replace hf := x_in c23 hf
          refine lv_aload_n C.x C.b dX12_wear_26 rfl (lv_at hl 0 rfl) ?_
          replace hf := x_b1 hf; obtain ⟨a27_21, ha27_21, hf⟩ := hf
          refine x_getn C hW fg_X12_9_15 ha27_21 dX12_wear_27 ?_
          refine lv_iconst (v := 3) C.x C.b dX12_wear_30 (by decide) ?_
          refine lv_iload_n C.x C.b dX12_wear_31 rfl (lv_at hl 1 rfl) ?_
          refine lv_isub C.x C.b dX12_wear_32 ?_
          replace hf := x_b1 hf; obtain ⟨x33_22, hx33_22, hf⟩ := hf
          refine x_iald C hW hx33_22 dX12_wear_33 ?_
          refine lv_iload_n C.x C.b dX12_wear_34 rfl (lv_at hl 2 rfl) ?_
          refine lv_icmp_ne (tgt := 41) C.x C.b dX12_wear_35 rfl (fun c35 => ?_) (fun c35 => ?_)
          · replace hf := x_in c35 hf
            refine lv_aload_n C.x C.b dX12_wear_41 rfl (lv_at hl 0 rfl) ?_
            replace hf := x_b1 hf; obtain ⟨a42_23, ha42_23, hf⟩ := hf
            refine x_getn C hW fg_X12_9_15 ha42_23 dX12_wear_42 ?_
            refine lv_iconst (v := 2) C.x C.b dX12_wear_45 (by decide) ?_
            refine lv_iload_n C.x C.b dX12_wear_46 rfl (lv_at hl 1 rfl) ?_
            refine lv_iadd C.x C.b dX12_wear_47 ?_
            replace hf := x_b1 hf; obtain ⟨x48_24, hx48_24, hf⟩ := hf
            refine x_iald C hW hx48_24 dX12_wear_48 ?_
            refine lv_istore_n (lv' := [(3, .int _), (0, .ref (E.b + _)), (1, .int _), (2, .int _)]) C.x C.b dX12_wear_49 rfl hl (by decide) rfl (fun ls hl => ?_)
            refine lv_aload_n C.x C.b dX12_wear_50 rfl (lv_at hl 1 rfl) ?_
            replace hf := x_b1 hf; obtain ⟨a51_25, ha51_25, hf⟩ := hf
            refine x_getn C hW fg_X12_9_15 ha51_25 dX12_wear_51 ?_
            refine lv_iconst (v := 2) C.x C.b dX12_wear_54 (by decide) ?_
            refine lv_iload_n C.x C.b dX12_wear_55 rfl (lv_at hl 2 rfl) ?_
            refine lv_iadd C.x C.b dX12_wear_56 ?_
            refine lv_iload_n C.x C.b dX12_wear_57 rfl (lv_at hl 3 rfl) ?_
            replace hf := x_b1 hf; obtain ⟨M58_26, hM58_26, hf⟩ := hf
            refine x_iast C hW hM58_26 dX12_wear_58 (fun H locs hW => ?_)
            refine lv_iload_n C.x C.b dX12_wear_59 rfl (lv_at hl 0 rfl) ?_
            replace hf := x_b1 hf; obtain ⟨x60_27, hx60_27, hf⟩ := hf
            refine x_callS (As := [.int x48_24]) (rest := []) C hW hl (qX12_told l E hx60_27) gs_X12_105 hd_X12_told rfl rfl (Nat.le_of_ble_eq_true rfl) dX12_wear_60 ⟨Nat.le_of_ble_eq_true rfl, Nat.le_of_ble_eq_true rfl⟩ ⟨Nat.le_of_ble_eq_true rfl, Nat.le_of_ble_eq_true rfl⟩ (fun H locs hW => ?_)
            rw [x_e1 hf, x_e2 hf]
            exact x_iret C hr hW dX12_wear_63
          · replace hf := x_ip c35 hf
            refine lv_bipush (v := (-4)) C.x C.b dX12_wear_38 (by decide) ?_
            rw [x_e1 hf, x_e2 hf]
            exact x_iret C hr hW dX12_wear_40
      · replace hf := x_ip c17 hf
        refine lv_iconst (v := (-1)) C.x C.b dX12_wear_20 (by decide) ?_
        rw [x_e1 hf, x_e2 hf]
        exact x_iret C hr hW dX12_wear_21

theorem dX12_goes_0 : decode cX12_goes 0 = .ok (.bipush 14, 2) := by decide +kernel
theorem dX12_goes_2 : decode cX12_goes 2 = .ok (.bipush 20, 2) := by decide +kernel
theorem dX12_goes_4 : decode cX12_goes 4 = .ok (.iload_n 1, 1) := by decide +kernel
theorem dX12_goes_5 : decode cX12_goes 5 = .ok (.imul, 1) := by decide +kernel
theorem dX12_goes_6 : decode cX12_goes 6 = .ok (.iadd, 1) := by decide +kernel
theorem dX12_goes_7 : decode cX12_goes 7 = .ok (.iconst 2, 1) := by decide +kernel
theorem dX12_goes_8 : decode cX12_goes 8 = .ok (.aload_n 0, 1) := by decide +kernel
theorem dX12_goes_9 : decode cX12_goes 9 = .ok (.bipush 12, 2) := by decide +kernel
theorem dX12_goes_11 : decode cX12_goes 11 = .ok (.iload_n 1, 1) := by decide +kernel
theorem dX12_goes_12 : decode cX12_goes 12 = .ok (.iadd, 1) := by decide +kernel
theorem dX12_goes_13 : decode cX12_goes 13 = .ok (.iaload, 1) := by decide +kernel
theorem dX12_goes_14 : decode cX12_goes 14 = .ok (.imul, 1) := by decide +kernel
theorem dX12_goes_15 : decode cX12_goes 15 = .ok (.iadd, 1) := by decide +kernel
theorem dX12_goes_16 : decode cX12_goes 16 = .ok (.istore 4, 2) := by decide +kernel
theorem dX12_goes_18 : decode cX12_goes 18 = .ok (.aload_n 0, 1) := by decide +kernel
theorem dX12_goes_19 : decode cX12_goes 19 = .ok (.iload 4, 2) := by decide +kernel
theorem dX12_goes_21 : decode cX12_goes 21 = .ok (.iload_n 2, 1) := by decide +kernel
theorem dX12_goes_22 : decode cX12_goes 22 = .ok (.iastore, 1) := by decide +kernel
theorem dX12_goes_23 : decode cX12_goes 23 = .ok (.aload_n 0, 1) := by decide +kernel
theorem dX12_goes_24 : decode cX12_goes 24 = .ok (.iload 4, 2) := by decide +kernel
theorem dX12_goes_26 : decode cX12_goes 26 = .ok (.iconst 1, 1) := by decide +kernel
theorem dX12_goes_27 : decode cX12_goes 27 = .ok (.iadd, 1) := by decide +kernel
theorem dX12_goes_28 : decode cX12_goes 28 = .ok (.iload_n 3, 1) := by decide +kernel
theorem dX12_goes_29 : decode cX12_goes 29 = .ok (.iastore, 1) := by decide +kernel
theorem dX12_goes_30 : decode cX12_goes 30 = .ok (.aload_n 0, 1) := by decide +kernel
theorem dX12_goes_31 : decode cX12_goes 31 = .ok (.bipush 12, 2) := by decide +kernel
theorem dX12_goes_33 : decode cX12_goes 33 = .ok (.iload_n 1, 1) := by decide +kernel
theorem dX12_goes_34 : decode cX12_goes 34 = .ok (.iadd, 1) := by decide +kernel
theorem dX12_goes_35 : decode cX12_goes 35 = .ok (.dup2, 1) := by decide +kernel
theorem dX12_goes_36 : decode cX12_goes 36 = .ok (.iaload, 1) := by decide +kernel
theorem dX12_goes_37 : decode cX12_goes 37 = .ok (.iconst 1, 1) := by decide +kernel
theorem dX12_goes_38 : decode cX12_goes 38 = .ok (.iadd, 1) := by decide +kernel
theorem dX12_goes_39 : decode cX12_goes 39 = .ok (.iastore, 1) := by decide +kernel
theorem dX12_goes_40 : decode cX12_goes 40 = .ok (.return_, 1) := by decide +kernel
def fX12_goes (M : Mm) (p1 : Nat) (p2 : Int32) (p3 : Int32) (p4 : Int32) : Option Mm :=
  B1 (alI M p1 (12 + p2)) fun x13_1 =>
  B1 (asI M p1 ((14 + (20 * p2)) + (2 * x13_1)) p3) fun M22_2 =>
  B1 (asI M22_2 p1 (((14 + (20 * p2)) + (2 * x13_1)) + 1) p4) fun M29_3 =>
  B1 (alI M29_3 p1 (12 + p2)) fun x36_4 =>
  B1 (asI M29_3 p1 (12 + p2) (x36_4 + 1)) fun M39_5 =>
  some M39_5
set_option maxRecDepth 100000 in
set_option maxHeartbeats 4000000 in
theorem qX12_goes (l : Launch) (E : Ev) {M : Mm} {p1 : Nat} {p2 : Int32} {p3 : Int32} {p4 : Int32} {Mz : Mm} (hf : fX12_goes M p1 p2 p3 p4 = some Mz) : Ct l E yX12_goes cX12_goes 5 none 0 0 0 0 [.ref (E.b + p1), .int p2, .int p3, .int p4] M none Mz := by
  refine ct_of (by decide +kernel) (Nat.le_of_ble_eq_true rfl) fun p e s m args below meth c C hr hin hW ls hl => ?_
  have hl : lv_has ls 5 [(0, .ref (E.b + p1)), (1, .int p2), (2, .int p3), (3, .int p4)] := hl
  unfold fX12_goes at hf
  refine lv_bipush (v := 14) C.x C.b dX12_goes_0 (by decide) ?_
  refine lv_bipush (v := 20) C.x C.b dX12_goes_2 (by decide) ?_
  refine lv_iload_n C.x C.b dX12_goes_4 rfl (lv_at hl 1 rfl) ?_
  refine lv_imul C.x C.b dX12_goes_5 ?_
  refine lv_iadd C.x C.b dX12_goes_6 ?_
  refine lv_iconst (v := 2) C.x C.b dX12_goes_7 (by decide) ?_
  refine lv_aload_n C.x C.b dX12_goes_8 rfl (lv_at hl 0 rfl) ?_
  refine lv_bipush (v := 12) C.x C.b dX12_goes_9 (by decide) ?_
  refine lv_iload_n C.x C.b dX12_goes_11 rfl (lv_at hl 1 rfl) ?_
  refine lv_iadd C.x C.b dX12_goes_12 ?_
  replace hf := x_b1 hf; obtain ⟨x13_1, hx13_1, hf⟩ := hf
  refine x_iald C hW hx13_1 dX12_goes_13 ?_
  refine lv_imul C.x C.b dX12_goes_14 ?_
  refine lv_iadd C.x C.b dX12_goes_15 ?_
  refine lv_istore (lv' := [(4, .int _), (0, .ref (E.b + _)), (1, .int _), (2, .int _), (3, .int _)]) C.x C.b dX12_goes_16 hl (by decide) rfl (fun ls hl => ?_)
  refine lv_aload_n C.x C.b dX12_goes_18 rfl (lv_at hl 1 rfl) ?_
  refine lv_iload C.x C.b dX12_goes_19 (lv_at hl 0 rfl) ?_
  refine lv_iload_n C.x C.b dX12_goes_21 rfl (lv_at hl 3 rfl) ?_
  replace hf := x_b1 hf; obtain ⟨M22_2, hM22_2, hf⟩ := hf
  refine x_iast C hW hM22_2 dX12_goes_22 (fun H locs hW => ?_)
  refine lv_aload_n C.x C.b dX12_goes_23 rfl (lv_at hl 1 rfl) ?_
  refine lv_iload C.x C.b dX12_goes_24 (lv_at hl 0 rfl) ?_
  refine lv_iconst (v := 1) C.x C.b dX12_goes_26 (by decide) ?_
  refine lv_iadd C.x C.b dX12_goes_27 ?_
  refine lv_iload_n C.x C.b dX12_goes_28 rfl (lv_at hl 4 rfl) ?_
  replace hf := x_b1 hf; obtain ⟨M29_3, hM29_3, hf⟩ := hf
  refine x_iast C hW hM29_3 dX12_goes_29 (fun H locs hW => ?_)
  refine lv_aload_n C.x C.b dX12_goes_30 rfl (lv_at hl 1 rfl) ?_
  refine lv_bipush (v := 12) C.x C.b dX12_goes_31 (by decide) ?_
  refine lv_iload_n C.x C.b dX12_goes_33 rfl (lv_at hl 2 rfl) ?_
  refine lv_iadd C.x C.b dX12_goes_34 ?_
  refine lv_dup2_11 C.x C.b dX12_goes_35 rfl rfl ?_
  replace hf := x_b1 hf; obtain ⟨x36_4, hx36_4, hf⟩ := hf
  refine x_iald C hW hx36_4 dX12_goes_36 ?_
  refine lv_iconst (v := 1) C.x C.b dX12_goes_37 (by decide) ?_
  refine lv_iadd C.x C.b dX12_goes_38 ?_
  replace hf := x_b1 hf; obtain ⟨M39_5, hM39_5, hf⟩ := hf
  refine x_iast C hW hM39_5 dX12_goes_39 (fun H locs hW => ?_)
  rw [x_e0 hf]
  exact x_vret C hr hW dX12_goes_40

theorem dX12_leg_0 : decode cX12_leg 0 = .ok (.iload_n 1, 1) := by decide +kernel
theorem dX12_leg_1 : decode cX12_leg 1 = .ok (.invokestatic 133, 3) := by decide +kernel
theorem dX12_leg_4 : decode cX12_leg 4 = .ok (.ifCond .eq 27, 3) := by decide +kernel
theorem dX12_leg_7 : decode cX12_leg 7 = .ok (.iload_n 2, 1) := by decide +kernel
theorem dX12_leg_8 : decode cX12_leg 8 = .ok (.i2l, 1) := by decide +kernel
theorem dX12_leg_9 : decode cX12_leg 9 = .ok (.lconst 0, 1) := by decide +kernel
theorem dX12_leg_10 : decode cX12_leg 10 = .ok (.ldc2_w 91, 3) := by decide +kernel
theorem dX12_leg_13 : decode cX12_leg 13 = .ok (.invokestatic 61, 3) := by decide +kernel
theorem dX12_leg_16 : decode cX12_leg 16 = .ok (.ifCond .eq 15, 3) := by decide +kernel
theorem dX12_leg_19 : decode cX12_leg 19 = .ok (.iload_n 3, 1) := by decide +kernel
theorem dX12_leg_20 : decode cX12_leg 20 = .ok (.i2l, 1) := by decide +kernel
theorem dX12_leg_21 : decode cX12_leg 21 = .ok (.lconst 1, 1) := by decide +kernel
theorem dX12_leg_22 : decode cX12_leg 22 = .ok (.ldc2_w 136, 3) := by decide +kernel
theorem dX12_leg_25 : decode cX12_leg 25 = .ok (.invokestatic 61, 3) := by decide +kernel
theorem dX12_leg_28 : decode cX12_leg 28 = .ok (.ifCond .ne 5, 3) := by decide +kernel
theorem dX12_leg_31 : decode cX12_leg 31 = .ok (.iconst (-1), 1) := by decide +kernel
theorem dX12_leg_32 : decode cX12_leg 32 = .ok (.ireturn, 1) := by decide +kernel
theorem dX12_leg_33 : decode cX12_leg 33 = .ok (.aload_n 0, 1) := by decide +kernel
theorem dX12_leg_34 : decode cX12_leg 34 = .ok (.getfield 9, 3) := by decide +kernel
theorem dX12_leg_37 : decode cX12_leg 37 = .ok (.bipush 12, 2) := by decide +kernel
theorem dX12_leg_39 : decode cX12_leg 39 = .ok (.iload_n 1, 1) := by decide +kernel
theorem dX12_leg_40 : decode cX12_leg 40 = .ok (.iadd, 1) := by decide +kernel
theorem dX12_leg_41 : decode cX12_leg 41 = .ok (.iaload, 1) := by decide +kernel
theorem dX12_leg_42 : decode cX12_leg 42 = .ok (.bipush 10, 2) := by decide +kernel
theorem dX12_leg_44 : decode cX12_leg 44 = .ok (.if_icmp .ne 6, 3) := by decide +kernel
theorem dX12_leg_47 : decode cX12_leg 47 = .ok (.bipush (-2), 2) := by decide +kernel
theorem dX12_leg_49 : decode cX12_leg 49 = .ok (.ireturn, 1) := by decide +kernel
theorem dX12_leg_50 : decode cX12_leg 50 = .ok (.aload_n 0, 1) := by decide +kernel
theorem dX12_leg_51 : decode cX12_leg 51 = .ok (.getfield 9, 3) := by decide +kernel
theorem dX12_leg_54 : decode cX12_leg 54 = .ok (.iload_n 1, 1) := by decide +kernel
theorem dX12_leg_55 : decode cX12_leg 55 = .ok (.iload_n 2, 1) := by decide +kernel
theorem dX12_leg_56 : decode cX12_leg 56 = .ok (.iload_n 3, 1) := by decide +kernel
theorem dX12_leg_57 : decode cX12_leg 57 = .ok (.invokestatic 138, 3) := by decide +kernel
theorem dX12_leg_60 : decode cX12_leg 60 = .ok (.aload_n 0, 1) := by decide +kernel
theorem dX12_leg_61 : decode cX12_leg 61 = .ok (.getfield 9, 3) := by decide +kernel
theorem dX12_leg_64 : decode cX12_leg 64 = .ok (.bipush 12, 2) := by decide +kernel
theorem dX12_leg_66 : decode cX12_leg 66 = .ok (.iload_n 1, 1) := by decide +kernel
theorem dX12_leg_67 : decode cX12_leg 67 = .ok (.iadd, 1) := by decide +kernel
theorem dX12_leg_68 : decode cX12_leg 68 = .ok (.iaload, 1) := by decide +kernel
theorem dX12_leg_69 : decode cX12_leg 69 = .ok (.ireturn, 1) := by decide +kernel
theorem hd_X12_goes : yX12_goes.cls ≠ "java/lang/invoke/MethodHandle" ∧ yX12_goes.cls ≠ "java/lang/invoke/VarHandle" ∧ (parseMethodDescriptor yX12_goes.desc).map (fun d => d.parameters.length) = some 4 := by decide +kernel
theorem gs_X12_138 : GoodIn gT (va_wsS "NylonLadderModel" 138 yX12_goes (Cond.code yX12_goes cX12_goes 5 none :: gT)) := good_S T_7_12 T_7_13 T_1_10 T_7_14
def fX12_leg (M : Mm) (o : Nat) (p1 : Int32) (p2 : Int32) (p3 : Int32) : Option (Int32 × Mm) :=
  B1 (fX12_isTwo M p1) fun x1_1 =>
  if x1_1 = 0 then
    some ((-1), M)
  else
    B1 (fX12_in M (p2.toInt64) 0 3) fun x13_2 =>
    if x13_2 = 0 then
      some ((-1), M)
    else
      B1 (fX12_in M (p3.toInt64) 1 60) fun x25_3 =>
      if x25_3 = 0 then
        some ((-1), M)
      else
        B1 (rdN M o 15 0) fun a34_4 =>
        B1 (alI M a34_4 (12 + p1)) fun x41_5 =>
        if x41_5 = 10 then
          some ((-2), M)
        else
          B1 (rdN M o 15 0) fun a51_6 =>
          B1 (fX12_goes M a51_6 p1 p2 p3) fun M57_7 =>
          B1 (rdN M57_7 o 15 0) fun a61_8 =>
          B1 (alI M57_7 a61_8 (12 + p1)) fun x68_9 =>
          some (x68_9, M57_7)
set_option maxRecDepth 100000 in
set_option maxHeartbeats 4000000 in
theorem qX12_leg (l : Launch) (E : Ev) {M : Mm} {o : Nat} {p1 : Int32} {p2 : Int32} {p3 : Int32} {rz : Int32} {Mz : Mm} (hf : fX12_leg M o p1 p2 p3 = some (rz, Mz)) : Ct l E yX12_leg cX12_leg 4 (some .int) 2 45 0 0 [.ref (E.b + o), .int p1, .int p2, .int p3] M (some (.int rz)) Mz := by
  refine ct_of (by decide +kernel) (Nat.le_of_ble_eq_true rfl) fun p e s m args below meth c C hr hin hW ls hl => ?_
  have hl : lv_has ls 4 [(0, .ref (E.b + o)), (1, .int p1), (2, .int p2), (3, .int p3)] := hl
  unfold fX12_leg at hf
  refine lv_iload_n C.x C.b dX12_leg_0 rfl (lv_at hl 1 rfl) ?_
  replace hf := x_b1 hf; obtain ⟨x1_1, hx1_1, hf⟩ := hf
  refine x_callS (As := [.int p1]) (rest := []) C hW hl (qX12_isTwo l E hx1_1) gs_X12_133 hd_X12_isTwo rfl rfl (Nat.le_of_ble_eq_true rfl) dX12_leg_1 ⟨Nat.le_of_ble_eq_true rfl, Nat.le_of_ble_eq_true rfl⟩ ⟨Nat.le_of_ble_eq_true rfl, Nat.le_of_ble_eq_true rfl⟩ (fun H locs hW => ?_)
  refine lv_if_eq (tgt := 31) C.x C.b dX12_leg_4 rfl (fun c4 => ?_) (fun c4 => ?_)
  · replace hf := x_ip c4 hf
    refine lv_iconst (v := (-1)) C.x C.b dX12_leg_31 (by decide) ?_
    rw [x_e1 hf, x_e2 hf]
    exact x_iret C hr hW dX12_leg_32
  · replace hf := x_in c4 hf
    refine lv_iload_n C.x C.b dX12_leg_7 rfl (lv_at hl 2 rfl) ?_
    refine lv_i2l (v := p2.toInt64) C.x C.b dX12_leg_8 rfl ?_
    refine lv_lconst (v := 0) C.x C.b dX12_leg_9 (by decide) ?_
    refine x_ldc2 (v := 3) C T_6_152 dX12_leg_10 ?_
    replace hf := x_b1 hf; obtain ⟨x13_2, hx13_2, hf⟩ := hf
    refine x_callS (As := [.long (p2.toInt64), .long 0, .long 3]) (rest := []) C hW hl (qX12_in l E hx13_2) gs_X12_61 hd_X12_in rfl rfl (Nat.le_of_ble_eq_true rfl) dX12_leg_13 ⟨Nat.le_of_ble_eq_true rfl, Nat.le_of_ble_eq_true rfl⟩ ⟨Nat.le_of_ble_eq_true rfl, Nat.le_of_ble_eq_true rfl⟩ (fun H locs hW => ?_)
    refine lv_if_eq (tgt := 31) C.x C.b dX12_leg_16 rfl (fun c16 => ?_) (fun c16 => ?_)
    · replace hf := x_ip c16 hf
      refine lv_iconst (v := (-1)) C.x C.b dX12_leg_31 (by decide) ?_
      rw [x_e1 hf, x_e2 hf]
      exact x_iret C hr hW dX12_leg_32
    · replace hf := x_in c16 hf
      refine lv_iload_n C.x C.b dX12_leg_19 rfl (lv_at hl 3 rfl) ?_
      refine lv_i2l (v := p3.toInt64) C.x C.b dX12_leg_20 rfl ?_
      refine lv_lconst (v := 1) C.x C.b dX12_leg_21 (by decide) ?_
      refine x_ldc2 (v := 60) C T_7_11 dX12_leg_22 ?_
      replace hf := x_b1 hf; obtain ⟨x25_3, hx25_3, hf⟩ := hf
      refine x_callS (As := [.long (p3.toInt64), .long 1, .long 60]) (rest := []) C hW hl (qX12_in l E hx25_3) gs_X12_61 hd_X12_in rfl rfl (Nat.le_of_ble_eq_true rfl) dX12_leg_25 ⟨Nat.le_of_ble_eq_true rfl, Nat.le_of_ble_eq_true rfl⟩ ⟨Nat.le_of_ble_eq_true rfl, Nat.le_of_ble_eq_true rfl⟩ (fun H locs hW => ?_)
      refine lv_if_ne (tgt := 33) C.x C.b dX12_leg_28 rfl (fun c28 => ?_) (fun c28 => ?_)
      · replace hf := x_in c28 hf
        refine lv_aload_n C.x C.b dX12_leg_33 rfl (lv_at hl 0 rfl) ?_
        replace hf := x_b1 hf; obtain ⟨a34_4, ha34_4, hf⟩ := hf
        refine x_getn C hW fg_X12_9_15 ha34_4 dX12_leg_34 ?_
        refine lv_bipush (v := 12) C.x C.b dX12_leg_37 (by decide) ?_
        refine lv_iload_n C.x C.b dX12_leg_39 rfl (lv_at hl 1 rfl) ?_
        refine lv_iadd C.x C.b dX12_leg_40 ?_
        replace hf := x_b1 hf; obtain ⟨x41_5, hx41_5, hf⟩ := hf
        refine x_iald C hW hx41_5 dX12_leg_41 ?_
        refine lv_bipush (v := 10) C.x C.b dX12_leg_42 (by decide) ?_
        refine lv_icmp_ne (tgt := 50) C.x C.b dX12_leg_44 rfl (fun c44 => ?_) (fun c44 => ?_)
        · replace hf := x_in c44 hf
          refine lv_aload_n C.x C.b dX12_leg_50 rfl (lv_at hl 0 rfl) ?_
          replace hf := x_b1 hf; obtain ⟨a51_6, ha51_6, hf⟩ := hf
          refine x_getn C hW fg_X12_9_15 ha51_6 dX12_leg_51 ?_
          refine lv_iload_n C.x C.b dX12_leg_54 rfl (lv_at hl 1 rfl) ?_
          refine lv_iload_n C.x C.b dX12_leg_55 rfl (lv_at hl 2 rfl) ?_
          refine lv_iload_n C.x C.b dX12_leg_56 rfl (lv_at hl 3 rfl) ?_
          replace hf := x_b1 hf; obtain ⟨M57_7, hM57_7, hf⟩ := hf
          refine x_callS (As := [.ref (E.b + a51_6), .int p1, .int p2, .int p3]) (rest := []) C hW hl (qX12_goes l E hM57_7) gs_X12_138 hd_X12_goes rfl rfl (Nat.le_of_ble_eq_true rfl) dX12_leg_57 ⟨Nat.le_of_ble_eq_true rfl, Nat.le_of_ble_eq_true rfl⟩ ⟨Nat.le_of_ble_eq_true rfl, Nat.le_of_ble_eq_true rfl⟩ (fun H locs hW => ?_)
          refine lv_aload_n C.x C.b dX12_leg_60 rfl (lv_at hl 0 rfl) ?_
          replace hf := x_b1 hf; obtain ⟨a61_8, ha61_8, hf⟩ := hf
          refine x_getn C hW fg_X12_9_15 ha61_8 dX12_leg_61 ?_
          refine lv_bipush (v := 12) C.x C.b dX12_leg_64 (by decide) ?_
          refine lv_iload_n C.x C.b dX12_leg_66 rfl (lv_at hl 1 rfl) ?_
          refine lv_iadd C.x C.b dX12_leg_67 ?_
          replace hf := x_b1 hf; obtain ⟨x68_9, hx68_9, hf⟩ := hf
          refine x_iald C hW hx68_9 dX12_leg_68 ?_
          rw [x_e1 hf, x_e2 hf]
          exact x_iret C hr hW dX12_leg_69
        · replace hf := x_ip c44 hf
          refine lv_bipush (v := (-2)) C.x C.b dX12_leg_47 (by decide) ?_
          rw [x_e1 hf, x_e2 hf]
          exact x_iret C hr hW dX12_leg_49
      · replace hf := x_ip c28 hf
        refine lv_iconst (v := (-1)) C.x C.b dX12_leg_31 (by decide) ?_
        rw [x_e1 hf, x_e2 hf]
        exact x_iret C hr hW dX12_leg_32

theorem dX12_whatOf_0 : decode cX12_whatOf 0 = .ok (.aload_n 0, 1) := by decide +kernel
theorem dX12_whatOf_1 : decode cX12_whatOf 1 = .ok (.getfield 9, 3) := by decide +kernel
theorem dX12_whatOf_4 : decode cX12_whatOf 4 = .ok (.bipush 14, 2) := by decide +kernel
theorem dX12_whatOf_6 : decode cX12_whatOf 6 = .ok (.bipush 20, 2) := by decide +kernel
theorem dX12_whatOf_8 : decode cX12_whatOf 8 = .ok (.iload_n 1, 1) := by decide +kernel
theorem dX12_whatOf_9 : decode cX12_whatOf 9 = .ok (.imul, 1) := by decide +kernel
theorem dX12_whatOf_10 : decode cX12_whatOf 10 = .ok (.iadd, 1) := by decide +kernel
theorem dX12_whatOf_11 : decode cX12_whatOf 11 = .ok (.iconst 2, 1) := by decide +kernel
theorem dX12_whatOf_12 : decode cX12_whatOf 12 = .ok (.iload_n 2, 1) := by decide +kernel
theorem dX12_whatOf_13 : decode cX12_whatOf 13 = .ok (.imul, 1) := by decide +kernel
theorem dX12_whatOf_14 : decode cX12_whatOf 14 = .ok (.iadd, 1) := by decide +kernel
theorem dX12_whatOf_15 : decode cX12_whatOf 15 = .ok (.iaload, 1) := by decide +kernel
theorem dX12_whatOf_16 : decode cX12_whatOf 16 = .ok (.ireturn, 1) := by decide +kernel
def fX12_whatOf (M : Mm) (o : Nat) (p1 : Int32) (p2 : Int32) : Option Int32 :=
  B1 (rdN M o 15 0) fun a1_1 =>
  B1 (alI M a1_1 ((14 + (20 * p1)) + (2 * p2))) fun x15_2 =>
  some x15_2
set_option maxRecDepth 100000 in
set_option maxHeartbeats 4000000 in
theorem qX12_whatOf (l : Launch) (E : Ev) {M : Mm} {o : Nat} {p1 : Int32} {p2 : Int32} {rz : Int32} (hf : fX12_whatOf M o p1 p2 = some rz) : Ct l E yX12_whatOf cX12_whatOf 3 (some .int) 0 0 0 0 [.ref (E.b + o), .int p1, .int p2] M (some (.int rz)) M := by
  refine ct_of (by decide +kernel) (Nat.le_of_ble_eq_true rfl) fun p e s m args below meth c C hr hin hW ls hl => ?_
  have hl : lv_has ls 3 [(0, .ref (E.b + o)), (1, .int p1), (2, .int p2)] := hl
  unfold fX12_whatOf at hf
  refine lv_aload_n C.x C.b dX12_whatOf_0 rfl (lv_at hl 0 rfl) ?_
  replace hf := x_b1 hf; obtain ⟨a1_1, ha1_1, hf⟩ := hf
  refine x_getn C hW fg_X12_9_15 ha1_1 dX12_whatOf_1 ?_
  refine lv_bipush (v := 14) C.x C.b dX12_whatOf_4 (by decide) ?_
  refine lv_bipush (v := 20) C.x C.b dX12_whatOf_6 (by decide) ?_
  refine lv_iload_n C.x C.b dX12_whatOf_8 rfl (lv_at hl 1 rfl) ?_
  refine lv_imul C.x C.b dX12_whatOf_9 ?_
  refine lv_iadd C.x C.b dX12_whatOf_10 ?_
  refine lv_iconst (v := 2) C.x C.b dX12_whatOf_11 (by decide) ?_
  refine lv_iload_n C.x C.b dX12_whatOf_12 rfl (lv_at hl 2 rfl) ?_
  refine lv_imul C.x C.b dX12_whatOf_13 ?_
  refine lv_iadd C.x C.b dX12_whatOf_14 ?_
  replace hf := x_b1 hf; obtain ⟨x15_2, hx15_2, hf⟩ := hf
  refine x_iald C hW hx15_2 dX12_whatOf_15 ?_
  rw [x_e0 hf]
  exact x_iret C hr hW dX12_whatOf_16

theorem dX12_lengthOf_0 : decode cX12_lengthOf 0 = .ok (.aload_n 0, 1) := by decide +kernel
theorem dX12_lengthOf_1 : decode cX12_lengthOf 1 = .ok (.getfield 9, 3) := by decide +kernel
theorem dX12_lengthOf_4 : decode cX12_lengthOf 4 = .ok (.bipush 14, 2) := by decide +kernel
theorem dX12_lengthOf_6 : decode cX12_lengthOf 6 = .ok (.bipush 20, 2) := by decide +kernel
theorem dX12_lengthOf_8 : decode cX12_lengthOf 8 = .ok (.iload_n 1, 1) := by decide +kernel
theorem dX12_lengthOf_9 : decode cX12_lengthOf 9 = .ok (.imul, 1) := by decide +kernel
theorem dX12_lengthOf_10 : decode cX12_lengthOf 10 = .ok (.iadd, 1) := by decide +kernel
theorem dX12_lengthOf_11 : decode cX12_lengthOf 11 = .ok (.iconst 2, 1) := by decide +kernel
theorem dX12_lengthOf_12 : decode cX12_lengthOf 12 = .ok (.iload_n 2, 1) := by decide +kernel
theorem dX12_lengthOf_13 : decode cX12_lengthOf 13 = .ok (.imul, 1) := by decide +kernel
theorem dX12_lengthOf_14 : decode cX12_lengthOf 14 = .ok (.iadd, 1) := by decide +kernel
theorem dX12_lengthOf_15 : decode cX12_lengthOf 15 = .ok (.iconst 1, 1) := by decide +kernel
theorem dX12_lengthOf_16 : decode cX12_lengthOf 16 = .ok (.iadd, 1) := by decide +kernel
theorem dX12_lengthOf_17 : decode cX12_lengthOf 17 = .ok (.iaload, 1) := by decide +kernel
theorem dX12_lengthOf_18 : decode cX12_lengthOf 18 = .ok (.ireturn, 1) := by decide +kernel
def fX12_lengthOf (M : Mm) (o : Nat) (p1 : Int32) (p2 : Int32) : Option Int32 :=
  B1 (rdN M o 15 0) fun a1_1 =>
  B1 (alI M a1_1 (((14 + (20 * p1)) + (2 * p2)) + 1)) fun x17_2 =>
  some x17_2
set_option maxRecDepth 100000 in
set_option maxHeartbeats 4000000 in
theorem qX12_lengthOf (l : Launch) (E : Ev) {M : Mm} {o : Nat} {p1 : Int32} {p2 : Int32} {rz : Int32} (hf : fX12_lengthOf M o p1 p2 = some rz) : Ct l E yX12_lengthOf cX12_lengthOf 3 (some .int) 0 0 0 0 [.ref (E.b + o), .int p1, .int p2] M (some (.int rz)) M := by
  refine ct_of (by decide +kernel) (Nat.le_of_ble_eq_true rfl) fun p e s m args below meth c C hr hin hW ls hl => ?_
  have hl : lv_has ls 3 [(0, .ref (E.b + o)), (1, .int p1), (2, .int p2)] := hl
  unfold fX12_lengthOf at hf
  refine lv_aload_n C.x C.b dX12_lengthOf_0 rfl (lv_at hl 0 rfl) ?_
  replace hf := x_b1 hf; obtain ⟨a1_1, ha1_1, hf⟩ := hf
  refine x_getn C hW fg_X12_9_15 ha1_1 dX12_lengthOf_1 ?_
  refine lv_bipush (v := 14) C.x C.b dX12_lengthOf_4 (by decide) ?_
  refine lv_bipush (v := 20) C.x C.b dX12_lengthOf_6 (by decide) ?_
  refine lv_iload_n C.x C.b dX12_lengthOf_8 rfl (lv_at hl 1 rfl) ?_
  refine lv_imul C.x C.b dX12_lengthOf_9 ?_
  refine lv_iadd C.x C.b dX12_lengthOf_10 ?_
  refine lv_iconst (v := 2) C.x C.b dX12_lengthOf_11 (by decide) ?_
  refine lv_iload_n C.x C.b dX12_lengthOf_12 rfl (lv_at hl 2 rfl) ?_
  refine lv_imul C.x C.b dX12_lengthOf_13 ?_
  refine lv_iadd C.x C.b dX12_lengthOf_14 ?_
  refine lv_iconst (v := 1) C.x C.b dX12_lengthOf_15 (by decide) ?_
  refine lv_iadd C.x C.b dX12_lengthOf_16 ?_
  replace hf := x_b1 hf; obtain ⟨x17_2, hx17_2, hf⟩ := hf
  refine x_iald C hW hx17_2 dX12_lengthOf_17 ?_
  rw [x_e0 hf]
  exact x_iret C hr hW dX12_lengthOf_18

theorem dX12_minutesOf_0 : decode cX12_minutesOf 0 = .ok (.aload_n 0, 1) := by decide +kernel
theorem dX12_minutesOf_1 : decode cX12_minutesOf 1 = .ok (.iload_n 1, 1) := by decide +kernel
theorem dX12_minutesOf_2 : decode cX12_minutesOf 2 = .ok (.iload_n 2, 1) := by decide +kernel
theorem dX12_minutesOf_3 : decode cX12_minutesOf 3 = .ok (.invokevirtual 142, 3) := by decide +kernel
theorem dX12_minutesOf_6 : decode cX12_minutesOf 6 = .ok (.istore_n 3, 1) := by decide +kernel
theorem dX12_minutesOf_7 : decode cX12_minutesOf 7 = .ok (.aload_n 0, 1) := by decide +kernel
theorem dX12_minutesOf_8 : decode cX12_minutesOf 8 = .ok (.iload_n 1, 1) := by decide +kernel
theorem dX12_minutesOf_9 : decode cX12_minutesOf 9 = .ok (.iload_n 2, 1) := by decide +kernel
theorem dX12_minutesOf_10 : decode cX12_minutesOf 10 = .ok (.invokevirtual 145, 3) := by decide +kernel
theorem dX12_minutesOf_13 : decode cX12_minutesOf 13 = .ok (.ifCond .ne 13, 3) := by decide +kernel
theorem dX12_minutesOf_16 : decode cX12_minutesOf 16 = .ok (.iload_n 3, 1) := by decide +kernel
theorem dX12_minutesOf_17 : decode cX12_minutesOf 17 = .ok (.bipush 19, 2) := by decide +kernel
theorem dX12_minutesOf_19 : decode cX12_minutesOf 19 = .ok (.iadd, 1) := by decide +kernel
theorem dX12_minutesOf_20 : decode cX12_minutesOf 20 = .ok (.bipush 20, 2) := by decide +kernel
theorem dX12_minutesOf_22 : decode cX12_minutesOf 22 = .ok (.idiv, 1) := by decide +kernel
theorem dX12_minutesOf_23 : decode cX12_minutesOf 23 = .ok (.goto 24, 3) := by decide +kernel
theorem dX12_minutesOf_26 : decode cX12_minutesOf 26 = .ok (.aload_n 0, 1) := by decide +kernel
theorem dX12_minutesOf_27 : decode cX12_minutesOf 27 = .ok (.iload_n 1, 1) := by decide +kernel
theorem dX12_minutesOf_28 : decode cX12_minutesOf 28 = .ok (.iload_n 2, 1) := by decide +kernel
theorem dX12_minutesOf_29 : decode cX12_minutesOf 29 = .ok (.invokevirtual 145, 3) := by decide +kernel
theorem dX12_minutesOf_32 : decode cX12_minutesOf 32 = .ok (.iconst 1, 1) := by decide +kernel
theorem dX12_minutesOf_33 : decode cX12_minutesOf 33 = .ok (.if_icmp .ne 13, 3) := by decide +kernel
theorem dX12_minutesOf_36 : decode cX12_minutesOf 36 = .ok (.iload_n 3, 1) := by decide +kernel
theorem dX12_minutesOf_37 : decode cX12_minutesOf 37 = .ok (.bipush 9, 2) := by decide +kernel
theorem dX12_minutesOf_39 : decode cX12_minutesOf 39 = .ok (.iadd, 1) := by decide +kernel
theorem dX12_minutesOf_40 : decode cX12_minutesOf 40 = .ok (.bipush 10, 2) := by decide +kernel
theorem dX12_minutesOf_42 : decode cX12_minutesOf 42 = .ok (.idiv, 1) := by decide +kernel
theorem dX12_minutesOf_43 : decode cX12_minutesOf 43 = .ok (.goto 4, 3) := by decide +kernel
theorem dX12_minutesOf_46 : decode cX12_minutesOf 46 = .ok (.iload_n 3, 1) := by decide +kernel
theorem dX12_minutesOf_47 : decode cX12_minutesOf 47 = .ok (.ireturn, 1) := by decide +kernel
theorem hd_X12_lengthOf : yX12_lengthOf.cls ≠ "java/lang/invoke/MethodHandle" ∧ yX12_lengthOf.cls ≠ "java/lang/invoke/VarHandle" ∧ (parseMethodDescriptor yX12_lengthOf.desc).map (fun d => d.parameters.length) = some 2 := by decide +kernel
theorem gv_X12_142 : GoodIn gT (wsV "NylonLadderModel" 142 "NylonLadderModel" yX12_lengthOf (Cond.code yX12_lengthOf cX12_lengthOf 3 (some .int) :: gT)) := good_V T_7_24 T_7_26 TS_44 T_1_10 T_7_27
theorem hd_X12_whatOf : yX12_whatOf.cls ≠ "java/lang/invoke/MethodHandle" ∧ yX12_whatOf.cls ≠ "java/lang/invoke/VarHandle" ∧ (parseMethodDescriptor yX12_whatOf.desc).map (fun d => d.parameters.length) = some 2 := by decide +kernel
theorem gv_X12_145 : GoodIn gT (wsV "NylonLadderModel" 145 "NylonLadderModel" yX12_whatOf (Cond.code yX12_whatOf cX12_whatOf 3 (some .int) :: gT)) := good_V T_7_20 T_7_22 TS_43 T_1_10 T_7_23
def fX12_minutesOf (M : Mm) (o : Nat) (p1 : Int32) (p2 : Int32) : Option Int32 :=
  B1 (gk M o 15) fun _ =>
  B1 (fX12_lengthOf M o p1 p2) fun x3_2 =>
  B1 (gk M o 15) fun _ =>
  B1 (fX12_whatOf M o p1 p2) fun x10_4 =>
  if x10_4 = 0 then
    some ((x3_2 + 19) / 20)
  else
    B1 (gk M o 15) fun _ =>
    B1 (fX12_whatOf M o p1 p2) fun x29_6 =>
    if x29_6 = 1 then
      some ((x3_2 + 9) / 10)
    else
      some x3_2
set_option maxRecDepth 100000 in
set_option maxHeartbeats 4000000 in
theorem qX12_minutesOf (l : Launch) (E : Ev) {M : Mm} {o : Nat} {p1 : Int32} {p2 : Int32} {rz : Int32} (hf : fX12_minutesOf M o p1 p2 = some rz) : Ct l E yX12_minutesOf cX12_minutesOf 4 (some .int) 1 22 0 0 [.ref (E.b + o), .int p1, .int p2] M (some (.int rz)) M := by
  refine ct_of (by decide +kernel) (Nat.le_of_ble_eq_true rfl) fun p e s m args below meth c C hr hin hW ls hl => ?_
  have hl : lv_has ls 4 [(0, .ref (E.b + o)), (1, .int p1), (2, .int p2)] := hl
  unfold fX12_minutesOf at hf
  refine lv_aload_n C.x C.b dX12_minutesOf_0 rfl (lv_at hl 0 rfl) ?_
  refine lv_iload_n C.x C.b dX12_minutesOf_1 rfl (lv_at hl 1 rfl) ?_
  refine lv_iload_n C.x C.b dX12_minutesOf_2 rfl (lv_at hl 2 rfl) ?_
  replace hf := x_b1 hf; obtain ⟨_, hk3_1, hf⟩ := hf
  replace hf := x_b1 hf; obtain ⟨x3_2, hx3_2, hf⟩ := hf
  refine x_callV (As := [.int p1, .int p2]) (a := o) (rest := []) C hW hl (qX12_lengthOf l E hx3_2) (x_gk hk3_1) (by decide) (by decide) rfl gv_X12_142 ⟨rfl, hd_X12_lengthOf⟩ rfl rfl (Nat.le_of_ble_eq_true rfl) dX12_minutesOf_3 ⟨Nat.le_of_ble_eq_true rfl, Nat.le_of_ble_eq_true rfl⟩ ⟨Nat.le_of_ble_eq_true rfl, Nat.le_of_ble_eq_true rfl⟩ (fun H locs hW => ?_)
  refine lv_istore_n (lv' := [(3, .int _), (0, .ref (E.b + _)), (1, .int _), (2, .int _)]) C.x C.b dX12_minutesOf_6 rfl hl (by decide) rfl (fun ls hl => ?_)
  refine lv_aload_n C.x C.b dX12_minutesOf_7 rfl (lv_at hl 1 rfl) ?_
  refine lv_iload_n C.x C.b dX12_minutesOf_8 rfl (lv_at hl 2 rfl) ?_
  refine lv_iload_n C.x C.b dX12_minutesOf_9 rfl (lv_at hl 3 rfl) ?_
  replace hf := x_b1 hf; obtain ⟨_, hk10_3, hf⟩ := hf
  replace hf := x_b1 hf; obtain ⟨x10_4, hx10_4, hf⟩ := hf
  refine x_callV (As := [.int p1, .int p2]) (a := o) (rest := []) C hW hl (qX12_whatOf l E hx10_4) (x_gk hk10_3) (by decide) (by decide) rfl gv_X12_145 ⟨rfl, hd_X12_whatOf⟩ rfl rfl (Nat.le_of_ble_eq_true rfl) dX12_minutesOf_10 ⟨Nat.le_of_ble_eq_true rfl, Nat.le_of_ble_eq_true rfl⟩ ⟨Nat.le_of_ble_eq_true rfl, Nat.le_of_ble_eq_true rfl⟩ (fun H locs hW => ?_)
  refine lv_if_ne (tgt := 26) C.x C.b dX12_minutesOf_13 rfl (fun c13 => ?_) (fun c13 => ?_)
  · replace hf := x_in c13 hf
    refine lv_aload_n C.x C.b dX12_minutesOf_26 rfl (lv_at hl 1 rfl) ?_
    refine lv_iload_n C.x C.b dX12_minutesOf_27 rfl (lv_at hl 2 rfl) ?_
    refine lv_iload_n C.x C.b dX12_minutesOf_28 rfl (lv_at hl 3 rfl) ?_
    replace hf := x_b1 hf; obtain ⟨_, hk29_5, hf⟩ := hf
    replace hf := x_b1 hf; obtain ⟨x29_6, hx29_6, hf⟩ := hf
    refine x_callV (As := [.int p1, .int p2]) (a := o) (rest := []) C hW hl (qX12_whatOf l E hx29_6) (x_gk hk29_5) (by decide) (by decide) rfl gv_X12_145 ⟨rfl, hd_X12_whatOf⟩ rfl rfl (Nat.le_of_ble_eq_true rfl) dX12_minutesOf_29 ⟨Nat.le_of_ble_eq_true rfl, Nat.le_of_ble_eq_true rfl⟩ ⟨Nat.le_of_ble_eq_true rfl, Nat.le_of_ble_eq_true rfl⟩ (fun H locs hW => ?_)
    refine lv_iconst (v := 1) C.x C.b dX12_minutesOf_32 (by decide) ?_
    refine lv_icmp_ne (tgt := 46) C.x C.b dX12_minutesOf_33 rfl (fun c33 => ?_) (fun c33 => ?_)
    · replace hf := x_in c33 hf
      refine lv_iload_n C.x C.b dX12_minutesOf_46 rfl (lv_at hl 0 rfl) ?_
      rw [x_e0 hf]
      exact x_iret C hr hW dX12_minutesOf_47
    · replace hf := x_ip c33 hf
      refine lv_iload_n C.x C.b dX12_minutesOf_36 rfl (lv_at hl 0 rfl) ?_
      refine lv_bipush (v := 9) C.x C.b dX12_minutesOf_37 (by decide) ?_
      refine lv_iadd C.x C.b dX12_minutesOf_39 ?_
      refine lv_bipush (v := 10) C.x C.b dX12_minutesOf_40 (by decide) ?_
      refine lv_idiv C.x C.b dX12_minutesOf_42 (by decide) ?_
      refine lv_goto (tgt := 47) C.x C.b dX12_minutesOf_43 rfl ?_
      rw [x_e0 hf]
      exact x_iret C hr hW dX12_minutesOf_47
  · replace hf := x_ip c13 hf
    refine lv_iload_n C.x C.b dX12_minutesOf_16 rfl (lv_at hl 0 rfl) ?_
    refine lv_bipush (v := 19) C.x C.b dX12_minutesOf_17 (by decide) ?_
    refine lv_iadd C.x C.b dX12_minutesOf_19 ?_
    refine lv_bipush (v := 20) C.x C.b dX12_minutesOf_20 (by decide) ?_
    refine lv_idiv C.x C.b dX12_minutesOf_22 (by decide) ?_
    refine lv_goto (tgt := 47) C.x C.b dX12_minutesOf_23 rfl ?_
    rw [x_e0 hf]
    exact x_iret C hr hW dX12_minutesOf_47

theorem dX12_legOf_0 : decode cX12_legOf 0 = .ok (.iload_n 1, 1) := by decide +kernel
theorem dX12_legOf_1 : decode cX12_legOf 1 = .ok (.invokestatic 133, 3) := by decide +kernel
theorem dX12_legOf_4 : decode cX12_legOf 4 = .ok (.ifCond .eq 15, 3) := by decide +kernel
theorem dX12_legOf_7 : decode cX12_legOf 7 = .ok (.iload_n 3, 1) := by decide +kernel
theorem dX12_legOf_8 : decode cX12_legOf 8 = .ok (.i2l, 1) := by decide +kernel
theorem dX12_legOf_9 : decode cX12_legOf 9 = .ok (.lconst 0, 1) := by decide +kernel
theorem dX12_legOf_10 : decode cX12_legOf 10 = .ok (.ldc2_w 148, 3) := by decide +kernel
theorem dX12_legOf_13 : decode cX12_legOf 13 = .ok (.invokestatic 61, 3) := by decide +kernel
theorem dX12_legOf_16 : decode cX12_legOf 16 = .ok (.ifCond .ne 5, 3) := by decide +kernel
theorem dX12_legOf_19 : decode cX12_legOf 19 = .ok (.iconst (-1), 1) := by decide +kernel
theorem dX12_legOf_20 : decode cX12_legOf 20 = .ok (.ireturn, 1) := by decide +kernel
theorem dX12_legOf_21 : decode cX12_legOf 21 = .ok (.iload_n 2, 1) := by decide +kernel
theorem dX12_legOf_22 : decode cX12_legOf 22 = .ok (.i2l, 1) := by decide +kernel
theorem dX12_legOf_23 : decode cX12_legOf 23 = .ok (.lconst 0, 1) := by decide +kernel
theorem dX12_legOf_24 : decode cX12_legOf 24 = .ok (.aload_n 0, 1) := by decide +kernel
theorem dX12_legOf_25 : decode cX12_legOf 25 = .ok (.getfield 9, 3) := by decide +kernel
theorem dX12_legOf_28 : decode cX12_legOf 28 = .ok (.bipush 12, 2) := by decide +kernel
theorem dX12_legOf_30 : decode cX12_legOf 30 = .ok (.iload_n 1, 1) := by decide +kernel
theorem dX12_legOf_31 : decode cX12_legOf 31 = .ok (.iadd, 1) := by decide +kernel
theorem dX12_legOf_32 : decode cX12_legOf 32 = .ok (.iaload, 1) := by decide +kernel
theorem dX12_legOf_33 : decode cX12_legOf 33 = .ok (.iconst 1, 1) := by decide +kernel
theorem dX12_legOf_34 : decode cX12_legOf 34 = .ok (.isub, 1) := by decide +kernel
theorem dX12_legOf_35 : decode cX12_legOf 35 = .ok (.i2l, 1) := by decide +kernel
theorem dX12_legOf_36 : decode cX12_legOf 36 = .ok (.invokestatic 61, 3) := by decide +kernel
theorem dX12_legOf_39 : decode cX12_legOf 39 = .ok (.ifCond .ne 6, 3) := by decide +kernel
theorem dX12_legOf_42 : decode cX12_legOf 42 = .ok (.bipush (-3), 2) := by decide +kernel
theorem dX12_legOf_44 : decode cX12_legOf 44 = .ok (.ireturn, 1) := by decide +kernel
theorem dX12_legOf_45 : decode cX12_legOf 45 = .ok (.iload_n 3, 1) := by decide +kernel
theorem dX12_legOf_46 : decode cX12_legOf 46 = .ok (.ifCond .ne 12, 3) := by decide +kernel
theorem dX12_legOf_49 : decode cX12_legOf 49 = .ok (.aload_n 0, 1) := by decide +kernel
theorem dX12_legOf_50 : decode cX12_legOf 50 = .ok (.iload_n 1, 1) := by decide +kernel
theorem dX12_legOf_51 : decode cX12_legOf 51 = .ok (.iload_n 2, 1) := by decide +kernel
theorem dX12_legOf_52 : decode cX12_legOf 52 = .ok (.invokevirtual 145, 3) := by decide +kernel
theorem dX12_legOf_55 : decode cX12_legOf 55 = .ok (.goto 23, 3) := by decide +kernel
theorem dX12_legOf_58 : decode cX12_legOf 58 = .ok (.iload_n 3, 1) := by decide +kernel
theorem dX12_legOf_59 : decode cX12_legOf 59 = .ok (.iconst 1, 1) := by decide +kernel
theorem dX12_legOf_60 : decode cX12_legOf 60 = .ok (.if_icmp .ne 12, 3) := by decide +kernel
theorem dX12_legOf_63 : decode cX12_legOf 63 = .ok (.aload_n 0, 1) := by decide +kernel
theorem dX12_legOf_64 : decode cX12_legOf 64 = .ok (.iload_n 1, 1) := by decide +kernel
theorem dX12_legOf_65 : decode cX12_legOf 65 = .ok (.iload_n 2, 1) := by decide +kernel
theorem dX12_legOf_66 : decode cX12_legOf 66 = .ok (.invokevirtual 142, 3) := by decide +kernel
theorem dX12_legOf_69 : decode cX12_legOf 69 = .ok (.goto 9, 3) := by decide +kernel
theorem dX12_legOf_72 : decode cX12_legOf 72 = .ok (.aload_n 0, 1) := by decide +kernel
theorem dX12_legOf_73 : decode cX12_legOf 73 = .ok (.iload_n 1, 1) := by decide +kernel
theorem dX12_legOf_74 : decode cX12_legOf 74 = .ok (.iload_n 2, 1) := by decide +kernel
theorem dX12_legOf_75 : decode cX12_legOf 75 = .ok (.invokevirtual 150, 3) := by decide +kernel
theorem dX12_legOf_78 : decode cX12_legOf 78 = .ok (.ireturn, 1) := by decide +kernel
theorem hd_X12_minutesOf : yX12_minutesOf.cls ≠ "java/lang/invoke/MethodHandle" ∧ yX12_minutesOf.cls ≠ "java/lang/invoke/VarHandle" ∧ (parseMethodDescriptor yX12_minutesOf.desc).map (fun d => d.parameters.length) = some 2 := by decide +kernel
theorem gv_X12_150 : GoodIn gT (wsV "NylonLadderModel" 150 "NylonLadderModel" yX12_minutesOf (Cond.code yX12_minutesOf cX12_minutesOf 4 (some .int) :: gT)) := good_V T_7_28 T_7_30 TS_45 T_1_10 T_7_31
def fX12_legOf (M : Mm) (o : Nat) (p1 : Int32) (p2 : Int32) (p3 : Int32) : Option Int32 :=
  B1 (fX12_isTwo M p1) fun x1_1 =>
  if x1_1 = 0 then
    some (-1)
  else
    B1 (fX12_in M (p3.toInt64) 0 2) fun x13_2 =>
    if x13_2 = 0 then
      some (-1)
    else
      B1 (rdN M o 15 0) fun a25_3 =>
      B1 (alI M a25_3 (12 + p1)) fun x32_4 =>
      B1 (fX12_in M (p2.toInt64) 0 ((x32_4 - 1).toInt64)) fun x36_5 =>
      if x36_5 = 0 then
        some (-3)
      else
        if p3 = 0 then
          B1 (gk M o 15) fun _ =>
          B1 (fX12_whatOf M o p1 p2) fun x52_11 =>
          some x52_11
        else
          if p3 = 1 then
            B1 (gk M o 15) fun _ =>
            B1 (fX12_lengthOf M o p1 p2) fun x66_9 =>
            some x66_9
          else
            B1 (gk M o 15) fun _ =>
            B1 (fX12_minutesOf M o p1 p2) fun x75_7 =>
            some x75_7
set_option maxRecDepth 100000 in
set_option maxHeartbeats 4000000 in
theorem qX12_legOf (l : Launch) (E : Ev) {M : Mm} {o : Nat} {p1 : Int32} {p2 : Int32} {p3 : Int32} {rz : Int32} (hf : fX12_legOf M o p1 p2 p3 = some rz) : Ct l E yX12_legOf cX12_legOf 4 (some .int) 2 45 0 0 [.ref (E.b + o), .int p1, .int p2, .int p3] M (some (.int rz)) M := by
  refine ct_of (by decide +kernel) (Nat.le_of_ble_eq_true rfl) fun p e s m args below meth c C hr hin hW ls hl => ?_
  have hl : lv_has ls 4 [(0, .ref (E.b + o)), (1, .int p1), (2, .int p2), (3, .int p3)] := hl
  unfold fX12_legOf at hf
  refine lv_iload_n C.x C.b dX12_legOf_0 rfl (lv_at hl 1 rfl) ?_
  replace hf := x_b1 hf; obtain ⟨x1_1, hx1_1, hf⟩ := hf
  refine x_callS (As := [.int p1]) (rest := []) C hW hl (qX12_isTwo l E hx1_1) gs_X12_133 hd_X12_isTwo rfl rfl (Nat.le_of_ble_eq_true rfl) dX12_legOf_1 ⟨Nat.le_of_ble_eq_true rfl, Nat.le_of_ble_eq_true rfl⟩ ⟨Nat.le_of_ble_eq_true rfl, Nat.le_of_ble_eq_true rfl⟩ (fun H locs hW => ?_)
  refine lv_if_eq (tgt := 19) C.x C.b dX12_legOf_4 rfl (fun c4 => ?_) (fun c4 => ?_)
  · replace hf := x_ip c4 hf
    refine lv_iconst (v := (-1)) C.x C.b dX12_legOf_19 (by decide) ?_
    rw [x_e0 hf]
    exact x_iret C hr hW dX12_legOf_20
  · replace hf := x_in c4 hf
    refine lv_iload_n C.x C.b dX12_legOf_7 rfl (lv_at hl 3 rfl) ?_
    refine lv_i2l (v := p3.toInt64) C.x C.b dX12_legOf_8 rfl ?_
    refine lv_lconst (v := 0) C.x C.b dX12_legOf_9 (by decide) ?_
    refine x_ldc2 (v := 2) C T_7_19 dX12_legOf_10 ?_
    replace hf := x_b1 hf; obtain ⟨x13_2, hx13_2, hf⟩ := hf
    refine x_callS (As := [.long (p3.toInt64), .long 0, .long 2]) (rest := []) C hW hl (qX12_in l E hx13_2) gs_X12_61 hd_X12_in rfl rfl (Nat.le_of_ble_eq_true rfl) dX12_legOf_13 ⟨Nat.le_of_ble_eq_true rfl, Nat.le_of_ble_eq_true rfl⟩ ⟨Nat.le_of_ble_eq_true rfl, Nat.le_of_ble_eq_true rfl⟩ (fun H locs hW => ?_)
    refine lv_if_ne (tgt := 21) C.x C.b dX12_legOf_16 rfl (fun c16 => ?_) (fun c16 => ?_)
    · replace hf := x_in c16 hf
      refine lv_iload_n C.x C.b dX12_legOf_21 rfl (lv_at hl 2 rfl) ?_
      refine lv_i2l (v := p2.toInt64) C.x C.b dX12_legOf_22 rfl ?_
      refine lv_lconst (v := 0) C.x C.b dX12_legOf_23 (by decide) ?_
      refine lv_aload_n C.x C.b dX12_legOf_24 rfl (lv_at hl 0 rfl) ?_
      replace hf := x_b1 hf; obtain ⟨a25_3, ha25_3, hf⟩ := hf
      refine x_getn C hW fg_X12_9_15 ha25_3 dX12_legOf_25 ?_
      refine lv_bipush (v := 12) C.x C.b dX12_legOf_28 (by decide) ?_
      refine lv_iload_n C.x C.b dX12_legOf_30 rfl (lv_at hl 1 rfl) ?_
      refine lv_iadd C.x C.b dX12_legOf_31 ?_
      replace hf := x_b1 hf; obtain ⟨x32_4, hx32_4, hf⟩ := hf
      refine x_iald C hW hx32_4 dX12_legOf_32 ?_
      refine lv_iconst (v := 1) C.x C.b dX12_legOf_33 (by decide) ?_
      refine lv_isub C.x C.b dX12_legOf_34 ?_
      refine lv_i2l (v := (x32_4 - 1).toInt64) C.x C.b dX12_legOf_35 rfl ?_
      replace hf := x_b1 hf; obtain ⟨x36_5, hx36_5, hf⟩ := hf
      refine x_callS (As := [.long (p2.toInt64), .long 0, .long ((x32_4 - 1).toInt64)]) (rest := []) C hW hl (qX12_in l E hx36_5) gs_X12_61 hd_X12_in rfl rfl (Nat.le_of_ble_eq_true rfl) dX12_legOf_36 ⟨Nat.le_of_ble_eq_true rfl, Nat.le_of_ble_eq_true rfl⟩ ⟨Nat.le_of_ble_eq_true rfl, Nat.le_of_ble_eq_true rfl⟩ (fun H locs hW => ?_)
      refine lv_if_ne (tgt := 45) C.x C.b dX12_legOf_39 rfl (fun c39 => ?_) (fun c39 => ?_)
      · replace hf := x_in c39 hf
        refine lv_iload_n C.x C.b dX12_legOf_45 rfl (lv_at hl 3 rfl) ?_
        refine lv_if_ne (tgt := 58) C.x C.b dX12_legOf_46 rfl (fun c46 => ?_) (fun c46 => ?_)
        · replace hf := x_in c46 hf
          refine lv_iload_n C.x C.b dX12_legOf_58 rfl (lv_at hl 3 rfl) ?_
          refine lv_iconst (v := 1) C.x C.b dX12_legOf_59 (by decide) ?_
          refine lv_icmp_ne (tgt := 72) C.x C.b dX12_legOf_60 rfl (fun c60 => ?_) (fun c60 => ?_)
          · replace hf := x_in c60 hf
            refine lv_aload_n C.x C.b dX12_legOf_72 rfl (lv_at hl 0 rfl) ?_
            refine lv_iload_n C.x C.b dX12_legOf_73 rfl (lv_at hl 1 rfl) ?_
            refine lv_iload_n C.x C.b dX12_legOf_74 rfl (lv_at hl 2 rfl) ?_
            replace hf := x_b1 hf; obtain ⟨_, hk75_6, hf⟩ := hf
            replace hf := x_b1 hf; obtain ⟨x75_7, hx75_7, hf⟩ := hf
            refine x_callV (As := [.int p1, .int p2]) (a := o) (rest := []) C hW hl (qX12_minutesOf l E hx75_7) (x_gk hk75_6) (by decide) (by decide) rfl gv_X12_150 ⟨rfl, hd_X12_minutesOf⟩ rfl rfl (Nat.le_of_ble_eq_true rfl) dX12_legOf_75 ⟨Nat.le_of_ble_eq_true rfl, Nat.le_of_ble_eq_true rfl⟩ ⟨Nat.le_of_ble_eq_true rfl, Nat.le_of_ble_eq_true rfl⟩ (fun H locs hW => ?_)
            rw [x_e0 hf]
            exact x_iret C hr hW dX12_legOf_78
          · replace hf := x_ip c60 hf
            refine lv_aload_n C.x C.b dX12_legOf_63 rfl (lv_at hl 0 rfl) ?_
            refine lv_iload_n C.x C.b dX12_legOf_64 rfl (lv_at hl 1 rfl) ?_
            refine lv_iload_n C.x C.b dX12_legOf_65 rfl (lv_at hl 2 rfl) ?_
            replace hf := x_b1 hf; obtain ⟨_, hk66_8, hf⟩ := hf
            replace hf := x_b1 hf; obtain ⟨x66_9, hx66_9, hf⟩ := hf
            refine x_callV (As := [.int p1, .int p2]) (a := o) (rest := []) C hW hl (qX12_lengthOf l E hx66_9) (x_gk hk66_8) (by decide) (by decide) rfl gv_X12_142 ⟨rfl, hd_X12_lengthOf⟩ rfl rfl (Nat.le_of_ble_eq_true rfl) dX12_legOf_66 ⟨Nat.le_of_ble_eq_true rfl, Nat.le_of_ble_eq_true rfl⟩ ⟨Nat.le_of_ble_eq_true rfl, Nat.le_of_ble_eq_true rfl⟩ (fun H locs hW => ?_)
            refine lv_goto (tgt := 78) C.x C.b dX12_legOf_69 rfl ?_
            rw [x_e0 hf]
            exact x_iret C hr hW dX12_legOf_78
        · replace hf := x_ip c46 hf
          refine lv_aload_n C.x C.b dX12_legOf_49 rfl (lv_at hl 0 rfl) ?_
          refine lv_iload_n C.x C.b dX12_legOf_50 rfl (lv_at hl 1 rfl) ?_
          refine lv_iload_n C.x C.b dX12_legOf_51 rfl (lv_at hl 2 rfl) ?_
          replace hf := x_b1 hf; obtain ⟨_, hk52_10, hf⟩ := hf
          replace hf := x_b1 hf; obtain ⟨x52_11, hx52_11, hf⟩ := hf
          refine x_callV (As := [.int p1, .int p2]) (a := o) (rest := []) C hW hl (qX12_whatOf l E hx52_11) (x_gk hk52_10) (by decide) (by decide) rfl gv_X12_145 ⟨rfl, hd_X12_whatOf⟩ rfl rfl (Nat.le_of_ble_eq_true rfl) dX12_legOf_52 ⟨Nat.le_of_ble_eq_true rfl, Nat.le_of_ble_eq_true rfl⟩ ⟨Nat.le_of_ble_eq_true rfl, Nat.le_of_ble_eq_true rfl⟩ (fun H locs hW => ?_)
          refine lv_goto (tgt := 78) C.x C.b dX12_legOf_55 rfl ?_
          rw [x_e0 hf]
          exact x_iret C hr hW dX12_legOf_78
      · replace hf := x_ip c39 hf
        refine lv_bipush (v := (-3)) C.x C.b dX12_legOf_42 (by decide) ?_
        rw [x_e0 hf]
        exact x_iret C hr hW dX12_legOf_44
    · replace hf := x_ip c16 hf
      refine lv_iconst (v := (-1)) C.x C.b dX12_legOf_19 (by decide) ?_
      rw [x_e0 hf]
      exact x_iret C hr hW dX12_legOf_20

theorem dX12_clear_0 : decode cX12_clear 0 = .ok (.iload_n 1, 1) := by decide +kernel
theorem dX12_clear_1 : decode cX12_clear 1 = .ok (.invokestatic 133, 3) := by decide +kernel
theorem dX12_clear_4 : decode cX12_clear 4 = .ok (.ifCond .ne 5, 3) := by decide +kernel
theorem dX12_clear_7 : decode cX12_clear 7 = .ok (.iconst (-1), 1) := by decide +kernel
theorem dX12_clear_8 : decode cX12_clear 8 = .ok (.ireturn, 1) := by decide +kernel
theorem dX12_clear_9 : decode cX12_clear 9 = .ok (.aload_n 0, 1) := by decide +kernel
theorem dX12_clear_10 : decode cX12_clear 10 = .ok (.getfield 9, 3) := by decide +kernel
theorem dX12_clear_13 : decode cX12_clear 13 = .ok (.bipush 12, 2) := by decide +kernel
theorem dX12_clear_15 : decode cX12_clear 15 = .ok (.iload_n 1, 1) := by decide +kernel
theorem dX12_clear_16 : decode cX12_clear 16 = .ok (.iadd, 1) := by decide +kernel
theorem dX12_clear_17 : decode cX12_clear 17 = .ok (.iaload, 1) := by decide +kernel
theorem dX12_clear_18 : decode cX12_clear 18 = .ok (.istore_n 2, 1) := by decide +kernel
theorem dX12_clear_19 : decode cX12_clear 19 = .ok (.aload_n 0, 1) := by decide +kernel
theorem dX12_clear_20 : decode cX12_clear 20 = .ok (.getfield 9, 3) := by decide +kernel
theorem dX12_clear_23 : decode cX12_clear 23 = .ok (.bipush 12, 2) := by decide +kernel
theorem dX12_clear_25 : decode cX12_clear 25 = .ok (.iload_n 1, 1) := by decide +kernel
theorem dX12_clear_26 : decode cX12_clear 26 = .ok (.iadd, 1) := by decide +kernel
theorem dX12_clear_27 : decode cX12_clear 27 = .ok (.iconst 0, 1) := by decide +kernel
theorem dX12_clear_28 : decode cX12_clear 28 = .ok (.iastore, 1) := by decide +kernel
theorem dX12_clear_29 : decode cX12_clear 29 = .ok (.iload_n 2, 1) := by decide +kernel
theorem dX12_clear_30 : decode cX12_clear 30 = .ok (.ireturn, 1) := by decide +kernel
def fX12_clear (M : Mm) (o : Nat) (p1 : Int32) : Option (Int32 × Mm) :=
  B1 (fX12_isTwo M p1) fun x1_1 =>
  if x1_1 = 0 then
    some ((-1), M)
  else
    B1 (rdN M o 15 0) fun a10_2 =>
    B1 (alI M a10_2 (12 + p1)) fun x17_3 =>
    B1 (rdN M o 15 0) fun a20_4 =>
    B1 (asI M a20_4 (12 + p1) 0) fun M28_5 =>
    some (x17_3, M28_5)
set_option maxRecDepth 100000 in
set_option maxHeartbeats 4000000 in
theorem qX12_clear (l : Launch) (E : Ev) {M : Mm} {o : Nat} {p1 : Int32} {rz : Int32} {Mz : Mm} (hf : fX12_clear M o p1 = some (rz, Mz)) : Ct l E yX12_clear cX12_clear 3 (some .int) 2 45 0 0 [.ref (E.b + o), .int p1] M (some (.int rz)) Mz := by
  refine ct_of (by decide +kernel) (Nat.le_of_ble_eq_true rfl) fun p e s m args below meth c C hr hin hW ls hl => ?_
  have hl : lv_has ls 3 [(0, .ref (E.b + o)), (1, .int p1)] := hl
  unfold fX12_clear at hf
  refine lv_iload_n C.x C.b dX12_clear_0 rfl (lv_at hl 1 rfl) ?_
  replace hf := x_b1 hf; obtain ⟨x1_1, hx1_1, hf⟩ := hf
  refine x_callS (As := [.int p1]) (rest := []) C hW hl (qX12_isTwo l E hx1_1) gs_X12_133 hd_X12_isTwo rfl rfl (Nat.le_of_ble_eq_true rfl) dX12_clear_1 ⟨Nat.le_of_ble_eq_true rfl, Nat.le_of_ble_eq_true rfl⟩ ⟨Nat.le_of_ble_eq_true rfl, Nat.le_of_ble_eq_true rfl⟩ (fun H locs hW => ?_)
  refine lv_if_ne (tgt := 9) C.x C.b dX12_clear_4 rfl (fun c4 => ?_) (fun c4 => ?_)
  · replace hf := x_in c4 hf
    refine lv_aload_n C.x C.b dX12_clear_9 rfl (lv_at hl 0 rfl) ?_
    replace hf := x_b1 hf; obtain ⟨a10_2, ha10_2, hf⟩ := hf
    refine x_getn C hW fg_X12_9_15 ha10_2 dX12_clear_10 ?_
    refine lv_bipush (v := 12) C.x C.b dX12_clear_13 (by decide) ?_
    refine lv_iload_n C.x C.b dX12_clear_15 rfl (lv_at hl 1 rfl) ?_
    refine lv_iadd C.x C.b dX12_clear_16 ?_
    replace hf := x_b1 hf; obtain ⟨x17_3, hx17_3, hf⟩ := hf
    refine x_iald C hW hx17_3 dX12_clear_17 ?_
    refine lv_istore_n (lv' := [(2, .int _), (0, .ref (E.b + _)), (1, .int _)]) C.x C.b dX12_clear_18 rfl hl (by decide) rfl (fun ls hl => ?_)
    refine lv_aload_n C.x C.b dX12_clear_19 rfl (lv_at hl 1 rfl) ?_
    replace hf := x_b1 hf; obtain ⟨a20_4, ha20_4, hf⟩ := hf
    refine x_getn C hW fg_X12_9_15 ha20_4 dX12_clear_20 ?_
    refine lv_bipush (v := 12) C.x C.b dX12_clear_23 (by decide) ?_
    refine lv_iload_n C.x C.b dX12_clear_25 rfl (lv_at hl 2 rfl) ?_
    refine lv_iadd C.x C.b dX12_clear_26 ?_
    refine lv_iconst (v := 0) C.x C.b dX12_clear_27 (by decide) ?_
    replace hf := x_b1 hf; obtain ⟨M28_5, hM28_5, hf⟩ := hf
    refine x_iast C hW hM28_5 dX12_clear_28 (fun H locs hW => ?_)
    refine lv_iload_n C.x C.b dX12_clear_29 rfl (lv_at hl 0 rfl) ?_
    rw [x_e1 hf, x_e2 hf]
    exact x_iret C hr hW dX12_clear_30
  · replace hf := x_ip c4 hf
    refine lv_iconst (v := (-1)) C.x C.b dX12_clear_7 (by decide) ?_
    rw [x_e1 hf, x_e2 hf]
    exact x_iret C hr hW dX12_clear_8

theorem dX12_plainly_0 : decode cX12_plainly 0 = .ok (.iload_n 1, 1) := by decide +kernel
theorem dX12_plainly_1 : decode cX12_plainly 1 = .ok (.iconst 2, 1) := by decide +kernel
theorem dX12_plainly_2 : decode cX12_plainly 2 = .ok (.if_icmp .ne 12, 3) := by decide +kernel
theorem dX12_plainly_5 : decode cX12_plainly 5 = .ok (.aload_n 0, 1) := by decide +kernel
theorem dX12_plainly_6 : decode cX12_plainly 6 = .ok (.getfield 9, 3) := by decide +kernel
theorem dX12_plainly_9 : decode cX12_plainly 9 = .ok (.iconst 5, 1) := by decide +kernel
theorem dX12_plainly_10 : decode cX12_plainly 10 = .ok (.iaload, 1) := by decide +kernel
theorem dX12_plainly_11 : decode cX12_plainly 11 = .ok (.goto 31, 3) := by decide +kernel
theorem dX12_plainly_14 : decode cX12_plainly 14 = .ok (.iload_n 2, 1) := by decide +kernel
theorem dX12_plainly_15 : decode cX12_plainly 15 = .ok (.ifCond .ne 7, 3) := by decide +kernel
theorem dX12_plainly_18 : decode cX12_plainly 18 = .ok (.iconst 0, 1) := by decide +kernel
theorem dX12_plainly_19 : decode cX12_plainly 19 = .ok (.goto 23, 3) := by decide +kernel
theorem dX12_plainly_22 : decode cX12_plainly 22 = .ok (.iload_n 1, 1) := by decide +kernel
theorem dX12_plainly_23 : decode cX12_plainly 23 = .ok (.iconst 1, 1) := by decide +kernel
theorem dX12_plainly_24 : decode cX12_plainly 24 = .ok (.if_icmp .ne 12, 3) := by decide +kernel
theorem dX12_plainly_27 : decode cX12_plainly 27 = .ok (.aload_n 0, 1) := by decide +kernel
theorem dX12_plainly_28 : decode cX12_plainly 28 = .ok (.getfield 9, 3) := by decide +kernel
theorem dX12_plainly_31 : decode cX12_plainly 31 = .ok (.iconst 5, 1) := by decide +kernel
theorem dX12_plainly_32 : decode cX12_plainly 32 = .ok (.iaload, 1) := by decide +kernel
theorem dX12_plainly_33 : decode cX12_plainly 33 = .ok (.goto 9, 3) := by decide +kernel
theorem dX12_plainly_36 : decode cX12_plainly 36 = .ok (.aload_n 0, 1) := by decide +kernel
theorem dX12_plainly_37 : decode cX12_plainly 37 = .ok (.getfield 9, 3) := by decide +kernel
theorem dX12_plainly_40 : decode cX12_plainly 40 = .ok (.iconst 4, 1) := by decide +kernel
theorem dX12_plainly_41 : decode cX12_plainly 41 = .ok (.iaload, 1) := by decide +kernel
theorem dX12_plainly_42 : decode cX12_plainly 42 = .ok (.ireturn, 1) := by decide +kernel
def fX12_plainly (M : Mm) (o : Nat) (p1 : Int32) (p2 : Int32) : Option Int32 :=
  if p1 = 2 then
    B1 (rdN M o 15 0) fun a6_5 =>
    B1 (alI M a6_5 5) fun x10_6 =>
    some x10_6
  else
    if p2 = 0 then
      some 0
    else
      if p1 = 1 then
        B1 (rdN M o 15 0) fun a28_3 =>
        B1 (alI M a28_3 5) fun x32_4 =>
        some x32_4
      else
        B1 (rdN M o 15 0) fun a37_1 =>
        B1 (alI M a37_1 4) fun x41_2 =>
        some x41_2
set_option maxRecDepth 100000 in
set_option maxHeartbeats 4000000 in
theorem qX12_plainly (l : Launch) (E : Ev) {M : Mm} {o : Nat} {p1 : Int32} {p2 : Int32} {rz : Int32} (hf : fX12_plainly M o p1 p2 = some rz) : Ct l E yX12_plainly cX12_plainly 3 (some .int) 0 0 0 0 [.ref (E.b + o), .int p1, .int p2] M (some (.int rz)) M := by
  refine ct_of (by decide +kernel) (Nat.le_of_ble_eq_true rfl) fun p e s m args below meth c C hr hin hW ls hl => ?_
  have hl : lv_has ls 3 [(0, .ref (E.b + o)), (1, .int p1), (2, .int p2)] := hl
  unfold fX12_plainly at hf
  refine lv_iload_n C.x C.b dX12_plainly_0 rfl (lv_at hl 1 rfl) ?_
  refine lv_iconst (v := 2) C.x C.b dX12_plainly_1 (by decide) ?_
  refine lv_icmp_ne (tgt := 14) C.x C.b dX12_plainly_2 rfl (fun c2 => ?_) (fun c2 => ?_)
  · replace hf := x_in c2 hf
    refine lv_iload_n C.x C.b dX12_plainly_14 rfl (lv_at hl 2 rfl) ?_
    refine lv_if_ne (tgt := 22) C.x C.b dX12_plainly_15 rfl (fun c15 => ?_) (fun c15 => ?_)
    · replace hf := x_in c15 hf
      refine lv_iload_n C.x C.b dX12_plainly_22 rfl (lv_at hl 1 rfl) ?_
      refine lv_iconst (v := 1) C.x C.b dX12_plainly_23 (by decide) ?_
      refine lv_icmp_ne (tgt := 36) C.x C.b dX12_plainly_24 rfl (fun c24 => ?_) (fun c24 => ?_)
      · replace hf := x_in c24 hf
        refine lv_aload_n C.x C.b dX12_plainly_36 rfl (lv_at hl 0 rfl) ?_
        replace hf := x_b1 hf; obtain ⟨a37_1, ha37_1, hf⟩ := hf
        refine x_getn C hW fg_X12_9_15 ha37_1 dX12_plainly_37 ?_
        refine lv_iconst (v := 4) C.x C.b dX12_plainly_40 (by decide) ?_
        replace hf := x_b1 hf; obtain ⟨x41_2, hx41_2, hf⟩ := hf
        refine x_iald C hW hx41_2 dX12_plainly_41 ?_
        rw [x_e0 hf]
        exact x_iret C hr hW dX12_plainly_42
      · replace hf := x_ip c24 hf
        refine lv_aload_n C.x C.b dX12_plainly_27 rfl (lv_at hl 0 rfl) ?_
        replace hf := x_b1 hf; obtain ⟨a28_3, ha28_3, hf⟩ := hf
        refine x_getn C hW fg_X12_9_15 ha28_3 dX12_plainly_28 ?_
        refine lv_iconst (v := 5) C.x C.b dX12_plainly_31 (by decide) ?_
        replace hf := x_b1 hf; obtain ⟨x32_4, hx32_4, hf⟩ := hf
        refine x_iald C hW hx32_4 dX12_plainly_32 ?_
        refine lv_goto (tgt := 42) C.x C.b dX12_plainly_33 rfl ?_
        rw [x_e0 hf]
        exact x_iret C hr hW dX12_plainly_42
    · replace hf := x_ip c15 hf
      refine lv_iconst (v := 0) C.x C.b dX12_plainly_18 (by decide) ?_
      refine lv_goto (tgt := 42) C.x C.b dX12_plainly_19 rfl ?_
      rw [x_e0 hf]
      exact x_iret C hr hW dX12_plainly_42
  · replace hf := x_ip c2 hf
    refine lv_aload_n C.x C.b dX12_plainly_5 rfl (lv_at hl 0 rfl) ?_
    replace hf := x_b1 hf; obtain ⟨a6_5, ha6_5, hf⟩ := hf
    refine x_getn C hW fg_X12_9_15 ha6_5 dX12_plainly_6 ?_
    refine lv_iconst (v := 5) C.x C.b dX12_plainly_9 (by decide) ?_
    replace hf := x_b1 hf; obtain ⟨x10_6, hx10_6, hf⟩ := hf
    refine x_iald C hW hx10_6 dX12_plainly_10 ?_
    refine lv_goto (tgt := 42) C.x C.b dX12_plainly_11 rfl ?_
    rw [x_e0 hf]
    exact x_iret C hr hW dX12_plainly_42

theorem dX12_runs_0 : decode cX12_runs 0 = .ok (.aload_n 0, 1) := by decide +kernel
theorem dX12_runs_1 : decode cX12_runs 1 = .ok (.iload_n 2, 1) := by decide +kernel
theorem dX12_runs_2 : decode cX12_runs 2 = .ok (.iload_n 3, 1) := by decide +kernel
theorem dX12_runs_3 : decode cX12_runs 3 = .ok (.invokevirtual 153, 3) := by decide +kernel
theorem dX12_runs_6 : decode cX12_runs 6 = .ok (.istore 4, 2) := by decide +kernel
theorem dX12_runs_8 : decode cX12_runs 8 = .ok (.aload_n 0, 1) := by decide +kernel
theorem dX12_runs_9 : decode cX12_runs 9 = .ok (.iload_n 1, 1) := by decide +kernel
theorem dX12_runs_10 : decode cX12_runs 10 = .ok (.iconst 1, 1) := by decide +kernel
theorem dX12_runs_11 : decode cX12_runs 11 = .ok (.invokevirtual 67, 3) := by decide +kernel
theorem dX12_runs_14 : decode cX12_runs 14 = .ok (.istore 5, 2) := by decide +kernel
theorem dX12_runs_16 : decode cX12_runs 16 = .ok (.aload_n 0, 1) := by decide +kernel
theorem dX12_runs_17 : decode cX12_runs 17 = .ok (.iload_n 1, 1) := by decide +kernel
theorem dX12_runs_18 : decode cX12_runs 18 = .ok (.iconst 0, 1) := by decide +kernel
theorem dX12_runs_19 : decode cX12_runs 19 = .ok (.invokevirtual 67, 3) := by decide +kernel
theorem dX12_runs_22 : decode cX12_runs 22 = .ok (.tableswitch 64 1 5 #[34, 39, 34, 41, 49], 34) := by decide +kernel
theorem dX12_runs_56 : decode cX12_runs 56 = .ok (.iconst 2, 1) := by decide +kernel
theorem dX12_runs_57 : decode cX12_runs 57 = .ok (.iload 4, 2) := by decide +kernel
theorem dX12_runs_59 : decode cX12_runs 59 = .ok (.imul, 1) := by decide +kernel
theorem dX12_runs_60 : decode cX12_runs 60 = .ok (.ireturn, 1) := by decide +kernel
theorem dX12_runs_61 : decode cX12_runs 61 = .ok (.iconst 0, 1) := by decide +kernel
theorem dX12_runs_62 : decode cX12_runs 62 = .ok (.ireturn, 1) := by decide +kernel
theorem dX12_runs_63 : decode cX12_runs 63 = .ok (.iload 4, 2) := by decide +kernel
theorem dX12_runs_65 : decode cX12_runs 65 = .ok (.iload 5, 2) := by decide +kernel
theorem dX12_runs_67 : decode cX12_runs 67 = .ok (.invokestatic 157, 3) := by decide +kernel
theorem dX12_runs_70 : decode cX12_runs 70 = .ok (.ireturn, 1) := by decide +kernel
theorem dX12_runs_71 : decode cX12_runs 71 = .ok (.iload 4, 2) := by decide +kernel
theorem dX12_runs_73 : decode cX12_runs 73 = .ok (.ifCond .ne 7, 3) := by decide +kernel
theorem dX12_runs_76 : decode cX12_runs 76 = .ok (.iconst 0, 1) := by decide +kernel
theorem dX12_runs_77 : decode cX12_runs 77 = .ok (.goto 8, 3) := by decide +kernel
theorem dX12_runs_80 : decode cX12_runs 80 = .ok (.iload 4, 2) := by decide +kernel
theorem dX12_runs_82 : decode cX12_runs 82 = .ok (.iload 5, 2) := by decide +kernel
theorem dX12_runs_84 : decode cX12_runs 84 = .ok (.iadd, 1) := by decide +kernel
theorem dX12_runs_85 : decode cX12_runs 85 = .ok (.ireturn, 1) := by decide +kernel
theorem dX12_runs_86 : decode cX12_runs 86 = .ok (.iload 4, 2) := by decide +kernel
theorem dX12_runs_88 : decode cX12_runs 88 = .ok (.ireturn, 1) := by decide +kernel
theorem hd_X12_plainly : yX12_plainly.cls ≠ "java/lang/invoke/MethodHandle" ∧ yX12_plainly.cls ≠ "java/lang/invoke/VarHandle" ∧ (parseMethodDescriptor yX12_plainly.desc).map (fun d => d.parameters.length) = some 2 := by decide +kernel
theorem gv_X12_153 : GoodIn gT (wsV "NylonLadderModel" 153 "NylonLadderModel" yX12_plainly (Cond.code yX12_plainly cX12_plainly 3 (some .int) :: gT)) := good_V T_7_69 T_7_71 TS_53 T_1_10 T_7_72
def fX12_runs (M : Mm) (o : Nat) (p1 : Int32) (p2 : Int32) (p3 : Int32) : Option Int32 :=
  B1 (gk M o 15) fun _ =>
  B1 (fX12_plainly M o p2 p3) fun x3_2 =>
  B1 (gk M o 15) fun _ =>
  B1 (fX12_its M o p1 1) fun x11_4 =>
  B1 (gk M o 15) fun _ =>
  B1 (fX12_its M o p1 0) fun x19_6 =>
  if x19_6 = 1 then
    some (2 * x3_2)
  else
    if x19_6 = 2 then
      some 0
    else
      if x19_6 = 3 then
        some (2 * x3_2)
      else
        if x19_6 = 4 then
          some (mnI x3_2 x11_4)
        else
          if x19_6 = 5 then
            if x3_2 = 0 then
              some 0
            else
              some (x3_2 + x11_4)
          else
            some x3_2
set_option maxRecDepth 100000 in
set_option maxHeartbeats 4000000 in
theorem qX12_runs (l : Launch) (E : Ev) {M : Mm} {o : Nat} {p1 : Int32} {p2 : Int32} {p3 : Int32} {rz : Int32} (hf : fX12_runs M o p1 p2 p3 = some rz) : Ct l E yX12_runs cX12_runs 6 (some .int) 1 22 0 0 [.ref (E.b + o), .int p1, .int p2, .int p3] M (some (.int rz)) M := by
  refine ct_of (by decide +kernel) (Nat.le_of_ble_eq_true rfl) fun p e s m args below meth c C hr hin hW ls hl => ?_
  have hl : lv_has ls 6 [(0, .ref (E.b + o)), (1, .int p1), (2, .int p2), (3, .int p3)] := hl
  unfold fX12_runs at hf
  refine lv_aload_n C.x C.b dX12_runs_0 rfl (lv_at hl 0 rfl) ?_
  refine lv_iload_n C.x C.b dX12_runs_1 rfl (lv_at hl 2 rfl) ?_
  refine lv_iload_n C.x C.b dX12_runs_2 rfl (lv_at hl 3 rfl) ?_
  replace hf := x_b1 hf; obtain ⟨_, hk3_1, hf⟩ := hf
  replace hf := x_b1 hf; obtain ⟨x3_2, hx3_2, hf⟩ := hf
  refine x_callV (As := [.int p2, .int p3]) (a := o) (rest := []) C hW hl (qX12_plainly l E hx3_2) (x_gk hk3_1) (by decide) (by decide) rfl gv_X12_153 ⟨rfl, hd_X12_plainly⟩ rfl rfl (Nat.le_of_ble_eq_true rfl) dX12_runs_3 ⟨Nat.le_of_ble_eq_true rfl, Nat.le_of_ble_eq_true rfl⟩ ⟨Nat.le_of_ble_eq_true rfl, Nat.le_of_ble_eq_true rfl⟩ (fun H locs hW => ?_)
  refine lv_istore (lv' := [(4, .int _), (0, .ref (E.b + _)), (1, .int _), (2, .int _), (3, .int _)]) C.x C.b dX12_runs_6 hl (by decide) rfl (fun ls hl => ?_)
  refine lv_aload_n C.x C.b dX12_runs_8 rfl (lv_at hl 1 rfl) ?_
  refine lv_iload_n C.x C.b dX12_runs_9 rfl (lv_at hl 2 rfl) ?_
  refine lv_iconst (v := 1) C.x C.b dX12_runs_10 (by decide) ?_
  replace hf := x_b1 hf; obtain ⟨_, hk11_3, hf⟩ := hf
  replace hf := x_b1 hf; obtain ⟨x11_4, hx11_4, hf⟩ := hf
  refine x_callV (As := [.int p1, .int 1]) (a := o) (rest := []) C hW hl (qX12_its l E hx11_4) (x_gk hk11_3) (by decide) (by decide) rfl gv_X12_67 ⟨rfl, hd_X12_its⟩ rfl rfl (Nat.le_of_ble_eq_true rfl) dX12_runs_11 ⟨Nat.le_of_ble_eq_true rfl, Nat.le_of_ble_eq_true rfl⟩ ⟨Nat.le_of_ble_eq_true rfl, Nat.le_of_ble_eq_true rfl⟩ (fun H locs hW => ?_)
  refine lv_istore (lv' := [(5, .int _), (4, .int _), (0, .ref (E.b + _)), (1, .int _), (2, .int _), (3, .int _)]) C.x C.b dX12_runs_14 hl (by decide) rfl (fun ls hl => ?_)
  refine lv_aload_n C.x C.b dX12_runs_16 rfl (lv_at hl 2 rfl) ?_
  refine lv_iload_n C.x C.b dX12_runs_17 rfl (lv_at hl 3 rfl) ?_
  refine lv_iconst (v := 0) C.x C.b dX12_runs_18 (by decide) ?_
  replace hf := x_b1 hf; obtain ⟨_, hk19_5, hf⟩ := hf
  replace hf := x_b1 hf; obtain ⟨x19_6, hx19_6, hf⟩ := hf
  refine x_callV (As := [.int p1, .int 0]) (a := o) (rest := []) C hW hl (qX12_its l E hx19_6) (x_gk hk19_5) (by decide) (by decide) rfl gv_X12_67 ⟨rfl, hd_X12_its⟩ rfl rfl (Nat.le_of_ble_eq_true rfl) dX12_runs_19 ⟨Nat.le_of_ble_eq_true rfl, Nat.le_of_ble_eq_true rfl⟩ ⟨Nat.le_of_ble_eq_true rfl, Nat.le_of_ble_eq_true rfl⟩ (fun H locs hW => ?_)
  by_cases s22_1 : x19_6 = 1
  · replace hf := x_ip s22_1 hf
    refine lv_tableIn (off := 34) (tgt := 56) C.x C.b dX12_runs_22 (by rw [s22_1]; decide) (by rw [s22_1]; decide) (by rw [s22_1]; rfl) rfl ?_
    refine lv_iconst (v := 2) C.x C.b dX12_runs_56 (by decide) ?_
    refine lv_iload C.x C.b dX12_runs_57 (lv_at hl 1 rfl) ?_
    refine lv_imul C.x C.b dX12_runs_59 ?_
    rw [x_e0 hf]
    exact x_iret C hr hW dX12_runs_60
  · replace hf := x_in s22_1 hf
    by_cases s22_2 : x19_6 = 2
    · replace hf := x_ip s22_2 hf
      refine lv_tableIn (off := 39) (tgt := 61) C.x C.b dX12_runs_22 (by rw [s22_2]; decide) (by rw [s22_2]; decide) (by rw [s22_2]; rfl) rfl ?_
      refine lv_iconst (v := 0) C.x C.b dX12_runs_61 (by decide) ?_
      rw [x_e0 hf]
      exact x_iret C hr hW dX12_runs_62
    · replace hf := x_in s22_2 hf
      by_cases s22_3 : x19_6 = 3
      · replace hf := x_ip s22_3 hf
        refine lv_tableIn (off := 34) (tgt := 56) C.x C.b dX12_runs_22 (by rw [s22_3]; decide) (by rw [s22_3]; decide) (by rw [s22_3]; rfl) rfl ?_
        refine lv_iconst (v := 2) C.x C.b dX12_runs_56 (by decide) ?_
        refine lv_iload C.x C.b dX12_runs_57 (lv_at hl 1 rfl) ?_
        refine lv_imul C.x C.b dX12_runs_59 ?_
        rw [x_e0 hf]
        exact x_iret C hr hW dX12_runs_60
      · replace hf := x_in s22_3 hf
        by_cases s22_4 : x19_6 = 4
        · replace hf := x_ip s22_4 hf
          refine lv_tableIn (off := 41) (tgt := 63) C.x C.b dX12_runs_22 (by rw [s22_4]; decide) (by rw [s22_4]; decide) (by rw [s22_4]; rfl) rfl ?_
          refine lv_iload C.x C.b dX12_runs_63 (lv_at hl 1 rfl) ?_
          refine lv_iload C.x C.b dX12_runs_65 (lv_at hl 0 rfl) ?_
          refine x_mmin C hl T_7_73 T_3_160 T_1_15 T_3_161 (Nat.le_of_ble_eq_true rfl) (Nat.le_of_ble_eq_true rfl) ⟨Nat.le_of_ble_eq_true rfl, Nat.le_of_ble_eq_true rfl⟩ dX12_runs_67 ?_
          rw [x_e0 hf]
          exact x_iret C hr hW dX12_runs_70
        · replace hf := x_in s22_4 hf
          by_cases s22_5 : x19_6 = 5
          · replace hf := x_ip s22_5 hf
            refine lv_tableIn (off := 49) (tgt := 71) C.x C.b dX12_runs_22 (by rw [s22_5]; decide) (by rw [s22_5]; decide) (by rw [s22_5]; rfl) rfl ?_
            refine lv_iload C.x C.b dX12_runs_71 (lv_at hl 1 rfl) ?_
            refine lv_if_ne (tgt := 80) C.x C.b dX12_runs_73 rfl (fun c73 => ?_) (fun c73 => ?_)
            · replace hf := x_in c73 hf
              refine lv_iload C.x C.b dX12_runs_80 (lv_at hl 1 rfl) ?_
              refine lv_iload C.x C.b dX12_runs_82 (lv_at hl 0 rfl) ?_
              refine lv_iadd C.x C.b dX12_runs_84 ?_
              rw [x_e0 hf]
              exact x_iret C hr hW dX12_runs_85
            · replace hf := x_ip c73 hf
              refine lv_iconst (v := 0) C.x C.b dX12_runs_76 (by decide) ?_
              refine lv_goto (tgt := 85) C.x C.b dX12_runs_77 rfl ?_
              rw [x_e0 hf]
              exact x_iret C hr hW dX12_runs_85
          · replace hf := x_in s22_5 hf
            have s22_1_ := lv_neT (a := 1) s22_1 rfl
            have s22_2_ := lv_neT (a := 2) s22_2 rfl
            have s22_3_ := lv_neT (a := 3) s22_3 rfl
            have s22_4_ := lv_neT (a := 4) s22_4 rfl
            have s22_5_ := lv_neT (a := 5) s22_5 rfl
            refine lv_tableOut (tgt := 86) C.x C.b dX12_runs_22 (by omega) rfl ?_
            refine lv_iload C.x C.b dX12_runs_86 (lv_at hl 1 rfl) ?_
            rw [x_e0 hf]
            exact x_iret C hr hW dX12_runs_88

theorem dX12_lowestBy_0 : decode cX12_lowestBy 0 = .ok (.aload_n 0, 1) := by decide +kernel
theorem dX12_lowestBy_1 : decode cX12_lowestBy 1 = .ok (.iload_n 1, 1) := by decide +kernel
theorem dX12_lowestBy_2 : decode cX12_lowestBy 2 = .ok (.bipush 6, 2) := by decide +kernel
theorem dX12_lowestBy_4 : decode cX12_lowestBy 4 = .ok (.invokevirtual 67, 3) := by decide +kernel
theorem dX12_lowestBy_7 : decode cX12_lowestBy 7 = .ok (.istore_n 3, 1) := by decide +kernel
theorem dX12_lowestBy_8 : decode cX12_lowestBy 8 = .ok (.iconst 0, 1) := by decide +kernel
theorem dX12_lowestBy_9 : decode cX12_lowestBy 9 = .ok (.iload_n 3, 1) := by decide +kernel
theorem dX12_lowestBy_10 : decode cX12_lowestBy 10 = .ok (.aload_n 0, 1) := by decide +kernel
theorem dX12_lowestBy_11 : decode cX12_lowestBy 11 = .ok (.iload_n 1, 1) := by decide +kernel
theorem dX12_lowestBy_12 : decode cX12_lowestBy 12 = .ok (.iload_n 2, 1) := by decide +kernel
theorem dX12_lowestBy_13 : decode cX12_lowestBy 13 = .ok (.iconst 1, 1) := by decide +kernel
theorem dX12_lowestBy_14 : decode cX12_lowestBy 14 = .ok (.invokevirtual 162, 3) := by decide +kernel
theorem dX12_lowestBy_17 : decode cX12_lowestBy 17 = .ok (.isub, 1) := by decide +kernel
theorem dX12_lowestBy_18 : decode cX12_lowestBy 18 = .ok (.invokestatic 166, 3) := by decide +kernel
theorem dX12_lowestBy_21 : decode cX12_lowestBy 21 = .ok (.istore 4, 2) := by decide +kernel
theorem dX12_lowestBy_23 : decode cX12_lowestBy 23 = .ok (.iload_n 3, 1) := by decide +kernel
theorem dX12_lowestBy_24 : decode cX12_lowestBy 24 = .ok (.ifCond .ne 7, 3) := by decide +kernel
theorem dX12_lowestBy_27 : decode cX12_lowestBy 27 = .ok (.iconst 0, 1) := by decide +kernel
theorem dX12_lowestBy_28 : decode cX12_lowestBy 28 = .ok (.goto 12, 3) := by decide +kernel
theorem dX12_lowestBy_31 : decode cX12_lowestBy 31 = .ok (.iload_n 3, 1) := by decide +kernel
theorem dX12_lowestBy_32 : decode cX12_lowestBy 32 = .ok (.iconst 1, 1) := by decide +kernel
theorem dX12_lowestBy_33 : decode cX12_lowestBy 33 = .ok (.isub, 1) := by decide +kernel
theorem dX12_lowestBy_34 : decode cX12_lowestBy 34 = .ok (.bipush 10, 2) := by decide +kernel
theorem dX12_lowestBy_36 : decode cX12_lowestBy 36 = .ok (.idiv, 1) := by decide +kernel
theorem dX12_lowestBy_37 : decode cX12_lowestBy 37 = .ok (.bipush 10, 2) := by decide +kernel
theorem dX12_lowestBy_39 : decode cX12_lowestBy 39 = .ok (.imul, 1) := by decide +kernel
theorem dX12_lowestBy_40 : decode cX12_lowestBy 40 = .ok (.istore 5, 2) := by decide +kernel
theorem dX12_lowestBy_42 : decode cX12_lowestBy 42 = .ok (.aload_n 0, 1) := by decide +kernel
theorem dX12_lowestBy_43 : decode cX12_lowestBy 43 = .ok (.iload_n 1, 1) := by decide +kernel
theorem dX12_lowestBy_44 : decode cX12_lowestBy 44 = .ok (.iconst 0, 1) := by decide +kernel
theorem dX12_lowestBy_45 : decode cX12_lowestBy 45 = .ok (.invokevirtual 67, 3) := by decide +kernel
theorem dX12_lowestBy_48 : decode cX12_lowestBy 48 = .ok (.iconst 3, 1) := by decide +kernel
theorem dX12_lowestBy_49 : decode cX12_lowestBy 49 = .ok (.if_icmp .ne 13, 3) := by decide +kernel
theorem dX12_lowestBy_52 : decode cX12_lowestBy 52 = .ok (.iload 4, 2) := by decide +kernel
theorem dX12_lowestBy_54 : decode cX12_lowestBy 54 = .ok (.iload 5, 2) := by decide +kernel
theorem dX12_lowestBy_56 : decode cX12_lowestBy 56 = .ok (.invokestatic 166, 3) := by decide +kernel
theorem dX12_lowestBy_59 : decode cX12_lowestBy 59 = .ok (.goto 5, 3) := by decide +kernel
theorem dX12_lowestBy_62 : decode cX12_lowestBy 62 = .ok (.iload 4, 2) := by decide +kernel
theorem dX12_lowestBy_64 : decode cX12_lowestBy 64 = .ok (.ireturn, 1) := by decide +kernel
theorem hd_X12_runs : yX12_runs.cls ≠ "java/lang/invoke/MethodHandle" ∧ yX12_runs.cls ≠ "java/lang/invoke/VarHandle" ∧ (parseMethodDescriptor yX12_runs.desc).map (fun d => d.parameters.length) = some 3 := by decide +kernel
theorem gv_X12_162 : GoodIn gT (wsV "NylonLadderModel" 162 "NylonLadderModel" yX12_runs (Cond.code yX12_runs cX12_runs 6 (some .int) :: gT)) := good_V T_7_65 T_7_67 TS_52 T_1_10 T_7_68
def fX12_lowestBy (M : Mm) (o : Nat) (p1 : Int32) (p2 : Int32) : Option Int32 :=
  B1 (gk M o 15) fun _ =>
  B1 (fX12_its M o p1 6) fun x4_2 =>
  B1 (gk M o 15) fun _ =>
  B1 (fX12_runs M o p1 p2 1) fun x14_4 =>
  if x4_2 = 0 then
    B1 (gk M o 15) fun _ =>
    B1 (fX12_its M o p1 0) fun x45_8 =>
    if x45_8 = 3 then
      some (mxI (mxI 0 (x4_2 - x14_4)) 0)
    else
      some (mxI 0 (x4_2 - x14_4))
  else
    B1 (gk M o 15) fun _ =>
    B1 (fX12_its M o p1 0) fun x45_6 =>
    if x45_6 = 3 then
      some (mxI (mxI 0 (x4_2 - x14_4)) (((x4_2 - 1) / 10) * 10))
    else
      some (mxI 0 (x4_2 - x14_4))
set_option maxRecDepth 100000 in
set_option maxHeartbeats 4000000 in
theorem qX12_lowestBy (l : Launch) (E : Ev) {M : Mm} {o : Nat} {p1 : Int32} {p2 : Int32} {rz : Int32} (hf : fX12_lowestBy M o p1 p2 = some rz) : Ct l E yX12_lowestBy cX12_lowestBy 6 (some .int) 2 47 0 0 [.ref (E.b + o), .int p1, .int p2] M (some (.int rz)) M := by
  refine ct_of (by decide +kernel) (Nat.le_of_ble_eq_true rfl) fun p e s m args below meth c C hr hin hW ls hl => ?_
  have hl : lv_has ls 6 [(0, .ref (E.b + o)), (1, .int p1), (2, .int p2)] := hl
  unfold fX12_lowestBy at hf
  refine lv_aload_n C.x C.b dX12_lowestBy_0 rfl (lv_at hl 0 rfl) ?_
  refine lv_iload_n C.x C.b dX12_lowestBy_1 rfl (lv_at hl 1 rfl) ?_
  refine lv_bipush (v := 6) C.x C.b dX12_lowestBy_2 (by decide) ?_
  replace hf := x_b1 hf; obtain ⟨_, hk4_1, hf⟩ := hf
  replace hf := x_b1 hf; obtain ⟨x4_2, hx4_2, hf⟩ := hf
  refine x_callV (As := [.int p1, .int 6]) (a := o) (rest := []) C hW hl (qX12_its l E hx4_2) (x_gk hk4_1) (by decide) (by decide) rfl gv_X12_67 ⟨rfl, hd_X12_its⟩ rfl rfl (Nat.le_of_ble_eq_true rfl) dX12_lowestBy_4 ⟨Nat.le_of_ble_eq_true rfl, Nat.le_of_ble_eq_true rfl⟩ ⟨Nat.le_of_ble_eq_true rfl, Nat.le_of_ble_eq_true rfl⟩ (fun H locs hW => ?_)
  refine lv_istore_n (lv' := [(3, .int _), (0, .ref (E.b + _)), (1, .int _), (2, .int _)]) C.x C.b dX12_lowestBy_7 rfl hl (by decide) rfl (fun ls hl => ?_)
  refine lv_iconst (v := 0) C.x C.b dX12_lowestBy_8 (by decide) ?_
  refine lv_iload_n C.x C.b dX12_lowestBy_9 rfl (lv_at hl 0 rfl) ?_
  refine lv_aload_n C.x C.b dX12_lowestBy_10 rfl (lv_at hl 1 rfl) ?_
  refine lv_iload_n C.x C.b dX12_lowestBy_11 rfl (lv_at hl 2 rfl) ?_
  refine lv_iload_n C.x C.b dX12_lowestBy_12 rfl (lv_at hl 3 rfl) ?_
  refine lv_iconst (v := 1) C.x C.b dX12_lowestBy_13 (by decide) ?_
  replace hf := x_b1 hf; obtain ⟨_, hk14_3, hf⟩ := hf
  replace hf := x_b1 hf; obtain ⟨x14_4, hx14_4, hf⟩ := hf
  refine x_callV (As := [.int p1, .int p2, .int 1]) (a := o) (rest := [.int x4_2, .int 0]) C hW hl (qX12_runs l E hx14_4) (x_gk hk14_3) (by decide) (by decide) rfl gv_X12_162 ⟨rfl, hd_X12_runs⟩ rfl rfl (Nat.le_of_ble_eq_true rfl) dX12_lowestBy_14 ⟨Nat.le_of_ble_eq_true rfl, Nat.le_of_ble_eq_true rfl⟩ ⟨Nat.le_of_ble_eq_true rfl, Nat.le_of_ble_eq_true rfl⟩ (fun H locs hW => ?_)
  refine lv_isub C.x C.b dX12_lowestBy_17 ?_
  refine x_mmax C hl T_7_52 T_3_145 T_1_15 T_3_146 (Nat.le_of_ble_eq_true rfl) (Nat.le_of_ble_eq_true rfl) ⟨Nat.le_of_ble_eq_true rfl, Nat.le_of_ble_eq_true rfl⟩ dX12_lowestBy_18 ?_
  refine lv_istore (lv' := [(4, .int _), (3, .int _), (0, .ref (E.b + _)), (1, .int _), (2, .int _)]) C.x C.b dX12_lowestBy_21 hl (by decide) rfl (fun ls hl => ?_)
  refine lv_iload_n C.x C.b dX12_lowestBy_23 rfl (lv_at hl 1 rfl) ?_
  refine lv_if_ne (tgt := 31) C.x C.b dX12_lowestBy_24 rfl (fun c24 => ?_) (fun c24 => ?_)
  · replace hf := x_in c24 hf
    refine lv_iload_n C.x C.b dX12_lowestBy_31 rfl (lv_at hl 1 rfl) ?_
    refine lv_iconst (v := 1) C.x C.b dX12_lowestBy_32 (by decide) ?_
    refine lv_isub C.x C.b dX12_lowestBy_33 ?_
    refine lv_bipush (v := 10) C.x C.b dX12_lowestBy_34 (by decide) ?_
    refine lv_idiv C.x C.b dX12_lowestBy_36 (by decide) ?_
    refine lv_bipush (v := 10) C.x C.b dX12_lowestBy_37 (by decide) ?_
    refine lv_imul C.x C.b dX12_lowestBy_39 ?_
    refine lv_istore (lv' := [(5, .int _), (4, .int _), (3, .int _), (0, .ref (E.b + _)), (1, .int _), (2, .int _)]) C.x C.b dX12_lowestBy_40 hl (by decide) rfl (fun ls hl => ?_)
    refine lv_aload_n C.x C.b dX12_lowestBy_42 rfl (lv_at hl 3 rfl) ?_
    refine lv_iload_n C.x C.b dX12_lowestBy_43 rfl (lv_at hl 4 rfl) ?_
    refine lv_iconst (v := 0) C.x C.b dX12_lowestBy_44 (by decide) ?_
    replace hf := x_b1 hf; obtain ⟨_, hk45_5, hf⟩ := hf
    replace hf := x_b1 hf; obtain ⟨x45_6, hx45_6, hf⟩ := hf
    refine x_callV (As := [.int p1, .int 0]) (a := o) (rest := []) C hW hl (qX12_its l E hx45_6) (x_gk hk45_5) (by decide) (by decide) rfl gv_X12_67 ⟨rfl, hd_X12_its⟩ rfl rfl (Nat.le_of_ble_eq_true rfl) dX12_lowestBy_45 ⟨Nat.le_of_ble_eq_true rfl, Nat.le_of_ble_eq_true rfl⟩ ⟨Nat.le_of_ble_eq_true rfl, Nat.le_of_ble_eq_true rfl⟩ (fun H locs hW => ?_)
    refine lv_iconst (v := 3) C.x C.b dX12_lowestBy_48 (by decide) ?_
    refine lv_icmp_ne (tgt := 62) C.x C.b dX12_lowestBy_49 rfl (fun c49 => ?_) (fun c49 => ?_)
    · replace hf := x_in c49 hf
      refine lv_iload C.x C.b dX12_lowestBy_62 (lv_at hl 1 rfl) ?_
      rw [x_e0 hf]
      exact x_iret C hr hW dX12_lowestBy_64
    · replace hf := x_ip c49 hf
      refine lv_iload C.x C.b dX12_lowestBy_52 (lv_at hl 1 rfl) ?_
      refine lv_iload C.x C.b dX12_lowestBy_54 (lv_at hl 0 rfl) ?_
      refine x_mmax C hl T_7_52 T_3_145 T_1_15 T_3_146 (Nat.le_of_ble_eq_true rfl) (Nat.le_of_ble_eq_true rfl) ⟨Nat.le_of_ble_eq_true rfl, Nat.le_of_ble_eq_true rfl⟩ dX12_lowestBy_56 ?_
      refine lv_goto (tgt := 64) C.x C.b dX12_lowestBy_59 rfl ?_
      rw [x_e0 hf]
      exact x_iret C hr hW dX12_lowestBy_64
  · replace hf := x_ip c24 hf
    refine lv_iconst (v := 0) C.x C.b dX12_lowestBy_27 (by decide) ?_
    refine lv_goto (tgt := 40) C.x C.b dX12_lowestBy_28 rfl ?_
    refine lv_istore (lv' := [(5, .int _), (4, .int _), (3, .int _), (0, .ref (E.b + _)), (1, .int _), (2, .int _)]) C.x C.b dX12_lowestBy_40 hl (by decide) rfl (fun ls hl => ?_)
    refine lv_aload_n C.x C.b dX12_lowestBy_42 rfl (lv_at hl 3 rfl) ?_
    refine lv_iload_n C.x C.b dX12_lowestBy_43 rfl (lv_at hl 4 rfl) ?_
    refine lv_iconst (v := 0) C.x C.b dX12_lowestBy_44 (by decide) ?_
    replace hf := x_b1 hf; obtain ⟨_, hk45_7, hf⟩ := hf
    replace hf := x_b1 hf; obtain ⟨x45_8, hx45_8, hf⟩ := hf
    refine x_callV (As := [.int p1, .int 0]) (a := o) (rest := []) C hW hl (qX12_its l E hx45_8) (x_gk hk45_7) (by decide) (by decide) rfl gv_X12_67 ⟨rfl, hd_X12_its⟩ rfl rfl (Nat.le_of_ble_eq_true rfl) dX12_lowestBy_45 ⟨Nat.le_of_ble_eq_true rfl, Nat.le_of_ble_eq_true rfl⟩ ⟨Nat.le_of_ble_eq_true rfl, Nat.le_of_ble_eq_true rfl⟩ (fun H locs hW => ?_)
    refine lv_iconst (v := 3) C.x C.b dX12_lowestBy_48 (by decide) ?_
    refine lv_icmp_ne (tgt := 62) C.x C.b dX12_lowestBy_49 rfl (fun c49 => ?_) (fun c49 => ?_)
    · replace hf := x_in c49 hf
      refine lv_iload C.x C.b dX12_lowestBy_62 (lv_at hl 1 rfl) ?_
      rw [x_e0 hf]
      exact x_iret C hr hW dX12_lowestBy_64
    · replace hf := x_ip c49 hf
      refine lv_iload C.x C.b dX12_lowestBy_52 (lv_at hl 1 rfl) ?_
      refine lv_iload C.x C.b dX12_lowestBy_54 (lv_at hl 0 rfl) ?_
      refine x_mmax C hl T_7_52 T_3_145 T_1_15 T_3_146 (Nat.le_of_ble_eq_true rfl) (Nat.le_of_ble_eq_true rfl) ⟨Nat.le_of_ble_eq_true rfl, Nat.le_of_ble_eq_true rfl⟩ dX12_lowestBy_56 ?_
      refine lv_goto (tgt := 64) C.x C.b dX12_lowestBy_59 rfl ?_
      rw [x_e0 hf]
      exact x_iret C hr hW dX12_lowestBy_64

theorem dX12_highestBy_0 : decode cX12_highestBy 0 = .ok (.aload_n 0, 1) := by decide +kernel
theorem dX12_highestBy_1 : decode cX12_highestBy 1 = .ok (.iload_n 1, 1) := by decide +kernel
theorem dX12_highestBy_2 : decode cX12_highestBy 2 = .ok (.bipush 7, 2) := by decide +kernel
theorem dX12_highestBy_4 : decode cX12_highestBy 4 = .ok (.invokevirtual 67, 3) := by decide +kernel
theorem dX12_highestBy_7 : decode cX12_highestBy 7 = .ok (.istore_n 3, 1) := by decide +kernel
theorem dX12_highestBy_8 : decode cX12_highestBy 8 = .ok (.bipush 99, 2) := by decide +kernel
theorem dX12_highestBy_10 : decode cX12_highestBy 10 = .ok (.iload_n 3, 1) := by decide +kernel
theorem dX12_highestBy_11 : decode cX12_highestBy 11 = .ok (.aload_n 0, 1) := by decide +kernel
theorem dX12_highestBy_12 : decode cX12_highestBy 12 = .ok (.iload_n 1, 1) := by decide +kernel
theorem dX12_highestBy_13 : decode cX12_highestBy 13 = .ok (.iload_n 2, 1) := by decide +kernel
theorem dX12_highestBy_14 : decode cX12_highestBy 14 = .ok (.iconst 0, 1) := by decide +kernel
theorem dX12_highestBy_15 : decode cX12_highestBy 15 = .ok (.invokevirtual 162, 3) := by decide +kernel
theorem dX12_highestBy_18 : decode cX12_highestBy 18 = .ok (.iadd, 1) := by decide +kernel
theorem dX12_highestBy_19 : decode cX12_highestBy 19 = .ok (.invokestatic 157, 3) := by decide +kernel
theorem dX12_highestBy_22 : decode cX12_highestBy 22 = .ok (.istore 4, 2) := by decide +kernel
theorem dX12_highestBy_24 : decode cX12_highestBy 24 = .ok (.iload_n 3, 1) := by decide +kernel
theorem dX12_highestBy_25 : decode cX12_highestBy 25 = .ok (.bipush 10, 2) := by decide +kernel
theorem dX12_highestBy_27 : decode cX12_highestBy 27 = .ok (.idiv, 1) := by decide +kernel
theorem dX12_highestBy_28 : decode cX12_highestBy 28 = .ok (.iconst 1, 1) := by decide +kernel
theorem dX12_highestBy_29 : decode cX12_highestBy 29 = .ok (.iadd, 1) := by decide +kernel
theorem dX12_highestBy_30 : decode cX12_highestBy 30 = .ok (.bipush 10, 2) := by decide +kernel
theorem dX12_highestBy_32 : decode cX12_highestBy 32 = .ok (.imul, 1) := by decide +kernel
theorem dX12_highestBy_33 : decode cX12_highestBy 33 = .ok (.istore 5, 2) := by decide +kernel
theorem dX12_highestBy_35 : decode cX12_highestBy 35 = .ok (.aload_n 0, 1) := by decide +kernel
theorem dX12_highestBy_36 : decode cX12_highestBy 36 = .ok (.iload_n 1, 1) := by decide +kernel
theorem dX12_highestBy_37 : decode cX12_highestBy 37 = .ok (.iconst 0, 1) := by decide +kernel
theorem dX12_highestBy_38 : decode cX12_highestBy 38 = .ok (.invokevirtual 67, 3) := by decide +kernel
theorem dX12_highestBy_41 : decode cX12_highestBy 41 = .ok (.iconst 3, 1) := by decide +kernel
theorem dX12_highestBy_42 : decode cX12_highestBy 42 = .ok (.if_icmp .ne 13, 3) := by decide +kernel
theorem dX12_highestBy_45 : decode cX12_highestBy 45 = .ok (.iload 4, 2) := by decide +kernel
theorem dX12_highestBy_47 : decode cX12_highestBy 47 = .ok (.iload 5, 2) := by decide +kernel
theorem dX12_highestBy_49 : decode cX12_highestBy 49 = .ok (.invokestatic 157, 3) := by decide +kernel
theorem dX12_highestBy_52 : decode cX12_highestBy 52 = .ok (.goto 5, 3) := by decide +kernel
theorem dX12_highestBy_55 : decode cX12_highestBy 55 = .ok (.iload 4, 2) := by decide +kernel
theorem dX12_highestBy_57 : decode cX12_highestBy 57 = .ok (.ireturn, 1) := by decide +kernel
def fX12_highestBy (M : Mm) (o : Nat) (p1 : Int32) (p2 : Int32) : Option Int32 :=
  B1 (gk M o 15) fun _ =>
  B1 (fX12_its M o p1 7) fun x4_2 =>
  B1 (gk M o 15) fun _ =>
  B1 (fX12_runs M o p1 p2 0) fun x15_4 =>
  B1 (gk M o 15) fun _ =>
  B1 (fX12_its M o p1 0) fun x38_6 =>
  if x38_6 = 3 then
    some (mnI (mnI 99 (x4_2 + x15_4)) (((x4_2 / 10) + 1) * 10))
  else
    some (mnI 99 (x4_2 + x15_4))
set_option maxRecDepth 100000 in
set_option maxHeartbeats 4000000 in
theorem qX12_highestBy (l : Launch) (E : Ev) {M : Mm} {o : Nat} {p1 : Int32} {p2 : Int32} {rz : Int32} (hf : fX12_highestBy M o p1 p2 = some rz) : Ct l E yX12_highestBy cX12_highestBy 6 (some .int) 2 47 0 0 [.ref (E.b + o), .int p1, .int p2] M (some (.int rz)) M := by
  refine ct_of (by decide +kernel) (Nat.le_of_ble_eq_true rfl) fun p e s m args below meth c C hr hin hW ls hl => ?_
  have hl : lv_has ls 6 [(0, .ref (E.b + o)), (1, .int p1), (2, .int p2)] := hl
  unfold fX12_highestBy at hf
  refine lv_aload_n C.x C.b dX12_highestBy_0 rfl (lv_at hl 0 rfl) ?_
  refine lv_iload_n C.x C.b dX12_highestBy_1 rfl (lv_at hl 1 rfl) ?_
  refine lv_bipush (v := 7) C.x C.b dX12_highestBy_2 (by decide) ?_
  replace hf := x_b1 hf; obtain ⟨_, hk4_1, hf⟩ := hf
  replace hf := x_b1 hf; obtain ⟨x4_2, hx4_2, hf⟩ := hf
  refine x_callV (As := [.int p1, .int 7]) (a := o) (rest := []) C hW hl (qX12_its l E hx4_2) (x_gk hk4_1) (by decide) (by decide) rfl gv_X12_67 ⟨rfl, hd_X12_its⟩ rfl rfl (Nat.le_of_ble_eq_true rfl) dX12_highestBy_4 ⟨Nat.le_of_ble_eq_true rfl, Nat.le_of_ble_eq_true rfl⟩ ⟨Nat.le_of_ble_eq_true rfl, Nat.le_of_ble_eq_true rfl⟩ (fun H locs hW => ?_)
  refine lv_istore_n (lv' := [(3, .int _), (0, .ref (E.b + _)), (1, .int _), (2, .int _)]) C.x C.b dX12_highestBy_7 rfl hl (by decide) rfl (fun ls hl => ?_)
  refine lv_bipush (v := 99) C.x C.b dX12_highestBy_8 (by decide) ?_
  refine lv_iload_n C.x C.b dX12_highestBy_10 rfl (lv_at hl 0 rfl) ?_
  refine lv_aload_n C.x C.b dX12_highestBy_11 rfl (lv_at hl 1 rfl) ?_
  refine lv_iload_n C.x C.b dX12_highestBy_12 rfl (lv_at hl 2 rfl) ?_
  refine lv_iload_n C.x C.b dX12_highestBy_13 rfl (lv_at hl 3 rfl) ?_
  refine lv_iconst (v := 0) C.x C.b dX12_highestBy_14 (by decide) ?_
  replace hf := x_b1 hf; obtain ⟨_, hk15_3, hf⟩ := hf
  replace hf := x_b1 hf; obtain ⟨x15_4, hx15_4, hf⟩ := hf
  refine x_callV (As := [.int p1, .int p2, .int 0]) (a := o) (rest := [.int x4_2, .int 99]) C hW hl (qX12_runs l E hx15_4) (x_gk hk15_3) (by decide) (by decide) rfl gv_X12_162 ⟨rfl, hd_X12_runs⟩ rfl rfl (Nat.le_of_ble_eq_true rfl) dX12_highestBy_15 ⟨Nat.le_of_ble_eq_true rfl, Nat.le_of_ble_eq_true rfl⟩ ⟨Nat.le_of_ble_eq_true rfl, Nat.le_of_ble_eq_true rfl⟩ (fun H locs hW => ?_)
  refine lv_iadd C.x C.b dX12_highestBy_18 ?_
  refine x_mmin C hl T_7_73 T_3_160 T_1_15 T_3_161 (Nat.le_of_ble_eq_true rfl) (Nat.le_of_ble_eq_true rfl) ⟨Nat.le_of_ble_eq_true rfl, Nat.le_of_ble_eq_true rfl⟩ dX12_highestBy_19 ?_
  refine lv_istore (lv' := [(4, .int _), (3, .int _), (0, .ref (E.b + _)), (1, .int _), (2, .int _)]) C.x C.b dX12_highestBy_22 hl (by decide) rfl (fun ls hl => ?_)
  refine lv_iload_n C.x C.b dX12_highestBy_24 rfl (lv_at hl 1 rfl) ?_
  refine lv_bipush (v := 10) C.x C.b dX12_highestBy_25 (by decide) ?_
  refine lv_idiv C.x C.b dX12_highestBy_27 (by decide) ?_
  refine lv_iconst (v := 1) C.x C.b dX12_highestBy_28 (by decide) ?_
  refine lv_iadd C.x C.b dX12_highestBy_29 ?_
  refine lv_bipush (v := 10) C.x C.b dX12_highestBy_30 (by decide) ?_
  refine lv_imul C.x C.b dX12_highestBy_32 ?_
  refine lv_istore (lv' := [(5, .int _), (4, .int _), (3, .int _), (0, .ref (E.b + _)), (1, .int _), (2, .int _)]) C.x C.b dX12_highestBy_33 hl (by decide) rfl (fun ls hl => ?_)
  refine lv_aload_n C.x C.b dX12_highestBy_35 rfl (lv_at hl 3 rfl) ?_
  refine lv_iload_n C.x C.b dX12_highestBy_36 rfl (lv_at hl 4 rfl) ?_
  refine lv_iconst (v := 0) C.x C.b dX12_highestBy_37 (by decide) ?_
  replace hf := x_b1 hf; obtain ⟨_, hk38_5, hf⟩ := hf
  replace hf := x_b1 hf; obtain ⟨x38_6, hx38_6, hf⟩ := hf
  refine x_callV (As := [.int p1, .int 0]) (a := o) (rest := []) C hW hl (qX12_its l E hx38_6) (x_gk hk38_5) (by decide) (by decide) rfl gv_X12_67 ⟨rfl, hd_X12_its⟩ rfl rfl (Nat.le_of_ble_eq_true rfl) dX12_highestBy_38 ⟨Nat.le_of_ble_eq_true rfl, Nat.le_of_ble_eq_true rfl⟩ ⟨Nat.le_of_ble_eq_true rfl, Nat.le_of_ble_eq_true rfl⟩ (fun H locs hW => ?_)
  refine lv_iconst (v := 3) C.x C.b dX12_highestBy_41 (by decide) ?_
  refine lv_icmp_ne (tgt := 55) C.x C.b dX12_highestBy_42 rfl (fun c42 => ?_) (fun c42 => ?_)
  · replace hf := x_in c42 hf
    refine lv_iload C.x C.b dX12_highestBy_55 (lv_at hl 1 rfl) ?_
    rw [x_e0 hf]
    exact x_iret C hr hW dX12_highestBy_57
  · replace hf := x_ip c42 hf
    refine lv_iload C.x C.b dX12_highestBy_45 (lv_at hl 1 rfl) ?_
    refine lv_iload C.x C.b dX12_highestBy_47 (lv_at hl 0 rfl) ?_
    refine x_mmin C hl T_7_73 T_3_160 T_1_15 T_3_161 (Nat.le_of_ble_eq_true rfl) (Nat.le_of_ble_eq_true rfl) ⟨Nat.le_of_ble_eq_true rfl, Nat.le_of_ble_eq_true rfl⟩ dX12_highestBy_49 ?_
    refine lv_goto (tgt := 57) C.x C.b dX12_highestBy_52 rfl ?_
    rw [x_e0 hf]
    exact x_iret C hr hW dX12_highestBy_57

theorem dX12_dries_0 : decode cX12_dries 0 = .ok (.iconst 0, 1) := by decide +kernel
theorem dX12_dries_1 : decode cX12_dries 1 = .ok (.istore_n 3, 1) := by decide +kernel
theorem dX12_dries_2 : decode cX12_dries 2 = .ok (.iload_n 3, 1) := by decide +kernel
theorem dX12_dries_3 : decode cX12_dries 3 = .ok (.aload_n 0, 1) := by decide +kernel
theorem dX12_dries_4 : decode cX12_dries 4 = .ok (.iload_n 1, 1) := by decide +kernel
theorem dX12_dries_5 : decode cX12_dries 5 = .ok (.bipush 8, 2) := by decide +kernel
theorem dX12_dries_7 : decode cX12_dries 7 = .ok (.invokevirtual 67, 3) := by decide +kernel
theorem dX12_dries_10 : decode cX12_dries 10 = .ok (.if_icmp .ge 33, 3) := by decide +kernel
theorem dX12_dries_13 : decode cX12_dries 13 = .ok (.aload_n 0, 1) := by decide +kernel
theorem dX12_dries_14 : decode cX12_dries 14 = .ok (.iload_n 1, 1) := by decide +kernel
theorem dX12_dries_15 : decode cX12_dries 15 = .ok (.bipush 11, 2) := by decide +kernel
theorem dX12_dries_17 : decode cX12_dries 17 = .ok (.iload_n 3, 1) := by decide +kernel
theorem dX12_dries_18 : decode cX12_dries 18 = .ok (.iadd, 1) := by decide +kernel
theorem dX12_dries_19 : decode cX12_dries 19 = .ok (.iconst 0, 1) := by decide +kernel
theorem dX12_dries_20 : decode cX12_dries 20 = .ok (.aload_n 0, 1) := by decide +kernel
theorem dX12_dries_21 : decode cX12_dries 21 = .ok (.iload_n 1, 1) := by decide +kernel
theorem dX12_dries_22 : decode cX12_dries 22 = .ok (.bipush 11, 2) := by decide +kernel
theorem dX12_dries_24 : decode cX12_dries 24 = .ok (.iload_n 3, 1) := by decide +kernel
theorem dX12_dries_25 : decode cX12_dries 25 = .ok (.iadd, 1) := by decide +kernel
theorem dX12_dries_26 : decode cX12_dries 26 = .ok (.invokevirtual 67, 3) := by decide +kernel
theorem dX12_dries_29 : decode cX12_dries 29 = .ok (.iload_n 2, 1) := by decide +kernel
theorem dX12_dries_30 : decode cX12_dries 30 = .ok (.isub, 1) := by decide +kernel
theorem dX12_dries_31 : decode cX12_dries 31 = .ok (.invokestatic 166, 3) := by decide +kernel
theorem dX12_dries_34 : decode cX12_dries 34 = .ok (.invokevirtual 111, 3) := by decide +kernel
theorem dX12_dries_37 : decode cX12_dries 37 = .ok (.iinc 3 1, 3) := by decide +kernel
theorem dX12_dries_40 : decode cX12_dries 40 = .ok (.goto (-38), 3) := by decide +kernel
theorem dX12_dries_43 : decode cX12_dries 43 = .ok (.return_, 1) := by decide +kernel
def fX12_dries_L2 (o : Nat) (v1 : Int32) (v2 : Int32) : Nat → Int32 → Mm → Option Mm
  | 0, _, _ => none
  | n + 1, v3, M =>
    B1 (gk M o 15) fun _ =>
    B1 (fX12_its M o v1 8) fun x7_2 =>
    if x7_2 ≤ v3 then
      some M
    else
      B1 (gk M o 15) fun _ =>
      B1 (fX12_its M o v1 (11 + v3)) fun x26_4 =>
      B1 (gk M o 15) fun _ =>
      B1 (fX12_sets M o v1 (11 + v3) (mxI 0 (x26_4 - v2))) fun M34_6 =>
      fX12_dries_L2 o v1 v2 n (v3 + 1) M34_6
def fX12_dries (M : Mm) (o : Nat) (p1 : Int32) (p2 : Int32) : Option Mm :=
  fX12_dries_L2 o p1 p2 FL 0 M
set_option maxRecDepth 100000 in
set_option maxHeartbeats 4000000 in
theorem kX12_dries_L2 {l : Launch} {E : Ev} {p : Program} {e : Env} {s : State} {m : MethodId} {args : Array Value} {below : List Frame} {meth : Method} {c : Code} (C : Cx E p s m args meth c cX12_dries yX12_dries.cls 4) (hr : meth.sig.returnType = none) (hin : yX12_dries.name = "<init>" → meth.name = "<init>")  {o : Nat} {v1 : Int32} {v2 : Int32} {Mz : Mm} : ∀ (n : Nat) (v3 : Int32) (M : Mm), fX12_dries_L2 o v1 v2 n v3 M = some Mz → ∀ (H : Heap) (locs : List Loc) (ls : Array Slot), Wx E s H locs M → lv_has ls 4 [(0, .ref (E.b + o)), (1, .int v1), (2, .int v2), (3, .int v3)] → W p l e (rM 1 23 0 0) s m args below meth c H locs 0 0 (MQ below (Qp E none Mz) args s 0 0 E.A) (F0 m 2 ls []) := by
  intro n
  induction n with
  | zero =>
    intro v3 M hf
    unfold fX12_dries_L2 at hf
    cases hf
  | succ n ih =>
    intro v3 M hf H locs ls hW hl
    unfold fX12_dries_L2 at hf
    refine lv_iload_n C.x C.b dX12_dries_2 rfl (lv_at hl 3 rfl) ?_
    refine lv_aload_n C.x C.b dX12_dries_3 rfl (lv_at hl 0 rfl) ?_
    refine lv_iload_n C.x C.b dX12_dries_4 rfl (lv_at hl 1 rfl) ?_
    refine lv_bipush (v := 8) C.x C.b dX12_dries_5 (by decide) ?_
    replace hf := x_b1 hf; obtain ⟨_, hk7_1, hf⟩ := hf
    replace hf := x_b1 hf; obtain ⟨x7_2, hx7_2, hf⟩ := hf
    refine x_callV (As := [.int v1, .int 8]) (a := o) (rest := [.int v3]) C hW hl (qX12_its l E hx7_2) (x_gk hk7_1) (by decide) (by decide) rfl gv_X12_67 ⟨rfl, hd_X12_its⟩ rfl rfl (Nat.le_of_ble_eq_true rfl) dX12_dries_7 ⟨Nat.le_of_ble_eq_true rfl, Nat.le_of_ble_eq_true rfl⟩ ⟨Nat.le_of_ble_eq_true rfl, Nat.le_of_ble_eq_true rfl⟩ (fun H locs hW => ?_)
    refine lv_icmp_ge (tgt := 43) C.x C.b dX12_dries_10 rfl (fun c10 => ?_) (fun c10 => ?_)
    · replace hf := x_ip c10 hf
      rw [x_e0 hf]
      exact x_vret C hr hW dX12_dries_43
    · replace hf := x_in c10 hf
      refine lv_aload_n C.x C.b dX12_dries_13 rfl (lv_at hl 0 rfl) ?_
      refine lv_iload_n C.x C.b dX12_dries_14 rfl (lv_at hl 1 rfl) ?_
      refine lv_bipush (v := 11) C.x C.b dX12_dries_15 (by decide) ?_
      refine lv_iload_n C.x C.b dX12_dries_17 rfl (lv_at hl 3 rfl) ?_
      refine lv_iadd C.x C.b dX12_dries_18 ?_
      refine lv_iconst (v := 0) C.x C.b dX12_dries_19 (by decide) ?_
      refine lv_aload_n C.x C.b dX12_dries_20 rfl (lv_at hl 0 rfl) ?_
      refine lv_iload_n C.x C.b dX12_dries_21 rfl (lv_at hl 1 rfl) ?_
      refine lv_bipush (v := 11) C.x C.b dX12_dries_22 (by decide) ?_
      refine lv_iload_n C.x C.b dX12_dries_24 rfl (lv_at hl 3 rfl) ?_
      refine lv_iadd C.x C.b dX12_dries_25 ?_
      replace hf := x_b1 hf; obtain ⟨_, hk26_3, hf⟩ := hf
      replace hf := x_b1 hf; obtain ⟨x26_4, hx26_4, hf⟩ := hf
      refine x_callV (As := [.int v1, .int (11 + v3)]) (a := o) (rest := [.int 0, .int (11 + v3), .int v1, .ref (E.b + o)]) C hW hl (qX12_its l E hx26_4) (x_gk hk26_3) (by decide) (by decide) rfl gv_X12_67 ⟨rfl, hd_X12_its⟩ rfl rfl (Nat.le_of_ble_eq_true rfl) dX12_dries_26 ⟨Nat.le_of_ble_eq_true rfl, Nat.le_of_ble_eq_true rfl⟩ ⟨Nat.le_of_ble_eq_true rfl, Nat.le_of_ble_eq_true rfl⟩ (fun H locs hW => ?_)
      refine lv_iload_n C.x C.b dX12_dries_29 rfl (lv_at hl 2 rfl) ?_
      refine lv_isub C.x C.b dX12_dries_30 ?_
      refine x_mmax C hl T_7_52 T_3_145 T_1_15 T_3_146 (Nat.le_of_ble_eq_true rfl) (Nat.le_of_ble_eq_true rfl) ⟨Nat.le_of_ble_eq_true rfl, Nat.le_of_ble_eq_true rfl⟩ dX12_dries_31 ?_
      replace hf := x_b1 hf; obtain ⟨_, hk34_5, hf⟩ := hf
      replace hf := x_b1 hf; obtain ⟨M34_6, hM34_6, hf⟩ := hf
      refine x_callV (As := [.int v1, .int (11 + v3), .int (mxI 0 (x26_4 - v2))]) (a := o) (rest := []) C hW hl (qX12_sets l E hM34_6) (x_gk hk34_5) (by decide) (by decide) rfl gv_X12_111 ⟨rfl, hd_X12_sets⟩ rfl rfl (Nat.le_of_ble_eq_true rfl) dX12_dries_34 ⟨Nat.le_of_ble_eq_true rfl, Nat.le_of_ble_eq_true rfl⟩ ⟨Nat.le_of_ble_eq_true rfl, Nat.le_of_ble_eq_true rfl⟩ (fun H locs hW => ?_)
      refine lv_iinc (v := (v3 + 1)) (lv' := [(3, .int (v3 + 1)), (0, .ref (E.b + _)), (1, .int _), (2, .int _)]) C.x C.b dX12_dries_37 hl (k := 3) rfl (by first | rfl | decide) (by decide) rfl (fun ls hl => ?_)
      refine lv_goto (tgt := 2) C.x C.b dX12_dries_40 rfl ?_
      exact ih (v3 + 1) M34_6 hf _ _ _ hW (lv_sub hl [1, 2, 3, 0] rfl)
set_option maxRecDepth 100000 in
set_option maxHeartbeats 4000000 in
theorem qX12_dries (l : Launch) (E : Ev) {M : Mm} {o : Nat} {p1 : Int32} {p2 : Int32} {Mz : Mm} (hf : fX12_dries M o p1 p2 = some Mz) : Ct l E yX12_dries cX12_dries 4 none 1 23 0 0 [.ref (E.b + o), .int p1, .int p2] M none Mz := by
  refine ct_of (by decide +kernel) (Nat.le_of_ble_eq_true rfl) fun p e s m args below meth c C hr hin hW ls hl => ?_
  have hl : lv_has ls 4 [(0, .ref (E.b + o)), (1, .int p1), (2, .int p2)] := hl
  unfold fX12_dries at hf
  refine lv_iconst (v := 0) C.x C.b dX12_dries_0 (by decide) ?_
  refine lv_istore_n (lv' := [(3, .int _), (0, .ref (E.b + _)), (1, .int _), (2, .int _)]) C.x C.b dX12_dries_1 rfl hl (by decide) rfl (fun ls hl => ?_)
  exact kX12_dries_L2 C hr hin FL 0 M hf _ _ _ hW (lv_sub hl [1, 2, 3, 0] rfl)

theorem dX12_losesWet_0 : decode cX12_losesWet 0 = .ok (.iconst 0, 1) := by decide +kernel
theorem dX12_losesWet_1 : decode cX12_losesWet 1 = .ok (.istore_n 2, 1) := by decide +kernel
theorem dX12_losesWet_2 : decode cX12_losesWet 2 = .ok (.iconst 0, 1) := by decide +kernel
theorem dX12_losesWet_3 : decode cX12_losesWet 3 = .ok (.istore_n 3, 1) := by decide +kernel
theorem dX12_losesWet_4 : decode cX12_losesWet 4 = .ok (.iload_n 3, 1) := by decide +kernel
theorem dX12_losesWet_5 : decode cX12_losesWet 5 = .ok (.aload_n 0, 1) := by decide +kernel
theorem dX12_losesWet_6 : decode cX12_losesWet 6 = .ok (.iload_n 1, 1) := by decide +kernel
theorem dX12_losesWet_7 : decode cX12_losesWet 7 = .ok (.bipush 8, 2) := by decide +kernel
theorem dX12_losesWet_9 : decode cX12_losesWet 9 = .ok (.invokevirtual 67, 3) := by decide +kernel
theorem dX12_losesWet_12 : decode cX12_losesWet 12 = .ok (.if_icmp .ge 52, 3) := by decide +kernel
theorem dX12_losesWet_15 : decode cX12_losesWet 15 = .ok (.aload_n 0, 1) := by decide +kernel
theorem dX12_losesWet_16 : decode cX12_losesWet 16 = .ok (.iload_n 1, 1) := by decide +kernel
theorem dX12_losesWet_17 : decode cX12_losesWet 17 = .ok (.bipush 11, 2) := by decide +kernel
theorem dX12_losesWet_19 : decode cX12_losesWet 19 = .ok (.iload_n 3, 1) := by decide +kernel
theorem dX12_losesWet_20 : decode cX12_losesWet 20 = .ok (.iadd, 1) := by decide +kernel
theorem dX12_losesWet_21 : decode cX12_losesWet 21 = .ok (.invokevirtual 67, 3) := by decide +kernel
theorem dX12_losesWet_24 : decode cX12_losesWet 24 = .ok (.ifCond .ne 34, 3) := by decide +kernel
theorem dX12_losesWet_27 : decode cX12_losesWet 27 = .ok (.aload_n 0, 1) := by decide +kernel
theorem dX12_losesWet_28 : decode cX12_losesWet 28 = .ok (.iload_n 1, 1) := by decide +kernel
theorem dX12_losesWet_29 : decode cX12_losesWet 29 = .ok (.bipush 9, 2) := by decide +kernel
theorem dX12_losesWet_31 : decode cX12_losesWet 31 = .ok (.iload_n 2, 1) := by decide +kernel
theorem dX12_losesWet_32 : decode cX12_losesWet 32 = .ok (.iadd, 1) := by decide +kernel
theorem dX12_losesWet_33 : decode cX12_losesWet 33 = .ok (.aload_n 0, 1) := by decide +kernel
theorem dX12_losesWet_34 : decode cX12_losesWet 34 = .ok (.iload_n 1, 1) := by decide +kernel
theorem dX12_losesWet_35 : decode cX12_losesWet 35 = .ok (.bipush 9, 2) := by decide +kernel
theorem dX12_losesWet_37 : decode cX12_losesWet 37 = .ok (.iload_n 3, 1) := by decide +kernel
theorem dX12_losesWet_38 : decode cX12_losesWet 38 = .ok (.iadd, 1) := by decide +kernel
theorem dX12_losesWet_39 : decode cX12_losesWet 39 = .ok (.invokevirtual 67, 3) := by decide +kernel
theorem dX12_losesWet_42 : decode cX12_losesWet 42 = .ok (.invokevirtual 111, 3) := by decide +kernel
theorem dX12_losesWet_45 : decode cX12_losesWet 45 = .ok (.aload_n 0, 1) := by decide +kernel
theorem dX12_losesWet_46 : decode cX12_losesWet 46 = .ok (.iload_n 1, 1) := by decide +kernel
theorem dX12_losesWet_47 : decode cX12_losesWet 47 = .ok (.bipush 11, 2) := by decide +kernel
theorem dX12_losesWet_49 : decode cX12_losesWet 49 = .ok (.iload_n 2, 1) := by decide +kernel
theorem dX12_losesWet_50 : decode cX12_losesWet 50 = .ok (.iadd, 1) := by decide +kernel
theorem dX12_losesWet_51 : decode cX12_losesWet 51 = .ok (.iconst 0, 1) := by decide +kernel
theorem dX12_losesWet_52 : decode cX12_losesWet 52 = .ok (.invokevirtual 111, 3) := by decide +kernel
theorem dX12_losesWet_55 : decode cX12_losesWet 55 = .ok (.iinc 2 1, 3) := by decide +kernel
theorem dX12_losesWet_58 : decode cX12_losesWet 58 = .ok (.iinc 3 1, 3) := by decide +kernel
theorem dX12_losesWet_61 : decode cX12_losesWet 61 = .ok (.goto (-57), 3) := by decide +kernel
theorem dX12_losesWet_64 : decode cX12_losesWet 64 = .ok (.aload_n 0, 1) := by decide +kernel
theorem dX12_losesWet_65 : decode cX12_losesWet 65 = .ok (.iload_n 1, 1) := by decide +kernel
theorem dX12_losesWet_66 : decode cX12_losesWet 66 = .ok (.bipush 8, 2) := by decide +kernel
theorem dX12_losesWet_68 : decode cX12_losesWet 68 = .ok (.iload_n 2, 1) := by decide +kernel
theorem dX12_losesWet_69 : decode cX12_losesWet 69 = .ok (.invokevirtual 111, 3) := by decide +kernel
theorem dX12_losesWet_72 : decode cX12_losesWet 72 = .ok (.return_, 1) := by decide +kernel
def fX12_losesWet_L4 (o : Nat) (v1 : Int32) : Nat → Int32 → Int32 → Mm → Option Mm
  | 0, _, _, _ => none
  | n + 1, v2, v3, M =>
    B1 (gk M o 15) fun _ =>
    B1 (fX12_its M o v1 8) fun x9_2 =>
    if x9_2 ≤ v3 then
      B1 (gk M o 15) fun _ =>
      B1 (fX12_sets M o v1 8 v2) fun M69_4 =>
      some M69_4
    else
      B1 (gk M o 15) fun _ =>
      B1 (fX12_its M o v1 (11 + v3)) fun x21_6 =>
      if x21_6 = 0 then
        B1 (gk M o 15) fun _ =>
        B1 (fX12_its M o v1 (9 + v3)) fun x39_8 =>
        B1 (gk M o 15) fun _ =>
        B1 (fX12_sets M o v1 (9 + v2) x39_8) fun M42_10 =>
        B1 (gk M42_10 o 15) fun _ =>
        B1 (fX12_sets M42_10 o v1 (11 + v2) 0) fun M52_12 =>
        fX12_losesWet_L4 o v1 n (v2 + 1) (v3 + 1) M52_12
      else
        fX12_losesWet_L4 o v1 n v2 (v3 + 1) M
def fX12_losesWet (M : Mm) (o : Nat) (p1 : Int32) : Option Mm :=
  fX12_losesWet_L4 o p1 FL 0 0 M
set_option maxRecDepth 100000 in
set_option maxHeartbeats 4000000 in
theorem kX12_losesWet_L4 {l : Launch} {E : Ev} {p : Program} {e : Env} {s : State} {m : MethodId} {args : Array Value} {below : List Frame} {meth : Method} {c : Code} (C : Cx E p s m args meth c cX12_losesWet yX12_losesWet.cls 4) (hr : meth.sig.returnType = none) (hin : yX12_losesWet.name = "<init>" → meth.name = "<init>")  {o : Nat} {v1 : Int32} {Mz : Mm} : ∀ (n : Nat) (v2 : Int32) (v3 : Int32) (M : Mm), fX12_losesWet_L4 o v1 n v2 v3 M = some Mz → ∀ (H : Heap) (locs : List Loc) (ls : Array Slot), Wx E s H locs M → lv_has ls 4 [(0, .ref (E.b + o)), (1, .int v1), (2, .int v2), (3, .int v3)] → W p l e (rM 1 23 0 0) s m args below meth c H locs 0 0 (MQ below (Qp E none Mz) args s 0 0 E.A) (F0 m 4 ls []) := by
  intro n
  induction n with
  | zero =>
    intro v2 v3 M hf
    unfold fX12_losesWet_L4 at hf
    cases hf
  | succ n ih =>
    intro v2 v3 M hf H locs ls hW hl
    unfold fX12_losesWet_L4 at hf
    refine lv_iload_n C.x C.b dX12_losesWet_4 rfl (lv_at hl 3 rfl) ?_
    refine lv_aload_n C.x C.b dX12_losesWet_5 rfl (lv_at hl 0 rfl) ?_
    refine lv_iload_n C.x C.b dX12_losesWet_6 rfl (lv_at hl 1 rfl) ?_
    refine lv_bipush (v := 8) C.x C.b dX12_losesWet_7 (by decide) ?_
    replace hf := x_b1 hf; obtain ⟨_, hk9_1, hf⟩ := hf
    replace hf := x_b1 hf; obtain ⟨x9_2, hx9_2, hf⟩ := hf
    refine x_callV (As := [.int v1, .int 8]) (a := o) (rest := [.int v3]) C hW hl (qX12_its l E hx9_2) (x_gk hk9_1) (by decide) (by decide) rfl gv_X12_67 ⟨rfl, hd_X12_its⟩ rfl rfl (Nat.le_of_ble_eq_true rfl) dX12_losesWet_9 ⟨Nat.le_of_ble_eq_true rfl, Nat.le_of_ble_eq_true rfl⟩ ⟨Nat.le_of_ble_eq_true rfl, Nat.le_of_ble_eq_true rfl⟩ (fun H locs hW => ?_)
    refine lv_icmp_ge (tgt := 64) C.x C.b dX12_losesWet_12 rfl (fun c12 => ?_) (fun c12 => ?_)
    · replace hf := x_ip c12 hf
      refine lv_aload_n C.x C.b dX12_losesWet_64 rfl (lv_at hl 0 rfl) ?_
      refine lv_iload_n C.x C.b dX12_losesWet_65 rfl (lv_at hl 1 rfl) ?_
      refine lv_bipush (v := 8) C.x C.b dX12_losesWet_66 (by decide) ?_
      refine lv_iload_n C.x C.b dX12_losesWet_68 rfl (lv_at hl 2 rfl) ?_
      replace hf := x_b1 hf; obtain ⟨_, hk69_3, hf⟩ := hf
      replace hf := x_b1 hf; obtain ⟨M69_4, hM69_4, hf⟩ := hf
      refine x_callV (As := [.int v1, .int 8, .int v2]) (a := o) (rest := []) C hW hl (qX12_sets l E hM69_4) (x_gk hk69_3) (by decide) (by decide) rfl gv_X12_111 ⟨rfl, hd_X12_sets⟩ rfl rfl (Nat.le_of_ble_eq_true rfl) dX12_losesWet_69 ⟨Nat.le_of_ble_eq_true rfl, Nat.le_of_ble_eq_true rfl⟩ ⟨Nat.le_of_ble_eq_true rfl, Nat.le_of_ble_eq_true rfl⟩ (fun H locs hW => ?_)
      rw [x_e0 hf]
      exact x_vret C hr hW dX12_losesWet_72
    · replace hf := x_in c12 hf
      refine lv_aload_n C.x C.b dX12_losesWet_15 rfl (lv_at hl 0 rfl) ?_
      refine lv_iload_n C.x C.b dX12_losesWet_16 rfl (lv_at hl 1 rfl) ?_
      refine lv_bipush (v := 11) C.x C.b dX12_losesWet_17 (by decide) ?_
      refine lv_iload_n C.x C.b dX12_losesWet_19 rfl (lv_at hl 3 rfl) ?_
      refine lv_iadd C.x C.b dX12_losesWet_20 ?_
      replace hf := x_b1 hf; obtain ⟨_, hk21_5, hf⟩ := hf
      replace hf := x_b1 hf; obtain ⟨x21_6, hx21_6, hf⟩ := hf
      refine x_callV (As := [.int v1, .int (11 + v3)]) (a := o) (rest := []) C hW hl (qX12_its l E hx21_6) (x_gk hk21_5) (by decide) (by decide) rfl gv_X12_67 ⟨rfl, hd_X12_its⟩ rfl rfl (Nat.le_of_ble_eq_true rfl) dX12_losesWet_21 ⟨Nat.le_of_ble_eq_true rfl, Nat.le_of_ble_eq_true rfl⟩ ⟨Nat.le_of_ble_eq_true rfl, Nat.le_of_ble_eq_true rfl⟩ (fun H locs hW => ?_)
      refine lv_if_ne (tgt := 58) C.x C.b dX12_losesWet_24 rfl (fun c24 => ?_) (fun c24 => ?_)
      · replace hf := x_in c24 hf
        refine lv_iinc (v := (v3 + 1)) (lv' := [(3, .int (v3 + 1)), (0, .ref (E.b + _)), (1, .int _), (2, .int _)]) C.x C.b dX12_losesWet_58 hl (k := 3) rfl (by first | rfl | decide) (by decide) rfl (fun ls hl => ?_)
        refine lv_goto (tgt := 4) C.x C.b dX12_losesWet_61 rfl ?_
        exact ih v2 (v3 + 1) M hf _ _ _ hW (lv_sub hl [1, 2, 3, 0] rfl)
      · replace hf := x_ip c24 hf
        refine lv_aload_n C.x C.b dX12_losesWet_27 rfl (lv_at hl 0 rfl) ?_
        refine lv_iload_n C.x C.b dX12_losesWet_28 rfl (lv_at hl 1 rfl) ?_
        refine lv_bipush (v := 9) C.x C.b dX12_losesWet_29 (by decide) ?_
        refine lv_iload_n C.x C.b dX12_losesWet_31 rfl (lv_at hl 2 rfl) ?_
        refine lv_iadd C.x C.b dX12_losesWet_32 ?_
        refine lv_aload_n C.x C.b dX12_losesWet_33 rfl (lv_at hl 0 rfl) ?_
        refine lv_iload_n C.x C.b dX12_losesWet_34 rfl (lv_at hl 1 rfl) ?_
        refine lv_bipush (v := 9) C.x C.b dX12_losesWet_35 (by decide) ?_
        refine lv_iload_n C.x C.b dX12_losesWet_37 rfl (lv_at hl 3 rfl) ?_
        refine lv_iadd C.x C.b dX12_losesWet_38 ?_
        replace hf := x_b1 hf; obtain ⟨_, hk39_7, hf⟩ := hf
        replace hf := x_b1 hf; obtain ⟨x39_8, hx39_8, hf⟩ := hf
        refine x_callV (As := [.int v1, .int (9 + v3)]) (a := o) (rest := [.int (9 + v2), .int v1, .ref (E.b + o)]) C hW hl (qX12_its l E hx39_8) (x_gk hk39_7) (by decide) (by decide) rfl gv_X12_67 ⟨rfl, hd_X12_its⟩ rfl rfl (Nat.le_of_ble_eq_true rfl) dX12_losesWet_39 ⟨Nat.le_of_ble_eq_true rfl, Nat.le_of_ble_eq_true rfl⟩ ⟨Nat.le_of_ble_eq_true rfl, Nat.le_of_ble_eq_true rfl⟩ (fun H locs hW => ?_)
        replace hf := x_b1 hf; obtain ⟨_, hk42_9, hf⟩ := hf
        replace hf := x_b1 hf; obtain ⟨M42_10, hM42_10, hf⟩ := hf
        refine x_callV (As := [.int v1, .int (9 + v2), .int x39_8]) (a := o) (rest := []) C hW hl (qX12_sets l E hM42_10) (x_gk hk42_9) (by decide) (by decide) rfl gv_X12_111 ⟨rfl, hd_X12_sets⟩ rfl rfl (Nat.le_of_ble_eq_true rfl) dX12_losesWet_42 ⟨Nat.le_of_ble_eq_true rfl, Nat.le_of_ble_eq_true rfl⟩ ⟨Nat.le_of_ble_eq_true rfl, Nat.le_of_ble_eq_true rfl⟩ (fun H locs hW => ?_)
        refine lv_aload_n C.x C.b dX12_losesWet_45 rfl (lv_at hl 0 rfl) ?_
        refine lv_iload_n C.x C.b dX12_losesWet_46 rfl (lv_at hl 1 rfl) ?_
        refine lv_bipush (v := 11) C.x C.b dX12_losesWet_47 (by decide) ?_
        refine lv_iload_n C.x C.b dX12_losesWet_49 rfl (lv_at hl 2 rfl) ?_
        refine lv_iadd C.x C.b dX12_losesWet_50 ?_
        refine lv_iconst (v := 0) C.x C.b dX12_losesWet_51 (by decide) ?_
        replace hf := x_b1 hf; obtain ⟨_, hk52_11, hf⟩ := hf
        replace hf := x_b1 hf; obtain ⟨M52_12, hM52_12, hf⟩ := hf
        refine x_callV (As := [.int v1, .int (11 + v2), .int 0]) (a := o) (rest := []) C hW hl (qX12_sets l E hM52_12) (x_gk hk52_11) (by decide) (by decide) rfl gv_X12_111 ⟨rfl, hd_X12_sets⟩ rfl rfl (Nat.le_of_ble_eq_true rfl) dX12_losesWet_52 ⟨Nat.le_of_ble_eq_true rfl, Nat.le_of_ble_eq_true rfl⟩ ⟨Nat.le_of_ble_eq_true rfl, Nat.le_of_ble_eq_true rfl⟩ (fun H locs hW => ?_)
        refine lv_iinc (v := (v2 + 1)) (lv' := [(2, .int (v2 + 1)), (0, .ref (E.b + _)), (1, .int _), (3, .int _)]) C.x C.b dX12_losesWet_55 hl (k := 2) rfl (by first | rfl | decide) (by decide) rfl (fun ls hl => ?_)
        refine lv_iinc (v := (v3 + 1)) (lv' := [(3, .int (v3 + 1)), (2, .int _), (0, .ref (E.b + _)), (1, .int _)]) C.x C.b dX12_losesWet_58 hl (k := 3) rfl (by first | rfl | decide) (by decide) rfl (fun ls hl => ?_)
        refine lv_goto (tgt := 4) C.x C.b dX12_losesWet_61 rfl ?_
        exact ih (v2 + 1) (v3 + 1) M52_12 hf _ _ _ hW (lv_sub hl [2, 3, 1, 0] rfl)
set_option maxRecDepth 100000 in
set_option maxHeartbeats 4000000 in
theorem qX12_losesWet (l : Launch) (E : Ev) {M : Mm} {o : Nat} {p1 : Int32} {Mz : Mm} (hf : fX12_losesWet M o p1 = some Mz) : Ct l E yX12_losesWet cX12_losesWet 4 none 1 23 0 0 [.ref (E.b + o), .int p1] M none Mz := by
  refine ct_of (by decide +kernel) (Nat.le_of_ble_eq_true rfl) fun p e s m args below meth c C hr hin hW ls hl => ?_
  have hl : lv_has ls 4 [(0, .ref (E.b + o)), (1, .int p1)] := hl
  unfold fX12_losesWet at hf
  refine lv_iconst (v := 0) C.x C.b dX12_losesWet_0 (by decide) ?_
  refine lv_istore_n (lv' := [(2, .int _), (0, .ref (E.b + _)), (1, .int _)]) C.x C.b dX12_losesWet_1 rfl hl (by decide) rfl (fun ls hl => ?_)
  refine lv_iconst (v := 0) C.x C.b dX12_losesWet_2 (by decide) ?_
  refine lv_istore_n (lv' := [(3, .int _), (2, .int _), (0, .ref (E.b + _)), (1, .int _)]) C.x C.b dX12_losesWet_3 rfl hl (by decide) rfl (fun ls hl => ?_)
  exact kX12_losesWet_L4 C hr hin FL 0 0 M hf _ _ _ hW (lv_sub hl [2, 3, 1, 0] rfl)

theorem dX12_ladderRuns_0 : decode cX12_ladderRuns 0 = .ok (.aload_n 0, 1) := by decide +kernel
theorem dX12_ladderRuns_1 : decode cX12_ladderRuns 1 = .ok (.iload_n 1, 1) := by decide +kernel
theorem dX12_ladderRuns_2 : decode cX12_ladderRuns 2 = .ok (.iload_n 2, 1) := by decide +kernel
theorem dX12_ladderRuns_3 : decode cX12_ladderRuns 3 = .ok (.invokevirtual 169, 3) := by decide +kernel
theorem dX12_ladderRuns_6 : decode cX12_ladderRuns 6 = .ok (.istore_n 3, 1) := by decide +kernel
theorem dX12_ladderRuns_7 : decode cX12_ladderRuns 7 = .ok (.aload_n 0, 1) := by decide +kernel
theorem dX12_ladderRuns_8 : decode cX12_ladderRuns 8 = .ok (.iload_n 1, 1) := by decide +kernel
theorem dX12_ladderRuns_9 : decode cX12_ladderRuns 9 = .ok (.iload_n 2, 1) := by decide +kernel
theorem dX12_ladderRuns_10 : decode cX12_ladderRuns 10 = .ok (.invokevirtual 172, 3) := by decide +kernel
theorem dX12_ladderRuns_13 : decode cX12_ladderRuns 13 = .ok (.istore 4, 2) := by decide +kernel
theorem dX12_ladderRuns_15 : decode cX12_ladderRuns 15 = .ok (.iconst 0, 1) := by decide +kernel
theorem dX12_ladderRuns_16 : decode cX12_ladderRuns 16 = .ok (.istore 5, 2) := by decide +kernel
theorem dX12_ladderRuns_18 : decode cX12_ladderRuns 18 = .ok (.iload 5, 2) := by decide +kernel
theorem dX12_ladderRuns_20 : decode cX12_ladderRuns 20 = .ok (.aload_n 0, 1) := by decide +kernel
theorem dX12_ladderRuns_21 : decode cX12_ladderRuns 21 = .ok (.iload_n 1, 1) := by decide +kernel
theorem dX12_ladderRuns_22 : decode cX12_ladderRuns 22 = .ok (.bipush 8, 2) := by decide +kernel
theorem dX12_ladderRuns_24 : decode cX12_ladderRuns 24 = .ok (.invokevirtual 67, 3) := by decide +kernel
theorem dX12_ladderRuns_27 : decode cX12_ladderRuns 27 = .ok (.if_icmp .ge 74, 3) := by decide +kernel
theorem dX12_ladderRuns_30 : decode cX12_ladderRuns 30 = .ok (.aload_n 0, 1) := by decide +kernel
theorem dX12_ladderRuns_31 : decode cX12_ladderRuns 31 = .ok (.iload_n 1, 1) := by decide +kernel
theorem dX12_ladderRuns_32 : decode cX12_ladderRuns 32 = .ok (.bipush 9, 2) := by decide +kernel
theorem dX12_ladderRuns_34 : decode cX12_ladderRuns 34 = .ok (.iload 5, 2) := by decide +kernel
theorem dX12_ladderRuns_36 : decode cX12_ladderRuns 36 = .ok (.iadd, 1) := by decide +kernel
theorem dX12_ladderRuns_37 : decode cX12_ladderRuns 37 = .ok (.invokevirtual 67, 3) := by decide +kernel
theorem dX12_ladderRuns_40 : decode cX12_ladderRuns 40 = .ok (.istore 6, 2) := by decide +kernel
theorem dX12_ladderRuns_42 : decode cX12_ladderRuns 42 = .ok (.iload 6, 2) := by decide +kernel
theorem dX12_ladderRuns_44 : decode cX12_ladderRuns 44 = .ok (.aload_n 0, 1) := by decide +kernel
theorem dX12_ladderRuns_45 : decode cX12_ladderRuns 45 = .ok (.iload_n 1, 1) := by decide +kernel
theorem dX12_ladderRuns_46 : decode cX12_ladderRuns 46 = .ok (.bipush 6, 2) := by decide +kernel
theorem dX12_ladderRuns_48 : decode cX12_ladderRuns 48 = .ok (.invokevirtual 67, 3) := by decide +kernel
theorem dX12_ladderRuns_51 : decode cX12_ladderRuns 51 = .ok (.if_icmp .ge 14, 3) := by decide +kernel
theorem dX12_ladderRuns_54 : decode cX12_ladderRuns 54 = .ok (.iload_n 3, 1) := by decide +kernel
theorem dX12_ladderRuns_55 : decode cX12_ladderRuns 55 = .ok (.iload 6, 2) := by decide +kernel
theorem dX12_ladderRuns_57 : decode cX12_ladderRuns 57 = .ok (.iconst 1, 1) := by decide +kernel
theorem dX12_ladderRuns_58 : decode cX12_ladderRuns 58 = .ok (.iadd, 1) := by decide +kernel
theorem dX12_ladderRuns_59 : decode cX12_ladderRuns 59 = .ok (.invokestatic 166, 3) := by decide +kernel
theorem dX12_ladderRuns_62 : decode cX12_ladderRuns 62 = .ok (.goto 4, 3) := by decide +kernel
theorem dX12_ladderRuns_65 : decode cX12_ladderRuns 65 = .ok (.iload_n 3, 1) := by decide +kernel
theorem dX12_ladderRuns_66 : decode cX12_ladderRuns 66 = .ok (.istore_n 3, 1) := by decide +kernel
theorem dX12_ladderRuns_67 : decode cX12_ladderRuns 67 = .ok (.iload 6, 2) := by decide +kernel
theorem dX12_ladderRuns_69 : decode cX12_ladderRuns 69 = .ok (.aload_n 0, 1) := by decide +kernel
theorem dX12_ladderRuns_70 : decode cX12_ladderRuns 70 = .ok (.iload_n 1, 1) := by decide +kernel
theorem dX12_ladderRuns_71 : decode cX12_ladderRuns 71 = .ok (.bipush 7, 2) := by decide +kernel
theorem dX12_ladderRuns_73 : decode cX12_ladderRuns 73 = .ok (.invokevirtual 67, 3) := by decide +kernel
theorem dX12_ladderRuns_76 : decode cX12_ladderRuns 76 = .ok (.if_icmp .le 15, 3) := by decide +kernel
theorem dX12_ladderRuns_79 : decode cX12_ladderRuns 79 = .ok (.iload 4, 2) := by decide +kernel
theorem dX12_ladderRuns_81 : decode cX12_ladderRuns 81 = .ok (.iload 6, 2) := by decide +kernel
theorem dX12_ladderRuns_83 : decode cX12_ladderRuns 83 = .ok (.iconst 1, 1) := by decide +kernel
theorem dX12_ladderRuns_84 : decode cX12_ladderRuns 84 = .ok (.isub, 1) := by decide +kernel
theorem dX12_ladderRuns_85 : decode cX12_ladderRuns 85 = .ok (.invokestatic 157, 3) := by decide +kernel
theorem dX12_ladderRuns_88 : decode cX12_ladderRuns 88 = .ok (.goto 5, 3) := by decide +kernel
theorem dX12_ladderRuns_91 : decode cX12_ladderRuns 91 = .ok (.iload 4, 2) := by decide +kernel
theorem dX12_ladderRuns_93 : decode cX12_ladderRuns 93 = .ok (.istore 4, 2) := by decide +kernel
theorem dX12_ladderRuns_95 : decode cX12_ladderRuns 95 = .ok (.iinc 5 1, 3) := by decide +kernel
theorem dX12_ladderRuns_98 : decode cX12_ladderRuns 98 = .ok (.goto (-80), 3) := by decide +kernel
theorem dX12_ladderRuns_101 : decode cX12_ladderRuns 101 = .ok (.aload_n 0, 1) := by decide +kernel
theorem dX12_ladderRuns_102 : decode cX12_ladderRuns 102 = .ok (.iload_n 1, 1) := by decide +kernel
theorem dX12_ladderRuns_103 : decode cX12_ladderRuns 103 = .ok (.iload_n 3, 1) := by decide +kernel
theorem dX12_ladderRuns_104 : decode cX12_ladderRuns 104 = .ok (.iload 4, 2) := by decide +kernel
theorem dX12_ladderRuns_106 : decode cX12_ladderRuns 106 = .ok (.invokevirtual 124, 3) := by decide +kernel
theorem dX12_ladderRuns_109 : decode cX12_ladderRuns 109 = .ok (.return_, 1) := by decide +kernel
theorem hd_X12_lowestBy : yX12_lowestBy.cls ≠ "java/lang/invoke/MethodHandle" ∧ yX12_lowestBy.cls ≠ "java/lang/invoke/VarHandle" ∧ (parseMethodDescriptor yX12_lowestBy.desc).map (fun d => d.parameters.length) = some 2 := by decide +kernel
theorem gv_X12_169 : GoodIn gT (wsV "NylonLadderModel" 169 "NylonLadderModel" yX12_lowestBy (Cond.code yX12_lowestBy cX12_lowestBy 6 (some .int) :: gT)) := good_V T_7_61 T_7_63 TS_51 T_1_10 T_7_64
theorem hd_X12_highestBy : yX12_highestBy.cls ≠ "java/lang/invoke/MethodHandle" ∧ yX12_highestBy.cls ≠ "java/lang/invoke/VarHandle" ∧ (parseMethodDescriptor yX12_highestBy.desc).map (fun d => d.parameters.length) = some 2 := by decide +kernel
theorem gv_X12_172 : GoodIn gT (wsV "NylonLadderModel" 172 "NylonLadderModel" yX12_highestBy (Cond.code yX12_highestBy cX12_highestBy 6 (some .int) :: gT)) := good_V T_7_74 T_7_76 TS_54 T_1_10 T_7_77
def fX12_ladderRuns_L18 (o : Nat) (v1 : Int32) : Nat → Int32 → Int32 → Int32 → Mm → Option Mm
  | 0, _, _, _, _ => none
  | n + 1, v3, v4, v5, M =>
    B1 (gk M o 15) fun _ =>
    B1 (fX12_its M o v1 8) fun x24_6 =>
    if x24_6 ≤ v5 then
      B1 (gk M o 15) fun _ =>
      B1 (fX12_ladder M o v1 v3 v4) fun M106_8 =>
      some M106_8
    else
      B1 (gk M o 15) fun _ =>
      B1 (fX12_its M o v1 (9 + v5)) fun x37_10 =>
      B1 (gk M o 15) fun _ =>
      B1 (fX12_its M o v1 6) fun x48_12 =>
      if x48_12 ≤ x37_10 then
        B1 (gk M o 15) fun _ =>
        B1 (fX12_its M o v1 7) fun x73_14 =>
        if x37_10 ≤ x73_14 then
          fX12_ladderRuns_L18 o v1 n v3 v4 (v5 + 1) M
        else
          fX12_ladderRuns_L18 o v1 n v3 (mnI v4 (x37_10 - 1)) (v5 + 1) M
      else
        B1 (gk M o 15) fun _ =>
        B1 (fX12_its M o v1 7) fun x73_16 =>
        if x37_10 ≤ x73_16 then
          fX12_ladderRuns_L18 o v1 n (mxI v3 (x37_10 + 1)) v4 (v5 + 1) M
        else
          fX12_ladderRuns_L18 o v1 n (mxI v3 (x37_10 + 1)) (mnI v4 (x37_10 - 1)) (v5 + 1) M
def fX12_ladderRuns (M : Mm) (o : Nat) (p1 : Int32) (p2 : Int32) : Option Mm :=
  B1 (gk M o 15) fun _ =>
  B1 (fX12_lowestBy M o p1 p2) fun x3_2 =>
  B1 (gk M o 15) fun _ =>
  B1 (fX12_highestBy M o p1 p2) fun x10_4 =>
  fX12_ladderRuns_L18 o p1 FL x3_2 x10_4 0 M
set_option maxRecDepth 100000 in
set_option maxHeartbeats 4000000 in
theorem kX12_ladderRuns_L18 {l : Launch} {E : Ev} {p : Program} {e : Env} {s : State} {m : MethodId} {args : Array Value} {below : List Frame} {meth : Method} {c : Code} (C : Cx E p s m args meth c cX12_ladderRuns yX12_ladderRuns.cls 7) (hr : meth.sig.returnType = none) (hin : yX12_ladderRuns.name = "<init>" → meth.name = "<init>")  {o : Nat} {v1 : Int32} {Mz : Mm} : ∀ (n : Nat) (v3 : Int32) (v4 : Int32) (v5 : Int32) (M : Mm), fX12_ladderRuns_L18 o v1 n v3 v4 v5 M = some Mz → ∀ (H : Heap) (locs : List Loc) (ls : Array Slot), Wx E s H locs M → lv_has ls 7 [(0, .ref (E.b + o)), (1, .int v1), (3, .int v3), (4, .int v4), (5, .int v5)] → W p l e (rM 3 72 0 0) s m args below meth c H locs 0 0 (MQ below (Qp E none Mz) args s 0 0 E.A) (F0 m 18 ls []) := by
  intro n
  induction n with
  | zero =>
    intro v3 v4 v5 M hf
    unfold fX12_ladderRuns_L18 at hf
    cases hf
  | succ n ih =>
    intro v3 v4 v5 M hf H locs ls hW hl
    unfold fX12_ladderRuns_L18 at hf
    refine lv_iload C.x C.b dX12_ladderRuns_18 (lv_at hl 4 rfl) ?_
    refine lv_aload_n C.x C.b dX12_ladderRuns_20 rfl (lv_at hl 0 rfl) ?_
    refine lv_iload_n C.x C.b dX12_ladderRuns_21 rfl (lv_at hl 1 rfl) ?_
    refine lv_bipush (v := 8) C.x C.b dX12_ladderRuns_22 (by decide) ?_
    replace hf := x_b1 hf; obtain ⟨_, hk24_5, hf⟩ := hf
    replace hf := x_b1 hf; obtain ⟨x24_6, hx24_6, hf⟩ := hf
    refine x_callV (As := [.int v1, .int 8]) (a := o) (rest := [.int v5]) C hW hl (qX12_its l E hx24_6) (x_gk hk24_5) (by decide) (by decide) rfl gv_X12_67 ⟨rfl, hd_X12_its⟩ rfl rfl (Nat.le_of_ble_eq_true rfl) dX12_ladderRuns_24 ⟨Nat.le_of_ble_eq_true rfl, Nat.le_of_ble_eq_true rfl⟩ ⟨Nat.le_of_ble_eq_true rfl, Nat.le_of_ble_eq_true rfl⟩ (fun H locs hW => ?_)
    refine lv_icmp_ge (tgt := 101) C.x C.b dX12_ladderRuns_27 rfl (fun c27 => ?_) (fun c27 => ?_)
    · replace hf := x_ip c27 hf
      refine lv_aload_n C.x C.b dX12_ladderRuns_101 rfl (lv_at hl 0 rfl) ?_
      refine lv_iload_n C.x C.b dX12_ladderRuns_102 rfl (lv_at hl 1 rfl) ?_
      refine lv_iload_n C.x C.b dX12_ladderRuns_103 rfl (lv_at hl 2 rfl) ?_
      refine lv_iload C.x C.b dX12_ladderRuns_104 (lv_at hl 3 rfl) ?_
      replace hf := x_b1 hf; obtain ⟨_, hk106_7, hf⟩ := hf
      replace hf := x_b1 hf; obtain ⟨M106_8, hM106_8, hf⟩ := hf
      refine x_callV (As := [.int v1, .int v3, .int v4]) (a := o) (rest := []) C hW hl (qX12_ladder l E hM106_8) (x_gk hk106_7) (by decide) (by decide) rfl gv_X12_124 ⟨rfl, hd_X12_ladder⟩ rfl rfl (Nat.le_of_ble_eq_true rfl) dX12_ladderRuns_106 ⟨Nat.le_of_ble_eq_true rfl, Nat.le_of_ble_eq_true rfl⟩ ⟨Nat.le_of_ble_eq_true rfl, Nat.le_of_ble_eq_true rfl⟩ (fun H locs hW => ?_)
      rw [x_e0 hf]
      exact x_vret C hr hW dX12_ladderRuns_109
    · replace hf := x_in c27 hf
      refine lv_aload_n C.x C.b dX12_ladderRuns_30 rfl (lv_at hl 0 rfl) ?_
      refine lv_iload_n C.x C.b dX12_ladderRuns_31 rfl (lv_at hl 1 rfl) ?_
      refine lv_bipush (v := 9) C.x C.b dX12_ladderRuns_32 (by decide) ?_
      refine lv_iload C.x C.b dX12_ladderRuns_34 (lv_at hl 4 rfl) ?_
      refine lv_iadd C.x C.b dX12_ladderRuns_36 ?_
      replace hf := x_b1 hf; obtain ⟨_, hk37_9, hf⟩ := hf
      replace hf := x_b1 hf; obtain ⟨x37_10, hx37_10, hf⟩ := hf
      refine x_callV (As := [.int v1, .int (9 + v5)]) (a := o) (rest := []) C hW hl (qX12_its l E hx37_10) (x_gk hk37_9) (by decide) (by decide) rfl gv_X12_67 ⟨rfl, hd_X12_its⟩ rfl rfl (Nat.le_of_ble_eq_true rfl) dX12_ladderRuns_37 ⟨Nat.le_of_ble_eq_true rfl, Nat.le_of_ble_eq_true rfl⟩ ⟨Nat.le_of_ble_eq_true rfl, Nat.le_of_ble_eq_true rfl⟩ (fun H locs hW => ?_)
      refine lv_istore (lv' := [(6, .int _), (0, .ref (E.b + _)), (1, .int _), (3, .int _), (4, .int _), (5, .int _)]) C.x C.b dX12_ladderRuns_40 hl (by decide) rfl (fun ls hl => ?_)
      refine lv_iload C.x C.b dX12_ladderRuns_42 (lv_at hl 0 rfl) ?_
      refine lv_aload_n C.x C.b dX12_ladderRuns_44 rfl (lv_at hl 1 rfl) ?_
      refine lv_iload_n C.x C.b dX12_ladderRuns_45 rfl (lv_at hl 2 rfl) ?_
      refine lv_bipush (v := 6) C.x C.b dX12_ladderRuns_46 (by decide) ?_
      replace hf := x_b1 hf; obtain ⟨_, hk48_11, hf⟩ := hf
      replace hf := x_b1 hf; obtain ⟨x48_12, hx48_12, hf⟩ := hf
      refine x_callV (As := [.int v1, .int 6]) (a := o) (rest := [.int x37_10]) C hW hl (qX12_its l E hx48_12) (x_gk hk48_11) (by decide) (by decide) rfl gv_X12_67 ⟨rfl, hd_X12_its⟩ rfl rfl (Nat.le_of_ble_eq_true rfl) dX12_ladderRuns_48 ⟨Nat.le_of_ble_eq_true rfl, Nat.le_of_ble_eq_true rfl⟩ ⟨Nat.le_of_ble_eq_true rfl, Nat.le_of_ble_eq_true rfl⟩ (fun H locs hW => ?_)
      refine lv_icmp_ge (tgt := 65) C.x C.b dX12_ladderRuns_51 rfl (fun c51 => ?_) (fun c51 => ?_)
      · replace hf := x_ip c51 hf
        refine lv_iload_n C.x C.b dX12_ladderRuns_65 rfl (lv_at hl 3 rfl) ?_
        refine lv_istore_n (lv' := [(3, .int _), (6, .int _), (0, .ref (E.b + _)), (1, .int _), (4, .int _), (5, .int _)]) C.x C.b dX12_ladderRuns_66 rfl hl (by decide) rfl (fun ls hl => ?_)
        refine lv_iload C.x C.b dX12_ladderRuns_67 (lv_at hl 1 rfl) ?_
        refine lv_aload_n C.x C.b dX12_ladderRuns_69 rfl (lv_at hl 2 rfl) ?_
        refine lv_iload_n C.x C.b dX12_ladderRuns_70 rfl (lv_at hl 3 rfl) ?_
        refine lv_bipush (v := 7) C.x C.b dX12_ladderRuns_71 (by decide) ?_
        replace hf := x_b1 hf; obtain ⟨_, hk73_13, hf⟩ := hf
        replace hf := x_b1 hf; obtain ⟨x73_14, hx73_14, hf⟩ := hf
        refine x_callV (As := [.int v1, .int 7]) (a := o) (rest := [.int x37_10]) C hW hl (qX12_its l E hx73_14) (x_gk hk73_13) (by decide) (by decide) rfl gv_X12_67 ⟨rfl, hd_X12_its⟩ rfl rfl (Nat.le_of_ble_eq_true rfl) dX12_ladderRuns_73 ⟨Nat.le_of_ble_eq_true rfl, Nat.le_of_ble_eq_true rfl⟩ ⟨Nat.le_of_ble_eq_true rfl, Nat.le_of_ble_eq_true rfl⟩ (fun H locs hW => ?_)
        refine lv_icmp_le (tgt := 91) C.x C.b dX12_ladderRuns_76 rfl (fun c76 => ?_) (fun c76 => ?_)
        · replace hf := x_ip c76 hf
          refine lv_iload C.x C.b dX12_ladderRuns_91 (lv_at hl 4 rfl) ?_
          refine lv_istore (lv' := [(4, .int _), (3, .int _), (6, .int _), (0, .ref (E.b + _)), (1, .int _), (5, .int _)]) C.x C.b dX12_ladderRuns_93 hl (by decide) rfl (fun ls hl => ?_)
          refine lv_iinc (v := (v5 + 1)) (lv' := [(5, .int (v5 + 1)), (4, .int _), (3, .int _), (6, .int _), (0, .ref (E.b + _)), (1, .int _)]) C.x C.b dX12_ladderRuns_95 hl (k := 5) rfl (by first | rfl | decide) (by decide) rfl (fun ls hl => ?_)
          refine lv_goto (tgt := 18) C.x C.b dX12_ladderRuns_98 rfl ?_
          exact ih v3 v4 (v5 + 1) M hf _ _ _ hW (lv_sub hl [4, 5, 2, 1, 0] rfl)
        · replace hf := x_in c76 hf
          refine lv_iload C.x C.b dX12_ladderRuns_79 (lv_at hl 4 rfl) ?_
          refine lv_iload C.x C.b dX12_ladderRuns_81 (lv_at hl 1 rfl) ?_
          refine lv_iconst (v := 1) C.x C.b dX12_ladderRuns_83 (by decide) ?_
          refine lv_isub C.x C.b dX12_ladderRuns_84 ?_
          refine x_mmin C hl T_7_73 T_3_160 T_1_15 T_3_161 (Nat.le_of_ble_eq_true rfl) (Nat.le_of_ble_eq_true rfl) ⟨Nat.le_of_ble_eq_true rfl, Nat.le_of_ble_eq_true rfl⟩ dX12_ladderRuns_85 ?_
          refine lv_goto (tgt := 93) C.x C.b dX12_ladderRuns_88 rfl ?_
          refine lv_istore (lv' := [(4, .int _), (3, .int _), (6, .int _), (0, .ref (E.b + _)), (1, .int _), (5, .int _)]) C.x C.b dX12_ladderRuns_93 hl (by decide) rfl (fun ls hl => ?_)
          refine lv_iinc (v := (v5 + 1)) (lv' := [(5, .int (v5 + 1)), (4, .int _), (3, .int _), (6, .int _), (0, .ref (E.b + _)), (1, .int _)]) C.x C.b dX12_ladderRuns_95 hl (k := 5) rfl (by first | rfl | decide) (by decide) rfl (fun ls hl => ?_)
          refine lv_goto (tgt := 18) C.x C.b dX12_ladderRuns_98 rfl ?_
          exact ih v3 (mnI v4 (x37_10 - 1)) (v5 + 1) M hf _ _ _ hW (lv_sub hl [4, 5, 2, 1, 0] rfl)
      · replace hf := x_in c51 hf
        refine lv_iload_n C.x C.b dX12_ladderRuns_54 rfl (lv_at hl 3 rfl) ?_
        refine lv_iload C.x C.b dX12_ladderRuns_55 (lv_at hl 0 rfl) ?_
        refine lv_iconst (v := 1) C.x C.b dX12_ladderRuns_57 (by decide) ?_
        refine lv_iadd C.x C.b dX12_ladderRuns_58 ?_
        refine x_mmax C hl T_7_52 T_3_145 T_1_15 T_3_146 (Nat.le_of_ble_eq_true rfl) (Nat.le_of_ble_eq_true rfl) ⟨Nat.le_of_ble_eq_true rfl, Nat.le_of_ble_eq_true rfl⟩ dX12_ladderRuns_59 ?_
        refine lv_goto (tgt := 66) C.x C.b dX12_ladderRuns_62 rfl ?_
        refine lv_istore_n (lv' := [(3, .int _), (6, .int _), (0, .ref (E.b + _)), (1, .int _), (4, .int _), (5, .int _)]) C.x C.b dX12_ladderRuns_66 rfl hl (by decide) rfl (fun ls hl => ?_)
        refine lv_iload C.x C.b dX12_ladderRuns_67 (lv_at hl 1 rfl) ?_
        refine lv_aload_n C.x C.b dX12_ladderRuns_69 rfl (lv_at hl 2 rfl) ?_
        refine lv_iload_n C.x C.b dX12_ladderRuns_70 rfl (lv_at hl 3 rfl) ?_
        refine lv_bipush (v := 7) C.x C.b dX12_ladderRuns_71 (by decide) ?_
        replace hf := x_b1 hf; obtain ⟨_, hk73_15, hf⟩ := hf
        replace hf := x_b1 hf; obtain ⟨x73_16, hx73_16, hf⟩ := hf
        refine x_callV (As := [.int v1, .int 7]) (a := o) (rest := [.int x37_10]) C hW hl (qX12_its l E hx73_16) (x_gk hk73_15) (by decide) (by decide) rfl gv_X12_67 ⟨rfl, hd_X12_its⟩ rfl rfl (Nat.le_of_ble_eq_true rfl) dX12_ladderRuns_73 ⟨Nat.le_of_ble_eq_true rfl, Nat.le_of_ble_eq_true rfl⟩ ⟨Nat.le_of_ble_eq_true rfl, Nat.le_of_ble_eq_true rfl⟩ (fun H locs hW => ?_)
        refine lv_icmp_le (tgt := 91) C.x C.b dX12_ladderRuns_76 rfl (fun c76 => ?_) (fun c76 => ?_)
        · replace hf := x_ip c76 hf
          refine lv_iload C.x C.b dX12_ladderRuns_91 (lv_at hl 4 rfl) ?_
          refine lv_istore (lv' := [(4, .int _), (3, .int _), (6, .int _), (0, .ref (E.b + _)), (1, .int _), (5, .int _)]) C.x C.b dX12_ladderRuns_93 hl (by decide) rfl (fun ls hl => ?_)
          refine lv_iinc (v := (v5 + 1)) (lv' := [(5, .int (v5 + 1)), (4, .int _), (3, .int _), (6, .int _), (0, .ref (E.b + _)), (1, .int _)]) C.x C.b dX12_ladderRuns_95 hl (k := 5) rfl (by first | rfl | decide) (by decide) rfl (fun ls hl => ?_)
          refine lv_goto (tgt := 18) C.x C.b dX12_ladderRuns_98 rfl ?_
          exact ih (mxI v3 (x37_10 + 1)) v4 (v5 + 1) M hf _ _ _ hW (lv_sub hl [4, 5, 2, 1, 0] rfl)
        · replace hf := x_in c76 hf
          refine lv_iload C.x C.b dX12_ladderRuns_79 (lv_at hl 4 rfl) ?_
          refine lv_iload C.x C.b dX12_ladderRuns_81 (lv_at hl 1 rfl) ?_
          refine lv_iconst (v := 1) C.x C.b dX12_ladderRuns_83 (by decide) ?_
          refine lv_isub C.x C.b dX12_ladderRuns_84 ?_
          refine x_mmin C hl T_7_73 T_3_160 T_1_15 T_3_161 (Nat.le_of_ble_eq_true rfl) (Nat.le_of_ble_eq_true rfl) ⟨Nat.le_of_ble_eq_true rfl, Nat.le_of_ble_eq_true rfl⟩ dX12_ladderRuns_85 ?_
          refine lv_goto (tgt := 93) C.x C.b dX12_ladderRuns_88 rfl ?_
          refine lv_istore (lv' := [(4, .int _), (3, .int _), (6, .int _), (0, .ref (E.b + _)), (1, .int _), (5, .int _)]) C.x C.b dX12_ladderRuns_93 hl (by decide) rfl (fun ls hl => ?_)
          refine lv_iinc (v := (v5 + 1)) (lv' := [(5, .int (v5 + 1)), (4, .int _), (3, .int _), (6, .int _), (0, .ref (E.b + _)), (1, .int _)]) C.x C.b dX12_ladderRuns_95 hl (k := 5) rfl (by first | rfl | decide) (by decide) rfl (fun ls hl => ?_)
          refine lv_goto (tgt := 18) C.x C.b dX12_ladderRuns_98 rfl ?_
          exact ih (mxI v3 (x37_10 + 1)) (mnI v4 (x37_10 - 1)) (v5 + 1) M hf _ _ _ hW (lv_sub hl [4, 5, 2, 1, 0] rfl)
set_option maxRecDepth 100000 in
set_option maxHeartbeats 4000000 in
theorem qX12_ladderRuns (l : Launch) (E : Ev) {M : Mm} {o : Nat} {p1 : Int32} {p2 : Int32} {Mz : Mm} (hf : fX12_ladderRuns M o p1 p2 = some Mz) : Ct l E yX12_ladderRuns cX12_ladderRuns 7 none 3 72 0 0 [.ref (E.b + o), .int p1, .int p2] M none Mz := by
  refine ct_of (by decide +kernel) (Nat.le_of_ble_eq_true rfl) fun p e s m args below meth c C hr hin hW ls hl => ?_
  have hl : lv_has ls 7 [(0, .ref (E.b + o)), (1, .int p1), (2, .int p2)] := hl
  unfold fX12_ladderRuns at hf
  refine lv_aload_n C.x C.b dX12_ladderRuns_0 rfl (lv_at hl 0 rfl) ?_
  refine lv_iload_n C.x C.b dX12_ladderRuns_1 rfl (lv_at hl 1 rfl) ?_
  refine lv_iload_n C.x C.b dX12_ladderRuns_2 rfl (lv_at hl 2 rfl) ?_
  replace hf := x_b1 hf; obtain ⟨_, hk3_1, hf⟩ := hf
  replace hf := x_b1 hf; obtain ⟨x3_2, hx3_2, hf⟩ := hf
  refine x_callV (As := [.int p1, .int p2]) (a := o) (rest := []) C hW hl (qX12_lowestBy l E hx3_2) (x_gk hk3_1) (by decide) (by decide) rfl gv_X12_169 ⟨rfl, hd_X12_lowestBy⟩ rfl rfl (Nat.le_of_ble_eq_true rfl) dX12_ladderRuns_3 ⟨Nat.le_of_ble_eq_true rfl, Nat.le_of_ble_eq_true rfl⟩ ⟨Nat.le_of_ble_eq_true rfl, Nat.le_of_ble_eq_true rfl⟩ (fun H locs hW => ?_)
  refine lv_istore_n (lv' := [(3, .int _), (0, .ref (E.b + _)), (1, .int _), (2, .int _)]) C.x C.b dX12_ladderRuns_6 rfl hl (by decide) rfl (fun ls hl => ?_)
  refine lv_aload_n C.x C.b dX12_ladderRuns_7 rfl (lv_at hl 1 rfl) ?_
  refine lv_iload_n C.x C.b dX12_ladderRuns_8 rfl (lv_at hl 2 rfl) ?_
  refine lv_iload_n C.x C.b dX12_ladderRuns_9 rfl (lv_at hl 3 rfl) ?_
  replace hf := x_b1 hf; obtain ⟨_, hk10_3, hf⟩ := hf
  replace hf := x_b1 hf; obtain ⟨x10_4, hx10_4, hf⟩ := hf
  refine x_callV (As := [.int p1, .int p2]) (a := o) (rest := []) C hW hl (qX12_highestBy l E hx10_4) (x_gk hk10_3) (by decide) (by decide) rfl gv_X12_172 ⟨rfl, hd_X12_highestBy⟩ rfl rfl (Nat.le_of_ble_eq_true rfl) dX12_ladderRuns_10 ⟨Nat.le_of_ble_eq_true rfl, Nat.le_of_ble_eq_true rfl⟩ ⟨Nat.le_of_ble_eq_true rfl, Nat.le_of_ble_eq_true rfl⟩ (fun H locs hW => ?_)
  refine lv_istore (lv' := [(4, .int _), (3, .int _), (0, .ref (E.b + _)), (1, .int _), (2, .int _)]) C.x C.b dX12_ladderRuns_13 hl (by decide) rfl (fun ls hl => ?_)
  refine lv_iconst (v := 0) C.x C.b dX12_ladderRuns_15 (by decide) ?_
  refine lv_istore (lv' := [(5, .int _), (4, .int _), (3, .int _), (0, .ref (E.b + _)), (1, .int _), (2, .int _)]) C.x C.b dX12_ladderRuns_16 hl (by decide) rfl (fun ls hl => ?_)
  exact kX12_ladderRuns_L18 C hr hin FL x3_2 x10_4 0 M hf _ _ _ hW (lv_sub hl [3, 4, 2, 1, 0] rfl)

theorem dX12_moves_0 : decode cX12_moves 0 = .ok (.iload_n 2, 1) := by decide +kernel
theorem dX12_moves_1 : decode cX12_moves 1 = .ok (.iconst 3, 1) := by decide +kernel
theorem dX12_moves_2 : decode cX12_moves 2 = .ok (.if_icmp .ne 10, 3) := by decide +kernel
theorem dX12_moves_5 : decode cX12_moves 5 = .ok (.aload_n 0, 1) := by decide +kernel
theorem dX12_moves_6 : decode cX12_moves 6 = .ok (.iload_n 1, 1) := by decide +kernel
theorem dX12_moves_7 : decode cX12_moves 7 = .ok (.iconst 1, 1) := by decide +kernel
theorem dX12_moves_8 : decode cX12_moves 8 = .ok (.invokevirtual 175, 3) := by decide +kernel
theorem dX12_moves_11 : decode cX12_moves 11 = .ok (.return_, 1) := by decide +kernel
theorem dX12_moves_12 : decode cX12_moves 12 = .ok (.aload_n 0, 1) := by decide +kernel
theorem dX12_moves_13 : decode cX12_moves 13 = .ok (.iload_n 1, 1) := by decide +kernel
theorem dX12_moves_14 : decode cX12_moves 14 = .ok (.invokevirtual 179, 3) := by decide +kernel
theorem dX12_moves_17 : decode cX12_moves 17 = .ok (.aload_n 0, 1) := by decide +kernel
theorem dX12_moves_18 : decode cX12_moves 18 = .ok (.iload_n 1, 1) := by decide +kernel
theorem dX12_moves_19 : decode cX12_moves 19 = .ok (.invokevirtual 71, 3) := by decide +kernel
theorem dX12_moves_22 : decode cX12_moves 22 = .ok (.ifCond .eq 9, 3) := by decide +kernel
theorem dX12_moves_25 : decode cX12_moves 25 = .ok (.aload_n 0, 1) := by decide +kernel
theorem dX12_moves_26 : decode cX12_moves 26 = .ok (.iload_n 1, 1) := by decide +kernel
theorem dX12_moves_27 : decode cX12_moves 27 = .ok (.iload_n 2, 1) := by decide +kernel
theorem dX12_moves_28 : decode cX12_moves 28 = .ok (.invokevirtual 183, 3) := by decide +kernel
theorem dX12_moves_31 : decode cX12_moves 31 = .ok (.return_, 1) := by decide +kernel
theorem hd_X12_losesWet : yX12_losesWet.cls ≠ "java/lang/invoke/MethodHandle" ∧ yX12_losesWet.cls ≠ "java/lang/invoke/VarHandle" ∧ (parseMethodDescriptor yX12_losesWet.desc).map (fun d => d.parameters.length) = some 1 := by decide +kernel
theorem gv_X12_179 : GoodIn gT (wsV "NylonLadderModel" 179 "NylonLadderModel" yX12_losesWet (Cond.code yX12_losesWet cX12_losesWet 4 none :: gT)) := good_V T_7_53 T_7_55 TS_49 T_1_10 T_7_56
theorem hd_X12_ladderRuns : yX12_ladderRuns.cls ≠ "java/lang/invoke/MethodHandle" ∧ yX12_ladderRuns.cls ≠ "java/lang/invoke/VarHandle" ∧ (parseMethodDescriptor yX12_ladderRuns.desc).map (fun d => d.parameters.length) = some 2 := by decide +kernel
theorem gv_X12_183 : GoodIn gT (wsV "NylonLadderModel" 183 "NylonLadderModel" yX12_ladderRuns (Cond.code yX12_ladderRuns cX12_ladderRuns 7 none :: gT)) := good_V T_7_57 T_7_59 TS_50 T_1_10 T_7_60
theorem hd_X12_dries : yX12_dries.cls ≠ "java/lang/invoke/MethodHandle" ∧ yX12_dries.cls ≠ "java/lang/invoke/VarHandle" ∧ (parseMethodDescriptor yX12_dries.desc).map (fun d => d.parameters.length) = some 2 := by decide +kernel
theorem gv_X12_175 : GoodIn gT (wsV "NylonLadderModel" 175 "NylonLadderModel" yX12_dries (Cond.code yX12_dries cX12_dries 4 none :: gT)) := good_V T_7_48 T_7_50 TS_48 T_1_10 T_7_51
def fX12_moves (M : Mm) (o : Nat) (p1 : Int32) (p2 : Int32) : Option Mm :=
  if p2 = 3 then
    B1 (gk M o 15) fun _ =>
    B1 (fX12_dries M o p1 1) fun M8_8 =>
    some M8_8
  else
    B1 (gk M o 15) fun _ =>
    B1 (fX12_losesWet M o p1) fun M14_2 =>
    B1 (gk M14_2 o 15) fun _ =>
    B1 (fX12_hasLadder M14_2 o p1) fun x19_4 =>
    if x19_4 = 0 then
      some M14_2
    else
      B1 (gk M14_2 o 15) fun _ =>
      B1 (fX12_ladderRuns M14_2 o p1 p2) fun M28_6 =>
      some M28_6
set_option maxRecDepth 100000 in
set_option maxHeartbeats 4000000 in
theorem qX12_moves (l : Launch) (E : Ev) {M : Mm} {o : Nat} {p1 : Int32} {p2 : Int32} {Mz : Mm} (hf : fX12_moves M o p1 p2 = some Mz) : Ct l E yX12_moves cX12_moves 3 none 4 98 0 0 [.ref (E.b + o), .int p1, .int p2] M none Mz := by
  refine ct_of (by decide +kernel) (Nat.le_of_ble_eq_true rfl) fun p e s m args below meth c C hr hin hW ls hl => ?_
  have hl : lv_has ls 3 [(0, .ref (E.b + o)), (1, .int p1), (2, .int p2)] := hl
  unfold fX12_moves at hf
  refine lv_iload_n C.x C.b dX12_moves_0 rfl (lv_at hl 2 rfl) ?_
  refine lv_iconst (v := 3) C.x C.b dX12_moves_1 (by decide) ?_
  refine lv_icmp_ne (tgt := 12) C.x C.b dX12_moves_2 rfl (fun c2 => ?_) (fun c2 => ?_)
  · replace hf := x_in c2 hf
    refine lv_aload_n C.x C.b dX12_moves_12 rfl (lv_at hl 0 rfl) ?_
    refine lv_iload_n C.x C.b dX12_moves_13 rfl (lv_at hl 1 rfl) ?_
    replace hf := x_b1 hf; obtain ⟨_, hk14_1, hf⟩ := hf
    replace hf := x_b1 hf; obtain ⟨M14_2, hM14_2, hf⟩ := hf
    refine x_callV (As := [.int p1]) (a := o) (rest := []) C hW hl (qX12_losesWet l E hM14_2) (x_gk hk14_1) (by decide) (by decide) rfl gv_X12_179 ⟨rfl, hd_X12_losesWet⟩ rfl rfl (Nat.le_of_ble_eq_true rfl) dX12_moves_14 ⟨Nat.le_of_ble_eq_true rfl, Nat.le_of_ble_eq_true rfl⟩ ⟨Nat.le_of_ble_eq_true rfl, Nat.le_of_ble_eq_true rfl⟩ (fun H locs hW => ?_)
    refine lv_aload_n C.x C.b dX12_moves_17 rfl (lv_at hl 0 rfl) ?_
    refine lv_iload_n C.x C.b dX12_moves_18 rfl (lv_at hl 1 rfl) ?_
    replace hf := x_b1 hf; obtain ⟨_, hk19_3, hf⟩ := hf
    replace hf := x_b1 hf; obtain ⟨x19_4, hx19_4, hf⟩ := hf
    refine x_callV (As := [.int p1]) (a := o) (rest := []) C hW hl (qX12_hasLadder l E hx19_4) (x_gk hk19_3) (by decide) (by decide) rfl gv_X12_71 ⟨rfl, hd_X12_hasLadder⟩ rfl rfl (Nat.le_of_ble_eq_true rfl) dX12_moves_19 ⟨Nat.le_of_ble_eq_true rfl, Nat.le_of_ble_eq_true rfl⟩ ⟨Nat.le_of_ble_eq_true rfl, Nat.le_of_ble_eq_true rfl⟩ (fun H locs hW => ?_)
    refine lv_if_eq (tgt := 31) C.x C.b dX12_moves_22 rfl (fun c22 => ?_) (fun c22 => ?_)
    · replace hf := x_ip c22 hf
      rw [x_e0 hf]
      exact x_vret C hr hW dX12_moves_31
    · replace hf := x_in c22 hf
      refine lv_aload_n C.x C.b dX12_moves_25 rfl (lv_at hl 0 rfl) ?_
      refine lv_iload_n C.x C.b dX12_moves_26 rfl (lv_at hl 1 rfl) ?_
      refine lv_iload_n C.x C.b dX12_moves_27 rfl (lv_at hl 2 rfl) ?_
      replace hf := x_b1 hf; obtain ⟨_, hk28_5, hf⟩ := hf
      replace hf := x_b1 hf; obtain ⟨M28_6, hM28_6, hf⟩ := hf
      refine x_callV (As := [.int p1, .int p2]) (a := o) (rest := []) C hW hl (qX12_ladderRuns l E hM28_6) (x_gk hk28_5) (by decide) (by decide) rfl gv_X12_183 ⟨rfl, hd_X12_ladderRuns⟩ rfl rfl (Nat.le_of_ble_eq_true rfl) dX12_moves_28 ⟨Nat.le_of_ble_eq_true rfl, Nat.le_of_ble_eq_true rfl⟩ ⟨Nat.le_of_ble_eq_true rfl, Nat.le_of_ble_eq_true rfl⟩ (fun H locs hW => ?_)
      rw [x_e0 hf]
      exact x_vret C hr hW dX12_moves_31
  · replace hf := x_ip c2 hf
    refine lv_aload_n C.x C.b dX12_moves_5 rfl (lv_at hl 0 rfl) ?_
    refine lv_iload_n C.x C.b dX12_moves_6 rfl (lv_at hl 1 rfl) ?_
    refine lv_iconst (v := 1) C.x C.b dX12_moves_7 (by decide) ?_
    replace hf := x_b1 hf; obtain ⟨_, hk8_7, hf⟩ := hf
    replace hf := x_b1 hf; obtain ⟨M8_8, hM8_8, hf⟩ := hf
    refine x_callV (As := [.int p1, .int 1]) (a := o) (rest := []) C hW hl (qX12_dries l E hM8_8) (x_gk hk8_7) (by decide) (by decide) rfl gv_X12_175 ⟨rfl, hd_X12_dries⟩ rfl rfl (Nat.le_of_ble_eq_true rfl) dX12_moves_8 ⟨Nat.le_of_ble_eq_true rfl, Nat.le_of_ble_eq_true rfl⟩ ⟨Nat.le_of_ble_eq_true rfl, Nat.le_of_ble_eq_true rfl⟩ (fun H locs hW => ?_)
    rw [x_e0 hf]
    exact x_vret C hr hW dX12_moves_11

theorem dX12_allMove_0 : decode cX12_allMove 0 = .ok (.iconst 0, 1) := by decide +kernel
theorem dX12_allMove_1 : decode cX12_allMove 1 = .ok (.istore_n 2, 1) := by decide +kernel
theorem dX12_allMove_2 : decode cX12_allMove 2 = .ok (.iload_n 2, 1) := by decide +kernel
theorem dX12_allMove_3 : decode cX12_allMove 3 = .ok (.iconst 2, 1) := by decide +kernel
theorem dX12_allMove_4 : decode cX12_allMove 4 = .ok (.if_icmp .ge 33, 3) := by decide +kernel
theorem dX12_allMove_7 : decode cX12_allMove 7 = .ok (.aload_n 0, 1) := by decide +kernel
theorem dX12_allMove_8 : decode cX12_allMove 8 = .ok (.getfield 9, 3) := by decide +kernel
theorem dX12_allMove_11 : decode cX12_allMove 11 = .ok (.iconst 2, 1) := by decide +kernel
theorem dX12_allMove_12 : decode cX12_allMove 12 = .ok (.iload_n 2, 1) := by decide +kernel
theorem dX12_allMove_13 : decode cX12_allMove 13 = .ok (.iadd, 1) := by decide +kernel
theorem dX12_allMove_14 : decode cX12_allMove 14 = .ok (.iaload, 1) := by decide +kernel
theorem dX12_allMove_15 : decode cX12_allMove 15 = .ok (.ifCond .lt 16, 3) := by decide +kernel
theorem dX12_allMove_18 : decode cX12_allMove 18 = .ok (.aload_n 0, 1) := by decide +kernel
theorem dX12_allMove_19 : decode cX12_allMove 19 = .ok (.aload_n 0, 1) := by decide +kernel
theorem dX12_allMove_20 : decode cX12_allMove 20 = .ok (.getfield 9, 3) := by decide +kernel
theorem dX12_allMove_23 : decode cX12_allMove 23 = .ok (.iconst 2, 1) := by decide +kernel
theorem dX12_allMove_24 : decode cX12_allMove 24 = .ok (.iload_n 2, 1) := by decide +kernel
theorem dX12_allMove_25 : decode cX12_allMove 25 = .ok (.iadd, 1) := by decide +kernel
theorem dX12_allMove_26 : decode cX12_allMove 26 = .ok (.iaload, 1) := by decide +kernel
theorem dX12_allMove_27 : decode cX12_allMove 27 = .ok (.iload_n 1, 1) := by decide +kernel
theorem dX12_allMove_28 : decode cX12_allMove 28 = .ok (.invokevirtual 186, 3) := by decide +kernel
theorem dX12_allMove_31 : decode cX12_allMove 31 = .ok (.iinc 2 1, 3) := by decide +kernel
theorem dX12_allMove_34 : decode cX12_allMove 34 = .ok (.goto (-32), 3) := by decide +kernel
theorem dX12_allMove_37 : decode cX12_allMove 37 = .ok (.return_, 1) := by decide +kernel
theorem hd_X12_moves : yX12_moves.cls ≠ "java/lang/invoke/MethodHandle" ∧ yX12_moves.cls ≠ "java/lang/invoke/VarHandle" ∧ (parseMethodDescriptor yX12_moves.desc).map (fun d => d.parameters.length) = some 2 := by decide +kernel
theorem gv_X12_186 : GoodIn gT (wsV "NylonLadderModel" 186 "NylonLadderModel" yX12_moves (Cond.code yX12_moves cX12_moves 3 none :: gT)) := good_V T_7_44 T_7_46 TS_47 T_1_10 T_7_47
def fX12_allMove_L2 (o : Nat) (v1 : Int32) : Nat → Int32 → Mm → Option Mm
  | 0, _, _ => none
  | n + 1, v2, M =>
    if 2 ≤ v2 then
      some M
    else
      B1 (rdN M o 15 0) fun a8_1 =>
      B1 (alI M a8_1 (2 + v2)) fun x14_2 =>
      if x14_2 < 0 then
        fX12_allMove_L2 o v1 n (v2 + 1) M
      else
        B1 (rdN M o 15 0) fun a20_3 =>
        B1 (alI M a20_3 (2 + v2)) fun x26_4 =>
        B1 (gk M o 15) fun _ =>
        B1 (fX12_moves M o x26_4 v1) fun M28_6 =>
        fX12_allMove_L2 o v1 n (v2 + 1) M28_6
def fX12_allMove (M : Mm) (o : Nat) (p1 : Int32) : Option Mm :=
  fX12_allMove_L2 o p1 FL 0 M
set_option maxRecDepth 100000 in
set_option maxHeartbeats 4000000 in
theorem kX12_allMove_L2 {l : Launch} {E : Ev} {p : Program} {e : Env} {s : State} {m : MethodId} {args : Array Value} {below : List Frame} {meth : Method} {c : Code} (C : Cx E p s m args meth c cX12_allMove yX12_allMove.cls 3) (hr : meth.sig.returnType = none) (hin : yX12_allMove.name = "<init>" → meth.name = "<init>")  {o : Nat} {v1 : Int32} {Mz : Mm} : ∀ (n : Nat) (v2 : Int32) (M : Mm), fX12_allMove_L2 o v1 n v2 M = some Mz → ∀ (H : Heap) (locs : List Loc) (ls : Array Slot), Wx E s H locs M → lv_has ls 3 [(0, .ref (E.b + o)), (1, .int v1), (2, .int v2)] → W p l e (rM 5 120 0 0) s m args below meth c H locs 0 0 (MQ below (Qp E none Mz) args s 0 0 E.A) (F0 m 2 ls []) := by
  intro n
  induction n with
  | zero =>
    intro v2 M hf
    unfold fX12_allMove_L2 at hf
    cases hf
  | succ n ih =>
    intro v2 M hf H locs ls hW hl
    unfold fX12_allMove_L2 at hf
    refine lv_iload_n C.x C.b dX12_allMove_2 rfl (lv_at hl 2 rfl) ?_
    refine lv_iconst (v := 2) C.x C.b dX12_allMove_3 (by decide) ?_
    refine lv_icmp_ge (tgt := 37) C.x C.b dX12_allMove_4 rfl (fun c4 => ?_) (fun c4 => ?_)
    · replace hf := x_ip c4 hf
      rw [x_e0 hf]
      exact x_vret C hr hW dX12_allMove_37
    · replace hf := x_in c4 hf
      refine lv_aload_n C.x C.b dX12_allMove_7 rfl (lv_at hl 0 rfl) ?_
      replace hf := x_b1 hf; obtain ⟨a8_1, ha8_1, hf⟩ := hf
      refine x_getn C hW fg_X12_9_15 ha8_1 dX12_allMove_8 ?_
      refine lv_iconst (v := 2) C.x C.b dX12_allMove_11 (by decide) ?_
      refine lv_iload_n C.x C.b dX12_allMove_12 rfl (lv_at hl 2 rfl) ?_
      refine lv_iadd C.x C.b dX12_allMove_13 ?_
      replace hf := x_b1 hf; obtain ⟨x14_2, hx14_2, hf⟩ := hf
      refine x_iald C hW hx14_2 dX12_allMove_14 ?_
      refine lv_if_lt (tgt := 31) C.x C.b dX12_allMove_15 rfl (fun c15 => ?_) (fun c15 => ?_)
      · replace hf := x_ip c15 hf
        refine lv_iinc (v := (v2 + 1)) (lv' := [(2, .int (v2 + 1)), (0, .ref (E.b + _)), (1, .int _)]) C.x C.b dX12_allMove_31 hl (k := 2) rfl (by first | rfl | decide) (by decide) rfl (fun ls hl => ?_)
        refine lv_goto (tgt := 2) C.x C.b dX12_allMove_34 rfl ?_
        exact ih (v2 + 1) M hf _ _ _ hW (lv_sub hl [1, 2, 0] rfl)
      · replace hf := x_in c15 hf
        refine lv_aload_n C.x C.b dX12_allMove_18 rfl (lv_at hl 0 rfl) ?_
        refine lv_aload_n C.x C.b dX12_allMove_19 rfl (lv_at hl 0 rfl) ?_
        replace hf := x_b1 hf; obtain ⟨a20_3, ha20_3, hf⟩ := hf
        refine x_getn C hW fg_X12_9_15 ha20_3 dX12_allMove_20 ?_
        refine lv_iconst (v := 2) C.x C.b dX12_allMove_23 (by decide) ?_
        refine lv_iload_n C.x C.b dX12_allMove_24 rfl (lv_at hl 2 rfl) ?_
        refine lv_iadd C.x C.b dX12_allMove_25 ?_
        replace hf := x_b1 hf; obtain ⟨x26_4, hx26_4, hf⟩ := hf
        refine x_iald C hW hx26_4 dX12_allMove_26 ?_
        refine lv_iload_n C.x C.b dX12_allMove_27 rfl (lv_at hl 1 rfl) ?_
        replace hf := x_b1 hf; obtain ⟨_, hk28_5, hf⟩ := hf
        replace hf := x_b1 hf; obtain ⟨M28_6, hM28_6, hf⟩ := hf
        refine x_callV (As := [.int x26_4, .int v1]) (a := o) (rest := []) C hW hl (qX12_moves l E hM28_6) (x_gk hk28_5) (by decide) (by decide) rfl gv_X12_186 ⟨rfl, hd_X12_moves⟩ rfl rfl (Nat.le_of_ble_eq_true rfl) dX12_allMove_28 ⟨Nat.le_of_ble_eq_true rfl, Nat.le_of_ble_eq_true rfl⟩ ⟨Nat.le_of_ble_eq_true rfl, Nat.le_of_ble_eq_true rfl⟩ (fun H locs hW => ?_)
        refine lv_iinc (v := (v2 + 1)) (lv' := [(2, .int (v2 + 1)), (0, .ref (E.b + _)), (1, .int _)]) C.x C.b dX12_allMove_31 hl (k := 2) rfl (by first | rfl | decide) (by decide) rfl (fun ls hl => ?_)
        refine lv_goto (tgt := 2) C.x C.b dX12_allMove_34 rfl ?_
        exact ih (v2 + 1) M28_6 hf _ _ _ hW (lv_sub hl [1, 2, 0] rfl)
set_option maxRecDepth 100000 in
set_option maxHeartbeats 4000000 in
theorem qX12_allMove (l : Launch) (E : Ev) {M : Mm} {o : Nat} {p1 : Int32} {Mz : Mm} (hf : fX12_allMove M o p1 = some Mz) : Ct l E yX12_allMove cX12_allMove 3 none 5 120 0 0 [.ref (E.b + o), .int p1] M none Mz := by
  refine ct_of (by decide +kernel) (Nat.le_of_ble_eq_true rfl) fun p e s m args below meth c C hr hin hW ls hl => ?_
  have hl : lv_has ls 3 [(0, .ref (E.b + o)), (1, .int p1)] := hl
  unfold fX12_allMove at hf
  refine lv_iconst (v := 0) C.x C.b dX12_allMove_0 (by decide) ?_
  refine lv_istore_n (lv' := [(2, .int _), (0, .ref (E.b + _)), (1, .int _)]) C.x C.b dX12_allMove_1 rfl hl (by decide) rfl (fun ls hl => ?_)
  exact kX12_allMove_L2 C hr hin FL 0 M hf _ _ _ hW (lv_sub hl [1, 2, 0] rfl)

theorem dX12_openOn_0 : decode cX12_openOn 0 = .ok (.iconst 0, 1) := by decide +kernel
theorem dX12_openOn_1 : decode cX12_openOn 1 = .ok (.istore_n 1, 1) := by decide +kernel
theorem dX12_openOn_2 : decode cX12_openOn 2 = .ok (.iconst 0, 1) := by decide +kernel
theorem dX12_openOn_3 : decode cX12_openOn 3 = .ok (.istore_n 2, 1) := by decide +kernel
theorem dX12_openOn_4 : decode cX12_openOn 4 = .ok (.iload_n 2, 1) := by decide +kernel
theorem dX12_openOn_5 : decode cX12_openOn 5 = .ok (.iconst 2, 1) := by decide +kernel
theorem dX12_openOn_6 : decode cX12_openOn 6 = .ok (.if_icmp .ge 39, 3) := by decide +kernel
theorem dX12_openOn_9 : decode cX12_openOn 9 = .ok (.iload_n 1, 1) := by decide +kernel
theorem dX12_openOn_10 : decode cX12_openOn 10 = .ok (.aload_n 0, 1) := by decide +kernel
theorem dX12_openOn_11 : decode cX12_openOn 11 = .ok (.getfield 9, 3) := by decide +kernel
theorem dX12_openOn_14 : decode cX12_openOn 14 = .ok (.iconst 2, 1) := by decide +kernel
theorem dX12_openOn_15 : decode cX12_openOn 15 = .ok (.iload_n 2, 1) := by decide +kernel
theorem dX12_openOn_16 : decode cX12_openOn 16 = .ok (.iadd, 1) := by decide +kernel
theorem dX12_openOn_17 : decode cX12_openOn 17 = .ok (.iaload, 1) := by decide +kernel
theorem dX12_openOn_18 : decode cX12_openOn 18 = .ok (.ifCond .ge 7, 3) := by decide +kernel
theorem dX12_openOn_21 : decode cX12_openOn 21 = .ok (.iconst 0, 1) := by decide +kernel
theorem dX12_openOn_22 : decode cX12_openOn 22 = .ok (.goto 15, 3) := by decide +kernel
theorem dX12_openOn_25 : decode cX12_openOn 25 = .ok (.aload_n 0, 1) := by decide +kernel
theorem dX12_openOn_26 : decode cX12_openOn 26 = .ok (.aload_n 0, 1) := by decide +kernel
theorem dX12_openOn_27 : decode cX12_openOn 27 = .ok (.getfield 9, 3) := by decide +kernel
theorem dX12_openOn_30 : decode cX12_openOn 30 = .ok (.iconst 2, 1) := by decide +kernel
theorem dX12_openOn_31 : decode cX12_openOn 31 = .ok (.iload_n 2, 1) := by decide +kernel
theorem dX12_openOn_32 : decode cX12_openOn 32 = .ok (.iadd, 1) := by decide +kernel
theorem dX12_openOn_33 : decode cX12_openOn 33 = .ok (.iaload, 1) := by decide +kernel
theorem dX12_openOn_34 : decode cX12_openOn 34 = .ok (.invokevirtual 108, 3) := by decide +kernel
theorem dX12_openOn_37 : decode cX12_openOn 37 = .ok (.iadd, 1) := by decide +kernel
theorem dX12_openOn_38 : decode cX12_openOn 38 = .ok (.istore_n 1, 1) := by decide +kernel
theorem dX12_openOn_39 : decode cX12_openOn 39 = .ok (.iinc 2 1, 3) := by decide +kernel
theorem dX12_openOn_42 : decode cX12_openOn 42 = .ok (.goto (-38), 3) := by decide +kernel
theorem dX12_openOn_45 : decode cX12_openOn 45 = .ok (.iload_n 1, 1) := by decide +kernel
theorem dX12_openOn_46 : decode cX12_openOn 46 = .ok (.ireturn, 1) := by decide +kernel
def fX12_openOn_L4 (M : Mm) (o : Nat) : Nat → Int32 → Int32 → Option Int32
  | 0, _, _ => none
  | n + 1, v1, v2 =>
    if 2 ≤ v2 then
      some v1
    else
      B1 (rdN M o 15 0) fun a11_1 =>
      B1 (alI M a11_1 (2 + v2)) fun x17_2 =>
      if 0 ≤ x17_2 then
        B1 (rdN M o 15 0) fun a27_3 =>
        B1 (alI M a27_3 (2 + v2)) fun x33_4 =>
        B1 (gk M o 15) fun _ =>
        B1 (fX12_openOf M o x33_4) fun x34_6 =>
        fX12_openOn_L4 M o n (v1 + x34_6) (v2 + 1)
      else
        fX12_openOn_L4 M o n (v1 + 0) (v2 + 1)
def fX12_openOn (M : Mm) (o : Nat) : Option Int32 :=
  fX12_openOn_L4 M o FL 0 0
set_option maxRecDepth 100000 in
set_option maxHeartbeats 4000000 in
theorem kX12_openOn_L4 {l : Launch} {E : Ev} {p : Program} {e : Env} {s : State} {m : MethodId} {args : Array Value} {below : List Frame} {meth : Method} {c : Code} (C : Cx E p s m args meth c cX12_openOn yX12_openOn.cls 3) (hr : meth.sig.returnType = (some .int)) (hin : yX12_openOn.name = "<init>" → meth.name = "<init>") {M : Mm}  {o : Nat} {rz : Int32} : ∀ (n : Nat) (v1 : Int32) (v2 : Int32), fX12_openOn_L4 M o n v1 v2 = some rz → ∀ (H : Heap) (locs : List Loc) (ls : Array Slot), Wx E s H locs M → lv_has ls 3 [(0, .ref (E.b + o)), (1, .int v1), (2, .int v2)] → W p l e (rM 3 64 0 0) s m args below meth c H locs 0 0 (MQ below (Qp E (some (.int rz)) M) args s 0 0 E.A) (F0 m 4 ls []) := by
  intro n
  induction n with
  | zero =>
    intro v1 v2 hf
    unfold fX12_openOn_L4 at hf
    cases hf
  | succ n ih =>
    intro v1 v2 hf H locs ls hW hl
    unfold fX12_openOn_L4 at hf
    refine lv_iload_n C.x C.b dX12_openOn_4 rfl (lv_at hl 2 rfl) ?_
    refine lv_iconst (v := 2) C.x C.b dX12_openOn_5 (by decide) ?_
    refine lv_icmp_ge (tgt := 45) C.x C.b dX12_openOn_6 rfl (fun c6 => ?_) (fun c6 => ?_)
    · replace hf := x_ip c6 hf
      refine lv_iload_n C.x C.b dX12_openOn_45 rfl (lv_at hl 1 rfl) ?_
      rw [x_e0 hf]
      exact x_iret C hr hW dX12_openOn_46
    · replace hf := x_in c6 hf
      refine lv_iload_n C.x C.b dX12_openOn_9 rfl (lv_at hl 1 rfl) ?_
      refine lv_aload_n C.x C.b dX12_openOn_10 rfl (lv_at hl 0 rfl) ?_
      replace hf := x_b1 hf; obtain ⟨a11_1, ha11_1, hf⟩ := hf
      refine x_getn C hW fg_X12_9_15 ha11_1 dX12_openOn_11 ?_
      refine lv_iconst (v := 2) C.x C.b dX12_openOn_14 (by decide) ?_
      refine lv_iload_n C.x C.b dX12_openOn_15 rfl (lv_at hl 2 rfl) ?_
      refine lv_iadd C.x C.b dX12_openOn_16 ?_
      replace hf := x_b1 hf; obtain ⟨x17_2, hx17_2, hf⟩ := hf
      refine x_iald C hW hx17_2 dX12_openOn_17 ?_
      refine lv_if_ge (tgt := 25) C.x C.b dX12_openOn_18 rfl (fun c18 => ?_) (fun c18 => ?_)
      · replace hf := x_ip c18 hf
        refine lv_aload_n C.x C.b dX12_openOn_25 rfl (lv_at hl 0 rfl) ?_
        refine lv_aload_n C.x C.b dX12_openOn_26 rfl (lv_at hl 0 rfl) ?_
        replace hf := x_b1 hf; obtain ⟨a27_3, ha27_3, hf⟩ := hf
        refine x_getn C hW fg_X12_9_15 ha27_3 dX12_openOn_27 ?_
        refine lv_iconst (v := 2) C.x C.b dX12_openOn_30 (by decide) ?_
        refine lv_iload_n C.x C.b dX12_openOn_31 rfl (lv_at hl 2 rfl) ?_
        refine lv_iadd C.x C.b dX12_openOn_32 ?_
        replace hf := x_b1 hf; obtain ⟨x33_4, hx33_4, hf⟩ := hf
        refine x_iald C hW hx33_4 dX12_openOn_33 ?_
        replace hf := x_b1 hf; obtain ⟨_, hk34_5, hf⟩ := hf
        replace hf := x_b1 hf; obtain ⟨x34_6, hx34_6, hf⟩ := hf
        refine x_callV (As := [.int x33_4]) (a := o) (rest := [.int v1]) C hW hl (qX12_openOf l E hx34_6) (x_gk hk34_5) (by decide) (by decide) rfl gv_X12_108 ⟨rfl, hd_X12_openOf⟩ rfl rfl (Nat.le_of_ble_eq_true rfl) dX12_openOn_34 ⟨Nat.le_of_ble_eq_true rfl, Nat.le_of_ble_eq_true rfl⟩ ⟨Nat.le_of_ble_eq_true rfl, Nat.le_of_ble_eq_true rfl⟩ (fun H locs hW => ?_)
        refine lv_iadd C.x C.b dX12_openOn_37 ?_
        refine lv_istore_n (lv' := [(1, .int _), (0, .ref (E.b + _)), (2, .int _)]) C.x C.b dX12_openOn_38 rfl hl (by decide) rfl (fun ls hl => ?_)
        refine lv_iinc (v := (v2 + 1)) (lv' := [(2, .int (v2 + 1)), (1, .int _), (0, .ref (E.b + _))]) C.x C.b dX12_openOn_39 hl (k := 2) rfl (by first | rfl | decide) (by decide) rfl (fun ls hl => ?_)
        refine lv_goto (tgt := 4) C.x C.b dX12_openOn_42 rfl ?_
        exact ih (v1 + x34_6) (v2 + 1) hf _ _ _ hW (lv_sub hl [2, 1, 0] rfl)
      · replace hf := x_in c18 hf
        refine lv_iconst (v := 0) C.x C.b dX12_openOn_21 (by decide) ?_
        refine lv_goto (tgt := 37) C.x C.b dX12_openOn_22 rfl ?_
        refine lv_iadd C.x C.b dX12_openOn_37 ?_
        refine lv_istore_n (lv' := [(1, .int _), (0, .ref (E.b + _)), (2, .int _)]) C.x C.b dX12_openOn_38 rfl hl (by decide) rfl (fun ls hl => ?_)
        refine lv_iinc (v := (v2 + 1)) (lv' := [(2, .int (v2 + 1)), (1, .int _), (0, .ref (E.b + _))]) C.x C.b dX12_openOn_39 hl (k := 2) rfl (by first | rfl | decide) (by decide) rfl (fun ls hl => ?_)
        refine lv_goto (tgt := 4) C.x C.b dX12_openOn_42 rfl ?_
        exact ih (v1 + 0) (v2 + 1) hf _ _ _ hW (lv_sub hl [2, 1, 0] rfl)
set_option maxRecDepth 100000 in
set_option maxHeartbeats 4000000 in
theorem qX12_openOn (l : Launch) (E : Ev) {M : Mm} {o : Nat} {rz : Int32} (hf : fX12_openOn M o = some rz) : Ct l E yX12_openOn cX12_openOn 3 (some .int) 3 64 0 0 [.ref (E.b + o)] M (some (.int rz)) M := by
  refine ct_of (by decide +kernel) (Nat.le_of_ble_eq_true rfl) fun p e s m args below meth c C hr hin hW ls hl => ?_
  have hl : lv_has ls 3 [(0, .ref (E.b + o))] := hl
  unfold fX12_openOn at hf
  refine lv_iconst (v := 0) C.x C.b dX12_openOn_0 (by decide) ?_
  refine lv_istore_n (lv' := [(1, .int _), (0, .ref (E.b + _))]) C.x C.b dX12_openOn_1 rfl hl (by decide) rfl (fun ls hl => ?_)
  refine lv_iconst (v := 0) C.x C.b dX12_openOn_2 (by decide) ?_
  refine lv_istore_n (lv' := [(2, .int _), (1, .int _), (0, .ref (E.b + _))]) C.x C.b dX12_openOn_3 rfl hl (by decide) rfl (fun ls hl => ?_)
  exact kX12_openOn_L4 C hr hin FL 0 0 hf _ _ _ hW (lv_sub hl [2, 1, 0] rfl)

theorem dX12_move_0 : decode cX12_move 0 = .ok (.iload_n 1, 1) := by decide +kernel
theorem dX12_move_1 : decode cX12_move 1 = .ok (.i2l, 1) := by decide +kernel
theorem dX12_move_2 : decode cX12_move 2 = .ok (.lconst 0, 1) := by decide +kernel
theorem dX12_move_3 : decode cX12_move 3 = .ok (.ldc2_w 91, 3) := by decide +kernel
theorem dX12_move_6 : decode cX12_move 6 = .ok (.invokestatic 61, 3) := by decide +kernel
theorem dX12_move_9 : decode cX12_move 9 = .ok (.ifCond .ne 5, 3) := by decide +kernel
theorem dX12_move_12 : decode cX12_move 12 = .ok (.iconst (-1), 1) := by decide +kernel
theorem dX12_move_13 : decode cX12_move 13 = .ok (.ireturn, 1) := by decide +kernel
theorem dX12_move_14 : decode cX12_move 14 = .ok (.aload_n 0, 1) := by decide +kernel
theorem dX12_move_15 : decode cX12_move 15 = .ok (.iload_n 1, 1) := by decide +kernel
theorem dX12_move_16 : decode cX12_move 16 = .ok (.invokevirtual 189, 3) := by decide +kernel
theorem dX12_move_19 : decode cX12_move 19 = .ok (.aload_n 0, 1) := by decide +kernel
theorem dX12_move_20 : decode cX12_move 20 = .ok (.invokevirtual 192, 3) := by decide +kernel
theorem dX12_move_23 : decode cX12_move 23 = .ok (.ireturn, 1) := by decide +kernel
theorem hd_X12_allMove : yX12_allMove.cls ≠ "java/lang/invoke/MethodHandle" ∧ yX12_allMove.cls ≠ "java/lang/invoke/VarHandle" ∧ (parseMethodDescriptor yX12_allMove.desc).map (fun d => d.parameters.length) = some 1 := by decide +kernel
theorem gv_X12_189 : GoodIn gT (wsV "NylonLadderModel" 189 "NylonLadderModel" yX12_allMove (Cond.code yX12_allMove cX12_allMove 3 none :: gT)) := good_V T_7_40 T_7_42 TS_46 T_1_10 T_7_43
theorem hd_X12_openOn : yX12_openOn.cls ≠ "java/lang/invoke/MethodHandle" ∧ yX12_openOn.cls ≠ "java/lang/invoke/VarHandle" ∧ (parseMethodDescriptor yX12_openOn.desc).map (fun d => d.parameters.length) = some 0 := by decide +kernel
theorem gv_X12_192 : GoodIn gT (wsV "NylonLadderModel" 192 "NylonLadderModel" yX12_openOn (Cond.code yX12_openOn cX12_openOn 3 (some .int) :: gT)) := good_V T_7_78 T_7_80 TS_55 T_1_10 T_7_81
def fX12_move (M : Mm) (o : Nat) (p1 : Int32) : Option (Int32 × Mm) :=
  B1 (fX12_in M (p1.toInt64) 0 3) fun x6_1 =>
  if x6_1 = 0 then
    some ((-1), M)
  else
    B1 (gk M o 15) fun _ =>
    B1 (fX12_allMove M o p1) fun M16_3 =>
    B1 (gk M16_3 o 15) fun _ =>
    B1 (fX12_openOn M16_3 o) fun x20_5 =>
    some (x20_5, M16_3)
set_option maxRecDepth 100000 in
set_option maxHeartbeats 4000000 in
theorem qX12_move (l : Launch) (E : Ev) {M : Mm} {o : Nat} {p1 : Int32} {rz : Int32} {Mz : Mm} (hf : fX12_move M o p1 = some (rz, Mz)) : Ct l E yX12_move cX12_move 2 (some .int) 6 142 0 0 [.ref (E.b + o), .int p1] M (some (.int rz)) Mz := by
  refine ct_of (by decide +kernel) (Nat.le_of_ble_eq_true rfl) fun p e s m args below meth c C hr hin hW ls hl => ?_
  have hl : lv_has ls 2 [(0, .ref (E.b + o)), (1, .int p1)] := hl
  unfold fX12_move at hf
  refine lv_iload_n C.x C.b dX12_move_0 rfl (lv_at hl 1 rfl) ?_
  refine lv_i2l (v := p1.toInt64) C.x C.b dX12_move_1 rfl ?_
  refine lv_lconst (v := 0) C.x C.b dX12_move_2 (by decide) ?_
  refine x_ldc2 (v := 3) C T_6_152 dX12_move_3 ?_
  replace hf := x_b1 hf; obtain ⟨x6_1, hx6_1, hf⟩ := hf
  refine x_callS (As := [.long (p1.toInt64), .long 0, .long 3]) (rest := []) C hW hl (qX12_in l E hx6_1) gs_X12_61 hd_X12_in rfl rfl (Nat.le_of_ble_eq_true rfl) dX12_move_6 ⟨Nat.le_of_ble_eq_true rfl, Nat.le_of_ble_eq_true rfl⟩ ⟨Nat.le_of_ble_eq_true rfl, Nat.le_of_ble_eq_true rfl⟩ (fun H locs hW => ?_)
  refine lv_if_ne (tgt := 14) C.x C.b dX12_move_9 rfl (fun c9 => ?_) (fun c9 => ?_)
  · replace hf := x_in c9 hf
    refine lv_aload_n C.x C.b dX12_move_14 rfl (lv_at hl 0 rfl) ?_
    refine lv_iload_n C.x C.b dX12_move_15 rfl (lv_at hl 1 rfl) ?_
    replace hf := x_b1 hf; obtain ⟨_, hk16_2, hf⟩ := hf
    replace hf := x_b1 hf; obtain ⟨M16_3, hM16_3, hf⟩ := hf
    refine x_callV (As := [.int p1]) (a := o) (rest := []) C hW hl (qX12_allMove l E hM16_3) (x_gk hk16_2) (by decide) (by decide) rfl gv_X12_189 ⟨rfl, hd_X12_allMove⟩ rfl rfl (Nat.le_of_ble_eq_true rfl) dX12_move_16 ⟨Nat.le_of_ble_eq_true rfl, Nat.le_of_ble_eq_true rfl⟩ ⟨Nat.le_of_ble_eq_true rfl, Nat.le_of_ble_eq_true rfl⟩ (fun H locs hW => ?_)
    refine lv_aload_n C.x C.b dX12_move_19 rfl (lv_at hl 0 rfl) ?_
    replace hf := x_b1 hf; obtain ⟨_, hk20_4, hf⟩ := hf
    replace hf := x_b1 hf; obtain ⟨x20_5, hx20_5, hf⟩ := hf
    refine x_callV (As := []) (a := o) (rest := []) C hW hl (qX12_openOn l E hx20_5) (x_gk hk20_4) (by decide) (by decide) rfl gv_X12_192 ⟨rfl, hd_X12_openOn⟩ rfl rfl (Nat.le_of_ble_eq_true rfl) dX12_move_20 ⟨Nat.le_of_ble_eq_true rfl, Nat.le_of_ble_eq_true rfl⟩ ⟨Nat.le_of_ble_eq_true rfl, Nat.le_of_ble_eq_true rfl⟩ (fun H locs hW => ?_)
    rw [x_e1 hf, x_e2 hf]
    exact x_iret C hr hW dX12_move_23
  · replace hf := x_ip c9 hf
    refine lv_iconst (v := (-1)) C.x C.b dX12_move_12 (by decide) ?_
    rw [x_e1 hf, x_e2 hf]
    exact x_iret C hr hW dX12_move_13

theorem dX12_timesOf_0 : decode cX12_timesOf 0 = .ok (.aload_n 0, 1) := by decide +kernel
theorem dX12_timesOf_1 : decode cX12_timesOf 1 = .ok (.iload_n 1, 1) := by decide +kernel
theorem dX12_timesOf_2 : decode cX12_timesOf 2 = .ok (.iload_n 2, 1) := by decide +kernel
theorem dX12_timesOf_3 : decode cX12_timesOf 3 = .ok (.invokevirtual 145, 3) := by decide +kernel
theorem dX12_timesOf_6 : decode cX12_timesOf 6 = .ok (.iconst 2, 1) := by decide +kernel
theorem dX12_timesOf_7 : decode cX12_timesOf 7 = .ok (.if_icmp .ne 7, 3) := by decide +kernel
theorem dX12_timesOf_10 : decode cX12_timesOf 10 = .ok (.iconst 1, 1) := by decide +kernel
theorem dX12_timesOf_11 : decode cX12_timesOf 11 = .ok (.goto 9, 3) := by decide +kernel
theorem dX12_timesOf_14 : decode cX12_timesOf 14 = .ok (.aload_n 0, 1) := by decide +kernel
theorem dX12_timesOf_15 : decode cX12_timesOf 15 = .ok (.iload_n 1, 1) := by decide +kernel
theorem dX12_timesOf_16 : decode cX12_timesOf 16 = .ok (.iload_n 2, 1) := by decide +kernel
theorem dX12_timesOf_17 : decode cX12_timesOf 17 = .ok (.invokevirtual 142, 3) := by decide +kernel
theorem dX12_timesOf_20 : decode cX12_timesOf 20 = .ok (.ireturn, 1) := by decide +kernel
def fX12_timesOf (M : Mm) (o : Nat) (p1 : Int32) (p2 : Int32) : Option Int32 :=
  B1 (gk M o 15) fun _ =>
  B1 (fX12_whatOf M o p1 p2) fun x3_2 =>
  if x3_2 = 2 then
    some 1
  else
    B1 (gk M o 15) fun _ =>
    B1 (fX12_lengthOf M o p1 p2) fun x17_4 =>
    some x17_4
set_option maxRecDepth 100000 in
set_option maxHeartbeats 4000000 in
theorem qX12_timesOf (l : Launch) (E : Ev) {M : Mm} {o : Nat} {p1 : Int32} {p2 : Int32} {rz : Int32} (hf : fX12_timesOf M o p1 p2 = some rz) : Ct l E yX12_timesOf cX12_timesOf 3 (some .int) 1 22 0 0 [.ref (E.b + o), .int p1, .int p2] M (some (.int rz)) M := by
  refine ct_of (by decide +kernel) (Nat.le_of_ble_eq_true rfl) fun p e s m args below meth c C hr hin hW ls hl => ?_
  have hl : lv_has ls 3 [(0, .ref (E.b + o)), (1, .int p1), (2, .int p2)] := hl
  unfold fX12_timesOf at hf
  refine lv_aload_n C.x C.b dX12_timesOf_0 rfl (lv_at hl 0 rfl) ?_
  refine lv_iload_n C.x C.b dX12_timesOf_1 rfl (lv_at hl 1 rfl) ?_
  refine lv_iload_n C.x C.b dX12_timesOf_2 rfl (lv_at hl 2 rfl) ?_
  replace hf := x_b1 hf; obtain ⟨_, hk3_1, hf⟩ := hf
  replace hf := x_b1 hf; obtain ⟨x3_2, hx3_2, hf⟩ := hf
  refine x_callV (As := [.int p1, .int p2]) (a := o) (rest := []) C hW hl (qX12_whatOf l E hx3_2) (x_gk hk3_1) (by decide) (by decide) rfl gv_X12_145 ⟨rfl, hd_X12_whatOf⟩ rfl rfl (Nat.le_of_ble_eq_true rfl) dX12_timesOf_3 ⟨Nat.le_of_ble_eq_true rfl, Nat.le_of_ble_eq_true rfl⟩ ⟨Nat.le_of_ble_eq_true rfl, Nat.le_of_ble_eq_true rfl⟩ (fun H locs hW => ?_)
  refine lv_iconst (v := 2) C.x C.b dX12_timesOf_6 (by decide) ?_
  refine lv_icmp_ne (tgt := 14) C.x C.b dX12_timesOf_7 rfl (fun c7 => ?_) (fun c7 => ?_)
  · replace hf := x_in c7 hf
    refine lv_aload_n C.x C.b dX12_timesOf_14 rfl (lv_at hl 0 rfl) ?_
    refine lv_iload_n C.x C.b dX12_timesOf_15 rfl (lv_at hl 1 rfl) ?_
    refine lv_iload_n C.x C.b dX12_timesOf_16 rfl (lv_at hl 2 rfl) ?_
    replace hf := x_b1 hf; obtain ⟨_, hk17_3, hf⟩ := hf
    replace hf := x_b1 hf; obtain ⟨x17_4, hx17_4, hf⟩ := hf
    refine x_callV (As := [.int p1, .int p2]) (a := o) (rest := []) C hW hl (qX12_lengthOf l E hx17_4) (x_gk hk17_3) (by decide) (by decide) rfl gv_X12_142 ⟨rfl, hd_X12_lengthOf⟩ rfl rfl (Nat.le_of_ble_eq_true rfl) dX12_timesOf_17 ⟨Nat.le_of_ble_eq_true rfl, Nat.le_of_ble_eq_true rfl⟩ ⟨Nat.le_of_ble_eq_true rfl, Nat.le_of_ble_eq_true rfl⟩ (fun H locs hW => ?_)
    rw [x_e0 hf]
    exact x_iret C hr hW dX12_timesOf_20
  · replace hf := x_ip c7 hf
    refine lv_iconst (v := 1) C.x C.b dX12_timesOf_10 (by decide) ?_
    refine lv_goto (tgt := 20) C.x C.b dX12_timesOf_11 rfl ?_
    rw [x_e0 hf]
    exact x_iret C hr hW dX12_timesOf_20

theorem dX12_walks_0 : decode cX12_walks 0 = .ok (.iload_n 2, 1) := by decide +kernel
theorem dX12_walks_1 : decode cX12_walks 1 = .ok (.istore 4, 2) := by decide +kernel
theorem dX12_walks_3 : decode cX12_walks 3 = .ok (.iload 4, 2) := by decide +kernel
theorem dX12_walks_5 : decode cX12_walks 5 = .ok (.iload_n 3, 1) := by decide +kernel
theorem dX12_walks_6 : decode cX12_walks 6 = .ok (.if_icmp .ge 45, 3) := by decide +kernel
theorem dX12_walks_9 : decode cX12_walks 9 = .ok (.aload_n 0, 1) := by decide +kernel
theorem dX12_walks_10 : decode cX12_walks 10 = .ok (.iload_n 1, 1) := by decide +kernel
theorem dX12_walks_11 : decode cX12_walks 11 = .ok (.iload 4, 2) := by decide +kernel
theorem dX12_walks_13 : decode cX12_walks 13 = .ok (.invokevirtual 196, 3) := by decide +kernel
theorem dX12_walks_16 : decode cX12_walks 16 = .ok (.istore 5, 2) := by decide +kernel
theorem dX12_walks_18 : decode cX12_walks 18 = .ok (.iconst 0, 1) := by decide +kernel
theorem dX12_walks_19 : decode cX12_walks 19 = .ok (.istore 6, 2) := by decide +kernel
theorem dX12_walks_21 : decode cX12_walks 21 = .ok (.iload 6, 2) := by decide +kernel
theorem dX12_walks_23 : decode cX12_walks 23 = .ok (.iload 5, 2) := by decide +kernel
theorem dX12_walks_25 : decode cX12_walks 25 = .ok (.if_icmp .ge 20, 3) := by decide +kernel
theorem dX12_walks_28 : decode cX12_walks 28 = .ok (.aload_n 0, 1) := by decide +kernel
theorem dX12_walks_29 : decode cX12_walks 29 = .ok (.aload_n 0, 1) := by decide +kernel
theorem dX12_walks_30 : decode cX12_walks 30 = .ok (.iload_n 1, 1) := by decide +kernel
theorem dX12_walks_31 : decode cX12_walks 31 = .ok (.iload 4, 2) := by decide +kernel
theorem dX12_walks_33 : decode cX12_walks 33 = .ok (.invokevirtual 145, 3) := by decide +kernel
theorem dX12_walks_36 : decode cX12_walks 36 = .ok (.invokevirtual 189, 3) := by decide +kernel
theorem dX12_walks_39 : decode cX12_walks 39 = .ok (.iinc 6 1, 3) := by decide +kernel
theorem dX12_walks_42 : decode cX12_walks 42 = .ok (.goto (-21), 3) := by decide +kernel
theorem dX12_walks_45 : decode cX12_walks 45 = .ok (.iinc 4 1, 3) := by decide +kernel
theorem dX12_walks_48 : decode cX12_walks 48 = .ok (.goto (-45), 3) := by decide +kernel
theorem dX12_walks_51 : decode cX12_walks 51 = .ok (.return_, 1) := by decide +kernel
theorem hd_X12_timesOf : yX12_timesOf.cls ≠ "java/lang/invoke/MethodHandle" ∧ yX12_timesOf.cls ≠ "java/lang/invoke/VarHandle" ∧ (parseMethodDescriptor yX12_timesOf.desc).map (fun d => d.parameters.length) = some 2 := by decide +kernel
theorem gv_X12_196 : GoodIn gT (wsV "NylonLadderModel" 196 "NylonLadderModel" yX12_timesOf (Cond.code yX12_timesOf cX12_timesOf 3 (some .int) :: gT)) := good_V T_7_90 T_7_92 TS_57 T_1_10 T_7_93
def fX12_walks_L21 (kk : Mm → Option Mm) (o : Nat) (v1 : Int32) (v3 : Int32) (v4 : Int32) (v5 : Int32) : Nat → Int32 → Mm → Option Mm
  | 0, _, _ => none
  | n + 1, v6, M =>
    if v5 ≤ v6 then
      kk M
    else
      B1 (gk M o 15) fun _ =>
      B1 (fX12_whatOf M o v1 v4) fun x33_4 =>
      B1 (gk M o 15) fun _ =>
      B1 (fX12_allMove M o x33_4) fun M36_6 =>
      fX12_walks_L21 kk o v1 v3 v4 v5 n (v6 + 1) M36_6
def fX12_walks_L3 (o : Nat) (v1 : Int32) (v3 : Int32) : Nat → Int32 → Mm → Option Mm
  | 0, _, _ => none
  | n + 1, v4, M =>
    if v3 ≤ v4 then
      some M
    else
      B1 (gk M o 15) fun _ =>
      B1 (fX12_timesOf M o v1 v4) fun x13_2 =>
      fX12_walks_L21 (fun M45_7 =>
        fX12_walks_L3 o v1 v3 n (v4 + 1) M45_7) o v1 v3 v4 x13_2 FL 0 M
def fX12_walks (M : Mm) (o : Nat) (p1 : Int32) (p2 : Int32) (p3 : Int32) : Option Mm :=
  fX12_walks_L3 o p1 p3 FL p2 M
set_option maxRecDepth 100000 in
set_option maxHeartbeats 4000000 in
theorem kX12_walks_L21 {l : Launch} {E : Ev} {p : Program} {e : Env} {s : State} {m : MethodId} {args : Array Value} {below : List Frame} {meth : Method} {c : Code} (C : Cx E p s m args meth c cX12_walks yX12_walks.cls 7) (hr : meth.sig.returnType = none) (hin : yX12_walks.name = "<init>" → meth.name = "<init>")  {o : Nat} {v1 : Int32} {v3 : Int32} {v4 : Int32} {v5 : Int32} {Mz : Mm} {kk : Mm → Option Mm} (hkk : ∀  (M : Mm), kk  M = some Mz → ∀ (H : Heap) (locs : List Loc) (ls : Array Slot), Wx E s H locs M → lv_has ls 7 [(0, .ref (E.b + o)), (1, .int v1), (3, .int v3), (4, .int v4)] → W p l e (rM 6 142 0 0) s m args below meth c H locs 0 0 (MQ below (Qp E none Mz) args s 0 0 E.A) (F0 m 45 ls [])) : ∀ (n : Nat) (v6 : Int32) (M : Mm), fX12_walks_L21 kk o v1 v3 v4 v5 n v6 M = some Mz → ∀ (H : Heap) (locs : List Loc) (ls : Array Slot), Wx E s H locs M → lv_has ls 7 [(0, .ref (E.b + o)), (1, .int v1), (3, .int v3), (4, .int v4), (5, .int v5), (6, .int v6)] → W p l e (rM 6 142 0 0) s m args below meth c H locs 0 0 (MQ below (Qp E none Mz) args s 0 0 E.A) (F0 m 21 ls []) := by
  intro n
  induction n with
  | zero =>
    intro v6 M hf
    unfold fX12_walks_L21 at hf
    cases hf
  | succ n ih =>
    intro v6 M hf H locs ls hW hl
    unfold fX12_walks_L21 at hf
    refine lv_iload C.x C.b dX12_walks_21 (lv_at hl 5 rfl) ?_
    refine lv_iload C.x C.b dX12_walks_23 (lv_at hl 4 rfl) ?_
    refine lv_icmp_ge (tgt := 45) C.x C.b dX12_walks_25 rfl (fun c25 => ?_) (fun c25 => ?_)
    · replace hf := x_ip c25 hf
      exact hkk M hf _ _ _ hW (lv_sub hl [0, 1, 2, 3] rfl)
    · replace hf := x_in c25 hf
      refine lv_aload_n C.x C.b dX12_walks_28 rfl (lv_at hl 0 rfl) ?_
      refine lv_aload_n C.x C.b dX12_walks_29 rfl (lv_at hl 0 rfl) ?_
      refine lv_iload_n C.x C.b dX12_walks_30 rfl (lv_at hl 1 rfl) ?_
      refine lv_iload C.x C.b dX12_walks_31 (lv_at hl 3 rfl) ?_
      replace hf := x_b1 hf; obtain ⟨_, hk33_3, hf⟩ := hf
      replace hf := x_b1 hf; obtain ⟨x33_4, hx33_4, hf⟩ := hf
      refine x_callV (As := [.int v1, .int v4]) (a := o) (rest := [.ref (E.b + o)]) C hW hl (qX12_whatOf l E hx33_4) (x_gk hk33_3) (by decide) (by decide) rfl gv_X12_145 ⟨rfl, hd_X12_whatOf⟩ rfl rfl (Nat.le_of_ble_eq_true rfl) dX12_walks_33 ⟨Nat.le_of_ble_eq_true rfl, Nat.le_of_ble_eq_true rfl⟩ ⟨Nat.le_of_ble_eq_true rfl, Nat.le_of_ble_eq_true rfl⟩ (fun H locs hW => ?_)
      replace hf := x_b1 hf; obtain ⟨_, hk36_5, hf⟩ := hf
      replace hf := x_b1 hf; obtain ⟨M36_6, hM36_6, hf⟩ := hf
      refine x_callV (As := [.int x33_4]) (a := o) (rest := []) C hW hl (qX12_allMove l E hM36_6) (x_gk hk36_5) (by decide) (by decide) rfl gv_X12_189 ⟨rfl, hd_X12_allMove⟩ rfl rfl (Nat.le_of_ble_eq_true rfl) dX12_walks_36 ⟨Nat.le_of_ble_eq_true rfl, Nat.le_of_ble_eq_true rfl⟩ ⟨Nat.le_of_ble_eq_true rfl, Nat.le_of_ble_eq_true rfl⟩ (fun H locs hW => ?_)
      refine lv_iinc (v := (v6 + 1)) (lv' := [(6, .int (v6 + 1)), (0, .ref (E.b + _)), (1, .int _), (3, .int _), (4, .int _), (5, .int _)]) C.x C.b dX12_walks_39 hl (k := 5) rfl (by first | rfl | decide) (by decide) rfl (fun ls hl => ?_)
      refine lv_goto (tgt := 21) C.x C.b dX12_walks_42 rfl ?_
      exact ih (v6 + 1) M36_6 hf _ _ _ hW (lv_sub hl [1, 2, 3, 4, 5, 0] rfl)
set_option maxRecDepth 100000 in
set_option maxHeartbeats 4000000 in
theorem kX12_walks_L3 {l : Launch} {E : Ev} {p : Program} {e : Env} {s : State} {m : MethodId} {args : Array Value} {below : List Frame} {meth : Method} {c : Code} (C : Cx E p s m args meth c cX12_walks yX12_walks.cls 7) (hr : meth.sig.returnType = none) (hin : yX12_walks.name = "<init>" → meth.name = "<init>")  {o : Nat} {v1 : Int32} {v3 : Int32} {Mz : Mm} : ∀ (n : Nat) (v4 : Int32) (M : Mm), fX12_walks_L3 o v1 v3 n v4 M = some Mz → ∀ (H : Heap) (locs : List Loc) (ls : Array Slot), Wx E s H locs M → lv_has ls 7 [(0, .ref (E.b + o)), (1, .int v1), (3, .int v3), (4, .int v4)] → W p l e (rM 6 142 0 0) s m args below meth c H locs 0 0 (MQ below (Qp E none Mz) args s 0 0 E.A) (F0 m 3 ls []) := by
  intro n
  induction n with
  | zero =>
    intro v4 M hf
    unfold fX12_walks_L3 at hf
    cases hf
  | succ n ih =>
    intro v4 M hf H locs ls hW hl
    unfold fX12_walks_L3 at hf
    refine lv_iload C.x C.b dX12_walks_3 (lv_at hl 3 rfl) ?_
    refine lv_iload_n C.x C.b dX12_walks_5 rfl (lv_at hl 2 rfl) ?_
    refine lv_icmp_ge (tgt := 51) C.x C.b dX12_walks_6 rfl (fun c6 => ?_) (fun c6 => ?_)
    · replace hf := x_ip c6 hf
      rw [x_e0 hf]
      exact x_vret C hr hW dX12_walks_51
    · replace hf := x_in c6 hf
      refine lv_aload_n C.x C.b dX12_walks_9 rfl (lv_at hl 0 rfl) ?_
      refine lv_iload_n C.x C.b dX12_walks_10 rfl (lv_at hl 1 rfl) ?_
      refine lv_iload C.x C.b dX12_walks_11 (lv_at hl 3 rfl) ?_
      replace hf := x_b1 hf; obtain ⟨_, hk13_1, hf⟩ := hf
      replace hf := x_b1 hf; obtain ⟨x13_2, hx13_2, hf⟩ := hf
      refine x_callV (As := [.int v1, .int v4]) (a := o) (rest := []) C hW hl (qX12_timesOf l E hx13_2) (x_gk hk13_1) (by decide) (by decide) rfl gv_X12_196 ⟨rfl, hd_X12_timesOf⟩ rfl rfl (Nat.le_of_ble_eq_true rfl) dX12_walks_13 ⟨Nat.le_of_ble_eq_true rfl, Nat.le_of_ble_eq_true rfl⟩ ⟨Nat.le_of_ble_eq_true rfl, Nat.le_of_ble_eq_true rfl⟩ (fun H locs hW => ?_)
      refine lv_istore (lv' := [(5, .int _), (0, .ref (E.b + _)), (1, .int _), (3, .int _), (4, .int _)]) C.x C.b dX12_walks_16 hl (by decide) rfl (fun ls hl => ?_)
      refine lv_iconst (v := 0) C.x C.b dX12_walks_18 (by decide) ?_
      refine lv_istore (lv' := [(6, .int _), (5, .int _), (0, .ref (E.b + _)), (1, .int _), (3, .int _), (4, .int _)]) C.x C.b dX12_walks_19 hl (by decide) rfl (fun ls hl => ?_)
      refine kX12_walks_L21 C hr hin ?_ FL 0 M hf _ _ _ hW (lv_sub hl [2, 3, 4, 5, 1, 0] rfl)
      intro M45_7 hf H locs ls hW hl
      refine lv_iinc (v := (v4 + 1)) (lv' := [(4, .int (v4 + 1)), (0, .ref (E.b + _)), (1, .int _), (3, .int _)]) C.x C.b dX12_walks_45 hl (k := 3) rfl (by first | rfl | decide) (by decide) rfl (fun ls hl => ?_)
      refine lv_goto (tgt := 3) C.x C.b dX12_walks_48 rfl ?_
      exact ih (v4 + 1) M45_7 hf _ _ _ hW (lv_sub hl [1, 2, 3, 0] rfl)
set_option maxRecDepth 100000 in
set_option maxHeartbeats 4000000 in
theorem qX12_walks (l : Launch) (E : Ev) {M : Mm} {o : Nat} {p1 : Int32} {p2 : Int32} {p3 : Int32} {Mz : Mm} (hf : fX12_walks M o p1 p2 p3 = some Mz) : Ct l E yX12_walks cX12_walks 7 none 6 142 0 0 [.ref (E.b + o), .int p1, .int p2, .int p3] M none Mz := by
  refine ct_of (by decide +kernel) (Nat.le_of_ble_eq_true rfl) fun p e s m args below meth c C hr hin hW ls hl => ?_
  have hl : lv_has ls 7 [(0, .ref (E.b + o)), (1, .int p1), (2, .int p2), (3, .int p3)] := hl
  unfold fX12_walks at hf
  refine lv_iload_n C.x C.b dX12_walks_0 rfl (lv_at hl 2 rfl) ?_
  refine lv_istore (lv' := [(4, .int _), (0, .ref (E.b + _)), (1, .int _), (2, .int _), (3, .int _)]) C.x C.b dX12_walks_1 hl (by decide) rfl (fun ls hl => ?_)
  exact kX12_walks_L3 C hr hin FL p2 M hf _ _ _ hW (lv_sub hl [1, 2, 4, 0] rfl)

theorem dX12_minutesOf__0 : decode cX12_minutesOf_ 0 = .ok (.iconst 0, 1) := by decide +kernel
theorem dX12_minutesOf__1 : decode cX12_minutesOf_ 1 = .ok (.istore_n 2, 1) := by decide +kernel
theorem dX12_minutesOf__2 : decode cX12_minutesOf_ 2 = .ok (.iconst 0, 1) := by decide +kernel
theorem dX12_minutesOf__3 : decode cX12_minutesOf_ 3 = .ok (.istore_n 3, 1) := by decide +kernel
theorem dX12_minutesOf__4 : decode cX12_minutesOf_ 4 = .ok (.iload_n 3, 1) := by decide +kernel
theorem dX12_minutesOf__5 : decode cX12_minutesOf_ 5 = .ok (.aload_n 0, 1) := by decide +kernel
theorem dX12_minutesOf__6 : decode cX12_minutesOf_ 6 = .ok (.getfield 9, 3) := by decide +kernel
theorem dX12_minutesOf__9 : decode cX12_minutesOf_ 9 = .ok (.bipush 12, 2) := by decide +kernel
theorem dX12_minutesOf__11 : decode cX12_minutesOf_ 11 = .ok (.iload_n 1, 1) := by decide +kernel
theorem dX12_minutesOf__12 : decode cX12_minutesOf_ 12 = .ok (.iadd, 1) := by decide +kernel
theorem dX12_minutesOf__13 : decode cX12_minutesOf_ 13 = .ok (.iaload, 1) := by decide +kernel
theorem dX12_minutesOf__14 : decode cX12_minutesOf_ 14 = .ok (.if_icmp .ge 18, 3) := by decide +kernel
theorem dX12_minutesOf__17 : decode cX12_minutesOf_ 17 = .ok (.iload_n 2, 1) := by decide +kernel
theorem dX12_minutesOf__18 : decode cX12_minutesOf_ 18 = .ok (.aload_n 0, 1) := by decide +kernel
theorem dX12_minutesOf__19 : decode cX12_minutesOf_ 19 = .ok (.iload_n 1, 1) := by decide +kernel
theorem dX12_minutesOf__20 : decode cX12_minutesOf_ 20 = .ok (.iload_n 3, 1) := by decide +kernel
theorem dX12_minutesOf__21 : decode cX12_minutesOf_ 21 = .ok (.invokevirtual 150, 3) := by decide +kernel
theorem dX12_minutesOf__24 : decode cX12_minutesOf_ 24 = .ok (.iadd, 1) := by decide +kernel
theorem dX12_minutesOf__25 : decode cX12_minutesOf_ 25 = .ok (.istore_n 2, 1) := by decide +kernel
theorem dX12_minutesOf__26 : decode cX12_minutesOf_ 26 = .ok (.iinc 3 1, 3) := by decide +kernel
theorem dX12_minutesOf__29 : decode cX12_minutesOf_ 29 = .ok (.goto (-25), 3) := by decide +kernel
theorem dX12_minutesOf__32 : decode cX12_minutesOf_ 32 = .ok (.iload_n 2, 1) := by decide +kernel
theorem dX12_minutesOf__33 : decode cX12_minutesOf_ 33 = .ok (.ireturn, 1) := by decide +kernel
def fX12_minutesOf__L4 (M : Mm) (o : Nat) (v1 : Int32) : Nat → Int32 → Int32 → Option Int32
  | 0, _, _ => none
  | n + 1, v2, v3 =>
    B1 (rdN M o 15 0) fun a6_1 =>
    B1 (alI M a6_1 (12 + v1)) fun x13_2 =>
    if x13_2 ≤ v3 then
      some v2
    else
      B1 (gk M o 15) fun _ =>
      B1 (fX12_minutesOf M o v1 v3) fun x21_4 =>
      fX12_minutesOf__L4 M o v1 n (v2 + x21_4) (v3 + 1)
def fX12_minutesOf_ (M : Mm) (o : Nat) (p1 : Int32) : Option Int32 :=
  fX12_minutesOf__L4 M o p1 FL 0 0
set_option maxRecDepth 100000 in
set_option maxHeartbeats 4000000 in
theorem kX12_minutesOf__L4 {l : Launch} {E : Ev} {p : Program} {e : Env} {s : State} {m : MethodId} {args : Array Value} {below : List Frame} {meth : Method} {c : Code} (C : Cx E p s m args meth c cX12_minutesOf_ yX12_minutesOf_.cls 4) (hr : meth.sig.returnType = (some .int)) (hin : yX12_minutesOf_.name = "<init>" → meth.name = "<init>") {M : Mm}  {o : Nat} {v1 : Int32} {rz : Int32} : ∀ (n : Nat) (v2 : Int32) (v3 : Int32), fX12_minutesOf__L4 M o v1 n v2 v3 = some rz → ∀ (H : Heap) (locs : List Loc) (ls : Array Slot), Wx E s H locs M → lv_has ls 4 [(0, .ref (E.b + o)), (1, .int v1), (2, .int v2), (3, .int v3)] → W p l e (rM 2 45 0 0) s m args below meth c H locs 0 0 (MQ below (Qp E (some (.int rz)) M) args s 0 0 E.A) (F0 m 4 ls []) := by
  intro n
  induction n with
  | zero =>
    intro v2 v3 hf
    unfold fX12_minutesOf__L4 at hf
    cases hf
  | succ n ih =>
    intro v2 v3 hf H locs ls hW hl
    unfold fX12_minutesOf__L4 at hf
    refine lv_iload_n C.x C.b dX12_minutesOf__4 rfl (lv_at hl 3 rfl) ?_
    refine lv_aload_n C.x C.b dX12_minutesOf__5 rfl (lv_at hl 0 rfl) ?_
    replace hf := x_b1 hf; obtain ⟨a6_1, ha6_1, hf⟩ := hf
    refine x_getn C hW fg_X12_9_15 ha6_1 dX12_minutesOf__6 ?_
    refine lv_bipush (v := 12) C.x C.b dX12_minutesOf__9 (by decide) ?_
    refine lv_iload_n C.x C.b dX12_minutesOf__11 rfl (lv_at hl 1 rfl) ?_
    refine lv_iadd C.x C.b dX12_minutesOf__12 ?_
    replace hf := x_b1 hf; obtain ⟨x13_2, hx13_2, hf⟩ := hf
    refine x_iald C hW hx13_2 dX12_minutesOf__13 ?_
    refine lv_icmp_ge (tgt := 32) C.x C.b dX12_minutesOf__14 rfl (fun c14 => ?_) (fun c14 => ?_)
    · replace hf := x_ip c14 hf
      refine lv_iload_n C.x C.b dX12_minutesOf__32 rfl (lv_at hl 2 rfl) ?_
      rw [x_e0 hf]
      exact x_iret C hr hW dX12_minutesOf__33
    · replace hf := x_in c14 hf
      refine lv_iload_n C.x C.b dX12_minutesOf__17 rfl (lv_at hl 2 rfl) ?_
      refine lv_aload_n C.x C.b dX12_minutesOf__18 rfl (lv_at hl 0 rfl) ?_
      refine lv_iload_n C.x C.b dX12_minutesOf__19 rfl (lv_at hl 1 rfl) ?_
      refine lv_iload_n C.x C.b dX12_minutesOf__20 rfl (lv_at hl 3 rfl) ?_
      replace hf := x_b1 hf; obtain ⟨_, hk21_3, hf⟩ := hf
      replace hf := x_b1 hf; obtain ⟨x21_4, hx21_4, hf⟩ := hf
      refine x_callV (As := [.int v1, .int v3]) (a := o) (rest := [.int v2]) C hW hl (qX12_minutesOf l E hx21_4) (x_gk hk21_3) (by decide) (by decide) rfl gv_X12_150 ⟨rfl, hd_X12_minutesOf⟩ rfl rfl (Nat.le_of_ble_eq_true rfl) dX12_minutesOf__21 ⟨Nat.le_of_ble_eq_true rfl, Nat.le_of_ble_eq_true rfl⟩ ⟨Nat.le_of_ble_eq_true rfl, Nat.le_of_ble_eq_true rfl⟩ (fun H locs hW => ?_)
      refine lv_iadd C.x C.b dX12_minutesOf__24 ?_
      refine lv_istore_n (lv' := [(2, .int _), (0, .ref (E.b + _)), (1, .int _), (3, .int _)]) C.x C.b dX12_minutesOf__25 rfl hl (by decide) rfl (fun ls hl => ?_)
      refine lv_iinc (v := (v3 + 1)) (lv' := [(3, .int (v3 + 1)), (2, .int _), (0, .ref (E.b + _)), (1, .int _)]) C.x C.b dX12_minutesOf__26 hl (k := 3) rfl (by first | rfl | decide) (by decide) rfl (fun ls hl => ?_)
      refine lv_goto (tgt := 4) C.x C.b dX12_minutesOf__29 rfl ?_
      exact ih (v2 + x21_4) (v3 + 1) hf _ _ _ hW (lv_sub hl [2, 3, 1, 0] rfl)
set_option maxRecDepth 100000 in
set_option maxHeartbeats 4000000 in
theorem qX12_minutesOf_ (l : Launch) (E : Ev) {M : Mm} {o : Nat} {p1 : Int32} {rz : Int32} (hf : fX12_minutesOf_ M o p1 = some rz) : Ct l E yX12_minutesOf_ cX12_minutesOf_ 4 (some .int) 2 45 0 0 [.ref (E.b + o), .int p1] M (some (.int rz)) M := by
  refine ct_of (by decide +kernel) (Nat.le_of_ble_eq_true rfl) fun p e s m args below meth c C hr hin hW ls hl => ?_
  have hl : lv_has ls 4 [(0, .ref (E.b + o)), (1, .int p1)] := hl
  unfold fX12_minutesOf_ at hf
  refine lv_iconst (v := 0) C.x C.b dX12_minutesOf__0 (by decide) ?_
  refine lv_istore_n (lv' := [(2, .int _), (0, .ref (E.b + _)), (1, .int _)]) C.x C.b dX12_minutesOf__1 rfl hl (by decide) rfl (fun ls hl => ?_)
  refine lv_iconst (v := 0) C.x C.b dX12_minutesOf__2 (by decide) ?_
  refine lv_istore_n (lv' := [(3, .int _), (2, .int _), (0, .ref (E.b + _)), (1, .int _)]) C.x C.b dX12_minutesOf__3 rfl hl (by decide) rfl (fun ls hl => ?_)
  exact kX12_minutesOf__L4 C hr hin FL 0 0 hf _ _ _ hW (lv_sub hl [2, 3, 1, 0] rfl)

theorem dX12_go_0 : decode cX12_go 0 = .ok (.iload_n 1, 1) := by decide +kernel
theorem dX12_go_1 : decode cX12_go 1 = .ok (.invokestatic 133, 3) := by decide +kernel
theorem dX12_go_4 : decode cX12_go 4 = .ok (.ifCond .ne 5, 3) := by decide +kernel
theorem dX12_go_7 : decode cX12_go 7 = .ok (.iconst (-1), 1) := by decide +kernel
theorem dX12_go_8 : decode cX12_go 8 = .ok (.ireturn, 1) := by decide +kernel
theorem dX12_go_9 : decode cX12_go 9 = .ok (.aload_n 0, 1) := by decide +kernel
theorem dX12_go_10 : decode cX12_go 10 = .ok (.iload_n 1, 1) := by decide +kernel
theorem dX12_go_11 : decode cX12_go 11 = .ok (.iconst 0, 1) := by decide +kernel
theorem dX12_go_12 : decode cX12_go 12 = .ok (.aload_n 0, 1) := by decide +kernel
theorem dX12_go_13 : decode cX12_go 13 = .ok (.getfield 9, 3) := by decide +kernel
theorem dX12_go_16 : decode cX12_go 16 = .ok (.bipush 12, 2) := by decide +kernel
theorem dX12_go_18 : decode cX12_go 18 = .ok (.iload_n 1, 1) := by decide +kernel
theorem dX12_go_19 : decode cX12_go 19 = .ok (.iadd, 1) := by decide +kernel
theorem dX12_go_20 : decode cX12_go 20 = .ok (.iaload, 1) := by decide +kernel
theorem dX12_go_21 : decode cX12_go 21 = .ok (.invokevirtual 199, 3) := by decide +kernel
theorem dX12_go_24 : decode cX12_go 24 = .ok (.aload_n 0, 1) := by decide +kernel
theorem dX12_go_25 : decode cX12_go 25 = .ok (.iload_n 1, 1) := by decide +kernel
theorem dX12_go_26 : decode cX12_go 26 = .ok (.invokevirtual 202, 3) := by decide +kernel
theorem dX12_go_29 : decode cX12_go 29 = .ok (.ireturn, 1) := by decide +kernel
theorem hd_X12_walks : yX12_walks.cls ≠ "java/lang/invoke/MethodHandle" ∧ yX12_walks.cls ≠ "java/lang/invoke/VarHandle" ∧ (parseMethodDescriptor yX12_walks.desc).map (fun d => d.parameters.length) = some 3 := by decide +kernel
theorem gv_X12_199 : GoodIn gT (wsV "NylonLadderModel" 199 "NylonLadderModel" yX12_walks (Cond.code yX12_walks cX12_walks 7 none :: gT)) := good_V T_7_86 T_7_88 TS_56 T_1_10 T_7_89
theorem hd_X12_minutesOf_ : yX12_minutesOf_.cls ≠ "java/lang/invoke/MethodHandle" ∧ yX12_minutesOf_.cls ≠ "java/lang/invoke/VarHandle" ∧ (parseMethodDescriptor yX12_minutesOf_.desc).map (fun d => d.parameters.length) = some 1 := by decide +kernel
theorem gv_X12_202 : GoodIn gT (wsV "NylonLadderModel" 202 "NylonLadderModel" yX12_minutesOf_ (Cond.code yX12_minutesOf_ cX12_minutesOf_ 4 (some .int) :: gT)) := good_V T_7_94 T_7_96 TS_58 T_1_10 T_7_97
def fX12_go (M : Mm) (o : Nat) (p1 : Int32) : Option (Int32 × Mm) :=
  B1 (fX12_isTwo M p1) fun x1_1 =>
  if x1_1 = 0 then
    some ((-1), M)
  else
    B1 (rdN M o 15 0) fun a13_2 =>
    B1 (alI M a13_2 (12 + p1)) fun x20_3 =>
    B1 (gk M o 15) fun _ =>
    B1 (fX12_walks M o p1 0 x20_3) fun M21_5 =>
    B1 (gk M21_5 o 15) fun _ =>
    B1 (fX12_minutesOf_ M21_5 o p1) fun x26_7 =>
    some (x26_7, M21_5)
set_option maxRecDepth 100000 in
set_option maxHeartbeats 4000000 in
theorem qX12_go (l : Launch) (E : Ev) {M : Mm} {o : Nat} {p1 : Int32} {rz : Int32} {Mz : Mm} (hf : fX12_go M o p1 = some (rz, Mz)) : Ct l E yX12_go cX12_go 2 (some .int) 7 168 0 0 [.ref (E.b + o), .int p1] M (some (.int rz)) Mz := by
  refine ct_of (by decide +kernel) (Nat.le_of_ble_eq_true rfl) fun p e s m args below meth c C hr hin hW ls hl => ?_
  have hl : lv_has ls 2 [(0, .ref (E.b + o)), (1, .int p1)] := hl
  unfold fX12_go at hf
  refine lv_iload_n C.x C.b dX12_go_0 rfl (lv_at hl 1 rfl) ?_
  replace hf := x_b1 hf; obtain ⟨x1_1, hx1_1, hf⟩ := hf
  refine x_callS (As := [.int p1]) (rest := []) C hW hl (qX12_isTwo l E hx1_1) gs_X12_133 hd_X12_isTwo rfl rfl (Nat.le_of_ble_eq_true rfl) dX12_go_1 ⟨Nat.le_of_ble_eq_true rfl, Nat.le_of_ble_eq_true rfl⟩ ⟨Nat.le_of_ble_eq_true rfl, Nat.le_of_ble_eq_true rfl⟩ (fun H locs hW => ?_)
  refine lv_if_ne (tgt := 9) C.x C.b dX12_go_4 rfl (fun c4 => ?_) (fun c4 => ?_)
  · replace hf := x_in c4 hf
    refine lv_aload_n C.x C.b dX12_go_9 rfl (lv_at hl 0 rfl) ?_
    refine lv_iload_n C.x C.b dX12_go_10 rfl (lv_at hl 1 rfl) ?_
    refine lv_iconst (v := 0) C.x C.b dX12_go_11 (by decide) ?_
    refine lv_aload_n C.x C.b dX12_go_12 rfl (lv_at hl 0 rfl) ?_
    replace hf := x_b1 hf; obtain ⟨a13_2, ha13_2, hf⟩ := hf
    refine x_getn C hW fg_X12_9_15 ha13_2 dX12_go_13 ?_
    refine lv_bipush (v := 12) C.x C.b dX12_go_16 (by decide) ?_
    refine lv_iload_n C.x C.b dX12_go_18 rfl (lv_at hl 1 rfl) ?_
    refine lv_iadd C.x C.b dX12_go_19 ?_
    replace hf := x_b1 hf; obtain ⟨x20_3, hx20_3, hf⟩ := hf
    refine x_iald C hW hx20_3 dX12_go_20 ?_
    replace hf := x_b1 hf; obtain ⟨_, hk21_4, hf⟩ := hf
    replace hf := x_b1 hf; obtain ⟨M21_5, hM21_5, hf⟩ := hf
    refine x_callV (As := [.int p1, .int 0, .int x20_3]) (a := o) (rest := []) C hW hl (qX12_walks l E hM21_5) (x_gk hk21_4) (by decide) (by decide) rfl gv_X12_199 ⟨rfl, hd_X12_walks⟩ rfl rfl (Nat.le_of_ble_eq_true rfl) dX12_go_21 ⟨Nat.le_of_ble_eq_true rfl, Nat.le_of_ble_eq_true rfl⟩ ⟨Nat.le_of_ble_eq_true rfl, Nat.le_of_ble_eq_true rfl⟩ (fun H locs hW => ?_)
    refine lv_aload_n C.x C.b dX12_go_24 rfl (lv_at hl 0 rfl) ?_
    refine lv_iload_n C.x C.b dX12_go_25 rfl (lv_at hl 1 rfl) ?_
    replace hf := x_b1 hf; obtain ⟨_, hk26_6, hf⟩ := hf
    replace hf := x_b1 hf; obtain ⟨x26_7, hx26_7, hf⟩ := hf
    refine x_callV (As := [.int p1]) (a := o) (rest := []) C hW hl (qX12_minutesOf_ l E hx26_7) (x_gk hk26_6) (by decide) (by decide) rfl gv_X12_202 ⟨rfl, hd_X12_minutesOf_⟩ rfl rfl (Nat.le_of_ble_eq_true rfl) dX12_go_26 ⟨Nat.le_of_ble_eq_true rfl, Nat.le_of_ble_eq_true rfl⟩ ⟨Nat.le_of_ble_eq_true rfl, Nat.le_of_ble_eq_true rfl⟩ (fun H locs hW => ?_)
    rw [x_e1 hf, x_e2 hf]
    exact x_iret C hr hW dX12_go_29
  · replace hf := x_ip c4 hf
    refine lv_iconst (v := (-1)) C.x C.b dX12_go_7 (by decide) ?_
    rw [x_e1 hf, x_e2 hf]
    exact x_iret C hr hW dX12_go_8

theorem dX12_minutes_0 : decode cX12_minutes 0 = .ok (.iload_n 1, 1) := by decide +kernel
theorem dX12_minutes_1 : decode cX12_minutes 1 = .ok (.invokestatic 133, 3) := by decide +kernel
theorem dX12_minutes_4 : decode cX12_minutes 4 = .ok (.ifCond .eq 11, 3) := by decide +kernel
theorem dX12_minutes_7 : decode cX12_minutes 7 = .ok (.aload_n 0, 1) := by decide +kernel
theorem dX12_minutes_8 : decode cX12_minutes 8 = .ok (.iload_n 1, 1) := by decide +kernel
theorem dX12_minutes_9 : decode cX12_minutes 9 = .ok (.invokevirtual 202, 3) := by decide +kernel
theorem dX12_minutes_12 : decode cX12_minutes 12 = .ok (.goto 4, 3) := by decide +kernel
theorem dX12_minutes_15 : decode cX12_minutes 15 = .ok (.iconst (-1), 1) := by decide +kernel
theorem dX12_minutes_16 : decode cX12_minutes 16 = .ok (.ireturn, 1) := by decide +kernel
def fX12_minutes (M : Mm) (o : Nat) (p1 : Int32) : Option Int32 :=
  B1 (fX12_isTwo M p1) fun x1_1 =>
  if x1_1 = 0 then
    some (-1)
  else
    B1 (gk M o 15) fun _ =>
    B1 (fX12_minutesOf_ M o p1) fun x9_3 =>
    some x9_3
set_option maxRecDepth 100000 in
set_option maxHeartbeats 4000000 in
theorem qX12_minutes (l : Launch) (E : Ev) {M : Mm} {o : Nat} {p1 : Int32} {rz : Int32} (hf : fX12_minutes M o p1 = some rz) : Ct l E yX12_minutes cX12_minutes 2 (some .int) 3 68 0 0 [.ref (E.b + o), .int p1] M (some (.int rz)) M := by
  refine ct_of (by decide +kernel) (Nat.le_of_ble_eq_true rfl) fun p e s m args below meth c C hr hin hW ls hl => ?_
  have hl : lv_has ls 2 [(0, .ref (E.b + o)), (1, .int p1)] := hl
  unfold fX12_minutes at hf
  refine lv_iload_n C.x C.b dX12_minutes_0 rfl (lv_at hl 1 rfl) ?_
  replace hf := x_b1 hf; obtain ⟨x1_1, hx1_1, hf⟩ := hf
  refine x_callS (As := [.int p1]) (rest := []) C hW hl (qX12_isTwo l E hx1_1) gs_X12_133 hd_X12_isTwo rfl rfl (Nat.le_of_ble_eq_true rfl) dX12_minutes_1 ⟨Nat.le_of_ble_eq_true rfl, Nat.le_of_ble_eq_true rfl⟩ ⟨Nat.le_of_ble_eq_true rfl, Nat.le_of_ble_eq_true rfl⟩ (fun H locs hW => ?_)
  refine lv_if_eq (tgt := 15) C.x C.b dX12_minutes_4 rfl (fun c4 => ?_) (fun c4 => ?_)
  · replace hf := x_ip c4 hf
    refine lv_iconst (v := (-1)) C.x C.b dX12_minutes_15 (by decide) ?_
    rw [x_e0 hf]
    exact x_iret C hr hW dX12_minutes_16
  · replace hf := x_in c4 hf
    refine lv_aload_n C.x C.b dX12_minutes_7 rfl (lv_at hl 0 rfl) ?_
    refine lv_iload_n C.x C.b dX12_minutes_8 rfl (lv_at hl 1 rfl) ?_
    replace hf := x_b1 hf; obtain ⟨_, hk9_2, hf⟩ := hf
    replace hf := x_b1 hf; obtain ⟨x9_3, hx9_3, hf⟩ := hf
    refine x_callV (As := [.int p1]) (a := o) (rest := []) C hW hl (qX12_minutesOf_ l E hx9_3) (x_gk hk9_2) (by decide) (by decide) rfl gv_X12_202 ⟨rfl, hd_X12_minutesOf_⟩ rfl rfl (Nat.le_of_ble_eq_true rfl) dX12_minutes_9 ⟨Nat.le_of_ble_eq_true rfl, Nat.le_of_ble_eq_true rfl⟩ ⟨Nat.le_of_ble_eq_true rfl, Nat.le_of_ble_eq_true rfl⟩ (fun H locs hW => ?_)
    refine lv_goto (tgt := 16) C.x C.b dX12_minutes_12 rfl ?_
    rw [x_e0 hf]
    exact x_iret C hr hW dX12_minutes_16

theorem dX12_lends_0 : decode cX12_lends 0 = .ok (.aload_n 0, 1) := by decide +kernel
theorem dX12_lends_1 : decode cX12_lends 1 = .ok (.getfield 9, 3) := by decide +kernel
theorem dX12_lends_4 : decode cX12_lends 4 = .ok (.aload_n 0, 1) := by decide +kernel
theorem dX12_lends_5 : decode cX12_lends 5 = .ok (.getfield 16, 3) := by decide +kernel
theorem dX12_lends_8 : decode cX12_lends 8 = .ok (.invokestatic 204, 3) := by decide +kernel
theorem dX12_lends_11 : decode cX12_lends 11 = .ok (.return_, 1) := by decide +kernel
theorem fg_X12_16_15 : FdG "NylonLadderModel" 16 15 2 true := ⟨_, _, _, _, rfl, by decide, by decide, by decide, gxX12, by decide, T_6_51, Or.inl rfl, rfl⟩
theorem hd_X12_become : yX12_become.cls ≠ "java/lang/invoke/MethodHandle" ∧ yX12_become.cls ≠ "java/lang/invoke/VarHandle" ∧ (parseMethodDescriptor yX12_become.desc).map (fun d => d.parameters.length) = some 2 := by decide +kernel
theorem gs_X12_204 : GoodIn gT (va_wsS "NylonLadderModel" 204 yX12_become (Cond.code yX12_become cX12_become 3 none :: gT)) := good_S T_7_114 T_7_115 T_1_10 T_7_116
def fX12_lends (M : Mm) (o : Nat) : Option Mm :=
  B1 (rdN M o 15 0) fun a1_1 =>
  B1 (rdN M o 15 2) fun a5_2 =>
  B1 (fX12_become M a1_1 a5_2) fun M8_3 =>
  some M8_3
set_option maxRecDepth 100000 in
set_option maxHeartbeats 4000000 in
theorem qX12_lends (l : Launch) (E : Ev) {M : Mm} {o : Nat} {Mz : Mm} (hf : fX12_lends M o = some Mz) : Ct l E yX12_lends cX12_lends 1 none 1 22 0 0 [.ref (E.b + o)] M none Mz := by
  refine ct_of (by decide +kernel) (Nat.le_of_ble_eq_true rfl) fun p e s m args below meth c C hr hin hW ls hl => ?_
  have hl : lv_has ls 1 [(0, .ref (E.b + o))] := hl
  unfold fX12_lends at hf
  refine lv_aload_n C.x C.b dX12_lends_0 rfl (lv_at hl 0 rfl) ?_
  replace hf := x_b1 hf; obtain ⟨a1_1, ha1_1, hf⟩ := hf
  refine x_getn C hW fg_X12_9_15 ha1_1 dX12_lends_1 ?_
  refine lv_aload_n C.x C.b dX12_lends_4 rfl (lv_at hl 0 rfl) ?_
  replace hf := x_b1 hf; obtain ⟨a5_2, ha5_2, hf⟩ := hf
  refine x_getn C hW fg_X12_16_15 ha5_2 dX12_lends_5 ?_
  replace hf := x_b1 hf; obtain ⟨M8_3, hM8_3, hf⟩ := hf
  refine x_callS (As := [.ref (E.b + a1_1), .ref (E.b + a5_2)]) (rest := []) C hW hl (qX12_become l E hM8_3) gs_X12_204 hd_X12_become rfl rfl (Nat.le_of_ble_eq_true rfl) dX12_lends_8 ⟨Nat.le_of_ble_eq_true rfl, Nat.le_of_ble_eq_true rfl⟩ ⟨Nat.le_of_ble_eq_true rfl, Nat.le_of_ble_eq_true rfl⟩ (fun H locs hW => ?_)
  rw [x_e0 hf]
  exact x_vret C hr hW dX12_lends_11

theorem dX12_laysBack_0 : decode cX12_laysBack 0 = .ok (.aload_n 0, 1) := by decide +kernel
theorem dX12_laysBack_1 : decode cX12_laysBack 1 = .ok (.getfield 16, 3) := by decide +kernel
theorem dX12_laysBack_4 : decode cX12_laysBack 4 = .ok (.aload_n 0, 1) := by decide +kernel
theorem dX12_laysBack_5 : decode cX12_laysBack 5 = .ok (.getfield 9, 3) := by decide +kernel
theorem dX12_laysBack_8 : decode cX12_laysBack 8 = .ok (.invokestatic 204, 3) := by decide +kernel
theorem dX12_laysBack_11 : decode cX12_laysBack 11 = .ok (.return_, 1) := by decide +kernel
def fX12_laysBack (M : Mm) (o : Nat) : Option Mm :=
  B1 (rdN M o 15 2) fun a1_1 =>
  B1 (rdN M o 15 0) fun a5_2 =>
  B1 (fX12_become M a1_1 a5_2) fun M8_3 =>
  some M8_3
set_option maxRecDepth 100000 in
set_option maxHeartbeats 4000000 in
theorem qX12_laysBack (l : Launch) (E : Ev) {M : Mm} {o : Nat} {Mz : Mm} (hf : fX12_laysBack M o = some Mz) : Ct l E yX12_laysBack cX12_laysBack 1 none 1 22 0 0 [.ref (E.b + o)] M none Mz := by
  refine ct_of (by decide +kernel) (Nat.le_of_ble_eq_true rfl) fun p e s m args below meth c C hr hin hW ls hl => ?_
  have hl : lv_has ls 1 [(0, .ref (E.b + o))] := hl
  unfold fX12_laysBack at hf
  refine lv_aload_n C.x C.b dX12_laysBack_0 rfl (lv_at hl 0 rfl) ?_
  replace hf := x_b1 hf; obtain ⟨a1_1, ha1_1, hf⟩ := hf
  refine x_getn C hW fg_X12_16_15 ha1_1 dX12_laysBack_1 ?_
  refine lv_aload_n C.x C.b dX12_laysBack_4 rfl (lv_at hl 0 rfl) ?_
  replace hf := x_b1 hf; obtain ⟨a5_2, ha5_2, hf⟩ := hf
  refine x_getn C hW fg_X12_9_15 ha5_2 dX12_laysBack_5 ?_
  replace hf := x_b1 hf; obtain ⟨M8_3, hM8_3, hf⟩ := hf
  refine x_callS (As := [.ref (E.b + a1_1), .ref (E.b + a5_2)]) (rest := []) C hW hl (qX12_become l E hM8_3) gs_X12_204 hd_X12_become rfl rfl (Nat.le_of_ble_eq_true rfl) dX12_laysBack_8 ⟨Nat.le_of_ble_eq_true rfl, Nat.le_of_ble_eq_true rfl⟩ ⟨Nat.le_of_ble_eq_true rfl, Nat.le_of_ble_eq_true rfl⟩ (fun H locs hW => ?_)
  rw [x_e0 hf]
  exact x_vret C hr hW dX12_laysBack_11

theorem dX12_isWay_0 : decode cX12_isWay 0 = .ok (.iload_n 1, 1) := by decide +kernel
theorem dX12_isWay_1 : decode cX12_isWay 1 = .ok (.invokestatic 133, 3) := by decide +kernel
theorem dX12_isWay_4 : decode cX12_isWay 4 = .ok (.ifCond .eq 26, 3) := by decide +kernel
theorem dX12_isWay_7 : decode cX12_isWay 7 = .ok (.iload_n 2, 1) := by decide +kernel
theorem dX12_isWay_8 : decode cX12_isWay 8 = .ok (.i2l, 1) := by decide +kernel
theorem dX12_isWay_9 : decode cX12_isWay 9 = .ok (.lconst 0, 1) := by decide +kernel
theorem dX12_isWay_10 : decode cX12_isWay 10 = .ok (.aload_n 0, 1) := by decide +kernel
theorem dX12_isWay_11 : decode cX12_isWay 11 = .ok (.getfield 9, 3) := by decide +kernel
theorem dX12_isWay_14 : decode cX12_isWay 14 = .ok (.bipush 12, 2) := by decide +kernel
theorem dX12_isWay_16 : decode cX12_isWay 16 = .ok (.iload_n 1, 1) := by decide +kernel
theorem dX12_isWay_17 : decode cX12_isWay 17 = .ok (.iadd, 1) := by decide +kernel
theorem dX12_isWay_18 : decode cX12_isWay 18 = .ok (.iaload, 1) := by decide +kernel
theorem dX12_isWay_19 : decode cX12_isWay 19 = .ok (.i2l, 1) := by decide +kernel
theorem dX12_isWay_20 : decode cX12_isWay 20 = .ok (.invokestatic 61, 3) := by decide +kernel
theorem dX12_isWay_23 : decode cX12_isWay 23 = .ok (.ifCond .eq 7, 3) := by decide +kernel
theorem dX12_isWay_26 : decode cX12_isWay 26 = .ok (.iconst 1, 1) := by decide +kernel
theorem dX12_isWay_27 : decode cX12_isWay 27 = .ok (.goto 4, 3) := by decide +kernel
theorem dX12_isWay_30 : decode cX12_isWay 30 = .ok (.iconst 0, 1) := by decide +kernel
theorem dX12_isWay_31 : decode cX12_isWay 31 = .ok (.ireturn, 1) := by decide +kernel
def fX12_isWay (M : Mm) (o : Nat) (p1 : Int32) (p2 : Int32) : Option Int32 :=
  B1 (fX12_isTwo M p1) fun x1_1 =>
  if x1_1 = 0 then
    some 0
  else
    B1 (rdN M o 15 0) fun a11_2 =>
    B1 (alI M a11_2 (12 + p1)) fun x18_3 =>
    B1 (fX12_in M (p2.toInt64) 0 (x18_3.toInt64)) fun x20_4 =>
    if x20_4 = 0 then
      some 0
    else
      some 1
set_option maxRecDepth 100000 in
set_option maxHeartbeats 4000000 in
theorem qX12_isWay (l : Launch) (E : Ev) {M : Mm} {o : Nat} {p1 : Int32} {p2 : Int32} {rz : Int32} (hf : fX12_isWay M o p1 p2 = some rz) : Ct l E yX12_isWay cX12_isWay 3 (some .boolean) 2 45 0 0 [.ref (E.b + o), .int p1, .int p2] M (some (.int rz)) M := by
  refine ct_of (by decide +kernel) (Nat.le_of_ble_eq_true rfl) fun p e s m args below meth c C hr hin hW ls hl => ?_
  have hl : lv_has ls 3 [(0, .ref (E.b + o)), (1, .int p1), (2, .int p2)] := hl
  unfold fX12_isWay at hf
  refine lv_iload_n C.x C.b dX12_isWay_0 rfl (lv_at hl 1 rfl) ?_
  replace hf := x_b1 hf; obtain ⟨x1_1, hx1_1, hf⟩ := hf
  refine x_callS (As := [.int p1]) (rest := []) C hW hl (qX12_isTwo l E hx1_1) gs_X12_133 hd_X12_isTwo rfl rfl (Nat.le_of_ble_eq_true rfl) dX12_isWay_1 ⟨Nat.le_of_ble_eq_true rfl, Nat.le_of_ble_eq_true rfl⟩ ⟨Nat.le_of_ble_eq_true rfl, Nat.le_of_ble_eq_true rfl⟩ (fun H locs hW => ?_)
  refine lv_if_eq (tgt := 30) C.x C.b dX12_isWay_4 rfl (fun c4 => ?_) (fun c4 => ?_)
  · replace hf := x_ip c4 hf
    refine lv_iconst (v := 0) C.x C.b dX12_isWay_30 (by decide) ?_
    rw [x_e0 hf]
    exact x_zret C hr hW (v := 0) (w := 0) rfl dX12_isWay_31
  · replace hf := x_in c4 hf
    refine lv_iload_n C.x C.b dX12_isWay_7 rfl (lv_at hl 2 rfl) ?_
    refine lv_i2l (v := p2.toInt64) C.x C.b dX12_isWay_8 rfl ?_
    refine lv_lconst (v := 0) C.x C.b dX12_isWay_9 (by decide) ?_
    refine lv_aload_n C.x C.b dX12_isWay_10 rfl (lv_at hl 0 rfl) ?_
    replace hf := x_b1 hf; obtain ⟨a11_2, ha11_2, hf⟩ := hf
    refine x_getn C hW fg_X12_9_15 ha11_2 dX12_isWay_11 ?_
    refine lv_bipush (v := 12) C.x C.b dX12_isWay_14 (by decide) ?_
    refine lv_iload_n C.x C.b dX12_isWay_16 rfl (lv_at hl 1 rfl) ?_
    refine lv_iadd C.x C.b dX12_isWay_17 ?_
    replace hf := x_b1 hf; obtain ⟨x18_3, hx18_3, hf⟩ := hf
    refine x_iald C hW hx18_3 dX12_isWay_18 ?_
    refine lv_i2l (v := x18_3.toInt64) C.x C.b dX12_isWay_19 rfl ?_
    replace hf := x_b1 hf; obtain ⟨x20_4, hx20_4, hf⟩ := hf
    refine x_callS (As := [.long (p2.toInt64), .long 0, .long (x18_3.toInt64)]) (rest := []) C hW hl (qX12_in l E hx20_4) gs_X12_61 hd_X12_in rfl rfl (Nat.le_of_ble_eq_true rfl) dX12_isWay_20 ⟨Nat.le_of_ble_eq_true rfl, Nat.le_of_ble_eq_true rfl⟩ ⟨Nat.le_of_ble_eq_true rfl, Nat.le_of_ble_eq_true rfl⟩ (fun H locs hW => ?_)
    refine lv_if_eq (tgt := 30) C.x C.b dX12_isWay_23 rfl (fun c23 => ?_) (fun c23 => ?_)
    · replace hf := x_ip c23 hf
      refine lv_iconst (v := 0) C.x C.b dX12_isWay_30 (by decide) ?_
      rw [x_e0 hf]
      exact x_zret C hr hW (v := 0) (w := 0) rfl dX12_isWay_31
    · replace hf := x_in c23 hf
      refine lv_iconst (v := 1) C.x C.b dX12_isWay_26 (by decide) ?_
      refine lv_goto (tgt := 31) C.x C.b dX12_isWay_27 rfl ?_
      rw [x_e0 hf]
      exact x_zret C hr hW (v := 1) (w := 1) rfl dX12_isWay_31

theorem dX12_open_0 : decode cX12_open 0 = .ok (.iload_n 1, 1) := by decide +kernel
theorem dX12_open_1 : decode cX12_open 1 = .ok (.invokestatic 133, 3) := by decide +kernel
theorem dX12_open_4 : decode cX12_open 4 = .ok (.ifCond .eq 12, 3) := by decide +kernel
theorem dX12_open_7 : decode cX12_open 7 = .ok (.aload_n 0, 1) := by decide +kernel
theorem dX12_open_8 : decode cX12_open 8 = .ok (.iload_n 2, 1) := by decide +kernel
theorem dX12_open_9 : decode cX12_open 9 = .ok (.iload_n 3, 1) := by decide +kernel
theorem dX12_open_10 : decode cX12_open 10 = .ok (.invokevirtual 208, 3) := by decide +kernel
theorem dX12_open_13 : decode cX12_open 13 = .ok (.ifCond .ne 5, 3) := by decide +kernel
theorem dX12_open_16 : decode cX12_open 16 = .ok (.iconst (-1), 1) := by decide +kernel
theorem dX12_open_17 : decode cX12_open 17 = .ok (.ireturn, 1) := by decide +kernel
theorem dX12_open_18 : decode cX12_open 18 = .ok (.aload_n 0, 1) := by decide +kernel
theorem dX12_open_19 : decode cX12_open 19 = .ok (.getfield 9, 3) := by decide +kernel
theorem dX12_open_22 : decode cX12_open 22 = .ok (.iconst 2, 1) := by decide +kernel
theorem dX12_open_23 : decode cX12_open 23 = .ok (.iload_n 1, 1) := by decide +kernel
theorem dX12_open_24 : decode cX12_open 24 = .ok (.iadd, 1) := by decide +kernel
theorem dX12_open_25 : decode cX12_open 25 = .ok (.iaload, 1) := by decide +kernel
theorem dX12_open_26 : decode cX12_open 26 = .ok (.istore 4, 2) := by decide +kernel
theorem dX12_open_28 : decode cX12_open 28 = .ok (.iload 4, 2) := by decide +kernel
theorem dX12_open_30 : decode cX12_open 30 = .ok (.ifCond .ge 6, 3) := by decide +kernel
theorem dX12_open_33 : decode cX12_open 33 = .ok (.bipush (-3), 2) := by decide +kernel
theorem dX12_open_35 : decode cX12_open 35 = .ok (.ireturn, 1) := by decide +kernel
theorem dX12_open_36 : decode cX12_open 36 = .ok (.aload_n 0, 1) := by decide +kernel
theorem dX12_open_37 : decode cX12_open 37 = .ok (.invokevirtual 211, 3) := by decide +kernel
theorem dX12_open_40 : decode cX12_open 40 = .ok (.aload_n 0, 1) := by decide +kernel
theorem dX12_open_41 : decode cX12_open 41 = .ok (.iload_n 2, 1) := by decide +kernel
theorem dX12_open_42 : decode cX12_open 42 = .ok (.iconst 0, 1) := by decide +kernel
theorem dX12_open_43 : decode cX12_open 43 = .ok (.iload_n 3, 1) := by decide +kernel
theorem dX12_open_44 : decode cX12_open 44 = .ok (.invokevirtual 199, 3) := by decide +kernel
theorem dX12_open_47 : decode cX12_open 47 = .ok (.aload_n 0, 1) := by decide +kernel
theorem dX12_open_48 : decode cX12_open 48 = .ok (.iload 4, 2) := by decide +kernel
theorem dX12_open_50 : decode cX12_open 50 = .ok (.invokevirtual 108, 3) := by decide +kernel
theorem dX12_open_53 : decode cX12_open 53 = .ok (.istore 5, 2) := by decide +kernel
theorem dX12_open_55 : decode cX12_open 55 = .ok (.aload_n 0, 1) := by decide +kernel
theorem dX12_open_56 : decode cX12_open 56 = .ok (.invokevirtual 214, 3) := by decide +kernel
theorem dX12_open_59 : decode cX12_open 59 = .ok (.iload 5, 2) := by decide +kernel
theorem dX12_open_61 : decode cX12_open 61 = .ok (.ireturn, 1) := by decide +kernel
theorem hd_X12_isWay : yX12_isWay.cls ≠ "java/lang/invoke/MethodHandle" ∧ yX12_isWay.cls ≠ "java/lang/invoke/VarHandle" ∧ (parseMethodDescriptor yX12_isWay.desc).map (fun d => d.parameters.length) = some 2 := by decide +kernel
theorem gv_X12_208 : GoodIn gT (wsV "NylonLadderModel" 208 "NylonLadderModel" yX12_isWay (Cond.code yX12_isWay cX12_isWay 3 (some .boolean) :: gT)) := good_V T_7_106 T_7_108 TS_59 T_1_10 T_7_109
theorem hd_X12_lends : yX12_lends.cls ≠ "java/lang/invoke/MethodHandle" ∧ yX12_lends.cls ≠ "java/lang/invoke/VarHandle" ∧ (parseMethodDescriptor yX12_lends.desc).map (fun d => d.parameters.length) = some 0 := by decide +kernel
theorem gv_X12_211 : GoodIn gT (wsV "NylonLadderModel" 211 "NylonLadderModel" yX12_lends (Cond.code yX12_lends cX12_lends 1 none :: gT)) := good_V T_7_110 T_7_112 TS_60 T_1_10 T_7_113
theorem hd_X12_laysBack : yX12_laysBack.cls ≠ "java/lang/invoke/MethodHandle" ∧ yX12_laysBack.cls ≠ "java/lang/invoke/VarHandle" ∧ (parseMethodDescriptor yX12_laysBack.desc).map (fun d => d.parameters.length) = some 0 := by decide +kernel
theorem gv_X12_214 : GoodIn gT (wsV "NylonLadderModel" 214 "NylonLadderModel" yX12_laysBack (Cond.code yX12_laysBack cX12_laysBack 1 none :: gT)) := good_V T_7_117 T_7_119 TS_61 T_1_10 T_7_120
def fX12_open (M : Mm) (o : Nat) (p1 : Int32) (p2 : Int32) (p3 : Int32) : Option (Int32 × Mm) :=
  B1 (fX12_isTwo M p1) fun x1_1 =>
  if x1_1 = 0 then
    some ((-1), M)
  else
    B1 (gk M o 15) fun _ =>
    B1 (fX12_isWay M o p2 p3) fun x10_3 =>
    if x10_3 = 0 then
      some ((-1), M)
    else
      B1 (rdN M o 15 0) fun a19_4 =>
      B1 (alI M a19_4 (2 + p1)) fun x25_5 =>
      if 0 ≤ x25_5 then
        B1 (gk M o 15) fun _ =>
        B1 (fX12_lends M o) fun M37_7 =>
        B1 (gk M37_7 o 15) fun _ =>
        B1 (fX12_walks M37_7 o p2 0 p3) fun M44_9 =>
        B1 (gk M44_9 o 15) fun _ =>
        B1 (fX12_openOf M44_9 o x25_5) fun x50_11 =>
        B1 (gk M44_9 o 15) fun _ =>
        B1 (fX12_laysBack M44_9 o) fun M56_13 =>
        some (x50_11, M56_13)
      else
        some ((-3), M)
set_option maxRecDepth 100000 in
set_option maxHeartbeats 4000000 in
theorem qX12_open (l : Launch) (E : Ev) {M : Mm} {o : Nat} {p1 : Int32} {p2 : Int32} {p3 : Int32} {rz : Int32} {Mz : Mm} (hf : fX12_open M o p1 p2 p3 = some (rz, Mz)) : Ct l E yX12_open cX12_open 6 (some .int) 7 168 0 0 [.ref (E.b + o), .int p1, .int p2, .int p3] M (some (.int rz)) Mz := by
  refine ct_of (by decide +kernel) (Nat.le_of_ble_eq_true rfl) fun p e s m args below meth c C hr hin hW ls hl => ?_
  have hl : lv_has ls 6 [(0, .ref (E.b + o)), (1, .int p1), (2, .int p2), (3, .int p3)] := hl
  unfold fX12_open at hf
  refine lv_iload_n C.x C.b dX12_open_0 rfl (lv_at hl 1 rfl) ?_
  replace hf := x_b1 hf; obtain ⟨x1_1, hx1_1, hf⟩ := hf
  refine x_callS (As := [.int p1]) (rest := []) C hW hl (qX12_isTwo l E hx1_1) gs_X12_133 hd_X12_isTwo rfl rfl (Nat.le_of_ble_eq_true rfl) dX12_open_1 ⟨Nat.le_of_ble_eq_true rfl, Nat.le_of_ble_eq_true rfl⟩ ⟨Nat.le_of_ble_eq_true rfl, Nat.le_of_ble_eq_true rfl⟩ (fun H locs hW => ?_)
  refine lv_if_eq (tgt := 16) C.x C.b dX12_open_4 rfl (fun c4 => ?_) (fun c4 => ?_)
  · replace hf := x_ip c4 hf
    refine lv_iconst (v := (-1)) C.x C.b dX12_open_16 (by decide) ?_
    rw [x_e1 hf, x_e2 hf]
    exact x_iret C hr hW dX12_open_17
  · replace hf := x_in c4 hf
    refine lv_aload_n C.x C.b dX12_open_7 rfl (lv_at hl 0 rfl) ?_
    refine lv_iload_n C.x C.b dX12_open_8 rfl (lv_at hl 2 rfl) ?_
    refine lv_iload_n C.x C.b dX12_open_9 rfl (lv_at hl 3 rfl) ?_
    replace hf := x_b1 hf; obtain ⟨_, hk10_2, hf⟩ := hf
    replace hf := x_b1 hf; obtain ⟨x10_3, hx10_3, hf⟩ := hf
    refine x_callV (As := [.int p2, .int p3]) (a := o) (rest := []) C hW hl (qX12_isWay l E hx10_3) (x_gk hk10_2) (by decide) (by decide) rfl gv_X12_208 ⟨rfl, hd_X12_isWay⟩ rfl rfl (Nat.le_of_ble_eq_true rfl) dX12_open_10 ⟨Nat.le_of_ble_eq_true rfl, Nat.le_of_ble_eq_true rfl⟩ ⟨Nat.le_of_ble_eq_true rfl, Nat.le_of_ble_eq_true rfl⟩ (fun H locs hW => ?_)
    refine lv_if_ne (tgt := 18) C.x C.b dX12_open_13 rfl (fun c13 => ?_) (fun c13 => ?_)
    · replace hf := x_in c13 hf
      refine lv_aload_n C.x C.b dX12_open_18 rfl (lv_at hl 0 rfl) ?_
      replace hf := x_b1 hf; obtain ⟨a19_4, ha19_4, hf⟩ := hf
      refine x_getn C hW fg_X12_9_15 ha19_4 dX12_open_19 ?_
      refine lv_iconst (v := 2) C.x C.b dX12_open_22 (by decide) ?_
      refine lv_iload_n C.x C.b dX12_open_23 rfl (lv_at hl 1 rfl) ?_
      refine lv_iadd C.x C.b dX12_open_24 ?_
      replace hf := x_b1 hf; obtain ⟨x25_5, hx25_5, hf⟩ := hf
      refine x_iald C hW hx25_5 dX12_open_25 ?_
      refine lv_istore (lv' := [(4, .int _), (0, .ref (E.b + _)), (1, .int _), (2, .int _), (3, .int _)]) C.x C.b dX12_open_26 hl (by decide) rfl (fun ls hl => ?_)
      refine lv_iload C.x C.b dX12_open_28 (lv_at hl 0 rfl) ?_
      refine lv_if_ge (tgt := 36) C.x C.b dX12_open_30 rfl (fun c30 => ?_) (fun c30 => ?_)
      · replace hf := x_ip c30 hf
        refine lv_aload_n C.x C.b dX12_open_36 rfl (lv_at hl 1 rfl) ?_
        replace hf := x_b1 hf; obtain ⟨_, hk37_6, hf⟩ := hf
        replace hf := x_b1 hf; obtain ⟨M37_7, hM37_7, hf⟩ := hf
        refine x_callV (As := []) (a := o) (rest := []) C hW hl (qX12_lends l E hM37_7) (x_gk hk37_6) (by decide) (by decide) rfl gv_X12_211 ⟨rfl, hd_X12_lends⟩ rfl rfl (Nat.le_of_ble_eq_true rfl) dX12_open_37 ⟨Nat.le_of_ble_eq_true rfl, Nat.le_of_ble_eq_true rfl⟩ ⟨Nat.le_of_ble_eq_true rfl, Nat.le_of_ble_eq_true rfl⟩ (fun H locs hW => ?_)
        refine lv_aload_n C.x C.b dX12_open_40 rfl (lv_at hl 1 rfl) ?_
        refine lv_iload_n C.x C.b dX12_open_41 rfl (lv_at hl 3 rfl) ?_
        refine lv_iconst (v := 0) C.x C.b dX12_open_42 (by decide) ?_
        refine lv_iload_n C.x C.b dX12_open_43 rfl (lv_at hl 4 rfl) ?_
        replace hf := x_b1 hf; obtain ⟨_, hk44_8, hf⟩ := hf
        replace hf := x_b1 hf; obtain ⟨M44_9, hM44_9, hf⟩ := hf
        refine x_callV (As := [.int p2, .int 0, .int p3]) (a := o) (rest := []) C hW hl (qX12_walks l E hM44_9) (x_gk hk44_8) (by decide) (by decide) rfl gv_X12_199 ⟨rfl, hd_X12_walks⟩ rfl rfl (Nat.le_of_ble_eq_true rfl) dX12_open_44 ⟨Nat.le_of_ble_eq_true rfl, Nat.le_of_ble_eq_true rfl⟩ ⟨Nat.le_of_ble_eq_true rfl, Nat.le_of_ble_eq_true rfl⟩ (fun H locs hW => ?_)
        refine lv_aload_n C.x C.b dX12_open_47 rfl (lv_at hl 1 rfl) ?_
        refine lv_iload C.x C.b dX12_open_48 (lv_at hl 0 rfl) ?_
        replace hf := x_b1 hf; obtain ⟨_, hk50_10, hf⟩ := hf
        replace hf := x_b1 hf; obtain ⟨x50_11, hx50_11, hf⟩ := hf
        refine x_callV (As := [.int x25_5]) (a := o) (rest := []) C hW hl (qX12_openOf l E hx50_11) (x_gk hk50_10) (by decide) (by decide) rfl gv_X12_108 ⟨rfl, hd_X12_openOf⟩ rfl rfl (Nat.le_of_ble_eq_true rfl) dX12_open_50 ⟨Nat.le_of_ble_eq_true rfl, Nat.le_of_ble_eq_true rfl⟩ ⟨Nat.le_of_ble_eq_true rfl, Nat.le_of_ble_eq_true rfl⟩ (fun H locs hW => ?_)
        refine lv_istore (lv' := [(5, .int _), (4, .int _), (0, .ref (E.b + _)), (1, .int _), (2, .int _), (3, .int _)]) C.x C.b dX12_open_53 hl (by decide) rfl (fun ls hl => ?_)
        refine lv_aload_n C.x C.b dX12_open_55 rfl (lv_at hl 2 rfl) ?_
        replace hf := x_b1 hf; obtain ⟨_, hk56_12, hf⟩ := hf
        replace hf := x_b1 hf; obtain ⟨M56_13, hM56_13, hf⟩ := hf
        refine x_callV (As := []) (a := o) (rest := []) C hW hl (qX12_laysBack l E hM56_13) (x_gk hk56_12) (by decide) (by decide) rfl gv_X12_214 ⟨rfl, hd_X12_laysBack⟩ rfl rfl (Nat.le_of_ble_eq_true rfl) dX12_open_56 ⟨Nat.le_of_ble_eq_true rfl, Nat.le_of_ble_eq_true rfl⟩ ⟨Nat.le_of_ble_eq_true rfl, Nat.le_of_ble_eq_true rfl⟩ (fun H locs hW => ?_)
        refine lv_iload C.x C.b dX12_open_59 (lv_at hl 0 rfl) ?_
        rw [x_e1 hf, x_e2 hf]
        exact x_iret C hr hW dX12_open_61
      · replace hf := x_in c30 hf
        refine lv_bipush (v := (-3)) C.x C.b dX12_open_33 (by decide) ?_
        rw [x_e1 hf, x_e2 hf]
        exact x_iret C hr hW dX12_open_35
    · replace hf := x_ip c13 hf
      refine lv_iconst (v := (-1)) C.x C.b dX12_open_16 (by decide) ?_
      rw [x_e1 hf, x_e2 hf]
      exact x_iret C hr hW dX12_open_17
