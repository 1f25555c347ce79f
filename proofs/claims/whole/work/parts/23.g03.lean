theorem dX12_worth_0 : decode cX12_worth 0 = .ok (.aload_n 0, 1) := by decide +kernel
theorem dX12_worth_1 : decode cX12_worth 1 = .ok (.iload_n 1, 1) := by decide +kernel
theorem dX12_worth_2 : decode cX12_worth 2 = .ok (.invokevirtual 99, 3) := by decide +kernel
theorem dX12_worth_5 : decode cX12_worth 5 = .ok (.ifCond .ne 5, 3) := by decide +kernel
theorem dX12_worth_8 : decode cX12_worth 8 = .ok (.iconst (-1), 1) := by decide +kernel
theorem dX12_worth_9 : decode cX12_worth 9 = .ok (.ireturn, 1) := by decide +kernel
theorem dX12_worth_10 : decode cX12_worth 10 = .ok (.aload_n 0, 1) := by decide +kernel
theorem dX12_worth_11 : decode cX12_worth 11 = .ok (.iload_n 1, 1) := by decide +kernel
theorem dX12_worth_12 : decode cX12_worth 12 = .ok (.invokevirtual 257, 3) := by decide +kernel
theorem dX12_worth_15 : decode cX12_worth 15 = .ok (.ifCond .eq 6, 3) := by decide +kernel
theorem dX12_worth_18 : decode cX12_worth 18 = .ok (.bipush (-3), 2) := by decide +kernel
theorem dX12_worth_20 : decode cX12_worth 20 = .ok (.ireturn, 1) := by decide +kernel
theorem dX12_worth_21 : decode cX12_worth 21 = .ok (.aload_n 0, 1) := by decide +kernel
theorem dX12_worth_22 : decode cX12_worth 22 = .ok (.iload_n 1, 1) := by decide +kernel
theorem dX12_worth_23 : decode cX12_worth 23 = .ok (.invokevirtual 262, 3) := by decide +kernel
theorem dX12_worth_26 : decode cX12_worth 26 = .ok (.aload_n 0, 1) := by decide +kernel
theorem dX12_worth_27 : decode cX12_worth 27 = .ok (.iload_n 1, 1) := by decide +kernel
theorem dX12_worth_28 : decode cX12_worth 28 = .ok (.iconst 3, 1) := by decide +kernel
theorem dX12_worth_29 : decode cX12_worth 29 = .ok (.invokevirtual 67, 3) := by decide +kernel
theorem dX12_worth_32 : decode cX12_worth 32 = .ok (.i2l, 1) := by decide +kernel
theorem dX12_worth_33 : decode cX12_worth 33 = .ok (.lmul, 1) := by decide +kernel
theorem dX12_worth_34 : decode cX12_worth 34 = .ok (.lstore_n 2, 1) := by decide +kernel
theorem dX12_worth_35 : decode cX12_worth 35 = .ok (.aload_n 0, 1) := by decide +kernel
theorem dX12_worth_36 : decode cX12_worth 36 = .ok (.getfield 9, 3) := by decide +kernel
theorem dX12_worth_39 : decode cX12_worth 39 = .ok (.bipush 10, 2) := by decide +kernel
theorem dX12_worth_41 : decode cX12_worth 41 = .ok (.iaload, 1) := by decide +kernel
theorem dX12_worth_42 : decode cX12_worth 42 = .ok (.i2l, 1) := by decide +kernel
theorem dX12_worth_43 : decode cX12_worth 43 = .ok (.aload_n 0, 1) := by decide +kernel
theorem dX12_worth_44 : decode cX12_worth 44 = .ok (.iload_n 1, 1) := by decide +kernel
theorem dX12_worth_45 : decode cX12_worth 45 = .ok (.iconst 3, 1) := by decide +kernel
theorem dX12_worth_46 : decode cX12_worth 46 = .ok (.invokevirtual 67, 3) := by decide +kernel
theorem dX12_worth_49 : decode cX12_worth 49 = .ok (.aload_n 0, 1) := by decide +kernel
theorem dX12_worth_50 : decode cX12_worth 50 = .ok (.iload_n 1, 1) := by decide +kernel
theorem dX12_worth_51 : decode cX12_worth 51 = .ok (.iconst 4, 1) := by decide +kernel
theorem dX12_worth_52 : decode cX12_worth 52 = .ok (.invokevirtual 67, 3) := by decide +kernel
theorem dX12_worth_55 : decode cX12_worth 55 = .ok (.isub, 1) := by decide +kernel
theorem dX12_worth_56 : decode cX12_worth 56 = .ok (.i2l, 1) := by decide +kernel
theorem dX12_worth_57 : decode cX12_worth 57 = .ok (.lmul, 1) := by decide +kernel
theorem dX12_worth_58 : decode cX12_worth 58 = .ok (.lstore 4, 2) := by decide +kernel
theorem dX12_worth_60 : decode cX12_worth 60 = .ok (.lload_n 2, 1) := by decide +kernel
theorem dX12_worth_61 : decode cX12_worth 61 = .ok (.lload 4, 2) := by decide +kernel
theorem dX12_worth_63 : decode cX12_worth 63 = .ok (.lcmp, 1) := by decide +kernel
theorem dX12_worth_64 : decode cX12_worth 64 = .ok (.ifCond .ge 7, 3) := by decide +kernel
theorem dX12_worth_67 : decode cX12_worth 67 = .ok (.iconst 1, 1) := by decide +kernel
theorem dX12_worth_68 : decode cX12_worth 68 = .ok (.goto 4, 3) := by decide +kernel
theorem dX12_worth_71 : decode cX12_worth 71 = .ok (.iconst 0, 1) := by decide +kernel
theorem dX12_worth_72 : decode cX12_worth 72 = .ok (.ireturn, 1) := by decide +kernel
def fX12_worth (M : Mm) (o : Nat) (p1 : Int32) : Option Int32 :=
  B1 (gk M o 15) fun _ =>
  B1 (fX12_isOne M o p1) fun x2_2 =>
  if x2_2 = 0 then
    some (-1)
  else
    B1 (gk M o 15) fun _ =>
    B1 (fX12_isWornOut M o p1) fun x12_4 =>
    if x12_4 = 0 then
      B1 (gk M o 15) fun _ =>
      B1 (fX12_mending M o p1) fun x23_6 =>
      B1 (gk M o 15) fun _ =>
      B1 (fX12_its M o p1 3) fun x29_8 =>
      B1 (rdN M o 15 0) fun a36_9 =>
      B1 (alI M a36_9 10) fun x41_10 =>
      B1 (gk M o 15) fun _ =>
      B1 (fX12_its M o p1 3) fun x46_12 =>
      B1 (gk M o 15) fun _ =>
      B1 (fX12_its M o p1 4) fun x52_14 =>
      if 0 ≤ (lg_cmp (x23_6 * (x29_8.toInt64)) ((x41_10.toInt64) * ((x46_12 - x52_14).toInt64))) then
        some 0
      else
        some 1
    else
      some (-3)
set_option maxRecDepth 100000 in
set_option maxHeartbeats 4000000 in
theorem qX12_worth (l : Launch) (E : Ev) {M : Mm} {o : Nat} {p1 : Int32} {rz : Int32} (hf : fX12_worth M o p1 = some rz) : Ct l E yX12_worth cX12_worth 6 (some .int) 4 85 0 0 [.ref (E.b + o), .int p1] M (some (.int rz)) M := by
  refine ct_of (by decide +kernel) (Nat.le_of_ble_eq_true rfl) fun p e s m args below meth c C hr hin hW ls hl => ?_
  have hl : lv_has ls 6 [(0, .ref (E.b + o)), (1, .int p1)] := hl
  unfold fX12_worth at hf
  refine lv_aload_n C.x C.b dX12_worth_0 rfl (lv_at hl 0 rfl) ?_
  refine lv_iload_n C.x C.b dX12_worth_1 rfl (lv_at hl 1 rfl) ?_
  replace hf := x_b1 hf; obtain ⟨_, hk2_1, hf⟩ := hf
  replace hf := x_b1 hf; obtain ⟨x2_2, hx2_2, hf⟩ := hf
  refine x_callV (As := [.int p1]) (a := o) (rest := []) C hW hl (qX12_isOne l E hx2_2) (x_gk hk2_1) (by decide) (by decide) rfl gv_X12_99 ⟨rfl, hd_X12_isOne⟩ rfl rfl (Nat.le_of_ble_eq_true rfl) dX12_worth_2 ⟨Nat.le_of_ble_eq_true rfl, Nat.le_of_ble_eq_true rfl⟩ ⟨Nat.le_of_ble_eq_true rfl, Nat.le_of_ble_eq_true rfl⟩ (fun H locs hW => ?_)
  refine lv_if_ne (tgt := 10) C.x C.b dX12_worth_5 rfl (fun c5 => ?_) (fun c5 => ?_)
  · replace hf := x_in c5 hf
    refine lv_aload_n C.x C.b dX12_worth_10 rfl (lv_at hl 0 rfl) ?_
    refine lv_iload_n C.x C.b dX12_worth_11 rfl (lv_at hl 1 rfl) ?_
    replace hf := x_b1 hf; obtain ⟨_, hk12_3, hf⟩ := hf
    replace hf := x_b1 hf; obtain ⟨x12_4, hx12_4, hf⟩ := hf
    refine x_callV (As := [.int p1]) (a := o) (rest := []) C hW hl (qX12_isWornOut l E hx12_4) (x_gk hk12_3) (by decide) (by decide) rfl gv_X12_257 ⟨rfl, hd_X12_isWornOut⟩ rfl rfl (Nat.le_of_ble_eq_true rfl) dX12_worth_12 ⟨Nat.le_of_ble_eq_true rfl, Nat.le_of_ble_eq_true rfl⟩ ⟨Nat.le_of_ble_eq_true rfl, Nat.le_of_ble_eq_true rfl⟩ (fun H locs hW => ?_)
    refine lv_if_eq (tgt := 21) C.x C.b dX12_worth_15 rfl (fun c15 => ?_) (fun c15 => ?_)
    · replace hf := x_ip c15 hf
      refine lv_aload_n C.x C.b dX12_worth_21 rfl (lv_at hl 0 rfl) ?_
      refine lv_iload_n C.x C.b dX12_worth_22 rfl (lv_at hl 1 rfl) ?_
      replace hf := x_b1 hf; obtain ⟨_, hk23_5, hf⟩ := hf
      replace hf := x_b1 hf; obtain ⟨x23_6, hx23_6, hf⟩ := hf
      refine x_callV (As := [.int p1]) (a := o) (rest := []) C hW hl (qX12_mending l E hx23_6) (x_gk hk23_5) (by decide) (by decide) rfl gv_X12_262 ⟨rfl, hd_X12_mending⟩ rfl rfl (Nat.le_of_ble_eq_true rfl) dX12_worth_23 ⟨Nat.le_of_ble_eq_true rfl, Nat.le_of_ble_eq_true rfl⟩ ⟨Nat.le_of_ble_eq_true rfl, Nat.le_of_ble_eq_true rfl⟩ (fun H locs hW => ?_)
      refine lv_aload_n C.x C.b dX12_worth_26 rfl (lv_at hl 0 rfl) ?_
      refine lv_iload_n C.x C.b dX12_worth_27 rfl (lv_at hl 1 rfl) ?_
      refine lv_iconst (v := 3) C.x C.b dX12_worth_28 (by decide) ?_
      replace hf := x_b1 hf; obtain ⟨_, hk29_7, hf⟩ := hf
      replace hf := x_b1 hf; obtain ⟨x29_8, hx29_8, hf⟩ := hf
      refine x_callV (As := [.int p1, .int 3]) (a := o) (rest := [.long x23_6]) C hW hl (qX12_its l E hx29_8) (x_gk hk29_7) (by decide) (by decide) rfl gv_X12_67 ⟨rfl, hd_X12_its⟩ rfl rfl (Nat.le_of_ble_eq_true rfl) dX12_worth_29 ⟨Nat.le_of_ble_eq_true rfl, Nat.le_of_ble_eq_true rfl⟩ ⟨Nat.le_of_ble_eq_true rfl, Nat.le_of_ble_eq_true rfl⟩ (fun H locs hW => ?_)
      refine lv_i2l (v := x29_8.toInt64) C.x C.b dX12_worth_32 rfl ?_
      refine lv_lmul C.x C.b dX12_worth_33 ?_
      refine lv_lstore_n (lv' := [(2, .long _), (0, .ref (E.b + _)), (1, .int _)]) C.x C.b dX12_worth_34 rfl hl (by decide) rfl (fun ls hl => ?_)
      refine lv_aload_n C.x C.b dX12_worth_35 rfl (lv_at hl 1 rfl) ?_
      replace hf := x_b1 hf; obtain ⟨a36_9, ha36_9, hf⟩ := hf
      refine x_getn C hW fg_X12_9_15 ha36_9 dX12_worth_36 ?_
      refine lv_bipush (v := 10) C.x C.b dX12_worth_39 (by decide) ?_
      replace hf := x_b1 hf; obtain ⟨x41_10, hx41_10, hf⟩ := hf
      refine x_iald C hW hx41_10 dX12_worth_41 ?_
      refine lv_i2l (v := x41_10.toInt64) C.x C.b dX12_worth_42 rfl ?_
      refine lv_aload_n C.x C.b dX12_worth_43 rfl (lv_at hl 1 rfl) ?_
      refine lv_iload_n C.x C.b dX12_worth_44 rfl (lv_at hl 2 rfl) ?_
      refine lv_iconst (v := 3) C.x C.b dX12_worth_45 (by decide) ?_
      replace hf := x_b1 hf; obtain ⟨_, hk46_11, hf⟩ := hf
      replace hf := x_b1 hf; obtain ⟨x46_12, hx46_12, hf⟩ := hf
      refine x_callV (As := [.int p1, .int 3]) (a := o) (rest := [.long (x41_10.toInt64)]) C hW hl (qX12_its l E hx46_12) (x_gk hk46_11) (by decide) (by decide) rfl gv_X12_67 ⟨rfl, hd_X12_its⟩ rfl rfl (Nat.le_of_ble_eq_true rfl) dX12_worth_46 ⟨Nat.le_of_ble_eq_true rfl, Nat.le_of_ble_eq_true rfl⟩ ⟨Nat.le_of_ble_eq_true rfl, Nat.le_of_ble_eq_true rfl⟩ (fun H locs hW => ?_)
      refine lv_aload_n C.x C.b dX12_worth_49 rfl (lv_at hl 1 rfl) ?_
      refine lv_iload_n C.x C.b dX12_worth_50 rfl (lv_at hl 2 rfl) ?_
      refine lv_iconst (v := 4) C.x C.b dX12_worth_51 (by decide) ?_
      replace hf := x_b1 hf; obtain ⟨_, hk52_13, hf⟩ := hf
      replace hf := x_b1 hf; obtain ⟨x52_14, hx52_14, hf⟩ := hf
      refine x_callV (As := [.int p1, .int 4]) (a := o) (rest := [.int x46_12, .long (x41_10.toInt64)]) C hW hl (qX12_its l E hx52_14) (x_gk hk52_13) (by decide) (by decide) rfl gv_X12_67 ⟨rfl, hd_X12_its⟩ rfl rfl (Nat.le_of_ble_eq_true rfl) dX12_worth_52 ⟨Nat.le_of_ble_eq_true rfl, Nat.le_of_ble_eq_true rfl⟩ ⟨Nat.le_of_ble_eq_true rfl, Nat.le_of_ble_eq_true rfl⟩ (fun H locs hW => ?_)
      refine lv_isub C.x C.b dX12_worth_55 ?_
      refine lv_i2l (v := (x46_12 - x52_14).toInt64) C.x C.b dX12_worth_56 rfl ?_
      refine lv_lmul C.x C.b dX12_worth_57 ?_
      refine lv_lstore (lv' := [(4, .long _), (2, .long _), (0, .ref (E.b + _)), (1, .int _)]) C.x C.b dX12_worth_58 hl (by decide) rfl (fun ls hl => ?_)
      refine lv_lload_n C.x C.b dX12_worth_60 rfl (lv_at hl 1 rfl) ?_
      refine lv_lload C.x C.b dX12_worth_61 (lv_at hl 0 rfl) ?_
      refine W.lcmp C.x C.b dX12_worth_63 ?_
      refine lv_if_ge (tgt := 71) C.x C.b dX12_worth_64 rfl (fun c64 => ?_) (fun c64 => ?_)
      · replace hf := x_ip c64 hf
        refine lv_iconst (v := 0) C.x C.b dX12_worth_71 (by decide) ?_
        rw [x_e0 hf]
        exact x_iret C hr hW dX12_worth_72
      · replace hf := x_in c64 hf
        refine lv_iconst (v := 1) C.x C.b dX12_worth_67 (by decide) ?_
        refine lv_goto (tgt := 72) C.x C.b dX12_worth_68 rfl ?_
        rw [x_e0 hf]
        exact x_iret C hr hW dX12_worth_72
    · replace hf := x_in c15 hf
      refine lv_bipush (v := (-3)) C.x C.b dX12_worth_18 (by decide) ?_
      rw [x_e0 hf]
      exact x_iret C hr hW dX12_worth_20
  · replace hf := x_ip c5 hf
    refine lv_iconst (v := (-1)) C.x C.b dX12_worth_8 (by decide) ?_
    rw [x_e0 hf]
    exact x_iret C hr hW dX12_worth_9

theorem dX12_isBegun_0 : decode cX12_isBegun 0 = .ok (.aload_n 0, 1) := by decide +kernel
theorem dX12_isBegun_1 : decode cX12_isBegun 1 = .ok (.iload_n 1, 1) := by decide +kernel
theorem dX12_isBegun_2 : decode cX12_isBegun 2 = .ok (.bipush 6, 2) := by decide +kernel
theorem dX12_isBegun_4 : decode cX12_isBegun 4 = .ok (.invokevirtual 67, 3) := by decide +kernel
theorem dX12_isBegun_7 : decode cX12_isBegun 7 = .ok (.istore 5, 2) := by decide +kernel
theorem dX12_isBegun_9 : decode cX12_isBegun 9 = .ok (.aload_n 0, 1) := by decide +kernel
theorem dX12_isBegun_10 : decode cX12_isBegun 10 = .ok (.iload_n 1, 1) := by decide +kernel
theorem dX12_isBegun_11 : decode cX12_isBegun 11 = .ok (.bipush 7, 2) := by decide +kernel
theorem dX12_isBegun_13 : decode cX12_isBegun 13 = .ok (.invokevirtual 67, 3) := by decide +kernel
theorem dX12_isBegun_16 : decode cX12_isBegun 16 = .ok (.istore 6, 2) := by decide +kernel
theorem dX12_isBegun_18 : decode cX12_isBegun 18 = .ok (.aload_n 0, 1) := by decide +kernel
theorem dX12_isBegun_19 : decode cX12_isBegun 19 = .ok (.invokevirtual 211, 3) := by decide +kernel
theorem dX12_isBegun_22 : decode cX12_isBegun 22 = .ok (.aload_n 0, 1) := by decide +kernel
theorem dX12_isBegun_23 : decode cX12_isBegun 23 = .ok (.iload_n 1, 1) := by decide +kernel
theorem dX12_isBegun_24 : decode cX12_isBegun 24 = .ok (.bipush 8, 2) := by decide +kernel
theorem dX12_isBegun_26 : decode cX12_isBegun 26 = .ok (.iconst 0, 1) := by decide +kernel
theorem dX12_isBegun_27 : decode cX12_isBegun 27 = .ok (.invokevirtual 111, 3) := by decide +kernel
theorem dX12_isBegun_30 : decode cX12_isBegun 30 = .ok (.aload_n 0, 1) := by decide +kernel
theorem dX12_isBegun_31 : decode cX12_isBegun 31 = .ok (.iload_n 1, 1) := by decide +kernel
theorem dX12_isBegun_32 : decode cX12_isBegun 32 = .ok (.iload_n 3, 1) := by decide +kernel
theorem dX12_isBegun_33 : decode cX12_isBegun 33 = .ok (.iload_n 3, 1) := by decide +kernel
theorem dX12_isBegun_34 : decode cX12_isBegun 34 = .ok (.invokevirtual 124, 3) := by decide +kernel
theorem dX12_isBegun_37 : decode cX12_isBegun 37 = .ok (.iload 4, 2) := by decide +kernel
theorem dX12_isBegun_39 : decode cX12_isBegun 39 = .ok (.istore 7, 2) := by decide +kernel
theorem dX12_isBegun_41 : decode cX12_isBegun 41 = .ok (.iload 7, 2) := by decide +kernel
theorem dX12_isBegun_43 : decode cX12_isBegun 43 = .ok (.aload_n 0, 1) := by decide +kernel
theorem dX12_isBegun_44 : decode cX12_isBegun 44 = .ok (.getfield 9, 3) := by decide +kernel
theorem dX12_isBegun_47 : decode cX12_isBegun 47 = .ok (.bipush 12, 2) := by decide +kernel
theorem dX12_isBegun_49 : decode cX12_isBegun 49 = .ok (.iload_n 2, 1) := by decide +kernel
theorem dX12_isBegun_50 : decode cX12_isBegun 50 = .ok (.iadd, 1) := by decide +kernel
theorem dX12_isBegun_51 : decode cX12_isBegun 51 = .ok (.iaload, 1) := by decide +kernel
theorem dX12_isBegun_52 : decode cX12_isBegun 52 = .ok (.if_icmp .ge 46, 3) := by decide +kernel
theorem dX12_isBegun_55 : decode cX12_isBegun 55 = .ok (.aload_n 0, 1) := by decide +kernel
theorem dX12_isBegun_56 : decode cX12_isBegun 56 = .ok (.iload_n 2, 1) := by decide +kernel
theorem dX12_isBegun_57 : decode cX12_isBegun 57 = .ok (.iload 7, 2) := by decide +kernel
theorem dX12_isBegun_59 : decode cX12_isBegun 59 = .ok (.invokevirtual 196, 3) := by decide +kernel
theorem dX12_isBegun_62 : decode cX12_isBegun 62 = .ok (.istore 8, 2) := by decide +kernel
theorem dX12_isBegun_64 : decode cX12_isBegun 64 = .ok (.iconst 0, 1) := by decide +kernel
theorem dX12_isBegun_65 : decode cX12_isBegun 65 = .ok (.istore 9, 2) := by decide +kernel
theorem dX12_isBegun_67 : decode cX12_isBegun 67 = .ok (.iload 9, 2) := by decide +kernel
theorem dX12_isBegun_69 : decode cX12_isBegun 69 = .ok (.iload 8, 2) := by decide +kernel
theorem dX12_isBegun_71 : decode cX12_isBegun 71 = .ok (.if_icmp .ge 21, 3) := by decide +kernel
theorem dX12_isBegun_74 : decode cX12_isBegun 74 = .ok (.aload_n 0, 1) := by decide +kernel
theorem dX12_isBegun_75 : decode cX12_isBegun 75 = .ok (.iload_n 1, 1) := by decide +kernel
theorem dX12_isBegun_76 : decode cX12_isBegun 76 = .ok (.aload_n 0, 1) := by decide +kernel
theorem dX12_isBegun_77 : decode cX12_isBegun 77 = .ok (.iload_n 2, 1) := by decide +kernel
theorem dX12_isBegun_78 : decode cX12_isBegun 78 = .ok (.iload 7, 2) := by decide +kernel
theorem dX12_isBegun_80 : decode cX12_isBegun 80 = .ok (.invokevirtual 145, 3) := by decide +kernel
theorem dX12_isBegun_83 : decode cX12_isBegun 83 = .ok (.invokevirtual 186, 3) := by decide +kernel
theorem dX12_isBegun_86 : decode cX12_isBegun 86 = .ok (.iinc 9 1, 3) := by decide +kernel
theorem dX12_isBegun_89 : decode cX12_isBegun 89 = .ok (.goto (-22), 3) := by decide +kernel
theorem dX12_isBegun_92 : decode cX12_isBegun 92 = .ok (.iinc 7 1, 3) := by decide +kernel
theorem dX12_isBegun_95 : decode cX12_isBegun 95 = .ok (.goto (-54), 3) := by decide +kernel
theorem dX12_isBegun_98 : decode cX12_isBegun 98 = .ok (.aload_n 0, 1) := by decide +kernel
theorem dX12_isBegun_99 : decode cX12_isBegun 99 = .ok (.iload_n 1, 1) := by decide +kernel
theorem dX12_isBegun_100 : decode cX12_isBegun 100 = .ok (.bipush 6, 2) := by decide +kernel
theorem dX12_isBegun_102 : decode cX12_isBegun 102 = .ok (.invokevirtual 67, 3) := by decide +kernel
theorem dX12_isBegun_105 : decode cX12_isBegun 105 = .ok (.iload 5, 2) := by decide +kernel
theorem dX12_isBegun_107 : decode cX12_isBegun 107 = .ok (.if_icmp .ne 19, 3) := by decide +kernel
theorem dX12_isBegun_110 : decode cX12_isBegun 110 = .ok (.aload_n 0, 1) := by decide +kernel
theorem dX12_isBegun_111 : decode cX12_isBegun 111 = .ok (.iload_n 1, 1) := by decide +kernel
theorem dX12_isBegun_112 : decode cX12_isBegun 112 = .ok (.bipush 7, 2) := by decide +kernel
theorem dX12_isBegun_114 : decode cX12_isBegun 114 = .ok (.invokevirtual 67, 3) := by decide +kernel
theorem dX12_isBegun_117 : decode cX12_isBegun 117 = .ok (.iload 6, 2) := by decide +kernel
theorem dX12_isBegun_119 : decode cX12_isBegun 119 = .ok (.if_icmp .ne 7, 3) := by decide +kernel
theorem dX12_isBegun_122 : decode cX12_isBegun 122 = .ok (.iconst 1, 1) := by decide +kernel
theorem dX12_isBegun_123 : decode cX12_isBegun 123 = .ok (.goto 4, 3) := by decide +kernel
theorem dX12_isBegun_126 : decode cX12_isBegun 126 = .ok (.iconst 0, 1) := by decide +kernel
theorem dX12_isBegun_127 : decode cX12_isBegun 127 = .ok (.istore 7, 2) := by decide +kernel
theorem dX12_isBegun_129 : decode cX12_isBegun 129 = .ok (.aload_n 0, 1) := by decide +kernel
theorem dX12_isBegun_130 : decode cX12_isBegun 130 = .ok (.invokevirtual 214, 3) := by decide +kernel
theorem dX12_isBegun_133 : decode cX12_isBegun 133 = .ok (.iload 7, 2) := by decide +kernel
theorem dX12_isBegun_135 : decode cX12_isBegun 135 = .ok (.ireturn, 1) := by decide +kernel
def fX12_isBegun_L67 (kk : Mm → Option (Int32 × Mm)) (o : Nat) (v1 : Int32) (v2 : Int32) (v5 : Int32) (v6 : Int32) (v7 : Int32) (v8 : Int32) : Nat → Int32 → Mm → Option (Int32 × Mm)
  | 0, _, _ => none
  | n + 1, v9, M =>
    if v8 ≤ v9 then
      kk M
    else
      B1 (gk M o 15) fun _ =>
      B1 (fX12_whatOf M o v2 v7) fun x80_26 =>
      B1 (gk M o 15) fun _ =>
      B1 (fX12_moves M o v1 x80_26) fun M83_28 =>
      fX12_isBegun_L67 kk o v1 v2 v5 v6 v7 v8 n (v9 + 1) M83_28
def fX12_isBegun_L41 (o : Nat) (v1 : Int32) (v2 : Int32) (v5 : Int32) (v6 : Int32) : Nat → Int32 → Mm → Option (Int32 × Mm)
  | 0, _, _ => none
  | n + 1, v7, M =>
    B1 (rdN M o 15 0) fun a44_11 =>
    B1 (alI M a44_11 (12 + v2)) fun x51_12 =>
    if x51_12 ≤ v7 then
      B1 (gk M o 15) fun _ =>
      B1 (fX12_its M o v1 6) fun x102_14 =>
      if x102_14 = v5 then
        B1 (gk M o 15) fun _ =>
        B1 (fX12_its M o v1 7) fun x114_18 =>
        if x114_18 = v6 then
          B1 (gk M o 15) fun _ =>
          B1 (fX12_laysBack M o) fun M130_22 =>
          some (1, M130_22)
        else
          B1 (gk M o 15) fun _ =>
          B1 (fX12_laysBack M o) fun M130_20 =>
          some (0, M130_20)
      else
        B1 (gk M o 15) fun _ =>
        B1 (fX12_laysBack M o) fun M130_16 =>
        some (0, M130_16)
    else
      B1 (gk M o 15) fun _ =>
      B1 (fX12_timesOf M o v2 v7) fun x59_24 =>
      fX12_isBegun_L67 (fun M92_29 =>
        fX12_isBegun_L41 o v1 v2 v5 v6 n (v7 + 1) M92_29) o v1 v2 v5 v6 v7 x59_24 FL 0 M
def fX12_isBegun (M : Mm) (o : Nat) (p1 : Int32) (p2 : Int32) (p3 : Int32) (p4 : Int32) : Option (Int32 × Mm) :=
  B1 (gk M o 15) fun _ =>
  B1 (fX12_its M o p1 6) fun x4_2 =>
  B1 (gk M o 15) fun _ =>
  B1 (fX12_its M o p1 7) fun x13_4 =>
  B1 (gk M o 15) fun _ =>
  B1 (fX12_lends M o) fun M19_6 =>
  B1 (gk M19_6 o 15) fun _ =>
  B1 (fX12_sets M19_6 o p1 8 0) fun M27_8 =>
  B1 (gk M27_8 o 15) fun _ =>
  B1 (fX12_ladder M27_8 o p1 p3 p3) fun M34_10 =>
  fX12_isBegun_L41 o p1 p2 x4_2 x13_4 FL p4 M34_10
set_option maxRecDepth 100000 in
set_option maxHeartbeats 4000000 in
theorem kX12_isBegun_L67 {l : Launch} {E : Ev} {p : Program} {e : Env} {s : State} {m : MethodId} {args : Array Value} {below : List Frame} {meth : Method} {c : Code} (C : Cx E p s m args meth c cX12_isBegun yX12_isBegun.cls 10) (hr : meth.sig.returnType = (some .boolean)) (hin : yX12_isBegun.name = "<init>" → meth.name = "<init>")  {o : Nat} {v1 : Int32} {v2 : Int32} {v5 : Int32} {v6 : Int32} {v7 : Int32} {v8 : Int32} {rz : Int32} {Mz : Mm} {kk : Mm → Option (Int32 × Mm)} (hkk : ∀  (M : Mm), kk  M = some (rz, Mz) → ∀ (H : Heap) (locs : List Loc) (ls : Array Slot), Wx E s H locs M → lv_has ls 10 [(0, .ref (E.b + o)), (1, .int v1), (2, .int v2), (5, .int v5), (6, .int v6), (7, .int v7)] → W p l e (rM 5 120 0 0) s m args below meth c H locs 0 0 (MQ below (Qp E (some (.int rz)) Mz) args s 0 0 E.A) (F0 m 92 ls [])) : ∀ (n : Nat) (v9 : Int32) (M : Mm), fX12_isBegun_L67 kk o v1 v2 v5 v6 v7 v8 n v9 M = some (rz, Mz) → ∀ (H : Heap) (locs : List Loc) (ls : Array Slot), Wx E s H locs M → lv_has ls 10 [(0, .ref (E.b + o)), (1, .int v1), (2, .int v2), (5, .int v5), (6, .int v6), (7, .int v7), (8, .int v8), (9, .int v9)] → W p l e (rM 5 120 0 0) s m args below meth c H locs 0 0 (MQ below (Qp E (some (.int rz)) Mz) args s 0 0 E.A) (F0 m 67 ls []) := by
  intro n
  induction n with
  | zero =>
    intro v9 M hf
    unfold fX12_isBegun_L67 at hf
    cases hf
  | succ n ih =>
    intro v9 M hf H locs ls hW hl
    unfold fX12_isBegun_L67 at hf
    refine lv_iload C.x C.b dX12_isBegun_67 (lv_at hl 7 rfl) ?_
    refine lv_iload C.x C.b dX12_isBegun_69 (lv_at hl 6 rfl) ?_
    refine lv_icmp_ge (tgt := 92) C.x C.b dX12_isBegun_71 rfl (fun c71 => ?_) (fun c71 => ?_)
    · replace hf := x_ip c71 hf
      exact hkk M hf _ _ _ hW (lv_sub hl [0, 1, 2, 3, 4, 5] rfl)
    · replace hf := x_in c71 hf
      refine lv_aload_n C.x C.b dX12_isBegun_74 rfl (lv_at hl 0 rfl) ?_
      refine lv_iload_n C.x C.b dX12_isBegun_75 rfl (lv_at hl 1 rfl) ?_
      refine lv_aload_n C.x C.b dX12_isBegun_76 rfl (lv_at hl 0 rfl) ?_
      refine lv_iload_n C.x C.b dX12_isBegun_77 rfl (lv_at hl 2 rfl) ?_
      refine lv_iload C.x C.b dX12_isBegun_78 (lv_at hl 5 rfl) ?_
      replace hf := x_b1 hf; obtain ⟨_, hk80_25, hf⟩ := hf
      replace hf := x_b1 hf; obtain ⟨x80_26, hx80_26, hf⟩ := hf
      refine x_callV (As := [.int v2, .int v7]) (a := o) (rest := [.int v1, .ref (E.b + o)]) C hW hl (qX12_whatOf l E hx80_26) (x_gk hk80_25) (by decide) (by decide) rfl gv_X12_145 ⟨rfl, hd_X12_whatOf⟩ rfl rfl (Nat.le_of_ble_eq_true rfl) dX12_isBegun_80 ⟨Nat.le_of_ble_eq_true rfl, Nat.le_of_ble_eq_true rfl⟩ ⟨Nat.le_of_ble_eq_true rfl, Nat.le_of_ble_eq_true rfl⟩ (fun H locs hW => ?_)
      replace hf := x_b1 hf; obtain ⟨_, hk83_27, hf⟩ := hf
      replace hf := x_b1 hf; obtain ⟨M83_28, hM83_28, hf⟩ := hf
      refine x_callV (As := [.int v1, .int x80_26]) (a := o) (rest := []) C hW hl (qX12_moves l E hM83_28) (x_gk hk83_27) (by decide) (by decide) rfl gv_X12_186 ⟨rfl, hd_X12_moves⟩ rfl rfl (Nat.le_of_ble_eq_true rfl) dX12_isBegun_83 ⟨Nat.le_of_ble_eq_true rfl, Nat.le_of_ble_eq_true rfl⟩ ⟨Nat.le_of_ble_eq_true rfl, Nat.le_of_ble_eq_true rfl⟩ (fun H locs hW => ?_)
      refine lv_iinc (v := (v9 + 1)) (lv' := [(9, .int (v9 + 1)), (0, .ref (E.b + _)), (1, .int _), (2, .int _), (5, .int _), (6, .int _), (7, .int _), (8, .int _)]) C.x C.b dX12_isBegun_86 hl (k := 7) rfl (by first | rfl | decide) (by decide) rfl (fun ls hl => ?_)
      refine lv_goto (tgt := 67) C.x C.b dX12_isBegun_89 rfl ?_
      exact ih (v9 + 1) M83_28 hf _ _ _ hW (lv_sub hl [1, 2, 3, 4, 5, 6, 7, 0] rfl)
set_option maxRecDepth 100000 in
set_option maxHeartbeats 4000000 in
theorem kX12_isBegun_L41 {l : Launch} {E : Ev} {p : Program} {e : Env} {s : State} {m : MethodId} {args : Array Value} {below : List Frame} {meth : Method} {c : Code} (C : Cx E p s m args meth c cX12_isBegun yX12_isBegun.cls 10) (hr : meth.sig.returnType = (some .boolean)) (hin : yX12_isBegun.name = "<init>" → meth.name = "<init>")  {o : Nat} {v1 : Int32} {v2 : Int32} {v5 : Int32} {v6 : Int32} {rz : Int32} {Mz : Mm} : ∀ (n : Nat) (v7 : Int32) (M : Mm), fX12_isBegun_L41 o v1 v2 v5 v6 n v7 M = some (rz, Mz) → ∀ (H : Heap) (locs : List Loc) (ls : Array Slot), Wx E s H locs M → lv_has ls 10 [(0, .ref (E.b + o)), (1, .int v1), (2, .int v2), (5, .int v5), (6, .int v6), (7, .int v7)] → W p l e (rM 5 120 0 0) s m args below meth c H locs 0 0 (MQ below (Qp E (some (.int rz)) Mz) args s 0 0 E.A) (F0 m 41 ls []) := by
  intro n
  induction n with
  | zero =>
    intro v7 M hf
    unfold fX12_isBegun_L41 at hf
    cases hf
  | succ n ih =>
    intro v7 M hf H locs ls hW hl
    unfold fX12_isBegun_L41 at hf
    refine lv_iload C.x C.b dX12_isBegun_41 (lv_at hl 5 rfl) ?_
    refine lv_aload_n C.x C.b dX12_isBegun_43 rfl (lv_at hl 0 rfl) ?_
    replace hf := x_b1 hf; obtain ⟨a44_11, ha44_11, hf⟩ := hf
    refine x_getn C hW fg_X12_9_15 ha44_11 dX12_isBegun_44 ?_
    refine lv_bipush (v := 12) C.x C.b dX12_isBegun_47 (by decide) ?_
    refine lv_iload_n C.x C.b dX12_isBegun_49 rfl (lv_at hl 2 rfl) ?_
    refine lv_iadd C.x C.b dX12_isBegun_50 ?_
    replace hf := x_b1 hf; obtain ⟨x51_12, hx51_12, hf⟩ := hf
    refine x_iald C hW hx51_12 dX12_isBegun_51 ?_
    refine lv_icmp_ge (tgt := 98) C.x C.b dX12_isBegun_52 rfl (fun c52 => ?_) (fun c52 => ?_)
    · replace hf := x_ip c52 hf
      refine lv_aload_n C.x C.b dX12_isBegun_98 rfl (lv_at hl 0 rfl) ?_
      refine lv_iload_n C.x C.b dX12_isBegun_99 rfl (lv_at hl 1 rfl) ?_
      refine lv_bipush (v := 6) C.x C.b dX12_isBegun_100 (by decide) ?_
      replace hf := x_b1 hf; obtain ⟨_, hk102_13, hf⟩ := hf
      replace hf := x_b1 hf; obtain ⟨x102_14, hx102_14, hf⟩ := hf
      refine x_callV (As := [.int v1, .int 6]) (a := o) (rest := []) C hW hl (qX12_its l E hx102_14) (x_gk hk102_13) (by decide) (by decide) rfl gv_X12_67 ⟨rfl, hd_X12_its⟩ rfl rfl (Nat.le_of_ble_eq_true rfl) dX12_isBegun_102 ⟨Nat.le_of_ble_eq_true rfl, Nat.le_of_ble_eq_true rfl⟩ ⟨Nat.le_of_ble_eq_true rfl, Nat.le_of_ble_eq_true rfl⟩ (fun H locs hW => ?_)
      refine lv_iload C.x C.b dX12_isBegun_105 (lv_at hl 3 rfl) ?_
      refine lv_icmp_ne (tgt := 126) C.x C.b dX12_isBegun_107 rfl (fun c107 => ?_) (fun c107 => ?_)
      · replace hf := x_in c107 hf
        refine lv_iconst (v := 0) C.x C.b dX12_isBegun_126 (by decide) ?_
        refine lv_istore (lv' := [(7, .int _), (0, .ref (E.b + _)), (1, .int _), (2, .int _), (5, .int _), (6, .int _)]) C.x C.b dX12_isBegun_127 hl (by decide) rfl (fun ls hl => ?_)
        refine lv_aload_n C.x C.b dX12_isBegun_129 rfl (lv_at hl 1 rfl) ?_
        replace hf := x_b1 hf; obtain ⟨_, hk130_15, hf⟩ := hf
        replace hf := x_b1 hf; obtain ⟨M130_16, hM130_16, hf⟩ := hf
        refine x_callV (As := []) (a := o) (rest := []) C hW hl (qX12_laysBack l E hM130_16) (x_gk hk130_15) (by decide) (by decide) rfl gv_X12_214 ⟨rfl, hd_X12_laysBack⟩ rfl rfl (Nat.le_of_ble_eq_true rfl) dX12_isBegun_130 ⟨Nat.le_of_ble_eq_true rfl, Nat.le_of_ble_eq_true rfl⟩ ⟨Nat.le_of_ble_eq_true rfl, Nat.le_of_ble_eq_true rfl⟩ (fun H locs hW => ?_)
        refine lv_iload C.x C.b dX12_isBegun_133 (lv_at hl 0 rfl) ?_
        rw [x_e1 hf, x_e2 hf]
        exact x_zret C hr hW (v := 0) (w := 0) rfl dX12_isBegun_135
      · replace hf := x_ip c107 hf
        refine lv_aload_n C.x C.b dX12_isBegun_110 rfl (lv_at hl 0 rfl) ?_
        refine lv_iload_n C.x C.b dX12_isBegun_111 rfl (lv_at hl 1 rfl) ?_
        refine lv_bipush (v := 7) C.x C.b dX12_isBegun_112 (by decide) ?_
        replace hf := x_b1 hf; obtain ⟨_, hk114_17, hf⟩ := hf
        replace hf := x_b1 hf; obtain ⟨x114_18, hx114_18, hf⟩ := hf
        refine x_callV (As := [.int v1, .int 7]) (a := o) (rest := []) C hW hl (qX12_its l E hx114_18) (x_gk hk114_17) (by decide) (by decide) rfl gv_X12_67 ⟨rfl, hd_X12_its⟩ rfl rfl (Nat.le_of_ble_eq_true rfl) dX12_isBegun_114 ⟨Nat.le_of_ble_eq_true rfl, Nat.le_of_ble_eq_true rfl⟩ ⟨Nat.le_of_ble_eq_true rfl, Nat.le_of_ble_eq_true rfl⟩ (fun H locs hW => ?_)
        refine lv_iload C.x C.b dX12_isBegun_117 (lv_at hl 4 rfl) ?_
        refine lv_icmp_ne (tgt := 126) C.x C.b dX12_isBegun_119 rfl (fun c119 => ?_) (fun c119 => ?_)
        · replace hf := x_in c119 hf
          refine lv_iconst (v := 0) C.x C.b dX12_isBegun_126 (by decide) ?_
          refine lv_istore (lv' := [(7, .int _), (0, .ref (E.b + _)), (1, .int _), (2, .int _), (5, .int _), (6, .int _)]) C.x C.b dX12_isBegun_127 hl (by decide) rfl (fun ls hl => ?_)
          refine lv_aload_n C.x C.b dX12_isBegun_129 rfl (lv_at hl 1 rfl) ?_
          replace hf := x_b1 hf; obtain ⟨_, hk130_19, hf⟩ := hf
          replace hf := x_b1 hf; obtain ⟨M130_20, hM130_20, hf⟩ := hf
          refine x_callV (As := []) (a := o) (rest := []) C hW hl (qX12_laysBack l E hM130_20) (x_gk hk130_19) (by decide) (by decide) rfl gv_X12_214 ⟨rfl, hd_X12_laysBack⟩ rfl rfl (Nat.le_of_ble_eq_true rfl) dX12_isBegun_130 ⟨Nat.le_of_ble_eq_true rfl, Nat.le_of_ble_eq_true rfl⟩ ⟨Nat.le_of_ble_eq_true rfl, Nat.le_of_ble_eq_true rfl⟩ (fun H locs hW => ?_)
          refine lv_iload C.x C.b dX12_isBegun_133 (lv_at hl 0 rfl) ?_
          rw [x_e1 hf, x_e2 hf]
          exact x_zret C hr hW (v := 0) (w := 0) rfl dX12_isBegun_135
        · replace hf := x_ip c119 hf
          refine lv_iconst (v := 1) C.x C.b dX12_isBegun_122 (by decide) ?_
          refine lv_goto (tgt := 127) C.x C.b dX12_isBegun_123 rfl ?_
          refine lv_istore (lv' := [(7, .int _), (0, .ref (E.b + _)), (1, .int _), (2, .int _), (5, .int _), (6, .int _)]) C.x C.b dX12_isBegun_127 hl (by decide) rfl (fun ls hl => ?_)
          refine lv_aload_n C.x C.b dX12_isBegun_129 rfl (lv_at hl 1 rfl) ?_
          replace hf := x_b1 hf; obtain ⟨_, hk130_21, hf⟩ := hf
          replace hf := x_b1 hf; obtain ⟨M130_22, hM130_22, hf⟩ := hf
          refine x_callV (As := []) (a := o) (rest := []) C hW hl (qX12_laysBack l E hM130_22) (x_gk hk130_21) (by decide) (by decide) rfl gv_X12_214 ⟨rfl, hd_X12_laysBack⟩ rfl rfl (Nat.le_of_ble_eq_true rfl) dX12_isBegun_130 ⟨Nat.le_of_ble_eq_true rfl, Nat.le_of_ble_eq_true rfl⟩ ⟨Nat.le_of_ble_eq_true rfl, Nat.le_of_ble_eq_true rfl⟩ (fun H locs hW => ?_)
          refine lv_iload C.x C.b dX12_isBegun_133 (lv_at hl 0 rfl) ?_
          rw [x_e1 hf, x_e2 hf]
          exact x_zret C hr hW (v := 1) (w := 1) rfl dX12_isBegun_135
    · replace hf := x_in c52 hf
      refine lv_aload_n C.x C.b dX12_isBegun_55 rfl (lv_at hl 0 rfl) ?_
      refine lv_iload_n C.x C.b dX12_isBegun_56 rfl (lv_at hl 2 rfl) ?_
      refine lv_iload C.x C.b dX12_isBegun_57 (lv_at hl 5 rfl) ?_
      replace hf := x_b1 hf; obtain ⟨_, hk59_23, hf⟩ := hf
      replace hf := x_b1 hf; obtain ⟨x59_24, hx59_24, hf⟩ := hf
      refine x_callV (As := [.int v2, .int v7]) (a := o) (rest := []) C hW hl (qX12_timesOf l E hx59_24) (x_gk hk59_23) (by decide) (by decide) rfl gv_X12_196 ⟨rfl, hd_X12_timesOf⟩ rfl rfl (Nat.le_of_ble_eq_true rfl) dX12_isBegun_59 ⟨Nat.le_of_ble_eq_true rfl, Nat.le_of_ble_eq_true rfl⟩ ⟨Nat.le_of_ble_eq_true rfl, Nat.le_of_ble_eq_true rfl⟩ (fun H locs hW => ?_)
      refine lv_istore (lv' := [(8, .int _), (0, .ref (E.b + _)), (1, .int _), (2, .int _), (5, .int _), (6, .int _), (7, .int _)]) C.x C.b dX12_isBegun_62 hl (by decide) rfl (fun ls hl => ?_)
      refine lv_iconst (v := 0) C.x C.b dX12_isBegun_64 (by decide) ?_
      refine lv_istore (lv' := [(9, .int _), (8, .int _), (0, .ref (E.b + _)), (1, .int _), (2, .int _), (5, .int _), (6, .int _), (7, .int _)]) C.x C.b dX12_isBegun_65 hl (by decide) rfl (fun ls hl => ?_)
      refine kX12_isBegun_L67 C hr hin ?_ FL 0 M hf _ _ _ hW (lv_sub hl [2, 3, 4, 5, 6, 7, 1, 0] rfl)
      intro M92_29 hf H locs ls hW hl
      refine lv_iinc (v := (v7 + 1)) (lv' := [(7, .int (v7 + 1)), (0, .ref (E.b + _)), (1, .int _), (2, .int _), (5, .int _), (6, .int _)]) C.x C.b dX12_isBegun_92 hl (k := 5) rfl (by first | rfl | decide) (by decide) rfl (fun ls hl => ?_)
      refine lv_goto (tgt := 41) C.x C.b dX12_isBegun_95 rfl ?_
      exact ih (v7 + 1) M92_29 hf _ _ _ hW (lv_sub hl [1, 2, 3, 4, 5, 0] rfl)
set_option maxRecDepth 100000 in
set_option maxHeartbeats 4000000 in
theorem qX12_isBegun (l : Launch) (E : Ev) {M : Mm} {o : Nat} {p1 : Int32} {p2 : Int32} {p3 : Int32} {p4 : Int32} {rz : Int32} {Mz : Mm} (hf : fX12_isBegun M o p1 p2 p3 p4 = some (rz, Mz)) : Ct l E yX12_isBegun cX12_isBegun 10 (some .boolean) 5 120 0 0 [.ref (E.b + o), .int p1, .int p2, .int p3, .int p4] M (some (.int rz)) Mz := by
  refine ct_of (by decide +kernel) (Nat.le_of_ble_eq_true rfl) fun p e s m args below meth c C hr hin hW ls hl => ?_
  have hl : lv_has ls 10 [(0, .ref (E.b + o)), (1, .int p1), (2, .int p2), (3, .int p3), (4, .int p4)] := hl
  unfold fX12_isBegun at hf
  refine lv_aload_n C.x C.b dX12_isBegun_0 rfl (lv_at hl 0 rfl) ?_
  refine lv_iload_n C.x C.b dX12_isBegun_1 rfl (lv_at hl 1 rfl) ?_
  refine lv_bipush (v := 6) C.x C.b dX12_isBegun_2 (by decide) ?_
  replace hf := x_b1 hf; obtain ⟨_, hk4_1, hf⟩ := hf
  replace hf := x_b1 hf; obtain ⟨x4_2, hx4_2, hf⟩ := hf
  refine x_callV (As := [.int p1, .int 6]) (a := o) (rest := []) C hW hl (qX12_its l E hx4_2) (x_gk hk4_1) (by decide) (by decide) rfl gv_X12_67 ⟨rfl, hd_X12_its⟩ rfl rfl (Nat.le_of_ble_eq_true rfl) dX12_isBegun_4 ⟨Nat.le_of_ble_eq_true rfl, Nat.le_of_ble_eq_true rfl⟩ ⟨Nat.le_of_ble_eq_true rfl, Nat.le_of_ble_eq_true rfl⟩ (fun H locs hW => ?_)
  refine lv_istore (lv' := [(5, .int _), (0, .ref (E.b + _)), (1, .int _), (2, .int _), (3, .int _), (4, .int _)]) C.x C.b dX12_isBegun_7 hl (by decide) rfl (fun ls hl => ?_)
  refine lv_aload_n C.x C.b dX12_isBegun_9 rfl (lv_at hl 1 rfl) ?_
  refine lv_iload_n C.x C.b dX12_isBegun_10 rfl (lv_at hl 2 rfl) ?_
  refine lv_bipush (v := 7) C.x C.b dX12_isBegun_11 (by decide) ?_
  replace hf := x_b1 hf; obtain ⟨_, hk13_3, hf⟩ := hf
  replace hf := x_b1 hf; obtain ⟨x13_4, hx13_4, hf⟩ := hf
  refine x_callV (As := [.int p1, .int 7]) (a := o) (rest := []) C hW hl (qX12_its l E hx13_4) (x_gk hk13_3) (by decide) (by decide) rfl gv_X12_67 ⟨rfl, hd_X12_its⟩ rfl rfl (Nat.le_of_ble_eq_true rfl) dX12_isBegun_13 ⟨Nat.le_of_ble_eq_true rfl, Nat.le_of_ble_eq_true rfl⟩ ⟨Nat.le_of_ble_eq_true rfl, Nat.le_of_ble_eq_true rfl⟩ (fun H locs hW => ?_)
  refine lv_istore (lv' := [(6, .int _), (5, .int _), (0, .ref (E.b + _)), (1, .int _), (2, .int _), (3, .int _), (4, .int _)]) C.x C.b dX12_isBegun_16 hl (by decide) rfl (fun ls hl => ?_)
  refine lv_aload_n C.x C.b dX12_isBegun_18 rfl (lv_at hl 2 rfl) ?_
  replace hf := x_b1 hf; obtain ⟨_, hk19_5, hf⟩ := hf
  replace hf := x_b1 hf; obtain ⟨M19_6, hM19_6, hf⟩ := hf
  refine x_callV (As := []) (a := o) (rest := []) C hW hl (qX12_lends l E hM19_6) (x_gk hk19_5) (by decide) (by decide) rfl gv_X12_211 ⟨rfl, hd_X12_lends⟩ rfl rfl (Nat.le_of_ble_eq_true rfl) dX12_isBegun_19 ⟨Nat.le_of_ble_eq_true rfl, Nat.le_of_ble_eq_true rfl⟩ ⟨Nat.le_of_ble_eq_true rfl, Nat.le_of_ble_eq_true rfl⟩ (fun H locs hW => ?_)
  refine lv_aload_n C.x C.b dX12_isBegun_22 rfl (lv_at hl 2 rfl) ?_
  refine lv_iload_n C.x C.b dX12_isBegun_23 rfl (lv_at hl 3 rfl) ?_
  refine lv_bipush (v := 8) C.x C.b dX12_isBegun_24 (by decide) ?_
  refine lv_iconst (v := 0) C.x C.b dX12_isBegun_26 (by decide) ?_
  replace hf := x_b1 hf; obtain ⟨_, hk27_7, hf⟩ := hf
  replace hf := x_b1 hf; obtain ⟨M27_8, hM27_8, hf⟩ := hf
  refine x_callV (As := [.int p1, .int 8, .int 0]) (a := o) (rest := []) C hW hl (qX12_sets l E hM27_8) (x_gk hk27_7) (by decide) (by decide) rfl gv_X12_111 ⟨rfl, hd_X12_sets⟩ rfl rfl (Nat.le_of_ble_eq_true rfl) dX12_isBegun_27 ⟨Nat.le_of_ble_eq_true rfl, Nat.le_of_ble_eq_true rfl⟩ ⟨Nat.le_of_ble_eq_true rfl, Nat.le_of_ble_eq_true rfl⟩ (fun H locs hW => ?_)
  refine lv_aload_n C.x C.b dX12_isBegun_30 rfl (lv_at hl 2 rfl) ?_
  refine lv_iload_n C.x C.b dX12_isBegun_31 rfl (lv_at hl 3 rfl) ?_
  refine lv_iload_n C.x C.b dX12_isBegun_32 rfl (lv_at hl 5 rfl) ?_
  refine lv_iload_n C.x C.b dX12_isBegun_33 rfl (lv_at hl 5 rfl) ?_
  replace hf := x_b1 hf; obtain ⟨_, hk34_9, hf⟩ := hf
  replace hf := x_b1 hf; obtain ⟨M34_10, hM34_10, hf⟩ := hf
  refine x_callV (As := [.int p1, .int p3, .int p3]) (a := o) (rest := []) C hW hl (qX12_ladder l E hM34_10) (x_gk hk34_9) (by decide) (by decide) rfl gv_X12_124 ⟨rfl, hd_X12_ladder⟩ rfl rfl (Nat.le_of_ble_eq_true rfl) dX12_isBegun_34 ⟨Nat.le_of_ble_eq_true rfl, Nat.le_of_ble_eq_true rfl⟩ ⟨Nat.le_of_ble_eq_true rfl, Nat.le_of_ble_eq_true rfl⟩ (fun H locs hW => ?_)
  refine lv_iload C.x C.b dX12_isBegun_37 (lv_at hl 6 rfl) ?_
  refine lv_istore (lv' := [(7, .int _), (6, .int _), (5, .int _), (0, .ref (E.b + _)), (1, .int _), (2, .int _), (3, .int _), (4, .int _)]) C.x C.b dX12_isBegun_39 hl (by decide) rfl (fun ls hl => ?_)
  exact kX12_isBegun_L41 C hr hin FL p4 M34_10 hf _ _ _ hW (lv_sub hl [3, 4, 5, 2, 1, 0] rfl)

theorem dX12_since_0 : decode cX12_since 0 = .ok (.aload_n 0, 1) := by decide +kernel
theorem dX12_since_1 : decode cX12_since 1 = .ok (.iload_n 1, 1) := by decide +kernel
theorem dX12_since_2 : decode cX12_since 2 = .ok (.invokevirtual 99, 3) := by decide +kernel
theorem dX12_since_5 : decode cX12_since 5 = .ok (.ifCond .eq 17, 3) := by decide +kernel
theorem dX12_since_8 : decode cX12_since 8 = .ok (.iload_n 2, 1) := by decide +kernel
theorem dX12_since_9 : decode cX12_since 9 = .ok (.invokestatic 133, 3) := by decide +kernel
theorem dX12_since_12 : decode cX12_since 12 = .ok (.ifCond .eq 10, 3) := by decide +kernel
theorem dX12_since_15 : decode cX12_since 15 = .ok (.iload_n 3, 1) := by decide +kernel
theorem dX12_since_16 : decode cX12_since 16 = .ok (.invokestatic 118, 3) := by decide +kernel
theorem dX12_since_19 : decode cX12_since 19 = .ok (.ifCond .ne 5, 3) := by decide +kernel
theorem dX12_since_22 : decode cX12_since 22 = .ok (.iconst (-1), 1) := by decide +kernel
theorem dX12_since_23 : decode cX12_since 23 = .ok (.ireturn, 1) := by decide +kernel
theorem dX12_since_24 : decode cX12_since 24 = .ok (.aload_n 0, 1) := by decide +kernel
theorem dX12_since_25 : decode cX12_since 25 = .ok (.iload_n 1, 1) := by decide +kernel
theorem dX12_since_26 : decode cX12_since 26 = .ok (.invokevirtual 71, 3) := by decide +kernel
theorem dX12_since_29 : decode cX12_since 29 = .ok (.ifCond .eq 15, 3) := by decide +kernel
theorem dX12_since_32 : decode cX12_since 32 = .ok (.aload_n 0, 1) := by decide +kernel
theorem dX12_since_33 : decode cX12_since 33 = .ok (.getfield 9, 3) := by decide +kernel
theorem dX12_since_36 : decode cX12_since 36 = .ok (.bipush 12, 2) := by decide +kernel
theorem dX12_since_38 : decode cX12_since 38 = .ok (.iload_n 2, 1) := by decide +kernel
theorem dX12_since_39 : decode cX12_since 39 = .ok (.iadd, 1) := by decide +kernel
theorem dX12_since_40 : decode cX12_since 40 = .ok (.iaload, 1) := by decide +kernel
theorem dX12_since_41 : decode cX12_since 41 = .ok (.goto 4, 3) := by decide +kernel
theorem dX12_since_44 : decode cX12_since 44 = .ok (.iconst (-1), 1) := by decide +kernel
theorem dX12_since_45 : decode cX12_since 45 = .ok (.istore 4, 2) := by decide +kernel
theorem dX12_since_47 : decode cX12_since 47 = .ok (.iload 4, 2) := by decide +kernel
theorem dX12_since_49 : decode cX12_since 49 = .ok (.ifCond .lt 21, 3) := by decide +kernel
theorem dX12_since_52 : decode cX12_since 52 = .ok (.aload_n 0, 1) := by decide +kernel
theorem dX12_since_53 : decode cX12_since 53 = .ok (.iload_n 1, 1) := by decide +kernel
theorem dX12_since_54 : decode cX12_since 54 = .ok (.iload_n 2, 1) := by decide +kernel
theorem dX12_since_55 : decode cX12_since 55 = .ok (.iload_n 3, 1) := by decide +kernel
theorem dX12_since_56 : decode cX12_since 56 = .ok (.iload 4, 2) := by decide +kernel
theorem dX12_since_58 : decode cX12_since 58 = .ok (.invokevirtual 266, 3) := by decide +kernel
theorem dX12_since_61 : decode cX12_since 61 = .ok (.ifCond .ne 9, 3) := by decide +kernel
theorem dX12_since_64 : decode cX12_since 64 = .ok (.iinc 4 (-1), 3) := by decide +kernel
theorem dX12_since_67 : decode cX12_since 67 = .ok (.goto (-20), 3) := by decide +kernel
theorem dX12_since_70 : decode cX12_since 70 = .ok (.iload 4, 2) := by decide +kernel
theorem dX12_since_72 : decode cX12_since 72 = .ok (.ifCond .ge 8, 3) := by decide +kernel
theorem dX12_since_75 : decode cX12_since 75 = .ok (.bipush (-3), 2) := by decide +kernel
theorem dX12_since_77 : decode cX12_since 77 = .ok (.goto 5, 3) := by decide +kernel
theorem dX12_since_80 : decode cX12_since 80 = .ok (.iload 4, 2) := by decide +kernel
theorem dX12_since_82 : decode cX12_since 82 = .ok (.ireturn, 1) := by decide +kernel
theorem hd_X12_isBegun : yX12_isBegun.cls ≠ "java/lang/invoke/MethodHandle" ∧ yX12_isBegun.cls ≠ "java/lang/invoke/VarHandle" ∧ (parseMethodDescriptor yX12_isBegun.desc).map (fun d => d.parameters.length) = some 4 := by decide +kernel
theorem gv_X12_266 : GoodIn gT (wsV "NylonLadderModel" 266 "NylonLadderModel" yX12_isBegun (Cond.code yX12_isBegun cX12_isBegun 10 (some .boolean) :: gT)) := good_V T_7_220 T_7_222 TS_72 T_1_10 T_7_223
def fX12_since_L47 (o : Nat) (v1 : Int32) (v2 : Int32) (v3 : Int32) : Nat → Int32 → Mm → Option (Int32 × Mm)
  | 0, _, _ => none
  | n + 1, v4, M =>
    if v4 < 0 then
      if 0 ≤ v4 then
        some (v4, M)
      else
        some ((-3), M)
    else
      B1 (gk M o 15) fun _ =>
      B2 (fX12_isBegun M o v1 v2 v3 v4) fun x58_8 M58_9 =>
      if x58_8 = 0 then
        fX12_since_L47 o v1 v2 v3 n (v4 + (-1)) M58_9
      else
        if 0 ≤ v4 then
          some (v4, M58_9)
        else
          some ((-3), M58_9)
def fX12_since (M : Mm) (o : Nat) (p1 : Int32) (p2 : Int32) (p3 : Int32) : Option (Int32 × Mm) :=
  B1 (gk M o 15) fun _ =>
  B1 (fX12_isOne M o p1) fun x2_2 =>
  if x2_2 = 0 then
    some ((-1), M)
  else
    B1 (fX12_isTwo M p2) fun x9_3 =>
    if x9_3 = 0 then
      some ((-1), M)
    else
      B1 (fX12_isRung M p3) fun x16_4 =>
      if x16_4 = 0 then
        some ((-1), M)
      else
        B1 (gk M o 15) fun _ =>
        B1 (fX12_hasLadder M o p1) fun x26_6 =>
        if x26_6 = 0 then
          fX12_since_L47 o p1 p2 p3 FL (-1) M
        else
          B1 (rdN M o 15 0) fun a33_10 =>
          B1 (alI M a33_10 (12 + p2)) fun x40_11 =>
          fX12_since_L47 o p1 p2 p3 FL x40_11 M
set_option maxRecDepth 100000 in
set_option maxHeartbeats 4000000 in
theorem kX12_since_L47 {l : Launch} {E : Ev} {p : Program} {e : Env} {s : State} {m : MethodId} {args : Array Value} {below : List Frame} {meth : Method} {c : Code} (C : Cx E p s m args meth c cX12_since yX12_since.cls 5) (hr : meth.sig.returnType = (some .int)) (hin : yX12_since.name = "<init>" → meth.name = "<init>")  {o : Nat} {v1 : Int32} {v2 : Int32} {v3 : Int32} {rz : Int32} {Mz : Mm} : ∀ (n : Nat) (v4 : Int32) (M : Mm), fX12_since_L47 o v1 v2 v3 n v4 M = some (rz, Mz) → ∀ (H : Heap) (locs : List Loc) (ls : Array Slot), Wx E s H locs M → lv_has ls 5 [(0, .ref (E.b + o)), (1, .int v1), (2, .int v2), (3, .int v3), (4, .int v4)] → W p l e (rM 6 149 0 0) s m args below meth c H locs 0 0 (MQ below (Qp E (some (.int rz)) Mz) args s 0 0 E.A) (F0 m 47 ls []) := by
  intro n
  induction n with
  | zero =>
    intro v4 M hf
    unfold fX12_since_L47 at hf
    cases hf
  | succ n ih =>
    intro v4 M hf H locs ls hW hl
    unfold fX12_since_L47 at hf
    refine lv_iload C.x C.b dX12_since_47 (lv_at hl 4 rfl) ?_
    refine lv_if_lt (tgt := 70) C.x C.b dX12_since_49 rfl (fun c49 => ?_) (fun c49 => ?_)
    · replace hf := x_ip c49 hf
      refine lv_iload C.x C.b dX12_since_70 (lv_at hl 4 rfl) ?_
      refine lv_if_ge (tgt := 80) C.x C.b dX12_since_72 rfl (fun c72 => ?_) (fun c72 => ?_)
      · replace hf := x_ip c72 hf
        refine lv_iload C.x C.b dX12_since_80 (lv_at hl 4 rfl) ?_
        rw [x_e1 hf, x_e2 hf]
        exact x_iret C hr hW dX12_since_82
      · replace hf := x_in c72 hf
        refine lv_bipush (v := (-3)) C.x C.b dX12_since_75 (by decide) ?_
        refine lv_goto (tgt := 82) C.x C.b dX12_since_77 rfl ?_
        rw [x_e1 hf, x_e2 hf]
        exact x_iret C hr hW dX12_since_82
    · replace hf := x_in c49 hf
      refine lv_aload_n C.x C.b dX12_since_52 rfl (lv_at hl 0 rfl) ?_
      refine lv_iload_n C.x C.b dX12_since_53 rfl (lv_at hl 1 rfl) ?_
      refine lv_iload_n C.x C.b dX12_since_54 rfl (lv_at hl 2 rfl) ?_
      refine lv_iload_n C.x C.b dX12_since_55 rfl (lv_at hl 3 rfl) ?_
      refine lv_iload C.x C.b dX12_since_56 (lv_at hl 4 rfl) ?_
      replace hf := x_b1 hf; obtain ⟨_, hk58_7, hf⟩ := hf
      replace hf := x_b2 hf; obtain ⟨x58_8, M58_9, hx58_8, hf⟩ := hf
      refine x_callV (As := [.int v1, .int v2, .int v3, .int v4]) (a := o) (rest := []) C hW hl (qX12_isBegun l E hx58_8) (x_gk hk58_7) (by decide) (by decide) rfl gv_X12_266 ⟨rfl, hd_X12_isBegun⟩ rfl rfl (Nat.le_of_ble_eq_true rfl) dX12_since_58 ⟨Nat.le_of_ble_eq_true rfl, Nat.le_of_ble_eq_true rfl⟩ ⟨Nat.le_of_ble_eq_true rfl, Nat.le_of_ble_eq_true rfl⟩ (fun H locs hW => ?_)
      refine lv_if_ne (tgt := 70) C.x C.b dX12_since_61 rfl (fun c61 => ?_) (fun c61 => ?_)
      · replace hf := x_in c61 hf
        refine lv_iload C.x C.b dX12_since_70 (lv_at hl 4 rfl) ?_
        refine lv_if_ge (tgt := 80) C.x C.b dX12_since_72 rfl (fun c72 => ?_) (fun c72 => ?_)
        · replace hf := x_ip c72 hf
          refine lv_iload C.x C.b dX12_since_80 (lv_at hl 4 rfl) ?_
          rw [x_e1 hf, x_e2 hf]
          exact x_iret C hr hW dX12_since_82
        · replace hf := x_in c72 hf
          refine lv_bipush (v := (-3)) C.x C.b dX12_since_75 (by decide) ?_
          refine lv_goto (tgt := 82) C.x C.b dX12_since_77 rfl ?_
          rw [x_e1 hf, x_e2 hf]
          exact x_iret C hr hW dX12_since_82
      · replace hf := x_ip c61 hf
        refine lv_iinc (v := (v4 + (-1))) (lv' := [(4, .int (v4 + (-1))), (0, .ref (E.b + _)), (1, .int _), (2, .int _), (3, .int _)]) C.x C.b dX12_since_64 hl (k := 4) rfl (by first | rfl | decide) (by decide) rfl (fun ls hl => ?_)
        refine lv_goto (tgt := 47) C.x C.b dX12_since_67 rfl ?_
        exact ih (v4 + (-1)) M58_9 hf _ _ _ hW (lv_sub hl [1, 2, 3, 4, 0] rfl)
set_option maxRecDepth 100000 in
set_option maxHeartbeats 4000000 in
theorem qX12_since (l : Launch) (E : Ev) {M : Mm} {o : Nat} {p1 : Int32} {p2 : Int32} {p3 : Int32} {rz : Int32} {Mz : Mm} (hf : fX12_since M o p1 p2 p3 = some (rz, Mz)) : Ct l E yX12_since cX12_since 5 (some .int) 6 149 0 0 [.ref (E.b + o), .int p1, .int p2, .int p3] M (some (.int rz)) Mz := by
  refine ct_of (by decide +kernel) (Nat.le_of_ble_eq_true rfl) fun p e s m args below meth c C hr hin hW ls hl => ?_
  have hl : lv_has ls 5 [(0, .ref (E.b + o)), (1, .int p1), (2, .int p2), (3, .int p3)] := hl
  unfold fX12_since at hf
  refine lv_aload_n C.x C.b dX12_since_0 rfl (lv_at hl 0 rfl) ?_
  refine lv_iload_n C.x C.b dX12_since_1 rfl (lv_at hl 1 rfl) ?_
  replace hf := x_b1 hf; obtain ⟨_, hk2_1, hf⟩ := hf
  replace hf := x_b1 hf; obtain ⟨x2_2, hx2_2, hf⟩ := hf
  refine x_callV (As := [.int p1]) (a := o) (rest := []) C hW hl (qX12_isOne l E hx2_2) (x_gk hk2_1) (by decide) (by decide) rfl gv_X12_99 ⟨rfl, hd_X12_isOne⟩ rfl rfl (Nat.le_of_ble_eq_true rfl) dX12_since_2 ⟨Nat.le_of_ble_eq_true rfl, Nat.le_of_ble_eq_true rfl⟩ ⟨Nat.le_of_ble_eq_true rfl, Nat.le_of_ble_eq_true rfl⟩ (fun H locs hW => ?_)
  refine lv_if_eq (tgt := 22) C.x C.b dX12_since_5 rfl (fun c5 => ?_) (fun c5 => ?_)
  · replace hf := x_ip c5 hf
    refine lv_iconst (v := (-1)) C.x C.b dX12_since_22 (by decide) ?_
    rw [x_e1 hf, x_e2 hf]
    exact x_iret C hr hW dX12_since_23
  · replace hf := x_in c5 hf
    refine lv_iload_n C.x C.b dX12_since_8 rfl (lv_at hl 2 rfl) ?_
    replace hf := x_b1 hf; obtain ⟨x9_3, hx9_3, hf⟩ := hf
    refine x_callS (As := [.int p2]) (rest := []) C hW hl (qX12_isTwo l E hx9_3) gs_X12_133 hd_X12_isTwo rfl rfl (Nat.le_of_ble_eq_true rfl) dX12_since_9 ⟨Nat.le_of_ble_eq_true rfl, Nat.le_of_ble_eq_true rfl⟩ ⟨Nat.le_of_ble_eq_true rfl, Nat.le_of_ble_eq_true rfl⟩ (fun H locs hW => ?_)
    refine lv_if_eq (tgt := 22) C.x C.b dX12_since_12 rfl (fun c12 => ?_) (fun c12 => ?_)
    · replace hf := x_ip c12 hf
      refine lv_iconst (v := (-1)) C.x C.b dX12_since_22 (by decide) ?_
      rw [x_e1 hf, x_e2 hf]
      exact x_iret C hr hW dX12_since_23
    · replace hf := x_in c12 hf
      refine lv_iload_n C.x C.b dX12_since_15 rfl (lv_at hl 3 rfl) ?_
      replace hf := x_b1 hf; obtain ⟨x16_4, hx16_4, hf⟩ := hf
      refine x_callS (As := [.int p3]) (rest := []) C hW hl (qX12_isRung l E hx16_4) gs_X12_118 hd_X12_isRung rfl rfl (Nat.le_of_ble_eq_true rfl) dX12_since_16 ⟨Nat.le_of_ble_eq_true rfl, Nat.le_of_ble_eq_true rfl⟩ ⟨Nat.le_of_ble_eq_true rfl, Nat.le_of_ble_eq_true rfl⟩ (fun H locs hW => ?_)
      refine lv_if_ne (tgt := 24) C.x C.b dX12_since_19 rfl (fun c19 => ?_) (fun c19 => ?_)
      · replace hf := x_in c19 hf
        refine lv_aload_n C.x C.b dX12_since_24 rfl (lv_at hl 0 rfl) ?_
        refine lv_iload_n C.x C.b dX12_since_25 rfl (lv_at hl 1 rfl) ?_
        replace hf := x_b1 hf; obtain ⟨_, hk26_5, hf⟩ := hf
        replace hf := x_b1 hf; obtain ⟨x26_6, hx26_6, hf⟩ := hf
        refine x_callV (As := [.int p1]) (a := o) (rest := []) C hW hl (qX12_hasLadder l E hx26_6) (x_gk hk26_5) (by decide) (by decide) rfl gv_X12_71 ⟨rfl, hd_X12_hasLadder⟩ rfl rfl (Nat.le_of_ble_eq_true rfl) dX12_since_26 ⟨Nat.le_of_ble_eq_true rfl, Nat.le_of_ble_eq_true rfl⟩ ⟨Nat.le_of_ble_eq_true rfl, Nat.le_of_ble_eq_true rfl⟩ (fun H locs hW => ?_)
        refine lv_if_eq (tgt := 44) C.x C.b dX12_since_29 rfl (fun c29 => ?_) (fun c29 => ?_)
        · replace hf := x_ip c29 hf
          refine lv_iconst (v := (-1)) C.x C.b dX12_since_44 (by decide) ?_
          refine lv_istore (lv' := [(4, .int _), (0, .ref (E.b + _)), (1, .int _), (2, .int _), (3, .int _)]) C.x C.b dX12_since_45 hl (by decide) rfl (fun ls hl => ?_)
          exact kX12_since_L47 C hr hin FL (-1) M hf _ _ _ hW (lv_sub hl [1, 2, 3, 4, 0] rfl)
        · replace hf := x_in c29 hf
          refine lv_aload_n C.x C.b dX12_since_32 rfl (lv_at hl 0 rfl) ?_
          replace hf := x_b1 hf; obtain ⟨a33_10, ha33_10, hf⟩ := hf
          refine x_getn C hW fg_X12_9_15 ha33_10 dX12_since_33 ?_
          refine lv_bipush (v := 12) C.x C.b dX12_since_36 (by decide) ?_
          refine lv_iload_n C.x C.b dX12_since_38 rfl (lv_at hl 2 rfl) ?_
          refine lv_iadd C.x C.b dX12_since_39 ?_
          replace hf := x_b1 hf; obtain ⟨x40_11, hx40_11, hf⟩ := hf
          refine x_iald C hW hx40_11 dX12_since_40 ?_
          refine lv_goto (tgt := 45) C.x C.b dX12_since_41 rfl ?_
          refine lv_istore (lv' := [(4, .int _), (0, .ref (E.b + _)), (1, .int _), (2, .int _), (3, .int _)]) C.x C.b dX12_since_45 hl (by decide) rfl (fun ls hl => ?_)
          exact kX12_since_L47 C hr hin FL x40_11 M hf _ _ _ hW (lv_sub hl [1, 2, 3, 4, 0] rfl)
      · replace hf := x_ip c19 hf
        refine lv_iconst (v := (-1)) C.x C.b dX12_since_22 (by decide) ?_
        rw [x_e1 hf, x_e2 hf]
        exact x_iret C hr hW dX12_since_23

theorem dX12_from_0 : decode cX12_from 0 = .ok (.aload_n 0, 1) := by decide +kernel
theorem dX12_from_1 : decode cX12_from 1 = .ok (.iload_n 1, 1) := by decide +kernel
theorem dX12_from_2 : decode cX12_from 2 = .ok (.invokevirtual 99, 3) := by decide +kernel
theorem dX12_from_5 : decode cX12_from 5 = .ok (.ifCond .eq 12, 3) := by decide +kernel
theorem dX12_from_8 : decode cX12_from 8 = .ok (.aload_n 0, 1) := by decide +kernel
theorem dX12_from_9 : decode cX12_from 9 = .ok (.iload_n 2, 1) := by decide +kernel
theorem dX12_from_10 : decode cX12_from 10 = .ok (.iload_n 3, 1) := by decide +kernel
theorem dX12_from_11 : decode cX12_from 11 = .ok (.invokevirtual 208, 3) := by decide +kernel
theorem dX12_from_14 : decode cX12_from 14 = .ok (.ifCond .ne 5, 3) := by decide +kernel
theorem dX12_from_17 : decode cX12_from 17 = .ok (.iconst (-1), 1) := by decide +kernel
theorem dX12_from_18 : decode cX12_from 18 = .ok (.ireturn, 1) := by decide +kernel
theorem dX12_from_19 : decode cX12_from 19 = .ok (.aload_n 0, 1) := by decide +kernel
theorem dX12_from_20 : decode cX12_from 20 = .ok (.iload_n 1, 1) := by decide +kernel
theorem dX12_from_21 : decode cX12_from 21 = .ok (.invokevirtual 71, 3) := by decide +kernel
theorem dX12_from_24 : decode cX12_from 24 = .ok (.ifCond .eq 7, 3) := by decide +kernel
theorem dX12_from_27 : decode cX12_from 27 = .ok (.iconst 0, 1) := by decide +kernel
theorem dX12_from_28 : decode cX12_from 28 = .ok (.goto 5, 3) := by decide +kernel
theorem dX12_from_31 : decode cX12_from 31 = .ok (.bipush 100, 2) := by decide +kernel
theorem dX12_from_33 : decode cX12_from 33 = .ok (.istore 4, 2) := by decide +kernel
theorem dX12_from_35 : decode cX12_from 35 = .ok (.iload 4, 2) := by decide +kernel
theorem dX12_from_37 : decode cX12_from 37 = .ok (.bipush 100, 2) := by decide +kernel
theorem dX12_from_39 : decode cX12_from 39 = .ok (.if_icmp .ge 21, 3) := by decide +kernel
theorem dX12_from_42 : decode cX12_from 42 = .ok (.aload_n 0, 1) := by decide +kernel
theorem dX12_from_43 : decode cX12_from 43 = .ok (.iload_n 1, 1) := by decide +kernel
theorem dX12_from_44 : decode cX12_from 44 = .ok (.iload_n 2, 1) := by decide +kernel
theorem dX12_from_45 : decode cX12_from 45 = .ok (.iload 4, 2) := by decide +kernel
theorem dX12_from_47 : decode cX12_from 47 = .ok (.iload_n 3, 1) := by decide +kernel
theorem dX12_from_48 : decode cX12_from 48 = .ok (.invokevirtual 266, 3) := by decide +kernel
theorem dX12_from_51 : decode cX12_from 51 = .ok (.ifCond .ne 9, 3) := by decide +kernel
theorem dX12_from_54 : decode cX12_from 54 = .ok (.iinc 4 1, 3) := by decide +kernel
theorem dX12_from_57 : decode cX12_from 57 = .ok (.goto (-22), 3) := by decide +kernel
theorem dX12_from_60 : decode cX12_from 60 = .ok (.iload 4, 2) := by decide +kernel
theorem dX12_from_62 : decode cX12_from 62 = .ok (.bipush 100, 2) := by decide +kernel
theorem dX12_from_64 : decode cX12_from 64 = .ok (.if_icmp .ge 8, 3) := by decide +kernel
theorem dX12_from_67 : decode cX12_from 67 = .ok (.iload 4, 2) := by decide +kernel
theorem dX12_from_69 : decode cX12_from 69 = .ok (.goto 5, 3) := by decide +kernel
theorem dX12_from_72 : decode cX12_from 72 = .ok (.bipush (-3), 2) := by decide +kernel
theorem dX12_from_74 : decode cX12_from 74 = .ok (.ireturn, 1) := by decide +kernel
def fX12_from_L35 (o : Nat) (v1 : Int32) (v2 : Int32) (v3 : Int32) : Nat → Int32 → Mm → Option (Int32 × Mm)
  | 0, _, _ => none
  | n + 1, v4, M =>
    if 100 ≤ v4 then
      if 100 ≤ v4 then
        some ((-3), M)
      else
        some (v4, M)
    else
      B1 (gk M o 15) fun _ =>
      B2 (fX12_isBegun M o v1 v2 v4 v3) fun x48_8 M48_9 =>
      if x48_8 = 0 then
        fX12_from_L35 o v1 v2 v3 n (v4 + 1) M48_9
      else
        if 100 ≤ v4 then
          some ((-3), M48_9)
        else
          some (v4, M48_9)
def fX12_from (M : Mm) (o : Nat) (p1 : Int32) (p2 : Int32) (p3 : Int32) : Option (Int32 × Mm) :=
  B1 (gk M o 15) fun _ =>
  B1 (fX12_isOne M o p1) fun x2_2 =>
  if x2_2 = 0 then
    some ((-1), M)
  else
    B1 (gk M o 15) fun _ =>
    B1 (fX12_isWay M o p2 p3) fun x11_4 =>
    if x11_4 = 0 then
      some ((-1), M)
    else
      B1 (gk M o 15) fun _ =>
      B1 (fX12_hasLadder M o p1) fun x21_6 =>
      if x21_6 = 0 then
        fX12_from_L35 o p1 p2 p3 FL 100 M
      else
        fX12_from_L35 o p1 p2 p3 FL 0 M
set_option maxRecDepth 100000 in
set_option maxHeartbeats 4000000 in
theorem kX12_from_L35 {l : Launch} {E : Ev} {p : Program} {e : Env} {s : State} {m : MethodId} {args : Array Value} {below : List Frame} {meth : Method} {c : Code} (C : Cx E p s m args meth c cX12_from yX12_from.cls 5) (hr : meth.sig.returnType = (some .int)) (hin : yX12_from.name = "<init>" → meth.name = "<init>")  {o : Nat} {v1 : Int32} {v2 : Int32} {v3 : Int32} {rz : Int32} {Mz : Mm} : ∀ (n : Nat) (v4 : Int32) (M : Mm), fX12_from_L35 o v1 v2 v3 n v4 M = some (rz, Mz) → ∀ (H : Heap) (locs : List Loc) (ls : Array Slot), Wx E s H locs M → lv_has ls 5 [(0, .ref (E.b + o)), (1, .int v1), (2, .int v2), (3, .int v3), (4, .int v4)] → W p l e (rM 6 149 0 0) s m args below meth c H locs 0 0 (MQ below (Qp E (some (.int rz)) Mz) args s 0 0 E.A) (F0 m 35 ls []) := by
  intro n
  induction n with
  | zero =>
    intro v4 M hf
    unfold fX12_from_L35 at hf
    cases hf
  | succ n ih =>
    intro v4 M hf H locs ls hW hl
    unfold fX12_from_L35 at hf
    refine lv_iload C.x C.b dX12_from_35 (lv_at hl 4 rfl) ?_
    refine lv_bipush (v := 100) C.x C.b dX12_from_37 (by decide) ?_
    refine lv_icmp_ge (tgt := 60) C.x C.b dX12_from_39 rfl (fun c39 => ?_) (fun c39 => ?_)
    · replace hf := x_ip c39 hf
      refine lv_iload C.x C.b dX12_from_60 (lv_at hl 4 rfl) ?_
      refine lv_bipush (v := 100) C.x C.b dX12_from_62 (by decide) ?_
      refine lv_icmp_ge (tgt := 72) C.x C.b dX12_from_64 rfl (fun c64 => ?_) (fun c64 => ?_)
      · replace hf := x_ip c64 hf
        refine lv_bipush (v := (-3)) C.x C.b dX12_from_72 (by decide) ?_
        rw [x_e1 hf, x_e2 hf]
        exact x_iret C hr hW dX12_from_74
      · replace hf := x_in c64 hf
        refine lv_iload C.x C.b dX12_from_67 (lv_at hl 4 rfl) ?_
        refine lv_goto (tgt := 74) C.x C.b dX12_from_69 rfl ?_
        rw [x_e1 hf, x_e2 hf]
        exact x_iret C hr hW dX12_from_74
    · replace hf := x_in c39 hf
      refine lv_aload_n C.x C.b dX12_from_42 rfl (lv_at hl 0 rfl) ?_
      refine lv_iload_n C.x C.b dX12_from_43 rfl (lv_at hl 1 rfl) ?_
      refine lv_iload_n C.x C.b dX12_from_44 rfl (lv_at hl 2 rfl) ?_
      refine lv_iload C.x C.b dX12_from_45 (lv_at hl 4 rfl) ?_
      refine lv_iload_n C.x C.b dX12_from_47 rfl (lv_at hl 3 rfl) ?_
      replace hf := x_b1 hf; obtain ⟨_, hk48_7, hf⟩ := hf
      replace hf := x_b2 hf; obtain ⟨x48_8, M48_9, hx48_8, hf⟩ := hf
      refine x_callV (As := [.int v1, .int v2, .int v4, .int v3]) (a := o) (rest := []) C hW hl (qX12_isBegun l E hx48_8) (x_gk hk48_7) (by decide) (by decide) rfl gv_X12_266 ⟨rfl, hd_X12_isBegun⟩ rfl rfl (Nat.le_of_ble_eq_true rfl) dX12_from_48 ⟨Nat.le_of_ble_eq_true rfl, Nat.le_of_ble_eq_true rfl⟩ ⟨Nat.le_of_ble_eq_true rfl, Nat.le_of_ble_eq_true rfl⟩ (fun H locs hW => ?_)
      refine lv_if_ne (tgt := 60) C.x C.b dX12_from_51 rfl (fun c51 => ?_) (fun c51 => ?_)
      · replace hf := x_in c51 hf
        refine lv_iload C.x C.b dX12_from_60 (lv_at hl 4 rfl) ?_
        refine lv_bipush (v := 100) C.x C.b dX12_from_62 (by decide) ?_
        refine lv_icmp_ge (tgt := 72) C.x C.b dX12_from_64 rfl (fun c64 => ?_) (fun c64 => ?_)
        · replace hf := x_ip c64 hf
          refine lv_bipush (v := (-3)) C.x C.b dX12_from_72 (by decide) ?_
          rw [x_e1 hf, x_e2 hf]
          exact x_iret C hr hW dX12_from_74
        · replace hf := x_in c64 hf
          refine lv_iload C.x C.b dX12_from_67 (lv_at hl 4 rfl) ?_
          refine lv_goto (tgt := 74) C.x C.b dX12_from_69 rfl ?_
          rw [x_e1 hf, x_e2 hf]
          exact x_iret C hr hW dX12_from_74
      · replace hf := x_ip c51 hf
        refine lv_iinc (v := (v4 + 1)) (lv' := [(4, .int (v4 + 1)), (0, .ref (E.b + _)), (1, .int _), (2, .int _), (3, .int _)]) C.x C.b dX12_from_54 hl (k := 4) rfl (by first | rfl | decide) (by decide) rfl (fun ls hl => ?_)
        refine lv_goto (tgt := 35) C.x C.b dX12_from_57 rfl ?_
        exact ih (v4 + 1) M48_9 hf _ _ _ hW (lv_sub hl [1, 2, 3, 4, 0] rfl)
set_option maxRecDepth 100000 in
set_option maxHeartbeats 4000000 in
theorem qX12_from (l : Launch) (E : Ev) {M : Mm} {o : Nat} {p1 : Int32} {p2 : Int32} {p3 : Int32} {rz : Int32} {Mz : Mm} (hf : fX12_from M o p1 p2 p3 = some (rz, Mz)) : Ct l E yX12_from cX12_from 5 (some .int) 6 149 0 0 [.ref (E.b + o), .int p1, .int p2, .int p3] M (some (.int rz)) Mz := by
  refine ct_of (by decide +kernel) (Nat.le_of_ble_eq_true rfl) fun p e s m args below meth c C hr hin hW ls hl => ?_
  have hl : lv_has ls 5 [(0, .ref (E.b + o)), (1, .int p1), (2, .int p2), (3, .int p3)] := hl
  unfold fX12_from at hf
  refine lv_aload_n C.x C.b dX12_from_0 rfl (lv_at hl 0 rfl) ?_
  refine lv_iload_n C.x C.b dX12_from_1 rfl (lv_at hl 1 rfl) ?_
  replace hf := x_b1 hf; obtain ⟨_, hk2_1, hf⟩ := hf
  replace hf := x_b1 hf; obtain ⟨x2_2, hx2_2, hf⟩ := hf
  refine x_callV (As := [.int p1]) (a := o) (rest := []) C hW hl (qX12_isOne l E hx2_2) (x_gk hk2_1) (by decide) (by decide) rfl gv_X12_99 ⟨rfl, hd_X12_isOne⟩ rfl rfl (Nat.le_of_ble_eq_true rfl) dX12_from_2 ⟨Nat.le_of_ble_eq_true rfl, Nat.le_of_ble_eq_true rfl⟩ ⟨Nat.le_of_ble_eq_true rfl, Nat.le_of_ble_eq_true rfl⟩ (fun H locs hW => ?_)
  refine lv_if_eq (tgt := 17) C.x C.b dX12_from_5 rfl (fun c5 => ?_) (fun c5 => ?_)
  · replace hf := x_ip c5 hf
    refine lv_iconst (v := (-1)) C.x C.b dX12_from_17 (by decide) ?_
    rw [x_e1 hf, x_e2 hf]
    exact x_iret C hr hW dX12_from_18
  · replace hf := x_in c5 hf
    refine lv_aload_n C.x C.b dX12_from_8 rfl (lv_at hl 0 rfl) ?_
    refine lv_iload_n C.x C.b dX12_from_9 rfl (lv_at hl 2 rfl) ?_
    refine lv_iload_n C.x C.b dX12_from_10 rfl (lv_at hl 3 rfl) ?_
    replace hf := x_b1 hf; obtain ⟨_, hk11_3, hf⟩ := hf
    replace hf := x_b1 hf; obtain ⟨x11_4, hx11_4, hf⟩ := hf
    refine x_callV (As := [.int p2, .int p3]) (a := o) (rest := []) C hW hl (qX12_isWay l E hx11_4) (x_gk hk11_3) (by decide) (by decide) rfl gv_X12_208 ⟨rfl, hd_X12_isWay⟩ rfl rfl (Nat.le_of_ble_eq_true rfl) dX12_from_11 ⟨Nat.le_of_ble_eq_true rfl, Nat.le_of_ble_eq_true rfl⟩ ⟨Nat.le_of_ble_eq_true rfl, Nat.le_of_ble_eq_true rfl⟩ (fun H locs hW => ?_)
    refine lv_if_ne (tgt := 19) C.x C.b dX12_from_14 rfl (fun c14 => ?_) (fun c14 => ?_)
    · replace hf := x_in c14 hf
      refine lv_aload_n C.x C.b dX12_from_19 rfl (lv_at hl 0 rfl) ?_
      refine lv_iload_n C.x C.b dX12_from_20 rfl (lv_at hl 1 rfl) ?_
      replace hf := x_b1 hf; obtain ⟨_, hk21_5, hf⟩ := hf
      replace hf := x_b1 hf; obtain ⟨x21_6, hx21_6, hf⟩ := hf
      refine x_callV (As := [.int p1]) (a := o) (rest := []) C hW hl (qX12_hasLadder l E hx21_6) (x_gk hk21_5) (by decide) (by decide) rfl gv_X12_71 ⟨rfl, hd_X12_hasLadder⟩ rfl rfl (Nat.le_of_ble_eq_true rfl) dX12_from_21 ⟨Nat.le_of_ble_eq_true rfl, Nat.le_of_ble_eq_true rfl⟩ ⟨Nat.le_of_ble_eq_true rfl, Nat.le_of_ble_eq_true rfl⟩ (fun H locs hW => ?_)
      refine lv_if_eq (tgt := 31) C.x C.b dX12_from_24 rfl (fun c24 => ?_) (fun c24 => ?_)
      · replace hf := x_ip c24 hf
        refine lv_bipush (v := 100) C.x C.b dX12_from_31 (by decide) ?_
        refine lv_istore (lv' := [(4, .int _), (0, .ref (E.b + _)), (1, .int _), (2, .int _), (3, .int _)]) C.x C.b dX12_from_33 hl (by decide) rfl (fun ls hl => ?_)
        exact kX12_from_L35 C hr hin FL 100 M hf _ _ _ hW (lv_sub hl [1, 2, 3, 4, 0] rfl)
      · replace hf := x_in c24 hf
        refine lv_iconst (v := 0) C.x C.b dX12_from_27 (by decide) ?_
        refine lv_goto (tgt := 33) C.x C.b dX12_from_28 rfl ?_
        refine lv_istore (lv' := [(4, .int _), (0, .ref (E.b + _)), (1, .int _), (2, .int _), (3, .int _)]) C.x C.b dX12_from_33 hl (by decide) rfl (fun ls hl => ?_)
        exact kX12_from_L35 C hr hin FL 0 M hf _ _ _ hW (lv_sub hl [1, 2, 3, 4, 0] rfl)
    · replace hf := x_ip c14 hf
      refine lv_iconst (v := (-1)) C.x C.b dX12_from_17 (by decide) ?_
      rw [x_e1 hf, x_e2 hf]
      exact x_iret C hr hW dX12_from_18

theorem dX12_draw_0 : decode cX12_draw 0 = .ok (.aload_n 0, 1) := by decide +kernel
theorem dX12_draw_1 : decode cX12_draw 1 = .ok (.getfield 9, 3) := by decide +kernel
theorem dX12_draw_4 : decode cX12_draw 4 = .ok (.iconst 1, 1) := by decide +kernel
theorem dX12_draw_5 : decode cX12_draw 5 = .ok (.aload_n 0, 1) := by decide +kernel
theorem dX12_draw_6 : decode cX12_draw 6 = .ok (.getfield 9, 3) := by decide +kernel
theorem dX12_draw_9 : decode cX12_draw 9 = .ok (.iconst 1, 1) := by decide +kernel
theorem dX12_draw_10 : decode cX12_draw 10 = .ok (.iaload, 1) := by decide +kernel
theorem dX12_draw_11 : decode cX12_draw 11 = .ok (.ldc_w 270, 3) := by decide +kernel
theorem dX12_draw_14 : decode cX12_draw 14 = .ok (.imul, 1) := by decide +kernel
theorem dX12_draw_15 : decode cX12_draw 15 = .ok (.sipush 12345, 3) := by decide +kernel
theorem dX12_draw_18 : decode cX12_draw 18 = .ok (.iadd, 1) := by decide +kernel
theorem dX12_draw_19 : decode cX12_draw 19 = .ok (.iastore, 1) := by decide +kernel
theorem dX12_draw_20 : decode cX12_draw 20 = .ok (.aload_n 0, 1) := by decide +kernel
theorem dX12_draw_21 : decode cX12_draw 21 = .ok (.getfield 9, 3) := by decide +kernel
theorem dX12_draw_24 : decode cX12_draw 24 = .ok (.iconst 1, 1) := by decide +kernel
theorem dX12_draw_25 : decode cX12_draw 25 = .ok (.iaload, 1) := by decide +kernel
theorem dX12_draw_26 : decode cX12_draw 26 = .ok (.bipush 16, 2) := by decide +kernel
theorem dX12_draw_28 : decode cX12_draw 28 = .ok (.iushr, 1) := by decide +kernel
theorem dX12_draw_29 : decode cX12_draw 29 = .ok (.ireturn, 1) := by decide +kernel
def fX12_draw (M : Mm) (o : Nat) : Option (Int32 × Mm) :=
  B1 (rdN M o 15 0) fun a1_1 =>
  B1 (rdN M o 15 0) fun a6_2 =>
  B1 (alI M a6_2 1) fun x10_3 =>
  B1 (asI M a1_1 1 ((x10_3 * 1103515245) + 12345)) fun M19_4 =>
  B1 (rdN M19_4 o 15 0) fun a21_5 =>
  B1 (alI M19_4 a21_5 1) fun x25_6 =>
  some ((ushI x25_6 16), M19_4)
set_option maxRecDepth 100000 in
set_option maxHeartbeats 4000000 in
theorem qX12_draw (l : Launch) (E : Ev) {M : Mm} {o : Nat} {rz : Int32} {Mz : Mm} (hf : fX12_draw M o = some (rz, Mz)) : Ct l E yX12_draw cX12_draw 1 (some .int) 0 0 0 0 [.ref (E.b + o)] M (some (.int rz)) Mz := by
  refine ct_of (by decide +kernel) (Nat.le_of_ble_eq_true rfl) fun p e s m args below meth c C hr hin hW ls hl => ?_
  have hl : lv_has ls 1 [(0, .ref (E.b + o))] := hl
  unfold fX12_draw at hf
  refine lv_aload_n C.x C.b dX12_draw_0 rfl (lv_at hl 0 rfl) ?_
  replace hf := x_b1 hf; obtain ⟨a1_1, ha1_1, hf⟩ := hf
  refine x_getn C hW fg_X12_9_15 ha1_1 dX12_draw_1 ?_
  refine lv_iconst (v := 1) C.x C.b dX12_draw_4 (by decide) ?_
  refine lv_aload_n C.x C.b dX12_draw_5 rfl (lv_at hl 0 rfl) ?_
  replace hf := x_b1 hf; obtain ⟨a6_2, ha6_2, hf⟩ := hf
  refine x_getn C hW fg_X12_9_15 ha6_2 dX12_draw_6 ?_
  refine lv_iconst (v := 1) C.x C.b dX12_draw_9 (by decide) ?_
  replace hf := x_b1 hf; obtain ⟨x10_3, hx10_3, hf⟩ := hf
  refine x_iald C hW hx10_3 dX12_draw_10 ?_
  refine x_ldciW (v := 1103515245) C T_8_4 dX12_draw_11 ?_
  refine lv_imul C.x C.b dX12_draw_14 ?_
  refine lv_sipush (v := 12345) C.x C.b dX12_draw_15 (by decide) ?_
  refine lv_iadd C.x C.b dX12_draw_18 ?_
  replace hf := x_b1 hf; obtain ⟨M19_4, hM19_4, hf⟩ := hf
  refine x_iast C hW hM19_4 dX12_draw_19 (fun H locs hW => ?_)
  refine lv_aload_n C.x C.b dX12_draw_20 rfl (lv_at hl 0 rfl) ?_
  replace hf := x_b1 hf; obtain ⟨a21_5, ha21_5, hf⟩ := hf
  refine x_getn C hW fg_X12_9_15 ha21_5 dX12_draw_21 ?_
  refine lv_iconst (v := 1) C.x C.b dX12_draw_24 (by decide) ?_
  replace hf := x_b1 hf; obtain ⟨x25_6, hx25_6, hf⟩ := hf
  refine x_iald C hW hx25_6 dX12_draw_25 ?_
  refine lv_bipush (v := 16) C.x C.b dX12_draw_26 (by decide) ?_
  refine lv_iushr (v := (ushI x25_6 16)) C.x C.b dX12_draw_28 rfl ?_
  rw [x_e1 hf, x_e2 hf]
  exact x_iret C hr hW dX12_draw_29

theorem dX12_aDay_0 : decode cX12_aDay 0 = .ok (.iconst 0, 1) := by decide +kernel
theorem dX12_aDay_1 : decode cX12_aDay 1 = .ok (.istore_n 1, 1) := by decide +kernel
theorem dX12_aDay_2 : decode cX12_aDay 2 = .ok (.iload_n 1, 1) := by decide +kernel
theorem dX12_aDay_3 : decode cX12_aDay 3 = .ok (.aload_n 0, 1) := by decide +kernel
theorem dX12_aDay_4 : decode cX12_aDay 4 = .ok (.getfield 9, 3) := by decide +kernel
theorem dX12_aDay_7 : decode cX12_aDay 7 = .ok (.iconst 0, 1) := by decide +kernel
theorem dX12_aDay_8 : decode cX12_aDay 8 = .ok (.iaload, 1) := by decide +kernel
theorem dX12_aDay_9 : decode cX12_aDay 9 = .ok (.if_icmp .ge 17, 3) := by decide +kernel
theorem dX12_aDay_12 : decode cX12_aDay 12 = .ok (.aload_n 0, 1) := by decide +kernel
theorem dX12_aDay_13 : decode cX12_aDay 13 = .ok (.iload_n 1, 1) := by decide +kernel
theorem dX12_aDay_14 : decode cX12_aDay 14 = .ok (.invokevirtual 248, 3) := by decide +kernel
theorem dX12_aDay_17 : decode cX12_aDay 17 = .ok (.ifCond .ge 9, 3) := by decide +kernel
theorem dX12_aDay_20 : decode cX12_aDay 20 = .ok (.iinc 1 1, 3) := by decide +kernel
theorem dX12_aDay_23 : decode cX12_aDay 23 = .ok (.goto (-21), 3) := by decide +kernel
theorem dX12_aDay_26 : decode cX12_aDay 26 = .ok (.iload_n 1, 1) := by decide +kernel
theorem dX12_aDay_27 : decode cX12_aDay 27 = .ok (.aload_n 0, 1) := by decide +kernel
theorem dX12_aDay_28 : decode cX12_aDay 28 = .ok (.getfield 9, 3) := by decide +kernel
theorem dX12_aDay_31 : decode cX12_aDay 31 = .ok (.iconst 0, 1) := by decide +kernel
theorem dX12_aDay_32 : decode cX12_aDay 32 = .ok (.iaload, 1) := by decide +kernel
theorem dX12_aDay_33 : decode cX12_aDay 33 = .ok (.if_icmp .ne 5, 3) := by decide +kernel
theorem dX12_aDay_36 : decode cX12_aDay 36 = .ok (.iconst 0, 1) := by decide +kernel
theorem dX12_aDay_37 : decode cX12_aDay 37 = .ok (.ireturn, 1) := by decide +kernel
theorem dX12_aDay_38 : decode cX12_aDay 38 = .ok (.aload_n 0, 1) := by decide +kernel
theorem dX12_aDay_39 : decode cX12_aDay 39 = .ok (.iload_n 1, 1) := by decide +kernel
theorem dX12_aDay_40 : decode cX12_aDay 40 = .ok (.invokevirtual 248, 3) := by decide +kernel
theorem dX12_aDay_43 : decode cX12_aDay 43 = .ok (.istore_n 2, 1) := by decide +kernel
theorem dX12_aDay_44 : decode cX12_aDay 44 = .ok (.aload_n 0, 1) := by decide +kernel
theorem dX12_aDay_45 : decode cX12_aDay 45 = .ok (.getfield 9, 3) := by decide +kernel
theorem dX12_aDay_48 : decode cX12_aDay 48 = .ok (.iconst 2, 1) := by decide +kernel
theorem dX12_aDay_49 : decode cX12_aDay 49 = .ok (.iload_n 1, 1) := by decide +kernel
theorem dX12_aDay_50 : decode cX12_aDay 50 = .ok (.iastore, 1) := by decide +kernel
theorem dX12_aDay_51 : decode cX12_aDay 51 = .ok (.aload_n 0, 1) := by decide +kernel
theorem dX12_aDay_52 : decode cX12_aDay 52 = .ok (.getfield 9, 3) := by decide +kernel
theorem dX12_aDay_55 : decode cX12_aDay 55 = .ok (.iconst 3, 1) := by decide +kernel
theorem dX12_aDay_56 : decode cX12_aDay 56 = .ok (.iload_n 2, 1) := by decide +kernel
theorem dX12_aDay_57 : decode cX12_aDay 57 = .ok (.iastore, 1) := by decide +kernel
theorem dX12_aDay_58 : decode cX12_aDay 58 = .ok (.aload_n 0, 1) := by decide +kernel
theorem dX12_aDay_59 : decode cX12_aDay 59 = .ok (.invokevirtual 271, 3) := by decide +kernel
theorem dX12_aDay_62 : decode cX12_aDay 62 = .ok (.bipush 10, 2) := by decide +kernel
theorem dX12_aDay_64 : decode cX12_aDay 64 = .ok (.irem, 1) := by decide +kernel
theorem dX12_aDay_65 : decode cX12_aDay 65 = .ok (.aload_n 0, 1) := by decide +kernel
theorem dX12_aDay_66 : decode cX12_aDay 66 = .ok (.getfield 9, 3) := by decide +kernel
theorem dX12_aDay_69 : decode cX12_aDay 69 = .ok (.bipush 11, 2) := by decide +kernel
theorem dX12_aDay_71 : decode cX12_aDay 71 = .ok (.iaload, 1) := by decide +kernel
theorem dX12_aDay_72 : decode cX12_aDay 72 = .ok (.if_icmp .ge 27, 3) := by decide +kernel
theorem dX12_aDay_75 : decode cX12_aDay 75 = .ok (.aload_n 0, 1) := by decide +kernel
theorem dX12_aDay_76 : decode cX12_aDay 76 = .ok (.invokevirtual 271, 3) := by decide +kernel
theorem dX12_aDay_79 : decode cX12_aDay 79 = .ok (.bipush 100, 2) := by decide +kernel
theorem dX12_aDay_81 : decode cX12_aDay 81 = .ok (.irem, 1) := by decide +kernel
theorem dX12_aDay_82 : decode cX12_aDay 82 = .ok (.istore_n 3, 1) := by decide +kernel
theorem dX12_aDay_83 : decode cX12_aDay 83 = .ok (.aload_n 0, 1) := by decide +kernel
theorem dX12_aDay_84 : decode cX12_aDay 84 = .ok (.iload_n 1, 1) := by decide +kernel
theorem dX12_aDay_85 : decode cX12_aDay 85 = .ok (.iload_n 3, 1) := by decide +kernel
theorem dX12_aDay_86 : decode cX12_aDay 86 = .ok (.invokevirtual 121, 3) := by decide +kernel
theorem dX12_aDay_89 : decode cX12_aDay 89 = .ok (.ifCond .eq 10, 3) := by decide +kernel
theorem dX12_aDay_92 : decode cX12_aDay 92 = .ok (.aload_n 0, 1) := by decide +kernel
theorem dX12_aDay_93 : decode cX12_aDay 93 = .ok (.iload_n 1, 1) := by decide +kernel
theorem dX12_aDay_94 : decode cX12_aDay 94 = .ok (.iload_n 3, 1) := by decide +kernel
theorem dX12_aDay_95 : decode cX12_aDay 95 = .ok (.iload_n 3, 1) := by decide +kernel
theorem dX12_aDay_96 : decode cX12_aDay 96 = .ok (.invokevirtual 124, 3) := by decide +kernel
theorem dX12_aDay_99 : decode cX12_aDay 99 = .ok (.aload_n 0, 1) := by decide +kernel
theorem dX12_aDay_100 : decode cX12_aDay 100 = .ok (.iconst 0, 1) := by decide +kernel
theorem dX12_aDay_101 : decode cX12_aDay 101 = .ok (.iconst 0, 1) := by decide +kernel
theorem dX12_aDay_102 : decode cX12_aDay 102 = .ok (.aload_n 0, 1) := by decide +kernel
theorem dX12_aDay_103 : decode cX12_aDay 103 = .ok (.getfield 9, 3) := by decide +kernel
theorem dX12_aDay_106 : decode cX12_aDay 106 = .ok (.bipush 12, 2) := by decide +kernel
theorem dX12_aDay_108 : decode cX12_aDay 108 = .ok (.iaload, 1) := by decide +kernel
theorem dX12_aDay_109 : decode cX12_aDay 109 = .ok (.invokevirtual 199, 3) := by decide +kernel
theorem dX12_aDay_112 : decode cX12_aDay 112 = .ok (.aload_n 0, 1) := by decide +kernel
theorem dX12_aDay_113 : decode cX12_aDay 113 = .ok (.iload_n 1, 1) := by decide +kernel
theorem dX12_aDay_114 : decode cX12_aDay 114 = .ok (.iconst 4, 1) := by decide +kernel
theorem dX12_aDay_115 : decode cX12_aDay 115 = .ok (.aload_n 0, 1) := by decide +kernel
theorem dX12_aDay_116 : decode cX12_aDay 116 = .ok (.iload_n 1, 1) := by decide +kernel
theorem dX12_aDay_117 : decode cX12_aDay 117 = .ok (.iconst 4, 1) := by decide +kernel
theorem dX12_aDay_118 : decode cX12_aDay 118 = .ok (.invokevirtual 67, 3) := by decide +kernel
theorem dX12_aDay_121 : decode cX12_aDay 121 = .ok (.iconst 1, 1) := by decide +kernel
theorem dX12_aDay_122 : decode cX12_aDay 122 = .ok (.iadd, 1) := by decide +kernel
theorem dX12_aDay_123 : decode cX12_aDay 123 = .ok (.invokevirtual 111, 3) := by decide +kernel
theorem dX12_aDay_126 : decode cX12_aDay 126 = .ok (.aload_n 0, 1) := by decide +kernel
theorem dX12_aDay_127 : decode cX12_aDay 127 = .ok (.iload_n 2, 1) := by decide +kernel
theorem dX12_aDay_128 : decode cX12_aDay 128 = .ok (.iconst 4, 1) := by decide +kernel
theorem dX12_aDay_129 : decode cX12_aDay 129 = .ok (.aload_n 0, 1) := by decide +kernel
theorem dX12_aDay_130 : decode cX12_aDay 130 = .ok (.iload_n 2, 1) := by decide +kernel
theorem dX12_aDay_131 : decode cX12_aDay 131 = .ok (.iconst 4, 1) := by decide +kernel
theorem dX12_aDay_132 : decode cX12_aDay 132 = .ok (.invokevirtual 67, 3) := by decide +kernel
theorem dX12_aDay_135 : decode cX12_aDay 135 = .ok (.iconst 1, 1) := by decide +kernel
theorem dX12_aDay_136 : decode cX12_aDay 136 = .ok (.iadd, 1) := by decide +kernel
theorem dX12_aDay_137 : decode cX12_aDay 137 = .ok (.invokevirtual 111, 3) := by decide +kernel
theorem dX12_aDay_140 : decode cX12_aDay 140 = .ok (.aload_n 0, 1) := by decide +kernel
theorem dX12_aDay_141 : decode cX12_aDay 141 = .ok (.getfield 9, 3) := by decide +kernel
theorem dX12_aDay_144 : decode cX12_aDay 144 = .ok (.iconst 2, 1) := by decide +kernel
theorem dX12_aDay_145 : decode cX12_aDay 145 = .ok (.iconst (-1), 1) := by decide +kernel
theorem dX12_aDay_146 : decode cX12_aDay 146 = .ok (.iastore, 1) := by decide +kernel
theorem dX12_aDay_147 : decode cX12_aDay 147 = .ok (.aload_n 0, 1) := by decide +kernel
theorem dX12_aDay_148 : decode cX12_aDay 148 = .ok (.getfield 9, 3) := by decide +kernel
theorem dX12_aDay_151 : decode cX12_aDay 151 = .ok (.iconst 3, 1) := by decide +kernel
theorem dX12_aDay_152 : decode cX12_aDay 152 = .ok (.iconst (-1), 1) := by decide +kernel
theorem dX12_aDay_153 : decode cX12_aDay 153 = .ok (.iastore, 1) := by decide +kernel
theorem dX12_aDay_154 : decode cX12_aDay 154 = .ok (.iconst 1, 1) := by decide +kernel
theorem dX12_aDay_155 : decode cX12_aDay 155 = .ok (.ireturn, 1) := by decide +kernel
theorem hd_X12_draw : yX12_draw.cls ≠ "java/lang/invoke/MethodHandle" ∧ yX12_draw.cls ≠ "java/lang/invoke/VarHandle" ∧ (parseMethodDescriptor yX12_draw.desc).map (fun d => d.parameters.length) = some 0 := by decide +kernel
theorem gv_X12_271 : GoodIn gT (wsV "NylonLadderModel" 271 "NylonLadderModel" yX12_draw (Cond.code yX12_draw cX12_draw 1 (some .int) :: gT)) := good_V T_8_0 T_8_2 TS_74 T_1_10 T_8_3
def fX12_aDay_L2 (o : Nat) : Nat → Int32 → Mm → Option (Int32 × Mm)
  | 0, _, _ => none
  | n + 1, v1, M =>
    B1 (rdN M o 15 0) fun a4_1 =>
    B1 (alI M a4_1 0) fun x8_2 =>
    if x8_2 ≤ v1 then
      B1 (rdN M o 15 0) fun a28_3 =>
      B1 (alI M a28_3 0) fun x32_4 =>
      if v1 = x32_4 then
        some (0, M)
      else
        B1 (gk M o 15) fun _ =>
        B1 (fX12_mateOf M o v1) fun x40_6 =>
        B1 (rdN M o 15 0) fun a45_7 =>
        B1 (asI M a45_7 2 v1) fun M50_8 =>
        B1 (rdN M50_8 o 15 0) fun a52_9 =>
        B1 (asI M50_8 a52_9 3 x40_6) fun M57_10 =>
        B1 (gk M57_10 o 15) fun _ =>
        B2 (fX12_draw M57_10 o) fun x59_12 M59_13 =>
        B1 (rdN M59_13 o 15 0) fun a66_14 =>
        B1 (alI M59_13 a66_14 11) fun x71_15 =>
        if x71_15 ≤ (x59_12 - x59_12 / 10 * 10) then
          B1 (rdN M59_13 o 15 0) fun a103_16 =>
          B1 (alI M59_13 a103_16 12) fun x108_17 =>
          B1 (gk M59_13 o 15) fun _ =>
          B1 (fX12_walks M59_13 o 0 0 x108_17) fun M109_19 =>
          B1 (gk M109_19 o 15) fun _ =>
          B1 (fX12_its M109_19 o v1 4) fun x118_21 =>
          B1 (gk M109_19 o 15) fun _ =>
          B1 (fX12_sets M109_19 o v1 4 (x118_21 + 1)) fun M123_23 =>
          B1 (gk M123_23 o 15) fun _ =>
          B1 (fX12_its M123_23 o x40_6 4) fun x132_25 =>
          B1 (gk M123_23 o 15) fun _ =>
          B1 (fX12_sets M123_23 o x40_6 4 (x132_25 + 1)) fun M137_27 =>
          B1 (rdN M137_27 o 15 0) fun a141_28 =>
          B1 (asI M137_27 a141_28 2 (-1)) fun M146_29 =>
          B1 (rdN M146_29 o 15 0) fun a148_30 =>
          B1 (asI M146_29 a148_30 3 (-1)) fun M153_31 =>
          some (1, M153_31)
        else
          B1 (gk M59_13 o 15) fun _ =>
          B2 (fX12_draw M59_13 o) fun x76_33 M76_34 =>
          B1 (gk M76_34 o 15) fun _ =>
          B1 (fX12_maySnag M76_34 o v1 (x76_33 - x76_33 / 100 * 100)) fun x86_36 =>
          if x86_36 = 0 then
            B1 (rdN M76_34 o 15 0) fun a103_37 =>
            B1 (alI M76_34 a103_37 12) fun x108_38 =>
            B1 (gk M76_34 o 15) fun _ =>
            B1 (fX12_walks M76_34 o 0 0 x108_38) fun M109_40 =>
            B1 (gk M109_40 o 15) fun _ =>
            B1 (fX12_its M109_40 o v1 4) fun x118_42 =>
            B1 (gk M109_40 o 15) fun _ =>
            B1 (fX12_sets M109_40 o v1 4 (x118_42 + 1)) fun M123_44 =>
            B1 (gk M123_44 o 15) fun _ =>
            B1 (fX12_its M123_44 o x40_6 4) fun x132_46 =>
            B1 (gk M123_44 o 15) fun _ =>
            B1 (fX12_sets M123_44 o x40_6 4 (x132_46 + 1)) fun M137_48 =>
            B1 (rdN M137_48 o 15 0) fun a141_49 =>
            B1 (asI M137_48 a141_49 2 (-1)) fun M146_50 =>
            B1 (rdN M146_50 o 15 0) fun a148_51 =>
            B1 (asI M146_50 a148_51 3 (-1)) fun M153_52 =>
            some (1, M153_52)
          else
            B1 (gk M76_34 o 15) fun _ =>
            B1 (fX12_ladder M76_34 o v1 (x76_33 - x76_33 / 100 * 100) (x76_33 - x76_33 / 100 * 100)) fun M96_54 =>
            B1 (rdN M96_54 o 15 0) fun a103_55 =>
            B1 (alI M96_54 a103_55 12) fun x108_56 =>
            B1 (gk M96_54 o 15) fun _ =>
            B1 (fX12_walks M96_54 o 0 0 x108_56) fun M109_58 =>
            B1 (gk M109_58 o 15) fun _ =>
            B1 (fX12_its M109_58 o v1 4) fun x118_60 =>
            B1 (gk M109_58 o 15) fun _ =>
            B1 (fX12_sets M109_58 o v1 4 (x118_60 + 1)) fun M123_62 =>
            B1 (gk M123_62 o 15) fun _ =>
            B1 (fX12_its M123_62 o x40_6 4) fun x132_64 =>
            B1 (gk M123_62 o 15) fun _ =>
            B1 (fX12_sets M123_62 o x40_6 4 (x132_64 + 1)) fun M137_66 =>
            B1 (rdN M137_66 o 15 0) fun a141_67 =>
            B1 (asI M137_66 a141_67 2 (-1)) fun M146_68 =>
            B1 (rdN M146_68 o 15 0) fun a148_69 =>
            B1 (asI M146_68 a148_69 3 (-1)) fun M153_70 =>
            some (1, M153_70)
    else
      B1 (gk M o 15) fun _ =>
      B1 (fX12_mateOf M o v1) fun x14_72 =>
      if 0 ≤ x14_72 then
        B1 (rdN M o 15 0) fun a28_73 =>
        B1 (alI M a28_73 0) fun x32_74 =>
        if v1 = x32_74 then
          some (0, M)
        else
          B1 (gk M o 15) fun _ =>
          B1 (fX12_mateOf M o v1) fun x40_76 =>
          B1 (rdN M o 15 0) fun a45_77 =>
          B1 (asI M a45_77 2 v1) fun M50_78 =>
          B1 (rdN M50_78 o 15 0) fun a52_79 =>
          B1 (asI M50_78 a52_79 3 x40_76) fun M57_80 =>
          B1 (gk M57_80 o 15) fun _ =>
          B2 (fX12_draw M57_80 o) fun x59_82 M59_83 =>
          B1 (rdN M59_83 o 15 0) fun a66_84 =>
          B1 (alI M59_83 a66_84 11) fun x71_85 =>
          if x71_85 ≤ (x59_82 - x59_82 / 10 * 10) then
            B1 (rdN M59_83 o 15 0) fun a103_86 =>
            B1 (alI M59_83 a103_86 12) fun x108_87 =>
            B1 (gk M59_83 o 15) fun _ =>
            B1 (fX12_walks M59_83 o 0 0 x108_87) fun M109_89 =>
            B1 (gk M109_89 o 15) fun _ =>
            B1 (fX12_its M109_89 o v1 4) fun x118_91 =>
            B1 (gk M109_89 o 15) fun _ =>
            B1 (fX12_sets M109_89 o v1 4 (x118_91 + 1)) fun M123_93 =>
            B1 (gk M123_93 o 15) fun _ =>
            B1 (fX12_its M123_93 o x40_76 4) fun x132_95 =>
            B1 (gk M123_93 o 15) fun _ =>
            B1 (fX12_sets M123_93 o x40_76 4 (x132_95 + 1)) fun M137_97 =>
            B1 (rdN M137_97 o 15 0) fun a141_98 =>
            B1 (asI M137_97 a141_98 2 (-1)) fun M146_99 =>
            B1 (rdN M146_99 o 15 0) fun a148_100 =>
            B1 (asI M146_99 a148_100 3 (-1)) fun M153_101 =>
            some (1, M153_101)
          else
            B1 (gk M59_83 o 15) fun _ =>
            B2 (fX12_draw M59_83 o) fun x76_103 M76_104 =>
            B1 (gk M76_104 o 15) fun _ =>
            B1 (fX12_maySnag M76_104 o v1 (x76_103 - x76_103 / 100 * 100)) fun x86_106 =>
            if x86_106 = 0 then
              B1 (rdN M76_104 o 15 0) fun a103_107 =>
              B1 (alI M76_104 a103_107 12) fun x108_108 =>
              B1 (gk M76_104 o 15) fun _ =>
              B1 (fX12_walks M76_104 o 0 0 x108_108) fun M109_110 =>
              B1 (gk M109_110 o 15) fun _ =>
              B1 (fX12_its M109_110 o v1 4) fun x118_112 =>
              B1 (gk M109_110 o 15) fun _ =>
              B1 (fX12_sets M109_110 o v1 4 (x118_112 + 1)) fun M123_114 =>
              B1 (gk M123_114 o 15) fun _ =>
              B1 (fX12_its M123_114 o x40_76 4) fun x132_116 =>
              B1 (gk M123_114 o 15) fun _ =>
              B1 (fX12_sets M123_114 o x40_76 4 (x132_116 + 1)) fun M137_118 =>
              B1 (rdN M137_118 o 15 0) fun a141_119 =>
              B1 (asI M137_118 a141_119 2 (-1)) fun M146_120 =>
              B1 (rdN M146_120 o 15 0) fun a148_121 =>
              B1 (asI M146_120 a148_121 3 (-1)) fun M153_122 =>
              some (1, M153_122)
            else
              B1 (gk M76_104 o 15) fun _ =>
              B1 (fX12_ladder M76_104 o v1 (x76_103 - x76_103 / 100 * 100) (x76_103 - x76_103 / 100 * 100)) fun M96_124 =>
              B1 (rdN M96_124 o 15 0) fun a103_125 =>
              B1 (alI M96_124 a103_125 12) fun x108_126 =>
              B1 (gk M96_124 o 15) fun _ =>
              B1 (fX12_walks M96_124 o 0 0 x108_126) fun M109_128 =>
              B1 (gk M109_128 o 15) fun _ =>
              B1 (fX12_its M109_128 o v1 4) fun x118_130 =>
              B1 (gk M109_128 o 15) fun _ =>
              B1 (fX12_sets M109_128 o v1 4 (x118_130 + 1)) fun M123_132 =>
              B1 (gk M123_132 o 15) fun _ =>
              B1 (fX12_its M123_132 o x40_76 4) fun x132_134 =>
              B1 (gk M123_132 o 15) fun _ =>
              B1 (fX12_sets M123_132 o x40_76 4 (x132_134 + 1)) fun M137_136 =>
              B1 (rdN M137_136 o 15 0) fun a141_137 =>
              B1 (asI M137_136 a141_137 2 (-1)) fun M146_138 =>
              B1 (rdN M146_138 o 15 0) fun a148_139 =>
              B1 (asI M146_138 a148_139 3 (-1)) fun M153_140 =>
              some (1, M153_140)
      else
        fX12_aDay_L2 o n (v1 + 1) M
def fX12_aDay (M : Mm) (o : Nat) : Option (Int32 × Mm) :=
  fX12_aDay_L2 o FL 0 M
set_option maxRecDepth 100000 in
set_option maxHeartbeats 4000000 in
theorem kX12_aDay_L2 {l : Launch} {E : Ev} {p : Program} {e : Env} {s : State} {m : MethodId} {args : Array Value} {below : List Frame} {meth : Method} {c : Code} (C : Cx E p s m args meth c cX12_aDay yX12_aDay.cls 4) (hr : meth.sig.returnType = (some .boolean)) (hin : yX12_aDay.name = "<init>" → meth.name = "<init>")  {o : Nat} {rz : Int32} {Mz : Mm} : ∀ (n : Nat) (v1 : Int32) (M : Mm), fX12_aDay_L2 o n v1 M = some (rz, Mz) → ∀ (H : Heap) (locs : List Loc) (ls : Array Slot), Wx E s H locs M → lv_has ls 4 [(0, .ref (E.b + o)), (1, .int v1)] → W p l e (rM 7 168 0 0) s m args below meth c H locs 0 0 (MQ below (Qp E (some (.int rz)) Mz) args s 0 0 E.A) (F0 m 2 ls []) := by
  intro n
  induction n with
  | zero =>
    intro v1 M hf
    unfold fX12_aDay_L2 at hf
    cases hf
  | succ n ih =>
    intro v1 M hf H locs ls hW hl
    unfold fX12_aDay_L2 at hf
    refine lv_iload_n C.x C.b dX12_aDay_2 rfl (lv_at hl 1 rfl) ?_
    refine lv_aload_n C.x C.b dX12_aDay_3 rfl (lv_at hl 0 rfl) ?_
    replace hf := x_b1 hf; obtain ⟨a4_1, ha4_1, hf⟩ := hf
    refine x_getn C hW fg_X12_9_15 ha4_1 dX12_aDay_4 ?_
    refine lv_iconst (v := 0) C.x C.b dX12_aDay_7 (by decide) ?_
    replace hf := x_b1 hf; obtain ⟨x8_2, hx8_2, hf⟩ := hf
    refine x_iald C hW hx8_2 dX12_aDay_8 ?_
    refine lv_icmp_ge (tgt := 26) C.x C.b dX12_aDay_9 rfl (fun c9 => ?_) (fun c9 => ?_)
    · replace hf := x_ip c9 hf
      refine lv_iload_n C.x C.b dX12_aDay_26 rfl (lv_at hl 1 rfl) ?_
      refine lv_aload_n C.x C.b dX12_aDay_27 rfl (lv_at hl 0 rfl) ?_
      replace hf := x_b1 hf; obtain ⟨a28_3, ha28_3, hf⟩ := hf
      refine x_getn C hW fg_X12_9_15 ha28_3 dX12_aDay_28 ?_
      refine lv_iconst (v := 0) C.x C.b dX12_aDay_31 (by decide) ?_
      replace hf := x_b1 hf; obtain ⟨x32_4, hx32_4, hf⟩ := hf
      refine x_iald C hW hx32_4 dX12_aDay_32 ?_
      refine lv_icmp_ne (tgt := 38) C.x C.b dX12_aDay_33 rfl (fun c33 => ?_) (fun c33 => ?_)
      · replace hf := x_in c33 hf
        refine lv_aload_n C.x C.b dX12_aDay_38 rfl (lv_at hl 0 rfl) ?_
        refine lv_iload_n C.x C.b dX12_aDay_39 rfl (lv_at hl 1 rfl) ?_
        replace hf := x_b1 hf; obtain ⟨_, hk40_5, hf⟩ := hf
        replace hf := x_b1 hf; obtain ⟨x40_6, hx40_6, hf⟩ := hf
        refine x_callV (As := [.int v1]) (a := o) (rest := []) C hW hl (qX12_mateOf l E hx40_6) (x_gk hk40_5) (by decide) (by decide) rfl gv_X12_248 ⟨rfl, hd_X12_mateOf⟩ rfl rfl (Nat.le_of_ble_eq_true rfl) dX12_aDay_40 ⟨Nat.le_of_ble_eq_true rfl, Nat.le_of_ble_eq_true rfl⟩ ⟨Nat.le_of_ble_eq_true rfl, Nat.le_of_ble_eq_true rfl⟩ (fun H locs hW => ?_)
        refine lv_istore_n (lv' := [(2, .int _), (0, .ref (E.b + _)), (1, .int _)]) C.x C.b dX12_aDay_43 rfl hl (by decide) rfl (fun ls hl => ?_)
        refine lv_aload_n C.x C.b dX12_aDay_44 rfl (lv_at hl 1 rfl) ?_
        replace hf := x_b1 hf; obtain ⟨a45_7, ha45_7, hf⟩ := hf
        refine x_getn C hW fg_X12_9_15 ha45_7 dX12_aDay_45 ?_
        refine lv_iconst (v := 2) C.x C.b dX12_aDay_48 (by decide) ?_
        refine lv_iload_n C.x C.b dX12_aDay_49 rfl (lv_at hl 2 rfl) ?_
        replace hf := x_b1 hf; obtain ⟨M50_8, hM50_8, hf⟩ := hf
        refine x_iast C hW hM50_8 dX12_aDay_50 (fun H locs hW => ?_)
        refine lv_aload_n C.x C.b dX12_aDay_51 rfl (lv_at hl 1 rfl) ?_
        replace hf := x_b1 hf; obtain ⟨a52_9, ha52_9, hf⟩ := hf
        refine x_getn C hW fg_X12_9_15 ha52_9 dX12_aDay_52 ?_
        refine lv_iconst (v := 3) C.x C.b dX12_aDay_55 (by decide) ?_
        refine lv_iload_n C.x C.b dX12_aDay_56 rfl (lv_at hl 0 rfl) ?_
        replace hf := x_b1 hf; obtain ⟨M57_10, hM57_10, hf⟩ := hf
        refine x_iast C hW hM57_10 dX12_aDay_57 (fun H locs hW => ?_)
        refine lv_aload_n C.x C.b dX12_aDay_58 rfl (lv_at hl 1 rfl) ?_
        replace hf := x_b1 hf; obtain ⟨_, hk59_11, hf⟩ := hf
        replace hf := x_b2 hf; obtain ⟨x59_12, M59_13, hx59_12, hf⟩ := hf
        refine x_callV (As := []) (a := o) (rest := []) C hW hl (qX12_draw l E hx59_12) (x_gk hk59_11) (by decide) (by decide) rfl gv_X12_271 ⟨rfl, hd_X12_draw⟩ rfl rfl (Nat.le_of_ble_eq_true rfl) dX12_aDay_59 ⟨Nat.le_of_ble_eq_true rfl, Nat.le_of_ble_eq_true rfl⟩ ⟨Nat.le_of_ble_eq_true rfl, Nat.le_of_ble_eq_true rfl⟩ (fun H locs hW => ?_)
        refine lv_bipush (v := 10) C.x C.b dX12_aDay_62 (by decide) ?_
        refine lv_irem C.x C.b dX12_aDay_64 (by decide) ?_
        refine lv_aload_n C.x C.b dX12_aDay_65 rfl (lv_at hl 1 rfl) ?_
        replace hf := x_b1 hf; obtain ⟨a66_14, ha66_14, hf⟩ := hf
        refine x_getn C hW fg_X12_9_15 ha66_14 dX12_aDay_66 ?_
        refine lv_bipush (v := 11) C.x C.b dX12_aDay_69 (by decide) ?_
        replace hf := x_b1 hf; obtain ⟨x71_15, hx71_15, hf⟩ := hf
        refine x_iald C hW hx71_15 dX12_aDay_71 ?_
        refine lv_icmp_ge (tgt := 99) C.x C.b dX12_aDay_72 rfl (fun c72 => ?_) (fun c72 => ?_)
        · replace hf := x_ip c72 hf
          refine lv_aload_n C.x C.b dX12_aDay_99 rfl (lv_at hl 1 rfl) ?_
          refine lv_iconst (v := 0) C.x C.b dX12_aDay_100 (by decide) ?_
          refine lv_iconst (v := 0) C.x C.b dX12_aDay_101 (by decide) ?_
          refine lv_aload_n C.x C.b dX12_aDay_102 rfl (lv_at hl 1 rfl) ?_
          replace hf := x_b1 hf; obtain ⟨a103_16, ha103_16, hf⟩ := hf
          refine x_getn C hW fg_X12_9_15 ha103_16 dX12_aDay_103 ?_
          refine lv_bipush (v := 12) C.x C.b dX12_aDay_106 (by decide) ?_
          replace hf := x_b1 hf; obtain ⟨x108_17, hx108_17, hf⟩ := hf
          refine x_iald C hW hx108_17 dX12_aDay_108 ?_
          replace hf := x_b1 hf; obtain ⟨_, hk109_18, hf⟩ := hf
          replace hf := x_b1 hf; obtain ⟨M109_19, hM109_19, hf⟩ := hf
          refine x_callV (As := [.int 0, .int 0, .int x108_17]) (a := o) (rest := []) C hW hl (qX12_walks l E hM109_19) (x_gk hk109_18) (by decide) (by decide) rfl gv_X12_199 ⟨rfl, hd_X12_walks⟩ rfl rfl (Nat.le_of_ble_eq_true rfl) dX12_aDay_109 ⟨Nat.le_of_ble_eq_true rfl, Nat.le_of_ble_eq_true rfl⟩ ⟨Nat.le_of_ble_eq_true rfl, Nat.le_of_ble_eq_true rfl⟩ (fun H locs hW => ?_)
          refine lv_aload_n C.x C.b dX12_aDay_112 rfl (lv_at hl 1 rfl) ?_
          refine lv_iload_n C.x C.b dX12_aDay_113 rfl (lv_at hl 2 rfl) ?_
          refine lv_iconst (v := 4) C.x C.b dX12_aDay_114 (by decide) ?_
          refine lv_aload_n C.x C.b dX12_aDay_115 rfl (lv_at hl 1 rfl) ?_
          refine lv_iload_n C.x C.b dX12_aDay_116 rfl (lv_at hl 2 rfl) ?_
          refine lv_iconst (v := 4) C.x C.b dX12_aDay_117 (by decide) ?_
          replace hf := x_b1 hf; obtain ⟨_, hk118_20, hf⟩ := hf
          replace hf := x_b1 hf; obtain ⟨x118_21, hx118_21, hf⟩ := hf
          refine x_callV (As := [.int v1, .int 4]) (a := o) (rest := [.int 4, .int v1, .ref (E.b + o)]) C hW hl (qX12_its l E hx118_21) (x_gk hk118_20) (by decide) (by decide) rfl gv_X12_67 ⟨rfl, hd_X12_its⟩ rfl rfl (Nat.le_of_ble_eq_true rfl) dX12_aDay_118 ⟨Nat.le_of_ble_eq_true rfl, Nat.le_of_ble_eq_true rfl⟩ ⟨Nat.le_of_ble_eq_true rfl, Nat.le_of_ble_eq_true rfl⟩ (fun H locs hW => ?_)
          refine lv_iconst (v := 1) C.x C.b dX12_aDay_121 (by decide) ?_
          refine lv_iadd C.x C.b dX12_aDay_122 ?_
          replace hf := x_b1 hf; obtain ⟨_, hk123_22, hf⟩ := hf
          replace hf := x_b1 hf; obtain ⟨M123_23, hM123_23, hf⟩ := hf
          refine x_callV (As := [.int v1, .int 4, .int (x118_21 + 1)]) (a := o) (rest := []) C hW hl (qX12_sets l E hM123_23) (x_gk hk123_22) (by decide) (by decide) rfl gv_X12_111 ⟨rfl, hd_X12_sets⟩ rfl rfl (Nat.le_of_ble_eq_true rfl) dX12_aDay_123 ⟨Nat.le_of_ble_eq_true rfl, Nat.le_of_ble_eq_true rfl⟩ ⟨Nat.le_of_ble_eq_true rfl, Nat.le_of_ble_eq_true rfl⟩ (fun H locs hW => ?_)
          refine lv_aload_n C.x C.b dX12_aDay_126 rfl (lv_at hl 1 rfl) ?_
          refine lv_iload_n C.x C.b dX12_aDay_127 rfl (lv_at hl 0 rfl) ?_
          refine lv_iconst (v := 4) C.x C.b dX12_aDay_128 (by decide) ?_
          refine lv_aload_n C.x C.b dX12_aDay_129 rfl (lv_at hl 1 rfl) ?_
          refine lv_iload_n C.x C.b dX12_aDay_130 rfl (lv_at hl 0 rfl) ?_
          refine lv_iconst (v := 4) C.x C.b dX12_aDay_131 (by decide) ?_
          replace hf := x_b1 hf; obtain ⟨_, hk132_24, hf⟩ := hf
          replace hf := x_b1 hf; obtain ⟨x132_25, hx132_25, hf⟩ := hf
          refine x_callV (As := [.int x40_6, .int 4]) (a := o) (rest := [.int 4, .int x40_6, .ref (E.b + o)]) C hW hl (qX12_its l E hx132_25) (x_gk hk132_24) (by decide) (by decide) rfl gv_X12_67 ⟨rfl, hd_X12_its⟩ rfl rfl (Nat.le_of_ble_eq_true rfl) dX12_aDay_132 ⟨Nat.le_of_ble_eq_true rfl, Nat.le_of_ble_eq_true rfl⟩ ⟨Nat.le_of_ble_eq_true rfl, Nat.le_of_ble_eq_true rfl⟩ (fun H locs hW => ?_)
          refine lv_iconst (v := 1) C.x C.b dX12_aDay_135 (by decide) ?_
          refine lv_iadd C.x C.b dX12_aDay_136 ?_
          replace hf := x_b1 hf; obtain ⟨_, hk137_26, hf⟩ := hf
          replace hf := x_b1 hf; obtain ⟨M137_27, hM137_27, hf⟩ := hf
          refine x_callV (As := [.int x40_6, .int 4, .int (x132_25 + 1)]) (a := o) (rest := []) C hW hl (qX12_sets l E hM137_27) (x_gk hk137_26) (by decide) (by decide) rfl gv_X12_111 ⟨rfl, hd_X12_sets⟩ rfl rfl (Nat.le_of_ble_eq_true rfl) dX12_aDay_137 ⟨Nat.le_of_ble_eq_true rfl, Nat.le_of_ble_eq_true rfl⟩ ⟨Nat.le_of_ble_eq_true rfl, Nat.le_of_ble_eq_true rfl⟩ (fun H locs hW => ?_)
          refine lv_aload_n C.x C.b dX12_aDay_140 rfl (lv_at hl 1 rfl) ?_
          replace hf := x_b1 hf; obtain ⟨a141_28, ha141_28, hf⟩ := hf
          refine x_getn C hW fg_X12_9_15 ha141_28 dX12_aDay_141 ?_
          refine lv_iconst (v := 2) C.x C.b dX12_aDay_144 (by decide) ?_
          refine lv_iconst (v := (-1)) C.x C.b dX12_aDay_145 (by decide) ?_
          replace hf := x_b1 hf; obtain ⟨M146_29, hM146_29, hf⟩ := hf
          refine x_iast C hW hM146_29 dX12_aDay_146 (fun H locs hW => ?_)
          refine lv_aload_n C.x C.b dX12_aDay_147 rfl (lv_at hl 1 rfl) ?_
          replace hf := x_b1 hf; obtain ⟨a148_30, ha148_30, hf⟩ := hf
          refine x_getn C hW fg_X12_9_15 ha148_30 dX12_aDay_148 ?_
          refine lv_iconst (v := 3) C.x C.b dX12_aDay_151 (by decide) ?_
          refine lv_iconst (v := (-1)) C.x C.b dX12_aDay_152 (by decide) ?_
          replace hf := x_b1 hf; obtain ⟨M153_31, hM153_31, hf⟩ := hf
          refine x_iast C hW hM153_31 dX12_aDay_153 (fun H locs hW => ?_)
          refine lv_iconst (v := 1) C.x C.b dX12_aDay_154 (by decide) ?_
          rw [x_e1 hf, x_e2 hf]
          exact x_zret C hr hW (v := 1) (w := 1) rfl dX12_aDay_155
        · replace hf := x_in c72 hf
          refine lv_aload_n C.x C.b dX12_aDay_75 rfl (lv_at hl 1 rfl) ?_
          replace hf := x_b1 hf; obtain ⟨_, hk76_32, hf⟩ := hf
          replace hf := x_b2 hf; obtain ⟨x76_33, M76_34, hx76_33, hf⟩ := hf
          refine x_callV (As := []) (a := o) (rest := []) C hW hl (qX12_draw l E hx76_33) (x_gk hk76_32) (by decide) (by decide) rfl gv_X12_271 ⟨rfl, hd_X12_draw⟩ rfl rfl (Nat.le_of_ble_eq_true rfl) dX12_aDay_76 ⟨Nat.le_of_ble_eq_true rfl, Nat.le_of_ble_eq_true rfl⟩ ⟨Nat.le_of_ble_eq_true rfl, Nat.le_of_ble_eq_true rfl⟩ (fun H locs hW => ?_)
          refine lv_bipush (v := 100) C.x C.b dX12_aDay_79 (by decide) ?_
          refine lv_irem C.x C.b dX12_aDay_81 (by decide) ?_
          refine lv_istore_n (lv' := [(3, .int _), (2, .int _), (0, .ref (E.b + _)), (1, .int _)]) C.x C.b dX12_aDay_82 rfl hl (by decide) rfl (fun ls hl => ?_)
          refine lv_aload_n C.x C.b dX12_aDay_83 rfl (lv_at hl 2 rfl) ?_
          refine lv_iload_n C.x C.b dX12_aDay_84 rfl (lv_at hl 3 rfl) ?_
          refine lv_iload_n C.x C.b dX12_aDay_85 rfl (lv_at hl 0 rfl) ?_
          replace hf := x_b1 hf; obtain ⟨_, hk86_35, hf⟩ := hf
          replace hf := x_b1 hf; obtain ⟨x86_36, hx86_36, hf⟩ := hf
          refine x_callV (As := [.int v1, .int (x76_33 - x76_33 / 100 * 100)]) (a := o) (rest := []) C hW hl (qX12_maySnag l E hx86_36) (x_gk hk86_35) (by decide) (by decide) rfl gv_X12_121 ⟨rfl, hd_X12_maySnag⟩ rfl rfl (Nat.le_of_ble_eq_true rfl) dX12_aDay_86 ⟨Nat.le_of_ble_eq_true rfl, Nat.le_of_ble_eq_true rfl⟩ ⟨Nat.le_of_ble_eq_true rfl, Nat.le_of_ble_eq_true rfl⟩ (fun H locs hW => ?_)
          refine lv_if_eq (tgt := 99) C.x C.b dX12_aDay_89 rfl (fun c89 => ?_) (fun c89 => ?_)
          · replace hf := x_ip c89 hf
            refine lv_aload_n C.x C.b dX12_aDay_99 rfl (lv_at hl 2 rfl) ?_
            refine lv_iconst (v := 0) C.x C.b dX12_aDay_100 (by decide) ?_
            refine lv_iconst (v := 0) C.x C.b dX12_aDay_101 (by decide) ?_
            refine lv_aload_n C.x C.b dX12_aDay_102 rfl (lv_at hl 2 rfl) ?_
            replace hf := x_b1 hf; obtain ⟨a103_37, ha103_37, hf⟩ := hf
            refine x_getn C hW fg_X12_9_15 ha103_37 dX12_aDay_103 ?_
            refine lv_bipush (v := 12) C.x C.b dX12_aDay_106 (by decide) ?_
            replace hf := x_b1 hf; obtain ⟨x108_38, hx108_38, hf⟩ := hf
            refine x_iald C hW hx108_38 dX12_aDay_108 ?_
            replace hf := x_b1 hf; obtain ⟨_, hk109_39, hf⟩ := hf
            replace hf := x_b1 hf; obtain ⟨M109_40, hM109_40, hf⟩ := hf
            refine x_callV (As := [.int 0, .int 0, .int x108_38]) (a := o) (rest := []) C hW hl (qX12_walks l E hM109_40) (x_gk hk109_39) (by decide) (by decide) rfl gv_X12_199 ⟨rfl, hd_X12_walks⟩ rfl rfl (Nat.le_of_ble_eq_true rfl) dX12_aDay_109 ⟨Nat.le_of_ble_eq_true rfl, Nat.le_of_ble_eq_true rfl⟩ ⟨Nat.le_of_ble_eq_true rfl, Nat.le_of_ble_eq_true rfl⟩ (fun H locs hW => ?_)
            refine lv_aload_n C.x C.b dX12_aDay_112 rfl (lv_at hl 2 rfl) ?_
            refine lv_iload_n C.x C.b dX12_aDay_113 rfl (lv_at hl 3 rfl) ?_
            refine lv_iconst (v := 4) C.x C.b dX12_aDay_114 (by decide) ?_
            refine lv_aload_n C.x C.b dX12_aDay_115 rfl (lv_at hl 2 rfl) ?_
            refine lv_iload_n C.x C.b dX12_aDay_116 rfl (lv_at hl 3 rfl) ?_
            refine lv_iconst (v := 4) C.x C.b dX12_aDay_117 (by decide) ?_
            replace hf := x_b1 hf; obtain ⟨_, hk118_41, hf⟩ := hf
            replace hf := x_b1 hf; obtain ⟨x118_42, hx118_42, hf⟩ := hf
            refine x_callV (As := [.int v1, .int 4]) (a := o) (rest := [.int 4, .int v1, .ref (E.b + o)]) C hW hl (qX12_its l E hx118_42) (x_gk hk118_41) (by decide) (by decide) rfl gv_X12_67 ⟨rfl, hd_X12_its⟩ rfl rfl (Nat.le_of_ble_eq_true rfl) dX12_aDay_118 ⟨Nat.le_of_ble_eq_true rfl, Nat.le_of_ble_eq_true rfl⟩ ⟨Nat.le_of_ble_eq_true rfl, Nat.le_of_ble_eq_true rfl⟩ (fun H locs hW => ?_)
            refine lv_iconst (v := 1) C.x C.b dX12_aDay_121 (by decide) ?_
            refine lv_iadd C.x C.b dX12_aDay_122 ?_
            replace hf := x_b1 hf; obtain ⟨_, hk123_43, hf⟩ := hf
            replace hf := x_b1 hf; obtain ⟨M123_44, hM123_44, hf⟩ := hf
            refine x_callV (As := [.int v1, .int 4, .int (x118_42 + 1)]) (a := o) (rest := []) C hW hl (qX12_sets l E hM123_44) (x_gk hk123_43) (by decide) (by decide) rfl gv_X12_111 ⟨rfl, hd_X12_sets⟩ rfl rfl (Nat.le_of_ble_eq_true rfl) dX12_aDay_123 ⟨Nat.le_of_ble_eq_true rfl, Nat.le_of_ble_eq_true rfl⟩ ⟨Nat.le_of_ble_eq_true rfl, Nat.le_of_ble_eq_true rfl⟩ (fun H locs hW => ?_)
            refine lv_aload_n C.x C.b dX12_aDay_126 rfl (lv_at hl 2 rfl) ?_
            refine lv_iload_n C.x C.b dX12_aDay_127 rfl (lv_at hl 1 rfl) ?_
            refine lv_iconst (v := 4) C.x C.b dX12_aDay_128 (by decide) ?_
            refine lv_aload_n C.x C.b dX12_aDay_129 rfl (lv_at hl 2 rfl) ?_
            refine lv_iload_n C.x C.b dX12_aDay_130 rfl (lv_at hl 1 rfl) ?_
            refine lv_iconst (v := 4) C.x C.b dX12_aDay_131 (by decide) ?_
            replace hf := x_b1 hf; obtain ⟨_, hk132_45, hf⟩ := hf
            replace hf := x_b1 hf; obtain ⟨x132_46, hx132_46, hf⟩ := hf
            refine x_callV (As := [.int x40_6, .int 4]) (a := o) (rest := [.int 4, .int x40_6, .ref (E.b + o)]) C hW hl (qX12_its l E hx132_46) (x_gk hk132_45) (by decide) (by decide) rfl gv_X12_67 ⟨rfl, hd_X12_its⟩ rfl rfl (Nat.le_of_ble_eq_true rfl) dX12_aDay_132 ⟨Nat.le_of_ble_eq_true rfl, Nat.le_of_ble_eq_true rfl⟩ ⟨Nat.le_of_ble_eq_true rfl, Nat.le_of_ble_eq_true rfl⟩ (fun H locs hW => ?_)
            refine lv_iconst (v := 1) C.x C.b dX12_aDay_135 (by decide) ?_
            refine lv_iadd C.x C.b dX12_aDay_136 ?_
            replace hf := x_b1 hf; obtain ⟨_, hk137_47, hf⟩ := hf
            replace hf := x_b1 hf; obtain ⟨M137_48, hM137_48, hf⟩ := hf
            refine x_callV (As := [.int x40_6, .int 4, .int (x132_46 + 1)]) (a := o) (rest := []) C hW hl (qX12_sets l E hM137_48) (x_gk hk137_47) (by decide) (by decide) rfl gv_X12_111 ⟨rfl, hd_X12_sets⟩ rfl rfl (Nat.le_of_ble_eq_true rfl) dX12_aDay_137 ⟨Nat.le_of_ble_eq_true rfl, Nat.le_of_ble_eq_true rfl⟩ ⟨Nat.le_of_ble_eq_true rfl, Nat.le_of_ble_eq_true rfl⟩ (fun H locs hW => ?_)
            refine lv_aload_n C.x C.b dX12_aDay_140 rfl (lv_at hl 2 rfl) ?_
            replace hf := x_b1 hf; obtain ⟨a141_49, ha141_49, hf⟩ := hf
            refine x_getn C hW fg_X12_9_15 ha141_49 dX12_aDay_141 ?_
            refine lv_iconst (v := 2) C.x C.b dX12_aDay_144 (by decide) ?_
            refine lv_iconst (v := (-1)) C.x C.b dX12_aDay_145 (by decide) ?_
            replace hf := x_b1 hf; obtain ⟨M146_50, hM146_50, hf⟩ := hf
            refine x_iast C hW hM146_50 dX12_aDay_146 (fun H locs hW => ?_)
            refine lv_aload_n C.x C.b dX12_aDay_147 rfl (lv_at hl 2 rfl) ?_
            replace hf := x_b1 hf; obtain ⟨a148_51, ha148_51, hf⟩ := hf
            refine x_getn C hW fg_X12_9_15 ha148_51 dX12_aDay_148 ?_
            refine lv_iconst (v := 3) C.x C.b dX12_aDay_151 (by decide) ?_
            refine lv_iconst (v := (-1)) C.x C.b dX12_aDay_152 (by decide) ?_
            replace hf := x_b1 hf; obtain ⟨M153_52, hM153_52, hf⟩ := hf
            refine x_iast C hW hM153_52 dX12_aDay_153 (fun H locs hW => ?_)
            refine lv_iconst (v := 1) C.x C.b dX12_aDay_154 (by decide) ?_
            rw [x_e1 hf, x_e2 hf]
            exact x_zret C hr hW (v := 1) (w := 1) rfl dX12_aDay_155
          · replace hf := x_in c89 hf
            refine lv_aload_n C.x C.b dX12_aDay_92 rfl (lv_at hl 2 rfl) ?_
            refine lv_iload_n C.x C.b dX12_aDay_93 rfl (lv_at hl 3 rfl) ?_
            refine lv_iload_n C.x C.b dX12_aDay_94 rfl (lv_at hl 0 rfl) ?_
            refine lv_iload_n C.x C.b dX12_aDay_95 rfl (lv_at hl 0 rfl) ?_
            replace hf := x_b1 hf; obtain ⟨_, hk96_53, hf⟩ := hf
            replace hf := x_b1 hf; obtain ⟨M96_54, hM96_54, hf⟩ := hf
            refine x_callV (As := [.int v1, .int (x76_33 - x76_33 / 100 * 100), .int (x76_33 - x76_33 / 100 * 100)]) (a := o) (rest := []) C hW hl (qX12_ladder l E hM96_54) (x_gk hk96_53) (by decide) (by decide) rfl gv_X12_124 ⟨rfl, hd_X12_ladder⟩ rfl rfl (Nat.le_of_ble_eq_true rfl) dX12_aDay_96 ⟨Nat.le_of_ble_eq_true rfl, Nat.le_of_ble_eq_true rfl⟩ ⟨Nat.le_of_ble_eq_true rfl, Nat.le_of_ble_eq_true rfl⟩ (fun H locs hW => ?_)
            refine lv_aload_n C.x C.b dX12_aDay_99 rfl (lv_at hl 2 rfl) ?_
            refine lv_iconst (v := 0) C.x C.b dX12_aDay_100 (by decide) ?_
            refine lv_iconst (v := 0) C.x C.b dX12_aDay_101 (by decide) ?_
            refine lv_aload_n C.x C.b dX12_aDay_102 rfl (lv_at hl 2 rfl) ?_
            replace hf := x_b1 hf; obtain ⟨a103_55, ha103_55, hf⟩ := hf
            refine x_getn C hW fg_X12_9_15 ha103_55 dX12_aDay_103 ?_
            refine lv_bipush (v := 12) C.x C.b dX12_aDay_106 (by decide) ?_
            replace hf := x_b1 hf; obtain ⟨x108_56, hx108_56, hf⟩ := hf
            refine x_iald C hW hx108_56 dX12_aDay_108 ?_
            replace hf := x_b1 hf; obtain ⟨_, hk109_57, hf⟩ := hf
            replace hf := x_b1 hf; obtain ⟨M109_58, hM109_58, hf⟩ := hf
            refine x_callV (As := [.int 0, .int 0, .int x108_56]) (a := o) (rest := []) C hW hl (qX12_walks l E hM109_58) (x_gk hk109_57) (by decide) (by decide) rfl gv_X12_199 ⟨rfl, hd_X12_walks⟩ rfl rfl (Nat.le_of_ble_eq_true rfl) dX12_aDay_109 ⟨Nat.le_of_ble_eq_true rfl, Nat.le_of_ble_eq_true rfl⟩ ⟨Nat.le_of_ble_eq_true rfl, Nat.le_of_ble_eq_true rfl⟩ (fun H locs hW => ?_)
            refine lv_aload_n C.x C.b dX12_aDay_112 rfl (lv_at hl 2 rfl) ?_
            refine lv_iload_n C.x C.b dX12_aDay_113 rfl (lv_at hl 3 rfl) ?_
            refine lv_iconst (v := 4) C.x C.b dX12_aDay_114 (by decide) ?_
            refine lv_aload_n C.x C.b dX12_aDay_115 rfl (lv_at hl 2 rfl) ?_
            refine lv_iload_n C.x C.b dX12_aDay_116 rfl (lv_at hl 3 rfl) ?_
            refine lv_iconst (v := 4) C.x C.b dX12_aDay_117 (by decide) ?_
            replace hf := x_b1 hf; obtain ⟨_, hk118_59, hf⟩ := hf
            replace hf := x_b1 hf; obtain ⟨x118_60, hx118_60, hf⟩ := hf
            refine x_callV (As := [.int v1, .int 4]) (a := o) (rest := [.int 4, .int v1, .ref (E.b + o)]) C hW hl (qX12_its l E hx118_60) (x_gk hk118_59) (by decide) (by decide) rfl gv_X12_67 ⟨rfl, hd_X12_its⟩ rfl rfl (Nat.le_of_ble_eq_true rfl) dX12_aDay_118 ⟨Nat.le_of_ble_eq_true rfl, Nat.le_of_ble_eq_true rfl⟩ ⟨Nat.le_of_ble_eq_true rfl, Nat.le_of_ble_eq_true rfl⟩ (fun H locs hW => ?_)
            refine lv_iconst (v := 1) C.x C.b dX12_aDay_121 (by decide) ?_
            refine lv_iadd C.x C.b dX12_aDay_122 ?_
            replace hf := x_b1 hf; obtain ⟨_, hk123_61, hf⟩ := hf
            replace hf := x_b1 hf; obtain ⟨M123_62, hM123_62, hf⟩ := hf
            refine x_callV (As := [.int v1, .int 4, .int (x118_60 + 1)]) (a := o) (rest := []) C hW hl (qX12_sets l E hM123_62) (x_gk hk123_61) (by decide) (by decide) rfl gv_X12_111 ⟨rfl, hd_X12_sets⟩ rfl rfl (Nat.le_of_ble_eq_true rfl) dX12_aDay_123 ⟨Nat.le_of_ble_eq_true rfl, Nat.le_of_ble_eq_true rfl⟩ ⟨Nat.le_of_ble_eq_true rfl, Nat.le_of_ble_eq_true rfl⟩ (fun H locs hW => ?_)
            refine lv_aload_n C.x C.b dX12_aDay_126 rfl (lv_at hl 2 rfl) ?_
            refine lv_iload_n C.x C.b dX12_aDay_127 rfl (lv_at hl 1 rfl) ?_
            refine lv_iconst (v := 4) C.x C.b dX12_aDay_128 (by decide) ?_
            refine lv_aload_n C.x C.b dX12_aDay_129 rfl (lv_at hl 2 rfl) ?_
            refine lv_iload_n C.x C.b dX12_aDay_130 rfl (lv_at hl 1 rfl) ?_
            refine lv_iconst (v := 4) C.x C.b dX12_aDay_131 (by decide) ?_
            replace hf := x_b1 hf; obtain ⟨_, hk132_63, hf⟩ := hf
            replace hf := x_b1 hf; obtain ⟨x132_64, hx132_64, hf⟩ := hf
            refine x_callV (As := [.int x40_6, .int 4]) (a := o) (rest := [.int 4, .int x40_6, .ref (E.b + o)]) C hW hl (qX12_its l E hx132_64) (x_gk hk132_63) (by decide) (by decide) rfl gv_X12_67 ⟨rfl, hd_X12_its⟩ rfl rfl (Nat.le_of_ble_eq_true rfl) dX12_aDay_132 ⟨Nat.le_of_ble_eq_true rfl, Nat.le_of_ble_eq_true rfl⟩ ⟨Nat.le_of_ble_eq_true rfl, Nat.le_of_ble_eq_true rfl⟩ (fun H locs hW => ?_)
            refine lv_iconst (v := 1) C.x C.b dX12_aDay_135 (by decide) ?_
            refine lv_iadd C.x C.b dX12_aDay_136 ?_
            replace hf := x_b1 hf; obtain ⟨_, hk137_65, hf⟩ := hf
            replace hf := x_b1 hf; obtain ⟨M137_66, hM137_66, hf⟩ := hf
            refine x_callV (As := [.int x40_6, .int 4, .int (x132_64 + 1)]) (a := o) (rest := []) C hW hl (qX12_sets l E hM137_66) (x_gk hk137_65) (by decide) (by decide) rfl gv_X12_111 ⟨rfl, hd_X12_sets⟩ rfl rfl (Nat.le_of_ble_eq_true rfl) dX12_aDay_137 ⟨Nat.le_of_ble_eq_true rfl, Nat.le_of_ble_eq_true rfl⟩ ⟨Nat.le_of_ble_eq_true rfl, Nat.le_of_ble_eq_true rfl⟩ (fun H locs hW => ?_)
            refine lv_aload_n C.x C.b dX12_aDay_140 rfl (lv_at hl 2 rfl) ?_
            replace hf := x_b1 hf; obtain ⟨a141_67, ha141_67, hf⟩ := hf
            refine x_getn C hW fg_X12_9_15 ha141_67 dX12_aDay_141 ?_
            refine lv_iconst (v := 2) C.x C.b dX12_aDay_144 (by decide) ?_
            refine lv_iconst (v := (-1)) C.x C.b dX12_aDay_145 (by decide) ?_
            replace hf := x_b1 hf; obtain ⟨M146_68, hM146_68, hf⟩ := hf
            refine x_iast C hW hM146_68 dX12_aDay_146 (fun H locs hW => ?_)
            refine lv_aload_n C.x C.b dX12_aDay_147 rfl (lv_at hl 2 rfl) ?_
            replace hf := x_b1 hf; obtain ⟨a148_69, ha148_69, hf⟩ := hf
            refine x_getn C hW fg_X12_9_15 ha148_69 dX12_aDay_148 ?_
            refine lv_iconst (v := 3) C.x C.b dX12_aDay_151 (by decide) ?_
            refine lv_iconst (v := (-1)) C.x C.b dX12_aDay_152 (by decide) ?_
            replace hf := x_b1 hf; obtain ⟨M153_70, hM153_70, hf⟩ := hf
            refine x_iast C hW hM153_70 dX12_aDay_153 (fun H locs hW => ?_)
            refine lv_iconst (v := 1) C.x C.b dX12_aDay_154 (by decide) ?_
            rw [x_e1 hf, x_e2 hf]
            exact x_zret C hr hW (v := 1) (w := 1) rfl dX12_aDay_155
      · replace hf := x_ip c33 hf
        refine lv_iconst (v := 0) C.x C.b dX12_aDay_36 (by decide) ?_
        rw [x_e1 hf, x_e2 hf]
        exact x_zret C hr hW (v := 0) (w := 0) rfl dX12_aDay_37
    · replace hf := x_in c9 hf
      refine lv_aload_n C.x C.b dX12_aDay_12 rfl (lv_at hl 0 rfl) ?_
      refine lv_iload_n C.x C.b dX12_aDay_13 rfl (lv_at hl 1 rfl) ?_
      replace hf := x_b1 hf; obtain ⟨_, hk14_71, hf⟩ := hf
      replace hf := x_b1 hf; obtain ⟨x14_72, hx14_72, hf⟩ := hf
      refine x_callV (As := [.int v1]) (a := o) (rest := []) C hW hl (qX12_mateOf l E hx14_72) (x_gk hk14_71) (by decide) (by decide) rfl gv_X12_248 ⟨rfl, hd_X12_mateOf⟩ rfl rfl (Nat.le_of_ble_eq_true rfl) dX12_aDay_14 ⟨Nat.le_of_ble_eq_true rfl, Nat.le_of_ble_eq_true rfl⟩ ⟨Nat.le_of_ble_eq_true rfl, Nat.le_of_ble_eq_true rfl⟩ (fun H locs hW => ?_)
      refine lv_if_ge (tgt := 26) C.x C.b dX12_aDay_17 rfl (fun c17 => ?_) (fun c17 => ?_)
      · replace hf := x_ip c17 hf
        refine lv_iload_n C.x C.b dX12_aDay_26 rfl (lv_at hl 1 rfl) ?_
        refine lv_aload_n C.x C.b dX12_aDay_27 rfl (lv_at hl 0 rfl) ?_
        replace hf := x_b1 hf; obtain ⟨a28_73, ha28_73, hf⟩ := hf
        refine x_getn C hW fg_X12_9_15 ha28_73 dX12_aDay_28 ?_
        refine lv_iconst (v := 0) C.x C.b dX12_aDay_31 (by decide) ?_
        replace hf := x_b1 hf; obtain ⟨x32_74, hx32_74, hf⟩ := hf
        refine x_iald C hW hx32_74 dX12_aDay_32 ?_
        refine lv_icmp_ne (tgt := 38) C.x C.b dX12_aDay_33 rfl (fun c33 => ?_) (fun c33 => ?_)
        · replace hf := x_in c33 hf
          refine lv_aload_n C.x C.b dX12_aDay_38 rfl (lv_at hl 0 rfl) ?_
          refine lv_iload_n C.x C.b dX12_aDay_39 rfl (lv_at hl 1 rfl) ?_
          replace hf := x_b1 hf; obtain ⟨_, hk40_75, hf⟩ := hf
          replace hf := x_b1 hf; obtain ⟨x40_76, hx40_76, hf⟩ := hf
          refine x_callV (As := [.int v1]) (a := o) (rest := []) C hW hl (qX12_mateOf l E hx40_76) (x_gk hk40_75) (by decide) (by decide) rfl gv_X12_248 ⟨rfl, hd_X12_mateOf⟩ rfl rfl (Nat.le_of_ble_eq_true rfl) dX12_aDay_40 ⟨Nat.le_of_ble_eq_true rfl, Nat.le_of_ble_eq_true rfl⟩ ⟨Nat.le_of_ble_eq_true rfl, Nat.le_of_ble_eq_true rfl⟩ (fun H locs hW => ?_)
          refine lv_istore_n (lv' := [(2, .int _), (0, .ref (E.b + _)), (1, .int _)]) C.x C.b dX12_aDay_43 rfl hl (by decide) rfl (fun ls hl => ?_)
          refine lv_aload_n C.x C.b dX12_aDay_44 rfl (lv_at hl 1 rfl) ?_
          replace hf := x_b1 hf; obtain ⟨a45_77, ha45_77, hf⟩ := hf
          refine x_getn C hW fg_X12_9_15 ha45_77 dX12_aDay_45 ?_
          refine lv_iconst (v := 2) C.x C.b dX12_aDay_48 (by decide) ?_
          refine lv_iload_n C.x C.b dX12_aDay_49 rfl (lv_at hl 2 rfl) ?_
          replace hf := x_b1 hf; obtain ⟨M50_78, hM50_78, hf⟩ := hf
          refine x_iast C hW hM50_78 dX12_aDay_50 (fun H locs hW => ?_)
          refine lv_aload_n C.x C.b dX12_aDay_51 rfl (lv_at hl 1 rfl) ?_
          replace hf := x_b1 hf; obtain ⟨a52_79, ha52_79, hf⟩ := hf
          refine x_getn C hW fg_X12_9_15 ha52_79 dX12_aDay_52 ?_
          refine lv_iconst (v := 3) C.x C.b dX12_aDay_55 (by decide) ?_
          refine lv_iload_n C.x C.b dX12_aDay_56 rfl (lv_at hl 0 rfl) ?_
          replace hf := x_b1 hf; obtain ⟨M57_80, hM57_80, hf⟩ := hf
          refine x_iast C hW hM57_80 dX12_aDay_57 (fun H locs hW => ?_)
          refine lv_aload_n C.x C.b dX12_aDay_58 rfl (lv_at hl 1 rfl) ?_
          replace hf := x_b1 hf; obtain ⟨_, hk59_81, hf⟩ := hf
          replace hf := x_b2 hf; obtain ⟨x59_82, M59_83, hx59_82, hf⟩ := hf
          refine x_callV (As := []) (a := o) (rest := []) C hW hl (qX12_draw l E hx59_82) (x_gk hk59_81) (by decide) (by decide) rfl gv_X12_271 ⟨rfl, hd_X12_draw⟩ rfl rfl (Nat.le_of_ble_eq_true rfl) dX12_aDay_59 ⟨Nat.le_of_ble_eq_true rfl, Nat.le_of_ble_eq_true rfl⟩ ⟨Nat.le_of_ble_eq_true rfl, Nat.le_of_ble_eq_true rfl⟩ (fun H locs hW => ?_)
          refine lv_bipush (v := 10) C.x C.b dX12_aDay_62 (by decide) ?_
          refine lv_irem C.x C.b dX12_aDay_64 (by decide) ?_
          refine lv_aload_n C.x C.b dX12_aDay_65 rfl (lv_at hl 1 rfl) ?_
          replace hf := x_b1 hf; obtain ⟨a66_84, ha66_84, hf⟩ := hf
          refine x_getn C hW fg_X12_9_15 ha66_84 dX12_aDay_66 ?_
          refine lv_bipush (v := 11) C.x C.b dX12_aDay_69 (by decide) ?_
          replace hf := x_b1 hf; obtain ⟨x71_85, hx71_85, hf⟩ := hf
          refine x_iald C hW hx71_85 dX12_aDay_71 ?_
          refine lv_icmp_ge (tgt := 99) C.x C.b dX12_aDay_72 rfl (fun c72 => ?_) (fun c72 => ?_)
          · replace hf := x_ip c72 hf
            refine lv_aload_n C.x C.b dX12_aDay_99 rfl (lv_at hl 1 rfl) ?_
            refine lv_iconst (v := 0) C.x C.b dX12_aDay_100 (by decide) ?_
            refine lv_iconst (v := 0) C.x C.b dX12_aDay_101 (by decide) ?_
            refine lv_aload_n C.x C.b dX12_aDay_102 rfl (lv_at hl 1 rfl) ?_
            replace hf := x_b1 hf; obtain ⟨a103_86, ha103_86, hf⟩ := hf
            refine x_getn C hW fg_X12_9_15 ha103_86 dX12_aDay_103 ?_
            refine lv_bipush (v := 12) C.x C.b dX12_aDay_106 (by decide) ?_
            replace hf := x_b1 hf; obtain ⟨x108_87, hx108_87, hf⟩ := hf
            refine x_iald C hW hx108_87 dX12_aDay_108 ?_
            replace hf := x_b1 hf; obtain ⟨_, hk109_88, hf⟩ := hf
            replace hf := x_b1 hf; obtain ⟨M109_89, hM109_89, hf⟩ := hf
            refine x_callV (As := [.int 0, .int 0, .int x108_87]) (a := o) (rest := []) C hW hl (qX12_walks l E hM109_89) (x_gk hk109_88) (by decide) (by decide) rfl gv_X12_199 ⟨rfl, hd_X12_walks⟩ rfl rfl (Nat.le_of_ble_eq_true rfl) dX12_aDay_109 ⟨Nat.le_of_ble_eq_true rfl, Nat.le_of_ble_eq_true rfl⟩ ⟨Nat.le_of_ble_eq_true rfl, Nat.le_of_ble_eq_true rfl⟩ (fun H locs hW => ?_)
            refine lv_aload_n C.x C.b dX12_aDay_112 rfl (lv_at hl 1 rfl) ?_
            refine lv_iload_n C.x C.b dX12_aDay_113 rfl (lv_at hl 2 rfl) ?_
            refine lv_iconst (v := 4) C.x C.b dX12_aDay_114 (by decide) ?_
            refine lv_aload_n C.x C.b dX12_aDay_115 rfl (lv_at hl 1 rfl) ?_
            refine lv_iload_n C.x C.b dX12_aDay_116 rfl (lv_at hl 2 rfl) ?_
            refine lv_iconst (v := 4) C.x C.b dX12_aDay_117 (by decide) ?_
            replace hf := x_b1 hf; obtain ⟨_, hk118_90, hf⟩ := hf
            replace hf := x_b1 hf; obtain ⟨x118_91, hx118_91, hf⟩ := hf
            refine x_callV (As := [.int v1, .int 4]) (a := o) (rest := [.int 4, .int v1, .ref (E.b + o)]) C hW hl (qX12_its l E hx118_91) (x_gk hk118_90) (by decide) (by decide) rfl gv_X12_67 ⟨rfl, hd_X12_its⟩ rfl rfl (Nat.le_of_ble_eq_true rfl) dX12_aDay_118 ⟨Nat.le_of_ble_eq_true rfl, Nat.le_of_ble_eq_true rfl⟩ ⟨Nat.le_of_ble_eq_true rfl, Nat.le_of_ble_eq_true rfl⟩ (fun H locs hW => ?_)
            refine lv_iconst (v := 1) C.x C.b dX12_aDay_121 (by decide) ?_
            refine lv_iadd C.x C.b dX12_aDay_122 ?_
            replace hf := x_b1 hf; obtain ⟨_, hk123_92, hf⟩ := hf
            replace hf := x_b1 hf; obtain ⟨M123_93, hM123_93, hf⟩ := hf
            refine x_callV (As := [.int v1, .int 4, .int (x118_91 + 1)]) (a := o) (rest := []) C hW hl (qX12_sets l E hM123_93) (x_gk hk123_92) (by decide) (by decide) rfl gv_X12_111 ⟨rfl, hd_X12_sets⟩ rfl rfl (Nat.le_of_ble_eq_true rfl) dX12_aDay_123 ⟨Nat.le_of_ble_eq_true rfl, Nat.le_of_ble_eq_true rfl⟩ ⟨Nat.le_of_ble_eq_true rfl, Nat.le_of_ble_eq_true rfl⟩ (fun H locs hW => ?_)
            refine lv_aload_n C.x C.b dX12_aDay_126 rfl (lv_at hl 1 rfl) ?_
            refine lv_iload_n C.x C.b dX12_aDay_127 rfl (lv_at hl 0 rfl) ?_
            refine lv_iconst (v := 4) C.x C.b dX12_aDay_128 (by decide) ?_
            refine lv_aload_n C.x C.b dX12_aDay_129 rfl (lv_at hl 1 rfl) ?_
            refine lv_iload_n C.x C.b dX12_aDay_130 rfl (lv_at hl 0 rfl) ?_
            refine lv_iconst (v := 4) C.x C.b dX12_aDay_131 (by decide) ?_
            replace hf := x_b1 hf; obtain ⟨_, hk132_94, hf⟩ := hf
            replace hf := x_b1 hf; obtain ⟨x132_95, hx132_95, hf⟩ := hf
            refine x_callV (As := [.int x40_76, .int 4]) (a := o) (rest := [.int 4, .int x40_76, .ref (E.b + o)]) C hW hl (qX12_its l E hx132_95) (x_gk hk132_94) (by decide) (by decide) rfl gv_X12_67 ⟨rfl, hd_X12_its⟩ rfl rfl (Nat.le_of_ble_eq_true rfl) dX12_aDay_132 ⟨Nat.le_of_ble_eq_true rfl, Nat.le_of_ble_eq_true rfl⟩ ⟨Nat.le_of_ble_eq_true rfl, Nat.le_of_ble_eq_true rfl⟩ (fun H locs hW => ?_)
            refine lv_iconst (v := 1) C.x C.b dX12_aDay_135 (by decide) ?_
            refine lv_iadd C.x C.b dX12_aDay_136 ?_
            replace hf := x_b1 hf; obtain ⟨_, hk137_96, hf⟩ := hf
            replace hf := x_b1 hf; obtain ⟨M137_97, hM137_97, hf⟩ := hf
            refine x_callV (As := [.int x40_76, .int 4, .int (x132_95 + 1)]) (a := o) (rest := []) C hW hl (qX12_sets l E hM137_97) (x_gk hk137_96) (by decide) (by decide) rfl gv_X12_111 ⟨rfl, hd_X12_sets⟩ rfl rfl (Nat.le_of_ble_eq_true rfl) dX12_aDay_137 ⟨Nat.le_of_ble_eq_true rfl, Nat.le_of_ble_eq_true rfl⟩ ⟨Nat.le_of_ble_eq_true rfl, Nat.le_of_ble_eq_true rfl⟩ (fun H locs hW => ?_)
            refine lv_aload_n C.x C.b dX12_aDay_140 rfl (lv_at hl 1 rfl) ?_
            replace hf := x_b1 hf; obtain ⟨a141_98, ha141_98, hf⟩ := hf
            refine x_getn C hW fg_X12_9_15 ha141_98 dX12_aDay_141 ?_
            refine lv_iconst (v := 2) C.x C.b dX12_aDay_144 (by decide) ?_
            refine lv_iconst (v := (-1)) C.x C.b dX12_aDay_145 (by decide) ?_
            replace hf := x_b1 hf; obtain ⟨M146_99, hM146_99, hf⟩ := hf
            refine x_iast C hW hM146_99 dX12_aDay_146 (fun H locs hW => ?_)
            refine lv_aload_n C.x C.b dX12_aDay_147 rfl (lv_at hl 1 rfl) ?_
            replace hf := x_b1 hf; obtain ⟨a148_100, ha148_100, hf⟩ := hf
            refine x_getn C hW fg_X12_9_15 ha148_100 dX12_aDay_148 ?_
            refine lv_iconst (v := 3) C.x C.b dX12_aDay_151 (by decide) ?_
            refine lv_iconst (v := (-1)) C.x C.b dX12_aDay_152 (by decide) ?_
            replace hf := x_b1 hf; obtain ⟨M153_101, hM153_101, hf⟩ := hf
            refine x_iast C hW hM153_101 dX12_aDay_153 (fun H locs hW => ?_)
            refine lv_iconst (v := 1) C.x C.b dX12_aDay_154 (by decide) ?_
            rw [x_e1 hf, x_e2 hf]
            exact x_zret C hr hW (v := 1) (w := 1) rfl dX12_aDay_155
          · replace hf := x_in c72 hf
            refine lv_aload_n C.x C.b dX12_aDay_75 rfl (lv_at hl 1 rfl) ?_
            replace hf := x_b1 hf; obtain ⟨_, hk76_102, hf⟩ := hf
            replace hf := x_b2 hf; obtain ⟨x76_103, M76_104, hx76_103, hf⟩ := hf
            refine x_callV (As := []) (a := o) (rest := []) C hW hl (qX12_draw l E hx76_103) (x_gk hk76_102) (by decide) (by decide) rfl gv_X12_271 ⟨rfl, hd_X12_draw⟩ rfl rfl (Nat.le_of_ble_eq_true rfl) dX12_aDay_76 ⟨Nat.le_of_ble_eq_true rfl, Nat.le_of_ble_eq_true rfl⟩ ⟨Nat.le_of_ble_eq_true rfl, Nat.le_of_ble_eq_true rfl⟩ (fun H locs hW => ?_)
            refine lv_bipush (v := 100) C.x C.b dX12_aDay_79 (by decide) ?_
            refine lv_irem C.x C.b dX12_aDay_81 (by decide) ?_
            refine lv_istore_n (lv' := [(3, .int _), (2, .int _), (0, .ref (E.b + _)), (1, .int _)]) C.x C.b dX12_aDay_82 rfl hl (by decide) rfl (fun ls hl => ?_)
            refine lv_aload_n C.x C.b dX12_aDay_83 rfl (lv_at hl 2 rfl) ?_
            refine lv_iload_n C.x C.b dX12_aDay_84 rfl (lv_at hl 3 rfl) ?_
            refine lv_iload_n C.x C.b dX12_aDay_85 rfl (lv_at hl 0 rfl) ?_
            replace hf := x_b1 hf; obtain ⟨_, hk86_105, hf⟩ := hf
            replace hf := x_b1 hf; obtain ⟨x86_106, hx86_106, hf⟩ := hf
            refine x_callV (As := [.int v1, .int (x76_103 - x76_103 / 100 * 100)]) (a := o) (rest := []) C hW hl (qX12_maySnag l E hx86_106) (x_gk hk86_105) (by decide) (by decide) rfl gv_X12_121 ⟨rfl, hd_X12_maySnag⟩ rfl rfl (Nat.le_of_ble_eq_true rfl) dX12_aDay_86 ⟨Nat.le_of_ble_eq_true rfl, Nat.le_of_ble_eq_true rfl⟩ ⟨Nat.le_of_ble_eq_true rfl, Nat.le_of_ble_eq_true rfl⟩ (fun H locs hW => ?_)
            refine lv_if_eq (tgt := 99) C.x C.b dX12_aDay_89 rfl (fun c89 => ?_) (fun c89 => ?_)
            · replace hf := x_ip c89 hf
              refine lv_aload_n C.x C.b dX12_aDay_99 rfl (lv_at hl 2 rfl) ?_
              refine lv_iconst (v := 0) C.x C.b dX12_aDay_100 (by decide) ?_
              refine lv_iconst (v := 0) C.x C.b dX12_aDay_101 (by decide) ?_
              refine lv_aload_n C.x C.b dX12_aDay_102 rfl (lv_at hl 2 rfl) ?_
              replace hf := x_b1 hf; obtain ⟨a103_107, ha103_107, hf⟩ := hf
              refine x_getn C hW fg_X12_9_15 ha103_107 dX12_aDay_103 ?_
              refine lv_bipush (v := 12) C.x C.b dX12_aDay_106 (by decide) ?_
              replace hf := x_b1 hf; obtain ⟨x108_108, hx108_108, hf⟩ := hf
              refine x_iald C hW hx108_108 dX12_aDay_108 ?_
              replace hf := x_b1 hf; obtain ⟨_, hk109_109, hf⟩ := hf
              replace hf := x_b1 hf; obtain ⟨M109_110, hM109_110, hf⟩ := hf
              refine x_callV (As := [.int 0, .int 0, .int x108_108]) (a := o) (rest := []) C hW hl (qX12_walks l E hM109_110) (x_gk hk109_109) (by decide) (by decide) rfl gv_X12_199 ⟨rfl, hd_X12_walks⟩ rfl rfl (Nat.le_of_ble_eq_true rfl) dX12_aDay_109 ⟨Nat.le_of_ble_eq_true rfl, Nat.le_of_ble_eq_true rfl⟩ ⟨Nat.le_of_ble_eq_true rfl, Nat.le_of_ble_eq_true rfl⟩ (fun H locs hW => ?_)
              refine lv_aload_n C.x C.b dX12_aDay_112 rfl (lv_at hl 2 rfl) ?_
              refine lv_iload_n C.x C.b dX12_aDay_113 rfl (lv_at hl 3 rfl) ?_
              refine lv_iconst (v := 4) C.x C.b dX12_aDay_114 (by decide) ?_
              refine lv_aload_n C.x C.b dX12_aDay_115 rfl (lv_at hl 2 rfl) ?_
              refine lv_iload_n C.x C.b dX12_aDay_116 rfl (lv_at hl 3 rfl) ?_
              refine lv_iconst (v := 4) C.x C.b dX12_aDay_117 (by decide) ?_
              replace hf := x_b1 hf; obtain ⟨_, hk118_111, hf⟩ := hf
              replace hf := x_b1 hf; obtain ⟨x118_112, hx118_112, hf⟩ := hf
              refine x_callV (As := [.int v1, .int 4]) (a := o) (rest := [.int 4, .int v1, .ref (E.b + o)]) C hW hl (qX12_its l E hx118_112) (x_gk hk118_111) (by decide) (by decide) rfl gv_X12_67 ⟨rfl, hd_X12_its⟩ rfl rfl (Nat.le_of_ble_eq_true rfl) dX12_aDay_118 ⟨Nat.le_of_ble_eq_true rfl, Nat.le_of_ble_eq_true rfl⟩ ⟨Nat.le_of_ble_eq_true rfl, Nat.le_of_ble_eq_true rfl⟩ (fun H locs hW => ?_)
              refine lv_iconst (v := 1) C.x C.b dX12_aDay_121 (by decide) ?_
              refine lv_iadd C.x C.b dX12_aDay_122 ?_
              replace hf := x_b1 hf; obtain ⟨_, hk123_113, hf⟩ := hf
              replace hf := x_b1 hf; obtain ⟨M123_114, hM123_114, hf⟩ := hf
              refine x_callV (As := [.int v1, .int 4, .int (x118_112 + 1)]) (a := o) (rest := []) C hW hl (qX12_sets l E hM123_114) (x_gk hk123_113) (by decide) (by decide) rfl gv_X12_111 ⟨rfl, hd_X12_sets⟩ rfl rfl (Nat.le_of_ble_eq_true rfl) dX12_aDay_123 ⟨Nat.le_of_ble_eq_true rfl, Nat.le_of_ble_eq_true rfl⟩ ⟨Nat.le_of_ble_eq_true rfl, Nat.le_of_ble_eq_true rfl⟩ (fun H locs hW => ?_)
              refine lv_aload_n C.x C.b dX12_aDay_126 rfl (lv_at hl 2 rfl) ?_
              refine lv_iload_n C.x C.b dX12_aDay_127 rfl (lv_at hl 1 rfl) ?_
              refine lv_iconst (v := 4) C.x C.b dX12_aDay_128 (by decide) ?_
              refine lv_aload_n C.x C.b dX12_aDay_129 rfl (lv_at hl 2 rfl) ?_
              refine lv_iload_n C.x C.b dX12_aDay_130 rfl (lv_at hl 1 rfl) ?_
              refine lv_iconst (v := 4) C.x C.b dX12_aDay_131 (by decide) ?_
              replace hf := x_b1 hf; obtain ⟨_, hk132_115, hf⟩ := hf
              replace hf := x_b1 hf; obtain ⟨x132_116, hx132_116, hf⟩ := hf
              refine x_callV (As := [.int x40_76, .int 4]) (a := o) (rest := [.int 4, .int x40_76, .ref (E.b + o)]) C hW hl (qX12_its l E hx132_116) (x_gk hk132_115) (by decide) (by decide) rfl gv_X12_67 ⟨rfl, hd_X12_its⟩ rfl rfl (Nat.le_of_ble_eq_true rfl) dX12_aDay_132 ⟨Nat.le_of_ble_eq_true rfl, Nat.le_of_ble_eq_true rfl⟩ ⟨Nat.le_of_ble_eq_true rfl, Nat.le_of_ble_eq_true rfl⟩ (fun H locs hW => ?_)
              refine lv_iconst (v := 1) C.x C.b dX12_aDay_135 (by decide) ?_
              refine lv_iadd C.x C.b dX12_aDay_136 ?_
              replace hf := x_b1 hf; obtain ⟨_, hk137_117, hf⟩ := hf
              replace hf := x_b1 hf; obtain ⟨M137_118, hM137_118, hf⟩ := hf
              refine x_callV (As := [.int x40_76, .int 4, .int (x132_116 + 1)]) (a := o) (rest := []) C hW hl (qX12_sets l E hM137_118) (x_gk hk137_117) (by decide) (by decide) rfl gv_X12_111 ⟨rfl, hd_X12_sets⟩ rfl rfl (Nat.le_of_ble_eq_true rfl) dX12_aDay_137 ⟨Nat.le_of_ble_eq_true rfl, Nat.le_of_ble_eq_true rfl⟩ ⟨Nat.le_of_ble_eq_true rfl, Nat.le_of_ble_eq_true rfl⟩ (fun H locs hW => ?_)
              refine lv_aload_n C.x C.b dX12_aDay_140 rfl (lv_at hl 2 rfl) ?_
              replace hf := x_b1 hf; obtain ⟨a141_119, ha141_119, hf⟩ := hf
              refine x_getn C hW fg_X12_9_15 ha141_119 dX12_aDay_141 ?_
              refine lv_iconst (v := 2) C.x C.b dX12_aDay_144 (by decide) ?_
              refine lv_iconst (v := (-1)) C.x C.b dX12_aDay_145 (by decide) ?_
              replace hf := x_b1 hf; obtain ⟨M146_120, hM146_120, hf⟩ := hf
              refine x_iast C hW hM146_120 dX12_aDay_146 (fun H locs hW => ?_)
              refine lv_aload_n C.x C.b dX12_aDay_147 rfl (lv_at hl 2 rfl) ?_
              replace hf := x_b1 hf; obtain ⟨a148_121, ha148_121, hf⟩ := hf
              refine x_getn C hW fg_X12_9_15 ha148_121 dX12_aDay_148 ?_
              refine lv_iconst (v := 3) C.x C.b dX12_aDay_151 (by decide) ?_
              refine lv_iconst (v := (-1)) C.x C.b dX12_aDay_152 (by decide) ?_
              replace hf := x_b1 hf; obtain ⟨M153_122, hM153_122, hf⟩ := hf
              refine x_iast C hW hM153_122 dX12_aDay_153 (fun H locs hW => ?_)
              refine lv_iconst (v := 1) C.x C.b dX12_aDay_154 (by decide) ?_
              rw [x_e1 hf, x_e2 hf]
              exact x_zret C hr hW (v := 1) (w := 1) rfl dX12_aDay_155
            · replace hf := x_in c89 hf
              refine lv_aload_n C.x C.b dX12_aDay_92 rfl (lv_at hl 2 rfl) ?_
              refine lv_iload_n C.x C.b dX12_aDay_93 rfl (lv_at hl 3 rfl) ?_
              refine lv_iload_n C.x C.b dX12_aDay_94 rfl (lv_at hl 0 rfl) ?_
              refine lv_iload_n C.x C.b dX12_aDay_95 rfl (lv_at hl 0 rfl) ?_
              replace hf := x_b1 hf; obtain ⟨_, hk96_123, hf⟩ := hf
              replace hf := x_b1 hf; obtain ⟨M96_124, hM96_124, hf⟩ := hf
              refine x_callV (As := [.int v1, .int (x76_103 - x76_103 / 100 * 100), .int (x76_103 - x76_103 / 100 * 100)]) (a := o) (rest := []) C hW hl (qX12_ladder l E hM96_124) (x_gk hk96_123) (by decide) (by decide) rfl gv_X12_124 ⟨rfl, hd_X12_ladder⟩ rfl rfl (Nat.le_of_ble_eq_true rfl) dX12_aDay_96 ⟨Nat.le_of_ble_eq_true rfl, Nat.le_of_ble_eq_true rfl⟩ ⟨Nat.le_of_ble_eq_true rfl, Nat.le_of_ble_eq_true rfl⟩ (fun H locs hW => ?_)
              refine lv_aload_n C.x C.b dX12_aDay_99 rfl (lv_at hl 2 rfl) ?_
              refine lv_iconst (v := 0) C.x C.b dX12_aDay_100 (by decide) ?_
              refine lv_iconst (v := 0) C.x C.b dX12_aDay_101 (by decide) ?_
              refine lv_aload_n C.x C.b dX12_aDay_102 rfl (lv_at hl 2 rfl) ?_
              replace hf := x_b1 hf; obtain ⟨a103_125, ha103_125, hf⟩ := hf
              refine x_getn C hW fg_X12_9_15 ha103_125 dX12_aDay_103 ?_
              refine lv_bipush (v := 12) C.x C.b dX12_aDay_106 (by decide) ?_
              replace hf := x_b1 hf; obtain ⟨x108_126, hx108_126, hf⟩ := hf
              refine x_iald C hW hx108_126 dX12_aDay_108 ?_
              replace hf := x_b1 hf; obtain ⟨_, hk109_127, hf⟩ := hf
              replace hf := x_b1 hf; obtain ⟨M109_128, hM109_128, hf⟩ := hf
              refine x_callV (As := [.int 0, .int 0, .int x108_126]) (a := o) (rest := []) C hW hl (qX12_walks l E hM109_128) (x_gk hk109_127) (by decide) (by decide) rfl gv_X12_199 ⟨rfl, hd_X12_walks⟩ rfl rfl (Nat.le_of_ble_eq_true rfl) dX12_aDay_109 ⟨Nat.le_of_ble_eq_true rfl, Nat.le_of_ble_eq_true rfl⟩ ⟨Nat.le_of_ble_eq_true rfl, Nat.le_of_ble_eq_true rfl⟩ (fun H locs hW => ?_)
              refine lv_aload_n C.x C.b dX12_aDay_112 rfl (lv_at hl 2 rfl) ?_
              refine lv_iload_n C.x C.b dX12_aDay_113 rfl (lv_at hl 3 rfl) ?_
              refine lv_iconst (v := 4) C.x C.b dX12_aDay_114 (by decide) ?_
              refine lv_aload_n C.x C.b dX12_aDay_115 rfl (lv_at hl 2 rfl) ?_
              refine lv_iload_n C.x C.b dX12_aDay_116 rfl (lv_at hl 3 rfl) ?_
              refine lv_iconst (v := 4) C.x C.b dX12_aDay_117 (by decide) ?_
              replace hf := x_b1 hf; obtain ⟨_, hk118_129, hf⟩ := hf
              replace hf := x_b1 hf; obtain ⟨x118_130, hx118_130, hf⟩ := hf
              refine x_callV (As := [.int v1, .int 4]) (a := o) (rest := [.int 4, .int v1, .ref (E.b + o)]) C hW hl (qX12_its l E hx118_130) (x_gk hk118_129) (by decide) (by decide) rfl gv_X12_67 ⟨rfl, hd_X12_its⟩ rfl rfl (Nat.le_of_ble_eq_true rfl) dX12_aDay_118 ⟨Nat.le_of_ble_eq_true rfl, Nat.le_of_ble_eq_true rfl⟩ ⟨Nat.le_of_ble_eq_true rfl, Nat.le_of_ble_eq_true rfl⟩ (fun H locs hW => ?_)
              refine lv_iconst (v := 1) C.x C.b dX12_aDay_121 (by decide) ?_
              refine lv_iadd C.x C.b dX12_aDay_122 ?_
              replace hf := x_b1 hf; obtain ⟨_, hk123_131, hf⟩ := hf
              replace hf := x_b1 hf; obtain ⟨M123_132, hM123_132, hf⟩ := hf
              refine x_callV (As := [.int v1, .int 4, .int (x118_130 + 1)]) (a := o) (rest := []) C hW hl (qX12_sets l E hM123_132) (x_gk hk123_131) (by decide) (by decide) rfl gv_X12_111 ⟨rfl, hd_X12_sets⟩ rfl rfl (Nat.le_of_ble_eq_true rfl) dX12_aDay_123 ⟨Nat.le_of_ble_eq_true rfl, Nat.le_of_ble_eq_true rfl⟩ ⟨Nat.le_of_ble_eq_true rfl, Nat.le_of_ble_eq_true rfl⟩ (fun H locs hW => ?_)
              refine lv_aload_n C.x C.b dX12_aDay_126 rfl (lv_at hl 2 rfl) ?_
              refine lv_iload_n C.x C.b dX12_aDay_127 rfl (lv_at hl 1 rfl) ?_
              refine lv_iconst (v := 4) C.x C.b dX12_aDay_128 (by decide) ?_
              refine lv_aload_n C.x C.b dX12_aDay_129 rfl (lv_at hl 2 rfl) ?_
              refine lv_iload_n C.x C.b dX12_aDay_130 rfl (lv_at hl 1 rfl) ?_
              refine lv_iconst (v := 4) C.x C.b dX12_aDay_131 (by decide) ?_
              replace hf := x_b1 hf; obtain ⟨_, hk132_133, hf⟩ := hf
              replace hf := x_b1 hf; obtain ⟨x132_134, hx132_134, hf⟩ := hf
              refine x_callV (As := [.int x40_76, .int 4]) (a := o) (rest := [.int 4, .int x40_76, .ref (E.b + o)]) C hW hl (qX12_its l E hx132_134) (x_gk hk132_133) (by decide) (by decide) rfl gv_X12_67 ⟨rfl, hd_X12_its⟩ rfl rfl (Nat.le_of_ble_eq_true rfl) dX12_aDay_132 ⟨Nat.le_of_ble_eq_true rfl, Nat.le_of_ble_eq_true rfl⟩ ⟨Nat.le_of_ble_eq_true rfl, Nat.le_of_ble_eq_true rfl⟩ (fun H locs hW => ?_)
              refine lv_iconst (v := 1) C.x C.b dX12_aDay_135 (by decide) ?_
              refine lv_iadd C.x C.b dX12_aDay_136 ?_
              replace hf := x_b1 hf; obtain ⟨_, hk137_135, hf⟩ := hf
              replace hf := x_b1 hf; obtain ⟨M137_136, hM137_136, hf⟩ := hf
              refine x_callV (As := [.int x40_76, .int 4, .int (x132_134 + 1)]) (a := o) (rest := []) C hW hl (qX12_sets l E hM137_136) (x_gk hk137_135) (by decide) (by decide) rfl gv_X12_111 ⟨rfl, hd_X12_sets⟩ rfl rfl (Nat.le_of_ble_eq_true rfl) dX12_aDay_137 ⟨Nat.le_of_ble_eq_true rfl, Nat.le_of_ble_eq_true rfl⟩ ⟨Nat.le_of_ble_eq_true rfl, Nat.le_of_ble_eq_true rfl⟩ (fun H locs hW => ?_)
              refine lv_aload_n C.x C.b dX12_aDay_140 rfl (lv_at hl 2 rfl) ?_
              replace hf := x_b1 hf; obtain ⟨a141_137, ha141_137, hf⟩ := hf
              refine x_getn C hW fg_X12_9_15 ha141_137 dX12_aDay_141 ?_
              refine lv_iconst (v := 2) C.x C.b dX12_aDay_144 (by decide) ?_
              refine lv_iconst (v := (-1)) C.x C.b dX12_aDay_145 (by decide) ?_
              replace hf := x_b1 hf; obtain ⟨M146_138, hM146_138, hf⟩ := hf
              refine x_iast C hW hM146_138 dX12_aDay_146 (fun H locs hW => ?_)
              refine lv_aload_n C.x C.b dX12_aDay_147 rfl (lv_at hl 2 rfl) ?_
              replace hf := x_b1 hf; obtain ⟨a148_139, ha148_139, hf⟩ := hf
              refine x_getn C hW fg_X12_9_15 ha148_139 dX12_aDay_148 ?_
              refine lv_iconst (v := 3) C.x C.b dX12_aDay_151 (by decide) ?_
              refine lv_iconst (v := (-1)) C.x C.b dX12_aDay_152 (by decide) ?_
              replace hf := x_b1 hf; obtain ⟨M153_140, hM153_140, hf⟩ := hf
              refine x_iast C hW hM153_140 dX12_aDay_153 (fun H locs hW => ?_)
              refine lv_iconst (v := 1) C.x C.b dX12_aDay_154 (by decide) ?_
              rw [x_e1 hf, x_e2 hf]
              exact x_zret C hr hW (v := 1) (w := 1) rfl dX12_aDay_155
        · replace hf := x_ip c33 hf
          refine lv_iconst (v := 0) C.x C.b dX12_aDay_36 (by decide) ?_
          rw [x_e1 hf, x_e2 hf]
          exact x_zret C hr hW (v := 0) (w := 0) rfl dX12_aDay_37
      · replace hf := x_in c17 hf
        refine lv_iinc (v := (v1 + 1)) (lv' := [(1, .int (v1 + 1)), (0, .ref (E.b + _))]) C.x C.b dX12_aDay_20 hl (k := 1) rfl (by first | rfl | decide) (by decide) rfl (fun ls hl => ?_)
        refine lv_goto (tgt := 2) C.x C.b dX12_aDay_23 rfl ?_
        exact ih (v1 + 1) M hf _ _ _ hW (lv_sub hl [1, 0] rfl)
set_option maxRecDepth 100000 in
set_option maxHeartbeats 4000000 in
theorem qX12_aDay (l : Launch) (E : Ev) {M : Mm} {o : Nat} {rz : Int32} {Mz : Mm} (hf : fX12_aDay M o = some (rz, Mz)) : Ct l E yX12_aDay cX12_aDay 4 (some .boolean) 7 168 0 0 [.ref (E.b + o)] M (some (.int rz)) Mz := by
  refine ct_of (by decide +kernel) (Nat.le_of_ble_eq_true rfl) fun p e s m args below meth c C hr hin hW ls hl => ?_
  have hl : lv_has ls 4 [(0, .ref (E.b + o))] := hl
  unfold fX12_aDay at hf
  refine lv_iconst (v := 0) C.x C.b dX12_aDay_0 (by decide) ?_
  refine lv_istore_n (lv' := [(1, .int _), (0, .ref (E.b + _))]) C.x C.b dX12_aDay_1 rfl hl (by decide) rfl (fun ls hl => ?_)
  exact kX12_aDay_L2 C hr hin FL 0 M hf _ _ _ hW (lv_sub hl [1, 0] rfl)

theorem dX12_seed_0 : decode cX12_seed 0 = .ok (.aload_n 0, 1) := by decide +kernel
theorem dX12_seed_1 : decode cX12_seed 1 = .ok (.getfield 9, 3) := by decide +kernel
theorem dX12_seed_4 : decode cX12_seed 4 = .ok (.iconst 1, 1) := by decide +kernel
theorem dX12_seed_5 : decode cX12_seed 5 = .ok (.iaload, 1) := by decide +kernel
theorem dX12_seed_6 : decode cX12_seed 6 = .ok (.istore_n 2, 1) := by decide +kernel
theorem dX12_seed_7 : decode cX12_seed 7 = .ok (.aload_n 0, 1) := by decide +kernel
theorem dX12_seed_8 : decode cX12_seed 8 = .ok (.getfield 9, 3) := by decide +kernel
theorem dX12_seed_11 : decode cX12_seed 11 = .ok (.iconst 1, 1) := by decide +kernel
theorem dX12_seed_12 : decode cX12_seed 12 = .ok (.iload_n 1, 1) := by decide +kernel
theorem dX12_seed_13 : decode cX12_seed 13 = .ok (.iastore, 1) := by decide +kernel
theorem dX12_seed_14 : decode cX12_seed 14 = .ok (.iload_n 2, 1) := by decide +kernel
theorem dX12_seed_15 : decode cX12_seed 15 = .ok (.ireturn, 1) := by decide +kernel
def fX12_seed (M : Mm) (o : Nat) (p1 : Int32) : Option (Int32 × Mm) :=
  B1 (rdN M o 15 0) fun a1_1 =>
  B1 (alI M a1_1 1) fun x5_2 =>
  B1 (rdN M o 15 0) fun a8_3 =>
  B1 (asI M a8_3 1 p1) fun M13_4 =>
  some (x5_2, M13_4)
set_option maxRecDepth 100000 in
set_option maxHeartbeats 4000000 in
theorem qX12_seed (l : Launch) (E : Ev) {M : Mm} {o : Nat} {p1 : Int32} {rz : Int32} {Mz : Mm} (hf : fX12_seed M o p1 = some (rz, Mz)) : Ct l E yX12_seed cX12_seed 3 (some .int) 0 0 0 0 [.ref (E.b + o), .int p1] M (some (.int rz)) Mz := by
  refine ct_of (by decide +kernel) (Nat.le_of_ble_eq_true rfl) fun p e s m args below meth c C hr hin hW ls hl => ?_
  have hl : lv_has ls 3 [(0, .ref (E.b + o)), (1, .int p1)] := hl
  unfold fX12_seed at hf
  refine lv_aload_n C.x C.b dX12_seed_0 rfl (lv_at hl 0 rfl) ?_
  replace hf := x_b1 hf; obtain ⟨a1_1, ha1_1, hf⟩ := hf
  refine x_getn C hW fg_X12_9_15 ha1_1 dX12_seed_1 ?_
  refine lv_iconst (v := 1) C.x C.b dX12_seed_4 (by decide) ?_
  replace hf := x_b1 hf; obtain ⟨x5_2, hx5_2, hf⟩ := hf
  refine x_iald C hW hx5_2 dX12_seed_5 ?_
  refine lv_istore_n (lv' := [(2, .int _), (0, .ref (E.b + _)), (1, .int _)]) C.x C.b dX12_seed_6 rfl hl (by decide) rfl (fun ls hl => ?_)
  refine lv_aload_n C.x C.b dX12_seed_7 rfl (lv_at hl 1 rfl) ?_
  replace hf := x_b1 hf; obtain ⟨a8_3, ha8_3, hf⟩ := hf
  refine x_getn C hW fg_X12_9_15 ha8_3 dX12_seed_8 ?_
  refine lv_iconst (v := 1) C.x C.b dX12_seed_11 (by decide) ?_
  refine lv_iload_n C.x C.b dX12_seed_12 rfl (lv_at hl 2 rfl) ?_
  replace hf := x_b1 hf; obtain ⟨M13_4, hM13_4, hf⟩ := hf
  refine x_iast C hW hM13_4 dX12_seed_13 (fun H locs hW => ?_)
  refine lv_iload_n C.x C.b dX12_seed_14 rfl (lv_at hl 0 rfl) ?_
  rw [x_e1 hf, x_e2 hf]
  exact x_iret C hr hW dX12_seed_15

theorem dX12_day_0 : decode cX12_day 0 = .ok (.aload_n 0, 1) := by decide +kernel
theorem dX12_day_1 : decode cX12_day 1 = .ok (.invokevirtual 274, 3) := by decide +kernel
theorem dX12_day_4 : decode cX12_day 4 = .ok (.ifCond .eq 7, 3) := by decide +kernel
theorem dX12_day_7 : decode cX12_day 7 = .ok (.iconst 1, 1) := by decide +kernel
theorem dX12_day_8 : decode cX12_day 8 = .ok (.goto 4, 3) := by decide +kernel
theorem dX12_day_11 : decode cX12_day 11 = .ok (.iconst 0, 1) := by decide +kernel
theorem dX12_day_12 : decode cX12_day 12 = .ok (.ireturn, 1) := by decide +kernel
theorem hd_X12_aDay : yX12_aDay.cls ≠ "java/lang/invoke/MethodHandle" ∧ yX12_aDay.cls ≠ "java/lang/invoke/VarHandle" ∧ (parseMethodDescriptor yX12_aDay.desc).map (fun d => d.parameters.length) = some 0 := by decide +kernel
theorem gv_X12_274 : GoodIn gT (wsV "NylonLadderModel" 274 "NylonLadderModel" yX12_aDay (Cond.code yX12_aDay cX12_aDay 4 (some .boolean) :: gT)) := good_V T_7_236 T_7_238 TS_73 T_1_10 T_7_239
def fX12_day (M : Mm) (o : Nat) : Option (Int32 × Mm) :=
  B1 (gk M o 15) fun _ =>
  B2 (fX12_aDay M o) fun x1_2 M1_3 =>
  if x1_2 = 0 then
    some (0, M1_3)
  else
    some (1, M1_3)
set_option maxRecDepth 100000 in
set_option maxHeartbeats 4000000 in
theorem qX12_day (l : Launch) (E : Ev) {M : Mm} {o : Nat} {rz : Int32} {Mz : Mm} (hf : fX12_day M o = some (rz, Mz)) : Ct l E yX12_day cX12_day 1 (some .int) 8 191 0 0 [.ref (E.b + o)] M (some (.int rz)) Mz := by
  refine ct_of (by decide +kernel) (Nat.le_of_ble_eq_true rfl) fun p e s m args below meth c C hr hin hW ls hl => ?_
  have hl : lv_has ls 1 [(0, .ref (E.b + o))] := hl
  unfold fX12_day at hf
  refine lv_aload_n C.x C.b dX12_day_0 rfl (lv_at hl 0 rfl) ?_
  replace hf := x_b1 hf; obtain ⟨_, hk1_1, hf⟩ := hf
  replace hf := x_b2 hf; obtain ⟨x1_2, M1_3, hx1_2, hf⟩ := hf
  refine x_callV (As := []) (a := o) (rest := []) C hW hl (qX12_aDay l E hx1_2) (x_gk hk1_1) (by decide) (by decide) rfl gv_X12_274 ⟨rfl, hd_X12_aDay⟩ rfl rfl (Nat.le_of_ble_eq_true rfl) dX12_day_1 ⟨Nat.le_of_ble_eq_true rfl, Nat.le_of_ble_eq_true rfl⟩ ⟨Nat.le_of_ble_eq_true rfl, Nat.le_of_ble_eq_true rfl⟩ (fun H locs hW => ?_)
  refine lv_if_eq (tgt := 11) C.x C.b dX12_day_4 rfl (fun c4 => ?_) (fun c4 => ?_)
  · replace hf := x_ip c4 hf
    refine lv_iconst (v := 0) C.x C.b dX12_day_11 (by decide) ?_
    rw [x_e1 hf, x_e2 hf]
    exact x_iret C hr hW dX12_day_12
  · replace hf := x_in c4 hf
    refine lv_iconst (v := 1) C.x C.b dX12_day_7 (by decide) ?_
    refine lv_goto (tgt := 12) C.x C.b dX12_day_8 rfl ?_
    rw [x_e1 hf, x_e2 hf]
    exact x_iret C hr hW dX12_day_12

theorem dX12_month_0 : decode cX12_month 0 = .ok (.iload_n 1, 1) := by decide +kernel
theorem dX12_month_1 : decode cX12_month 1 = .ok (.i2l, 1) := by decide +kernel
theorem dX12_month_2 : decode cX12_month 2 = .ok (.lconst 1, 1) := by decide +kernel
theorem dX12_month_3 : decode cX12_month 3 = .ok (.ldc2_w 93, 3) := by decide +kernel
theorem dX12_month_6 : decode cX12_month 6 = .ok (.invokestatic 61, 3) := by decide +kernel
theorem dX12_month_9 : decode cX12_month 9 = .ok (.ifCond .ne 5, 3) := by decide +kernel
theorem dX12_month_12 : decode cX12_month 12 = .ok (.iconst (-1), 1) := by decide +kernel
theorem dX12_month_13 : decode cX12_month 13 = .ok (.ireturn, 1) := by decide +kernel
theorem dX12_month_14 : decode cX12_month 14 = .ok (.aload_n 0, 1) := by decide +kernel
theorem dX12_month_15 : decode cX12_month 15 = .ok (.invokevirtual 211, 3) := by decide +kernel
theorem dX12_month_18 : decode cX12_month 18 = .ok (.iconst 0, 1) := by decide +kernel
theorem dX12_month_19 : decode cX12_month 19 = .ok (.istore_n 2, 1) := by decide +kernel
theorem dX12_month_20 : decode cX12_month 20 = .ok (.iconst 0, 1) := by decide +kernel
theorem dX12_month_21 : decode cX12_month 21 = .ok (.istore_n 3, 1) := by decide +kernel
theorem dX12_month_22 : decode cX12_month 22 = .ok (.iload_n 3, 1) := by decide +kernel
theorem dX12_month_23 : decode cX12_month 23 = .ok (.iload_n 1, 1) := by decide +kernel
theorem dX12_month_24 : decode cX12_month 24 = .ok (.if_icmp .ge 24, 3) := by decide +kernel
theorem dX12_month_27 : decode cX12_month 27 = .ok (.iload_n 2, 1) := by decide +kernel
theorem dX12_month_28 : decode cX12_month 28 = .ok (.aload_n 0, 1) := by decide +kernel
theorem dX12_month_29 : decode cX12_month 29 = .ok (.invokevirtual 274, 3) := by decide +kernel
theorem dX12_month_32 : decode cX12_month 32 = .ok (.ifCond .eq 7, 3) := by decide +kernel
theorem dX12_month_35 : decode cX12_month 35 = .ok (.iconst 1, 1) := by decide +kernel
theorem dX12_month_36 : decode cX12_month 36 = .ok (.goto 4, 3) := by decide +kernel
theorem dX12_month_39 : decode cX12_month 39 = .ok (.iconst 0, 1) := by decide +kernel
theorem dX12_month_40 : decode cX12_month 40 = .ok (.iadd, 1) := by decide +kernel
theorem dX12_month_41 : decode cX12_month 41 = .ok (.istore_n 2, 1) := by decide +kernel
theorem dX12_month_42 : decode cX12_month 42 = .ok (.iinc 3 1, 3) := by decide +kernel
theorem dX12_month_45 : decode cX12_month 45 = .ok (.goto (-23), 3) := by decide +kernel
theorem dX12_month_48 : decode cX12_month 48 = .ok (.aload_n 0, 1) := by decide +kernel
theorem dX12_month_49 : decode cX12_month 49 = .ok (.invokevirtual 214, 3) := by decide +kernel
theorem dX12_month_52 : decode cX12_month 52 = .ok (.iload_n 2, 1) := by decide +kernel
theorem dX12_month_53 : decode cX12_month 53 = .ok (.ireturn, 1) := by decide +kernel
def fX12_month_L22 (o : Nat) (v1 : Int32) : Nat → Int32 → Int32 → Mm → Option (Int32 × Mm)
  | 0, _, _, _ => none
  | n + 1, v2, v3, M =>
    if v1 ≤ v3 then
      B1 (gk M o 15) fun _ =>
      B1 (fX12_laysBack M o) fun M49_5 =>
      some (v2, M49_5)
    else
      B1 (gk M o 15) fun _ =>
      B2 (fX12_aDay M o) fun x29_7 M29_8 =>
      if x29_7 = 0 then
        fX12_month_L22 o v1 n (v2 + 0) (v3 + 1) M29_8
      else
        fX12_month_L22 o v1 n (v2 + 1) (v3 + 1) M29_8
def fX12_month (M : Mm) (o : Nat) (p1 : Int32) : Option (Int32 × Mm) :=
  B1 (fX12_in M (p1.toInt64) 1 30) fun x6_1 =>
  if x6_1 = 0 then
    some ((-1), M)
  else
    B1 (gk M o 15) fun _ =>
    B1 (fX12_lends M o) fun M15_3 =>
    fX12_month_L22 o p1 FL 0 0 M15_3
set_option maxRecDepth 100000 in
set_option maxHeartbeats 4000000 in
theorem kX12_month_L22 {l : Launch} {E : Ev} {p : Program} {e : Env} {s : State} {m : MethodId} {args : Array Value} {below : List Frame} {meth : Method} {c : Code} (C : Cx E p s m args meth c cX12_month yX12_month.cls 4) (hr : meth.sig.returnType = (some .int)) (hin : yX12_month.name = "<init>" → meth.name = "<init>")  {o : Nat} {v1 : Int32} {rz : Int32} {Mz : Mm} : ∀ (n : Nat) (v2 : Int32) (v3 : Int32) (M : Mm), fX12_month_L22 o v1 n v2 v3 M = some (rz, Mz) → ∀ (H : Heap) (locs : List Loc) (ls : Array Slot), Wx E s H locs M → lv_has ls 4 [(0, .ref (E.b + o)), (1, .int v1), (2, .int v2), (3, .int v3)] → W p l e (rM 8 191 0 0) s m args below meth c H locs 0 0 (MQ below (Qp E (some (.int rz)) Mz) args s 0 0 E.A) (F0 m 22 ls []) := by
  intro n
  induction n with
  | zero =>
    intro v2 v3 M hf
    unfold fX12_month_L22 at hf
    cases hf
  | succ n ih =>
    intro v2 v3 M hf H locs ls hW hl
    unfold fX12_month_L22 at hf
    refine lv_iload_n C.x C.b dX12_month_22 rfl (lv_at hl 3 rfl) ?_
    refine lv_iload_n C.x C.b dX12_month_23 rfl (lv_at hl 1 rfl) ?_
    refine lv_icmp_ge (tgt := 48) C.x C.b dX12_month_24 rfl (fun c24 => ?_) (fun c24 => ?_)
    · replace hf := x_ip c24 hf
      refine lv_aload_n C.x C.b dX12_month_48 rfl (lv_at hl 0 rfl) ?_
      replace hf := x_b1 hf; obtain ⟨_, hk49_4, hf⟩ := hf
      replace hf := x_b1 hf; obtain ⟨M49_5, hM49_5, hf⟩ := hf
      refine x_callV (As := []) (a := o) (rest := []) C hW hl (qX12_laysBack l E hM49_5) (x_gk hk49_4) (by decide) (by decide) rfl gv_X12_214 ⟨rfl, hd_X12_laysBack⟩ rfl rfl (Nat.le_of_ble_eq_true rfl) dX12_month_49 ⟨Nat.le_of_ble_eq_true rfl, Nat.le_of_ble_eq_true rfl⟩ ⟨Nat.le_of_ble_eq_true rfl, Nat.le_of_ble_eq_true rfl⟩ (fun H locs hW => ?_)
      refine lv_iload_n C.x C.b dX12_month_52 rfl (lv_at hl 2 rfl) ?_
      rw [x_e1 hf, x_e2 hf]
      exact x_iret C hr hW dX12_month_53
    · replace hf := x_in c24 hf
      refine lv_iload_n C.x C.b dX12_month_27 rfl (lv_at hl 2 rfl) ?_
      refine lv_aload_n C.x C.b dX12_month_28 rfl (lv_at hl 0 rfl) ?_
      replace hf := x_b1 hf; obtain ⟨_, hk29_6, hf⟩ := hf
      replace hf := x_b2 hf; obtain ⟨x29_7, M29_8, hx29_7, hf⟩ := hf
      refine x_callV (As := []) (a := o) (rest := [.int v2]) C hW hl (qX12_aDay l E hx29_7) (x_gk hk29_6) (by decide) (by decide) rfl gv_X12_274 ⟨rfl, hd_X12_aDay⟩ rfl rfl (Nat.le_of_ble_eq_true rfl) dX12_month_29 ⟨Nat.le_of_ble_eq_true rfl, Nat.le_of_ble_eq_true rfl⟩ ⟨Nat.le_of_ble_eq_true rfl, Nat.le_of_ble_eq_true rfl⟩ (fun H locs hW => ?_)
      refine lv_if_eq (tgt := 39) C.x C.b dX12_month_32 rfl (fun c32 => ?_) (fun c32 => ?_)
      · replace hf := x_ip c32 hf
        refine lv_iconst (v := 0) C.x C.b dX12_month_39 (by decide) ?_
        refine lv_iadd C.x C.b dX12_month_40 ?_
        refine lv_istore_n (lv' := [(2, .int _), (0, .ref (E.b + _)), (1, .int _), (3, .int _)]) C.x C.b dX12_month_41 rfl hl (by decide) rfl (fun ls hl => ?_)
        refine lv_iinc (v := (v3 + 1)) (lv' := [(3, .int (v3 + 1)), (2, .int _), (0, .ref (E.b + _)), (1, .int _)]) C.x C.b dX12_month_42 hl (k := 3) rfl (by first | rfl | decide) (by decide) rfl (fun ls hl => ?_)
        refine lv_goto (tgt := 22) C.x C.b dX12_month_45 rfl ?_
        exact ih (v2 + 0) (v3 + 1) M29_8 hf _ _ _ hW (lv_sub hl [2, 3, 1, 0] rfl)
      · replace hf := x_in c32 hf
        refine lv_iconst (v := 1) C.x C.b dX12_month_35 (by decide) ?_
        refine lv_goto (tgt := 40) C.x C.b dX12_month_36 rfl ?_
        refine lv_iadd C.x C.b dX12_month_40 ?_
        refine lv_istore_n (lv' := [(2, .int _), (0, .ref (E.b + _)), (1, .int _), (3, .int _)]) C.x C.b dX12_month_41 rfl hl (by decide) rfl (fun ls hl => ?_)
        refine lv_iinc (v := (v3 + 1)) (lv' := [(3, .int (v3 + 1)), (2, .int _), (0, .ref (E.b + _)), (1, .int _)]) C.x C.b dX12_month_42 hl (k := 3) rfl (by first | rfl | decide) (by decide) rfl (fun ls hl => ?_)
        refine lv_goto (tgt := 22) C.x C.b dX12_month_45 rfl ?_
        exact ih (v2 + 1) (v3 + 1) M29_8 hf _ _ _ hW (lv_sub hl [2, 3, 1, 0] rfl)
set_option maxRecDepth 100000 in
set_option maxHeartbeats 4000000 in
theorem qX12_month (l : Launch) (E : Ev) {M : Mm} {o : Nat} {p1 : Int32} {rz : Int32} {Mz : Mm} (hf : fX12_month M o p1 = some (rz, Mz)) : Ct l E yX12_month cX12_month 4 (some .int) 8 191 0 0 [.ref (E.b + o), .int p1] M (some (.int rz)) Mz := by
  refine ct_of (by decide +kernel) (Nat.le_of_ble_eq_true rfl) fun p e s m args below meth c C hr hin hW ls hl => ?_
  have hl : lv_has ls 4 [(0, .ref (E.b + o)), (1, .int p1)] := hl
  unfold fX12_month at hf
  refine lv_iload_n C.x C.b dX12_month_0 rfl (lv_at hl 1 rfl) ?_
  refine lv_i2l (v := p1.toInt64) C.x C.b dX12_month_1 rfl ?_
  refine lv_lconst (v := 1) C.x C.b dX12_month_2 (by decide) ?_
  refine x_ldc2 (v := 30) C T_6_153 dX12_month_3 ?_
  replace hf := x_b1 hf; obtain ⟨x6_1, hx6_1, hf⟩ := hf
  refine x_callS (As := [.long (p1.toInt64), .long 1, .long 30]) (rest := []) C hW hl (qX12_in l E hx6_1) gs_X12_61 hd_X12_in rfl rfl (Nat.le_of_ble_eq_true rfl) dX12_month_6 ⟨Nat.le_of_ble_eq_true rfl, Nat.le_of_ble_eq_true rfl⟩ ⟨Nat.le_of_ble_eq_true rfl, Nat.le_of_ble_eq_true rfl⟩ (fun H locs hW => ?_)
  refine lv_if_ne (tgt := 14) C.x C.b dX12_month_9 rfl (fun c9 => ?_) (fun c9 => ?_)
  · replace hf := x_in c9 hf
    refine lv_aload_n C.x C.b dX12_month_14 rfl (lv_at hl 0 rfl) ?_
    replace hf := x_b1 hf; obtain ⟨_, hk15_2, hf⟩ := hf
    replace hf := x_b1 hf; obtain ⟨M15_3, hM15_3, hf⟩ := hf
    refine x_callV (As := []) (a := o) (rest := []) C hW hl (qX12_lends l E hM15_3) (x_gk hk15_2) (by decide) (by decide) rfl gv_X12_211 ⟨rfl, hd_X12_lends⟩ rfl rfl (Nat.le_of_ble_eq_true rfl) dX12_month_15 ⟨Nat.le_of_ble_eq_true rfl, Nat.le_of_ble_eq_true rfl⟩ ⟨Nat.le_of_ble_eq_true rfl, Nat.le_of_ble_eq_true rfl⟩ (fun H locs hW => ?_)
    refine lv_iconst (v := 0) C.x C.b dX12_month_18 (by decide) ?_
    refine lv_istore_n (lv' := [(2, .int _), (0, .ref (E.b + _)), (1, .int _)]) C.x C.b dX12_month_19 rfl hl (by decide) rfl (fun ls hl => ?_)
    refine lv_iconst (v := 0) C.x C.b dX12_month_20 (by decide) ?_
    refine lv_istore_n (lv' := [(3, .int _), (2, .int _), (0, .ref (E.b + _)), (1, .int _)]) C.x C.b dX12_month_21 rfl hl (by decide) rfl (fun ls hl => ?_)
    exact kX12_month_L22 C hr hin FL 0 0 M15_3 hf _ _ _ hW (lv_sub hl [2, 3, 1, 0] rfl)
  · replace hf := x_ip c9 hf
    refine lv_iconst (v := (-1)) C.x C.b dX12_month_12 (by decide) ?_
    rw [x_e1 hf, x_e2 hf]
    exact x_iret C hr hW dX12_month_13

theorem dX12_feed_0 : decode cX12_feed 0 = .ok (.iload_n 3, 1) := by decide +kernel
theorem dX12_feed_1 : decode cX12_feed 1 = .ok (.i2l, 1) := by decide +kernel
theorem dX12_feed_2 : decode cX12_feed 2 = .ok (.lconst 1, 1) := by decide +kernel
theorem dX12_feed_3 : decode cX12_feed 3 = .ok (.ldc2_w 278, 3) := by decide +kernel
theorem dX12_feed_6 : decode cX12_feed 6 = .ok (.invokestatic 61, 3) := by decide +kernel
theorem dX12_feed_9 : decode cX12_feed 9 = .ok (.ifCond .ne 5, 3) := by decide +kernel
theorem dX12_feed_12 : decode cX12_feed 12 = .ok (.iconst (-1), 1) := by decide +kernel
theorem dX12_feed_13 : decode cX12_feed 13 = .ok (.ireturn, 1) := by decide +kernel
theorem dX12_feed_14 : decode cX12_feed 14 = .ok (.aload_n 0, 1) := by decide +kernel
theorem dX12_feed_15 : decode cX12_feed 15 = .ok (.getfield 280, 3) := by decide +kernel
theorem dX12_feed_18 : decode cX12_feed 18 = .ok (.iload_n 3, 1) := by decide +kernel
theorem dX12_feed_19 : decode cX12_feed 19 = .ok (.iadd, 1) := by decide +kernel
theorem dX12_feed_20 : decode cX12_feed 20 = .ok (.sipush 200, 3) := by decide +kernel
theorem dX12_feed_23 : decode cX12_feed 23 = .ok (.if_icmp .le 6, 3) := by decide +kernel
theorem dX12_feed_26 : decode cX12_feed 26 = .ok (.bipush (-2), 2) := by decide +kernel
theorem dX12_feed_28 : decode cX12_feed 28 = .ok (.ireturn, 1) := by decide +kernel
theorem dX12_feed_29 : decode cX12_feed 29 = .ok (.iconst 0, 1) := by decide +kernel
theorem dX12_feed_30 : decode cX12_feed 30 = .ok (.istore 4, 2) := by decide +kernel
theorem dX12_feed_32 : decode cX12_feed 32 = .ok (.iload 4, 2) := by decide +kernel
theorem dX12_feed_34 : decode cX12_feed 34 = .ok (.iload_n 3, 1) := by decide +kernel
theorem dX12_feed_35 : decode cX12_feed 35 = .ok (.if_icmp .ge 40, 3) := by decide +kernel
theorem dX12_feed_38 : decode cX12_feed 38 = .ok (.aload_n 0, 1) := by decide +kernel
theorem dX12_feed_39 : decode cX12_feed 39 = .ok (.getfield 22, 3) := by decide +kernel
theorem dX12_feed_42 : decode cX12_feed 42 = .ok (.aload_n 0, 1) := by decide +kernel
theorem dX12_feed_43 : decode cX12_feed 43 = .ok (.getfield 280, 3) := by decide +kernel
theorem dX12_feed_46 : decode cX12_feed 46 = .ok (.lload_n 1, 1) := by decide +kernel
theorem dX12_feed_47 : decode cX12_feed 47 = .ok (.bipush 8, 2) := by decide +kernel
theorem dX12_feed_49 : decode cX12_feed 49 = .ok (.iload 4, 2) := by decide +kernel
theorem dX12_feed_51 : decode cX12_feed 51 = .ok (.imul, 1) := by decide +kernel
theorem dX12_feed_52 : decode cX12_feed 52 = .ok (.lshr, 1) := by decide +kernel
theorem dX12_feed_53 : decode cX12_feed 53 = .ok (.ldc2_w 284, 3) := by decide +kernel
theorem dX12_feed_56 : decode cX12_feed 56 = .ok (.land, 1) := by decide +kernel
theorem dX12_feed_57 : decode cX12_feed 57 = .ok (.l2i, 1) := by decide +kernel
theorem dX12_feed_58 : decode cX12_feed 58 = .ok (.iastore, 1) := by decide +kernel
theorem dX12_feed_59 : decode cX12_feed 59 = .ok (.aload_n 0, 1) := by decide +kernel
theorem dX12_feed_60 : decode cX12_feed 60 = .ok (.dup, 1) := by decide +kernel
theorem dX12_feed_61 : decode cX12_feed 61 = .ok (.getfield 280, 3) := by decide +kernel
theorem dX12_feed_64 : decode cX12_feed 64 = .ok (.iconst 1, 1) := by decide +kernel
theorem dX12_feed_65 : decode cX12_feed 65 = .ok (.iadd, 1) := by decide +kernel
theorem dX12_feed_66 : decode cX12_feed 66 = .ok (.putfield 280, 3) := by decide +kernel
theorem dX12_feed_69 : decode cX12_feed 69 = .ok (.iinc 4 1, 3) := by decide +kernel
theorem dX12_feed_72 : decode cX12_feed 72 = .ok (.goto (-40), 3) := by decide +kernel
theorem dX12_feed_75 : decode cX12_feed 75 = .ok (.aload_n 0, 1) := by decide +kernel
theorem dX12_feed_76 : decode cX12_feed 76 = .ok (.getfield 280, 3) := by decide +kernel
theorem dX12_feed_79 : decode cX12_feed 79 = .ok (.ireturn, 1) := by decide +kernel
theorem fg_X12_280_15 : FdG "NylonLadderModel" 280 15 6 false := ⟨_, _, _, _, rfl, by decide, by decide, by decide, gxX12, by decide, T_6_55, Or.inl rfl, rfl⟩
theorem fg_X12_22_15 : FdG "NylonLadderModel" 22 15 5 true := ⟨_, _, _, _, rfl, by decide, by decide, by decide, gxX12, by decide, T_6_54, Or.inl rfl, rfl⟩
theorem fp_X12_280_15 : FdP "NylonLadderModel" 280 15 6 false .int false := ⟨_, _, _, _, _, rfl, by decide, by decide, by decide, gxX12, by decide, T_6_55, Or.inl rfl, rfl, tyX12_ok, nmX12, by decide +kernel, rfl, fun h => by cases h⟩
def fX12_feed_L32 (o : Nat) (v1 : Int64) (v3 : Int32) : Nat → Int32 → Mm → Option (Int32 × Mm)
  | 0, _, _ => none
  | n + 1, v4, M =>
    if v3 ≤ v4 then
      B1 (rdI M o 15 6) fun x76_3 =>
      some (x76_3, M)
    else
      B1 (rdN M o 15 5) fun a39_4 =>
      B1 (rdI M o 15 6) fun x43_5 =>
      B1 (asI M a39_4 x43_5 (((shL v1 (8 * v4)) &&& 255).toInt32)) fun M58_6 =>
      B1 (rdI M58_6 o 15 6) fun x61_7 =>
      B1 (wrI M58_6 o 15 6 (x61_7 + 1)) fun M66_8 =>
      fX12_feed_L32 o v1 v3 n (v4 + 1) M66_8
def fX12_feed (M : Mm) (o : Nat) (p1 : Int64) (p2 : Int32) : Option (Int32 × Mm) :=
  B1 (fX12_in M (p2.toInt64) 1 8) fun x6_1 =>
  if x6_1 = 0 then
    some ((-1), M)
  else
    B1 (rdI M o 15 6) fun x15_2 =>
    if (x15_2 + p2) ≤ 200 then
      fX12_feed_L32 o p1 p2 FL 0 M
    else
      some ((-2), M)
set_option maxRecDepth 100000 in
set_option maxHeartbeats 4000000 in
theorem kX12_feed_L32 {l : Launch} {E : Ev} {p : Program} {e : Env} {s : State} {m : MethodId} {args : Array Value} {below : List Frame} {meth : Method} {c : Code} (C : Cx E p s m args meth c cX12_feed yX12_feed.cls 5) (hr : meth.sig.returnType = (some .int)) (hin : yX12_feed.name = "<init>" → meth.name = "<init>")  {o : Nat} {v1 : Int64} {v3 : Int32} {rz : Int32} {Mz : Mm} : ∀ (n : Nat) (v4 : Int32) (M : Mm), fX12_feed_L32 o v1 v3 n v4 M = some (rz, Mz) → ∀ (H : Heap) (locs : List Loc) (ls : Array Slot), Wx E s H locs M → lv_has ls 5 [(0, .ref (E.b + o)), (1, .long v1), (3, .int v3), (4, .int v4)] → W p l e (rM 1 25 0 0) s m args below meth c H locs 0 0 (MQ below (Qp E (some (.int rz)) Mz) args s 0 0 E.A) (F0 m 32 ls []) := by
  intro n
  induction n with
  | zero =>
    intro v4 M hf
    unfold fX12_feed_L32 at hf
    cases hf
  | succ n ih =>
    intro v4 M hf H locs ls hW hl
    unfold fX12_feed_L32 at hf
    refine lv_iload C.x C.b dX12_feed_32 (lv_at hl 3 rfl) ?_
    refine lv_iload_n C.x C.b dX12_feed_34 rfl (lv_at hl 2 rfl) ?_
    refine lv_icmp_ge (tgt := 75) C.x C.b dX12_feed_35 rfl (fun c35 => ?_) (fun c35 => ?_)
    · replace hf := x_ip c35 hf
      refine lv_aload_n C.x C.b dX12_feed_75 rfl (lv_at hl 0 rfl) ?_
      replace hf := x_b1 hf; obtain ⟨x76_3, hx76_3, hf⟩ := hf
      refine x_geti C hW fg_X12_280_15 hx76_3 dX12_feed_76 ?_
      rw [x_e1 hf, x_e2 hf]
      exact x_iret C hr hW dX12_feed_79
    · replace hf := x_in c35 hf
      refine lv_aload_n C.x C.b dX12_feed_38 rfl (lv_at hl 0 rfl) ?_
      replace hf := x_b1 hf; obtain ⟨a39_4, ha39_4, hf⟩ := hf
      refine x_getn C hW fg_X12_22_15 ha39_4 dX12_feed_39 ?_
      refine lv_aload_n C.x C.b dX12_feed_42 rfl (lv_at hl 0 rfl) ?_
      replace hf := x_b1 hf; obtain ⟨x43_5, hx43_5, hf⟩ := hf
      refine x_geti C hW fg_X12_280_15 hx43_5 dX12_feed_43 ?_
      refine lv_lload_n C.x C.b dX12_feed_46 rfl (lv_at hl 1 rfl) ?_
      refine lv_bipush (v := 8) C.x C.b dX12_feed_47 (by decide) ?_
      refine lv_iload C.x C.b dX12_feed_49 (lv_at hl 3 rfl) ?_
      refine lv_imul C.x C.b dX12_feed_51 ?_
      refine lv_lshr (v := (shL v1 (8 * v4))) C.x C.b dX12_feed_52 rfl ?_
      refine x_ldc2 (v := 255) C T_8_14 dX12_feed_53 ?_
      refine lv_land C.x C.b dX12_feed_56 ?_
      refine lv_l2i (v := ((shL v1 (8 * v4)) &&& 255).toInt32) C.x C.b dX12_feed_57 rfl ?_
      replace hf := x_b1 hf; obtain ⟨M58_6, hM58_6, hf⟩ := hf
      refine x_iast C hW hM58_6 dX12_feed_58 (fun H locs hW => ?_)
      refine lv_aload_n C.x C.b dX12_feed_59 rfl (lv_at hl 0 rfl) ?_
      refine lv_dup C.x C.b dX12_feed_60 rfl ?_
      replace hf := x_b1 hf; obtain ⟨x61_7, hx61_7, hf⟩ := hf
      refine x_geti C hW fg_X12_280_15 hx61_7 dX12_feed_61 ?_
      refine lv_iconst (v := 1) C.x C.b dX12_feed_64 (by decide) ?_
      refine lv_iadd C.x C.b dX12_feed_65 ?_
      replace hf := x_b1 hf; obtain ⟨M66_8, hM66_8, hf⟩ := hf
      refine x_puti C hW fp_X12_280_15 hM66_8 (fun h => by cases h) dX12_feed_66 (fun H locs hW => ?_)
      refine lv_iinc (v := (v4 + 1)) (lv' := [(4, .int (v4 + 1)), (0, .ref (E.b + _)), (1, .long _), (3, .int _)]) C.x C.b dX12_feed_69 hl (k := 3) rfl (by first | rfl | decide) (by decide) rfl (fun ls hl => ?_)
      refine lv_goto (tgt := 32) C.x C.b dX12_feed_72 rfl ?_
      exact ih (v4 + 1) M66_8 hf _ _ _ hW (lv_sub hl [1, 2, 3, 0] rfl)
set_option maxRecDepth 100000 in
set_option maxHeartbeats 4000000 in
theorem qX12_feed (l : Launch) (E : Ev) {M : Mm} {o : Nat} {p1 : Int64} {p2 : Int32} {rz : Int32} {Mz : Mm} (hf : fX12_feed M o p1 p2 = some (rz, Mz)) : Ct l E yX12_feed cX12_feed 5 (some .int) 1 25 0 0 [.ref (E.b + o), .long p1, .int p2] M (some (.int rz)) Mz := by
  refine ct_of (by decide +kernel) (Nat.le_of_ble_eq_true rfl) fun p e s m args below meth c C hr hin hW ls hl => ?_
  have hl : lv_has ls 5 [(0, .ref (E.b + o)), (1, .long p1), (3, .int p2)] := hl
  unfold fX12_feed at hf
  refine lv_iload_n C.x C.b dX12_feed_0 rfl (lv_at hl 2 rfl) ?_
  refine lv_i2l (v := p2.toInt64) C.x C.b dX12_feed_1 rfl ?_
  refine lv_lconst (v := 1) C.x C.b dX12_feed_2 (by decide) ?_
  refine x_ldc2 (v := 8) C T_8_13 dX12_feed_3 ?_
  replace hf := x_b1 hf; obtain ⟨x6_1, hx6_1, hf⟩ := hf
  refine x_callS (As := [.long (p2.toInt64), .long 1, .long 8]) (rest := []) C hW hl (qX12_in l E hx6_1) gs_X12_61 hd_X12_in rfl rfl (Nat.le_of_ble_eq_true rfl) dX12_feed_6 ⟨Nat.le_of_ble_eq_true rfl, Nat.le_of_ble_eq_true rfl⟩ ⟨Nat.le_of_ble_eq_true rfl, Nat.le_of_ble_eq_true rfl⟩ (fun H locs hW => ?_)
  refine lv_if_ne (tgt := 14) C.x C.b dX12_feed_9 rfl (fun c9 => ?_) (fun c9 => ?_)
  · replace hf := x_in c9 hf
    refine lv_aload_n C.x C.b dX12_feed_14 rfl (lv_at hl 0 rfl) ?_
    replace hf := x_b1 hf; obtain ⟨x15_2, hx15_2, hf⟩ := hf
    refine x_geti C hW fg_X12_280_15 hx15_2 dX12_feed_15 ?_
    refine lv_iload_n C.x C.b dX12_feed_18 rfl (lv_at hl 2 rfl) ?_
    refine lv_iadd C.x C.b dX12_feed_19 ?_
    refine lv_sipush (v := 200) C.x C.b dX12_feed_20 (by decide) ?_
    refine lv_icmp_le (tgt := 29) C.x C.b dX12_feed_23 rfl (fun c23 => ?_) (fun c23 => ?_)
    · replace hf := x_ip c23 hf
      refine lv_iconst (v := 0) C.x C.b dX12_feed_29 (by decide) ?_
      refine lv_istore (lv' := [(4, .int _), (0, .ref (E.b + _)), (1, .long _), (3, .int _)]) C.x C.b dX12_feed_30 hl (by decide) rfl (fun ls hl => ?_)
      exact kX12_feed_L32 C hr hin FL 0 M hf _ _ _ hW (lv_sub hl [1, 2, 3, 0] rfl)
    · replace hf := x_in c23 hf
      refine lv_bipush (v := (-2)) C.x C.b dX12_feed_26 (by decide) ?_
      rw [x_e1 hf, x_e2 hf]
      exact x_iret C hr hW dX12_feed_28
  · replace hf := x_ip c9 hf
    refine lv_iconst (v := (-1)) C.x C.b dX12_feed_12 (by decide) ?_
    rw [x_e1 hf, x_e2 hf]
    exact x_iret C hr hW dX12_feed_13

theorem dX12_isByte_0 : decode cX12_isByte 0 = .ok (.iload_n 1, 1) := by decide +kernel
theorem dX12_isByte_1 : decode cX12_isByte 1 = .ok (.aload_n 0, 1) := by decide +kernel
theorem dX12_isByte_2 : decode cX12_isByte 2 = .ok (.getfield 280, 3) := by decide +kernel
theorem dX12_isByte_5 : decode cX12_isByte 5 = .ok (.if_icmp .ge 24, 3) := by decide +kernel
theorem dX12_isByte_8 : decode cX12_isByte 8 = .ok (.aload_n 0, 1) := by decide +kernel
theorem dX12_isByte_9 : decode cX12_isByte 9 = .ok (.getfield 22, 3) := by decide +kernel
theorem dX12_isByte_12 : decode cX12_isByte 12 = .ok (.iload_n 1, 1) := by decide +kernel
theorem dX12_isByte_13 : decode cX12_isByte 13 = .ok (.iaload, 1) := by decide +kernel
theorem dX12_isByte_14 : decode cX12_isByte 14 = .ok (.i2l, 1) := by decide +kernel
theorem dX12_isByte_15 : decode cX12_isByte 15 = .ok (.iload_n 2, 1) := by decide +kernel
theorem dX12_isByte_16 : decode cX12_isByte 16 = .ok (.i2l, 1) := by decide +kernel
theorem dX12_isByte_17 : decode cX12_isByte 17 = .ok (.iload_n 3, 1) := by decide +kernel
theorem dX12_isByte_18 : decode cX12_isByte 18 = .ok (.i2l, 1) := by decide +kernel
theorem dX12_isByte_19 : decode cX12_isByte 19 = .ok (.invokestatic 61, 3) := by decide +kernel
theorem dX12_isByte_22 : decode cX12_isByte 22 = .ok (.ifCond .eq 7, 3) := by decide +kernel
theorem dX12_isByte_25 : decode cX12_isByte 25 = .ok (.iconst 1, 1) := by decide +kernel
theorem dX12_isByte_26 : decode cX12_isByte 26 = .ok (.goto 4, 3) := by decide +kernel
theorem dX12_isByte_29 : decode cX12_isByte 29 = .ok (.iconst 0, 1) := by decide +kernel
theorem dX12_isByte_30 : decode cX12_isByte 30 = .ok (.ireturn, 1) := by decide +kernel
def fX12_isByte (M : Mm) (o : Nat) (p1 : Int32) (p2 : Int32) (p3 : Int32) : Option Int32 :=
  B1 (rdI M o 15 6) fun x2_1 =>
  if x2_1 ≤ p1 then
    some 0
  else
    B1 (rdN M o 15 5) fun a9_2 =>
    B1 (alI M a9_2 p1) fun x13_3 =>
    B1 (fX12_in M (x13_3.toInt64) (p2.toInt64) (p3.toInt64)) fun x19_4 =>
    if x19_4 = 0 then
      some 0
    else
      some 1
set_option maxRecDepth 100000 in
set_option maxHeartbeats 4000000 in
theorem qX12_isByte (l : Launch) (E : Ev) {M : Mm} {o : Nat} {p1 : Int32} {p2 : Int32} {p3 : Int32} {rz : Int32} (hf : fX12_isByte M o p1 p2 p3 = some rz) : Ct l E yX12_isByte cX12_isByte 4 (some .boolean) 1 25 0 0 [.ref (E.b + o), .int p1, .int p2, .int p3] M (some (.int rz)) M := by
  refine ct_of (by decide +kernel) (Nat.le_of_ble_eq_true rfl) fun p e s m args below meth c C hr hin hW ls hl => ?_
  have hl : lv_has ls 4 [(0, .ref (E.b + o)), (1, .int p1), (2, .int p2), (3, .int p3)] := hl
  unfold fX12_isByte at hf
  refine lv_iload_n C.x C.b dX12_isByte_0 rfl (lv_at hl 1 rfl) ?_
  refine lv_aload_n C.x C.b dX12_isByte_1 rfl (lv_at hl 0 rfl) ?_
  replace hf := x_b1 hf; obtain ⟨x2_1, hx2_1, hf⟩ := hf
  refine x_geti C hW fg_X12_280_15 hx2_1 dX12_isByte_2 ?_
  refine lv_icmp_ge (tgt := 29) C.x C.b dX12_isByte_5 rfl (fun c5 => ?_) (fun c5 => ?_)
  · replace hf := x_ip c5 hf
    refine lv_iconst (v := 0) C.x C.b dX12_isByte_29 (by decide) ?_
    rw [x_e0 hf]
    exact x_zret C hr hW (v := 0) (w := 0) rfl dX12_isByte_30
  · replace hf := x_in c5 hf
    refine lv_aload_n C.x C.b dX12_isByte_8 rfl (lv_at hl 0 rfl) ?_
    replace hf := x_b1 hf; obtain ⟨a9_2, ha9_2, hf⟩ := hf
    refine x_getn C hW fg_X12_22_15 ha9_2 dX12_isByte_9 ?_
    refine lv_iload_n C.x C.b dX12_isByte_12 rfl (lv_at hl 1 rfl) ?_
    replace hf := x_b1 hf; obtain ⟨x13_3, hx13_3, hf⟩ := hf
    refine x_iald C hW hx13_3 dX12_isByte_13 ?_
    refine lv_i2l (v := x13_3.toInt64) C.x C.b dX12_isByte_14 rfl ?_
    refine lv_iload_n C.x C.b dX12_isByte_15 rfl (lv_at hl 2 rfl) ?_
    refine lv_i2l (v := p2.toInt64) C.x C.b dX12_isByte_16 rfl ?_
    refine lv_iload_n C.x C.b dX12_isByte_17 rfl (lv_at hl 3 rfl) ?_
    refine lv_i2l (v := p3.toInt64) C.x C.b dX12_isByte_18 rfl ?_
    replace hf := x_b1 hf; obtain ⟨x19_4, hx19_4, hf⟩ := hf
    refine x_callS (As := [.long (x13_3.toInt64), .long (p2.toInt64), .long (p3.toInt64)]) (rest := []) C hW hl (qX12_in l E hx19_4) gs_X12_61 hd_X12_in rfl rfl (Nat.le_of_ble_eq_true rfl) dX12_isByte_19 ⟨Nat.le_of_ble_eq_true rfl, Nat.le_of_ble_eq_true rfl⟩ ⟨Nat.le_of_ble_eq_true rfl, Nat.le_of_ble_eq_true rfl⟩ (fun H locs hW => ?_)
    refine lv_if_eq (tgt := 29) C.x C.b dX12_isByte_22 rfl (fun c22 => ?_) (fun c22 => ?_)
    · replace hf := x_ip c22 hf
      refine lv_iconst (v := 0) C.x C.b dX12_isByte_29 (by decide) ?_
      rw [x_e0 hf]
      exact x_zret C hr hW (v := 0) (w := 0) rfl dX12_isByte_30
    · replace hf := x_in c22 hf
      refine lv_iconst (v := 1) C.x C.b dX12_isByte_25 (by decide) ?_
      refine lv_goto (tgt := 30) C.x C.b dX12_isByte_26 rfl ?_
      rw [x_e0 hf]
      exact x_zret C hr hW (v := 1) (w := 1) rfl dX12_isByte_30

theorem dX12_next_0 : decode cX12_next 0 = .ok (.aload_n 0, 1) := by decide +kernel
theorem dX12_next_1 : decode cX12_next 1 = .ok (.aload_n 0, 1) := by decide +kernel
theorem dX12_next_2 : decode cX12_next 2 = .ok (.getfield 286, 3) := by decide +kernel
theorem dX12_next_5 : decode cX12_next 5 = .ok (.putfield 289, 3) := by decide +kernel
theorem dX12_next_8 : decode cX12_next 8 = .ok (.aload_n 0, 1) := by decide +kernel
theorem dX12_next_9 : decode cX12_next 9 = .ok (.aload_n 0, 1) := by decide +kernel
theorem dX12_next_10 : decode cX12_next 10 = .ok (.getfield 289, 3) := by decide +kernel
theorem dX12_next_13 : decode cX12_next 13 = .ok (.bipush 32, 2) := by decide +kernel
theorem dX12_next_15 : decode cX12_next 15 = .ok (.bipush 32, 2) := by decide +kernel
theorem dX12_next_17 : decode cX12_next 17 = .ok (.invokevirtual 292, 3) := by decide +kernel
theorem dX12_next_20 : decode cX12_next 20 = .ok (.ifCond .eq 16, 3) := by decide +kernel
theorem dX12_next_23 : decode cX12_next 23 = .ok (.aload_n 0, 1) := by decide +kernel
theorem dX12_next_24 : decode cX12_next 24 = .ok (.dup, 1) := by decide +kernel
theorem dX12_next_25 : decode cX12_next 25 = .ok (.getfield 289, 3) := by decide +kernel
theorem dX12_next_28 : decode cX12_next 28 = .ok (.iconst 1, 1) := by decide +kernel
theorem dX12_next_29 : decode cX12_next 29 = .ok (.iadd, 1) := by decide +kernel
theorem dX12_next_30 : decode cX12_next 30 = .ok (.putfield 289, 3) := by decide +kernel
theorem dX12_next_33 : decode cX12_next 33 = .ok (.goto (-25), 3) := by decide +kernel
theorem dX12_next_36 : decode cX12_next 36 = .ok (.aload_n 0, 1) := by decide +kernel
theorem dX12_next_37 : decode cX12_next 37 = .ok (.aload_n 0, 1) := by decide +kernel
theorem dX12_next_38 : decode cX12_next 38 = .ok (.getfield 289, 3) := by decide +kernel
theorem dX12_next_41 : decode cX12_next 41 = .ok (.putfield 286, 3) := by decide +kernel
theorem dX12_next_44 : decode cX12_next 44 = .ok (.aload_n 0, 1) := by decide +kernel
theorem dX12_next_45 : decode cX12_next 45 = .ok (.aload_n 0, 1) := by decide +kernel
theorem dX12_next_46 : decode cX12_next 46 = .ok (.getfield 289, 3) := by decide +kernel
theorem dX12_next_49 : decode cX12_next 49 = .ok (.bipush 97, 2) := by decide +kernel
theorem dX12_next_51 : decode cX12_next 51 = .ok (.bipush 122, 2) := by decide +kernel
theorem dX12_next_53 : decode cX12_next 53 = .ok (.invokevirtual 292, 3) := by decide +kernel
theorem dX12_next_56 : decode cX12_next 56 = .ok (.istore_n 1, 1) := by decide +kernel
theorem dX12_next_57 : decode cX12_next 57 = .ok (.aload_n 0, 1) := by decide +kernel
theorem dX12_next_58 : decode cX12_next 58 = .ok (.aload_n 0, 1) := by decide +kernel
theorem dX12_next_59 : decode cX12_next 59 = .ok (.getfield 289, 3) := by decide +kernel
theorem dX12_next_62 : decode cX12_next 62 = .ok (.bipush 48, 2) := by decide +kernel
theorem dX12_next_64 : decode cX12_next 64 = .ok (.bipush 57, 2) := by decide +kernel
theorem dX12_next_66 : decode cX12_next 66 = .ok (.invokevirtual 292, 3) := by decide +kernel
theorem dX12_next_69 : decode cX12_next 69 = .ok (.istore_n 2, 1) := by decide +kernel
theorem dX12_next_70 : decode cX12_next 70 = .ok (.iload_n 1, 1) := by decide +kernel
theorem dX12_next_71 : decode cX12_next 71 = .ok (.ifCond .eq 18, 3) := by decide +kernel
theorem dX12_next_74 : decode cX12_next 74 = .ok (.aload_n 0, 1) := by decide +kernel
theorem dX12_next_75 : decode cX12_next 75 = .ok (.aload_n 0, 1) := by decide +kernel
theorem dX12_next_76 : decode cX12_next 76 = .ok (.getfield 286, 3) := by decide +kernel
theorem dX12_next_79 : decode cX12_next 79 = .ok (.bipush 97, 2) := by decide +kernel
theorem dX12_next_81 : decode cX12_next 81 = .ok (.bipush 122, 2) := by decide +kernel
theorem dX12_next_83 : decode cX12_next 83 = .ok (.invokevirtual 292, 3) := by decide +kernel
theorem dX12_next_86 : decode cX12_next 86 = .ok (.ifCond .ne 22, 3) := by decide +kernel
theorem dX12_next_89 : decode cX12_next 89 = .ok (.iload_n 2, 1) := by decide +kernel
theorem dX12_next_90 : decode cX12_next 90 = .ok (.ifCond .eq 31, 3) := by decide +kernel
theorem dX12_next_93 : decode cX12_next 93 = .ok (.aload_n 0, 1) := by decide +kernel
theorem dX12_next_94 : decode cX12_next 94 = .ok (.aload_n 0, 1) := by decide +kernel
theorem dX12_next_95 : decode cX12_next 95 = .ok (.getfield 286, 3) := by decide +kernel
theorem dX12_next_98 : decode cX12_next 98 = .ok (.bipush 48, 2) := by decide +kernel
theorem dX12_next_100 : decode cX12_next 100 = .ok (.bipush 57, 2) := by decide +kernel
theorem dX12_next_102 : decode cX12_next 102 = .ok (.invokevirtual 292, 3) := by decide +kernel
theorem dX12_next_105 : decode cX12_next 105 = .ok (.ifCond .eq 16, 3) := by decide +kernel
theorem dX12_next_108 : decode cX12_next 108 = .ok (.aload_n 0, 1) := by decide +kernel
theorem dX12_next_109 : decode cX12_next 109 = .ok (.dup, 1) := by decide +kernel
theorem dX12_next_110 : decode cX12_next 110 = .ok (.getfield 286, 3) := by decide +kernel
theorem dX12_next_113 : decode cX12_next 113 = .ok (.iconst 1, 1) := by decide +kernel
theorem dX12_next_114 : decode cX12_next 114 = .ok (.iadd, 1) := by decide +kernel
theorem dX12_next_115 : decode cX12_next 115 = .ok (.putfield 286, 3) := by decide +kernel
theorem dX12_next_118 : decode cX12_next 118 = .ok (.goto (-48), 3) := by decide +kernel
theorem dX12_next_121 : decode cX12_next 121 = .ok (.aload_n 0, 1) := by decide +kernel
theorem dX12_next_122 : decode cX12_next 122 = .ok (.dup, 1) := by decide +kernel
theorem dX12_next_123 : decode cX12_next 123 = .ok (.getfield 286, 3) := by decide +kernel
theorem dX12_next_126 : decode cX12_next 126 = .ok (.iload_n 1, 1) := by decide +kernel
theorem dX12_next_127 : decode cX12_next 127 = .ok (.ifCond .ne 22, 3) := by decide +kernel
theorem dX12_next_130 : decode cX12_next 130 = .ok (.iload_n 2, 1) := by decide +kernel
theorem dX12_next_131 : decode cX12_next 131 = .ok (.ifCond .ne 18, 3) := by decide +kernel
theorem dX12_next_134 : decode cX12_next 134 = .ok (.aload_n 0, 1) := by decide +kernel
theorem dX12_next_135 : decode cX12_next 135 = .ok (.getfield 289, 3) := by decide +kernel
theorem dX12_next_138 : decode cX12_next 138 = .ok (.aload_n 0, 1) := by decide +kernel
theorem dX12_next_139 : decode cX12_next 139 = .ok (.getfield 280, 3) := by decide +kernel
theorem dX12_next_142 : decode cX12_next 142 = .ok (.if_icmp .ge 7, 3) := by decide +kernel
theorem dX12_next_145 : decode cX12_next 145 = .ok (.iconst 1, 1) := by decide +kernel
theorem dX12_next_146 : decode cX12_next 146 = .ok (.goto 4, 3) := by decide +kernel
theorem dX12_next_149 : decode cX12_next 149 = .ok (.iconst 0, 1) := by decide +kernel
theorem dX12_next_150 : decode cX12_next 150 = .ok (.iadd, 1) := by decide +kernel
theorem dX12_next_151 : decode cX12_next 151 = .ok (.putfield 286, 3) := by decide +kernel
theorem dX12_next_154 : decode cX12_next 154 = .ok (.return_, 1) := by decide +kernel
theorem fg_X12_286_15 : FdG "NylonLadderModel" 286 15 8 false := ⟨_, _, _, _, rfl, by decide, by decide, by decide, gxX12, by decide, T_6_57, Or.inl rfl, rfl⟩
theorem fp_X12_289_15 : FdP "NylonLadderModel" 289 15 7 false .int false := ⟨_, _, _, _, _, rfl, by decide, by decide, by decide, gxX12, by decide, T_6_56, Or.inl rfl, rfl, tyX12_ok, nmX12, by decide +kernel, rfl, fun h => by cases h⟩
theorem fg_X12_289_15 : FdG "NylonLadderModel" 289 15 7 false := ⟨_, _, _, _, rfl, by decide, by decide, by decide, gxX12, by decide, T_6_56, Or.inl rfl, rfl⟩
theorem hd_X12_isByte : yX12_isByte.cls ≠ "java/lang/invoke/MethodHandle" ∧ yX12_isByte.cls ≠ "java/lang/invoke/VarHandle" ∧ (parseMethodDescriptor yX12_isByte.desc).map (fun d => d.parameters.length) = some 3 := by decide +kernel
theorem gv_X12_292 : GoodIn gT (wsV "NylonLadderModel" 292 "NylonLadderModel" yX12_isByte (Cond.code yX12_isByte cX12_isByte 4 (some .boolean) :: gT)) := good_V T_8_23 T_8_25 TS_76 T_1_10 T_8_26
theorem fp_X12_286_15 : FdP "NylonLadderModel" 286 15 8 false .int false := ⟨_, _, _, _, _, rfl, by decide, by decide, by decide, gxX12, by decide, T_6_57, Or.inl rfl, rfl, tyX12_ok, nmX12, by decide +kernel, rfl, fun h => by cases h⟩
def fX12_next_L70 (o : Nat) (v1 : Int32) (v2 : Int32) : Nat → Mm → Option Mm
  | 0, _ => none
  | n + 1, M =>
    if v1 = 0 then
      if v2 = 0 then
        B1 (rdI M o 15 8) fun x123_14 =>
        if v1 = 0 then
          if v2 = 0 then
            B1 (rdI M o 15 7) fun x135_17 =>
            B1 (rdI M o 15 6) fun x139_18 =>
            if x139_18 ≤ x135_17 then
              B1 (wrI M o 15 8 (x123_14 + 0)) fun M151_19 =>
              some M151_19
            else
              B1 (wrI M o 15 8 (x123_14 + 1)) fun M151_20 =>
              some M151_20
          else
            B1 (wrI M o 15 8 (x123_14 + 0)) fun M151_16 =>
            some M151_16
        else
          B1 (wrI M o 15 8 (x123_14 + 0)) fun M151_15 =>
          some M151_15
      else
        B1 (rdI M o 15 8) fun x95_21 =>
        B1 (gk M o 15) fun _ =>
        B1 (fX12_isByte M o x95_21 48 57) fun x102_23 =>
        if x102_23 = 0 then
          B1 (rdI M o 15 8) fun x123_24 =>
          if v1 = 0 then
            if v2 = 0 then
              B1 (rdI M o 15 7) fun x135_27 =>
              B1 (rdI M o 15 6) fun x139_28 =>
              if x139_28 ≤ x135_27 then
                B1 (wrI M o 15 8 (x123_24 + 0)) fun M151_29 =>
                some M151_29
              else
                B1 (wrI M o 15 8 (x123_24 + 1)) fun M151_30 =>
                some M151_30
            else
              B1 (wrI M o 15 8 (x123_24 + 0)) fun M151_26 =>
              some M151_26
          else
            B1 (wrI M o 15 8 (x123_24 + 0)) fun M151_25 =>
            some M151_25
        else
          B1 (rdI M o 15 8) fun x110_31 =>
          B1 (wrI M o 15 8 (x110_31 + 1)) fun M115_32 =>
          fX12_next_L70 o v1 v2 n M115_32
    else
      B1 (rdI M o 15 8) fun x76_33 =>
      B1 (gk M o 15) fun _ =>
      B1 (fX12_isByte M o x76_33 97 122) fun x83_35 =>
      if x83_35 = 0 then
        if v2 = 0 then
          B1 (rdI M o 15 8) fun x123_38 =>
          if v1 = 0 then
            if v2 = 0 then
              B1 (rdI M o 15 7) fun x135_41 =>
              B1 (rdI M o 15 6) fun x139_42 =>
              if x139_42 ≤ x135_41 then
                B1 (wrI M o 15 8 (x123_38 + 0)) fun M151_43 =>
                some M151_43
              else
                B1 (wrI M o 15 8 (x123_38 + 1)) fun M151_44 =>
                some M151_44
            else
              B1 (wrI M o 15 8 (x123_38 + 0)) fun M151_40 =>
              some M151_40
          else
            B1 (wrI M o 15 8 (x123_38 + 0)) fun M151_39 =>
            some M151_39
        else
          B1 (rdI M o 15 8) fun x95_45 =>
          B1 (gk M o 15) fun _ =>
          B1 (fX12_isByte M o x95_45 48 57) fun x102_47 =>
          if x102_47 = 0 then
            B1 (rdI M o 15 8) fun x123_48 =>
            if v1 = 0 then
              if v2 = 0 then
                B1 (rdI M o 15 7) fun x135_51 =>
                B1 (rdI M o 15 6) fun x139_52 =>
                if x139_52 ≤ x135_51 then
                  B1 (wrI M o 15 8 (x123_48 + 0)) fun M151_53 =>
                  some M151_53
                else
                  B1 (wrI M o 15 8 (x123_48 + 1)) fun M151_54 =>
                  some M151_54
              else
                B1 (wrI M o 15 8 (x123_48 + 0)) fun M151_50 =>
                some M151_50
            else
              B1 (wrI M o 15 8 (x123_48 + 0)) fun M151_49 =>
              some M151_49
          else
            B1 (rdI M o 15 8) fun x110_55 =>
            B1 (wrI M o 15 8 (x110_55 + 1)) fun M115_56 =>
            fX12_next_L70 o v1 v2 n M115_56
      else
        B1 (rdI M o 15 8) fun x110_36 =>
        B1 (wrI M o 15 8 (x110_36 + 1)) fun M115_37 =>
        fX12_next_L70 o v1 v2 n M115_37
def fX12_next_L8 (o : Nat) : Nat → Mm → Option Mm
  | 0, _ => none
  | n + 1, M =>
    B1 (rdI M o 15 7) fun x10_3 =>
    B1 (gk M o 15) fun _ =>
    B1 (fX12_isByte M o x10_3 32 32) fun x17_5 =>
    if x17_5 = 0 then
      B1 (rdI M o 15 7) fun x38_6 =>
      B1 (wrI M o 15 8 x38_6) fun M41_7 =>
      B1 (rdI M41_7 o 15 7) fun x46_8 =>
      B1 (gk M41_7 o 15) fun _ =>
      B1 (fX12_isByte M41_7 o x46_8 97 122) fun x53_10 =>
      B1 (rdI M41_7 o 15 7) fun x59_11 =>
      B1 (gk M41_7 o 15) fun _ =>
      B1 (fX12_isByte M41_7 o x59_11 48 57) fun x66_13 =>
      fX12_next_L70 o x53_10 x66_13 FL M41_7
    else
      B1 (rdI M o 15 7) fun x25_57 =>
      B1 (wrI M o 15 7 (x25_57 + 1)) fun M30_58 =>
      fX12_next_L8 o n M30_58
def fX12_next (M : Mm) (o : Nat) : Option Mm :=
  B1 (rdI M o 15 8) fun x2_1 =>
  B1 (wrI M o 15 7 x2_1) fun M5_2 =>
  fX12_next_L8 o FL M5_2
set_option maxRecDepth 100000 in
set_option maxHeartbeats 4000000 in
theorem kX12_next_L70 {l : Launch} {E : Ev} {p : Program} {e : Env} {s : State} {m : MethodId} {args : Array Value} {below : List Frame} {meth : Method} {c : Code} (C : Cx E p s m args meth c cX12_next yX12_next.cls 3) (hr : meth.sig.returnType = none) (hin : yX12_next.name = "<init>" → meth.name = "<init>")  {o : Nat} {v1 : Int32} {v2 : Int32} {Mz : Mm} : ∀ (n : Nat) (M : Mm), fX12_next_L70 o v1 v2 n M = some Mz → ∀ (H : Heap) (locs : List Loc) (ls : Array Slot), Wx E s H locs M → lv_has ls 3 [(0, .ref (E.b + o)), (1, .int v1), (2, .int v2)] → W p l e (rM 2 48 0 0) s m args below meth c H locs 0 0 (MQ below (Qp E none Mz) args s 0 0 E.A) (F0 m 70 ls []) := by
  intro n
  induction n with
  | zero =>
    intro M hf
    unfold fX12_next_L70 at hf
    cases hf
  | succ n ih =>
    intro M hf H locs ls hW hl
    unfold fX12_next_L70 at hf
    refine lv_iload_n C.x C.b dX12_next_70 rfl (lv_at hl 1 rfl) ?_
    refine lv_if_eq (tgt := 89) C.x C.b dX12_next_71 rfl (fun c71 => ?_) (fun c71 => ?_)
    · replace hf := x_ip c71 hf
      refine lv_iload_n C.x C.b dX12_next_89 rfl (lv_at hl 2 rfl) ?_
      refine lv_if_eq (tgt := 121) C.x C.b dX12_next_90 rfl (fun c90 => ?_) (fun c90 => ?_)
      · replace hf := x_ip c90 hf
        refine lv_aload_n C.x C.b dX12_next_121 rfl (lv_at hl 0 rfl) ?_
        refine lv_dup C.x C.b dX12_next_122 rfl ?_
        replace hf := x_b1 hf; obtain ⟨x123_14, hx123_14, hf⟩ := hf
        refine x_geti C hW fg_X12_286_15 hx123_14 dX12_next_123 ?_
        refine lv_iload_n C.x C.b dX12_next_126 rfl (lv_at hl 1 rfl) ?_
        refine lv_if_ne (tgt := 149) C.x C.b dX12_next_127 rfl (fun c127 => ?_) (fun c127 => ?_)
        · replace hf := x_in c127 hf
          refine lv_iconst (v := 0) C.x C.b dX12_next_149 (by decide) ?_
          refine lv_iadd C.x C.b dX12_next_150 ?_
          replace hf := x_b1 hf; obtain ⟨M151_15, hM151_15, hf⟩ := hf
          refine x_puti C hW fp_X12_286_15 hM151_15 (fun h => by cases h) dX12_next_151 (fun H locs hW => ?_)
          rw [x_e0 hf]
          exact x_vret C hr hW dX12_next_154
        · replace hf := x_ip c127 hf
          refine lv_iload_n C.x C.b dX12_next_130 rfl (lv_at hl 2 rfl) ?_
          refine lv_if_ne (tgt := 149) C.x C.b dX12_next_131 rfl (fun c131 => ?_) (fun c131 => ?_)
          · replace hf := x_in c131 hf
            refine lv_iconst (v := 0) C.x C.b dX12_next_149 (by decide) ?_
            refine lv_iadd C.x C.b dX12_next_150 ?_
            replace hf := x_b1 hf; obtain ⟨M151_16, hM151_16, hf⟩ := hf
            refine x_puti C hW fp_X12_286_15 hM151_16 (fun h => by cases h) dX12_next_151 (fun H locs hW => ?_)
            rw [x_e0 hf]
            exact x_vret C hr hW dX12_next_154
          · replace hf := x_ip c131 hf
            refine lv_aload_n C.x C.b dX12_next_134 rfl (lv_at hl 0 rfl) ?_
            replace hf := x_b1 hf; obtain ⟨x135_17, hx135_17, hf⟩ := hf
            refine x_geti C hW fg_X12_289_15 hx135_17 dX12_next_135 ?_
            refine lv_aload_n C.x C.b dX12_next_138 rfl (lv_at hl 0 rfl) ?_
            replace hf := x_b1 hf; obtain ⟨x139_18, hx139_18, hf⟩ := hf
            refine x_geti C hW fg_X12_280_15 hx139_18 dX12_next_139 ?_
            refine lv_icmp_ge (tgt := 149) C.x C.b dX12_next_142 rfl (fun c142 => ?_) (fun c142 => ?_)
            · replace hf := x_ip c142 hf
              refine lv_iconst (v := 0) C.x C.b dX12_next_149 (by decide) ?_
              refine lv_iadd C.x C.b dX12_next_150 ?_
              replace hf := x_b1 hf; obtain ⟨M151_19, hM151_19, hf⟩ := hf
              refine x_puti C hW fp_X12_286_15 hM151_19 (fun h => by cases h) dX12_next_151 (fun H locs hW => ?_)
              rw [x_e0 hf]
              exact x_vret C hr hW dX12_next_154
            · replace hf := x_in c142 hf
              refine lv_iconst (v := 1) C.x C.b dX12_next_145 (by decide) ?_
              refine lv_goto (tgt := 150) C.x C.b dX12_next_146 rfl ?_
              refine lv_iadd C.x C.b dX12_next_150 ?_
              replace hf := x_b1 hf; obtain ⟨M151_20, hM151_20, hf⟩ := hf
              refine x_puti C hW fp_X12_286_15 hM151_20 (fun h => by cases h) dX12_next_151 (fun H locs hW => ?_)
              rw [x_e0 hf]
              exact x_vret C hr hW dX12_next_154
      · replace hf := x_in c90 hf
        refine lv_aload_n C.x C.b dX12_next_93 rfl (lv_at hl 0 rfl) ?_
        refine lv_aload_n C.x C.b dX12_next_94 rfl (lv_at hl 0 rfl) ?_
        replace hf := x_b1 hf; obtain ⟨x95_21, hx95_21, hf⟩ := hf
        refine x_geti C hW fg_X12_286_15 hx95_21 dX12_next_95 ?_
        refine lv_bipush (v := 48) C.x C.b dX12_next_98 (by decide) ?_
        refine lv_bipush (v := 57) C.x C.b dX12_next_100 (by decide) ?_
        replace hf := x_b1 hf; obtain ⟨_, hk102_22, hf⟩ := hf
        replace hf := x_b1 hf; obtain ⟨x102_23, hx102_23, hf⟩ := hf
        refine x_callV (As := [.int x95_21, .int 48, .int 57]) (a := o) (rest := []) C hW hl (qX12_isByte l E hx102_23) (x_gk hk102_22) (by decide) (by decide) rfl gv_X12_292 ⟨rfl, hd_X12_isByte⟩ rfl rfl (Nat.le_of_ble_eq_true rfl) dX12_next_102 ⟨Nat.le_of_ble_eq_true rfl, Nat.le_of_ble_eq_true rfl⟩ ⟨Nat.le_of_ble_eq_true rfl, Nat.le_of_ble_eq_true rfl⟩ (fun H locs hW => ?_)
        refine lv_if_eq (tgt := 121) C.x C.b dX12_next_105 rfl (fun c105 => ?_) (fun c105 => ?_)
        · replace hf := x_ip c105 hf
          refine lv_aload_n C.x C.b dX12_next_121 rfl (lv_at hl 0 rfl) ?_
          refine lv_dup C.x C.b dX12_next_122 rfl ?_
          replace hf := x_b1 hf; obtain ⟨x123_24, hx123_24, hf⟩ := hf
          refine x_geti C hW fg_X12_286_15 hx123_24 dX12_next_123 ?_
          refine lv_iload_n C.x C.b dX12_next_126 rfl (lv_at hl 1 rfl) ?_
          refine lv_if_ne (tgt := 149) C.x C.b dX12_next_127 rfl (fun c127 => ?_) (fun c127 => ?_)
          · replace hf := x_in c127 hf
            refine lv_iconst (v := 0) C.x C.b dX12_next_149 (by decide) ?_
            refine lv_iadd C.x C.b dX12_next_150 ?_
            replace hf := x_b1 hf; obtain ⟨M151_25, hM151_25, hf⟩ := hf
            refine x_puti C hW fp_X12_286_15 hM151_25 (fun h => by cases h) dX12_next_151 (fun H locs hW => ?_)
            rw [x_e0 hf]
            exact x_vret C hr hW dX12_next_154
          · replace hf := x_ip c127 hf
            refine lv_iload_n C.x C.b dX12_next_130 rfl (lv_at hl 2 rfl) ?_
            refine lv_if_ne (tgt := 149) C.x C.b dX12_next_131 rfl (fun c131 => ?_) (fun c131 => ?_)
            · replace hf := x_in c131 hf
              refine lv_iconst (v := 0) C.x C.b dX12_next_149 (by decide) ?_
              refine lv_iadd C.x C.b dX12_next_150 ?_
              replace hf := x_b1 hf; obtain ⟨M151_26, hM151_26, hf⟩ := hf
              refine x_puti C hW fp_X12_286_15 hM151_26 (fun h => by cases h) dX12_next_151 (fun H locs hW => ?_)
              rw [x_e0 hf]
              exact x_vret C hr hW dX12_next_154
            · replace hf := x_ip c131 hf
              refine lv_aload_n C.x C.b dX12_next_134 rfl (lv_at hl 0 rfl) ?_
              replace hf := x_b1 hf; obtain ⟨x135_27, hx135_27, hf⟩ := hf
              refine x_geti C hW fg_X12_289_15 hx135_27 dX12_next_135 ?_
              refine lv_aload_n C.x C.b dX12_next_138 rfl (lv_at hl 0 rfl) ?_
              replace hf := x_b1 hf; obtain ⟨x139_28, hx139_28, hf⟩ := hf
              refine x_geti C hW fg_X12_280_15 hx139_28 dX12_next_139 ?_
              refine lv_icmp_ge (tgt := 149) C.x C.b dX12_next_142 rfl (fun c142 => ?_) (fun c142 => ?_)
              · replace hf := x_ip c142 hf
                refine lv_iconst (v := 0) C.x C.b dX12_next_149 (by decide) ?_
                refine lv_iadd C.x C.b dX12_next_150 ?_
                replace hf := x_b1 hf; obtain ⟨M151_29, hM151_29, hf⟩ := hf
                refine x_puti C hW fp_X12_286_15 hM151_29 (fun h => by cases h) dX12_next_151 (fun H locs hW => ?_)
                rw [x_e0 hf]
                exact x_vret C hr hW dX12_next_154
              · replace hf := x_in c142 hf
                refine lv_iconst (v := 1) C.x C.b dX12_next_145 (by decide) ?_
                refine lv_goto (tgt := 150) C.x C.b dX12_next_146 rfl ?_
                refine lv_iadd C.x C.b dX12_next_150 ?_
                replace hf := x_b1 hf; obtain ⟨M151_30, hM151_30, hf⟩ := hf
                refine x_puti C hW fp_X12_286_15 hM151_30 (fun h => by cases h) dX12_next_151 (fun H locs hW => ?_)
                rw [x_e0 hf]
                exact x_vret C hr hW dX12_next_154
        · replace hf := x_in c105 hf
          refine lv_aload_n C.x C.b dX12_next_108 rfl (lv_at hl 0 rfl) ?_
          refine lv_dup C.x C.b dX12_next_109 rfl ?_
          replace hf := x_b1 hf; obtain ⟨x110_31, hx110_31, hf⟩ := hf
          refine x_geti C hW fg_X12_286_15 hx110_31 dX12_next_110 ?_
          refine lv_iconst (v := 1) C.x C.b dX12_next_113 (by decide) ?_
          refine lv_iadd C.x C.b dX12_next_114 ?_
          replace hf := x_b1 hf; obtain ⟨M115_32, hM115_32, hf⟩ := hf
          refine x_puti C hW fp_X12_286_15 hM115_32 (fun h => by cases h) dX12_next_115 (fun H locs hW => ?_)
          refine lv_goto (tgt := 70) C.x C.b dX12_next_118 rfl ?_
          exact ih M115_32 hf _ _ _ hW (lv_sub hl [0, 1, 2] rfl)
    · replace hf := x_in c71 hf
      refine lv_aload_n C.x C.b dX12_next_74 rfl (lv_at hl 0 rfl) ?_
      refine lv_aload_n C.x C.b dX12_next_75 rfl (lv_at hl 0 rfl) ?_
      replace hf := x_b1 hf; obtain ⟨x76_33, hx76_33, hf⟩ := hf
      refine x_geti C hW fg_X12_286_15 hx76_33 dX12_next_76 ?_
      refine lv_bipush (v := 97) C.x C.b dX12_next_79 (by decide) ?_
      refine lv_bipush (v := 122) C.x C.b dX12_next_81 (by decide) ?_
      replace hf := x_b1 hf; obtain ⟨_, hk83_34, hf⟩ := hf
      replace hf := x_b1 hf; obtain ⟨x83_35, hx83_35, hf⟩ := hf
      refine x_callV (As := [.int x76_33, .int 97, .int 122]) (a := o) (rest := []) C hW hl (qX12_isByte l E hx83_35) (x_gk hk83_34) (by decide) (by decide) rfl gv_X12_292 ⟨rfl, hd_X12_isByte⟩ rfl rfl (Nat.le_of_ble_eq_true rfl) dX12_next_83 ⟨Nat.le_of_ble_eq_true rfl, Nat.le_of_ble_eq_true rfl⟩ ⟨Nat.le_of_ble_eq_true rfl, Nat.le_of_ble_eq_true rfl⟩ (fun H locs hW => ?_)
      refine lv_if_ne (tgt := 108) C.x C.b dX12_next_86 rfl (fun c86 => ?_) (fun c86 => ?_)
      · replace hf := x_in c86 hf
        refine lv_aload_n C.x C.b dX12_next_108 rfl (lv_at hl 0 rfl) ?_
        refine lv_dup C.x C.b dX12_next_109 rfl ?_
        replace hf := x_b1 hf; obtain ⟨x110_36, hx110_36, hf⟩ := hf
        refine x_geti C hW fg_X12_286_15 hx110_36 dX12_next_110 ?_
        refine lv_iconst (v := 1) C.x C.b dX12_next_113 (by decide) ?_
        refine lv_iadd C.x C.b dX12_next_114 ?_
        replace hf := x_b1 hf; obtain ⟨M115_37, hM115_37, hf⟩ := hf
        refine x_puti C hW fp_X12_286_15 hM115_37 (fun h => by cases h) dX12_next_115 (fun H locs hW => ?_)
        refine lv_goto (tgt := 70) C.x C.b dX12_next_118 rfl ?_
        exact ih M115_37 hf _ _ _ hW (lv_sub hl [0, 1, 2] rfl)
      · replace hf := x_ip c86 hf
        refine lv_iload_n C.x C.b dX12_next_89 rfl (lv_at hl 2 rfl) ?_
        refine lv_if_eq (tgt := 121) C.x C.b dX12_next_90 rfl (fun c90 => ?_) (fun c90 => ?_)
        · replace hf := x_ip c90 hf
          refine lv_aload_n C.x C.b dX12_next_121 rfl (lv_at hl 0 rfl) ?_
          refine lv_dup C.x C.b dX12_next_122 rfl ?_
          replace hf := x_b1 hf; obtain ⟨x123_38, hx123_38, hf⟩ := hf
          refine x_geti C hW fg_X12_286_15 hx123_38 dX12_next_123 ?_
          refine lv_iload_n C.x C.b dX12_next_126 rfl (lv_at hl 1 rfl) ?_
          refine lv_if_ne (tgt := 149) C.x C.b dX12_next_127 rfl (fun c127 => ?_) (fun c127 => ?_)
          · replace hf := x_in c127 hf
            refine lv_iconst (v := 0) C.x C.b dX12_next_149 (by decide) ?_
            refine lv_iadd C.x C.b dX12_next_150 ?_
            replace hf := x_b1 hf; obtain ⟨M151_39, hM151_39, hf⟩ := hf
            refine x_puti C hW fp_X12_286_15 hM151_39 (fun h => by cases h) dX12_next_151 (fun H locs hW => ?_)
            rw [x_e0 hf]
            exact x_vret C hr hW dX12_next_154
          · replace hf := x_ip c127 hf
            refine lv_iload_n C.x C.b dX12_next_130 rfl (lv_at hl 2 rfl) ?_
            refine lv_if_ne (tgt := 149) C.x C.b dX12_next_131 rfl (fun c131 => ?_) (fun c131 => ?_)
            · replace hf := x_in c131 hf
              refine lv_iconst (v := 0) C.x C.b dX12_next_149 (by decide) ?_
              refine lv_iadd C.x C.b dX12_next_150 ?_
              replace hf := x_b1 hf; obtain ⟨M151_40, hM151_40, hf⟩ := hf
              refine x_puti C hW fp_X12_286_15 hM151_40 (fun h => by cases h) dX12_next_151 (fun H locs hW => ?_)
              rw [x_e0 hf]
              exact x_vret C hr hW dX12_next_154
            · replace hf := x_ip c131 hf
              refine lv_aload_n C.x C.b dX12_next_134 rfl (lv_at hl 0 rfl) ?_
              replace hf := x_b1 hf; obtain ⟨x135_41, hx135_41, hf⟩ := hf
              refine x_geti C hW fg_X12_289_15 hx135_41 dX12_next_135 ?_
              refine lv_aload_n C.x C.b dX12_next_138 rfl (lv_at hl 0 rfl) ?_
              replace hf := x_b1 hf; obtain ⟨x139_42, hx139_42, hf⟩ := hf
              refine x_geti C hW fg_X12_280_15 hx139_42 dX12_next_139 ?_
              refine lv_icmp_ge (tgt := 149) C.x C.b dX12_next_142 rfl (fun c142 => ?_) (fun c142 => ?_)
              · replace hf := x_ip c142 hf
                refine lv_iconst (v := 0) C.x C.b dX12_next_149 (by decide) ?_
                refine lv_iadd C.x C.b dX12_next_150 ?_
                replace hf := x_b1 hf; obtain ⟨M151_43, hM151_43, hf⟩ := hf
                refine x_puti C hW fp_X12_286_15 hM151_43 (fun h => by cases h) dX12_next_151 (fun H locs hW => ?_)
                rw [x_e0 hf]
                exact x_vret C hr hW dX12_next_154
              · replace hf := x_in c142 hf
                refine lv_iconst (v := 1) C.x C.b dX12_next_145 (by decide) ?_
                refine lv_goto (tgt := 150) C.x C.b dX12_next_146 rfl ?_
                refine lv_iadd C.x C.b dX12_next_150 ?_
                replace hf := x_b1 hf; obtain ⟨M151_44, hM151_44, hf⟩ := hf
                refine x_puti C hW fp_X12_286_15 hM151_44 (fun h => by cases h) dX12_next_151 (fun H locs hW => ?_)
                rw [x_e0 hf]
                exact x_vret C hr hW dX12_next_154
        · replace hf := x_in c90 hf
          refine lv_aload_n C.x C.b dX12_next_93 rfl (lv_at hl 0 rfl) ?_
          refine lv_aload_n C.x C.b dX12_next_94 rfl (lv_at hl 0 rfl) ?_
          replace hf := x_b1 hf; obtain ⟨x95_45, hx95_45, hf⟩ := hf
          refine x_geti C hW fg_X12_286_15 hx95_45 dX12_next_95 ?_
          refine lv_bipush (v := 48) C.x C.b dX12_next_98 (by decide) ?_
          refine lv_bipush (v := 57) C.x C.b dX12_next_100 (by decide) ?_
          replace hf := x_b1 hf; obtain ⟨_, hk102_46, hf⟩ := hf
          replace hf := x_b1 hf; obtain ⟨x102_47, hx102_47, hf⟩ := hf
          refine x_callV (As := [.int x95_45, .int 48, .int 57]) (a := o) (rest := []) C hW hl (qX12_isByte l E hx102_47) (x_gk hk102_46) (by decide) (by decide) rfl gv_X12_292 ⟨rfl, hd_X12_isByte⟩ rfl rfl (Nat.le_of_ble_eq_true rfl) dX12_next_102 ⟨Nat.le_of_ble_eq_true rfl, Nat.le_of_ble_eq_true rfl⟩ ⟨Nat.le_of_ble_eq_true rfl, Nat.le_of_ble_eq_true rfl⟩ (fun H locs hW => ?_)
          refine lv_if_eq (tgt := 121) C.x C.b dX12_next_105 rfl (fun c105 => ?_) (fun c105 => ?_)
          · replace hf := x_ip c105 hf
            refine lv_aload_n C.x C.b dX12_next_121 rfl (lv_at hl 0 rfl) ?_
            refine lv_dup C.x C.b dX12_next_122 rfl ?_
            replace hf := x_b1 hf; obtain ⟨x123_48, hx123_48, hf⟩ := hf
            refine x_geti C hW fg_X12_286_15 hx123_48 dX12_next_123 ?_
            refine lv_iload_n C.x C.b dX12_next_126 rfl (lv_at hl 1 rfl) ?_
            refine lv_if_ne (tgt := 149) C.x C.b dX12_next_127 rfl (fun c127 => ?_) (fun c127 => ?_)
            · replace hf := x_in c127 hf
              refine lv_iconst (v := 0) C.x C.b dX12_next_149 (by decide) ?_
              refine lv_iadd C.x C.b dX12_next_150 ?_
              replace hf := x_b1 hf; obtain ⟨M151_49, hM151_49, hf⟩ := hf
              refine x_puti C hW fp_X12_286_15 hM151_49 (fun h => by cases h) dX12_next_151 (fun H locs hW => ?_)
              rw [x_e0 hf]
              exact x_vret C hr hW dX12_next_154
            · replace hf := x_ip c127 hf
              refine lv_iload_n C.x C.b dX12_next_130 rfl (lv_at hl 2 rfl) ?_
              refine lv_if_ne (tgt := 149) C.x C.b dX12_next_131 rfl (fun c131 => ?_) (fun c131 => ?_)
              · replace hf := x_in c131 hf
                refine lv_iconst (v := 0) C.x C.b dX12_next_149 (by decide) ?_
                refine lv_iadd C.x C.b dX12_next_150 ?_
                replace hf := x_b1 hf; obtain ⟨M151_50, hM151_50, hf⟩ := hf
                refine x_puti C hW fp_X12_286_15 hM151_50 (fun h => by cases h) dX12_next_151 (fun H locs hW => ?_)
                rw [x_e0 hf]
                exact x_vret C hr hW dX12_next_154
              · replace hf := x_ip c131 hf
                refine lv_aload_n C.x C.b dX12_next_134 rfl (lv_at hl 0 rfl) ?_
                replace hf := x_b1 hf; obtain ⟨x135_51, hx135_51, hf⟩ := hf
                refine x_geti C hW fg_X12_289_15 hx135_51 dX12_next_135 ?_
                refine lv_aload_n C.x C.b dX12_next_138 rfl (lv_at hl 0 rfl) ?_
                replace hf := x_b1 hf; obtain ⟨x139_52, hx139_52, hf⟩ := hf
                refine x_geti C hW fg_X12_280_15 hx139_52 dX12_next_139 ?_
                refine lv_icmp_ge (tgt := 149) C.x C.b dX12_next_142 rfl (fun c142 => ?_) (fun c142 => ?_)
                · replace hf := x_ip c142 hf
                  refine lv_iconst (v := 0) C.x C.b dX12_next_149 (by decide) ?_
                  refine lv_iadd C.x C.b dX12_next_150 ?_
                  replace hf := x_b1 hf; obtain ⟨M151_53, hM151_53, hf⟩ := hf
                  refine x_puti C hW fp_X12_286_15 hM151_53 (fun h => by cases h) dX12_next_151 (fun H locs hW => ?_)
                  rw [x_e0 hf]
                  exact x_vret C hr hW dX12_next_154
                · replace hf := x_in c142 hf
                  refine lv_iconst (v := 1) C.x C.b dX12_next_145 (by decide) ?_
                  refine lv_goto (tgt := 150) C.x C.b dX12_next_146 rfl ?_
                  refine lv_iadd C.x C.b dX12_next_150 ?_
                  replace hf := x_b1 hf; obtain ⟨M151_54, hM151_54, hf⟩ := hf
                  refine x_puti C hW fp_X12_286_15 hM151_54 (fun h => by cases h) dX12_next_151 (fun H locs hW => ?_)
                  rw [x_e0 hf]
                  exact x_vret C hr hW dX12_next_154
          · replace hf := x_in c105 hf
            refine lv_aload_n C.x C.b dX12_next_108 rfl (lv_at hl 0 rfl) ?_
            refine lv_dup C.x C.b dX12_next_109 rfl ?_
            replace hf := x_b1 hf; obtain ⟨x110_55, hx110_55, hf⟩ := hf
            refine x_geti C hW fg_X12_286_15 hx110_55 dX12_next_110 ?_
            refine lv_iconst (v := 1) C.x C.b dX12_next_113 (by decide) ?_
            refine lv_iadd C.x C.b dX12_next_114 ?_
            replace hf := x_b1 hf; obtain ⟨M115_56, hM115_56, hf⟩ := hf
            refine x_puti C hW fp_X12_286_15 hM115_56 (fun h => by cases h) dX12_next_115 (fun H locs hW => ?_)
            refine lv_goto (tgt := 70) C.x C.b dX12_next_118 rfl ?_
            exact ih M115_56 hf _ _ _ hW (lv_sub hl [0, 1, 2] rfl)
set_option maxRecDepth 100000 in
set_option maxHeartbeats 4000000 in
theorem kX12_next_L8 {l : Launch} {E : Ev} {p : Program} {e : Env} {s : State} {m : MethodId} {args : Array Value} {below : List Frame} {meth : Method} {c : Code} (C : Cx E p s m args meth c cX12_next yX12_next.cls 3) (hr : meth.sig.returnType = none) (hin : yX12_next.name = "<init>" → meth.name = "<init>")  {o : Nat} {Mz : Mm} : ∀ (n : Nat) (M : Mm), fX12_next_L8 o n M = some Mz → ∀ (H : Heap) (locs : List Loc) (ls : Array Slot), Wx E s H locs M → lv_has ls 3 [(0, .ref (E.b + o))] → W p l e (rM 2 48 0 0) s m args below meth c H locs 0 0 (MQ below (Qp E none Mz) args s 0 0 E.A) (F0 m 8 ls []) := by
  intro n
  induction n with
  | zero =>
    intro M hf
    unfold fX12_next_L8 at hf
    cases hf
  | succ n ih =>
    intro M hf H locs ls hW hl
    unfold fX12_next_L8 at hf
    refine lv_aload_n C.x C.b dX12_next_8 rfl (lv_at hl 0 rfl) ?_
    refine lv_aload_n C.x C.b dX12_next_9 rfl (lv_at hl 0 rfl) ?_
    replace hf := x_b1 hf; obtain ⟨x10_3, hx10_3, hf⟩ := hf
    refine x_geti C hW fg_X12_289_15 hx10_3 dX12_next_10 ?_
    refine lv_bipush (v := 32) C.x C.b dX12_next_13 (by decide) ?_
    refine lv_bipush (v := 32) C.x C.b dX12_next_15 (by decide) ?_
    replace hf := x_b1 hf; obtain ⟨_, hk17_4, hf⟩ := hf
    replace hf := x_b1 hf; obtain ⟨x17_5, hx17_5, hf⟩ := hf
    refine x_callV (As := [.int x10_3, .int 32, .int 32]) (a := o) (rest := []) C hW hl (qX12_isByte l E hx17_5) (x_gk hk17_4) (by decide) (by decide) rfl gv_X12_292 ⟨rfl, hd_X12_isByte⟩ rfl rfl (Nat.le_of_ble_eq_true rfl) dX12_next_17 ⟨Nat.le_of_ble_eq_true rfl, Nat.le_of_ble_eq_true rfl⟩ ⟨Nat.le_of_ble_eq_true rfl, Nat.le_of_ble_eq_true rfl⟩ (fun H locs hW => ?_)
    refine lv_if_eq (tgt := 36) C.x C.b dX12_next_20 rfl (fun c20 => ?_) (fun c20 => ?_)
    · replace hf := x_ip c20 hf
      refine lv_aload_n C.x C.b dX12_next_36 rfl (lv_at hl 0 rfl) ?_
      refine lv_aload_n C.x C.b dX12_next_37 rfl (lv_at hl 0 rfl) ?_
      replace hf := x_b1 hf; obtain ⟨x38_6, hx38_6, hf⟩ := hf
      refine x_geti C hW fg_X12_289_15 hx38_6 dX12_next_38 ?_
      replace hf := x_b1 hf; obtain ⟨M41_7, hM41_7, hf⟩ := hf
      refine x_puti C hW fp_X12_286_15 hM41_7 (fun h => by cases h) dX12_next_41 (fun H locs hW => ?_)
      refine lv_aload_n C.x C.b dX12_next_44 rfl (lv_at hl 0 rfl) ?_
      refine lv_aload_n C.x C.b dX12_next_45 rfl (lv_at hl 0 rfl) ?_
      replace hf := x_b1 hf; obtain ⟨x46_8, hx46_8, hf⟩ := hf
      refine x_geti C hW fg_X12_289_15 hx46_8 dX12_next_46 ?_
      refine lv_bipush (v := 97) C.x C.b dX12_next_49 (by decide) ?_
      refine lv_bipush (v := 122) C.x C.b dX12_next_51 (by decide) ?_
      replace hf := x_b1 hf; obtain ⟨_, hk53_9, hf⟩ := hf
      replace hf := x_b1 hf; obtain ⟨x53_10, hx53_10, hf⟩ := hf
      refine x_callV (As := [.int x46_8, .int 97, .int 122]) (a := o) (rest := []) C hW hl (qX12_isByte l E hx53_10) (x_gk hk53_9) (by decide) (by decide) rfl gv_X12_292 ⟨rfl, hd_X12_isByte⟩ rfl rfl (Nat.le_of_ble_eq_true rfl) dX12_next_53 ⟨Nat.le_of_ble_eq_true rfl, Nat.le_of_ble_eq_true rfl⟩ ⟨Nat.le_of_ble_eq_true rfl, Nat.le_of_ble_eq_true rfl⟩ (fun H locs hW => ?_)
      refine lv_istore_n (lv' := [(1, .int _), (0, .ref (E.b + _))]) C.x C.b dX12_next_56 rfl hl (by decide) rfl (fun ls hl => ?_)
      refine lv_aload_n C.x C.b dX12_next_57 rfl (lv_at hl 1 rfl) ?_
      refine lv_aload_n C.x C.b dX12_next_58 rfl (lv_at hl 1 rfl) ?_
      replace hf := x_b1 hf; obtain ⟨x59_11, hx59_11, hf⟩ := hf
      refine x_geti C hW fg_X12_289_15 hx59_11 dX12_next_59 ?_
      refine lv_bipush (v := 48) C.x C.b dX12_next_62 (by decide) ?_
      refine lv_bipush (v := 57) C.x C.b dX12_next_64 (by decide) ?_
      replace hf := x_b1 hf; obtain ⟨_, hk66_12, hf⟩ := hf
      replace hf := x_b1 hf; obtain ⟨x66_13, hx66_13, hf⟩ := hf
      refine x_callV (As := [.int x59_11, .int 48, .int 57]) (a := o) (rest := []) C hW hl (qX12_isByte l E hx66_13) (x_gk hk66_12) (by decide) (by decide) rfl gv_X12_292 ⟨rfl, hd_X12_isByte⟩ rfl rfl (Nat.le_of_ble_eq_true rfl) dX12_next_66 ⟨Nat.le_of_ble_eq_true rfl, Nat.le_of_ble_eq_true rfl⟩ ⟨Nat.le_of_ble_eq_true rfl, Nat.le_of_ble_eq_true rfl⟩ (fun H locs hW => ?_)
      refine lv_istore_n (lv' := [(2, .int _), (1, .int _), (0, .ref (E.b + _))]) C.x C.b dX12_next_69 rfl hl (by decide) rfl (fun ls hl => ?_)
      exact kX12_next_L70 C hr hin FL M41_7 hf _ _ _ hW (lv_sub hl [2, 1, 0] rfl)
    · replace hf := x_in c20 hf
      refine lv_aload_n C.x C.b dX12_next_23 rfl (lv_at hl 0 rfl) ?_
      refine lv_dup C.x C.b dX12_next_24 rfl ?_
      replace hf := x_b1 hf; obtain ⟨x25_57, hx25_57, hf⟩ := hf
      refine x_geti C hW fg_X12_289_15 hx25_57 dX12_next_25 ?_
      refine lv_iconst (v := 1) C.x C.b dX12_next_28 (by decide) ?_
      refine lv_iadd C.x C.b dX12_next_29 ?_
      replace hf := x_b1 hf; obtain ⟨M30_58, hM30_58, hf⟩ := hf
      refine x_puti C hW fp_X12_289_15 hM30_58 (fun h => by cases h) dX12_next_30 (fun H locs hW => ?_)
      refine lv_goto (tgt := 8) C.x C.b dX12_next_33 rfl ?_
      exact ih M30_58 hf _ _ _ hW (lv_sub hl [0] rfl)
set_option maxRecDepth 100000 in
set_option maxHeartbeats 4000000 in
theorem qX12_next (l : Launch) (E : Ev) {M : Mm} {o : Nat} {Mz : Mm} (hf : fX12_next M o = some Mz) : Ct l E yX12_next cX12_next 3 none 2 48 0 0 [.ref (E.b + o)] M none Mz := by
  refine ct_of (by decide +kernel) (Nat.le_of_ble_eq_true rfl) fun p e s m args below meth c C hr hin hW ls hl => ?_
  have hl : lv_has ls 3 [(0, .ref (E.b + o))] := hl
  unfold fX12_next at hf
  refine lv_aload_n C.x C.b dX12_next_0 rfl (lv_at hl 0 rfl) ?_
  refine lv_aload_n C.x C.b dX12_next_1 rfl (lv_at hl 0 rfl) ?_
  replace hf := x_b1 hf; obtain ⟨x2_1, hx2_1, hf⟩ := hf
  refine x_geti C hW fg_X12_286_15 hx2_1 dX12_next_2 ?_
  replace hf := x_b1 hf; obtain ⟨M5_2, hM5_2, hf⟩ := hf
  refine x_puti C hW fp_X12_289_15 hM5_2 (fun h => by cases h) dX12_next_5 (fun H locs hW => ?_)
  exact kX12_next_L8 C hr hin FL M5_2 hf _ _ _ hW (lv_sub hl [0] rfl)

theorem dJ0_coder_7d493_0 : decode cJ0_coder_7d493 0 = .ok (.getstatic 38, 3) := by decide +kernel
theorem dJ0_coder_7d493_3 : decode cJ0_coder_7d493 3 = .ok (.ifCond .eq 10, 3) := by decide +kernel
theorem dJ0_coder_7d493_6 : decode cJ0_coder_7d493 6 = .ok (.aload_n 0, 1) := by decide +kernel
theorem dJ0_coder_7d493_7 : decode cJ0_coder_7d493 7 = .ok (.getfield 15, 3) := by decide +kernel
theorem dJ0_coder_7d493_10 : decode cJ0_coder_7d493 10 = .ok (.goto 4, 3) := by decide +kernel
theorem dJ0_coder_7d493_13 : decode cJ0_coder_7d493 13 = .ok (.iconst 1, 1) := by decide +kernel
theorem dJ0_coder_7d493_14 : decode cJ0_coder_7d493 14 = .ok (.ireturn, 1) := by decide +kernel
def fJ0_coder_7d493 (M : Mm) (q0 : Nat) : Option Int32 :=
  B1 (tq q0) fun _ =>
  some 0
set_option maxRecDepth 100000 in
set_option maxHeartbeats 4000000 in
theorem qJ0_coder_7d493 (l : Launch) (E : Ev) {M : Mm} {q0 : Nat} {rz : Int32} (hf : fJ0_coder_7d493 M q0 = some rz) : Ct l E yJ0_coder_7d493 cJ0_coder_7d493 1 (some .byte) 0 0 0 0 [.ref (E.x (100 + q0))] M (some (.int rz)) M := by
  refine ct_of (by decide +kernel) (Nat.le_of_ble_eq_true rfl) fun p e s m args below meth c C hr hin hW ls hl => ?_
  have hl : lv_has ls 1 [(0, .ref (E.x (100 + q0)))] := hl
  unfold fJ0_coder_7d493 at hf
  refine x_getcs C hW T_2_83 dJ0_coder_7d493_0 ?_
  refine lv_if_eq (tgt := 13) C.x C.b dJ0_coder_7d493_3 rfl (fun c_ => absurd c_ (by decide)) (fun _ => ?_)
  refine lv_aload_n C.x C.b dJ0_coder_7d493_6 rfl (lv_at hl 0 rfl) ?_
  replace hf := x_b1 hf; obtain ⟨_, hg7_1, hf⟩ := hf
  refine x_tcod C hW (tq_lt hg7_1) T_9_27 dJ0_coder_7d493_7 ?_
  refine lv_goto (tgt := 14) C.x C.b dJ0_coder_7d493_10 rfl ?_
  rw [x_e0 hf]
  exact x_yret C hr hW rfl dJ0_coder_7d493_14

theorem dJ0_length_8abf5_0 : decode cJ0_length_8abf5 0 = .ok (.aload_n 0, 1) := by decide +kernel
theorem dJ0_length_8abf5_1 : decode cJ0_length_8abf5 1 = .ok (.getfield 9, 3) := by decide +kernel
theorem dJ0_length_8abf5_4 : decode cJ0_length_8abf5 4 = .ok (.arraylength, 1) := by decide +kernel
theorem dJ0_length_8abf5_5 : decode cJ0_length_8abf5 5 = .ok (.aload_n 0, 1) := by decide +kernel
theorem dJ0_length_8abf5_6 : decode cJ0_length_8abf5 6 = .ok (.invokevirtual 335, 3) := by decide +kernel
theorem dJ0_length_8abf5_9 : decode cJ0_length_8abf5 9 = .ok (.ishr, 1) := by decide +kernel
theorem dJ0_length_8abf5_10 : decode cJ0_length_8abf5 10 = .ok (.ireturn, 1) := by decide +kernel
theorem hd_J0_coder_7d493 : yJ0_coder_7d493.cls ≠ "java/lang/invoke/MethodHandle" ∧ yJ0_coder_7d493.cls ≠ "java/lang/invoke/VarHandle" ∧ (parseMethodDescriptor yJ0_coder_7d493.desc).map (fun d => d.parameters.length) = some 0 := by decide +kernel
theorem gv_J0_335 : GoodIn gT (wsV "java/lang/String" 335 "java/lang/String" yJ0_coder_7d493 (Cond.code yJ0_coder_7d493 cJ0_coder_7d493 1 (some .byte) :: gT)) := good_V T_2_79 T_2_80 T_2_81 T_1_11 T_2_82
def fJ0_length_8abf5 (M : Mm) (q0 : Nat) : Option Int32 :=
  B1 (tq q0) fun _ =>
  B1 (tq q0) fun _ =>
  B1 (tq q0) fun _ =>
  B1 (fJ0_coder_7d493 M q0) fun x6_4 =>
  some ((tln q0) >>> (x6_4 &&& 31))
set_option maxRecDepth 100000 in
set_option maxHeartbeats 4000000 in
theorem qJ0_length_8abf5 (l : Launch) (E : Ev) {M : Mm} {q0 : Nat} {rz : Int32} (hf : fJ0_length_8abf5 M q0 = some rz) : Ct l E yJ0_length_8abf5 cJ0_length_8abf5 1 (some .int) 1 20 0 0 [.ref (E.x (100 + q0))] M (some (.int rz)) M := by
  refine ct_of (by decide +kernel) (Nat.le_of_ble_eq_true rfl) fun p e s m args below meth c C hr hin hW ls hl => ?_
  have hl : lv_has ls 1 [(0, .ref (E.x (100 + q0)))] := hl
  unfold fJ0_length_8abf5 at hf
  refine lv_aload_n C.x C.b dJ0_length_8abf5_0 rfl (lv_at hl 0 rfl) ?_
  replace hf := x_b1 hf; obtain ⟨_, hg1_1, hf⟩ := hf
  refine x_tval C hW (tq_lt hg1_1) T_9_26 dJ0_length_8abf5_1 ?_
  replace hf := x_b1 hf; obtain ⟨_, hg4_2, hf⟩ := hf
  refine x_tlen C hW (tq_lt hg4_2) dJ0_length_8abf5_4 ?_
  refine lv_aload_n C.x C.b dJ0_length_8abf5_5 rfl (lv_at hl 0 rfl) ?_
  replace hf := x_b1 hf; obtain ⟨_, hk6_3, hf⟩ := hf
  replace hf := x_b1 hf; obtain ⟨x6_4, hx6_4, hf⟩ := hf
  refine x_callA (As := []) (rest := [.int (tln q0)]) (Cn := "java/lang/String") C hW hl (qJ0_coder_7d493 l E hx6_4) (x_rcvT C hW (tq_lt hk6_3)) gv_J0_335 ⟨rfl, hd_J0_coder_7d493⟩ rfl rfl (Nat.le_of_ble_eq_true rfl) dJ0_length_8abf5_6 ⟨Nat.le_of_ble_eq_true rfl, Nat.le_of_ble_eq_true rfl⟩ ⟨Nat.le_of_ble_eq_true rfl, Nat.le_of_ble_eq_true rfl⟩ (fun H locs hW => ?_)
  refine lv_ishr C.x C.b dJ0_length_8abf5_9 ?_
  rw [x_e0 hf]
  exact x_iret C hr hW dJ0_length_8abf5_10

theorem dJ0_isLatin1_aae02_0 : decode cJ0_isLatin1_aae02 0 = .ok (.getstatic 38, 3) := by decide +kernel
theorem dJ0_isLatin1_aae02_3 : decode cJ0_isLatin1_aae02 3 = .ok (.ifCond .eq 14, 3) := by decide +kernel
theorem dJ0_isLatin1_aae02_6 : decode cJ0_isLatin1_aae02 6 = .ok (.aload_n 0, 1) := by decide +kernel
theorem dJ0_isLatin1_aae02_7 : decode cJ0_isLatin1_aae02 7 = .ok (.getfield 15, 3) := by decide +kernel
theorem dJ0_isLatin1_aae02_10 : decode cJ0_isLatin1_aae02 10 = .ok (.ifCond .ne 7, 3) := by decide +kernel
theorem dJ0_isLatin1_aae02_13 : decode cJ0_isLatin1_aae02 13 = .ok (.iconst 1, 1) := by decide +kernel
theorem dJ0_isLatin1_aae02_14 : decode cJ0_isLatin1_aae02 14 = .ok (.goto 4, 3) := by decide +kernel
theorem dJ0_isLatin1_aae02_17 : decode cJ0_isLatin1_aae02 17 = .ok (.iconst 0, 1) := by decide +kernel
theorem dJ0_isLatin1_aae02_18 : decode cJ0_isLatin1_aae02 18 = .ok (.ireturn, 1) := by decide +kernel
def fJ0_isLatin1_aae02 (M : Mm) (q0 : Nat) : Option Int32 :=
  B1 (tq q0) fun _ =>
  some 1
set_option maxRecDepth 100000 in
set_option maxHeartbeats 4000000 in
theorem qJ0_isLatin1_aae02 (l : Launch) (E : Ev) {M : Mm} {q0 : Nat} {rz : Int32} (hf : fJ0_isLatin1_aae02 M q0 = some rz) : Ct l E yJ0_isLatin1_aae02 cJ0_isLatin1_aae02 1 (some .boolean) 0 0 0 0 [.ref (E.x (100 + q0))] M (some (.int rz)) M := by
  refine ct_of (by decide +kernel) (Nat.le_of_ble_eq_true rfl) fun p e s m args below meth c C hr hin hW ls hl => ?_
  have hl : lv_has ls 1 [(0, .ref (E.x (100 + q0)))] := hl
  unfold fJ0_isLatin1_aae02 at hf
  refine x_getcs C hW T_2_83 dJ0_isLatin1_aae02_0 ?_
  refine lv_if_eq (tgt := 17) C.x C.b dJ0_isLatin1_aae02_3 rfl (fun c_ => absurd c_ (by decide)) (fun _ => ?_)
  refine lv_aload_n C.x C.b dJ0_isLatin1_aae02_6 rfl (lv_at hl 0 rfl) ?_
  replace hf := x_b1 hf; obtain ⟨_, hg7_1, hf⟩ := hf
  refine x_tcod C hW (tq_lt hg7_1) T_9_27 dJ0_isLatin1_aae02_7 ?_
  refine lv_if_ne (tgt := 17) C.x C.b dJ0_isLatin1_aae02_10 rfl (fun c_ => absurd (by decide) c_) (fun _ => ?_)
  refine lv_iconst (v := 1) C.x C.b dJ0_isLatin1_aae02_13 (by decide) ?_
  refine lv_goto (tgt := 18) C.x C.b dJ0_isLatin1_aae02_14 rfl ?_
  rw [x_e0 hf]
  exact x_zret C hr hW (v := 1) (w := 1) rfl dJ0_isLatin1_aae02_18

theorem dJ3_checkIndex_8e157_0 : decode cJ3_checkIndex_8e157 0 = .ok (.iload_n 0, 1) := by decide +kernel
theorem dJ3_checkIndex_8e157_1 : decode cJ3_checkIndex_8e157 1 = .ok (.ifCond .lt 8, 3) := by decide +kernel
theorem dJ3_checkIndex_8e157_4 : decode cJ3_checkIndex_8e157 4 = .ok (.iload_n 0, 1) := by decide +kernel
theorem dJ3_checkIndex_8e157_5 : decode cJ3_checkIndex_8e157 5 = .ok (.iload_n 1, 1) := by decide +kernel
theorem dJ3_checkIndex_8e157_6 : decode cJ3_checkIndex_8e157 6 = .ok (.if_icmp .lt 10, 3) := by decide +kernel
theorem dJ3_checkIndex_8e157_9 : decode cJ3_checkIndex_8e157 9 = .ok (.aload_n 2, 1) := by decide +kernel
theorem dJ3_checkIndex_8e157_10 : decode cJ3_checkIndex_8e157 10 = .ok (.iload_n 0, 1) := by decide +kernel
theorem dJ3_checkIndex_8e157_11 : decode cJ3_checkIndex_8e157 11 = .ok (.iload_n 1, 1) := by decide +kernel
theorem dJ3_checkIndex_8e157_12 : decode cJ3_checkIndex_8e157 12 = .ok (.invokestatic 95, 3) := by decide +kernel
theorem dJ3_checkIndex_8e157_15 : decode cJ3_checkIndex_8e157 15 = .ok (.athrow, 1) := by decide +kernel
theorem dJ3_checkIndex_8e157_16 : decode cJ3_checkIndex_8e157 16 = .ok (.iload_n 0, 1) := by decide +kernel
theorem dJ3_checkIndex_8e157_17 : decode cJ3_checkIndex_8e157 17 = .ok (.ireturn, 1) := by decide +kernel
def fJ3_checkIndex_8e157 (M : Mm) (p1 : Int32) (p2 : Int32) : Option Int32 :=
  if p1 < 0 then
    none
  else
    if p1 < p2 then
      some p1
    else
      none
set_option maxRecDepth 100000 in
set_option maxHeartbeats 4000000 in
theorem qJ3_checkIndex_8e157 (l : Launch) (E : Ev) {M : Mm} {p1 : Int32} {p2 : Int32} {p3 : Option Nat} {rz : Int32} (hf : fJ3_checkIndex_8e157 M p1 p2 = some rz) : Ct l E yJ3_checkIndex_8e157 cJ3_checkIndex_8e157 3 (some .int) 0 0 0 0 [.int p1, .int p2, va_rf p3] M (some (.int rz)) M := by
  cases p3 with
  | none =>
    refine ct_of (by decide +kernel) (Nat.le_of_ble_eq_true rfl) fun p e s m args below meth c C hr hin hW ls hl => ?_
    have hl : lv_has ls 3 [(0, .int p1), (1, .int p2), (2, va_rf none)] := hl
    unfold fJ3_checkIndex_8e157 at hf
    refine lv_iload_n C.x C.b dJ3_checkIndex_8e157_0 rfl (lv_at hl 0 rfl) ?_
    refine lv_if_lt (tgt := 9) C.x C.b dJ3_checkIndex_8e157_1 rfl (fun c1 => ?_) (fun c1 => ?_)
    · replace hf := x_ip c1 hf
      cases hf
    · replace hf := x_in c1 hf
      refine lv_iload_n C.x C.b dJ3_checkIndex_8e157_4 rfl (lv_at hl 0 rfl) ?_
      refine lv_iload_n C.x C.b dJ3_checkIndex_8e157_5 rfl (lv_at hl 1 rfl) ?_
      refine lv_icmp_lt (tgt := 16) C.x C.b dJ3_checkIndex_8e157_6 rfl (fun c6 => ?_) (fun c6 => ?_)
      · replace hf := x_ip c6 hf
        refine lv_iload_n C.x C.b dJ3_checkIndex_8e157_16 rfl (lv_at hl 0 rfl) ?_
        rw [x_e0 hf]
        exact x_iret C hr hW dJ3_checkIndex_8e157_17
      · replace hf := x_in c6 hf
        cases hf
  | some p3 =>
    refine ct_of (by decide +kernel) (Nat.le_of_ble_eq_true rfl) fun p e s m args below meth c C hr hin hW ls hl => ?_
    have hl : lv_has ls 3 [(0, .int p1), (1, .int p2), (2, va_rf (some p3))] := hl
    unfold fJ3_checkIndex_8e157 at hf
    refine lv_iload_n C.x C.b dJ3_checkIndex_8e157_0 rfl (lv_at hl 0 rfl) ?_
    refine lv_if_lt (tgt := 9) C.x C.b dJ3_checkIndex_8e157_1 rfl (fun c1 => ?_) (fun c1 => ?_)
    · replace hf := x_ip c1 hf
      cases hf
    · replace hf := x_in c1 hf
      refine lv_iload_n C.x C.b dJ3_checkIndex_8e157_4 rfl (lv_at hl 0 rfl) ?_
      refine lv_iload_n C.x C.b dJ3_checkIndex_8e157_5 rfl (lv_at hl 1 rfl) ?_
      refine lv_icmp_lt (tgt := 16) C.x C.b dJ3_checkIndex_8e157_6 rfl (fun c6 => ?_) (fun c6 => ?_)
      · replace hf := x_ip c6 hf
        refine lv_iload_n C.x C.b dJ3_checkIndex_8e157_16 rfl (lv_at hl 0 rfl) ?_
        rw [x_e0 hf]
        exact x_iret C hr hW dJ3_checkIndex_8e157_17
      · replace hf := x_in c6 hf
        cases hf

theorem dJ0_checkIndex_df160_0 : decode cJ0_checkIndex_df160 0 = .ok (.iload_n 0, 1) := by decide +kernel
theorem dJ0_checkIndex_df160_1 : decode cJ0_checkIndex_df160 1 = .ok (.iload_n 1, 1) := by decide +kernel
theorem dJ0_checkIndex_df160_2 : decode cJ0_checkIndex_df160 2 = .ok (.getstatic 1053, 3) := by decide +kernel
theorem dJ0_checkIndex_df160_5 : decode cJ0_checkIndex_df160 5 = .ok (.invokestatic 1059, 3) := by decide +kernel
theorem dJ0_checkIndex_df160_8 : decode cJ0_checkIndex_df160 8 = .ok (.pop, 1) := by decide +kernel
theorem dJ0_checkIndex_df160_9 : decode cJ0_checkIndex_df160 9 = .ok (.return_, 1) := by decide +kernel
theorem hd_J3_checkIndex_8e157 : yJ3_checkIndex_8e157.cls ≠ "java/lang/invoke/MethodHandle" ∧ yJ3_checkIndex_8e157.cls ≠ "java/lang/invoke/VarHandle" ∧ (parseMethodDescriptor yJ3_checkIndex_8e157.desc).map (fun d => d.parameters.length) = some 3 := by decide +kernel
theorem gs_J0_1059 : GoodIn gT (va_wsS "java/lang/String" 1059 yJ3_checkIndex_8e157 (Cond.code yJ3_checkIndex_8e157 cJ3_checkIndex_8e157 3 (some .int) :: gT)) := good_S T_2_101 T_2_102 T_1_13 T_2_103
def fJ0_checkIndex_df160 (M : Mm) (p1 : Int32) (p2 : Int32) : Option Unit :=
  B1 (fJ3_checkIndex_8e157 M p1 p2) fun x5_2 =>
  some ()
set_option maxRecDepth 100000 in
set_option maxHeartbeats 4000000 in
theorem qJ0_checkIndex_df160 (l : Launch) (E : Ev) {M : Mm} {p1 : Int32} {p2 : Int32} {rz : Unit} (hf : fJ0_checkIndex_df160 M p1 p2 = some rz) : Ct l E yJ0_checkIndex_df160 cJ0_checkIndex_df160 2 none 1 22 0 0 [.int p1, .int p2] M none M := by
  refine ct_of (by decide +kernel) (Nat.le_of_ble_eq_true rfl) fun p e s m args below meth c C hr hin hW ls hl => ?_
  have hl : lv_has ls 2 [(0, .int p1), (1, .int p2)] := hl
  unfold fJ0_checkIndex_df160 at hf
  refine lv_iload_n C.x C.b dJ0_checkIndex_df160_0 rfl (lv_at hl 0 rfl) ?_
  refine lv_iload_n C.x C.b dJ0_checkIndex_df160_1 rfl (lv_at hl 1 rfl) ?_
  refine x_getfm C hW T_2_99 dJ0_checkIndex_df160_2 (fun u2_1 => ?_)
  replace hf := x_b1 hf; obtain ⟨x5_2, hx5_2, hf⟩ := hf
  refine x_callS (As := [.int p1, .int p2, va_rf u2_1]) (rest := []) C hW hl (qJ3_checkIndex_8e157 l E hx5_2) gs_J0_1059 hd_J3_checkIndex_8e157 rfl rfl (Nat.le_of_ble_eq_true rfl) dJ0_checkIndex_df160_5 ⟨Nat.le_of_ble_eq_true rfl, Nat.le_of_ble_eq_true rfl⟩ ⟨Nat.le_of_ble_eq_true rfl, Nat.le_of_ble_eq_true rfl⟩ (fun H locs hW => ?_)
  refine lv_pop C.x C.b dJ0_checkIndex_df160_8 rfl ?_
  exact x_vret C hr hW dJ0_checkIndex_df160_9

theorem dJ1_charAt_3b067_0 : decode cJ1_charAt_3b067 0 = .ok (.iload_n 1, 1) := by decide +kernel
theorem dJ1_charAt_3b067_1 : decode cJ1_charAt_3b067 1 = .ok (.aload_n 0, 1) := by decide +kernel
theorem dJ1_charAt_3b067_2 : decode cJ1_charAt_3b067 2 = .ok (.arraylength, 1) := by decide +kernel
theorem dJ1_charAt_3b067_3 : decode cJ1_charAt_3b067 3 = .ok (.invokestatic 9, 3) := by decide +kernel
theorem dJ1_charAt_3b067_6 : decode cJ1_charAt_3b067 6 = .ok (.aload_n 0, 1) := by decide +kernel
theorem dJ1_charAt_3b067_7 : decode cJ1_charAt_3b067 7 = .ok (.iload_n 1, 1) := by decide +kernel
theorem dJ1_charAt_3b067_8 : decode cJ1_charAt_3b067 8 = .ok (.baload, 1) := by decide +kernel
theorem dJ1_charAt_3b067_9 : decode cJ1_charAt_3b067 9 = .ok (.sipush 255, 3) := by decide +kernel
theorem dJ1_charAt_3b067_12 : decode cJ1_charAt_3b067 12 = .ok (.iand, 1) := by decide +kernel
theorem dJ1_charAt_3b067_13 : decode cJ1_charAt_3b067 13 = .ok (.i2c, 1) := by decide +kernel
theorem dJ1_charAt_3b067_14 : decode cJ1_charAt_3b067 14 = .ok (.ireturn, 1) := by decide +kernel
theorem hd_J0_checkIndex_df160 : yJ0_checkIndex_df160.cls ≠ "java/lang/invoke/MethodHandle" ∧ yJ0_checkIndex_df160.cls ≠ "java/lang/invoke/VarHandle" ∧ (parseMethodDescriptor yJ0_checkIndex_df160.desc).map (fun d => d.parameters.length) = some 2 := by decide +kernel
theorem gs_J1_9 : GoodIn gT (va_wsS "java/lang/StringLatin1" 9 yJ0_checkIndex_df160 (Cond.code yJ0_checkIndex_df160 cJ0_checkIndex_df160 2 none :: gT)) := good_S T_2_96 T_2_97 T_1_11 T_2_98
def fJ1_charAt_3b067 (M : Mm) (p1 : Nat) (p2 : Int32) : Option Int32 :=
  B1 (tq p1) fun _ =>
  B1 (fJ0_checkIndex_df160 M p2 (tln p1)) fun x3_2 =>
  B1 (tby p1 p2) fun x8_3 =>
  B1 (bc (((x8_3 &&& 255).toUInt32 % 65536).toInt32)) fun z14_4 =>
  some z14_4
set_option maxRecDepth 100000 in
set_option maxHeartbeats 4000000 in
theorem qJ1_charAt_3b067 (l : Launch) (E : Ev) {M : Mm} {p1 : Nat} {p2 : Int32} {rz : Int32} (hf : fJ1_charAt_3b067 M p1 p2 = some rz) : Ct l E yJ1_charAt_3b067 cJ1_charAt_3b067 2 (some .char) 2 43 0 0 [.ref (E.x (200 + p1)), .int p2] M (some (.int rz)) M := by
  refine ct_of (by decide +kernel) (Nat.le_of_ble_eq_true rfl) fun p e s m args below meth c C hr hin hW ls hl => ?_
  have hl : lv_has ls 2 [(0, .ref (E.x (200 + p1))), (1, .int p2)] := hl
  unfold fJ1_charAt_3b067 at hf
  refine lv_iload_n C.x C.b dJ1_charAt_3b067_0 rfl (lv_at hl 1 rfl) ?_
  refine lv_aload_n C.x C.b dJ1_charAt_3b067_1 rfl (lv_at hl 0 rfl) ?_
  replace hf := x_b1 hf; obtain ⟨_, hg2_1, hf⟩ := hf
  refine x_tlen C hW (tq_lt hg2_1) dJ1_charAt_3b067_2 ?_
  replace hf := x_b1 hf; obtain ⟨x3_2, hx3_2, hf⟩ := hf
  refine x_callS (As := [.int p2, .int (tln p1)]) (rest := []) C hW hl (qJ0_checkIndex_df160 l E hx3_2) gs_J1_9 hd_J0_checkIndex_df160 rfl rfl (Nat.le_of_ble_eq_true rfl) dJ1_charAt_3b067_3 ⟨Nat.le_of_ble_eq_true rfl, Nat.le_of_ble_eq_true rfl⟩ ⟨Nat.le_of_ble_eq_true rfl, Nat.le_of_ble_eq_true rfl⟩ (fun H locs hW => ?_)
  refine lv_aload_n C.x C.b dJ1_charAt_3b067_6 rfl (lv_at hl 0 rfl) ?_
  refine lv_iload_n C.x C.b dJ1_charAt_3b067_7 rfl (lv_at hl 1 rfl) ?_
  replace hf := x_b1 hf; obtain ⟨x8_3, hx8_3, hf⟩ := hf
  refine x_tbal C hW hx8_3 dJ1_charAt_3b067_8 ?_
  refine lv_sipush (v := 255) C.x C.b dJ1_charAt_3b067_9 (by decide) ?_
  refine lv_iand C.x C.b dJ1_charAt_3b067_12 ?_
  refine lv_i2c (v := ((x8_3 &&& 255).toUInt32 % 65536).toInt32) C.x C.b dJ1_charAt_3b067_13 rfl ?_
  replace hf := x_b1 hf; obtain ⟨z14_4, hz14_4, hf⟩ := hf
  rw [x_e0 hf]
  exact x_cret C hr hW hz14_4 dJ1_charAt_3b067_14

theorem dJ0_charAt_5068e_0 : decode cJ0_charAt_5068e 0 = .ok (.aload_n 0, 1) := by decide +kernel
theorem dJ0_charAt_5068e_1 : decode cJ0_charAt_5068e 1 = .ok (.invokevirtual 492, 3) := by decide +kernel
theorem dJ0_charAt_5068e_4 : decode cJ0_charAt_5068e 4 = .ok (.ifCond .eq 12, 3) := by decide +kernel
theorem dJ0_charAt_5068e_7 : decode cJ0_charAt_5068e 7 = .ok (.aload_n 0, 1) := by decide +kernel
theorem dJ0_charAt_5068e_8 : decode cJ0_charAt_5068e 8 = .ok (.getfield 9, 3) := by decide +kernel
theorem dJ0_charAt_5068e_11 : decode cJ0_charAt_5068e 11 = .ok (.iload_n 1, 1) := by decide +kernel
theorem dJ0_charAt_5068e_12 : decode cJ0_charAt_5068e 12 = .ok (.invokestatic 495, 3) := by decide +kernel
theorem dJ0_charAt_5068e_15 : decode cJ0_charAt_5068e 15 = .ok (.ireturn, 1) := by decide +kernel
theorem dJ0_charAt_5068e_16 : decode cJ0_charAt_5068e 16 = .ok (.aload_n 0, 1) := by decide +kernel
theorem dJ0_charAt_5068e_17 : decode cJ0_charAt_5068e 17 = .ok (.getfield 9, 3) := by decide +kernel
theorem dJ0_charAt_5068e_20 : decode cJ0_charAt_5068e 20 = .ok (.iload_n 1, 1) := by decide +kernel
theorem dJ0_charAt_5068e_21 : decode cJ0_charAt_5068e 21 = .ok (.invokestatic 498, 3) := by decide +kernel
theorem dJ0_charAt_5068e_24 : decode cJ0_charAt_5068e 24 = .ok (.ireturn, 1) := by decide +kernel
theorem hd_J0_isLatin1_aae02 : yJ0_isLatin1_aae02.cls ≠ "java/lang/invoke/MethodHandle" ∧ yJ0_isLatin1_aae02.cls ≠ "java/lang/invoke/VarHandle" ∧ (parseMethodDescriptor yJ0_isLatin1_aae02.desc).map (fun d => d.parameters.length) = some 0 := by decide +kernel
theorem gv_J0_492 : GoodIn gT (wsV "java/lang/String" 492 "java/lang/String" yJ0_isLatin1_aae02 (Cond.code yJ0_isLatin1_aae02 cJ0_isLatin1_aae02 1 (some .boolean) :: gT)) := good_V T_2_89 T_2_90 T_2_91 T_1_11 T_2_92
theorem hd_J1_charAt_3b067 : yJ1_charAt_3b067.cls ≠ "java/lang/invoke/MethodHandle" ∧ yJ1_charAt_3b067.cls ≠ "java/lang/invoke/VarHandle" ∧ (parseMethodDescriptor yJ1_charAt_3b067.desc).map (fun d => d.parameters.length) = some 2 := by decide +kernel
theorem gs_J0_495 : GoodIn gT (va_wsS "java/lang/String" 495 yJ1_charAt_3b067 (Cond.code yJ1_charAt_3b067 cJ1_charAt_3b067 2 (some .char) :: gT)) := good_S T_2_93 T_2_94 T_1_12 T_2_95
def fJ0_charAt_5068e (M : Mm) (q0 : Nat) (p1 : Int32) : Option Int32 :=
  B1 (tq q0) fun _ =>
  B1 (fJ0_isLatin1_aae02 M q0) fun x1_2 =>
  if x1_2 = 0 then
    none
  else
    B1 (tq q0) fun _ =>
    B1 (fJ1_charAt_3b067 M q0 p1) fun x12_4 =>
    B1 (bc x12_4) fun z15_5 =>
    some z15_5
set_option maxRecDepth 100000 in
set_option maxHeartbeats 4000000 in
theorem qJ0_charAt_5068e (l : Launch) (E : Ev) {M : Mm} {q0 : Nat} {p1 : Int32} {rz : Int32} (hf : fJ0_charAt_5068e M q0 p1 = some rz) : Ct l E yJ0_charAt_5068e cJ0_charAt_5068e 2 (some .char) 3 64 0 0 [.ref (E.x (100 + q0)), .int p1] M (some (.int rz)) M := by
  refine ct_of (by decide +kernel) (Nat.le_of_ble_eq_true rfl) fun p e s m args below meth c C hr hin hW ls hl => ?_
  have hl : lv_has ls 2 [(0, .ref (E.x (100 + q0))), (1, .int p1)] := hl
  unfold fJ0_charAt_5068e at hf
  refine lv_aload_n C.x C.b dJ0_charAt_5068e_0 rfl (lv_at hl 0 rfl) ?_
  replace hf := x_b1 hf; obtain ⟨_, hk1_1, hf⟩ := hf
  replace hf := x_b1 hf; obtain ⟨x1_2, hx1_2, hf⟩ := hf
  refine x_callA (As := []) (rest := []) (Cn := "java/lang/String") C hW hl (qJ0_isLatin1_aae02 l E hx1_2) (x_rcvT C hW (tq_lt hk1_1)) gv_J0_492 ⟨rfl, hd_J0_isLatin1_aae02⟩ rfl rfl (Nat.le_of_ble_eq_true rfl) dJ0_charAt_5068e_1 ⟨Nat.le_of_ble_eq_true rfl, Nat.le_of_ble_eq_true rfl⟩ ⟨Nat.le_of_ble_eq_true rfl, Nat.le_of_ble_eq_true rfl⟩ (fun H locs hW => ?_)
  refine lv_if_eq (tgt := 16) C.x C.b dJ0_charAt_5068e_4 rfl (fun c4 => ?_) (fun c4 => ?_)
  · replace hf := x_ip c4 hf
    cases hf
  · replace hf := x_in c4 hf
    refine lv_aload_n C.x C.b dJ0_charAt_5068e_7 rfl (lv_at hl 0 rfl) ?_
    replace hf := x_b1 hf; obtain ⟨_, hg8_3, hf⟩ := hf
    refine x_tval C hW (tq_lt hg8_3) T_9_26 dJ0_charAt_5068e_8 ?_
    refine lv_iload_n C.x C.b dJ0_charAt_5068e_11 rfl (lv_at hl 1 rfl) ?_
    replace hf := x_b1 hf; obtain ⟨x12_4, hx12_4, hf⟩ := hf
    refine x_callS (As := [.ref (E.x (200 + q0)), .int p1]) (rest := []) C hW hl (qJ1_charAt_3b067 l E hx12_4) gs_J0_495 hd_J1_charAt_3b067 rfl rfl (Nat.le_of_ble_eq_true rfl) dJ0_charAt_5068e_12 ⟨Nat.le_of_ble_eq_true rfl, Nat.le_of_ble_eq_true rfl⟩ ⟨Nat.le_of_ble_eq_true rfl, Nat.le_of_ble_eq_true rfl⟩ (fun H locs hW => ?_)
    replace hf := x_b1 hf; obtain ⟨z15_5, hz15_5, hf⟩ := hf
    rw [x_e0 hf]
    exact x_cret C hr hW hz15_5 dJ0_charAt_5068e_15
