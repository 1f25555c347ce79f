theorem dX12_bareOf_0 : decode cX12_bareOf 0 = .ok (.aload_n 0, 1) := by decide +kernel
theorem dX12_bareOf_1 : decode cX12_bareOf 1 = .ok (.iload_n 1, 1) := by decide +kernel
theorem dX12_bareOf_2 : decode cX12_bareOf 2 = .ok (.bipush 6, 2) := by decide +kernel
theorem dX12_bareOf_4 : decode cX12_bareOf 4 = .ok (.invokevirtual 67, 3) := by decide +kernel
theorem dX12_bareOf_7 : decode cX12_bareOf 7 = .ok (.aload_n 0, 1) := by decide +kernel
theorem dX12_bareOf_8 : decode cX12_bareOf 8 = .ok (.getfield 9, 3) := by decide +kernel
theorem dX12_bareOf_11 : decode cX12_bareOf 11 = .ok (.bipush 7, 2) := by decide +kernel
theorem dX12_bareOf_13 : decode cX12_bareOf 13 = .ok (.iaload, 1) := by decide +kernel
theorem dX12_bareOf_14 : decode cX12_bareOf 14 = .ok (.invokestatic 166, 3) := by decide +kernel
theorem dX12_bareOf_17 : decode cX12_bareOf 17 = .ok (.istore_n 2, 1) := by decide +kernel
theorem dX12_bareOf_18 : decode cX12_bareOf 18 = .ok (.aload_n 0, 1) := by decide +kernel
theorem dX12_bareOf_19 : decode cX12_bareOf 19 = .ok (.iload_n 1, 1) := by decide +kernel
theorem dX12_bareOf_20 : decode cX12_bareOf 20 = .ok (.bipush 7, 2) := by decide +kernel
theorem dX12_bareOf_22 : decode cX12_bareOf 22 = .ok (.invokevirtual 67, 3) := by decide +kernel
theorem dX12_bareOf_25 : decode cX12_bareOf 25 = .ok (.aload_n 0, 1) := by decide +kernel
theorem dX12_bareOf_26 : decode cX12_bareOf 26 = .ok (.getfield 9, 3) := by decide +kernel
theorem dX12_bareOf_29 : decode cX12_bareOf 29 = .ok (.bipush 8, 2) := by decide +kernel
theorem dX12_bareOf_31 : decode cX12_bareOf 31 = .ok (.iaload, 1) := by decide +kernel
theorem dX12_bareOf_32 : decode cX12_bareOf 32 = .ok (.iconst 1, 1) := by decide +kernel
theorem dX12_bareOf_33 : decode cX12_bareOf 33 = .ok (.isub, 1) := by decide +kernel
theorem dX12_bareOf_34 : decode cX12_bareOf 34 = .ok (.invokestatic 157, 3) := by decide +kernel
theorem dX12_bareOf_37 : decode cX12_bareOf 37 = .ok (.istore_n 3, 1) := by decide +kernel
theorem dX12_bareOf_38 : decode cX12_bareOf 38 = .ok (.aload_n 0, 1) := by decide +kernel
theorem dX12_bareOf_39 : decode cX12_bareOf 39 = .ok (.iload_n 1, 1) := by decide +kernel
theorem dX12_bareOf_40 : decode cX12_bareOf 40 = .ok (.invokevirtual 71, 3) := by decide +kernel
theorem dX12_bareOf_43 : decode cX12_bareOf 43 = .ok (.ifCond .eq 15, 3) := by decide +kernel
theorem dX12_bareOf_46 : decode cX12_bareOf 46 = .ok (.iconst 0, 1) := by decide +kernel
theorem dX12_bareOf_47 : decode cX12_bareOf 47 = .ok (.iload_n 3, 1) := by decide +kernel
theorem dX12_bareOf_48 : decode cX12_bareOf 48 = .ok (.iload_n 2, 1) := by decide +kernel
theorem dX12_bareOf_49 : decode cX12_bareOf 49 = .ok (.isub, 1) := by decide +kernel
theorem dX12_bareOf_50 : decode cX12_bareOf 50 = .ok (.iconst 1, 1) := by decide +kernel
theorem dX12_bareOf_51 : decode cX12_bareOf 51 = .ok (.iadd, 1) := by decide +kernel
theorem dX12_bareOf_52 : decode cX12_bareOf 52 = .ok (.invokestatic 166, 3) := by decide +kernel
theorem dX12_bareOf_55 : decode cX12_bareOf 55 = .ok (.goto 4, 3) := by decide +kernel
theorem dX12_bareOf_58 : decode cX12_bareOf 58 = .ok (.iconst 0, 1) := by decide +kernel
theorem dX12_bareOf_59 : decode cX12_bareOf 59 = .ok (.ireturn, 1) := by decide +kernel
def fX12_bareOf (M : Mm) (o : Nat) (p1 : Int32) : Option Int32 :=
  B1 (gk M o 15) fun _ =>
  B1 (fX12_its M o p1 6) fun x4_2 =>
  B1 (rdN M o 15 0) fun a8_3 =>
  B1 (alI M a8_3 7) fun x13_4 =>
  B1 (gk M o 15) fun _ =>
  B1 (fX12_its M o p1 7) fun x22_6 =>
  B1 (rdN M o 15 0) fun a26_7 =>
  B1 (alI M a26_7 8) fun x31_8 =>
  B1 (gk M o 15) fun _ =>
  B1 (fX12_hasLadder M o p1) fun x40_10 =>
  if x40_10 = 0 then
    some 0
  else
    some (mxI 0 (((mnI x22_6 (x31_8 - 1)) - (mxI x4_2 x13_4)) + 1))
set_option maxRecDepth 100000 in
set_option maxHeartbeats 4000000 in
theorem qX12_bareOf (l : Launch) (E : Ev) {M : Mm} {o : Nat} {p1 : Int32} {rz : Int32} (hf : fX12_bareOf M o p1 = some rz) : Ct l E yX12_bareOf cX12_bareOf 4 (some .int) 2 43 0 0 [.ref (E.b + o), .int p1] M (some (.int rz)) M := by
  refine ct_of (by decide +kernel) (Nat.le_of_ble_eq_true rfl) fun p e s m args below meth c C hr hin hW ls hl => ?_
  have hl : lv_has ls 4 [(0, .ref (E.b + o)), (1, .int p1)] := hl
  unfold fX12_bareOf at hf
  refine lv_aload_n C.x C.b dX12_bareOf_0 rfl (lv_at hl 0 rfl) ?_
  refine lv_iload_n C.x C.b dX12_bareOf_1 rfl (lv_at hl 1 rfl) ?_
  refine lv_bipush (v := 6) C.x C.b dX12_bareOf_2 (by decide) ?_
  replace hf := x_b1 hf; obtain ⟨_, hk4_1, hf⟩ := hf
  replace hf := x_b1 hf; obtain ⟨x4_2, hx4_2, hf⟩ := hf
  refine x_callV (As := [.int p1, .int 6]) (a := o) (rest := []) C hW hl (qX12_its l E hx4_2) (x_gk hk4_1) (by decide) (by decide) rfl gv_X12_67 ⟨rfl, hd_X12_its⟩ rfl rfl (Nat.le_of_ble_eq_true rfl) dX12_bareOf_4 ⟨Nat.le_of_ble_eq_true rfl, Nat.le_of_ble_eq_true rfl⟩ ⟨Nat.le_of_ble_eq_true rfl, Nat.le_of_ble_eq_true rfl⟩ (fun H locs hW => ?_)
  refine lv_aload_n C.x C.b dX12_bareOf_7 rfl (lv_at hl 0 rfl) ?_
  replace hf := x_b1 hf; obtain ⟨a8_3, ha8_3, hf⟩ := hf
  refine x_getn C hW fg_X12_9_15 ha8_3 dX12_bareOf_8 ?_
  refine lv_bipush (v := 7) C.x C.b dX12_bareOf_11 (by decide) ?_
  replace hf := x_b1 hf; obtain ⟨x13_4, hx13_4, hf⟩ := hf
  refine x_iald C hW hx13_4 dX12_bareOf_13 ?_
  refine x_mmax C hl T_7_52 T_3_145 T_1_15 T_3_146 (Nat.le_of_ble_eq_true rfl) (Nat.le_of_ble_eq_true rfl) ⟨Nat.le_of_ble_eq_true rfl, Nat.le_of_ble_eq_true rfl⟩ dX12_bareOf_14 ?_
  refine lv_istore_n (lv' := [(2, .int _), (0, .ref (E.b + _)), (1, .int _)]) C.x C.b dX12_bareOf_17 rfl hl (by decide) rfl (fun ls hl => ?_)
  refine lv_aload_n C.x C.b dX12_bareOf_18 rfl (lv_at hl 1 rfl) ?_
  refine lv_iload_n C.x C.b dX12_bareOf_19 rfl (lv_at hl 2 rfl) ?_
  refine lv_bipush (v := 7) C.x C.b dX12_bareOf_20 (by decide) ?_
  replace hf := x_b1 hf; obtain ⟨_, hk22_5, hf⟩ := hf
  replace hf := x_b1 hf; obtain ⟨x22_6, hx22_6, hf⟩ := hf
  refine x_callV (As := [.int p1, .int 7]) (a := o) (rest := []) C hW hl (qX12_its l E hx22_6) (x_gk hk22_5) (by decide) (by decide) rfl gv_X12_67 ⟨rfl, hd_X12_its⟩ rfl rfl (Nat.le_of_ble_eq_true rfl) dX12_bareOf_22 ⟨Nat.le_of_ble_eq_true rfl, Nat.le_of_ble_eq_true rfl⟩ ⟨Nat.le_of_ble_eq_true rfl, Nat.le_of_ble_eq_true rfl⟩ (fun H locs hW => ?_)
  refine lv_aload_n C.x C.b dX12_bareOf_25 rfl (lv_at hl 1 rfl) ?_
  replace hf := x_b1 hf; obtain ⟨a26_7, ha26_7, hf⟩ := hf
  refine x_getn C hW fg_X12_9_15 ha26_7 dX12_bareOf_26 ?_
  refine lv_bipush (v := 8) C.x C.b dX12_bareOf_29 (by decide) ?_
  replace hf := x_b1 hf; obtain ⟨x31_8, hx31_8, hf⟩ := hf
  refine x_iald C hW hx31_8 dX12_bareOf_31 ?_
  refine lv_iconst (v := 1) C.x C.b dX12_bareOf_32 (by decide) ?_
  refine lv_isub C.x C.b dX12_bareOf_33 ?_
  refine x_mmin C hl T_7_73 T_3_160 T_1_15 T_3_161 (Nat.le_of_ble_eq_true rfl) (Nat.le_of_ble_eq_true rfl) ⟨Nat.le_of_ble_eq_true rfl, Nat.le_of_ble_eq_true rfl⟩ dX12_bareOf_34 ?_
  refine lv_istore_n (lv' := [(3, .int _), (2, .int _), (0, .ref (E.b + _)), (1, .int _)]) C.x C.b dX12_bareOf_37 rfl hl (by decide) rfl (fun ls hl => ?_)
  refine lv_aload_n C.x C.b dX12_bareOf_38 rfl (lv_at hl 2 rfl) ?_
  refine lv_iload_n C.x C.b dX12_bareOf_39 rfl (lv_at hl 3 rfl) ?_
  replace hf := x_b1 hf; obtain ⟨_, hk40_9, hf⟩ := hf
  replace hf := x_b1 hf; obtain ⟨x40_10, hx40_10, hf⟩ := hf
  refine x_callV (As := [.int p1]) (a := o) (rest := []) C hW hl (qX12_hasLadder l E hx40_10) (x_gk hk40_9) (by decide) (by decide) rfl gv_X12_71 ⟨rfl, hd_X12_hasLadder⟩ rfl rfl (Nat.le_of_ble_eq_true rfl) dX12_bareOf_40 ⟨Nat.le_of_ble_eq_true rfl, Nat.le_of_ble_eq_true rfl⟩ ⟨Nat.le_of_ble_eq_true rfl, Nat.le_of_ble_eq_true rfl⟩ (fun H locs hW => ?_)
  refine lv_if_eq (tgt := 58) C.x C.b dX12_bareOf_43 rfl (fun c43 => ?_) (fun c43 => ?_)
  · replace hf := x_ip c43 hf
    refine lv_iconst (v := 0) C.x C.b dX12_bareOf_58 (by decide) ?_
    rw [x_e0 hf]
    exact x_iret C hr hW dX12_bareOf_59
  · replace hf := x_in c43 hf
    refine lv_iconst (v := 0) C.x C.b dX12_bareOf_46 (by decide) ?_
    refine lv_iload_n C.x C.b dX12_bareOf_47 rfl (lv_at hl 0 rfl) ?_
    refine lv_iload_n C.x C.b dX12_bareOf_48 rfl (lv_at hl 1 rfl) ?_
    refine lv_isub C.x C.b dX12_bareOf_49 ?_
    refine lv_iconst (v := 1) C.x C.b dX12_bareOf_50 (by decide) ?_
    refine lv_iadd C.x C.b dX12_bareOf_51 ?_
    refine x_mmax C hl T_7_52 T_3_145 T_1_15 T_3_146 (Nat.le_of_ble_eq_true rfl) (Nat.le_of_ble_eq_true rfl) ⟨Nat.le_of_ble_eq_true rfl, Nat.le_of_ble_eq_true rfl⟩ dX12_bareOf_52 ?_
    refine lv_goto (tgt := 59) C.x C.b dX12_bareOf_55 rfl ?_
    rw [x_e0 hf]
    exact x_iret C hr hW dX12_bareOf_59

theorem dX12_sideOf_0 : decode cX12_sideOf 0 = .ok (.iload_n 0, 1) := by decide +kernel
theorem dX12_sideOf_1 : decode cX12_sideOf 1 = .ok (.iconst 2, 1) := by decide +kernel
theorem dX12_sideOf_2 : decode cX12_sideOf 2 = .ok (.irem, 1) := by decide +kernel
theorem dX12_sideOf_3 : decode cX12_sideOf 3 = .ok (.ifCond .ne 7, 3) := by decide +kernel
theorem dX12_sideOf_6 : decode cX12_sideOf 6 = .ok (.iload_n 0, 1) := by decide +kernel
theorem dX12_sideOf_7 : decode cX12_sideOf 7 = .ok (.goto 14, 3) := by decide +kernel
theorem dX12_sideOf_10 : decode cX12_sideOf 10 = .ok (.iload_n 1, 1) := by decide +kernel
theorem dX12_sideOf_11 : decode cX12_sideOf 11 = .ok (.ifCond .ne 7, 3) := by decide +kernel
theorem dX12_sideOf_14 : decode cX12_sideOf 14 = .ok (.iload_n 0, 1) := by decide +kernel
theorem dX12_sideOf_15 : decode cX12_sideOf 15 = .ok (.goto 6, 3) := by decide +kernel
theorem dX12_sideOf_18 : decode cX12_sideOf 18 = .ok (.iconst 4, 1) := by decide +kernel
theorem dX12_sideOf_19 : decode cX12_sideOf 19 = .ok (.iload_n 0, 1) := by decide +kernel
theorem dX12_sideOf_20 : decode cX12_sideOf 20 = .ok (.isub, 1) := by decide +kernel
theorem dX12_sideOf_21 : decode cX12_sideOf 21 = .ok (.ireturn, 1) := by decide +kernel
def fX12_sideOf (M : Mm) (p1 : Int32) (p2 : Int32) : Option Int32 :=
  if (p1 - p1 / 2 * 2) = 0 then
    some p1
  else
    if p2 = 0 then
      some p1
    else
      some (4 - p1)
set_option maxRecDepth 100000 in
set_option maxHeartbeats 4000000 in
theorem qX12_sideOf (l : Launch) (E : Ev) {M : Mm} {p1 : Int32} {p2 : Int32} {rz : Int32} (hf : fX12_sideOf M p1 p2 = some rz) : Ct l E yX12_sideOf cX12_sideOf 2 (some .int) 0 0 0 0 [.int p1, .int p2] M (some (.int rz)) M := by
  refine ct_of (by decide +kernel) (Nat.le_of_ble_eq_true rfl) fun p e s m args below meth c C hr hin hW ls hl => ?_
  have hl : lv_has ls 2 [(0, .int p1), (1, .int p2)] := hl
  unfold fX12_sideOf at hf
  refine lv_iload_n C.x C.b dX12_sideOf_0 rfl (lv_at hl 0 rfl) ?_
  refine lv_iconst (v := 2) C.x C.b dX12_sideOf_1 (by decide) ?_
  refine lv_irem C.x C.b dX12_sideOf_2 (by decide) ?_
  refine lv_if_ne (tgt := 10) C.x C.b dX12_sideOf_3 rfl (fun c3 => ?_) (fun c3 => ?_)
  · replace hf := x_in c3 hf
    refine lv_iload_n C.x C.b dX12_sideOf_10 rfl (lv_at hl 1 rfl) ?_
    refine lv_if_ne (tgt := 18) C.x C.b dX12_sideOf_11 rfl (fun c11 => ?_) (fun c11 => ?_)
    · replace hf := x_in c11 hf
      refine lv_iconst (v := 4) C.x C.b dX12_sideOf_18 (by decide) ?_
      refine lv_iload_n C.x C.b dX12_sideOf_19 rfl (lv_at hl 0 rfl) ?_
      refine lv_isub C.x C.b dX12_sideOf_20 ?_
      rw [x_e0 hf]
      exact x_iret C hr hW dX12_sideOf_21
    · replace hf := x_ip c11 hf
      refine lv_iload_n C.x C.b dX12_sideOf_14 rfl (lv_at hl 0 rfl) ?_
      refine lv_goto (tgt := 21) C.x C.b dX12_sideOf_15 rfl ?_
      rw [x_e0 hf]
      exact x_iret C hr hW dX12_sideOf_21
  · replace hf := x_ip c3 hf
    refine lv_iload_n C.x C.b dX12_sideOf_6 rfl (lv_at hl 0 rfl) ?_
    refine lv_goto (tgt := 21) C.x C.b dX12_sideOf_7 rfl ?_
    rw [x_e0 hf]
    exact x_iret C hr hW dX12_sideOf_21

theorem dX12_seenFrom_0 : decode cX12_seenFrom 0 = .ok (.iconst 0, 1) := by decide +kernel
theorem dX12_seenFrom_1 : decode cX12_seenFrom 1 = .ok (.istore_n 2, 1) := by decide +kernel
theorem dX12_seenFrom_2 : decode cX12_seenFrom 2 = .ok (.iconst 0, 1) := by decide +kernel
theorem dX12_seenFrom_3 : decode cX12_seenFrom 3 = .ok (.istore_n 3, 1) := by decide +kernel
theorem dX12_seenFrom_4 : decode cX12_seenFrom 4 = .ok (.iload_n 3, 1) := by decide +kernel
theorem dX12_seenFrom_5 : decode cX12_seenFrom 5 = .ok (.iconst 2, 1) := by decide +kernel
theorem dX12_seenFrom_6 : decode cX12_seenFrom 6 = .ok (.if_icmp .ge 56, 3) := by decide +kernel
theorem dX12_seenFrom_9 : decode cX12_seenFrom 9 = .ok (.aload_n 0, 1) := by decide +kernel
theorem dX12_seenFrom_10 : decode cX12_seenFrom 10 = .ok (.getfield 9, 3) := by decide +kernel
theorem dX12_seenFrom_13 : decode cX12_seenFrom 13 = .ok (.iconst 2, 1) := by decide +kernel
theorem dX12_seenFrom_14 : decode cX12_seenFrom 14 = .ok (.iload_n 3, 1) := by decide +kernel
theorem dX12_seenFrom_15 : decode cX12_seenFrom 15 = .ok (.iadd, 1) := by decide +kernel
theorem dX12_seenFrom_16 : decode cX12_seenFrom 16 = .ok (.iaload, 1) := by decide +kernel
theorem dX12_seenFrom_17 : decode cX12_seenFrom 17 = .ok (.istore 4, 2) := by decide +kernel
theorem dX12_seenFrom_19 : decode cX12_seenFrom 19 = .ok (.iload_n 2, 1) := by decide +kernel
theorem dX12_seenFrom_20 : decode cX12_seenFrom 20 = .ok (.iload 4, 2) := by decide +kernel
theorem dX12_seenFrom_22 : decode cX12_seenFrom 22 = .ok (.ifCond .lt 31, 3) := by decide +kernel
theorem dX12_seenFrom_25 : decode cX12_seenFrom 25 = .ok (.iload_n 1, 1) := by decide +kernel
theorem dX12_seenFrom_26 : decode cX12_seenFrom 26 = .ok (.aload_n 0, 1) := by decide +kernel
theorem dX12_seenFrom_27 : decode cX12_seenFrom 27 = .ok (.iload 4, 2) := by decide +kernel
theorem dX12_seenFrom_29 : decode cX12_seenFrom 29 = .ok (.iconst 5, 1) := by decide +kernel
theorem dX12_seenFrom_30 : decode cX12_seenFrom 30 = .ok (.invokevirtual 67, 3) := by decide +kernel
theorem dX12_seenFrom_33 : decode cX12_seenFrom 33 = .ok (.iload_n 3, 1) := by decide +kernel
theorem dX12_seenFrom_34 : decode cX12_seenFrom 34 = .ok (.invokestatic 217, 3) := by decide +kernel
theorem dX12_seenFrom_37 : decode cX12_seenFrom 37 = .ok (.ishr, 1) := by decide +kernel
theorem dX12_seenFrom_38 : decode cX12_seenFrom 38 = .ok (.iconst 1, 1) := by decide +kernel
theorem dX12_seenFrom_39 : decode cX12_seenFrom 39 = .ok (.iand, 1) := by decide +kernel
theorem dX12_seenFrom_40 : decode cX12_seenFrom 40 = .ok (.iconst 1, 1) := by decide +kernel
theorem dX12_seenFrom_41 : decode cX12_seenFrom 41 = .ok (.if_icmp .ne 12, 3) := by decide +kernel
theorem dX12_seenFrom_44 : decode cX12_seenFrom 44 = .ok (.aload_n 0, 1) := by decide +kernel
theorem dX12_seenFrom_45 : decode cX12_seenFrom 45 = .ok (.iload 4, 2) := by decide +kernel
theorem dX12_seenFrom_47 : decode cX12_seenFrom 47 = .ok (.invokevirtual 220, 3) := by decide +kernel
theorem dX12_seenFrom_50 : decode cX12_seenFrom 50 = .ok (.goto 4, 3) := by decide +kernel
theorem dX12_seenFrom_53 : decode cX12_seenFrom 53 = .ok (.iconst 0, 1) := by decide +kernel
theorem dX12_seenFrom_54 : decode cX12_seenFrom 54 = .ok (.iadd, 1) := by decide +kernel
theorem dX12_seenFrom_55 : decode cX12_seenFrom 55 = .ok (.istore_n 2, 1) := by decide +kernel
theorem dX12_seenFrom_56 : decode cX12_seenFrom 56 = .ok (.iinc 3 1, 3) := by decide +kernel
theorem dX12_seenFrom_59 : decode cX12_seenFrom 59 = .ok (.goto (-55), 3) := by decide +kernel
theorem dX12_seenFrom_62 : decode cX12_seenFrom 62 = .ok (.iload_n 2, 1) := by decide +kernel
theorem dX12_seenFrom_63 : decode cX12_seenFrom 63 = .ok (.ireturn, 1) := by decide +kernel
theorem hd_X12_sideOf : yX12_sideOf.cls ≠ "java/lang/invoke/MethodHandle" ∧ yX12_sideOf.cls ≠ "java/lang/invoke/VarHandle" ∧ (parseMethodDescriptor yX12_sideOf.desc).map (fun d => d.parameters.length) = some 2 := by decide +kernel
theorem gs_X12_217 : GoodIn gT (va_wsS "NylonLadderModel" 217 yX12_sideOf (Cond.code yX12_sideOf cX12_sideOf 2 (some .int) :: gT)) := good_S T_7_129 T_7_130 T_1_10 T_7_131
theorem hd_X12_bareOf : yX12_bareOf.cls ≠ "java/lang/invoke/MethodHandle" ∧ yX12_bareOf.cls ≠ "java/lang/invoke/VarHandle" ∧ (parseMethodDescriptor yX12_bareOf.desc).map (fun d => d.parameters.length) = some 1 := by decide +kernel
theorem gv_X12_220 : GoodIn gT (wsV "NylonLadderModel" 220 "NylonLadderModel" yX12_bareOf (Cond.code yX12_bareOf cX12_bareOf 4 (some .int) :: gT)) := good_V T_7_132 T_7_134 TS_63 T_1_10 T_7_135
def fX12_seenFrom_L4 (M : Mm) (o : Nat) (v1 : Int32) : Nat → Int32 → Int32 → Option Int32
  | 0, _, _ => none
  | n + 1, v2, v3 =>
    if 2 ≤ v3 then
      some v2
    else
      B1 (rdN M o 15 0) fun a10_1 =>
      B1 (alI M a10_1 (2 + v3)) fun x16_2 =>
      if x16_2 < 0 then
        fX12_seenFrom_L4 M o v1 n (v2 + 0) (v3 + 1)
      else
        B1 (gk M o 15) fun _ =>
        B1 (fX12_its M o x16_2 5) fun x30_4 =>
        B1 (fX12_sideOf M x30_4 v3) fun x34_5 =>
        if ((v1 >>> (x34_5 &&& 31)) &&& 1) = 1 then
          B1 (gk M o 15) fun _ =>
          B1 (fX12_bareOf M o x16_2) fun x47_7 =>
          fX12_seenFrom_L4 M o v1 n (v2 + x47_7) (v3 + 1)
        else
          fX12_seenFrom_L4 M o v1 n (v2 + 0) (v3 + 1)
def fX12_seenFrom (M : Mm) (o : Nat) (p1 : Int32) : Option Int32 :=
  fX12_seenFrom_L4 M o p1 FL 0 0
set_option maxRecDepth 100000 in
set_option maxHeartbeats 4000000 in
theorem kX12_seenFrom_L4 {l : Launch} {E : Ev} {p : Program} {e : Env} {s : State} {m : MethodId} {args : Array Value} {below : List Frame} {meth : Method} {c : Code} (C : Cx E p s m args meth c cX12_seenFrom yX12_seenFrom.cls 5) (hr : meth.sig.returnType = (some .int)) (hin : yX12_seenFrom.name = "<init>" → meth.name = "<init>") {M : Mm}  {o : Nat} {v1 : Int32} {rz : Int32} : ∀ (n : Nat) (v2 : Int32) (v3 : Int32), fX12_seenFrom_L4 M o v1 n v2 v3 = some rz → ∀ (H : Heap) (locs : List Loc) (ls : Array Slot), Wx E s H locs M → lv_has ls 5 [(0, .ref (E.b + o)), (1, .int v1), (2, .int v2), (3, .int v3)] → W p l e (rM 3 66 0 0) s m args below meth c H locs 0 0 (MQ below (Qp E (some (.int rz)) M) args s 0 0 E.A) (F0 m 4 ls []) := by
  intro n
  induction n with
  | zero =>
    intro v2 v3 hf
    unfold fX12_seenFrom_L4 at hf
    cases hf
  | succ n ih =>
    intro v2 v3 hf H locs ls hW hl
    unfold fX12_seenFrom_L4 at hf
    refine lv_iload_n C.x C.b dX12_seenFrom_4 rfl (lv_at hl 3 rfl) ?_
    refine lv_iconst (v := 2) C.x C.b dX12_seenFrom_5 (by decide) ?_
    refine lv_icmp_ge (tgt := 62) C.x C.b dX12_seenFrom_6 rfl (fun c6 => ?_) (fun c6 => ?_)
    · replace hf := x_ip c6 hf
      refine lv_iload_n C.x C.b dX12_seenFrom_62 rfl (lv_at hl 2 rfl) ?_
      rw [x_e0 hf]
      exact x_iret C hr hW dX12_seenFrom_63
    · replace hf := x_in c6 hf
      refine lv_aload_n C.x C.b dX12_seenFrom_9 rfl (lv_at hl 0 rfl) ?_
      replace hf := x_b1 hf; obtain ⟨a10_1, ha10_1, hf⟩ := hf
      refine x_getn C hW fg_X12_9_15 ha10_1 dX12_seenFrom_10 ?_
      refine lv_iconst (v := 2) C.x C.b dX12_seenFrom_13 (by decide) ?_
      refine lv_iload_n C.x C.b dX12_seenFrom_14 rfl (lv_at hl 3 rfl) ?_
      refine lv_iadd C.x C.b dX12_seenFrom_15 ?_
      replace hf := x_b1 hf; obtain ⟨x16_2, hx16_2, hf⟩ := hf
      refine x_iald C hW hx16_2 dX12_seenFrom_16 ?_
      refine lv_istore (lv' := [(4, .int _), (0, .ref (E.b + _)), (1, .int _), (2, .int _), (3, .int _)]) C.x C.b dX12_seenFrom_17 hl (by decide) rfl (fun ls hl => ?_)
      refine lv_iload_n C.x C.b dX12_seenFrom_19 rfl (lv_at hl 3 rfl) ?_
      refine lv_iload C.x C.b dX12_seenFrom_20 (lv_at hl 0 rfl) ?_
      refine lv_if_lt (tgt := 53) C.x C.b dX12_seenFrom_22 rfl (fun c22 => ?_) (fun c22 => ?_)
      · replace hf := x_ip c22 hf
        refine lv_iconst (v := 0) C.x C.b dX12_seenFrom_53 (by decide) ?_
        refine lv_iadd C.x C.b dX12_seenFrom_54 ?_
        refine lv_istore_n (lv' := [(2, .int _), (4, .int _), (0, .ref (E.b + _)), (1, .int _), (3, .int _)]) C.x C.b dX12_seenFrom_55 rfl hl (by decide) rfl (fun ls hl => ?_)
        refine lv_iinc (v := (v3 + 1)) (lv' := [(3, .int (v3 + 1)), (2, .int _), (4, .int _), (0, .ref (E.b + _)), (1, .int _)]) C.x C.b dX12_seenFrom_56 hl (k := 4) rfl (by first | rfl | decide) (by decide) rfl (fun ls hl => ?_)
        refine lv_goto (tgt := 4) C.x C.b dX12_seenFrom_59 rfl ?_
        exact ih (v2 + 0) (v3 + 1) hf _ _ _ hW (lv_sub hl [3, 4, 1, 0] rfl)
      · replace hf := x_in c22 hf
        refine lv_iload_n C.x C.b dX12_seenFrom_25 rfl (lv_at hl 2 rfl) ?_
        refine lv_aload_n C.x C.b dX12_seenFrom_26 rfl (lv_at hl 1 rfl) ?_
        refine lv_iload C.x C.b dX12_seenFrom_27 (lv_at hl 0 rfl) ?_
        refine lv_iconst (v := 5) C.x C.b dX12_seenFrom_29 (by decide) ?_
        replace hf := x_b1 hf; obtain ⟨_, hk30_3, hf⟩ := hf
        replace hf := x_b1 hf; obtain ⟨x30_4, hx30_4, hf⟩ := hf
        refine x_callV (As := [.int x16_2, .int 5]) (a := o) (rest := [.int v1, .int v2]) C hW hl (qX12_its l E hx30_4) (x_gk hk30_3) (by decide) (by decide) rfl gv_X12_67 ⟨rfl, hd_X12_its⟩ rfl rfl (Nat.le_of_ble_eq_true rfl) dX12_seenFrom_30 ⟨Nat.le_of_ble_eq_true rfl, Nat.le_of_ble_eq_true rfl⟩ ⟨Nat.le_of_ble_eq_true rfl, Nat.le_of_ble_eq_true rfl⟩ (fun H locs hW => ?_)
        refine lv_iload_n C.x C.b dX12_seenFrom_33 rfl (lv_at hl 4 rfl) ?_
        replace hf := x_b1 hf; obtain ⟨x34_5, hx34_5, hf⟩ := hf
        refine x_callS (As := [.int x30_4, .int v3]) (rest := [.int v1, .int v2]) C hW hl (qX12_sideOf l E hx34_5) gs_X12_217 hd_X12_sideOf rfl rfl (Nat.le_of_ble_eq_true rfl) dX12_seenFrom_34 ⟨Nat.le_of_ble_eq_true rfl, Nat.le_of_ble_eq_true rfl⟩ ⟨Nat.le_of_ble_eq_true rfl, Nat.le_of_ble_eq_true rfl⟩ (fun H locs hW => ?_)
        refine lv_ishr C.x C.b dX12_seenFrom_37 ?_
        refine lv_iconst (v := 1) C.x C.b dX12_seenFrom_38 (by decide) ?_
        refine lv_iand C.x C.b dX12_seenFrom_39 ?_
        refine lv_iconst (v := 1) C.x C.b dX12_seenFrom_40 (by decide) ?_
        refine lv_icmp_ne (tgt := 53) C.x C.b dX12_seenFrom_41 rfl (fun c41 => ?_) (fun c41 => ?_)
        · replace hf := x_in c41 hf
          refine lv_iconst (v := 0) C.x C.b dX12_seenFrom_53 (by decide) ?_
          refine lv_iadd C.x C.b dX12_seenFrom_54 ?_
          refine lv_istore_n (lv' := [(2, .int _), (4, .int _), (0, .ref (E.b + _)), (1, .int _), (3, .int _)]) C.x C.b dX12_seenFrom_55 rfl hl (by decide) rfl (fun ls hl => ?_)
          refine lv_iinc (v := (v3 + 1)) (lv' := [(3, .int (v3 + 1)), (2, .int _), (4, .int _), (0, .ref (E.b + _)), (1, .int _)]) C.x C.b dX12_seenFrom_56 hl (k := 4) rfl (by first | rfl | decide) (by decide) rfl (fun ls hl => ?_)
          refine lv_goto (tgt := 4) C.x C.b dX12_seenFrom_59 rfl ?_
          exact ih (v2 + 0) (v3 + 1) hf _ _ _ hW (lv_sub hl [3, 4, 1, 0] rfl)
        · replace hf := x_ip c41 hf
          refine lv_aload_n C.x C.b dX12_seenFrom_44 rfl (lv_at hl 1 rfl) ?_
          refine lv_iload C.x C.b dX12_seenFrom_45 (lv_at hl 0 rfl) ?_
          replace hf := x_b1 hf; obtain ⟨_, hk47_6, hf⟩ := hf
          replace hf := x_b1 hf; obtain ⟨x47_7, hx47_7, hf⟩ := hf
          refine x_callV (As := [.int x16_2]) (a := o) (rest := [.int v2]) C hW hl (qX12_bareOf l E hx47_7) (x_gk hk47_6) (by decide) (by decide) rfl gv_X12_220 ⟨rfl, hd_X12_bareOf⟩ rfl rfl (Nat.le_of_ble_eq_true rfl) dX12_seenFrom_47 ⟨Nat.le_of_ble_eq_true rfl, Nat.le_of_ble_eq_true rfl⟩ ⟨Nat.le_of_ble_eq_true rfl, Nat.le_of_ble_eq_true rfl⟩ (fun H locs hW => ?_)
          refine lv_goto (tgt := 54) C.x C.b dX12_seenFrom_50 rfl ?_
          refine lv_iadd C.x C.b dX12_seenFrom_54 ?_
          refine lv_istore_n (lv' := [(2, .int _), (4, .int _), (0, .ref (E.b + _)), (1, .int _), (3, .int _)]) C.x C.b dX12_seenFrom_55 rfl hl (by decide) rfl (fun ls hl => ?_)
          refine lv_iinc (v := (v3 + 1)) (lv' := [(3, .int (v3 + 1)), (2, .int _), (4, .int _), (0, .ref (E.b + _)), (1, .int _)]) C.x C.b dX12_seenFrom_56 hl (k := 4) rfl (by first | rfl | decide) (by decide) rfl (fun ls hl => ?_)
          refine lv_goto (tgt := 4) C.x C.b dX12_seenFrom_59 rfl ?_
          exact ih (v2 + x47_7) (v3 + 1) hf _ _ _ hW (lv_sub hl [3, 4, 1, 0] rfl)
set_option maxRecDepth 100000 in
set_option maxHeartbeats 4000000 in
theorem qX12_seenFrom (l : Launch) (E : Ev) {M : Mm} {o : Nat} {p1 : Int32} {rz : Int32} (hf : fX12_seenFrom M o p1 = some rz) : Ct l E yX12_seenFrom cX12_seenFrom 5 (some .int) 3 66 0 0 [.ref (E.b + o), .int p1] M (some (.int rz)) M := by
  refine ct_of (by decide +kernel) (Nat.le_of_ble_eq_true rfl) fun p e s m args below meth c C hr hin hW ls hl => ?_
  have hl : lv_has ls 5 [(0, .ref (E.b + o)), (1, .int p1)] := hl
  unfold fX12_seenFrom at hf
  refine lv_iconst (v := 0) C.x C.b dX12_seenFrom_0 (by decide) ?_
  refine lv_istore_n (lv' := [(2, .int _), (0, .ref (E.b + _)), (1, .int _)]) C.x C.b dX12_seenFrom_1 rfl hl (by decide) rfl (fun ls hl => ?_)
  refine lv_iconst (v := 0) C.x C.b dX12_seenFrom_2 (by decide) ?_
  refine lv_istore_n (lv' := [(3, .int _), (2, .int _), (0, .ref (E.b + _)), (1, .int _)]) C.x C.b dX12_seenFrom_3 rfl hl (by decide) rfl (fun ls hl => ?_)
  exact kX12_seenFrom_L4 C hr hin FL 0 0 hf _ _ _ hW (lv_sub hl [2, 3, 1, 0] rfl)

theorem dX12_seen_0 : decode cX12_seen 0 = .ok (.iload_n 1, 1) := by decide +kernel
theorem dX12_seen_1 : decode cX12_seen 1 = .ok (.i2l, 1) := by decide +kernel
theorem dX12_seen_2 : decode cX12_seen 2 = .ok (.lconst 0, 1) := by decide +kernel
theorem dX12_seen_3 : decode cX12_seen 3 = .ok (.ldc2_w 91, 3) := by decide +kernel
theorem dX12_seen_6 : decode cX12_seen 6 = .ok (.invokestatic 61, 3) := by decide +kernel
theorem dX12_seen_9 : decode cX12_seen 9 = .ok (.ifCond .eq 12, 3) := by decide +kernel
theorem dX12_seen_12 : decode cX12_seen 12 = .ok (.aload_n 0, 1) := by decide +kernel
theorem dX12_seen_13 : decode cX12_seen 13 = .ok (.iload_n 2, 1) := by decide +kernel
theorem dX12_seen_14 : decode cX12_seen 14 = .ok (.iload_n 3, 1) := by decide +kernel
theorem dX12_seen_15 : decode cX12_seen 15 = .ok (.invokevirtual 208, 3) := by decide +kernel
theorem dX12_seen_18 : decode cX12_seen 18 = .ok (.ifCond .ne 5, 3) := by decide +kernel
theorem dX12_seen_21 : decode cX12_seen 21 = .ok (.iconst (-1), 1) := by decide +kernel
theorem dX12_seen_22 : decode cX12_seen 22 = .ok (.ireturn, 1) := by decide +kernel
theorem dX12_seen_23 : decode cX12_seen 23 = .ok (.aload_n 0, 1) := by decide +kernel
theorem dX12_seen_24 : decode cX12_seen 24 = .ok (.invokevirtual 211, 3) := by decide +kernel
theorem dX12_seen_27 : decode cX12_seen 27 = .ok (.aload_n 0, 1) := by decide +kernel
theorem dX12_seen_28 : decode cX12_seen 28 = .ok (.iload_n 2, 1) := by decide +kernel
theorem dX12_seen_29 : decode cX12_seen 29 = .ok (.iconst 0, 1) := by decide +kernel
theorem dX12_seen_30 : decode cX12_seen 30 = .ok (.iload_n 3, 1) := by decide +kernel
theorem dX12_seen_31 : decode cX12_seen 31 = .ok (.invokevirtual 199, 3) := by decide +kernel
theorem dX12_seen_34 : decode cX12_seen 34 = .ok (.aload_n 0, 1) := by decide +kernel
theorem dX12_seen_35 : decode cX12_seen 35 = .ok (.iconst 1, 1) := by decide +kernel
theorem dX12_seen_36 : decode cX12_seen 36 = .ok (.iload_n 1, 1) := by decide +kernel
theorem dX12_seen_37 : decode cX12_seen 37 = .ok (.ishl, 1) := by decide +kernel
theorem dX12_seen_38 : decode cX12_seen 38 = .ok (.invokevirtual 223, 3) := by decide +kernel
theorem dX12_seen_41 : decode cX12_seen 41 = .ok (.istore 4, 2) := by decide +kernel
theorem dX12_seen_43 : decode cX12_seen 43 = .ok (.aload_n 0, 1) := by decide +kernel
theorem dX12_seen_44 : decode cX12_seen 44 = .ok (.invokevirtual 214, 3) := by decide +kernel
theorem dX12_seen_47 : decode cX12_seen 47 = .ok (.iload 4, 2) := by decide +kernel
theorem dX12_seen_49 : decode cX12_seen 49 = .ok (.ireturn, 1) := by decide +kernel
theorem hd_X12_seenFrom : yX12_seenFrom.cls ≠ "java/lang/invoke/MethodHandle" ∧ yX12_seenFrom.cls ≠ "java/lang/invoke/VarHandle" ∧ (parseMethodDescriptor yX12_seenFrom.desc).map (fun d => d.parameters.length) = some 1 := by decide +kernel
theorem gv_X12_223 : GoodIn gT (wsV "NylonLadderModel" 223 "NylonLadderModel" yX12_seenFrom (Cond.code yX12_seenFrom cX12_seenFrom 5 (some .int) :: gT)) := good_V T_7_125 T_7_127 TS_62 T_1_10 T_7_128
def fX12_seen (M : Mm) (o : Nat) (p1 : Int32) (p2 : Int32) (p3 : Int32) : Option (Int32 × Mm) :=
  B1 (fX12_in M (p1.toInt64) 0 3) fun x6_1 =>
  if x6_1 = 0 then
    some ((-1), M)
  else
    B1 (gk M o 15) fun _ =>
    B1 (fX12_isWay M o p2 p3) fun x15_3 =>
    if x15_3 = 0 then
      some ((-1), M)
    else
      B1 (gk M o 15) fun _ =>
      B1 (fX12_lends M o) fun M24_5 =>
      B1 (gk M24_5 o 15) fun _ =>
      B1 (fX12_walks M24_5 o p2 0 p3) fun M31_7 =>
      B1 (gk M31_7 o 15) fun _ =>
      B1 (fX12_seenFrom M31_7 o (1 <<< (p1 &&& 31))) fun x38_9 =>
      B1 (gk M31_7 o 15) fun _ =>
      B1 (fX12_laysBack M31_7 o) fun M44_11 =>
      some (x38_9, M44_11)
set_option maxRecDepth 100000 in
set_option maxHeartbeats 4000000 in
theorem qX12_seen (l : Launch) (E : Ev) {M : Mm} {o : Nat} {p1 : Int32} {p2 : Int32} {p3 : Int32} {rz : Int32} {Mz : Mm} (hf : fX12_seen M o p1 p2 p3 = some (rz, Mz)) : Ct l E yX12_seen cX12_seen 5 (some .int) 7 168 0 0 [.ref (E.b + o), .int p1, .int p2, .int p3] M (some (.int rz)) Mz := by
  refine ct_of (by decide +kernel) (Nat.le_of_ble_eq_true rfl) fun p e s m args below meth c C hr hin hW ls hl => ?_
  have hl : lv_has ls 5 [(0, .ref (E.b + o)), (1, .int p1), (2, .int p2), (3, .int p3)] := hl
  unfold fX12_seen at hf
  refine lv_iload_n C.x C.b dX12_seen_0 rfl (lv_at hl 1 rfl) ?_
  refine lv_i2l (v := p1.toInt64) C.x C.b dX12_seen_1 rfl ?_
  refine lv_lconst (v := 0) C.x C.b dX12_seen_2 (by decide) ?_
  refine x_ldc2 (v := 3) C T_6_152 dX12_seen_3 ?_
  replace hf := x_b1 hf; obtain ⟨x6_1, hx6_1, hf⟩ := hf
  refine x_callS (As := [.long (p1.toInt64), .long 0, .long 3]) (rest := []) C hW hl (qX12_in l E hx6_1) gs_X12_61 hd_X12_in rfl rfl (Nat.le_of_ble_eq_true rfl) dX12_seen_6 ⟨Nat.le_of_ble_eq_true rfl, Nat.le_of_ble_eq_true rfl⟩ ⟨Nat.le_of_ble_eq_true rfl, Nat.le_of_ble_eq_true rfl⟩ (fun H locs hW => ?_)
  refine lv_if_eq (tgt := 21) C.x C.b dX12_seen_9 rfl (fun c9 => ?_) (fun c9 => ?_)
  · replace hf := x_ip c9 hf
    refine lv_iconst (v := (-1)) C.x C.b dX12_seen_21 (by decide) ?_
    rw [x_e1 hf, x_e2 hf]
    exact x_iret C hr hW dX12_seen_22
  · replace hf := x_in c9 hf
    refine lv_aload_n C.x C.b dX12_seen_12 rfl (lv_at hl 0 rfl) ?_
    refine lv_iload_n C.x C.b dX12_seen_13 rfl (lv_at hl 2 rfl) ?_
    refine lv_iload_n C.x C.b dX12_seen_14 rfl (lv_at hl 3 rfl) ?_
    replace hf := x_b1 hf; obtain ⟨_, hk15_2, hf⟩ := hf
    replace hf := x_b1 hf; obtain ⟨x15_3, hx15_3, hf⟩ := hf
    refine x_callV (As := [.int p2, .int p3]) (a := o) (rest := []) C hW hl (qX12_isWay l E hx15_3) (x_gk hk15_2) (by decide) (by decide) rfl gv_X12_208 ⟨rfl, hd_X12_isWay⟩ rfl rfl (Nat.le_of_ble_eq_true rfl) dX12_seen_15 ⟨Nat.le_of_ble_eq_true rfl, Nat.le_of_ble_eq_true rfl⟩ ⟨Nat.le_of_ble_eq_true rfl, Nat.le_of_ble_eq_true rfl⟩ (fun H locs hW => ?_)
    refine lv_if_ne (tgt := 23) C.x C.b dX12_seen_18 rfl (fun c18 => ?_) (fun c18 => ?_)
    · replace hf := x_in c18 hf
      refine lv_aload_n C.x C.b dX12_seen_23 rfl (lv_at hl 0 rfl) ?_
      replace hf := x_b1 hf; obtain ⟨_, hk24_4, hf⟩ := hf
      replace hf := x_b1 hf; obtain ⟨M24_5, hM24_5, hf⟩ := hf
      refine x_callV (As := []) (a := o) (rest := []) C hW hl (qX12_lends l E hM24_5) (x_gk hk24_4) (by decide) (by decide) rfl gv_X12_211 ⟨rfl, hd_X12_lends⟩ rfl rfl (Nat.le_of_ble_eq_true rfl) dX12_seen_24 ⟨Nat.le_of_ble_eq_true rfl, Nat.le_of_ble_eq_true rfl⟩ ⟨Nat.le_of_ble_eq_true rfl, Nat.le_of_ble_eq_true rfl⟩ (fun H locs hW => ?_)
      refine lv_aload_n C.x C.b dX12_seen_27 rfl (lv_at hl 0 rfl) ?_
      refine lv_iload_n C.x C.b dX12_seen_28 rfl (lv_at hl 2 rfl) ?_
      refine lv_iconst (v := 0) C.x C.b dX12_seen_29 (by decide) ?_
      refine lv_iload_n C.x C.b dX12_seen_30 rfl (lv_at hl 3 rfl) ?_
      replace hf := x_b1 hf; obtain ⟨_, hk31_6, hf⟩ := hf
      replace hf := x_b1 hf; obtain ⟨M31_7, hM31_7, hf⟩ := hf
      refine x_callV (As := [.int p2, .int 0, .int p3]) (a := o) (rest := []) C hW hl (qX12_walks l E hM31_7) (x_gk hk31_6) (by decide) (by decide) rfl gv_X12_199 ⟨rfl, hd_X12_walks⟩ rfl rfl (Nat.le_of_ble_eq_true rfl) dX12_seen_31 ⟨Nat.le_of_ble_eq_true rfl, Nat.le_of_ble_eq_true rfl⟩ ⟨Nat.le_of_ble_eq_true rfl, Nat.le_of_ble_eq_true rfl⟩ (fun H locs hW => ?_)
      refine lv_aload_n C.x C.b dX12_seen_34 rfl (lv_at hl 0 rfl) ?_
      refine lv_iconst (v := 1) C.x C.b dX12_seen_35 (by decide) ?_
      refine lv_iload_n C.x C.b dX12_seen_36 rfl (lv_at hl 1 rfl) ?_
      refine lv_ishl C.x C.b dX12_seen_37 ?_
      replace hf := x_b1 hf; obtain ⟨_, hk38_8, hf⟩ := hf
      replace hf := x_b1 hf; obtain ⟨x38_9, hx38_9, hf⟩ := hf
      refine x_callV (As := [.int (1 <<< (p1 &&& 31))]) (a := o) (rest := []) C hW hl (qX12_seenFrom l E hx38_9) (x_gk hk38_8) (by decide) (by decide) rfl gv_X12_223 ⟨rfl, hd_X12_seenFrom⟩ rfl rfl (Nat.le_of_ble_eq_true rfl) dX12_seen_38 ⟨Nat.le_of_ble_eq_true rfl, Nat.le_of_ble_eq_true rfl⟩ ⟨Nat.le_of_ble_eq_true rfl, Nat.le_of_ble_eq_true rfl⟩ (fun H locs hW => ?_)
      refine lv_istore (lv' := [(4, .int _), (0, .ref (E.b + _)), (1, .int _), (2, .int _), (3, .int _)]) C.x C.b dX12_seen_41 hl (by decide) rfl (fun ls hl => ?_)
      refine lv_aload_n C.x C.b dX12_seen_43 rfl (lv_at hl 1 rfl) ?_
      replace hf := x_b1 hf; obtain ⟨_, hk44_10, hf⟩ := hf
      replace hf := x_b1 hf; obtain ⟨M44_11, hM44_11, hf⟩ := hf
      refine x_callV (As := []) (a := o) (rest := []) C hW hl (qX12_laysBack l E hM44_11) (x_gk hk44_10) (by decide) (by decide) rfl gv_X12_214 ⟨rfl, hd_X12_laysBack⟩ rfl rfl (Nat.le_of_ble_eq_true rfl) dX12_seen_44 ⟨Nat.le_of_ble_eq_true rfl, Nat.le_of_ble_eq_true rfl⟩ ⟨Nat.le_of_ble_eq_true rfl, Nat.le_of_ble_eq_true rfl⟩ (fun H locs hW => ?_)
      refine lv_iload C.x C.b dX12_seen_47 (lv_at hl 0 rfl) ?_
      rw [x_e1 hf, x_e2 hf]
      exact x_iret C hr hW dX12_seen_49
    · replace hf := x_ip c18 hf
      refine lv_iconst (v := (-1)) C.x C.b dX12_seen_21 (by decide) ?_
      rw [x_e1 hf, x_e2 hf]
      exact x_iret C hr hW dX12_seen_22

theorem dX12_when_0 : decode cX12_when 0 = .ok (.iload_n 1, 1) := by decide +kernel
theorem dX12_when_1 : decode cX12_when 1 = .ok (.invokestatic 133, 3) := by decide +kernel
theorem dX12_when_4 : decode cX12_when 4 = .ok (.ifCond .eq 22, 3) := by decide +kernel
theorem dX12_when_7 : decode cX12_when 7 = .ok (.iload_n 2, 1) := by decide +kernel
theorem dX12_when_8 : decode cX12_when 8 = .ok (.invokestatic 133, 3) := by decide +kernel
theorem dX12_when_11 : decode cX12_when 11 = .ok (.ifCond .eq 15, 3) := by decide +kernel
theorem dX12_when_14 : decode cX12_when 14 = .ok (.iload_n 3, 1) := by decide +kernel
theorem dX12_when_15 : decode cX12_when 15 = .ok (.i2l, 1) := by decide +kernel
theorem dX12_when_16 : decode cX12_when 16 = .ok (.lconst 1, 1) := by decide +kernel
theorem dX12_when_17 : decode cX12_when 17 = .ok (.ldc2_w 226, 3) := by decide +kernel
theorem dX12_when_20 : decode cX12_when 20 = .ok (.invokestatic 61, 3) := by decide +kernel
theorem dX12_when_23 : decode cX12_when 23 = .ok (.ifCond .ne 5, 3) := by decide +kernel
theorem dX12_when_26 : decode cX12_when 26 = .ok (.iconst (-1), 1) := by decide +kernel
theorem dX12_when_27 : decode cX12_when 27 = .ok (.ireturn, 1) := by decide +kernel
theorem dX12_when_28 : decode cX12_when 28 = .ok (.aload_n 0, 1) := by decide +kernel
theorem dX12_when_29 : decode cX12_when 29 = .ok (.getfield 9, 3) := by decide +kernel
theorem dX12_when_32 : decode cX12_when 32 = .ok (.iconst 2, 1) := by decide +kernel
theorem dX12_when_33 : decode cX12_when 33 = .ok (.iload_n 1, 1) := by decide +kernel
theorem dX12_when_34 : decode cX12_when 34 = .ok (.iadd, 1) := by decide +kernel
theorem dX12_when_35 : decode cX12_when 35 = .ok (.iaload, 1) := by decide +kernel
theorem dX12_when_36 : decode cX12_when 36 = .ok (.istore 4, 2) := by decide +kernel
theorem dX12_when_38 : decode cX12_when 38 = .ok (.iload 4, 2) := by decide +kernel
theorem dX12_when_40 : decode cX12_when 40 = .ok (.ifCond .ge 6, 3) := by decide +kernel
theorem dX12_when_43 : decode cX12_when 43 = .ok (.bipush (-3), 2) := by decide +kernel
theorem dX12_when_45 : decode cX12_when 45 = .ok (.ireturn, 1) := by decide +kernel
theorem dX12_when_46 : decode cX12_when 46 = .ok (.aload_n 0, 1) := by decide +kernel
theorem dX12_when_47 : decode cX12_when 47 = .ok (.invokevirtual 211, 3) := by decide +kernel
theorem dX12_when_50 : decode cX12_when 50 = .ok (.iconst 0, 1) := by decide +kernel
theorem dX12_when_51 : decode cX12_when 51 = .ok (.istore 5, 2) := by decide +kernel
theorem dX12_when_53 : decode cX12_when 53 = .ok (.aload_n 0, 1) := by decide +kernel
theorem dX12_when_54 : decode cX12_when 54 = .ok (.getfield 9, 3) := by decide +kernel
theorem dX12_when_57 : decode cX12_when 57 = .ok (.bipush 12, 2) := by decide +kernel
theorem dX12_when_59 : decode cX12_when 59 = .ok (.iload_n 2, 1) := by decide +kernel
theorem dX12_when_60 : decode cX12_when 60 = .ok (.iadd, 1) := by decide +kernel
theorem dX12_when_61 : decode cX12_when 61 = .ok (.iaload, 1) := by decide +kernel
theorem dX12_when_62 : decode cX12_when 62 = .ok (.istore 6, 2) := by decide +kernel
theorem dX12_when_64 : decode cX12_when 64 = .ok (.iload 5, 2) := by decide +kernel
theorem dX12_when_66 : decode cX12_when 66 = .ok (.iload 6, 2) := by decide +kernel
theorem dX12_when_68 : decode cX12_when 68 = .ok (.if_icmp .gt 35, 3) := by decide +kernel
theorem dX12_when_71 : decode cX12_when 71 = .ok (.aload_n 0, 1) := by decide +kernel
theorem dX12_when_72 : decode cX12_when 72 = .ok (.iload 4, 2) := by decide +kernel
theorem dX12_when_74 : decode cX12_when 74 = .ok (.invokevirtual 108, 3) := by decide +kernel
theorem dX12_when_77 : decode cX12_when 77 = .ok (.iload_n 3, 1) := by decide +kernel
theorem dX12_when_78 : decode cX12_when 78 = .ok (.if_icmp .ge 25, 3) := by decide +kernel
theorem dX12_when_81 : decode cX12_when 81 = .ok (.aload_n 0, 1) := by decide +kernel
theorem dX12_when_82 : decode cX12_when 82 = .ok (.iload_n 2, 1) := by decide +kernel
theorem dX12_when_83 : decode cX12_when 83 = .ok (.iload 5, 2) := by decide +kernel
theorem dX12_when_85 : decode cX12_when 85 = .ok (.iload 5, 2) := by decide +kernel
theorem dX12_when_87 : decode cX12_when 87 = .ok (.iconst 1, 1) := by decide +kernel
theorem dX12_when_88 : decode cX12_when 88 = .ok (.iadd, 1) := by decide +kernel
theorem dX12_when_89 : decode cX12_when 89 = .ok (.iload 6, 2) := by decide +kernel
theorem dX12_when_91 : decode cX12_when 91 = .ok (.invokestatic 157, 3) := by decide +kernel
theorem dX12_when_94 : decode cX12_when 94 = .ok (.invokevirtual 199, 3) := by decide +kernel
theorem dX12_when_97 : decode cX12_when 97 = .ok (.iinc 5 1, 3) := by decide +kernel
theorem dX12_when_100 : decode cX12_when 100 = .ok (.goto (-36), 3) := by decide +kernel
theorem dX12_when_103 : decode cX12_when 103 = .ok (.aload_n 0, 1) := by decide +kernel
theorem dX12_when_104 : decode cX12_when 104 = .ok (.invokevirtual 214, 3) := by decide +kernel
theorem dX12_when_107 : decode cX12_when 107 = .ok (.iload 5, 2) := by decide +kernel
theorem dX12_when_109 : decode cX12_when 109 = .ok (.iload 6, 2) := by decide +kernel
theorem dX12_when_111 : decode cX12_when 111 = .ok (.if_icmp .gt 8, 3) := by decide +kernel
theorem dX12_when_114 : decode cX12_when 114 = .ok (.iload 5, 2) := by decide +kernel
theorem dX12_when_116 : decode cX12_when 116 = .ok (.goto 5, 3) := by decide +kernel
theorem dX12_when_119 : decode cX12_when 119 = .ok (.bipush (-3), 2) := by decide +kernel
theorem dX12_when_121 : decode cX12_when 121 = .ok (.ireturn, 1) := by decide +kernel
def fX12_when_L64 (o : Nat) (v2 : Int32) (v3 : Int32) (v4 : Int32) (v6 : Int32) : Nat → Int32 → Mm → Option (Int32 × Mm)
  | 0, _, _ => none
  | n + 1, v5, M =>
    if v6 < v5 then
      B1 (gk M o 15) fun _ =>
      B1 (fX12_laysBack M o) fun M104_11 =>
      if v6 < v5 then
        some ((-3), M104_11)
      else
        some (v5, M104_11)
    else
      B1 (gk M o 15) fun _ =>
      B1 (fX12_openOf M o v4) fun x74_13 =>
      if v3 ≤ x74_13 then
        B1 (gk M o 15) fun _ =>
        B1 (fX12_laysBack M o) fun M104_15 =>
        if v6 < v5 then
          some ((-3), M104_15)
        else
          some (v5, M104_15)
      else
        B1 (gk M o 15) fun _ =>
        B1 (fX12_walks M o v2 v5 (mnI (v5 + 1) v6)) fun M94_17 =>
        fX12_when_L64 o v2 v3 v4 v6 n (v5 + 1) M94_17
def fX12_when (M : Mm) (o : Nat) (p1 : Int32) (p2 : Int32) (p3 : Int32) : Option (Int32 × Mm) :=
  B1 (fX12_isTwo M p1) fun x1_1 =>
  if x1_1 = 0 then
    some ((-1), M)
  else
    B1 (fX12_isTwo M p2) fun x8_2 =>
    if x8_2 = 0 then
      some ((-1), M)
    else
      B1 (fX12_in M (p3.toInt64) 1 100) fun x20_3 =>
      if x20_3 = 0 then
        some ((-1), M)
      else
        B1 (rdN M o 15 0) fun a29_4 =>
        B1 (alI M a29_4 (2 + p1)) fun x35_5 =>
        if 0 ≤ x35_5 then
          B1 (gk M o 15) fun _ =>
          B1 (fX12_lends M o) fun M47_7 =>
          B1 (rdN M47_7 o 15 0) fun a54_8 =>
          B1 (alI M47_7 a54_8 (12 + p2)) fun x61_9 =>
          fX12_when_L64 o p2 p3 x35_5 x61_9 FL 0 M47_7
        else
          some ((-3), M)
set_option maxRecDepth 100000 in
set_option maxHeartbeats 4000000 in
theorem kX12_when_L64 {l : Launch} {E : Ev} {p : Program} {e : Env} {s : State} {m : MethodId} {args : Array Value} {below : List Frame} {meth : Method} {c : Code} (C : Cx E p s m args meth c cX12_when yX12_when.cls 7) (hr : meth.sig.returnType = (some .int)) (hin : yX12_when.name = "<init>" → meth.name = "<init>")  {o : Nat} {v2 : Int32} {v3 : Int32} {v4 : Int32} {v6 : Int32} {rz : Int32} {Mz : Mm} : ∀ (n : Nat) (v5 : Int32) (M : Mm), fX12_when_L64 o v2 v3 v4 v6 n v5 M = some (rz, Mz) → ∀ (H : Heap) (locs : List Loc) (ls : Array Slot), Wx E s H locs M → lv_has ls 7 [(0, .ref (E.b + o)), (2, .int v2), (3, .int v3), (4, .int v4), (5, .int v5), (6, .int v6)] → W p l e (rM 7 168 0 0) s m args below meth c H locs 0 0 (MQ below (Qp E (some (.int rz)) Mz) args s 0 0 E.A) (F0 m 64 ls []) := by
  intro n
  induction n with
  | zero =>
    intro v5 M hf
    unfold fX12_when_L64 at hf
    cases hf
  | succ n ih =>
    intro v5 M hf H locs ls hW hl
    unfold fX12_when_L64 at hf
    refine lv_iload C.x C.b dX12_when_64 (lv_at hl 4 rfl) ?_
    refine lv_iload C.x C.b dX12_when_66 (lv_at hl 5 rfl) ?_
    refine lv_icmp_gt (tgt := 103) C.x C.b dX12_when_68 rfl (fun c68 => ?_) (fun c68 => ?_)
    · replace hf := x_ip c68 hf
      refine lv_aload_n C.x C.b dX12_when_103 rfl (lv_at hl 0 rfl) ?_
      replace hf := x_b1 hf; obtain ⟨_, hk104_10, hf⟩ := hf
      replace hf := x_b1 hf; obtain ⟨M104_11, hM104_11, hf⟩ := hf
      refine x_callV (As := []) (a := o) (rest := []) C hW hl (qX12_laysBack l E hM104_11) (x_gk hk104_10) (by decide) (by decide) rfl gv_X12_214 ⟨rfl, hd_X12_laysBack⟩ rfl rfl (Nat.le_of_ble_eq_true rfl) dX12_when_104 ⟨Nat.le_of_ble_eq_true rfl, Nat.le_of_ble_eq_true rfl⟩ ⟨Nat.le_of_ble_eq_true rfl, Nat.le_of_ble_eq_true rfl⟩ (fun H locs hW => ?_)
      refine lv_iload C.x C.b dX12_when_107 (lv_at hl 4 rfl) ?_
      refine lv_iload C.x C.b dX12_when_109 (lv_at hl 5 rfl) ?_
      refine lv_icmp_gt (tgt := 119) C.x C.b dX12_when_111 rfl (fun c111 => ?_) (fun c111 => ?_)
      · replace hf := x_ip c111 hf
        refine lv_bipush (v := (-3)) C.x C.b dX12_when_119 (by decide) ?_
        rw [x_e1 hf, x_e2 hf]
        exact x_iret C hr hW dX12_when_121
      · replace hf := x_in c111 hf
        refine lv_iload C.x C.b dX12_when_114 (lv_at hl 4 rfl) ?_
        refine lv_goto (tgt := 121) C.x C.b dX12_when_116 rfl ?_
        rw [x_e1 hf, x_e2 hf]
        exact x_iret C hr hW dX12_when_121
    · replace hf := x_in c68 hf
      refine lv_aload_n C.x C.b dX12_when_71 rfl (lv_at hl 0 rfl) ?_
      refine lv_iload C.x C.b dX12_when_72 (lv_at hl 3 rfl) ?_
      replace hf := x_b1 hf; obtain ⟨_, hk74_12, hf⟩ := hf
      replace hf := x_b1 hf; obtain ⟨x74_13, hx74_13, hf⟩ := hf
      refine x_callV (As := [.int v4]) (a := o) (rest := []) C hW hl (qX12_openOf l E hx74_13) (x_gk hk74_12) (by decide) (by decide) rfl gv_X12_108 ⟨rfl, hd_X12_openOf⟩ rfl rfl (Nat.le_of_ble_eq_true rfl) dX12_when_74 ⟨Nat.le_of_ble_eq_true rfl, Nat.le_of_ble_eq_true rfl⟩ ⟨Nat.le_of_ble_eq_true rfl, Nat.le_of_ble_eq_true rfl⟩ (fun H locs hW => ?_)
      refine lv_iload_n C.x C.b dX12_when_77 rfl (lv_at hl 2 rfl) ?_
      refine lv_icmp_ge (tgt := 103) C.x C.b dX12_when_78 rfl (fun c78 => ?_) (fun c78 => ?_)
      · replace hf := x_ip c78 hf
        refine lv_aload_n C.x C.b dX12_when_103 rfl (lv_at hl 0 rfl) ?_
        replace hf := x_b1 hf; obtain ⟨_, hk104_14, hf⟩ := hf
        replace hf := x_b1 hf; obtain ⟨M104_15, hM104_15, hf⟩ := hf
        refine x_callV (As := []) (a := o) (rest := []) C hW hl (qX12_laysBack l E hM104_15) (x_gk hk104_14) (by decide) (by decide) rfl gv_X12_214 ⟨rfl, hd_X12_laysBack⟩ rfl rfl (Nat.le_of_ble_eq_true rfl) dX12_when_104 ⟨Nat.le_of_ble_eq_true rfl, Nat.le_of_ble_eq_true rfl⟩ ⟨Nat.le_of_ble_eq_true rfl, Nat.le_of_ble_eq_true rfl⟩ (fun H locs hW => ?_)
        refine lv_iload C.x C.b dX12_when_107 (lv_at hl 4 rfl) ?_
        refine lv_iload C.x C.b dX12_when_109 (lv_at hl 5 rfl) ?_
        refine lv_icmp_gt (tgt := 119) C.x C.b dX12_when_111 rfl (fun c111 => ?_) (fun c111 => ?_)
        · replace hf := x_ip c111 hf
          refine lv_bipush (v := (-3)) C.x C.b dX12_when_119 (by decide) ?_
          rw [x_e1 hf, x_e2 hf]
          exact x_iret C hr hW dX12_when_121
        · replace hf := x_in c111 hf
          refine lv_iload C.x C.b dX12_when_114 (lv_at hl 4 rfl) ?_
          refine lv_goto (tgt := 121) C.x C.b dX12_when_116 rfl ?_
          rw [x_e1 hf, x_e2 hf]
          exact x_iret C hr hW dX12_when_121
      · replace hf := x_in c78 hf
        refine lv_aload_n C.x C.b dX12_when_81 rfl (lv_at hl 0 rfl) ?_
        refine lv_iload_n C.x C.b dX12_when_82 rfl (lv_at hl 1 rfl) ?_
        refine lv_iload C.x C.b dX12_when_83 (lv_at hl 4 rfl) ?_
        refine lv_iload C.x C.b dX12_when_85 (lv_at hl 4 rfl) ?_
        refine lv_iconst (v := 1) C.x C.b dX12_when_87 (by decide) ?_
        refine lv_iadd C.x C.b dX12_when_88 ?_
        refine lv_iload C.x C.b dX12_when_89 (lv_at hl 5 rfl) ?_
        refine x_mmin C hl T_7_73 T_3_160 T_1_15 T_3_161 (Nat.le_of_ble_eq_true rfl) (Nat.le_of_ble_eq_true rfl) ⟨Nat.le_of_ble_eq_true rfl, Nat.le_of_ble_eq_true rfl⟩ dX12_when_91 ?_
        replace hf := x_b1 hf; obtain ⟨_, hk94_16, hf⟩ := hf
        replace hf := x_b1 hf; obtain ⟨M94_17, hM94_17, hf⟩ := hf
        refine x_callV (As := [.int v2, .int v5, .int (mnI (v5 + 1) v6)]) (a := o) (rest := []) C hW hl (qX12_walks l E hM94_17) (x_gk hk94_16) (by decide) (by decide) rfl gv_X12_199 ⟨rfl, hd_X12_walks⟩ rfl rfl (Nat.le_of_ble_eq_true rfl) dX12_when_94 ⟨Nat.le_of_ble_eq_true rfl, Nat.le_of_ble_eq_true rfl⟩ ⟨Nat.le_of_ble_eq_true rfl, Nat.le_of_ble_eq_true rfl⟩ (fun H locs hW => ?_)
        refine lv_iinc (v := (v5 + 1)) (lv' := [(5, .int (v5 + 1)), (0, .ref (E.b + _)), (2, .int _), (3, .int _), (4, .int _), (6, .int _)]) C.x C.b dX12_when_97 hl (k := 4) rfl (by first | rfl | decide) (by decide) rfl (fun ls hl => ?_)
        refine lv_goto (tgt := 64) C.x C.b dX12_when_100 rfl ?_
        exact ih (v5 + 1) M94_17 hf _ _ _ hW (lv_sub hl [1, 2, 3, 4, 0, 5] rfl)
set_option maxRecDepth 100000 in
set_option maxHeartbeats 4000000 in
theorem qX12_when (l : Launch) (E : Ev) {M : Mm} {o : Nat} {p1 : Int32} {p2 : Int32} {p3 : Int32} {rz : Int32} {Mz : Mm} (hf : fX12_when M o p1 p2 p3 = some (rz, Mz)) : Ct l E yX12_when cX12_when 7 (some .int) 7 168 0 0 [.ref (E.b + o), .int p1, .int p2, .int p3] M (some (.int rz)) Mz := by
  refine ct_of (by decide +kernel) (Nat.le_of_ble_eq_true rfl) fun p e s m args below meth c C hr hin hW ls hl => ?_
  have hl : lv_has ls 7 [(0, .ref (E.b + o)), (1, .int p1), (2, .int p2), (3, .int p3)] := hl
  unfold fX12_when at hf
  refine lv_iload_n C.x C.b dX12_when_0 rfl (lv_at hl 1 rfl) ?_
  replace hf := x_b1 hf; obtain ⟨x1_1, hx1_1, hf⟩ := hf
  refine x_callS (As := [.int p1]) (rest := []) C hW hl (qX12_isTwo l E hx1_1) gs_X12_133 hd_X12_isTwo rfl rfl (Nat.le_of_ble_eq_true rfl) dX12_when_1 ⟨Nat.le_of_ble_eq_true rfl, Nat.le_of_ble_eq_true rfl⟩ ⟨Nat.le_of_ble_eq_true rfl, Nat.le_of_ble_eq_true rfl⟩ (fun H locs hW => ?_)
  refine lv_if_eq (tgt := 26) C.x C.b dX12_when_4 rfl (fun c4 => ?_) (fun c4 => ?_)
  · replace hf := x_ip c4 hf
    refine lv_iconst (v := (-1)) C.x C.b dX12_when_26 (by decide) ?_
    rw [x_e1 hf, x_e2 hf]
    exact x_iret C hr hW dX12_when_27
  · replace hf := x_in c4 hf
    refine lv_iload_n C.x C.b dX12_when_7 rfl (lv_at hl 2 rfl) ?_
    replace hf := x_b1 hf; obtain ⟨x8_2, hx8_2, hf⟩ := hf
    refine x_callS (As := [.int p2]) (rest := []) C hW hl (qX12_isTwo l E hx8_2) gs_X12_133 hd_X12_isTwo rfl rfl (Nat.le_of_ble_eq_true rfl) dX12_when_8 ⟨Nat.le_of_ble_eq_true rfl, Nat.le_of_ble_eq_true rfl⟩ ⟨Nat.le_of_ble_eq_true rfl, Nat.le_of_ble_eq_true rfl⟩ (fun H locs hW => ?_)
    refine lv_if_eq (tgt := 26) C.x C.b dX12_when_11 rfl (fun c11 => ?_) (fun c11 => ?_)
    · replace hf := x_ip c11 hf
      refine lv_iconst (v := (-1)) C.x C.b dX12_when_26 (by decide) ?_
      rw [x_e1 hf, x_e2 hf]
      exact x_iret C hr hW dX12_when_27
    · replace hf := x_in c11 hf
      refine lv_iload_n C.x C.b dX12_when_14 rfl (lv_at hl 3 rfl) ?_
      refine lv_i2l (v := p3.toInt64) C.x C.b dX12_when_15 rfl ?_
      refine lv_lconst (v := 1) C.x C.b dX12_when_16 (by decide) ?_
      refine x_ldc2 (v := 100) C T_7_140 dX12_when_17 ?_
      replace hf := x_b1 hf; obtain ⟨x20_3, hx20_3, hf⟩ := hf
      refine x_callS (As := [.long (p3.toInt64), .long 1, .long 100]) (rest := []) C hW hl (qX12_in l E hx20_3) gs_X12_61 hd_X12_in rfl rfl (Nat.le_of_ble_eq_true rfl) dX12_when_20 ⟨Nat.le_of_ble_eq_true rfl, Nat.le_of_ble_eq_true rfl⟩ ⟨Nat.le_of_ble_eq_true rfl, Nat.le_of_ble_eq_true rfl⟩ (fun H locs hW => ?_)
      refine lv_if_ne (tgt := 28) C.x C.b dX12_when_23 rfl (fun c23 => ?_) (fun c23 => ?_)
      · replace hf := x_in c23 hf
        refine lv_aload_n C.x C.b dX12_when_28 rfl (lv_at hl 0 rfl) ?_
        replace hf := x_b1 hf; obtain ⟨a29_4, ha29_4, hf⟩ := hf
        refine x_getn C hW fg_X12_9_15 ha29_4 dX12_when_29 ?_
        refine lv_iconst (v := 2) C.x C.b dX12_when_32 (by decide) ?_
        refine lv_iload_n C.x C.b dX12_when_33 rfl (lv_at hl 1 rfl) ?_
        refine lv_iadd C.x C.b dX12_when_34 ?_
        replace hf := x_b1 hf; obtain ⟨x35_5, hx35_5, hf⟩ := hf
        refine x_iald C hW hx35_5 dX12_when_35 ?_
        refine lv_istore (lv' := [(4, .int _), (0, .ref (E.b + _)), (1, .int _), (2, .int _), (3, .int _)]) C.x C.b dX12_when_36 hl (by decide) rfl (fun ls hl => ?_)
        refine lv_iload C.x C.b dX12_when_38 (lv_at hl 0 rfl) ?_
        refine lv_if_ge (tgt := 46) C.x C.b dX12_when_40 rfl (fun c40 => ?_) (fun c40 => ?_)
        · replace hf := x_ip c40 hf
          refine lv_aload_n C.x C.b dX12_when_46 rfl (lv_at hl 1 rfl) ?_
          replace hf := x_b1 hf; obtain ⟨_, hk47_6, hf⟩ := hf
          replace hf := x_b1 hf; obtain ⟨M47_7, hM47_7, hf⟩ := hf
          refine x_callV (As := []) (a := o) (rest := []) C hW hl (qX12_lends l E hM47_7) (x_gk hk47_6) (by decide) (by decide) rfl gv_X12_211 ⟨rfl, hd_X12_lends⟩ rfl rfl (Nat.le_of_ble_eq_true rfl) dX12_when_47 ⟨Nat.le_of_ble_eq_true rfl, Nat.le_of_ble_eq_true rfl⟩ ⟨Nat.le_of_ble_eq_true rfl, Nat.le_of_ble_eq_true rfl⟩ (fun H locs hW => ?_)
          refine lv_iconst (v := 0) C.x C.b dX12_when_50 (by decide) ?_
          refine lv_istore (lv' := [(5, .int _), (4, .int _), (0, .ref (E.b + _)), (1, .int _), (2, .int _), (3, .int _)]) C.x C.b dX12_when_51 hl (by decide) rfl (fun ls hl => ?_)
          refine lv_aload_n C.x C.b dX12_when_53 rfl (lv_at hl 2 rfl) ?_
          replace hf := x_b1 hf; obtain ⟨a54_8, ha54_8, hf⟩ := hf
          refine x_getn C hW fg_X12_9_15 ha54_8 dX12_when_54 ?_
          refine lv_bipush (v := 12) C.x C.b dX12_when_57 (by decide) ?_
          refine lv_iload_n C.x C.b dX12_when_59 rfl (lv_at hl 4 rfl) ?_
          refine lv_iadd C.x C.b dX12_when_60 ?_
          replace hf := x_b1 hf; obtain ⟨x61_9, hx61_9, hf⟩ := hf
          refine x_iald C hW hx61_9 dX12_when_61 ?_
          refine lv_istore (lv' := [(6, .int _), (5, .int _), (4, .int _), (0, .ref (E.b + _)), (1, .int _), (2, .int _), (3, .int _)]) C.x C.b dX12_when_62 hl (by decide) rfl (fun ls hl => ?_)
          exact kX12_when_L64 C hr hin FL 0 M47_7 hf _ _ _ hW (lv_sub hl [3, 5, 6, 2, 1, 0] rfl)
        · replace hf := x_in c40 hf
          refine lv_bipush (v := (-3)) C.x C.b dX12_when_43 (by decide) ?_
          rw [x_e1 hf, x_e2 hf]
          exact x_iret C hr hW dX12_when_45
      · replace hf := x_ip c23 hf
        refine lv_iconst (v := (-1)) C.x C.b dX12_when_26 (by decide) ?_
        rw [x_e1 hf, x_e2 hf]
        exact x_iret C hr hW dX12_when_27

theorem dX12_dabbedAt_0 : decode cX12_dabbedAt 0 = .ok (.aload_n 0, 1) := by decide +kernel
theorem dX12_dabbedAt_1 : decode cX12_dabbedAt 1 = .ok (.invokevirtual 211, 3) := by decide +kernel
theorem dX12_dabbedAt_4 : decode cX12_dabbedAt 4 = .ok (.aload_n 0, 1) := by decide +kernel
theorem dX12_dabbedAt_5 : decode cX12_dabbedAt 5 = .ok (.iload_n 2, 1) := by decide +kernel
theorem dX12_dabbedAt_6 : decode cX12_dabbedAt 6 = .ok (.iconst 0, 1) := by decide +kernel
theorem dX12_dabbedAt_7 : decode cX12_dabbedAt 7 = .ok (.iload_n 3, 1) := by decide +kernel
theorem dX12_dabbedAt_8 : decode cX12_dabbedAt 8 = .ok (.invokevirtual 199, 3) := by decide +kernel
theorem dX12_dabbedAt_11 : decode cX12_dabbedAt 11 = .ok (.aload_n 0, 1) := by decide +kernel
theorem dX12_dabbedAt_12 : decode cX12_dabbedAt 12 = .ok (.iload_n 1, 1) := by decide +kernel
theorem dX12_dabbedAt_13 : decode cX12_dabbedAt 13 = .ok (.aload_n 0, 1) := by decide +kernel
theorem dX12_dabbedAt_14 : decode cX12_dabbedAt 14 = .ok (.iload_n 1, 1) := by decide +kernel
theorem dX12_dabbedAt_15 : decode cX12_dabbedAt 15 = .ok (.bipush 6, 2) := by decide +kernel
theorem dX12_dabbedAt_17 : decode cX12_dabbedAt 17 = .ok (.invokevirtual 67, 3) := by decide +kernel
theorem dX12_dabbedAt_20 : decode cX12_dabbedAt 20 = .ok (.iconst 1, 1) := by decide +kernel
theorem dX12_dabbedAt_21 : decode cX12_dabbedAt 21 = .ok (.isub, 1) := by decide +kernel
theorem dX12_dabbedAt_22 : decode cX12_dabbedAt 22 = .ok (.invokevirtual 130, 3) := by decide +kernel
theorem dX12_dabbedAt_25 : decode cX12_dabbedAt 25 = .ok (.istore 4, 2) := by decide +kernel
theorem dX12_dabbedAt_27 : decode cX12_dabbedAt 27 = .ok (.aload_n 0, 1) := by decide +kernel
theorem dX12_dabbedAt_28 : decode cX12_dabbedAt 28 = .ok (.iload_n 1, 1) := by decide +kernel
theorem dX12_dabbedAt_29 : decode cX12_dabbedAt 29 = .ok (.aload_n 0, 1) := by decide +kernel
theorem dX12_dabbedAt_30 : decode cX12_dabbedAt 30 = .ok (.iload_n 1, 1) := by decide +kernel
theorem dX12_dabbedAt_31 : decode cX12_dabbedAt 31 = .ok (.bipush 7, 2) := by decide +kernel
theorem dX12_dabbedAt_33 : decode cX12_dabbedAt 33 = .ok (.invokevirtual 67, 3) := by decide +kernel
theorem dX12_dabbedAt_36 : decode cX12_dabbedAt 36 = .ok (.iconst 1, 1) := by decide +kernel
theorem dX12_dabbedAt_37 : decode cX12_dabbedAt 37 = .ok (.iadd, 1) := by decide +kernel
theorem dX12_dabbedAt_38 : decode cX12_dabbedAt 38 = .ok (.invokevirtual 130, 3) := by decide +kernel
theorem dX12_dabbedAt_41 : decode cX12_dabbedAt 41 = .ok (.istore 5, 2) := by decide +kernel
theorem dX12_dabbedAt_43 : decode cX12_dabbedAt 43 = .ok (.iconst 0, 1) := by decide +kernel
theorem dX12_dabbedAt_44 : decode cX12_dabbedAt 44 = .ok (.istore 6, 2) := by decide +kernel
theorem dX12_dabbedAt_46 : decode cX12_dabbedAt 46 = .ok (.iload 6, 2) := by decide +kernel
theorem dX12_dabbedAt_48 : decode cX12_dabbedAt 48 = .ok (.aload_n 0, 1) := by decide +kernel
theorem dX12_dabbedAt_49 : decode cX12_dabbedAt 49 = .ok (.getfield 9, 3) := by decide +kernel
theorem dX12_dabbedAt_52 : decode cX12_dabbedAt 52 = .ok (.bipush 6, 2) := by decide +kernel
theorem dX12_dabbedAt_54 : decode cX12_dabbedAt 54 = .ok (.iaload, 1) := by decide +kernel
theorem dX12_dabbedAt_55 : decode cX12_dabbedAt 55 = .ok (.if_icmp .ge 14, 3) := by decide +kernel
theorem dX12_dabbedAt_58 : decode cX12_dabbedAt 58 = .ok (.aload_n 0, 1) := by decide +kernel
theorem dX12_dabbedAt_59 : decode cX12_dabbedAt 59 = .ok (.iconst 3, 1) := by decide +kernel
theorem dX12_dabbedAt_60 : decode cX12_dabbedAt 60 = .ok (.invokevirtual 189, 3) := by decide +kernel
theorem dX12_dabbedAt_63 : decode cX12_dabbedAt 63 = .ok (.iinc 6 1, 3) := by decide +kernel
theorem dX12_dabbedAt_66 : decode cX12_dabbedAt 66 = .ok (.goto (-20), 3) := by decide +kernel
theorem dX12_dabbedAt_69 : decode cX12_dabbedAt 69 = .ok (.aload_n 0, 1) := by decide +kernel
theorem dX12_dabbedAt_70 : decode cX12_dabbedAt 70 = .ok (.iload_n 2, 1) := by decide +kernel
theorem dX12_dabbedAt_71 : decode cX12_dabbedAt 71 = .ok (.iload_n 3, 1) := by decide +kernel
theorem dX12_dabbedAt_72 : decode cX12_dabbedAt 72 = .ok (.aload_n 0, 1) := by decide +kernel
theorem dX12_dabbedAt_73 : decode cX12_dabbedAt 73 = .ok (.getfield 9, 3) := by decide +kernel
theorem dX12_dabbedAt_76 : decode cX12_dabbedAt 76 = .ok (.bipush 12, 2) := by decide +kernel
theorem dX12_dabbedAt_78 : decode cX12_dabbedAt 78 = .ok (.iload_n 2, 1) := by decide +kernel
theorem dX12_dabbedAt_79 : decode cX12_dabbedAt 79 = .ok (.iadd, 1) := by decide +kernel
theorem dX12_dabbedAt_80 : decode cX12_dabbedAt 80 = .ok (.iaload, 1) := by decide +kernel
theorem dX12_dabbedAt_81 : decode cX12_dabbedAt 81 = .ok (.invokevirtual 199, 3) := by decide +kernel
theorem dX12_dabbedAt_84 : decode cX12_dabbedAt 84 = .ok (.aload_n 0, 1) := by decide +kernel
theorem dX12_dabbedAt_85 : decode cX12_dabbedAt 85 = .ok (.iload_n 1, 1) := by decide +kernel
theorem dX12_dabbedAt_86 : decode cX12_dabbedAt 86 = .ok (.invokevirtual 108, 3) := by decide +kernel
theorem dX12_dabbedAt_89 : decode cX12_dabbedAt 89 = .ok (.istore 6, 2) := by decide +kernel
theorem dX12_dabbedAt_91 : decode cX12_dabbedAt 91 = .ok (.aload_n 0, 1) := by decide +kernel
theorem dX12_dabbedAt_92 : decode cX12_dabbedAt 92 = .ok (.invokevirtual 214, 3) := by decide +kernel
theorem dX12_dabbedAt_95 : decode cX12_dabbedAt 95 = .ok (.iload 6, 2) := by decide +kernel
theorem dX12_dabbedAt_97 : decode cX12_dabbedAt 97 = .ok (.ireturn, 1) := by decide +kernel
def fX12_dabbedAt_L46 (o : Nat) (v1 : Int32) (v2 : Int32) (v3 : Int32) : Nat → Int32 → Mm → Option (Int32 × Mm)
  | 0, _, _ => none
  | n + 1, v6, M =>
    B1 (rdN M o 15 0) fun a49_15 =>
    B1 (alI M a49_15 6) fun x54_16 =>
    if x54_16 ≤ v6 then
      B1 (rdN M o 15 0) fun a73_17 =>
      B1 (alI M a73_17 (12 + v2)) fun x80_18 =>
      B1 (gk M o 15) fun _ =>
      B1 (fX12_walks M o v2 v3 x80_18) fun M81_20 =>
      B1 (gk M81_20 o 15) fun _ =>
      B1 (fX12_openOf M81_20 o v1) fun x86_22 =>
      B1 (gk M81_20 o 15) fun _ =>
      B1 (fX12_laysBack M81_20 o) fun M92_24 =>
      some (x86_22, M92_24)
    else
      B1 (gk M o 15) fun _ =>
      B1 (fX12_allMove M o 3) fun M60_26 =>
      fX12_dabbedAt_L46 o v1 v2 v3 n (v6 + 1) M60_26
def fX12_dabbedAt (M : Mm) (o : Nat) (p1 : Int32) (p2 : Int32) (p3 : Int32) : Option (Int32 × Mm) :=
  B1 (gk M o 15) fun _ =>
  B1 (fX12_lends M o) fun M1_2 =>
  B1 (gk M1_2 o 15) fun _ =>
  B1 (fX12_walks M1_2 o p2 0 p3) fun M8_4 =>
  B1 (gk M8_4 o 15) fun _ =>
  B1 (fX12_its M8_4 o p1 6) fun x17_6 =>
  B1 (gk M8_4 o 15) fun _ =>
  B2 (fX12_dabs M8_4 o p1 (x17_6 - 1)) fun x22_8 M22_9 =>
  B1 (gk M22_9 o 15) fun _ =>
  B1 (fX12_its M22_9 o p1 7) fun x33_11 =>
  B1 (gk M22_9 o 15) fun _ =>
  B2 (fX12_dabs M22_9 o p1 (x33_11 + 1)) fun x38_13 M38_14 =>
  fX12_dabbedAt_L46 o p1 p2 p3 FL 0 M38_14
set_option maxRecDepth 100000 in
set_option maxHeartbeats 4000000 in
theorem kX12_dabbedAt_L46 {l : Launch} {E : Ev} {p : Program} {e : Env} {s : State} {m : MethodId} {args : Array Value} {below : List Frame} {meth : Method} {c : Code} (C : Cx E p s m args meth c cX12_dabbedAt yX12_dabbedAt.cls 7) (hr : meth.sig.returnType = (some .int)) (hin : yX12_dabbedAt.name = "<init>" → meth.name = "<init>")  {o : Nat} {v1 : Int32} {v2 : Int32} {v3 : Int32} {rz : Int32} {Mz : Mm} : ∀ (n : Nat) (v6 : Int32) (M : Mm), fX12_dabbedAt_L46 o v1 v2 v3 n v6 M = some (rz, Mz) → ∀ (H : Heap) (locs : List Loc) (ls : Array Slot), Wx E s H locs M → lv_has ls 7 [(0, .ref (E.b + o)), (1, .int v1), (2, .int v2), (3, .int v3), (6, .int v6)] → W p l e (rM 7 168 0 0) s m args below meth c H locs 0 0 (MQ below (Qp E (some (.int rz)) Mz) args s 0 0 E.A) (F0 m 46 ls []) := by
  intro n
  induction n with
  | zero =>
    intro v6 M hf
    unfold fX12_dabbedAt_L46 at hf
    cases hf
  | succ n ih =>
    intro v6 M hf H locs ls hW hl
    unfold fX12_dabbedAt_L46 at hf
    refine lv_iload C.x C.b dX12_dabbedAt_46 (lv_at hl 4 rfl) ?_
    refine lv_aload_n C.x C.b dX12_dabbedAt_48 rfl (lv_at hl 0 rfl) ?_
    replace hf := x_b1 hf; obtain ⟨a49_15, ha49_15, hf⟩ := hf
    refine x_getn C hW fg_X12_9_15 ha49_15 dX12_dabbedAt_49 ?_
    refine lv_bipush (v := 6) C.x C.b dX12_dabbedAt_52 (by decide) ?_
    replace hf := x_b1 hf; obtain ⟨x54_16, hx54_16, hf⟩ := hf
    refine x_iald C hW hx54_16 dX12_dabbedAt_54 ?_
    refine lv_icmp_ge (tgt := 69) C.x C.b dX12_dabbedAt_55 rfl (fun c55 => ?_) (fun c55 => ?_)
    · replace hf := x_ip c55 hf
      refine lv_aload_n C.x C.b dX12_dabbedAt_69 rfl (lv_at hl 0 rfl) ?_
      refine lv_iload_n C.x C.b dX12_dabbedAt_70 rfl (lv_at hl 2 rfl) ?_
      refine lv_iload_n C.x C.b dX12_dabbedAt_71 rfl (lv_at hl 3 rfl) ?_
      refine lv_aload_n C.x C.b dX12_dabbedAt_72 rfl (lv_at hl 0 rfl) ?_
      replace hf := x_b1 hf; obtain ⟨a73_17, ha73_17, hf⟩ := hf
      refine x_getn C hW fg_X12_9_15 ha73_17 dX12_dabbedAt_73 ?_
      refine lv_bipush (v := 12) C.x C.b dX12_dabbedAt_76 (by decide) ?_
      refine lv_iload_n C.x C.b dX12_dabbedAt_78 rfl (lv_at hl 2 rfl) ?_
      refine lv_iadd C.x C.b dX12_dabbedAt_79 ?_
      replace hf := x_b1 hf; obtain ⟨x80_18, hx80_18, hf⟩ := hf
      refine x_iald C hW hx80_18 dX12_dabbedAt_80 ?_
      replace hf := x_b1 hf; obtain ⟨_, hk81_19, hf⟩ := hf
      replace hf := x_b1 hf; obtain ⟨M81_20, hM81_20, hf⟩ := hf
      refine x_callV (As := [.int v2, .int v3, .int x80_18]) (a := o) (rest := []) C hW hl (qX12_walks l E hM81_20) (x_gk hk81_19) (by decide) (by decide) rfl gv_X12_199 ⟨rfl, hd_X12_walks⟩ rfl rfl (Nat.le_of_ble_eq_true rfl) dX12_dabbedAt_81 ⟨Nat.le_of_ble_eq_true rfl, Nat.le_of_ble_eq_true rfl⟩ ⟨Nat.le_of_ble_eq_true rfl, Nat.le_of_ble_eq_true rfl⟩ (fun H locs hW => ?_)
      refine lv_aload_n C.x C.b dX12_dabbedAt_84 rfl (lv_at hl 0 rfl) ?_
      refine lv_iload_n C.x C.b dX12_dabbedAt_85 rfl (lv_at hl 1 rfl) ?_
      replace hf := x_b1 hf; obtain ⟨_, hk86_21, hf⟩ := hf
      replace hf := x_b1 hf; obtain ⟨x86_22, hx86_22, hf⟩ := hf
      refine x_callV (As := [.int v1]) (a := o) (rest := []) C hW hl (qX12_openOf l E hx86_22) (x_gk hk86_21) (by decide) (by decide) rfl gv_X12_108 ⟨rfl, hd_X12_openOf⟩ rfl rfl (Nat.le_of_ble_eq_true rfl) dX12_dabbedAt_86 ⟨Nat.le_of_ble_eq_true rfl, Nat.le_of_ble_eq_true rfl⟩ ⟨Nat.le_of_ble_eq_true rfl, Nat.le_of_ble_eq_true rfl⟩ (fun H locs hW => ?_)
      refine lv_istore (lv' := [(6, .int _), (0, .ref (E.b + _)), (1, .int _), (2, .int _), (3, .int _)]) C.x C.b dX12_dabbedAt_89 hl (by decide) rfl (fun ls hl => ?_)
      refine lv_aload_n C.x C.b dX12_dabbedAt_91 rfl (lv_at hl 1 rfl) ?_
      replace hf := x_b1 hf; obtain ⟨_, hk92_23, hf⟩ := hf
      replace hf := x_b1 hf; obtain ⟨M92_24, hM92_24, hf⟩ := hf
      refine x_callV (As := []) (a := o) (rest := []) C hW hl (qX12_laysBack l E hM92_24) (x_gk hk92_23) (by decide) (by decide) rfl gv_X12_214 ⟨rfl, hd_X12_laysBack⟩ rfl rfl (Nat.le_of_ble_eq_true rfl) dX12_dabbedAt_92 ⟨Nat.le_of_ble_eq_true rfl, Nat.le_of_ble_eq_true rfl⟩ ⟨Nat.le_of_ble_eq_true rfl, Nat.le_of_ble_eq_true rfl⟩ (fun H locs hW => ?_)
      refine lv_iload C.x C.b dX12_dabbedAt_95 (lv_at hl 0 rfl) ?_
      rw [x_e1 hf, x_e2 hf]
      exact x_iret C hr hW dX12_dabbedAt_97
    · replace hf := x_in c55 hf
      refine lv_aload_n C.x C.b dX12_dabbedAt_58 rfl (lv_at hl 0 rfl) ?_
      refine lv_iconst (v := 3) C.x C.b dX12_dabbedAt_59 (by decide) ?_
      replace hf := x_b1 hf; obtain ⟨_, hk60_25, hf⟩ := hf
      replace hf := x_b1 hf; obtain ⟨M60_26, hM60_26, hf⟩ := hf
      refine x_callV (As := [.int 3]) (a := o) (rest := []) C hW hl (qX12_allMove l E hM60_26) (x_gk hk60_25) (by decide) (by decide) rfl gv_X12_189 ⟨rfl, hd_X12_allMove⟩ rfl rfl (Nat.le_of_ble_eq_true rfl) dX12_dabbedAt_60 ⟨Nat.le_of_ble_eq_true rfl, Nat.le_of_ble_eq_true rfl⟩ ⟨Nat.le_of_ble_eq_true rfl, Nat.le_of_ble_eq_true rfl⟩ (fun H locs hW => ?_)
      refine lv_iinc (v := (v6 + 1)) (lv' := [(6, .int (v6 + 1)), (0, .ref (E.b + _)), (1, .int _), (2, .int _), (3, .int _)]) C.x C.b dX12_dabbedAt_63 hl (k := 4) rfl (by first | rfl | decide) (by decide) rfl (fun ls hl => ?_)
      refine lv_goto (tgt := 46) C.x C.b dX12_dabbedAt_66 rfl ?_
      exact ih (v6 + 1) M60_26 hf _ _ _ hW (lv_sub hl [1, 2, 3, 4, 0] rfl)
set_option maxRecDepth 100000 in
set_option maxHeartbeats 4000000 in
theorem qX12_dabbedAt (l : Launch) (E : Ev) {M : Mm} {o : Nat} {p1 : Int32} {p2 : Int32} {p3 : Int32} {rz : Int32} {Mz : Mm} (hf : fX12_dabbedAt M o p1 p2 p3 = some (rz, Mz)) : Ct l E yX12_dabbedAt cX12_dabbedAt 7 (some .int) 7 168 0 0 [.ref (E.b + o), .int p1, .int p2, .int p3] M (some (.int rz)) Mz := by
  refine ct_of (by decide +kernel) (Nat.le_of_ble_eq_true rfl) fun p e s m args below meth c C hr hin hW ls hl => ?_
  have hl : lv_has ls 7 [(0, .ref (E.b + o)), (1, .int p1), (2, .int p2), (3, .int p3)] := hl
  unfold fX12_dabbedAt at hf
  refine lv_aload_n C.x C.b dX12_dabbedAt_0 rfl (lv_at hl 0 rfl) ?_
  replace hf := x_b1 hf; obtain ⟨_, hk1_1, hf⟩ := hf
  replace hf := x_b1 hf; obtain ⟨M1_2, hM1_2, hf⟩ := hf
  refine x_callV (As := []) (a := o) (rest := []) C hW hl (qX12_lends l E hM1_2) (x_gk hk1_1) (by decide) (by decide) rfl gv_X12_211 ⟨rfl, hd_X12_lends⟩ rfl rfl (Nat.le_of_ble_eq_true rfl) dX12_dabbedAt_1 ⟨Nat.le_of_ble_eq_true rfl, Nat.le_of_ble_eq_true rfl⟩ ⟨Nat.le_of_ble_eq_true rfl, Nat.le_of_ble_eq_true rfl⟩ (fun H locs hW => ?_)
  refine lv_aload_n C.x C.b dX12_dabbedAt_4 rfl (lv_at hl 0 rfl) ?_
  refine lv_iload_n C.x C.b dX12_dabbedAt_5 rfl (lv_at hl 2 rfl) ?_
  refine lv_iconst (v := 0) C.x C.b dX12_dabbedAt_6 (by decide) ?_
  refine lv_iload_n C.x C.b dX12_dabbedAt_7 rfl (lv_at hl 3 rfl) ?_
  replace hf := x_b1 hf; obtain ⟨_, hk8_3, hf⟩ := hf
  replace hf := x_b1 hf; obtain ⟨M8_4, hM8_4, hf⟩ := hf
  refine x_callV (As := [.int p2, .int 0, .int p3]) (a := o) (rest := []) C hW hl (qX12_walks l E hM8_4) (x_gk hk8_3) (by decide) (by decide) rfl gv_X12_199 ⟨rfl, hd_X12_walks⟩ rfl rfl (Nat.le_of_ble_eq_true rfl) dX12_dabbedAt_8 ⟨Nat.le_of_ble_eq_true rfl, Nat.le_of_ble_eq_true rfl⟩ ⟨Nat.le_of_ble_eq_true rfl, Nat.le_of_ble_eq_true rfl⟩ (fun H locs hW => ?_)
  refine lv_aload_n C.x C.b dX12_dabbedAt_11 rfl (lv_at hl 0 rfl) ?_
  refine lv_iload_n C.x C.b dX12_dabbedAt_12 rfl (lv_at hl 1 rfl) ?_
  refine lv_aload_n C.x C.b dX12_dabbedAt_13 rfl (lv_at hl 0 rfl) ?_
  refine lv_iload_n C.x C.b dX12_dabbedAt_14 rfl (lv_at hl 1 rfl) ?_
  refine lv_bipush (v := 6) C.x C.b dX12_dabbedAt_15 (by decide) ?_
  replace hf := x_b1 hf; obtain ⟨_, hk17_5, hf⟩ := hf
  replace hf := x_b1 hf; obtain ⟨x17_6, hx17_6, hf⟩ := hf
  refine x_callV (As := [.int p1, .int 6]) (a := o) (rest := [.int p1, .ref (E.b + o)]) C hW hl (qX12_its l E hx17_6) (x_gk hk17_5) (by decide) (by decide) rfl gv_X12_67 ⟨rfl, hd_X12_its⟩ rfl rfl (Nat.le_of_ble_eq_true rfl) dX12_dabbedAt_17 ⟨Nat.le_of_ble_eq_true rfl, Nat.le_of_ble_eq_true rfl⟩ ⟨Nat.le_of_ble_eq_true rfl, Nat.le_of_ble_eq_true rfl⟩ (fun H locs hW => ?_)
  refine lv_iconst (v := 1) C.x C.b dX12_dabbedAt_20 (by decide) ?_
  refine lv_isub C.x C.b dX12_dabbedAt_21 ?_
  replace hf := x_b1 hf; obtain ⟨_, hk22_7, hf⟩ := hf
  replace hf := x_b2 hf; obtain ⟨x22_8, M22_9, hx22_8, hf⟩ := hf
  refine x_callV (As := [.int p1, .int (x17_6 - 1)]) (a := o) (rest := []) C hW hl (qX12_dabs l E hx22_8) (x_gk hk22_7) (by decide) (by decide) rfl gv_X12_130 ⟨rfl, hd_X12_dabs⟩ rfl rfl (Nat.le_of_ble_eq_true rfl) dX12_dabbedAt_22 ⟨Nat.le_of_ble_eq_true rfl, Nat.le_of_ble_eq_true rfl⟩ ⟨Nat.le_of_ble_eq_true rfl, Nat.le_of_ble_eq_true rfl⟩ (fun H locs hW => ?_)
  refine lv_istore (lv' := [(4, .int _), (0, .ref (E.b + _)), (1, .int _), (2, .int _), (3, .int _)]) C.x C.b dX12_dabbedAt_25 hl (by decide) rfl (fun ls hl => ?_)
  refine lv_aload_n C.x C.b dX12_dabbedAt_27 rfl (lv_at hl 1 rfl) ?_
  refine lv_iload_n C.x C.b dX12_dabbedAt_28 rfl (lv_at hl 2 rfl) ?_
  refine lv_aload_n C.x C.b dX12_dabbedAt_29 rfl (lv_at hl 1 rfl) ?_
  refine lv_iload_n C.x C.b dX12_dabbedAt_30 rfl (lv_at hl 2 rfl) ?_
  refine lv_bipush (v := 7) C.x C.b dX12_dabbedAt_31 (by decide) ?_
  replace hf := x_b1 hf; obtain ⟨_, hk33_10, hf⟩ := hf
  replace hf := x_b1 hf; obtain ⟨x33_11, hx33_11, hf⟩ := hf
  refine x_callV (As := [.int p1, .int 7]) (a := o) (rest := [.int p1, .ref (E.b + o)]) C hW hl (qX12_its l E hx33_11) (x_gk hk33_10) (by decide) (by decide) rfl gv_X12_67 ⟨rfl, hd_X12_its⟩ rfl rfl (Nat.le_of_ble_eq_true rfl) dX12_dabbedAt_33 ⟨Nat.le_of_ble_eq_true rfl, Nat.le_of_ble_eq_true rfl⟩ ⟨Nat.le_of_ble_eq_true rfl, Nat.le_of_ble_eq_true rfl⟩ (fun H locs hW => ?_)
  refine lv_iconst (v := 1) C.x C.b dX12_dabbedAt_36 (by decide) ?_
  refine lv_iadd C.x C.b dX12_dabbedAt_37 ?_
  replace hf := x_b1 hf; obtain ⟨_, hk38_12, hf⟩ := hf
  replace hf := x_b2 hf; obtain ⟨x38_13, M38_14, hx38_13, hf⟩ := hf
  refine x_callV (As := [.int p1, .int (x33_11 + 1)]) (a := o) (rest := []) C hW hl (qX12_dabs l E hx38_13) (x_gk hk38_12) (by decide) (by decide) rfl gv_X12_130 ⟨rfl, hd_X12_dabs⟩ rfl rfl (Nat.le_of_ble_eq_true rfl) dX12_dabbedAt_38 ⟨Nat.le_of_ble_eq_true rfl, Nat.le_of_ble_eq_true rfl⟩ ⟨Nat.le_of_ble_eq_true rfl, Nat.le_of_ble_eq_true rfl⟩ (fun H locs hW => ?_)
  refine lv_istore (lv' := [(5, .int _), (4, .int _), (0, .ref (E.b + _)), (1, .int _), (2, .int _), (3, .int _)]) C.x C.b dX12_dabbedAt_41 hl (by decide) rfl (fun ls hl => ?_)
  refine lv_iconst (v := 0) C.x C.b dX12_dabbedAt_43 (by decide) ?_
  refine lv_istore (lv' := [(6, .int _), (5, .int _), (4, .int _), (0, .ref (E.b + _)), (1, .int _), (2, .int _), (3, .int _)]) C.x C.b dX12_dabbedAt_44 hl (by decide) rfl (fun ls hl => ?_)
  exact kX12_dabbedAt_L46 C hr hin FL 0 M38_14 hf _ _ _ hW (lv_sub hl [3, 4, 5, 6, 0] rfl)

theorem dX12_isLaddered_0 : decode cX12_isLaddered 0 = .ok (.aload_n 0, 1) := by decide +kernel
theorem dX12_isLaddered_1 : decode cX12_isLaddered 1 = .ok (.getfield 9, 3) := by decide +kernel
theorem dX12_isLaddered_4 : decode cX12_isLaddered 4 = .ok (.iconst 2, 1) := by decide +kernel
theorem dX12_isLaddered_5 : decode cX12_isLaddered 5 = .ok (.iload_n 1, 1) := by decide +kernel
theorem dX12_isLaddered_6 : decode cX12_isLaddered 6 = .ok (.iadd, 1) := by decide +kernel
theorem dX12_isLaddered_7 : decode cX12_isLaddered 7 = .ok (.iaload, 1) := by decide +kernel
theorem dX12_isLaddered_8 : decode cX12_isLaddered 8 = .ok (.ifCond .lt 22, 3) := by decide +kernel
theorem dX12_isLaddered_11 : decode cX12_isLaddered 11 = .ok (.aload_n 0, 1) := by decide +kernel
theorem dX12_isLaddered_12 : decode cX12_isLaddered 12 = .ok (.aload_n 0, 1) := by decide +kernel
theorem dX12_isLaddered_13 : decode cX12_isLaddered 13 = .ok (.getfield 9, 3) := by decide +kernel
theorem dX12_isLaddered_16 : decode cX12_isLaddered 16 = .ok (.iconst 2, 1) := by decide +kernel
theorem dX12_isLaddered_17 : decode cX12_isLaddered 17 = .ok (.iload_n 1, 1) := by decide +kernel
theorem dX12_isLaddered_18 : decode cX12_isLaddered 18 = .ok (.iadd, 1) := by decide +kernel
theorem dX12_isLaddered_19 : decode cX12_isLaddered 19 = .ok (.iaload, 1) := by decide +kernel
theorem dX12_isLaddered_20 : decode cX12_isLaddered 20 = .ok (.invokevirtual 71, 3) := by decide +kernel
theorem dX12_isLaddered_23 : decode cX12_isLaddered 23 = .ok (.ifCond .eq 7, 3) := by decide +kernel
theorem dX12_isLaddered_26 : decode cX12_isLaddered 26 = .ok (.iconst 1, 1) := by decide +kernel
theorem dX12_isLaddered_27 : decode cX12_isLaddered 27 = .ok (.goto 4, 3) := by decide +kernel
theorem dX12_isLaddered_30 : decode cX12_isLaddered 30 = .ok (.iconst 0, 1) := by decide +kernel
theorem dX12_isLaddered_31 : decode cX12_isLaddered 31 = .ok (.ireturn, 1) := by decide +kernel
def fX12_isLaddered (M : Mm) (o : Nat) (p1 : Int32) : Option Int32 :=
  B1 (rdN M o 15 0) fun a1_1 =>
  B1 (alI M a1_1 (2 + p1)) fun x7_2 =>
  if x7_2 < 0 then
    some 0
  else
    B1 (rdN M o 15 0) fun a13_3 =>
    B1 (alI M a13_3 (2 + p1)) fun x19_4 =>
    B1 (gk M o 15) fun _ =>
    B1 (fX12_hasLadder M o x19_4) fun x20_6 =>
    if x20_6 = 0 then
      some 0
    else
      some 1
set_option maxRecDepth 100000 in
set_option maxHeartbeats 4000000 in
theorem qX12_isLaddered (l : Launch) (E : Ev) {M : Mm} {o : Nat} {p1 : Int32} {rz : Int32} (hf : fX12_isLaddered M o p1 = some rz) : Ct l E yX12_isLaddered cX12_isLaddered 2 (some .boolean) 2 43 0 0 [.ref (E.b + o), .int p1] M (some (.int rz)) M := by
  refine ct_of (by decide +kernel) (Nat.le_of_ble_eq_true rfl) fun p e s m args below meth c C hr hin hW ls hl => ?_
  have hl : lv_has ls 2 [(0, .ref (E.b + o)), (1, .int p1)] := hl
  unfold fX12_isLaddered at hf
  refine lv_aload_n C.x C.b dX12_isLaddered_0 rfl (lv_at hl 0 rfl) ?_
  replace hf := x_b1 hf; obtain ⟨a1_1, ha1_1, hf⟩ := hf
  refine x_getn C hW fg_X12_9_15 ha1_1 dX12_isLaddered_1 ?_
  refine lv_iconst (v := 2) C.x C.b dX12_isLaddered_4 (by decide) ?_
  refine lv_iload_n C.x C.b dX12_isLaddered_5 rfl (lv_at hl 1 rfl) ?_
  refine lv_iadd C.x C.b dX12_isLaddered_6 ?_
  replace hf := x_b1 hf; obtain ⟨x7_2, hx7_2, hf⟩ := hf
  refine x_iald C hW hx7_2 dX12_isLaddered_7 ?_
  refine lv_if_lt (tgt := 30) C.x C.b dX12_isLaddered_8 rfl (fun c8 => ?_) (fun c8 => ?_)
  · replace hf := x_ip c8 hf
    refine lv_iconst (v := 0) C.x C.b dX12_isLaddered_30 (by decide) ?_
    rw [x_e0 hf]
    exact x_zret C hr hW (v := 0) (w := 0) rfl dX12_isLaddered_31
  · replace hf := x_in c8 hf
    refine lv_aload_n C.x C.b dX12_isLaddered_11 rfl (lv_at hl 0 rfl) ?_
    refine lv_aload_n C.x C.b dX12_isLaddered_12 rfl (lv_at hl 0 rfl) ?_
    replace hf := x_b1 hf; obtain ⟨a13_3, ha13_3, hf⟩ := hf
    refine x_getn C hW fg_X12_9_15 ha13_3 dX12_isLaddered_13 ?_
    refine lv_iconst (v := 2) C.x C.b dX12_isLaddered_16 (by decide) ?_
    refine lv_iload_n C.x C.b dX12_isLaddered_17 rfl (lv_at hl 1 rfl) ?_
    refine lv_iadd C.x C.b dX12_isLaddered_18 ?_
    replace hf := x_b1 hf; obtain ⟨x19_4, hx19_4, hf⟩ := hf
    refine x_iald C hW hx19_4 dX12_isLaddered_19 ?_
    replace hf := x_b1 hf; obtain ⟨_, hk20_5, hf⟩ := hf
    replace hf := x_b1 hf; obtain ⟨x20_6, hx20_6, hf⟩ := hf
    refine x_callV (As := [.int x19_4]) (a := o) (rest := []) C hW hl (qX12_hasLadder l E hx20_6) (x_gk hk20_5) (by decide) (by decide) rfl gv_X12_71 ⟨rfl, hd_X12_hasLadder⟩ rfl rfl (Nat.le_of_ble_eq_true rfl) dX12_isLaddered_20 ⟨Nat.le_of_ble_eq_true rfl, Nat.le_of_ble_eq_true rfl⟩ ⟨Nat.le_of_ble_eq_true rfl, Nat.le_of_ble_eq_true rfl⟩ (fun H locs hW => ?_)
    refine lv_if_eq (tgt := 30) C.x C.b dX12_isLaddered_23 rfl (fun c23 => ?_) (fun c23 => ?_)
    · replace hf := x_ip c23 hf
      refine lv_iconst (v := 0) C.x C.b dX12_isLaddered_30 (by decide) ?_
      rw [x_e0 hf]
      exact x_zret C hr hW (v := 0) (w := 0) rfl dX12_isLaddered_31
    · replace hf := x_in c23 hf
      refine lv_iconst (v := 1) C.x C.b dX12_isLaddered_26 (by decide) ?_
      refine lv_goto (tgt := 31) C.x C.b dX12_isLaddered_27 rfl ?_
      rw [x_e0 hf]
      exact x_zret C hr hW (v := 1) (w := 1) rfl dX12_isLaddered_31

theorem dX12_dabbed_0 : decode cX12_dabbed 0 = .ok (.iload_n 1, 1) := by decide +kernel
theorem dX12_dabbed_1 : decode cX12_dabbed 1 = .ok (.invokestatic 133, 3) := by decide +kernel
theorem dX12_dabbed_4 : decode cX12_dabbed 4 = .ok (.ifCond .eq 12, 3) := by decide +kernel
theorem dX12_dabbed_7 : decode cX12_dabbed 7 = .ok (.aload_n 0, 1) := by decide +kernel
theorem dX12_dabbed_8 : decode cX12_dabbed 8 = .ok (.iload_n 2, 1) := by decide +kernel
theorem dX12_dabbed_9 : decode cX12_dabbed 9 = .ok (.iload_n 3, 1) := by decide +kernel
theorem dX12_dabbed_10 : decode cX12_dabbed 10 = .ok (.invokevirtual 208, 3) := by decide +kernel
theorem dX12_dabbed_13 : decode cX12_dabbed 13 = .ok (.ifCond .ne 5, 3) := by decide +kernel
theorem dX12_dabbed_16 : decode cX12_dabbed 16 = .ok (.iconst (-1), 1) := by decide +kernel
theorem dX12_dabbed_17 : decode cX12_dabbed 17 = .ok (.ireturn, 1) := by decide +kernel
theorem dX12_dabbed_18 : decode cX12_dabbed 18 = .ok (.aload_n 0, 1) := by decide +kernel
theorem dX12_dabbed_19 : decode cX12_dabbed 19 = .ok (.iload_n 1, 1) := by decide +kernel
theorem dX12_dabbed_20 : decode cX12_dabbed 20 = .ok (.invokevirtual 228, 3) := by decide +kernel
theorem dX12_dabbed_23 : decode cX12_dabbed 23 = .ok (.ifCond .eq 20, 3) := by decide +kernel
theorem dX12_dabbed_26 : decode cX12_dabbed 26 = .ok (.aload_n 0, 1) := by decide +kernel
theorem dX12_dabbed_27 : decode cX12_dabbed 27 = .ok (.aload_n 0, 1) := by decide +kernel
theorem dX12_dabbed_28 : decode cX12_dabbed 28 = .ok (.getfield 9, 3) := by decide +kernel
theorem dX12_dabbed_31 : decode cX12_dabbed 31 = .ok (.iconst 2, 1) := by decide +kernel
theorem dX12_dabbed_32 : decode cX12_dabbed 32 = .ok (.iload_n 1, 1) := by decide +kernel
theorem dX12_dabbed_33 : decode cX12_dabbed 33 = .ok (.iadd, 1) := by decide +kernel
theorem dX12_dabbed_34 : decode cX12_dabbed 34 = .ok (.iaload, 1) := by decide +kernel
theorem dX12_dabbed_35 : decode cX12_dabbed 35 = .ok (.iload_n 2, 1) := by decide +kernel
theorem dX12_dabbed_36 : decode cX12_dabbed 36 = .ok (.iload_n 3, 1) := by decide +kernel
theorem dX12_dabbed_37 : decode cX12_dabbed 37 = .ok (.invokevirtual 231, 3) := by decide +kernel
theorem dX12_dabbed_40 : decode cX12_dabbed 40 = .ok (.goto 5, 3) := by decide +kernel
theorem dX12_dabbed_43 : decode cX12_dabbed 43 = .ok (.bipush (-3), 2) := by decide +kernel
theorem dX12_dabbed_45 : decode cX12_dabbed 45 = .ok (.ireturn, 1) := by decide +kernel
theorem hd_X12_isLaddered : yX12_isLaddered.cls ≠ "java/lang/invoke/MethodHandle" ∧ yX12_isLaddered.cls ≠ "java/lang/invoke/VarHandle" ∧ (parseMethodDescriptor yX12_isLaddered.desc).map (fun d => d.parameters.length) = some 1 := by decide +kernel
theorem gv_X12_228 : GoodIn gT (wsV "NylonLadderModel" 228 "NylonLadderModel" yX12_isLaddered (Cond.code yX12_isLaddered cX12_isLaddered 2 (some .boolean) :: gT)) := good_V T_7_145 T_7_147 TS_64 T_1_10 T_7_148
theorem hd_X12_dabbedAt : yX12_dabbedAt.cls ≠ "java/lang/invoke/MethodHandle" ∧ yX12_dabbedAt.cls ≠ "java/lang/invoke/VarHandle" ∧ (parseMethodDescriptor yX12_dabbedAt.desc).map (fun d => d.parameters.length) = some 3 := by decide +kernel
theorem gv_X12_231 : GoodIn gT (wsV "NylonLadderModel" 231 "NylonLadderModel" yX12_dabbedAt (Cond.code yX12_dabbedAt cX12_dabbedAt 7 (some .int) :: gT)) := good_V T_7_149 T_7_151 TS_65 T_1_10 T_7_152
def fX12_dabbed (M : Mm) (o : Nat) (p1 : Int32) (p2 : Int32) (p3 : Int32) : Option (Int32 × Mm) :=
  B1 (fX12_isTwo M p1) fun x1_1 =>
  if x1_1 = 0 then
    some ((-1), M)
  else
    B1 (gk M o 15) fun _ =>
    B1 (fX12_isWay M o p2 p3) fun x10_3 =>
    if x10_3 = 0 then
      some ((-1), M)
    else
      B1 (gk M o 15) fun _ =>
      B1 (fX12_isLaddered M o p1) fun x20_5 =>
      if x20_5 = 0 then
        some ((-3), M)
      else
        B1 (rdN M o 15 0) fun a28_6 =>
        B1 (alI M a28_6 (2 + p1)) fun x34_7 =>
        B1 (gk M o 15) fun _ =>
        B2 (fX12_dabbedAt M o x34_7 p2 p3) fun x37_9 M37_10 =>
        some (x37_9, M37_10)
set_option maxRecDepth 100000 in
set_option maxHeartbeats 4000000 in
theorem qX12_dabbed (l : Launch) (E : Ev) {M : Mm} {o : Nat} {p1 : Int32} {p2 : Int32} {p3 : Int32} {rz : Int32} {Mz : Mm} (hf : fX12_dabbed M o p1 p2 p3 = some (rz, Mz)) : Ct l E yX12_dabbed cX12_dabbed 4 (some .int) 8 194 0 0 [.ref (E.b + o), .int p1, .int p2, .int p3] M (some (.int rz)) Mz := by
  refine ct_of (by decide +kernel) (Nat.le_of_ble_eq_true rfl) fun p e s m args below meth c C hr hin hW ls hl => ?_
  have hl : lv_has ls 4 [(0, .ref (E.b + o)), (1, .int p1), (2, .int p2), (3, .int p3)] := hl
  unfold fX12_dabbed at hf
  refine lv_iload_n C.x C.b dX12_dabbed_0 rfl (lv_at hl 1 rfl) ?_
  replace hf := x_b1 hf; obtain ⟨x1_1, hx1_1, hf⟩ := hf
  refine x_callS (As := [.int p1]) (rest := []) C hW hl (qX12_isTwo l E hx1_1) gs_X12_133 hd_X12_isTwo rfl rfl (Nat.le_of_ble_eq_true rfl) dX12_dabbed_1 ⟨Nat.le_of_ble_eq_true rfl, Nat.le_of_ble_eq_true rfl⟩ ⟨Nat.le_of_ble_eq_true rfl, Nat.le_of_ble_eq_true rfl⟩ (fun H locs hW => ?_)
  refine lv_if_eq (tgt := 16) C.x C.b dX12_dabbed_4 rfl (fun c4 => ?_) (fun c4 => ?_)
  · replace hf := x_ip c4 hf
    refine lv_iconst (v := (-1)) C.x C.b dX12_dabbed_16 (by decide) ?_
    rw [x_e1 hf, x_e2 hf]
    exact x_iret C hr hW dX12_dabbed_17
  · replace hf := x_in c4 hf
    refine lv_aload_n C.x C.b dX12_dabbed_7 rfl (lv_at hl 0 rfl) ?_
    refine lv_iload_n C.x C.b dX12_dabbed_8 rfl (lv_at hl 2 rfl) ?_
    refine lv_iload_n C.x C.b dX12_dabbed_9 rfl (lv_at hl 3 rfl) ?_
    replace hf := x_b1 hf; obtain ⟨_, hk10_2, hf⟩ := hf
    replace hf := x_b1 hf; obtain ⟨x10_3, hx10_3, hf⟩ := hf
    refine x_callV (As := [.int p2, .int p3]) (a := o) (rest := []) C hW hl (qX12_isWay l E hx10_3) (x_gk hk10_2) (by decide) (by decide) rfl gv_X12_208 ⟨rfl, hd_X12_isWay⟩ rfl rfl (Nat.le_of_ble_eq_true rfl) dX12_dabbed_10 ⟨Nat.le_of_ble_eq_true rfl, Nat.le_of_ble_eq_true rfl⟩ ⟨Nat.le_of_ble_eq_true rfl, Nat.le_of_ble_eq_true rfl⟩ (fun H locs hW => ?_)
    refine lv_if_ne (tgt := 18) C.x C.b dX12_dabbed_13 rfl (fun c13 => ?_) (fun c13 => ?_)
    · replace hf := x_in c13 hf
      refine lv_aload_n C.x C.b dX12_dabbed_18 rfl (lv_at hl 0 rfl) ?_
      refine lv_iload_n C.x C.b dX12_dabbed_19 rfl (lv_at hl 1 rfl) ?_
      replace hf := x_b1 hf; obtain ⟨_, hk20_4, hf⟩ := hf
      replace hf := x_b1 hf; obtain ⟨x20_5, hx20_5, hf⟩ := hf
      refine x_callV (As := [.int p1]) (a := o) (rest := []) C hW hl (qX12_isLaddered l E hx20_5) (x_gk hk20_4) (by decide) (by decide) rfl gv_X12_228 ⟨rfl, hd_X12_isLaddered⟩ rfl rfl (Nat.le_of_ble_eq_true rfl) dX12_dabbed_20 ⟨Nat.le_of_ble_eq_true rfl, Nat.le_of_ble_eq_true rfl⟩ ⟨Nat.le_of_ble_eq_true rfl, Nat.le_of_ble_eq_true rfl⟩ (fun H locs hW => ?_)
      refine lv_if_eq (tgt := 43) C.x C.b dX12_dabbed_23 rfl (fun c23 => ?_) (fun c23 => ?_)
      · replace hf := x_ip c23 hf
        refine lv_bipush (v := (-3)) C.x C.b dX12_dabbed_43 (by decide) ?_
        rw [x_e1 hf, x_e2 hf]
        exact x_iret C hr hW dX12_dabbed_45
      · replace hf := x_in c23 hf
        refine lv_aload_n C.x C.b dX12_dabbed_26 rfl (lv_at hl 0 rfl) ?_
        refine lv_aload_n C.x C.b dX12_dabbed_27 rfl (lv_at hl 0 rfl) ?_
        replace hf := x_b1 hf; obtain ⟨a28_6, ha28_6, hf⟩ := hf
        refine x_getn C hW fg_X12_9_15 ha28_6 dX12_dabbed_28 ?_
        refine lv_iconst (v := 2) C.x C.b dX12_dabbed_31 (by decide) ?_
        refine lv_iload_n C.x C.b dX12_dabbed_32 rfl (lv_at hl 1 rfl) ?_
        refine lv_iadd C.x C.b dX12_dabbed_33 ?_
        replace hf := x_b1 hf; obtain ⟨x34_7, hx34_7, hf⟩ := hf
        refine x_iald C hW hx34_7 dX12_dabbed_34 ?_
        refine lv_iload_n C.x C.b dX12_dabbed_35 rfl (lv_at hl 2 rfl) ?_
        refine lv_iload_n C.x C.b dX12_dabbed_36 rfl (lv_at hl 3 rfl) ?_
        replace hf := x_b1 hf; obtain ⟨_, hk37_8, hf⟩ := hf
        replace hf := x_b2 hf; obtain ⟨x37_9, M37_10, hx37_9, hf⟩ := hf
        refine x_callV (As := [.int x34_7, .int p2, .int p3]) (a := o) (rest := []) C hW hl (qX12_dabbedAt l E hx37_9) (x_gk hk37_8) (by decide) (by decide) rfl gv_X12_231 ⟨rfl, hd_X12_dabbedAt⟩ rfl rfl (Nat.le_of_ble_eq_true rfl) dX12_dabbed_37 ⟨Nat.le_of_ble_eq_true rfl, Nat.le_of_ble_eq_true rfl⟩ ⟨Nat.le_of_ble_eq_true rfl, Nat.le_of_ble_eq_true rfl⟩ (fun H locs hW => ?_)
        refine lv_goto (tgt := 45) C.x C.b dX12_dabbed_40 rfl ?_
        rw [x_e1 hf, x_e2 hf]
        exact x_iret C hr hW dX12_dabbed_45
    · replace hf := x_ip c13 hf
      refine lv_iconst (v := (-1)) C.x C.b dX12_dabbed_16 (by decide) ?_
      rw [x_e1 hf, x_e2 hf]
      exact x_iret C hr hW dX12_dabbed_17

theorem dX12_bestLeg_0 : decode cX12_bestLeg 0 = .ok (.iload_n 1, 1) := by decide +kernel
theorem dX12_bestLeg_1 : decode cX12_bestLeg 1 = .ok (.invokestatic 133, 3) := by decide +kernel
theorem dX12_bestLeg_4 : decode cX12_bestLeg 4 = .ok (.ifCond .eq 22, 3) := by decide +kernel
theorem dX12_bestLeg_7 : decode cX12_bestLeg 7 = .ok (.iload_n 2, 1) := by decide +kernel
theorem dX12_bestLeg_8 : decode cX12_bestLeg 8 = .ok (.invokestatic 133, 3) := by decide +kernel
theorem dX12_bestLeg_11 : decode cX12_bestLeg 11 = .ok (.ifCond .eq 15, 3) := by decide +kernel
theorem dX12_bestLeg_14 : decode cX12_bestLeg 14 = .ok (.iload_n 3, 1) := by decide +kernel
theorem dX12_bestLeg_15 : decode cX12_bestLeg 15 = .ok (.i2l, 1) := by decide +kernel
theorem dX12_bestLeg_16 : decode cX12_bestLeg 16 = .ok (.lconst 0, 1) := by decide +kernel
theorem dX12_bestLeg_17 : decode cX12_bestLeg 17 = .ok (.ldc2_w 235, 3) := by decide +kernel
theorem dX12_bestLeg_20 : decode cX12_bestLeg 20 = .ok (.invokestatic 61, 3) := by decide +kernel
theorem dX12_bestLeg_23 : decode cX12_bestLeg 23 = .ok (.ifCond .ne 5, 3) := by decide +kernel
theorem dX12_bestLeg_26 : decode cX12_bestLeg 26 = .ok (.iconst (-1), 1) := by decide +kernel
theorem dX12_bestLeg_27 : decode cX12_bestLeg 27 = .ok (.ireturn, 1) := by decide +kernel
theorem dX12_bestLeg_28 : decode cX12_bestLeg 28 = .ok (.aload_n 0, 1) := by decide +kernel
theorem dX12_bestLeg_29 : decode cX12_bestLeg 29 = .ok (.iload_n 1, 1) := by decide +kernel
theorem dX12_bestLeg_30 : decode cX12_bestLeg 30 = .ok (.invokevirtual 228, 3) := by decide +kernel
theorem dX12_bestLeg_33 : decode cX12_bestLeg 33 = .ok (.ifCond .eq 20, 3) := by decide +kernel
theorem dX12_bestLeg_36 : decode cX12_bestLeg 36 = .ok (.aload_n 0, 1) := by decide +kernel
theorem dX12_bestLeg_37 : decode cX12_bestLeg 37 = .ok (.iload_n 2, 1) := by decide +kernel
theorem dX12_bestLeg_38 : decode cX12_bestLeg 38 = .ok (.invokevirtual 202, 3) := by decide +kernel
theorem dX12_bestLeg_41 : decode cX12_bestLeg 41 = .ok (.aload_n 0, 1) := by decide +kernel
theorem dX12_bestLeg_42 : decode cX12_bestLeg 42 = .ok (.getfield 9, 3) := by decide +kernel
theorem dX12_bestLeg_45 : decode cX12_bestLeg 45 = .ok (.bipush 6, 2) := by decide +kernel
theorem dX12_bestLeg_47 : decode cX12_bestLeg 47 = .ok (.iaload, 1) := by decide +kernel
theorem dX12_bestLeg_48 : decode cX12_bestLeg 48 = .ok (.iadd, 1) := by decide +kernel
theorem dX12_bestLeg_49 : decode cX12_bestLeg 49 = .ok (.iload_n 3, 1) := by decide +kernel
theorem dX12_bestLeg_50 : decode cX12_bestLeg 50 = .ok (.if_icmp .le 6, 3) := by decide +kernel
theorem dX12_bestLeg_53 : decode cX12_bestLeg 53 = .ok (.bipush (-3), 2) := by decide +kernel
theorem dX12_bestLeg_55 : decode cX12_bestLeg 55 = .ok (.ireturn, 1) := by decide +kernel
theorem dX12_bestLeg_56 : decode cX12_bestLeg 56 = .ok (.iconst 0, 1) := by decide +kernel
theorem dX12_bestLeg_57 : decode cX12_bestLeg 57 = .ok (.istore 4, 2) := by decide +kernel
theorem dX12_bestLeg_59 : decode cX12_bestLeg 59 = .ok (.bipush 101, 2) := by decide +kernel
theorem dX12_bestLeg_61 : decode cX12_bestLeg 61 = .ok (.istore 5, 2) := by decide +kernel
theorem dX12_bestLeg_63 : decode cX12_bestLeg 63 = .ok (.iconst 0, 1) := by decide +kernel
theorem dX12_bestLeg_64 : decode cX12_bestLeg 64 = .ok (.istore 6, 2) := by decide +kernel
theorem dX12_bestLeg_66 : decode cX12_bestLeg 66 = .ok (.iload 6, 2) := by decide +kernel
theorem dX12_bestLeg_68 : decode cX12_bestLeg 68 = .ok (.aload_n 0, 1) := by decide +kernel
theorem dX12_bestLeg_69 : decode cX12_bestLeg 69 = .ok (.getfield 9, 3) := by decide +kernel
theorem dX12_bestLeg_72 : decode cX12_bestLeg 72 = .ok (.bipush 12, 2) := by decide +kernel
theorem dX12_bestLeg_74 : decode cX12_bestLeg 74 = .ok (.iload_n 2, 1) := by decide +kernel
theorem dX12_bestLeg_75 : decode cX12_bestLeg 75 = .ok (.iadd, 1) := by decide +kernel
theorem dX12_bestLeg_76 : decode cX12_bestLeg 76 = .ok (.iaload, 1) := by decide +kernel
theorem dX12_bestLeg_77 : decode cX12_bestLeg 77 = .ok (.if_icmp .gt 51, 3) := by decide +kernel
theorem dX12_bestLeg_80 : decode cX12_bestLeg 80 = .ok (.aload_n 0, 1) := by decide +kernel
theorem dX12_bestLeg_81 : decode cX12_bestLeg 81 = .ok (.aload_n 0, 1) := by decide +kernel
theorem dX12_bestLeg_82 : decode cX12_bestLeg 82 = .ok (.getfield 9, 3) := by decide +kernel
theorem dX12_bestLeg_85 : decode cX12_bestLeg 85 = .ok (.iconst 2, 1) := by decide +kernel
theorem dX12_bestLeg_86 : decode cX12_bestLeg 86 = .ok (.iload_n 1, 1) := by decide +kernel
theorem dX12_bestLeg_87 : decode cX12_bestLeg 87 = .ok (.iadd, 1) := by decide +kernel
theorem dX12_bestLeg_88 : decode cX12_bestLeg 88 = .ok (.iaload, 1) := by decide +kernel
theorem dX12_bestLeg_89 : decode cX12_bestLeg 89 = .ok (.iload_n 2, 1) := by decide +kernel
theorem dX12_bestLeg_90 : decode cX12_bestLeg 90 = .ok (.iload 6, 2) := by decide +kernel
theorem dX12_bestLeg_92 : decode cX12_bestLeg 92 = .ok (.invokevirtual 231, 3) := by decide +kernel
theorem dX12_bestLeg_95 : decode cX12_bestLeg 95 = .ok (.istore 7, 2) := by decide +kernel
theorem dX12_bestLeg_97 : decode cX12_bestLeg 97 = .ok (.iload 7, 2) := by decide +kernel
theorem dX12_bestLeg_99 : decode cX12_bestLeg 99 = .ok (.iload 5, 2) := by decide +kernel
theorem dX12_bestLeg_101 : decode cX12_bestLeg 101 = .ok (.if_icmp .ge 8, 3) := by decide +kernel
theorem dX12_bestLeg_104 : decode cX12_bestLeg 104 = .ok (.iload 6, 2) := by decide +kernel
theorem dX12_bestLeg_106 : decode cX12_bestLeg 106 = .ok (.goto 5, 3) := by decide +kernel
theorem dX12_bestLeg_109 : decode cX12_bestLeg 109 = .ok (.iload 4, 2) := by decide +kernel
theorem dX12_bestLeg_111 : decode cX12_bestLeg 111 = .ok (.istore 4, 2) := by decide +kernel
theorem dX12_bestLeg_113 : decode cX12_bestLeg 113 = .ok (.iload 5, 2) := by decide +kernel
theorem dX12_bestLeg_115 : decode cX12_bestLeg 115 = .ok (.iload 7, 2) := by decide +kernel
theorem dX12_bestLeg_117 : decode cX12_bestLeg 117 = .ok (.invokestatic 157, 3) := by decide +kernel
theorem dX12_bestLeg_120 : decode cX12_bestLeg 120 = .ok (.istore 5, 2) := by decide +kernel
theorem dX12_bestLeg_122 : decode cX12_bestLeg 122 = .ok (.iinc 6 1, 3) := by decide +kernel
theorem dX12_bestLeg_125 : decode cX12_bestLeg 125 = .ok (.goto (-59), 3) := by decide +kernel
theorem dX12_bestLeg_128 : decode cX12_bestLeg 128 = .ok (.iload 4, 2) := by decide +kernel
theorem dX12_bestLeg_130 : decode cX12_bestLeg 130 = .ok (.ireturn, 1) := by decide +kernel
def fX12_bestLeg_L66 (o : Nat) (v1 : Int32) (v2 : Int32) : Nat → Int32 → Int32 → Int32 → Mm → Option (Int32 × Mm)
  | 0, _, _, _, _ => none
  | n + 1, v4, v5, v6, M =>
    B1 (rdN M o 15 0) fun a69_10 =>
    B1 (alI M a69_10 (12 + v2)) fun x76_11 =>
    if x76_11 < v6 then
      some (v4, M)
    else
      B1 (rdN M o 15 0) fun a82_12 =>
      B1 (alI M a82_12 (2 + v1)) fun x88_13 =>
      B1 (gk M o 15) fun _ =>
      B2 (fX12_dabbedAt M o x88_13 v2 v6) fun x92_15 M92_16 =>
      if v5 ≤ x92_15 then
        fX12_bestLeg_L66 o v1 v2 n v4 (mnI v5 x92_15) (v6 + 1) M92_16
      else
        fX12_bestLeg_L66 o v1 v2 n v6 (mnI v5 x92_15) (v6 + 1) M92_16
def fX12_bestLeg (M : Mm) (o : Nat) (p1 : Int32) (p2 : Int32) (p3 : Int32) : Option (Int32 × Mm) :=
  B1 (fX12_isTwo M p1) fun x1_1 =>
  if x1_1 = 0 then
    some ((-1), M)
  else
    B1 (fX12_isTwo M p2) fun x8_2 =>
    if x8_2 = 0 then
      some ((-1), M)
    else
      B1 (fX12_in M (p3.toInt64) 0 999) fun x20_3 =>
      if x20_3 = 0 then
        some ((-1), M)
      else
        B1 (gk M o 15) fun _ =>
        B1 (fX12_isLaddered M o p1) fun x30_5 =>
        if x30_5 = 0 then
          some ((-3), M)
        else
          B1 (gk M o 15) fun _ =>
          B1 (fX12_minutesOf_ M o p2) fun x38_7 =>
          B1 (rdN M o 15 0) fun a42_8 =>
          B1 (alI M a42_8 6) fun x47_9 =>
          if (x38_7 + x47_9) ≤ p3 then
            fX12_bestLeg_L66 o p1 p2 FL 0 101 0 M
          else
            some ((-3), M)
set_option maxRecDepth 100000 in
set_option maxHeartbeats 4000000 in
theorem kX12_bestLeg_L66 {l : Launch} {E : Ev} {p : Program} {e : Env} {s : State} {m : MethodId} {args : Array Value} {below : List Frame} {meth : Method} {c : Code} (C : Cx E p s m args meth c cX12_bestLeg yX12_bestLeg.cls 8) (hr : meth.sig.returnType = (some .int)) (hin : yX12_bestLeg.name = "<init>" → meth.name = "<init>")  {o : Nat} {v1 : Int32} {v2 : Int32} {rz : Int32} {Mz : Mm} : ∀ (n : Nat) (v4 : Int32) (v5 : Int32) (v6 : Int32) (M : Mm), fX12_bestLeg_L66 o v1 v2 n v4 v5 v6 M = some (rz, Mz) → ∀ (H : Heap) (locs : List Loc) (ls : Array Slot), Wx E s H locs M → lv_has ls 8 [(0, .ref (E.b + o)), (1, .int v1), (2, .int v2), (4, .int v4), (5, .int v5), (6, .int v6)] → W p l e (rM 8 194 0 0) s m args below meth c H locs 0 0 (MQ below (Qp E (some (.int rz)) Mz) args s 0 0 E.A) (F0 m 66 ls []) := by
  intro n
  induction n with
  | zero =>
    intro v4 v5 v6 M hf
    unfold fX12_bestLeg_L66 at hf
    cases hf
  | succ n ih =>
    intro v4 v5 v6 M hf H locs ls hW hl
    unfold fX12_bestLeg_L66 at hf
    refine lv_iload C.x C.b dX12_bestLeg_66 (lv_at hl 5 rfl) ?_
    refine lv_aload_n C.x C.b dX12_bestLeg_68 rfl (lv_at hl 0 rfl) ?_
    replace hf := x_b1 hf; obtain ⟨a69_10, ha69_10, hf⟩ := hf
    refine x_getn C hW fg_X12_9_15 ha69_10 dX12_bestLeg_69 ?_
    refine lv_bipush (v := 12) C.x C.b dX12_bestLeg_72 (by decide) ?_
    refine lv_iload_n C.x C.b dX12_bestLeg_74 rfl (lv_at hl 2 rfl) ?_
    refine lv_iadd C.x C.b dX12_bestLeg_75 ?_
    replace hf := x_b1 hf; obtain ⟨x76_11, hx76_11, hf⟩ := hf
    refine x_iald C hW hx76_11 dX12_bestLeg_76 ?_
    refine lv_icmp_gt (tgt := 128) C.x C.b dX12_bestLeg_77 rfl (fun c77 => ?_) (fun c77 => ?_)
    · replace hf := x_ip c77 hf
      refine lv_iload C.x C.b dX12_bestLeg_128 (lv_at hl 3 rfl) ?_
      rw [x_e1 hf, x_e2 hf]
      exact x_iret C hr hW dX12_bestLeg_130
    · replace hf := x_in c77 hf
      refine lv_aload_n C.x C.b dX12_bestLeg_80 rfl (lv_at hl 0 rfl) ?_
      refine lv_aload_n C.x C.b dX12_bestLeg_81 rfl (lv_at hl 0 rfl) ?_
      replace hf := x_b1 hf; obtain ⟨a82_12, ha82_12, hf⟩ := hf
      refine x_getn C hW fg_X12_9_15 ha82_12 dX12_bestLeg_82 ?_
      refine lv_iconst (v := 2) C.x C.b dX12_bestLeg_85 (by decide) ?_
      refine lv_iload_n C.x C.b dX12_bestLeg_86 rfl (lv_at hl 1 rfl) ?_
      refine lv_iadd C.x C.b dX12_bestLeg_87 ?_
      replace hf := x_b1 hf; obtain ⟨x88_13, hx88_13, hf⟩ := hf
      refine x_iald C hW hx88_13 dX12_bestLeg_88 ?_
      refine lv_iload_n C.x C.b dX12_bestLeg_89 rfl (lv_at hl 2 rfl) ?_
      refine lv_iload C.x C.b dX12_bestLeg_90 (lv_at hl 5 rfl) ?_
      replace hf := x_b1 hf; obtain ⟨_, hk92_14, hf⟩ := hf
      replace hf := x_b2 hf; obtain ⟨x92_15, M92_16, hx92_15, hf⟩ := hf
      refine x_callV (As := [.int x88_13, .int v2, .int v6]) (a := o) (rest := []) C hW hl (qX12_dabbedAt l E hx92_15) (x_gk hk92_14) (by decide) (by decide) rfl gv_X12_231 ⟨rfl, hd_X12_dabbedAt⟩ rfl rfl (Nat.le_of_ble_eq_true rfl) dX12_bestLeg_92 ⟨Nat.le_of_ble_eq_true rfl, Nat.le_of_ble_eq_true rfl⟩ ⟨Nat.le_of_ble_eq_true rfl, Nat.le_of_ble_eq_true rfl⟩ (fun H locs hW => ?_)
      refine lv_istore (lv' := [(7, .int _), (0, .ref (E.b + _)), (1, .int _), (2, .int _), (4, .int _), (5, .int _), (6, .int _)]) C.x C.b dX12_bestLeg_95 hl (by decide) rfl (fun ls hl => ?_)
      refine lv_iload C.x C.b dX12_bestLeg_97 (lv_at hl 0 rfl) ?_
      refine lv_iload C.x C.b dX12_bestLeg_99 (lv_at hl 5 rfl) ?_
      refine lv_icmp_ge (tgt := 109) C.x C.b dX12_bestLeg_101 rfl (fun c101 => ?_) (fun c101 => ?_)
      · replace hf := x_ip c101 hf
        refine lv_iload C.x C.b dX12_bestLeg_109 (lv_at hl 4 rfl) ?_
        refine lv_istore (lv' := [(4, .int _), (7, .int _), (0, .ref (E.b + _)), (1, .int _), (2, .int _), (5, .int _), (6, .int _)]) C.x C.b dX12_bestLeg_111 hl (by decide) rfl (fun ls hl => ?_)
        refine lv_iload C.x C.b dX12_bestLeg_113 (lv_at hl 5 rfl) ?_
        refine lv_iload C.x C.b dX12_bestLeg_115 (lv_at hl 1 rfl) ?_
        refine x_mmin C hl T_7_73 T_3_160 T_1_15 T_3_161 (Nat.le_of_ble_eq_true rfl) (Nat.le_of_ble_eq_true rfl) ⟨Nat.le_of_ble_eq_true rfl, Nat.le_of_ble_eq_true rfl⟩ dX12_bestLeg_117 ?_
        refine lv_istore (lv' := [(5, .int _), (4, .int _), (7, .int _), (0, .ref (E.b + _)), (1, .int _), (2, .int _), (6, .int _)]) C.x C.b dX12_bestLeg_120 hl (by decide) rfl (fun ls hl => ?_)
        refine lv_iinc (v := (v6 + 1)) (lv' := [(6, .int (v6 + 1)), (5, .int _), (4, .int _), (7, .int _), (0, .ref (E.b + _)), (1, .int _), (2, .int _)]) C.x C.b dX12_bestLeg_122 hl (k := 6) rfl (by first | rfl | decide) (by decide) rfl (fun ls hl => ?_)
        refine lv_goto (tgt := 66) C.x C.b dX12_bestLeg_125 rfl ?_
        exact ih v4 (mnI v5 x92_15) (v6 + 1) M92_16 hf _ _ _ hW (lv_sub hl [4, 5, 6, 2, 1, 0] rfl)
      · replace hf := x_in c101 hf
        refine lv_iload C.x C.b dX12_bestLeg_104 (lv_at hl 6 rfl) ?_
        refine lv_goto (tgt := 111) C.x C.b dX12_bestLeg_106 rfl ?_
        refine lv_istore (lv' := [(4, .int _), (7, .int _), (0, .ref (E.b + _)), (1, .int _), (2, .int _), (5, .int _), (6, .int _)]) C.x C.b dX12_bestLeg_111 hl (by decide) rfl (fun ls hl => ?_)
        refine lv_iload C.x C.b dX12_bestLeg_113 (lv_at hl 5 rfl) ?_
        refine lv_iload C.x C.b dX12_bestLeg_115 (lv_at hl 1 rfl) ?_
        refine x_mmin C hl T_7_73 T_3_160 T_1_15 T_3_161 (Nat.le_of_ble_eq_true rfl) (Nat.le_of_ble_eq_true rfl) ⟨Nat.le_of_ble_eq_true rfl, Nat.le_of_ble_eq_true rfl⟩ dX12_bestLeg_117 ?_
        refine lv_istore (lv' := [(5, .int _), (4, .int _), (7, .int _), (0, .ref (E.b + _)), (1, .int _), (2, .int _), (6, .int _)]) C.x C.b dX12_bestLeg_120 hl (by decide) rfl (fun ls hl => ?_)
        refine lv_iinc (v := (v6 + 1)) (lv' := [(6, .int (v6 + 1)), (5, .int _), (4, .int _), (7, .int _), (0, .ref (E.b + _)), (1, .int _), (2, .int _)]) C.x C.b dX12_bestLeg_122 hl (k := 6) rfl (by first | rfl | decide) (by decide) rfl (fun ls hl => ?_)
        refine lv_goto (tgt := 66) C.x C.b dX12_bestLeg_125 rfl ?_
        exact ih v6 (mnI v5 x92_15) (v6 + 1) M92_16 hf _ _ _ hW (lv_sub hl [4, 5, 6, 2, 1, 0] rfl)
set_option maxRecDepth 100000 in
set_option maxHeartbeats 4000000 in
theorem qX12_bestLeg (l : Launch) (E : Ev) {M : Mm} {o : Nat} {p1 : Int32} {p2 : Int32} {p3 : Int32} {rz : Int32} {Mz : Mm} (hf : fX12_bestLeg M o p1 p2 p3 = some (rz, Mz)) : Ct l E yX12_bestLeg cX12_bestLeg 8 (some .int) 8 194 0 0 [.ref (E.b + o), .int p1, .int p2, .int p3] M (some (.int rz)) Mz := by
  refine ct_of (by decide +kernel) (Nat.le_of_ble_eq_true rfl) fun p e s m args below meth c C hr hin hW ls hl => ?_
  have hl : lv_has ls 8 [(0, .ref (E.b + o)), (1, .int p1), (2, .int p2), (3, .int p3)] := hl
  unfold fX12_bestLeg at hf
  refine lv_iload_n C.x C.b dX12_bestLeg_0 rfl (lv_at hl 1 rfl) ?_
  replace hf := x_b1 hf; obtain ⟨x1_1, hx1_1, hf⟩ := hf
  refine x_callS (As := [.int p1]) (rest := []) C hW hl (qX12_isTwo l E hx1_1) gs_X12_133 hd_X12_isTwo rfl rfl (Nat.le_of_ble_eq_true rfl) dX12_bestLeg_1 ⟨Nat.le_of_ble_eq_true rfl, Nat.le_of_ble_eq_true rfl⟩ ⟨Nat.le_of_ble_eq_true rfl, Nat.le_of_ble_eq_true rfl⟩ (fun H locs hW => ?_)
  refine lv_if_eq (tgt := 26) C.x C.b dX12_bestLeg_4 rfl (fun c4 => ?_) (fun c4 => ?_)
  · replace hf := x_ip c4 hf
    refine lv_iconst (v := (-1)) C.x C.b dX12_bestLeg_26 (by decide) ?_
    rw [x_e1 hf, x_e2 hf]
    exact x_iret C hr hW dX12_bestLeg_27
  · replace hf := x_in c4 hf
    refine lv_iload_n C.x C.b dX12_bestLeg_7 rfl (lv_at hl 2 rfl) ?_
    replace hf := x_b1 hf; obtain ⟨x8_2, hx8_2, hf⟩ := hf
    refine x_callS (As := [.int p2]) (rest := []) C hW hl (qX12_isTwo l E hx8_2) gs_X12_133 hd_X12_isTwo rfl rfl (Nat.le_of_ble_eq_true rfl) dX12_bestLeg_8 ⟨Nat.le_of_ble_eq_true rfl, Nat.le_of_ble_eq_true rfl⟩ ⟨Nat.le_of_ble_eq_true rfl, Nat.le_of_ble_eq_true rfl⟩ (fun H locs hW => ?_)
    refine lv_if_eq (tgt := 26) C.x C.b dX12_bestLeg_11 rfl (fun c11 => ?_) (fun c11 => ?_)
    · replace hf := x_ip c11 hf
      refine lv_iconst (v := (-1)) C.x C.b dX12_bestLeg_26 (by decide) ?_
      rw [x_e1 hf, x_e2 hf]
      exact x_iret C hr hW dX12_bestLeg_27
    · replace hf := x_in c11 hf
      refine lv_iload_n C.x C.b dX12_bestLeg_14 rfl (lv_at hl 3 rfl) ?_
      refine lv_i2l (v := p3.toInt64) C.x C.b dX12_bestLeg_15 rfl ?_
      refine lv_lconst (v := 0) C.x C.b dX12_bestLeg_16 (by decide) ?_
      refine x_ldc2 (v := 999) C T_7_157 dX12_bestLeg_17 ?_
      replace hf := x_b1 hf; obtain ⟨x20_3, hx20_3, hf⟩ := hf
      refine x_callS (As := [.long (p3.toInt64), .long 0, .long 999]) (rest := []) C hW hl (qX12_in l E hx20_3) gs_X12_61 hd_X12_in rfl rfl (Nat.le_of_ble_eq_true rfl) dX12_bestLeg_20 ⟨Nat.le_of_ble_eq_true rfl, Nat.le_of_ble_eq_true rfl⟩ ⟨Nat.le_of_ble_eq_true rfl, Nat.le_of_ble_eq_true rfl⟩ (fun H locs hW => ?_)
      refine lv_if_ne (tgt := 28) C.x C.b dX12_bestLeg_23 rfl (fun c23 => ?_) (fun c23 => ?_)
      · replace hf := x_in c23 hf
        refine lv_aload_n C.x C.b dX12_bestLeg_28 rfl (lv_at hl 0 rfl) ?_
        refine lv_iload_n C.x C.b dX12_bestLeg_29 rfl (lv_at hl 1 rfl) ?_
        replace hf := x_b1 hf; obtain ⟨_, hk30_4, hf⟩ := hf
        replace hf := x_b1 hf; obtain ⟨x30_5, hx30_5, hf⟩ := hf
        refine x_callV (As := [.int p1]) (a := o) (rest := []) C hW hl (qX12_isLaddered l E hx30_5) (x_gk hk30_4) (by decide) (by decide) rfl gv_X12_228 ⟨rfl, hd_X12_isLaddered⟩ rfl rfl (Nat.le_of_ble_eq_true rfl) dX12_bestLeg_30 ⟨Nat.le_of_ble_eq_true rfl, Nat.le_of_ble_eq_true rfl⟩ ⟨Nat.le_of_ble_eq_true rfl, Nat.le_of_ble_eq_true rfl⟩ (fun H locs hW => ?_)
        refine lv_if_eq (tgt := 53) C.x C.b dX12_bestLeg_33 rfl (fun c33 => ?_) (fun c33 => ?_)
        · replace hf := x_ip c33 hf
          refine lv_bipush (v := (-3)) C.x C.b dX12_bestLeg_53 (by decide) ?_
          rw [x_e1 hf, x_e2 hf]
          exact x_iret C hr hW dX12_bestLeg_55
        · replace hf := x_in c33 hf
          refine lv_aload_n C.x C.b dX12_bestLeg_36 rfl (lv_at hl 0 rfl) ?_
          refine lv_iload_n C.x C.b dX12_bestLeg_37 rfl (lv_at hl 2 rfl) ?_
          replace hf := x_b1 hf; obtain ⟨_, hk38_6, hf⟩ := hf
          replace hf := x_b1 hf; obtain ⟨x38_7, hx38_7, hf⟩ := hf
          refine x_callV (As := [.int p2]) (a := o) (rest := []) C hW hl (qX12_minutesOf_ l E hx38_7) (x_gk hk38_6) (by decide) (by decide) rfl gv_X12_202 ⟨rfl, hd_X12_minutesOf_⟩ rfl rfl (Nat.le_of_ble_eq_true rfl) dX12_bestLeg_38 ⟨Nat.le_of_ble_eq_true rfl, Nat.le_of_ble_eq_true rfl⟩ ⟨Nat.le_of_ble_eq_true rfl, Nat.le_of_ble_eq_true rfl⟩ (fun H locs hW => ?_)
          refine lv_aload_n C.x C.b dX12_bestLeg_41 rfl (lv_at hl 0 rfl) ?_
          replace hf := x_b1 hf; obtain ⟨a42_8, ha42_8, hf⟩ := hf
          refine x_getn C hW fg_X12_9_15 ha42_8 dX12_bestLeg_42 ?_
          refine lv_bipush (v := 6) C.x C.b dX12_bestLeg_45 (by decide) ?_
          replace hf := x_b1 hf; obtain ⟨x47_9, hx47_9, hf⟩ := hf
          refine x_iald C hW hx47_9 dX12_bestLeg_47 ?_
          refine lv_iadd C.x C.b dX12_bestLeg_48 ?_
          refine lv_iload_n C.x C.b dX12_bestLeg_49 rfl (lv_at hl 3 rfl) ?_
          refine lv_icmp_le (tgt := 56) C.x C.b dX12_bestLeg_50 rfl (fun c50 => ?_) (fun c50 => ?_)
          · replace hf := x_ip c50 hf
            refine lv_iconst (v := 0) C.x C.b dX12_bestLeg_56 (by decide) ?_
            refine lv_istore (lv' := [(4, .int _), (0, .ref (E.b + _)), (1, .int _), (2, .int _), (3, .int _)]) C.x C.b dX12_bestLeg_57 hl (by decide) rfl (fun ls hl => ?_)
            refine lv_bipush (v := 101) C.x C.b dX12_bestLeg_59 (by decide) ?_
            refine lv_istore (lv' := [(5, .int _), (4, .int _), (0, .ref (E.b + _)), (1, .int _), (2, .int _), (3, .int _)]) C.x C.b dX12_bestLeg_61 hl (by decide) rfl (fun ls hl => ?_)
            refine lv_iconst (v := 0) C.x C.b dX12_bestLeg_63 (by decide) ?_
            refine lv_istore (lv' := [(6, .int _), (5, .int _), (4, .int _), (0, .ref (E.b + _)), (1, .int _), (2, .int _), (3, .int _)]) C.x C.b dX12_bestLeg_64 hl (by decide) rfl (fun ls hl => ?_)
            exact kX12_bestLeg_L66 C hr hin FL 0 101 0 M hf _ _ _ hW (lv_sub hl [3, 4, 5, 2, 1, 0] rfl)
          · replace hf := x_in c50 hf
            refine lv_bipush (v := (-3)) C.x C.b dX12_bestLeg_53 (by decide) ?_
            rw [x_e1 hf, x_e2 hf]
            exact x_iret C hr hW dX12_bestLeg_55
      · replace hf := x_ip c23 hf
        refine lv_iconst (v := (-1)) C.x C.b dX12_bestLeg_26 (by decide) ?_
        rw [x_e1 hf, x_e2 hf]
        exact x_iret C hr hW dX12_bestLeg_27

theorem dX12_turned_0 : decode cX12_turned 0 = .ok (.iload_n 1, 1) := by decide +kernel
theorem dX12_turned_1 : decode cX12_turned 1 = .ok (.invokestatic 133, 3) := by decide +kernel
theorem dX12_turned_4 : decode cX12_turned 4 = .ok (.ifCond .eq 22, 3) := by decide +kernel
theorem dX12_turned_7 : decode cX12_turned 7 = .ok (.iload_n 2, 1) := by decide +kernel
theorem dX12_turned_8 : decode cX12_turned 8 = .ok (.invokestatic 133, 3) := by decide +kernel
theorem dX12_turned_11 : decode cX12_turned 11 = .ok (.ifCond .eq 15, 3) := by decide +kernel
theorem dX12_turned_14 : decode cX12_turned 14 = .ok (.iload_n 3, 1) := by decide +kernel
theorem dX12_turned_15 : decode cX12_turned 15 = .ok (.i2l, 1) := by decide +kernel
theorem dX12_turned_16 : decode cX12_turned 16 = .ok (.lconst 1, 1) := by decide +kernel
theorem dX12_turned_17 : decode cX12_turned 17 = .ok (.ldc2_w 237, 3) := by decide +kernel
theorem dX12_turned_20 : decode cX12_turned 20 = .ok (.invokestatic 61, 3) := by decide +kernel
theorem dX12_turned_23 : decode cX12_turned 23 = .ok (.ifCond .ne 5, 3) := by decide +kernel
theorem dX12_turned_26 : decode cX12_turned 26 = .ok (.iconst (-1), 1) := by decide +kernel
theorem dX12_turned_27 : decode cX12_turned 27 = .ok (.ireturn, 1) := by decide +kernel
theorem dX12_turned_28 : decode cX12_turned 28 = .ok (.aload_n 0, 1) := by decide +kernel
theorem dX12_turned_29 : decode cX12_turned 29 = .ok (.getfield 9, 3) := by decide +kernel
theorem dX12_turned_32 : decode cX12_turned 32 = .ok (.iconst 2, 1) := by decide +kernel
theorem dX12_turned_33 : decode cX12_turned 33 = .ok (.iload_n 1, 1) := by decide +kernel
theorem dX12_turned_34 : decode cX12_turned 34 = .ok (.iadd, 1) := by decide +kernel
theorem dX12_turned_35 : decode cX12_turned 35 = .ok (.iaload, 1) := by decide +kernel
theorem dX12_turned_36 : decode cX12_turned 36 = .ok (.istore 4, 2) := by decide +kernel
theorem dX12_turned_38 : decode cX12_turned 38 = .ok (.iload 4, 2) := by decide +kernel
theorem dX12_turned_40 : decode cX12_turned 40 = .ok (.ifCond .ge 6, 3) := by decide +kernel
theorem dX12_turned_43 : decode cX12_turned 43 = .ok (.bipush (-3), 2) := by decide +kernel
theorem dX12_turned_45 : decode cX12_turned 45 = .ok (.ireturn, 1) := by decide +kernel
theorem dX12_turned_46 : decode cX12_turned 46 = .ok (.aload_n 0, 1) := by decide +kernel
theorem dX12_turned_47 : decode cX12_turned 47 = .ok (.invokevirtual 211, 3) := by decide +kernel
theorem dX12_turned_50 : decode cX12_turned 50 = .ok (.aload_n 0, 1) := by decide +kernel
theorem dX12_turned_51 : decode cX12_turned 51 = .ok (.iload_n 2, 1) := by decide +kernel
theorem dX12_turned_52 : decode cX12_turned 52 = .ok (.iconst 0, 1) := by decide +kernel
theorem dX12_turned_53 : decode cX12_turned 53 = .ok (.aload_n 0, 1) := by decide +kernel
theorem dX12_turned_54 : decode cX12_turned 54 = .ok (.getfield 9, 3) := by decide +kernel
theorem dX12_turned_57 : decode cX12_turned 57 = .ok (.bipush 12, 2) := by decide +kernel
theorem dX12_turned_59 : decode cX12_turned 59 = .ok (.iload_n 2, 1) := by decide +kernel
theorem dX12_turned_60 : decode cX12_turned 60 = .ok (.iadd, 1) := by decide +kernel
theorem dX12_turned_61 : decode cX12_turned 61 = .ok (.iaload, 1) := by decide +kernel
theorem dX12_turned_62 : decode cX12_turned 62 = .ok (.invokevirtual 199, 3) := by decide +kernel
theorem dX12_turned_65 : decode cX12_turned 65 = .ok (.iconst 0, 1) := by decide +kernel
theorem dX12_turned_66 : decode cX12_turned 66 = .ok (.istore 5, 2) := by decide +kernel
theorem dX12_turned_68 : decode cX12_turned 68 = .ok (.sipush 201, 3) := by decide +kernel
theorem dX12_turned_71 : decode cX12_turned 71 = .ok (.istore 6, 2) := by decide +kernel
theorem dX12_turned_73 : decode cX12_turned 73 = .ok (.iconst 0, 1) := by decide +kernel
theorem dX12_turned_74 : decode cX12_turned 74 = .ok (.istore 7, 2) := by decide +kernel
theorem dX12_turned_76 : decode cX12_turned 76 = .ok (.iload 7, 2) := by decide +kernel
theorem dX12_turned_78 : decode cX12_turned 78 = .ok (.iconst 4, 1) := by decide +kernel
theorem dX12_turned_79 : decode cX12_turned 79 = .ok (.if_icmp .ge 50, 3) := by decide +kernel
theorem dX12_turned_82 : decode cX12_turned 82 = .ok (.aload_n 0, 1) := by decide +kernel
theorem dX12_turned_83 : decode cX12_turned 83 = .ok (.iload 4, 2) := by decide +kernel
theorem dX12_turned_85 : decode cX12_turned 85 = .ok (.iconst 5, 1) := by decide +kernel
theorem dX12_turned_86 : decode cX12_turned 86 = .ok (.iload 7, 2) := by decide +kernel
theorem dX12_turned_88 : decode cX12_turned 88 = .ok (.invokevirtual 111, 3) := by decide +kernel
theorem dX12_turned_91 : decode cX12_turned 91 = .ok (.aload_n 0, 1) := by decide +kernel
theorem dX12_turned_92 : decode cX12_turned 92 = .ok (.iload_n 3, 1) := by decide +kernel
theorem dX12_turned_93 : decode cX12_turned 93 = .ok (.invokevirtual 223, 3) := by decide +kernel
theorem dX12_turned_96 : decode cX12_turned 96 = .ok (.istore 8, 2) := by decide +kernel
theorem dX12_turned_98 : decode cX12_turned 98 = .ok (.iload 8, 2) := by decide +kernel
theorem dX12_turned_100 : decode cX12_turned 100 = .ok (.iload 6, 2) := by decide +kernel
theorem dX12_turned_102 : decode cX12_turned 102 = .ok (.if_icmp .ge 8, 3) := by decide +kernel
theorem dX12_turned_105 : decode cX12_turned 105 = .ok (.iload 7, 2) := by decide +kernel
theorem dX12_turned_107 : decode cX12_turned 107 = .ok (.goto 5, 3) := by decide +kernel
theorem dX12_turned_110 : decode cX12_turned 110 = .ok (.iload 5, 2) := by decide +kernel
theorem dX12_turned_112 : decode cX12_turned 112 = .ok (.istore 5, 2) := by decide +kernel
theorem dX12_turned_114 : decode cX12_turned 114 = .ok (.iload 6, 2) := by decide +kernel
theorem dX12_turned_116 : decode cX12_turned 116 = .ok (.iload 8, 2) := by decide +kernel
theorem dX12_turned_118 : decode cX12_turned 118 = .ok (.invokestatic 157, 3) := by decide +kernel
theorem dX12_turned_121 : decode cX12_turned 121 = .ok (.istore 6, 2) := by decide +kernel
theorem dX12_turned_123 : decode cX12_turned 123 = .ok (.iinc 7 1, 3) := by decide +kernel
theorem dX12_turned_126 : decode cX12_turned 126 = .ok (.goto (-50), 3) := by decide +kernel
theorem dX12_turned_129 : decode cX12_turned 129 = .ok (.aload_n 0, 1) := by decide +kernel
theorem dX12_turned_130 : decode cX12_turned 130 = .ok (.invokevirtual 214, 3) := by decide +kernel
theorem dX12_turned_133 : decode cX12_turned 133 = .ok (.iload 5, 2) := by decide +kernel
theorem dX12_turned_135 : decode cX12_turned 135 = .ok (.ireturn, 1) := by decide +kernel
def fX12_turned_L76 (o : Nat) (v3 : Int32) (v4 : Int32) : Nat → Int32 → Int32 → Int32 → Mm → Option (Int32 × Mm)
  | 0, _, _, _, _ => none
  | n + 1, v5, v6, v7, M =>
    if 4 ≤ v7 then
      B1 (gk M o 15) fun _ =>
      B1 (fX12_laysBack M o) fun M130_13 =>
      some (v5, M130_13)
    else
      B1 (gk M o 15) fun _ =>
      B1 (fX12_sets M o v4 5 v7) fun M88_15 =>
      B1 (gk M88_15 o 15) fun _ =>
      B1 (fX12_seenFrom M88_15 o v3) fun x93_17 =>
      if v6 ≤ x93_17 then
        fX12_turned_L76 o v3 v4 n v5 (mnI v6 x93_17) (v7 + 1) M88_15
      else
        fX12_turned_L76 o v3 v4 n v7 (mnI v6 x93_17) (v7 + 1) M88_15
def fX12_turned (M : Mm) (o : Nat) (p1 : Int32) (p2 : Int32) (p3 : Int32) : Option (Int32 × Mm) :=
  B1 (fX12_isTwo M p1) fun x1_1 =>
  if x1_1 = 0 then
    some ((-1), M)
  else
    B1 (fX12_isTwo M p2) fun x8_2 =>
    if x8_2 = 0 then
      some ((-1), M)
    else
      B1 (fX12_in M (p3.toInt64) 1 15) fun x20_3 =>
      if x20_3 = 0 then
        some ((-1), M)
      else
        B1 (rdN M o 15 0) fun a29_4 =>
        B1 (alI M a29_4 (2 + p1)) fun x35_5 =>
        if 0 ≤ x35_5 then
          B1 (gk M o 15) fun _ =>
          B1 (fX12_lends M o) fun M47_7 =>
          B1 (rdN M47_7 o 15 0) fun a54_8 =>
          B1 (alI M47_7 a54_8 (12 + p2)) fun x61_9 =>
          B1 (gk M47_7 o 15) fun _ =>
          B1 (fX12_walks M47_7 o p2 0 x61_9) fun M62_11 =>
          fX12_turned_L76 o p3 x35_5 FL 0 201 0 M62_11
        else
          some ((-3), M)
set_option maxRecDepth 100000 in
set_option maxHeartbeats 4000000 in
theorem kX12_turned_L76 {l : Launch} {E : Ev} {p : Program} {e : Env} {s : State} {m : MethodId} {args : Array Value} {below : List Frame} {meth : Method} {c : Code} (C : Cx E p s m args meth c cX12_turned yX12_turned.cls 9) (hr : meth.sig.returnType = (some .int)) (hin : yX12_turned.name = "<init>" → meth.name = "<init>")  {o : Nat} {v3 : Int32} {v4 : Int32} {rz : Int32} {Mz : Mm} : ∀ (n : Nat) (v5 : Int32) (v6 : Int32) (v7 : Int32) (M : Mm), fX12_turned_L76 o v3 v4 n v5 v6 v7 M = some (rz, Mz) → ∀ (H : Heap) (locs : List Loc) (ls : Array Slot), Wx E s H locs M → lv_has ls 9 [(0, .ref (E.b + o)), (3, .int v3), (4, .int v4), (5, .int v5), (6, .int v6), (7, .int v7)] → W p l e (rM 7 168 0 0) s m args below meth c H locs 0 0 (MQ below (Qp E (some (.int rz)) Mz) args s 0 0 E.A) (F0 m 76 ls []) := by
  intro n
  induction n with
  | zero =>
    intro v5 v6 v7 M hf
    unfold fX12_turned_L76 at hf
    cases hf
  | succ n ih =>
    intro v5 v6 v7 M hf H locs ls hW hl
    unfold fX12_turned_L76 at hf
    refine lv_iload C.x C.b dX12_turned_76 (lv_at hl 5 rfl) ?_
    refine lv_iconst (v := 4) C.x C.b dX12_turned_78 (by decide) ?_
    refine lv_icmp_ge (tgt := 129) C.x C.b dX12_turned_79 rfl (fun c79 => ?_) (fun c79 => ?_)
    · replace hf := x_ip c79 hf
      refine lv_aload_n C.x C.b dX12_turned_129 rfl (lv_at hl 0 rfl) ?_
      replace hf := x_b1 hf; obtain ⟨_, hk130_12, hf⟩ := hf
      replace hf := x_b1 hf; obtain ⟨M130_13, hM130_13, hf⟩ := hf
      refine x_callV (As := []) (a := o) (rest := []) C hW hl (qX12_laysBack l E hM130_13) (x_gk hk130_12) (by decide) (by decide) rfl gv_X12_214 ⟨rfl, hd_X12_laysBack⟩ rfl rfl (Nat.le_of_ble_eq_true rfl) dX12_turned_130 ⟨Nat.le_of_ble_eq_true rfl, Nat.le_of_ble_eq_true rfl⟩ ⟨Nat.le_of_ble_eq_true rfl, Nat.le_of_ble_eq_true rfl⟩ (fun H locs hW => ?_)
      refine lv_iload C.x C.b dX12_turned_133 (lv_at hl 3 rfl) ?_
      rw [x_e1 hf, x_e2 hf]
      exact x_iret C hr hW dX12_turned_135
    · replace hf := x_in c79 hf
      refine lv_aload_n C.x C.b dX12_turned_82 rfl (lv_at hl 0 rfl) ?_
      refine lv_iload C.x C.b dX12_turned_83 (lv_at hl 2 rfl) ?_
      refine lv_iconst (v := 5) C.x C.b dX12_turned_85 (by decide) ?_
      refine lv_iload C.x C.b dX12_turned_86 (lv_at hl 5 rfl) ?_
      replace hf := x_b1 hf; obtain ⟨_, hk88_14, hf⟩ := hf
      replace hf := x_b1 hf; obtain ⟨M88_15, hM88_15, hf⟩ := hf
      refine x_callV (As := [.int v4, .int 5, .int v7]) (a := o) (rest := []) C hW hl (qX12_sets l E hM88_15) (x_gk hk88_14) (by decide) (by decide) rfl gv_X12_111 ⟨rfl, hd_X12_sets⟩ rfl rfl (Nat.le_of_ble_eq_true rfl) dX12_turned_88 ⟨Nat.le_of_ble_eq_true rfl, Nat.le_of_ble_eq_true rfl⟩ ⟨Nat.le_of_ble_eq_true rfl, Nat.le_of_ble_eq_true rfl⟩ (fun H locs hW => ?_)
      refine lv_aload_n C.x C.b dX12_turned_91 rfl (lv_at hl 0 rfl) ?_
      refine lv_iload_n C.x C.b dX12_turned_92 rfl (lv_at hl 1 rfl) ?_
      replace hf := x_b1 hf; obtain ⟨_, hk93_16, hf⟩ := hf
      replace hf := x_b1 hf; obtain ⟨x93_17, hx93_17, hf⟩ := hf
      refine x_callV (As := [.int v3]) (a := o) (rest := []) C hW hl (qX12_seenFrom l E hx93_17) (x_gk hk93_16) (by decide) (by decide) rfl gv_X12_223 ⟨rfl, hd_X12_seenFrom⟩ rfl rfl (Nat.le_of_ble_eq_true rfl) dX12_turned_93 ⟨Nat.le_of_ble_eq_true rfl, Nat.le_of_ble_eq_true rfl⟩ ⟨Nat.le_of_ble_eq_true rfl, Nat.le_of_ble_eq_true rfl⟩ (fun H locs hW => ?_)
      refine lv_istore (lv' := [(8, .int _), (0, .ref (E.b + _)), (3, .int _), (4, .int _), (5, .int _), (6, .int _), (7, .int _)]) C.x C.b dX12_turned_96 hl (by decide) rfl (fun ls hl => ?_)
      refine lv_iload C.x C.b dX12_turned_98 (lv_at hl 0 rfl) ?_
      refine lv_iload C.x C.b dX12_turned_100 (lv_at hl 5 rfl) ?_
      refine lv_icmp_ge (tgt := 110) C.x C.b dX12_turned_102 rfl (fun c102 => ?_) (fun c102 => ?_)
      · replace hf := x_ip c102 hf
        refine lv_iload C.x C.b dX12_turned_110 (lv_at hl 4 rfl) ?_
        refine lv_istore (lv' := [(5, .int _), (8, .int _), (0, .ref (E.b + _)), (3, .int _), (4, .int _), (6, .int _), (7, .int _)]) C.x C.b dX12_turned_112 hl (by decide) rfl (fun ls hl => ?_)
        refine lv_iload C.x C.b dX12_turned_114 (lv_at hl 5 rfl) ?_
        refine lv_iload C.x C.b dX12_turned_116 (lv_at hl 1 rfl) ?_
        refine x_mmin C hl T_7_73 T_3_160 T_1_15 T_3_161 (Nat.le_of_ble_eq_true rfl) (Nat.le_of_ble_eq_true rfl) ⟨Nat.le_of_ble_eq_true rfl, Nat.le_of_ble_eq_true rfl⟩ dX12_turned_118 ?_
        refine lv_istore (lv' := [(6, .int _), (5, .int _), (8, .int _), (0, .ref (E.b + _)), (3, .int _), (4, .int _), (7, .int _)]) C.x C.b dX12_turned_121 hl (by decide) rfl (fun ls hl => ?_)
        refine lv_iinc (v := (v7 + 1)) (lv' := [(7, .int (v7 + 1)), (6, .int _), (5, .int _), (8, .int _), (0, .ref (E.b + _)), (3, .int _), (4, .int _)]) C.x C.b dX12_turned_123 hl (k := 6) rfl (by first | rfl | decide) (by decide) rfl (fun ls hl => ?_)
        refine lv_goto (tgt := 76) C.x C.b dX12_turned_126 rfl ?_
        exact ih v5 (mnI v6 x93_17) (v7 + 1) M88_15 hf _ _ _ hW (lv_sub hl [4, 5, 6, 2, 1, 0] rfl)
      · replace hf := x_in c102 hf
        refine lv_iload C.x C.b dX12_turned_105 (lv_at hl 6 rfl) ?_
        refine lv_goto (tgt := 112) C.x C.b dX12_turned_107 rfl ?_
        refine lv_istore (lv' := [(5, .int _), (8, .int _), (0, .ref (E.b + _)), (3, .int _), (4, .int _), (6, .int _), (7, .int _)]) C.x C.b dX12_turned_112 hl (by decide) rfl (fun ls hl => ?_)
        refine lv_iload C.x C.b dX12_turned_114 (lv_at hl 5 rfl) ?_
        refine lv_iload C.x C.b dX12_turned_116 (lv_at hl 1 rfl) ?_
        refine x_mmin C hl T_7_73 T_3_160 T_1_15 T_3_161 (Nat.le_of_ble_eq_true rfl) (Nat.le_of_ble_eq_true rfl) ⟨Nat.le_of_ble_eq_true rfl, Nat.le_of_ble_eq_true rfl⟩ dX12_turned_118 ?_
        refine lv_istore (lv' := [(6, .int _), (5, .int _), (8, .int _), (0, .ref (E.b + _)), (3, .int _), (4, .int _), (7, .int _)]) C.x C.b dX12_turned_121 hl (by decide) rfl (fun ls hl => ?_)
        refine lv_iinc (v := (v7 + 1)) (lv' := [(7, .int (v7 + 1)), (6, .int _), (5, .int _), (8, .int _), (0, .ref (E.b + _)), (3, .int _), (4, .int _)]) C.x C.b dX12_turned_123 hl (k := 6) rfl (by first | rfl | decide) (by decide) rfl (fun ls hl => ?_)
        refine lv_goto (tgt := 76) C.x C.b dX12_turned_126 rfl ?_
        exact ih v7 (mnI v6 x93_17) (v7 + 1) M88_15 hf _ _ _ hW (lv_sub hl [4, 5, 6, 2, 1, 0] rfl)
set_option maxRecDepth 100000 in
set_option maxHeartbeats 4000000 in
theorem qX12_turned (l : Launch) (E : Ev) {M : Mm} {o : Nat} {p1 : Int32} {p2 : Int32} {p3 : Int32} {rz : Int32} {Mz : Mm} (hf : fX12_turned M o p1 p2 p3 = some (rz, Mz)) : Ct l E yX12_turned cX12_turned 9 (some .int) 7 168 0 0 [.ref (E.b + o), .int p1, .int p2, .int p3] M (some (.int rz)) Mz := by
  refine ct_of (by decide +kernel) (Nat.le_of_ble_eq_true rfl) fun p e s m args below meth c C hr hin hW ls hl => ?_
  have hl : lv_has ls 9 [(0, .ref (E.b + o)), (1, .int p1), (2, .int p2), (3, .int p3)] := hl
  unfold fX12_turned at hf
  refine lv_iload_n C.x C.b dX12_turned_0 rfl (lv_at hl 1 rfl) ?_
  replace hf := x_b1 hf; obtain ⟨x1_1, hx1_1, hf⟩ := hf
  refine x_callS (As := [.int p1]) (rest := []) C hW hl (qX12_isTwo l E hx1_1) gs_X12_133 hd_X12_isTwo rfl rfl (Nat.le_of_ble_eq_true rfl) dX12_turned_1 ⟨Nat.le_of_ble_eq_true rfl, Nat.le_of_ble_eq_true rfl⟩ ⟨Nat.le_of_ble_eq_true rfl, Nat.le_of_ble_eq_true rfl⟩ (fun H locs hW => ?_)
  refine lv_if_eq (tgt := 26) C.x C.b dX12_turned_4 rfl (fun c4 => ?_) (fun c4 => ?_)
  · replace hf := x_ip c4 hf
    refine lv_iconst (v := (-1)) C.x C.b dX12_turned_26 (by decide) ?_
    rw [x_e1 hf, x_e2 hf]
    exact x_iret C hr hW dX12_turned_27
  · replace hf := x_in c4 hf
    refine lv_iload_n C.x C.b dX12_turned_7 rfl (lv_at hl 2 rfl) ?_
    replace hf := x_b1 hf; obtain ⟨x8_2, hx8_2, hf⟩ := hf
    refine x_callS (As := [.int p2]) (rest := []) C hW hl (qX12_isTwo l E hx8_2) gs_X12_133 hd_X12_isTwo rfl rfl (Nat.le_of_ble_eq_true rfl) dX12_turned_8 ⟨Nat.le_of_ble_eq_true rfl, Nat.le_of_ble_eq_true rfl⟩ ⟨Nat.le_of_ble_eq_true rfl, Nat.le_of_ble_eq_true rfl⟩ (fun H locs hW => ?_)
    refine lv_if_eq (tgt := 26) C.x C.b dX12_turned_11 rfl (fun c11 => ?_) (fun c11 => ?_)
    · replace hf := x_ip c11 hf
      refine lv_iconst (v := (-1)) C.x C.b dX12_turned_26 (by decide) ?_
      rw [x_e1 hf, x_e2 hf]
      exact x_iret C hr hW dX12_turned_27
    · replace hf := x_in c11 hf
      refine lv_iload_n C.x C.b dX12_turned_14 rfl (lv_at hl 3 rfl) ?_
      refine lv_i2l (v := p3.toInt64) C.x C.b dX12_turned_15 rfl ?_
      refine lv_lconst (v := 1) C.x C.b dX12_turned_16 (by decide) ?_
      refine x_ldc2 (v := 15) C T_7_162 dX12_turned_17 ?_
      replace hf := x_b1 hf; obtain ⟨x20_3, hx20_3, hf⟩ := hf
      refine x_callS (As := [.long (p3.toInt64), .long 1, .long 15]) (rest := []) C hW hl (qX12_in l E hx20_3) gs_X12_61 hd_X12_in rfl rfl (Nat.le_of_ble_eq_true rfl) dX12_turned_20 ⟨Nat.le_of_ble_eq_true rfl, Nat.le_of_ble_eq_true rfl⟩ ⟨Nat.le_of_ble_eq_true rfl, Nat.le_of_ble_eq_true rfl⟩ (fun H locs hW => ?_)
      refine lv_if_ne (tgt := 28) C.x C.b dX12_turned_23 rfl (fun c23 => ?_) (fun c23 => ?_)
      · replace hf := x_in c23 hf
        refine lv_aload_n C.x C.b dX12_turned_28 rfl (lv_at hl 0 rfl) ?_
        replace hf := x_b1 hf; obtain ⟨a29_4, ha29_4, hf⟩ := hf
        refine x_getn C hW fg_X12_9_15 ha29_4 dX12_turned_29 ?_
        refine lv_iconst (v := 2) C.x C.b dX12_turned_32 (by decide) ?_
        refine lv_iload_n C.x C.b dX12_turned_33 rfl (lv_at hl 1 rfl) ?_
        refine lv_iadd C.x C.b dX12_turned_34 ?_
        replace hf := x_b1 hf; obtain ⟨x35_5, hx35_5, hf⟩ := hf
        refine x_iald C hW hx35_5 dX12_turned_35 ?_
        refine lv_istore (lv' := [(4, .int _), (0, .ref (E.b + _)), (1, .int _), (2, .int _), (3, .int _)]) C.x C.b dX12_turned_36 hl (by decide) rfl (fun ls hl => ?_)
        refine lv_iload C.x C.b dX12_turned_38 (lv_at hl 0 rfl) ?_
        refine lv_if_ge (tgt := 46) C.x C.b dX12_turned_40 rfl (fun c40 => ?_) (fun c40 => ?_)
        · replace hf := x_ip c40 hf
          refine lv_aload_n C.x C.b dX12_turned_46 rfl (lv_at hl 1 rfl) ?_
          replace hf := x_b1 hf; obtain ⟨_, hk47_6, hf⟩ := hf
          replace hf := x_b1 hf; obtain ⟨M47_7, hM47_7, hf⟩ := hf
          refine x_callV (As := []) (a := o) (rest := []) C hW hl (qX12_lends l E hM47_7) (x_gk hk47_6) (by decide) (by decide) rfl gv_X12_211 ⟨rfl, hd_X12_lends⟩ rfl rfl (Nat.le_of_ble_eq_true rfl) dX12_turned_47 ⟨Nat.le_of_ble_eq_true rfl, Nat.le_of_ble_eq_true rfl⟩ ⟨Nat.le_of_ble_eq_true rfl, Nat.le_of_ble_eq_true rfl⟩ (fun H locs hW => ?_)
          refine lv_aload_n C.x C.b dX12_turned_50 rfl (lv_at hl 1 rfl) ?_
          refine lv_iload_n C.x C.b dX12_turned_51 rfl (lv_at hl 3 rfl) ?_
          refine lv_iconst (v := 0) C.x C.b dX12_turned_52 (by decide) ?_
          refine lv_aload_n C.x C.b dX12_turned_53 rfl (lv_at hl 1 rfl) ?_
          replace hf := x_b1 hf; obtain ⟨a54_8, ha54_8, hf⟩ := hf
          refine x_getn C hW fg_X12_9_15 ha54_8 dX12_turned_54 ?_
          refine lv_bipush (v := 12) C.x C.b dX12_turned_57 (by decide) ?_
          refine lv_iload_n C.x C.b dX12_turned_59 rfl (lv_at hl 3 rfl) ?_
          refine lv_iadd C.x C.b dX12_turned_60 ?_
          replace hf := x_b1 hf; obtain ⟨x61_9, hx61_9, hf⟩ := hf
          refine x_iald C hW hx61_9 dX12_turned_61 ?_
          replace hf := x_b1 hf; obtain ⟨_, hk62_10, hf⟩ := hf
          replace hf := x_b1 hf; obtain ⟨M62_11, hM62_11, hf⟩ := hf
          refine x_callV (As := [.int p2, .int 0, .int x61_9]) (a := o) (rest := []) C hW hl (qX12_walks l E hM62_11) (x_gk hk62_10) (by decide) (by decide) rfl gv_X12_199 ⟨rfl, hd_X12_walks⟩ rfl rfl (Nat.le_of_ble_eq_true rfl) dX12_turned_62 ⟨Nat.le_of_ble_eq_true rfl, Nat.le_of_ble_eq_true rfl⟩ ⟨Nat.le_of_ble_eq_true rfl, Nat.le_of_ble_eq_true rfl⟩ (fun H locs hW => ?_)
          refine lv_iconst (v := 0) C.x C.b dX12_turned_65 (by decide) ?_
          refine lv_istore (lv' := [(5, .int _), (4, .int _), (0, .ref (E.b + _)), (1, .int _), (2, .int _), (3, .int _)]) C.x C.b dX12_turned_66 hl (by decide) rfl (fun ls hl => ?_)
          refine lv_sipush (v := 201) C.x C.b dX12_turned_68 (by decide) ?_
          refine lv_istore (lv' := [(6, .int _), (5, .int _), (4, .int _), (0, .ref (E.b + _)), (1, .int _), (2, .int _), (3, .int _)]) C.x C.b dX12_turned_71 hl (by decide) rfl (fun ls hl => ?_)
          refine lv_iconst (v := 0) C.x C.b dX12_turned_73 (by decide) ?_
          refine lv_istore (lv' := [(7, .int _), (6, .int _), (5, .int _), (4, .int _), (0, .ref (E.b + _)), (1, .int _), (2, .int _), (3, .int _)]) C.x C.b dX12_turned_74 hl (by decide) rfl (fun ls hl => ?_)
          exact kX12_turned_L76 C hr hin FL 0 201 0 M62_11 hf _ _ _ hW (lv_sub hl [4, 7, 3, 2, 1, 0] rfl)
        · replace hf := x_in c40 hf
          refine lv_bipush (v := (-3)) C.x C.b dX12_turned_43 (by decide) ?_
          rw [x_e1 hf, x_e2 hf]
          exact x_iret C hr hW dX12_turned_45
      · replace hf := x_ip c23 hf
        refine lv_iconst (v := (-1)) C.x C.b dX12_turned_26 (by decide) ?_
        rw [x_e1 hf, x_e2 hf]
        exact x_iret C hr hW dX12_turned_27

theorem dX12_openBehind_0 : decode cX12_openBehind 0 = .ok (.aload_n 0, 1) := by decide +kernel
theorem dX12_openBehind_1 : decode cX12_openBehind 1 = .ok (.invokevirtual 211, 3) := by decide +kernel
theorem dX12_openBehind_4 : decode cX12_openBehind 4 = .ok (.aload_n 0, 1) := by decide +kernel
theorem dX12_openBehind_5 : decode cX12_openBehind 5 = .ok (.iload_n 1, 1) := by decide +kernel
theorem dX12_openBehind_6 : decode cX12_openBehind 6 = .ok (.iconst 0, 1) := by decide +kernel
theorem dX12_openBehind_7 : decode cX12_openBehind 7 = .ok (.aload_n 0, 1) := by decide +kernel
theorem dX12_openBehind_8 : decode cX12_openBehind 8 = .ok (.getfield 9, 3) := by decide +kernel
theorem dX12_openBehind_11 : decode cX12_openBehind 11 = .ok (.bipush 12, 2) := by decide +kernel
theorem dX12_openBehind_13 : decode cX12_openBehind 13 = .ok (.iload_n 1, 1) := by decide +kernel
theorem dX12_openBehind_14 : decode cX12_openBehind 14 = .ok (.iadd, 1) := by decide +kernel
theorem dX12_openBehind_15 : decode cX12_openBehind 15 = .ok (.iaload, 1) := by decide +kernel
theorem dX12_openBehind_16 : decode cX12_openBehind 16 = .ok (.invokevirtual 199, 3) := by decide +kernel
theorem dX12_openBehind_19 : decode cX12_openBehind 19 = .ok (.aload_n 0, 1) := by decide +kernel
theorem dX12_openBehind_20 : decode cX12_openBehind 20 = .ok (.invokevirtual 192, 3) := by decide +kernel
theorem dX12_openBehind_23 : decode cX12_openBehind 23 = .ok (.istore_n 2, 1) := by decide +kernel
theorem dX12_openBehind_24 : decode cX12_openBehind 24 = .ok (.aload_n 0, 1) := by decide +kernel
theorem dX12_openBehind_25 : decode cX12_openBehind 25 = .ok (.invokevirtual 214, 3) := by decide +kernel
theorem dX12_openBehind_28 : decode cX12_openBehind 28 = .ok (.iload_n 2, 1) := by decide +kernel
theorem dX12_openBehind_29 : decode cX12_openBehind 29 = .ok (.ireturn, 1) := by decide +kernel
def fX12_openBehind (M : Mm) (o : Nat) (p1 : Int32) : Option (Int32 × Mm) :=
  B1 (gk M o 15) fun _ =>
  B1 (fX12_lends M o) fun M1_2 =>
  B1 (rdN M1_2 o 15 0) fun a8_3 =>
  B1 (alI M1_2 a8_3 (12 + p1)) fun x15_4 =>
  B1 (gk M1_2 o 15) fun _ =>
  B1 (fX12_walks M1_2 o p1 0 x15_4) fun M16_6 =>
  B1 (gk M16_6 o 15) fun _ =>
  B1 (fX12_openOn M16_6 o) fun x20_8 =>
  B1 (gk M16_6 o 15) fun _ =>
  B1 (fX12_laysBack M16_6 o) fun M25_10 =>
  some (x20_8, M25_10)
set_option maxRecDepth 100000 in
set_option maxHeartbeats 4000000 in
theorem qX12_openBehind (l : Launch) (E : Ev) {M : Mm} {o : Nat} {p1 : Int32} {rz : Int32} {Mz : Mm} (hf : fX12_openBehind M o p1 = some (rz, Mz)) : Ct l E yX12_openBehind cX12_openBehind 3 (some .int) 7 168 0 0 [.ref (E.b + o), .int p1] M (some (.int rz)) Mz := by
  refine ct_of (by decide +kernel) (Nat.le_of_ble_eq_true rfl) fun p e s m args below meth c C hr hin hW ls hl => ?_
  have hl : lv_has ls 3 [(0, .ref (E.b + o)), (1, .int p1)] := hl
  unfold fX12_openBehind at hf
  refine lv_aload_n C.x C.b dX12_openBehind_0 rfl (lv_at hl 0 rfl) ?_
  replace hf := x_b1 hf; obtain ⟨_, hk1_1, hf⟩ := hf
  replace hf := x_b1 hf; obtain ⟨M1_2, hM1_2, hf⟩ := hf
  refine x_callV (As := []) (a := o) (rest := []) C hW hl (qX12_lends l E hM1_2) (x_gk hk1_1) (by decide) (by decide) rfl gv_X12_211 ⟨rfl, hd_X12_lends⟩ rfl rfl (Nat.le_of_ble_eq_true rfl) dX12_openBehind_1 ⟨Nat.le_of_ble_eq_true rfl, Nat.le_of_ble_eq_true rfl⟩ ⟨Nat.le_of_ble_eq_true rfl, Nat.le_of_ble_eq_true rfl⟩ (fun H locs hW => ?_)
  refine lv_aload_n C.x C.b dX12_openBehind_4 rfl (lv_at hl 0 rfl) ?_
  refine lv_iload_n C.x C.b dX12_openBehind_5 rfl (lv_at hl 1 rfl) ?_
  refine lv_iconst (v := 0) C.x C.b dX12_openBehind_6 (by decide) ?_
  refine lv_aload_n C.x C.b dX12_openBehind_7 rfl (lv_at hl 0 rfl) ?_
  replace hf := x_b1 hf; obtain ⟨a8_3, ha8_3, hf⟩ := hf
  refine x_getn C hW fg_X12_9_15 ha8_3 dX12_openBehind_8 ?_
  refine lv_bipush (v := 12) C.x C.b dX12_openBehind_11 (by decide) ?_
  refine lv_iload_n C.x C.b dX12_openBehind_13 rfl (lv_at hl 1 rfl) ?_
  refine lv_iadd C.x C.b dX12_openBehind_14 ?_
  replace hf := x_b1 hf; obtain ⟨x15_4, hx15_4, hf⟩ := hf
  refine x_iald C hW hx15_4 dX12_openBehind_15 ?_
  replace hf := x_b1 hf; obtain ⟨_, hk16_5, hf⟩ := hf
  replace hf := x_b1 hf; obtain ⟨M16_6, hM16_6, hf⟩ := hf
  refine x_callV (As := [.int p1, .int 0, .int x15_4]) (a := o) (rest := []) C hW hl (qX12_walks l E hM16_6) (x_gk hk16_5) (by decide) (by decide) rfl gv_X12_199 ⟨rfl, hd_X12_walks⟩ rfl rfl (Nat.le_of_ble_eq_true rfl) dX12_openBehind_16 ⟨Nat.le_of_ble_eq_true rfl, Nat.le_of_ble_eq_true rfl⟩ ⟨Nat.le_of_ble_eq_true rfl, Nat.le_of_ble_eq_true rfl⟩ (fun H locs hW => ?_)
  refine lv_aload_n C.x C.b dX12_openBehind_19 rfl (lv_at hl 0 rfl) ?_
  replace hf := x_b1 hf; obtain ⟨_, hk20_7, hf⟩ := hf
  replace hf := x_b1 hf; obtain ⟨x20_8, hx20_8, hf⟩ := hf
  refine x_callV (As := []) (a := o) (rest := []) C hW hl (qX12_openOn l E hx20_8) (x_gk hk20_7) (by decide) (by decide) rfl gv_X12_192 ⟨rfl, hd_X12_openOn⟩ rfl rfl (Nat.le_of_ble_eq_true rfl) dX12_openBehind_20 ⟨Nat.le_of_ble_eq_true rfl, Nat.le_of_ble_eq_true rfl⟩ ⟨Nat.le_of_ble_eq_true rfl, Nat.le_of_ble_eq_true rfl⟩ (fun H locs hW => ?_)
  refine lv_istore_n (lv' := [(2, .int _), (0, .ref (E.b + _)), (1, .int _)]) C.x C.b dX12_openBehind_23 rfl hl (by decide) rfl (fun ls hl => ?_)
  refine lv_aload_n C.x C.b dX12_openBehind_24 rfl (lv_at hl 1 rfl) ?_
  replace hf := x_b1 hf; obtain ⟨_, hk25_9, hf⟩ := hf
  replace hf := x_b1 hf; obtain ⟨M25_10, hM25_10, hf⟩ := hf
  refine x_callV (As := []) (a := o) (rest := []) C hW hl (qX12_laysBack l E hM25_10) (x_gk hk25_9) (by decide) (by decide) rfl gv_X12_214 ⟨rfl, hd_X12_laysBack⟩ rfl rfl (Nat.le_of_ble_eq_true rfl) dX12_openBehind_25 ⟨Nat.le_of_ble_eq_true rfl, Nat.le_of_ble_eq_true rfl⟩ ⟨Nat.le_of_ble_eq_true rfl, Nat.le_of_ble_eq_true rfl⟩ (fun H locs hW => ?_)
  refine lv_iload_n C.x C.b dX12_openBehind_28 rfl (lv_at hl 0 rfl) ?_
  rw [x_e1 hf, x_e2 hf]
  exact x_iret C hr hW dX12_openBehind_29

theorem dX12_better_0 : decode cX12_better 0 = .ok (.aload_n 0, 1) := by decide +kernel
theorem dX12_better_1 : decode cX12_better 1 = .ok (.iconst 0, 1) := by decide +kernel
theorem dX12_better_2 : decode cX12_better 2 = .ok (.invokevirtual 239, 3) := by decide +kernel
theorem dX12_better_5 : decode cX12_better 5 = .ok (.istore_n 1, 1) := by decide +kernel
theorem dX12_better_6 : decode cX12_better 6 = .ok (.aload_n 0, 1) := by decide +kernel
theorem dX12_better_7 : decode cX12_better 7 = .ok (.iconst 1, 1) := by decide +kernel
theorem dX12_better_8 : decode cX12_better 8 = .ok (.invokevirtual 239, 3) := by decide +kernel
theorem dX12_better_11 : decode cX12_better 11 = .ok (.istore_n 2, 1) := by decide +kernel
theorem dX12_better_12 : decode cX12_better 12 = .ok (.iload_n 2, 1) := by decide +kernel
theorem dX12_better_13 : decode cX12_better 13 = .ok (.iload_n 1, 1) := by decide +kernel
theorem dX12_better_14 : decode cX12_better 14 = .ok (.if_icmp .lt 21, 3) := by decide +kernel
theorem dX12_better_17 : decode cX12_better 17 = .ok (.iload_n 2, 1) := by decide +kernel
theorem dX12_better_18 : decode cX12_better 18 = .ok (.iload_n 1, 1) := by decide +kernel
theorem dX12_better_19 : decode cX12_better 19 = .ok (.if_icmp .ne 20, 3) := by decide +kernel
theorem dX12_better_22 : decode cX12_better 22 = .ok (.aload_n 0, 1) := by decide +kernel
theorem dX12_better_23 : decode cX12_better 23 = .ok (.iconst 1, 1) := by decide +kernel
theorem dX12_better_24 : decode cX12_better 24 = .ok (.invokevirtual 202, 3) := by decide +kernel
theorem dX12_better_27 : decode cX12_better 27 = .ok (.aload_n 0, 1) := by decide +kernel
theorem dX12_better_28 : decode cX12_better 28 = .ok (.iconst 0, 1) := by decide +kernel
theorem dX12_better_29 : decode cX12_better 29 = .ok (.invokevirtual 202, 3) := by decide +kernel
theorem dX12_better_32 : decode cX12_better 32 = .ok (.if_icmp .ge 7, 3) := by decide +kernel
theorem dX12_better_35 : decode cX12_better 35 = .ok (.iconst 1, 1) := by decide +kernel
theorem dX12_better_36 : decode cX12_better 36 = .ok (.goto 4, 3) := by decide +kernel
theorem dX12_better_39 : decode cX12_better 39 = .ok (.iconst 0, 1) := by decide +kernel
theorem dX12_better_40 : decode cX12_better 40 = .ok (.ireturn, 1) := by decide +kernel
theorem hd_X12_openBehind : yX12_openBehind.cls ≠ "java/lang/invoke/MethodHandle" ∧ yX12_openBehind.cls ≠ "java/lang/invoke/VarHandle" ∧ (parseMethodDescriptor yX12_openBehind.desc).map (fun d => d.parameters.length) = some 1 := by decide +kernel
theorem gv_X12_239 : GoodIn gT (wsV "NylonLadderModel" 239 "NylonLadderModel" yX12_openBehind (Cond.code yX12_openBehind cX12_openBehind 3 (some .int) :: gT)) := good_V T_7_167 T_7_169 TS_66 T_1_10 T_7_170
def fX12_better (M : Mm) (o : Nat) : Option (Int32 × Mm) :=
  B1 (gk M o 15) fun _ =>
  B2 (fX12_openBehind M o 0) fun x2_2 M2_3 =>
  B1 (gk M2_3 o 15) fun _ =>
  B2 (fX12_openBehind M2_3 o 1) fun x8_5 M8_6 =>
  if x8_5 < x2_2 then
    some (1, M8_6)
  else
    if x8_5 = x2_2 then
      B1 (gk M8_6 o 15) fun _ =>
      B1 (fX12_minutesOf_ M8_6 o 1) fun x24_8 =>
      B1 (gk M8_6 o 15) fun _ =>
      B1 (fX12_minutesOf_ M8_6 o 0) fun x29_10 =>
      if x29_10 ≤ x24_8 then
        some (0, M8_6)
      else
        some (1, M8_6)
    else
      some (0, M8_6)
set_option maxRecDepth 100000 in
set_option maxHeartbeats 4000000 in
theorem qX12_better (l : Launch) (E : Ev) {M : Mm} {o : Nat} {rz : Int32} {Mz : Mm} (hf : fX12_better M o = some (rz, Mz)) : Ct l E yX12_better cX12_better 3 (some .int) 8 190 0 0 [.ref (E.b + o)] M (some (.int rz)) Mz := by
  refine ct_of (by decide +kernel) (Nat.le_of_ble_eq_true rfl) fun p e s m args below meth c C hr hin hW ls hl => ?_
  have hl : lv_has ls 3 [(0, .ref (E.b + o))] := hl
  unfold fX12_better at hf
  refine lv_aload_n C.x C.b dX12_better_0 rfl (lv_at hl 0 rfl) ?_
  refine lv_iconst (v := 0) C.x C.b dX12_better_1 (by decide) ?_
  replace hf := x_b1 hf; obtain ⟨_, hk2_1, hf⟩ := hf
  replace hf := x_b2 hf; obtain ⟨x2_2, M2_3, hx2_2, hf⟩ := hf
  refine x_callV (As := [.int 0]) (a := o) (rest := []) C hW hl (qX12_openBehind l E hx2_2) (x_gk hk2_1) (by decide) (by decide) rfl gv_X12_239 ⟨rfl, hd_X12_openBehind⟩ rfl rfl (Nat.le_of_ble_eq_true rfl) dX12_better_2 ⟨Nat.le_of_ble_eq_true rfl, Nat.le_of_ble_eq_true rfl⟩ ⟨Nat.le_of_ble_eq_true rfl, Nat.le_of_ble_eq_true rfl⟩ (fun H locs hW => ?_)
  refine lv_istore_n (lv' := [(1, .int _), (0, .ref (E.b + _))]) C.x C.b dX12_better_5 rfl hl (by decide) rfl (fun ls hl => ?_)
  refine lv_aload_n C.x C.b dX12_better_6 rfl (lv_at hl 1 rfl) ?_
  refine lv_iconst (v := 1) C.x C.b dX12_better_7 (by decide) ?_
  replace hf := x_b1 hf; obtain ⟨_, hk8_4, hf⟩ := hf
  replace hf := x_b2 hf; obtain ⟨x8_5, M8_6, hx8_5, hf⟩ := hf
  refine x_callV (As := [.int 1]) (a := o) (rest := []) C hW hl (qX12_openBehind l E hx8_5) (x_gk hk8_4) (by decide) (by decide) rfl gv_X12_239 ⟨rfl, hd_X12_openBehind⟩ rfl rfl (Nat.le_of_ble_eq_true rfl) dX12_better_8 ⟨Nat.le_of_ble_eq_true rfl, Nat.le_of_ble_eq_true rfl⟩ ⟨Nat.le_of_ble_eq_true rfl, Nat.le_of_ble_eq_true rfl⟩ (fun H locs hW => ?_)
  refine lv_istore_n (lv' := [(2, .int _), (1, .int _), (0, .ref (E.b + _))]) C.x C.b dX12_better_11 rfl hl (by decide) rfl (fun ls hl => ?_)
  refine lv_iload_n C.x C.b dX12_better_12 rfl (lv_at hl 0 rfl) ?_
  refine lv_iload_n C.x C.b dX12_better_13 rfl (lv_at hl 1 rfl) ?_
  refine lv_icmp_lt (tgt := 35) C.x C.b dX12_better_14 rfl (fun c14 => ?_) (fun c14 => ?_)
  · replace hf := x_ip c14 hf
    refine lv_iconst (v := 1) C.x C.b dX12_better_35 (by decide) ?_
    refine lv_goto (tgt := 40) C.x C.b dX12_better_36 rfl ?_
    rw [x_e1 hf, x_e2 hf]
    exact x_iret C hr hW dX12_better_40
  · replace hf := x_in c14 hf
    refine lv_iload_n C.x C.b dX12_better_17 rfl (lv_at hl 0 rfl) ?_
    refine lv_iload_n C.x C.b dX12_better_18 rfl (lv_at hl 1 rfl) ?_
    refine lv_icmp_ne (tgt := 39) C.x C.b dX12_better_19 rfl (fun c19 => ?_) (fun c19 => ?_)
    · replace hf := x_in c19 hf
      refine lv_iconst (v := 0) C.x C.b dX12_better_39 (by decide) ?_
      rw [x_e1 hf, x_e2 hf]
      exact x_iret C hr hW dX12_better_40
    · replace hf := x_ip c19 hf
      refine lv_aload_n C.x C.b dX12_better_22 rfl (lv_at hl 2 rfl) ?_
      refine lv_iconst (v := 1) C.x C.b dX12_better_23 (by decide) ?_
      replace hf := x_b1 hf; obtain ⟨_, hk24_7, hf⟩ := hf
      replace hf := x_b1 hf; obtain ⟨x24_8, hx24_8, hf⟩ := hf
      refine x_callV (As := [.int 1]) (a := o) (rest := []) C hW hl (qX12_minutesOf_ l E hx24_8) (x_gk hk24_7) (by decide) (by decide) rfl gv_X12_202 ⟨rfl, hd_X12_minutesOf_⟩ rfl rfl (Nat.le_of_ble_eq_true rfl) dX12_better_24 ⟨Nat.le_of_ble_eq_true rfl, Nat.le_of_ble_eq_true rfl⟩ ⟨Nat.le_of_ble_eq_true rfl, Nat.le_of_ble_eq_true rfl⟩ (fun H locs hW => ?_)
      refine lv_aload_n C.x C.b dX12_better_27 rfl (lv_at hl 2 rfl) ?_
      refine lv_iconst (v := 0) C.x C.b dX12_better_28 (by decide) ?_
      replace hf := x_b1 hf; obtain ⟨_, hk29_9, hf⟩ := hf
      replace hf := x_b1 hf; obtain ⟨x29_10, hx29_10, hf⟩ := hf
      refine x_callV (As := [.int 0]) (a := o) (rest := [.int x24_8]) C hW hl (qX12_minutesOf_ l E hx29_10) (x_gk hk29_9) (by decide) (by decide) rfl gv_X12_202 ⟨rfl, hd_X12_minutesOf_⟩ rfl rfl (Nat.le_of_ble_eq_true rfl) dX12_better_29 ⟨Nat.le_of_ble_eq_true rfl, Nat.le_of_ble_eq_true rfl⟩ ⟨Nat.le_of_ble_eq_true rfl, Nat.le_of_ble_eq_true rfl⟩ (fun H locs hW => ?_)
      refine lv_icmp_ge (tgt := 39) C.x C.b dX12_better_32 rfl (fun c32 => ?_) (fun c32 => ?_)
      · replace hf := x_ip c32 hf
        refine lv_iconst (v := 0) C.x C.b dX12_better_39 (by decide) ?_
        rw [x_e1 hf, x_e2 hf]
        exact x_iret C hr hW dX12_better_40
      · replace hf := x_in c32 hf
        refine lv_iconst (v := 1) C.x C.b dX12_better_35 (by decide) ?_
        refine lv_goto (tgt := 40) C.x C.b dX12_better_36 rfl ?_
        rw [x_e1 hf, x_e2 hf]
        exact x_iret C hr hW dX12_better_40

theorem dX12_isGood_0 : decode cX12_isGood 0 = .ok (.aload_n 0, 1) := by decide +kernel
theorem dX12_isGood_1 : decode cX12_isGood 1 = .ok (.iload_n 1, 1) := by decide +kernel
theorem dX12_isGood_2 : decode cX12_isGood 2 = .ok (.iconst 4, 1) := by decide +kernel
theorem dX12_isGood_3 : decode cX12_isGood 3 = .ok (.invokevirtual 67, 3) := by decide +kernel
theorem dX12_isGood_6 : decode cX12_isGood 6 = .ok (.aload_n 0, 1) := by decide +kernel
theorem dX12_isGood_7 : decode cX12_isGood 7 = .ok (.iload_n 1, 1) := by decide +kernel
theorem dX12_isGood_8 : decode cX12_isGood 8 = .ok (.iconst 3, 1) := by decide +kernel
theorem dX12_isGood_9 : decode cX12_isGood 9 = .ok (.invokevirtual 67, 3) := by decide +kernel
theorem dX12_isGood_12 : decode cX12_isGood 12 = .ok (.if_icmp .ge 15, 3) := by decide +kernel
theorem dX12_isGood_15 : decode cX12_isGood 15 = .ok (.aload_n 0, 1) := by decide +kernel
theorem dX12_isGood_16 : decode cX12_isGood 16 = .ok (.iload_n 1, 1) := by decide +kernel
theorem dX12_isGood_17 : decode cX12_isGood 17 = .ok (.invokevirtual 220, 3) := by decide +kernel
theorem dX12_isGood_20 : decode cX12_isGood 20 = .ok (.ifCond .ne 7, 3) := by decide +kernel
theorem dX12_isGood_23 : decode cX12_isGood 23 = .ok (.iconst 1, 1) := by decide +kernel
theorem dX12_isGood_24 : decode cX12_isGood 24 = .ok (.goto 4, 3) := by decide +kernel
theorem dX12_isGood_27 : decode cX12_isGood 27 = .ok (.iconst 0, 1) := by decide +kernel
theorem dX12_isGood_28 : decode cX12_isGood 28 = .ok (.ireturn, 1) := by decide +kernel
def fX12_isGood (M : Mm) (o : Nat) (p1 : Int32) : Option Int32 :=
  B1 (gk M o 15) fun _ =>
  B1 (fX12_its M o p1 4) fun x3_2 =>
  B1 (gk M o 15) fun _ =>
  B1 (fX12_its M o p1 3) fun x9_4 =>
  if x9_4 ≤ x3_2 then
    some 0
  else
    B1 (gk M o 15) fun _ =>
    B1 (fX12_bareOf M o p1) fun x17_6 =>
    if x17_6 = 0 then
      some 1
    else
      some 0
set_option maxRecDepth 100000 in
set_option maxHeartbeats 4000000 in
theorem qX12_isGood (l : Launch) (E : Ev) {M : Mm} {o : Nat} {p1 : Int32} {rz : Int32} (hf : fX12_isGood M o p1 = some rz) : Ct l E yX12_isGood cX12_isGood 2 (some .boolean) 3 66 0 0 [.ref (E.b + o), .int p1] M (some (.int rz)) M := by
  refine ct_of (by decide +kernel) (Nat.le_of_ble_eq_true rfl) fun p e s m args below meth c C hr hin hW ls hl => ?_
  have hl : lv_has ls 2 [(0, .ref (E.b + o)), (1, .int p1)] := hl
  unfold fX12_isGood at hf
  refine lv_aload_n C.x C.b dX12_isGood_0 rfl (lv_at hl 0 rfl) ?_
  refine lv_iload_n C.x C.b dX12_isGood_1 rfl (lv_at hl 1 rfl) ?_
  refine lv_iconst (v := 4) C.x C.b dX12_isGood_2 (by decide) ?_
  replace hf := x_b1 hf; obtain ⟨_, hk3_1, hf⟩ := hf
  replace hf := x_b1 hf; obtain ⟨x3_2, hx3_2, hf⟩ := hf
  refine x_callV (As := [.int p1, .int 4]) (a := o) (rest := []) C hW hl (qX12_its l E hx3_2) (x_gk hk3_1) (by decide) (by decide) rfl gv_X12_67 ⟨rfl, hd_X12_its⟩ rfl rfl (Nat.le_of_ble_eq_true rfl) dX12_isGood_3 ⟨Nat.le_of_ble_eq_true rfl, Nat.le_of_ble_eq_true rfl⟩ ⟨Nat.le_of_ble_eq_true rfl, Nat.le_of_ble_eq_true rfl⟩ (fun H locs hW => ?_)
  refine lv_aload_n C.x C.b dX12_isGood_6 rfl (lv_at hl 0 rfl) ?_
  refine lv_iload_n C.x C.b dX12_isGood_7 rfl (lv_at hl 1 rfl) ?_
  refine lv_iconst (v := 3) C.x C.b dX12_isGood_8 (by decide) ?_
  replace hf := x_b1 hf; obtain ⟨_, hk9_3, hf⟩ := hf
  replace hf := x_b1 hf; obtain ⟨x9_4, hx9_4, hf⟩ := hf
  refine x_callV (As := [.int p1, .int 3]) (a := o) (rest := [.int x3_2]) C hW hl (qX12_its l E hx9_4) (x_gk hk9_3) (by decide) (by decide) rfl gv_X12_67 ⟨rfl, hd_X12_its⟩ rfl rfl (Nat.le_of_ble_eq_true rfl) dX12_isGood_9 ⟨Nat.le_of_ble_eq_true rfl, Nat.le_of_ble_eq_true rfl⟩ ⟨Nat.le_of_ble_eq_true rfl, Nat.le_of_ble_eq_true rfl⟩ (fun H locs hW => ?_)
  refine lv_icmp_ge (tgt := 27) C.x C.b dX12_isGood_12 rfl (fun c12 => ?_) (fun c12 => ?_)
  · replace hf := x_ip c12 hf
    refine lv_iconst (v := 0) C.x C.b dX12_isGood_27 (by decide) ?_
    rw [x_e0 hf]
    exact x_zret C hr hW (v := 0) (w := 0) rfl dX12_isGood_28
  · replace hf := x_in c12 hf
    refine lv_aload_n C.x C.b dX12_isGood_15 rfl (lv_at hl 0 rfl) ?_
    refine lv_iload_n C.x C.b dX12_isGood_16 rfl (lv_at hl 1 rfl) ?_
    replace hf := x_b1 hf; obtain ⟨_, hk17_5, hf⟩ := hf
    replace hf := x_b1 hf; obtain ⟨x17_6, hx17_6, hf⟩ := hf
    refine x_callV (As := [.int p1]) (a := o) (rest := []) C hW hl (qX12_bareOf l E hx17_6) (x_gk hk17_5) (by decide) (by decide) rfl gv_X12_220 ⟨rfl, hd_X12_bareOf⟩ rfl rfl (Nat.le_of_ble_eq_true rfl) dX12_isGood_17 ⟨Nat.le_of_ble_eq_true rfl, Nat.le_of_ble_eq_true rfl⟩ ⟨Nat.le_of_ble_eq_true rfl, Nat.le_of_ble_eq_true rfl⟩ (fun H locs hW => ?_)
    refine lv_if_ne (tgt := 27) C.x C.b dX12_isGood_20 rfl (fun c20 => ?_) (fun c20 => ?_)
    · replace hf := x_in c20 hf
      refine lv_iconst (v := 0) C.x C.b dX12_isGood_27 (by decide) ?_
      rw [x_e0 hf]
      exact x_zret C hr hW (v := 0) (w := 0) rfl dX12_isGood_28
    · replace hf := x_ip c20 hf
      refine lv_iconst (v := 1) C.x C.b dX12_isGood_23 (by decide) ?_
      refine lv_goto (tgt := 28) C.x C.b dX12_isGood_24 rfl ?_
      rw [x_e0 hf]
      exact x_zret C hr hW (v := 1) (w := 1) rfl dX12_isGood_28

theorem dX12_arePair_0 : decode cX12_arePair 0 = .ok (.iload_n 1, 1) := by decide +kernel
theorem dX12_arePair_1 : decode cX12_arePair 1 = .ok (.iload_n 2, 1) := by decide +kernel
theorem dX12_arePair_2 : decode cX12_arePair 2 = .ok (.if_icmp .eq 53, 3) := by decide +kernel
theorem dX12_arePair_5 : decode cX12_arePair 5 = .ok (.aload_n 0, 1) := by decide +kernel
theorem dX12_arePair_6 : decode cX12_arePair 6 = .ok (.iload_n 1, 1) := by decide +kernel
theorem dX12_arePair_7 : decode cX12_arePair 7 = .ok (.invokevirtual 242, 3) := by decide +kernel
theorem dX12_arePair_10 : decode cX12_arePair 10 = .ok (.ifCond .eq 45, 3) := by decide +kernel
theorem dX12_arePair_13 : decode cX12_arePair 13 = .ok (.aload_n 0, 1) := by decide +kernel
theorem dX12_arePair_14 : decode cX12_arePair 14 = .ok (.iload_n 2, 1) := by decide +kernel
theorem dX12_arePair_15 : decode cX12_arePair 15 = .ok (.invokevirtual 242, 3) := by decide +kernel
theorem dX12_arePair_18 : decode cX12_arePair 18 = .ok (.ifCond .eq 37, 3) := by decide +kernel
theorem dX12_arePair_21 : decode cX12_arePair 21 = .ok (.aload_n 0, 1) := by decide +kernel
theorem dX12_arePair_22 : decode cX12_arePair 22 = .ok (.iload_n 1, 1) := by decide +kernel
theorem dX12_arePair_23 : decode cX12_arePair 23 = .ok (.iconst 0, 1) := by decide +kernel
theorem dX12_arePair_24 : decode cX12_arePair 24 = .ok (.invokevirtual 67, 3) := by decide +kernel
theorem dX12_arePair_27 : decode cX12_arePair 27 = .ok (.aload_n 0, 1) := by decide +kernel
theorem dX12_arePair_28 : decode cX12_arePair 28 = .ok (.iload_n 2, 1) := by decide +kernel
theorem dX12_arePair_29 : decode cX12_arePair 29 = .ok (.iconst 0, 1) := by decide +kernel
theorem dX12_arePair_30 : decode cX12_arePair 30 = .ok (.invokevirtual 67, 3) := by decide +kernel
theorem dX12_arePair_33 : decode cX12_arePair 33 = .ok (.if_icmp .ne 22, 3) := by decide +kernel
theorem dX12_arePair_36 : decode cX12_arePair 36 = .ok (.aload_n 0, 1) := by decide +kernel
theorem dX12_arePair_37 : decode cX12_arePair 37 = .ok (.iload_n 1, 1) := by decide +kernel
theorem dX12_arePair_38 : decode cX12_arePair 38 = .ok (.iconst 2, 1) := by decide +kernel
theorem dX12_arePair_39 : decode cX12_arePair 39 = .ok (.invokevirtual 67, 3) := by decide +kernel
theorem dX12_arePair_42 : decode cX12_arePair 42 = .ok (.aload_n 0, 1) := by decide +kernel
theorem dX12_arePair_43 : decode cX12_arePair 43 = .ok (.iload_n 2, 1) := by decide +kernel
theorem dX12_arePair_44 : decode cX12_arePair 44 = .ok (.iconst 2, 1) := by decide +kernel
theorem dX12_arePair_45 : decode cX12_arePair 45 = .ok (.invokevirtual 67, 3) := by decide +kernel
theorem dX12_arePair_48 : decode cX12_arePair 48 = .ok (.if_icmp .ne 7, 3) := by decide +kernel
theorem dX12_arePair_51 : decode cX12_arePair 51 = .ok (.iconst 1, 1) := by decide +kernel
theorem dX12_arePair_52 : decode cX12_arePair 52 = .ok (.goto 4, 3) := by decide +kernel
theorem dX12_arePair_55 : decode cX12_arePair 55 = .ok (.iconst 0, 1) := by decide +kernel
theorem dX12_arePair_56 : decode cX12_arePair 56 = .ok (.ireturn, 1) := by decide +kernel
theorem hd_X12_isGood : yX12_isGood.cls ≠ "java/lang/invoke/MethodHandle" ∧ yX12_isGood.cls ≠ "java/lang/invoke/VarHandle" ∧ (parseMethodDescriptor yX12_isGood.desc).map (fun d => d.parameters.length) = some 1 := by decide +kernel
theorem gv_X12_242 : GoodIn gT (wsV "NylonLadderModel" 242 "NylonLadderModel" yX12_isGood (Cond.code yX12_isGood cX12_isGood 2 (some .boolean) :: gT)) := good_V T_7_175 T_7_177 TS_67 T_1_10 T_7_178
def fX12_arePair (M : Mm) (o : Nat) (p1 : Int32) (p2 : Int32) : Option Int32 :=
  if p1 = p2 then
    some 0
  else
    B1 (gk M o 15) fun _ =>
    B1 (fX12_isGood M o p1) fun x7_2 =>
    if x7_2 = 0 then
      some 0
    else
      B1 (gk M o 15) fun _ =>
      B1 (fX12_isGood M o p2) fun x15_4 =>
      if x15_4 = 0 then
        some 0
      else
        B1 (gk M o 15) fun _ =>
        B1 (fX12_its M o p1 0) fun x24_6 =>
        B1 (gk M o 15) fun _ =>
        B1 (fX12_its M o p2 0) fun x30_8 =>
        if x24_6 = x30_8 then
          B1 (gk M o 15) fun _ =>
          B1 (fX12_its M o p1 2) fun x39_10 =>
          B1 (gk M o 15) fun _ =>
          B1 (fX12_its M o p2 2) fun x45_12 =>
          if x39_10 = x45_12 then
            some 1
          else
            some 0
        else
          some 0
set_option maxRecDepth 100000 in
set_option maxHeartbeats 4000000 in
theorem qX12_arePair (l : Launch) (E : Ev) {M : Mm} {o : Nat} {p1 : Int32} {p2 : Int32} {rz : Int32} (hf : fX12_arePair M o p1 p2 = some rz) : Ct l E yX12_arePair cX12_arePair 3 (some .boolean) 4 87 0 0 [.ref (E.b + o), .int p1, .int p2] M (some (.int rz)) M := by
  refine ct_of (by decide +kernel) (Nat.le_of_ble_eq_true rfl) fun p e s m args below meth c C hr hin hW ls hl => ?_
  have hl : lv_has ls 3 [(0, .ref (E.b + o)), (1, .int p1), (2, .int p2)] := hl
  unfold fX12_arePair at hf
  refine lv_iload_n C.x C.b dX12_arePair_0 rfl (lv_at hl 1 rfl) ?_
  refine lv_iload_n C.x C.b dX12_arePair_1 rfl (lv_at hl 2 rfl) ?_
  refine lv_icmp_eq (tgt := 55) C.x C.b dX12_arePair_2 rfl (fun c2 => ?_) (fun c2 => ?_)
  · replace hf := x_ip c2 hf
    refine lv_iconst (v := 0) C.x C.b dX12_arePair_55 (by decide) ?_
    rw [x_e0 hf]
    exact x_zret C hr hW (v := 0) (w := 0) rfl dX12_arePair_56
  · replace hf := x_in c2 hf
    refine lv_aload_n C.x C.b dX12_arePair_5 rfl (lv_at hl 0 rfl) ?_
    refine lv_iload_n C.x C.b dX12_arePair_6 rfl (lv_at hl 1 rfl) ?_
    replace hf := x_b1 hf; obtain ⟨_, hk7_1, hf⟩ := hf
    replace hf := x_b1 hf; obtain ⟨x7_2, hx7_2, hf⟩ := hf
    refine x_callV (As := [.int p1]) (a := o) (rest := []) C hW hl (qX12_isGood l E hx7_2) (x_gk hk7_1) (by decide) (by decide) rfl gv_X12_242 ⟨rfl, hd_X12_isGood⟩ rfl rfl (Nat.le_of_ble_eq_true rfl) dX12_arePair_7 ⟨Nat.le_of_ble_eq_true rfl, Nat.le_of_ble_eq_true rfl⟩ ⟨Nat.le_of_ble_eq_true rfl, Nat.le_of_ble_eq_true rfl⟩ (fun H locs hW => ?_)
    refine lv_if_eq (tgt := 55) C.x C.b dX12_arePair_10 rfl (fun c10 => ?_) (fun c10 => ?_)
    · replace hf := x_ip c10 hf
      refine lv_iconst (v := 0) C.x C.b dX12_arePair_55 (by decide) ?_
      rw [x_e0 hf]
      exact x_zret C hr hW (v := 0) (w := 0) rfl dX12_arePair_56
    · replace hf := x_in c10 hf
      refine lv_aload_n C.x C.b dX12_arePair_13 rfl (lv_at hl 0 rfl) ?_
      refine lv_iload_n C.x C.b dX12_arePair_14 rfl (lv_at hl 2 rfl) ?_
      replace hf := x_b1 hf; obtain ⟨_, hk15_3, hf⟩ := hf
      replace hf := x_b1 hf; obtain ⟨x15_4, hx15_4, hf⟩ := hf
      refine x_callV (As := [.int p2]) (a := o) (rest := []) C hW hl (qX12_isGood l E hx15_4) (x_gk hk15_3) (by decide) (by decide) rfl gv_X12_242 ⟨rfl, hd_X12_isGood⟩ rfl rfl (Nat.le_of_ble_eq_true rfl) dX12_arePair_15 ⟨Nat.le_of_ble_eq_true rfl, Nat.le_of_ble_eq_true rfl⟩ ⟨Nat.le_of_ble_eq_true rfl, Nat.le_of_ble_eq_true rfl⟩ (fun H locs hW => ?_)
      refine lv_if_eq (tgt := 55) C.x C.b dX12_arePair_18 rfl (fun c18 => ?_) (fun c18 => ?_)
      · replace hf := x_ip c18 hf
        refine lv_iconst (v := 0) C.x C.b dX12_arePair_55 (by decide) ?_
        rw [x_e0 hf]
        exact x_zret C hr hW (v := 0) (w := 0) rfl dX12_arePair_56
      · replace hf := x_in c18 hf
        refine lv_aload_n C.x C.b dX12_arePair_21 rfl (lv_at hl 0 rfl) ?_
        refine lv_iload_n C.x C.b dX12_arePair_22 rfl (lv_at hl 1 rfl) ?_
        refine lv_iconst (v := 0) C.x C.b dX12_arePair_23 (by decide) ?_
        replace hf := x_b1 hf; obtain ⟨_, hk24_5, hf⟩ := hf
        replace hf := x_b1 hf; obtain ⟨x24_6, hx24_6, hf⟩ := hf
        refine x_callV (As := [.int p1, .int 0]) (a := o) (rest := []) C hW hl (qX12_its l E hx24_6) (x_gk hk24_5) (by decide) (by decide) rfl gv_X12_67 ⟨rfl, hd_X12_its⟩ rfl rfl (Nat.le_of_ble_eq_true rfl) dX12_arePair_24 ⟨Nat.le_of_ble_eq_true rfl, Nat.le_of_ble_eq_true rfl⟩ ⟨Nat.le_of_ble_eq_true rfl, Nat.le_of_ble_eq_true rfl⟩ (fun H locs hW => ?_)
        refine lv_aload_n C.x C.b dX12_arePair_27 rfl (lv_at hl 0 rfl) ?_
        refine lv_iload_n C.x C.b dX12_arePair_28 rfl (lv_at hl 2 rfl) ?_
        refine lv_iconst (v := 0) C.x C.b dX12_arePair_29 (by decide) ?_
        replace hf := x_b1 hf; obtain ⟨_, hk30_7, hf⟩ := hf
        replace hf := x_b1 hf; obtain ⟨x30_8, hx30_8, hf⟩ := hf
        refine x_callV (As := [.int p2, .int 0]) (a := o) (rest := [.int x24_6]) C hW hl (qX12_its l E hx30_8) (x_gk hk30_7) (by decide) (by decide) rfl gv_X12_67 ⟨rfl, hd_X12_its⟩ rfl rfl (Nat.le_of_ble_eq_true rfl) dX12_arePair_30 ⟨Nat.le_of_ble_eq_true rfl, Nat.le_of_ble_eq_true rfl⟩ ⟨Nat.le_of_ble_eq_true rfl, Nat.le_of_ble_eq_true rfl⟩ (fun H locs hW => ?_)
        refine lv_icmp_ne (tgt := 55) C.x C.b dX12_arePair_33 rfl (fun c33 => ?_) (fun c33 => ?_)
        · replace hf := x_in c33 hf
          refine lv_iconst (v := 0) C.x C.b dX12_arePair_55 (by decide) ?_
          rw [x_e0 hf]
          exact x_zret C hr hW (v := 0) (w := 0) rfl dX12_arePair_56
        · replace hf := x_ip c33 hf
          refine lv_aload_n C.x C.b dX12_arePair_36 rfl (lv_at hl 0 rfl) ?_
          refine lv_iload_n C.x C.b dX12_arePair_37 rfl (lv_at hl 1 rfl) ?_
          refine lv_iconst (v := 2) C.x C.b dX12_arePair_38 (by decide) ?_
          replace hf := x_b1 hf; obtain ⟨_, hk39_9, hf⟩ := hf
          replace hf := x_b1 hf; obtain ⟨x39_10, hx39_10, hf⟩ := hf
          refine x_callV (As := [.int p1, .int 2]) (a := o) (rest := []) C hW hl (qX12_its l E hx39_10) (x_gk hk39_9) (by decide) (by decide) rfl gv_X12_67 ⟨rfl, hd_X12_its⟩ rfl rfl (Nat.le_of_ble_eq_true rfl) dX12_arePair_39 ⟨Nat.le_of_ble_eq_true rfl, Nat.le_of_ble_eq_true rfl⟩ ⟨Nat.le_of_ble_eq_true rfl, Nat.le_of_ble_eq_true rfl⟩ (fun H locs hW => ?_)
          refine lv_aload_n C.x C.b dX12_arePair_42 rfl (lv_at hl 0 rfl) ?_
          refine lv_iload_n C.x C.b dX12_arePair_43 rfl (lv_at hl 2 rfl) ?_
          refine lv_iconst (v := 2) C.x C.b dX12_arePair_44 (by decide) ?_
          replace hf := x_b1 hf; obtain ⟨_, hk45_11, hf⟩ := hf
          replace hf := x_b1 hf; obtain ⟨x45_12, hx45_12, hf⟩ := hf
          refine x_callV (As := [.int p2, .int 2]) (a := o) (rest := [.int x39_10]) C hW hl (qX12_its l E hx45_12) (x_gk hk45_11) (by decide) (by decide) rfl gv_X12_67 ⟨rfl, hd_X12_its⟩ rfl rfl (Nat.le_of_ble_eq_true rfl) dX12_arePair_45 ⟨Nat.le_of_ble_eq_true rfl, Nat.le_of_ble_eq_true rfl⟩ ⟨Nat.le_of_ble_eq_true rfl, Nat.le_of_ble_eq_true rfl⟩ (fun H locs hW => ?_)
          refine lv_icmp_ne (tgt := 55) C.x C.b dX12_arePair_48 rfl (fun c48 => ?_) (fun c48 => ?_)
          · replace hf := x_in c48 hf
            refine lv_iconst (v := 0) C.x C.b dX12_arePair_55 (by decide) ?_
            rw [x_e0 hf]
            exact x_zret C hr hW (v := 0) (w := 0) rfl dX12_arePair_56
          · replace hf := x_ip c48 hf
            refine lv_iconst (v := 1) C.x C.b dX12_arePair_51 (by decide) ?_
            refine lv_goto (tgt := 56) C.x C.b dX12_arePair_52 rfl ?_
            rw [x_e0 hf]
            exact x_zret C hr hW (v := 1) (w := 1) rfl dX12_arePair_56

theorem dX12_mateOf_0 : decode cX12_mateOf 0 = .ok (.iconst 0, 1) := by decide +kernel
theorem dX12_mateOf_1 : decode cX12_mateOf 1 = .ok (.istore_n 2, 1) := by decide +kernel
theorem dX12_mateOf_2 : decode cX12_mateOf 2 = .ok (.iload_n 2, 1) := by decide +kernel
theorem dX12_mateOf_3 : decode cX12_mateOf 3 = .ok (.aload_n 0, 1) := by decide +kernel
theorem dX12_mateOf_4 : decode cX12_mateOf 4 = .ok (.getfield 9, 3) := by decide +kernel
theorem dX12_mateOf_7 : decode cX12_mateOf 7 = .ok (.iconst 0, 1) := by decide +kernel
theorem dX12_mateOf_8 : decode cX12_mateOf 8 = .ok (.iaload, 1) := by decide +kernel
theorem dX12_mateOf_9 : decode cX12_mateOf 9 = .ok (.if_icmp .ge 18, 3) := by decide +kernel
theorem dX12_mateOf_12 : decode cX12_mateOf 12 = .ok (.aload_n 0, 1) := by decide +kernel
theorem dX12_mateOf_13 : decode cX12_mateOf 13 = .ok (.iload_n 1, 1) := by decide +kernel
theorem dX12_mateOf_14 : decode cX12_mateOf 14 = .ok (.iload_n 2, 1) := by decide +kernel
theorem dX12_mateOf_15 : decode cX12_mateOf 15 = .ok (.invokevirtual 245, 3) := by decide +kernel
theorem dX12_mateOf_18 : decode cX12_mateOf 18 = .ok (.ifCond .ne 9, 3) := by decide +kernel
theorem dX12_mateOf_21 : decode cX12_mateOf 21 = .ok (.iinc 2 1, 3) := by decide +kernel
theorem dX12_mateOf_24 : decode cX12_mateOf 24 = .ok (.goto (-22), 3) := by decide +kernel
theorem dX12_mateOf_27 : decode cX12_mateOf 27 = .ok (.iload_n 2, 1) := by decide +kernel
theorem dX12_mateOf_28 : decode cX12_mateOf 28 = .ok (.aload_n 0, 1) := by decide +kernel
theorem dX12_mateOf_29 : decode cX12_mateOf 29 = .ok (.getfield 9, 3) := by decide +kernel
theorem dX12_mateOf_32 : decode cX12_mateOf 32 = .ok (.iconst 0, 1) := by decide +kernel
theorem dX12_mateOf_33 : decode cX12_mateOf 33 = .ok (.iaload, 1) := by decide +kernel
theorem dX12_mateOf_34 : decode cX12_mateOf 34 = .ok (.if_icmp .ge 7, 3) := by decide +kernel
theorem dX12_mateOf_37 : decode cX12_mateOf 37 = .ok (.iload_n 2, 1) := by decide +kernel
theorem dX12_mateOf_38 : decode cX12_mateOf 38 = .ok (.goto 4, 3) := by decide +kernel
theorem dX12_mateOf_41 : decode cX12_mateOf 41 = .ok (.iconst (-1), 1) := by decide +kernel
theorem dX12_mateOf_42 : decode cX12_mateOf 42 = .ok (.ireturn, 1) := by decide +kernel
theorem hd_X12_arePair : yX12_arePair.cls ≠ "java/lang/invoke/MethodHandle" ∧ yX12_arePair.cls ≠ "java/lang/invoke/VarHandle" ∧ (parseMethodDescriptor yX12_arePair.desc).map (fun d => d.parameters.length) = some 2 := by decide +kernel
theorem gv_X12_245 : GoodIn gT (wsV "NylonLadderModel" 245 "NylonLadderModel" yX12_arePair (Cond.code yX12_arePair cX12_arePair 3 (some .boolean) :: gT)) := good_V T_7_183 T_7_185 TS_68 T_1_10 T_7_186
def fX12_mateOf_L2 (M : Mm) (o : Nat) (v1 : Int32) : Nat → Int32 → Option Int32
  | 0, _ => none
  | n + 1, v2 =>
    B1 (rdN M o 15 0) fun a4_1 =>
    B1 (alI M a4_1 0) fun x8_2 =>
    if x8_2 ≤ v2 then
      B1 (rdN M o 15 0) fun a29_3 =>
      B1 (alI M a29_3 0) fun x33_4 =>
      if x33_4 ≤ v2 then
        some (-1)
      else
        some v2
    else
      B1 (gk M o 15) fun _ =>
      B1 (fX12_arePair M o v1 v2) fun x15_6 =>
      if x15_6 = 0 then
        fX12_mateOf_L2 M o v1 n (v2 + 1)
      else
        B1 (rdN M o 15 0) fun a29_7 =>
        B1 (alI M a29_7 0) fun x33_8 =>
        if x33_8 ≤ v2 then
          some (-1)
        else
          some v2
def fX12_mateOf (M : Mm) (o : Nat) (p1 : Int32) : Option Int32 :=
  fX12_mateOf_L2 M o p1 FL 0
set_option maxRecDepth 100000 in
set_option maxHeartbeats 4000000 in
theorem kX12_mateOf_L2 {l : Launch} {E : Ev} {p : Program} {e : Env} {s : State} {m : MethodId} {args : Array Value} {below : List Frame} {meth : Method} {c : Code} (C : Cx E p s m args meth c cX12_mateOf yX12_mateOf.cls 3) (hr : meth.sig.returnType = (some .int)) (hin : yX12_mateOf.name = "<init>" → meth.name = "<init>") {M : Mm}  {o : Nat} {v1 : Int32} {rz : Int32} : ∀ (n : Nat) (v2 : Int32), fX12_mateOf_L2 M o v1 n v2 = some rz → ∀ (H : Heap) (locs : List Loc) (ls : Array Slot), Wx E s H locs M → lv_has ls 3 [(0, .ref (E.b + o)), (1, .int v1), (2, .int v2)] → W p l e (rM 5 109 0 0) s m args below meth c H locs 0 0 (MQ below (Qp E (some (.int rz)) M) args s 0 0 E.A) (F0 m 2 ls []) := by
  intro n
  induction n with
  | zero =>
    intro v2 hf
    unfold fX12_mateOf_L2 at hf
    cases hf
  | succ n ih =>
    intro v2 hf H locs ls hW hl
    unfold fX12_mateOf_L2 at hf
    refine lv_iload_n C.x C.b dX12_mateOf_2 rfl (lv_at hl 2 rfl) ?_
    refine lv_aload_n C.x C.b dX12_mateOf_3 rfl (lv_at hl 0 rfl) ?_
    replace hf := x_b1 hf; obtain ⟨a4_1, ha4_1, hf⟩ := hf
    refine x_getn C hW fg_X12_9_15 ha4_1 dX12_mateOf_4 ?_
    refine lv_iconst (v := 0) C.x C.b dX12_mateOf_7 (by decide) ?_
    replace hf := x_b1 hf; obtain ⟨x8_2, hx8_2, hf⟩ := hf
    refine x_iald C hW hx8_2 dX12_mateOf_8 ?_
    refine lv_icmp_ge (tgt := 27) C.x C.b dX12_mateOf_9 rfl (fun c9 => ?_) (fun c9 => ?_)
    · replace hf := x_ip c9 hf
      refine lv_iload_n C.x C.b dX12_mateOf_27 rfl (lv_at hl 2 rfl) ?_
      refine lv_aload_n C.x C.b dX12_mateOf_28 rfl (lv_at hl 0 rfl) ?_
      replace hf := x_b1 hf; obtain ⟨a29_3, ha29_3, hf⟩ := hf
      refine x_getn C hW fg_X12_9_15 ha29_3 dX12_mateOf_29 ?_
      refine lv_iconst (v := 0) C.x C.b dX12_mateOf_32 (by decide) ?_
      replace hf := x_b1 hf; obtain ⟨x33_4, hx33_4, hf⟩ := hf
      refine x_iald C hW hx33_4 dX12_mateOf_33 ?_
      refine lv_icmp_ge (tgt := 41) C.x C.b dX12_mateOf_34 rfl (fun c34 => ?_) (fun c34 => ?_)
      · replace hf := x_ip c34 hf
        refine lv_iconst (v := (-1)) C.x C.b dX12_mateOf_41 (by decide) ?_
        rw [x_e0 hf]
        exact x_iret C hr hW dX12_mateOf_42
      · replace hf := x_in c34 hf
        refine lv_iload_n C.x C.b dX12_mateOf_37 rfl (lv_at hl 2 rfl) ?_
        refine lv_goto (tgt := 42) C.x C.b dX12_mateOf_38 rfl ?_
        rw [x_e0 hf]
        exact x_iret C hr hW dX12_mateOf_42
    · replace hf := x_in c9 hf
      refine lv_aload_n C.x C.b dX12_mateOf_12 rfl (lv_at hl 0 rfl) ?_
      refine lv_iload_n C.x C.b dX12_mateOf_13 rfl (lv_at hl 1 rfl) ?_
      refine lv_iload_n C.x C.b dX12_mateOf_14 rfl (lv_at hl 2 rfl) ?_
      replace hf := x_b1 hf; obtain ⟨_, hk15_5, hf⟩ := hf
      replace hf := x_b1 hf; obtain ⟨x15_6, hx15_6, hf⟩ := hf
      refine x_callV (As := [.int v1, .int v2]) (a := o) (rest := []) C hW hl (qX12_arePair l E hx15_6) (x_gk hk15_5) (by decide) (by decide) rfl gv_X12_245 ⟨rfl, hd_X12_arePair⟩ rfl rfl (Nat.le_of_ble_eq_true rfl) dX12_mateOf_15 ⟨Nat.le_of_ble_eq_true rfl, Nat.le_of_ble_eq_true rfl⟩ ⟨Nat.le_of_ble_eq_true rfl, Nat.le_of_ble_eq_true rfl⟩ (fun H locs hW => ?_)
      refine lv_if_ne (tgt := 27) C.x C.b dX12_mateOf_18 rfl (fun c18 => ?_) (fun c18 => ?_)
      · replace hf := x_in c18 hf
        refine lv_iload_n C.x C.b dX12_mateOf_27 rfl (lv_at hl 2 rfl) ?_
        refine lv_aload_n C.x C.b dX12_mateOf_28 rfl (lv_at hl 0 rfl) ?_
        replace hf := x_b1 hf; obtain ⟨a29_7, ha29_7, hf⟩ := hf
        refine x_getn C hW fg_X12_9_15 ha29_7 dX12_mateOf_29 ?_
        refine lv_iconst (v := 0) C.x C.b dX12_mateOf_32 (by decide) ?_
        replace hf := x_b1 hf; obtain ⟨x33_8, hx33_8, hf⟩ := hf
        refine x_iald C hW hx33_8 dX12_mateOf_33 ?_
        refine lv_icmp_ge (tgt := 41) C.x C.b dX12_mateOf_34 rfl (fun c34 => ?_) (fun c34 => ?_)
        · replace hf := x_ip c34 hf
          refine lv_iconst (v := (-1)) C.x C.b dX12_mateOf_41 (by decide) ?_
          rw [x_e0 hf]
          exact x_iret C hr hW dX12_mateOf_42
        · replace hf := x_in c34 hf
          refine lv_iload_n C.x C.b dX12_mateOf_37 rfl (lv_at hl 2 rfl) ?_
          refine lv_goto (tgt := 42) C.x C.b dX12_mateOf_38 rfl ?_
          rw [x_e0 hf]
          exact x_iret C hr hW dX12_mateOf_42
      · replace hf := x_ip c18 hf
        refine lv_iinc (v := (v2 + 1)) (lv' := [(2, .int (v2 + 1)), (0, .ref (E.b + _)), (1, .int _)]) C.x C.b dX12_mateOf_21 hl (k := 2) rfl (by first | rfl | decide) (by decide) rfl (fun ls hl => ?_)
        refine lv_goto (tgt := 2) C.x C.b dX12_mateOf_24 rfl ?_
        exact ih (v2 + 1) hf _ _ _ hW (lv_sub hl [1, 2, 0] rfl)
set_option maxRecDepth 100000 in
set_option maxHeartbeats 4000000 in
theorem qX12_mateOf (l : Launch) (E : Ev) {M : Mm} {o : Nat} {p1 : Int32} {rz : Int32} (hf : fX12_mateOf M o p1 = some rz) : Ct l E yX12_mateOf cX12_mateOf 3 (some .int) 5 109 0 0 [.ref (E.b + o), .int p1] M (some (.int rz)) M := by
  refine ct_of (by decide +kernel) (Nat.le_of_ble_eq_true rfl) fun p e s m args below meth c C hr hin hW ls hl => ?_
  have hl : lv_has ls 3 [(0, .ref (E.b + o)), (1, .int p1)] := hl
  unfold fX12_mateOf at hf
  refine lv_iconst (v := 0) C.x C.b dX12_mateOf_0 (by decide) ?_
  refine lv_istore_n (lv' := [(2, .int _), (0, .ref (E.b + _)), (1, .int _)]) C.x C.b dX12_mateOf_1 rfl hl (by decide) rfl (fun ls hl => ?_)
  exact kX12_mateOf_L2 C hr hin FL 0 hf _ _ _ hW (lv_sub hl [1, 2, 0] rfl)

theorem dX12_good_0 : decode cX12_good 0 = .ok (.iconst 0, 1) := by decide +kernel
theorem dX12_good_1 : decode cX12_good 1 = .ok (.istore_n 1, 1) := by decide +kernel
theorem dX12_good_2 : decode cX12_good 2 = .ok (.iconst 0, 1) := by decide +kernel
theorem dX12_good_3 : decode cX12_good 3 = .ok (.istore_n 2, 1) := by decide +kernel
theorem dX12_good_4 : decode cX12_good 4 = .ok (.iload_n 2, 1) := by decide +kernel
theorem dX12_good_5 : decode cX12_good 5 = .ok (.aload_n 0, 1) := by decide +kernel
theorem dX12_good_6 : decode cX12_good 6 = .ok (.getfield 9, 3) := by decide +kernel
theorem dX12_good_9 : decode cX12_good 9 = .ok (.iconst 0, 1) := by decide +kernel
theorem dX12_good_10 : decode cX12_good 10 = .ok (.iaload, 1) := by decide +kernel
theorem dX12_good_11 : decode cX12_good 11 = .ok (.if_icmp .ge 27, 3) := by decide +kernel
theorem dX12_good_14 : decode cX12_good 14 = .ok (.iload_n 1, 1) := by decide +kernel
theorem dX12_good_15 : decode cX12_good 15 = .ok (.aload_n 0, 1) := by decide +kernel
theorem dX12_good_16 : decode cX12_good 16 = .ok (.iload_n 2, 1) := by decide +kernel
theorem dX12_good_17 : decode cX12_good 17 = .ok (.invokevirtual 242, 3) := by decide +kernel
theorem dX12_good_20 : decode cX12_good 20 = .ok (.ifCond .eq 9, 3) := by decide +kernel
theorem dX12_good_23 : decode cX12_good 23 = .ok (.iconst 1, 1) := by decide +kernel
theorem dX12_good_24 : decode cX12_good 24 = .ok (.iload_n 2, 1) := by decide +kernel
theorem dX12_good_25 : decode cX12_good 25 = .ok (.ishl, 1) := by decide +kernel
theorem dX12_good_26 : decode cX12_good 26 = .ok (.goto 4, 3) := by decide +kernel
theorem dX12_good_29 : decode cX12_good 29 = .ok (.iconst 0, 1) := by decide +kernel
theorem dX12_good_30 : decode cX12_good 30 = .ok (.ior, 1) := by decide +kernel
theorem dX12_good_31 : decode cX12_good 31 = .ok (.istore_n 1, 1) := by decide +kernel
theorem dX12_good_32 : decode cX12_good 32 = .ok (.iinc 2 1, 3) := by decide +kernel
theorem dX12_good_35 : decode cX12_good 35 = .ok (.goto (-31), 3) := by decide +kernel
theorem dX12_good_38 : decode cX12_good 38 = .ok (.iload_n 1, 1) := by decide +kernel
theorem dX12_good_39 : decode cX12_good 39 = .ok (.ireturn, 1) := by decide +kernel
def fX12_good_L4 (M : Mm) (o : Nat) : Nat → Int32 → Int32 → Option Int32
  | 0, _, _ => none
  | n + 1, v1, v2 =>
    B1 (rdN M o 15 0) fun a6_1 =>
    B1 (alI M a6_1 0) fun x10_2 =>
    if x10_2 ≤ v2 then
      some v1
    else
      B1 (gk M o 15) fun _ =>
      B1 (fX12_isGood M o v2) fun x17_4 =>
      if x17_4 = 0 then
        fX12_good_L4 M o n (v1 ||| 0) (v2 + 1)
      else
        fX12_good_L4 M o n (v1 ||| (1 <<< (v2 &&& 31))) (v2 + 1)
def fX12_good (M : Mm) (o : Nat) : Option Int32 :=
  fX12_good_L4 M o FL 0 0
set_option maxRecDepth 100000 in
set_option maxHeartbeats 4000000 in
theorem kX12_good_L4 {l : Launch} {E : Ev} {p : Program} {e : Env} {s : State} {m : MethodId} {args : Array Value} {below : List Frame} {meth : Method} {c : Code} (C : Cx E p s m args meth c cX12_good yX12_good.cls 3) (hr : meth.sig.returnType = (some .int)) (hin : yX12_good.name = "<init>" → meth.name = "<init>") {M : Mm}  {o : Nat} {rz : Int32} : ∀ (n : Nat) (v1 : Int32) (v2 : Int32), fX12_good_L4 M o n v1 v2 = some rz → ∀ (H : Heap) (locs : List Loc) (ls : Array Slot), Wx E s H locs M → lv_has ls 3 [(0, .ref (E.b + o)), (1, .int v1), (2, .int v2)] → W p l e (rM 4 87 0 0) s m args below meth c H locs 0 0 (MQ below (Qp E (some (.int rz)) M) args s 0 0 E.A) (F0 m 4 ls []) := by
  intro n
  induction n with
  | zero =>
    intro v1 v2 hf
    unfold fX12_good_L4 at hf
    cases hf
  | succ n ih =>
    intro v1 v2 hf H locs ls hW hl
    unfold fX12_good_L4 at hf
    refine lv_iload_n C.x C.b dX12_good_4 rfl (lv_at hl 2 rfl) ?_
    refine lv_aload_n C.x C.b dX12_good_5 rfl (lv_at hl 0 rfl) ?_
    replace hf := x_b1 hf; obtain ⟨a6_1, ha6_1, hf⟩ := hf
    refine x_getn C hW fg_X12_9_15 ha6_1 dX12_good_6 ?_
    refine lv_iconst (v := 0) C.x C.b dX12_good_9 (by decide) ?_
    replace hf := x_b1 hf; obtain ⟨x10_2, hx10_2, hf⟩ := hf
    refine x_iald C hW hx10_2 dX12_good_10 ?_
    refine lv_icmp_ge (tgt := 38) C.x C.b dX12_good_11 rfl (fun c11 => ?_) (fun c11 => ?_)
    · replace hf := x_ip c11 hf
      refine lv_iload_n C.x C.b dX12_good_38 rfl (lv_at hl 1 rfl) ?_
      rw [x_e0 hf]
      exact x_iret C hr hW dX12_good_39
    · replace hf := x_in c11 hf
      refine lv_iload_n C.x C.b dX12_good_14 rfl (lv_at hl 1 rfl) ?_
      refine lv_aload_n C.x C.b dX12_good_15 rfl (lv_at hl 0 rfl) ?_
      refine lv_iload_n C.x C.b dX12_good_16 rfl (lv_at hl 2 rfl) ?_
      replace hf := x_b1 hf; obtain ⟨_, hk17_3, hf⟩ := hf
      replace hf := x_b1 hf; obtain ⟨x17_4, hx17_4, hf⟩ := hf
      refine x_callV (As := [.int v2]) (a := o) (rest := [.int v1]) C hW hl (qX12_isGood l E hx17_4) (x_gk hk17_3) (by decide) (by decide) rfl gv_X12_242 ⟨rfl, hd_X12_isGood⟩ rfl rfl (Nat.le_of_ble_eq_true rfl) dX12_good_17 ⟨Nat.le_of_ble_eq_true rfl, Nat.le_of_ble_eq_true rfl⟩ ⟨Nat.le_of_ble_eq_true rfl, Nat.le_of_ble_eq_true rfl⟩ (fun H locs hW => ?_)
      refine lv_if_eq (tgt := 29) C.x C.b dX12_good_20 rfl (fun c20 => ?_) (fun c20 => ?_)
      · replace hf := x_ip c20 hf
        refine lv_iconst (v := 0) C.x C.b dX12_good_29 (by decide) ?_
        refine lv_ior C.x C.b dX12_good_30 ?_
        refine lv_istore_n (lv' := [(1, .int _), (0, .ref (E.b + _)), (2, .int _)]) C.x C.b dX12_good_31 rfl hl (by decide) rfl (fun ls hl => ?_)
        refine lv_iinc (v := (v2 + 1)) (lv' := [(2, .int (v2 + 1)), (1, .int _), (0, .ref (E.b + _))]) C.x C.b dX12_good_32 hl (k := 2) rfl (by first | rfl | decide) (by decide) rfl (fun ls hl => ?_)
        refine lv_goto (tgt := 4) C.x C.b dX12_good_35 rfl ?_
        exact ih (v1 ||| 0) (v2 + 1) hf _ _ _ hW (lv_sub hl [2, 1, 0] rfl)
      · replace hf := x_in c20 hf
        refine lv_iconst (v := 1) C.x C.b dX12_good_23 (by decide) ?_
        refine lv_iload_n C.x C.b dX12_good_24 rfl (lv_at hl 2 rfl) ?_
        refine lv_ishl C.x C.b dX12_good_25 ?_
        refine lv_goto (tgt := 30) C.x C.b dX12_good_26 rfl ?_
        refine lv_ior C.x C.b dX12_good_30 ?_
        refine lv_istore_n (lv' := [(1, .int _), (0, .ref (E.b + _)), (2, .int _)]) C.x C.b dX12_good_31 rfl hl (by decide) rfl (fun ls hl => ?_)
        refine lv_iinc (v := (v2 + 1)) (lv' := [(2, .int (v2 + 1)), (1, .int _), (0, .ref (E.b + _))]) C.x C.b dX12_good_32 hl (k := 2) rfl (by first | rfl | decide) (by decide) rfl (fun ls hl => ?_)
        refine lv_goto (tgt := 4) C.x C.b dX12_good_35 rfl ?_
        exact ih (v1 ||| (1 <<< (v2 &&& 31))) (v2 + 1) hf _ _ _ hW (lv_sub hl [2, 1, 0] rfl)
set_option maxRecDepth 100000 in
set_option maxHeartbeats 4000000 in
theorem qX12_good (l : Launch) (E : Ev) {M : Mm} {o : Nat} {rz : Int32} (hf : fX12_good M o = some rz) : Ct l E yX12_good cX12_good 3 (some .int) 4 87 0 0 [.ref (E.b + o)] M (some (.int rz)) M := by
  refine ct_of (by decide +kernel) (Nat.le_of_ble_eq_true rfl) fun p e s m args below meth c C hr hin hW ls hl => ?_
  have hl : lv_has ls 3 [(0, .ref (E.b + o))] := hl
  unfold fX12_good at hf
  refine lv_iconst (v := 0) C.x C.b dX12_good_0 (by decide) ?_
  refine lv_istore_n (lv' := [(1, .int _), (0, .ref (E.b + _))]) C.x C.b dX12_good_1 rfl hl (by decide) rfl (fun ls hl => ?_)
  refine lv_iconst (v := 0) C.x C.b dX12_good_2 (by decide) ?_
  refine lv_istore_n (lv' := [(2, .int _), (1, .int _), (0, .ref (E.b + _))]) C.x C.b dX12_good_3 rfl hl (by decide) rfl (fun ls hl => ?_)
  exact kX12_good_L4 C hr hin FL 0 0 hf _ _ _ hW (lv_sub hl [2, 1, 0] rfl)

theorem dX12_pairs_0 : decode cX12_pairs 0 = .ok (.iconst 0, 1) := by decide +kernel
theorem dX12_pairs_1 : decode cX12_pairs 1 = .ok (.istore_n 1, 1) := by decide +kernel
theorem dX12_pairs_2 : decode cX12_pairs 2 = .ok (.iconst 0, 1) := by decide +kernel
theorem dX12_pairs_3 : decode cX12_pairs 3 = .ok (.istore_n 2, 1) := by decide +kernel
theorem dX12_pairs_4 : decode cX12_pairs 4 = .ok (.iconst 0, 1) := by decide +kernel
theorem dX12_pairs_5 : decode cX12_pairs 5 = .ok (.istore_n 3, 1) := by decide +kernel
theorem dX12_pairs_6 : decode cX12_pairs 6 = .ok (.iload_n 3, 1) := by decide +kernel
theorem dX12_pairs_7 : decode cX12_pairs 7 = .ok (.aload_n 0, 1) := by decide +kernel
theorem dX12_pairs_8 : decode cX12_pairs 8 = .ok (.getfield 9, 3) := by decide +kernel
theorem dX12_pairs_11 : decode cX12_pairs 11 = .ok (.iconst 0, 1) := by decide +kernel
theorem dX12_pairs_12 : decode cX12_pairs 12 = .ok (.iaload, 1) := by decide +kernel
theorem dX12_pairs_13 : decode cX12_pairs 13 = .ok (.if_icmp .ge 72, 3) := by decide +kernel
theorem dX12_pairs_16 : decode cX12_pairs 16 = .ok (.iload_n 3, 1) := by decide +kernel
theorem dX12_pairs_17 : decode cX12_pairs 17 = .ok (.iconst 1, 1) := by decide +kernel
theorem dX12_pairs_18 : decode cX12_pairs 18 = .ok (.iadd, 1) := by decide +kernel
theorem dX12_pairs_19 : decode cX12_pairs 19 = .ok (.istore 4, 2) := by decide +kernel
theorem dX12_pairs_21 : decode cX12_pairs 21 = .ok (.iload 4, 2) := by decide +kernel
theorem dX12_pairs_23 : decode cX12_pairs 23 = .ok (.aload_n 0, 1) := by decide +kernel
theorem dX12_pairs_24 : decode cX12_pairs 24 = .ok (.getfield 9, 3) := by decide +kernel
theorem dX12_pairs_27 : decode cX12_pairs 27 = .ok (.iconst 0, 1) := by decide +kernel
theorem dX12_pairs_28 : decode cX12_pairs 28 = .ok (.iaload, 1) := by decide +kernel
theorem dX12_pairs_29 : decode cX12_pairs 29 = .ok (.if_icmp .ge 50, 3) := by decide +kernel
theorem dX12_pairs_32 : decode cX12_pairs 32 = .ok (.iload_n 1, 1) := by decide +kernel
theorem dX12_pairs_33 : decode cX12_pairs 33 = .ok (.iload_n 3, 1) := by decide +kernel
theorem dX12_pairs_34 : decode cX12_pairs 34 = .ok (.ishr, 1) := by decide +kernel
theorem dX12_pairs_35 : decode cX12_pairs 35 = .ok (.iconst 1, 1) := by decide +kernel
theorem dX12_pairs_36 : decode cX12_pairs 36 = .ok (.iand, 1) := by decide +kernel
theorem dX12_pairs_37 : decode cX12_pairs 37 = .ok (.ifCond .ne 36, 3) := by decide +kernel
theorem dX12_pairs_40 : decode cX12_pairs 40 = .ok (.iload_n 1, 1) := by decide +kernel
theorem dX12_pairs_41 : decode cX12_pairs 41 = .ok (.iload 4, 2) := by decide +kernel
theorem dX12_pairs_43 : decode cX12_pairs 43 = .ok (.ishr, 1) := by decide +kernel
theorem dX12_pairs_44 : decode cX12_pairs 44 = .ok (.iconst 1, 1) := by decide +kernel
theorem dX12_pairs_45 : decode cX12_pairs 45 = .ok (.iand, 1) := by decide +kernel
theorem dX12_pairs_46 : decode cX12_pairs 46 = .ok (.ifCond .ne 27, 3) := by decide +kernel
theorem dX12_pairs_49 : decode cX12_pairs 49 = .ok (.aload_n 0, 1) := by decide +kernel
theorem dX12_pairs_50 : decode cX12_pairs 50 = .ok (.iload_n 3, 1) := by decide +kernel
theorem dX12_pairs_51 : decode cX12_pairs 51 = .ok (.iload 4, 2) := by decide +kernel
theorem dX12_pairs_53 : decode cX12_pairs 53 = .ok (.invokevirtual 245, 3) := by decide +kernel
theorem dX12_pairs_56 : decode cX12_pairs 56 = .ok (.ifCond .eq 17, 3) := by decide +kernel
theorem dX12_pairs_59 : decode cX12_pairs 59 = .ok (.iload_n 1, 1) := by decide +kernel
theorem dX12_pairs_60 : decode cX12_pairs 60 = .ok (.iconst 1, 1) := by decide +kernel
theorem dX12_pairs_61 : decode cX12_pairs 61 = .ok (.iload_n 3, 1) := by decide +kernel
theorem dX12_pairs_62 : decode cX12_pairs 62 = .ok (.ishl, 1) := by decide +kernel
theorem dX12_pairs_63 : decode cX12_pairs 63 = .ok (.iconst 1, 1) := by decide +kernel
theorem dX12_pairs_64 : decode cX12_pairs 64 = .ok (.iload 4, 2) := by decide +kernel
theorem dX12_pairs_66 : decode cX12_pairs 66 = .ok (.ishl, 1) := by decide +kernel
theorem dX12_pairs_67 : decode cX12_pairs 67 = .ok (.ior, 1) := by decide +kernel
theorem dX12_pairs_68 : decode cX12_pairs 68 = .ok (.ior, 1) := by decide +kernel
theorem dX12_pairs_69 : decode cX12_pairs 69 = .ok (.istore_n 1, 1) := by decide +kernel
theorem dX12_pairs_70 : decode cX12_pairs 70 = .ok (.iinc 2 1, 3) := by decide +kernel
theorem dX12_pairs_73 : decode cX12_pairs 73 = .ok (.iinc 4 1, 3) := by decide +kernel
theorem dX12_pairs_76 : decode cX12_pairs 76 = .ok (.goto (-55), 3) := by decide +kernel
theorem dX12_pairs_79 : decode cX12_pairs 79 = .ok (.iinc 3 1, 3) := by decide +kernel
theorem dX12_pairs_82 : decode cX12_pairs 82 = .ok (.goto (-76), 3) := by decide +kernel
theorem dX12_pairs_85 : decode cX12_pairs 85 = .ok (.iload_n 2, 1) := by decide +kernel
theorem dX12_pairs_86 : decode cX12_pairs 86 = .ok (.ireturn, 1) := by decide +kernel
def fX12_pairs_L21 (kk : Int32 → Int32 → Option Int32) (M : Mm) (o : Nat) (v3 : Int32) : Nat → Int32 → Int32 → Int32 → Option Int32
  | 0, _, _, _ => none
  | n + 1, v1, v2, v4 =>
    B1 (rdN M o 15 0) fun a24_3 =>
    B1 (alI M a24_3 0) fun x28_4 =>
    if x28_4 ≤ v4 then
      kk v1 v2
    else
      if ((v1 >>> (v3 &&& 31)) &&& 1) = 0 then
        if ((v1 >>> (v4 &&& 31)) &&& 1) = 0 then
          B1 (gk M o 15) fun _ =>
          B1 (fX12_arePair M o v3 v4) fun x53_6 =>
          if x53_6 = 0 then
            fX12_pairs_L21 kk M o v3 n v1 v2 (v4 + 1)
          else
            fX12_pairs_L21 kk M o v3 n (v1 ||| ((1 <<< (v3 &&& 31)) ||| (1 <<< (v4 &&& 31)))) (v2 + 1) (v4 + 1)
        else
          fX12_pairs_L21 kk M o v3 n v1 v2 (v4 + 1)
      else
        fX12_pairs_L21 kk M o v3 n v1 v2 (v4 + 1)
def fX12_pairs_L6 (M : Mm) (o : Nat) : Nat → Int32 → Int32 → Int32 → Option Int32
  | 0, _, _, _ => none
  | n + 1, v1, v2, v3 =>
    B1 (rdN M o 15 0) fun a8_1 =>
    B1 (alI M a8_1 0) fun x12_2 =>
    if x12_2 ≤ v3 then
      some v2
    else
      fX12_pairs_L21 (fun w79_7 w79_8 =>
        fX12_pairs_L6 M o n w79_7 w79_8 (v3 + 1)) M o v3 FL v1 v2 (v3 + 1)
def fX12_pairs (M : Mm) (o : Nat) : Option Int32 :=
  fX12_pairs_L6 M o FL 0 0 0
set_option maxRecDepth 100000 in
set_option maxHeartbeats 4000000 in
theorem kX12_pairs_L21 {l : Launch} {E : Ev} {p : Program} {e : Env} {s : State} {m : MethodId} {args : Array Value} {below : List Frame} {meth : Method} {c : Code} (C : Cx E p s m args meth c cX12_pairs yX12_pairs.cls 5) (hr : meth.sig.returnType = (some .int)) (hin : yX12_pairs.name = "<init>" → meth.name = "<init>") {M : Mm}  {o : Nat} {v3 : Int32} {rz : Int32} {kk : Int32 → Int32 → Option Int32} (hkk : ∀ (v1 : Int32) (v2 : Int32), kk v1 v2 = some rz → ∀ (H : Heap) (locs : List Loc) (ls : Array Slot), Wx E s H locs M → lv_has ls 5 [(0, .ref (E.b + o)), (1, .int v1), (2, .int v2), (3, .int v3)] → W p l e (rM 5 109 0 0) s m args below meth c H locs 0 0 (MQ below (Qp E (some (.int rz)) M) args s 0 0 E.A) (F0 m 79 ls [])) : ∀ (n : Nat) (v1 : Int32) (v2 : Int32) (v4 : Int32), fX12_pairs_L21 kk M o v3 n v1 v2 v4 = some rz → ∀ (H : Heap) (locs : List Loc) (ls : Array Slot), Wx E s H locs M → lv_has ls 5 [(0, .ref (E.b + o)), (1, .int v1), (2, .int v2), (3, .int v3), (4, .int v4)] → W p l e (rM 5 109 0 0) s m args below meth c H locs 0 0 (MQ below (Qp E (some (.int rz)) M) args s 0 0 E.A) (F0 m 21 ls []) := by
  intro n
  induction n with
  | zero =>
    intro v1 v2 v4 hf
    unfold fX12_pairs_L21 at hf
    cases hf
  | succ n ih =>
    intro v1 v2 v4 hf H locs ls hW hl
    unfold fX12_pairs_L21 at hf
    refine lv_iload C.x C.b dX12_pairs_21 (lv_at hl 4 rfl) ?_
    refine lv_aload_n C.x C.b dX12_pairs_23 rfl (lv_at hl 0 rfl) ?_
    replace hf := x_b1 hf; obtain ⟨a24_3, ha24_3, hf⟩ := hf
    refine x_getn C hW fg_X12_9_15 ha24_3 dX12_pairs_24 ?_
    refine lv_iconst (v := 0) C.x C.b dX12_pairs_27 (by decide) ?_
    replace hf := x_b1 hf; obtain ⟨x28_4, hx28_4, hf⟩ := hf
    refine x_iald C hW hx28_4 dX12_pairs_28 ?_
    refine lv_icmp_ge (tgt := 79) C.x C.b dX12_pairs_29 rfl (fun c29 => ?_) (fun c29 => ?_)
    · replace hf := x_ip c29 hf
      exact hkk v1 v2 hf _ _ _ hW (lv_sub hl [0, 1, 2, 3] rfl)
    · replace hf := x_in c29 hf
      refine lv_iload_n C.x C.b dX12_pairs_32 rfl (lv_at hl 1 rfl) ?_
      refine lv_iload_n C.x C.b dX12_pairs_33 rfl (lv_at hl 3 rfl) ?_
      refine lv_ishr C.x C.b dX12_pairs_34 ?_
      refine lv_iconst (v := 1) C.x C.b dX12_pairs_35 (by decide) ?_
      refine lv_iand C.x C.b dX12_pairs_36 ?_
      refine lv_if_ne (tgt := 73) C.x C.b dX12_pairs_37 rfl (fun c37 => ?_) (fun c37 => ?_)
      · replace hf := x_in c37 hf
        refine lv_iinc (v := (v4 + 1)) (lv' := [(4, .int (v4 + 1)), (0, .ref (E.b + _)), (1, .int _), (2, .int _), (3, .int _)]) C.x C.b dX12_pairs_73 hl (k := 4) rfl (by first | rfl | decide) (by decide) rfl (fun ls hl => ?_)
        refine lv_goto (tgt := 21) C.x C.b dX12_pairs_76 rfl ?_
        exact ih v1 v2 (v4 + 1) hf _ _ _ hW (lv_sub hl [1, 2, 3, 4, 0] rfl)
      · replace hf := x_ip c37 hf
        refine lv_iload_n C.x C.b dX12_pairs_40 rfl (lv_at hl 1 rfl) ?_
        refine lv_iload C.x C.b dX12_pairs_41 (lv_at hl 4 rfl) ?_
        refine lv_ishr C.x C.b dX12_pairs_43 ?_
        refine lv_iconst (v := 1) C.x C.b dX12_pairs_44 (by decide) ?_
        refine lv_iand C.x C.b dX12_pairs_45 ?_
        refine lv_if_ne (tgt := 73) C.x C.b dX12_pairs_46 rfl (fun c46 => ?_) (fun c46 => ?_)
        · replace hf := x_in c46 hf
          refine lv_iinc (v := (v4 + 1)) (lv' := [(4, .int (v4 + 1)), (0, .ref (E.b + _)), (1, .int _), (2, .int _), (3, .int _)]) C.x C.b dX12_pairs_73 hl (k := 4) rfl (by first | rfl | decide) (by decide) rfl (fun ls hl => ?_)
          refine lv_goto (tgt := 21) C.x C.b dX12_pairs_76 rfl ?_
          exact ih v1 v2 (v4 + 1) hf _ _ _ hW (lv_sub hl [1, 2, 3, 4, 0] rfl)
        · replace hf := x_ip c46 hf
          refine lv_aload_n C.x C.b dX12_pairs_49 rfl (lv_at hl 0 rfl) ?_
          refine lv_iload_n C.x C.b dX12_pairs_50 rfl (lv_at hl 3 rfl) ?_
          refine lv_iload C.x C.b dX12_pairs_51 (lv_at hl 4 rfl) ?_
          replace hf := x_b1 hf; obtain ⟨_, hk53_5, hf⟩ := hf
          replace hf := x_b1 hf; obtain ⟨x53_6, hx53_6, hf⟩ := hf
          refine x_callV (As := [.int v3, .int v4]) (a := o) (rest := []) C hW hl (qX12_arePair l E hx53_6) (x_gk hk53_5) (by decide) (by decide) rfl gv_X12_245 ⟨rfl, hd_X12_arePair⟩ rfl rfl (Nat.le_of_ble_eq_true rfl) dX12_pairs_53 ⟨Nat.le_of_ble_eq_true rfl, Nat.le_of_ble_eq_true rfl⟩ ⟨Nat.le_of_ble_eq_true rfl, Nat.le_of_ble_eq_true rfl⟩ (fun H locs hW => ?_)
          refine lv_if_eq (tgt := 73) C.x C.b dX12_pairs_56 rfl (fun c56 => ?_) (fun c56 => ?_)
          · replace hf := x_ip c56 hf
            refine lv_iinc (v := (v4 + 1)) (lv' := [(4, .int (v4 + 1)), (0, .ref (E.b + _)), (1, .int _), (2, .int _), (3, .int _)]) C.x C.b dX12_pairs_73 hl (k := 4) rfl (by first | rfl | decide) (by decide) rfl (fun ls hl => ?_)
            refine lv_goto (tgt := 21) C.x C.b dX12_pairs_76 rfl ?_
            exact ih v1 v2 (v4 + 1) hf _ _ _ hW (lv_sub hl [1, 2, 3, 4, 0] rfl)
          · replace hf := x_in c56 hf
            refine lv_iload_n C.x C.b dX12_pairs_59 rfl (lv_at hl 1 rfl) ?_
            refine lv_iconst (v := 1) C.x C.b dX12_pairs_60 (by decide) ?_
            refine lv_iload_n C.x C.b dX12_pairs_61 rfl (lv_at hl 3 rfl) ?_
            refine lv_ishl C.x C.b dX12_pairs_62 ?_
            refine lv_iconst (v := 1) C.x C.b dX12_pairs_63 (by decide) ?_
            refine lv_iload C.x C.b dX12_pairs_64 (lv_at hl 4 rfl) ?_
            refine lv_ishl C.x C.b dX12_pairs_66 ?_
            refine lv_ior C.x C.b dX12_pairs_67 ?_
            refine lv_ior C.x C.b dX12_pairs_68 ?_
            refine lv_istore_n (lv' := [(1, .int _), (0, .ref (E.b + _)), (2, .int _), (3, .int _), (4, .int _)]) C.x C.b dX12_pairs_69 rfl hl (by decide) rfl (fun ls hl => ?_)
            refine lv_iinc (v := (v2 + 1)) (lv' := [(2, .int (v2 + 1)), (1, .int _), (0, .ref (E.b + _)), (3, .int _), (4, .int _)]) C.x C.b dX12_pairs_70 hl (k := 2) rfl (by first | rfl | decide) (by decide) rfl (fun ls hl => ?_)
            refine lv_iinc (v := (v4 + 1)) (lv' := [(4, .int (v4 + 1)), (2, .int _), (1, .int _), (0, .ref (E.b + _)), (3, .int _)]) C.x C.b dX12_pairs_73 hl (k := 4) rfl (by first | rfl | decide) (by decide) rfl (fun ls hl => ?_)
            refine lv_goto (tgt := 21) C.x C.b dX12_pairs_76 rfl ?_
            exact ih (v1 ||| ((1 <<< (v3 &&& 31)) ||| (1 <<< (v4 &&& 31)))) (v2 + 1) (v4 + 1) hf _ _ _ hW (lv_sub hl [3, 2, 1, 4, 0] rfl)
set_option maxRecDepth 100000 in
set_option maxHeartbeats 4000000 in
theorem kX12_pairs_L6 {l : Launch} {E : Ev} {p : Program} {e : Env} {s : State} {m : MethodId} {args : Array Value} {below : List Frame} {meth : Method} {c : Code} (C : Cx E p s m args meth c cX12_pairs yX12_pairs.cls 5) (hr : meth.sig.returnType = (some .int)) (hin : yX12_pairs.name = "<init>" → meth.name = "<init>") {M : Mm}  {o : Nat} {rz : Int32} : ∀ (n : Nat) (v1 : Int32) (v2 : Int32) (v3 : Int32), fX12_pairs_L6 M o n v1 v2 v3 = some rz → ∀ (H : Heap) (locs : List Loc) (ls : Array Slot), Wx E s H locs M → lv_has ls 5 [(0, .ref (E.b + o)), (1, .int v1), (2, .int v2), (3, .int v3)] → W p l e (rM 5 109 0 0) s m args below meth c H locs 0 0 (MQ below (Qp E (some (.int rz)) M) args s 0 0 E.A) (F0 m 6 ls []) := by
  intro n
  induction n with
  | zero =>
    intro v1 v2 v3 hf
    unfold fX12_pairs_L6 at hf
    cases hf
  | succ n ih =>
    intro v1 v2 v3 hf H locs ls hW hl
    unfold fX12_pairs_L6 at hf
    refine lv_iload_n C.x C.b dX12_pairs_6 rfl (lv_at hl 3 rfl) ?_
    refine lv_aload_n C.x C.b dX12_pairs_7 rfl (lv_at hl 0 rfl) ?_
    replace hf := x_b1 hf; obtain ⟨a8_1, ha8_1, hf⟩ := hf
    refine x_getn C hW fg_X12_9_15 ha8_1 dX12_pairs_8 ?_
    refine lv_iconst (v := 0) C.x C.b dX12_pairs_11 (by decide) ?_
    replace hf := x_b1 hf; obtain ⟨x12_2, hx12_2, hf⟩ := hf
    refine x_iald C hW hx12_2 dX12_pairs_12 ?_
    refine lv_icmp_ge (tgt := 85) C.x C.b dX12_pairs_13 rfl (fun c13 => ?_) (fun c13 => ?_)
    · replace hf := x_ip c13 hf
      refine lv_iload_n C.x C.b dX12_pairs_85 rfl (lv_at hl 2 rfl) ?_
      rw [x_e0 hf]
      exact x_iret C hr hW dX12_pairs_86
    · replace hf := x_in c13 hf
      refine lv_iload_n C.x C.b dX12_pairs_16 rfl (lv_at hl 3 rfl) ?_
      refine lv_iconst (v := 1) C.x C.b dX12_pairs_17 (by decide) ?_
      refine lv_iadd C.x C.b dX12_pairs_18 ?_
      refine lv_istore (lv' := [(4, .int _), (0, .ref (E.b + _)), (1, .int _), (2, .int _), (3, .int _)]) C.x C.b dX12_pairs_19 hl (by decide) rfl (fun ls hl => ?_)
      refine kX12_pairs_L21 C hr hin ?_ FL v1 v2 (v3 + 1) hf _ _ _ hW (lv_sub hl [1, 2, 3, 4, 0] rfl)
      intro w79_7 w79_8 hf H locs ls hW hl
      refine lv_iinc (v := (v3 + 1)) (lv' := [(3, .int (v3 + 1)), (0, .ref (E.b + _)), (1, .int _), (2, .int _)]) C.x C.b dX12_pairs_79 hl (k := 3) rfl (by first | rfl | decide) (by decide) rfl (fun ls hl => ?_)
      refine lv_goto (tgt := 6) C.x C.b dX12_pairs_82 rfl ?_
      exact ih w79_7 w79_8 (v3 + 1) hf _ _ _ hW (lv_sub hl [1, 2, 3, 0] rfl)
set_option maxRecDepth 100000 in
set_option maxHeartbeats 4000000 in
theorem qX12_pairs (l : Launch) (E : Ev) {M : Mm} {o : Nat} {rz : Int32} (hf : fX12_pairs M o = some rz) : Ct l E yX12_pairs cX12_pairs 5 (some .int) 5 109 0 0 [.ref (E.b + o)] M (some (.int rz)) M := by
  refine ct_of (by decide +kernel) (Nat.le_of_ble_eq_true rfl) fun p e s m args below meth c C hr hin hW ls hl => ?_
  have hl : lv_has ls 5 [(0, .ref (E.b + o))] := hl
  unfold fX12_pairs at hf
  refine lv_iconst (v := 0) C.x C.b dX12_pairs_0 (by decide) ?_
  refine lv_istore_n (lv' := [(1, .int _), (0, .ref (E.b + _))]) C.x C.b dX12_pairs_1 rfl hl (by decide) rfl (fun ls hl => ?_)
  refine lv_iconst (v := 0) C.x C.b dX12_pairs_2 (by decide) ?_
  refine lv_istore_n (lv' := [(2, .int _), (1, .int _), (0, .ref (E.b + _))]) C.x C.b dX12_pairs_3 rfl hl (by decide) rfl (fun ls hl => ?_)
  refine lv_iconst (v := 0) C.x C.b dX12_pairs_4 (by decide) ?_
  refine lv_istore_n (lv' := [(3, .int _), (2, .int _), (1, .int _), (0, .ref (E.b + _))]) C.x C.b dX12_pairs_5 rfl hl (by decide) rfl (fun ls hl => ?_)
  exact kX12_pairs_L6 C hr hin FL 0 0 0 hf _ _ _ hW (lv_sub hl [3, 2, 1, 0] rfl)

theorem dX12_mate_0 : decode cX12_mate 0 = .ok (.aload_n 0, 1) := by decide +kernel
theorem dX12_mate_1 : decode cX12_mate 1 = .ok (.iload_n 1, 1) := by decide +kernel
theorem dX12_mate_2 : decode cX12_mate 2 = .ok (.invokevirtual 99, 3) := by decide +kernel
theorem dX12_mate_5 : decode cX12_mate 5 = .ok (.ifCond .ne 5, 3) := by decide +kernel
theorem dX12_mate_8 : decode cX12_mate 8 = .ok (.iconst (-1), 1) := by decide +kernel
theorem dX12_mate_9 : decode cX12_mate 9 = .ok (.ireturn, 1) := by decide +kernel
theorem dX12_mate_10 : decode cX12_mate 10 = .ok (.aload_n 0, 1) := by decide +kernel
theorem dX12_mate_11 : decode cX12_mate 11 = .ok (.iload_n 1, 1) := by decide +kernel
theorem dX12_mate_12 : decode cX12_mate 12 = .ok (.invokevirtual 248, 3) := by decide +kernel
theorem dX12_mate_15 : decode cX12_mate 15 = .ok (.istore_n 2, 1) := by decide +kernel
theorem dX12_mate_16 : decode cX12_mate 16 = .ok (.iload_n 2, 1) := by decide +kernel
theorem dX12_mate_17 : decode cX12_mate 17 = .ok (.ifCond .ge 8, 3) := by decide +kernel
theorem dX12_mate_20 : decode cX12_mate 20 = .ok (.bipush (-3), 2) := by decide +kernel
theorem dX12_mate_22 : decode cX12_mate 22 = .ok (.goto 4, 3) := by decide +kernel
theorem dX12_mate_25 : decode cX12_mate 25 = .ok (.iload_n 2, 1) := by decide +kernel
theorem dX12_mate_26 : decode cX12_mate 26 = .ok (.ireturn, 1) := by decide +kernel
theorem hd_X12_mateOf : yX12_mateOf.cls ≠ "java/lang/invoke/MethodHandle" ∧ yX12_mateOf.cls ≠ "java/lang/invoke/VarHandle" ∧ (parseMethodDescriptor yX12_mateOf.desc).map (fun d => d.parameters.length) = some 1 := by decide +kernel
theorem gv_X12_248 : GoodIn gT (wsV "NylonLadderModel" 248 "NylonLadderModel" yX12_mateOf (Cond.code yX12_mateOf cX12_mateOf 3 (some .int) :: gT)) := good_V T_7_191 T_7_193 TS_69 T_1_10 T_7_194
def fX12_mate (M : Mm) (o : Nat) (p1 : Int32) : Option Int32 :=
  B1 (gk M o 15) fun _ =>
  B1 (fX12_isOne M o p1) fun x2_2 =>
  if x2_2 = 0 then
    some (-1)
  else
    B1 (gk M o 15) fun _ =>
    B1 (fX12_mateOf M o p1) fun x12_4 =>
    if 0 ≤ x12_4 then
      some x12_4
    else
      some (-3)
set_option maxRecDepth 100000 in
set_option maxHeartbeats 4000000 in
theorem qX12_mate (l : Launch) (E : Ev) {M : Mm} {o : Nat} {p1 : Int32} {rz : Int32} (hf : fX12_mate M o p1 = some rz) : Ct l E yX12_mate cX12_mate 3 (some .int) 6 131 0 0 [.ref (E.b + o), .int p1] M (some (.int rz)) M := by
  refine ct_of (by decide +kernel) (Nat.le_of_ble_eq_true rfl) fun p e s m args below meth c C hr hin hW ls hl => ?_
  have hl : lv_has ls 3 [(0, .ref (E.b + o)), (1, .int p1)] := hl
  unfold fX12_mate at hf
  refine lv_aload_n C.x C.b dX12_mate_0 rfl (lv_at hl 0 rfl) ?_
  refine lv_iload_n C.x C.b dX12_mate_1 rfl (lv_at hl 1 rfl) ?_
  replace hf := x_b1 hf; obtain ⟨_, hk2_1, hf⟩ := hf
  replace hf := x_b1 hf; obtain ⟨x2_2, hx2_2, hf⟩ := hf
  refine x_callV (As := [.int p1]) (a := o) (rest := []) C hW hl (qX12_isOne l E hx2_2) (x_gk hk2_1) (by decide) (by decide) rfl gv_X12_99 ⟨rfl, hd_X12_isOne⟩ rfl rfl (Nat.le_of_ble_eq_true rfl) dX12_mate_2 ⟨Nat.le_of_ble_eq_true rfl, Nat.le_of_ble_eq_true rfl⟩ ⟨Nat.le_of_ble_eq_true rfl, Nat.le_of_ble_eq_true rfl⟩ (fun H locs hW => ?_)
  refine lv_if_ne (tgt := 10) C.x C.b dX12_mate_5 rfl (fun c5 => ?_) (fun c5 => ?_)
  · replace hf := x_in c5 hf
    refine lv_aload_n C.x C.b dX12_mate_10 rfl (lv_at hl 0 rfl) ?_
    refine lv_iload_n C.x C.b dX12_mate_11 rfl (lv_at hl 1 rfl) ?_
    replace hf := x_b1 hf; obtain ⟨_, hk12_3, hf⟩ := hf
    replace hf := x_b1 hf; obtain ⟨x12_4, hx12_4, hf⟩ := hf
    refine x_callV (As := [.int p1]) (a := o) (rest := []) C hW hl (qX12_mateOf l E hx12_4) (x_gk hk12_3) (by decide) (by decide) rfl gv_X12_248 ⟨rfl, hd_X12_mateOf⟩ rfl rfl (Nat.le_of_ble_eq_true rfl) dX12_mate_12 ⟨Nat.le_of_ble_eq_true rfl, Nat.le_of_ble_eq_true rfl⟩ ⟨Nat.le_of_ble_eq_true rfl, Nat.le_of_ble_eq_true rfl⟩ (fun H locs hW => ?_)
    refine lv_istore_n (lv' := [(2, .int _), (0, .ref (E.b + _)), (1, .int _)]) C.x C.b dX12_mate_15 rfl hl (by decide) rfl (fun ls hl => ?_)
    refine lv_iload_n C.x C.b dX12_mate_16 rfl (lv_at hl 0 rfl) ?_
    refine lv_if_ge (tgt := 25) C.x C.b dX12_mate_17 rfl (fun c17 => ?_) (fun c17 => ?_)
    · replace hf := x_ip c17 hf
      refine lv_iload_n C.x C.b dX12_mate_25 rfl (lv_at hl 0 rfl) ?_
      rw [x_e0 hf]
      exact x_iret C hr hW dX12_mate_26
    · replace hf := x_in c17 hf
      refine lv_bipush (v := (-3)) C.x C.b dX12_mate_20 (by decide) ?_
      refine lv_goto (tgt := 26) C.x C.b dX12_mate_22 rfl ?_
      rw [x_e0 hf]
      exact x_iret C hr hW dX12_mate_26
  · replace hf := x_ip c5 hf
    refine lv_iconst (v := (-1)) C.x C.b dX12_mate_8 (by decide) ?_
    rw [x_e0 hf]
    exact x_iret C hr hW dX12_mate_9

theorem dX12_part_0 : decode cX12_part 0 = .ok (.lload_n 0, 1) := by decide +kernel
theorem dX12_part_1 : decode cX12_part 1 = .ok (.lstore 5, 2) := by decide +kernel
theorem dX12_part_3 : decode cX12_part 3 = .ok (.lload_n 2, 1) := by decide +kernel
theorem dX12_part_4 : decode cX12_part 4 = .ok (.lstore 7, 2) := by decide +kernel
theorem dX12_part_6 : decode cX12_part 6 = .ok (.lload 7, 2) := by decide +kernel
theorem dX12_part_8 : decode cX12_part 8 = .ok (.lconst 0, 1) := by decide +kernel
theorem dX12_part_9 : decode cX12_part 9 = .ok (.lcmp, 1) := by decide +kernel
theorem dX12_part_10 : decode cX12_part 10 = .ok (.ifCond .eq 21, 3) := by decide +kernel
theorem dX12_part_13 : decode cX12_part 13 = .ok (.lload 5, 2) := by decide +kernel
theorem dX12_part_15 : decode cX12_part 15 = .ok (.lload 7, 2) := by decide +kernel
theorem dX12_part_17 : decode cX12_part 17 = .ok (.lrem, 1) := by decide +kernel
theorem dX12_part_18 : decode cX12_part 18 = .ok (.lstore 9, 2) := by decide +kernel
theorem dX12_part_20 : decode cX12_part 20 = .ok (.lload 7, 2) := by decide +kernel
theorem dX12_part_22 : decode cX12_part 22 = .ok (.lstore 5, 2) := by decide +kernel
theorem dX12_part_24 : decode cX12_part 24 = .ok (.lload 9, 2) := by decide +kernel
theorem dX12_part_26 : decode cX12_part 26 = .ok (.lstore 7, 2) := by decide +kernel
theorem dX12_part_28 : decode cX12_part 28 = .ok (.goto (-22), 3) := by decide +kernel
theorem dX12_part_31 : decode cX12_part 31 = .ok (.iload 4, 2) := by decide +kernel
theorem dX12_part_33 : decode cX12_part 33 = .ok (.ifCond .ne 7, 3) := by decide +kernel
theorem dX12_part_36 : decode cX12_part 36 = .ok (.lload_n 0, 1) := by decide +kernel
theorem dX12_part_37 : decode cX12_part 37 = .ok (.goto 4, 3) := by decide +kernel
theorem dX12_part_40 : decode cX12_part 40 = .ok (.lload_n 2, 1) := by decide +kernel
theorem dX12_part_41 : decode cX12_part 41 = .ok (.lload 5, 2) := by decide +kernel
theorem dX12_part_43 : decode cX12_part 43 = .ok (.ldiv, 1) := by decide +kernel
theorem dX12_part_44 : decode cX12_part 44 = .ok (.lreturn, 1) := by decide +kernel
def fX12_part_L6 (M : Mm) (v0 : Int64) (v2 : Int64) (v4 : Int32) : Nat → Int64 → Int64 → Option Int64
  | 0, _, _ => none
  | n + 1, v5, v7 =>
    if (lg_cmp v7 0) = 0 then
      if v4 = 0 then
        B1 (nzL v5) fun _ =>
        some (v0 / v5)
      else
        B1 (nzL v5) fun _ =>
        some (v2 / v5)
    else
      B1 (nzL v7) fun _ =>
      fX12_part_L6 M v0 v2 v4 n v7 (v5 - v5 / v7 * v7)
def fX12_part (M : Mm) (p1 : Int64) (p2 : Int64) (p3 : Int32) : Option Int64 :=
  fX12_part_L6 M p1 p2 p3 FL p1 p2
set_option maxRecDepth 100000 in
set_option maxHeartbeats 4000000 in
theorem kX12_part_L6 {l : Launch} {E : Ev} {p : Program} {e : Env} {s : State} {m : MethodId} {args : Array Value} {below : List Frame} {meth : Method} {c : Code} (C : Cx E p s m args meth c cX12_part yX12_part.cls 11) (hr : meth.sig.returnType = (some .long)) (hin : yX12_part.name = "<init>" → meth.name = "<init>") {M : Mm}  {v0 : Int64} {v2 : Int64} {v4 : Int32} {rz : Int64} : ∀ (n : Nat) (v5 : Int64) (v7 : Int64), fX12_part_L6 M v0 v2 v4 n v5 v7 = some rz → ∀ (H : Heap) (locs : List Loc) (ls : Array Slot), Wx E s H locs M → lv_has ls 11 [(0, .long v0), (2, .long v2), (4, .int v4), (5, .long v5), (7, .long v7)] → W p l e (rM 0 0 0 0) s m args below meth c H locs 0 0 (MQ below (Qp E (some (.long rz)) M) args s 0 0 E.A) (F0 m 6 ls []) := by
  intro n
  induction n with
  | zero =>
    intro v5 v7 hf
    unfold fX12_part_L6 at hf
    cases hf
  | succ n ih =>
    intro v5 v7 hf H locs ls hW hl
    unfold fX12_part_L6 at hf
    refine lv_lload C.x C.b dX12_part_6 (lv_at hl 4 rfl) ?_
    refine lv_lconst (v := 0) C.x C.b dX12_part_8 (by decide) ?_
    refine W.lcmp C.x C.b dX12_part_9 ?_
    refine lv_if_eq (tgt := 31) C.x C.b dX12_part_10 rfl (fun c10 => ?_) (fun c10 => ?_)
    · replace hf := x_ip c10 hf
      refine lv_iload C.x C.b dX12_part_31 (lv_at hl 2 rfl) ?_
      refine lv_if_ne (tgt := 40) C.x C.b dX12_part_33 rfl (fun c33 => ?_) (fun c33 => ?_)
      · replace hf := x_in c33 hf
        refine lv_lload_n C.x C.b dX12_part_40 rfl (lv_at hl 1 rfl) ?_
        refine lv_lload C.x C.b dX12_part_41 (lv_at hl 3 rfl) ?_
        replace hf := x_b1 hf; obtain ⟨_, hz43_1, hf⟩ := hf
        refine lv_ldiv C.x C.b dX12_part_43 (x_nzL hz43_1) ?_
        rw [x_e0 hf]
        exact x_lret C hr hW dX12_part_44
      · replace hf := x_ip c33 hf
        refine lv_lload_n C.x C.b dX12_part_36 rfl (lv_at hl 0 rfl) ?_
        refine lv_goto (tgt := 41) C.x C.b dX12_part_37 rfl ?_
        refine lv_lload C.x C.b dX12_part_41 (lv_at hl 3 rfl) ?_
        replace hf := x_b1 hf; obtain ⟨_, hz43_2, hf⟩ := hf
        refine lv_ldiv C.x C.b dX12_part_43 (x_nzL hz43_2) ?_
        rw [x_e0 hf]
        exact x_lret C hr hW dX12_part_44
    · replace hf := x_in c10 hf
      refine lv_lload C.x C.b dX12_part_13 (lv_at hl 3 rfl) ?_
      refine lv_lload C.x C.b dX12_part_15 (lv_at hl 4 rfl) ?_
      replace hf := x_b1 hf; obtain ⟨_, hz17_3, hf⟩ := hf
      refine lv_lrem C.x C.b dX12_part_17 (x_nzL hz17_3) ?_
      refine lv_lstore (lv' := [(9, .long _), (0, .long _), (2, .long _), (4, .int _), (5, .long _), (7, .long _)]) C.x C.b dX12_part_18 hl (by decide) rfl (fun ls hl => ?_)
      refine lv_lload C.x C.b dX12_part_20 (lv_at hl 5 rfl) ?_
      refine lv_lstore (lv' := [(5, .long _), (9, .long _), (0, .long _), (2, .long _), (4, .int _), (7, .long _)]) C.x C.b dX12_part_22 hl (by decide) rfl (fun ls hl => ?_)
      refine lv_lload C.x C.b dX12_part_24 (lv_at hl 1 rfl) ?_
      refine lv_lstore (lv' := [(7, .long _), (5, .long _), (9, .long _), (0, .long _), (2, .long _), (4, .int _)]) C.x C.b dX12_part_26 hl (by decide) rfl (fun ls hl => ?_)
      refine lv_goto (tgt := 6) C.x C.b dX12_part_28 rfl ?_
      exact ih v7 (v5 - v5 / v7 * v7) hf _ _ _ hW (lv_sub hl [3, 4, 5, 1, 0] rfl)
set_option maxRecDepth 100000 in
set_option maxHeartbeats 4000000 in
theorem qX12_part (l : Launch) (E : Ev) {M : Mm} {p1 : Int64} {p2 : Int64} {p3 : Int32} {rz : Int64} (hf : fX12_part M p1 p2 p3 = some rz) : Ct l E yX12_part cX12_part 11 (some .long) 0 0 0 0 [.long p1, .long p2, .int p3] M (some (.long rz)) M := by
  refine ct_of (by decide +kernel) (Nat.le_of_ble_eq_true rfl) fun p e s m args below meth c C hr hin hW ls hl => ?_
  have hl : lv_has ls 11 [(0, .long p1), (2, .long p2), (4, .int p3)] := hl
  unfold fX12_part at hf
  refine lv_lload_n C.x C.b dX12_part_0 rfl (lv_at hl 0 rfl) ?_
  refine lv_lstore (lv' := [(5, .long _), (0, .long _), (2, .long _), (4, .int _)]) C.x C.b dX12_part_1 hl (by decide) rfl (fun ls hl => ?_)
  refine lv_lload_n C.x C.b dX12_part_3 rfl (lv_at hl 2 rfl) ?_
  refine lv_lstore (lv' := [(7, .long _), (5, .long _), (0, .long _), (2, .long _), (4, .int _)]) C.x C.b dX12_part_4 hl (by decide) rfl (fun ls hl => ?_)
  exact kX12_part_L6 C hr hin FL p1 p2 hf _ _ _ hW (lv_sub hl [2, 3, 4, 1, 0] rfl)

theorem dX12_isWornOut_0 : decode cX12_isWornOut 0 = .ok (.aload_n 0, 1) := by decide +kernel
theorem dX12_isWornOut_1 : decode cX12_isWornOut 1 = .ok (.iload_n 1, 1) := by decide +kernel
theorem dX12_isWornOut_2 : decode cX12_isWornOut 2 = .ok (.iconst 4, 1) := by decide +kernel
theorem dX12_isWornOut_3 : decode cX12_isWornOut 3 = .ok (.invokevirtual 67, 3) := by decide +kernel
theorem dX12_isWornOut_6 : decode cX12_isWornOut 6 = .ok (.aload_n 0, 1) := by decide +kernel
theorem dX12_isWornOut_7 : decode cX12_isWornOut 7 = .ok (.iload_n 1, 1) := by decide +kernel
theorem dX12_isWornOut_8 : decode cX12_isWornOut 8 = .ok (.iconst 3, 1) := by decide +kernel
theorem dX12_isWornOut_9 : decode cX12_isWornOut 9 = .ok (.invokevirtual 67, 3) := by decide +kernel
theorem dX12_isWornOut_12 : decode cX12_isWornOut 12 = .ok (.if_icmp .lt 7, 3) := by decide +kernel
theorem dX12_isWornOut_15 : decode cX12_isWornOut 15 = .ok (.iconst 1, 1) := by decide +kernel
theorem dX12_isWornOut_16 : decode cX12_isWornOut 16 = .ok (.goto 4, 3) := by decide +kernel
theorem dX12_isWornOut_19 : decode cX12_isWornOut 19 = .ok (.iconst 0, 1) := by decide +kernel
theorem dX12_isWornOut_20 : decode cX12_isWornOut 20 = .ok (.ireturn, 1) := by decide +kernel
def fX12_isWornOut (M : Mm) (o : Nat) (p1 : Int32) : Option Int32 :=
  B1 (gk M o 15) fun _ =>
  B1 (fX12_its M o p1 4) fun x3_2 =>
  B1 (gk M o 15) fun _ =>
  B1 (fX12_its M o p1 3) fun x9_4 =>
  if x3_2 < x9_4 then
    some 0
  else
    some 1
set_option maxRecDepth 100000 in
set_option maxHeartbeats 4000000 in
theorem qX12_isWornOut (l : Launch) (E : Ev) {M : Mm} {o : Nat} {p1 : Int32} {rz : Int32} (hf : fX12_isWornOut M o p1 = some rz) : Ct l E yX12_isWornOut cX12_isWornOut 2 (some .boolean) 1 22 0 0 [.ref (E.b + o), .int p1] M (some (.int rz)) M := by
  refine ct_of (by decide +kernel) (Nat.le_of_ble_eq_true rfl) fun p e s m args below meth c C hr hin hW ls hl => ?_
  have hl : lv_has ls 2 [(0, .ref (E.b + o)), (1, .int p1)] := hl
  unfold fX12_isWornOut at hf
  refine lv_aload_n C.x C.b dX12_isWornOut_0 rfl (lv_at hl 0 rfl) ?_
  refine lv_iload_n C.x C.b dX12_isWornOut_1 rfl (lv_at hl 1 rfl) ?_
  refine lv_iconst (v := 4) C.x C.b dX12_isWornOut_2 (by decide) ?_
  replace hf := x_b1 hf; obtain ⟨_, hk3_1, hf⟩ := hf
  replace hf := x_b1 hf; obtain ⟨x3_2, hx3_2, hf⟩ := hf
  refine x_callV (As := [.int p1, .int 4]) (a := o) (rest := []) C hW hl (qX12_its l E hx3_2) (x_gk hk3_1) (by decide) (by decide) rfl gv_X12_67 ⟨rfl, hd_X12_its⟩ rfl rfl (Nat.le_of_ble_eq_true rfl) dX12_isWornOut_3 ⟨Nat.le_of_ble_eq_true rfl, Nat.le_of_ble_eq_true rfl⟩ ⟨Nat.le_of_ble_eq_true rfl, Nat.le_of_ble_eq_true rfl⟩ (fun H locs hW => ?_)
  refine lv_aload_n C.x C.b dX12_isWornOut_6 rfl (lv_at hl 0 rfl) ?_
  refine lv_iload_n C.x C.b dX12_isWornOut_7 rfl (lv_at hl 1 rfl) ?_
  refine lv_iconst (v := 3) C.x C.b dX12_isWornOut_8 (by decide) ?_
  replace hf := x_b1 hf; obtain ⟨_, hk9_3, hf⟩ := hf
  replace hf := x_b1 hf; obtain ⟨x9_4, hx9_4, hf⟩ := hf
  refine x_callV (As := [.int p1, .int 3]) (a := o) (rest := [.int x3_2]) C hW hl (qX12_its l E hx9_4) (x_gk hk9_3) (by decide) (by decide) rfl gv_X12_67 ⟨rfl, hd_X12_its⟩ rfl rfl (Nat.le_of_ble_eq_true rfl) dX12_isWornOut_9 ⟨Nat.le_of_ble_eq_true rfl, Nat.le_of_ble_eq_true rfl⟩ ⟨Nat.le_of_ble_eq_true rfl, Nat.le_of_ble_eq_true rfl⟩ (fun H locs hW => ?_)
  refine lv_icmp_lt (tgt := 19) C.x C.b dX12_isWornOut_12 rfl (fun c12 => ?_) (fun c12 => ?_)
  · replace hf := x_ip c12 hf
    refine lv_iconst (v := 0) C.x C.b dX12_isWornOut_19 (by decide) ?_
    rw [x_e0 hf]
    exact x_zret C hr hW (v := 0) (w := 0) rfl dX12_isWornOut_20
  · replace hf := x_in c12 hf
    refine lv_iconst (v := 1) C.x C.b dX12_isWornOut_15 (by decide) ?_
    refine lv_goto (tgt := 20) C.x C.b dX12_isWornOut_16 rfl ?_
    rw [x_e0 hf]
    exact x_zret C hr hW (v := 1) (w := 1) rfl dX12_isWornOut_20

theorem dX12_mending_0 : decode cX12_mending 0 = .ok (.aload_n 0, 1) := by decide +kernel
theorem dX12_mending_1 : decode cX12_mending 1 = .ok (.getfield 9, 3) := by decide +kernel
theorem dX12_mending_4 : decode cX12_mending 4 = .ok (.bipush 9, 2) := by decide +kernel
theorem dX12_mending_6 : decode cX12_mending 6 = .ok (.iaload, 1) := by decide +kernel
theorem dX12_mending_7 : decode cX12_mending 7 = .ok (.i2l, 1) := by decide +kernel
theorem dX12_mending_8 : decode cX12_mending 8 = .ok (.aload_n 0, 1) := by decide +kernel
theorem dX12_mending_9 : decode cX12_mending 9 = .ok (.iload_n 1, 1) := by decide +kernel
theorem dX12_mending_10 : decode cX12_mending 10 = .ok (.invokevirtual 108, 3) := by decide +kernel
theorem dX12_mending_13 : decode cX12_mending 13 = .ok (.i2l, 1) := by decide +kernel
theorem dX12_mending_14 : decode cX12_mending 14 = .ok (.lmul, 1) := by decide +kernel
theorem dX12_mending_15 : decode cX12_mending 15 = .ok (.lreturn, 1) := by decide +kernel
def fX12_mending (M : Mm) (o : Nat) (p1 : Int32) : Option Int64 :=
  B1 (rdN M o 15 0) fun a1_1 =>
  B1 (alI M a1_1 9) fun x6_2 =>
  B1 (gk M o 15) fun _ =>
  B1 (fX12_openOf M o p1) fun x10_4 =>
  some ((x6_2.toInt64) * (x10_4.toInt64))
set_option maxRecDepth 100000 in
set_option maxHeartbeats 4000000 in
theorem qX12_mending (l : Launch) (E : Ev) {M : Mm} {o : Nat} {p1 : Int32} {rz : Int64} (hf : fX12_mending M o p1 = some rz) : Ct l E yX12_mending cX12_mending 2 (some .long) 3 64 0 0 [.ref (E.b + o), .int p1] M (some (.long rz)) M := by
  refine ct_of (by decide +kernel) (Nat.le_of_ble_eq_true rfl) fun p e s m args below meth c C hr hin hW ls hl => ?_
  have hl : lv_has ls 2 [(0, .ref (E.b + o)), (1, .int p1)] := hl
  unfold fX12_mending at hf
  refine lv_aload_n C.x C.b dX12_mending_0 rfl (lv_at hl 0 rfl) ?_
  replace hf := x_b1 hf; obtain ⟨a1_1, ha1_1, hf⟩ := hf
  refine x_getn C hW fg_X12_9_15 ha1_1 dX12_mending_1 ?_
  refine lv_bipush (v := 9) C.x C.b dX12_mending_4 (by decide) ?_
  replace hf := x_b1 hf; obtain ⟨x6_2, hx6_2, hf⟩ := hf
  refine x_iald C hW hx6_2 dX12_mending_6 ?_
  refine lv_i2l (v := x6_2.toInt64) C.x C.b dX12_mending_7 rfl ?_
  refine lv_aload_n C.x C.b dX12_mending_8 rfl (lv_at hl 0 rfl) ?_
  refine lv_iload_n C.x C.b dX12_mending_9 rfl (lv_at hl 1 rfl) ?_
  replace hf := x_b1 hf; obtain ⟨_, hk10_3, hf⟩ := hf
  replace hf := x_b1 hf; obtain ⟨x10_4, hx10_4, hf⟩ := hf
  refine x_callV (As := [.int p1]) (a := o) (rest := [.long (x6_2.toInt64)]) C hW hl (qX12_openOf l E hx10_4) (x_gk hk10_3) (by decide) (by decide) rfl gv_X12_108 ⟨rfl, hd_X12_openOf⟩ rfl rfl (Nat.le_of_ble_eq_true rfl) dX12_mending_10 ⟨Nat.le_of_ble_eq_true rfl, Nat.le_of_ble_eq_true rfl⟩ ⟨Nat.le_of_ble_eq_true rfl, Nat.le_of_ble_eq_true rfl⟩ (fun H locs hW => ?_)
  refine lv_i2l (v := x10_4.toInt64) C.x C.b dX12_mending_13 rfl ?_
  refine lv_lmul C.x C.b dX12_mending_14 ?_
  rw [x_e0 hf]
  exact x_lret C hr hW dX12_mending_15

theorem dX12_costs_0 : decode cX12_costs 0 = .ok (.aload_n 0, 1) := by decide +kernel
theorem dX12_costs_1 : decode cX12_costs 1 = .ok (.iload_n 1, 1) := by decide +kernel
theorem dX12_costs_2 : decode cX12_costs 2 = .ok (.invokevirtual 99, 3) := by decide +kernel
theorem dX12_costs_5 : decode cX12_costs 5 = .ok (.ifCond .eq 17, 3) := by decide +kernel
theorem dX12_costs_8 : decode cX12_costs 8 = .ok (.iload_n 2, 1) := by decide +kernel
theorem dX12_costs_9 : decode cX12_costs 9 = .ok (.invokestatic 133, 3) := by decide +kernel
theorem dX12_costs_12 : decode cX12_costs 12 = .ok (.ifCond .eq 10, 3) := by decide +kernel
theorem dX12_costs_15 : decode cX12_costs 15 = .ok (.iload_n 3, 1) := by decide +kernel
theorem dX12_costs_16 : decode cX12_costs 16 = .ok (.invokestatic 133, 3) := by decide +kernel
theorem dX12_costs_19 : decode cX12_costs 19 = .ok (.ifCond .ne 7, 3) := by decide +kernel
theorem dX12_costs_22 : decode cX12_costs 22 = .ok (.ldc2_w 251, 3) := by decide +kernel
theorem dX12_costs_25 : decode cX12_costs 25 = .ok (.lreturn, 1) := by decide +kernel
theorem dX12_costs_26 : decode cX12_costs 26 = .ok (.iload_n 2, 1) := by decide +kernel
theorem dX12_costs_27 : decode cX12_costs 27 = .ok (.ifCond .ne 23, 3) := by decide +kernel
theorem dX12_costs_30 : decode cX12_costs 30 = .ok (.aload_n 0, 1) := by decide +kernel
theorem dX12_costs_31 : decode cX12_costs 31 = .ok (.getfield 9, 3) := by decide +kernel
theorem dX12_costs_34 : decode cX12_costs 34 = .ok (.bipush 10, 2) := by decide +kernel
theorem dX12_costs_36 : decode cX12_costs 36 = .ok (.iaload, 1) := by decide +kernel
theorem dX12_costs_37 : decode cX12_costs 37 = .ok (.i2l, 1) := by decide +kernel
theorem dX12_costs_38 : decode cX12_costs 38 = .ok (.aload_n 0, 1) := by decide +kernel
theorem dX12_costs_39 : decode cX12_costs 39 = .ok (.iload_n 1, 1) := by decide +kernel
theorem dX12_costs_40 : decode cX12_costs 40 = .ok (.iconst 3, 1) := by decide +kernel
theorem dX12_costs_41 : decode cX12_costs 41 = .ok (.invokevirtual 67, 3) := by decide +kernel
theorem dX12_costs_44 : decode cX12_costs 44 = .ok (.i2l, 1) := by decide +kernel
theorem dX12_costs_45 : decode cX12_costs 45 = .ok (.iload_n 3, 1) := by decide +kernel
theorem dX12_costs_46 : decode cX12_costs 46 = .ok (.invokestatic 253, 3) := by decide +kernel
theorem dX12_costs_49 : decode cX12_costs 49 = .ok (.lreturn, 1) := by decide +kernel
theorem dX12_costs_50 : decode cX12_costs 50 = .ok (.aload_n 0, 1) := by decide +kernel
theorem dX12_costs_51 : decode cX12_costs 51 = .ok (.iload_n 1, 1) := by decide +kernel
theorem dX12_costs_52 : decode cX12_costs 52 = .ok (.invokevirtual 257, 3) := by decide +kernel
theorem dX12_costs_55 : decode cX12_costs 55 = .ok (.ifCond .eq 9, 3) := by decide +kernel
theorem dX12_costs_58 : decode cX12_costs 58 = .ok (.ldc2_w 260, 3) := by decide +kernel
theorem dX12_costs_61 : decode cX12_costs 61 = .ok (.goto 26, 3) := by decide +kernel
theorem dX12_costs_64 : decode cX12_costs 64 = .ok (.aload_n 0, 1) := by decide +kernel
theorem dX12_costs_65 : decode cX12_costs 65 = .ok (.iload_n 1, 1) := by decide +kernel
theorem dX12_costs_66 : decode cX12_costs 66 = .ok (.invokevirtual 262, 3) := by decide +kernel
theorem dX12_costs_69 : decode cX12_costs 69 = .ok (.aload_n 0, 1) := by decide +kernel
theorem dX12_costs_70 : decode cX12_costs 70 = .ok (.iload_n 1, 1) := by decide +kernel
theorem dX12_costs_71 : decode cX12_costs 71 = .ok (.iconst 3, 1) := by decide +kernel
theorem dX12_costs_72 : decode cX12_costs 72 = .ok (.invokevirtual 67, 3) := by decide +kernel
theorem dX12_costs_75 : decode cX12_costs 75 = .ok (.aload_n 0, 1) := by decide +kernel
theorem dX12_costs_76 : decode cX12_costs 76 = .ok (.iload_n 1, 1) := by decide +kernel
theorem dX12_costs_77 : decode cX12_costs 77 = .ok (.iconst 4, 1) := by decide +kernel
theorem dX12_costs_78 : decode cX12_costs 78 = .ok (.invokevirtual 67, 3) := by decide +kernel
theorem dX12_costs_81 : decode cX12_costs 81 = .ok (.isub, 1) := by decide +kernel
theorem dX12_costs_82 : decode cX12_costs 82 = .ok (.i2l, 1) := by decide +kernel
theorem dX12_costs_83 : decode cX12_costs 83 = .ok (.iload_n 3, 1) := by decide +kernel
theorem dX12_costs_84 : decode cX12_costs 84 = .ok (.invokestatic 253, 3) := by decide +kernel
theorem dX12_costs_87 : decode cX12_costs 87 = .ok (.lreturn, 1) := by decide +kernel
theorem hd_X12_isWornOut : yX12_isWornOut.cls ≠ "java/lang/invoke/MethodHandle" ∧ yX12_isWornOut.cls ≠ "java/lang/invoke/VarHandle" ∧ (parseMethodDescriptor yX12_isWornOut.desc).map (fun d => d.parameters.length) = some 1 := by decide +kernel
theorem gv_X12_257 : GoodIn gT (wsV "NylonLadderModel" 257 "NylonLadderModel" yX12_isWornOut (Cond.code yX12_isWornOut cX12_isWornOut 2 (some .boolean) :: gT)) := good_V T_7_203 T_7_205 TS_70 T_1_10 T_7_206
theorem hd_X12_mending : yX12_mending.cls ≠ "java/lang/invoke/MethodHandle" ∧ yX12_mending.cls ≠ "java/lang/invoke/VarHandle" ∧ (parseMethodDescriptor yX12_mending.desc).map (fun d => d.parameters.length) = some 1 := by decide +kernel
theorem gv_X12_262 : GoodIn gT (wsV "NylonLadderModel" 262 "NylonLadderModel" yX12_mending (Cond.code yX12_mending cX12_mending 2 (some .long) :: gT)) := good_V T_7_208 T_7_210 TS_71 T_1_10 T_7_211
theorem hd_X12_part : yX12_part.cls ≠ "java/lang/invoke/MethodHandle" ∧ yX12_part.cls ≠ "java/lang/invoke/VarHandle" ∧ (parseMethodDescriptor yX12_part.desc).map (fun d => d.parameters.length) = some 3 := by decide +kernel
theorem gs_X12_253 : GoodIn gT (va_wsS "NylonLadderModel" 253 yX12_part (Cond.code yX12_part cX12_part 11 (some .long) :: gT)) := good_S T_7_200 T_7_201 T_1_10 T_7_202
def fX12_costs (M : Mm) (o : Nat) (p1 : Int32) (p2 : Int32) (p3 : Int32) : Option Int64 :=
  B1 (gk M o 15) fun _ =>
  B1 (fX12_isOne M o p1) fun x2_2 =>
  if x2_2 = 0 then
    some (-1)
  else
    B1 (fX12_isTwo M p2) fun x9_3 =>
    if x9_3 = 0 then
      some (-1)
    else
      B1 (fX12_isTwo M p3) fun x16_4 =>
      if x16_4 = 0 then
        some (-1)
      else
        if p2 = 0 then
          B1 (rdN M o 15 0) fun a31_14 =>
          B1 (alI M a31_14 10) fun x36_15 =>
          B1 (gk M o 15) fun _ =>
          B1 (fX12_its M o p1 3) fun x41_17 =>
          B1 (fX12_part M (x36_15.toInt64) (x41_17.toInt64) p3) fun x46_18 =>
          some x46_18
        else
          B1 (gk M o 15) fun _ =>
          B1 (fX12_isWornOut M o p1) fun x52_6 =>
          if x52_6 = 0 then
            B1 (gk M o 15) fun _ =>
            B1 (fX12_mending M o p1) fun x66_8 =>
            B1 (gk M o 15) fun _ =>
            B1 (fX12_its M o p1 3) fun x72_10 =>
            B1 (gk M o 15) fun _ =>
            B1 (fX12_its M o p1 4) fun x78_12 =>
            B1 (fX12_part M x66_8 ((x72_10 - x78_12).toInt64) p3) fun x84_13 =>
            some x84_13
          else
            some (-3)
set_option maxRecDepth 100000 in
set_option maxHeartbeats 4000000 in
theorem qX12_costs (l : Launch) (E : Ev) {M : Mm} {o : Nat} {p1 : Int32} {p2 : Int32} {p3 : Int32} {rz : Int64} (hf : fX12_costs M o p1 p2 p3 = some rz) : Ct l E yX12_costs cX12_costs 4 (some .long) 4 85 0 0 [.ref (E.b + o), .int p1, .int p2, .int p3] M (some (.long rz)) M := by
  refine ct_of (by decide +kernel) (Nat.le_of_ble_eq_true rfl) fun p e s m args below meth c C hr hin hW ls hl => ?_
  have hl : lv_has ls 4 [(0, .ref (E.b + o)), (1, .int p1), (2, .int p2), (3, .int p3)] := hl
  unfold fX12_costs at hf
  refine lv_aload_n C.x C.b dX12_costs_0 rfl (lv_at hl 0 rfl) ?_
  refine lv_iload_n C.x C.b dX12_costs_1 rfl (lv_at hl 1 rfl) ?_
  replace hf := x_b1 hf; obtain ⟨_, hk2_1, hf⟩ := hf
  replace hf := x_b1 hf; obtain ⟨x2_2, hx2_2, hf⟩ := hf
  refine x_callV (As := [.int p1]) (a := o) (rest := []) C hW hl (qX12_isOne l E hx2_2) (x_gk hk2_1) (by decide) (by decide) rfl gv_X12_99 ⟨rfl, hd_X12_isOne⟩ rfl rfl (Nat.le_of_ble_eq_true rfl) dX12_costs_2 ⟨Nat.le_of_ble_eq_true rfl, Nat.le_of_ble_eq_true rfl⟩ ⟨Nat.le_of_ble_eq_true rfl, Nat.le_of_ble_eq_true rfl⟩ (fun H locs hW => ?_)
  refine lv_if_eq (tgt := 22) C.x C.b dX12_costs_5 rfl (fun c5 => ?_) (fun c5 => ?_)
  · replace hf := x_ip c5 hf
    refine x_ldc2 (v := (-1)) C T_7_199 dX12_costs_22 ?_
    rw [x_e0 hf]
    exact x_lret C hr hW dX12_costs_25
  · replace hf := x_in c5 hf
    refine lv_iload_n C.x C.b dX12_costs_8 rfl (lv_at hl 2 rfl) ?_
    replace hf := x_b1 hf; obtain ⟨x9_3, hx9_3, hf⟩ := hf
    refine x_callS (As := [.int p2]) (rest := []) C hW hl (qX12_isTwo l E hx9_3) gs_X12_133 hd_X12_isTwo rfl rfl (Nat.le_of_ble_eq_true rfl) dX12_costs_9 ⟨Nat.le_of_ble_eq_true rfl, Nat.le_of_ble_eq_true rfl⟩ ⟨Nat.le_of_ble_eq_true rfl, Nat.le_of_ble_eq_true rfl⟩ (fun H locs hW => ?_)
    refine lv_if_eq (tgt := 22) C.x C.b dX12_costs_12 rfl (fun c12 => ?_) (fun c12 => ?_)
    · replace hf := x_ip c12 hf
      refine x_ldc2 (v := (-1)) C T_7_199 dX12_costs_22 ?_
      rw [x_e0 hf]
      exact x_lret C hr hW dX12_costs_25
    · replace hf := x_in c12 hf
      refine lv_iload_n C.x C.b dX12_costs_15 rfl (lv_at hl 3 rfl) ?_
      replace hf := x_b1 hf; obtain ⟨x16_4, hx16_4, hf⟩ := hf
      refine x_callS (As := [.int p3]) (rest := []) C hW hl (qX12_isTwo l E hx16_4) gs_X12_133 hd_X12_isTwo rfl rfl (Nat.le_of_ble_eq_true rfl) dX12_costs_16 ⟨Nat.le_of_ble_eq_true rfl, Nat.le_of_ble_eq_true rfl⟩ ⟨Nat.le_of_ble_eq_true rfl, Nat.le_of_ble_eq_true rfl⟩ (fun H locs hW => ?_)
      refine lv_if_ne (tgt := 26) C.x C.b dX12_costs_19 rfl (fun c19 => ?_) (fun c19 => ?_)
      · replace hf := x_in c19 hf
        refine lv_iload_n C.x C.b dX12_costs_26 rfl (lv_at hl 2 rfl) ?_
        refine lv_if_ne (tgt := 50) C.x C.b dX12_costs_27 rfl (fun c27 => ?_) (fun c27 => ?_)
        · replace hf := x_in c27 hf
          refine lv_aload_n C.x C.b dX12_costs_50 rfl (lv_at hl 0 rfl) ?_
          refine lv_iload_n C.x C.b dX12_costs_51 rfl (lv_at hl 1 rfl) ?_
          replace hf := x_b1 hf; obtain ⟨_, hk52_5, hf⟩ := hf
          replace hf := x_b1 hf; obtain ⟨x52_6, hx52_6, hf⟩ := hf
          refine x_callV (As := [.int p1]) (a := o) (rest := []) C hW hl (qX12_isWornOut l E hx52_6) (x_gk hk52_5) (by decide) (by decide) rfl gv_X12_257 ⟨rfl, hd_X12_isWornOut⟩ rfl rfl (Nat.le_of_ble_eq_true rfl) dX12_costs_52 ⟨Nat.le_of_ble_eq_true rfl, Nat.le_of_ble_eq_true rfl⟩ ⟨Nat.le_of_ble_eq_true rfl, Nat.le_of_ble_eq_true rfl⟩ (fun H locs hW => ?_)
          refine lv_if_eq (tgt := 64) C.x C.b dX12_costs_55 rfl (fun c55 => ?_) (fun c55 => ?_)
          · replace hf := x_ip c55 hf
            refine lv_aload_n C.x C.b dX12_costs_64 rfl (lv_at hl 0 rfl) ?_
            refine lv_iload_n C.x C.b dX12_costs_65 rfl (lv_at hl 1 rfl) ?_
            replace hf := x_b1 hf; obtain ⟨_, hk66_7, hf⟩ := hf
            replace hf := x_b1 hf; obtain ⟨x66_8, hx66_8, hf⟩ := hf
            refine x_callV (As := [.int p1]) (a := o) (rest := []) C hW hl (qX12_mending l E hx66_8) (x_gk hk66_7) (by decide) (by decide) rfl gv_X12_262 ⟨rfl, hd_X12_mending⟩ rfl rfl (Nat.le_of_ble_eq_true rfl) dX12_costs_66 ⟨Nat.le_of_ble_eq_true rfl, Nat.le_of_ble_eq_true rfl⟩ ⟨Nat.le_of_ble_eq_true rfl, Nat.le_of_ble_eq_true rfl⟩ (fun H locs hW => ?_)
            refine lv_aload_n C.x C.b dX12_costs_69 rfl (lv_at hl 0 rfl) ?_
            refine lv_iload_n C.x C.b dX12_costs_70 rfl (lv_at hl 1 rfl) ?_
            refine lv_iconst (v := 3) C.x C.b dX12_costs_71 (by decide) ?_
            replace hf := x_b1 hf; obtain ⟨_, hk72_9, hf⟩ := hf
            replace hf := x_b1 hf; obtain ⟨x72_10, hx72_10, hf⟩ := hf
            refine x_callV (As := [.int p1, .int 3]) (a := o) (rest := [.long x66_8]) C hW hl (qX12_its l E hx72_10) (x_gk hk72_9) (by decide) (by decide) rfl gv_X12_67 ⟨rfl, hd_X12_its⟩ rfl rfl (Nat.le_of_ble_eq_true rfl) dX12_costs_72 ⟨Nat.le_of_ble_eq_true rfl, Nat.le_of_ble_eq_true rfl⟩ ⟨Nat.le_of_ble_eq_true rfl, Nat.le_of_ble_eq_true rfl⟩ (fun H locs hW => ?_)
            refine lv_aload_n C.x C.b dX12_costs_75 rfl (lv_at hl 0 rfl) ?_
            refine lv_iload_n C.x C.b dX12_costs_76 rfl (lv_at hl 1 rfl) ?_
            refine lv_iconst (v := 4) C.x C.b dX12_costs_77 (by decide) ?_
            replace hf := x_b1 hf; obtain ⟨_, hk78_11, hf⟩ := hf
            replace hf := x_b1 hf; obtain ⟨x78_12, hx78_12, hf⟩ := hf
            refine x_callV (As := [.int p1, .int 4]) (a := o) (rest := [.int x72_10, .long x66_8]) C hW hl (qX12_its l E hx78_12) (x_gk hk78_11) (by decide) (by decide) rfl gv_X12_67 ⟨rfl, hd_X12_its⟩ rfl rfl (Nat.le_of_ble_eq_true rfl) dX12_costs_78 ⟨Nat.le_of_ble_eq_true rfl, Nat.le_of_ble_eq_true rfl⟩ ⟨Nat.le_of_ble_eq_true rfl, Nat.le_of_ble_eq_true rfl⟩ (fun H locs hW => ?_)
            refine lv_isub C.x C.b dX12_costs_81 ?_
            refine lv_i2l (v := (x72_10 - x78_12).toInt64) C.x C.b dX12_costs_82 rfl ?_
            refine lv_iload_n C.x C.b dX12_costs_83 rfl (lv_at hl 3 rfl) ?_
            replace hf := x_b1 hf; obtain ⟨x84_13, hx84_13, hf⟩ := hf
            refine x_callS (As := [.long x66_8, .long ((x72_10 - x78_12).toInt64), .int p3]) (rest := []) C hW hl (qX12_part l E hx84_13) gs_X12_253 hd_X12_part rfl rfl (Nat.le_of_ble_eq_true rfl) dX12_costs_84 ⟨Nat.le_of_ble_eq_true rfl, Nat.le_of_ble_eq_true rfl⟩ ⟨Nat.le_of_ble_eq_true rfl, Nat.le_of_ble_eq_true rfl⟩ (fun H locs hW => ?_)
            rw [x_e0 hf]
            exact x_lret C hr hW dX12_costs_87
          · replace hf := x_in c55 hf
            refine x_ldc2 (v := (-3)) C T_7_207 dX12_costs_58 ?_
            refine lv_goto (tgt := 87) C.x C.b dX12_costs_61 rfl ?_
            rw [x_e0 hf]
            exact x_lret C hr hW dX12_costs_87
        · replace hf := x_ip c27 hf
          refine lv_aload_n C.x C.b dX12_costs_30 rfl (lv_at hl 0 rfl) ?_
          replace hf := x_b1 hf; obtain ⟨a31_14, ha31_14, hf⟩ := hf
          refine x_getn C hW fg_X12_9_15 ha31_14 dX12_costs_31 ?_
          refine lv_bipush (v := 10) C.x C.b dX12_costs_34 (by decide) ?_
          replace hf := x_b1 hf; obtain ⟨x36_15, hx36_15, hf⟩ := hf
          refine x_iald C hW hx36_15 dX12_costs_36 ?_
          refine lv_i2l (v := x36_15.toInt64) C.x C.b dX12_costs_37 rfl ?_
          refine lv_aload_n C.x C.b dX12_costs_38 rfl (lv_at hl 0 rfl) ?_
          refine lv_iload_n C.x C.b dX12_costs_39 rfl (lv_at hl 1 rfl) ?_
          refine lv_iconst (v := 3) C.x C.b dX12_costs_40 (by decide) ?_
          replace hf := x_b1 hf; obtain ⟨_, hk41_16, hf⟩ := hf
          replace hf := x_b1 hf; obtain ⟨x41_17, hx41_17, hf⟩ := hf
          refine x_callV (As := [.int p1, .int 3]) (a := o) (rest := [.long (x36_15.toInt64)]) C hW hl (qX12_its l E hx41_17) (x_gk hk41_16) (by decide) (by decide) rfl gv_X12_67 ⟨rfl, hd_X12_its⟩ rfl rfl (Nat.le_of_ble_eq_true rfl) dX12_costs_41 ⟨Nat.le_of_ble_eq_true rfl, Nat.le_of_ble_eq_true rfl⟩ ⟨Nat.le_of_ble_eq_true rfl, Nat.le_of_ble_eq_true rfl⟩ (fun H locs hW => ?_)
          refine lv_i2l (v := x41_17.toInt64) C.x C.b dX12_costs_44 rfl ?_
          refine lv_iload_n C.x C.b dX12_costs_45 rfl (lv_at hl 3 rfl) ?_
          replace hf := x_b1 hf; obtain ⟨x46_18, hx46_18, hf⟩ := hf
          refine x_callS (As := [.long (x36_15.toInt64), .long (x41_17.toInt64), .int p3]) (rest := []) C hW hl (qX12_part l E hx46_18) gs_X12_253 hd_X12_part rfl rfl (Nat.le_of_ble_eq_true rfl) dX12_costs_46 ⟨Nat.le_of_ble_eq_true rfl, Nat.le_of_ble_eq_true rfl⟩ ⟨Nat.le_of_ble_eq_true rfl, Nat.le_of_ble_eq_true rfl⟩ (fun H locs hW => ?_)
          rw [x_e0 hf]
          exact x_lret C hr hW dX12_costs_49
      · replace hf := x_ip c19 hf
        refine x_ldc2 (v := (-1)) C T_7_199 dX12_costs_22 ?_
        rw [x_e0 hf]
        exact x_lret C hr hW dX12_costs_25
