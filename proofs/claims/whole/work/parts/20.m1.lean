theorem dX12_in_0 : decode cX12_in 0 = .ok (.lload_n 0, 1) := by decide +kernel
theorem dX12_in_1 : decode cX12_in 1 = .ok (.lload_n 2, 1) := by decide +kernel
theorem dX12_in_2 : decode cX12_in 2 = .ok (.lcmp, 1) := by decide +kernel
theorem dX12_in_3 : decode cX12_in 3 = .ok (.ifCond .lt 14, 3) := by decide +kernel
theorem dX12_in_6 : decode cX12_in 6 = .ok (.lload_n 0, 1) := by decide +kernel
theorem dX12_in_7 : decode cX12_in 7 = .ok (.lload 4, 2) := by decide +kernel
theorem dX12_in_9 : decode cX12_in 9 = .ok (.lcmp, 1) := by decide +kernel
theorem dX12_in_10 : decode cX12_in 10 = .ok (.ifCond .gt 7, 3) := by decide +kernel
theorem dX12_in_13 : decode cX12_in 13 = .ok (.iconst 1, 1) := by decide +kernel
theorem dX12_in_14 : decode cX12_in 14 = .ok (.goto 4, 3) := by decide +kernel
theorem dX12_in_17 : decode cX12_in 17 = .ok (.iconst 0, 1) := by decide +kernel
theorem dX12_in_18 : decode cX12_in 18 = .ok (.ireturn, 1) := by decide +kernel
def fX12_in (M : Mm) (p1 : Int64) (p2 : Int64) (p3 : Int64) : Option Int32 :=
  if (lg_cmp p1 p2) < 0 then
    some 0
  else
    if 0 < (lg_cmp p1 p3) then
      some 0
    else
      some 1
set_option maxRecDepth 100000 in
set_option maxHeartbeats 4000000 in
theorem qX12_in (l : Launch) (E : Ev) {M : Mm} {p1 : Int64} {p2 : Int64} {p3 : Int64} {rz : Int32} (hf : fX12_in M p1 p2 p3 = some rz) : Ct l E yX12_in cX12_in 6 (some .boolean) 0 0 0 0 [.long p1, .long p2, .long p3] M (some (.int rz)) M := by
  refine ct_of (by decide +kernel) (Nat.le_of_ble_eq_true rfl) fun p e s m args below meth c C hr hin hW ls hl => ?_
  have hl : lv_has ls 6 [(0, .long p1), (2, .long p2), (4, .long p3)] := hl
  unfold fX12_in at hf
  refine lv_lload_n C.x C.b dX12_in_0 rfl (lv_at hl 0 rfl) ?_
  refine lv_lload_n C.x C.b dX12_in_1 rfl (lv_at hl 1 rfl) ?_
  refine W.lcmp C.x C.b dX12_in_2 ?_
  refine lv_if_lt (tgt := 17) C.x C.b dX12_in_3 rfl (fun c3 => ?_) (fun c3 => ?_)
  · have hf := x_ip c3 hf
    refine lv_iconst (v := 0) C.x C.b dX12_in_17 (by decide) ?_
    cases hf
    exact x_zret C hr hW (v := 0) (w := 0) rfl dX12_in_18
  · have hf := x_in c3 hf
    refine lv_lload_n C.x C.b dX12_in_6 rfl (lv_at hl 0 rfl) ?_
    refine lv_lload C.x C.b dX12_in_7 (lv_at hl 2 rfl) ?_
    refine W.lcmp C.x C.b dX12_in_9 ?_
    refine lv_if_gt (tgt := 17) C.x C.b dX12_in_10 rfl (fun c10 => ?_) (fun c10 => ?_)
    · have hf := x_ip c10 hf
      refine lv_iconst (v := 0) C.x C.b dX12_in_17 (by decide) ?_
      cases hf
      exact x_zret C hr hW (v := 0) (w := 0) rfl dX12_in_18
    · have hf := x_in c10 hf
      refine lv_iconst (v := 1) C.x C.b dX12_in_13 (by decide) ?_
      refine lv_goto (tgt := 18) C.x C.b dX12_in_14 rfl ?_
      cases hf
      exact x_zret C hr hW (v := 1) (w := 1) rfl dX12_in_18

theorem dX12_isOne_0 : decode cX12_isOne 0 = .ok (.iload_n 1, 1) := by decide +kernel
theorem dX12_isOne_1 : decode cX12_isOne 1 = .ok (.i2l, 1) := by decide +kernel
theorem dX12_isOne_2 : decode cX12_isOne 2 = .ok (.lconst 0, 1) := by decide +kernel
theorem dX12_isOne_3 : decode cX12_isOne 3 = .ok (.aload_n 0, 1) := by decide +kernel
theorem dX12_isOne_4 : decode cX12_isOne 4 = .ok (.getfield 9, 3) := by decide +kernel
theorem dX12_isOne_7 : decode cX12_isOne 7 = .ok (.iconst 0, 1) := by decide +kernel
theorem dX12_isOne_8 : decode cX12_isOne 8 = .ok (.iaload, 1) := by decide +kernel
theorem dX12_isOne_9 : decode cX12_isOne 9 = .ok (.iconst 1, 1) := by decide +kernel
theorem dX12_isOne_10 : decode cX12_isOne 10 = .ok (.isub, 1) := by decide +kernel
theorem dX12_isOne_11 : decode cX12_isOne 11 = .ok (.i2l, 1) := by decide +kernel
theorem dX12_isOne_12 : decode cX12_isOne 12 = .ok (.invokestatic 61, 3) := by decide +kernel
theorem dX12_isOne_15 : decode cX12_isOne 15 = .ok (.ireturn, 1) := by decide +kernel
theorem fg_X12_9_15 : FdG "NylonLadderModel" 9 15 0 true := ⟨_, _, _, _, rfl, by decide, by decide, by decide, gxX12, by decide, T_6_49, Or.inl rfl, rfl⟩
theorem hd_X12_in : yX12_in.cls ≠ "java/lang/invoke/MethodHandle" ∧ yX12_in.cls ≠ "java/lang/invoke/VarHandle" ∧ (parseMethodDescriptor yX12_in.desc).map (fun d => d.parameters.length) = some 3 := by decide +kernel
theorem gs_X12_61 : GoodIn gT (va_wsS "NylonLadderModel" 61 yX12_in (Cond.code yX12_in cX12_in 6 (some .boolean) :: gT)) := good_S T_6_130 T_6_131 T_1_10 T_6_132
def fX12_isOne (M : Mm) (o : Nat) (p1 : Int32) : Option Int32 :=
  B1 (rdN M o 15 0) fun a4_1 =>
  B1 (alI M a4_1 0) fun x8_2 =>
  B1 (fX12_in M (p1.toInt64) 0 ((x8_2 - 1).toInt64)) fun x12_3 =>
  bz x12_3
set_option maxRecDepth 100000 in
set_option maxHeartbeats 4000000 in
theorem qX12_isOne (l : Launch) (E : Ev) {M : Mm} {o : Nat} {p1 : Int32} {rz : Int32} (hf : fX12_isOne M o p1 = some rz) : Ct l E yX12_isOne cX12_isOne 2 (some .boolean) 1 25 0 0 [.ref (E.b + o), .int p1] M (some (.int rz)) M := by
  refine ct_of (by decide +kernel) (Nat.le_of_ble_eq_true rfl) fun p e s m args below meth c C hr hin hW ls hl => ?_
  have hl : lv_has ls 2 [(0, .ref (E.b + o)), (1, .int p1)] := hl
  unfold fX12_isOne at hf
  refine lv_iload_n C.x C.b dX12_isOne_0 rfl (lv_at hl 1 rfl) ?_
  refine lv_i2l (v := p1.toInt64) C.x C.b dX12_isOne_1 rfl ?_
  refine lv_lconst (v := 0) C.x C.b dX12_isOne_2 (by decide) ?_
  refine lv_aload_n C.x C.b dX12_isOne_3 rfl (lv_at hl 0 rfl) ?_
  obtain ⟨a4_1, ha4_1, hf⟩ := x_b1 hf
  refine x_getn C hW fg_X12_9_15 ha4_1 dX12_isOne_4 ?_
  refine lv_iconst (v := 0) C.x C.b dX12_isOne_7 (by decide) ?_
  obtain ⟨x8_2, hx8_2, hf⟩ := x_b1 hf
  refine x_iald C hW hx8_2 dX12_isOne_8 ?_
  refine lv_iconst (v := 1) C.x C.b dX12_isOne_9 (by decide) ?_
  refine lv_isub C.x C.b dX12_isOne_10 ?_
  refine lv_i2l (v := (x8_2 - 1).toInt64) C.x C.b dX12_isOne_11 rfl ?_
  obtain ⟨x12_3, hx12_3, hf⟩ := x_b1 hf
  refine x_callS (As := [.long (p1.toInt64), .long 0, .long ((x8_2 - 1).toInt64)]) (rest := []) C hW hl (qX12_in l E hx12_3) gs_X12_61 hd_X12_in rfl rfl (Nat.le_of_ble_eq_true rfl) dX12_isOne_12 ⟨Nat.le_of_ble_eq_true rfl, Nat.le_of_ble_eq_true rfl⟩ ⟨Nat.le_of_ble_eq_true rfl, Nat.le_of_ble_eq_true rfl⟩ (fun H locs hW => ?_)
  exact x_zret C hr hW hf dX12_isOne_15

theorem dX12_its_0 : decode cX12_its 0 = .ok (.aload_n 0, 1) := by decide +kernel
theorem dX12_its_1 : decode cX12_its 1 = .ok (.getfield 9, 3) := by decide +kernel
theorem dX12_its_4 : decode cX12_its 4 = .ok (.bipush 54, 2) := by decide +kernel
theorem dX12_its_6 : decode cX12_its 6 = .ok (.bipush 13, 2) := by decide +kernel
theorem dX12_its_8 : decode cX12_its 8 = .ok (.iload_n 1, 1) := by decide +kernel
theorem dX12_its_9 : decode cX12_its 9 = .ok (.imul, 1) := by decide +kernel
theorem dX12_its_10 : decode cX12_its 10 = .ok (.iadd, 1) := by decide +kernel
theorem dX12_its_11 : decode cX12_its 11 = .ok (.iload_n 2, 1) := by decide +kernel
theorem dX12_its_12 : decode cX12_its 12 = .ok (.iadd, 1) := by decide +kernel
theorem dX12_its_13 : decode cX12_its 13 = .ok (.iaload, 1) := by decide +kernel
theorem dX12_its_14 : decode cX12_its 14 = .ok (.ireturn, 1) := by decide +kernel
def fX12_its (M : Mm) (o : Nat) (p1 : Int32) (p2 : Int32) : Option Int32 :=
  B1 (rdN M o 15 0) fun a1_1 =>
  B1 (alI M a1_1 ((54 + (13 * p1)) + p2)) fun x13_2 =>
  some x13_2
set_option maxRecDepth 100000 in
set_option maxHeartbeats 4000000 in
theorem qX12_its (l : Launch) (E : Ev) {M : Mm} {o : Nat} {p1 : Int32} {p2 : Int32} {rz : Int32} (hf : fX12_its M o p1 p2 = some rz) : Ct l E yX12_its cX12_its 3 (some .int) 0 0 0 0 [.ref (E.b + o), .int p1, .int p2] M (some (.int rz)) M := by
  refine ct_of (by decide +kernel) (Nat.le_of_ble_eq_true rfl) fun p e s m args below meth c C hr hin hW ls hl => ?_
  have hl : lv_has ls 3 [(0, .ref (E.b + o)), (1, .int p1), (2, .int p2)] := hl
  unfold fX12_its at hf
  refine lv_aload_n C.x C.b dX12_its_0 rfl (lv_at hl 0 rfl) ?_
  obtain ⟨a1_1, ha1_1, hf⟩ := x_b1 hf
  refine x_getn C hW fg_X12_9_15 ha1_1 dX12_its_1 ?_
  refine lv_bipush (v := 54) C.x C.b dX12_its_4 (by decide) ?_
  refine lv_bipush (v := 13) C.x C.b dX12_its_6 (by decide) ?_
  refine lv_iload_n C.x C.b dX12_its_8 rfl (lv_at hl 1 rfl) ?_
  refine lv_imul C.x C.b dX12_its_9 ?_
  refine lv_iadd C.x C.b dX12_its_10 ?_
  refine lv_iload_n C.x C.b dX12_its_11 rfl (lv_at hl 2 rfl) ?_
  refine lv_iadd C.x C.b dX12_its_12 ?_
  obtain ⟨x13_2, hx13_2, hf⟩ := x_b1 hf
  refine x_iald C hW hx13_2 dX12_its_13 ?_
  cases hf
  exact x_iret C hr hW dX12_its_14

theorem dX12_sets_0 : decode cX12_sets 0 = .ok (.aload_n 0, 1) := by decide +kernel
theorem dX12_sets_1 : decode cX12_sets 1 = .ok (.getfield 9, 3) := by decide +kernel
theorem dX12_sets_4 : decode cX12_sets 4 = .ok (.bipush 54, 2) := by decide +kernel
theorem dX12_sets_6 : decode cX12_sets 6 = .ok (.bipush 13, 2) := by decide +kernel
theorem dX12_sets_8 : decode cX12_sets 8 = .ok (.iload_n 1, 1) := by decide +kernel
theorem dX12_sets_9 : decode cX12_sets 9 = .ok (.imul, 1) := by decide +kernel
theorem dX12_sets_10 : decode cX12_sets 10 = .ok (.iadd, 1) := by decide +kernel
theorem dX12_sets_11 : decode cX12_sets 11 = .ok (.iload_n 2, 1) := by decide +kernel
theorem dX12_sets_12 : decode cX12_sets 12 = .ok (.iadd, 1) := by decide +kernel
theorem dX12_sets_13 : decode cX12_sets 13 = .ok (.iload_n 3, 1) := by decide +kernel
theorem dX12_sets_14 : decode cX12_sets 14 = .ok (.iastore, 1) := by decide +kernel
theorem dX12_sets_15 : decode cX12_sets 15 = .ok (.return_, 1) := by decide +kernel
def fX12_sets (M : Mm) (o : Nat) (p1 : Int32) (p2 : Int32) (p3 : Int32) : Option Mm :=
  B1 (rdN M o 15 0) fun a1_1 =>
  B1 (asI M a1_1 ((54 + (13 * p1)) + p2) p3) fun M14_2 =>
  some M14_2
set_option maxRecDepth 100000 in
set_option maxHeartbeats 4000000 in
theorem qX12_sets (l : Launch) (E : Ev) {M : Mm} {o : Nat} {p1 : Int32} {p2 : Int32} {p3 : Int32} {Mz : Mm} (hf : fX12_sets M o p1 p2 p3 = some Mz) : Ct l E yX12_sets cX12_sets 4 none 0 0 0 0 [.ref (E.b + o), .int p1, .int p2, .int p3] M none Mz := by
  refine ct_of (by decide +kernel) (Nat.le_of_ble_eq_true rfl) fun p e s m args below meth c C hr hin hW ls hl => ?_
  have hl : lv_has ls 4 [(0, .ref (E.b + o)), (1, .int p1), (2, .int p2), (3, .int p3)] := hl
  unfold fX12_sets at hf
  refine lv_aload_n C.x C.b dX12_sets_0 rfl (lv_at hl 0 rfl) ?_
  obtain ⟨a1_1, ha1_1, hf⟩ := x_b1 hf
  refine x_getn C hW fg_X12_9_15 ha1_1 dX12_sets_1 ?_
  refine lv_bipush (v := 54) C.x C.b dX12_sets_4 (by decide) ?_
  refine lv_bipush (v := 13) C.x C.b dX12_sets_6 (by decide) ?_
  refine lv_iload_n C.x C.b dX12_sets_8 rfl (lv_at hl 1 rfl) ?_
  refine lv_imul C.x C.b dX12_sets_9 ?_
  refine lv_iadd C.x C.b dX12_sets_10 ?_
  refine lv_iload_n C.x C.b dX12_sets_11 rfl (lv_at hl 2 rfl) ?_
  refine lv_iadd C.x C.b dX12_sets_12 ?_
  refine lv_iload_n C.x C.b dX12_sets_13 rfl (lv_at hl 3 rfl) ?_
  obtain ⟨M14_2, hM14_2, hf⟩ := x_b1 hf
  refine x_iast C hW hM14_2 dX12_sets_14 (fun H locs hW => ?_)
  cases hf
  exact x_vret C hr hW dX12_sets_15

theorem dX12_hasLadder_0 : decode cX12_hasLadder 0 = .ok (.aload_n 0, 1) := by decide +kernel
theorem dX12_hasLadder_1 : decode cX12_hasLadder 1 = .ok (.iload_n 1, 1) := by decide +kernel
theorem dX12_hasLadder_2 : decode cX12_hasLadder 2 = .ok (.bipush 6, 2) := by decide +kernel
theorem dX12_hasLadder_4 : decode cX12_hasLadder 4 = .ok (.invokevirtual 67, 3) := by decide +kernel
theorem dX12_hasLadder_7 : decode cX12_hasLadder 7 = .ok (.ifCond .lt 7, 3) := by decide +kernel
theorem dX12_hasLadder_10 : decode cX12_hasLadder 10 = .ok (.iconst 1, 1) := by decide +kernel
theorem dX12_hasLadder_11 : decode cX12_hasLadder 11 = .ok (.goto 4, 3) := by decide +kernel
theorem dX12_hasLadder_14 : decode cX12_hasLadder 14 = .ok (.iconst 0, 1) := by decide +kernel
theorem dX12_hasLadder_15 : decode cX12_hasLadder 15 = .ok (.ireturn, 1) := by decide +kernel
theorem hd_X12_its : yX12_its.cls ≠ "java/lang/invoke/MethodHandle" ∧ yX12_its.cls ≠ "java/lang/invoke/VarHandle" ∧ (parseMethodDescriptor yX12_its.desc).map (fun d => d.parameters.length) = some 2 := by decide +kernel
theorem gv_X12_67 : GoodIn gT (wsV "NylonLadderModel" 67 "NylonLadderModel" yX12_its (Cond.code yX12_its cX12_its 3 (some .int) :: gT)) := good_V T_6_180 T_6_182 TS_36 T_1_10 T_6_183
def fX12_hasLadder (M : Mm) (o : Nat) (p1 : Int32) : Option Int32 :=
  B1 (gk M o 15) fun _ =>
  B1 (fX12_its M o p1 6) fun x4_2 =>
  if x4_2 < 0 then
    some 0
  else
    some 1
set_option maxRecDepth 100000 in
set_option maxHeartbeats 4000000 in
theorem qX12_hasLadder (l : Launch) (E : Ev) {M : Mm} {o : Nat} {p1 : Int32} {rz : Int32} (hf : fX12_hasLadder M o p1 = some rz) : Ct l E yX12_hasLadder cX12_hasLadder 2 (some .boolean) 1 22 0 0 [.ref (E.b + o), .int p1] M (some (.int rz)) M := by
  refine ct_of (by decide +kernel) (Nat.le_of_ble_eq_true rfl) fun p e s m args below meth c C hr hin hW ls hl => ?_
  have hl : lv_has ls 2 [(0, .ref (E.b + o)), (1, .int p1)] := hl
  unfold fX12_hasLadder at hf
  refine lv_aload_n C.x C.b dX12_hasLadder_0 rfl (lv_at hl 0 rfl) ?_
  refine lv_iload_n C.x C.b dX12_hasLadder_1 rfl (lv_at hl 1 rfl) ?_
  refine lv_bipush (v := 6) C.x C.b dX12_hasLadder_2 (by decide) ?_
  obtain ⟨_, hk4_1, hf⟩ := x_b1 hf
  obtain ⟨x4_2, hx4_2, hf⟩ := x_b1 hf
  refine x_callV (As := [.int p1, .int 6]) (a := o) (rest := []) C hW hl (qX12_its l E hx4_2) (x_gk hk4_1) (by decide) (by decide) rfl gv_X12_67 ⟨rfl, hd_X12_its⟩ rfl rfl (Nat.le_of_ble_eq_true rfl) dX12_hasLadder_4 ⟨Nat.le_of_ble_eq_true rfl, Nat.le_of_ble_eq_true rfl⟩ ⟨Nat.le_of_ble_eq_true rfl, Nat.le_of_ble_eq_true rfl⟩ (fun H locs hW => ?_)
  refine lv_if_lt (tgt := 14) C.x C.b dX12_hasLadder_7 rfl (fun c7 => ?_) (fun c7 => ?_)
  · have hf := x_ip c7 hf
    refine lv_iconst (v := 0) C.x C.b dX12_hasLadder_14 (by decide) ?_
    cases hf
    exact x_zret C hr hW (v := 0) (w := 0) rfl dX12_hasLadder_15
  · have hf := x_in c7 hf
    refine lv_iconst (v := 1) C.x C.b dX12_hasLadder_10 (by decide) ?_
    refine lv_goto (tgt := 15) C.x C.b dX12_hasLadder_11 rfl ?_
    cases hf
    exact x_zret C hr hW (v := 1) (w := 1) rfl dX12_hasLadder_15

theorem dX12_openOf_0 : decode cX12_openOf 0 = .ok (.aload_n 0, 1) := by decide +kernel
theorem dX12_openOf_1 : decode cX12_openOf 1 = .ok (.iload_n 1, 1) := by decide +kernel
theorem dX12_openOf_2 : decode cX12_openOf 2 = .ok (.invokevirtual 71, 3) := by decide +kernel
theorem dX12_openOf_5 : decode cX12_openOf 5 = .ok (.ifCond .eq 23, 3) := by decide +kernel
theorem dX12_openOf_8 : decode cX12_openOf 8 = .ok (.aload_n 0, 1) := by decide +kernel
theorem dX12_openOf_9 : decode cX12_openOf 9 = .ok (.iload_n 1, 1) := by decide +kernel
theorem dX12_openOf_10 : decode cX12_openOf 10 = .ok (.bipush 7, 2) := by decide +kernel
theorem dX12_openOf_12 : decode cX12_openOf 12 = .ok (.invokevirtual 67, 3) := by decide +kernel
theorem dX12_openOf_15 : decode cX12_openOf 15 = .ok (.aload_n 0, 1) := by decide +kernel
theorem dX12_openOf_16 : decode cX12_openOf 16 = .ok (.iload_n 1, 1) := by decide +kernel
theorem dX12_openOf_17 : decode cX12_openOf 17 = .ok (.bipush 6, 2) := by decide +kernel
theorem dX12_openOf_19 : decode cX12_openOf 19 = .ok (.invokevirtual 67, 3) := by decide +kernel
theorem dX12_openOf_22 : decode cX12_openOf 22 = .ok (.isub, 1) := by decide +kernel
theorem dX12_openOf_23 : decode cX12_openOf 23 = .ok (.iconst 1, 1) := by decide +kernel
theorem dX12_openOf_24 : decode cX12_openOf 24 = .ok (.iadd, 1) := by decide +kernel
theorem dX12_openOf_25 : decode cX12_openOf 25 = .ok (.goto 4, 3) := by decide +kernel
theorem dX12_openOf_28 : decode cX12_openOf 28 = .ok (.iconst 0, 1) := by decide +kernel
theorem dX12_openOf_29 : decode cX12_openOf 29 = .ok (.ireturn, 1) := by decide +kernel
theorem hd_X12_hasLadder : yX12_hasLadder.cls ≠ "java/lang/invoke/MethodHandle" ∧ yX12_hasLadder.cls ≠ "java/lang/invoke/VarHandle" ∧ (parseMethodDescriptor yX12_hasLadder.desc).map (fun d => d.parameters.length) = some 1 := by decide +kernel
theorem gv_X12_71 : GoodIn gT (wsV "NylonLadderModel" 71 "NylonLadderModel" yX12_hasLadder (Cond.code yX12_hasLadder cX12_hasLadder 2 (some .boolean) :: gT)) := good_V T_6_176 T_6_178 TS_35 T_1_10 T_6_179
def fX12_openOf (M : Mm) (o : Nat) (p1 : Int32) : Option Int32 :=
  B1 (gk M o 15) fun _ =>
  B1 (fX12_hasLadder M o p1) fun x2_2 =>
  if x2_2 = 0 then
    some 0
  else
    B1 (gk M o 15) fun _ =>
    B1 (fX12_its M o p1 7) fun x12_4 =>
    B1 (gk M o 15) fun _ =>
    B1 (fX12_its M o p1 6) fun x19_6 =>
    some ((x12_4 - x19_6) + 1)
set_option maxRecDepth 100000 in
set_option maxHeartbeats 4000000 in
theorem qX12_openOf (l : Launch) (E : Ev) {M : Mm} {o : Nat} {p1 : Int32} {rz : Int32} (hf : fX12_openOf M o p1 = some rz) : Ct l E yX12_openOf cX12_openOf 2 (some .int) 2 43 0 0 [.ref (E.b + o), .int p1] M (some (.int rz)) M := by
  refine ct_of (by decide +kernel) (Nat.le_of_ble_eq_true rfl) fun p e s m args below meth c C hr hin hW ls hl => ?_
  have hl : lv_has ls 2 [(0, .ref (E.b + o)), (1, .int p1)] := hl
  unfold fX12_openOf at hf
  refine lv_aload_n C.x C.b dX12_openOf_0 rfl (lv_at hl 0 rfl) ?_
  refine lv_iload_n C.x C.b dX12_openOf_1 rfl (lv_at hl 1 rfl) ?_
  obtain ⟨_, hk2_1, hf⟩ := x_b1 hf
  obtain ⟨x2_2, hx2_2, hf⟩ := x_b1 hf
  refine x_callV (As := [.int p1]) (a := o) (rest := []) C hW hl (qX12_hasLadder l E hx2_2) (x_gk hk2_1) (by decide) (by decide) rfl gv_X12_71 ⟨rfl, hd_X12_hasLadder⟩ rfl rfl (Nat.le_of_ble_eq_true rfl) dX12_openOf_2 ⟨Nat.le_of_ble_eq_true rfl, Nat.le_of_ble_eq_true rfl⟩ ⟨Nat.le_of_ble_eq_true rfl, Nat.le_of_ble_eq_true rfl⟩ (fun H locs hW => ?_)
  refine lv_if_eq (tgt := 28) C.x C.b dX12_openOf_5 rfl (fun c5 => ?_) (fun c5 => ?_)
  · have hf := x_ip c5 hf
    refine lv_iconst (v := 0) C.x C.b dX12_openOf_28 (by decide) ?_
    cases hf
    exact x_iret C hr hW dX12_openOf_29
  · have hf := x_in c5 hf
    refine lv_aload_n C.x C.b dX12_openOf_8 rfl (lv_at hl 0 rfl) ?_
    refine lv_iload_n C.x C.b dX12_openOf_9 rfl (lv_at hl 1 rfl) ?_
    refine lv_bipush (v := 7) C.x C.b dX12_openOf_10 (by decide) ?_
    obtain ⟨_, hk12_3, hf⟩ := x_b1 hf
    obtain ⟨x12_4, hx12_4, hf⟩ := x_b1 hf
    refine x_callV (As := [.int p1, .int 7]) (a := o) (rest := []) C hW hl (qX12_its l E hx12_4) (x_gk hk12_3) (by decide) (by decide) rfl gv_X12_67 ⟨rfl, hd_X12_its⟩ rfl rfl (Nat.le_of_ble_eq_true rfl) dX12_openOf_12 ⟨Nat.le_of_ble_eq_true rfl, Nat.le_of_ble_eq_true rfl⟩ ⟨Nat.le_of_ble_eq_true rfl, Nat.le_of_ble_eq_true rfl⟩ (fun H locs hW => ?_)
    refine lv_aload_n C.x C.b dX12_openOf_15 rfl (lv_at hl 0 rfl) ?_
    refine lv_iload_n C.x C.b dX12_openOf_16 rfl (lv_at hl 1 rfl) ?_
    refine lv_bipush (v := 6) C.x C.b dX12_openOf_17 (by decide) ?_
    obtain ⟨_, hk19_5, hf⟩ := x_b1 hf
    obtain ⟨x19_6, hx19_6, hf⟩ := x_b1 hf
    refine x_callV (As := [.int p1, .int 6]) (a := o) (rest := [.int x12_4]) C hW hl (qX12_its l E hx19_6) (x_gk hk19_5) (by decide) (by decide) rfl gv_X12_67 ⟨rfl, hd_X12_its⟩ rfl rfl (Nat.le_of_ble_eq_true rfl) dX12_openOf_19 ⟨Nat.le_of_ble_eq_true rfl, Nat.le_of_ble_eq_true rfl⟩ ⟨Nat.le_of_ble_eq_true rfl, Nat.le_of_ble_eq_true rfl⟩ (fun H locs hW => ?_)
    refine lv_isub C.x C.b dX12_openOf_22 ?_
    refine lv_iconst (v := 1) C.x C.b dX12_openOf_23 (by decide) ?_
    refine lv_iadd C.x C.b dX12_openOf_24 ?_
    refine lv_goto (tgt := 29) C.x C.b dX12_openOf_25 rfl ?_
    cases hf
    exact x_iret C hr hW dX12_openOf_29

theorem dX12_footOf_0 : decode cX12_footOf 0 = .ok (.aload_n 0, 1) := by decide +kernel
theorem dX12_footOf_1 : decode cX12_footOf 1 = .ok (.getfield 9, 3) := by decide +kernel
theorem dX12_footOf_4 : decode cX12_footOf 4 = .ok (.iconst 2, 1) := by decide +kernel
theorem dX12_footOf_5 : decode cX12_footOf 5 = .ok (.iaload, 1) := by decide +kernel
theorem dX12_footOf_6 : decode cX12_footOf 6 = .ok (.iload_n 1, 1) := by decide +kernel
theorem dX12_footOf_7 : decode cX12_footOf 7 = .ok (.if_icmp .ne 7, 3) := by decide +kernel
theorem dX12_footOf_10 : decode cX12_footOf 10 = .ok (.iconst 0, 1) := by decide +kernel
theorem dX12_footOf_11 : decode cX12_footOf 11 = .ok (.goto 18, 3) := by decide +kernel
theorem dX12_footOf_14 : decode cX12_footOf 14 = .ok (.aload_n 0, 1) := by decide +kernel
theorem dX12_footOf_15 : decode cX12_footOf 15 = .ok (.getfield 9, 3) := by decide +kernel
theorem dX12_footOf_18 : decode cX12_footOf 18 = .ok (.iconst 3, 1) := by decide +kernel
theorem dX12_footOf_19 : decode cX12_footOf 19 = .ok (.iaload, 1) := by decide +kernel
theorem dX12_footOf_20 : decode cX12_footOf 20 = .ok (.iload_n 1, 1) := by decide +kernel
theorem dX12_footOf_21 : decode cX12_footOf 21 = .ok (.if_icmp .ne 7, 3) := by decide +kernel
theorem dX12_footOf_24 : decode cX12_footOf 24 = .ok (.iconst 1, 1) := by decide +kernel
theorem dX12_footOf_25 : decode cX12_footOf 25 = .ok (.goto 4, 3) := by decide +kernel
theorem dX12_footOf_28 : decode cX12_footOf 28 = .ok (.iconst (-1), 1) := by decide +kernel
theorem dX12_footOf_29 : decode cX12_footOf 29 = .ok (.ireturn, 1) := by decide +kernel
def fX12_footOf (M : Mm) (o : Nat) (p1 : Int32) : Option Int32 :=
  B1 (rdN M o 15 0) fun a1_1 =>
  B1 (alI M a1_1 2) fun x5_2 =>
  if x5_2 = p1 then
    some 0
  else
    B1 (rdN M o 15 0) fun a15_3 =>
    B1 (alI M a15_3 3) fun x19_4 =>
    if x19_4 = p1 then
      some 1
    else
      some (-1)
set_option maxRecDepth 100000 in
set_option maxHeartbeats 4000000 in
theorem qX12_footOf (l : Launch) (E : Ev) {M : Mm} {o : Nat} {p1 : Int32} {rz : Int32} (hf : fX12_footOf M o p1 = some rz) : Ct l E yX12_footOf cX12_footOf 2 (some .int) 0 0 0 0 [.ref (E.b + o), .int p1] M (some (.int rz)) M := by
  refine ct_of (by decide +kernel) (Nat.le_of_ble_eq_true rfl) fun p e s m args below meth c C hr hin hW ls hl => ?_
  have hl : lv_has ls 2 [(0, .ref (E.b + o)), (1, .int p1)] := hl
  unfold fX12_footOf at hf
  refine lv_aload_n C.x C.b dX12_footOf_0 rfl (lv_at hl 0 rfl) ?_
  obtain ⟨a1_1, ha1_1, hf⟩ := x_b1 hf
  refine x_getn C hW fg_X12_9_15 ha1_1 dX12_footOf_1 ?_
  refine lv_iconst (v := 2) C.x C.b dX12_footOf_4 (by decide) ?_
  obtain ⟨x5_2, hx5_2, hf⟩ := x_b1 hf
  refine x_iald C hW hx5_2 dX12_footOf_5 ?_
  refine lv_iload_n C.x C.b dX12_footOf_6 rfl (lv_at hl 1 rfl) ?_
  refine lv_icmp_ne (tgt := 14) C.x C.b dX12_footOf_7 rfl (fun c7 => ?_) (fun c7 => ?_)
  · have hf := x_in c7 hf
    refine lv_aload_n C.x C.b dX12_footOf_14 rfl (lv_at hl 0 rfl) ?_
    obtain ⟨a15_3, ha15_3, hf⟩ := x_b1 hf
    refine x_getn C hW fg_X12_9_15 ha15_3 dX12_footOf_15 ?_
    refine lv_iconst (v := 3) C.x C.b dX12_footOf_18 (by decide) ?_
    obtain ⟨x19_4, hx19_4, hf⟩ := x_b1 hf
    refine x_iald C hW hx19_4 dX12_footOf_19 ?_
    refine lv_iload_n C.x C.b dX12_footOf_20 rfl (lv_at hl 1 rfl) ?_
    refine lv_icmp_ne (tgt := 28) C.x C.b dX12_footOf_21 rfl (fun c21 => ?_) (fun c21 => ?_)
    · have hf := x_in c21 hf
      refine lv_iconst (v := (-1)) C.x C.b dX12_footOf_28 (by decide) ?_
      cases hf
      exact x_iret C hr hW dX12_footOf_29
    · have hf := x_ip c21 hf
      refine lv_iconst (v := 1) C.x C.b dX12_footOf_24 (by decide) ?_
      refine lv_goto (tgt := 29) C.x C.b dX12_footOf_25 rfl ?_
      cases hf
      exact x_iret C hr hW dX12_footOf_29
  · have hf := x_ip c7 hf
    refine lv_iconst (v := 0) C.x C.b dX12_footOf_10 (by decide) ?_
    refine lv_goto (tgt := 29) C.x C.b dX12_footOf_11 rfl ?_
    cases hf
    exact x_iret C hr hW dX12_footOf_29

theorem dX12_dabAt_0 : decode cX12_dabAt 0 = .ok (.aload_n 0, 1) := by decide +kernel
theorem dX12_dabAt_1 : decode cX12_dabAt 1 = .ok (.iload_n 1, 1) := by decide +kernel
theorem dX12_dabAt_2 : decode cX12_dabAt 2 = .ok (.bipush 8, 2) := by decide +kernel
theorem dX12_dabAt_4 : decode cX12_dabAt 4 = .ok (.invokevirtual 67, 3) := by decide +kernel
theorem dX12_dabAt_7 : decode cX12_dabAt 7 = .ok (.iconst 1, 1) := by decide +kernel
theorem dX12_dabAt_8 : decode cX12_dabAt 8 = .ok (.isub, 1) := by decide +kernel
theorem dX12_dabAt_9 : decode cX12_dabAt 9 = .ok (.istore_n 3, 1) := by decide +kernel
theorem dX12_dabAt_10 : decode cX12_dabAt 10 = .ok (.iload_n 3, 1) := by decide +kernel
theorem dX12_dabAt_11 : decode cX12_dabAt 11 = .ok (.ifCond .lt 22, 3) := by decide +kernel
theorem dX12_dabAt_14 : decode cX12_dabAt 14 = .ok (.aload_n 0, 1) := by decide +kernel
theorem dX12_dabAt_15 : decode cX12_dabAt 15 = .ok (.iload_n 1, 1) := by decide +kernel
theorem dX12_dabAt_16 : decode cX12_dabAt 16 = .ok (.bipush 9, 2) := by decide +kernel
theorem dX12_dabAt_18 : decode cX12_dabAt 18 = .ok (.iload_n 3, 1) := by decide +kernel
theorem dX12_dabAt_19 : decode cX12_dabAt 19 = .ok (.iadd, 1) := by decide +kernel
theorem dX12_dabAt_20 : decode cX12_dabAt 20 = .ok (.invokevirtual 67, 3) := by decide +kernel
theorem dX12_dabAt_23 : decode cX12_dabAt 23 = .ok (.iload_n 2, 1) := by decide +kernel
theorem dX12_dabAt_24 : decode cX12_dabAt 24 = .ok (.if_icmp .eq 9, 3) := by decide +kernel
theorem dX12_dabAt_27 : decode cX12_dabAt 27 = .ok (.iinc 3 (-1), 3) := by decide +kernel
theorem dX12_dabAt_30 : decode cX12_dabAt 30 = .ok (.goto (-20), 3) := by decide +kernel
theorem dX12_dabAt_33 : decode cX12_dabAt 33 = .ok (.iload_n 3, 1) := by decide +kernel
theorem dX12_dabAt_34 : decode cX12_dabAt 34 = .ok (.ireturn, 1) := by decide +kernel
def fX12_dabAt_L10 (M : Mm) (o : Nat) (v1 : Int32) (v2 : Int32) : Nat → Int32 → Option Int32
  | 0, _ => none
  | n + 1, v3 =>
    if v3 < 0 then
      some v3
    else
      B1 (gk M o 15) fun _ =>
      B1 (fX12_its M o v1 (9 + v3)) fun x20_4 =>
      if x20_4 = v2 then
        some v3
      else
        fX12_dabAt_L10 M o v1 v2 n (v3 + (-1))
def fX12_dabAt (M : Mm) (o : Nat) (p1 : Int32) (p2 : Int32) : Option Int32 :=
  B1 (gk M o 15) fun _ =>
  B1 (fX12_its M o p1 8) fun x4_2 =>
  fX12_dabAt_L10 M o p1 p2 FL (x4_2 - 1)
set_option maxRecDepth 100000 in
set_option maxHeartbeats 4000000 in
theorem kX12_dabAt_L10 {l : Launch} {E : Ev} {p : Program} {e : Env} {s : State} {m : MethodId} {args : Array Value} {below : List Frame} {meth : Method} {c : Code} (C : Cx E p s m args meth c cX12_dabAt yX12_dabAt.cls 4) (hr : meth.sig.returnType = (some .int)) (hin : yX12_dabAt.name = "<init>" → meth.name = "<init>") {M : Mm}  {o : Nat} {v1 : Int32} {v2 : Int32} {rz : Int32} : ∀ (n : Nat) (v3 : Int32), fX12_dabAt_L10 M o v1 v2 n v3 = some rz → ∀ (H : Heap) (locs : List Loc) (ls : Array Slot), Wx E s H locs M → lv_has ls 4 [(0, .ref (E.b + o)), (1, .int v1), (2, .int v2), (3, .int v3)] → W p l e (rM 1 22 0 0) s m args below meth c H locs 0 0 (MQ below (Qp E (some (.int rz)) M) args s 0 0 E.A) (F0 m 10 ls []) := by
  intro n
  induction n with
  | zero =>
    intro v3 hf
    unfold fX12_dabAt_L10 at hf
    cases hf
  | succ n ih =>
    intro v3 hf H locs ls hW hl
    unfold fX12_dabAt_L10 at hf
    refine lv_iload_n C.x C.b dX12_dabAt_10 rfl (lv_at hl 3 rfl) ?_
    refine lv_if_lt (tgt := 33) C.x C.b dX12_dabAt_11 rfl (fun c11 => ?_) (fun c11 => ?_)
    · have hf := x_ip c11 hf
      refine lv_iload_n C.x C.b dX12_dabAt_33 rfl (lv_at hl 3 rfl) ?_
      cases hf
      exact x_iret C hr hW dX12_dabAt_34
    · have hf := x_in c11 hf
      refine lv_aload_n C.x C.b dX12_dabAt_14 rfl (lv_at hl 0 rfl) ?_
      refine lv_iload_n C.x C.b dX12_dabAt_15 rfl (lv_at hl 1 rfl) ?_
      refine lv_bipush (v := 9) C.x C.b dX12_dabAt_16 (by decide) ?_
      refine lv_iload_n C.x C.b dX12_dabAt_18 rfl (lv_at hl 3 rfl) ?_
      refine lv_iadd C.x C.b dX12_dabAt_19 ?_
      obtain ⟨_, hk20_3, hf⟩ := x_b1 hf
      obtain ⟨x20_4, hx20_4, hf⟩ := x_b1 hf
      refine x_callV (As := [.int v1, .int (9 + v3)]) (a := o) (rest := []) C hW hl (qX12_its l E hx20_4) (x_gk hk20_3) (by decide) (by decide) rfl gv_X12_67 ⟨rfl, hd_X12_its⟩ rfl rfl (Nat.le_of_ble_eq_true rfl) dX12_dabAt_20 ⟨Nat.le_of_ble_eq_true rfl, Nat.le_of_ble_eq_true rfl⟩ ⟨Nat.le_of_ble_eq_true rfl, Nat.le_of_ble_eq_true rfl⟩ (fun H locs hW => ?_)
      refine lv_iload_n C.x C.b dX12_dabAt_23 rfl (lv_at hl 2 rfl) ?_
      refine lv_icmp_eq (tgt := 33) C.x C.b dX12_dabAt_24 rfl (fun c24 => ?_) (fun c24 => ?_)
      · have hf := x_ip c24 hf
        refine lv_iload_n C.x C.b dX12_dabAt_33 rfl (lv_at hl 3 rfl) ?_
        cases hf
        exact x_iret C hr hW dX12_dabAt_34
      · have hf := x_in c24 hf
        refine lv_iinc (v := (v3 + (-1))) (lv' := [(3, .int (v3 + (-1))), (0, .ref (E.b + _)), (1, .int _), (2, .int _)]) C.x C.b dX12_dabAt_27 hl (k := 3) rfl (by first | rfl | decide) (by decide) rfl (fun ls hl => ?_)
        refine lv_goto (tgt := 10) C.x C.b dX12_dabAt_30 rfl ?_
        exact ih (v3 + (-1)) hf _ _ _ hW (lv_sub hl [1, 2, 3, 0] rfl)
set_option maxRecDepth 100000 in
set_option maxHeartbeats 4000000 in
theorem qX12_dabAt (l : Launch) (E : Ev) {M : Mm} {o : Nat} {p1 : Int32} {p2 : Int32} {rz : Int32} (hf : fX12_dabAt M o p1 p2 = some rz) : Ct l E yX12_dabAt cX12_dabAt 4 (some .int) 1 22 0 0 [.ref (E.b + o), .int p1, .int p2] M (some (.int rz)) M := by
  refine ct_of (by decide +kernel) (Nat.le_of_ble_eq_true rfl) fun p e s m args below meth c C hr hin hW ls hl => ?_
  have hl : lv_has ls 4 [(0, .ref (E.b + o)), (1, .int p1), (2, .int p2)] := hl
  unfold fX12_dabAt at hf
  refine lv_aload_n C.x C.b dX12_dabAt_0 rfl (lv_at hl 0 rfl) ?_
  refine lv_iload_n C.x C.b dX12_dabAt_1 rfl (lv_at hl 1 rfl) ?_
  refine lv_bipush (v := 8) C.x C.b dX12_dabAt_2 (by decide) ?_
  obtain ⟨_, hk4_1, hf⟩ := x_b1 hf
  obtain ⟨x4_2, hx4_2, hf⟩ := x_b1 hf
  refine x_callV (As := [.int p1, .int 8]) (a := o) (rest := []) C hW hl (qX12_its l E hx4_2) (x_gk hk4_1) (by decide) (by decide) rfl gv_X12_67 ⟨rfl, hd_X12_its⟩ rfl rfl (Nat.le_of_ble_eq_true rfl) dX12_dabAt_4 ⟨Nat.le_of_ble_eq_true rfl, Nat.le_of_ble_eq_true rfl⟩ ⟨Nat.le_of_ble_eq_true rfl, Nat.le_of_ble_eq_true rfl⟩ (fun H locs hW => ?_)
  refine lv_iconst (v := 1) C.x C.b dX12_dabAt_7 (by decide) ?_
  refine lv_isub C.x C.b dX12_dabAt_8 ?_
  refine lv_istore_n (lv' := [(3, .int _), (0, .ref (E.b + _)), (1, .int _), (2, .int _)]) C.x C.b dX12_dabAt_9 rfl hl (by decide) rfl (fun ls hl => ?_)
  exact kX12_dabAt_L10 C hr hin FL (x4_2 - 1) hf _ _ _ hW (lv_sub hl [1, 2, 3, 0] rfl)

theorem dX12_isOpen_0 : decode cX12_isOpen 0 = .ok (.aload_n 0, 1) := by decide +kernel
theorem dX12_isOpen_1 : decode cX12_isOpen 1 = .ok (.iload_n 1, 1) := by decide +kernel
theorem dX12_isOpen_2 : decode cX12_isOpen 2 = .ok (.invokevirtual 71, 3) := by decide +kernel
theorem dX12_isOpen_5 : decode cX12_isOpen 5 = .ok (.ifCond .eq 31, 3) := by decide +kernel
theorem dX12_isOpen_8 : decode cX12_isOpen 8 = .ok (.iload_n 2, 1) := by decide +kernel
theorem dX12_isOpen_9 : decode cX12_isOpen 9 = .ok (.i2l, 1) := by decide +kernel
theorem dX12_isOpen_10 : decode cX12_isOpen 10 = .ok (.aload_n 0, 1) := by decide +kernel
theorem dX12_isOpen_11 : decode cX12_isOpen 11 = .ok (.iload_n 1, 1) := by decide +kernel
theorem dX12_isOpen_12 : decode cX12_isOpen 12 = .ok (.bipush 6, 2) := by decide +kernel
theorem dX12_isOpen_14 : decode cX12_isOpen 14 = .ok (.invokevirtual 67, 3) := by decide +kernel
theorem dX12_isOpen_17 : decode cX12_isOpen 17 = .ok (.i2l, 1) := by decide +kernel
theorem dX12_isOpen_18 : decode cX12_isOpen 18 = .ok (.aload_n 0, 1) := by decide +kernel
theorem dX12_isOpen_19 : decode cX12_isOpen 19 = .ok (.iload_n 1, 1) := by decide +kernel
theorem dX12_isOpen_20 : decode cX12_isOpen 20 = .ok (.bipush 7, 2) := by decide +kernel
theorem dX12_isOpen_22 : decode cX12_isOpen 22 = .ok (.invokevirtual 67, 3) := by decide +kernel
theorem dX12_isOpen_25 : decode cX12_isOpen 25 = .ok (.i2l, 1) := by decide +kernel
theorem dX12_isOpen_26 : decode cX12_isOpen 26 = .ok (.invokestatic 61, 3) := by decide +kernel
theorem dX12_isOpen_29 : decode cX12_isOpen 29 = .ok (.ifCond .eq 7, 3) := by decide +kernel
theorem dX12_isOpen_32 : decode cX12_isOpen 32 = .ok (.iconst 1, 1) := by decide +kernel
theorem dX12_isOpen_33 : decode cX12_isOpen 33 = .ok (.goto 4, 3) := by decide +kernel
theorem dX12_isOpen_36 : decode cX12_isOpen 36 = .ok (.iconst 0, 1) := by decide +kernel
theorem dX12_isOpen_37 : decode cX12_isOpen 37 = .ok (.ireturn, 1) := by decide +kernel
def fX12_isOpen (M : Mm) (o : Nat) (p1 : Int32) (p2 : Int32) : Option Int32 :=
  B1 (gk M o 15) fun _ =>
  B1 (fX12_hasLadder M o p1) fun x2_2 =>
  if x2_2 = 0 then
    some 0
  else
    B1 (gk M o 15) fun _ =>
    B1 (fX12_its M o p1 6) fun x14_4 =>
    B1 (gk M o 15) fun _ =>
    B1 (fX12_its M o p1 7) fun x22_6 =>
    B1 (fX12_in M (p2.toInt64) (x14_4.toInt64) (x22_6.toInt64)) fun x26_7 =>
    if x26_7 = 0 then
      some 0
    else
      some 1
set_option maxRecDepth 100000 in
set_option maxHeartbeats 4000000 in
theorem qX12_isOpen (l : Launch) (E : Ev) {M : Mm} {o : Nat} {p1 : Int32} {p2 : Int32} {rz : Int32} (hf : fX12_isOpen M o p1 p2 = some rz) : Ct l E yX12_isOpen cX12_isOpen 3 (some .boolean) 2 43 0 0 [.ref (E.b + o), .int p1, .int p2] M (some (.int rz)) M := by
  refine ct_of (by decide +kernel) (Nat.le_of_ble_eq_true rfl) fun p e s m args below meth c C hr hin hW ls hl => ?_
  have hl : lv_has ls 3 [(0, .ref (E.b + o)), (1, .int p1), (2, .int p2)] := hl
  unfold fX12_isOpen at hf
  refine lv_aload_n C.x C.b dX12_isOpen_0 rfl (lv_at hl 0 rfl) ?_
  refine lv_iload_n C.x C.b dX12_isOpen_1 rfl (lv_at hl 1 rfl) ?_
  obtain ⟨_, hk2_1, hf⟩ := x_b1 hf
  obtain ⟨x2_2, hx2_2, hf⟩ := x_b1 hf
  refine x_callV (As := [.int p1]) (a := o) (rest := []) C hW hl (qX12_hasLadder l E hx2_2) (x_gk hk2_1) (by decide) (by decide) rfl gv_X12_71 ⟨rfl, hd_X12_hasLadder⟩ rfl rfl (Nat.le_of_ble_eq_true rfl) dX12_isOpen_2 ⟨Nat.le_of_ble_eq_true rfl, Nat.le_of_ble_eq_true rfl⟩ ⟨Nat.le_of_ble_eq_true rfl, Nat.le_of_ble_eq_true rfl⟩ (fun H locs hW => ?_)
  refine lv_if_eq (tgt := 36) C.x C.b dX12_isOpen_5 rfl (fun c5 => ?_) (fun c5 => ?_)
  · have hf := x_ip c5 hf
    refine lv_iconst (v := 0) C.x C.b dX12_isOpen_36 (by decide) ?_
    cases hf
    exact x_zret C hr hW (v := 0) (w := 0) rfl dX12_isOpen_37
  · have hf := x_in c5 hf
    refine lv_iload_n C.x C.b dX12_isOpen_8 rfl (lv_at hl 2 rfl) ?_
    refine lv_i2l (v := p2.toInt64) C.x C.b dX12_isOpen_9 rfl ?_
    refine lv_aload_n C.x C.b dX12_isOpen_10 rfl (lv_at hl 0 rfl) ?_
    refine lv_iload_n C.x C.b dX12_isOpen_11 rfl (lv_at hl 1 rfl) ?_
    refine lv_bipush (v := 6) C.x C.b dX12_isOpen_12 (by decide) ?_
    obtain ⟨_, hk14_3, hf⟩ := x_b1 hf
    obtain ⟨x14_4, hx14_4, hf⟩ := x_b1 hf
    refine x_callV (As := [.int p1, .int 6]) (a := o) (rest := [.long (p2.toInt64)]) C hW hl (qX12_its l E hx14_4) (x_gk hk14_3) (by decide) (by decide) rfl gv_X12_67 ⟨rfl, hd_X12_its⟩ rfl rfl (Nat.le_of_ble_eq_true rfl) dX12_isOpen_14 ⟨Nat.le_of_ble_eq_true rfl, Nat.le_of_ble_eq_true rfl⟩ ⟨Nat.le_of_ble_eq_true rfl, Nat.le_of_ble_eq_true rfl⟩ (fun H locs hW => ?_)
    refine lv_i2l (v := x14_4.toInt64) C.x C.b dX12_isOpen_17 rfl ?_
    refine lv_aload_n C.x C.b dX12_isOpen_18 rfl (lv_at hl 0 rfl) ?_
    refine lv_iload_n C.x C.b dX12_isOpen_19 rfl (lv_at hl 1 rfl) ?_
    refine lv_bipush (v := 7) C.x C.b dX12_isOpen_20 (by decide) ?_
    obtain ⟨_, hk22_5, hf⟩ := x_b1 hf
    obtain ⟨x22_6, hx22_6, hf⟩ := x_b1 hf
    refine x_callV (As := [.int p1, .int 7]) (a := o) (rest := [.long (x14_4.toInt64), .long (p2.toInt64)]) C hW hl (qX12_its l E hx22_6) (x_gk hk22_5) (by decide) (by decide) rfl gv_X12_67 ⟨rfl, hd_X12_its⟩ rfl rfl (Nat.le_of_ble_eq_true rfl) dX12_isOpen_22 ⟨Nat.le_of_ble_eq_true rfl, Nat.le_of_ble_eq_true rfl⟩ ⟨Nat.le_of_ble_eq_true rfl, Nat.le_of_ble_eq_true rfl⟩ (fun H locs hW => ?_)
    refine lv_i2l (v := x22_6.toInt64) C.x C.b dX12_isOpen_25 rfl ?_
    obtain ⟨x26_7, hx26_7, hf⟩ := x_b1 hf
    refine x_callS (As := [.long (p2.toInt64), .long (x14_4.toInt64), .long (x22_6.toInt64)]) (rest := []) C hW hl (qX12_in l E hx26_7) gs_X12_61 hd_X12_in rfl rfl (Nat.le_of_ble_eq_true rfl) dX12_isOpen_26 ⟨Nat.le_of_ble_eq_true rfl, Nat.le_of_ble_eq_true rfl⟩ ⟨Nat.le_of_ble_eq_true rfl, Nat.le_of_ble_eq_true rfl⟩ (fun H locs hW => ?_)
    refine lv_if_eq (tgt := 36) C.x C.b dX12_isOpen_29 rfl (fun c29 => ?_) (fun c29 => ?_)
    · have hf := x_ip c29 hf
      refine lv_iconst (v := 0) C.x C.b dX12_isOpen_36 (by decide) ?_
      cases hf
      exact x_zret C hr hW (v := 0) (w := 0) rfl dX12_isOpen_37
    · have hf := x_in c29 hf
      refine lv_iconst (v := 1) C.x C.b dX12_isOpen_32 (by decide) ?_
      refine lv_goto (tgt := 37) C.x C.b dX12_isOpen_33 rfl ?_
      cases hf
      exact x_zret C hr hW (v := 1) (w := 1) rfl dX12_isOpen_37

theorem dX12_first_0 : decode cX12_first 0 = .ok (.iload_n 0, 1) := by decide +kernel
theorem dX12_first_1 : decode cX12_first 1 = .ok (.tableswitch 60 0 6 #[43, 45, 48, 50, 53, 48, 56], 43) := by decide +kernel
theorem dX12_first_44 : decode cX12_first 44 = .ok (.iconst 3, 1) := by decide +kernel
theorem dX12_first_45 : decode cX12_first 45 = .ok (.ireturn, 1) := by decide +kernel
theorem dX12_first_46 : decode cX12_first 46 = .ok (.bipush 10, 2) := by decide +kernel
theorem dX12_first_48 : decode cX12_first 48 = .ok (.ireturn, 1) := by decide +kernel
theorem dX12_first_49 : decode cX12_first 49 = .ok (.iconst 2, 1) := by decide +kernel
theorem dX12_first_50 : decode cX12_first 50 = .ok (.ireturn, 1) := by decide +kernel
theorem dX12_first_51 : decode cX12_first 51 = .ok (.bipush 8, 2) := by decide +kernel
theorem dX12_first_53 : decode cX12_first 53 = .ok (.ireturn, 1) := by decide +kernel
theorem dX12_first_54 : decode cX12_first 54 = .ok (.bipush 60, 2) := by decide +kernel
theorem dX12_first_56 : decode cX12_first 56 = .ok (.ireturn, 1) := by decide +kernel
theorem dX12_first_57 : decode cX12_first 57 = .ok (.sipush 190, 3) := by decide +kernel
theorem dX12_first_60 : decode cX12_first 60 = .ok (.ireturn, 1) := by decide +kernel
theorem dX12_first_61 : decode cX12_first 61 = .ok (.iconst 2, 1) := by decide +kernel
theorem dX12_first_62 : decode cX12_first 62 = .ok (.ireturn, 1) := by decide +kernel
def fX12_first (M : Mm) (p1 : Int32) : Option Int32 :=
  if p1 = 0 then
    some 3
  else
    if p1 = 1 then
      some 10
    else
      if p1 = 2 then
        some 2
      else
        if p1 = 3 then
          some 8
        else
          if p1 = 4 then
            some 60
          else
            if p1 = 5 then
              some 2
            else
              if p1 = 6 then
                some 190
              else
                some 2
set_option maxRecDepth 100000 in
set_option maxHeartbeats 4000000 in
theorem qX12_first (l : Launch) (E : Ev) {M : Mm} {p1 : Int32} {rz : Int32} (hf : fX12_first M p1 = some rz) : Ct l E yX12_first cX12_first 1 (some .int) 0 0 0 0 [.int p1] M (some (.int rz)) M := by
  refine ct_of (by decide +kernel) (Nat.le_of_ble_eq_true rfl) fun p e s m args below meth c C hr hin hW ls hl => ?_
  have hl : lv_has ls 1 [(0, .int p1)] := hl
  unfold fX12_first at hf
  refine lv_iload_n C.x C.b dX12_first_0 rfl (lv_at hl 0 rfl) ?_
  by_cases s1_0 : p1 = 0
  · have hf := x_ip s1_0 hf
    refine lv_tableIn (off := 43) (tgt := 44) C.x C.b dX12_first_1 (by rw [s1_0]; decide) (by rw [s1_0]; decide) (by rw [s1_0]; rfl) rfl ?_
    refine lv_iconst (v := 3) C.x C.b dX12_first_44 (by decide) ?_
    cases hf
    exact x_iret C hr hW dX12_first_45
  · have hf := x_in s1_0 hf
    by_cases s1_1 : p1 = 1
    · have hf := x_ip s1_1 hf
      refine lv_tableIn (off := 45) (tgt := 46) C.x C.b dX12_first_1 (by rw [s1_1]; decide) (by rw [s1_1]; decide) (by rw [s1_1]; rfl) rfl ?_
      refine lv_bipush (v := 10) C.x C.b dX12_first_46 (by decide) ?_
      cases hf
      exact x_iret C hr hW dX12_first_48
    · have hf := x_in s1_1 hf
      by_cases s1_2 : p1 = 2
      · have hf := x_ip s1_2 hf
        refine lv_tableIn (off := 48) (tgt := 49) C.x C.b dX12_first_1 (by rw [s1_2]; decide) (by rw [s1_2]; decide) (by rw [s1_2]; rfl) rfl ?_
        refine lv_iconst (v := 2) C.x C.b dX12_first_49 (by decide) ?_
        cases hf
        exact x_iret C hr hW dX12_first_50
      · have hf := x_in s1_2 hf
        by_cases s1_3 : p1 = 3
        · have hf := x_ip s1_3 hf
          refine lv_tableIn (off := 50) (tgt := 51) C.x C.b dX12_first_1 (by rw [s1_3]; decide) (by rw [s1_3]; decide) (by rw [s1_3]; rfl) rfl ?_
          refine lv_bipush (v := 8) C.x C.b dX12_first_51 (by decide) ?_
          cases hf
          exact x_iret C hr hW dX12_first_53
        · have hf := x_in s1_3 hf
          by_cases s1_4 : p1 = 4
          · have hf := x_ip s1_4 hf
            refine lv_tableIn (off := 53) (tgt := 54) C.x C.b dX12_first_1 (by rw [s1_4]; decide) (by rw [s1_4]; decide) (by rw [s1_4]; rfl) rfl ?_
            refine lv_bipush (v := 60) C.x C.b dX12_first_54 (by decide) ?_
            cases hf
            exact x_iret C hr hW dX12_first_56
          · have hf := x_in s1_4 hf
            by_cases s1_5 : p1 = 5
            · have hf := x_ip s1_5 hf
              refine lv_tableIn (off := 48) (tgt := 49) C.x C.b dX12_first_1 (by rw [s1_5]; decide) (by rw [s1_5]; decide) (by rw [s1_5]; rfl) rfl ?_
              refine lv_iconst (v := 2) C.x C.b dX12_first_49 (by decide) ?_
              cases hf
              exact x_iret C hr hW dX12_first_50
            · have hf := x_in s1_5 hf
              by_cases s1_6 : p1 = 6
              · have hf := x_ip s1_6 hf
                refine lv_tableIn (off := 56) (tgt := 57) C.x C.b dX12_first_1 (by rw [s1_6]; decide) (by rw [s1_6]; decide) (by rw [s1_6]; rfl) rfl ?_
                refine lv_sipush (v := 190) C.x C.b dX12_first_57 (by decide) ?_
                cases hf
                exact x_iret C hr hW dX12_first_60
              · have hf := x_in s1_6 hf
                have s1_0_ := lv_neT (a := 0) s1_0 rfl
                have s1_1_ := lv_neT (a := 1) s1_1 rfl
                have s1_2_ := lv_neT (a := 2) s1_2 rfl
                have s1_3_ := lv_neT (a := 3) s1_3 rfl
                have s1_4_ := lv_neT (a := 4) s1_4 rfl
                have s1_5_ := lv_neT (a := 5) s1_5 rfl
                have s1_6_ := lv_neT (a := 6) s1_6 rfl
                refine lv_tableOut (tgt := 61) C.x C.b dX12_first_1 (by omega) rfl ?_
                refine lv_iconst (v := 2) C.x C.b dX12_first_61 (by decide) ?_
                cases hf
                exact x_iret C hr hW dX12_first_62

theorem dX12_begins_0 : decode cX12_begins 0 = .ok (.aload_n 0, 1) := by decide +kernel
theorem dX12_begins_1 : decode cX12_begins 1 = .ok (.iconst 0, 1) := by decide +kernel
theorem dX12_begins_2 : decode cX12_begins 2 = .ok (.iconst 0, 1) := by decide +kernel
theorem dX12_begins_3 : decode cX12_begins 3 = .ok (.iastore, 1) := by decide +kernel
theorem dX12_begins_4 : decode cX12_begins 4 = .ok (.aload_n 0, 1) := by decide +kernel
theorem dX12_begins_5 : decode cX12_begins 5 = .ok (.iconst 2, 1) := by decide +kernel
theorem dX12_begins_6 : decode cX12_begins 6 = .ok (.iconst (-1), 1) := by decide +kernel
theorem dX12_begins_7 : decode cX12_begins 7 = .ok (.iastore, 1) := by decide +kernel
theorem dX12_begins_8 : decode cX12_begins 8 = .ok (.aload_n 0, 1) := by decide +kernel
theorem dX12_begins_9 : decode cX12_begins 9 = .ok (.iconst 3, 1) := by decide +kernel
theorem dX12_begins_10 : decode cX12_begins 10 = .ok (.iconst (-1), 1) := by decide +kernel
theorem dX12_begins_11 : decode cX12_begins 11 = .ok (.iastore, 1) := by decide +kernel
theorem dX12_begins_12 : decode cX12_begins 12 = .ok (.aload_n 0, 1) := by decide +kernel
theorem dX12_begins_13 : decode cX12_begins 13 = .ok (.bipush 12, 2) := by decide +kernel
theorem dX12_begins_15 : decode cX12_begins 15 = .ok (.iconst 0, 1) := by decide +kernel
theorem dX12_begins_16 : decode cX12_begins 16 = .ok (.iastore, 1) := by decide +kernel
theorem dX12_begins_17 : decode cX12_begins 17 = .ok (.aload_n 0, 1) := by decide +kernel
theorem dX12_begins_18 : decode cX12_begins 18 = .ok (.bipush 13, 2) := by decide +kernel
theorem dX12_begins_20 : decode cX12_begins 20 = .ok (.iconst 0, 1) := by decide +kernel
theorem dX12_begins_21 : decode cX12_begins 21 = .ok (.iastore, 1) := by decide +kernel
theorem dX12_begins_22 : decode cX12_begins 22 = .ok (.iconst 0, 1) := by decide +kernel
theorem dX12_begins_23 : decode cX12_begins 23 = .ok (.istore_n 1, 1) := by decide +kernel
theorem dX12_begins_24 : decode cX12_begins 24 = .ok (.iload_n 1, 1) := by decide +kernel
theorem dX12_begins_25 : decode cX12_begins 25 = .ok (.bipush 8, 2) := by decide +kernel
theorem dX12_begins_27 : decode cX12_begins 27 = .ok (.if_icmp .ge 18, 3) := by decide +kernel
theorem dX12_begins_30 : decode cX12_begins 30 = .ok (.aload_n 0, 1) := by decide +kernel
theorem dX12_begins_31 : decode cX12_begins 31 = .ok (.iconst 4, 1) := by decide +kernel
theorem dX12_begins_32 : decode cX12_begins 32 = .ok (.iload_n 1, 1) := by decide +kernel
theorem dX12_begins_33 : decode cX12_begins 33 = .ok (.iadd, 1) := by decide +kernel
theorem dX12_begins_34 : decode cX12_begins 34 = .ok (.iload_n 1, 1) := by decide +kernel
theorem dX12_begins_35 : decode cX12_begins 35 = .ok (.invokestatic 57, 3) := by decide +kernel
theorem dX12_begins_38 : decode cX12_begins 38 = .ok (.iastore, 1) := by decide +kernel
theorem dX12_begins_39 : decode cX12_begins 39 = .ok (.iinc 1 1, 3) := by decide +kernel
theorem dX12_begins_42 : decode cX12_begins 42 = .ok (.goto (-18), 3) := by decide +kernel
theorem dX12_begins_45 : decode cX12_begins 45 = .ok (.return_, 1) := by decide +kernel
theorem hd_X12_first : yX12_first.cls ≠ "java/lang/invoke/MethodHandle" ∧ yX12_first.cls ≠ "java/lang/invoke/VarHandle" ∧ (parseMethodDescriptor yX12_first.desc).map (fun d => d.parameters.length) = some 1 := by decide +kernel
theorem gs_X12_57 : GoodIn gT (va_wsS "NylonLadderModel" 57 yX12_first (Cond.code yX12_first cX12_first 1 (some .int) :: gT)) := good_S T_6_46 T_6_47 T_1_10 T_6_48
def fX12_begins_L24 (v0 : Nat) : Nat → Int32 → Mm → Option Mm
  | 0, _, _ => none
  | n + 1, v1, M =>
    if 8 ≤ v1 then
      some M
    else
      B1 (fX12_first M v1) fun x35_6 =>
      B1 (asI M v0 (4 + v1) x35_6) fun M38_7 =>
      fX12_begins_L24 v0 n (v1 + 1) M38_7
def fX12_begins (M : Mm) (p1 : Nat) : Option Mm :=
  B1 (asI M p1 0 0) fun M3_1 =>
  B1 (asI M3_1 p1 2 (-1)) fun M7_2 =>
  B1 (asI M7_2 p1 3 (-1)) fun M11_3 =>
  B1 (asI M11_3 p1 12 0) fun M16_4 =>
  B1 (asI M16_4 p1 13 0) fun M21_5 =>
  fX12_begins_L24 p1 FL 0 M21_5
set_option maxRecDepth 100000 in
set_option maxHeartbeats 4000000 in
theorem kX12_begins_L24 {l : Launch} {E : Ev} {p : Program} {e : Env} {s : State} {m : MethodId} {args : Array Value} {below : List Frame} {meth : Method} {c : Code} (C : Cx E p s m args meth c cX12_begins yX12_begins.cls 2) (hr : meth.sig.returnType = none) (hin : yX12_begins.name = "<init>" → meth.name = "<init>")  {v0 : Nat} {Mz : Mm} : ∀ (n : Nat) (v1 : Int32) (M : Mm), fX12_begins_L24 v0 n v1 M = some Mz → ∀ (H : Heap) (locs : List Loc) (ls : Array Slot), Wx E s H locs M → lv_has ls 2 [(0, .ref (E.b + v0)), (1, .int v1)] → W p l e (rM 1 20 0 0) s m args below meth c H locs 0 0 (MQ below (Qp E none Mz) args s 0 0 E.A) (F0 m 24 ls []) := by
  intro n
  induction n with
  | zero =>
    intro v1 M hf
    unfold fX12_begins_L24 at hf
    cases hf
  | succ n ih =>
    intro v1 M hf H locs ls hW hl
    unfold fX12_begins_L24 at hf
    refine lv_iload_n C.x C.b dX12_begins_24 rfl (lv_at hl 1 rfl) ?_
    refine lv_bipush (v := 8) C.x C.b dX12_begins_25 (by decide) ?_
    refine lv_icmp_ge (tgt := 45) C.x C.b dX12_begins_27 rfl (fun c27 => ?_) (fun c27 => ?_)
    · have hf := x_ip c27 hf
      cases hf
      exact x_vret C hr hW dX12_begins_45
    · have hf := x_in c27 hf
      refine lv_aload_n C.x C.b dX12_begins_30 rfl (lv_at hl 0 rfl) ?_
      refine lv_iconst (v := 4) C.x C.b dX12_begins_31 (by decide) ?_
      refine lv_iload_n C.x C.b dX12_begins_32 rfl (lv_at hl 1 rfl) ?_
      refine lv_iadd C.x C.b dX12_begins_33 ?_
      refine lv_iload_n C.x C.b dX12_begins_34 rfl (lv_at hl 1 rfl) ?_
      obtain ⟨x35_6, hx35_6, hf⟩ := x_b1 hf
      refine x_callS (As := [.int v1]) (rest := [.int (4 + v1), .ref (E.b + v0)]) C hW hl (qX12_first l E hx35_6) gs_X12_57 hd_X12_first rfl rfl (Nat.le_of_ble_eq_true rfl) dX12_begins_35 ⟨Nat.le_of_ble_eq_true rfl, Nat.le_of_ble_eq_true rfl⟩ ⟨Nat.le_of_ble_eq_true rfl, Nat.le_of_ble_eq_true rfl⟩ (fun H locs hW => ?_)
      obtain ⟨M38_7, hM38_7, hf⟩ := x_b1 hf
      refine x_iast C hW hM38_7 dX12_begins_38 (fun H locs hW => ?_)
      refine lv_iinc (v := (v1 + 1)) (lv' := [(1, .int (v1 + 1)), (0, .ref (E.b + _))]) C.x C.b dX12_begins_39 hl (k := 1) rfl (by first | rfl | decide) (by decide) rfl (fun ls hl => ?_)
      refine lv_goto (tgt := 24) C.x C.b dX12_begins_42 rfl ?_
      exact ih (v1 + 1) M38_7 hf _ _ _ hW (lv_sub hl [1, 0] rfl)
set_option maxRecDepth 100000 in
set_option maxHeartbeats 4000000 in
theorem qX12_begins (l : Launch) (E : Ev) {M : Mm} {p1 : Nat} {Mz : Mm} (hf : fX12_begins M p1 = some Mz) : Ct l E yX12_begins cX12_begins 2 none 1 20 0 0 [.ref (E.b + p1)] M none Mz := by
  refine ct_of (by decide +kernel) (Nat.le_of_ble_eq_true rfl) fun p e s m args below meth c C hr hin hW ls hl => ?_
  have hl : lv_has ls 2 [(0, .ref (E.b + p1))] := hl
  unfold fX12_begins at hf
  refine lv_aload_n C.x C.b dX12_begins_0 rfl (lv_at hl 0 rfl) ?_
  refine lv_iconst (v := 0) C.x C.b dX12_begins_1 (by decide) ?_
  refine lv_iconst (v := 0) C.x C.b dX12_begins_2 (by decide) ?_
  obtain ⟨M3_1, hM3_1, hf⟩ := x_b1 hf
  refine x_iast C hW hM3_1 dX12_begins_3 (fun H locs hW => ?_)
  refine lv_aload_n C.x C.b dX12_begins_4 rfl (lv_at hl 0 rfl) ?_
  refine lv_iconst (v := 2) C.x C.b dX12_begins_5 (by decide) ?_
  refine lv_iconst (v := (-1)) C.x C.b dX12_begins_6 (by decide) ?_
  obtain ⟨M7_2, hM7_2, hf⟩ := x_b1 hf
  refine x_iast C hW hM7_2 dX12_begins_7 (fun H locs hW => ?_)
  refine lv_aload_n C.x C.b dX12_begins_8 rfl (lv_at hl 0 rfl) ?_
  refine lv_iconst (v := 3) C.x C.b dX12_begins_9 (by decide) ?_
  refine lv_iconst (v := (-1)) C.x C.b dX12_begins_10 (by decide) ?_
  obtain ⟨M11_3, hM11_3, hf⟩ := x_b1 hf
  refine x_iast C hW hM11_3 dX12_begins_11 (fun H locs hW => ?_)
  refine lv_aload_n C.x C.b dX12_begins_12 rfl (lv_at hl 0 rfl) ?_
  refine lv_bipush (v := 12) C.x C.b dX12_begins_13 (by decide) ?_
  refine lv_iconst (v := 0) C.x C.b dX12_begins_15 (by decide) ?_
  obtain ⟨M16_4, hM16_4, hf⟩ := x_b1 hf
  refine x_iast C hW hM16_4 dX12_begins_16 (fun H locs hW => ?_)
  refine lv_aload_n C.x C.b dX12_begins_17 rfl (lv_at hl 0 rfl) ?_
  refine lv_bipush (v := 13) C.x C.b dX12_begins_18 (by decide) ?_
  refine lv_iconst (v := 0) C.x C.b dX12_begins_20 (by decide) ?_
  obtain ⟨M21_5, hM21_5, hf⟩ := x_b1 hf
  refine x_iast C hW hM21_5 dX12_begins_21 (fun H locs hW => ?_)
  refine lv_iconst (v := 0) C.x C.b dX12_begins_22 (by decide) ?_
  refine lv_istore_n (lv' := [(1, .int _), (0, .ref (E.b + _))]) C.x C.b dX12_begins_23 rfl hl (by decide) rfl (fun ls hl => ?_)
  exact kX12_begins_L24 C hr hin FL 0 M21_5 hf _ _ _ hW (lv_sub hl [1, 0] rfl)

theorem dX12_become_0 : decode cX12_become 0 = .ok (.iconst 0, 1) := by decide +kernel
theorem dX12_become_1 : decode cX12_become 1 = .ok (.istore_n 2, 1) := by decide +kernel
theorem dX12_become_2 : decode cX12_become 2 = .ok (.iload_n 2, 1) := by decide +kernel
theorem dX12_become_3 : decode cX12_become 3 = .ok (.sipush 158, 3) := by decide +kernel
theorem dX12_become_6 : decode cX12_become 6 = .ok (.if_icmp .ge 15, 3) := by decide +kernel
theorem dX12_become_9 : decode cX12_become 9 = .ok (.aload_n 1, 1) := by decide +kernel
theorem dX12_become_10 : decode cX12_become 10 = .ok (.iload_n 2, 1) := by decide +kernel
theorem dX12_become_11 : decode cX12_become 11 = .ok (.aload_n 0, 1) := by decide +kernel
theorem dX12_become_12 : decode cX12_become 12 = .ok (.iload_n 2, 1) := by decide +kernel
theorem dX12_become_13 : decode cX12_become 13 = .ok (.iaload, 1) := by decide +kernel
theorem dX12_become_14 : decode cX12_become 14 = .ok (.iastore, 1) := by decide +kernel
theorem dX12_become_15 : decode cX12_become 15 = .ok (.iinc 2 1, 3) := by decide +kernel
theorem dX12_become_18 : decode cX12_become 18 = .ok (.goto (-16), 3) := by decide +kernel
theorem dX12_become_21 : decode cX12_become 21 = .ok (.return_, 1) := by decide +kernel
def fX12_become_L2 (v0 : Nat) (v1 : Nat) : Nat → Int32 → Mm → Option Mm
  | 0, _, _ => none
  | n + 1, v2, M =>
    if 158 ≤ v2 then
      some M
    else
      B1 (alI M v0 v2) fun x13_1 =>
      B1 (asI M v1 v2 x13_1) fun M14_2 =>
      fX12_become_L2 v0 v1 n (v2 + 1) M14_2
def fX12_become (M : Mm) (p1 : Nat) (p2 : Nat) : Option Mm :=
  fX12_become_L2 p1 p2 FL 0 M
set_option maxRecDepth 100000 in
set_option maxHeartbeats 4000000 in
theorem kX12_become_L2 {l : Launch} {E : Ev} {p : Program} {e : Env} {s : State} {m : MethodId} {args : Array Value} {below : List Frame} {meth : Method} {c : Code} (C : Cx E p s m args meth c cX12_become yX12_become.cls 3) (hr : meth.sig.returnType = none) (hin : yX12_become.name = "<init>" → meth.name = "<init>")  {v0 : Nat} {v1 : Nat} {Mz : Mm} : ∀ (n : Nat) (v2 : Int32) (M : Mm), fX12_become_L2 v0 v1 n v2 M = some Mz → ∀ (H : Heap) (locs : List Loc) (ls : Array Slot), Wx E s H locs M → lv_has ls 3 [(0, .ref (E.b + v0)), (1, .ref (E.b + v1)), (2, .int v2)] → W p l e (rM 0 0 0 0) s m args below meth c H locs 0 0 (MQ below (Qp E none Mz) args s 0 0 E.A) (F0 m 2 ls []) := by
  intro n
  induction n with
  | zero =>
    intro v2 M hf
    unfold fX12_become_L2 at hf
    cases hf
  | succ n ih =>
    intro v2 M hf H locs ls hW hl
    unfold fX12_become_L2 at hf
    refine lv_iload_n C.x C.b dX12_become_2 rfl (lv_at hl 2 rfl) ?_
    refine lv_sipush (v := 158) C.x C.b dX12_become_3 (by decide) ?_
    refine lv_icmp_ge (tgt := 21) C.x C.b dX12_become_6 rfl (fun c6 => ?_) (fun c6 => ?_)
    · have hf := x_ip c6 hf
      cases hf
      exact x_vret C hr hW dX12_become_21
    · have hf := x_in c6 hf
      refine lv_aload_n C.x C.b dX12_become_9 rfl (lv_at hl 1 rfl) ?_
      refine lv_iload_n C.x C.b dX12_become_10 rfl (lv_at hl 2 rfl) ?_
      refine lv_aload_n C.x C.b dX12_become_11 rfl (lv_at hl 0 rfl) ?_
      refine lv_iload_n C.x C.b dX12_become_12 rfl (lv_at hl 2 rfl) ?_
      obtain ⟨x13_1, hx13_1, hf⟩ := x_b1 hf
      refine x_iald C hW hx13_1 dX12_become_13 ?_
      obtain ⟨M14_2, hM14_2, hf⟩ := x_b1 hf
      refine x_iast C hW hM14_2 dX12_become_14 (fun H locs hW => ?_)
      refine lv_iinc (v := (v2 + 1)) (lv' := [(2, .int (v2 + 1)), (0, .ref (E.b + _)), (1, .ref (E.b + _))]) C.x C.b dX12_become_15 hl (k := 2) rfl (by first | rfl | decide) (by decide) rfl (fun ls hl => ?_)
      refine lv_goto (tgt := 2) C.x C.b dX12_become_18 rfl ?_
      exact ih (v2 + 1) M14_2 hf _ _ _ hW (lv_sub hl [1, 2, 0] rfl)
set_option maxRecDepth 100000 in
set_option maxHeartbeats 4000000 in
theorem qX12_become (l : Launch) (E : Ev) {M : Mm} {p1 : Nat} {p2 : Nat} {Mz : Mm} (hf : fX12_become M p1 p2 = some Mz) : Ct l E yX12_become cX12_become 3 none 0 0 0 0 [.ref (E.b + p1), .ref (E.b + p2)] M none Mz := by
  refine ct_of (by decide +kernel) (Nat.le_of_ble_eq_true rfl) fun p e s m args below meth c C hr hin hW ls hl => ?_
  have hl : lv_has ls 3 [(0, .ref (E.b + p1)), (1, .ref (E.b + p2))] := hl
  unfold fX12_become at hf
  refine lv_iconst (v := 0) C.x C.b dX12_become_0 (by decide) ?_
  refine lv_istore_n (lv' := [(2, .int _), (0, .ref (E.b + _)), (1, .ref (E.b + _))]) C.x C.b dX12_become_1 rfl hl (by decide) rfl (fun ls hl => ?_)
  exact kX12_become_L2 C hr hin FL 0 M hf _ _ _ hW (lv_sub hl [1, 2, 0] rfl)

theorem dX12_most_0 : decode cX12_most 0 = .ok (.iload_n 0, 1) := by decide +kernel
theorem dX12_most_1 : decode cX12_most 1 = .ok (.tableswitch 64 0 6 #[43, 46, 49, 51, 54, 57, 60], 43) := by decide +kernel
theorem dX12_most_44 : decode cX12_most 44 = .ok (.bipush 9, 2) := by decide +kernel
theorem dX12_most_46 : decode cX12_most 46 = .ok (.ireturn, 1) := by decide +kernel
theorem dX12_most_47 : decode cX12_most 47 = .ok (.bipush 20, 2) := by decide +kernel
theorem dX12_most_49 : decode cX12_most 49 = .ok (.ireturn, 1) := by decide +kernel
theorem dX12_most_50 : decode cX12_most 50 = .ok (.iconst 5, 1) := by decide +kernel
theorem dX12_most_51 : decode cX12_most 51 = .ok (.ireturn, 1) := by decide +kernel
theorem dX12_most_52 : decode cX12_most 52 = .ok (.bipush 30, 2) := by decide +kernel
theorem dX12_most_54 : decode cX12_most 54 = .ok (.ireturn, 1) := by decide +kernel
theorem dX12_most_55 : decode cX12_most 55 = .ok (.bipush 100, 2) := by decide +kernel
theorem dX12_most_57 : decode cX12_most 57 = .ok (.ireturn, 1) := by decide +kernel
theorem dX12_most_58 : decode cX12_most 58 = .ok (.bipush 99, 2) := by decide +kernel
theorem dX12_most_60 : decode cX12_most 60 = .ok (.ireturn, 1) := by decide +kernel
theorem dX12_most_61 : decode cX12_most 61 = .ok (.sipush 999, 3) := by decide +kernel
theorem dX12_most_64 : decode cX12_most 64 = .ok (.ireturn, 1) := by decide +kernel
theorem dX12_most_65 : decode cX12_most 65 = .ok (.bipush 10, 2) := by decide +kernel
theorem dX12_most_67 : decode cX12_most 67 = .ok (.ireturn, 1) := by decide +kernel
def fX12_most (M : Mm) (p1 : Int32) : Option Int32 :=
  if p1 = 0 then
    some 9
  else
    if p1 = 1 then
      some 20
    else
      if p1 = 2 then
        some 5
      else
        if p1 = 3 then
          some 30
        else
          if p1 = 4 then
            some 100
          else
            if p1 = 5 then
              some 99
            else
              if p1 = 6 then
                some 999
              else
                some 10
set_option maxRecDepth 100000 in
set_option maxHeartbeats 4000000 in
theorem qX12_most (l : Launch) (E : Ev) {M : Mm} {p1 : Int32} {rz : Int32} (hf : fX12_most M p1 = some rz) : Ct l E yX12_most cX12_most 1 (some .int) 0 0 0 0 [.int p1] M (some (.int rz)) M := by
  refine ct_of (by decide +kernel) (Nat.le_of_ble_eq_true rfl) fun p e s m args below meth c C hr hin hW ls hl => ?_
  have hl : lv_has ls 1 [(0, .int p1)] := hl
  unfold fX12_most at hf
  refine lv_iload_n C.x C.b dX12_most_0 rfl (lv_at hl 0 rfl) ?_
  by_cases s1_0 : p1 = 0
  · have hf := x_ip s1_0 hf
    refine lv_tableIn (off := 43) (tgt := 44) C.x C.b dX12_most_1 (by rw [s1_0]; decide) (by rw [s1_0]; decide) (by rw [s1_0]; rfl) rfl ?_
    refine lv_bipush (v := 9) C.x C.b dX12_most_44 (by decide) ?_
    cases hf
    exact x_iret C hr hW dX12_most_46
  · have hf := x_in s1_0 hf
    by_cases s1_1 : p1 = 1
    · have hf := x_ip s1_1 hf
      refine lv_tableIn (off := 46) (tgt := 47) C.x C.b dX12_most_1 (by rw [s1_1]; decide) (by rw [s1_1]; decide) (by rw [s1_1]; rfl) rfl ?_
      refine lv_bipush (v := 20) C.x C.b dX12_most_47 (by decide) ?_
      cases hf
      exact x_iret C hr hW dX12_most_49
    · have hf := x_in s1_1 hf
      by_cases s1_2 : p1 = 2
      · have hf := x_ip s1_2 hf
        refine lv_tableIn (off := 49) (tgt := 50) C.x C.b dX12_most_1 (by rw [s1_2]; decide) (by rw [s1_2]; decide) (by rw [s1_2]; rfl) rfl ?_
        refine lv_iconst (v := 5) C.x C.b dX12_most_50 (by decide) ?_
        cases hf
        exact x_iret C hr hW dX12_most_51
      · have hf := x_in s1_2 hf
        by_cases s1_3 : p1 = 3
        · have hf := x_ip s1_3 hf
          refine lv_tableIn (off := 51) (tgt := 52) C.x C.b dX12_most_1 (by rw [s1_3]; decide) (by rw [s1_3]; decide) (by rw [s1_3]; rfl) rfl ?_
          refine lv_bipush (v := 30) C.x C.b dX12_most_52 (by decide) ?_
          cases hf
          exact x_iret C hr hW dX12_most_54
        · have hf := x_in s1_3 hf
          by_cases s1_4 : p1 = 4
          · have hf := x_ip s1_4 hf
            refine lv_tableIn (off := 54) (tgt := 55) C.x C.b dX12_most_1 (by rw [s1_4]; decide) (by rw [s1_4]; decide) (by rw [s1_4]; rfl) rfl ?_
            refine lv_bipush (v := 100) C.x C.b dX12_most_55 (by decide) ?_
            cases hf
            exact x_iret C hr hW dX12_most_57
          · have hf := x_in s1_4 hf
            by_cases s1_5 : p1 = 5
            · have hf := x_ip s1_5 hf
              refine lv_tableIn (off := 57) (tgt := 58) C.x C.b dX12_most_1 (by rw [s1_5]; decide) (by rw [s1_5]; decide) (by rw [s1_5]; rfl) rfl ?_
              refine lv_bipush (v := 99) C.x C.b dX12_most_58 (by decide) ?_
              cases hf
              exact x_iret C hr hW dX12_most_60
            · have hf := x_in s1_5 hf
              by_cases s1_6 : p1 = 6
              · have hf := x_ip s1_6 hf
                refine lv_tableIn (off := 60) (tgt := 61) C.x C.b dX12_most_1 (by rw [s1_6]; decide) (by rw [s1_6]; decide) (by rw [s1_6]; rfl) rfl ?_
                refine lv_sipush (v := 999) C.x C.b dX12_most_61 (by decide) ?_
                cases hf
                exact x_iret C hr hW dX12_most_64
              · have hf := x_in s1_6 hf
                have s1_0_ := lv_neT (a := 0) s1_0 rfl
                have s1_1_ := lv_neT (a := 1) s1_1 rfl
                have s1_2_ := lv_neT (a := 2) s1_2 rfl
                have s1_3_ := lv_neT (a := 3) s1_3 rfl
                have s1_4_ := lv_neT (a := 4) s1_4 rfl
                have s1_5_ := lv_neT (a := 5) s1_5 rfl
                have s1_6_ := lv_neT (a := 6) s1_6 rfl
                refine lv_tableOut (tgt := 65) C.x C.b dX12_most_1 (by omega) rfl ?_
                refine lv_bipush (v := 10) C.x C.b dX12_most_65 (by decide) ?_
                cases hf
                exact x_iret C hr hW dX12_most_67

theorem dX12_least_0 : decode cX12_least 0 = .ok (.iload_n 0, 1) := by decide +kernel
theorem dX12_least_1 : decode cX12_least 1 = .ok (.iconst 4, 1) := by decide +kernel
theorem dX12_least_2 : decode cX12_least 2 = .ok (.if_icmp .ne 8, 3) := by decide +kernel
theorem dX12_least_5 : decode cX12_least 5 = .ok (.bipush 31, 2) := by decide +kernel
theorem dX12_least_7 : decode cX12_least 7 = .ok (.goto 19, 3) := by decide +kernel
theorem dX12_least_10 : decode cX12_least 10 = .ok (.iload_n 0, 1) := by decide +kernel
theorem dX12_least_11 : decode cX12_least 11 = .ok (.iconst 2, 1) := by decide +kernel
theorem dX12_least_12 : decode cX12_least 12 = .ok (.if_icmp .eq 9, 3) := by decide +kernel
theorem dX12_least_15 : decode cX12_least 15 = .ok (.iload_n 0, 1) := by decide +kernel
theorem dX12_least_16 : decode cX12_least 16 = .ok (.bipush 6, 2) := by decide +kernel
theorem dX12_least_18 : decode cX12_least 18 = .ok (.if_icmp .ne 7, 3) := by decide +kernel
theorem dX12_least_21 : decode cX12_least 21 = .ok (.iconst 1, 1) := by decide +kernel
theorem dX12_least_22 : decode cX12_least 22 = .ok (.goto 4, 3) := by decide +kernel
theorem dX12_least_25 : decode cX12_least 25 = .ok (.iconst 0, 1) := by decide +kernel
theorem dX12_least_26 : decode cX12_least 26 = .ok (.ireturn, 1) := by decide +kernel
def fX12_least (M : Mm) (p1 : Int32) : Option Int32 :=
  if p1 = 4 then
    some 31
  else
    if p1 = 2 then
      some 1
    else
      if p1 = 6 then
        some 1
      else
        some 0
set_option maxRecDepth 100000 in
set_option maxHeartbeats 4000000 in
theorem qX12_least (l : Launch) (E : Ev) {M : Mm} {p1 : Int32} {rz : Int32} (hf : fX12_least M p1 = some rz) : Ct l E yX12_least cX12_least 1 (some .int) 0 0 0 0 [.int p1] M (some (.int rz)) M := by
  refine ct_of (by decide +kernel) (Nat.le_of_ble_eq_true rfl) fun p e s m args below meth c C hr hin hW ls hl => ?_
  have hl : lv_has ls 1 [(0, .int p1)] := hl
  unfold fX12_least at hf
  refine lv_iload_n C.x C.b dX12_least_0 rfl (lv_at hl 0 rfl) ?_
  refine lv_iconst (v := 4) C.x C.b dX12_least_1 (by decide) ?_
  refine lv_icmp_ne (tgt := 10) C.x C.b dX12_least_2 rfl (fun c2 => ?_) (fun c2 => ?_)
  · have hf := x_in c2 hf
    refine lv_iload_n C.x C.b dX12_least_10 rfl (lv_at hl 0 rfl) ?_
    refine lv_iconst (v := 2) C.x C.b dX12_least_11 (by decide) ?_
    refine lv_icmp_eq (tgt := 21) C.x C.b dX12_least_12 rfl (fun c12 => ?_) (fun c12 => ?_)
    · have hf := x_ip c12 hf
      refine lv_iconst (v := 1) C.x C.b dX12_least_21 (by decide) ?_
      refine lv_goto (tgt := 26) C.x C.b dX12_least_22 rfl ?_
      cases hf
      exact x_iret C hr hW dX12_least_26
    · have hf := x_in c12 hf
      refine lv_iload_n C.x C.b dX12_least_15 rfl (lv_at hl 0 rfl) ?_
      refine lv_bipush (v := 6) C.x C.b dX12_least_16 (by decide) ?_
      refine lv_icmp_ne (tgt := 25) C.x C.b dX12_least_18 rfl (fun c18 => ?_) (fun c18 => ?_)
      · have hf := x_in c18 hf
        refine lv_iconst (v := 0) C.x C.b dX12_least_25 (by decide) ?_
        cases hf
        exact x_iret C hr hW dX12_least_26
      · have hf := x_ip c18 hf
        refine lv_iconst (v := 1) C.x C.b dX12_least_21 (by decide) ?_
        refine lv_goto (tgt := 26) C.x C.b dX12_least_22 rfl ?_
        cases hf
        exact x_iret C hr hW dX12_least_26
  · have hf := x_ip c2 hf
    refine lv_bipush (v := 31) C.x C.b dX12_least_5 (by decide) ?_
    refine lv_goto (tgt := 26) C.x C.b dX12_least_7 rfl ?_
    cases hf
    exact x_iret C hr hW dX12_least_26

theorem dX12_set_0 : decode cX12_set 0 = .ok (.iload_n 1, 1) := by decide +kernel
theorem dX12_set_1 : decode cX12_set 1 = .ok (.i2l, 1) := by decide +kernel
theorem dX12_set_2 : decode cX12_set 2 = .ok (.lconst 0, 1) := by decide +kernel
theorem dX12_set_3 : decode cX12_set 3 = .ok (.ldc2_w 75, 3) := by decide +kernel
theorem dX12_set_6 : decode cX12_set 6 = .ok (.invokestatic 61, 3) := by decide +kernel
theorem dX12_set_9 : decode cX12_set 9 = .ok (.ifCond .eq 21, 3) := by decide +kernel
theorem dX12_set_12 : decode cX12_set 12 = .ok (.iload_n 2, 1) := by decide +kernel
theorem dX12_set_13 : decode cX12_set 13 = .ok (.i2l, 1) := by decide +kernel
theorem dX12_set_14 : decode cX12_set 14 = .ok (.iload_n 1, 1) := by decide +kernel
theorem dX12_set_15 : decode cX12_set 15 = .ok (.invokestatic 77, 3) := by decide +kernel
theorem dX12_set_18 : decode cX12_set 18 = .ok (.i2l, 1) := by decide +kernel
theorem dX12_set_19 : decode cX12_set 19 = .ok (.iload_n 1, 1) := by decide +kernel
theorem dX12_set_20 : decode cX12_set 20 = .ok (.invokestatic 80, 3) := by decide +kernel
theorem dX12_set_23 : decode cX12_set 23 = .ok (.i2l, 1) := by decide +kernel
theorem dX12_set_24 : decode cX12_set 24 = .ok (.invokestatic 61, 3) := by decide +kernel
theorem dX12_set_27 : decode cX12_set 27 = .ok (.ifCond .ne 5, 3) := by decide +kernel
theorem dX12_set_30 : decode cX12_set 30 = .ok (.iconst (-1), 1) := by decide +kernel
theorem dX12_set_31 : decode cX12_set 31 = .ok (.ireturn, 1) := by decide +kernel
theorem dX12_set_32 : decode cX12_set 32 = .ok (.aload_n 0, 1) := by decide +kernel
theorem dX12_set_33 : decode cX12_set 33 = .ok (.getfield 9, 3) := by decide +kernel
theorem dX12_set_36 : decode cX12_set 36 = .ok (.iconst 4, 1) := by decide +kernel
theorem dX12_set_37 : decode cX12_set 37 = .ok (.iload_n 1, 1) := by decide +kernel
theorem dX12_set_38 : decode cX12_set 38 = .ok (.iadd, 1) := by decide +kernel
theorem dX12_set_39 : decode cX12_set 39 = .ok (.iaload, 1) := by decide +kernel
theorem dX12_set_40 : decode cX12_set 40 = .ok (.istore_n 3, 1) := by decide +kernel
theorem dX12_set_41 : decode cX12_set 41 = .ok (.aload_n 0, 1) := by decide +kernel
theorem dX12_set_42 : decode cX12_set 42 = .ok (.getfield 9, 3) := by decide +kernel
theorem dX12_set_45 : decode cX12_set 45 = .ok (.iconst 4, 1) := by decide +kernel
theorem dX12_set_46 : decode cX12_set 46 = .ok (.iload_n 1, 1) := by decide +kernel
theorem dX12_set_47 : decode cX12_set 47 = .ok (.iadd, 1) := by decide +kernel
theorem dX12_set_48 : decode cX12_set 48 = .ok (.iload_n 2, 1) := by decide +kernel
theorem dX12_set_49 : decode cX12_set 49 = .ok (.iastore, 1) := by decide +kernel
theorem dX12_set_50 : decode cX12_set 50 = .ok (.iload_n 3, 1) := by decide +kernel
theorem dX12_set_51 : decode cX12_set 51 = .ok (.ireturn, 1) := by decide +kernel
theorem hd_X12_least : yX12_least.cls ≠ "java/lang/invoke/MethodHandle" ∧ yX12_least.cls ≠ "java/lang/invoke/VarHandle" ∧ (parseMethodDescriptor yX12_least.desc).map (fun d => d.parameters.length) = some 1 := by decide +kernel
theorem gs_X12_77 : GoodIn gT (va_wsS "NylonLadderModel" 77 yX12_least (Cond.code yX12_least cX12_least 1 (some .int) :: gT)) := good_S T_6_133 T_6_134 T_1_10 T_6_135
theorem hd_X12_most : yX12_most.cls ≠ "java/lang/invoke/MethodHandle" ∧ yX12_most.cls ≠ "java/lang/invoke/VarHandle" ∧ (parseMethodDescriptor yX12_most.desc).map (fun d => d.parameters.length) = some 1 := by decide +kernel
theorem gs_X12_80 : GoodIn gT (va_wsS "NylonLadderModel" 80 yX12_most (Cond.code yX12_most cX12_most 1 (some .int) :: gT)) := good_S T_6_136 T_6_137 T_1_10 T_6_138
def fX12_set (M : Mm) (o : Nat) (p1 : Int32) (p2 : Int32) : Option (Int32 × Mm) :=
  B1 (fX12_in M (p1.toInt64) 0 7) fun x6_1 =>
  if x6_1 = 0 then
    some ((-1), M)
  else
    B1 (fX12_least M p1) fun x15_2 =>
    B1 (fX12_most M p1) fun x20_3 =>
    B1 (fX12_in M (p2.toInt64) (x15_2.toInt64) (x20_3.toInt64)) fun x24_4 =>
    if x24_4 = 0 then
      some ((-1), M)
    else
      B1 (rdN M o 15 0) fun a33_5 =>
      B1 (alI M a33_5 (4 + p1)) fun x39_6 =>
      B1 (rdN M o 15 0) fun a42_7 =>
      B1 (asI M a42_7 (4 + p1) p2) fun M49_8 =>
      some (x39_6, M49_8)
set_option maxRecDepth 100000 in
set_option maxHeartbeats 4000000 in
theorem qX12_set (l : Launch) (E : Ev) {M : Mm} {o : Nat} {p1 : Int32} {p2 : Int32} {rz : Int32} {Mz : Mm} (hf : fX12_set M o p1 p2 = some (rz, Mz)) : Ct l E yX12_set cX12_set 4 (some .int) 1 25 0 0 [.ref (E.b + o), .int p1, .int p2] M (some (.int rz)) Mz := by
  refine ct_of (by decide +kernel) (Nat.le_of_ble_eq_true rfl) fun p e s m args below meth c C hr hin hW ls hl => ?_
  have hl : lv_has ls 4 [(0, .ref (E.b + o)), (1, .int p1), (2, .int p2)] := hl
  unfold fX12_set at hf
  refine lv_iload_n C.x C.b dX12_set_0 rfl (lv_at hl 1 rfl) ?_
  refine lv_i2l (v := p1.toInt64) C.x C.b dX12_set_1 rfl ?_
  refine lv_lconst (v := 0) C.x C.b dX12_set_2 (by decide) ?_
  refine x_ldc2 (v := 7) C T_6_129 dX12_set_3 ?_
  obtain ⟨x6_1, hx6_1, hf⟩ := x_b1 hf
  refine x_callS (As := [.long (p1.toInt64), .long 0, .long 7]) (rest := []) C hW hl (qX12_in l E hx6_1) gs_X12_61 hd_X12_in rfl rfl (Nat.le_of_ble_eq_true rfl) dX12_set_6 ⟨Nat.le_of_ble_eq_true rfl, Nat.le_of_ble_eq_true rfl⟩ ⟨Nat.le_of_ble_eq_true rfl, Nat.le_of_ble_eq_true rfl⟩ (fun H locs hW => ?_)
  refine lv_if_eq (tgt := 30) C.x C.b dX12_set_9 rfl (fun c9 => ?_) (fun c9 => ?_)
  · have hf := x_ip c9 hf
    refine lv_iconst (v := (-1)) C.x C.b dX12_set_30 (by decide) ?_
    cases hf
    exact x_iret C hr hW dX12_set_31
  · have hf := x_in c9 hf
    refine lv_iload_n C.x C.b dX12_set_12 rfl (lv_at hl 2 rfl) ?_
    refine lv_i2l (v := p2.toInt64) C.x C.b dX12_set_13 rfl ?_
    refine lv_iload_n C.x C.b dX12_set_14 rfl (lv_at hl 1 rfl) ?_
    obtain ⟨x15_2, hx15_2, hf⟩ := x_b1 hf
    refine x_callS (As := [.int p1]) (rest := [.long (p2.toInt64)]) C hW hl (qX12_least l E hx15_2) gs_X12_77 hd_X12_least rfl rfl (Nat.le_of_ble_eq_true rfl) dX12_set_15 ⟨Nat.le_of_ble_eq_true rfl, Nat.le_of_ble_eq_true rfl⟩ ⟨Nat.le_of_ble_eq_true rfl, Nat.le_of_ble_eq_true rfl⟩ (fun H locs hW => ?_)
    refine lv_i2l (v := x15_2.toInt64) C.x C.b dX12_set_18 rfl ?_
    refine lv_iload_n C.x C.b dX12_set_19 rfl (lv_at hl 1 rfl) ?_
    obtain ⟨x20_3, hx20_3, hf⟩ := x_b1 hf
    refine x_callS (As := [.int p1]) (rest := [.long (x15_2.toInt64), .long (p2.toInt64)]) C hW hl (qX12_most l E hx20_3) gs_X12_80 hd_X12_most rfl rfl (Nat.le_of_ble_eq_true rfl) dX12_set_20 ⟨Nat.le_of_ble_eq_true rfl, Nat.le_of_ble_eq_true rfl⟩ ⟨Nat.le_of_ble_eq_true rfl, Nat.le_of_ble_eq_true rfl⟩ (fun H locs hW => ?_)
    refine lv_i2l (v := x20_3.toInt64) C.x C.b dX12_set_23 rfl ?_
    obtain ⟨x24_4, hx24_4, hf⟩ := x_b1 hf
    refine x_callS (As := [.long (p2.toInt64), .long (x15_2.toInt64), .long (x20_3.toInt64)]) (rest := []) C hW hl (qX12_in l E hx24_4) gs_X12_61 hd_X12_in rfl rfl (Nat.le_of_ble_eq_true rfl) dX12_set_24 ⟨Nat.le_of_ble_eq_true rfl, Nat.le_of_ble_eq_true rfl⟩ ⟨Nat.le_of_ble_eq_true rfl, Nat.le_of_ble_eq_true rfl⟩ (fun H locs hW => ?_)
    refine lv_if_ne (tgt := 32) C.x C.b dX12_set_27 rfl (fun c27 => ?_) (fun c27 => ?_)
    · have hf := x_in c27 hf
      refine lv_aload_n C.x C.b dX12_set_32 rfl (lv_at hl 0 rfl) ?_
      obtain ⟨a33_5, ha33_5, hf⟩ := x_b1 hf
      refine x_getn C hW fg_X12_9_15 ha33_5 dX12_set_33 ?_
      refine lv_iconst (v := 4) C.x C.b dX12_set_36 (by decide) ?_
      refine lv_iload_n C.x C.b dX12_set_37 rfl (lv_at hl 1 rfl) ?_
      refine lv_iadd C.x C.b dX12_set_38 ?_
      obtain ⟨x39_6, hx39_6, hf⟩ := x_b1 hf
      refine x_iald C hW hx39_6 dX12_set_39 ?_
      refine lv_istore_n (lv' := [(3, .int _), (0, .ref (E.b + _)), (1, .int _), (2, .int _)]) C.x C.b dX12_set_40 rfl hl (by decide) rfl (fun ls hl => ?_)
      refine lv_aload_n C.x C.b dX12_set_41 rfl (lv_at hl 1 rfl) ?_
      obtain ⟨a42_7, ha42_7, hf⟩ := x_b1 hf
      refine x_getn C hW fg_X12_9_15 ha42_7 dX12_set_42 ?_
      refine lv_iconst (v := 4) C.x C.b dX12_set_45 (by decide) ?_
      refine lv_iload_n C.x C.b dX12_set_46 rfl (lv_at hl 2 rfl) ?_
      refine lv_iadd C.x C.b dX12_set_47 ?_
      refine lv_iload_n C.x C.b dX12_set_48 rfl (lv_at hl 3 rfl) ?_
      obtain ⟨M49_8, hM49_8, hf⟩ := x_b1 hf
      refine x_iast C hW hM49_8 dX12_set_49 (fun H locs hW => ?_)
      refine lv_iload_n C.x C.b dX12_set_50 rfl (lv_at hl 0 rfl) ?_
      cases hf
      exact x_iret C hr hW dX12_set_51
    · have hf := x_ip c27 hf
      refine lv_iconst (v := (-1)) C.x C.b dX12_set_30 (by decide) ?_
      cases hf
      exact x_iret C hr hW dX12_set_31
