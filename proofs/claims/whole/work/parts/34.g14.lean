theorem dJ15_checkIndex_7cf53_0 : decode cJ15_checkIndex_7cf53 0 = .ok (.iload_n 0, 1) := by decide +kernel
theorem dJ15_checkIndex_7cf53_1 : decode cJ15_checkIndex_7cf53 1 = .ok (.iload_n 1, 1) := by decide +kernel
theorem dJ15_checkIndex_7cf53_2 : decode cJ15_checkIndex_7cf53 2 = .ok (.aconst_null, 1) := by decide +kernel
theorem dJ15_checkIndex_7cf53_3 : decode cJ15_checkIndex_7cf53 3 = .ok (.invokestatic 105, 3) := by decide +kernel
theorem dJ15_checkIndex_7cf53_6 : decode cJ15_checkIndex_7cf53 6 = .ok (.ireturn, 1) := by decide +kernel
theorem gs_J15_105 : GoodIn gT (va_wsS "java/util/Objects" 105 yJ3_checkIndex_8e157 (Cond.code yJ3_checkIndex_8e157 cJ3_checkIndex_8e157 3 (some .int) :: gT)) := good_S T_6_6 T_2_102 T_1_13 T_2_103
def fJ15_checkIndex_7cf53 (M : Mm) (p1 : Int32) (p2 : Int32) : Option Int32 :=
  B1 (fJ3_checkIndex_8e157 M p1 p2) fun x3_1 =>
  some x3_1
set_option maxRecDepth 100000 in
set_option maxHeartbeats 4000000 in
theorem qJ15_checkIndex_7cf53 (l : Launch) (E : Ev) {M : Mm} {p1 : Int32} {p2 : Int32} {rz : Int32} (hf : fJ15_checkIndex_7cf53 M p1 p2 = some rz) : Ct l E yJ15_checkIndex_7cf53 cJ15_checkIndex_7cf53 2 (some .int) 1 22 0 0 [.int p1, .int p2] M (some (.int rz)) M := by
  refine ct_of (by decide +kernel) (Nat.le_of_ble_eq_true rfl) fun p e s m args below meth c C hr hin hW ls hl => ?_
  have hl : lv_has ls 2 [(0, .int p1), (1, .int p2)] := hl
  unfold fJ15_checkIndex_7cf53 at hf
  refine lv_iload_n C.x C.b dJ15_checkIndex_7cf53_0 rfl (lv_at hl 0 rfl) ?_
  refine lv_iload_n C.x C.b dJ15_checkIndex_7cf53_1 rfl (lv_at hl 1 rfl) ?_
  refine lv_null C.x C.b dJ15_checkIndex_7cf53_2 ?_
  obtain ⟨x3_1, hx3_1, hf⟩ := x_b1 hf
  refine x_callS (As := [.int p1, .int p2, va_rf none]) (rest := []) C hW hl (qJ3_checkIndex_8e157 l E hx3_1) gs_J15_105 hd_J3_checkIndex_8e157 rfl rfl (Nat.le_of_ble_eq_true rfl) dJ15_checkIndex_7cf53_3 ⟨Nat.le_of_ble_eq_true rfl, Nat.le_of_ble_eq_true rfl⟩ ⟨Nat.le_of_ble_eq_true rfl, Nat.le_of_ble_eq_true rfl⟩ (fun H locs hW => ?_)
  rw [x_e0 hf]
  exact x_iret C hr hW dJ15_checkIndex_7cf53_6

theorem dJx4a65c_elementData_915e3_0 : decode cJx4a65c_elementData_915e3 0 = .ok (.aload_n 0, 1) := by decide +kernel
theorem dJx4a65c_elementData_915e3_1 : decode cJx4a65c_elementData_915e3 1 = .ok (.getfield 9, 3) := by decide +kernel
theorem dJx4a65c_elementData_915e3_4 : decode cJx4a65c_elementData_915e3 4 = .ok (.iload_n 1, 1) := by decide +kernel
theorem dJx4a65c_elementData_915e3_5 : decode cJx4a65c_elementData_915e3 5 = .ok (.aaload, 1) := by decide +kernel
theorem dJx4a65c_elementData_915e3_6 : decode cJx4a65c_elementData_915e3 6 = .ok (.areturn, 1) := by decide +kernel
def fJx4a65c_elementData_915e3 (M : Mm) (o : Nat) (p1 : Int32) : Option Int32 :=
  B1 (rdN M o 2 1) fun d1_1 =>
  B1 (dlb M d1_1 p1) fun b5_2 =>
  some b5_2
set_option maxRecDepth 100000 in
set_option maxHeartbeats 4000000 in
theorem qJx4a65c_elementData_915e3 (l : Launch) (E : Ev) {M : Mm} {o : Nat} {p1 : Int32} {rz : Int32} (hf : fJx4a65c_elementData_915e3 M o p1 = some rz) : Ct l E yJx4a65c_elementData_915e3 cJx4a65c_elementData_915e3 2 (some (.object "java/lang/Object")) 0 0 0 0 [.ref (E.b + o), .int p1] M (some (.ref (bxA E rz))) M := by
  refine ct_of (by decide +kernel) (Nat.le_of_ble_eq_true rfl) fun p e s m args below meth c C hr hin hW ls hl => ?_
  have hl : lv_has ls 2 [(0, .ref (E.b + o)), (1, .int p1)] := hl
  unfold fJx4a65c_elementData_915e3 at hf
  refine lv_aload_n C.x C.b dJx4a65c_elementData_915e3_0 rfl (lv_at hl 0 rfl) ?_
  obtain ⟨d1_1, hd1_1, hf⟩ := x_b1 hf
  refine x_lgetd C hW hd1_1 T_1_218 dJx4a65c_elementData_915e3_1 ?_
  refine lv_iload_n C.x C.b dJx4a65c_elementData_915e3_4 rfl (lv_at hl 1 rfl) ?_
  obtain ⟨b5_2, hb5_2, hf⟩ := x_b1 hf
  refine x_dlb C hW hb5_2 dJx4a65c_elementData_915e3_5 ?_
  rw [x_e0 hf]
  exact x_sret C hr (Or.inl ⟨_, rfl⟩) hW dJx4a65c_elementData_915e3_6

theorem dJx4a65c_get_915e3_0 : decode cJx4a65c_get_915e3 0 = .ok (.iload_n 1, 1) := by decide +kernel
theorem dJx4a65c_get_915e3_1 : decode cJx4a65c_get_915e3 1 = .ok (.aload_n 0, 1) := by decide +kernel
theorem dJx4a65c_get_915e3_2 : decode cJx4a65c_get_915e3 2 = .ok (.getfield 48, 3) := by decide +kernel
theorem dJx4a65c_get_915e3_5 : decode cJx4a65c_get_915e3 5 = .ok (.invokestatic 118, 3) := by decide +kernel
theorem dJx4a65c_get_915e3_8 : decode cJx4a65c_get_915e3 8 = .ok (.pop, 1) := by decide +kernel
theorem dJx4a65c_get_915e3_9 : decode cJx4a65c_get_915e3 9 = .ok (.aload_n 0, 1) := by decide +kernel
theorem dJx4a65c_get_915e3_10 : decode cJx4a65c_get_915e3 10 = .ok (.iload_n 1, 1) := by decide +kernel
theorem dJx4a65c_get_915e3_11 : decode cJx4a65c_get_915e3 11 = .ok (.invokevirtual 123, 3) := by decide +kernel
theorem dJx4a65c_get_915e3_14 : decode cJx4a65c_get_915e3 14 = .ok (.areturn, 1) := by decide +kernel
theorem hd_J15_checkIndex_7cf53 : yJ15_checkIndex_7cf53.cls ≠ "java/lang/invoke/MethodHandle" ∧ yJ15_checkIndex_7cf53.cls ≠ "java/lang/invoke/VarHandle" ∧ (parseMethodDescriptor yJ15_checkIndex_7cf53.desc).map (fun d => d.parameters.length) = some 2 := by decide +kernel
theorem gs_Jx4a65c_118 : GoodIn gT (va_wsS "java/util/ArrayList" 118 yJ15_checkIndex_7cf53 (Cond.code yJ15_checkIndex_7cf53 cJ15_checkIndex_7cf53 2 (some .int) :: gT)) := good_S T_6_3 T_6_4 T_1_28 T_6_5
theorem hd_Jx4a65c_elementData_915e3 : yJx4a65c_elementData_915e3.cls ≠ "java/lang/invoke/MethodHandle" ∧ yJx4a65c_elementData_915e3.cls ≠ "java/lang/invoke/VarHandle" ∧ (parseMethodDescriptor yJx4a65c_elementData_915e3.desc).map (fun d => d.parameters.length) = some 1 := by decide +kernel
theorem gv_Jx4a65c_123 : GoodIn gT (wsV "java/util/ArrayList" 123 "java/util/ArrayList" yJx4a65c_elementData_915e3 (Cond.code yJx4a65c_elementData_915e3 cJx4a65c_elementData_915e3 2 (some (.object "java/lang/Object")) :: gT)) := good_V T_6_7 T_6_8 T_6_9 T_1_9 T_6_10
def fJx4a65c_get_915e3 (M : Mm) (o : Nat) (p1 : Int32) : Option Int32 :=
  B1 (rdI M o 2 2) fun x2_1 =>
  B1 (fJ15_checkIndex_7cf53 M p1 x2_1) fun x5_2 =>
  B1 (gk M o 2) fun _ =>
  B1 (fJx4a65c_elementData_915e3 M o p1) fun x11_4 =>
  some x11_4
set_option maxRecDepth 100000 in
set_option maxHeartbeats 4000000 in
theorem qJx4a65c_get_915e3 (l : Launch) (E : Ev) {M : Mm} {o : Nat} {p1 : Int32} {rz : Int32} (hf : fJx4a65c_get_915e3 M o p1 = some rz) : Ct l E yJx4a65c_get_915e3 cJx4a65c_get_915e3 2 (some (.object "java/lang/Object")) 2 43 0 0 [.ref (E.b + o), .int p1] M (some (.ref (bxA E rz))) M := by
  refine ct_of (by decide +kernel) (Nat.le_of_ble_eq_true rfl) fun p e s m args below meth c C hr hin hW ls hl => ?_
  have hl : lv_has ls 2 [(0, .ref (E.b + o)), (1, .int p1)] := hl
  unfold fJx4a65c_get_915e3 at hf
  refine lv_iload_n C.x C.b dJx4a65c_get_915e3_0 rfl (lv_at hl 1 rfl) ?_
  refine lv_aload_n C.x C.b dJx4a65c_get_915e3_1 rfl (lv_at hl 0 rfl) ?_
  obtain ⟨x2_1, hx2_1, hf⟩ := x_b1 hf
  refine x_lgeti C hW hx2_1 (by decide) T_1_219 (Or.inl rfl) dJx4a65c_get_915e3_2 ?_
  obtain ⟨x5_2, hx5_2, hf⟩ := x_b1 hf
  refine x_callS (As := [.int p1, .int x2_1]) (rest := []) C hW hl (qJ15_checkIndex_7cf53 l E hx5_2) gs_Jx4a65c_118 hd_J15_checkIndex_7cf53 rfl rfl (Nat.le_of_ble_eq_true rfl) dJx4a65c_get_915e3_5 ⟨Nat.le_of_ble_eq_true rfl, Nat.le_of_ble_eq_true rfl⟩ ⟨Nat.le_of_ble_eq_true rfl, Nat.le_of_ble_eq_true rfl⟩ (fun H locs hW => ?_)
  refine lv_pop C.x C.b dJx4a65c_get_915e3_8 rfl ?_
  refine lv_aload_n C.x C.b dJx4a65c_get_915e3_9 rfl (lv_at hl 0 rfl) ?_
  refine lv_iload_n C.x C.b dJx4a65c_get_915e3_10 rfl (lv_at hl 1 rfl) ?_
  obtain ⟨_, hk11_3, hf⟩ := x_b1 hf
  obtain ⟨x11_4, hx11_4, hf⟩ := x_b1 hf
  refine x_callV (As := [.int p1]) (a := o) (rest := []) C hW hl (qJx4a65c_elementData_915e3 l E hx11_4) (x_gk hk11_3) (by decide) (by decide) rfl gv_Jx4a65c_123 ⟨rfl, hd_Jx4a65c_elementData_915e3⟩ rfl rfl (Nat.le_of_ble_eq_true rfl) dJx4a65c_get_915e3_11 ⟨Nat.le_of_ble_eq_true rfl, Nat.le_of_ble_eq_true rfl⟩ ⟨Nat.le_of_ble_eq_true rfl, Nat.le_of_ble_eq_true rfl⟩ (fun H locs hW => ?_)
  rw [x_e0 hf]
  exact x_sret C hr (Or.inl ⟨_, rfl⟩) hW dJx4a65c_get_915e3_14

theorem dJ6_intValue_8abf5_0 : decode cJ6_intValue_8abf5 0 = .ok (.aload_n 0, 1) := by decide +kernel
theorem dJ6_intValue_8abf5_1 : decode cJ6_intValue_8abf5 1 = .ok (.getfield 205, 3) := by decide +kernel
theorem dJ6_intValue_8abf5_4 : decode cJ6_intValue_8abf5 4 = .ok (.ireturn, 1) := by decide +kernel
def fJ6_intValue_8abf5 (M : Mm) (b0 : Int32) : Option Int32 :=
  B1 (ibx b0) fun v1_1 =>
  some b0
set_option maxRecDepth 100000 in
set_option maxHeartbeats 4000000 in
theorem qJ6_intValue_8abf5 (l : Launch) (E : Ev) {M : Mm} {b0 : Int32} {rz : Int32} (hf : fJ6_intValue_8abf5 M b0 = some rz) : Ct l E yJ6_intValue_8abf5 cJ6_intValue_8abf5 1 (some .int) 0 0 0 0 [.ref (bxA E b0)] M (some (.int rz)) M := by
  refine ct_of (by decide +kernel) (Nat.le_of_ble_eq_true rfl) fun p e s m args below meth c C hr hin hW ls hl => ?_
  have hl : lv_has ls 1 [(0, .ref (bxA E b0))] := hl
  unfold fJ6_intValue_8abf5 at hf
  refine lv_aload_n C.x C.b dJ6_intValue_8abf5_0 rfl (lv_at hl 0 rfl) ?_
  obtain ⟨v1_1, hv1_1, hf⟩ := x_b1 hf
  refine x_bxv C hW (x_ibx hv1_1).1 T_5_81 dJ6_intValue_8abf5_1 ?_
  rw [x_e0 hf]
  exact x_iret C hr hW dJ6_intValue_8abf5_4

theorem dX11_trace_0 : decode cX11_trace 0 = .ok (.iload_n 1, 1) := by decide +kernel
theorem dX11_trace_1 : decode cX11_trace 1 = .ok (.iconst 0, 1) := by decide +kernel
theorem dX11_trace_2 : decode cX11_trace 2 = .ok (.aload_n 0, 1) := by decide +kernel
theorem dX11_trace_3 : decode cX11_trace 3 = .ok (.invokevirtual 352, 3) := by decide +kernel
theorem dX11_trace_6 : decode cX11_trace 6 = .ok (.iconst 1, 1) := by decide +kernel
theorem dX11_trace_7 : decode cX11_trace 7 = .ok (.isub, 1) := by decide +kernel
theorem dX11_trace_8 : decode cX11_trace 8 = .ok (.invokestatic 69, 3) := by decide +kernel
theorem dX11_trace_11 : decode cX11_trace 11 = .ok (.ifCond .eq 20, 3) := by decide +kernel
theorem dX11_trace_14 : decode cX11_trace 14 = .ok (.aload_n 0, 1) := by decide +kernel
theorem dX11_trace_15 : decode cX11_trace 15 = .ok (.getfield 65, 3) := by decide +kernel
theorem dX11_trace_18 : decode cX11_trace 18 = .ok (.iload_n 1, 1) := by decide +kernel
theorem dX11_trace_19 : decode cX11_trace 19 = .ok (.invokevirtual 355, 3) := by decide +kernel
theorem dX11_trace_22 : decode cX11_trace 22 = .ok (.checkcast 359, 3) := by decide +kernel
theorem dX11_trace_25 : decode cX11_trace 25 = .ok (.invokevirtual 361, 3) := by decide +kernel
theorem dX11_trace_28 : decode cX11_trace 28 = .ok (.goto 5, 3) := by decide +kernel
theorem dX11_trace_31 : decode cX11_trace 31 = .ok (.bipush (-3), 2) := by decide +kernel
theorem dX11_trace_33 : decode cX11_trace 33 = .ok (.ireturn, 1) := by decide +kernel
theorem hd_X11_bodiesKept : yX11_bodiesKept.cls ≠ "java/lang/invoke/MethodHandle" ∧ yX11_bodiesKept.cls ≠ "java/lang/invoke/VarHandle" ∧ (parseMethodDescriptor yX11_bodiesKept.desc).map (fun d => d.parameters.length) = some 0 := by decide +kernel
theorem gv_X11_352 : GoodIn gT (wsV "NylonLadder" 352 "NylonLadder" yX11_bodiesKept (Cond.code yX11_bodiesKept cX11_bodiesKept 1 (some .int) :: gT)) := good_V T_5_231 T_5_233 TS_31 T_1_1 T_5_234
theorem hd_Jx4a65c_get_915e3 : yJx4a65c_get_915e3.cls ≠ "java/lang/invoke/MethodHandle" ∧ yJx4a65c_get_915e3.cls ≠ "java/lang/invoke/VarHandle" ∧ (parseMethodDescriptor yJx4a65c_get_915e3.desc).map (fun d => d.parameters.length) = some 1 := by decide +kernel
theorem gv_X11_355 : GoodIn gT (wsV "NylonLadder" 355 "java/util/ArrayList" yJx4a65c_get_915e3 (Cond.code yJx4a65c_get_915e3 cJx4a65c_get_915e3 2 (some (.object "java/lang/Object")) :: gT)) := good_V T_5_239 T_6_0 T_6_1 T_1_9 T_6_2
theorem hd_J6_intValue_8abf5 : yJ6_intValue_8abf5.cls ≠ "java/lang/invoke/MethodHandle" ∧ yJ6_intValue_8abf5.cls ≠ "java/lang/invoke/VarHandle" ∧ (parseMethodDescriptor yJ6_intValue_8abf5.desc).map (fun d => d.parameters.length) = some 0 := by decide +kernel
theorem gv_X11_361 : GoodIn gT (wsV "NylonLadder" 361 "java/lang/Integer" yJ6_intValue_8abf5 (Cond.code yJ6_intValue_8abf5 cJ6_intValue_8abf5 1 (some .int) :: gT)) := good_V T_6_12 T_6_13 T_6_14 T_1_24 T_6_15
def fX11_trace (M : Mm) (o : Nat) (p1 : Int32) : Option Int32 :=
  B1 (gk M o 14) fun _ =>
  B1 (fX11_bodiesKept M o) fun x3_2 =>
  B1 (fX11_isWithin M p1 0 (x3_2 - 1)) fun x8_3 =>
  if x8_3 = 0 then
    some (-3)
  else
    B1 (rdN M o 14 11) fun a15_4 =>
    B1 (gk M a15_4 2) fun _ =>
    B1 (fJx4a65c_get_915e3 M a15_4 p1) fun x19_6 =>
    B1 (ibx x19_6) fun v22_7 =>
    B1 (ibx x19_6) fun _ =>
    B1 (fJ6_intValue_8abf5 M x19_6) fun x25_9 =>
    some x25_9
set_option maxRecDepth 100000 in
set_option maxHeartbeats 4000000 in
theorem qX11_trace (l : Launch) (E : Ev) {M : Mm} {o : Nat} {p1 : Int32} {rz : Int32} (hf : fX11_trace M o p1 = some rz) : Ct l E yX11_trace cX11_trace 2 (some .int) 3 64 0 0 [.ref (E.b + o), .int p1] M (some (.int rz)) M := by
  refine ct_of (by decide +kernel) (Nat.le_of_ble_eq_true rfl) fun p e s m args below meth c C hr hin hW ls hl => ?_
  have hl : lv_has ls 2 [(0, .ref (E.b + o)), (1, .int p1)] := hl
  unfold fX11_trace at hf
  refine lv_iload_n C.x C.b dX11_trace_0 rfl (lv_at hl 1 rfl) ?_
  refine lv_iconst (v := 0) C.x C.b dX11_trace_1 (by decide) ?_
  refine lv_aload_n C.x C.b dX11_trace_2 rfl (lv_at hl 0 rfl) ?_
  obtain ⟨_, hk3_1, hf⟩ := x_b1 hf
  obtain ⟨x3_2, hx3_2, hf⟩ := x_b1 hf
  refine x_callV (As := []) (a := o) (rest := [.int 0, .int p1]) C hW hl (qX11_bodiesKept l E hx3_2) (x_gk hk3_1) (by decide) (by decide) rfl gv_X11_352 ⟨rfl, hd_X11_bodiesKept⟩ rfl rfl (Nat.le_of_ble_eq_true rfl) dX11_trace_3 ⟨Nat.le_of_ble_eq_true rfl, Nat.le_of_ble_eq_true rfl⟩ ⟨Nat.le_of_ble_eq_true rfl, Nat.le_of_ble_eq_true rfl⟩ (fun H locs hW => ?_)
  refine lv_iconst (v := 1) C.x C.b dX11_trace_6 (by decide) ?_
  refine lv_isub C.x C.b dX11_trace_7 ?_
  obtain ⟨x8_3, hx8_3, hf⟩ := x_b1 hf
  refine x_callS (As := [.int p1, .int 0, .int (x3_2 - 1)]) (rest := []) C hW hl (qX11_isWithin l E hx8_3) gs_X11_69 hd_X11_isWithin rfl rfl (Nat.le_of_ble_eq_true rfl) dX11_trace_8 ⟨Nat.le_of_ble_eq_true rfl, Nat.le_of_ble_eq_true rfl⟩ ⟨Nat.le_of_ble_eq_true rfl, Nat.le_of_ble_eq_true rfl⟩ (fun H locs hW => ?_)
  refine lv_if_eq (tgt := 31) C.x C.b dX11_trace_11 rfl (fun c11 => ?_) (fun c11 => ?_)
  · have hf := x_ip c11 hf
    refine lv_bipush (v := (-3)) C.x C.b dX11_trace_31 (by decide) ?_
    rw [x_e0 hf]
    exact x_iret C hr hW dX11_trace_33
  · have hf := x_in c11 hf
    refine lv_aload_n C.x C.b dX11_trace_14 rfl (lv_at hl 0 rfl) ?_
    obtain ⟨a15_4, ha15_4, hf⟩ := x_b1 hf
    refine x_getn C hW fg_X11_65_14 ha15_4 dX11_trace_15 ?_
    refine lv_iload_n C.x C.b dX11_trace_18 rfl (lv_at hl 1 rfl) ?_
    obtain ⟨_, hk19_5, hf⟩ := x_b1 hf
    obtain ⟨x19_6, hx19_6, hf⟩ := x_b1 hf
    refine x_callV (As := [.int p1]) (a := a15_4) (rest := []) C hW hl (qJx4a65c_get_915e3 l E hx19_6) (x_gk hk19_5) (by decide) (by decide) rfl gv_X11_355 ⟨rfl, hd_Jx4a65c_get_915e3⟩ rfl rfl (Nat.le_of_ble_eq_true rfl) dX11_trace_19 ⟨Nat.le_of_ble_eq_true rfl, Nat.le_of_ble_eq_true rfl⟩ ⟨Nat.le_of_ble_eq_true rfl, Nat.le_of_ble_eq_true rfl⟩ (fun H locs hW => ?_)
    obtain ⟨v22_7, hv22_7, hf⟩ := x_b1 hf
    refine x_castB C hW (x_ibx hv22_7).1 T_6_11 dX11_trace_22 ?_
    obtain ⟨_, hk25_8, hf⟩ := x_b1 hf
    obtain ⟨x25_9, hx25_9, hf⟩ := x_b1 hf
    refine x_callA (As := []) (rest := []) (Cn := "java/lang/Integer") C hW hl (qJ6_intValue_8abf5 l E hx25_9) (bx_at C hW (x_ibx hk25_8).1) gv_X11_361 ⟨rfl, hd_J6_intValue_8abf5⟩ rfl rfl (Nat.le_of_ble_eq_true rfl) dX11_trace_25 ⟨Nat.le_of_ble_eq_true rfl, Nat.le_of_ble_eq_true rfl⟩ ⟨Nat.le_of_ble_eq_true rfl, Nat.le_of_ble_eq_true rfl⟩ (fun H locs hW => ?_)
    refine lv_goto (tgt := 33) C.x C.b dX11_trace_28 rfl ?_
    rw [x_e0 hf]
    exact x_iret C hr hW dX11_trace_33

theorem dX11_many_0 : decode cX11_many 0 = .ok (.iload_n 1, 1) := by decide +kernel
theorem dX11_many_1 : decode cX11_many 1 = .ok (.tableswitch 111 0 6 #[43, 51, 77, 85, 93, 98, 106], 43) := by decide +kernel
theorem dX11_many_44 : decode cX11_many 44 = .ok (.aload_n 0, 1) := by decide +kernel
theorem dX11_many_45 : decode cX11_many 45 = .ok (.getfield 10, 3) := by decide +kernel
theorem dX11_many_48 : decode cX11_many 48 = .ok (.getfield 94, 3) := by decide +kernel
theorem dX11_many_51 : decode cX11_many 51 = .ok (.ireturn, 1) := by decide +kernel
theorem dX11_many_52 : decode cX11_many 52 = .ok (.aload_n 0, 1) := by decide +kernel
theorem dX11_many_53 : decode cX11_many 53 = .ok (.getfield 10, 3) := by decide +kernel
theorem dX11_many_56 : decode cX11_many 56 = .ok (.getfield 253, 3) := by decide +kernel
theorem dX11_many_59 : decode cX11_many 59 = .ok (.iconst 0, 1) := by decide +kernel
theorem dX11_many_60 : decode cX11_many 60 = .ok (.aaload, 1) := by decide +kernel
theorem dX11_many_61 : decode cX11_many 61 = .ok (.getfield 204, 3) := by decide +kernel
theorem dX11_many_64 : decode cX11_many 64 = .ok (.aload_n 0, 1) := by decide +kernel
theorem dX11_many_65 : decode cX11_many 65 = .ok (.getfield 10, 3) := by decide +kernel
theorem dX11_many_68 : decode cX11_many 68 = .ok (.getfield 253, 3) := by decide +kernel
theorem dX11_many_71 : decode cX11_many 71 = .ok (.iconst 1, 1) := by decide +kernel
theorem dX11_many_72 : decode cX11_many 72 = .ok (.aaload, 1) := by decide +kernel
theorem dX11_many_73 : decode cX11_many 73 = .ok (.getfield 204, 3) := by decide +kernel
theorem dX11_many_76 : decode cX11_many 76 = .ok (.iadd, 1) := by decide +kernel
theorem dX11_many_77 : decode cX11_many 77 = .ok (.ireturn, 1) := by decide +kernel
theorem dX11_many_78 : decode cX11_many 78 = .ok (.aload_n 0, 1) := by decide +kernel
theorem dX11_many_79 : decode cX11_many 79 = .ok (.getfield 10, 3) := by decide +kernel
theorem dX11_many_82 : decode cX11_many 82 = .ok (.invokevirtual 364, 3) := by decide +kernel
theorem dX11_many_85 : decode cX11_many 85 = .ok (.ireturn, 1) := by decide +kernel
theorem dX11_many_86 : decode cX11_many 86 = .ok (.aload_n 0, 1) := by decide +kernel
theorem dX11_many_87 : decode cX11_many 87 = .ok (.getfield 10, 3) := by decide +kernel
theorem dX11_many_90 : decode cX11_many 90 = .ok (.invokevirtual 367, 3) := by decide +kernel
theorem dX11_many_93 : decode cX11_many 93 = .ok (.ireturn, 1) := by decide +kernel
theorem dX11_many_94 : decode cX11_many 94 = .ok (.aload_n 0, 1) := by decide +kernel
theorem dX11_many_95 : decode cX11_many 95 = .ok (.getfield 45, 3) := by decide +kernel
theorem dX11_many_98 : decode cX11_many 98 = .ok (.ireturn, 1) := by decide +kernel
theorem dX11_many_99 : decode cX11_many 99 = .ok (.aload_n 0, 1) := by decide +kernel
theorem dX11_many_100 : decode cX11_many 100 = .ok (.getfield 36, 3) := by decide +kernel
theorem dX11_many_103 : decode cX11_many 103 = .ok (.getfield 73, 3) := by decide +kernel
theorem dX11_many_106 : decode cX11_many 106 = .ok (.ireturn, 1) := by decide +kernel
theorem dX11_many_107 : decode cX11_many 107 = .ok (.aload_n 0, 1) := by decide +kernel
theorem dX11_many_108 : decode cX11_many 108 = .ok (.invokevirtual 352, 3) := by decide +kernel
theorem dX11_many_111 : decode cX11_many 111 = .ok (.ireturn, 1) := by decide +kernel
theorem dX11_many_112 : decode cX11_many 112 = .ok (.iconst (-1), 1) := by decide +kernel
theorem dX11_many_113 : decode cX11_many 113 = .ok (.ireturn, 1) := by decide +kernel
theorem hd_X0_ladders : yX0_ladders.cls ≠ "java/lang/invoke/MethodHandle" ∧ yX0_ladders.cls ≠ "java/lang/invoke/VarHandle" ∧ (parseMethodDescriptor yX0_ladders.desc).map (fun d => d.parameters.length) = some 0 := by decide +kernel
theorem gv_X11_364 : GoodIn gT (wsV "NylonLadder" 364 "NylonLadder$Drawer" yX0_ladders (Cond.code yX0_ladders cX0_ladders 3 (some .int) :: gT)) := good_V T_6_20 T_6_21 T_6_22 T_1_2 T_6_23
theorem hd_X0_dabsOfAll : yX0_dabsOfAll.cls ≠ "java/lang/invoke/MethodHandle" ∧ yX0_dabsOfAll.cls ≠ "java/lang/invoke/VarHandle" ∧ (parseMethodDescriptor yX0_dabsOfAll.desc).map (fun d => d.parameters.length) = some 0 := by decide +kernel
theorem gv_X11_367 : GoodIn gT (wsV "NylonLadder" 367 "NylonLadder$Drawer" yX0_dabsOfAll (Cond.code yX0_dabsOfAll cX0_dabsOfAll 3 (some .int) :: gT)) := good_V T_6_25 T_6_26 T_6_27 T_1_2 T_6_28
def fX11_many (M : Mm) (o : Nat) (p1 : Int32) : Option Int32 :=
  if p1 = 0 then
    B1 (rdN M o 14 0) fun a45_1 =>
    B1 (rdI M a45_1 3 2) fun x48_2 =>
    some x48_2
  else
    if p1 = 1 then
      B1 (rdN M o 14 0) fun a53_3 =>
      B1 (rdN M a53_3 3 4) fun a56_4 =>
      B1 (alN M a56_4 24 0) fun a60_5 =>
      B1 (rdI M a60_5 13 0) fun x61_6 =>
      B1 (rdN M o 14 0) fun a65_7 =>
      B1 (rdN M a65_7 3 4) fun a68_8 =>
      B1 (alN M a68_8 24 1) fun a72_9 =>
      B1 (rdI M a72_9 13 0) fun x73_10 =>
      some (x61_6 + x73_10)
    else
      if p1 = 2 then
        B1 (rdN M o 14 0) fun a79_11 =>
        B1 (gk M a79_11 3) fun _ =>
        B1 (fX0_ladders M a79_11) fun x82_13 =>
        some x82_13
      else
        if p1 = 3 then
          B1 (rdN M o 14 0) fun a87_14 =>
          B1 (gk M a87_14 3) fun _ =>
          B1 (fX0_dabsOfAll M a87_14) fun x90_16 =>
          some x90_16
        else
          if p1 = 4 then
            B1 (rdI M o 14 7) fun x95_17 =>
            some x95_17
          else
            if p1 = 5 then
              B1 (rdN M o 14 5) fun a100_18 =>
              B1 (rdI M a100_18 11 1) fun x103_19 =>
              some x103_19
            else
              if p1 = 6 then
                B1 (gk M o 14) fun _ =>
                B1 (fX11_bodiesKept M o) fun x108_21 =>
                some x108_21
              else
                some (-1)
set_option maxRecDepth 100000 in
set_option maxHeartbeats 4000000 in
theorem qX11_many (l : Launch) (E : Ev) {M : Mm} {o : Nat} {p1 : Int32} {rz : Int32} (hf : fX11_many M o p1 = some rz) : Ct l E yX11_many cX11_many 2 (some .int) 2 42 0 0 [.ref (E.b + o), .int p1] M (some (.int rz)) M := by
  refine ct_of (by decide +kernel) (Nat.le_of_ble_eq_true rfl) fun p e s m args below meth c C hr hin hW ls hl => ?_
  have hl : lv_has ls 2 [(0, .ref (E.b + o)), (1, .int p1)] := hl
  unfold fX11_many at hf
  refine lv_iload_n C.x C.b dX11_many_0 rfl (lv_at hl 1 rfl) ?_
  by_cases s1_0 : p1 = 0
  · have hf := x_ip s1_0 hf
    refine lv_tableIn (off := 43) (tgt := 44) C.x C.b dX11_many_1 (by rw [s1_0]; decide) (by rw [s1_0]; decide) (by rw [s1_0]; rfl) rfl ?_
    refine lv_aload_n C.x C.b dX11_many_44 rfl (lv_at hl 0 rfl) ?_
    obtain ⟨a45_1, ha45_1, hf⟩ := x_b1 hf
    refine x_getn C hW fg_X11_10_14 ha45_1 dX11_many_45 ?_
    obtain ⟨x48_2, hx48_2, hf⟩ := x_b1 hf
    refine x_geti C hW fg_X11_94_3 hx48_2 dX11_many_48 ?_
    rw [x_e0 hf]
    exact x_iret C hr hW dX11_many_51
  · have hf := x_in s1_0 hf
    by_cases s1_1 : p1 = 1
    · have hf := x_ip s1_1 hf
      refine lv_tableIn (off := 51) (tgt := 52) C.x C.b dX11_many_1 (by rw [s1_1]; decide) (by rw [s1_1]; decide) (by rw [s1_1]; rfl) rfl ?_
      refine lv_aload_n C.x C.b dX11_many_52 rfl (lv_at hl 0 rfl) ?_
      obtain ⟨a53_3, ha53_3, hf⟩ := x_b1 hf
      refine x_getn C hW fg_X11_10_14 ha53_3 dX11_many_53 ?_
      obtain ⟨a56_4, ha56_4, hf⟩ := x_b1 hf
      refine x_getn C hW fg_X11_253_3 ha56_4 dX11_many_56 ?_
      refine lv_iconst (v := 0) C.x C.b dX11_many_59 (by decide) ?_
      obtain ⟨a60_5, ha60_5, hf⟩ := x_b1 hf
      refine x_aldn C hW (kd := 24) (by decide) (by decide) ha60_5 dX11_many_60 ?_
      obtain ⟨x61_6, hx61_6, hf⟩ := x_b1 hf
      refine x_geti C hW fg_X11_204_13 hx61_6 dX11_many_61 ?_
      refine lv_aload_n C.x C.b dX11_many_64 rfl (lv_at hl 0 rfl) ?_
      obtain ⟨a65_7, ha65_7, hf⟩ := x_b1 hf
      refine x_getn C hW fg_X11_10_14 ha65_7 dX11_many_65 ?_
      obtain ⟨a68_8, ha68_8, hf⟩ := x_b1 hf
      refine x_getn C hW fg_X11_253_3 ha68_8 dX11_many_68 ?_
      refine lv_iconst (v := 1) C.x C.b dX11_many_71 (by decide) ?_
      obtain ⟨a72_9, ha72_9, hf⟩ := x_b1 hf
      refine x_aldn C hW (kd := 24) (by decide) (by decide) ha72_9 dX11_many_72 ?_
      obtain ⟨x73_10, hx73_10, hf⟩ := x_b1 hf
      refine x_geti C hW fg_X11_204_13 hx73_10 dX11_many_73 ?_
      refine lv_iadd C.x C.b dX11_many_76 ?_
      rw [x_e0 hf]
      exact x_iret C hr hW dX11_many_77
    · have hf := x_in s1_1 hf
      by_cases s1_2 : p1 = 2
      · have hf := x_ip s1_2 hf
        refine lv_tableIn (off := 77) (tgt := 78) C.x C.b dX11_many_1 (by rw [s1_2]; decide) (by rw [s1_2]; decide) (by rw [s1_2]; rfl) rfl ?_
        refine lv_aload_n C.x C.b dX11_many_78 rfl (lv_at hl 0 rfl) ?_
        obtain ⟨a79_11, ha79_11, hf⟩ := x_b1 hf
        refine x_getn C hW fg_X11_10_14 ha79_11 dX11_many_79 ?_
        obtain ⟨_, hk82_12, hf⟩ := x_b1 hf
        obtain ⟨x82_13, hx82_13, hf⟩ := x_b1 hf
        refine x_callV (As := []) (a := a79_11) (rest := []) C hW hl (qX0_ladders l E hx82_13) (x_gk hk82_12) (by decide) (by decide) rfl gv_X11_364 ⟨rfl, hd_X0_ladders⟩ rfl rfl (Nat.le_of_ble_eq_true rfl) dX11_many_82 ⟨Nat.le_of_ble_eq_true rfl, Nat.le_of_ble_eq_true rfl⟩ ⟨Nat.le_of_ble_eq_true rfl, Nat.le_of_ble_eq_true rfl⟩ (fun H locs hW => ?_)
        rw [x_e0 hf]
        exact x_iret C hr hW dX11_many_85
      · have hf := x_in s1_2 hf
        by_cases s1_3 : p1 = 3
        · have hf := x_ip s1_3 hf
          refine lv_tableIn (off := 85) (tgt := 86) C.x C.b dX11_many_1 (by rw [s1_3]; decide) (by rw [s1_3]; decide) (by rw [s1_3]; rfl) rfl ?_
          refine lv_aload_n C.x C.b dX11_many_86 rfl (lv_at hl 0 rfl) ?_
          obtain ⟨a87_14, ha87_14, hf⟩ := x_b1 hf
          refine x_getn C hW fg_X11_10_14 ha87_14 dX11_many_87 ?_
          obtain ⟨_, hk90_15, hf⟩ := x_b1 hf
          obtain ⟨x90_16, hx90_16, hf⟩ := x_b1 hf
          refine x_callV (As := []) (a := a87_14) (rest := []) C hW hl (qX0_dabsOfAll l E hx90_16) (x_gk hk90_15) (by decide) (by decide) rfl gv_X11_367 ⟨rfl, hd_X0_dabsOfAll⟩ rfl rfl (Nat.le_of_ble_eq_true rfl) dX11_many_90 ⟨Nat.le_of_ble_eq_true rfl, Nat.le_of_ble_eq_true rfl⟩ ⟨Nat.le_of_ble_eq_true rfl, Nat.le_of_ble_eq_true rfl⟩ (fun H locs hW => ?_)
          rw [x_e0 hf]
          exact x_iret C hr hW dX11_many_93
        · have hf := x_in s1_3 hf
          by_cases s1_4 : p1 = 4
          · have hf := x_ip s1_4 hf
            refine lv_tableIn (off := 93) (tgt := 94) C.x C.b dX11_many_1 (by rw [s1_4]; decide) (by rw [s1_4]; decide) (by rw [s1_4]; rfl) rfl ?_
            refine lv_aload_n C.x C.b dX11_many_94 rfl (lv_at hl 0 rfl) ?_
            obtain ⟨x95_17, hx95_17, hf⟩ := x_b1 hf
            refine x_geti C hW fg_X11_45_14 hx95_17 dX11_many_95 ?_
            rw [x_e0 hf]
            exact x_iret C hr hW dX11_many_98
          · have hf := x_in s1_4 hf
            by_cases s1_5 : p1 = 5
            · have hf := x_ip s1_5 hf
              refine lv_tableIn (off := 98) (tgt := 99) C.x C.b dX11_many_1 (by rw [s1_5]; decide) (by rw [s1_5]; decide) (by rw [s1_5]; rfl) rfl ?_
              refine lv_aload_n C.x C.b dX11_many_99 rfl (lv_at hl 0 rfl) ?_
              obtain ⟨a100_18, ha100_18, hf⟩ := x_b1 hf
              refine x_getn C hW fg_X11_36_14 ha100_18 dX11_many_100 ?_
              obtain ⟨x103_19, hx103_19, hf⟩ := x_b1 hf
              refine x_geti C hW fg_X11_73_11 hx103_19 dX11_many_103 ?_
              rw [x_e0 hf]
              exact x_iret C hr hW dX11_many_106
            · have hf := x_in s1_5 hf
              by_cases s1_6 : p1 = 6
              · have hf := x_ip s1_6 hf
                refine lv_tableIn (off := 106) (tgt := 107) C.x C.b dX11_many_1 (by rw [s1_6]; decide) (by rw [s1_6]; decide) (by rw [s1_6]; rfl) rfl ?_
                refine lv_aload_n C.x C.b dX11_many_107 rfl (lv_at hl 0 rfl) ?_
                obtain ⟨_, hk108_20, hf⟩ := x_b1 hf
                obtain ⟨x108_21, hx108_21, hf⟩ := x_b1 hf
                refine x_callV (As := []) (a := o) (rest := []) C hW hl (qX11_bodiesKept l E hx108_21) (x_gk hk108_20) (by decide) (by decide) rfl gv_X11_352 ⟨rfl, hd_X11_bodiesKept⟩ rfl rfl (Nat.le_of_ble_eq_true rfl) dX11_many_108 ⟨Nat.le_of_ble_eq_true rfl, Nat.le_of_ble_eq_true rfl⟩ ⟨Nat.le_of_ble_eq_true rfl, Nat.le_of_ble_eq_true rfl⟩ (fun H locs hW => ?_)
                rw [x_e0 hf]
                exact x_iret C hr hW dX11_many_111
              · have hf := x_in s1_6 hf
                have s1_0_ := lv_neT (a := 0) s1_0 rfl
                have s1_1_ := lv_neT (a := 1) s1_1 rfl
                have s1_2_ := lv_neT (a := 2) s1_2 rfl
                have s1_3_ := lv_neT (a := 3) s1_3 rfl
                have s1_4_ := lv_neT (a := 4) s1_4 rfl
                have s1_5_ := lv_neT (a := 5) s1_5 rfl
                have s1_6_ := lv_neT (a := 6) s1_6 rfl
                refine lv_tableOut (tgt := 112) C.x C.b dX11_many_1 (by omega) rfl ?_
                refine lv_iconst (v := (-1)) C.x C.b dX11_many_112 (by decide) ?_
                rw [x_e0 hf]
                exact x_iret C hr hW dX11_many_113

theorem dX11_keep_0 : decode cX11_keep 0 = .ok (.aload_n 0, 1) := by decide +kernel
theorem dX11_keep_1 : decode cX11_keep 1 = .ok (.getfield 16, 3) := by decide +kernel
theorem dX11_keep_4 : decode cX11_keep 4 = .ok (.aload_n 0, 1) := by decide +kernel
theorem dX11_keep_5 : decode cX11_keep 5 = .ok (.getfield 10, 3) := by decide +kernel
theorem dX11_keep_8 : decode cX11_keep 8 = .ok (.invokevirtual 90, 3) := by decide +kernel
theorem dX11_keep_11 : decode cX11_keep 11 = .ok (.aload_n 0, 1) := by decide +kernel
theorem dX11_keep_12 : decode cX11_keep 12 = .ok (.iconst 1, 1) := by decide +kernel
theorem dX11_keep_13 : decode cX11_keep 13 = .ok (.putfield 19, 3) := by decide +kernel
theorem dX11_keep_16 : decode cX11_keep 16 = .ok (.iconst 1, 1) := by decide +kernel
theorem dX11_keep_17 : decode cX11_keep 17 = .ok (.ireturn, 1) := by decide +kernel
theorem fg_X11_16_14 : FdG "NylonLadder" 16 14 1 true := ⟨_, _, _, _, rfl, by decide, by decide, by decide, gxX11, by decide, T_1_231, Or.inl rfl, rfl⟩
def fX11_keep (M : Mm) (o : Nat) : Option (Int32 × Mm) :=
  B1 (rdN M o 14 1) fun a1_1 =>
  B1 (rdN M o 14 0) fun a5_2 =>
  B1 (gk M a1_1 3) fun _ =>
  B1 (fX0_become M a1_1 a5_2) fun M8_4 =>
  B1 (wrZ M8_4 o 14 2 1) fun M13_5 =>
  some (1, M13_5)
set_option maxRecDepth 100000 in
set_option maxHeartbeats 4000000 in
theorem qX11_keep (l : Launch) (E : Ev) {M : Mm} {o : Nat} {rz : Int32} {Mz : Mm} (hf : fX11_keep M o = some (rz, Mz)) : Ct l E yX11_keep cX11_keep 1 (some .int) 4 87 0 0 [.ref (E.b + o)] M (some (.int rz)) Mz := by
  refine ct_of (by decide +kernel) (Nat.le_of_ble_eq_true rfl) fun p e s m args below meth c C hr hin hW ls hl => ?_
  have hl : lv_has ls 1 [(0, .ref (E.b + o))] := hl
  unfold fX11_keep at hf
  refine lv_aload_n C.x C.b dX11_keep_0 rfl (lv_at hl 0 rfl) ?_
  obtain ⟨a1_1, ha1_1, hf⟩ := x_b1 hf
  refine x_getn C hW fg_X11_16_14 ha1_1 dX11_keep_1 ?_
  refine lv_aload_n C.x C.b dX11_keep_4 rfl (lv_at hl 0 rfl) ?_
  obtain ⟨a5_2, ha5_2, hf⟩ := x_b1 hf
  refine x_getn C hW fg_X11_10_14 ha5_2 dX11_keep_5 ?_
  obtain ⟨_, hk8_3, hf⟩ := x_b1 hf
  obtain ⟨M8_4, hM8_4, hf⟩ := x_b1 hf
  refine x_callV (As := [.ref (E.b + a5_2)]) (a := a1_1) (rest := []) C hW hl (qX0_become l E hM8_4) (x_gk hk8_3) (by decide) (by decide) rfl gv_X11_90 ⟨rfl, hd_X0_become⟩ rfl rfl (Nat.le_of_ble_eq_true rfl) dX11_keep_8 ⟨Nat.le_of_ble_eq_true rfl, Nat.le_of_ble_eq_true rfl⟩ ⟨Nat.le_of_ble_eq_true rfl, Nat.le_of_ble_eq_true rfl⟩ (fun H locs hW => ?_)
  refine lv_aload_n C.x C.b dX11_keep_11 rfl (lv_at hl 0 rfl) ?_
  refine lv_iconst (v := 1) C.x C.b dX11_keep_12 (by decide) ?_
  obtain ⟨M13_5, hM13_5, hf⟩ := x_b1 hf
  refine x_putz C hW fp_X11_19_14 hM13_5 (fun h => by cases h) dX11_keep_13 (fun H locs hW => ?_)
  refine lv_iconst (v := 1) C.x C.b dX11_keep_16 (by decide) ?_
  rw [x_e1 hf, x_e2 hf]
  exact x_iret C hr hW dX11_keep_17

theorem dX11_again_0 : decode cX11_again 0 = .ok (.aload_n 0, 1) := by decide +kernel
theorem dX11_again_1 : decode cX11_again 1 = .ok (.getfield 19, 3) := by decide +kernel
theorem dX11_again_4 : decode cX11_again 4 = .ok (.ifCond .ne 6, 3) := by decide +kernel
theorem dX11_again_7 : decode cX11_again 7 = .ok (.bipush (-3), 2) := by decide +kernel
theorem dX11_again_9 : decode cX11_again 9 = .ok (.ireturn, 1) := by decide +kernel
theorem dX11_again_10 : decode cX11_again 10 = .ok (.aload_n 0, 1) := by decide +kernel
theorem dX11_again_11 : decode cX11_again 11 = .ok (.getfield 10, 3) := by decide +kernel
theorem dX11_again_14 : decode cX11_again 14 = .ok (.aload_n 0, 1) := by decide +kernel
theorem dX11_again_15 : decode cX11_again 15 = .ok (.getfield 16, 3) := by decide +kernel
theorem dX11_again_18 : decode cX11_again 18 = .ok (.invokevirtual 90, 3) := by decide +kernel
theorem dX11_again_21 : decode cX11_again 21 = .ok (.aload_n 0, 1) := by decide +kernel
theorem dX11_again_22 : decode cX11_again 22 = .ok (.getfield 10, 3) := by decide +kernel
theorem dX11_again_25 : decode cX11_again 25 = .ok (.getfield 94, 3) := by decide +kernel
theorem dX11_again_28 : decode cX11_again 28 = .ok (.ireturn, 1) := by decide +kernel
theorem fg_X11_19_14 : FdG "NylonLadder" 19 14 2 false := ⟨_, _, _, _, rfl, by decide, by decide, by decide, gxX11, by decide, T_1_232, Or.inl rfl, rfl⟩
def fX11_again (M : Mm) (o : Nat) : Option (Int32 × Mm) :=
  B1 (rdI M o 14 2) fun x1_1 =>
  if x1_1 = 0 then
    some ((-3), M)
  else
    B1 (rdN M o 14 0) fun a11_2 =>
    B1 (rdN M o 14 1) fun a15_3 =>
    B1 (gk M a11_2 3) fun _ =>
    B1 (fX0_become M a11_2 a15_3) fun M18_5 =>
    B1 (rdN M18_5 o 14 0) fun a22_6 =>
    B1 (rdI M18_5 a22_6 3 2) fun x25_7 =>
    some (x25_7, M18_5)
set_option maxRecDepth 100000 in
set_option maxHeartbeats 4000000 in
theorem qX11_again (l : Launch) (E : Ev) {M : Mm} {o : Nat} {rz : Int32} {Mz : Mm} (hf : fX11_again M o = some (rz, Mz)) : Ct l E yX11_again cX11_again 1 (some .int) 4 87 0 0 [.ref (E.b + o)] M (some (.int rz)) Mz := by
  refine ct_of (by decide +kernel) (Nat.le_of_ble_eq_true rfl) fun p e s m args below meth c C hr hin hW ls hl => ?_
  have hl : lv_has ls 1 [(0, .ref (E.b + o))] := hl
  unfold fX11_again at hf
  refine lv_aload_n C.x C.b dX11_again_0 rfl (lv_at hl 0 rfl) ?_
  obtain ⟨x1_1, hx1_1, hf⟩ := x_b1 hf
  refine x_geti C hW fg_X11_19_14 hx1_1 dX11_again_1 ?_
  refine lv_if_ne (tgt := 10) C.x C.b dX11_again_4 rfl (fun c4 => ?_) (fun c4 => ?_)
  · have hf := x_in c4 hf
    refine lv_aload_n C.x C.b dX11_again_10 rfl (lv_at hl 0 rfl) ?_
    obtain ⟨a11_2, ha11_2, hf⟩ := x_b1 hf
    refine x_getn C hW fg_X11_10_14 ha11_2 dX11_again_11 ?_
    refine lv_aload_n C.x C.b dX11_again_14 rfl (lv_at hl 0 rfl) ?_
    obtain ⟨a15_3, ha15_3, hf⟩ := x_b1 hf
    refine x_getn C hW fg_X11_16_14 ha15_3 dX11_again_15 ?_
    obtain ⟨_, hk18_4, hf⟩ := x_b1 hf
    obtain ⟨M18_5, hM18_5, hf⟩ := x_b1 hf
    refine x_callV (As := [.ref (E.b + a15_3)]) (a := a11_2) (rest := []) C hW hl (qX0_become l E hM18_5) (x_gk hk18_4) (by decide) (by decide) rfl gv_X11_90 ⟨rfl, hd_X0_become⟩ rfl rfl (Nat.le_of_ble_eq_true rfl) dX11_again_18 ⟨Nat.le_of_ble_eq_true rfl, Nat.le_of_ble_eq_true rfl⟩ ⟨Nat.le_of_ble_eq_true rfl, Nat.le_of_ble_eq_true rfl⟩ (fun H locs hW => ?_)
    refine lv_aload_n C.x C.b dX11_again_21 rfl (lv_at hl 0 rfl) ?_
    obtain ⟨a22_6, ha22_6, hf⟩ := x_b1 hf
    refine x_getn C hW fg_X11_10_14 ha22_6 dX11_again_22 ?_
    obtain ⟨x25_7, hx25_7, hf⟩ := x_b1 hf
    refine x_geti C hW fg_X11_94_3 hx25_7 dX11_again_25 ?_
    rw [x_e1 hf, x_e2 hf]
    exact x_iret C hr hW dX11_again_28
  · have hf := x_ip c4 hf
    refine lv_bipush (v := (-3)) C.x C.b dX11_again_7 (by decide) ?_
    rw [x_e1 hf, x_e2 hf]
    exact x_iret C hr hW dX11_again_9
