theorem dX11_isWithin_0 : decode cX11_isWithin 0 = .ok (.iload_n 0, 1) := by decide +kernel
theorem dX11_isWithin_1 : decode cX11_isWithin 1 = .ok (.iload_n 1, 1) := by decide +kernel
theorem dX11_isWithin_2 : decode cX11_isWithin 2 = .ok (.if_icmp .lt 12, 3) := by decide +kernel
theorem dX11_isWithin_5 : decode cX11_isWithin 5 = .ok (.iload_n 0, 1) := by decide +kernel
theorem dX11_isWithin_6 : decode cX11_isWithin 6 = .ok (.iload_n 2, 1) := by decide +kernel
theorem dX11_isWithin_7 : decode cX11_isWithin 7 = .ok (.if_icmp .gt 7, 3) := by decide +kernel
theorem dX11_isWithin_10 : decode cX11_isWithin 10 = .ok (.iconst 1, 1) := by decide +kernel
theorem dX11_isWithin_11 : decode cX11_isWithin 11 = .ok (.goto 4, 3) := by decide +kernel
theorem dX11_isWithin_14 : decode cX11_isWithin 14 = .ok (.iconst 0, 1) := by decide +kernel
theorem dX11_isWithin_15 : decode cX11_isWithin 15 = .ok (.ireturn, 1) := by decide +kernel
def fX11_isWithin (M : Mm) (p1 : Int32) (p2 : Int32) (p3 : Int32) : Option Int32 :=
  if p1 < p2 then
    some 0
  else
    if p3 < p1 then
      some 0
    else
      some 1
set_option maxRecDepth 100000 in
set_option maxHeartbeats 4000000 in
theorem qX11_isWithin (l : Launch) (E : Ev) {M : Mm} {p1 : Int32} {p2 : Int32} {p3 : Int32} {rz : Int32} (hf : fX11_isWithin M p1 p2 p3 = some rz) : Ct l E yX11_isWithin cX11_isWithin 3 (some .boolean) 0 0 0 0 [.int p1, .int p2, .int p3] M (some (.int rz)) M := by
  refine ct_of (by decide +kernel) (Nat.le_of_ble_eq_true rfl) fun p e s m args below meth c C hr hin hW ls hl => ?_
  have hl : lv_has ls 3 [(0, .int p1), (1, .int p2), (2, .int p3)] := hl
  unfold fX11_isWithin at hf
  refine lv_iload_n C.x C.b dX11_isWithin_0 rfl (lv_at hl 0 rfl) ?_
  refine lv_iload_n C.x C.b dX11_isWithin_1 rfl (lv_at hl 1 rfl) ?_
  refine lv_icmp_lt (tgt := 14) C.x C.b dX11_isWithin_2 rfl (fun c2 => ?_) (fun c2 => ?_)
  · replace hf := x_ip c2 hf
    refine lv_iconst (v := 0) C.x C.b dX11_isWithin_14 (by decide) ?_
    rw [x_e0 hf]
    exact x_zret C hr hW (v := 0) (w := 0) rfl dX11_isWithin_15
  · replace hf := x_in c2 hf
    refine lv_iload_n C.x C.b dX11_isWithin_5 rfl (lv_at hl 0 rfl) ?_
    refine lv_iload_n C.x C.b dX11_isWithin_6 rfl (lv_at hl 2 rfl) ?_
    refine lv_icmp_gt (tgt := 14) C.x C.b dX11_isWithin_7 rfl (fun c7 => ?_) (fun c7 => ?_)
    · replace hf := x_ip c7 hf
      refine lv_iconst (v := 0) C.x C.b dX11_isWithin_14 (by decide) ?_
      rw [x_e0 hf]
      exact x_zret C hr hW (v := 0) (w := 0) rfl dX11_isWithin_15
    · replace hf := x_in c7 hf
      refine lv_iconst (v := 1) C.x C.b dX11_isWithin_10 (by decide) ?_
      refine lv_goto (tgt := 15) C.x C.b dX11_isWithin_11 rfl ?_
      rw [x_e0 hf]
      exact x_zret C hr hW (v := 1) (w := 1) rfl dX11_isWithin_15

theorem dX0_stockingAt_0 : decode cX0_stockingAt 0 = .ok (.iload_n 1, 1) := by decide +kernel
theorem dX0_stockingAt_1 : decode cX0_stockingAt 1 = .ok (.iconst 0, 1) := by decide +kernel
theorem dX0_stockingAt_2 : decode cX0_stockingAt 2 = .ok (.aload_n 0, 1) := by decide +kernel
theorem dX0_stockingAt_3 : decode cX0_stockingAt 3 = .ok (.getfield 21, 3) := by decide +kernel
theorem dX0_stockingAt_6 : decode cX0_stockingAt 6 = .ok (.iconst 1, 1) := by decide +kernel
theorem dX0_stockingAt_7 : decode cX0_stockingAt 7 = .ok (.isub, 1) := by decide +kernel
theorem dX0_stockingAt_8 : decode cX0_stockingAt 8 = .ok (.invokestatic 59, 3) := by decide +kernel
theorem dX0_stockingAt_11 : decode cX0_stockingAt 11 = .ok (.ifCond .eq 12, 3) := by decide +kernel
theorem dX0_stockingAt_14 : decode cX0_stockingAt 14 = .ok (.aload_n 0, 1) := by decide +kernel
theorem dX0_stockingAt_15 : decode cX0_stockingAt 15 = .ok (.getfield 17, 3) := by decide +kernel
theorem dX0_stockingAt_18 : decode cX0_stockingAt 18 = .ok (.iload_n 1, 1) := by decide +kernel
theorem dX0_stockingAt_19 : decode cX0_stockingAt 19 = .ok (.aaload, 1) := by decide +kernel
theorem dX0_stockingAt_20 : decode cX0_stockingAt 20 = .ok (.goto 4, 3) := by decide +kernel
theorem dX0_stockingAt_23 : decode cX0_stockingAt 23 = .ok (.aconst_null, 1) := by decide +kernel
theorem dX0_stockingAt_24 : decode cX0_stockingAt 24 = .ok (.areturn, 1) := by decide +kernel
theorem hd_X11_isWithin : yX11_isWithin.cls ≠ "java/lang/invoke/MethodHandle" ∧ yX11_isWithin.cls ≠ "java/lang/invoke/VarHandle" ∧ (parseMethodDescriptor yX11_isWithin.desc).map (fun d => d.parameters.length) = some 3 := by decide +kernel
def fX0_stockingAt (M : Mm) (o : Nat) (p1 : Int32) : Option (Option Nat) :=
  B1 (rdI M o 3 2) fun x3_1 =>
  B1 (fX11_isWithin M p1 0 (x3_1 - 1)) fun x8_2 =>
  if x8_2 = 0 then
    some none
  else
    B1 (rdN M o 3 1) fun a15_3 =>
    B1 (alN M a15_3 23 p1) fun a19_4 =>
    some (some a19_4)
set_option maxRecDepth 100000 in
set_option maxHeartbeats 4000000 in
theorem qX0_stockingAt (l : Launch) (E : Ev) {M : Mm} {o : Nat} {p1 : Int32} {rz : Option Nat} (hf : fX0_stockingAt M o p1 = some rz) : Ct l E yX0_stockingAt cX0_stockingAt 2 (some (.object "NylonLadder$Stocking")) 1 22 0 0 [.ref (E.b + o), .int p1] M (some (rv E.b rz)) M := by
  refine ct_of (by decide +kernel) (Nat.le_of_ble_eq_true rfl) fun p e s m args below meth c C hr hin hW ls hl => ?_
  have hl : lv_has ls 2 [(0, .ref (E.b + o)), (1, .int p1)] := hl
  unfold fX0_stockingAt at hf
  refine lv_iload_n C.x C.b dX0_stockingAt_0 rfl (lv_at hl 1 rfl) ?_
  refine lv_iconst (v := 0) C.x C.b dX0_stockingAt_1 (by decide) ?_
  refine lv_aload_n C.x C.b dX0_stockingAt_2 rfl (lv_at hl 0 rfl) ?_
  replace hf := x_b1 hf; obtain ⟨x3_1, hx3_1, hf⟩ := hf
  refine x_geti C hW fg_X0_21_3 hx3_1 dX0_stockingAt_3 ?_
  refine lv_iconst (v := 1) C.x C.b dX0_stockingAt_6 (by decide) ?_
  refine lv_isub C.x C.b dX0_stockingAt_7 ?_
  replace hf := x_b1 hf; obtain ⟨x8_2, hx8_2, hf⟩ := hf
  refine x_callSN (host := "NylonLadder") (As := [.int p1, .int 0, .int (x3_1 - 1)]) (rest := []) C hW hl (qX11_isWithin l E hx8_2) T_2_139 T_2_32 T_1_1 T_2_33 hd_X11_isWithin rfl rfl (Nat.le_of_ble_eq_true rfl) dX0_stockingAt_8 ⟨Nat.le_of_ble_eq_true rfl, Nat.le_of_ble_eq_true rfl⟩ ⟨Nat.le_of_ble_eq_true rfl, Nat.le_of_ble_eq_true rfl⟩ (fun H locs hW => ?_)
  refine lv_if_eq (tgt := 23) C.x C.b dX0_stockingAt_11 rfl (fun c11 => ?_) (fun c11 => ?_)
  · replace hf := x_ip c11 hf
    refine lv_null C.x C.b dX0_stockingAt_23 ?_
    rw [x_e0 hf]
    exact x_aret C hr (Or.inl ⟨_, rfl⟩) hW dX0_stockingAt_24
  · replace hf := x_in c11 hf
    refine lv_aload_n C.x C.b dX0_stockingAt_14 rfl (lv_at hl 0 rfl) ?_
    replace hf := x_b1 hf; obtain ⟨a15_3, ha15_3, hf⟩ := hf
    refine x_getn C hW fg_X0_17_3 ha15_3 dX0_stockingAt_15 ?_
    refine lv_iload_n C.x C.b dX0_stockingAt_18 rfl (lv_at hl 1 rfl) ?_
    replace hf := x_b1 hf; obtain ⟨a19_4, ha19_4, hf⟩ := hf
    refine x_aldn C hW (kd := 23) (by decide) (by decide) ha19_4 dX0_stockingAt_19 ?_
    refine lv_goto (tgt := 24) C.x C.b dX0_stockingAt_20 rfl ?_
    rw [x_e0 hf]
    exact x_aret C hr (Or.inl ⟨_, rfl⟩) hW dX0_stockingAt_24

theorem dX0_addStocking_0 : decode cX0_addStocking 0 = .ok (.aload_n 0, 1) := by decide +kernel
theorem dX0_addStocking_1 : decode cX0_addStocking 1 = .ok (.getfield 21, 3) := by decide +kernel
theorem dX0_addStocking_4 : decode cX0_addStocking 4 = .ok (.bipush 8, 2) := by decide +kernel
theorem dX0_addStocking_6 : decode cX0_addStocking 6 = .ok (.if_icmp .lt 5, 3) := by decide +kernel
theorem dX0_addStocking_9 : decode cX0_addStocking 9 = .ok (.iconst 0, 1) := by decide +kernel
theorem dX0_addStocking_10 : decode cX0_addStocking 10 = .ok (.ireturn, 1) := by decide +kernel
theorem dX0_addStocking_11 : decode cX0_addStocking 11 = .ok (.aload_n 0, 1) := by decide +kernel
theorem dX0_addStocking_12 : decode cX0_addStocking 12 = .ok (.getfield 17, 3) := by decide +kernel
theorem dX0_addStocking_15 : decode cX0_addStocking 15 = .ok (.aload_n 0, 1) := by decide +kernel
theorem dX0_addStocking_16 : decode cX0_addStocking 16 = .ok (.getfield 21, 3) := by decide +kernel
theorem dX0_addStocking_19 : decode cX0_addStocking 19 = .ok (.aaload, 1) := by decide +kernel
theorem dX0_addStocking_20 : decode cX0_addStocking 20 = .ok (.iload_n 1, 1) := by decide +kernel
theorem dX0_addStocking_21 : decode cX0_addStocking 21 = .ok (.iload_n 2, 1) := by decide +kernel
theorem dX0_addStocking_22 : decode cX0_addStocking 22 = .ok (.iload_n 3, 1) := by decide +kernel
theorem dX0_addStocking_23 : decode cX0_addStocking 23 = .ok (.iload 4, 2) := by decide +kernel
theorem dX0_addStocking_25 : decode cX0_addStocking 25 = .ok (.invokevirtual 63, 3) := by decide +kernel
theorem dX0_addStocking_28 : decode cX0_addStocking 28 = .ok (.aload_n 0, 1) := by decide +kernel
theorem dX0_addStocking_29 : decode cX0_addStocking 29 = .ok (.dup, 1) := by decide +kernel
theorem dX0_addStocking_30 : decode cX0_addStocking 30 = .ok (.getfield 21, 3) := by decide +kernel
theorem dX0_addStocking_33 : decode cX0_addStocking 33 = .ok (.iconst 1, 1) := by decide +kernel
theorem dX0_addStocking_34 : decode cX0_addStocking 34 = .ok (.iadd, 1) := by decide +kernel
theorem dX0_addStocking_35 : decode cX0_addStocking 35 = .ok (.putfield 21, 3) := by decide +kernel
theorem dX0_addStocking_38 : decode cX0_addStocking 38 = .ok (.iconst 1, 1) := by decide +kernel
theorem dX0_addStocking_39 : decode cX0_addStocking 39 = .ok (.ireturn, 1) := by decide +kernel
theorem gv_X0_63 : GoodIn gT (wsV "NylonLadder$Drawer" 63 "NylonLadder$Stocking" yX7_begin (Cond.code yX7_begin cX7_begin 5 none :: gT)) := good_V T_2_217 T_2_218 T_2_219 T_1_4 T_2_220
def fX0_addStocking (M : Mm) (o : Nat) (p1 : Int32) (p2 : Int32) (p3 : Int32) (p4 : Int32) : Option (Int32 × Mm) :=
  B1 (rdI M o 3 2) fun x1_1 =>
  if x1_1 < 8 then
    B1 (rdN M o 3 1) fun a12_2 =>
    B1 (rdI M o 3 2) fun x16_3 =>
    B1 (alN M a12_2 23 x16_3) fun a19_4 =>
    B1 (gk M a19_4 10) fun _ =>
    B1 (fX7_begin M a19_4 p1 p2 p3 p4) fun M25_6 =>
    B1 (rdI M25_6 o 3 2) fun x30_7 =>
    B1 (wrI M25_6 o 3 2 (x30_7 + 1)) fun M35_8 =>
    some (1, M35_8)
  else
    some (0, M)
set_option maxRecDepth 100000 in
set_option maxHeartbeats 4000000 in
theorem qX0_addStocking (l : Launch) (E : Ev) {M : Mm} {o : Nat} {p1 : Int32} {p2 : Int32} {p3 : Int32} {p4 : Int32} {rz : Int32} {Mz : Mm} (hf : fX0_addStocking M o p1 p2 p3 p4 = some (rz, Mz)) : Ct l E yX0_addStocking cX0_addStocking 5 (some .boolean) 2 44 0 0 [.ref (E.b + o), .int p1, .int p2, .int p3, .int p4] M (some (.int rz)) Mz := by
  refine ct_of (by decide +kernel) (Nat.le_of_ble_eq_true rfl) fun p e s m args below meth c C hr hin hW ls hl => ?_
  have hl : lv_has ls 5 [(0, .ref (E.b + o)), (1, .int p1), (2, .int p2), (3, .int p3), (4, .int p4)] := hl
  unfold fX0_addStocking at hf
  refine lv_aload_n C.x C.b dX0_addStocking_0 rfl (lv_at hl 0 rfl) ?_
  replace hf := x_b1 hf; obtain ⟨x1_1, hx1_1, hf⟩ := hf
  refine x_geti C hW fg_X0_21_3 hx1_1 dX0_addStocking_1 ?_
  refine lv_bipush (v := 8) C.x C.b dX0_addStocking_4 (by decide) ?_
  refine lv_icmp_lt (tgt := 11) C.x C.b dX0_addStocking_6 rfl (fun c6 => ?_) (fun c6 => ?_)
  · replace hf := x_ip c6 hf
    refine lv_aload_n C.x C.b dX0_addStocking_11 rfl (lv_at hl 0 rfl) ?_
    replace hf := x_b1 hf; obtain ⟨a12_2, ha12_2, hf⟩ := hf
    refine x_getn C hW fg_X0_17_3 ha12_2 dX0_addStocking_12 ?_
    refine lv_aload_n C.x C.b dX0_addStocking_15 rfl (lv_at hl 0 rfl) ?_
    replace hf := x_b1 hf; obtain ⟨x16_3, hx16_3, hf⟩ := hf
    refine x_geti C hW fg_X0_21_3 hx16_3 dX0_addStocking_16 ?_
    replace hf := x_b1 hf; obtain ⟨a19_4, ha19_4, hf⟩ := hf
    refine x_aldn C hW (kd := 23) (by decide) (by decide) ha19_4 dX0_addStocking_19 ?_
    refine lv_iload_n C.x C.b dX0_addStocking_20 rfl (lv_at hl 1 rfl) ?_
    refine lv_iload_n C.x C.b dX0_addStocking_21 rfl (lv_at hl 2 rfl) ?_
    refine lv_iload_n C.x C.b dX0_addStocking_22 rfl (lv_at hl 3 rfl) ?_
    refine lv_iload C.x C.b dX0_addStocking_23 (lv_at hl 4 rfl) ?_
    replace hf := x_b1 hf; obtain ⟨_, hk25_5, hf⟩ := hf
    replace hf := x_b1 hf; obtain ⟨M25_6, hM25_6, hf⟩ := hf
    refine x_callV (As := [.int p1, .int p2, .int p3, .int p4]) (a := a19_4) (rest := []) C hW hl (qX7_begin l E hM25_6) (x_gk hk25_5) (by decide) (by decide) rfl gv_X0_63 ⟨rfl, hd_X7_begin⟩ rfl rfl (Nat.le_of_ble_eq_true rfl) dX0_addStocking_25 ⟨Nat.le_of_ble_eq_true rfl, Nat.le_of_ble_eq_true rfl⟩ ⟨Nat.le_of_ble_eq_true rfl, Nat.le_of_ble_eq_true rfl⟩ (fun H locs hW => ?_)
    refine lv_aload_n C.x C.b dX0_addStocking_28 rfl (lv_at hl 0 rfl) ?_
    refine lv_dup C.x C.b dX0_addStocking_29 rfl ?_
    replace hf := x_b1 hf; obtain ⟨x30_7, hx30_7, hf⟩ := hf
    refine x_geti C hW fg_X0_21_3 hx30_7 dX0_addStocking_30 ?_
    refine lv_iconst (v := 1) C.x C.b dX0_addStocking_33 (by decide) ?_
    refine lv_iadd C.x C.b dX0_addStocking_34 ?_
    replace hf := x_b1 hf; obtain ⟨M35_8, hM35_8, hf⟩ := hf
    refine x_puti C hW fp_X0_21_3 hM35_8 (fun h => by cases h) dX0_addStocking_35 (fun H locs hW => ?_)
    refine lv_iconst (v := 1) C.x C.b dX0_addStocking_38 (by decide) ?_
    rw [x_e1 hf, x_e2 hf]
    exact x_zret C hr hW (v := 1) (w := 1) rfl dX0_addStocking_39
  · replace hf := x_in c6 hf
    refine lv_iconst (v := 0) C.x C.b dX0_addStocking_9 (by decide) ?_
    rw [x_e1 hf, x_e2 hf]
    exact x_zret C hr hW (v := 0) (w := 0) rfl dX0_addStocking_10

theorem dX0_wayAt_0 : decode cX0_wayAt 0 = .ok (.iload_n 1, 1) := by decide +kernel
theorem dX0_wayAt_1 : decode cX0_wayAt 1 = .ok (.iconst 0, 1) := by decide +kernel
theorem dX0_wayAt_2 : decode cX0_wayAt 2 = .ok (.iconst 1, 1) := by decide +kernel
theorem dX0_wayAt_3 : decode cX0_wayAt 3 = .ok (.invokestatic 59, 3) := by decide +kernel
theorem dX0_wayAt_6 : decode cX0_wayAt 6 = .ok (.ifCond .eq 12, 3) := by decide +kernel
theorem dX0_wayAt_9 : decode cX0_wayAt 9 = .ok (.aload_n 0, 1) := by decide +kernel
theorem dX0_wayAt_10 : decode cX0_wayAt 10 = .ok (.getfield 31, 3) := by decide +kernel
theorem dX0_wayAt_13 : decode cX0_wayAt 13 = .ok (.iload_n 1, 1) := by decide +kernel
theorem dX0_wayAt_14 : decode cX0_wayAt 14 = .ok (.aaload, 1) := by decide +kernel
theorem dX0_wayAt_15 : decode cX0_wayAt 15 = .ok (.goto 4, 3) := by decide +kernel
theorem dX0_wayAt_18 : decode cX0_wayAt 18 = .ok (.aconst_null, 1) := by decide +kernel
theorem dX0_wayAt_19 : decode cX0_wayAt 19 = .ok (.areturn, 1) := by decide +kernel
def fX0_wayAt (M : Mm) (o : Nat) (p1 : Int32) : Option (Option Nat) :=
  B1 (fX11_isWithin M p1 0 1) fun x3_1 =>
  if x3_1 = 0 then
    some none
  else
    B1 (rdN M o 3 4) fun a10_2 =>
    B1 (alN M a10_2 24 p1) fun a14_3 =>
    some (some a14_3)
set_option maxRecDepth 100000 in
set_option maxHeartbeats 4000000 in
theorem qX0_wayAt (l : Launch) (E : Ev) {M : Mm} {o : Nat} {p1 : Int32} {rz : Option Nat} (hf : fX0_wayAt M o p1 = some rz) : Ct l E yX0_wayAt cX0_wayAt 2 (some (.object "NylonLadder$Way")) 1 22 0 0 [.ref (E.b + o), .int p1] M (some (rv E.b rz)) M := by
  refine ct_of (by decide +kernel) (Nat.le_of_ble_eq_true rfl) fun p e s m args below meth c C hr hin hW ls hl => ?_
  have hl : lv_has ls 2 [(0, .ref (E.b + o)), (1, .int p1)] := hl
  unfold fX0_wayAt at hf
  refine lv_iload_n C.x C.b dX0_wayAt_0 rfl (lv_at hl 1 rfl) ?_
  refine lv_iconst (v := 0) C.x C.b dX0_wayAt_1 (by decide) ?_
  refine lv_iconst (v := 1) C.x C.b dX0_wayAt_2 (by decide) ?_
  replace hf := x_b1 hf; obtain ⟨x3_1, hx3_1, hf⟩ := hf
  refine x_callSN (host := "NylonLadder") (As := [.int p1, .int 0, .int 1]) (rest := []) C hW hl (qX11_isWithin l E hx3_1) T_2_139 T_2_32 T_1_1 T_2_33 hd_X11_isWithin rfl rfl (Nat.le_of_ble_eq_true rfl) dX0_wayAt_3 ⟨Nat.le_of_ble_eq_true rfl, Nat.le_of_ble_eq_true rfl⟩ ⟨Nat.le_of_ble_eq_true rfl, Nat.le_of_ble_eq_true rfl⟩ (fun H locs hW => ?_)
  refine lv_if_eq (tgt := 18) C.x C.b dX0_wayAt_6 rfl (fun c6 => ?_) (fun c6 => ?_)
  · replace hf := x_ip c6 hf
    refine lv_null C.x C.b dX0_wayAt_18 ?_
    rw [x_e0 hf]
    exact x_aret C hr (Or.inl ⟨_, rfl⟩) hW dX0_wayAt_19
  · replace hf := x_in c6 hf
    refine lv_aload_n C.x C.b dX0_wayAt_9 rfl (lv_at hl 0 rfl) ?_
    replace hf := x_b1 hf; obtain ⟨a10_2, ha10_2, hf⟩ := hf
    refine x_getn C hW fg_X0_31_3 ha10_2 dX0_wayAt_10 ?_
    refine lv_iload_n C.x C.b dX0_wayAt_13 rfl (lv_at hl 1 rfl) ?_
    replace hf := x_b1 hf; obtain ⟨a14_3, ha14_3, hf⟩ := hf
    refine x_aldn C hW (kd := 24) (by decide) (by decide) ha14_3 dX0_wayAt_14 ?_
    refine lv_goto (tgt := 19) C.x C.b dX0_wayAt_15 rfl ?_
    rw [x_e0 hf]
    exact x_aret C hr (Or.inl ⟨_, rfl⟩) hW dX0_wayAt_19

theorem dX11_isFoot_0 : decode cX11_isFoot 0 = .ok (.iload_n 0, 1) := by decide +kernel
theorem dX11_isFoot_1 : decode cX11_isFoot 1 = .ok (.iconst 0, 1) := by decide +kernel
theorem dX11_isFoot_2 : decode cX11_isFoot 2 = .ok (.iconst 1, 1) := by decide +kernel
theorem dX11_isFoot_3 : decode cX11_isFoot 3 = .ok (.invokestatic 69, 3) := by decide +kernel
theorem dX11_isFoot_6 : decode cX11_isFoot 6 = .ok (.ireturn, 1) := by decide +kernel
theorem gs_X11_69 : GoodIn gT (va_wsS "NylonLadder" 69 yX11_isWithin (Cond.code yX11_isWithin cX11_isWithin 3 (some .boolean) :: gT)) := good_S T_2_31 T_2_32 T_1_1 T_2_33
def fX11_isFoot (M : Mm) (p1 : Int32) : Option Int32 :=
  B1 (fX11_isWithin M p1 0 1) fun x3_1 =>
  bz x3_1
set_option maxRecDepth 100000 in
set_option maxHeartbeats 4000000 in
theorem qX11_isFoot (l : Launch) (E : Ev) {M : Mm} {p1 : Int32} {rz : Int32} (hf : fX11_isFoot M p1 = some rz) : Ct l E yX11_isFoot cX11_isFoot 1 (some .boolean) 1 22 0 0 [.int p1] M (some (.int rz)) M := by
  refine ct_of (by decide +kernel) (Nat.le_of_ble_eq_true rfl) fun p e s m args below meth c C hr hin hW ls hl => ?_
  have hl : lv_has ls 1 [(0, .int p1)] := hl
  unfold fX11_isFoot at hf
  refine lv_iload_n C.x C.b dX11_isFoot_0 rfl (lv_at hl 0 rfl) ?_
  refine lv_iconst (v := 0) C.x C.b dX11_isFoot_1 (by decide) ?_
  refine lv_iconst (v := 1) C.x C.b dX11_isFoot_2 (by decide) ?_
  replace hf := x_b1 hf; obtain ⟨x3_1, hx3_1, hf⟩ := hf
  refine x_callS (As := [.int p1, .int 0, .int 1]) (rest := []) C hW hl (qX11_isWithin l E hx3_1) gs_X11_69 hd_X11_isWithin rfl rfl (Nat.le_of_ble_eq_true rfl) dX11_isFoot_3 ⟨Nat.le_of_ble_eq_true rfl, Nat.le_of_ble_eq_true rfl⟩ ⟨Nat.le_of_ble_eq_true rfl, Nat.le_of_ble_eq_true rfl⟩ (fun H locs hW => ?_)
  exact x_zret C hr hW hf dX11_isFoot_6

theorem dX0_wornOn_0 : decode cX0_wornOn 0 = .ok (.iload_n 1, 1) := by decide +kernel
theorem dX0_wornOn_1 : decode cX0_wornOn 1 = .ok (.invokestatic 67, 3) := by decide +kernel
theorem dX0_wornOn_4 : decode cX0_wornOn 4 = .ok (.ifCond .eq 16, 3) := by decide +kernel
theorem dX0_wornOn_7 : decode cX0_wornOn 7 = .ok (.aload_n 0, 1) := by decide +kernel
theorem dX0_wornOn_8 : decode cX0_wornOn 8 = .ok (.aload_n 0, 1) := by decide +kernel
theorem dX0_wornOn_9 : decode cX0_wornOn 9 = .ok (.getfield 25, 3) := by decide +kernel
theorem dX0_wornOn_12 : decode cX0_wornOn 12 = .ok (.iload_n 1, 1) := by decide +kernel
theorem dX0_wornOn_13 : decode cX0_wornOn 13 = .ok (.iaload, 1) := by decide +kernel
theorem dX0_wornOn_14 : decode cX0_wornOn 14 = .ok (.invokevirtual 71, 3) := by decide +kernel
theorem dX0_wornOn_17 : decode cX0_wornOn 17 = .ok (.goto 4, 3) := by decide +kernel
theorem dX0_wornOn_20 : decode cX0_wornOn 20 = .ok (.aconst_null, 1) := by decide +kernel
theorem dX0_wornOn_21 : decode cX0_wornOn 21 = .ok (.areturn, 1) := by decide +kernel
theorem hd_X11_isFoot : yX11_isFoot.cls ≠ "java/lang/invoke/MethodHandle" ∧ yX11_isFoot.cls ≠ "java/lang/invoke/VarHandle" ∧ (parseMethodDescriptor yX11_isFoot.desc).map (fun d => d.parameters.length) = some 1 := by decide +kernel
theorem hd_X0_stockingAt : yX0_stockingAt.cls ≠ "java/lang/invoke/MethodHandle" ∧ yX0_stockingAt.cls ≠ "java/lang/invoke/VarHandle" ∧ (parseMethodDescriptor yX0_stockingAt.desc).map (fun d => d.parameters.length) = some 1 := by decide +kernel
theorem gv_X0_71 : GoodIn gT (wsV "NylonLadder$Drawer" 71 "NylonLadder$Drawer" yX0_stockingAt (Cond.code yX0_stockingAt cX0_stockingAt 2 (some (.object "NylonLadder$Stocking")) :: gT)) := good_V T_3_135 T_2_136 T_2_137 T_1_2 T_2_138
def fX0_wornOn (M : Mm) (o : Nat) (p1 : Int32) : Option (Option Nat) :=
  B1 (fX11_isFoot M p1) fun x1_1 =>
  if x1_1 = 0 then
    some none
  else
    B1 (rdN M o 3 3) fun a9_2 =>
    B1 (alI M a9_2 p1) fun x13_3 =>
    B1 (gk M o 3) fun _ =>
    B1 (fX0_stockingAt M o x13_3) fun x14_5 =>
    some x14_5
set_option maxRecDepth 100000 in
set_option maxHeartbeats 4000000 in
theorem qX0_wornOn (l : Launch) (E : Ev) {M : Mm} {o : Nat} {p1 : Int32} {rz : Option Nat} (hf : fX0_wornOn M o p1 = some rz) : Ct l E yX0_wornOn cX0_wornOn 2 (some (.object "NylonLadder$Stocking")) 2 43 0 0 [.ref (E.b + o), .int p1] M (some (rv E.b rz)) M := by
  refine ct_of (by decide +kernel) (Nat.le_of_ble_eq_true rfl) fun p e s m args below meth c C hr hin hW ls hl => ?_
  have hl : lv_has ls 2 [(0, .ref (E.b + o)), (1, .int p1)] := hl
  unfold fX0_wornOn at hf
  refine lv_iload_n C.x C.b dX0_wornOn_0 rfl (lv_at hl 1 rfl) ?_
  replace hf := x_b1 hf; obtain ⟨x1_1, hx1_1, hf⟩ := hf
  refine x_callSN (host := "NylonLadder") (As := [.int p1]) (rest := []) C hW hl (qX11_isFoot l E hx1_1) T_3_134 T_3_97 T_1_1 T_3_98 hd_X11_isFoot rfl rfl (Nat.le_of_ble_eq_true rfl) dX0_wornOn_1 ⟨Nat.le_of_ble_eq_true rfl, Nat.le_of_ble_eq_true rfl⟩ ⟨Nat.le_of_ble_eq_true rfl, Nat.le_of_ble_eq_true rfl⟩ (fun H locs hW => ?_)
  refine lv_if_eq (tgt := 20) C.x C.b dX0_wornOn_4 rfl (fun c4 => ?_) (fun c4 => ?_)
  · replace hf := x_ip c4 hf
    refine lv_null C.x C.b dX0_wornOn_20 ?_
    rw [x_e0 hf]
    exact x_aret C hr (Or.inl ⟨_, rfl⟩) hW dX0_wornOn_21
  · replace hf := x_in c4 hf
    refine lv_aload_n C.x C.b dX0_wornOn_7 rfl (lv_at hl 0 rfl) ?_
    refine lv_aload_n C.x C.b dX0_wornOn_8 rfl (lv_at hl 0 rfl) ?_
    replace hf := x_b1 hf; obtain ⟨a9_2, ha9_2, hf⟩ := hf
    refine x_getn C hW fg_X0_25_3 ha9_2 dX0_wornOn_9 ?_
    refine lv_iload_n C.x C.b dX0_wornOn_12 rfl (lv_at hl 1 rfl) ?_
    replace hf := x_b1 hf; obtain ⟨x13_3, hx13_3, hf⟩ := hf
    refine x_iald C hW hx13_3 dX0_wornOn_13 ?_
    replace hf := x_b1 hf; obtain ⟨_, hk14_4, hf⟩ := hf
    replace hf := x_b1 hf; obtain ⟨x14_5, hx14_5, hf⟩ := hf
    refine x_callV (As := [.int x13_3]) (a := o) (rest := []) C hW hl (qX0_stockingAt l E hx14_5) (x_gk hk14_4) (by decide) (by decide) rfl gv_X0_71 ⟨rfl, hd_X0_stockingAt⟩ rfl rfl (Nat.le_of_ble_eq_true rfl) dX0_wornOn_14 ⟨Nat.le_of_ble_eq_true rfl, Nat.le_of_ble_eq_true rfl⟩ ⟨Nat.le_of_ble_eq_true rfl, Nat.le_of_ble_eq_true rfl⟩ (fun H locs hW => ?_)
    refine lv_goto (tgt := 21) C.x C.b dX0_wornOn_17 rfl ?_
    rw [x_e0 hf]
    exact x_aret C hr (Or.inl ⟨_, rfl⟩) hW dX0_wornOn_21

theorem dX0_footOf_0 : decode cX0_footOf 0 = .ok (.aload_n 0, 1) := by decide +kernel
theorem dX0_footOf_1 : decode cX0_footOf 1 = .ok (.getfield 25, 3) := by decide +kernel
theorem dX0_footOf_4 : decode cX0_footOf 4 = .ok (.iconst 0, 1) := by decide +kernel
theorem dX0_footOf_5 : decode cX0_footOf 5 = .ok (.iaload, 1) := by decide +kernel
theorem dX0_footOf_6 : decode cX0_footOf 6 = .ok (.iload_n 1, 1) := by decide +kernel
theorem dX0_footOf_7 : decode cX0_footOf 7 = .ok (.if_icmp .ne 5, 3) := by decide +kernel
theorem dX0_footOf_10 : decode cX0_footOf 10 = .ok (.iconst 0, 1) := by decide +kernel
theorem dX0_footOf_11 : decode cX0_footOf 11 = .ok (.ireturn, 1) := by decide +kernel
theorem dX0_footOf_12 : decode cX0_footOf 12 = .ok (.aload_n 0, 1) := by decide +kernel
theorem dX0_footOf_13 : decode cX0_footOf 13 = .ok (.getfield 25, 3) := by decide +kernel
theorem dX0_footOf_16 : decode cX0_footOf 16 = .ok (.iconst 1, 1) := by decide +kernel
theorem dX0_footOf_17 : decode cX0_footOf 17 = .ok (.iaload, 1) := by decide +kernel
theorem dX0_footOf_18 : decode cX0_footOf 18 = .ok (.iload_n 1, 1) := by decide +kernel
theorem dX0_footOf_19 : decode cX0_footOf 19 = .ok (.if_icmp .ne 7, 3) := by decide +kernel
theorem dX0_footOf_22 : decode cX0_footOf 22 = .ok (.iconst 1, 1) := by decide +kernel
theorem dX0_footOf_23 : decode cX0_footOf 23 = .ok (.goto 5, 3) := by decide +kernel
theorem dX0_footOf_26 : decode cX0_footOf 26 = .ok (.bipush (-9), 2) := by decide +kernel
theorem dX0_footOf_28 : decode cX0_footOf 28 = .ok (.ireturn, 1) := by decide +kernel
def fX0_footOf (M : Mm) (o : Nat) (p1 : Int32) : Option Int32 :=
  B1 (rdN M o 3 3) fun a1_1 =>
  B1 (alI M a1_1 0) fun x5_2 =>
  if x5_2 = p1 then
    some 0
  else
    B1 (rdN M o 3 3) fun a13_3 =>
    B1 (alI M a13_3 1) fun x17_4 =>
    if x17_4 = p1 then
      some 1
    else
      some (-9)
set_option maxRecDepth 100000 in
set_option maxHeartbeats 4000000 in
theorem qX0_footOf (l : Launch) (E : Ev) {M : Mm} {o : Nat} {p1 : Int32} {rz : Int32} (hf : fX0_footOf M o p1 = some rz) : Ct l E yX0_footOf cX0_footOf 2 (some .int) 0 0 0 0 [.ref (E.b + o), .int p1] M (some (.int rz)) M := by
  refine ct_of (by decide +kernel) (Nat.le_of_ble_eq_true rfl) fun p e s m args below meth c C hr hin hW ls hl => ?_
  have hl : lv_has ls 2 [(0, .ref (E.b + o)), (1, .int p1)] := hl
  unfold fX0_footOf at hf
  refine lv_aload_n C.x C.b dX0_footOf_0 rfl (lv_at hl 0 rfl) ?_
  replace hf := x_b1 hf; obtain ⟨a1_1, ha1_1, hf⟩ := hf
  refine x_getn C hW fg_X0_25_3 ha1_1 dX0_footOf_1 ?_
  refine lv_iconst (v := 0) C.x C.b dX0_footOf_4 (by decide) ?_
  replace hf := x_b1 hf; obtain ⟨x5_2, hx5_2, hf⟩ := hf
  refine x_iald C hW hx5_2 dX0_footOf_5 ?_
  refine lv_iload_n C.x C.b dX0_footOf_6 rfl (lv_at hl 1 rfl) ?_
  refine lv_icmp_ne (tgt := 12) C.x C.b dX0_footOf_7 rfl (fun c7 => ?_) (fun c7 => ?_)
  · replace hf := x_in c7 hf
    refine lv_aload_n C.x C.b dX0_footOf_12 rfl (lv_at hl 0 rfl) ?_
    replace hf := x_b1 hf; obtain ⟨a13_3, ha13_3, hf⟩ := hf
    refine x_getn C hW fg_X0_25_3 ha13_3 dX0_footOf_13 ?_
    refine lv_iconst (v := 1) C.x C.b dX0_footOf_16 (by decide) ?_
    replace hf := x_b1 hf; obtain ⟨x17_4, hx17_4, hf⟩ := hf
    refine x_iald C hW hx17_4 dX0_footOf_17 ?_
    refine lv_iload_n C.x C.b dX0_footOf_18 rfl (lv_at hl 1 rfl) ?_
    refine lv_icmp_ne (tgt := 26) C.x C.b dX0_footOf_19 rfl (fun c19 => ?_) (fun c19 => ?_)
    · replace hf := x_in c19 hf
      refine lv_bipush (v := (-9)) C.x C.b dX0_footOf_26 (by decide) ?_
      rw [x_e0 hf]
      exact x_iret C hr hW dX0_footOf_28
    · replace hf := x_ip c19 hf
      refine lv_iconst (v := 1) C.x C.b dX0_footOf_22 (by decide) ?_
      refine lv_goto (tgt := 28) C.x C.b dX0_footOf_23 rfl ?_
      rw [x_e0 hf]
      exact x_iret C hr hW dX0_footOf_28
  · replace hf := x_ip c7 hf
    refine lv_iconst (v := 0) C.x C.b dX0_footOf_10 (by decide) ?_
    rw [x_e0 hf]
    exact x_iret C hr hW dX0_footOf_11

theorem dX0_isOnAFoot_0 : decode cX0_isOnAFoot 0 = .ok (.aload_n 0, 1) := by decide +kernel
theorem dX0_isOnAFoot_1 : decode cX0_isOnAFoot 1 = .ok (.iload_n 1, 1) := by decide +kernel
theorem dX0_isOnAFoot_2 : decode cX0_isOnAFoot 2 = .ok (.invokevirtual 75, 3) := by decide +kernel
theorem dX0_isOnAFoot_5 : decode cX0_isOnAFoot 5 = .ok (.bipush (-9), 2) := by decide +kernel
theorem dX0_isOnAFoot_7 : decode cX0_isOnAFoot 7 = .ok (.if_icmp .eq 7, 3) := by decide +kernel
theorem dX0_isOnAFoot_10 : decode cX0_isOnAFoot 10 = .ok (.iconst 1, 1) := by decide +kernel
theorem dX0_isOnAFoot_11 : decode cX0_isOnAFoot 11 = .ok (.goto 4, 3) := by decide +kernel
theorem dX0_isOnAFoot_14 : decode cX0_isOnAFoot 14 = .ok (.iconst 0, 1) := by decide +kernel
theorem dX0_isOnAFoot_15 : decode cX0_isOnAFoot 15 = .ok (.ireturn, 1) := by decide +kernel
theorem hd_X0_footOf : yX0_footOf.cls ≠ "java/lang/invoke/MethodHandle" ∧ yX0_footOf.cls ≠ "java/lang/invoke/VarHandle" ∧ (parseMethodDescriptor yX0_footOf.desc).map (fun d => d.parameters.length) = some 1 := by decide +kernel
theorem gv_X0_75 : GoodIn gT (wsV "NylonLadder$Drawer" 75 "NylonLadder$Drawer" yX0_footOf (Cond.code yX0_footOf cX0_footOf 2 (some .int) :: gT)) := good_V T_2_144 T_2_145 T_2_146 T_1_2 T_2_147
def fX0_isOnAFoot (M : Mm) (o : Nat) (p1 : Int32) : Option Int32 :=
  B1 (gk M o 3) fun _ =>
  B1 (fX0_footOf M o p1) fun x2_2 =>
  if x2_2 = (-9) then
    some 0
  else
    some 1
set_option maxRecDepth 100000 in
set_option maxHeartbeats 4000000 in
theorem qX0_isOnAFoot (l : Launch) (E : Ev) {M : Mm} {o : Nat} {p1 : Int32} {rz : Int32} (hf : fX0_isOnAFoot M o p1 = some rz) : Ct l E yX0_isOnAFoot cX0_isOnAFoot 2 (some .boolean) 1 21 0 0 [.ref (E.b + o), .int p1] M (some (.int rz)) M := by
  refine ct_of (by decide +kernel) (Nat.le_of_ble_eq_true rfl) fun p e s m args below meth c C hr hin hW ls hl => ?_
  have hl : lv_has ls 2 [(0, .ref (E.b + o)), (1, .int p1)] := hl
  unfold fX0_isOnAFoot at hf
  refine lv_aload_n C.x C.b dX0_isOnAFoot_0 rfl (lv_at hl 0 rfl) ?_
  refine lv_iload_n C.x C.b dX0_isOnAFoot_1 rfl (lv_at hl 1 rfl) ?_
  replace hf := x_b1 hf; obtain ⟨_, hk2_1, hf⟩ := hf
  replace hf := x_b1 hf; obtain ⟨x2_2, hx2_2, hf⟩ := hf
  refine x_callV (As := [.int p1]) (a := o) (rest := []) C hW hl (qX0_footOf l E hx2_2) (x_gk hk2_1) (by decide) (by decide) rfl gv_X0_75 ⟨rfl, hd_X0_footOf⟩ rfl rfl (Nat.le_of_ble_eq_true rfl) dX0_isOnAFoot_2 ⟨Nat.le_of_ble_eq_true rfl, Nat.le_of_ble_eq_true rfl⟩ ⟨Nat.le_of_ble_eq_true rfl, Nat.le_of_ble_eq_true rfl⟩ (fun H locs hW => ?_)
  refine lv_bipush (v := (-9)) C.x C.b dX0_isOnAFoot_5 (by decide) ?_
  refine lv_icmp_eq (tgt := 14) C.x C.b dX0_isOnAFoot_7 rfl (fun c7 => ?_) (fun c7 => ?_)
  · replace hf := x_ip c7 hf
    refine lv_iconst (v := 0) C.x C.b dX0_isOnAFoot_14 (by decide) ?_
    rw [x_e0 hf]
    exact x_zret C hr hW (v := 0) (w := 0) rfl dX0_isOnAFoot_15
  · replace hf := x_in c7 hf
    refine lv_iconst (v := 1) C.x C.b dX0_isOnAFoot_10 (by decide) ?_
    refine lv_goto (tgt := 15) C.x C.b dX0_isOnAFoot_11 rfl ?_
    rw [x_e0 hf]
    exact x_zret C hr hW (v := 1) (w := 1) rfl dX0_isOnAFoot_15

theorem dX10_hasLeg_0 : decode cX10_hasLeg 0 = .ok (.iload_n 1, 1) := by decide +kernel
theorem dX10_hasLeg_1 : decode cX10_hasLeg 1 = .ok (.iconst 0, 1) := by decide +kernel
theorem dX10_hasLeg_2 : decode cX10_hasLeg 2 = .ok (.aload_n 0, 1) := by decide +kernel
theorem dX10_hasLeg_3 : decode cX10_hasLeg 3 = .ok (.getfield 9, 3) := by decide +kernel
theorem dX10_hasLeg_6 : decode cX10_hasLeg 6 = .ok (.iconst 1, 1) := by decide +kernel
theorem dX10_hasLeg_7 : decode cX10_hasLeg 7 = .ok (.isub, 1) := by decide +kernel
theorem dX10_hasLeg_8 : decode cX10_hasLeg 8 = .ok (.invokestatic 28, 3) := by decide +kernel
theorem dX10_hasLeg_11 : decode cX10_hasLeg 11 = .ok (.ireturn, 1) := by decide +kernel
def fX10_hasLeg (M : Mm) (o : Nat) (p1 : Int32) : Option Int32 :=
  B1 (rdI M o 13 0) fun x3_1 =>
  B1 (fX11_isWithin M p1 0 (x3_1 - 1)) fun x8_2 =>
  bz x8_2
set_option maxRecDepth 100000 in
set_option maxHeartbeats 4000000 in
theorem qX10_hasLeg (l : Launch) (E : Ev) {M : Mm} {o : Nat} {p1 : Int32} {rz : Int32} (hf : fX10_hasLeg M o p1 = some rz) : Ct l E yX10_hasLeg cX10_hasLeg 2 (some .boolean) 1 22 0 0 [.ref (E.b + o), .int p1] M (some (.int rz)) M := by
  refine ct_of (by decide +kernel) (Nat.le_of_ble_eq_true rfl) fun p e s m args below meth c C hr hin hW ls hl => ?_
  have hl : lv_has ls 2 [(0, .ref (E.b + o)), (1, .int p1)] := hl
  unfold fX10_hasLeg at hf
  refine lv_iload_n C.x C.b dX10_hasLeg_0 rfl (lv_at hl 1 rfl) ?_
  refine lv_iconst (v := 0) C.x C.b dX10_hasLeg_1 (by decide) ?_
  refine lv_aload_n C.x C.b dX10_hasLeg_2 rfl (lv_at hl 0 rfl) ?_
  replace hf := x_b1 hf; obtain ⟨x3_1, hx3_1, hf⟩ := hf
  refine x_geti C hW fg_X10_9_13 hx3_1 dX10_hasLeg_3 ?_
  refine lv_iconst (v := 1) C.x C.b dX10_hasLeg_6 (by decide) ?_
  refine lv_isub C.x C.b dX10_hasLeg_7 ?_
  replace hf := x_b1 hf; obtain ⟨x8_2, hx8_2, hf⟩ := hf
  refine x_callSN (host := "NylonLadder") (As := [.int p1, .int 0, .int (x3_1 - 1)]) (rest := []) C hW hl (qX11_isWithin l E hx8_2) T_3_116 T_2_32 T_1_1 T_2_33 hd_X11_isWithin rfl rfl (Nat.le_of_ble_eq_true rfl) dX10_hasLeg_8 ⟨Nat.le_of_ble_eq_true rfl, Nat.le_of_ble_eq_true rfl⟩ ⟨Nat.le_of_ble_eq_true rfl, Nat.le_of_ble_eq_true rfl⟩ (fun H locs hW => ?_)
  exact x_zret C hr hW hf dX10_hasLeg_11

theorem dX7_stand_0 : decode cX7_stand 0 = .ok (.iconst 0, 1) := by decide +kernel
theorem dX7_stand_1 : decode cX7_stand 1 = .ok (.istore_n 2, 1) := by decide +kernel
theorem dX7_stand_2 : decode cX7_stand 2 = .ok (.iload_n 2, 1) := by decide +kernel
theorem dX7_stand_3 : decode cX7_stand 3 = .ok (.aload_n 0, 1) := by decide +kernel
theorem dX7_stand_4 : decode cX7_stand 4 = .ok (.getfield 36, 3) := by decide +kernel
theorem dX7_stand_7 : decode cX7_stand 7 = .ok (.if_icmp .ge 32, 3) := by decide +kernel
theorem dX7_stand_10 : decode cX7_stand 10 = .ok (.iload_n 2, 1) := by decide +kernel
theorem dX7_stand_11 : decode cX7_stand 11 = .ok (.iconst 2, 1) := by decide +kernel
theorem dX7_stand_12 : decode cX7_stand 12 = .ok (.if_icmp .ge 27, 3) := by decide +kernel
theorem dX7_stand_15 : decode cX7_stand 15 = .ok (.aload_n 0, 1) := by decide +kernel
theorem dX7_stand_16 : decode cX7_stand 16 = .ok (.getfield 43, 3) := by decide +kernel
theorem dX7_stand_19 : decode cX7_stand 19 = .ok (.iload_n 2, 1) := by decide +kernel
theorem dX7_stand_20 : decode cX7_stand 20 = .ok (.iconst 0, 1) := by decide +kernel
theorem dX7_stand_21 : decode cX7_stand 21 = .ok (.aload_n 0, 1) := by decide +kernel
theorem dX7_stand_22 : decode cX7_stand 22 = .ok (.getfield 43, 3) := by decide +kernel
theorem dX7_stand_25 : decode cX7_stand 25 = .ok (.iload_n 2, 1) := by decide +kernel
theorem dX7_stand_26 : decode cX7_stand 26 = .ok (.iaload, 1) := by decide +kernel
theorem dX7_stand_27 : decode cX7_stand 27 = .ok (.iload_n 1, 1) := by decide +kernel
theorem dX7_stand_28 : decode cX7_stand 28 = .ok (.isub, 1) := by decide +kernel
theorem dX7_stand_29 : decode cX7_stand 29 = .ok (.invokestatic 63, 3) := by decide +kernel
theorem dX7_stand_32 : decode cX7_stand 32 = .ok (.iastore, 1) := by decide +kernel
theorem dX7_stand_33 : decode cX7_stand 33 = .ok (.iinc 2 1, 3) := by decide +kernel
theorem dX7_stand_36 : decode cX7_stand 36 = .ok (.goto (-34), 3) := by decide +kernel
theorem dX7_stand_39 : decode cX7_stand 39 = .ok (.return_, 1) := by decide +kernel
def fX7_stand_L2 (o : Nat) (v1 : Int32) : Nat → Int32 → Mm → Option Mm
  | 0, _, _ => none
  | n + 1, v2, M =>
    B1 (rdI M o 10 8) fun x4_1 =>
    if x4_1 ≤ v2 then
      some M
    else
      if 2 ≤ v2 then
        some M
      else
        B1 (rdN M o 10 10) fun a16_2 =>
        B1 (rdN M o 10 10) fun a22_3 =>
        B1 (alI M a22_3 v2) fun x26_4 =>
        B1 (asI M a16_2 v2 (mxI 0 (x26_4 - v1))) fun M32_5 =>
        fX7_stand_L2 o v1 n (v2 + 1) M32_5
def fX7_stand (M : Mm) (o : Nat) (p1 : Int32) : Option Mm :=
  fX7_stand_L2 o p1 FL 0 M
set_option maxRecDepth 100000 in
set_option maxHeartbeats 4000000 in
theorem kX7_stand_L2 {l : Launch} {E : Ev} {p : Program} {e : Env} {s : State} {m : MethodId} {args : Array Value} {below : List Frame} {meth : Method} {c : Code} (C : Cx E p s m args meth c cX7_stand yX7_stand.cls 3) (hr : meth.sig.returnType = none) (hin : yX7_stand.name = "<init>" → meth.name = "<init>")  {o : Nat} {v1 : Int32} {Mz : Mm} : ∀ (n : Nat) (v2 : Int32) (M : Mm), fX7_stand_L2 o v1 n v2 M = some Mz → ∀ (H : Heap) (locs : List Loc) (ls : Array Slot), Wx E s H locs M → lv_has ls 3 [(0, .ref (E.b + o)), (1, .int v1), (2, .int v2)] → W p l e (rM 1 15 0 0) s m args below meth c H locs 0 0 (MQ below (Qp E none Mz) args s 0 0 E.A) (F0 m 2 ls []) := by
  intro n
  induction n with
  | zero =>
    intro v2 M hf
    unfold fX7_stand_L2 at hf
    cases hf
  | succ n ih =>
    intro v2 M hf H locs ls hW hl
    unfold fX7_stand_L2 at hf
    refine lv_iload_n C.x C.b dX7_stand_2 rfl (lv_at hl 2 rfl) ?_
    refine lv_aload_n C.x C.b dX7_stand_3 rfl (lv_at hl 0 rfl) ?_
    replace hf := x_b1 hf; obtain ⟨x4_1, hx4_1, hf⟩ := hf
    refine x_geti C hW fg_X7_36_10 hx4_1 dX7_stand_4 ?_
    refine lv_icmp_ge (tgt := 39) C.x C.b dX7_stand_7 rfl (fun c7 => ?_) (fun c7 => ?_)
    · replace hf := x_ip c7 hf
      rw [x_e0 hf]
      exact x_vret C hr hW dX7_stand_39
    · replace hf := x_in c7 hf
      refine lv_iload_n C.x C.b dX7_stand_10 rfl (lv_at hl 2 rfl) ?_
      refine lv_iconst (v := 2) C.x C.b dX7_stand_11 (by decide) ?_
      refine lv_icmp_ge (tgt := 39) C.x C.b dX7_stand_12 rfl (fun c12 => ?_) (fun c12 => ?_)
      · replace hf := x_ip c12 hf
        rw [x_e0 hf]
        exact x_vret C hr hW dX7_stand_39
      · replace hf := x_in c12 hf
        refine lv_aload_n C.x C.b dX7_stand_15 rfl (lv_at hl 0 rfl) ?_
        replace hf := x_b1 hf; obtain ⟨a16_2, ha16_2, hf⟩ := hf
        refine x_getn C hW fg_X7_43_10 ha16_2 dX7_stand_16 ?_
        refine lv_iload_n C.x C.b dX7_stand_19 rfl (lv_at hl 2 rfl) ?_
        refine lv_iconst (v := 0) C.x C.b dX7_stand_20 (by decide) ?_
        refine lv_aload_n C.x C.b dX7_stand_21 rfl (lv_at hl 0 rfl) ?_
        replace hf := x_b1 hf; obtain ⟨a22_3, ha22_3, hf⟩ := hf
        refine x_getn C hW fg_X7_43_10 ha22_3 dX7_stand_22 ?_
        refine lv_iload_n C.x C.b dX7_stand_25 rfl (lv_at hl 2 rfl) ?_
        replace hf := x_b1 hf; obtain ⟨x26_4, hx26_4, hf⟩ := hf
        refine x_iald C hW hx26_4 dX7_stand_26 ?_
        refine lv_iload_n C.x C.b dX7_stand_27 rfl (lv_at hl 1 rfl) ?_
        refine lv_isub C.x C.b dX7_stand_28 ?_
        refine x_mmax C hl T_3_144 T_3_145 T_1_15 T_3_146 (Nat.le_of_ble_eq_true rfl) (Nat.le_of_ble_eq_true rfl) ⟨Nat.le_of_ble_eq_true rfl, Nat.le_of_ble_eq_true rfl⟩ dX7_stand_29 ?_
        replace hf := x_b1 hf; obtain ⟨M32_5, hM32_5, hf⟩ := hf
        refine x_iast C hW hM32_5 dX7_stand_32 (fun H locs hW => ?_)
        refine lv_iinc (v := (v2 + 1)) (lv' := [(2, .int (v2 + 1)), (0, .ref (E.b + _)), (1, .int _)]) C.x C.b dX7_stand_33 hl (k := 2) rfl (by first | rfl | decide) (by decide) rfl (fun ls hl => ?_)
        refine lv_goto (tgt := 2) C.x C.b dX7_stand_36 rfl ?_
        exact ih (v2 + 1) M32_5 hf _ _ _ hW (lv_sub hl [1, 2, 0] rfl)
set_option maxRecDepth 100000 in
set_option maxHeartbeats 4000000 in
theorem qX7_stand (l : Launch) (E : Ev) {M : Mm} {o : Nat} {p1 : Int32} {Mz : Mm} (hf : fX7_stand M o p1 = some Mz) : Ct l E yX7_stand cX7_stand 3 none 1 15 0 0 [.ref (E.b + o), .int p1] M none Mz := by
  refine ct_of (by decide +kernel) (Nat.le_of_ble_eq_true rfl) fun p e s m args below meth c C hr hin hW ls hl => ?_
  have hl : lv_has ls 3 [(0, .ref (E.b + o)), (1, .int p1)] := hl
  unfold fX7_stand at hf
  refine lv_iconst (v := 0) C.x C.b dX7_stand_0 (by decide) ?_
  refine lv_istore_n (lv' := [(2, .int _), (0, .ref (E.b + _)), (1, .int _)]) C.x C.b dX7_stand_1 rfl hl (by decide) rfl (fun ls hl => ?_)
  exact kX7_stand_L2 C hr hin FL 0 M hf _ _ _ hW (lv_sub hl [1, 2, 0] rfl)

theorem dX7_loseWetDabs_0 : decode cX7_loseWetDabs 0 = .ok (.iconst 0, 1) := by decide +kernel
theorem dX7_loseWetDabs_1 : decode cX7_loseWetDabs 1 = .ok (.istore_n 1, 1) := by decide +kernel
theorem dX7_loseWetDabs_2 : decode cX7_loseWetDabs 2 = .ok (.iconst 0, 1) := by decide +kernel
theorem dX7_loseWetDabs_3 : decode cX7_loseWetDabs 3 = .ok (.istore_n 2, 1) := by decide +kernel
theorem dX7_loseWetDabs_4 : decode cX7_loseWetDabs 4 = .ok (.iload_n 2, 1) := by decide +kernel
theorem dX7_loseWetDabs_5 : decode cX7_loseWetDabs 5 = .ok (.aload_n 0, 1) := by decide +kernel
theorem dX7_loseWetDabs_6 : decode cX7_loseWetDabs 6 = .ok (.getfield 36, 3) := by decide +kernel
theorem dX7_loseWetDabs_9 : decode cX7_loseWetDabs 9 = .ok (.if_icmp .ge 45, 3) := by decide +kernel
theorem dX7_loseWetDabs_12 : decode cX7_loseWetDabs 12 = .ok (.iload_n 2, 1) := by decide +kernel
theorem dX7_loseWetDabs_13 : decode cX7_loseWetDabs 13 = .ok (.iconst 2, 1) := by decide +kernel
theorem dX7_loseWetDabs_14 : decode cX7_loseWetDabs 14 = .ok (.if_icmp .ge 40, 3) := by decide +kernel
theorem dX7_loseWetDabs_17 : decode cX7_loseWetDabs 17 = .ok (.aload_n 0, 1) := by decide +kernel
theorem dX7_loseWetDabs_18 : decode cX7_loseWetDabs 18 = .ok (.getfield 43, 3) := by decide +kernel
theorem dX7_loseWetDabs_21 : decode cX7_loseWetDabs 21 = .ok (.iload_n 2, 1) := by decide +kernel
theorem dX7_loseWetDabs_22 : decode cX7_loseWetDabs 22 = .ok (.iaload, 1) := by decide +kernel
theorem dX7_loseWetDabs_23 : decode cX7_loseWetDabs 23 = .ok (.ifCond .ne 25, 3) := by decide +kernel
theorem dX7_loseWetDabs_26 : decode cX7_loseWetDabs 26 = .ok (.aload_n 0, 1) := by decide +kernel
theorem dX7_loseWetDabs_27 : decode cX7_loseWetDabs 27 = .ok (.getfield 39, 3) := by decide +kernel
theorem dX7_loseWetDabs_30 : decode cX7_loseWetDabs 30 = .ok (.iload_n 1, 1) := by decide +kernel
theorem dX7_loseWetDabs_31 : decode cX7_loseWetDabs 31 = .ok (.aload_n 0, 1) := by decide +kernel
theorem dX7_loseWetDabs_32 : decode cX7_loseWetDabs 32 = .ok (.getfield 39, 3) := by decide +kernel
theorem dX7_loseWetDabs_35 : decode cX7_loseWetDabs 35 = .ok (.iload_n 2, 1) := by decide +kernel
theorem dX7_loseWetDabs_36 : decode cX7_loseWetDabs 36 = .ok (.iaload, 1) := by decide +kernel
theorem dX7_loseWetDabs_37 : decode cX7_loseWetDabs 37 = .ok (.iastore, 1) := by decide +kernel
theorem dX7_loseWetDabs_38 : decode cX7_loseWetDabs 38 = .ok (.aload_n 0, 1) := by decide +kernel
theorem dX7_loseWetDabs_39 : decode cX7_loseWetDabs 39 = .ok (.getfield 43, 3) := by decide +kernel
theorem dX7_loseWetDabs_42 : decode cX7_loseWetDabs 42 = .ok (.iload_n 1, 1) := by decide +kernel
theorem dX7_loseWetDabs_43 : decode cX7_loseWetDabs 43 = .ok (.iconst 0, 1) := by decide +kernel
theorem dX7_loseWetDabs_44 : decode cX7_loseWetDabs 44 = .ok (.iastore, 1) := by decide +kernel
theorem dX7_loseWetDabs_45 : decode cX7_loseWetDabs 45 = .ok (.iinc 1 1, 3) := by decide +kernel
theorem dX7_loseWetDabs_48 : decode cX7_loseWetDabs 48 = .ok (.iinc 2 1, 3) := by decide +kernel
theorem dX7_loseWetDabs_51 : decode cX7_loseWetDabs 51 = .ok (.goto (-47), 3) := by decide +kernel
theorem dX7_loseWetDabs_54 : decode cX7_loseWetDabs 54 = .ok (.aload_n 0, 1) := by decide +kernel
theorem dX7_loseWetDabs_55 : decode cX7_loseWetDabs 55 = .ok (.iload_n 1, 1) := by decide +kernel
theorem dX7_loseWetDabs_56 : decode cX7_loseWetDabs 56 = .ok (.putfield 36, 3) := by decide +kernel
theorem dX7_loseWetDabs_59 : decode cX7_loseWetDabs 59 = .ok (.return_, 1) := by decide +kernel
def fX7_loseWetDabs_L4 (o : Nat) : Nat → Int32 → Int32 → Mm → Option Mm
  | 0, _, _, _ => none
  | n + 1, v1, v2, M =>
    B1 (rdI M o 10 8) fun x6_1 =>
    if x6_1 ≤ v2 then
      B1 (wrI M o 10 8 v1) fun M56_2 =>
      some M56_2
    else
      if 2 ≤ v2 then
        B1 (wrI M o 10 8 v1) fun M56_3 =>
        some M56_3
      else
        B1 (rdN M o 10 10) fun a18_4 =>
        B1 (alI M a18_4 v2) fun x22_5 =>
        if x22_5 = 0 then
          B1 (rdN M o 10 9) fun a27_6 =>
          B1 (rdN M o 10 9) fun a32_7 =>
          B1 (alI M a32_7 v2) fun x36_8 =>
          B1 (asI M a27_6 v1 x36_8) fun M37_9 =>
          B1 (rdN M37_9 o 10 10) fun a39_10 =>
          B1 (asI M37_9 a39_10 v1 0) fun M44_11 =>
          fX7_loseWetDabs_L4 o n (v1 + 1) (v2 + 1) M44_11
        else
          fX7_loseWetDabs_L4 o n v1 (v2 + 1) M
def fX7_loseWetDabs (M : Mm) (o : Nat) : Option Mm :=
  fX7_loseWetDabs_L4 o FL 0 0 M
set_option maxRecDepth 100000 in
set_option maxHeartbeats 4000000 in
theorem kX7_loseWetDabs_L4 {l : Launch} {E : Ev} {p : Program} {e : Env} {s : State} {m : MethodId} {args : Array Value} {below : List Frame} {meth : Method} {c : Code} (C : Cx E p s m args meth c cX7_loseWetDabs yX7_loseWetDabs.cls 3) (hr : meth.sig.returnType = none) (hin : yX7_loseWetDabs.name = "<init>" → meth.name = "<init>")  {o : Nat} {Mz : Mm} : ∀ (n : Nat) (v1 : Int32) (v2 : Int32) (M : Mm), fX7_loseWetDabs_L4 o n v1 v2 M = some Mz → ∀ (H : Heap) (locs : List Loc) (ls : Array Slot), Wx E s H locs M → lv_has ls 3 [(0, .ref (E.b + o)), (1, .int v1), (2, .int v2)] → W p l e (rM 0 0 0 0) s m args below meth c H locs 0 0 (MQ below (Qp E none Mz) args s 0 0 E.A) (F0 m 4 ls []) := by
  intro n
  induction n with
  | zero =>
    intro v1 v2 M hf
    unfold fX7_loseWetDabs_L4 at hf
    cases hf
  | succ n ih =>
    intro v1 v2 M hf H locs ls hW hl
    unfold fX7_loseWetDabs_L4 at hf
    refine lv_iload_n C.x C.b dX7_loseWetDabs_4 rfl (lv_at hl 2 rfl) ?_
    refine lv_aload_n C.x C.b dX7_loseWetDabs_5 rfl (lv_at hl 0 rfl) ?_
    replace hf := x_b1 hf; obtain ⟨x6_1, hx6_1, hf⟩ := hf
    refine x_geti C hW fg_X7_36_10 hx6_1 dX7_loseWetDabs_6 ?_
    refine lv_icmp_ge (tgt := 54) C.x C.b dX7_loseWetDabs_9 rfl (fun c9 => ?_) (fun c9 => ?_)
    · replace hf := x_ip c9 hf
      refine lv_aload_n C.x C.b dX7_loseWetDabs_54 rfl (lv_at hl 0 rfl) ?_
      refine lv_iload_n C.x C.b dX7_loseWetDabs_55 rfl (lv_at hl 1 rfl) ?_
      replace hf := x_b1 hf; obtain ⟨M56_2, hM56_2, hf⟩ := hf
      refine x_puti C hW fp_X7_36_10 hM56_2 (fun h => by cases h) dX7_loseWetDabs_56 (fun H locs hW => ?_)
      rw [x_e0 hf]
      exact x_vret C hr hW dX7_loseWetDabs_59
    · replace hf := x_in c9 hf
      refine lv_iload_n C.x C.b dX7_loseWetDabs_12 rfl (lv_at hl 2 rfl) ?_
      refine lv_iconst (v := 2) C.x C.b dX7_loseWetDabs_13 (by decide) ?_
      refine lv_icmp_ge (tgt := 54) C.x C.b dX7_loseWetDabs_14 rfl (fun c14 => ?_) (fun c14 => ?_)
      · replace hf := x_ip c14 hf
        refine lv_aload_n C.x C.b dX7_loseWetDabs_54 rfl (lv_at hl 0 rfl) ?_
        refine lv_iload_n C.x C.b dX7_loseWetDabs_55 rfl (lv_at hl 1 rfl) ?_
        replace hf := x_b1 hf; obtain ⟨M56_3, hM56_3, hf⟩ := hf
        refine x_puti C hW fp_X7_36_10 hM56_3 (fun h => by cases h) dX7_loseWetDabs_56 (fun H locs hW => ?_)
        rw [x_e0 hf]
        exact x_vret C hr hW dX7_loseWetDabs_59
      · replace hf := x_in c14 hf
        refine lv_aload_n C.x C.b dX7_loseWetDabs_17 rfl (lv_at hl 0 rfl) ?_
        replace hf := x_b1 hf; obtain ⟨a18_4, ha18_4, hf⟩ := hf
        refine x_getn C hW fg_X7_43_10 ha18_4 dX7_loseWetDabs_18 ?_
        refine lv_iload_n C.x C.b dX7_loseWetDabs_21 rfl (lv_at hl 2 rfl) ?_
        replace hf := x_b1 hf; obtain ⟨x22_5, hx22_5, hf⟩ := hf
        refine x_iald C hW hx22_5 dX7_loseWetDabs_22 ?_
        refine lv_if_ne (tgt := 48) C.x C.b dX7_loseWetDabs_23 rfl (fun c23 => ?_) (fun c23 => ?_)
        · replace hf := x_in c23 hf
          refine lv_iinc (v := (v2 + 1)) (lv' := [(2, .int (v2 + 1)), (0, .ref (E.b + _)), (1, .int _)]) C.x C.b dX7_loseWetDabs_48 hl (k := 2) rfl (by first | rfl | decide) (by decide) rfl (fun ls hl => ?_)
          refine lv_goto (tgt := 4) C.x C.b dX7_loseWetDabs_51 rfl ?_
          exact ih v1 (v2 + 1) M hf _ _ _ hW (lv_sub hl [1, 2, 0] rfl)
        · replace hf := x_ip c23 hf
          refine lv_aload_n C.x C.b dX7_loseWetDabs_26 rfl (lv_at hl 0 rfl) ?_
          replace hf := x_b1 hf; obtain ⟨a27_6, ha27_6, hf⟩ := hf
          refine x_getn C hW fg_X7_39_10 ha27_6 dX7_loseWetDabs_27 ?_
          refine lv_iload_n C.x C.b dX7_loseWetDabs_30 rfl (lv_at hl 1 rfl) ?_
          refine lv_aload_n C.x C.b dX7_loseWetDabs_31 rfl (lv_at hl 0 rfl) ?_
          replace hf := x_b1 hf; obtain ⟨a32_7, ha32_7, hf⟩ := hf
          refine x_getn C hW fg_X7_39_10 ha32_7 dX7_loseWetDabs_32 ?_
          refine lv_iload_n C.x C.b dX7_loseWetDabs_35 rfl (lv_at hl 2 rfl) ?_
          replace hf := x_b1 hf; obtain ⟨x36_8, hx36_8, hf⟩ := hf
          refine x_iald C hW hx36_8 dX7_loseWetDabs_36 ?_
          replace hf := x_b1 hf; obtain ⟨M37_9, hM37_9, hf⟩ := hf
          refine x_iast C hW hM37_9 dX7_loseWetDabs_37 (fun H locs hW => ?_)
          refine lv_aload_n C.x C.b dX7_loseWetDabs_38 rfl (lv_at hl 0 rfl) ?_
          replace hf := x_b1 hf; obtain ⟨a39_10, ha39_10, hf⟩ := hf
          refine x_getn C hW fg_X7_43_10 ha39_10 dX7_loseWetDabs_39 ?_
          refine lv_iload_n C.x C.b dX7_loseWetDabs_42 rfl (lv_at hl 1 rfl) ?_
          refine lv_iconst (v := 0) C.x C.b dX7_loseWetDabs_43 (by decide) ?_
          replace hf := x_b1 hf; obtain ⟨M44_11, hM44_11, hf⟩ := hf
          refine x_iast C hW hM44_11 dX7_loseWetDabs_44 (fun H locs hW => ?_)
          refine lv_iinc (v := (v1 + 1)) (lv' := [(1, .int (v1 + 1)), (0, .ref (E.b + _)), (2, .int _)]) C.x C.b dX7_loseWetDabs_45 hl (k := 1) rfl (by first | rfl | decide) (by decide) rfl (fun ls hl => ?_)
          refine lv_iinc (v := (v2 + 1)) (lv' := [(2, .int (v2 + 1)), (1, .int _), (0, .ref (E.b + _))]) C.x C.b dX7_loseWetDabs_48 hl (k := 2) rfl (by first | rfl | decide) (by decide) rfl (fun ls hl => ?_)
          refine lv_goto (tgt := 4) C.x C.b dX7_loseWetDabs_51 rfl ?_
          exact ih (v1 + 1) (v2 + 1) M44_11 hf _ _ _ hW (lv_sub hl [2, 1, 0] rfl)
set_option maxRecDepth 100000 in
set_option maxHeartbeats 4000000 in
theorem qX7_loseWetDabs (l : Launch) (E : Ev) {M : Mm} {o : Nat} {Mz : Mm} (hf : fX7_loseWetDabs M o = some Mz) : Ct l E yX7_loseWetDabs cX7_loseWetDabs 3 none 0 0 0 0 [.ref (E.b + o)] M none Mz := by
  refine ct_of (by decide +kernel) (Nat.le_of_ble_eq_true rfl) fun p e s m args below meth c C hr hin hW ls hl => ?_
  have hl : lv_has ls 3 [(0, .ref (E.b + o))] := hl
  unfold fX7_loseWetDabs at hf
  refine lv_iconst (v := 0) C.x C.b dX7_loseWetDabs_0 (by decide) ?_
  refine lv_istore_n (lv' := [(1, .int _), (0, .ref (E.b + _))]) C.x C.b dX7_loseWetDabs_1 rfl hl (by decide) rfl (fun ls hl => ?_)
  refine lv_iconst (v := 0) C.x C.b dX7_loseWetDabs_2 (by decide) ?_
  refine lv_istore_n (lv' := [(2, .int _), (1, .int _), (0, .ref (E.b + _))]) C.x C.b dX7_loseWetDabs_3 rfl hl (by decide) rfl (fun ls hl => ?_)
  exact kX7_loseWetDabs_L4 C hr hin FL 0 0 M hf _ _ _ hW (lv_sub hl [2, 1, 0] rfl)

theorem dX7_hasLadder_0 : decode cX7_hasLadder 0 = .ok (.aload_n 0, 1) := by decide +kernel
theorem dX7_hasLadder_1 : decode cX7_hasLadder 1 = .ok (.getfield 30, 3) := by decide +kernel
theorem dX7_hasLadder_4 : decode cX7_hasLadder 4 = .ok (.ifCond .lt 7, 3) := by decide +kernel
theorem dX7_hasLadder_7 : decode cX7_hasLadder 7 = .ok (.iconst 1, 1) := by decide +kernel
theorem dX7_hasLadder_8 : decode cX7_hasLadder 8 = .ok (.goto 4, 3) := by decide +kernel
theorem dX7_hasLadder_11 : decode cX7_hasLadder 11 = .ok (.iconst 0, 1) := by decide +kernel
theorem dX7_hasLadder_12 : decode cX7_hasLadder 12 = .ok (.ireturn, 1) := by decide +kernel
def fX7_hasLadder (M : Mm) (o : Nat) : Option Int32 :=
  B1 (rdI M o 10 6) fun x1_1 =>
  if x1_1 < 0 then
    some 0
  else
    some 1
set_option maxRecDepth 100000 in
set_option maxHeartbeats 4000000 in
theorem qX7_hasLadder (l : Launch) (E : Ev) {M : Mm} {o : Nat} {rz : Int32} (hf : fX7_hasLadder M o = some rz) : Ct l E yX7_hasLadder cX7_hasLadder 1 (some .boolean) 0 0 0 0 [.ref (E.b + o)] M (some (.int rz)) M := by
  refine ct_of (by decide +kernel) (Nat.le_of_ble_eq_true rfl) fun p e s m args below meth c C hr hin hW ls hl => ?_
  have hl : lv_has ls 1 [(0, .ref (E.b + o))] := hl
  unfold fX7_hasLadder at hf
  refine lv_aload_n C.x C.b dX7_hasLadder_0 rfl (lv_at hl 0 rfl) ?_
  replace hf := x_b1 hf; obtain ⟨x1_1, hx1_1, hf⟩ := hf
  refine x_geti C hW fg_X7_30_10 hx1_1 dX7_hasLadder_1 ?_
  refine lv_if_lt (tgt := 11) C.x C.b dX7_hasLadder_4 rfl (fun c4 => ?_) (fun c4 => ?_)
  · replace hf := x_ip c4 hf
    refine lv_iconst (v := 0) C.x C.b dX7_hasLadder_11 (by decide) ?_
    rw [x_e0 hf]
    exact x_zret C hr hW (v := 0) (w := 0) rfl dX7_hasLadder_12
  · replace hf := x_in c4 hf
    refine lv_iconst (v := 1) C.x C.b dX7_hasLadder_7 (by decide) ?_
    refine lv_goto (tgt := 12) C.x C.b dX7_hasLadder_8 rfl ?_
    rw [x_e0 hf]
    exact x_zret C hr hW (v := 1) (w := 1) rfl dX7_hasLadder_12

theorem dX7_byKind_0 : decode cX7_byKind 0 = .ok (.aload_n 0, 1) := by decide +kernel
theorem dX7_byKind_1 : decode cX7_byKind 1 = .ok (.getfield 9, 3) := by decide +kernel
theorem dX7_byKind_4 : decode cX7_byKind 4 = .ok (.tableswitch 66 1 5 #[36, 40, 36, 42, 51], 36) := by decide +kernel
theorem dX7_byKind_40 : decode cX7_byKind 40 = .ok (.iconst 2, 1) := by decide +kernel
theorem dX7_byKind_41 : decode cX7_byKind 41 = .ok (.iload_n 1, 1) := by decide +kernel
theorem dX7_byKind_42 : decode cX7_byKind 42 = .ok (.imul, 1) := by decide +kernel
theorem dX7_byKind_43 : decode cX7_byKind 43 = .ok (.ireturn, 1) := by decide +kernel
theorem dX7_byKind_44 : decode cX7_byKind 44 = .ok (.iconst 0, 1) := by decide +kernel
theorem dX7_byKind_45 : decode cX7_byKind 45 = .ok (.ireturn, 1) := by decide +kernel
theorem dX7_byKind_46 : decode cX7_byKind 46 = .ok (.aload_n 0, 1) := by decide +kernel
theorem dX7_byKind_47 : decode cX7_byKind 47 = .ok (.getfield 15, 3) := by decide +kernel
theorem dX7_byKind_50 : decode cX7_byKind 50 = .ok (.iload_n 1, 1) := by decide +kernel
theorem dX7_byKind_51 : decode cX7_byKind 51 = .ok (.invokestatic 69, 3) := by decide +kernel
theorem dX7_byKind_54 : decode cX7_byKind 54 = .ok (.ireturn, 1) := by decide +kernel
theorem dX7_byKind_55 : decode cX7_byKind 55 = .ok (.iload_n 1, 1) := by decide +kernel
theorem dX7_byKind_56 : decode cX7_byKind 56 = .ok (.ifCond .ne 7, 3) := by decide +kernel
theorem dX7_byKind_59 : decode cX7_byKind 59 = .ok (.iconst 0, 1) := by decide +kernel
theorem dX7_byKind_60 : decode cX7_byKind 60 = .ok (.goto 9, 3) := by decide +kernel
theorem dX7_byKind_63 : decode cX7_byKind 63 = .ok (.iload_n 1, 1) := by decide +kernel
theorem dX7_byKind_64 : decode cX7_byKind 64 = .ok (.aload_n 0, 1) := by decide +kernel
theorem dX7_byKind_65 : decode cX7_byKind 65 = .ok (.getfield 15, 3) := by decide +kernel
theorem dX7_byKind_68 : decode cX7_byKind 68 = .ok (.iadd, 1) := by decide +kernel
theorem dX7_byKind_69 : decode cX7_byKind 69 = .ok (.ireturn, 1) := by decide +kernel
theorem dX7_byKind_70 : decode cX7_byKind 70 = .ok (.iload_n 1, 1) := by decide +kernel
theorem dX7_byKind_71 : decode cX7_byKind 71 = .ok (.ireturn, 1) := by decide +kernel
def fX7_byKind (M : Mm) (o : Nat) (p1 : Int32) : Option Int32 :=
  B1 (rdI M o 10 0) fun x1_1 =>
  if x1_1 = 1 then
    some (2 * p1)
  else
    if x1_1 = 2 then
      some 0
    else
      if x1_1 = 3 then
        some (2 * p1)
      else
        if x1_1 = 4 then
          B1 (rdI M o 10 1) fun x47_2 =>
          some (mnI x47_2 p1)
        else
          if x1_1 = 5 then
            if p1 = 0 then
              some 0
            else
              B1 (rdI M o 10 1) fun x65_3 =>
              some (p1 + x65_3)
          else
            some p1
set_option maxRecDepth 100000 in
set_option maxHeartbeats 4000000 in
theorem qX7_byKind (l : Launch) (E : Ev) {M : Mm} {o : Nat} {p1 : Int32} {rz : Int32} (hf : fX7_byKind M o p1 = some rz) : Ct l E yX7_byKind cX7_byKind 2 (some .int) 1 13 0 0 [.ref (E.b + o), .int p1] M (some (.int rz)) M := by
  refine ct_of (by decide +kernel) (Nat.le_of_ble_eq_true rfl) fun p e s m args below meth c C hr hin hW ls hl => ?_
  have hl : lv_has ls 2 [(0, .ref (E.b + o)), (1, .int p1)] := hl
  unfold fX7_byKind at hf
  refine lv_aload_n C.x C.b dX7_byKind_0 rfl (lv_at hl 0 rfl) ?_
  replace hf := x_b1 hf; obtain ⟨x1_1, hx1_1, hf⟩ := hf
  refine x_geti C hW fg_X7_9_10 hx1_1 dX7_byKind_1 ?_
  by_cases s4_1 : x1_1 = 1
  · replace hf := x_ip s4_1 hf
    refine lv_tableIn (off := 36) (tgt := 40) C.x C.b dX7_byKind_4 (by rw [s4_1]; decide) (by rw [s4_1]; decide) (by rw [s4_1]; rfl) rfl ?_
    refine lv_iconst (v := 2) C.x C.b dX7_byKind_40 (by decide) ?_
    refine lv_iload_n C.x C.b dX7_byKind_41 rfl (lv_at hl 1 rfl) ?_
    refine lv_imul C.x C.b dX7_byKind_42 ?_
    rw [x_e0 hf]
    exact x_iret C hr hW dX7_byKind_43
  · replace hf := x_in s4_1 hf
    by_cases s4_2 : x1_1 = 2
    · replace hf := x_ip s4_2 hf
      refine lv_tableIn (off := 40) (tgt := 44) C.x C.b dX7_byKind_4 (by rw [s4_2]; decide) (by rw [s4_2]; decide) (by rw [s4_2]; rfl) rfl ?_
      refine lv_iconst (v := 0) C.x C.b dX7_byKind_44 (by decide) ?_
      rw [x_e0 hf]
      exact x_iret C hr hW dX7_byKind_45
    · replace hf := x_in s4_2 hf
      by_cases s4_3 : x1_1 = 3
      · replace hf := x_ip s4_3 hf
        refine lv_tableIn (off := 36) (tgt := 40) C.x C.b dX7_byKind_4 (by rw [s4_3]; decide) (by rw [s4_3]; decide) (by rw [s4_3]; rfl) rfl ?_
        refine lv_iconst (v := 2) C.x C.b dX7_byKind_40 (by decide) ?_
        refine lv_iload_n C.x C.b dX7_byKind_41 rfl (lv_at hl 1 rfl) ?_
        refine lv_imul C.x C.b dX7_byKind_42 ?_
        rw [x_e0 hf]
        exact x_iret C hr hW dX7_byKind_43
      · replace hf := x_in s4_3 hf
        by_cases s4_4 : x1_1 = 4
        · replace hf := x_ip s4_4 hf
          refine lv_tableIn (off := 42) (tgt := 46) C.x C.b dX7_byKind_4 (by rw [s4_4]; decide) (by rw [s4_4]; decide) (by rw [s4_4]; rfl) rfl ?_
          refine lv_aload_n C.x C.b dX7_byKind_46 rfl (lv_at hl 0 rfl) ?_
          replace hf := x_b1 hf; obtain ⟨x47_2, hx47_2, hf⟩ := hf
          refine x_geti C hW fg_X7_15_10 hx47_2 dX7_byKind_47 ?_
          refine lv_iload_n C.x C.b dX7_byKind_50 rfl (lv_at hl 1 rfl) ?_
          refine x_mmin C hl T_3_159 T_3_160 T_1_15 T_3_161 (Nat.le_of_ble_eq_true rfl) (Nat.le_of_ble_eq_true rfl) ⟨Nat.le_of_ble_eq_true rfl, Nat.le_of_ble_eq_true rfl⟩ dX7_byKind_51 ?_
          rw [x_e0 hf]
          exact x_iret C hr hW dX7_byKind_54
        · replace hf := x_in s4_4 hf
          by_cases s4_5 : x1_1 = 5
          · replace hf := x_ip s4_5 hf
            refine lv_tableIn (off := 51) (tgt := 55) C.x C.b dX7_byKind_4 (by rw [s4_5]; decide) (by rw [s4_5]; decide) (by rw [s4_5]; rfl) rfl ?_
            refine lv_iload_n C.x C.b dX7_byKind_55 rfl (lv_at hl 1 rfl) ?_
            refine lv_if_ne (tgt := 63) C.x C.b dX7_byKind_56 rfl (fun c56 => ?_) (fun c56 => ?_)
            · replace hf := x_in c56 hf
              refine lv_iload_n C.x C.b dX7_byKind_63 rfl (lv_at hl 1 rfl) ?_
              refine lv_aload_n C.x C.b dX7_byKind_64 rfl (lv_at hl 0 rfl) ?_
              replace hf := x_b1 hf; obtain ⟨x65_3, hx65_3, hf⟩ := hf
              refine x_geti C hW fg_X7_15_10 hx65_3 dX7_byKind_65 ?_
              refine lv_iadd C.x C.b dX7_byKind_68 ?_
              rw [x_e0 hf]
              exact x_iret C hr hW dX7_byKind_69
            · replace hf := x_ip c56 hf
              refine lv_iconst (v := 0) C.x C.b dX7_byKind_59 (by decide) ?_
              refine lv_goto (tgt := 69) C.x C.b dX7_byKind_60 rfl ?_
              rw [x_e0 hf]
              exact x_iret C hr hW dX7_byKind_69
          · replace hf := x_in s4_5 hf
            have s4_1_ := lv_neT (a := 1) s4_1 rfl
            have s4_2_ := lv_neT (a := 2) s4_2 rfl
            have s4_3_ := lv_neT (a := 3) s4_3 rfl
            have s4_4_ := lv_neT (a := 4) s4_4 rfl
            have s4_5_ := lv_neT (a := 5) s4_5 rfl
            refine lv_tableOut (tgt := 70) C.x C.b dX7_byKind_4 (by omega) rfl ?_
            refine lv_iload_n C.x C.b dX7_byKind_70 rfl (lv_at hl 1 rfl) ?_
            rw [x_e0 hf]
            exact x_iret C hr hW dX7_byKind_71

theorem dX7_lowest_0 : decode cX7_lowest 0 = .ok (.aload_n 0, 1) := by decide +kernel
theorem dX7_lowest_1 : decode cX7_lowest 1 = .ok (.getfield 9, 3) := by decide +kernel
theorem dX7_lowest_4 : decode cX7_lowest 4 = .ok (.iconst 3, 1) := by decide +kernel
theorem dX7_lowest_5 : decode cX7_lowest 5 = .ok (.if_icmp .ne 18, 3) := by decide +kernel
theorem dX7_lowest_8 : decode cX7_lowest 8 = .ok (.aload_n 0, 1) := by decide +kernel
theorem dX7_lowest_9 : decode cX7_lowest 9 = .ok (.getfield 30, 3) := by decide +kernel
theorem dX7_lowest_12 : decode cX7_lowest 12 = .ok (.iconst 1, 1) := by decide +kernel
theorem dX7_lowest_13 : decode cX7_lowest 13 = .ok (.isub, 1) := by decide +kernel
theorem dX7_lowest_14 : decode cX7_lowest 14 = .ok (.bipush 10, 2) := by decide +kernel
theorem dX7_lowest_16 : decode cX7_lowest 16 = .ok (.idiv, 1) := by decide +kernel
theorem dX7_lowest_17 : decode cX7_lowest 17 = .ok (.bipush 10, 2) := by decide +kernel
theorem dX7_lowest_19 : decode cX7_lowest 19 = .ok (.imul, 1) := by decide +kernel
theorem dX7_lowest_20 : decode cX7_lowest 20 = .ok (.goto 4, 3) := by decide +kernel
theorem dX7_lowest_23 : decode cX7_lowest 23 = .ok (.iconst 0, 1) := by decide +kernel
theorem dX7_lowest_24 : decode cX7_lowest 24 = .ok (.istore_n 1, 1) := by decide +kernel
theorem dX7_lowest_25 : decode cX7_lowest 25 = .ok (.iconst 0, 1) := by decide +kernel
theorem dX7_lowest_26 : decode cX7_lowest 26 = .ok (.istore_n 2, 1) := by decide +kernel
theorem dX7_lowest_27 : decode cX7_lowest 27 = .ok (.iload_n 2, 1) := by decide +kernel
theorem dX7_lowest_28 : decode cX7_lowest 28 = .ok (.aload_n 0, 1) := by decide +kernel
theorem dX7_lowest_29 : decode cX7_lowest 29 = .ok (.getfield 36, 3) := by decide +kernel
theorem dX7_lowest_32 : decode cX7_lowest 32 = .ok (.if_icmp .ge 40, 3) := by decide +kernel
theorem dX7_lowest_35 : decode cX7_lowest 35 = .ok (.iload_n 2, 1) := by decide +kernel
theorem dX7_lowest_36 : decode cX7_lowest 36 = .ok (.iconst 2, 1) := by decide +kernel
theorem dX7_lowest_37 : decode cX7_lowest 37 = .ok (.if_icmp .ge 35, 3) := by decide +kernel
theorem dX7_lowest_40 : decode cX7_lowest 40 = .ok (.aload_n 0, 1) := by decide +kernel
theorem dX7_lowest_41 : decode cX7_lowest 41 = .ok (.getfield 39, 3) := by decide +kernel
theorem dX7_lowest_44 : decode cX7_lowest 44 = .ok (.iload_n 2, 1) := by decide +kernel
theorem dX7_lowest_45 : decode cX7_lowest 45 = .ok (.iaload, 1) := by decide +kernel
theorem dX7_lowest_46 : decode cX7_lowest 46 = .ok (.aload_n 0, 1) := by decide +kernel
theorem dX7_lowest_47 : decode cX7_lowest 47 = .ok (.getfield 30, 3) := by decide +kernel
theorem dX7_lowest_50 : decode cX7_lowest 50 = .ok (.if_icmp .ge 16, 3) := by decide +kernel
theorem dX7_lowest_53 : decode cX7_lowest 53 = .ok (.iload_n 1, 1) := by decide +kernel
theorem dX7_lowest_54 : decode cX7_lowest 54 = .ok (.aload_n 0, 1) := by decide +kernel
theorem dX7_lowest_55 : decode cX7_lowest 55 = .ok (.getfield 39, 3) := by decide +kernel
theorem dX7_lowest_58 : decode cX7_lowest 58 = .ok (.iload_n 2, 1) := by decide +kernel
theorem dX7_lowest_59 : decode cX7_lowest 59 = .ok (.iaload, 1) := by decide +kernel
theorem dX7_lowest_60 : decode cX7_lowest 60 = .ok (.iconst 1, 1) := by decide +kernel
theorem dX7_lowest_61 : decode cX7_lowest 61 = .ok (.iadd, 1) := by decide +kernel
theorem dX7_lowest_62 : decode cX7_lowest 62 = .ok (.invokestatic 63, 3) := by decide +kernel
theorem dX7_lowest_65 : decode cX7_lowest 65 = .ok (.istore_n 1, 1) := by decide +kernel
theorem dX7_lowest_66 : decode cX7_lowest 66 = .ok (.iinc 2 1, 3) := by decide +kernel
theorem dX7_lowest_69 : decode cX7_lowest 69 = .ok (.goto (-42), 3) := by decide +kernel
theorem dX7_lowest_72 : decode cX7_lowest 72 = .ok (.iload_n 1, 1) := by decide +kernel
theorem dX7_lowest_73 : decode cX7_lowest 73 = .ok (.ireturn, 1) := by decide +kernel
def fX7_lowest_L27 (M : Mm) (o : Nat) : Nat → Int32 → Int32 → Option Int32
  | 0, _, _ => none
  | n + 1, v1, v2 =>
    B1 (rdI M o 10 8) fun x29_2 =>
    if x29_2 ≤ v2 then
      some v1
    else
      if 2 ≤ v2 then
        some v1
      else
        B1 (rdN M o 10 9) fun a41_3 =>
        B1 (alI M a41_3 v2) fun x45_4 =>
        B1 (rdI M o 10 6) fun x47_5 =>
        if x47_5 ≤ x45_4 then
          fX7_lowest_L27 M o n v1 (v2 + 1)
        else
          B1 (rdN M o 10 9) fun a55_6 =>
          B1 (alI M a55_6 v2) fun x59_7 =>
          fX7_lowest_L27 M o n (mxI v1 (x59_7 + 1)) (v2 + 1)
def fX7_lowest (M : Mm) (o : Nat) : Option Int32 :=
  B1 (rdI M o 10 0) fun x1_1 =>
  if x1_1 = 3 then
    B1 (rdI M o 10 6) fun x9_8 =>
    fX7_lowest_L27 M o FL (((x9_8 - 1) / 10) * 10) 0
  else
    fX7_lowest_L27 M o FL 0 0
set_option maxRecDepth 100000 in
set_option maxHeartbeats 4000000 in
theorem kX7_lowest_L27 {l : Launch} {E : Ev} {p : Program} {e : Env} {s : State} {m : MethodId} {args : Array Value} {below : List Frame} {meth : Method} {c : Code} (C : Cx E p s m args meth c cX7_lowest yX7_lowest.cls 3) (hr : meth.sig.returnType = (some .int)) (hin : yX7_lowest.name = "<init>" → meth.name = "<init>") {M : Mm}  {o : Nat} {rz : Int32} : ∀ (n : Nat) (v1 : Int32) (v2 : Int32), fX7_lowest_L27 M o n v1 v2 = some rz → ∀ (H : Heap) (locs : List Loc) (ls : Array Slot), Wx E s H locs M → lv_has ls 3 [(0, .ref (E.b + o)), (1, .int v1), (2, .int v2)] → W p l e (rM 1 13 0 0) s m args below meth c H locs 0 0 (MQ below (Qp E (some (.int rz)) M) args s 0 0 E.A) (F0 m 27 ls []) := by
  intro n
  induction n with
  | zero =>
    intro v1 v2 hf
    unfold fX7_lowest_L27 at hf
    cases hf
  | succ n ih =>
    intro v1 v2 hf H locs ls hW hl
    unfold fX7_lowest_L27 at hf
    refine lv_iload_n C.x C.b dX7_lowest_27 rfl (lv_at hl 2 rfl) ?_
    refine lv_aload_n C.x C.b dX7_lowest_28 rfl (lv_at hl 0 rfl) ?_
    replace hf := x_b1 hf; obtain ⟨x29_2, hx29_2, hf⟩ := hf
    refine x_geti C hW fg_X7_36_10 hx29_2 dX7_lowest_29 ?_
    refine lv_icmp_ge (tgt := 72) C.x C.b dX7_lowest_32 rfl (fun c32 => ?_) (fun c32 => ?_)
    · replace hf := x_ip c32 hf
      refine lv_iload_n C.x C.b dX7_lowest_72 rfl (lv_at hl 1 rfl) ?_
      rw [x_e0 hf]
      exact x_iret C hr hW dX7_lowest_73
    · replace hf := x_in c32 hf
      refine lv_iload_n C.x C.b dX7_lowest_35 rfl (lv_at hl 2 rfl) ?_
      refine lv_iconst (v := 2) C.x C.b dX7_lowest_36 (by decide) ?_
      refine lv_icmp_ge (tgt := 72) C.x C.b dX7_lowest_37 rfl (fun c37 => ?_) (fun c37 => ?_)
      · replace hf := x_ip c37 hf
        refine lv_iload_n C.x C.b dX7_lowest_72 rfl (lv_at hl 1 rfl) ?_
        rw [x_e0 hf]
        exact x_iret C hr hW dX7_lowest_73
      · replace hf := x_in c37 hf
        refine lv_aload_n C.x C.b dX7_lowest_40 rfl (lv_at hl 0 rfl) ?_
        replace hf := x_b1 hf; obtain ⟨a41_3, ha41_3, hf⟩ := hf
        refine x_getn C hW fg_X7_39_10 ha41_3 dX7_lowest_41 ?_
        refine lv_iload_n C.x C.b dX7_lowest_44 rfl (lv_at hl 2 rfl) ?_
        replace hf := x_b1 hf; obtain ⟨x45_4, hx45_4, hf⟩ := hf
        refine x_iald C hW hx45_4 dX7_lowest_45 ?_
        refine lv_aload_n C.x C.b dX7_lowest_46 rfl (lv_at hl 0 rfl) ?_
        replace hf := x_b1 hf; obtain ⟨x47_5, hx47_5, hf⟩ := hf
        refine x_geti C hW fg_X7_30_10 hx47_5 dX7_lowest_47 ?_
        refine lv_icmp_ge (tgt := 66) C.x C.b dX7_lowest_50 rfl (fun c50 => ?_) (fun c50 => ?_)
        · replace hf := x_ip c50 hf
          refine lv_iinc (v := (v2 + 1)) (lv' := [(2, .int (v2 + 1)), (0, .ref (E.b + _)), (1, .int _)]) C.x C.b dX7_lowest_66 hl (k := 2) rfl (by first | rfl | decide) (by decide) rfl (fun ls hl => ?_)
          refine lv_goto (tgt := 27) C.x C.b dX7_lowest_69 rfl ?_
          exact ih v1 (v2 + 1) hf _ _ _ hW (lv_sub hl [1, 2, 0] rfl)
        · replace hf := x_in c50 hf
          refine lv_iload_n C.x C.b dX7_lowest_53 rfl (lv_at hl 1 rfl) ?_
          refine lv_aload_n C.x C.b dX7_lowest_54 rfl (lv_at hl 0 rfl) ?_
          replace hf := x_b1 hf; obtain ⟨a55_6, ha55_6, hf⟩ := hf
          refine x_getn C hW fg_X7_39_10 ha55_6 dX7_lowest_55 ?_
          refine lv_iload_n C.x C.b dX7_lowest_58 rfl (lv_at hl 2 rfl) ?_
          replace hf := x_b1 hf; obtain ⟨x59_7, hx59_7, hf⟩ := hf
          refine x_iald C hW hx59_7 dX7_lowest_59 ?_
          refine lv_iconst (v := 1) C.x C.b dX7_lowest_60 (by decide) ?_
          refine lv_iadd C.x C.b dX7_lowest_61 ?_
          refine x_mmax C hl T_3_144 T_3_145 T_1_15 T_3_146 (Nat.le_of_ble_eq_true rfl) (Nat.le_of_ble_eq_true rfl) ⟨Nat.le_of_ble_eq_true rfl, Nat.le_of_ble_eq_true rfl⟩ dX7_lowest_62 ?_
          refine lv_istore_n (lv' := [(1, .int _), (0, .ref (E.b + _)), (2, .int _)]) C.x C.b dX7_lowest_65 rfl hl (by decide) rfl (fun ls hl => ?_)
          refine lv_iinc (v := (v2 + 1)) (lv' := [(2, .int (v2 + 1)), (1, .int _), (0, .ref (E.b + _))]) C.x C.b dX7_lowest_66 hl (k := 2) rfl (by first | rfl | decide) (by decide) rfl (fun ls hl => ?_)
          refine lv_goto (tgt := 27) C.x C.b dX7_lowest_69 rfl ?_
          exact ih (mxI v1 (x59_7 + 1)) (v2 + 1) hf _ _ _ hW (lv_sub hl [2, 1, 0] rfl)
set_option maxRecDepth 100000 in
set_option maxHeartbeats 4000000 in
theorem qX7_lowest (l : Launch) (E : Ev) {M : Mm} {o : Nat} {rz : Int32} (hf : fX7_lowest M o = some rz) : Ct l E yX7_lowest cX7_lowest 3 (some .int) 1 13 0 0 [.ref (E.b + o)] M (some (.int rz)) M := by
  refine ct_of (by decide +kernel) (Nat.le_of_ble_eq_true rfl) fun p e s m args below meth c C hr hin hW ls hl => ?_
  have hl : lv_has ls 3 [(0, .ref (E.b + o))] := hl
  unfold fX7_lowest at hf
  refine lv_aload_n C.x C.b dX7_lowest_0 rfl (lv_at hl 0 rfl) ?_
  replace hf := x_b1 hf; obtain ⟨x1_1, hx1_1, hf⟩ := hf
  refine x_geti C hW fg_X7_9_10 hx1_1 dX7_lowest_1 ?_
  refine lv_iconst (v := 3) C.x C.b dX7_lowest_4 (by decide) ?_
  refine lv_icmp_ne (tgt := 23) C.x C.b dX7_lowest_5 rfl (fun c5 => ?_) (fun c5 => ?_)
  · replace hf := x_in c5 hf
    refine lv_iconst (v := 0) C.x C.b dX7_lowest_23 (by decide) ?_
    refine lv_istore_n (lv' := [(1, .int _), (0, .ref (E.b + _))]) C.x C.b dX7_lowest_24 rfl hl (by decide) rfl (fun ls hl => ?_)
    refine lv_iconst (v := 0) C.x C.b dX7_lowest_25 (by decide) ?_
    refine lv_istore_n (lv' := [(2, .int _), (1, .int _), (0, .ref (E.b + _))]) C.x C.b dX7_lowest_26 rfl hl (by decide) rfl (fun ls hl => ?_)
    exact kX7_lowest_L27 C hr hin FL 0 0 hf _ _ _ hW (lv_sub hl [2, 1, 0] rfl)
  · replace hf := x_ip c5 hf
    refine lv_aload_n C.x C.b dX7_lowest_8 rfl (lv_at hl 0 rfl) ?_
    replace hf := x_b1 hf; obtain ⟨x9_8, hx9_8, hf⟩ := hf
    refine x_geti C hW fg_X7_30_10 hx9_8 dX7_lowest_9 ?_
    refine lv_iconst (v := 1) C.x C.b dX7_lowest_12 (by decide) ?_
    refine lv_isub C.x C.b dX7_lowest_13 ?_
    refine lv_bipush (v := 10) C.x C.b dX7_lowest_14 (by decide) ?_
    refine lv_idiv C.x C.b dX7_lowest_16 (by decide) ?_
    refine lv_bipush (v := 10) C.x C.b dX7_lowest_17 (by decide) ?_
    refine lv_imul C.x C.b dX7_lowest_19 ?_
    refine lv_goto (tgt := 24) C.x C.b dX7_lowest_20 rfl ?_
    refine lv_istore_n (lv' := [(1, .int _), (0, .ref (E.b + _))]) C.x C.b dX7_lowest_24 rfl hl (by decide) rfl (fun ls hl => ?_)
    refine lv_iconst (v := 0) C.x C.b dX7_lowest_25 (by decide) ?_
    refine lv_istore_n (lv' := [(2, .int _), (1, .int _), (0, .ref (E.b + _))]) C.x C.b dX7_lowest_26 rfl hl (by decide) rfl (fun ls hl => ?_)
    exact kX7_lowest_L27 C hr hin FL (((x9_8 - 1) / 10) * 10) 0 hf _ _ _ hW (lv_sub hl [2, 1, 0] rfl)

theorem dX7_highest_0 : decode cX7_highest 0 = .ok (.aload_n 0, 1) := by decide +kernel
theorem dX7_highest_1 : decode cX7_highest 1 = .ok (.getfield 9, 3) := by decide +kernel
theorem dX7_highest_4 : decode cX7_highest 4 = .ok (.iconst 3, 1) := by decide +kernel
theorem dX7_highest_5 : decode cX7_highest 5 = .ok (.if_icmp .ne 23, 3) := by decide +kernel
theorem dX7_highest_8 : decode cX7_highest 8 = .ok (.bipush 99, 2) := by decide +kernel
theorem dX7_highest_10 : decode cX7_highest 10 = .ok (.aload_n 0, 1) := by decide +kernel
theorem dX7_highest_11 : decode cX7_highest 11 = .ok (.getfield 33, 3) := by decide +kernel
theorem dX7_highest_14 : decode cX7_highest 14 = .ok (.bipush 10, 2) := by decide +kernel
theorem dX7_highest_16 : decode cX7_highest 16 = .ok (.idiv, 1) := by decide +kernel
theorem dX7_highest_17 : decode cX7_highest 17 = .ok (.iconst 1, 1) := by decide +kernel
theorem dX7_highest_18 : decode cX7_highest 18 = .ok (.iadd, 1) := by decide +kernel
theorem dX7_highest_19 : decode cX7_highest 19 = .ok (.bipush 10, 2) := by decide +kernel
theorem dX7_highest_21 : decode cX7_highest 21 = .ok (.imul, 1) := by decide +kernel
theorem dX7_highest_22 : decode cX7_highest 22 = .ok (.invokestatic 69, 3) := by decide +kernel
theorem dX7_highest_25 : decode cX7_highest 25 = .ok (.goto 5, 3) := by decide +kernel
theorem dX7_highest_28 : decode cX7_highest 28 = .ok (.bipush 99, 2) := by decide +kernel
theorem dX7_highest_30 : decode cX7_highest 30 = .ok (.istore_n 1, 1) := by decide +kernel
theorem dX7_highest_31 : decode cX7_highest 31 = .ok (.iconst 0, 1) := by decide +kernel
theorem dX7_highest_32 : decode cX7_highest 32 = .ok (.istore_n 2, 1) := by decide +kernel
theorem dX7_highest_33 : decode cX7_highest 33 = .ok (.iload_n 2, 1) := by decide +kernel
theorem dX7_highest_34 : decode cX7_highest 34 = .ok (.aload_n 0, 1) := by decide +kernel
theorem dX7_highest_35 : decode cX7_highest 35 = .ok (.getfield 36, 3) := by decide +kernel
theorem dX7_highest_38 : decode cX7_highest 38 = .ok (.if_icmp .ge 40, 3) := by decide +kernel
theorem dX7_highest_41 : decode cX7_highest 41 = .ok (.iload_n 2, 1) := by decide +kernel
theorem dX7_highest_42 : decode cX7_highest 42 = .ok (.iconst 2, 1) := by decide +kernel
theorem dX7_highest_43 : decode cX7_highest 43 = .ok (.if_icmp .ge 35, 3) := by decide +kernel
theorem dX7_highest_46 : decode cX7_highest 46 = .ok (.aload_n 0, 1) := by decide +kernel
theorem dX7_highest_47 : decode cX7_highest 47 = .ok (.getfield 39, 3) := by decide +kernel
theorem dX7_highest_50 : decode cX7_highest 50 = .ok (.iload_n 2, 1) := by decide +kernel
theorem dX7_highest_51 : decode cX7_highest 51 = .ok (.iaload, 1) := by decide +kernel
theorem dX7_highest_52 : decode cX7_highest 52 = .ok (.aload_n 0, 1) := by decide +kernel
theorem dX7_highest_53 : decode cX7_highest 53 = .ok (.getfield 33, 3) := by decide +kernel
theorem dX7_highest_56 : decode cX7_highest 56 = .ok (.if_icmp .le 16, 3) := by decide +kernel
theorem dX7_highest_59 : decode cX7_highest 59 = .ok (.iload_n 1, 1) := by decide +kernel
theorem dX7_highest_60 : decode cX7_highest 60 = .ok (.aload_n 0, 1) := by decide +kernel
theorem dX7_highest_61 : decode cX7_highest 61 = .ok (.getfield 39, 3) := by decide +kernel
theorem dX7_highest_64 : decode cX7_highest 64 = .ok (.iload_n 2, 1) := by decide +kernel
theorem dX7_highest_65 : decode cX7_highest 65 = .ok (.iaload, 1) := by decide +kernel
theorem dX7_highest_66 : decode cX7_highest 66 = .ok (.iconst 1, 1) := by decide +kernel
theorem dX7_highest_67 : decode cX7_highest 67 = .ok (.isub, 1) := by decide +kernel
theorem dX7_highest_68 : decode cX7_highest 68 = .ok (.invokestatic 69, 3) := by decide +kernel
theorem dX7_highest_71 : decode cX7_highest 71 = .ok (.istore_n 1, 1) := by decide +kernel
theorem dX7_highest_72 : decode cX7_highest 72 = .ok (.iinc 2 1, 3) := by decide +kernel
theorem dX7_highest_75 : decode cX7_highest 75 = .ok (.goto (-42), 3) := by decide +kernel
theorem dX7_highest_78 : decode cX7_highest 78 = .ok (.iload_n 1, 1) := by decide +kernel
theorem dX7_highest_79 : decode cX7_highest 79 = .ok (.ireturn, 1) := by decide +kernel
def fX7_highest_L33 (M : Mm) (o : Nat) : Nat → Int32 → Int32 → Option Int32
  | 0, _, _ => none
  | n + 1, v1, v2 =>
    B1 (rdI M o 10 8) fun x35_2 =>
    if x35_2 ≤ v2 then
      some v1
    else
      if 2 ≤ v2 then
        some v1
      else
        B1 (rdN M o 10 9) fun a47_3 =>
        B1 (alI M a47_3 v2) fun x51_4 =>
        B1 (rdI M o 10 7) fun x53_5 =>
        if x51_4 ≤ x53_5 then
          fX7_highest_L33 M o n v1 (v2 + 1)
        else
          B1 (rdN M o 10 9) fun a61_6 =>
          B1 (alI M a61_6 v2) fun x65_7 =>
          fX7_highest_L33 M o n (mnI v1 (x65_7 - 1)) (v2 + 1)
def fX7_highest (M : Mm) (o : Nat) : Option Int32 :=
  B1 (rdI M o 10 0) fun x1_1 =>
  if x1_1 = 3 then
    B1 (rdI M o 10 7) fun x11_8 =>
    fX7_highest_L33 M o FL (mnI 99 (((x11_8 / 10) + 1) * 10)) 0
  else
    fX7_highest_L33 M o FL 99 0
set_option maxRecDepth 100000 in
set_option maxHeartbeats 4000000 in
theorem kX7_highest_L33 {l : Launch} {E : Ev} {p : Program} {e : Env} {s : State} {m : MethodId} {args : Array Value} {below : List Frame} {meth : Method} {c : Code} (C : Cx E p s m args meth c cX7_highest yX7_highest.cls 3) (hr : meth.sig.returnType = (some .int)) (hin : yX7_highest.name = "<init>" → meth.name = "<init>") {M : Mm}  {o : Nat} {rz : Int32} : ∀ (n : Nat) (v1 : Int32) (v2 : Int32), fX7_highest_L33 M o n v1 v2 = some rz → ∀ (H : Heap) (locs : List Loc) (ls : Array Slot), Wx E s H locs M → lv_has ls 3 [(0, .ref (E.b + o)), (1, .int v1), (2, .int v2)] → W p l e (rM 1 13 0 0) s m args below meth c H locs 0 0 (MQ below (Qp E (some (.int rz)) M) args s 0 0 E.A) (F0 m 33 ls []) := by
  intro n
  induction n with
  | zero =>
    intro v1 v2 hf
    unfold fX7_highest_L33 at hf
    cases hf
  | succ n ih =>
    intro v1 v2 hf H locs ls hW hl
    unfold fX7_highest_L33 at hf
    refine lv_iload_n C.x C.b dX7_highest_33 rfl (lv_at hl 2 rfl) ?_
    refine lv_aload_n C.x C.b dX7_highest_34 rfl (lv_at hl 0 rfl) ?_
    replace hf := x_b1 hf; obtain ⟨x35_2, hx35_2, hf⟩ := hf
    refine x_geti C hW fg_X7_36_10 hx35_2 dX7_highest_35 ?_
    refine lv_icmp_ge (tgt := 78) C.x C.b dX7_highest_38 rfl (fun c38 => ?_) (fun c38 => ?_)
    · replace hf := x_ip c38 hf
      refine lv_iload_n C.x C.b dX7_highest_78 rfl (lv_at hl 1 rfl) ?_
      rw [x_e0 hf]
      exact x_iret C hr hW dX7_highest_79
    · replace hf := x_in c38 hf
      refine lv_iload_n C.x C.b dX7_highest_41 rfl (lv_at hl 2 rfl) ?_
      refine lv_iconst (v := 2) C.x C.b dX7_highest_42 (by decide) ?_
      refine lv_icmp_ge (tgt := 78) C.x C.b dX7_highest_43 rfl (fun c43 => ?_) (fun c43 => ?_)
      · replace hf := x_ip c43 hf
        refine lv_iload_n C.x C.b dX7_highest_78 rfl (lv_at hl 1 rfl) ?_
        rw [x_e0 hf]
        exact x_iret C hr hW dX7_highest_79
      · replace hf := x_in c43 hf
        refine lv_aload_n C.x C.b dX7_highest_46 rfl (lv_at hl 0 rfl) ?_
        replace hf := x_b1 hf; obtain ⟨a47_3, ha47_3, hf⟩ := hf
        refine x_getn C hW fg_X7_39_10 ha47_3 dX7_highest_47 ?_
        refine lv_iload_n C.x C.b dX7_highest_50 rfl (lv_at hl 2 rfl) ?_
        replace hf := x_b1 hf; obtain ⟨x51_4, hx51_4, hf⟩ := hf
        refine x_iald C hW hx51_4 dX7_highest_51 ?_
        refine lv_aload_n C.x C.b dX7_highest_52 rfl (lv_at hl 0 rfl) ?_
        replace hf := x_b1 hf; obtain ⟨x53_5, hx53_5, hf⟩ := hf
        refine x_geti C hW fg_X7_33_10 hx53_5 dX7_highest_53 ?_
        refine lv_icmp_le (tgt := 72) C.x C.b dX7_highest_56 rfl (fun c56 => ?_) (fun c56 => ?_)
        · replace hf := x_ip c56 hf
          refine lv_iinc (v := (v2 + 1)) (lv' := [(2, .int (v2 + 1)), (0, .ref (E.b + _)), (1, .int _)]) C.x C.b dX7_highest_72 hl (k := 2) rfl (by first | rfl | decide) (by decide) rfl (fun ls hl => ?_)
          refine lv_goto (tgt := 33) C.x C.b dX7_highest_75 rfl ?_
          exact ih v1 (v2 + 1) hf _ _ _ hW (lv_sub hl [1, 2, 0] rfl)
        · replace hf := x_in c56 hf
          refine lv_iload_n C.x C.b dX7_highest_59 rfl (lv_at hl 1 rfl) ?_
          refine lv_aload_n C.x C.b dX7_highest_60 rfl (lv_at hl 0 rfl) ?_
          replace hf := x_b1 hf; obtain ⟨a61_6, ha61_6, hf⟩ := hf
          refine x_getn C hW fg_X7_39_10 ha61_6 dX7_highest_61 ?_
          refine lv_iload_n C.x C.b dX7_highest_64 rfl (lv_at hl 2 rfl) ?_
          replace hf := x_b1 hf; obtain ⟨x65_7, hx65_7, hf⟩ := hf
          refine x_iald C hW hx65_7 dX7_highest_65 ?_
          refine lv_iconst (v := 1) C.x C.b dX7_highest_66 (by decide) ?_
          refine lv_isub C.x C.b dX7_highest_67 ?_
          refine x_mmin C hl T_3_159 T_3_160 T_1_15 T_3_161 (Nat.le_of_ble_eq_true rfl) (Nat.le_of_ble_eq_true rfl) ⟨Nat.le_of_ble_eq_true rfl, Nat.le_of_ble_eq_true rfl⟩ dX7_highest_68 ?_
          refine lv_istore_n (lv' := [(1, .int _), (0, .ref (E.b + _)), (2, .int _)]) C.x C.b dX7_highest_71 rfl hl (by decide) rfl (fun ls hl => ?_)
          refine lv_iinc (v := (v2 + 1)) (lv' := [(2, .int (v2 + 1)), (1, .int _), (0, .ref (E.b + _))]) C.x C.b dX7_highest_72 hl (k := 2) rfl (by first | rfl | decide) (by decide) rfl (fun ls hl => ?_)
          refine lv_goto (tgt := 33) C.x C.b dX7_highest_75 rfl ?_
          exact ih (mnI v1 (x65_7 - 1)) (v2 + 1) hf _ _ _ hW (lv_sub hl [2, 1, 0] rfl)
set_option maxRecDepth 100000 in
set_option maxHeartbeats 4000000 in
theorem qX7_highest (l : Launch) (E : Ev) {M : Mm} {o : Nat} {rz : Int32} (hf : fX7_highest M o = some rz) : Ct l E yX7_highest cX7_highest 3 (some .int) 1 13 0 0 [.ref (E.b + o)] M (some (.int rz)) M := by
  refine ct_of (by decide +kernel) (Nat.le_of_ble_eq_true rfl) fun p e s m args below meth c C hr hin hW ls hl => ?_
  have hl : lv_has ls 3 [(0, .ref (E.b + o))] := hl
  unfold fX7_highest at hf
  refine lv_aload_n C.x C.b dX7_highest_0 rfl (lv_at hl 0 rfl) ?_
  replace hf := x_b1 hf; obtain ⟨x1_1, hx1_1, hf⟩ := hf
  refine x_geti C hW fg_X7_9_10 hx1_1 dX7_highest_1 ?_
  refine lv_iconst (v := 3) C.x C.b dX7_highest_4 (by decide) ?_
  refine lv_icmp_ne (tgt := 28) C.x C.b dX7_highest_5 rfl (fun c5 => ?_) (fun c5 => ?_)
  · replace hf := x_in c5 hf
    refine lv_bipush (v := 99) C.x C.b dX7_highest_28 (by decide) ?_
    refine lv_istore_n (lv' := [(1, .int _), (0, .ref (E.b + _))]) C.x C.b dX7_highest_30 rfl hl (by decide) rfl (fun ls hl => ?_)
    refine lv_iconst (v := 0) C.x C.b dX7_highest_31 (by decide) ?_
    refine lv_istore_n (lv' := [(2, .int _), (1, .int _), (0, .ref (E.b + _))]) C.x C.b dX7_highest_32 rfl hl (by decide) rfl (fun ls hl => ?_)
    exact kX7_highest_L33 C hr hin FL 99 0 hf _ _ _ hW (lv_sub hl [2, 1, 0] rfl)
  · replace hf := x_ip c5 hf
    refine lv_bipush (v := 99) C.x C.b dX7_highest_8 (by decide) ?_
    refine lv_aload_n C.x C.b dX7_highest_10 rfl (lv_at hl 0 rfl) ?_
    replace hf := x_b1 hf; obtain ⟨x11_8, hx11_8, hf⟩ := hf
    refine x_geti C hW fg_X7_33_10 hx11_8 dX7_highest_11 ?_
    refine lv_bipush (v := 10) C.x C.b dX7_highest_14 (by decide) ?_
    refine lv_idiv C.x C.b dX7_highest_16 (by decide) ?_
    refine lv_iconst (v := 1) C.x C.b dX7_highest_17 (by decide) ?_
    refine lv_iadd C.x C.b dX7_highest_18 ?_
    refine lv_bipush (v := 10) C.x C.b dX7_highest_19 (by decide) ?_
    refine lv_imul C.x C.b dX7_highest_21 ?_
    refine x_mmin C hl T_3_159 T_3_160 T_1_15 T_3_161 (Nat.le_of_ble_eq_true rfl) (Nat.le_of_ble_eq_true rfl) ⟨Nat.le_of_ble_eq_true rfl, Nat.le_of_ble_eq_true rfl⟩ dX7_highest_22 ?_
    refine lv_goto (tgt := 30) C.x C.b dX7_highest_25 rfl ?_
    refine lv_istore_n (lv' := [(1, .int _), (0, .ref (E.b + _))]) C.x C.b dX7_highest_30 rfl hl (by decide) rfl (fun ls hl => ?_)
    refine lv_iconst (v := 0) C.x C.b dX7_highest_31 (by decide) ?_
    refine lv_istore_n (lv' := [(2, .int _), (1, .int _), (0, .ref (E.b + _))]) C.x C.b dX7_highest_32 rfl hl (by decide) rfl (fun ls hl => ?_)
    exact kX7_highest_L33 C hr hin FL (mnI 99 (((x11_8 / 10) + 1) * 10)) 0 hf _ _ _ hW (lv_sub hl [2, 1, 0] rfl)

theorem dX7_passMove_0 : decode cX7_passMove 0 = .ok (.aload_n 0, 1) := by decide +kernel
theorem dX7_passMove_1 : decode cX7_passMove 1 = .ok (.invokevirtual 107, 3) := by decide +kernel
theorem dX7_passMove_4 : decode cX7_passMove 4 = .ok (.aload_n 0, 1) := by decide +kernel
theorem dX7_passMove_5 : decode cX7_passMove 5 = .ok (.invokevirtual 59, 3) := by decide +kernel
theorem dX7_passMove_8 : decode cX7_passMove 8 = .ok (.ifCond .ne 5, 3) := by decide +kernel
theorem dX7_passMove_11 : decode cX7_passMove 11 = .ok (.iconst 0, 1) := by decide +kernel
theorem dX7_passMove_12 : decode cX7_passMove 12 = .ok (.ireturn, 1) := by decide +kernel
theorem dX7_passMove_13 : decode cX7_passMove 13 = .ok (.aload_n 0, 1) := by decide +kernel
theorem dX7_passMove_14 : decode cX7_passMove 14 = .ok (.iload_n 1, 1) := by decide +kernel
theorem dX7_passMove_15 : decode cX7_passMove 15 = .ok (.ifCond .ne 9, 3) := by decide +kernel
theorem dX7_passMove_18 : decode cX7_passMove 18 = .ok (.aload_n 2, 1) := by decide +kernel
theorem dX7_passMove_19 : decode cX7_passMove 19 = .ok (.iconst 0, 1) := by decide +kernel
theorem dX7_passMove_20 : decode cX7_passMove 20 = .ok (.iaload, 1) := by decide +kernel
theorem dX7_passMove_21 : decode cX7_passMove 21 = .ok (.goto 6, 3) := by decide +kernel
theorem dX7_passMove_24 : decode cX7_passMove 24 = .ok (.aload_n 2, 1) := by decide +kernel
theorem dX7_passMove_25 : decode cX7_passMove 25 = .ok (.iconst 1, 1) := by decide +kernel
theorem dX7_passMove_26 : decode cX7_passMove 26 = .ok (.iaload, 1) := by decide +kernel
theorem dX7_passMove_27 : decode cX7_passMove 27 = .ok (.invokevirtual 110, 3) := by decide +kernel
theorem dX7_passMove_30 : decode cX7_passMove 30 = .ok (.istore_n 3, 1) := by decide +kernel
theorem dX7_passMove_31 : decode cX7_passMove 31 = .ok (.aload_n 0, 1) := by decide +kernel
theorem dX7_passMove_32 : decode cX7_passMove 32 = .ok (.iload_n 1, 1) := by decide +kernel
theorem dX7_passMove_33 : decode cX7_passMove 33 = .ok (.iconst 2, 1) := by decide +kernel
theorem dX7_passMove_34 : decode cX7_passMove 34 = .ok (.if_icmp .ne 9, 3) := by decide +kernel
theorem dX7_passMove_37 : decode cX7_passMove 37 = .ok (.aload_n 2, 1) := by decide +kernel
theorem dX7_passMove_38 : decode cX7_passMove 38 = .ok (.iconst 1, 1) := by decide +kernel
theorem dX7_passMove_39 : decode cX7_passMove 39 = .ok (.iaload, 1) := by decide +kernel
theorem dX7_passMove_40 : decode cX7_passMove 40 = .ok (.goto 4, 3) := by decide +kernel
theorem dX7_passMove_43 : decode cX7_passMove 43 = .ok (.iconst 0, 1) := by decide +kernel
theorem dX7_passMove_44 : decode cX7_passMove 44 = .ok (.invokevirtual 110, 3) := by decide +kernel
theorem dX7_passMove_47 : decode cX7_passMove 47 = .ok (.istore 4, 2) := by decide +kernel
theorem dX7_passMove_49 : decode cX7_passMove 49 = .ok (.aload_n 0, 1) := by decide +kernel
theorem dX7_passMove_50 : decode cX7_passMove 50 = .ok (.getfield 30, 3) := by decide +kernel
theorem dX7_passMove_53 : decode cX7_passMove 53 = .ok (.iload_n 3, 1) := by decide +kernel
theorem dX7_passMove_54 : decode cX7_passMove 54 = .ok (.isub, 1) := by decide +kernel
theorem dX7_passMove_55 : decode cX7_passMove 55 = .ok (.aload_n 0, 1) := by decide +kernel
theorem dX7_passMove_56 : decode cX7_passMove 56 = .ok (.invokevirtual 113, 3) := by decide +kernel
theorem dX7_passMove_59 : decode cX7_passMove 59 = .ok (.invokestatic 63, 3) := by decide +kernel
theorem dX7_passMove_62 : decode cX7_passMove 62 = .ok (.istore 5, 2) := by decide +kernel
theorem dX7_passMove_64 : decode cX7_passMove 64 = .ok (.aload_n 0, 1) := by decide +kernel
theorem dX7_passMove_65 : decode cX7_passMove 65 = .ok (.getfield 33, 3) := by decide +kernel
theorem dX7_passMove_68 : decode cX7_passMove 68 = .ok (.iload 4, 2) := by decide +kernel
theorem dX7_passMove_70 : decode cX7_passMove 70 = .ok (.iadd, 1) := by decide +kernel
theorem dX7_passMove_71 : decode cX7_passMove 71 = .ok (.aload_n 0, 1) := by decide +kernel
theorem dX7_passMove_72 : decode cX7_passMove 72 = .ok (.invokevirtual 116, 3) := by decide +kernel
theorem dX7_passMove_75 : decode cX7_passMove 75 = .ok (.invokestatic 69, 3) := by decide +kernel
theorem dX7_passMove_78 : decode cX7_passMove 78 = .ok (.istore 6, 2) := by decide +kernel
theorem dX7_passMove_80 : decode cX7_passMove 80 = .ok (.iload 5, 2) := by decide +kernel
theorem dX7_passMove_82 : decode cX7_passMove 82 = .ok (.aload_n 0, 1) := by decide +kernel
theorem dX7_passMove_83 : decode cX7_passMove 83 = .ok (.getfield 30, 3) := by decide +kernel
theorem dX7_passMove_86 : decode cX7_passMove 86 = .ok (.if_icmp .ne 12, 3) := by decide +kernel
theorem dX7_passMove_89 : decode cX7_passMove 89 = .ok (.iload 6, 2) := by decide +kernel
theorem dX7_passMove_91 : decode cX7_passMove 91 = .ok (.aload_n 0, 1) := by decide +kernel
theorem dX7_passMove_92 : decode cX7_passMove 92 = .ok (.getfield 33, 3) := by decide +kernel
theorem dX7_passMove_95 : decode cX7_passMove 95 = .ok (.if_icmp .eq 7, 3) := by decide +kernel
theorem dX7_passMove_98 : decode cX7_passMove 98 = .ok (.iconst 1, 1) := by decide +kernel
theorem dX7_passMove_99 : decode cX7_passMove 99 = .ok (.goto 4, 3) := by decide +kernel
theorem dX7_passMove_102 : decode cX7_passMove 102 = .ok (.iconst 0, 1) := by decide +kernel
theorem dX7_passMove_103 : decode cX7_passMove 103 = .ok (.istore 7, 2) := by decide +kernel
theorem dX7_passMove_105 : decode cX7_passMove 105 = .ok (.aload_n 0, 1) := by decide +kernel
theorem dX7_passMove_106 : decode cX7_passMove 106 = .ok (.iload 5, 2) := by decide +kernel
theorem dX7_passMove_108 : decode cX7_passMove 108 = .ok (.putfield 30, 3) := by decide +kernel
theorem dX7_passMove_111 : decode cX7_passMove 111 = .ok (.aload_n 0, 1) := by decide +kernel
theorem dX7_passMove_112 : decode cX7_passMove 112 = .ok (.iload 6, 2) := by decide +kernel
theorem dX7_passMove_114 : decode cX7_passMove 114 = .ok (.putfield 33, 3) := by decide +kernel
theorem dX7_passMove_117 : decode cX7_passMove 117 = .ok (.iload 7, 2) := by decide +kernel
theorem dX7_passMove_119 : decode cX7_passMove 119 = .ok (.ireturn, 1) := by decide +kernel
theorem hd_X7_loseWetDabs : yX7_loseWetDabs.cls ≠ "java/lang/invoke/MethodHandle" ∧ yX7_loseWetDabs.cls ≠ "java/lang/invoke/VarHandle" ∧ (parseMethodDescriptor yX7_loseWetDabs.desc).map (fun d => d.parameters.length) = some 0 := by decide +kernel
theorem gv_X7_107 : GoodIn gT (wsV "NylonLadder$Stocking" 107 "NylonLadder$Stocking" yX7_loseWetDabs (Cond.code yX7_loseWetDabs cX7_loseWetDabs 3 none :: gT)) := good_V T_3_151 T_3_153 TS_16 T_1_4 T_3_154
theorem hd_X7_hasLadder : yX7_hasLadder.cls ≠ "java/lang/invoke/MethodHandle" ∧ yX7_hasLadder.cls ≠ "java/lang/invoke/VarHandle" ∧ (parseMethodDescriptor yX7_hasLadder.desc).map (fun d => d.parameters.length) = some 0 := by decide +kernel
theorem gv_X7_59 : GoodIn gT (wsV "NylonLadder$Stocking" 59 "NylonLadder$Stocking" yX7_hasLadder (Cond.code yX7_hasLadder cX7_hasLadder 1 (some .boolean) :: gT)) := good_V T_3_35 T_3_36 T_3_37 T_1_4 T_3_38
theorem hd_X7_byKind : yX7_byKind.cls ≠ "java/lang/invoke/MethodHandle" ∧ yX7_byKind.cls ≠ "java/lang/invoke/VarHandle" ∧ (parseMethodDescriptor yX7_byKind.desc).map (fun d => d.parameters.length) = some 1 := by decide +kernel
theorem gv_X7_110 : GoodIn gT (wsV "NylonLadder$Stocking" 110 "NylonLadder$Stocking" yX7_byKind (Cond.code yX7_byKind cX7_byKind 2 (some .int) :: gT)) := good_V T_3_155 T_3_157 TS_17 T_1_4 T_3_158
theorem hd_X7_lowest : yX7_lowest.cls ≠ "java/lang/invoke/MethodHandle" ∧ yX7_lowest.cls ≠ "java/lang/invoke/VarHandle" ∧ (parseMethodDescriptor yX7_lowest.desc).map (fun d => d.parameters.length) = some 0 := by decide +kernel
theorem gv_X7_113 : GoodIn gT (wsV "NylonLadder$Stocking" 113 "NylonLadder$Stocking" yX7_lowest (Cond.code yX7_lowest cX7_lowest 3 (some .int) :: gT)) := good_V T_3_162 T_3_164 TS_18 T_1_4 T_3_165
theorem hd_X7_highest : yX7_highest.cls ≠ "java/lang/invoke/MethodHandle" ∧ yX7_highest.cls ≠ "java/lang/invoke/VarHandle" ∧ (parseMethodDescriptor yX7_highest.desc).map (fun d => d.parameters.length) = some 0 := by decide +kernel
theorem gv_X7_116 : GoodIn gT (wsV "NylonLadder$Stocking" 116 "NylonLadder$Stocking" yX7_highest (Cond.code yX7_highest cX7_highest 3 (some .int) :: gT)) := good_V T_3_166 T_3_168 TS_19 T_1_4 T_3_169
def fX7_passMove (M : Mm) (o : Nat) (p1 : Int32) (p2 : Nat) : Option (Int32 × Mm) :=
  B1 (gk M o 10) fun _ =>
  B1 (fX7_loseWetDabs M o) fun M1_2 =>
  B1 (gk M1_2 o 10) fun _ =>
  B1 (fX7_hasLadder M1_2 o) fun x5_4 =>
  if x5_4 = 0 then
    some (0, M1_2)
  else
    if p1 = 0 then
      B1 (alI M1_2 p2 0) fun x20_41 =>
      B1 (gk M1_2 o 10) fun _ =>
      B1 (fX7_byKind M1_2 o x20_41) fun x27_43 =>
      if p1 = 2 then
        B1 (alI M1_2 p2 1) fun x39_60 =>
        B1 (gk M1_2 o 10) fun _ =>
        B1 (fX7_byKind M1_2 o x39_60) fun x44_62 =>
        B1 (rdI M1_2 o 10 6) fun x50_63 =>
        B1 (gk M1_2 o 10) fun _ =>
        B1 (fX7_lowest M1_2 o) fun x56_65 =>
        B1 (rdI M1_2 o 10 7) fun x65_66 =>
        B1 (gk M1_2 o 10) fun _ =>
        B1 (fX7_highest M1_2 o) fun x72_68 =>
        B1 (rdI M1_2 o 10 6) fun x83_69 =>
        if (mxI (x50_63 - x27_43) x56_65) = x83_69 then
          B1 (rdI M1_2 o 10 7) fun x92_72 =>
          if (mnI (x65_66 + x44_62) x72_68) = x92_72 then
            B1 (wrI M1_2 o 10 6 (mxI (x50_63 - x27_43) x56_65)) fun M108_73 =>
            B1 (wrI M108_73 o 10 7 (mnI (x65_66 + x44_62) x72_68)) fun M114_74 =>
            some (0, M114_74)
          else
            B1 (wrI M1_2 o 10 6 (mxI (x50_63 - x27_43) x56_65)) fun M108_75 =>
            B1 (wrI M108_75 o 10 7 (mnI (x65_66 + x44_62) x72_68)) fun M114_76 =>
            some (1, M114_76)
        else
          B1 (wrI M1_2 o 10 6 (mxI (x50_63 - x27_43) x56_65)) fun M108_70 =>
          B1 (wrI M108_70 o 10 7 (mnI (x65_66 + x44_62) x72_68)) fun M114_71 =>
          some (1, M114_71)
      else
        B1 (gk M1_2 o 10) fun _ =>
        B1 (fX7_byKind M1_2 o 0) fun x44_45 =>
        B1 (rdI M1_2 o 10 6) fun x50_46 =>
        B1 (gk M1_2 o 10) fun _ =>
        B1 (fX7_lowest M1_2 o) fun x56_48 =>
        B1 (rdI M1_2 o 10 7) fun x65_49 =>
        B1 (gk M1_2 o 10) fun _ =>
        B1 (fX7_highest M1_2 o) fun x72_51 =>
        B1 (rdI M1_2 o 10 6) fun x83_52 =>
        if (mxI (x50_46 - x27_43) x56_48) = x83_52 then
          B1 (rdI M1_2 o 10 7) fun x92_55 =>
          if (mnI (x65_49 + x44_45) x72_51) = x92_55 then
            B1 (wrI M1_2 o 10 6 (mxI (x50_46 - x27_43) x56_48)) fun M108_56 =>
            B1 (wrI M108_56 o 10 7 (mnI (x65_49 + x44_45) x72_51)) fun M114_57 =>
            some (0, M114_57)
          else
            B1 (wrI M1_2 o 10 6 (mxI (x50_46 - x27_43) x56_48)) fun M108_58 =>
            B1 (wrI M108_58 o 10 7 (mnI (x65_49 + x44_45) x72_51)) fun M114_59 =>
            some (1, M114_59)
        else
          B1 (wrI M1_2 o 10 6 (mxI (x50_46 - x27_43) x56_48)) fun M108_53 =>
          B1 (wrI M108_53 o 10 7 (mnI (x65_49 + x44_45) x72_51)) fun M114_54 =>
          some (1, M114_54)
    else
      B1 (alI M1_2 p2 1) fun x26_5 =>
      B1 (gk M1_2 o 10) fun _ =>
      B1 (fX7_byKind M1_2 o x26_5) fun x27_7 =>
      if p1 = 2 then
        B1 (alI M1_2 p2 1) fun x39_24 =>
        B1 (gk M1_2 o 10) fun _ =>
        B1 (fX7_byKind M1_2 o x39_24) fun x44_26 =>
        B1 (rdI M1_2 o 10 6) fun x50_27 =>
        B1 (gk M1_2 o 10) fun _ =>
        B1 (fX7_lowest M1_2 o) fun x56_29 =>
        B1 (rdI M1_2 o 10 7) fun x65_30 =>
        B1 (gk M1_2 o 10) fun _ =>
        B1 (fX7_highest M1_2 o) fun x72_32 =>
        B1 (rdI M1_2 o 10 6) fun x83_33 =>
        if (mxI (x50_27 - x27_7) x56_29) = x83_33 then
          B1 (rdI M1_2 o 10 7) fun x92_36 =>
          if (mnI (x65_30 + x44_26) x72_32) = x92_36 then
            B1 (wrI M1_2 o 10 6 (mxI (x50_27 - x27_7) x56_29)) fun M108_37 =>
            B1 (wrI M108_37 o 10 7 (mnI (x65_30 + x44_26) x72_32)) fun M114_38 =>
            some (0, M114_38)
          else
            B1 (wrI M1_2 o 10 6 (mxI (x50_27 - x27_7) x56_29)) fun M108_39 =>
            B1 (wrI M108_39 o 10 7 (mnI (x65_30 + x44_26) x72_32)) fun M114_40 =>
            some (1, M114_40)
        else
          B1 (wrI M1_2 o 10 6 (mxI (x50_27 - x27_7) x56_29)) fun M108_34 =>
          B1 (wrI M108_34 o 10 7 (mnI (x65_30 + x44_26) x72_32)) fun M114_35 =>
          some (1, M114_35)
      else
        B1 (gk M1_2 o 10) fun _ =>
        B1 (fX7_byKind M1_2 o 0) fun x44_9 =>
        B1 (rdI M1_2 o 10 6) fun x50_10 =>
        B1 (gk M1_2 o 10) fun _ =>
        B1 (fX7_lowest M1_2 o) fun x56_12 =>
        B1 (rdI M1_2 o 10 7) fun x65_13 =>
        B1 (gk M1_2 o 10) fun _ =>
        B1 (fX7_highest M1_2 o) fun x72_15 =>
        B1 (rdI M1_2 o 10 6) fun x83_16 =>
        if (mxI (x50_10 - x27_7) x56_12) = x83_16 then
          B1 (rdI M1_2 o 10 7) fun x92_19 =>
          if (mnI (x65_13 + x44_9) x72_15) = x92_19 then
            B1 (wrI M1_2 o 10 6 (mxI (x50_10 - x27_7) x56_12)) fun M108_20 =>
            B1 (wrI M108_20 o 10 7 (mnI (x65_13 + x44_9) x72_15)) fun M114_21 =>
            some (0, M114_21)
          else
            B1 (wrI M1_2 o 10 6 (mxI (x50_10 - x27_7) x56_12)) fun M108_22 =>
            B1 (wrI M108_22 o 10 7 (mnI (x65_13 + x44_9) x72_15)) fun M114_23 =>
            some (1, M114_23)
        else
          B1 (wrI M1_2 o 10 6 (mxI (x50_10 - x27_7) x56_12)) fun M108_17 =>
          B1 (wrI M108_17 o 10 7 (mnI (x65_13 + x44_9) x72_15)) fun M114_18 =>
          some (1, M114_18)
set_option maxRecDepth 100000 in
set_option maxHeartbeats 4000000 in
theorem qX7_passMove (l : Launch) (E : Ev) {M : Mm} {o : Nat} {p1 : Int32} {p2 : Nat} {rz : Int32} {Mz : Mm} (hf : fX7_passMove M o p1 p2 = some (rz, Mz)) : Ct l E yX7_passMove cX7_passMove 8 (some .boolean) 2 35 0 0 [.ref (E.b + o), .int p1, .ref (E.b + p2)] M (some (.int rz)) Mz := by
  refine ct_of (by decide +kernel) (Nat.le_of_ble_eq_true rfl) fun p e s m args below meth c C hr hin hW ls hl => ?_
  have hl : lv_has ls 8 [(0, .ref (E.b + o)), (1, .int p1), (2, .ref (E.b + p2))] := hl
  unfold fX7_passMove at hf
  refine lv_aload_n C.x C.b dX7_passMove_0 rfl (lv_at hl 0 rfl) ?_
  replace hf := x_b1 hf; obtain ⟨_, hk1_1, hf⟩ := hf
  replace hf := x_b1 hf; obtain ⟨M1_2, hM1_2, hf⟩ := hf
  refine x_callV (As := []) (a := o) (rest := []) C hW hl (qX7_loseWetDabs l E hM1_2) (x_gk hk1_1) (by decide) (by decide) rfl gv_X7_107 ⟨rfl, hd_X7_loseWetDabs⟩ rfl rfl (Nat.le_of_ble_eq_true rfl) dX7_passMove_1 ⟨Nat.le_of_ble_eq_true rfl, Nat.le_of_ble_eq_true rfl⟩ ⟨Nat.le_of_ble_eq_true rfl, Nat.le_of_ble_eq_true rfl⟩ (fun H locs hW => ?_)
  refine lv_aload_n C.x C.b dX7_passMove_4 rfl (lv_at hl 0 rfl) ?_
  replace hf := x_b1 hf; obtain ⟨_, hk5_3, hf⟩ := hf
  replace hf := x_b1 hf; obtain ⟨x5_4, hx5_4, hf⟩ := hf
  refine x_callV (As := []) (a := o) (rest := []) C hW hl (qX7_hasLadder l E hx5_4) (x_gk hk5_3) (by decide) (by decide) rfl gv_X7_59 ⟨rfl, hd_X7_hasLadder⟩ rfl rfl (Nat.le_of_ble_eq_true rfl) dX7_passMove_5 ⟨Nat.le_of_ble_eq_true rfl, Nat.le_of_ble_eq_true rfl⟩ ⟨Nat.le_of_ble_eq_true rfl, Nat.le_of_ble_eq_true rfl⟩ (fun H locs hW => ?_)
  refine lv_if_ne (tgt := 13) C.x C.b dX7_passMove_8 rfl (fun c8 => ?_) (fun c8 => ?_)
  · replace hf := x_in c8 hf
    refine lv_aload_n C.x C.b dX7_passMove_13 rfl (lv_at hl 0 rfl) ?_
    refine lv_iload_n C.x C.b dX7_passMove_14 rfl (lv_at hl 1 rfl) ?_
    refine lv_if_ne (tgt := 24) C.x C.b dX7_passMove_15 rfl (fun c15 => ?_) (fun c15 => ?_)
    · replace hf := x_in c15 hf
      refine lv_aload_n C.x C.b dX7_passMove_24 rfl (lv_at hl 2 rfl) ?_
      refine lv_iconst (v := 1) C.x C.b dX7_passMove_25 (by decide) ?_
      replace hf := x_b1 hf; obtain ⟨x26_5, hx26_5, hf⟩ := hf
      refine x_iald C hW hx26_5 dX7_passMove_26 ?_
      replace hf := x_b1 hf; obtain ⟨_, hk27_6, hf⟩ := hf
      replace hf := x_b1 hf; obtain ⟨x27_7, hx27_7, hf⟩ := hf
      refine x_callV (As := [.int x26_5]) (a := o) (rest := []) C hW hl (qX7_byKind l E hx27_7) (x_gk hk27_6) (by decide) (by decide) rfl gv_X7_110 ⟨rfl, hd_X7_byKind⟩ rfl rfl (Nat.le_of_ble_eq_true rfl) dX7_passMove_27 ⟨Nat.le_of_ble_eq_true rfl, Nat.le_of_ble_eq_true rfl⟩ ⟨Nat.le_of_ble_eq_true rfl, Nat.le_of_ble_eq_true rfl⟩ (fun H locs hW => ?_)
      refine lv_istore_n (lv' := [(3, .int _), (0, .ref (E.b + _)), (1, .int _), (2, .ref (E.b + _))]) C.x C.b dX7_passMove_30 rfl hl (by decide) rfl (fun ls hl => ?_)
      refine lv_aload_n C.x C.b dX7_passMove_31 rfl (lv_at hl 1 rfl) ?_
      refine lv_iload_n C.x C.b dX7_passMove_32 rfl (lv_at hl 2 rfl) ?_
      refine lv_iconst (v := 2) C.x C.b dX7_passMove_33 (by decide) ?_
      refine lv_icmp_ne (tgt := 43) C.x C.b dX7_passMove_34 rfl (fun c34 => ?_) (fun c34 => ?_)
      · replace hf := x_in c34 hf
        refine lv_iconst (v := 0) C.x C.b dX7_passMove_43 (by decide) ?_
        replace hf := x_b1 hf; obtain ⟨_, hk44_8, hf⟩ := hf
        replace hf := x_b1 hf; obtain ⟨x44_9, hx44_9, hf⟩ := hf
        refine x_callV (As := [.int 0]) (a := o) (rest := []) C hW hl (qX7_byKind l E hx44_9) (x_gk hk44_8) (by decide) (by decide) rfl gv_X7_110 ⟨rfl, hd_X7_byKind⟩ rfl rfl (Nat.le_of_ble_eq_true rfl) dX7_passMove_44 ⟨Nat.le_of_ble_eq_true rfl, Nat.le_of_ble_eq_true rfl⟩ ⟨Nat.le_of_ble_eq_true rfl, Nat.le_of_ble_eq_true rfl⟩ (fun H locs hW => ?_)
        refine lv_istore (lv' := [(4, .int _), (3, .int _), (0, .ref (E.b + _)), (1, .int _), (2, .ref (E.b + _))]) C.x C.b dX7_passMove_47 hl (by decide) rfl (fun ls hl => ?_)
        refine lv_aload_n C.x C.b dX7_passMove_49 rfl (lv_at hl 2 rfl) ?_
        replace hf := x_b1 hf; obtain ⟨x50_10, hx50_10, hf⟩ := hf
        refine x_geti C hW fg_X7_30_10 hx50_10 dX7_passMove_50 ?_
        refine lv_iload_n C.x C.b dX7_passMove_53 rfl (lv_at hl 1 rfl) ?_
        refine lv_isub C.x C.b dX7_passMove_54 ?_
        refine lv_aload_n C.x C.b dX7_passMove_55 rfl (lv_at hl 2 rfl) ?_
        replace hf := x_b1 hf; obtain ⟨_, hk56_11, hf⟩ := hf
        replace hf := x_b1 hf; obtain ⟨x56_12, hx56_12, hf⟩ := hf
        refine x_callV (As := []) (a := o) (rest := [.int (x50_10 - x27_7)]) C hW hl (qX7_lowest l E hx56_12) (x_gk hk56_11) (by decide) (by decide) rfl gv_X7_113 ⟨rfl, hd_X7_lowest⟩ rfl rfl (Nat.le_of_ble_eq_true rfl) dX7_passMove_56 ⟨Nat.le_of_ble_eq_true rfl, Nat.le_of_ble_eq_true rfl⟩ ⟨Nat.le_of_ble_eq_true rfl, Nat.le_of_ble_eq_true rfl⟩ (fun H locs hW => ?_)
        refine x_mmax C hl T_3_144 T_3_145 T_1_15 T_3_146 (Nat.le_of_ble_eq_true rfl) (Nat.le_of_ble_eq_true rfl) ⟨Nat.le_of_ble_eq_true rfl, Nat.le_of_ble_eq_true rfl⟩ dX7_passMove_59 ?_
        refine lv_istore (lv' := [(5, .int _), (4, .int _), (3, .int _), (0, .ref (E.b + _)), (1, .int _), (2, .ref (E.b + _))]) C.x C.b dX7_passMove_62 hl (by decide) rfl (fun ls hl => ?_)
        refine lv_aload_n C.x C.b dX7_passMove_64 rfl (lv_at hl 3 rfl) ?_
        replace hf := x_b1 hf; obtain ⟨x65_13, hx65_13, hf⟩ := hf
        refine x_geti C hW fg_X7_33_10 hx65_13 dX7_passMove_65 ?_
        refine lv_iload C.x C.b dX7_passMove_68 (lv_at hl 1 rfl) ?_
        refine lv_iadd C.x C.b dX7_passMove_70 ?_
        refine lv_aload_n C.x C.b dX7_passMove_71 rfl (lv_at hl 3 rfl) ?_
        replace hf := x_b1 hf; obtain ⟨_, hk72_14, hf⟩ := hf
        replace hf := x_b1 hf; obtain ⟨x72_15, hx72_15, hf⟩ := hf
        refine x_callV (As := []) (a := o) (rest := [.int (x65_13 + x44_9)]) C hW hl (qX7_highest l E hx72_15) (x_gk hk72_14) (by decide) (by decide) rfl gv_X7_116 ⟨rfl, hd_X7_highest⟩ rfl rfl (Nat.le_of_ble_eq_true rfl) dX7_passMove_72 ⟨Nat.le_of_ble_eq_true rfl, Nat.le_of_ble_eq_true rfl⟩ ⟨Nat.le_of_ble_eq_true rfl, Nat.le_of_ble_eq_true rfl⟩ (fun H locs hW => ?_)
        refine x_mmin C hl T_3_159 T_3_160 T_1_15 T_3_161 (Nat.le_of_ble_eq_true rfl) (Nat.le_of_ble_eq_true rfl) ⟨Nat.le_of_ble_eq_true rfl, Nat.le_of_ble_eq_true rfl⟩ dX7_passMove_75 ?_
        refine lv_istore (lv' := [(6, .int _), (5, .int _), (4, .int _), (3, .int _), (0, .ref (E.b + _)), (1, .int _), (2, .ref (E.b + _))]) C.x C.b dX7_passMove_78 hl (by decide) rfl (fun ls hl => ?_)
        refine lv_iload C.x C.b dX7_passMove_80 (lv_at hl 1 rfl) ?_
        refine lv_aload_n C.x C.b dX7_passMove_82 rfl (lv_at hl 4 rfl) ?_
        replace hf := x_b1 hf; obtain ⟨x83_16, hx83_16, hf⟩ := hf
        refine x_geti C hW fg_X7_30_10 hx83_16 dX7_passMove_83 ?_
        refine lv_icmp_ne (tgt := 98) C.x C.b dX7_passMove_86 rfl (fun c86 => ?_) (fun c86 => ?_)
        · replace hf := x_in c86 hf
          refine lv_iconst (v := 1) C.x C.b dX7_passMove_98 (by decide) ?_
          refine lv_goto (tgt := 103) C.x C.b dX7_passMove_99 rfl ?_
          refine lv_istore (lv' := [(7, .int _), (6, .int _), (5, .int _), (4, .int _), (3, .int _), (0, .ref (E.b + _)), (1, .int _), (2, .ref (E.b + _))]) C.x C.b dX7_passMove_103 hl (by decide) rfl (fun ls hl => ?_)
          refine lv_aload_n C.x C.b dX7_passMove_105 rfl (lv_at hl 5 rfl) ?_
          refine lv_iload C.x C.b dX7_passMove_106 (lv_at hl 2 rfl) ?_
          replace hf := x_b1 hf; obtain ⟨M108_17, hM108_17, hf⟩ := hf
          refine x_puti C hW fp_X7_30_10 hM108_17 (fun h => by cases h) dX7_passMove_108 (fun H locs hW => ?_)
          refine lv_aload_n C.x C.b dX7_passMove_111 rfl (lv_at hl 5 rfl) ?_
          refine lv_iload C.x C.b dX7_passMove_112 (lv_at hl 1 rfl) ?_
          replace hf := x_b1 hf; obtain ⟨M114_18, hM114_18, hf⟩ := hf
          refine x_puti C hW fp_X7_33_10 hM114_18 (fun h => by cases h) dX7_passMove_114 (fun H locs hW => ?_)
          refine lv_iload C.x C.b dX7_passMove_117 (lv_at hl 0 rfl) ?_
          rw [x_e1 hf, x_e2 hf]
          exact x_zret C hr hW (v := 1) (w := 1) rfl dX7_passMove_119
        · replace hf := x_ip c86 hf
          refine lv_iload C.x C.b dX7_passMove_89 (lv_at hl 0 rfl) ?_
          refine lv_aload_n C.x C.b dX7_passMove_91 rfl (lv_at hl 4 rfl) ?_
          replace hf := x_b1 hf; obtain ⟨x92_19, hx92_19, hf⟩ := hf
          refine x_geti C hW fg_X7_33_10 hx92_19 dX7_passMove_92 ?_
          refine lv_icmp_eq (tgt := 102) C.x C.b dX7_passMove_95 rfl (fun c95 => ?_) (fun c95 => ?_)
          · replace hf := x_ip c95 hf
            refine lv_iconst (v := 0) C.x C.b dX7_passMove_102 (by decide) ?_
            refine lv_istore (lv' := [(7, .int _), (6, .int _), (5, .int _), (4, .int _), (3, .int _), (0, .ref (E.b + _)), (1, .int _), (2, .ref (E.b + _))]) C.x C.b dX7_passMove_103 hl (by decide) rfl (fun ls hl => ?_)
            refine lv_aload_n C.x C.b dX7_passMove_105 rfl (lv_at hl 5 rfl) ?_
            refine lv_iload C.x C.b dX7_passMove_106 (lv_at hl 2 rfl) ?_
            replace hf := x_b1 hf; obtain ⟨M108_20, hM108_20, hf⟩ := hf
            refine x_puti C hW fp_X7_30_10 hM108_20 (fun h => by cases h) dX7_passMove_108 (fun H locs hW => ?_)
            refine lv_aload_n C.x C.b dX7_passMove_111 rfl (lv_at hl 5 rfl) ?_
            refine lv_iload C.x C.b dX7_passMove_112 (lv_at hl 1 rfl) ?_
            replace hf := x_b1 hf; obtain ⟨M114_21, hM114_21, hf⟩ := hf
            refine x_puti C hW fp_X7_33_10 hM114_21 (fun h => by cases h) dX7_passMove_114 (fun H locs hW => ?_)
            refine lv_iload C.x C.b dX7_passMove_117 (lv_at hl 0 rfl) ?_
            rw [x_e1 hf, x_e2 hf]
            exact x_zret C hr hW (v := 0) (w := 0) rfl dX7_passMove_119
          · replace hf := x_in c95 hf
            refine lv_iconst (v := 1) C.x C.b dX7_passMove_98 (by decide) ?_
            refine lv_goto (tgt := 103) C.x C.b dX7_passMove_99 rfl ?_
            refine lv_istore (lv' := [(7, .int _), (6, .int _), (5, .int _), (4, .int _), (3, .int _), (0, .ref (E.b + _)), (1, .int _), (2, .ref (E.b + _))]) C.x C.b dX7_passMove_103 hl (by decide) rfl (fun ls hl => ?_)
            refine lv_aload_n C.x C.b dX7_passMove_105 rfl (lv_at hl 5 rfl) ?_
            refine lv_iload C.x C.b dX7_passMove_106 (lv_at hl 2 rfl) ?_
            replace hf := x_b1 hf; obtain ⟨M108_22, hM108_22, hf⟩ := hf
            refine x_puti C hW fp_X7_30_10 hM108_22 (fun h => by cases h) dX7_passMove_108 (fun H locs hW => ?_)
            refine lv_aload_n C.x C.b dX7_passMove_111 rfl (lv_at hl 5 rfl) ?_
            refine lv_iload C.x C.b dX7_passMove_112 (lv_at hl 1 rfl) ?_
            replace hf := x_b1 hf; obtain ⟨M114_23, hM114_23, hf⟩ := hf
            refine x_puti C hW fp_X7_33_10 hM114_23 (fun h => by cases h) dX7_passMove_114 (fun H locs hW => ?_)
            refine lv_iload C.x C.b dX7_passMove_117 (lv_at hl 0 rfl) ?_
            rw [x_e1 hf, x_e2 hf]
            exact x_zret C hr hW (v := 1) (w := 1) rfl dX7_passMove_119
      · replace hf := x_ip c34 hf
        refine lv_aload_n C.x C.b dX7_passMove_37 rfl (lv_at hl 3 rfl) ?_
        refine lv_iconst (v := 1) C.x C.b dX7_passMove_38 (by decide) ?_
        replace hf := x_b1 hf; obtain ⟨x39_24, hx39_24, hf⟩ := hf
        refine x_iald C hW hx39_24 dX7_passMove_39 ?_
        refine lv_goto (tgt := 44) C.x C.b dX7_passMove_40 rfl ?_
        replace hf := x_b1 hf; obtain ⟨_, hk44_25, hf⟩ := hf
        replace hf := x_b1 hf; obtain ⟨x44_26, hx44_26, hf⟩ := hf
        refine x_callV (As := [.int x39_24]) (a := o) (rest := []) C hW hl (qX7_byKind l E hx44_26) (x_gk hk44_25) (by decide) (by decide) rfl gv_X7_110 ⟨rfl, hd_X7_byKind⟩ rfl rfl (Nat.le_of_ble_eq_true rfl) dX7_passMove_44 ⟨Nat.le_of_ble_eq_true rfl, Nat.le_of_ble_eq_true rfl⟩ ⟨Nat.le_of_ble_eq_true rfl, Nat.le_of_ble_eq_true rfl⟩ (fun H locs hW => ?_)
        refine lv_istore (lv' := [(4, .int _), (3, .int _), (0, .ref (E.b + _)), (1, .int _), (2, .ref (E.b + _))]) C.x C.b dX7_passMove_47 hl (by decide) rfl (fun ls hl => ?_)
        refine lv_aload_n C.x C.b dX7_passMove_49 rfl (lv_at hl 2 rfl) ?_
        replace hf := x_b1 hf; obtain ⟨x50_27, hx50_27, hf⟩ := hf
        refine x_geti C hW fg_X7_30_10 hx50_27 dX7_passMove_50 ?_
        refine lv_iload_n C.x C.b dX7_passMove_53 rfl (lv_at hl 1 rfl) ?_
        refine lv_isub C.x C.b dX7_passMove_54 ?_
        refine lv_aload_n C.x C.b dX7_passMove_55 rfl (lv_at hl 2 rfl) ?_
        replace hf := x_b1 hf; obtain ⟨_, hk56_28, hf⟩ := hf
        replace hf := x_b1 hf; obtain ⟨x56_29, hx56_29, hf⟩ := hf
        refine x_callV (As := []) (a := o) (rest := [.int (x50_27 - x27_7)]) C hW hl (qX7_lowest l E hx56_29) (x_gk hk56_28) (by decide) (by decide) rfl gv_X7_113 ⟨rfl, hd_X7_lowest⟩ rfl rfl (Nat.le_of_ble_eq_true rfl) dX7_passMove_56 ⟨Nat.le_of_ble_eq_true rfl, Nat.le_of_ble_eq_true rfl⟩ ⟨Nat.le_of_ble_eq_true rfl, Nat.le_of_ble_eq_true rfl⟩ (fun H locs hW => ?_)
        refine x_mmax C hl T_3_144 T_3_145 T_1_15 T_3_146 (Nat.le_of_ble_eq_true rfl) (Nat.le_of_ble_eq_true rfl) ⟨Nat.le_of_ble_eq_true rfl, Nat.le_of_ble_eq_true rfl⟩ dX7_passMove_59 ?_
        refine lv_istore (lv' := [(5, .int _), (4, .int _), (3, .int _), (0, .ref (E.b + _)), (1, .int _), (2, .ref (E.b + _))]) C.x C.b dX7_passMove_62 hl (by decide) rfl (fun ls hl => ?_)
        refine lv_aload_n C.x C.b dX7_passMove_64 rfl (lv_at hl 3 rfl) ?_
        replace hf := x_b1 hf; obtain ⟨x65_30, hx65_30, hf⟩ := hf
        refine x_geti C hW fg_X7_33_10 hx65_30 dX7_passMove_65 ?_
        refine lv_iload C.x C.b dX7_passMove_68 (lv_at hl 1 rfl) ?_
        refine lv_iadd C.x C.b dX7_passMove_70 ?_
        refine lv_aload_n C.x C.b dX7_passMove_71 rfl (lv_at hl 3 rfl) ?_
        replace hf := x_b1 hf; obtain ⟨_, hk72_31, hf⟩ := hf
        replace hf := x_b1 hf; obtain ⟨x72_32, hx72_32, hf⟩ := hf
        refine x_callV (As := []) (a := o) (rest := [.int (x65_30 + x44_26)]) C hW hl (qX7_highest l E hx72_32) (x_gk hk72_31) (by decide) (by decide) rfl gv_X7_116 ⟨rfl, hd_X7_highest⟩ rfl rfl (Nat.le_of_ble_eq_true rfl) dX7_passMove_72 ⟨Nat.le_of_ble_eq_true rfl, Nat.le_of_ble_eq_true rfl⟩ ⟨Nat.le_of_ble_eq_true rfl, Nat.le_of_ble_eq_true rfl⟩ (fun H locs hW => ?_)
        refine x_mmin C hl T_3_159 T_3_160 T_1_15 T_3_161 (Nat.le_of_ble_eq_true rfl) (Nat.le_of_ble_eq_true rfl) ⟨Nat.le_of_ble_eq_true rfl, Nat.le_of_ble_eq_true rfl⟩ dX7_passMove_75 ?_
        refine lv_istore (lv' := [(6, .int _), (5, .int _), (4, .int _), (3, .int _), (0, .ref (E.b + _)), (1, .int _), (2, .ref (E.b + _))]) C.x C.b dX7_passMove_78 hl (by decide) rfl (fun ls hl => ?_)
        refine lv_iload C.x C.b dX7_passMove_80 (lv_at hl 1 rfl) ?_
        refine lv_aload_n C.x C.b dX7_passMove_82 rfl (lv_at hl 4 rfl) ?_
        replace hf := x_b1 hf; obtain ⟨x83_33, hx83_33, hf⟩ := hf
        refine x_geti C hW fg_X7_30_10 hx83_33 dX7_passMove_83 ?_
        refine lv_icmp_ne (tgt := 98) C.x C.b dX7_passMove_86 rfl (fun c86 => ?_) (fun c86 => ?_)
        · replace hf := x_in c86 hf
          refine lv_iconst (v := 1) C.x C.b dX7_passMove_98 (by decide) ?_
          refine lv_goto (tgt := 103) C.x C.b dX7_passMove_99 rfl ?_
          refine lv_istore (lv' := [(7, .int _), (6, .int _), (5, .int _), (4, .int _), (3, .int _), (0, .ref (E.b + _)), (1, .int _), (2, .ref (E.b + _))]) C.x C.b dX7_passMove_103 hl (by decide) rfl (fun ls hl => ?_)
          refine lv_aload_n C.x C.b dX7_passMove_105 rfl (lv_at hl 5 rfl) ?_
          refine lv_iload C.x C.b dX7_passMove_106 (lv_at hl 2 rfl) ?_
          replace hf := x_b1 hf; obtain ⟨M108_34, hM108_34, hf⟩ := hf
          refine x_puti C hW fp_X7_30_10 hM108_34 (fun h => by cases h) dX7_passMove_108 (fun H locs hW => ?_)
          refine lv_aload_n C.x C.b dX7_passMove_111 rfl (lv_at hl 5 rfl) ?_
          refine lv_iload C.x C.b dX7_passMove_112 (lv_at hl 1 rfl) ?_
          replace hf := x_b1 hf; obtain ⟨M114_35, hM114_35, hf⟩ := hf
          refine x_puti C hW fp_X7_33_10 hM114_35 (fun h => by cases h) dX7_passMove_114 (fun H locs hW => ?_)
          refine lv_iload C.x C.b dX7_passMove_117 (lv_at hl 0 rfl) ?_
          rw [x_e1 hf, x_e2 hf]
          exact x_zret C hr hW (v := 1) (w := 1) rfl dX7_passMove_119
        · replace hf := x_ip c86 hf
          refine lv_iload C.x C.b dX7_passMove_89 (lv_at hl 0 rfl) ?_
          refine lv_aload_n C.x C.b dX7_passMove_91 rfl (lv_at hl 4 rfl) ?_
          replace hf := x_b1 hf; obtain ⟨x92_36, hx92_36, hf⟩ := hf
          refine x_geti C hW fg_X7_33_10 hx92_36 dX7_passMove_92 ?_
          refine lv_icmp_eq (tgt := 102) C.x C.b dX7_passMove_95 rfl (fun c95 => ?_) (fun c95 => ?_)
          · replace hf := x_ip c95 hf
            refine lv_iconst (v := 0) C.x C.b dX7_passMove_102 (by decide) ?_
            refine lv_istore (lv' := [(7, .int _), (6, .int _), (5, .int _), (4, .int _), (3, .int _), (0, .ref (E.b + _)), (1, .int _), (2, .ref (E.b + _))]) C.x C.b dX7_passMove_103 hl (by decide) rfl (fun ls hl => ?_)
            refine lv_aload_n C.x C.b dX7_passMove_105 rfl (lv_at hl 5 rfl) ?_
            refine lv_iload C.x C.b dX7_passMove_106 (lv_at hl 2 rfl) ?_
            replace hf := x_b1 hf; obtain ⟨M108_37, hM108_37, hf⟩ := hf
            refine x_puti C hW fp_X7_30_10 hM108_37 (fun h => by cases h) dX7_passMove_108 (fun H locs hW => ?_)
            refine lv_aload_n C.x C.b dX7_passMove_111 rfl (lv_at hl 5 rfl) ?_
            refine lv_iload C.x C.b dX7_passMove_112 (lv_at hl 1 rfl) ?_
            replace hf := x_b1 hf; obtain ⟨M114_38, hM114_38, hf⟩ := hf
            refine x_puti C hW fp_X7_33_10 hM114_38 (fun h => by cases h) dX7_passMove_114 (fun H locs hW => ?_)
            refine lv_iload C.x C.b dX7_passMove_117 (lv_at hl 0 rfl) ?_
            rw [x_e1 hf, x_e2 hf]
            exact x_zret C hr hW (v := 0) (w := 0) rfl dX7_passMove_119
          · replace hf := x_in c95 hf
            refine lv_iconst (v := 1) C.x C.b dX7_passMove_98 (by decide) ?_
            refine lv_goto (tgt := 103) C.x C.b dX7_passMove_99 rfl ?_
            refine lv_istore (lv' := [(7, .int _), (6, .int _), (5, .int _), (4, .int _), (3, .int _), (0, .ref (E.b + _)), (1, .int _), (2, .ref (E.b + _))]) C.x C.b dX7_passMove_103 hl (by decide) rfl (fun ls hl => ?_)
            refine lv_aload_n C.x C.b dX7_passMove_105 rfl (lv_at hl 5 rfl) ?_
            refine lv_iload C.x C.b dX7_passMove_106 (lv_at hl 2 rfl) ?_
            replace hf := x_b1 hf; obtain ⟨M108_39, hM108_39, hf⟩ := hf
            refine x_puti C hW fp_X7_30_10 hM108_39 (fun h => by cases h) dX7_passMove_108 (fun H locs hW => ?_)
            refine lv_aload_n C.x C.b dX7_passMove_111 rfl (lv_at hl 5 rfl) ?_
            refine lv_iload C.x C.b dX7_passMove_112 (lv_at hl 1 rfl) ?_
            replace hf := x_b1 hf; obtain ⟨M114_40, hM114_40, hf⟩ := hf
            refine x_puti C hW fp_X7_33_10 hM114_40 (fun h => by cases h) dX7_passMove_114 (fun H locs hW => ?_)
            refine lv_iload C.x C.b dX7_passMove_117 (lv_at hl 0 rfl) ?_
            rw [x_e1 hf, x_e2 hf]
            exact x_zret C hr hW (v := 1) (w := 1) rfl dX7_passMove_119
    · replace hf := x_ip c15 hf
      refine lv_aload_n C.x C.b dX7_passMove_18 rfl (lv_at hl 2 rfl) ?_
      refine lv_iconst (v := 0) C.x C.b dX7_passMove_19 (by decide) ?_
      replace hf := x_b1 hf; obtain ⟨x20_41, hx20_41, hf⟩ := hf
      refine x_iald C hW hx20_41 dX7_passMove_20 ?_
      refine lv_goto (tgt := 27) C.x C.b dX7_passMove_21 rfl ?_
      replace hf := x_b1 hf; obtain ⟨_, hk27_42, hf⟩ := hf
      replace hf := x_b1 hf; obtain ⟨x27_43, hx27_43, hf⟩ := hf
      refine x_callV (As := [.int x20_41]) (a := o) (rest := []) C hW hl (qX7_byKind l E hx27_43) (x_gk hk27_42) (by decide) (by decide) rfl gv_X7_110 ⟨rfl, hd_X7_byKind⟩ rfl rfl (Nat.le_of_ble_eq_true rfl) dX7_passMove_27 ⟨Nat.le_of_ble_eq_true rfl, Nat.le_of_ble_eq_true rfl⟩ ⟨Nat.le_of_ble_eq_true rfl, Nat.le_of_ble_eq_true rfl⟩ (fun H locs hW => ?_)
      refine lv_istore_n (lv' := [(3, .int _), (0, .ref (E.b + _)), (1, .int _), (2, .ref (E.b + _))]) C.x C.b dX7_passMove_30 rfl hl (by decide) rfl (fun ls hl => ?_)
      refine lv_aload_n C.x C.b dX7_passMove_31 rfl (lv_at hl 1 rfl) ?_
      refine lv_iload_n C.x C.b dX7_passMove_32 rfl (lv_at hl 2 rfl) ?_
      refine lv_iconst (v := 2) C.x C.b dX7_passMove_33 (by decide) ?_
      refine lv_icmp_ne (tgt := 43) C.x C.b dX7_passMove_34 rfl (fun c34 => ?_) (fun c34 => ?_)
      · replace hf := x_in c34 hf
        refine lv_iconst (v := 0) C.x C.b dX7_passMove_43 (by decide) ?_
        replace hf := x_b1 hf; obtain ⟨_, hk44_44, hf⟩ := hf
        replace hf := x_b1 hf; obtain ⟨x44_45, hx44_45, hf⟩ := hf
        refine x_callV (As := [.int 0]) (a := o) (rest := []) C hW hl (qX7_byKind l E hx44_45) (x_gk hk44_44) (by decide) (by decide) rfl gv_X7_110 ⟨rfl, hd_X7_byKind⟩ rfl rfl (Nat.le_of_ble_eq_true rfl) dX7_passMove_44 ⟨Nat.le_of_ble_eq_true rfl, Nat.le_of_ble_eq_true rfl⟩ ⟨Nat.le_of_ble_eq_true rfl, Nat.le_of_ble_eq_true rfl⟩ (fun H locs hW => ?_)
        refine lv_istore (lv' := [(4, .int _), (3, .int _), (0, .ref (E.b + _)), (1, .int _), (2, .ref (E.b + _))]) C.x C.b dX7_passMove_47 hl (by decide) rfl (fun ls hl => ?_)
        refine lv_aload_n C.x C.b dX7_passMove_49 rfl (lv_at hl 2 rfl) ?_
        replace hf := x_b1 hf; obtain ⟨x50_46, hx50_46, hf⟩ := hf
        refine x_geti C hW fg_X7_30_10 hx50_46 dX7_passMove_50 ?_
        refine lv_iload_n C.x C.b dX7_passMove_53 rfl (lv_at hl 1 rfl) ?_
        refine lv_isub C.x C.b dX7_passMove_54 ?_
        refine lv_aload_n C.x C.b dX7_passMove_55 rfl (lv_at hl 2 rfl) ?_
        replace hf := x_b1 hf; obtain ⟨_, hk56_47, hf⟩ := hf
        replace hf := x_b1 hf; obtain ⟨x56_48, hx56_48, hf⟩ := hf
        refine x_callV (As := []) (a := o) (rest := [.int (x50_46 - x27_43)]) C hW hl (qX7_lowest l E hx56_48) (x_gk hk56_47) (by decide) (by decide) rfl gv_X7_113 ⟨rfl, hd_X7_lowest⟩ rfl rfl (Nat.le_of_ble_eq_true rfl) dX7_passMove_56 ⟨Nat.le_of_ble_eq_true rfl, Nat.le_of_ble_eq_true rfl⟩ ⟨Nat.le_of_ble_eq_true rfl, Nat.le_of_ble_eq_true rfl⟩ (fun H locs hW => ?_)
        refine x_mmax C hl T_3_144 T_3_145 T_1_15 T_3_146 (Nat.le_of_ble_eq_true rfl) (Nat.le_of_ble_eq_true rfl) ⟨Nat.le_of_ble_eq_true rfl, Nat.le_of_ble_eq_true rfl⟩ dX7_passMove_59 ?_
        refine lv_istore (lv' := [(5, .int _), (4, .int _), (3, .int _), (0, .ref (E.b + _)), (1, .int _), (2, .ref (E.b + _))]) C.x C.b dX7_passMove_62 hl (by decide) rfl (fun ls hl => ?_)
        refine lv_aload_n C.x C.b dX7_passMove_64 rfl (lv_at hl 3 rfl) ?_
        replace hf := x_b1 hf; obtain ⟨x65_49, hx65_49, hf⟩ := hf
        refine x_geti C hW fg_X7_33_10 hx65_49 dX7_passMove_65 ?_
        refine lv_iload C.x C.b dX7_passMove_68 (lv_at hl 1 rfl) ?_
        refine lv_iadd C.x C.b dX7_passMove_70 ?_
        refine lv_aload_n C.x C.b dX7_passMove_71 rfl (lv_at hl 3 rfl) ?_
        replace hf := x_b1 hf; obtain ⟨_, hk72_50, hf⟩ := hf
        replace hf := x_b1 hf; obtain ⟨x72_51, hx72_51, hf⟩ := hf
        refine x_callV (As := []) (a := o) (rest := [.int (x65_49 + x44_45)]) C hW hl (qX7_highest l E hx72_51) (x_gk hk72_50) (by decide) (by decide) rfl gv_X7_116 ⟨rfl, hd_X7_highest⟩ rfl rfl (Nat.le_of_ble_eq_true rfl) dX7_passMove_72 ⟨Nat.le_of_ble_eq_true rfl, Nat.le_of_ble_eq_true rfl⟩ ⟨Nat.le_of_ble_eq_true rfl, Nat.le_of_ble_eq_true rfl⟩ (fun H locs hW => ?_)
        refine x_mmin C hl T_3_159 T_3_160 T_1_15 T_3_161 (Nat.le_of_ble_eq_true rfl) (Nat.le_of_ble_eq_true rfl) ⟨Nat.le_of_ble_eq_true rfl, Nat.le_of_ble_eq_true rfl⟩ dX7_passMove_75 ?_
        refine lv_istore (lv' := [(6, .int _), (5, .int _), (4, .int _), (3, .int _), (0, .ref (E.b + _)), (1, .int _), (2, .ref (E.b + _))]) C.x C.b dX7_passMove_78 hl (by decide) rfl (fun ls hl => ?_)
        refine lv_iload C.x C.b dX7_passMove_80 (lv_at hl 1 rfl) ?_
        refine lv_aload_n C.x C.b dX7_passMove_82 rfl (lv_at hl 4 rfl) ?_
        replace hf := x_b1 hf; obtain ⟨x83_52, hx83_52, hf⟩ := hf
        refine x_geti C hW fg_X7_30_10 hx83_52 dX7_passMove_83 ?_
        refine lv_icmp_ne (tgt := 98) C.x C.b dX7_passMove_86 rfl (fun c86 => ?_) (fun c86 => ?_)
        · replace hf := x_in c86 hf
          refine lv_iconst (v := 1) C.x C.b dX7_passMove_98 (by decide) ?_
          refine lv_goto (tgt := 103) C.x C.b dX7_passMove_99 rfl ?_
          refine lv_istore (lv' := [(7, .int _), (6, .int _), (5, .int _), (4, .int _), (3, .int _), (0, .ref (E.b + _)), (1, .int _), (2, .ref (E.b + _))]) C.x C.b dX7_passMove_103 hl (by decide) rfl (fun ls hl => ?_)
          refine lv_aload_n C.x C.b dX7_passMove_105 rfl (lv_at hl 5 rfl) ?_
          refine lv_iload C.x C.b dX7_passMove_106 (lv_at hl 2 rfl) ?_
          replace hf := x_b1 hf; obtain ⟨M108_53, hM108_53, hf⟩ := hf
          refine x_puti C hW fp_X7_30_10 hM108_53 (fun h => by cases h) dX7_passMove_108 (fun H locs hW => ?_)
          refine lv_aload_n C.x C.b dX7_passMove_111 rfl (lv_at hl 5 rfl) ?_
          refine lv_iload C.x C.b dX7_passMove_112 (lv_at hl 1 rfl) ?_
          replace hf := x_b1 hf; obtain ⟨M114_54, hM114_54, hf⟩ := hf
          refine x_puti C hW fp_X7_33_10 hM114_54 (fun h => by cases h) dX7_passMove_114 (fun H locs hW => ?_)
          refine lv_iload C.x C.b dX7_passMove_117 (lv_at hl 0 rfl) ?_
          rw [x_e1 hf, x_e2 hf]
          exact x_zret C hr hW (v := 1) (w := 1) rfl dX7_passMove_119
        · replace hf := x_ip c86 hf
          refine lv_iload C.x C.b dX7_passMove_89 (lv_at hl 0 rfl) ?_
          refine lv_aload_n C.x C.b dX7_passMove_91 rfl (lv_at hl 4 rfl) ?_
          replace hf := x_b1 hf; obtain ⟨x92_55, hx92_55, hf⟩ := hf
          refine x_geti C hW fg_X7_33_10 hx92_55 dX7_passMove_92 ?_
          refine lv_icmp_eq (tgt := 102) C.x C.b dX7_passMove_95 rfl (fun c95 => ?_) (fun c95 => ?_)
          · replace hf := x_ip c95 hf
            refine lv_iconst (v := 0) C.x C.b dX7_passMove_102 (by decide) ?_
            refine lv_istore (lv' := [(7, .int _), (6, .int _), (5, .int _), (4, .int _), (3, .int _), (0, .ref (E.b + _)), (1, .int _), (2, .ref (E.b + _))]) C.x C.b dX7_passMove_103 hl (by decide) rfl (fun ls hl => ?_)
            refine lv_aload_n C.x C.b dX7_passMove_105 rfl (lv_at hl 5 rfl) ?_
            refine lv_iload C.x C.b dX7_passMove_106 (lv_at hl 2 rfl) ?_
            replace hf := x_b1 hf; obtain ⟨M108_56, hM108_56, hf⟩ := hf
            refine x_puti C hW fp_X7_30_10 hM108_56 (fun h => by cases h) dX7_passMove_108 (fun H locs hW => ?_)
            refine lv_aload_n C.x C.b dX7_passMove_111 rfl (lv_at hl 5 rfl) ?_
            refine lv_iload C.x C.b dX7_passMove_112 (lv_at hl 1 rfl) ?_
            replace hf := x_b1 hf; obtain ⟨M114_57, hM114_57, hf⟩ := hf
            refine x_puti C hW fp_X7_33_10 hM114_57 (fun h => by cases h) dX7_passMove_114 (fun H locs hW => ?_)
            refine lv_iload C.x C.b dX7_passMove_117 (lv_at hl 0 rfl) ?_
            rw [x_e1 hf, x_e2 hf]
            exact x_zret C hr hW (v := 0) (w := 0) rfl dX7_passMove_119
          · replace hf := x_in c95 hf
            refine lv_iconst (v := 1) C.x C.b dX7_passMove_98 (by decide) ?_
            refine lv_goto (tgt := 103) C.x C.b dX7_passMove_99 rfl ?_
            refine lv_istore (lv' := [(7, .int _), (6, .int _), (5, .int _), (4, .int _), (3, .int _), (0, .ref (E.b + _)), (1, .int _), (2, .ref (E.b + _))]) C.x C.b dX7_passMove_103 hl (by decide) rfl (fun ls hl => ?_)
            refine lv_aload_n C.x C.b dX7_passMove_105 rfl (lv_at hl 5 rfl) ?_
            refine lv_iload C.x C.b dX7_passMove_106 (lv_at hl 2 rfl) ?_
            replace hf := x_b1 hf; obtain ⟨M108_58, hM108_58, hf⟩ := hf
            refine x_puti C hW fp_X7_30_10 hM108_58 (fun h => by cases h) dX7_passMove_108 (fun H locs hW => ?_)
            refine lv_aload_n C.x C.b dX7_passMove_111 rfl (lv_at hl 5 rfl) ?_
            refine lv_iload C.x C.b dX7_passMove_112 (lv_at hl 1 rfl) ?_
            replace hf := x_b1 hf; obtain ⟨M114_59, hM114_59, hf⟩ := hf
            refine x_puti C hW fp_X7_33_10 hM114_59 (fun h => by cases h) dX7_passMove_114 (fun H locs hW => ?_)
            refine lv_iload C.x C.b dX7_passMove_117 (lv_at hl 0 rfl) ?_
            rw [x_e1 hf, x_e2 hf]
            exact x_zret C hr hW (v := 1) (w := 1) rfl dX7_passMove_119
      · replace hf := x_ip c34 hf
        refine lv_aload_n C.x C.b dX7_passMove_37 rfl (lv_at hl 3 rfl) ?_
        refine lv_iconst (v := 1) C.x C.b dX7_passMove_38 (by decide) ?_
        replace hf := x_b1 hf; obtain ⟨x39_60, hx39_60, hf⟩ := hf
        refine x_iald C hW hx39_60 dX7_passMove_39 ?_
        refine lv_goto (tgt := 44) C.x C.b dX7_passMove_40 rfl ?_
        replace hf := x_b1 hf; obtain ⟨_, hk44_61, hf⟩ := hf
        replace hf := x_b1 hf; obtain ⟨x44_62, hx44_62, hf⟩ := hf
        refine x_callV (As := [.int x39_60]) (a := o) (rest := []) C hW hl (qX7_byKind l E hx44_62) (x_gk hk44_61) (by decide) (by decide) rfl gv_X7_110 ⟨rfl, hd_X7_byKind⟩ rfl rfl (Nat.le_of_ble_eq_true rfl) dX7_passMove_44 ⟨Nat.le_of_ble_eq_true rfl, Nat.le_of_ble_eq_true rfl⟩ ⟨Nat.le_of_ble_eq_true rfl, Nat.le_of_ble_eq_true rfl⟩ (fun H locs hW => ?_)
        refine lv_istore (lv' := [(4, .int _), (3, .int _), (0, .ref (E.b + _)), (1, .int _), (2, .ref (E.b + _))]) C.x C.b dX7_passMove_47 hl (by decide) rfl (fun ls hl => ?_)
        refine lv_aload_n C.x C.b dX7_passMove_49 rfl (lv_at hl 2 rfl) ?_
        replace hf := x_b1 hf; obtain ⟨x50_63, hx50_63, hf⟩ := hf
        refine x_geti C hW fg_X7_30_10 hx50_63 dX7_passMove_50 ?_
        refine lv_iload_n C.x C.b dX7_passMove_53 rfl (lv_at hl 1 rfl) ?_
        refine lv_isub C.x C.b dX7_passMove_54 ?_
        refine lv_aload_n C.x C.b dX7_passMove_55 rfl (lv_at hl 2 rfl) ?_
        replace hf := x_b1 hf; obtain ⟨_, hk56_64, hf⟩ := hf
        replace hf := x_b1 hf; obtain ⟨x56_65, hx56_65, hf⟩ := hf
        refine x_callV (As := []) (a := o) (rest := [.int (x50_63 - x27_43)]) C hW hl (qX7_lowest l E hx56_65) (x_gk hk56_64) (by decide) (by decide) rfl gv_X7_113 ⟨rfl, hd_X7_lowest⟩ rfl rfl (Nat.le_of_ble_eq_true rfl) dX7_passMove_56 ⟨Nat.le_of_ble_eq_true rfl, Nat.le_of_ble_eq_true rfl⟩ ⟨Nat.le_of_ble_eq_true rfl, Nat.le_of_ble_eq_true rfl⟩ (fun H locs hW => ?_)
        refine x_mmax C hl T_3_144 T_3_145 T_1_15 T_3_146 (Nat.le_of_ble_eq_true rfl) (Nat.le_of_ble_eq_true rfl) ⟨Nat.le_of_ble_eq_true rfl, Nat.le_of_ble_eq_true rfl⟩ dX7_passMove_59 ?_
        refine lv_istore (lv' := [(5, .int _), (4, .int _), (3, .int _), (0, .ref (E.b + _)), (1, .int _), (2, .ref (E.b + _))]) C.x C.b dX7_passMove_62 hl (by decide) rfl (fun ls hl => ?_)
        refine lv_aload_n C.x C.b dX7_passMove_64 rfl (lv_at hl 3 rfl) ?_
        replace hf := x_b1 hf; obtain ⟨x65_66, hx65_66, hf⟩ := hf
        refine x_geti C hW fg_X7_33_10 hx65_66 dX7_passMove_65 ?_
        refine lv_iload C.x C.b dX7_passMove_68 (lv_at hl 1 rfl) ?_
        refine lv_iadd C.x C.b dX7_passMove_70 ?_
        refine lv_aload_n C.x C.b dX7_passMove_71 rfl (lv_at hl 3 rfl) ?_
        replace hf := x_b1 hf; obtain ⟨_, hk72_67, hf⟩ := hf
        replace hf := x_b1 hf; obtain ⟨x72_68, hx72_68, hf⟩ := hf
        refine x_callV (As := []) (a := o) (rest := [.int (x65_66 + x44_62)]) C hW hl (qX7_highest l E hx72_68) (x_gk hk72_67) (by decide) (by decide) rfl gv_X7_116 ⟨rfl, hd_X7_highest⟩ rfl rfl (Nat.le_of_ble_eq_true rfl) dX7_passMove_72 ⟨Nat.le_of_ble_eq_true rfl, Nat.le_of_ble_eq_true rfl⟩ ⟨Nat.le_of_ble_eq_true rfl, Nat.le_of_ble_eq_true rfl⟩ (fun H locs hW => ?_)
        refine x_mmin C hl T_3_159 T_3_160 T_1_15 T_3_161 (Nat.le_of_ble_eq_true rfl) (Nat.le_of_ble_eq_true rfl) ⟨Nat.le_of_ble_eq_true rfl, Nat.le_of_ble_eq_true rfl⟩ dX7_passMove_75 ?_
        refine lv_istore (lv' := [(6, .int _), (5, .int _), (4, .int _), (3, .int _), (0, .ref (E.b + _)), (1, .int _), (2, .ref (E.b + _))]) C.x C.b dX7_passMove_78 hl (by decide) rfl (fun ls hl => ?_)
        refine lv_iload C.x C.b dX7_passMove_80 (lv_at hl 1 rfl) ?_
        refine lv_aload_n C.x C.b dX7_passMove_82 rfl (lv_at hl 4 rfl) ?_
        replace hf := x_b1 hf; obtain ⟨x83_69, hx83_69, hf⟩ := hf
        refine x_geti C hW fg_X7_30_10 hx83_69 dX7_passMove_83 ?_
        refine lv_icmp_ne (tgt := 98) C.x C.b dX7_passMove_86 rfl (fun c86 => ?_) (fun c86 => ?_)
        · replace hf := x_in c86 hf
          refine lv_iconst (v := 1) C.x C.b dX7_passMove_98 (by decide) ?_
          refine lv_goto (tgt := 103) C.x C.b dX7_passMove_99 rfl ?_
          refine lv_istore (lv' := [(7, .int _), (6, .int _), (5, .int _), (4, .int _), (3, .int _), (0, .ref (E.b + _)), (1, .int _), (2, .ref (E.b + _))]) C.x C.b dX7_passMove_103 hl (by decide) rfl (fun ls hl => ?_)
          refine lv_aload_n C.x C.b dX7_passMove_105 rfl (lv_at hl 5 rfl) ?_
          refine lv_iload C.x C.b dX7_passMove_106 (lv_at hl 2 rfl) ?_
          replace hf := x_b1 hf; obtain ⟨M108_70, hM108_70, hf⟩ := hf
          refine x_puti C hW fp_X7_30_10 hM108_70 (fun h => by cases h) dX7_passMove_108 (fun H locs hW => ?_)
          refine lv_aload_n C.x C.b dX7_passMove_111 rfl (lv_at hl 5 rfl) ?_
          refine lv_iload C.x C.b dX7_passMove_112 (lv_at hl 1 rfl) ?_
          replace hf := x_b1 hf; obtain ⟨M114_71, hM114_71, hf⟩ := hf
          refine x_puti C hW fp_X7_33_10 hM114_71 (fun h => by cases h) dX7_passMove_114 (fun H locs hW => ?_)
          refine lv_iload C.x C.b dX7_passMove_117 (lv_at hl 0 rfl) ?_
          rw [x_e1 hf, x_e2 hf]
          exact x_zret C hr hW (v := 1) (w := 1) rfl dX7_passMove_119
        · replace hf := x_ip c86 hf
          refine lv_iload C.x C.b dX7_passMove_89 (lv_at hl 0 rfl) ?_
          refine lv_aload_n C.x C.b dX7_passMove_91 rfl (lv_at hl 4 rfl) ?_
          replace hf := x_b1 hf; obtain ⟨x92_72, hx92_72, hf⟩ := hf
          refine x_geti C hW fg_X7_33_10 hx92_72 dX7_passMove_92 ?_
          refine lv_icmp_eq (tgt := 102) C.x C.b dX7_passMove_95 rfl (fun c95 => ?_) (fun c95 => ?_)
          · replace hf := x_ip c95 hf
            refine lv_iconst (v := 0) C.x C.b dX7_passMove_102 (by decide) ?_
            refine lv_istore (lv' := [(7, .int _), (6, .int _), (5, .int _), (4, .int _), (3, .int _), (0, .ref (E.b + _)), (1, .int _), (2, .ref (E.b + _))]) C.x C.b dX7_passMove_103 hl (by decide) rfl (fun ls hl => ?_)
            refine lv_aload_n C.x C.b dX7_passMove_105 rfl (lv_at hl 5 rfl) ?_
            refine lv_iload C.x C.b dX7_passMove_106 (lv_at hl 2 rfl) ?_
            replace hf := x_b1 hf; obtain ⟨M108_73, hM108_73, hf⟩ := hf
            refine x_puti C hW fp_X7_30_10 hM108_73 (fun h => by cases h) dX7_passMove_108 (fun H locs hW => ?_)
            refine lv_aload_n C.x C.b dX7_passMove_111 rfl (lv_at hl 5 rfl) ?_
            refine lv_iload C.x C.b dX7_passMove_112 (lv_at hl 1 rfl) ?_
            replace hf := x_b1 hf; obtain ⟨M114_74, hM114_74, hf⟩ := hf
            refine x_puti C hW fp_X7_33_10 hM114_74 (fun h => by cases h) dX7_passMove_114 (fun H locs hW => ?_)
            refine lv_iload C.x C.b dX7_passMove_117 (lv_at hl 0 rfl) ?_
            rw [x_e1 hf, x_e2 hf]
            exact x_zret C hr hW (v := 0) (w := 0) rfl dX7_passMove_119
          · replace hf := x_in c95 hf
            refine lv_iconst (v := 1) C.x C.b dX7_passMove_98 (by decide) ?_
            refine lv_goto (tgt := 103) C.x C.b dX7_passMove_99 rfl ?_
            refine lv_istore (lv' := [(7, .int _), (6, .int _), (5, .int _), (4, .int _), (3, .int _), (0, .ref (E.b + _)), (1, .int _), (2, .ref (E.b + _))]) C.x C.b dX7_passMove_103 hl (by decide) rfl (fun ls hl => ?_)
            refine lv_aload_n C.x C.b dX7_passMove_105 rfl (lv_at hl 5 rfl) ?_
            refine lv_iload C.x C.b dX7_passMove_106 (lv_at hl 2 rfl) ?_
            replace hf := x_b1 hf; obtain ⟨M108_75, hM108_75, hf⟩ := hf
            refine x_puti C hW fp_X7_30_10 hM108_75 (fun h => by cases h) dX7_passMove_108 (fun H locs hW => ?_)
            refine lv_aload_n C.x C.b dX7_passMove_111 rfl (lv_at hl 5 rfl) ?_
            refine lv_iload C.x C.b dX7_passMove_112 (lv_at hl 1 rfl) ?_
            replace hf := x_b1 hf; obtain ⟨M114_76, hM114_76, hf⟩ := hf
            refine x_puti C hW fp_X7_33_10 hM114_76 (fun h => by cases h) dX7_passMove_114 (fun H locs hW => ?_)
            refine lv_iload C.x C.b dX7_passMove_117 (lv_at hl 0 rfl) ?_
            rw [x_e1 hf, x_e2 hf]
            exact x_zret C hr hW (v := 1) (w := 1) rfl dX7_passMove_119
  · replace hf := x_ip c8 hf
    refine lv_iconst (v := 0) C.x C.b dX7_passMove_11 (by decide) ?_
    rw [x_e1 hf, x_e2 hf]
    exact x_zret C hr hW (v := 0) (w := 0) rfl dX7_passMove_12

theorem dX7_passLeg_0 : decode cX7_passLeg 0 = .ok (.iload_n 1, 1) := by decide +kernel
theorem dX7_passLeg_1 : decode cX7_passLeg 1 = .ok (.iconst 3, 1) := by decide +kernel
theorem dX7_passLeg_2 : decode cX7_passLeg 2 = .ok (.if_icmp .ne 9, 3) := by decide +kernel
theorem dX7_passLeg_5 : decode cX7_passLeg 5 = .ok (.aload_n 0, 1) := by decide +kernel
theorem dX7_passLeg_6 : decode cX7_passLeg 6 = .ok (.iload_n 2, 1) := by decide +kernel
theorem dX7_passLeg_7 : decode cX7_passLeg 7 = .ok (.invokevirtual 99, 3) := by decide +kernel
theorem dX7_passLeg_10 : decode cX7_passLeg 10 = .ok (.return_, 1) := by decide +kernel
theorem dX7_passLeg_11 : decode cX7_passLeg 11 = .ok (.iload_n 1, 1) := by decide +kernel
theorem dX7_passLeg_12 : decode cX7_passLeg 12 = .ok (.iconst 2, 1) := by decide +kernel
theorem dX7_passLeg_13 : decode cX7_passLeg 13 = .ok (.if_icmp .ne 7, 3) := by decide +kernel
theorem dX7_passLeg_16 : decode cX7_passLeg 16 = .ok (.iconst 1, 1) := by decide +kernel
theorem dX7_passLeg_17 : decode cX7_passLeg 17 = .ok (.goto 4, 3) := by decide +kernel
theorem dX7_passLeg_20 : decode cX7_passLeg 20 = .ok (.iload_n 2, 1) := by decide +kernel
theorem dX7_passLeg_21 : decode cX7_passLeg 21 = .ok (.istore 4, 2) := by decide +kernel
theorem dX7_passLeg_23 : decode cX7_passLeg 23 = .ok (.iconst 1, 1) := by decide +kernel
theorem dX7_passLeg_24 : decode cX7_passLeg 24 = .ok (.istore 5, 2) := by decide +kernel
theorem dX7_passLeg_26 : decode cX7_passLeg 26 = .ok (.iconst 0, 1) := by decide +kernel
theorem dX7_passLeg_27 : decode cX7_passLeg 27 = .ok (.istore 6, 2) := by decide +kernel
theorem dX7_passLeg_29 : decode cX7_passLeg 29 = .ok (.iload 6, 2) := by decide +kernel
theorem dX7_passLeg_31 : decode cX7_passLeg 31 = .ok (.iload 4, 2) := by decide +kernel
theorem dX7_passLeg_33 : decode cX7_passLeg 33 = .ok (.if_icmp .ge 22, 3) := by decide +kernel
theorem dX7_passLeg_36 : decode cX7_passLeg 36 = .ok (.iload 5, 2) := by decide +kernel
theorem dX7_passLeg_38 : decode cX7_passLeg 38 = .ok (.ifCond .eq 17, 3) := by decide +kernel
theorem dX7_passLeg_41 : decode cX7_passLeg 41 = .ok (.aload_n 0, 1) := by decide +kernel
theorem dX7_passLeg_42 : decode cX7_passLeg 42 = .ok (.iload_n 1, 1) := by decide +kernel
theorem dX7_passLeg_43 : decode cX7_passLeg 43 = .ok (.aload_n 3, 1) := by decide +kernel
theorem dX7_passLeg_44 : decode cX7_passLeg 44 = .ok (.invokevirtual 103, 3) := by decide +kernel
theorem dX7_passLeg_47 : decode cX7_passLeg 47 = .ok (.istore 5, 2) := by decide +kernel
theorem dX7_passLeg_49 : decode cX7_passLeg 49 = .ok (.iinc 6 1, 3) := by decide +kernel
theorem dX7_passLeg_52 : decode cX7_passLeg 52 = .ok (.goto (-23), 3) := by decide +kernel
theorem dX7_passLeg_55 : decode cX7_passLeg 55 = .ok (.return_, 1) := by decide +kernel
theorem hd_X7_passMove : yX7_passMove.cls ≠ "java/lang/invoke/MethodHandle" ∧ yX7_passMove.cls ≠ "java/lang/invoke/VarHandle" ∧ (parseMethodDescriptor yX7_passMove.desc).map (fun d => d.parameters.length) = some 2 := by decide +kernel
theorem gv_X7_103 : GoodIn gT (wsV "NylonLadder$Stocking" 103 "NylonLadder$Stocking" yX7_passMove (Cond.code yX7_passMove cX7_passMove 8 (some .boolean) :: gT)) := good_V T_3_147 T_3_149 TS_15 T_1_4 T_3_150
theorem hd_X7_stand : yX7_stand.cls ≠ "java/lang/invoke/MethodHandle" ∧ yX7_stand.cls ≠ "java/lang/invoke/VarHandle" ∧ (parseMethodDescriptor yX7_stand.desc).map (fun d => d.parameters.length) = some 1 := by decide +kernel
theorem gv_X7_99 : GoodIn gT (wsV "NylonLadder$Stocking" 99 "NylonLadder$Stocking" yX7_stand (Cond.code yX7_stand cX7_stand 3 none :: gT)) := good_V T_3_140 T_3_141 T_3_142 T_1_4 T_3_143
def fX7_passLeg_L29 (o : Nat) (v1 : Int32) (v3 : Nat) (v4 : Int32) : Nat → Int32 → Int32 → Mm → Option Mm
  | 0, _, _, _ => none
  | n + 1, v5, v6, M =>
    if v4 ≤ v6 then
      some M
    else
      if v5 = 0 then
        some M
      else
        B1 (gk M o 10) fun _ =>
        B2 (fX7_passMove M o v1 v3) fun x44_2 M44_3 =>
        fX7_passLeg_L29 o v1 v3 v4 n x44_2 (v6 + 1) M44_3
def fX7_passLeg (M : Mm) (o : Nat) (p1 : Int32) (p2 : Int32) (p3 : Nat) : Option Mm :=
  if p1 = 3 then
    B1 (gk M o 10) fun _ =>
    B1 (fX7_stand M o p2) fun M7_5 =>
    some M7_5
  else
    if p1 = 2 then
      fX7_passLeg_L29 o p1 p3 1 FL 1 0 M
    else
      fX7_passLeg_L29 o p1 p3 p2 FL 1 0 M
set_option maxRecDepth 100000 in
set_option maxHeartbeats 4000000 in
theorem kX7_passLeg_L29 {l : Launch} {E : Ev} {p : Program} {e : Env} {s : State} {m : MethodId} {args : Array Value} {below : List Frame} {meth : Method} {c : Code} (C : Cx E p s m args meth c cX7_passLeg yX7_passLeg.cls 7) (hr : meth.sig.returnType = none) (hin : yX7_passLeg.name = "<init>" → meth.name = "<init>")  {o : Nat} {v1 : Int32} {v3 : Nat} {v4 : Int32} {Mz : Mm} : ∀ (n : Nat) (v5 : Int32) (v6 : Int32) (M : Mm), fX7_passLeg_L29 o v1 v3 v4 n v5 v6 M = some Mz → ∀ (H : Heap) (locs : List Loc) (ls : Array Slot), Wx E s H locs M → lv_has ls 7 [(0, .ref (E.b + o)), (1, .int v1), (3, .ref (E.b + v3)), (4, .int v4), (5, .int v5), (6, .int v6)] → W p l e (rM 3 62 0 0) s m args below meth c H locs 0 0 (MQ below (Qp E none Mz) args s 0 0 E.A) (F0 m 29 ls []) := by
  intro n
  induction n with
  | zero =>
    intro v5 v6 M hf
    unfold fX7_passLeg_L29 at hf
    cases hf
  | succ n ih =>
    intro v5 v6 M hf H locs ls hW hl
    unfold fX7_passLeg_L29 at hf
    refine lv_iload C.x C.b dX7_passLeg_29 (lv_at hl 5 rfl) ?_
    refine lv_iload C.x C.b dX7_passLeg_31 (lv_at hl 3 rfl) ?_
    refine lv_icmp_ge (tgt := 55) C.x C.b dX7_passLeg_33 rfl (fun c33 => ?_) (fun c33 => ?_)
    · replace hf := x_ip c33 hf
      rw [x_e0 hf]
      exact x_vret C hr hW dX7_passLeg_55
    · replace hf := x_in c33 hf
      refine lv_iload C.x C.b dX7_passLeg_36 (lv_at hl 4 rfl) ?_
      refine lv_if_eq (tgt := 55) C.x C.b dX7_passLeg_38 rfl (fun c38 => ?_) (fun c38 => ?_)
      · replace hf := x_ip c38 hf
        rw [x_e0 hf]
        exact x_vret C hr hW dX7_passLeg_55
      · replace hf := x_in c38 hf
        refine lv_aload_n C.x C.b dX7_passLeg_41 rfl (lv_at hl 0 rfl) ?_
        refine lv_iload_n C.x C.b dX7_passLeg_42 rfl (lv_at hl 1 rfl) ?_
        refine lv_aload_n C.x C.b dX7_passLeg_43 rfl (lv_at hl 2 rfl) ?_
        replace hf := x_b1 hf; obtain ⟨_, hk44_1, hf⟩ := hf
        replace hf := x_b2 hf; obtain ⟨x44_2, M44_3, hx44_2, hf⟩ := hf
        refine x_callV (As := [.int v1, .ref (E.b + v3)]) (a := o) (rest := []) C hW hl (qX7_passMove l E hx44_2) (x_gk hk44_1) (by decide) (by decide) rfl gv_X7_103 ⟨rfl, hd_X7_passMove⟩ rfl rfl (Nat.le_of_ble_eq_true rfl) dX7_passLeg_44 ⟨Nat.le_of_ble_eq_true rfl, Nat.le_of_ble_eq_true rfl⟩ ⟨Nat.le_of_ble_eq_true rfl, Nat.le_of_ble_eq_true rfl⟩ (fun H locs hW => ?_)
        refine lv_istore (lv' := [(5, .int _), (0, .ref (E.b + _)), (1, .int _), (3, .ref (E.b + _)), (4, .int _), (6, .int _)]) C.x C.b dX7_passLeg_47 hl (by decide) rfl (fun ls hl => ?_)
        refine lv_iinc (v := (v6 + 1)) (lv' := [(6, .int (v6 + 1)), (5, .int _), (0, .ref (E.b + _)), (1, .int _), (3, .ref (E.b + _)), (4, .int _)]) C.x C.b dX7_passLeg_49 hl (k := 5) rfl (by first | rfl | decide) (by decide) rfl (fun ls hl => ?_)
        refine lv_goto (tgt := 29) C.x C.b dX7_passLeg_52 rfl ?_
        exact ih x44_2 (v6 + 1) M44_3 hf _ _ _ hW (lv_sub hl [2, 3, 4, 5, 1, 0] rfl)
set_option maxRecDepth 100000 in
set_option maxHeartbeats 4000000 in
theorem qX7_passLeg (l : Launch) (E : Ev) {M : Mm} {o : Nat} {p1 : Int32} {p2 : Int32} {p3 : Nat} {Mz : Mm} (hf : fX7_passLeg M o p1 p2 p3 = some Mz) : Ct l E yX7_passLeg cX7_passLeg 7 none 3 62 0 0 [.ref (E.b + o), .int p1, .int p2, .ref (E.b + p3)] M none Mz := by
  refine ct_of (by decide +kernel) (Nat.le_of_ble_eq_true rfl) fun p e s m args below meth c C hr hin hW ls hl => ?_
  have hl : lv_has ls 7 [(0, .ref (E.b + o)), (1, .int p1), (2, .int p2), (3, .ref (E.b + p3))] := hl
  unfold fX7_passLeg at hf
  refine lv_iload_n C.x C.b dX7_passLeg_0 rfl (lv_at hl 1 rfl) ?_
  refine lv_iconst (v := 3) C.x C.b dX7_passLeg_1 (by decide) ?_
  refine lv_icmp_ne (tgt := 11) C.x C.b dX7_passLeg_2 rfl (fun c2 => ?_) (fun c2 => ?_)
  · replace hf := x_in c2 hf
    refine lv_iload_n C.x C.b dX7_passLeg_11 rfl (lv_at hl 1 rfl) ?_
    refine lv_iconst (v := 2) C.x C.b dX7_passLeg_12 (by decide) ?_
    refine lv_icmp_ne (tgt := 20) C.x C.b dX7_passLeg_13 rfl (fun c13 => ?_) (fun c13 => ?_)
    · replace hf := x_in c13 hf
      refine lv_iload_n C.x C.b dX7_passLeg_20 rfl (lv_at hl 2 rfl) ?_
      refine lv_istore (lv' := [(4, .int _), (0, .ref (E.b + _)), (1, .int _), (2, .int _), (3, .ref (E.b + _))]) C.x C.b dX7_passLeg_21 hl (by decide) rfl (fun ls hl => ?_)
      refine lv_iconst (v := 1) C.x C.b dX7_passLeg_23 (by decide) ?_
      refine lv_istore (lv' := [(5, .int _), (4, .int _), (0, .ref (E.b + _)), (1, .int _), (2, .int _), (3, .ref (E.b + _))]) C.x C.b dX7_passLeg_24 hl (by decide) rfl (fun ls hl => ?_)
      refine lv_iconst (v := 0) C.x C.b dX7_passLeg_26 (by decide) ?_
      refine lv_istore (lv' := [(6, .int _), (5, .int _), (4, .int _), (0, .ref (E.b + _)), (1, .int _), (2, .int _), (3, .ref (E.b + _))]) C.x C.b dX7_passLeg_27 hl (by decide) rfl (fun ls hl => ?_)
      exact kX7_passLeg_L29 C hr hin FL 1 0 M hf _ _ _ hW (lv_sub hl [3, 4, 6, 2, 1, 0] rfl)
    · replace hf := x_ip c13 hf
      refine lv_iconst (v := 1) C.x C.b dX7_passLeg_16 (by decide) ?_
      refine lv_goto (tgt := 21) C.x C.b dX7_passLeg_17 rfl ?_
      refine lv_istore (lv' := [(4, .int _), (0, .ref (E.b + _)), (1, .int _), (2, .int _), (3, .ref (E.b + _))]) C.x C.b dX7_passLeg_21 hl (by decide) rfl (fun ls hl => ?_)
      refine lv_iconst (v := 1) C.x C.b dX7_passLeg_23 (by decide) ?_
      refine lv_istore (lv' := [(5, .int _), (4, .int _), (0, .ref (E.b + _)), (1, .int _), (2, .int _), (3, .ref (E.b + _))]) C.x C.b dX7_passLeg_24 hl (by decide) rfl (fun ls hl => ?_)
      refine lv_iconst (v := 0) C.x C.b dX7_passLeg_26 (by decide) ?_
      refine lv_istore (lv' := [(6, .int _), (5, .int _), (4, .int _), (0, .ref (E.b + _)), (1, .int _), (2, .int _), (3, .ref (E.b + _))]) C.x C.b dX7_passLeg_27 hl (by decide) rfl (fun ls hl => ?_)
      exact kX7_passLeg_L29 C hr hin FL 1 0 M hf _ _ _ hW (lv_sub hl [3, 4, 6, 2, 1, 0] rfl)
  · replace hf := x_ip c2 hf
    refine lv_aload_n C.x C.b dX7_passLeg_5 rfl (lv_at hl 0 rfl) ?_
    refine lv_iload_n C.x C.b dX7_passLeg_6 rfl (lv_at hl 2 rfl) ?_
    replace hf := x_b1 hf; obtain ⟨_, hk7_4, hf⟩ := hf
    replace hf := x_b1 hf; obtain ⟨M7_5, hM7_5, hf⟩ := hf
    refine x_callV (As := [.int p2]) (a := o) (rest := []) C hW hl (qX7_stand l E hM7_5) (x_gk hk7_4) (by decide) (by decide) rfl gv_X7_99 ⟨rfl, hd_X7_stand⟩ rfl rfl (Nat.le_of_ble_eq_true rfl) dX7_passLeg_7 ⟨Nat.le_of_ble_eq_true rfl, Nat.le_of_ble_eq_true rfl⟩ ⟨Nat.le_of_ble_eq_true rfl, Nat.le_of_ble_eq_true rfl⟩ (fun H locs hW => ?_)
    rw [x_e0 hf]
    exact x_vret C hr hW dX7_passLeg_10

theorem dX7_passWay_0 : decode cX7_passWay 0 = .ok (.iload_n 2, 1) := by decide +kernel
theorem dX7_passWay_1 : decode cX7_passWay 1 = .ok (.istore 5, 2) := by decide +kernel
theorem dX7_passWay_3 : decode cX7_passWay 3 = .ok (.iload 5, 2) := by decide +kernel
theorem dX7_passWay_5 : decode cX7_passWay 5 = .ok (.iload_n 3, 1) := by decide +kernel
theorem dX7_passWay_6 : decode cX7_passWay 6 = .ok (.if_icmp .ge 38, 3) := by decide +kernel
theorem dX7_passWay_9 : decode cX7_passWay 9 = .ok (.aload_n 1, 1) := by decide +kernel
theorem dX7_passWay_10 : decode cX7_passWay 10 = .ok (.iload 5, 2) := by decide +kernel
theorem dX7_passWay_12 : decode cX7_passWay 12 = .ok (.invokevirtual 84, 3) := by decide +kernel
theorem dX7_passWay_15 : decode cX7_passWay 15 = .ok (.ifCond .eq 29, 3) := by decide +kernel
theorem dX7_passWay_18 : decode cX7_passWay 18 = .ok (.aload_n 0, 1) := by decide +kernel
theorem dX7_passWay_19 : decode cX7_passWay 19 = .ok (.aload_n 1, 1) := by decide +kernel
theorem dX7_passWay_20 : decode cX7_passWay 20 = .ok (.getfield 89, 3) := by decide +kernel
theorem dX7_passWay_23 : decode cX7_passWay 23 = .ok (.iload 5, 2) := by decide +kernel
theorem dX7_passWay_25 : decode cX7_passWay 25 = .ok (.iaload, 1) := by decide +kernel
theorem dX7_passWay_26 : decode cX7_passWay 26 = .ok (.aload_n 1, 1) := by decide +kernel
theorem dX7_passWay_27 : decode cX7_passWay 27 = .ok (.getfield 92, 3) := by decide +kernel
theorem dX7_passWay_30 : decode cX7_passWay 30 = .ok (.iload 5, 2) := by decide +kernel
theorem dX7_passWay_32 : decode cX7_passWay 32 = .ok (.iaload, 1) := by decide +kernel
theorem dX7_passWay_33 : decode cX7_passWay 33 = .ok (.aload 4, 2) := by decide +kernel
theorem dX7_passWay_35 : decode cX7_passWay 35 = .ok (.invokevirtual 95, 3) := by decide +kernel
theorem dX7_passWay_38 : decode cX7_passWay 38 = .ok (.iinc 5 1, 3) := by decide +kernel
theorem dX7_passWay_41 : decode cX7_passWay 41 = .ok (.goto (-38), 3) := by decide +kernel
theorem dX7_passWay_44 : decode cX7_passWay 44 = .ok (.return_, 1) := by decide +kernel
theorem hd_X10_hasLeg : yX10_hasLeg.cls ≠ "java/lang/invoke/MethodHandle" ∧ yX10_hasLeg.cls ≠ "java/lang/invoke/VarHandle" ∧ (parseMethodDescriptor yX10_hasLeg.desc).map (fun d => d.parameters.length) = some 1 := by decide +kernel
theorem gv_X7_84 : GoodIn gT (wsV "NylonLadder$Stocking" 84 "NylonLadder$Way" yX10_hasLeg (Cond.code yX10_hasLeg cX10_hasLeg 2 (some .boolean) :: gT)) := good_V T_3_188 T_3_113 T_3_114 T_1_3 T_3_115
theorem fg_X7_89_13 : FdG "NylonLadder$Stocking" 89 13 1 true := ⟨_, _, _, _, rfl, by decide, by decide, by decide, gxX10, by decide, T_1_57, Or.inl rfl, rfl⟩
theorem fg_X7_92_13 : FdG "NylonLadder$Stocking" 92 13 2 true := ⟨_, _, _, _, rfl, by decide, by decide, by decide, gxX10, by decide, T_1_60, Or.inl rfl, rfl⟩
theorem hd_X7_passLeg : yX7_passLeg.cls ≠ "java/lang/invoke/MethodHandle" ∧ yX7_passLeg.cls ≠ "java/lang/invoke/VarHandle" ∧ (parseMethodDescriptor yX7_passLeg.desc).map (fun d => d.parameters.length) = some 3 := by decide +kernel
theorem gv_X7_95 : GoodIn gT (wsV "NylonLadder$Stocking" 95 "NylonLadder$Stocking" yX7_passLeg (Cond.code yX7_passLeg cX7_passLeg 7 none :: gT)) := good_V T_3_189 T_3_137 T_3_138 T_1_4 T_3_139
def fX7_passWay_L3 (o : Nat) (v1 : Nat) (v3 : Int32) (v4 : Nat) : Nat → Int32 → Mm → Option Mm
  | 0, _, _ => none
  | n + 1, v5, M =>
    if v3 ≤ v5 then
      some M
    else
      B1 (gk M v1 13) fun _ =>
      B1 (fX10_hasLeg M v1 v5) fun x12_2 =>
      if x12_2 = 0 then
        some M
      else
        B1 (rdN M v1 13 1) fun a20_3 =>
        B1 (alI M a20_3 v5) fun x25_4 =>
        B1 (rdN M v1 13 2) fun a27_5 =>
        B1 (alI M a27_5 v5) fun x32_6 =>
        B1 (gk M o 10) fun _ =>
        B1 (fX7_passLeg M o x25_4 x32_6 v4) fun M35_8 =>
        fX7_passWay_L3 o v1 v3 v4 n (v5 + 1) M35_8
def fX7_passWay (M : Mm) (o : Nat) (p1 : Nat) (p2 : Int32) (p3 : Int32) (p4 : Nat) : Option Mm :=
  fX7_passWay_L3 o p1 p3 p4 FL p2 M
set_option maxRecDepth 100000 in
set_option maxHeartbeats 4000000 in
theorem kX7_passWay_L3 {l : Launch} {E : Ev} {p : Program} {e : Env} {s : State} {m : MethodId} {args : Array Value} {below : List Frame} {meth : Method} {c : Code} (C : Cx E p s m args meth c cX7_passWay yX7_passWay.cls 6) (hr : meth.sig.returnType = none) (hin : yX7_passWay.name = "<init>" → meth.name = "<init>")  {o : Nat} {v1 : Nat} {v3 : Int32} {v4 : Nat} {Mz : Mm} : ∀ (n : Nat) (v5 : Int32) (M : Mm), fX7_passWay_L3 o v1 v3 v4 n v5 M = some Mz → ∀ (H : Heap) (locs : List Loc) (ls : Array Slot), Wx E s H locs M → lv_has ls 6 [(0, .ref (E.b + o)), (1, .ref (E.b + v1)), (3, .int v3), (4, .ref (E.b + v4)), (5, .int v5)] → W p l e (rM 4 88 0 0) s m args below meth c H locs 0 0 (MQ below (Qp E none Mz) args s 0 0 E.A) (F0 m 3 ls []) := by
  intro n
  induction n with
  | zero =>
    intro v5 M hf
    unfold fX7_passWay_L3 at hf
    cases hf
  | succ n ih =>
    intro v5 M hf H locs ls hW hl
    unfold fX7_passWay_L3 at hf
    refine lv_iload C.x C.b dX7_passWay_3 (lv_at hl 4 rfl) ?_
    refine lv_iload_n C.x C.b dX7_passWay_5 rfl (lv_at hl 2 rfl) ?_
    refine lv_icmp_ge (tgt := 44) C.x C.b dX7_passWay_6 rfl (fun c6 => ?_) (fun c6 => ?_)
    · replace hf := x_ip c6 hf
      rw [x_e0 hf]
      exact x_vret C hr hW dX7_passWay_44
    · replace hf := x_in c6 hf
      refine lv_aload_n C.x C.b dX7_passWay_9 rfl (lv_at hl 1 rfl) ?_
      refine lv_iload C.x C.b dX7_passWay_10 (lv_at hl 4 rfl) ?_
      replace hf := x_b1 hf; obtain ⟨_, hk12_1, hf⟩ := hf
      replace hf := x_b1 hf; obtain ⟨x12_2, hx12_2, hf⟩ := hf
      refine x_callV (As := [.int v5]) (a := v1) (rest := []) C hW hl (qX10_hasLeg l E hx12_2) (x_gk hk12_1) (by decide) (by decide) rfl gv_X7_84 ⟨rfl, hd_X10_hasLeg⟩ rfl rfl (Nat.le_of_ble_eq_true rfl) dX7_passWay_12 ⟨Nat.le_of_ble_eq_true rfl, Nat.le_of_ble_eq_true rfl⟩ ⟨Nat.le_of_ble_eq_true rfl, Nat.le_of_ble_eq_true rfl⟩ (fun H locs hW => ?_)
      refine lv_if_eq (tgt := 44) C.x C.b dX7_passWay_15 rfl (fun c15 => ?_) (fun c15 => ?_)
      · replace hf := x_ip c15 hf
        rw [x_e0 hf]
        exact x_vret C hr hW dX7_passWay_44
      · replace hf := x_in c15 hf
        refine lv_aload_n C.x C.b dX7_passWay_18 rfl (lv_at hl 0 rfl) ?_
        refine lv_aload_n C.x C.b dX7_passWay_19 rfl (lv_at hl 1 rfl) ?_
        replace hf := x_b1 hf; obtain ⟨a20_3, ha20_3, hf⟩ := hf
        refine x_getn C hW fg_X7_89_13 ha20_3 dX7_passWay_20 ?_
        refine lv_iload C.x C.b dX7_passWay_23 (lv_at hl 4 rfl) ?_
        replace hf := x_b1 hf; obtain ⟨x25_4, hx25_4, hf⟩ := hf
        refine x_iald C hW hx25_4 dX7_passWay_25 ?_
        refine lv_aload_n C.x C.b dX7_passWay_26 rfl (lv_at hl 1 rfl) ?_
        replace hf := x_b1 hf; obtain ⟨a27_5, ha27_5, hf⟩ := hf
        refine x_getn C hW fg_X7_92_13 ha27_5 dX7_passWay_27 ?_
        refine lv_iload C.x C.b dX7_passWay_30 (lv_at hl 4 rfl) ?_
        replace hf := x_b1 hf; obtain ⟨x32_6, hx32_6, hf⟩ := hf
        refine x_iald C hW hx32_6 dX7_passWay_32 ?_
        refine lv_aload C.x C.b dX7_passWay_33 (lv_at hl 3 rfl) ?_
        replace hf := x_b1 hf; obtain ⟨_, hk35_7, hf⟩ := hf
        replace hf := x_b1 hf; obtain ⟨M35_8, hM35_8, hf⟩ := hf
        refine x_callV (As := [.int x25_4, .int x32_6, .ref (E.b + v4)]) (a := o) (rest := []) C hW hl (qX7_passLeg l E hM35_8) (x_gk hk35_7) (by decide) (by decide) rfl gv_X7_95 ⟨rfl, hd_X7_passLeg⟩ rfl rfl (Nat.le_of_ble_eq_true rfl) dX7_passWay_35 ⟨Nat.le_of_ble_eq_true rfl, Nat.le_of_ble_eq_true rfl⟩ ⟨Nat.le_of_ble_eq_true rfl, Nat.le_of_ble_eq_true rfl⟩ (fun H locs hW => ?_)
        refine lv_iinc (v := (v5 + 1)) (lv' := [(5, .int (v5 + 1)), (0, .ref (E.b + _)), (1, .ref (E.b + _)), (3, .int _), (4, .ref (E.b + _))]) C.x C.b dX7_passWay_38 hl (k := 4) rfl (by first | rfl | decide) (by decide) rfl (fun ls hl => ?_)
        refine lv_goto (tgt := 3) C.x C.b dX7_passWay_41 rfl ?_
        exact ih (v5 + 1) M35_8 hf _ _ _ hW (lv_sub hl [1, 2, 3, 4, 0] rfl)
set_option maxRecDepth 100000 in
set_option maxHeartbeats 4000000 in
theorem qX7_passWay (l : Launch) (E : Ev) {M : Mm} {o : Nat} {p1 : Nat} {p2 : Int32} {p3 : Int32} {p4 : Nat} {Mz : Mm} (hf : fX7_passWay M o p1 p2 p3 p4 = some Mz) : Ct l E yX7_passWay cX7_passWay 6 none 4 88 0 0 [.ref (E.b + o), .ref (E.b + p1), .int p2, .int p3, .ref (E.b + p4)] M none Mz := by
  refine ct_of (by decide +kernel) (Nat.le_of_ble_eq_true rfl) fun p e s m args below meth c C hr hin hW ls hl => ?_
  have hl : lv_has ls 6 [(0, .ref (E.b + o)), (1, .ref (E.b + p1)), (2, .int p2), (3, .int p3), (4, .ref (E.b + p4))] := hl
  unfold fX7_passWay at hf
  refine lv_iload_n C.x C.b dX7_passWay_0 rfl (lv_at hl 2 rfl) ?_
  refine lv_istore (lv' := [(5, .int _), (0, .ref (E.b + _)), (1, .ref (E.b + _)), (2, .int _), (3, .int _), (4, .ref (E.b + _))]) C.x C.b dX7_passWay_1 hl (by decide) rfl (fun ls hl => ?_)
  exact kX7_passWay_L3 C hr hin FL p2 M hf _ _ _ hW (lv_sub hl [1, 2, 4, 5, 0] rfl)

theorem dX0_passWay_0 : decode cX0_passWay 0 = .ok (.iconst 0, 1) := by decide +kernel
theorem dX0_passWay_1 : decode cX0_passWay 1 = .ok (.istore 4, 2) := by decide +kernel
theorem dX0_passWay_3 : decode cX0_passWay 3 = .ok (.iload 4, 2) := by decide +kernel
theorem dX0_passWay_5 : decode cX0_passWay 5 = .ok (.iconst 2, 1) := by decide +kernel
theorem dX0_passWay_6 : decode cX0_passWay 6 = .ok (.if_icmp .ge 34, 3) := by decide +kernel
theorem dX0_passWay_9 : decode cX0_passWay 9 = .ok (.aload_n 0, 1) := by decide +kernel
theorem dX0_passWay_10 : decode cX0_passWay 10 = .ok (.iload 4, 2) := by decide +kernel
theorem dX0_passWay_12 : decode cX0_passWay 12 = .ok (.invokevirtual 79, 3) := by decide +kernel
theorem dX0_passWay_15 : decode cX0_passWay 15 = .ok (.astore 5, 2) := by decide +kernel
theorem dX0_passWay_17 : decode cX0_passWay 17 = .ok (.aload 5, 2) := by decide +kernel
theorem dX0_passWay_19 : decode cX0_passWay 19 = .ok (.ifnull 15, 3) := by decide +kernel
theorem dX0_passWay_22 : decode cX0_passWay 22 = .ok (.aload 5, 2) := by decide +kernel
theorem dX0_passWay_24 : decode cX0_passWay 24 = .ok (.aload_n 1, 1) := by decide +kernel
theorem dX0_passWay_25 : decode cX0_passWay 25 = .ok (.iload_n 2, 1) := by decide +kernel
theorem dX0_passWay_26 : decode cX0_passWay 26 = .ok (.iload_n 3, 1) := by decide +kernel
theorem dX0_passWay_27 : decode cX0_passWay 27 = .ok (.aload_n 0, 1) := by decide +kernel
theorem dX0_passWay_28 : decode cX0_passWay 28 = .ok (.getfield 9, 3) := by decide +kernel
theorem dX0_passWay_31 : decode cX0_passWay 31 = .ok (.invokevirtual 82, 3) := by decide +kernel
theorem dX0_passWay_34 : decode cX0_passWay 34 = .ok (.iinc 4 1, 3) := by decide +kernel
theorem dX0_passWay_37 : decode cX0_passWay 37 = .ok (.goto (-34), 3) := by decide +kernel
theorem dX0_passWay_40 : decode cX0_passWay 40 = .ok (.return_, 1) := by decide +kernel
theorem hd_X0_wornOn : yX0_wornOn.cls ≠ "java/lang/invoke/MethodHandle" ∧ yX0_wornOn.cls ≠ "java/lang/invoke/VarHandle" ∧ (parseMethodDescriptor yX0_wornOn.desc).map (fun d => d.parameters.length) = some 1 := by decide +kernel
theorem gv_X0_79 : GoodIn gT (wsV "NylonLadder$Drawer" 79 "NylonLadder$Drawer" yX0_wornOn (Cond.code yX0_wornOn cX0_wornOn 2 (some (.object "NylonLadder$Stocking")) :: gT)) := good_V T_3_174 T_3_131 T_3_132 T_1_2 T_3_133
theorem hd_X7_passWay : yX7_passWay.cls ≠ "java/lang/invoke/MethodHandle" ∧ yX7_passWay.cls ≠ "java/lang/invoke/VarHandle" ∧ (parseMethodDescriptor yX7_passWay.desc).map (fun d => d.parameters.length) = some 4 := by decide +kernel
theorem gv_X0_82 : GoodIn gT (wsV "NylonLadder$Drawer" 82 "NylonLadder$Stocking" yX7_passWay (Cond.code yX7_passWay cX7_passWay 6 none :: gT)) := good_V T_3_184 T_3_185 T_3_186 T_1_4 T_3_187
def fX0_passWay_L3 (o : Nat) (v1 : Nat) (v2 : Int32) (v3 : Int32) : Nat → Int32 → Mm → Option Mm
  | 0, _, _ => none
  | n + 1, v4, M =>
    if 2 ≤ v4 then
      some M
    else
      B1 (gk M o 3) fun _ =>
      B1 (fX0_wornOn M o v4) fun x12_2 =>
      NL x12_2 (
        fX0_passWay_L3 o v1 v2 v3 n (v4 + 1) M) (fun a19_3 =>
        B1 (rdN M o 3 0) fun a28_4 =>
        B1 (gk M a19_3 10) fun _ =>
        B1 (fX7_passWay M a19_3 v1 v2 v3 a28_4) fun M31_6 =>
        fX0_passWay_L3 o v1 v2 v3 n (v4 + 1) M31_6)
def fX0_passWay (M : Mm) (o : Nat) (p1 : Nat) (p2 : Int32) (p3 : Int32) : Option Mm :=
  fX0_passWay_L3 o p1 p2 p3 FL 0 M
set_option maxRecDepth 100000 in
set_option maxHeartbeats 4000000 in
theorem kX0_passWay_L3 {l : Launch} {E : Ev} {p : Program} {e : Env} {s : State} {m : MethodId} {args : Array Value} {below : List Frame} {meth : Method} {c : Code} (C : Cx E p s m args meth c cX0_passWay yX0_passWay.cls 6) (hr : meth.sig.returnType = none) (hin : yX0_passWay.name = "<init>" → meth.name = "<init>")  {o : Nat} {v1 : Nat} {v2 : Int32} {v3 : Int32} {Mz : Mm} : ∀ (n : Nat) (v4 : Int32) (M : Mm), fX0_passWay_L3 o v1 v2 v3 n v4 M = some Mz → ∀ (H : Heap) (locs : List Loc) (ls : Array Slot), Wx E s H locs M → lv_has ls 6 [(0, .ref (E.b + o)), (1, .ref (E.b + v1)), (2, .int v2), (3, .int v3), (4, .int v4)] → W p l e (rM 5 113 0 0) s m args below meth c H locs 0 0 (MQ below (Qp E none Mz) args s 0 0 E.A) (F0 m 3 ls []) := by
  intro n
  induction n with
  | zero =>
    intro v4 M hf
    unfold fX0_passWay_L3 at hf
    cases hf
  | succ n ih =>
    intro v4 M hf H locs ls hW hl
    unfold fX0_passWay_L3 at hf
    refine lv_iload C.x C.b dX0_passWay_3 (lv_at hl 4 rfl) ?_
    refine lv_iconst (v := 2) C.x C.b dX0_passWay_5 (by decide) ?_
    refine lv_icmp_ge (tgt := 40) C.x C.b dX0_passWay_6 rfl (fun c6 => ?_) (fun c6 => ?_)
    · replace hf := x_ip c6 hf
      rw [x_e0 hf]
      exact x_vret C hr hW dX0_passWay_40
    · replace hf := x_in c6 hf
      refine lv_aload_n C.x C.b dX0_passWay_9 rfl (lv_at hl 0 rfl) ?_
      refine lv_iload C.x C.b dX0_passWay_10 (lv_at hl 4 rfl) ?_
      replace hf := x_b1 hf; obtain ⟨_, hk12_1, hf⟩ := hf
      replace hf := x_b1 hf; obtain ⟨x12_2, hx12_2, hf⟩ := hf
      refine x_callV (As := [.int v4]) (a := o) (rest := []) C hW hl (qX0_wornOn l E hx12_2) (x_gk hk12_1) (by decide) (by decide) rfl gv_X0_79 ⟨rfl, hd_X0_wornOn⟩ rfl rfl (Nat.le_of_ble_eq_true rfl) dX0_passWay_12 ⟨Nat.le_of_ble_eq_true rfl, Nat.le_of_ble_eq_true rfl⟩ ⟨Nat.le_of_ble_eq_true rfl, Nat.le_of_ble_eq_true rfl⟩ (fun H locs hW => ?_)
      refine x_astore (lv' := [(5, rv E.b _), (0, .ref (E.b + _)), (1, .ref (E.b + _)), (2, .int _), (3, .int _), (4, .int _)]) C dX0_passWay_15 hl (by decide) rfl (fun ls hl => ?_)
      refine x_aload C dX0_passWay_17 (lv_at hl 0 rfl) ?_
      replace hf := x_nl hf; rcases hf with ⟨rfl, hf⟩ | ⟨a19_3, rfl, hf⟩
      · refine lv_ifnullN (tgt := 34) C.x C.b dX0_passWay_19 rfl ?_
        refine lv_iinc (v := (v4 + 1)) (lv' := [(4, .int (v4 + 1)), (5, .null), (0, .ref (E.b + _)), (1, .ref (E.b + _)), (2, .int _), (3, .int _)]) C.x C.b dX0_passWay_34 hl (k := 5) rfl (by first | rfl | decide) (by decide) rfl (fun ls hl => ?_)
        refine lv_goto (tgt := 3) C.x C.b dX0_passWay_37 rfl ?_
        exact ih (v4 + 1) M hf _ _ _ hW (lv_sub hl [2, 3, 4, 5, 0] rfl)
      · refine lv_ifnull C.x C.b dX0_passWay_19 ?_
        refine lv_aload C.x C.b dX0_passWay_22 (lv_at hl 0 rfl) ?_
        refine lv_aload_n C.x C.b dX0_passWay_24 rfl (lv_at hl 2 rfl) ?_
        refine lv_iload_n C.x C.b dX0_passWay_25 rfl (lv_at hl 3 rfl) ?_
        refine lv_iload_n C.x C.b dX0_passWay_26 rfl (lv_at hl 4 rfl) ?_
        refine lv_aload_n C.x C.b dX0_passWay_27 rfl (lv_at hl 1 rfl) ?_
        replace hf := x_b1 hf; obtain ⟨a28_4, ha28_4, hf⟩ := hf
        refine x_getn C hW fg_X0_9_3 ha28_4 dX0_passWay_28 ?_
        replace hf := x_b1 hf; obtain ⟨_, hk31_5, hf⟩ := hf
        replace hf := x_b1 hf; obtain ⟨M31_6, hM31_6, hf⟩ := hf
        refine x_callV (As := [.ref (E.b + v1), .int v2, .int v3, .ref (E.b + a28_4)]) (a := a19_3) (rest := []) C hW hl (qX7_passWay l E hM31_6) (x_gk hk31_5) (by decide) (by decide) rfl gv_X0_82 ⟨rfl, hd_X7_passWay⟩ rfl rfl (Nat.le_of_ble_eq_true rfl) dX0_passWay_31 ⟨Nat.le_of_ble_eq_true rfl, Nat.le_of_ble_eq_true rfl⟩ ⟨Nat.le_of_ble_eq_true rfl, Nat.le_of_ble_eq_true rfl⟩ (fun H locs hW => ?_)
        refine lv_iinc (v := (v4 + 1)) (lv' := [(4, .int (v4 + 1)), (5, .ref (E.b + _)), (0, .ref (E.b + _)), (1, .ref (E.b + _)), (2, .int _), (3, .int _)]) C.x C.b dX0_passWay_34 hl (k := 5) rfl (by first | rfl | decide) (by decide) rfl (fun ls hl => ?_)
        refine lv_goto (tgt := 3) C.x C.b dX0_passWay_37 rfl ?_
        exact ih (v4 + 1) M31_6 hf _ _ _ hW (lv_sub hl [2, 3, 4, 5, 0] rfl)
set_option maxRecDepth 100000 in
set_option maxHeartbeats 4000000 in
theorem qX0_passWay (l : Launch) (E : Ev) {M : Mm} {o : Nat} {p1 : Nat} {p2 : Int32} {p3 : Int32} {Mz : Mm} (hf : fX0_passWay M o p1 p2 p3 = some Mz) : Ct l E yX0_passWay cX0_passWay 6 none 5 113 0 0 [.ref (E.b + o), .ref (E.b + p1), .int p2, .int p3] M none Mz := by
  refine ct_of (by decide +kernel) (Nat.le_of_ble_eq_true rfl) fun p e s m args below meth c C hr hin hW ls hl => ?_
  have hl : lv_has ls 6 [(0, .ref (E.b + o)), (1, .ref (E.b + p1)), (2, .int p2), (3, .int p3)] := hl
  unfold fX0_passWay at hf
  refine lv_iconst (v := 0) C.x C.b dX0_passWay_0 (by decide) ?_
  refine lv_istore (lv' := [(4, .int _), (0, .ref (E.b + _)), (1, .ref (E.b + _)), (2, .int _), (3, .int _)]) C.x C.b dX0_passWay_1 hl (by decide) rfl (fun ls hl => ?_)
  exact kX0_passWay_L3 C hr hin FL 0 M hf _ _ _ hW (lv_sub hl [1, 2, 3, 4, 0] rfl)

theorem dX7_openRungs_0 : decode cX7_openRungs 0 = .ok (.aload_n 0, 1) := by decide +kernel
theorem dX7_openRungs_1 : decode cX7_openRungs 1 = .ok (.invokevirtual 59, 3) := by decide +kernel
theorem dX7_openRungs_4 : decode cX7_openRungs 4 = .ok (.ifCond .eq 17, 3) := by decide +kernel
theorem dX7_openRungs_7 : decode cX7_openRungs 7 = .ok (.aload_n 0, 1) := by decide +kernel
theorem dX7_openRungs_8 : decode cX7_openRungs 8 = .ok (.getfield 33, 3) := by decide +kernel
theorem dX7_openRungs_11 : decode cX7_openRungs 11 = .ok (.aload_n 0, 1) := by decide +kernel
theorem dX7_openRungs_12 : decode cX7_openRungs 12 = .ok (.getfield 30, 3) := by decide +kernel
theorem dX7_openRungs_15 : decode cX7_openRungs 15 = .ok (.isub, 1) := by decide +kernel
theorem dX7_openRungs_16 : decode cX7_openRungs 16 = .ok (.iconst 1, 1) := by decide +kernel
theorem dX7_openRungs_17 : decode cX7_openRungs 17 = .ok (.iadd, 1) := by decide +kernel
theorem dX7_openRungs_18 : decode cX7_openRungs 18 = .ok (.goto 4, 3) := by decide +kernel
theorem dX7_openRungs_21 : decode cX7_openRungs 21 = .ok (.iconst 0, 1) := by decide +kernel
theorem dX7_openRungs_22 : decode cX7_openRungs 22 = .ok (.ireturn, 1) := by decide +kernel
def fX7_openRungs (M : Mm) (o : Nat) : Option Int32 :=
  B1 (gk M o 10) fun _ =>
  B1 (fX7_hasLadder M o) fun x1_2 =>
  if x1_2 = 0 then
    some 0
  else
    B1 (rdI M o 10 7) fun x8_3 =>
    B1 (rdI M o 10 6) fun x12_4 =>
    some ((x8_3 - x12_4) + 1)
set_option maxRecDepth 100000 in
set_option maxHeartbeats 4000000 in
theorem qX7_openRungs (l : Launch) (E : Ev) {M : Mm} {o : Nat} {rz : Int32} (hf : fX7_openRungs M o = some rz) : Ct l E yX7_openRungs cX7_openRungs 1 (some .int) 1 20 0 0 [.ref (E.b + o)] M (some (.int rz)) M := by
  refine ct_of (by decide +kernel) (Nat.le_of_ble_eq_true rfl) fun p e s m args below meth c C hr hin hW ls hl => ?_
  have hl : lv_has ls 1 [(0, .ref (E.b + o))] := hl
  unfold fX7_openRungs at hf
  refine lv_aload_n C.x C.b dX7_openRungs_0 rfl (lv_at hl 0 rfl) ?_
  replace hf := x_b1 hf; obtain ⟨_, hk1_1, hf⟩ := hf
  replace hf := x_b1 hf; obtain ⟨x1_2, hx1_2, hf⟩ := hf
  refine x_callV (As := []) (a := o) (rest := []) C hW hl (qX7_hasLadder l E hx1_2) (x_gk hk1_1) (by decide) (by decide) rfl gv_X7_59 ⟨rfl, hd_X7_hasLadder⟩ rfl rfl (Nat.le_of_ble_eq_true rfl) dX7_openRungs_1 ⟨Nat.le_of_ble_eq_true rfl, Nat.le_of_ble_eq_true rfl⟩ ⟨Nat.le_of_ble_eq_true rfl, Nat.le_of_ble_eq_true rfl⟩ (fun H locs hW => ?_)
  refine lv_if_eq (tgt := 21) C.x C.b dX7_openRungs_4 rfl (fun c4 => ?_) (fun c4 => ?_)
  · replace hf := x_ip c4 hf
    refine lv_iconst (v := 0) C.x C.b dX7_openRungs_21 (by decide) ?_
    rw [x_e0 hf]
    exact x_iret C hr hW dX7_openRungs_22
  · replace hf := x_in c4 hf
    refine lv_aload_n C.x C.b dX7_openRungs_7 rfl (lv_at hl 0 rfl) ?_
    replace hf := x_b1 hf; obtain ⟨x8_3, hx8_3, hf⟩ := hf
    refine x_geti C hW fg_X7_33_10 hx8_3 dX7_openRungs_8 ?_
    refine lv_aload_n C.x C.b dX7_openRungs_11 rfl (lv_at hl 0 rfl) ?_
    replace hf := x_b1 hf; obtain ⟨x12_4, hx12_4, hf⟩ := hf
    refine x_geti C hW fg_X7_30_10 hx12_4 dX7_openRungs_12 ?_
    refine lv_isub C.x C.b dX7_openRungs_15 ?_
    refine lv_iconst (v := 1) C.x C.b dX7_openRungs_16 (by decide) ?_
    refine lv_iadd C.x C.b dX7_openRungs_17 ?_
    refine lv_goto (tgt := 22) C.x C.b dX7_openRungs_18 rfl ?_
    rw [x_e0 hf]
    exact x_iret C hr hW dX7_openRungs_22

theorem dX0_openTogether_0 : decode cX0_openTogether 0 = .ok (.iconst 0, 1) := by decide +kernel
theorem dX0_openTogether_1 : decode cX0_openTogether 1 = .ok (.istore_n 1, 1) := by decide +kernel
theorem dX0_openTogether_2 : decode cX0_openTogether 2 = .ok (.iconst 0, 1) := by decide +kernel
theorem dX0_openTogether_3 : decode cX0_openTogether 3 = .ok (.istore_n 2, 1) := by decide +kernel
theorem dX0_openTogether_4 : decode cX0_openTogether 4 = .ok (.iload_n 2, 1) := by decide +kernel
theorem dX0_openTogether_5 : decode cX0_openTogether 5 = .ok (.iconst 2, 1) := by decide +kernel
theorem dX0_openTogether_6 : decode cX0_openTogether 6 = .ok (.if_icmp .ge 30, 3) := by decide +kernel
theorem dX0_openTogether_9 : decode cX0_openTogether 9 = .ok (.aload_n 0, 1) := by decide +kernel
theorem dX0_openTogether_10 : decode cX0_openTogether 10 = .ok (.iload_n 2, 1) := by decide +kernel
theorem dX0_openTogether_11 : decode cX0_openTogether 11 = .ok (.invokevirtual 79, 3) := by decide +kernel
theorem dX0_openTogether_14 : decode cX0_openTogether 14 = .ok (.astore_n 3, 1) := by decide +kernel
theorem dX0_openTogether_15 : decode cX0_openTogether 15 = .ok (.iload_n 1, 1) := by decide +kernel
theorem dX0_openTogether_16 : decode cX0_openTogether 16 = .ok (.aload_n 3, 1) := by decide +kernel
theorem dX0_openTogether_17 : decode cX0_openTogether 17 = .ok (.ifnonnull 7, 3) := by decide +kernel
theorem dX0_openTogether_20 : decode cX0_openTogether 20 = .ok (.iconst 0, 1) := by decide +kernel
theorem dX0_openTogether_21 : decode cX0_openTogether 21 = .ok (.goto 7, 3) := by decide +kernel
theorem dX0_openTogether_24 : decode cX0_openTogether 24 = .ok (.aload_n 3, 1) := by decide +kernel
theorem dX0_openTogether_25 : decode cX0_openTogether 25 = .ok (.invokevirtual 86, 3) := by decide +kernel
theorem dX0_openTogether_28 : decode cX0_openTogether 28 = .ok (.iadd, 1) := by decide +kernel
theorem dX0_openTogether_29 : decode cX0_openTogether 29 = .ok (.istore_n 1, 1) := by decide +kernel
theorem dX0_openTogether_30 : decode cX0_openTogether 30 = .ok (.iinc 2 1, 3) := by decide +kernel
theorem dX0_openTogether_33 : decode cX0_openTogether 33 = .ok (.goto (-29), 3) := by decide +kernel
theorem dX0_openTogether_36 : decode cX0_openTogether 36 = .ok (.iload_n 1, 1) := by decide +kernel
theorem dX0_openTogether_37 : decode cX0_openTogether 37 = .ok (.ireturn, 1) := by decide +kernel
theorem hd_X7_openRungs : yX7_openRungs.cls ≠ "java/lang/invoke/MethodHandle" ∧ yX7_openRungs.cls ≠ "java/lang/invoke/VarHandle" ∧ (parseMethodDescriptor yX7_openRungs.desc).map (fun d => d.parameters.length) = some 0 := by decide +kernel
theorem gv_X0_86 : GoodIn gT (wsV "NylonLadder$Drawer" 86 "NylonLadder$Stocking" yX7_openRungs (Cond.code yX7_openRungs cX7_openRungs 1 (some .int) :: gT)) := good_V T_3_175 T_3_32 T_3_33 T_1_4 T_3_34
def fX0_openTogether_L4 (M : Mm) (o : Nat) : Nat → Int32 → Int32 → Option Int32
  | 0, _, _ => none
  | n + 1, v1, v2 =>
    if 2 ≤ v2 then
      some v1
    else
      B1 (gk M o 3) fun _ =>
      B1 (fX0_wornOn M o v2) fun x11_2 =>
      NL x11_2 (
        fX0_openTogether_L4 M o n (v1 + 0) (v2 + 1)) (fun a17_3 =>
        B1 (gk M a17_3 10) fun _ =>
        B1 (fX7_openRungs M a17_3) fun x25_5 =>
        fX0_openTogether_L4 M o n (v1 + x25_5) (v2 + 1))
def fX0_openTogether (M : Mm) (o : Nat) : Option Int32 :=
  fX0_openTogether_L4 M o FL 0 0
set_option maxRecDepth 100000 in
set_option maxHeartbeats 4000000 in
theorem kX0_openTogether_L4 {l : Launch} {E : Ev} {p : Program} {e : Env} {s : State} {m : MethodId} {args : Array Value} {below : List Frame} {meth : Method} {c : Code} (C : Cx E p s m args meth c cX0_openTogether yX0_openTogether.cls 4) (hr : meth.sig.returnType = (some .int)) (hin : yX0_openTogether.name = "<init>" → meth.name = "<init>") {M : Mm}  {o : Nat} {rz : Int32} : ∀ (n : Nat) (v1 : Int32) (v2 : Int32), fX0_openTogether_L4 M o n v1 v2 = some rz → ∀ (H : Heap) (locs : List Loc) (ls : Array Slot), Wx E s H locs M → lv_has ls 4 [(0, .ref (E.b + o)), (1, .int v1), (2, .int v2)] → W p l e (rM 3 64 0 0) s m args below meth c H locs 0 0 (MQ below (Qp E (some (.int rz)) M) args s 0 0 E.A) (F0 m 4 ls []) := by
  intro n
  induction n with
  | zero =>
    intro v1 v2 hf
    unfold fX0_openTogether_L4 at hf
    cases hf
  | succ n ih =>
    intro v1 v2 hf H locs ls hW hl
    unfold fX0_openTogether_L4 at hf
    refine lv_iload_n C.x C.b dX0_openTogether_4 rfl (lv_at hl 2 rfl) ?_
    refine lv_iconst (v := 2) C.x C.b dX0_openTogether_5 (by decide) ?_
    refine lv_icmp_ge (tgt := 36) C.x C.b dX0_openTogether_6 rfl (fun c6 => ?_) (fun c6 => ?_)
    · replace hf := x_ip c6 hf
      refine lv_iload_n C.x C.b dX0_openTogether_36 rfl (lv_at hl 1 rfl) ?_
      rw [x_e0 hf]
      exact x_iret C hr hW dX0_openTogether_37
    · replace hf := x_in c6 hf
      refine lv_aload_n C.x C.b dX0_openTogether_9 rfl (lv_at hl 0 rfl) ?_
      refine lv_iload_n C.x C.b dX0_openTogether_10 rfl (lv_at hl 2 rfl) ?_
      replace hf := x_b1 hf; obtain ⟨_, hk11_1, hf⟩ := hf
      replace hf := x_b1 hf; obtain ⟨x11_2, hx11_2, hf⟩ := hf
      refine x_callV (As := [.int v2]) (a := o) (rest := []) C hW hl (qX0_wornOn l E hx11_2) (x_gk hk11_1) (by decide) (by decide) rfl gv_X0_79 ⟨rfl, hd_X0_wornOn⟩ rfl rfl (Nat.le_of_ble_eq_true rfl) dX0_openTogether_11 ⟨Nat.le_of_ble_eq_true rfl, Nat.le_of_ble_eq_true rfl⟩ ⟨Nat.le_of_ble_eq_true rfl, Nat.le_of_ble_eq_true rfl⟩ (fun H locs hW => ?_)
      refine x_astore_n (lv' := [(3, rv E.b _), (0, .ref (E.b + _)), (1, .int _), (2, .int _)]) C dX0_openTogether_14 rfl hl (by decide) rfl (fun ls hl => ?_)
      refine lv_iload_n C.x C.b dX0_openTogether_15 rfl (lv_at hl 2 rfl) ?_
      refine x_aload_n C dX0_openTogether_16 rfl (lv_at hl 0 rfl) ?_
      replace hf := x_nl hf; rcases hf with ⟨rfl, hf⟩ | ⟨a17_3, rfl, hf⟩
      · refine lv_ifnonnullN C.x C.b dX0_openTogether_17 ?_
        refine lv_iconst (v := 0) C.x C.b dX0_openTogether_20 (by decide) ?_
        refine lv_goto (tgt := 28) C.x C.b dX0_openTogether_21 rfl ?_
        refine lv_iadd C.x C.b dX0_openTogether_28 ?_
        refine lv_istore_n (lv' := [(1, .int _), (3, .null), (0, .ref (E.b + _)), (2, .int _)]) C.x C.b dX0_openTogether_29 rfl hl (by decide) rfl (fun ls hl => ?_)
        refine lv_iinc (v := (v2 + 1)) (lv' := [(2, .int (v2 + 1)), (1, .int _), (3, .null), (0, .ref (E.b + _))]) C.x C.b dX0_openTogether_30 hl (k := 3) rfl (by first | rfl | decide) (by decide) rfl (fun ls hl => ?_)
        refine lv_goto (tgt := 4) C.x C.b dX0_openTogether_33 rfl ?_
        exact ih (v1 + 0) (v2 + 1) hf _ _ _ hW (lv_sub hl [3, 1, 0] rfl)
      · refine lv_ifnonnull (tgt := 24) C.x C.b dX0_openTogether_17 rfl ?_
        refine lv_aload_n C.x C.b dX0_openTogether_24 rfl (lv_at hl 0 rfl) ?_
        replace hf := x_b1 hf; obtain ⟨_, hk25_4, hf⟩ := hf
        replace hf := x_b1 hf; obtain ⟨x25_5, hx25_5, hf⟩ := hf
        refine x_callV (As := []) (a := a17_3) (rest := [.int v1]) C hW hl (qX7_openRungs l E hx25_5) (x_gk hk25_4) (by decide) (by decide) rfl gv_X0_86 ⟨rfl, hd_X7_openRungs⟩ rfl rfl (Nat.le_of_ble_eq_true rfl) dX0_openTogether_25 ⟨Nat.le_of_ble_eq_true rfl, Nat.le_of_ble_eq_true rfl⟩ ⟨Nat.le_of_ble_eq_true rfl, Nat.le_of_ble_eq_true rfl⟩ (fun H locs hW => ?_)
        refine lv_iadd C.x C.b dX0_openTogether_28 ?_
        refine lv_istore_n (lv' := [(1, .int _), (3, .ref (E.b + _)), (0, .ref (E.b + _)), (2, .int _)]) C.x C.b dX0_openTogether_29 rfl hl (by decide) rfl (fun ls hl => ?_)
        refine lv_iinc (v := (v2 + 1)) (lv' := [(2, .int (v2 + 1)), (1, .int _), (3, .ref (E.b + _)), (0, .ref (E.b + _))]) C.x C.b dX0_openTogether_30 hl (k := 3) rfl (by first | rfl | decide) (by decide) rfl (fun ls hl => ?_)
        refine lv_goto (tgt := 4) C.x C.b dX0_openTogether_33 rfl ?_
        exact ih (v1 + x25_5) (v2 + 1) hf _ _ _ hW (lv_sub hl [3, 1, 0] rfl)
set_option maxRecDepth 100000 in
set_option maxHeartbeats 4000000 in
theorem qX0_openTogether (l : Launch) (E : Ev) {M : Mm} {o : Nat} {rz : Int32} (hf : fX0_openTogether M o = some rz) : Ct l E yX0_openTogether cX0_openTogether 4 (some .int) 3 64 0 0 [.ref (E.b + o)] M (some (.int rz)) M := by
  refine ct_of (by decide +kernel) (Nat.le_of_ble_eq_true rfl) fun p e s m args below meth c C hr hin hW ls hl => ?_
  have hl : lv_has ls 4 [(0, .ref (E.b + o))] := hl
  unfold fX0_openTogether at hf
  refine lv_iconst (v := 0) C.x C.b dX0_openTogether_0 (by decide) ?_
  refine lv_istore_n (lv' := [(1, .int _), (0, .ref (E.b + _))]) C.x C.b dX0_openTogether_1 rfl hl (by decide) rfl (fun ls hl => ?_)
  refine lv_iconst (v := 0) C.x C.b dX0_openTogether_2 (by decide) ?_
  refine lv_istore_n (lv' := [(2, .int _), (1, .int _), (0, .ref (E.b + _))]) C.x C.b dX0_openTogether_3 rfl hl (by decide) rfl (fun ls hl => ?_)
  exact kX0_openTogether_L4 C hr hin FL 0 0 hf _ _ _ hW (lv_sub hl [2, 1, 0] rfl)

theorem dX7_sideShown_0 : decode cX7_sideShown 0 = .ok (.iload_n 1, 1) := by decide +kernel
theorem dX7_sideShown_1 : decode cX7_sideShown 1 = .ok (.iconst 1, 1) := by decide +kernel
theorem dX7_sideShown_2 : decode cX7_sideShown 2 = .ok (.if_icmp .ne 22, 3) := by decide +kernel
theorem dX7_sideShown_5 : decode cX7_sideShown 5 = .ok (.aload_n 0, 1) := by decide +kernel
theorem dX7_sideShown_6 : decode cX7_sideShown 6 = .ok (.getfield 27, 3) := by decide +kernel
theorem dX7_sideShown_9 : decode cX7_sideShown 9 = .ok (.iconst 2, 1) := by decide +kernel
theorem dX7_sideShown_10 : decode cX7_sideShown 10 = .ok (.irem, 1) := by decide +kernel
theorem dX7_sideShown_11 : decode cX7_sideShown 11 = .ok (.iconst 1, 1) := by decide +kernel
theorem dX7_sideShown_12 : decode cX7_sideShown 12 = .ok (.if_icmp .ne 12, 3) := by decide +kernel
theorem dX7_sideShown_15 : decode cX7_sideShown 15 = .ok (.iconst 4, 1) := by decide +kernel
theorem dX7_sideShown_16 : decode cX7_sideShown 16 = .ok (.aload_n 0, 1) := by decide +kernel
theorem dX7_sideShown_17 : decode cX7_sideShown 17 = .ok (.getfield 27, 3) := by decide +kernel
theorem dX7_sideShown_20 : decode cX7_sideShown 20 = .ok (.isub, 1) := by decide +kernel
theorem dX7_sideShown_21 : decode cX7_sideShown 21 = .ok (.goto 7, 3) := by decide +kernel
theorem dX7_sideShown_24 : decode cX7_sideShown 24 = .ok (.aload_n 0, 1) := by decide +kernel
theorem dX7_sideShown_25 : decode cX7_sideShown 25 = .ok (.getfield 27, 3) := by decide +kernel
theorem dX7_sideShown_28 : decode cX7_sideShown 28 = .ok (.ireturn, 1) := by decide +kernel
def fX7_sideShown (M : Mm) (o : Nat) (p1 : Int32) : Option Int32 :=
  if p1 = 1 then
    B1 (rdI M o 10 5) fun x6_2 =>
    if (x6_2 - x6_2 / 2 * 2) = 1 then
      B1 (rdI M o 10 5) fun x17_4 =>
      some (4 - x17_4)
    else
      B1 (rdI M o 10 5) fun x25_3 =>
      some x25_3
  else
    B1 (rdI M o 10 5) fun x25_1 =>
    some x25_1
set_option maxRecDepth 100000 in
set_option maxHeartbeats 4000000 in
theorem qX7_sideShown (l : Launch) (E : Ev) {M : Mm} {o : Nat} {p1 : Int32} {rz : Int32} (hf : fX7_sideShown M o p1 = some rz) : Ct l E yX7_sideShown cX7_sideShown 2 (some .int) 0 0 0 0 [.ref (E.b + o), .int p1] M (some (.int rz)) M := by
  refine ct_of (by decide +kernel) (Nat.le_of_ble_eq_true rfl) fun p e s m args below meth c C hr hin hW ls hl => ?_
  have hl : lv_has ls 2 [(0, .ref (E.b + o)), (1, .int p1)] := hl
  unfold fX7_sideShown at hf
  refine lv_iload_n C.x C.b dX7_sideShown_0 rfl (lv_at hl 1 rfl) ?_
  refine lv_iconst (v := 1) C.x C.b dX7_sideShown_1 (by decide) ?_
  refine lv_icmp_ne (tgt := 24) C.x C.b dX7_sideShown_2 rfl (fun c2 => ?_) (fun c2 => ?_)
  · replace hf := x_in c2 hf
    refine lv_aload_n C.x C.b dX7_sideShown_24 rfl (lv_at hl 0 rfl) ?_
    replace hf := x_b1 hf; obtain ⟨x25_1, hx25_1, hf⟩ := hf
    refine x_geti C hW fg_X7_27_10 hx25_1 dX7_sideShown_25 ?_
    rw [x_e0 hf]
    exact x_iret C hr hW dX7_sideShown_28
  · replace hf := x_ip c2 hf
    refine lv_aload_n C.x C.b dX7_sideShown_5 rfl (lv_at hl 0 rfl) ?_
    replace hf := x_b1 hf; obtain ⟨x6_2, hx6_2, hf⟩ := hf
    refine x_geti C hW fg_X7_27_10 hx6_2 dX7_sideShown_6 ?_
    refine lv_iconst (v := 2) C.x C.b dX7_sideShown_9 (by decide) ?_
    refine lv_irem C.x C.b dX7_sideShown_10 (by decide) ?_
    refine lv_iconst (v := 1) C.x C.b dX7_sideShown_11 (by decide) ?_
    refine lv_icmp_ne (tgt := 24) C.x C.b dX7_sideShown_12 rfl (fun c12 => ?_) (fun c12 => ?_)
    · replace hf := x_in c12 hf
      refine lv_aload_n C.x C.b dX7_sideShown_24 rfl (lv_at hl 0 rfl) ?_
      replace hf := x_b1 hf; obtain ⟨x25_3, hx25_3, hf⟩ := hf
      refine x_geti C hW fg_X7_27_10 hx25_3 dX7_sideShown_25 ?_
      rw [x_e0 hf]
      exact x_iret C hr hW dX7_sideShown_28
    · replace hf := x_ip c12 hf
      refine lv_iconst (v := 4) C.x C.b dX7_sideShown_15 (by decide) ?_
      refine lv_aload_n C.x C.b dX7_sideShown_16 rfl (lv_at hl 0 rfl) ?_
      replace hf := x_b1 hf; obtain ⟨x17_4, hx17_4, hf⟩ := hf
      refine x_geti C hW fg_X7_27_10 hx17_4 dX7_sideShown_17 ?_
      refine lv_isub C.x C.b dX7_sideShown_20 ?_
      refine lv_goto (tgt := 28) C.x C.b dX7_sideShown_21 rfl ?_
      rw [x_e0 hf]
      exact x_iret C hr hW dX7_sideShown_28

theorem dX7_openAboveShoe_0 : decode cX7_openAboveShoe 0 = .ok (.aload_n 0, 1) := by decide +kernel
theorem dX7_openAboveShoe_1 : decode cX7_openAboveShoe 1 = .ok (.getfield 30, 3) := by decide +kernel
theorem dX7_openAboveShoe_4 : decode cX7_openAboveShoe 4 = .ok (.aload_n 1, 1) := by decide +kernel
theorem dX7_openAboveShoe_5 : decode cX7_openAboveShoe 5 = .ok (.iconst 3, 1) := by decide +kernel
theorem dX7_openAboveShoe_6 : decode cX7_openAboveShoe 6 = .ok (.iaload, 1) := by decide +kernel
theorem dX7_openAboveShoe_7 : decode cX7_openAboveShoe 7 = .ok (.invokestatic 63, 3) := by decide +kernel
theorem dX7_openAboveShoe_10 : decode cX7_openAboveShoe 10 = .ok (.istore_n 2, 1) := by decide +kernel
theorem dX7_openAboveShoe_11 : decode cX7_openAboveShoe 11 = .ok (.aload_n 0, 1) := by decide +kernel
theorem dX7_openAboveShoe_12 : decode cX7_openAboveShoe 12 = .ok (.getfield 33, 3) := by decide +kernel
theorem dX7_openAboveShoe_15 : decode cX7_openAboveShoe 15 = .ok (.aload_n 1, 1) := by decide +kernel
theorem dX7_openAboveShoe_16 : decode cX7_openAboveShoe 16 = .ok (.iconst 4, 1) := by decide +kernel
theorem dX7_openAboveShoe_17 : decode cX7_openAboveShoe 17 = .ok (.iaload, 1) := by decide +kernel
theorem dX7_openAboveShoe_18 : decode cX7_openAboveShoe 18 = .ok (.iconst 1, 1) := by decide +kernel
theorem dX7_openAboveShoe_19 : decode cX7_openAboveShoe 19 = .ok (.isub, 1) := by decide +kernel
theorem dX7_openAboveShoe_20 : decode cX7_openAboveShoe 20 = .ok (.invokestatic 69, 3) := by decide +kernel
theorem dX7_openAboveShoe_23 : decode cX7_openAboveShoe 23 = .ok (.istore_n 3, 1) := by decide +kernel
theorem dX7_openAboveShoe_24 : decode cX7_openAboveShoe 24 = .ok (.iconst 0, 1) := by decide +kernel
theorem dX7_openAboveShoe_25 : decode cX7_openAboveShoe 25 = .ok (.iload_n 3, 1) := by decide +kernel
theorem dX7_openAboveShoe_26 : decode cX7_openAboveShoe 26 = .ok (.iload_n 2, 1) := by decide +kernel
theorem dX7_openAboveShoe_27 : decode cX7_openAboveShoe 27 = .ok (.isub, 1) := by decide +kernel
theorem dX7_openAboveShoe_28 : decode cX7_openAboveShoe 28 = .ok (.iconst 1, 1) := by decide +kernel
theorem dX7_openAboveShoe_29 : decode cX7_openAboveShoe 29 = .ok (.iadd, 1) := by decide +kernel
theorem dX7_openAboveShoe_30 : decode cX7_openAboveShoe 30 = .ok (.invokestatic 63, 3) := by decide +kernel
theorem dX7_openAboveShoe_33 : decode cX7_openAboveShoe 33 = .ok (.ireturn, 1) := by decide +kernel
def fX7_openAboveShoe (M : Mm) (o : Nat) (p1 : Nat) : Option Int32 :=
  B1 (rdI M o 10 6) fun x1_1 =>
  B1 (alI M p1 3) fun x6_2 =>
  B1 (rdI M o 10 7) fun x12_3 =>
  B1 (alI M p1 4) fun x17_4 =>
  some (mxI 0 (((mnI x12_3 (x17_4 - 1)) - (mxI x1_1 x6_2)) + 1))
set_option maxRecDepth 100000 in
set_option maxHeartbeats 4000000 in
theorem qX7_openAboveShoe (l : Launch) (E : Ev) {M : Mm} {o : Nat} {p1 : Nat} {rz : Int32} (hf : fX7_openAboveShoe M o p1 = some rz) : Ct l E yX7_openAboveShoe cX7_openAboveShoe 4 (some .int) 1 13 0 0 [.ref (E.b + o), .ref (E.b + p1)] M (some (.int rz)) M := by
  refine ct_of (by decide +kernel) (Nat.le_of_ble_eq_true rfl) fun p e s m args below meth c C hr hin hW ls hl => ?_
  have hl : lv_has ls 4 [(0, .ref (E.b + o)), (1, .ref (E.b + p1))] := hl
  unfold fX7_openAboveShoe at hf
  refine lv_aload_n C.x C.b dX7_openAboveShoe_0 rfl (lv_at hl 0 rfl) ?_
  replace hf := x_b1 hf; obtain ⟨x1_1, hx1_1, hf⟩ := hf
  refine x_geti C hW fg_X7_30_10 hx1_1 dX7_openAboveShoe_1 ?_
  refine lv_aload_n C.x C.b dX7_openAboveShoe_4 rfl (lv_at hl 1 rfl) ?_
  refine lv_iconst (v := 3) C.x C.b dX7_openAboveShoe_5 (by decide) ?_
  replace hf := x_b1 hf; obtain ⟨x6_2, hx6_2, hf⟩ := hf
  refine x_iald C hW hx6_2 dX7_openAboveShoe_6 ?_
  refine x_mmax C hl T_3_144 T_3_145 T_1_15 T_3_146 (Nat.le_of_ble_eq_true rfl) (Nat.le_of_ble_eq_true rfl) ⟨Nat.le_of_ble_eq_true rfl, Nat.le_of_ble_eq_true rfl⟩ dX7_openAboveShoe_7 ?_
  refine lv_istore_n (lv' := [(2, .int _), (0, .ref (E.b + _)), (1, .ref (E.b + _))]) C.x C.b dX7_openAboveShoe_10 rfl hl (by decide) rfl (fun ls hl => ?_)
  refine lv_aload_n C.x C.b dX7_openAboveShoe_11 rfl (lv_at hl 1 rfl) ?_
  replace hf := x_b1 hf; obtain ⟨x12_3, hx12_3, hf⟩ := hf
  refine x_geti C hW fg_X7_33_10 hx12_3 dX7_openAboveShoe_12 ?_
  refine lv_aload_n C.x C.b dX7_openAboveShoe_15 rfl (lv_at hl 2 rfl) ?_
  refine lv_iconst (v := 4) C.x C.b dX7_openAboveShoe_16 (by decide) ?_
  replace hf := x_b1 hf; obtain ⟨x17_4, hx17_4, hf⟩ := hf
  refine x_iald C hW hx17_4 dX7_openAboveShoe_17 ?_
  refine lv_iconst (v := 1) C.x C.b dX7_openAboveShoe_18 (by decide) ?_
  refine lv_isub C.x C.b dX7_openAboveShoe_19 ?_
  refine x_mmin C hl T_3_159 T_3_160 T_1_15 T_3_161 (Nat.le_of_ble_eq_true rfl) (Nat.le_of_ble_eq_true rfl) ⟨Nat.le_of_ble_eq_true rfl, Nat.le_of_ble_eq_true rfl⟩ dX7_openAboveShoe_20 ?_
  refine lv_istore_n (lv' := [(3, .int _), (2, .int _), (0, .ref (E.b + _)), (1, .ref (E.b + _))]) C.x C.b dX7_openAboveShoe_23 rfl hl (by decide) rfl (fun ls hl => ?_)
  refine lv_iconst (v := 0) C.x C.b dX7_openAboveShoe_24 (by decide) ?_
  refine lv_iload_n C.x C.b dX7_openAboveShoe_25 rfl (lv_at hl 0 rfl) ?_
  refine lv_iload_n C.x C.b dX7_openAboveShoe_26 rfl (lv_at hl 1 rfl) ?_
  refine lv_isub C.x C.b dX7_openAboveShoe_27 ?_
  refine lv_iconst (v := 1) C.x C.b dX7_openAboveShoe_28 (by decide) ?_
  refine lv_iadd C.x C.b dX7_openAboveShoe_29 ?_
  refine x_mmax C hl T_3_144 T_3_145 T_1_15 T_3_146 (Nat.le_of_ble_eq_true rfl) (Nat.le_of_ble_eq_true rfl) ⟨Nat.le_of_ble_eq_true rfl, Nat.le_of_ble_eq_true rfl⟩ dX7_openAboveShoe_30 ?_
  rw [x_e0 hf]
  exact x_iret C hr hW dX7_openAboveShoe_33

theorem dX0_seenFrom_0 : decode cX0_seenFrom 0 = .ok (.iconst 0, 1) := by decide +kernel
theorem dX0_seenFrom_1 : decode cX0_seenFrom 1 = .ok (.istore_n 2, 1) := by decide +kernel
theorem dX0_seenFrom_2 : decode cX0_seenFrom 2 = .ok (.iconst 0, 1) := by decide +kernel
theorem dX0_seenFrom_3 : decode cX0_seenFrom 3 = .ok (.istore_n 3, 1) := by decide +kernel
theorem dX0_seenFrom_4 : decode cX0_seenFrom 4 = .ok (.iload_n 3, 1) := by decide +kernel
theorem dX0_seenFrom_5 : decode cX0_seenFrom 5 = .ok (.iconst 2, 1) := by decide +kernel
theorem dX0_seenFrom_6 : decode cX0_seenFrom 6 = .ok (.if_icmp .ge 43, 3) := by decide +kernel
theorem dX0_seenFrom_9 : decode cX0_seenFrom 9 = .ok (.aload_n 0, 1) := by decide +kernel
theorem dX0_seenFrom_10 : decode cX0_seenFrom 10 = .ok (.iload_n 3, 1) := by decide +kernel
theorem dX0_seenFrom_11 : decode cX0_seenFrom 11 = .ok (.invokevirtual 79, 3) := by decide +kernel
theorem dX0_seenFrom_14 : decode cX0_seenFrom 14 = .ok (.astore 4, 2) := by decide +kernel
theorem dX0_seenFrom_16 : decode cX0_seenFrom 16 = .ok (.aload 4, 2) := by decide +kernel
theorem dX0_seenFrom_18 : decode cX0_seenFrom 18 = .ok (.ifnull 25, 3) := by decide +kernel
theorem dX0_seenFrom_21 : decode cX0_seenFrom 21 = .ok (.aload 4, 2) := by decide +kernel
theorem dX0_seenFrom_23 : decode cX0_seenFrom 23 = .ok (.iload_n 3, 1) := by decide +kernel
theorem dX0_seenFrom_24 : decode cX0_seenFrom 24 = .ok (.invokevirtual 90, 3) := by decide +kernel
theorem dX0_seenFrom_27 : decode cX0_seenFrom 27 = .ok (.iload_n 1, 1) := by decide +kernel
theorem dX0_seenFrom_28 : decode cX0_seenFrom 28 = .ok (.if_icmp .ne 15, 3) := by decide +kernel
theorem dX0_seenFrom_31 : decode cX0_seenFrom 31 = .ok (.iload_n 2, 1) := by decide +kernel
theorem dX0_seenFrom_32 : decode cX0_seenFrom 32 = .ok (.aload 4, 2) := by decide +kernel
theorem dX0_seenFrom_34 : decode cX0_seenFrom 34 = .ok (.aload_n 0, 1) := by decide +kernel
theorem dX0_seenFrom_35 : decode cX0_seenFrom 35 = .ok (.getfield 9, 3) := by decide +kernel
theorem dX0_seenFrom_38 : decode cX0_seenFrom 38 = .ok (.invokevirtual 93, 3) := by decide +kernel
theorem dX0_seenFrom_41 : decode cX0_seenFrom 41 = .ok (.iadd, 1) := by decide +kernel
theorem dX0_seenFrom_42 : decode cX0_seenFrom 42 = .ok (.istore_n 2, 1) := by decide +kernel
theorem dX0_seenFrom_43 : decode cX0_seenFrom 43 = .ok (.iinc 3 1, 3) := by decide +kernel
theorem dX0_seenFrom_46 : decode cX0_seenFrom 46 = .ok (.goto (-42), 3) := by decide +kernel
theorem dX0_seenFrom_49 : decode cX0_seenFrom 49 = .ok (.iload_n 2, 1) := by decide +kernel
theorem dX0_seenFrom_50 : decode cX0_seenFrom 50 = .ok (.ireturn, 1) := by decide +kernel
theorem hd_X7_sideShown : yX7_sideShown.cls ≠ "java/lang/invoke/MethodHandle" ∧ yX7_sideShown.cls ≠ "java/lang/invoke/VarHandle" ∧ (parseMethodDescriptor yX7_sideShown.desc).map (fun d => d.parameters.length) = some 1 := by decide +kernel
theorem gv_X0_90 : GoodIn gT (wsV "NylonLadder$Drawer" 90 "NylonLadder$Stocking" yX7_sideShown (Cond.code yX7_sideShown cX7_sideShown 2 (some .int) :: gT)) := good_V T_3_215 T_3_216 T_3_217 T_1_4 T_3_218
theorem hd_X7_openAboveShoe : yX7_openAboveShoe.cls ≠ "java/lang/invoke/MethodHandle" ∧ yX7_openAboveShoe.cls ≠ "java/lang/invoke/VarHandle" ∧ (parseMethodDescriptor yX7_openAboveShoe.desc).map (fun d => d.parameters.length) = some 1 := by decide +kernel
theorem gv_X0_93 : GoodIn gT (wsV "NylonLadder$Drawer" 93 "NylonLadder$Stocking" yX7_openAboveShoe (Cond.code yX7_openAboveShoe cX7_openAboveShoe 4 (some .int) :: gT)) := good_V T_3_219 T_3_220 T_3_221 T_1_4 T_3_222
def fX0_seenFrom_L4 (M : Mm) (o : Nat) (v1 : Int32) : Nat → Int32 → Int32 → Option Int32
  | 0, _, _ => none
  | n + 1, v2, v3 =>
    if 2 ≤ v3 then
      some v2
    else
      B1 (gk M o 3) fun _ =>
      B1 (fX0_wornOn M o v3) fun x11_2 =>
      NL x11_2 (
        fX0_seenFrom_L4 M o v1 n v2 (v3 + 1)) (fun a18_3 =>
        B1 (gk M a18_3 10) fun _ =>
        B1 (fX7_sideShown M a18_3 v3) fun x24_5 =>
        if x24_5 = v1 then
          B1 (rdN M o 3 0) fun a35_6 =>
          B1 (gk M a18_3 10) fun _ =>
          B1 (fX7_openAboveShoe M a18_3 a35_6) fun x38_8 =>
          fX0_seenFrom_L4 M o v1 n (v2 + x38_8) (v3 + 1)
        else
          fX0_seenFrom_L4 M o v1 n v2 (v3 + 1))
def fX0_seenFrom (M : Mm) (o : Nat) (p1 : Int32) : Option Int32 :=
  fX0_seenFrom_L4 M o p1 FL 0 0
set_option maxRecDepth 100000 in
set_option maxHeartbeats 4000000 in
theorem kX0_seenFrom_L4 {l : Launch} {E : Ev} {p : Program} {e : Env} {s : State} {m : MethodId} {args : Array Value} {below : List Frame} {meth : Method} {c : Code} (C : Cx E p s m args meth c cX0_seenFrom yX0_seenFrom.cls 5) (hr : meth.sig.returnType = (some .int)) (hin : yX0_seenFrom.name = "<init>" → meth.name = "<init>") {M : Mm}  {o : Nat} {v1 : Int32} {rz : Int32} : ∀ (n : Nat) (v2 : Int32) (v3 : Int32), fX0_seenFrom_L4 M o v1 n v2 v3 = some rz → ∀ (H : Heap) (locs : List Loc) (ls : Array Slot), Wx E s H locs M → lv_has ls 5 [(0, .ref (E.b + o)), (1, .int v1), (2, .int v2), (3, .int v3)] → W p l e (rM 3 64 0 0) s m args below meth c H locs 0 0 (MQ below (Qp E (some (.int rz)) M) args s 0 0 E.A) (F0 m 4 ls []) := by
  intro n
  induction n with
  | zero =>
    intro v2 v3 hf
    unfold fX0_seenFrom_L4 at hf
    cases hf
  | succ n ih =>
    intro v2 v3 hf H locs ls hW hl
    unfold fX0_seenFrom_L4 at hf
    refine lv_iload_n C.x C.b dX0_seenFrom_4 rfl (lv_at hl 3 rfl) ?_
    refine lv_iconst (v := 2) C.x C.b dX0_seenFrom_5 (by decide) ?_
    refine lv_icmp_ge (tgt := 49) C.x C.b dX0_seenFrom_6 rfl (fun c6 => ?_) (fun c6 => ?_)
    · replace hf := x_ip c6 hf
      refine lv_iload_n C.x C.b dX0_seenFrom_49 rfl (lv_at hl 2 rfl) ?_
      rw [x_e0 hf]
      exact x_iret C hr hW dX0_seenFrom_50
    · replace hf := x_in c6 hf
      refine lv_aload_n C.x C.b dX0_seenFrom_9 rfl (lv_at hl 0 rfl) ?_
      refine lv_iload_n C.x C.b dX0_seenFrom_10 rfl (lv_at hl 3 rfl) ?_
      replace hf := x_b1 hf; obtain ⟨_, hk11_1, hf⟩ := hf
      replace hf := x_b1 hf; obtain ⟨x11_2, hx11_2, hf⟩ := hf
      refine x_callV (As := [.int v3]) (a := o) (rest := []) C hW hl (qX0_wornOn l E hx11_2) (x_gk hk11_1) (by decide) (by decide) rfl gv_X0_79 ⟨rfl, hd_X0_wornOn⟩ rfl rfl (Nat.le_of_ble_eq_true rfl) dX0_seenFrom_11 ⟨Nat.le_of_ble_eq_true rfl, Nat.le_of_ble_eq_true rfl⟩ ⟨Nat.le_of_ble_eq_true rfl, Nat.le_of_ble_eq_true rfl⟩ (fun H locs hW => ?_)
      refine x_astore (lv' := [(4, rv E.b _), (0, .ref (E.b + _)), (1, .int _), (2, .int _), (3, .int _)]) C dX0_seenFrom_14 hl (by decide) rfl (fun ls hl => ?_)
      refine x_aload C dX0_seenFrom_16 (lv_at hl 0 rfl) ?_
      replace hf := x_nl hf; rcases hf with ⟨rfl, hf⟩ | ⟨a18_3, rfl, hf⟩
      · refine lv_ifnullN (tgt := 43) C.x C.b dX0_seenFrom_18 rfl ?_
        refine lv_iinc (v := (v3 + 1)) (lv' := [(3, .int (v3 + 1)), (4, .null), (0, .ref (E.b + _)), (1, .int _), (2, .int _)]) C.x C.b dX0_seenFrom_43 hl (k := 4) rfl (by first | rfl | decide) (by decide) rfl (fun ls hl => ?_)
        refine lv_goto (tgt := 4) C.x C.b dX0_seenFrom_46 rfl ?_
        exact ih v2 (v3 + 1) hf _ _ _ hW (lv_sub hl [2, 3, 4, 0] rfl)
      · refine lv_ifnull C.x C.b dX0_seenFrom_18 ?_
        refine lv_aload C.x C.b dX0_seenFrom_21 (lv_at hl 0 rfl) ?_
        refine lv_iload_n C.x C.b dX0_seenFrom_23 rfl (lv_at hl 4 rfl) ?_
        replace hf := x_b1 hf; obtain ⟨_, hk24_4, hf⟩ := hf
        replace hf := x_b1 hf; obtain ⟨x24_5, hx24_5, hf⟩ := hf
        refine x_callV (As := [.int v3]) (a := a18_3) (rest := []) C hW hl (qX7_sideShown l E hx24_5) (x_gk hk24_4) (by decide) (by decide) rfl gv_X0_90 ⟨rfl, hd_X7_sideShown⟩ rfl rfl (Nat.le_of_ble_eq_true rfl) dX0_seenFrom_24 ⟨Nat.le_of_ble_eq_true rfl, Nat.le_of_ble_eq_true rfl⟩ ⟨Nat.le_of_ble_eq_true rfl, Nat.le_of_ble_eq_true rfl⟩ (fun H locs hW => ?_)
        refine lv_iload_n C.x C.b dX0_seenFrom_27 rfl (lv_at hl 2 rfl) ?_
        refine lv_icmp_ne (tgt := 43) C.x C.b dX0_seenFrom_28 rfl (fun c28 => ?_) (fun c28 => ?_)
        · replace hf := x_in c28 hf
          refine lv_iinc (v := (v3 + 1)) (lv' := [(3, .int (v3 + 1)), (4, .ref (E.b + _)), (0, .ref (E.b + _)), (1, .int _), (2, .int _)]) C.x C.b dX0_seenFrom_43 hl (k := 4) rfl (by first | rfl | decide) (by decide) rfl (fun ls hl => ?_)
          refine lv_goto (tgt := 4) C.x C.b dX0_seenFrom_46 rfl ?_
          exact ih v2 (v3 + 1) hf _ _ _ hW (lv_sub hl [2, 3, 4, 0] rfl)
        · replace hf := x_ip c28 hf
          refine lv_iload_n C.x C.b dX0_seenFrom_31 rfl (lv_at hl 3 rfl) ?_
          refine lv_aload C.x C.b dX0_seenFrom_32 (lv_at hl 0 rfl) ?_
          refine lv_aload_n C.x C.b dX0_seenFrom_34 rfl (lv_at hl 1 rfl) ?_
          replace hf := x_b1 hf; obtain ⟨a35_6, ha35_6, hf⟩ := hf
          refine x_getn C hW fg_X0_9_3 ha35_6 dX0_seenFrom_35 ?_
          replace hf := x_b1 hf; obtain ⟨_, hk38_7, hf⟩ := hf
          replace hf := x_b1 hf; obtain ⟨x38_8, hx38_8, hf⟩ := hf
          refine x_callV (As := [.ref (E.b + a35_6)]) (a := a18_3) (rest := [.int v2]) C hW hl (qX7_openAboveShoe l E hx38_8) (x_gk hk38_7) (by decide) (by decide) rfl gv_X0_93 ⟨rfl, hd_X7_openAboveShoe⟩ rfl rfl (Nat.le_of_ble_eq_true rfl) dX0_seenFrom_38 ⟨Nat.le_of_ble_eq_true rfl, Nat.le_of_ble_eq_true rfl⟩ ⟨Nat.le_of_ble_eq_true rfl, Nat.le_of_ble_eq_true rfl⟩ (fun H locs hW => ?_)
          refine lv_iadd C.x C.b dX0_seenFrom_41 ?_
          refine lv_istore_n (lv' := [(2, .int _), (4, .ref (E.b + _)), (0, .ref (E.b + _)), (1, .int _), (3, .int _)]) C.x C.b dX0_seenFrom_42 rfl hl (by decide) rfl (fun ls hl => ?_)
          refine lv_iinc (v := (v3 + 1)) (lv' := [(3, .int (v3 + 1)), (2, .int _), (4, .ref (E.b + _)), (0, .ref (E.b + _)), (1, .int _)]) C.x C.b dX0_seenFrom_43 hl (k := 4) rfl (by first | rfl | decide) (by decide) rfl (fun ls hl => ?_)
          refine lv_goto (tgt := 4) C.x C.b dX0_seenFrom_46 rfl ?_
          exact ih (v2 + x38_8) (v3 + 1) hf _ _ _ hW (lv_sub hl [3, 4, 1, 0] rfl)
set_option maxRecDepth 100000 in
set_option maxHeartbeats 4000000 in
theorem qX0_seenFrom (l : Launch) (E : Ev) {M : Mm} {o : Nat} {p1 : Int32} {rz : Int32} (hf : fX0_seenFrom M o p1 = some rz) : Ct l E yX0_seenFrom cX0_seenFrom 5 (some .int) 3 64 0 0 [.ref (E.b + o), .int p1] M (some (.int rz)) M := by
  refine ct_of (by decide +kernel) (Nat.le_of_ble_eq_true rfl) fun p e s m args below meth c C hr hin hW ls hl => ?_
  have hl : lv_has ls 5 [(0, .ref (E.b + o)), (1, .int p1)] := hl
  unfold fX0_seenFrom at hf
  refine lv_iconst (v := 0) C.x C.b dX0_seenFrom_0 (by decide) ?_
  refine lv_istore_n (lv' := [(2, .int _), (0, .ref (E.b + _)), (1, .int _)]) C.x C.b dX0_seenFrom_1 rfl hl (by decide) rfl (fun ls hl => ?_)
  refine lv_iconst (v := 0) C.x C.b dX0_seenFrom_2 (by decide) ?_
  refine lv_istore_n (lv' := [(3, .int _), (2, .int _), (0, .ref (E.b + _)), (1, .int _)]) C.x C.b dX0_seenFrom_3 rfl hl (by decide) rfl (fun ls hl => ?_)
  exact kX0_seenFrom_L4 C hr hin FL 0 0 hf _ _ _ hW (lv_sub hl [2, 3, 1, 0] rfl)

theorem dX0_seenFromAll_0 : decode cX0_seenFromAll 0 = .ok (.iconst 0, 1) := by decide +kernel
theorem dX0_seenFromAll_1 : decode cX0_seenFromAll 1 = .ok (.istore_n 2, 1) := by decide +kernel
theorem dX0_seenFromAll_2 : decode cX0_seenFromAll 2 = .ok (.iconst 0, 1) := by decide +kernel
theorem dX0_seenFromAll_3 : decode cX0_seenFromAll 3 = .ok (.istore_n 3, 1) := by decide +kernel
theorem dX0_seenFromAll_4 : decode cX0_seenFromAll 4 = .ok (.iload_n 3, 1) := by decide +kernel
theorem dX0_seenFromAll_5 : decode cX0_seenFromAll 5 = .ok (.iconst 4, 1) := by decide +kernel
theorem dX0_seenFromAll_6 : decode cX0_seenFromAll 6 = .ok (.if_icmp .ge 30, 3) := by decide +kernel
theorem dX0_seenFromAll_9 : decode cX0_seenFromAll 9 = .ok (.iload_n 2, 1) := by decide +kernel
theorem dX0_seenFromAll_10 : decode cX0_seenFromAll 10 = .ok (.iload_n 1, 1) := by decide +kernel
theorem dX0_seenFromAll_11 : decode cX0_seenFromAll 11 = .ok (.iload_n 3, 1) := by decide +kernel
theorem dX0_seenFromAll_12 : decode cX0_seenFromAll 12 = .ok (.ishr, 1) := by decide +kernel
theorem dX0_seenFromAll_13 : decode cX0_seenFromAll 13 = .ok (.iconst 1, 1) := by decide +kernel
theorem dX0_seenFromAll_14 : decode cX0_seenFromAll 14 = .ok (.iand, 1) := by decide +kernel
theorem dX0_seenFromAll_15 : decode cX0_seenFromAll 15 = .ok (.iconst 1, 1) := by decide +kernel
theorem dX0_seenFromAll_16 : decode cX0_seenFromAll 16 = .ok (.if_icmp .ne 11, 3) := by decide +kernel
theorem dX0_seenFromAll_19 : decode cX0_seenFromAll 19 = .ok (.aload_n 0, 1) := by decide +kernel
theorem dX0_seenFromAll_20 : decode cX0_seenFromAll 20 = .ok (.iload_n 3, 1) := by decide +kernel
theorem dX0_seenFromAll_21 : decode cX0_seenFromAll 21 = .ok (.invokevirtual 97, 3) := by decide +kernel
theorem dX0_seenFromAll_24 : decode cX0_seenFromAll 24 = .ok (.goto 4, 3) := by decide +kernel
theorem dX0_seenFromAll_27 : decode cX0_seenFromAll 27 = .ok (.iconst 0, 1) := by decide +kernel
theorem dX0_seenFromAll_28 : decode cX0_seenFromAll 28 = .ok (.iadd, 1) := by decide +kernel
theorem dX0_seenFromAll_29 : decode cX0_seenFromAll 29 = .ok (.istore_n 2, 1) := by decide +kernel
theorem dX0_seenFromAll_30 : decode cX0_seenFromAll 30 = .ok (.iinc 3 1, 3) := by decide +kernel
theorem dX0_seenFromAll_33 : decode cX0_seenFromAll 33 = .ok (.goto (-29), 3) := by decide +kernel
theorem dX0_seenFromAll_36 : decode cX0_seenFromAll 36 = .ok (.iload_n 2, 1) := by decide +kernel
theorem dX0_seenFromAll_37 : decode cX0_seenFromAll 37 = .ok (.ireturn, 1) := by decide +kernel
theorem hd_X0_seenFrom : yX0_seenFrom.cls ≠ "java/lang/invoke/MethodHandle" ∧ yX0_seenFrom.cls ≠ "java/lang/invoke/VarHandle" ∧ (parseMethodDescriptor yX0_seenFrom.desc).map (fun d => d.parameters.length) = some 1 := by decide +kernel
theorem gv_X0_97 : GoodIn gT (wsV "NylonLadder$Drawer" 97 "NylonLadder$Drawer" yX0_seenFrom (Cond.code yX0_seenFrom cX0_seenFrom 5 (some .int) :: gT)) := good_V T_4_13 T_3_212 T_3_213 T_1_2 T_3_214
def fX0_seenFromAll_L4 (M : Mm) (o : Nat) (v1 : Int32) : Nat → Int32 → Int32 → Option Int32
  | 0, _, _ => none
  | n + 1, v2, v3 =>
    if 4 ≤ v3 then
      some v2
    else
      if ((v1 >>> (v3 &&& 31)) &&& 1) = 1 then
        B1 (gk M o 3) fun _ =>
        B1 (fX0_seenFrom M o v3) fun x21_2 =>
        fX0_seenFromAll_L4 M o v1 n (v2 + x21_2) (v3 + 1)
      else
        fX0_seenFromAll_L4 M o v1 n (v2 + 0) (v3 + 1)
def fX0_seenFromAll (M : Mm) (o : Nat) (p1 : Int32) : Option Int32 :=
  fX0_seenFromAll_L4 M o p1 FL 0 0
set_option maxRecDepth 100000 in
set_option maxHeartbeats 4000000 in
theorem kX0_seenFromAll_L4 {l : Launch} {E : Ev} {p : Program} {e : Env} {s : State} {m : MethodId} {args : Array Value} {below : List Frame} {meth : Method} {c : Code} (C : Cx E p s m args meth c cX0_seenFromAll yX0_seenFromAll.cls 4) (hr : meth.sig.returnType = (some .int)) (hin : yX0_seenFromAll.name = "<init>" → meth.name = "<init>") {M : Mm}  {o : Nat} {v1 : Int32} {rz : Int32} : ∀ (n : Nat) (v2 : Int32) (v3 : Int32), fX0_seenFromAll_L4 M o v1 n v2 v3 = some rz → ∀ (H : Heap) (locs : List Loc) (ls : Array Slot), Wx E s H locs M → lv_has ls 4 [(0, .ref (E.b + o)), (1, .int v1), (2, .int v2), (3, .int v3)] → W p l e (rM 4 88 0 0) s m args below meth c H locs 0 0 (MQ below (Qp E (some (.int rz)) M) args s 0 0 E.A) (F0 m 4 ls []) := by
  intro n
  induction n with
  | zero =>
    intro v2 v3 hf
    unfold fX0_seenFromAll_L4 at hf
    cases hf
  | succ n ih =>
    intro v2 v3 hf H locs ls hW hl
    unfold fX0_seenFromAll_L4 at hf
    refine lv_iload_n C.x C.b dX0_seenFromAll_4 rfl (lv_at hl 3 rfl) ?_
    refine lv_iconst (v := 4) C.x C.b dX0_seenFromAll_5 (by decide) ?_
    refine lv_icmp_ge (tgt := 36) C.x C.b dX0_seenFromAll_6 rfl (fun c6 => ?_) (fun c6 => ?_)
    · replace hf := x_ip c6 hf
      refine lv_iload_n C.x C.b dX0_seenFromAll_36 rfl (lv_at hl 2 rfl) ?_
      rw [x_e0 hf]
      exact x_iret C hr hW dX0_seenFromAll_37
    · replace hf := x_in c6 hf
      refine lv_iload_n C.x C.b dX0_seenFromAll_9 rfl (lv_at hl 2 rfl) ?_
      refine lv_iload_n C.x C.b dX0_seenFromAll_10 rfl (lv_at hl 1 rfl) ?_
      refine lv_iload_n C.x C.b dX0_seenFromAll_11 rfl (lv_at hl 3 rfl) ?_
      refine lv_ishr C.x C.b dX0_seenFromAll_12 ?_
      refine lv_iconst (v := 1) C.x C.b dX0_seenFromAll_13 (by decide) ?_
      refine lv_iand C.x C.b dX0_seenFromAll_14 ?_
      refine lv_iconst (v := 1) C.x C.b dX0_seenFromAll_15 (by decide) ?_
      refine lv_icmp_ne (tgt := 27) C.x C.b dX0_seenFromAll_16 rfl (fun c16 => ?_) (fun c16 => ?_)
      · replace hf := x_in c16 hf
        refine lv_iconst (v := 0) C.x C.b dX0_seenFromAll_27 (by decide) ?_
        refine lv_iadd C.x C.b dX0_seenFromAll_28 ?_
        refine lv_istore_n (lv' := [(2, .int _), (0, .ref (E.b + _)), (1, .int _), (3, .int _)]) C.x C.b dX0_seenFromAll_29 rfl hl (by decide) rfl (fun ls hl => ?_)
        refine lv_iinc (v := (v3 + 1)) (lv' := [(3, .int (v3 + 1)), (2, .int _), (0, .ref (E.b + _)), (1, .int _)]) C.x C.b dX0_seenFromAll_30 hl (k := 3) rfl (by first | rfl | decide) (by decide) rfl (fun ls hl => ?_)
        refine lv_goto (tgt := 4) C.x C.b dX0_seenFromAll_33 rfl ?_
        exact ih (v2 + 0) (v3 + 1) hf _ _ _ hW (lv_sub hl [2, 3, 1, 0] rfl)
      · replace hf := x_ip c16 hf
        refine lv_aload_n C.x C.b dX0_seenFromAll_19 rfl (lv_at hl 0 rfl) ?_
        refine lv_iload_n C.x C.b dX0_seenFromAll_20 rfl (lv_at hl 3 rfl) ?_
        replace hf := x_b1 hf; obtain ⟨_, hk21_1, hf⟩ := hf
        replace hf := x_b1 hf; obtain ⟨x21_2, hx21_2, hf⟩ := hf
        refine x_callV (As := [.int v3]) (a := o) (rest := [.int v2]) C hW hl (qX0_seenFrom l E hx21_2) (x_gk hk21_1) (by decide) (by decide) rfl gv_X0_97 ⟨rfl, hd_X0_seenFrom⟩ rfl rfl (Nat.le_of_ble_eq_true rfl) dX0_seenFromAll_21 ⟨Nat.le_of_ble_eq_true rfl, Nat.le_of_ble_eq_true rfl⟩ ⟨Nat.le_of_ble_eq_true rfl, Nat.le_of_ble_eq_true rfl⟩ (fun H locs hW => ?_)
        refine lv_goto (tgt := 28) C.x C.b dX0_seenFromAll_24 rfl ?_
        refine lv_iadd C.x C.b dX0_seenFromAll_28 ?_
        refine lv_istore_n (lv' := [(2, .int _), (0, .ref (E.b + _)), (1, .int _), (3, .int _)]) C.x C.b dX0_seenFromAll_29 rfl hl (by decide) rfl (fun ls hl => ?_)
        refine lv_iinc (v := (v3 + 1)) (lv' := [(3, .int (v3 + 1)), (2, .int _), (0, .ref (E.b + _)), (1, .int _)]) C.x C.b dX0_seenFromAll_30 hl (k := 3) rfl (by first | rfl | decide) (by decide) rfl (fun ls hl => ?_)
        refine lv_goto (tgt := 4) C.x C.b dX0_seenFromAll_33 rfl ?_
        exact ih (v2 + x21_2) (v3 + 1) hf _ _ _ hW (lv_sub hl [2, 3, 1, 0] rfl)
set_option maxRecDepth 100000 in
set_option maxHeartbeats 4000000 in
theorem qX0_seenFromAll (l : Launch) (E : Ev) {M : Mm} {o : Nat} {p1 : Int32} {rz : Int32} (hf : fX0_seenFromAll M o p1 = some rz) : Ct l E yX0_seenFromAll cX0_seenFromAll 4 (some .int) 4 88 0 0 [.ref (E.b + o), .int p1] M (some (.int rz)) M := by
  refine ct_of (by decide +kernel) (Nat.le_of_ble_eq_true rfl) fun p e s m args below meth c C hr hin hW ls hl => ?_
  have hl : lv_has ls 4 [(0, .ref (E.b + o)), (1, .int p1)] := hl
  unfold fX0_seenFromAll at hf
  refine lv_iconst (v := 0) C.x C.b dX0_seenFromAll_0 (by decide) ?_
  refine lv_istore_n (lv' := [(2, .int _), (0, .ref (E.b + _)), (1, .int _)]) C.x C.b dX0_seenFromAll_1 rfl hl (by decide) rfl (fun ls hl => ?_)
  refine lv_iconst (v := 0) C.x C.b dX0_seenFromAll_2 (by decide) ?_
  refine lv_istore_n (lv' := [(3, .int _), (2, .int _), (0, .ref (E.b + _)), (1, .int _)]) C.x C.b dX0_seenFromAll_3 rfl hl (by decide) rfl (fun ls hl => ?_)
  exact kX0_seenFromAll_L4 C hr hin FL 0 0 hf _ _ _ hW (lv_sub hl [2, 3, 1, 0] rfl)

theorem dX7_isLasting_0 : decode cX7_isLasting 0 = .ok (.aload_n 0, 1) := by decide +kernel
theorem dX7_isLasting_1 : decode cX7_isLasting 1 = .ok (.getfield 24, 3) := by decide +kernel
theorem dX7_isLasting_4 : decode cX7_isLasting 4 = .ok (.aload_n 0, 1) := by decide +kernel
theorem dX7_isLasting_5 : decode cX7_isLasting 5 = .ok (.getfield 21, 3) := by decide +kernel
theorem dX7_isLasting_8 : decode cX7_isLasting 8 = .ok (.if_icmp .ge 7, 3) := by decide +kernel
theorem dX7_isLasting_11 : decode cX7_isLasting 11 = .ok (.iconst 1, 1) := by decide +kernel
theorem dX7_isLasting_12 : decode cX7_isLasting 12 = .ok (.goto 4, 3) := by decide +kernel
theorem dX7_isLasting_15 : decode cX7_isLasting 15 = .ok (.iconst 0, 1) := by decide +kernel
theorem dX7_isLasting_16 : decode cX7_isLasting 16 = .ok (.ireturn, 1) := by decide +kernel
def fX7_isLasting (M : Mm) (o : Nat) : Option Int32 :=
  B1 (rdI M o 10 4) fun x1_1 =>
  B1 (rdI M o 10 3) fun x5_2 =>
  if x5_2 ≤ x1_1 then
    some 0
  else
    some 1
set_option maxRecDepth 100000 in
set_option maxHeartbeats 4000000 in
theorem qX7_isLasting (l : Launch) (E : Ev) {M : Mm} {o : Nat} {rz : Int32} (hf : fX7_isLasting M o = some rz) : Ct l E yX7_isLasting cX7_isLasting 1 (some .boolean) 0 0 0 0 [.ref (E.b + o)] M (some (.int rz)) M := by
  refine ct_of (by decide +kernel) (Nat.le_of_ble_eq_true rfl) fun p e s m args below meth c C hr hin hW ls hl => ?_
  have hl : lv_has ls 1 [(0, .ref (E.b + o))] := hl
  unfold fX7_isLasting at hf
  refine lv_aload_n C.x C.b dX7_isLasting_0 rfl (lv_at hl 0 rfl) ?_
  replace hf := x_b1 hf; obtain ⟨x1_1, hx1_1, hf⟩ := hf
  refine x_geti C hW fg_X7_24_10 hx1_1 dX7_isLasting_1 ?_
  refine lv_aload_n C.x C.b dX7_isLasting_4 rfl (lv_at hl 0 rfl) ?_
  replace hf := x_b1 hf; obtain ⟨x5_2, hx5_2, hf⟩ := hf
  refine x_geti C hW fg_X7_21_10 hx5_2 dX7_isLasting_5 ?_
  refine lv_icmp_ge (tgt := 15) C.x C.b dX7_isLasting_8 rfl (fun c8 => ?_) (fun c8 => ?_)
  · replace hf := x_ip c8 hf
    refine lv_iconst (v := 0) C.x C.b dX7_isLasting_15 (by decide) ?_
    rw [x_e0 hf]
    exact x_zret C hr hW (v := 0) (w := 0) rfl dX7_isLasting_16
  · replace hf := x_in c8 hf
    refine lv_iconst (v := 1) C.x C.b dX7_isLasting_11 (by decide) ?_
    refine lv_goto (tgt := 16) C.x C.b dX7_isLasting_12 rfl ?_
    rw [x_e0 hf]
    exact x_zret C hr hW (v := 1) (w := 1) rfl dX7_isLasting_16

theorem dX0_isGood_0 : decode cX0_isGood 0 = .ok (.aload_n 0, 1) := by decide +kernel
theorem dX0_isGood_1 : decode cX0_isGood 1 = .ok (.iload_n 1, 1) := by decide +kernel
theorem dX0_isGood_2 : decode cX0_isGood 2 = .ok (.invokevirtual 71, 3) := by decide +kernel
theorem dX0_isGood_5 : decode cX0_isGood 5 = .ok (.astore_n 2, 1) := by decide +kernel
theorem dX0_isGood_6 : decode cX0_isGood 6 = .ok (.aload_n 2, 1) := by decide +kernel
theorem dX0_isGood_7 : decode cX0_isGood 7 = .ok (.ifnull 25, 3) := by decide +kernel
theorem dX0_isGood_10 : decode cX0_isGood 10 = .ok (.aload_n 2, 1) := by decide +kernel
theorem dX0_isGood_11 : decode cX0_isGood 11 = .ok (.invokevirtual 100, 3) := by decide +kernel
theorem dX0_isGood_14 : decode cX0_isGood 14 = .ok (.ifCond .eq 18, 3) := by decide +kernel
theorem dX0_isGood_17 : decode cX0_isGood 17 = .ok (.aload_n 2, 1) := by decide +kernel
theorem dX0_isGood_18 : decode cX0_isGood 18 = .ok (.aload_n 0, 1) := by decide +kernel
theorem dX0_isGood_19 : decode cX0_isGood 19 = .ok (.getfield 9, 3) := by decide +kernel
theorem dX0_isGood_22 : decode cX0_isGood 22 = .ok (.invokevirtual 93, 3) := by decide +kernel
theorem dX0_isGood_25 : decode cX0_isGood 25 = .ok (.ifCond .ne 7, 3) := by decide +kernel
theorem dX0_isGood_28 : decode cX0_isGood 28 = .ok (.iconst 1, 1) := by decide +kernel
theorem dX0_isGood_29 : decode cX0_isGood 29 = .ok (.goto 4, 3) := by decide +kernel
theorem dX0_isGood_32 : decode cX0_isGood 32 = .ok (.iconst 0, 1) := by decide +kernel
theorem dX0_isGood_33 : decode cX0_isGood 33 = .ok (.ireturn, 1) := by decide +kernel
theorem hd_X7_isLasting : yX7_isLasting.cls ≠ "java/lang/invoke/MethodHandle" ∧ yX7_isLasting.cls ≠ "java/lang/invoke/VarHandle" ∧ (parseMethodDescriptor yX7_isLasting.desc).map (fun d => d.parameters.length) = some 0 := by decide +kernel
theorem gv_X0_100 : GoodIn gT (wsV "NylonLadder$Drawer" 100 "NylonLadder$Stocking" yX7_isLasting (Cond.code yX7_isLasting cX7_isLasting 1 (some .boolean) :: gT)) := good_V T_4_30 T_4_31 T_4_32 T_1_4 T_4_33
def fX0_isGood (M : Mm) (o : Nat) (p1 : Int32) : Option Int32 :=
  B1 (gk M o 3) fun _ =>
  B1 (fX0_stockingAt M o p1) fun x2_2 =>
  NL x2_2 (
    some 0) (fun a7_3 =>
    B1 (gk M a7_3 10) fun _ =>
    B1 (fX7_isLasting M a7_3) fun x11_5 =>
    if x11_5 = 0 then
      some 0
    else
      B1 (rdN M o 3 0) fun a19_6 =>
      B1 (gk M a7_3 10) fun _ =>
      B1 (fX7_openAboveShoe M a7_3 a19_6) fun x22_8 =>
      if x22_8 = 0 then
        some 1
      else
        some 0)
set_option maxRecDepth 100000 in
set_option maxHeartbeats 4000000 in
theorem qX0_isGood (l : Launch) (E : Ev) {M : Mm} {o : Nat} {p1 : Int32} {rz : Int32} (hf : fX0_isGood M o p1 = some rz) : Ct l E yX0_isGood cX0_isGood 3 (some .boolean) 2 43 0 0 [.ref (E.b + o), .int p1] M (some (.int rz)) M := by
  refine ct_of (by decide +kernel) (Nat.le_of_ble_eq_true rfl) fun p e s m args below meth c C hr hin hW ls hl => ?_
  have hl : lv_has ls 3 [(0, .ref (E.b + o)), (1, .int p1)] := hl
  unfold fX0_isGood at hf
  refine lv_aload_n C.x C.b dX0_isGood_0 rfl (lv_at hl 0 rfl) ?_
  refine lv_iload_n C.x C.b dX0_isGood_1 rfl (lv_at hl 1 rfl) ?_
  replace hf := x_b1 hf; obtain ⟨_, hk2_1, hf⟩ := hf
  replace hf := x_b1 hf; obtain ⟨x2_2, hx2_2, hf⟩ := hf
  refine x_callV (As := [.int p1]) (a := o) (rest := []) C hW hl (qX0_stockingAt l E hx2_2) (x_gk hk2_1) (by decide) (by decide) rfl gv_X0_71 ⟨rfl, hd_X0_stockingAt⟩ rfl rfl (Nat.le_of_ble_eq_true rfl) dX0_isGood_2 ⟨Nat.le_of_ble_eq_true rfl, Nat.le_of_ble_eq_true rfl⟩ ⟨Nat.le_of_ble_eq_true rfl, Nat.le_of_ble_eq_true rfl⟩ (fun H locs hW => ?_)
  refine x_astore_n (lv' := [(2, rv E.b _), (0, .ref (E.b + _)), (1, .int _)]) C dX0_isGood_5 rfl hl (by decide) rfl (fun ls hl => ?_)
  refine x_aload_n C dX0_isGood_6 rfl (lv_at hl 0 rfl) ?_
  replace hf := x_nl hf; rcases hf with ⟨rfl, hf⟩ | ⟨a7_3, rfl, hf⟩
  · refine lv_ifnullN (tgt := 32) C.x C.b dX0_isGood_7 rfl ?_
    refine lv_iconst (v := 0) C.x C.b dX0_isGood_32 (by decide) ?_
    rw [x_e0 hf]
    exact x_zret C hr hW (v := 0) (w := 0) rfl dX0_isGood_33
  · refine lv_ifnull C.x C.b dX0_isGood_7 ?_
    refine lv_aload_n C.x C.b dX0_isGood_10 rfl (lv_at hl 0 rfl) ?_
    replace hf := x_b1 hf; obtain ⟨_, hk11_4, hf⟩ := hf
    replace hf := x_b1 hf; obtain ⟨x11_5, hx11_5, hf⟩ := hf
    refine x_callV (As := []) (a := a7_3) (rest := []) C hW hl (qX7_isLasting l E hx11_5) (x_gk hk11_4) (by decide) (by decide) rfl gv_X0_100 ⟨rfl, hd_X7_isLasting⟩ rfl rfl (Nat.le_of_ble_eq_true rfl) dX0_isGood_11 ⟨Nat.le_of_ble_eq_true rfl, Nat.le_of_ble_eq_true rfl⟩ ⟨Nat.le_of_ble_eq_true rfl, Nat.le_of_ble_eq_true rfl⟩ (fun H locs hW => ?_)
    refine lv_if_eq (tgt := 32) C.x C.b dX0_isGood_14 rfl (fun c14 => ?_) (fun c14 => ?_)
    · replace hf := x_ip c14 hf
      refine lv_iconst (v := 0) C.x C.b dX0_isGood_32 (by decide) ?_
      rw [x_e0 hf]
      exact x_zret C hr hW (v := 0) (w := 0) rfl dX0_isGood_33
    · replace hf := x_in c14 hf
      refine lv_aload_n C.x C.b dX0_isGood_17 rfl (lv_at hl 0 rfl) ?_
      refine lv_aload_n C.x C.b dX0_isGood_18 rfl (lv_at hl 1 rfl) ?_
      replace hf := x_b1 hf; obtain ⟨a19_6, ha19_6, hf⟩ := hf
      refine x_getn C hW fg_X0_9_3 ha19_6 dX0_isGood_19 ?_
      replace hf := x_b1 hf; obtain ⟨_, hk22_7, hf⟩ := hf
      replace hf := x_b1 hf; obtain ⟨x22_8, hx22_8, hf⟩ := hf
      refine x_callV (As := [.ref (E.b + a19_6)]) (a := a7_3) (rest := []) C hW hl (qX7_openAboveShoe l E hx22_8) (x_gk hk22_7) (by decide) (by decide) rfl gv_X0_93 ⟨rfl, hd_X7_openAboveShoe⟩ rfl rfl (Nat.le_of_ble_eq_true rfl) dX0_isGood_22 ⟨Nat.le_of_ble_eq_true rfl, Nat.le_of_ble_eq_true rfl⟩ ⟨Nat.le_of_ble_eq_true rfl, Nat.le_of_ble_eq_true rfl⟩ (fun H locs hW => ?_)
      refine lv_if_ne (tgt := 32) C.x C.b dX0_isGood_25 rfl (fun c25 => ?_) (fun c25 => ?_)
      · replace hf := x_in c25 hf
        refine lv_iconst (v := 0) C.x C.b dX0_isGood_32 (by decide) ?_
        rw [x_e0 hf]
        exact x_zret C hr hW (v := 0) (w := 0) rfl dX0_isGood_33
      · replace hf := x_ip c25 hf
        refine lv_iconst (v := 1) C.x C.b dX0_isGood_28 (by decide) ?_
        refine lv_goto (tgt := 33) C.x C.b dX0_isGood_29 rfl ?_
        rw [x_e0 hf]
        exact x_zret C hr hW (v := 1) (w := 1) rfl dX0_isGood_33

theorem dX0_isPair_0 : decode cX0_isPair 0 = .ok (.iload_n 1, 1) := by decide +kernel
theorem dX0_isPair_1 : decode cX0_isPair 1 = .ok (.iload_n 2, 1) := by decide +kernel
theorem dX0_isPair_2 : decode cX0_isPair 2 = .ok (.if_icmp .eq 65, 3) := by decide +kernel
theorem dX0_isPair_5 : decode cX0_isPair 5 = .ok (.aload_n 0, 1) := by decide +kernel
theorem dX0_isPair_6 : decode cX0_isPair 6 = .ok (.iload_n 1, 1) := by decide +kernel
theorem dX0_isPair_7 : decode cX0_isPair 7 = .ok (.invokevirtual 104, 3) := by decide +kernel
theorem dX0_isPair_10 : decode cX0_isPair 10 = .ok (.ifCond .eq 57, 3) := by decide +kernel
theorem dX0_isPair_13 : decode cX0_isPair 13 = .ok (.aload_n 0, 1) := by decide +kernel
theorem dX0_isPair_14 : decode cX0_isPair 14 = .ok (.iload_n 2, 1) := by decide +kernel
theorem dX0_isPair_15 : decode cX0_isPair 15 = .ok (.invokevirtual 104, 3) := by decide +kernel
theorem dX0_isPair_18 : decode cX0_isPair 18 = .ok (.ifCond .eq 49, 3) := by decide +kernel
theorem dX0_isPair_21 : decode cX0_isPair 21 = .ok (.aload_n 0, 1) := by decide +kernel
theorem dX0_isPair_22 : decode cX0_isPair 22 = .ok (.getfield 17, 3) := by decide +kernel
theorem dX0_isPair_25 : decode cX0_isPair 25 = .ok (.iload_n 1, 1) := by decide +kernel
theorem dX0_isPair_26 : decode cX0_isPair 26 = .ok (.aaload, 1) := by decide +kernel
theorem dX0_isPair_27 : decode cX0_isPair 27 = .ok (.getfield 107, 3) := by decide +kernel
theorem dX0_isPair_30 : decode cX0_isPair 30 = .ok (.aload_n 0, 1) := by decide +kernel
theorem dX0_isPair_31 : decode cX0_isPair 31 = .ok (.getfield 17, 3) := by decide +kernel
theorem dX0_isPair_34 : decode cX0_isPair 34 = .ok (.iload_n 2, 1) := by decide +kernel
theorem dX0_isPair_35 : decode cX0_isPair 35 = .ok (.aaload, 1) := by decide +kernel
theorem dX0_isPair_36 : decode cX0_isPair 36 = .ok (.getfield 107, 3) := by decide +kernel
theorem dX0_isPair_39 : decode cX0_isPair 39 = .ok (.if_icmp .ne 28, 3) := by decide +kernel
theorem dX0_isPair_42 : decode cX0_isPair 42 = .ok (.aload_n 0, 1) := by decide +kernel
theorem dX0_isPair_43 : decode cX0_isPair 43 = .ok (.getfield 17, 3) := by decide +kernel
theorem dX0_isPair_46 : decode cX0_isPair 46 = .ok (.iload_n 1, 1) := by decide +kernel
theorem dX0_isPair_47 : decode cX0_isPair 47 = .ok (.aaload, 1) := by decide +kernel
theorem dX0_isPair_48 : decode cX0_isPair 48 = .ok (.getfield 110, 3) := by decide +kernel
theorem dX0_isPair_51 : decode cX0_isPair 51 = .ok (.aload_n 0, 1) := by decide +kernel
theorem dX0_isPair_52 : decode cX0_isPair 52 = .ok (.getfield 17, 3) := by decide +kernel
theorem dX0_isPair_55 : decode cX0_isPair 55 = .ok (.iload_n 2, 1) := by decide +kernel
theorem dX0_isPair_56 : decode cX0_isPair 56 = .ok (.aaload, 1) := by decide +kernel
theorem dX0_isPair_57 : decode cX0_isPair 57 = .ok (.getfield 110, 3) := by decide +kernel
theorem dX0_isPair_60 : decode cX0_isPair 60 = .ok (.if_icmp .ne 7, 3) := by decide +kernel
theorem dX0_isPair_63 : decode cX0_isPair 63 = .ok (.iconst 1, 1) := by decide +kernel
theorem dX0_isPair_64 : decode cX0_isPair 64 = .ok (.goto 4, 3) := by decide +kernel
theorem dX0_isPair_67 : decode cX0_isPair 67 = .ok (.iconst 0, 1) := by decide +kernel
theorem dX0_isPair_68 : decode cX0_isPair 68 = .ok (.ireturn, 1) := by decide +kernel
theorem hd_X0_isGood : yX0_isGood.cls ≠ "java/lang/invoke/MethodHandle" ∧ yX0_isGood.cls ≠ "java/lang/invoke/VarHandle" ∧ (parseMethodDescriptor yX0_isGood.desc).map (fun d => d.parameters.length) = some 1 := by decide +kernel
theorem gv_X0_104 : GoodIn gT (wsV "NylonLadder$Drawer" 104 "NylonLadder$Drawer" yX0_isGood (Cond.code yX0_isGood cX0_isGood 3 (some .boolean) :: gT)) := good_V T_4_42 T_4_27 T_4_28 T_1_2 T_4_29
theorem fg_X0_107_10 : FdG "NylonLadder$Drawer" 107 10 0 false := ⟨_, _, _, _, rfl, by decide, by decide, by decide, gxX7, by decide, T_1_77, Or.inl rfl, rfl⟩
theorem fg_X0_110_10 : FdG "NylonLadder$Drawer" 110 10 2 false := ⟨_, _, _, _, rfl, by decide, by decide, by decide, gxX7, by decide, T_1_82, Or.inl rfl, rfl⟩
def fX0_isPair (M : Mm) (o : Nat) (p1 : Int32) (p2 : Int32) : Option Int32 :=
  if p1 = p2 then
    some 0
  else
    B1 (gk M o 3) fun _ =>
    B1 (fX0_isGood M o p1) fun x7_2 =>
    if x7_2 = 0 then
      some 0
    else
      B1 (gk M o 3) fun _ =>
      B1 (fX0_isGood M o p2) fun x15_4 =>
      if x15_4 = 0 then
        some 0
      else
        B1 (rdN M o 3 1) fun a22_5 =>
        B1 (alN M a22_5 23 p1) fun a26_6 =>
        B1 (rdI M a26_6 10 0) fun x27_7 =>
        B1 (rdN M o 3 1) fun a31_8 =>
        B1 (alN M a31_8 23 p2) fun a35_9 =>
        B1 (rdI M a35_9 10 0) fun x36_10 =>
        if x27_7 = x36_10 then
          B1 (rdN M o 3 1) fun a43_11 =>
          B1 (alN M a43_11 23 p1) fun a47_12 =>
          B1 (rdI M a47_12 10 2) fun x48_13 =>
          B1 (rdN M o 3 1) fun a52_14 =>
          B1 (alN M a52_14 23 p2) fun a56_15 =>
          B1 (rdI M a56_15 10 2) fun x57_16 =>
          if x48_13 = x57_16 then
            some 1
          else
            some 0
        else
          some 0
set_option maxRecDepth 100000 in
set_option maxHeartbeats 4000000 in
theorem qX0_isPair (l : Launch) (E : Ev) {M : Mm} {o : Nat} {p1 : Int32} {p2 : Int32} {rz : Int32} (hf : fX0_isPair M o p1 p2 = some rz) : Ct l E yX0_isPair cX0_isPair 3 (some .boolean) 3 65 0 0 [.ref (E.b + o), .int p1, .int p2] M (some (.int rz)) M := by
  refine ct_of (by decide +kernel) (Nat.le_of_ble_eq_true rfl) fun p e s m args below meth c C hr hin hW ls hl => ?_
  have hl : lv_has ls 3 [(0, .ref (E.b + o)), (1, .int p1), (2, .int p2)] := hl
  unfold fX0_isPair at hf
  refine lv_iload_n C.x C.b dX0_isPair_0 rfl (lv_at hl 1 rfl) ?_
  refine lv_iload_n C.x C.b dX0_isPair_1 rfl (lv_at hl 2 rfl) ?_
  refine lv_icmp_eq (tgt := 67) C.x C.b dX0_isPair_2 rfl (fun c2 => ?_) (fun c2 => ?_)
  · replace hf := x_ip c2 hf
    refine lv_iconst (v := 0) C.x C.b dX0_isPair_67 (by decide) ?_
    rw [x_e0 hf]
    exact x_zret C hr hW (v := 0) (w := 0) rfl dX0_isPair_68
  · replace hf := x_in c2 hf
    refine lv_aload_n C.x C.b dX0_isPair_5 rfl (lv_at hl 0 rfl) ?_
    refine lv_iload_n C.x C.b dX0_isPair_6 rfl (lv_at hl 1 rfl) ?_
    replace hf := x_b1 hf; obtain ⟨_, hk7_1, hf⟩ := hf
    replace hf := x_b1 hf; obtain ⟨x7_2, hx7_2, hf⟩ := hf
    refine x_callV (As := [.int p1]) (a := o) (rest := []) C hW hl (qX0_isGood l E hx7_2) (x_gk hk7_1) (by decide) (by decide) rfl gv_X0_104 ⟨rfl, hd_X0_isGood⟩ rfl rfl (Nat.le_of_ble_eq_true rfl) dX0_isPair_7 ⟨Nat.le_of_ble_eq_true rfl, Nat.le_of_ble_eq_true rfl⟩ ⟨Nat.le_of_ble_eq_true rfl, Nat.le_of_ble_eq_true rfl⟩ (fun H locs hW => ?_)
    refine lv_if_eq (tgt := 67) C.x C.b dX0_isPair_10 rfl (fun c10 => ?_) (fun c10 => ?_)
    · replace hf := x_ip c10 hf
      refine lv_iconst (v := 0) C.x C.b dX0_isPair_67 (by decide) ?_
      rw [x_e0 hf]
      exact x_zret C hr hW (v := 0) (w := 0) rfl dX0_isPair_68
    · replace hf := x_in c10 hf
      refine lv_aload_n C.x C.b dX0_isPair_13 rfl (lv_at hl 0 rfl) ?_
      refine lv_iload_n C.x C.b dX0_isPair_14 rfl (lv_at hl 2 rfl) ?_
      replace hf := x_b1 hf; obtain ⟨_, hk15_3, hf⟩ := hf
      replace hf := x_b1 hf; obtain ⟨x15_4, hx15_4, hf⟩ := hf
      refine x_callV (As := [.int p2]) (a := o) (rest := []) C hW hl (qX0_isGood l E hx15_4) (x_gk hk15_3) (by decide) (by decide) rfl gv_X0_104 ⟨rfl, hd_X0_isGood⟩ rfl rfl (Nat.le_of_ble_eq_true rfl) dX0_isPair_15 ⟨Nat.le_of_ble_eq_true rfl, Nat.le_of_ble_eq_true rfl⟩ ⟨Nat.le_of_ble_eq_true rfl, Nat.le_of_ble_eq_true rfl⟩ (fun H locs hW => ?_)
      refine lv_if_eq (tgt := 67) C.x C.b dX0_isPair_18 rfl (fun c18 => ?_) (fun c18 => ?_)
      · replace hf := x_ip c18 hf
        refine lv_iconst (v := 0) C.x C.b dX0_isPair_67 (by decide) ?_
        rw [x_e0 hf]
        exact x_zret C hr hW (v := 0) (w := 0) rfl dX0_isPair_68
      · replace hf := x_in c18 hf
        refine lv_aload_n C.x C.b dX0_isPair_21 rfl (lv_at hl 0 rfl) ?_
        replace hf := x_b1 hf; obtain ⟨a22_5, ha22_5, hf⟩ := hf
        refine x_getn C hW fg_X0_17_3 ha22_5 dX0_isPair_22 ?_
        refine lv_iload_n C.x C.b dX0_isPair_25 rfl (lv_at hl 1 rfl) ?_
        replace hf := x_b1 hf; obtain ⟨a26_6, ha26_6, hf⟩ := hf
        refine x_aldn C hW (kd := 23) (by decide) (by decide) ha26_6 dX0_isPair_26 ?_
        replace hf := x_b1 hf; obtain ⟨x27_7, hx27_7, hf⟩ := hf
        refine x_geti C hW fg_X0_107_10 hx27_7 dX0_isPair_27 ?_
        refine lv_aload_n C.x C.b dX0_isPair_30 rfl (lv_at hl 0 rfl) ?_
        replace hf := x_b1 hf; obtain ⟨a31_8, ha31_8, hf⟩ := hf
        refine x_getn C hW fg_X0_17_3 ha31_8 dX0_isPair_31 ?_
        refine lv_iload_n C.x C.b dX0_isPair_34 rfl (lv_at hl 2 rfl) ?_
        replace hf := x_b1 hf; obtain ⟨a35_9, ha35_9, hf⟩ := hf
        refine x_aldn C hW (kd := 23) (by decide) (by decide) ha35_9 dX0_isPair_35 ?_
        replace hf := x_b1 hf; obtain ⟨x36_10, hx36_10, hf⟩ := hf
        refine x_geti C hW fg_X0_107_10 hx36_10 dX0_isPair_36 ?_
        refine lv_icmp_ne (tgt := 67) C.x C.b dX0_isPair_39 rfl (fun c39 => ?_) (fun c39 => ?_)
        · replace hf := x_in c39 hf
          refine lv_iconst (v := 0) C.x C.b dX0_isPair_67 (by decide) ?_
          rw [x_e0 hf]
          exact x_zret C hr hW (v := 0) (w := 0) rfl dX0_isPair_68
        · replace hf := x_ip c39 hf
          refine lv_aload_n C.x C.b dX0_isPair_42 rfl (lv_at hl 0 rfl) ?_
          replace hf := x_b1 hf; obtain ⟨a43_11, ha43_11, hf⟩ := hf
          refine x_getn C hW fg_X0_17_3 ha43_11 dX0_isPair_43 ?_
          refine lv_iload_n C.x C.b dX0_isPair_46 rfl (lv_at hl 1 rfl) ?_
          replace hf := x_b1 hf; obtain ⟨a47_12, ha47_12, hf⟩ := hf
          refine x_aldn C hW (kd := 23) (by decide) (by decide) ha47_12 dX0_isPair_47 ?_
          replace hf := x_b1 hf; obtain ⟨x48_13, hx48_13, hf⟩ := hf
          refine x_geti C hW fg_X0_110_10 hx48_13 dX0_isPair_48 ?_
          refine lv_aload_n C.x C.b dX0_isPair_51 rfl (lv_at hl 0 rfl) ?_
          replace hf := x_b1 hf; obtain ⟨a52_14, ha52_14, hf⟩ := hf
          refine x_getn C hW fg_X0_17_3 ha52_14 dX0_isPair_52 ?_
          refine lv_iload_n C.x C.b dX0_isPair_55 rfl (lv_at hl 2 rfl) ?_
          replace hf := x_b1 hf; obtain ⟨a56_15, ha56_15, hf⟩ := hf
          refine x_aldn C hW (kd := 23) (by decide) (by decide) ha56_15 dX0_isPair_56 ?_
          replace hf := x_b1 hf; obtain ⟨x57_16, hx57_16, hf⟩ := hf
          refine x_geti C hW fg_X0_110_10 hx57_16 dX0_isPair_57 ?_
          refine lv_icmp_ne (tgt := 67) C.x C.b dX0_isPair_60 rfl (fun c60 => ?_) (fun c60 => ?_)
          · replace hf := x_in c60 hf
            refine lv_iconst (v := 0) C.x C.b dX0_isPair_67 (by decide) ?_
            rw [x_e0 hf]
            exact x_zret C hr hW (v := 0) (w := 0) rfl dX0_isPair_68
          · replace hf := x_ip c60 hf
            refine lv_iconst (v := 1) C.x C.b dX0_isPair_63 (by decide) ?_
            refine lv_goto (tgt := 68) C.x C.b dX0_isPair_64 rfl ?_
            rw [x_e0 hf]
            exact x_zret C hr hW (v := 1) (w := 1) rfl dX0_isPair_68

theorem dX0_mateOf_0 : decode cX0_mateOf 0 = .ok (.iconst 0, 1) := by decide +kernel
theorem dX0_mateOf_1 : decode cX0_mateOf 1 = .ok (.istore_n 2, 1) := by decide +kernel
theorem dX0_mateOf_2 : decode cX0_mateOf 2 = .ok (.iload_n 2, 1) := by decide +kernel
theorem dX0_mateOf_3 : decode cX0_mateOf 3 = .ok (.aload_n 0, 1) := by decide +kernel
theorem dX0_mateOf_4 : decode cX0_mateOf 4 = .ok (.getfield 21, 3) := by decide +kernel
theorem dX0_mateOf_7 : decode cX0_mateOf 7 = .ok (.if_icmp .ge 20, 3) := by decide +kernel
theorem dX0_mateOf_10 : decode cX0_mateOf 10 = .ok (.aload_n 0, 1) := by decide +kernel
theorem dX0_mateOf_11 : decode cX0_mateOf 11 = .ok (.iload_n 1, 1) := by decide +kernel
theorem dX0_mateOf_12 : decode cX0_mateOf 12 = .ok (.iload_n 2, 1) := by decide +kernel
theorem dX0_mateOf_13 : decode cX0_mateOf 13 = .ok (.invokevirtual 113, 3) := by decide +kernel
theorem dX0_mateOf_16 : decode cX0_mateOf 16 = .ok (.ifCond .eq 5, 3) := by decide +kernel
theorem dX0_mateOf_19 : decode cX0_mateOf 19 = .ok (.iload_n 2, 1) := by decide +kernel
theorem dX0_mateOf_20 : decode cX0_mateOf 20 = .ok (.ireturn, 1) := by decide +kernel
theorem dX0_mateOf_21 : decode cX0_mateOf 21 = .ok (.iinc 2 1, 3) := by decide +kernel
theorem dX0_mateOf_24 : decode cX0_mateOf 24 = .ok (.goto (-22), 3) := by decide +kernel
theorem dX0_mateOf_27 : decode cX0_mateOf 27 = .ok (.iconst (-1), 1) := by decide +kernel
theorem dX0_mateOf_28 : decode cX0_mateOf 28 = .ok (.ireturn, 1) := by decide +kernel
theorem hd_X0_isPair : yX0_isPair.cls ≠ "java/lang/invoke/MethodHandle" ∧ yX0_isPair.cls ≠ "java/lang/invoke/VarHandle" ∧ (parseMethodDescriptor yX0_isPair.desc).map (fun d => d.parameters.length) = some 2 := by decide +kernel
theorem gv_X0_113 : GoodIn gT (wsV "NylonLadder$Drawer" 113 "NylonLadder$Drawer" yX0_isPair (Cond.code yX0_isPair cX0_isPair 3 (some .boolean) :: gT)) := good_V T_4_51 T_4_39 T_4_40 T_1_2 T_4_41
def fX0_mateOf_L2 (M : Mm) (o : Nat) (v1 : Int32) : Nat → Int32 → Option Int32
  | 0, _ => none
  | n + 1, v2 =>
    B1 (rdI M o 3 2) fun x4_1 =>
    if x4_1 ≤ v2 then
      some (-1)
    else
      B1 (gk M o 3) fun _ =>
      B1 (fX0_isPair M o v1 v2) fun x13_3 =>
      if x13_3 = 0 then
        fX0_mateOf_L2 M o v1 n (v2 + 1)
      else
        some v2
def fX0_mateOf (M : Mm) (o : Nat) (p1 : Int32) : Option Int32 :=
  fX0_mateOf_L2 M o p1 FL 0
set_option maxRecDepth 100000 in
set_option maxHeartbeats 4000000 in
theorem kX0_mateOf_L2 {l : Launch} {E : Ev} {p : Program} {e : Env} {s : State} {m : MethodId} {args : Array Value} {below : List Frame} {meth : Method} {c : Code} (C : Cx E p s m args meth c cX0_mateOf yX0_mateOf.cls 3) (hr : meth.sig.returnType = (some .int)) (hin : yX0_mateOf.name = "<init>" → meth.name = "<init>") {M : Mm}  {o : Nat} {v1 : Int32} {rz : Int32} : ∀ (n : Nat) (v2 : Int32), fX0_mateOf_L2 M o v1 n v2 = some rz → ∀ (H : Heap) (locs : List Loc) (ls : Array Slot), Wx E s H locs M → lv_has ls 3 [(0, .ref (E.b + o)), (1, .int v1), (2, .int v2)] → W p l e (rM 4 87 0 0) s m args below meth c H locs 0 0 (MQ below (Qp E (some (.int rz)) M) args s 0 0 E.A) (F0 m 2 ls []) := by
  intro n
  induction n with
  | zero =>
    intro v2 hf
    unfold fX0_mateOf_L2 at hf
    cases hf
  | succ n ih =>
    intro v2 hf H locs ls hW hl
    unfold fX0_mateOf_L2 at hf
    refine lv_iload_n C.x C.b dX0_mateOf_2 rfl (lv_at hl 2 rfl) ?_
    refine lv_aload_n C.x C.b dX0_mateOf_3 rfl (lv_at hl 0 rfl) ?_
    replace hf := x_b1 hf; obtain ⟨x4_1, hx4_1, hf⟩ := hf
    refine x_geti C hW fg_X0_21_3 hx4_1 dX0_mateOf_4 ?_
    refine lv_icmp_ge (tgt := 27) C.x C.b dX0_mateOf_7 rfl (fun c7 => ?_) (fun c7 => ?_)
    · replace hf := x_ip c7 hf
      refine lv_iconst (v := (-1)) C.x C.b dX0_mateOf_27 (by decide) ?_
      rw [x_e0 hf]
      exact x_iret C hr hW dX0_mateOf_28
    · replace hf := x_in c7 hf
      refine lv_aload_n C.x C.b dX0_mateOf_10 rfl (lv_at hl 0 rfl) ?_
      refine lv_iload_n C.x C.b dX0_mateOf_11 rfl (lv_at hl 1 rfl) ?_
      refine lv_iload_n C.x C.b dX0_mateOf_12 rfl (lv_at hl 2 rfl) ?_
      replace hf := x_b1 hf; obtain ⟨_, hk13_2, hf⟩ := hf
      replace hf := x_b1 hf; obtain ⟨x13_3, hx13_3, hf⟩ := hf
      refine x_callV (As := [.int v1, .int v2]) (a := o) (rest := []) C hW hl (qX0_isPair l E hx13_3) (x_gk hk13_2) (by decide) (by decide) rfl gv_X0_113 ⟨rfl, hd_X0_isPair⟩ rfl rfl (Nat.le_of_ble_eq_true rfl) dX0_mateOf_13 ⟨Nat.le_of_ble_eq_true rfl, Nat.le_of_ble_eq_true rfl⟩ ⟨Nat.le_of_ble_eq_true rfl, Nat.le_of_ble_eq_true rfl⟩ (fun H locs hW => ?_)
      refine lv_if_eq (tgt := 21) C.x C.b dX0_mateOf_16 rfl (fun c16 => ?_) (fun c16 => ?_)
      · replace hf := x_ip c16 hf
        refine lv_iinc (v := (v2 + 1)) (lv' := [(2, .int (v2 + 1)), (0, .ref (E.b + _)), (1, .int _)]) C.x C.b dX0_mateOf_21 hl (k := 2) rfl (by first | rfl | decide) (by decide) rfl (fun ls hl => ?_)
        refine lv_goto (tgt := 2) C.x C.b dX0_mateOf_24 rfl ?_
        exact ih (v2 + 1) hf _ _ _ hW (lv_sub hl [1, 2, 0] rfl)
      · replace hf := x_in c16 hf
        refine lv_iload_n C.x C.b dX0_mateOf_19 rfl (lv_at hl 2 rfl) ?_
        rw [x_e0 hf]
        exact x_iret C hr hW dX0_mateOf_20
set_option maxRecDepth 100000 in
set_option maxHeartbeats 4000000 in
theorem qX0_mateOf (l : Launch) (E : Ev) {M : Mm} {o : Nat} {p1 : Int32} {rz : Int32} (hf : fX0_mateOf M o p1 = some rz) : Ct l E yX0_mateOf cX0_mateOf 3 (some .int) 4 87 0 0 [.ref (E.b + o), .int p1] M (some (.int rz)) M := by
  refine ct_of (by decide +kernel) (Nat.le_of_ble_eq_true rfl) fun p e s m args below meth c C hr hin hW ls hl => ?_
  have hl : lv_has ls 3 [(0, .ref (E.b + o)), (1, .int p1)] := hl
  unfold fX0_mateOf at hf
  refine lv_iconst (v := 0) C.x C.b dX0_mateOf_0 (by decide) ?_
  refine lv_istore_n (lv' := [(2, .int _), (0, .ref (E.b + _)), (1, .int _)]) C.x C.b dX0_mateOf_1 rfl hl (by decide) rfl (fun ls hl => ?_)
  exact kX0_mateOf_L2 C hr hin FL 0 hf _ _ _ hW (lv_sub hl [1, 2, 0] rfl)
