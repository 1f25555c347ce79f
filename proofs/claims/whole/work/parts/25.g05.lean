theorem dX12_prove_0 : decode cX12_prove 0 = .ok (.iload_n 1, 1) := by decide +kernel
theorem dX12_prove_1 : decode cX12_prove 1 = .ok (.invokestatic 133, 3) := by decide +kernel
theorem dX12_prove_4 : decode cX12_prove 4 = .ok (.ifCond .eq 10, 3) := by decide +kernel
theorem dX12_prove_7 : decode cX12_prove 7 = .ok (.iload_n 2, 1) := by decide +kernel
theorem dX12_prove_8 : decode cX12_prove 8 = .ok (.invokestatic 133, 3) := by decide +kernel
theorem dX12_prove_11 : decode cX12_prove 11 = .ok (.ifCond .ne 5, 3) := by decide +kernel
theorem dX12_prove_14 : decode cX12_prove 14 = .ok (.iconst (-1), 1) := by decide +kernel
theorem dX12_prove_15 : decode cX12_prove 15 = .ok (.ireturn, 1) := by decide +kernel
theorem dX12_prove_16 : decode cX12_prove 16 = .ok (.aload_n 0, 1) := by decide +kernel
theorem dX12_prove_17 : decode cX12_prove 17 = .ok (.getfield 9, 3) := by decide +kernel
theorem dX12_prove_20 : decode cX12_prove 20 = .ok (.iconst 2, 1) := by decide +kernel
theorem dX12_prove_21 : decode cX12_prove 21 = .ok (.iload_n 1, 1) := by decide +kernel
theorem dX12_prove_22 : decode cX12_prove 22 = .ok (.iadd, 1) := by decide +kernel
theorem dX12_prove_23 : decode cX12_prove 23 = .ok (.iaload, 1) := by decide +kernel
theorem dX12_prove_24 : decode cX12_prove 24 = .ok (.ifCond .ge 6, 3) := by decide +kernel
theorem dX12_prove_27 : decode cX12_prove 27 = .ok (.bipush (-3), 2) := by decide +kernel
theorem dX12_prove_29 : decode cX12_prove 29 = .ok (.ireturn, 1) := by decide +kernel
theorem dX12_prove_30 : decode cX12_prove 30 = .ok (.aload_n 0, 1) := by decide +kernel
theorem dX12_prove_31 : decode cX12_prove 31 = .ok (.iload_n 1, 1) := by decide +kernel
theorem dX12_prove_32 : decode cX12_prove 32 = .ok (.iload_n 2, 1) := by decide +kernel
theorem dX12_prove_33 : decode cX12_prove 33 = .ok (.invokevirtual 394, 3) := by decide +kernel
theorem dX12_prove_36 : decode cX12_prove 36 = .ok (.aload_n 0, 1) := by decide +kernel
theorem dX12_prove_37 : decode cX12_prove 37 = .ok (.aload_n 0, 1) := by decide +kernel
theorem dX12_prove_38 : decode cX12_prove 38 = .ok (.getfield 9, 3) := by decide +kernel
theorem dX12_prove_41 : decode cX12_prove 41 = .ok (.bipush 12, 2) := by decide +kernel
theorem dX12_prove_43 : decode cX12_prove 43 = .ok (.iload_n 2, 1) := by decide +kernel
theorem dX12_prove_44 : decode cX12_prove 44 = .ok (.iadd, 1) := by decide +kernel
theorem dX12_prove_45 : decode cX12_prove 45 = .ok (.iaload, 1) := by decide +kernel
theorem dX12_prove_46 : decode cX12_prove 46 = .ok (.putfield 391, 3) := by decide +kernel
theorem dX12_prove_49 : decode cX12_prove 49 = .ok (.iconst 0, 1) := by decide +kernel
theorem dX12_prove_50 : decode cX12_prove 50 = .ok (.istore_n 3, 1) := by decide +kernel
theorem dX12_prove_51 : decode cX12_prove 51 = .ok (.iload_n 3, 1) := by decide +kernel
theorem dX12_prove_52 : decode cX12_prove 52 = .ok (.iconst 3, 1) := by decide +kernel
theorem dX12_prove_53 : decode cX12_prove 53 = .ok (.aload_n 0, 1) := by decide +kernel
theorem dX12_prove_54 : decode cX12_prove 54 = .ok (.getfield 391, 3) := by decide +kernel
theorem dX12_prove_57 : decode cX12_prove 57 = .ok (.imul, 1) := by decide +kernel
theorem dX12_prove_58 : decode cX12_prove 58 = .ok (.if_icmp .ge 21, 3) := by decide +kernel
theorem dX12_prove_61 : decode cX12_prove 61 = .ok (.aload_n 0, 1) := by decide +kernel
theorem dX12_prove_62 : decode cX12_prove 62 = .ok (.getfield 25, 3) := by decide +kernel
theorem dX12_prove_65 : decode cX12_prove 65 = .ok (.iload_n 3, 1) := by decide +kernel
theorem dX12_prove_66 : decode cX12_prove 66 = .ok (.aload_n 0, 1) := by decide +kernel
theorem dX12_prove_67 : decode cX12_prove 67 = .ok (.getfield 28, 3) := by decide +kernel
theorem dX12_prove_70 : decode cX12_prove 70 = .ok (.iload_n 3, 1) := by decide +kernel
theorem dX12_prove_71 : decode cX12_prove 71 = .ok (.iaload, 1) := by decide +kernel
theorem dX12_prove_72 : decode cX12_prove 72 = .ok (.iastore, 1) := by decide +kernel
theorem dX12_prove_73 : decode cX12_prove 73 = .ok (.iinc 3 1, 3) := by decide +kernel
theorem dX12_prove_76 : decode cX12_prove 76 = .ok (.goto (-25), 3) := by decide +kernel
theorem dX12_prove_79 : decode cX12_prove 79 = .ok (.aload_n 0, 1) := by decide +kernel
theorem dX12_prove_80 : decode cX12_prove 80 = .ok (.getfield 391, 3) := by decide +kernel
theorem dX12_prove_83 : decode cX12_prove 83 = .ok (.ireturn, 1) := by decide +kernel
theorem hd_X12_findDue : yX12_findDue.cls ≠ "java/lang/invoke/MethodHandle" ∧ yX12_findDue.cls ≠ "java/lang/invoke/VarHandle" ∧ (parseMethodDescriptor yX12_findDue.desc).map (fun d => d.parameters.length) = some 2 := by decide +kernel
theorem gv_X12_394 : GoodIn gT (wsV "NylonLadderModel" 394 "NylonLadderModel" yX12_findDue (Cond.code yX12_findDue cX12_findDue 5 none :: gT)) := good_V T_8_102 T_8_104 TS_88 T_1_10 T_8_105
theorem fg_X12_391_15 : FdG "NylonLadderModel" 391 15 11 false := ⟨_, _, _, _, rfl, by decide, by decide, by decide, gxX12, by decide, T_6_60, Or.inl rfl, rfl⟩
theorem fg_X12_25_15 : FdG "NylonLadderModel" 25 15 10 true := ⟨_, _, _, _, rfl, by decide, by decide, by decide, gxX12, by decide, T_6_59, Or.inl rfl, rfl⟩
def fX12_prove_L51 (o : Nat) : Nat → Int32 → Mm → Option (Int32 × Mm)
  | 0, _, _ => none
  | n + 1, v3, M =>
    B1 (rdI M o 15 11) fun x54_10 =>
    if (3 * x54_10) ≤ v3 then
      B1 (rdI M o 15 11) fun x80_11 =>
      some (x80_11, M)
    else
      B1 (rdN M o 15 10) fun a62_12 =>
      B1 (rdN M o 15 12) fun a67_13 =>
      B1 (alI M a67_13 v3) fun x71_14 =>
      B1 (asI M a62_12 v3 x71_14) fun M72_15 =>
      fX12_prove_L51 o n (v3 + 1) M72_15
def fX12_prove (M : Mm) (o : Nat) (p1 : Int32) (p2 : Int32) : Option (Int32 × Mm) :=
  B1 (fX12_isTwo M p1) fun x1_1 =>
  if x1_1 = 0 then
    some ((-1), M)
  else
    B1 (fX12_isTwo M p2) fun x8_2 =>
    if x8_2 = 0 then
      some ((-1), M)
    else
      B1 (rdN M o 15 0) fun a17_3 =>
      B1 (alI M a17_3 (2 + p1)) fun x23_4 =>
      if 0 ≤ x23_4 then
        B1 (gk M o 15) fun _ =>
        B1 (fX12_findDue M o p1 p2) fun M33_6 =>
        B1 (rdN M33_6 o 15 0) fun a38_7 =>
        B1 (alI M33_6 a38_7 (12 + p2)) fun x45_8 =>
        B1 (wrI M33_6 o 15 11 x45_8) fun M46_9 =>
        fX12_prove_L51 o FL 0 M46_9
      else
        some ((-3), M)
set_option maxRecDepth 100000 in
set_option maxHeartbeats 4000000 in
theorem kX12_prove_L51 {l : Launch} {E : Ev} {p : Program} {e : Env} {s : State} {m : MethodId} {args : Array Value} {below : List Frame} {meth : Method} {c : Code} (C : Cx E p s m args meth c cX12_prove yX12_prove.cls 4) (hr : meth.sig.returnType = (some .int)) (hin : yX12_prove.name = "<init>" → meth.name = "<init>")  {o : Nat} {rz : Int32} {Mz : Mm} : ∀ (n : Nat) (v3 : Int32) (M : Mm), fX12_prove_L51 o n v3 M = some (rz, Mz) → ∀ (H : Heap) (locs : List Loc) (ls : Array Slot), Wx E s H locs M → lv_has ls 4 [(0, .ref (E.b + o)), (3, .int v3)] → W p l e (rM 8 192 0 0) s m args below meth c H locs 0 0 (MQ below (Qp E (some (.int rz)) Mz) args s 0 0 E.A) (F0 m 51 ls []) := by
  intro n
  induction n with
  | zero =>
    intro v3 M hf
    unfold fX12_prove_L51 at hf
    cases hf
  | succ n ih =>
    intro v3 M hf H locs ls hW hl
    unfold fX12_prove_L51 at hf
    refine lv_iload_n C.x C.b dX12_prove_51 rfl (lv_at hl 1 rfl) ?_
    refine lv_iconst (v := 3) C.x C.b dX12_prove_52 (by decide) ?_
    refine lv_aload_n C.x C.b dX12_prove_53 rfl (lv_at hl 0 rfl) ?_
    replace hf := x_b1 hf; obtain ⟨x54_10, hx54_10, hf⟩ := hf
    refine x_geti C hW fg_X12_391_15 hx54_10 dX12_prove_54 ?_
    refine lv_imul C.x C.b dX12_prove_57 ?_
    refine lv_icmp_ge (tgt := 79) C.x C.b dX12_prove_58 rfl (fun c58 => ?_) (fun c58 => ?_)
    · replace hf := x_ip c58 hf
      refine lv_aload_n C.x C.b dX12_prove_79 rfl (lv_at hl 0 rfl) ?_
      replace hf := x_b1 hf; obtain ⟨x80_11, hx80_11, hf⟩ := hf
      refine x_geti C hW fg_X12_391_15 hx80_11 dX12_prove_80 ?_
      rw [x_e1 hf, x_e2 hf]
      exact x_iret C hr hW dX12_prove_83
    · replace hf := x_in c58 hf
      refine lv_aload_n C.x C.b dX12_prove_61 rfl (lv_at hl 0 rfl) ?_
      replace hf := x_b1 hf; obtain ⟨a62_12, ha62_12, hf⟩ := hf
      refine x_getn C hW fg_X12_25_15 ha62_12 dX12_prove_62 ?_
      refine lv_iload_n C.x C.b dX12_prove_65 rfl (lv_at hl 1 rfl) ?_
      refine lv_aload_n C.x C.b dX12_prove_66 rfl (lv_at hl 0 rfl) ?_
      replace hf := x_b1 hf; obtain ⟨a67_13, ha67_13, hf⟩ := hf
      refine x_getn C hW fg_X12_28_15 ha67_13 dX12_prove_67 ?_
      refine lv_iload_n C.x C.b dX12_prove_70 rfl (lv_at hl 1 rfl) ?_
      replace hf := x_b1 hf; obtain ⟨x71_14, hx71_14, hf⟩ := hf
      refine x_iald C hW hx71_14 dX12_prove_71 ?_
      replace hf := x_b1 hf; obtain ⟨M72_15, hM72_15, hf⟩ := hf
      refine x_iast C hW hM72_15 dX12_prove_72 (fun H locs hW => ?_)
      refine lv_iinc (v := (v3 + 1)) (lv' := [(3, .int (v3 + 1)), (0, .ref (E.b + _))]) C.x C.b dX12_prove_73 hl (k := 1) rfl (by first | rfl | decide) (by decide) rfl (fun ls hl => ?_)
      refine lv_goto (tgt := 51) C.x C.b dX12_prove_76 rfl ?_
      exact ih (v3 + 1) M72_15 hf _ _ _ hW (lv_sub hl [1, 0] rfl)
set_option maxRecDepth 100000 in
set_option maxHeartbeats 4000000 in
theorem qX12_prove (l : Launch) (E : Ev) {M : Mm} {o : Nat} {p1 : Int32} {p2 : Int32} {rz : Int32} {Mz : Mm} (hf : fX12_prove M o p1 p2 = some (rz, Mz)) : Ct l E yX12_prove cX12_prove 4 (some .int) 8 192 0 0 [.ref (E.b + o), .int p1, .int p2] M (some (.int rz)) Mz := by
  refine ct_of (by decide +kernel) (Nat.le_of_ble_eq_true rfl) fun p e s m args below meth c C hr hin hW ls hl => ?_
  have hl : lv_has ls 4 [(0, .ref (E.b + o)), (1, .int p1), (2, .int p2)] := hl
  unfold fX12_prove at hf
  refine lv_iload_n C.x C.b dX12_prove_0 rfl (lv_at hl 1 rfl) ?_
  replace hf := x_b1 hf; obtain ⟨x1_1, hx1_1, hf⟩ := hf
  refine x_callS (As := [.int p1]) (rest := []) C hW hl (qX12_isTwo l E hx1_1) gs_X12_133 hd_X12_isTwo rfl rfl (Nat.le_of_ble_eq_true rfl) dX12_prove_1 ⟨Nat.le_of_ble_eq_true rfl, Nat.le_of_ble_eq_true rfl⟩ ⟨Nat.le_of_ble_eq_true rfl, Nat.le_of_ble_eq_true rfl⟩ (fun H locs hW => ?_)
  refine lv_if_eq (tgt := 14) C.x C.b dX12_prove_4 rfl (fun c4 => ?_) (fun c4 => ?_)
  · replace hf := x_ip c4 hf
    refine lv_iconst (v := (-1)) C.x C.b dX12_prove_14 (by decide) ?_
    rw [x_e1 hf, x_e2 hf]
    exact x_iret C hr hW dX12_prove_15
  · replace hf := x_in c4 hf
    refine lv_iload_n C.x C.b dX12_prove_7 rfl (lv_at hl 2 rfl) ?_
    replace hf := x_b1 hf; obtain ⟨x8_2, hx8_2, hf⟩ := hf
    refine x_callS (As := [.int p2]) (rest := []) C hW hl (qX12_isTwo l E hx8_2) gs_X12_133 hd_X12_isTwo rfl rfl (Nat.le_of_ble_eq_true rfl) dX12_prove_8 ⟨Nat.le_of_ble_eq_true rfl, Nat.le_of_ble_eq_true rfl⟩ ⟨Nat.le_of_ble_eq_true rfl, Nat.le_of_ble_eq_true rfl⟩ (fun H locs hW => ?_)
    refine lv_if_ne (tgt := 16) C.x C.b dX12_prove_11 rfl (fun c11 => ?_) (fun c11 => ?_)
    · replace hf := x_in c11 hf
      refine lv_aload_n C.x C.b dX12_prove_16 rfl (lv_at hl 0 rfl) ?_
      replace hf := x_b1 hf; obtain ⟨a17_3, ha17_3, hf⟩ := hf
      refine x_getn C hW fg_X12_9_15 ha17_3 dX12_prove_17 ?_
      refine lv_iconst (v := 2) C.x C.b dX12_prove_20 (by decide) ?_
      refine lv_iload_n C.x C.b dX12_prove_21 rfl (lv_at hl 1 rfl) ?_
      refine lv_iadd C.x C.b dX12_prove_22 ?_
      replace hf := x_b1 hf; obtain ⟨x23_4, hx23_4, hf⟩ := hf
      refine x_iald C hW hx23_4 dX12_prove_23 ?_
      refine lv_if_ge (tgt := 30) C.x C.b dX12_prove_24 rfl (fun c24 => ?_) (fun c24 => ?_)
      · replace hf := x_ip c24 hf
        refine lv_aload_n C.x C.b dX12_prove_30 rfl (lv_at hl 0 rfl) ?_
        refine lv_iload_n C.x C.b dX12_prove_31 rfl (lv_at hl 1 rfl) ?_
        refine lv_iload_n C.x C.b dX12_prove_32 rfl (lv_at hl 2 rfl) ?_
        replace hf := x_b1 hf; obtain ⟨_, hk33_5, hf⟩ := hf
        replace hf := x_b1 hf; obtain ⟨M33_6, hM33_6, hf⟩ := hf
        refine x_callV (As := [.int p1, .int p2]) (a := o) (rest := []) C hW hl (qX12_findDue l E hM33_6) (x_gk hk33_5) (by decide) (by decide) rfl gv_X12_394 ⟨rfl, hd_X12_findDue⟩ rfl rfl (Nat.le_of_ble_eq_true rfl) dX12_prove_33 ⟨Nat.le_of_ble_eq_true rfl, Nat.le_of_ble_eq_true rfl⟩ ⟨Nat.le_of_ble_eq_true rfl, Nat.le_of_ble_eq_true rfl⟩ (fun H locs hW => ?_)
        refine lv_aload_n C.x C.b dX12_prove_36 rfl (lv_at hl 0 rfl) ?_
        refine lv_aload_n C.x C.b dX12_prove_37 rfl (lv_at hl 0 rfl) ?_
        replace hf := x_b1 hf; obtain ⟨a38_7, ha38_7, hf⟩ := hf
        refine x_getn C hW fg_X12_9_15 ha38_7 dX12_prove_38 ?_
        refine lv_bipush (v := 12) C.x C.b dX12_prove_41 (by decide) ?_
        refine lv_iload_n C.x C.b dX12_prove_43 rfl (lv_at hl 2 rfl) ?_
        refine lv_iadd C.x C.b dX12_prove_44 ?_
        replace hf := x_b1 hf; obtain ⟨x45_8, hx45_8, hf⟩ := hf
        refine x_iald C hW hx45_8 dX12_prove_45 ?_
        replace hf := x_b1 hf; obtain ⟨M46_9, hM46_9, hf⟩ := hf
        refine x_puti C hW fp_X12_391_15 hM46_9 (fun h => by cases h) dX12_prove_46 (fun H locs hW => ?_)
        refine lv_iconst (v := 0) C.x C.b dX12_prove_49 (by decide) ?_
        refine lv_istore_n (lv' := [(3, .int _), (0, .ref (E.b + _)), (1, .int _), (2, .int _)]) C.x C.b dX12_prove_50 rfl hl (by decide) rfl (fun ls hl => ?_)
        exact kX12_prove_L51 C hr hin FL 0 M46_9 hf _ _ _ hW (lv_sub hl [1, 0] rfl)
      · replace hf := x_in c24 hf
        refine lv_bipush (v := (-3)) C.x C.b dX12_prove_27 (by decide) ?_
        rw [x_e1 hf, x_e2 hf]
        exact x_iret C hr hW dX12_prove_29
    · replace hf := x_ip c11 hf
      refine lv_iconst (v := (-1)) C.x C.b dX12_prove_14 (by decide) ?_
      rw [x_e1 hf, x_e2 hf]
      exact x_iret C hr hW dX12_prove_15

theorem dX12_isCell_0 : decode cX12_isCell 0 = .ok (.iload_n 1, 1) := by decide +kernel
theorem dX12_isCell_1 : decode cX12_isCell 1 = .ok (.i2l, 1) := by decide +kernel
theorem dX12_isCell_2 : decode cX12_isCell 2 = .ok (.lconst 0, 1) := by decide +kernel
theorem dX12_isCell_3 : decode cX12_isCell 3 = .ok (.aload_n 0, 1) := by decide +kernel
theorem dX12_isCell_4 : decode cX12_isCell 4 = .ok (.getfield 391, 3) := by decide +kernel
theorem dX12_isCell_7 : decode cX12_isCell 7 = .ok (.iconst 1, 1) := by decide +kernel
theorem dX12_isCell_8 : decode cX12_isCell 8 = .ok (.isub, 1) := by decide +kernel
theorem dX12_isCell_9 : decode cX12_isCell 9 = .ok (.i2l, 1) := by decide +kernel
theorem dX12_isCell_10 : decode cX12_isCell 10 = .ok (.invokestatic 61, 3) := by decide +kernel
theorem dX12_isCell_13 : decode cX12_isCell 13 = .ok (.ifCond .eq 19, 3) := by decide +kernel
theorem dX12_isCell_16 : decode cX12_isCell 16 = .ok (.iload_n 2, 1) := by decide +kernel
theorem dX12_isCell_17 : decode cX12_isCell 17 = .ok (.i2l, 1) := by decide +kernel
theorem dX12_isCell_18 : decode cX12_isCell 18 = .ok (.lconst 0, 1) := by decide +kernel
theorem dX12_isCell_19 : decode cX12_isCell 19 = .ok (.ldc2_w 148, 3) := by decide +kernel
theorem dX12_isCell_22 : decode cX12_isCell 22 = .ok (.invokestatic 61, 3) := by decide +kernel
theorem dX12_isCell_25 : decode cX12_isCell 25 = .ok (.ifCond .eq 7, 3) := by decide +kernel
theorem dX12_isCell_28 : decode cX12_isCell 28 = .ok (.iconst 1, 1) := by decide +kernel
theorem dX12_isCell_29 : decode cX12_isCell 29 = .ok (.goto 4, 3) := by decide +kernel
theorem dX12_isCell_32 : decode cX12_isCell 32 = .ok (.iconst 0, 1) := by decide +kernel
theorem dX12_isCell_33 : decode cX12_isCell 33 = .ok (.ireturn, 1) := by decide +kernel
def fX12_isCell (M : Mm) (o : Nat) (p1 : Int32) (p2 : Int32) : Option Int32 :=
  B1 (rdI M o 15 11) fun x4_1 =>
  B1 (fX12_in M (p1.toInt64) 0 ((x4_1 - 1).toInt64)) fun x10_2 =>
  if x10_2 = 0 then
    some 0
  else
    B1 (fX12_in M (p2.toInt64) 0 2) fun x22_3 =>
    if x22_3 = 0 then
      some 0
    else
      some 1
set_option maxRecDepth 100000 in
set_option maxHeartbeats 4000000 in
theorem qX12_isCell (l : Launch) (E : Ev) {M : Mm} {o : Nat} {p1 : Int32} {p2 : Int32} {rz : Int32} (hf : fX12_isCell M o p1 p2 = some rz) : Ct l E yX12_isCell cX12_isCell 3 (some .boolean) 1 25 0 0 [.ref (E.b + o), .int p1, .int p2] M (some (.int rz)) M := by
  refine ct_of (by decide +kernel) (Nat.le_of_ble_eq_true rfl) fun p e s m args below meth c C hr hin hW ls hl => ?_
  have hl : lv_has ls 3 [(0, .ref (E.b + o)), (1, .int p1), (2, .int p2)] := hl
  unfold fX12_isCell at hf
  refine lv_iload_n C.x C.b dX12_isCell_0 rfl (lv_at hl 1 rfl) ?_
  refine lv_i2l (v := p1.toInt64) C.x C.b dX12_isCell_1 rfl ?_
  refine lv_lconst (v := 0) C.x C.b dX12_isCell_2 (by decide) ?_
  refine lv_aload_n C.x C.b dX12_isCell_3 rfl (lv_at hl 0 rfl) ?_
  replace hf := x_b1 hf; obtain ⟨x4_1, hx4_1, hf⟩ := hf
  refine x_geti C hW fg_X12_391_15 hx4_1 dX12_isCell_4 ?_
  refine lv_iconst (v := 1) C.x C.b dX12_isCell_7 (by decide) ?_
  refine lv_isub C.x C.b dX12_isCell_8 ?_
  refine lv_i2l (v := (x4_1 - 1).toInt64) C.x C.b dX12_isCell_9 rfl ?_
  replace hf := x_b1 hf; obtain ⟨x10_2, hx10_2, hf⟩ := hf
  refine x_callS (As := [.long (p1.toInt64), .long 0, .long ((x4_1 - 1).toInt64)]) (rest := []) C hW hl (qX12_in l E hx10_2) gs_X12_61 hd_X12_in rfl rfl (Nat.le_of_ble_eq_true rfl) dX12_isCell_10 ⟨Nat.le_of_ble_eq_true rfl, Nat.le_of_ble_eq_true rfl⟩ ⟨Nat.le_of_ble_eq_true rfl, Nat.le_of_ble_eq_true rfl⟩ (fun H locs hW => ?_)
  refine lv_if_eq (tgt := 32) C.x C.b dX12_isCell_13 rfl (fun c13 => ?_) (fun c13 => ?_)
  · replace hf := x_ip c13 hf
    refine lv_iconst (v := 0) C.x C.b dX12_isCell_32 (by decide) ?_
    rw [x_e0 hf]
    exact x_zret C hr hW (v := 0) (w := 0) rfl dX12_isCell_33
  · replace hf := x_in c13 hf
    refine lv_iload_n C.x C.b dX12_isCell_16 rfl (lv_at hl 2 rfl) ?_
    refine lv_i2l (v := p2.toInt64) C.x C.b dX12_isCell_17 rfl ?_
    refine lv_lconst (v := 0) C.x C.b dX12_isCell_18 (by decide) ?_
    refine x_ldc2 (v := 2) C T_7_19 dX12_isCell_19 ?_
    replace hf := x_b1 hf; obtain ⟨x22_3, hx22_3, hf⟩ := hf
    refine x_callS (As := [.long (p2.toInt64), .long 0, .long 2]) (rest := []) C hW hl (qX12_in l E hx22_3) gs_X12_61 hd_X12_in rfl rfl (Nat.le_of_ble_eq_true rfl) dX12_isCell_22 ⟨Nat.le_of_ble_eq_true rfl, Nat.le_of_ble_eq_true rfl⟩ ⟨Nat.le_of_ble_eq_true rfl, Nat.le_of_ble_eq_true rfl⟩ (fun H locs hW => ?_)
    refine lv_if_eq (tgt := 32) C.x C.b dX12_isCell_25 rfl (fun c25 => ?_) (fun c25 => ?_)
    · replace hf := x_ip c25 hf
      refine lv_iconst (v := 0) C.x C.b dX12_isCell_32 (by decide) ?_
      rw [x_e0 hf]
      exact x_zret C hr hW (v := 0) (w := 0) rfl dX12_isCell_33
    · replace hf := x_in c25 hf
      refine lv_iconst (v := 1) C.x C.b dX12_isCell_28 (by decide) ?_
      refine lv_goto (tgt := 33) C.x C.b dX12_isCell_29 rfl ?_
      rw [x_e0 hf]
      exact x_zret C hr hW (v := 1) (w := 1) rfl dX12_isCell_33

theorem dX12_row_0 : decode cX12_row 0 = .ok (.aload_n 0, 1) := by decide +kernel
theorem dX12_row_1 : decode cX12_row 1 = .ok (.iload_n 1, 1) := by decide +kernel
theorem dX12_row_2 : decode cX12_row 2 = .ok (.iload_n 2, 1) := by decide +kernel
theorem dX12_row_3 : decode cX12_row 3 = .ok (.invokevirtual 397, 3) := by decide +kernel
theorem dX12_row_6 : decode cX12_row 6 = .ok (.ifCond .eq 16, 3) := by decide +kernel
theorem dX12_row_9 : decode cX12_row 9 = .ok (.aload_n 0, 1) := by decide +kernel
theorem dX12_row_10 : decode cX12_row 10 = .ok (.getfield 25, 3) := by decide +kernel
theorem dX12_row_13 : decode cX12_row 13 = .ok (.iconst 3, 1) := by decide +kernel
theorem dX12_row_14 : decode cX12_row 14 = .ok (.iload_n 1, 1) := by decide +kernel
theorem dX12_row_15 : decode cX12_row 15 = .ok (.imul, 1) := by decide +kernel
theorem dX12_row_16 : decode cX12_row 16 = .ok (.iload_n 2, 1) := by decide +kernel
theorem dX12_row_17 : decode cX12_row 17 = .ok (.iadd, 1) := by decide +kernel
theorem dX12_row_18 : decode cX12_row 18 = .ok (.iaload, 1) := by decide +kernel
theorem dX12_row_19 : decode cX12_row 19 = .ok (.goto 5, 3) := by decide +kernel
theorem dX12_row_22 : decode cX12_row 22 = .ok (.bipush (-9), 2) := by decide +kernel
theorem dX12_row_24 : decode cX12_row 24 = .ok (.ireturn, 1) := by decide +kernel
theorem hd_X12_isCell : yX12_isCell.cls ≠ "java/lang/invoke/MethodHandle" ∧ yX12_isCell.cls ≠ "java/lang/invoke/VarHandle" ∧ (parseMethodDescriptor yX12_isCell.desc).map (fun d => d.parameters.length) = some 2 := by decide +kernel
theorem gv_X12_397 : GoodIn gT (wsV "NylonLadderModel" 397 "NylonLadderModel" yX12_isCell (Cond.code yX12_isCell cX12_isCell 3 (some .boolean) :: gT)) := good_V T_8_110 T_8_112 TS_89 T_1_10 T_8_113
def fX12_row (M : Mm) (o : Nat) (p1 : Int32) (p2 : Int32) : Option Int32 :=
  B1 (gk M o 15) fun _ =>
  B1 (fX12_isCell M o p1 p2) fun x3_2 =>
  if x3_2 = 0 then
    some (-9)
  else
    B1 (rdN M o 15 10) fun a10_3 =>
    B1 (alI M a10_3 ((3 * p1) + p2)) fun x18_4 =>
    some x18_4
set_option maxRecDepth 100000 in
set_option maxHeartbeats 4000000 in
theorem qX12_row (l : Launch) (E : Ev) {M : Mm} {o : Nat} {p1 : Int32} {p2 : Int32} {rz : Int32} (hf : fX12_row M o p1 p2 = some rz) : Ct l E yX12_row cX12_row 3 (some .int) 2 47 0 0 [.ref (E.b + o), .int p1, .int p2] M (some (.int rz)) M := by
  refine ct_of (by decide +kernel) (Nat.le_of_ble_eq_true rfl) fun p e s m args below meth c C hr hin hW ls hl => ?_
  have hl : lv_has ls 3 [(0, .ref (E.b + o)), (1, .int p1), (2, .int p2)] := hl
  unfold fX12_row at hf
  refine lv_aload_n C.x C.b dX12_row_0 rfl (lv_at hl 0 rfl) ?_
  refine lv_iload_n C.x C.b dX12_row_1 rfl (lv_at hl 1 rfl) ?_
  refine lv_iload_n C.x C.b dX12_row_2 rfl (lv_at hl 2 rfl) ?_
  replace hf := x_b1 hf; obtain ⟨_, hk3_1, hf⟩ := hf
  replace hf := x_b1 hf; obtain ⟨x3_2, hx3_2, hf⟩ := hf
  refine x_callV (As := [.int p1, .int p2]) (a := o) (rest := []) C hW hl (qX12_isCell l E hx3_2) (x_gk hk3_1) (by decide) (by decide) rfl gv_X12_397 ⟨rfl, hd_X12_isCell⟩ rfl rfl (Nat.le_of_ble_eq_true rfl) dX12_row_3 ⟨Nat.le_of_ble_eq_true rfl, Nat.le_of_ble_eq_true rfl⟩ ⟨Nat.le_of_ble_eq_true rfl, Nat.le_of_ble_eq_true rfl⟩ (fun H locs hW => ?_)
  refine lv_if_eq (tgt := 22) C.x C.b dX12_row_6 rfl (fun c6 => ?_) (fun c6 => ?_)
  · replace hf := x_ip c6 hf
    refine lv_bipush (v := (-9)) C.x C.b dX12_row_22 (by decide) ?_
    rw [x_e0 hf]
    exact x_iret C hr hW dX12_row_24
  · replace hf := x_in c6 hf
    refine lv_aload_n C.x C.b dX12_row_9 rfl (lv_at hl 0 rfl) ?_
    replace hf := x_b1 hf; obtain ⟨a10_3, ha10_3, hf⟩ := hf
    refine x_getn C hW fg_X12_25_15 ha10_3 dX12_row_10 ?_
    refine lv_iconst (v := 3) C.x C.b dX12_row_13 (by decide) ?_
    refine lv_iload_n C.x C.b dX12_row_14 rfl (lv_at hl 1 rfl) ?_
    refine lv_imul C.x C.b dX12_row_15 ?_
    refine lv_iload_n C.x C.b dX12_row_16 rfl (lv_at hl 2 rfl) ?_
    refine lv_iadd C.x C.b dX12_row_17 ?_
    replace hf := x_b1 hf; obtain ⟨x18_4, hx18_4, hf⟩ := hf
    refine x_iald C hW hx18_4 dX12_row_18 ?_
    refine lv_goto (tgt := 24) C.x C.b dX12_row_19 rfl ?_
    rw [x_e0 hf]
    exact x_iret C hr hW dX12_row_24

theorem dX12_alterRow_0 : decode cX12_alterRow 0 = .ok (.aload_n 0, 1) := by decide +kernel
theorem dX12_alterRow_1 : decode cX12_alterRow 1 = .ok (.iload_n 1, 1) := by decide +kernel
theorem dX12_alterRow_2 : decode cX12_alterRow 2 = .ok (.iload_n 2, 1) := by decide +kernel
theorem dX12_alterRow_3 : decode cX12_alterRow 3 = .ok (.invokevirtual 397, 3) := by decide +kernel
theorem dX12_alterRow_6 : decode cX12_alterRow 6 = .ok (.ifCond .ne 6, 3) := by decide +kernel
theorem dX12_alterRow_9 : decode cX12_alterRow 9 = .ok (.bipush (-9), 2) := by decide +kernel
theorem dX12_alterRow_11 : decode cX12_alterRow 11 = .ok (.ireturn, 1) := by decide +kernel
theorem dX12_alterRow_12 : decode cX12_alterRow 12 = .ok (.aload_n 0, 1) := by decide +kernel
theorem dX12_alterRow_13 : decode cX12_alterRow 13 = .ok (.getfield 25, 3) := by decide +kernel
theorem dX12_alterRow_16 : decode cX12_alterRow 16 = .ok (.iconst 3, 1) := by decide +kernel
theorem dX12_alterRow_17 : decode cX12_alterRow 17 = .ok (.iload_n 1, 1) := by decide +kernel
theorem dX12_alterRow_18 : decode cX12_alterRow 18 = .ok (.imul, 1) := by decide +kernel
theorem dX12_alterRow_19 : decode cX12_alterRow 19 = .ok (.iload_n 2, 1) := by decide +kernel
theorem dX12_alterRow_20 : decode cX12_alterRow 20 = .ok (.iadd, 1) := by decide +kernel
theorem dX12_alterRow_21 : decode cX12_alterRow 21 = .ok (.iaload, 1) := by decide +kernel
theorem dX12_alterRow_22 : decode cX12_alterRow 22 = .ok (.istore 4, 2) := by decide +kernel
theorem dX12_alterRow_24 : decode cX12_alterRow 24 = .ok (.aload_n 0, 1) := by decide +kernel
theorem dX12_alterRow_25 : decode cX12_alterRow 25 = .ok (.getfield 25, 3) := by decide +kernel
theorem dX12_alterRow_28 : decode cX12_alterRow 28 = .ok (.iconst 3, 1) := by decide +kernel
theorem dX12_alterRow_29 : decode cX12_alterRow 29 = .ok (.iload_n 1, 1) := by decide +kernel
theorem dX12_alterRow_30 : decode cX12_alterRow 30 = .ok (.imul, 1) := by decide +kernel
theorem dX12_alterRow_31 : decode cX12_alterRow 31 = .ok (.iload_n 2, 1) := by decide +kernel
theorem dX12_alterRow_32 : decode cX12_alterRow 32 = .ok (.iadd, 1) := by decide +kernel
theorem dX12_alterRow_33 : decode cX12_alterRow 33 = .ok (.iload_n 3, 1) := by decide +kernel
theorem dX12_alterRow_34 : decode cX12_alterRow 34 = .ok (.iastore, 1) := by decide +kernel
theorem dX12_alterRow_35 : decode cX12_alterRow 35 = .ok (.iload 4, 2) := by decide +kernel
theorem dX12_alterRow_37 : decode cX12_alterRow 37 = .ok (.ireturn, 1) := by decide +kernel
def fX12_alterRow (M : Mm) (o : Nat) (p1 : Int32) (p2 : Int32) (p3 : Int32) : Option (Int32 × Mm) :=
  B1 (gk M o 15) fun _ =>
  B1 (fX12_isCell M o p1 p2) fun x3_2 =>
  if x3_2 = 0 then
    some ((-9), M)
  else
    B1 (rdN M o 15 10) fun a13_3 =>
    B1 (alI M a13_3 ((3 * p1) + p2)) fun x21_4 =>
    B1 (rdN M o 15 10) fun a25_5 =>
    B1 (asI M a25_5 ((3 * p1) + p2) p3) fun M34_6 =>
    some (x21_4, M34_6)
set_option maxRecDepth 100000 in
set_option maxHeartbeats 4000000 in
theorem qX12_alterRow (l : Launch) (E : Ev) {M : Mm} {o : Nat} {p1 : Int32} {p2 : Int32} {p3 : Int32} {rz : Int32} {Mz : Mm} (hf : fX12_alterRow M o p1 p2 p3 = some (rz, Mz)) : Ct l E yX12_alterRow cX12_alterRow 5 (some .int) 2 47 0 0 [.ref (E.b + o), .int p1, .int p2, .int p3] M (some (.int rz)) Mz := by
  refine ct_of (by decide +kernel) (Nat.le_of_ble_eq_true rfl) fun p e s m args below meth c C hr hin hW ls hl => ?_
  have hl : lv_has ls 5 [(0, .ref (E.b + o)), (1, .int p1), (2, .int p2), (3, .int p3)] := hl
  unfold fX12_alterRow at hf
  refine lv_aload_n C.x C.b dX12_alterRow_0 rfl (lv_at hl 0 rfl) ?_
  refine lv_iload_n C.x C.b dX12_alterRow_1 rfl (lv_at hl 1 rfl) ?_
  refine lv_iload_n C.x C.b dX12_alterRow_2 rfl (lv_at hl 2 rfl) ?_
  replace hf := x_b1 hf; obtain ⟨_, hk3_1, hf⟩ := hf
  replace hf := x_b1 hf; obtain ⟨x3_2, hx3_2, hf⟩ := hf
  refine x_callV (As := [.int p1, .int p2]) (a := o) (rest := []) C hW hl (qX12_isCell l E hx3_2) (x_gk hk3_1) (by decide) (by decide) rfl gv_X12_397 ⟨rfl, hd_X12_isCell⟩ rfl rfl (Nat.le_of_ble_eq_true rfl) dX12_alterRow_3 ⟨Nat.le_of_ble_eq_true rfl, Nat.le_of_ble_eq_true rfl⟩ ⟨Nat.le_of_ble_eq_true rfl, Nat.le_of_ble_eq_true rfl⟩ (fun H locs hW => ?_)
  refine lv_if_ne (tgt := 12) C.x C.b dX12_alterRow_6 rfl (fun c6 => ?_) (fun c6 => ?_)
  · replace hf := x_in c6 hf
    refine lv_aload_n C.x C.b dX12_alterRow_12 rfl (lv_at hl 0 rfl) ?_
    replace hf := x_b1 hf; obtain ⟨a13_3, ha13_3, hf⟩ := hf
    refine x_getn C hW fg_X12_25_15 ha13_3 dX12_alterRow_13 ?_
    refine lv_iconst (v := 3) C.x C.b dX12_alterRow_16 (by decide) ?_
    refine lv_iload_n C.x C.b dX12_alterRow_17 rfl (lv_at hl 1 rfl) ?_
    refine lv_imul C.x C.b dX12_alterRow_18 ?_
    refine lv_iload_n C.x C.b dX12_alterRow_19 rfl (lv_at hl 2 rfl) ?_
    refine lv_iadd C.x C.b dX12_alterRow_20 ?_
    replace hf := x_b1 hf; obtain ⟨x21_4, hx21_4, hf⟩ := hf
    refine x_iald C hW hx21_4 dX12_alterRow_21 ?_
    refine lv_istore (lv' := [(4, .int _), (0, .ref (E.b + _)), (1, .int _), (2, .int _), (3, .int _)]) C.x C.b dX12_alterRow_22 hl (by decide) rfl (fun ls hl => ?_)
    refine lv_aload_n C.x C.b dX12_alterRow_24 rfl (lv_at hl 1 rfl) ?_
    replace hf := x_b1 hf; obtain ⟨a25_5, ha25_5, hf⟩ := hf
    refine x_getn C hW fg_X12_25_15 ha25_5 dX12_alterRow_25 ?_
    refine lv_iconst (v := 3) C.x C.b dX12_alterRow_28 (by decide) ?_
    refine lv_iload_n C.x C.b dX12_alterRow_29 rfl (lv_at hl 2 rfl) ?_
    refine lv_imul C.x C.b dX12_alterRow_30 ?_
    refine lv_iload_n C.x C.b dX12_alterRow_31 rfl (lv_at hl 3 rfl) ?_
    refine lv_iadd C.x C.b dX12_alterRow_32 ?_
    refine lv_iload_n C.x C.b dX12_alterRow_33 rfl (lv_at hl 4 rfl) ?_
    replace hf := x_b1 hf; obtain ⟨M34_6, hM34_6, hf⟩ := hf
    refine x_iast C hW hM34_6 dX12_alterRow_34 (fun H locs hW => ?_)
    refine lv_iload C.x C.b dX12_alterRow_35 (lv_at hl 0 rfl) ?_
    rw [x_e1 hf, x_e2 hf]
    exact x_iret C hr hW dX12_alterRow_37
  · replace hf := x_ip c6 hf
    refine lv_bipush (v := (-9)) C.x C.b dX12_alterRow_9 (by decide) ?_
    rw [x_e1 hf, x_e2 hf]
    exact x_iret C hr hW dX12_alterRow_11

theorem dX12_judge_0 : decode cX12_judge 0 = .ok (.iload_n 1, 1) := by decide +kernel
theorem dX12_judge_1 : decode cX12_judge 1 = .ok (.invokestatic 133, 3) := by decide +kernel
theorem dX12_judge_4 : decode cX12_judge 4 = .ok (.ifCond .eq 10, 3) := by decide +kernel
theorem dX12_judge_7 : decode cX12_judge 7 = .ok (.iload_n 2, 1) := by decide +kernel
theorem dX12_judge_8 : decode cX12_judge 8 = .ok (.invokestatic 133, 3) := by decide +kernel
theorem dX12_judge_11 : decode cX12_judge 11 = .ok (.ifCond .ne 5, 3) := by decide +kernel
theorem dX12_judge_14 : decode cX12_judge 14 = .ok (.iconst (-1), 1) := by decide +kernel
theorem dX12_judge_15 : decode cX12_judge 15 = .ok (.ireturn, 1) := by decide +kernel
theorem dX12_judge_16 : decode cX12_judge 16 = .ok (.aload_n 0, 1) := by decide +kernel
theorem dX12_judge_17 : decode cX12_judge 17 = .ok (.getfield 9, 3) := by decide +kernel
theorem dX12_judge_20 : decode cX12_judge 20 = .ok (.iconst 2, 1) := by decide +kernel
theorem dX12_judge_21 : decode cX12_judge 21 = .ok (.iload_n 1, 1) := by decide +kernel
theorem dX12_judge_22 : decode cX12_judge 22 = .ok (.iadd, 1) := by decide +kernel
theorem dX12_judge_23 : decode cX12_judge 23 = .ok (.iaload, 1) := by decide +kernel
theorem dX12_judge_24 : decode cX12_judge 24 = .ok (.ifCond .ge 6, 3) := by decide +kernel
theorem dX12_judge_27 : decode cX12_judge 27 = .ok (.bipush (-3), 2) := by decide +kernel
theorem dX12_judge_29 : decode cX12_judge 29 = .ok (.ireturn, 1) := by decide +kernel
theorem dX12_judge_30 : decode cX12_judge 30 = .ok (.aload_n 0, 1) := by decide +kernel
theorem dX12_judge_31 : decode cX12_judge 31 = .ok (.iload_n 1, 1) := by decide +kernel
theorem dX12_judge_32 : decode cX12_judge 32 = .ok (.iload_n 2, 1) := by decide +kernel
theorem dX12_judge_33 : decode cX12_judge 33 = .ok (.invokevirtual 394, 3) := by decide +kernel
theorem dX12_judge_36 : decode cX12_judge 36 = .ok (.iconst 0, 1) := by decide +kernel
theorem dX12_judge_37 : decode cX12_judge 37 = .ok (.istore_n 3, 1) := by decide +kernel
theorem dX12_judge_38 : decode cX12_judge 38 = .ok (.iload_n 3, 1) := by decide +kernel
theorem dX12_judge_39 : decode cX12_judge 39 = .ok (.aload_n 0, 1) := by decide +kernel
theorem dX12_judge_40 : decode cX12_judge 40 = .ok (.getfield 391, 3) := by decide +kernel
theorem dX12_judge_43 : decode cX12_judge 43 = .ok (.if_icmp .ge 88, 3) := by decide +kernel
theorem dX12_judge_46 : decode cX12_judge 46 = .ok (.iload_n 3, 1) := by decide +kernel
theorem dX12_judge_47 : decode cX12_judge 47 = .ok (.aload_n 0, 1) := by decide +kernel
theorem dX12_judge_48 : decode cX12_judge 48 = .ok (.getfield 9, 3) := by decide +kernel
theorem dX12_judge_51 : decode cX12_judge 51 = .ok (.bipush 12, 2) := by decide +kernel
theorem dX12_judge_53 : decode cX12_judge 53 = .ok (.iload_n 2, 1) := by decide +kernel
theorem dX12_judge_54 : decode cX12_judge 54 = .ok (.iadd, 1) := by decide +kernel
theorem dX12_judge_55 : decode cX12_judge 55 = .ok (.iaload, 1) := by decide +kernel
theorem dX12_judge_56 : decode cX12_judge 56 = .ok (.if_icmp .ge 7, 3) := by decide +kernel
theorem dX12_judge_59 : decode cX12_judge 59 = .ok (.iconst 1, 1) := by decide +kernel
theorem dX12_judge_60 : decode cX12_judge 60 = .ok (.goto 4, 3) := by decide +kernel
theorem dX12_judge_63 : decode cX12_judge 63 = .ok (.iconst 0, 1) := by decide +kernel
theorem dX12_judge_64 : decode cX12_judge 64 = .ok (.istore 4, 2) := by decide +kernel
theorem dX12_judge_66 : decode cX12_judge 66 = .ok (.iconst 3, 1) := by decide +kernel
theorem dX12_judge_67 : decode cX12_judge 67 = .ok (.iload_n 3, 1) := by decide +kernel
theorem dX12_judge_68 : decode cX12_judge 68 = .ok (.imul, 1) := by decide +kernel
theorem dX12_judge_69 : decode cX12_judge 69 = .ok (.istore 5, 2) := by decide +kernel
theorem dX12_judge_71 : decode cX12_judge 71 = .ok (.iload 5, 2) := by decide +kernel
theorem dX12_judge_73 : decode cX12_judge 73 = .ok (.iconst 3, 1) := by decide +kernel
theorem dX12_judge_74 : decode cX12_judge 74 = .ok (.iload_n 3, 1) := by decide +kernel
theorem dX12_judge_75 : decode cX12_judge 75 = .ok (.imul, 1) := by decide +kernel
theorem dX12_judge_76 : decode cX12_judge 76 = .ok (.iconst 3, 1) := by decide +kernel
theorem dX12_judge_77 : decode cX12_judge 77 = .ok (.iadd, 1) := by decide +kernel
theorem dX12_judge_78 : decode cX12_judge 78 = .ok (.if_icmp .ge 38, 3) := by decide +kernel
theorem dX12_judge_81 : decode cX12_judge 81 = .ok (.iload 4, 2) := by decide +kernel
theorem dX12_judge_83 : decode cX12_judge 83 = .ok (.ifCond .eq 24, 3) := by decide +kernel
theorem dX12_judge_86 : decode cX12_judge 86 = .ok (.aload_n 0, 1) := by decide +kernel
theorem dX12_judge_87 : decode cX12_judge 87 = .ok (.getfield 25, 3) := by decide +kernel
theorem dX12_judge_90 : decode cX12_judge 90 = .ok (.iload 5, 2) := by decide +kernel
theorem dX12_judge_92 : decode cX12_judge 92 = .ok (.iaload, 1) := by decide +kernel
theorem dX12_judge_93 : decode cX12_judge 93 = .ok (.aload_n 0, 1) := by decide +kernel
theorem dX12_judge_94 : decode cX12_judge 94 = .ok (.getfield 28, 3) := by decide +kernel
theorem dX12_judge_97 : decode cX12_judge 97 = .ok (.iload 5, 2) := by decide +kernel
theorem dX12_judge_99 : decode cX12_judge 99 = .ok (.iaload, 1) := by decide +kernel
theorem dX12_judge_100 : decode cX12_judge 100 = .ok (.if_icmp .ne 7, 3) := by decide +kernel
theorem dX12_judge_103 : decode cX12_judge 103 = .ok (.iconst 1, 1) := by decide +kernel
theorem dX12_judge_104 : decode cX12_judge 104 = .ok (.goto 4, 3) := by decide +kernel
theorem dX12_judge_107 : decode cX12_judge 107 = .ok (.iconst 0, 1) := by decide +kernel
theorem dX12_judge_108 : decode cX12_judge 108 = .ok (.istore 4, 2) := by decide +kernel
theorem dX12_judge_110 : decode cX12_judge 110 = .ok (.iinc 5 1, 3) := by decide +kernel
theorem dX12_judge_113 : decode cX12_judge 113 = .ok (.goto (-42), 3) := by decide +kernel
theorem dX12_judge_116 : decode cX12_judge 116 = .ok (.iload 4, 2) := by decide +kernel
theorem dX12_judge_118 : decode cX12_judge 118 = .ok (.ifCond .ne 7, 3) := by decide +kernel
theorem dX12_judge_121 : decode cX12_judge 121 = .ok (.iload_n 3, 1) := by decide +kernel
theorem dX12_judge_122 : decode cX12_judge 122 = .ok (.iconst 1, 1) := by decide +kernel
theorem dX12_judge_123 : decode cX12_judge 123 = .ok (.iadd, 1) := by decide +kernel
theorem dX12_judge_124 : decode cX12_judge 124 = .ok (.ireturn, 1) := by decide +kernel
theorem dX12_judge_125 : decode cX12_judge 125 = .ok (.iinc 3 1, 3) := by decide +kernel
theorem dX12_judge_128 : decode cX12_judge 128 = .ok (.goto (-90), 3) := by decide +kernel
theorem dX12_judge_131 : decode cX12_judge 131 = .ok (.iconst 0, 1) := by decide +kernel
theorem dX12_judge_132 : decode cX12_judge 132 = .ok (.ireturn, 1) := by decide +kernel
def fX12_judge_L71 (kk : Int32 → Mm → Option (Int32 × Mm)) (o : Nat) (v2 : Int32) (v3 : Int32) : Nat → Int32 → Int32 → Mm → Option (Int32 × Mm)
  | 0, _, _, _ => none
  | n + 1, v4, v5, M =>
    if ((3 * v3) + 3) ≤ v5 then
      kk v4 M
    else
      if v4 = 0 then
        fX12_judge_L71 kk o v2 v3 n 0 (v5 + 1) M
      else
        B1 (rdN M o 15 10) fun a87_10 =>
        B1 (alI M a87_10 v5) fun x92_11 =>
        B1 (rdN M o 15 12) fun a94_12 =>
        B1 (alI M a94_12 v5) fun x99_13 =>
        if x92_11 = x99_13 then
          fX12_judge_L71 kk o v2 v3 n 1 (v5 + 1) M
        else
          fX12_judge_L71 kk o v2 v3 n 0 (v5 + 1) M
def fX12_judge_L38 (o : Nat) (v2 : Int32) : Nat → Int32 → Mm → Option (Int32 × Mm)
  | 0, _, _ => none
  | n + 1, v3, M =>
    B1 (rdI M o 15 11) fun x40_7 =>
    if x40_7 ≤ v3 then
      some (0, M)
    else
      B1 (rdN M o 15 0) fun a48_8 =>
      B1 (alI M a48_8 (12 + v2)) fun x55_9 =>
      if x55_9 ≤ v3 then
        fX12_judge_L71 (fun w116_14 M116_15 =>
          if w116_14 = 0 then
            some ((v3 + 1), M116_15)
          else
            fX12_judge_L38 o v2 n (v3 + 1) M116_15) o v2 v3 FL 0 (3 * v3) M
      else
        fX12_judge_L71 (fun w116_16 M116_17 =>
          if w116_16 = 0 then
            some ((v3 + 1), M116_17)
          else
            fX12_judge_L38 o v2 n (v3 + 1) M116_17) o v2 v3 FL 1 (3 * v3) M
def fX12_judge (M : Mm) (o : Nat) (p1 : Int32) (p2 : Int32) : Option (Int32 × Mm) :=
  B1 (fX12_isTwo M p1) fun x1_1 =>
  if x1_1 = 0 then
    some ((-1), M)
  else
    B1 (fX12_isTwo M p2) fun x8_2 =>
    if x8_2 = 0 then
      some ((-1), M)
    else
      B1 (rdN M o 15 0) fun a17_3 =>
      B1 (alI M a17_3 (2 + p1)) fun x23_4 =>
      if 0 ≤ x23_4 then
        B1 (gk M o 15) fun _ =>
        B1 (fX12_findDue M o p1 p2) fun M33_6 =>
        fX12_judge_L38 o p2 FL 0 M33_6
      else
        some ((-3), M)
set_option maxRecDepth 100000 in
set_option maxHeartbeats 4000000 in
theorem kX12_judge_L71 {l : Launch} {E : Ev} {p : Program} {e : Env} {s : State} {m : MethodId} {args : Array Value} {below : List Frame} {meth : Method} {c : Code} (C : Cx E p s m args meth c cX12_judge yX12_judge.cls 6) (hr : meth.sig.returnType = (some .int)) (hin : yX12_judge.name = "<init>" → meth.name = "<init>")  {o : Nat} {v2 : Int32} {v3 : Int32} {rz : Int32} {Mz : Mm} {kk : Int32 → Mm → Option (Int32 × Mm)} (hkk : ∀ (v4 : Int32) (M : Mm), kk v4 M = some (rz, Mz) → ∀ (H : Heap) (locs : List Loc) (ls : Array Slot), Wx E s H locs M → lv_has ls 6 [(0, .ref (E.b + o)), (2, .int v2), (3, .int v3), (4, .int v4)] → W p l e (rM 8 192 0 0) s m args below meth c H locs 0 0 (MQ below (Qp E (some (.int rz)) Mz) args s 0 0 E.A) (F0 m 116 ls [])) : ∀ (n : Nat) (v4 : Int32) (v5 : Int32) (M : Mm), fX12_judge_L71 kk o v2 v3 n v4 v5 M = some (rz, Mz) → ∀ (H : Heap) (locs : List Loc) (ls : Array Slot), Wx E s H locs M → lv_has ls 6 [(0, .ref (E.b + o)), (2, .int v2), (3, .int v3), (4, .int v4), (5, .int v5)] → W p l e (rM 8 192 0 0) s m args below meth c H locs 0 0 (MQ below (Qp E (some (.int rz)) Mz) args s 0 0 E.A) (F0 m 71 ls []) := by
  intro n
  induction n with
  | zero =>
    intro v4 v5 M hf
    unfold fX12_judge_L71 at hf
    cases hf
  | succ n ih =>
    intro v4 v5 M hf H locs ls hW hl
    unfold fX12_judge_L71 at hf
    refine lv_iload C.x C.b dX12_judge_71 (lv_at hl 4 rfl) ?_
    refine lv_iconst (v := 3) C.x C.b dX12_judge_73 (by decide) ?_
    refine lv_iload_n C.x C.b dX12_judge_74 rfl (lv_at hl 2 rfl) ?_
    refine lv_imul C.x C.b dX12_judge_75 ?_
    refine lv_iconst (v := 3) C.x C.b dX12_judge_76 (by decide) ?_
    refine lv_iadd C.x C.b dX12_judge_77 ?_
    refine lv_icmp_ge (tgt := 116) C.x C.b dX12_judge_78 rfl (fun c78 => ?_) (fun c78 => ?_)
    · replace hf := x_ip c78 hf
      exact hkk v4 M hf _ _ _ hW (lv_sub hl [0, 1, 2, 3] rfl)
    · replace hf := x_in c78 hf
      refine lv_iload C.x C.b dX12_judge_81 (lv_at hl 3 rfl) ?_
      refine lv_if_eq (tgt := 107) C.x C.b dX12_judge_83 rfl (fun c83 => ?_) (fun c83 => ?_)
      · replace hf := x_ip c83 hf
        refine lv_iconst (v := 0) C.x C.b dX12_judge_107 (by decide) ?_
        refine lv_istore (lv' := [(4, .int _), (0, .ref (E.b + _)), (2, .int _), (3, .int _), (5, .int _)]) C.x C.b dX12_judge_108 hl (by decide) rfl (fun ls hl => ?_)
        refine lv_iinc (v := (v5 + 1)) (lv' := [(5, .int (v5 + 1)), (4, .int _), (0, .ref (E.b + _)), (2, .int _), (3, .int _)]) C.x C.b dX12_judge_110 hl (k := 4) rfl (by first | rfl | decide) (by decide) rfl (fun ls hl => ?_)
        refine lv_goto (tgt := 71) C.x C.b dX12_judge_113 rfl ?_
        exact ih 0 (v5 + 1) M hf _ _ _ hW (lv_sub hl [2, 3, 4, 1, 0] rfl)
      · replace hf := x_in c83 hf
        refine lv_aload_n C.x C.b dX12_judge_86 rfl (lv_at hl 0 rfl) ?_
        replace hf := x_b1 hf; obtain ⟨a87_10, ha87_10, hf⟩ := hf
        refine x_getn C hW fg_X12_25_15 ha87_10 dX12_judge_87 ?_
        refine lv_iload C.x C.b dX12_judge_90 (lv_at hl 4 rfl) ?_
        replace hf := x_b1 hf; obtain ⟨x92_11, hx92_11, hf⟩ := hf
        refine x_iald C hW hx92_11 dX12_judge_92 ?_
        refine lv_aload_n C.x C.b dX12_judge_93 rfl (lv_at hl 0 rfl) ?_
        replace hf := x_b1 hf; obtain ⟨a94_12, ha94_12, hf⟩ := hf
        refine x_getn C hW fg_X12_28_15 ha94_12 dX12_judge_94 ?_
        refine lv_iload C.x C.b dX12_judge_97 (lv_at hl 4 rfl) ?_
        replace hf := x_b1 hf; obtain ⟨x99_13, hx99_13, hf⟩ := hf
        refine x_iald C hW hx99_13 dX12_judge_99 ?_
        refine lv_icmp_ne (tgt := 107) C.x C.b dX12_judge_100 rfl (fun c100 => ?_) (fun c100 => ?_)
        · replace hf := x_in c100 hf
          refine lv_iconst (v := 0) C.x C.b dX12_judge_107 (by decide) ?_
          refine lv_istore (lv' := [(4, .int _), (0, .ref (E.b + _)), (2, .int _), (3, .int _), (5, .int _)]) C.x C.b dX12_judge_108 hl (by decide) rfl (fun ls hl => ?_)
          refine lv_iinc (v := (v5 + 1)) (lv' := [(5, .int (v5 + 1)), (4, .int _), (0, .ref (E.b + _)), (2, .int _), (3, .int _)]) C.x C.b dX12_judge_110 hl (k := 4) rfl (by first | rfl | decide) (by decide) rfl (fun ls hl => ?_)
          refine lv_goto (tgt := 71) C.x C.b dX12_judge_113 rfl ?_
          exact ih 0 (v5 + 1) M hf _ _ _ hW (lv_sub hl [2, 3, 4, 1, 0] rfl)
        · replace hf := x_ip c100 hf
          refine lv_iconst (v := 1) C.x C.b dX12_judge_103 (by decide) ?_
          refine lv_goto (tgt := 108) C.x C.b dX12_judge_104 rfl ?_
          refine lv_istore (lv' := [(4, .int _), (0, .ref (E.b + _)), (2, .int _), (3, .int _), (5, .int _)]) C.x C.b dX12_judge_108 hl (by decide) rfl (fun ls hl => ?_)
          refine lv_iinc (v := (v5 + 1)) (lv' := [(5, .int (v5 + 1)), (4, .int _), (0, .ref (E.b + _)), (2, .int _), (3, .int _)]) C.x C.b dX12_judge_110 hl (k := 4) rfl (by first | rfl | decide) (by decide) rfl (fun ls hl => ?_)
          refine lv_goto (tgt := 71) C.x C.b dX12_judge_113 rfl ?_
          exact ih 1 (v5 + 1) M hf _ _ _ hW (lv_sub hl [2, 3, 4, 1, 0] rfl)
set_option maxRecDepth 100000 in
set_option maxHeartbeats 4000000 in
theorem kX12_judge_L38 {l : Launch} {E : Ev} {p : Program} {e : Env} {s : State} {m : MethodId} {args : Array Value} {below : List Frame} {meth : Method} {c : Code} (C : Cx E p s m args meth c cX12_judge yX12_judge.cls 6) (hr : meth.sig.returnType = (some .int)) (hin : yX12_judge.name = "<init>" → meth.name = "<init>")  {o : Nat} {v2 : Int32} {rz : Int32} {Mz : Mm} : ∀ (n : Nat) (v3 : Int32) (M : Mm), fX12_judge_L38 o v2 n v3 M = some (rz, Mz) → ∀ (H : Heap) (locs : List Loc) (ls : Array Slot), Wx E s H locs M → lv_has ls 6 [(0, .ref (E.b + o)), (2, .int v2), (3, .int v3)] → W p l e (rM 8 192 0 0) s m args below meth c H locs 0 0 (MQ below (Qp E (some (.int rz)) Mz) args s 0 0 E.A) (F0 m 38 ls []) := by
  intro n
  induction n with
  | zero =>
    intro v3 M hf
    unfold fX12_judge_L38 at hf
    cases hf
  | succ n ih =>
    intro v3 M hf H locs ls hW hl
    unfold fX12_judge_L38 at hf
    refine lv_iload_n C.x C.b dX12_judge_38 rfl (lv_at hl 2 rfl) ?_
    refine lv_aload_n C.x C.b dX12_judge_39 rfl (lv_at hl 0 rfl) ?_
    replace hf := x_b1 hf; obtain ⟨x40_7, hx40_7, hf⟩ := hf
    refine x_geti C hW fg_X12_391_15 hx40_7 dX12_judge_40 ?_
    refine lv_icmp_ge (tgt := 131) C.x C.b dX12_judge_43 rfl (fun c43 => ?_) (fun c43 => ?_)
    · replace hf := x_ip c43 hf
      refine lv_iconst (v := 0) C.x C.b dX12_judge_131 (by decide) ?_
      rw [x_e1 hf, x_e2 hf]
      exact x_iret C hr hW dX12_judge_132
    · replace hf := x_in c43 hf
      refine lv_iload_n C.x C.b dX12_judge_46 rfl (lv_at hl 2 rfl) ?_
      refine lv_aload_n C.x C.b dX12_judge_47 rfl (lv_at hl 0 rfl) ?_
      replace hf := x_b1 hf; obtain ⟨a48_8, ha48_8, hf⟩ := hf
      refine x_getn C hW fg_X12_9_15 ha48_8 dX12_judge_48 ?_
      refine lv_bipush (v := 12) C.x C.b dX12_judge_51 (by decide) ?_
      refine lv_iload_n C.x C.b dX12_judge_53 rfl (lv_at hl 1 rfl) ?_
      refine lv_iadd C.x C.b dX12_judge_54 ?_
      replace hf := x_b1 hf; obtain ⟨x55_9, hx55_9, hf⟩ := hf
      refine x_iald C hW hx55_9 dX12_judge_55 ?_
      refine lv_icmp_ge (tgt := 63) C.x C.b dX12_judge_56 rfl (fun c56 => ?_) (fun c56 => ?_)
      · replace hf := x_ip c56 hf
        refine lv_iconst (v := 0) C.x C.b dX12_judge_63 (by decide) ?_
        refine lv_istore (lv' := [(4, .int _), (0, .ref (E.b + _)), (2, .int _), (3, .int _)]) C.x C.b dX12_judge_64 hl (by decide) rfl (fun ls hl => ?_)
        refine lv_iconst (v := 3) C.x C.b dX12_judge_66 (by decide) ?_
        refine lv_iload_n C.x C.b dX12_judge_67 rfl (lv_at hl 3 rfl) ?_
        refine lv_imul C.x C.b dX12_judge_68 ?_
        refine lv_istore (lv' := [(5, .int _), (4, .int _), (0, .ref (E.b + _)), (2, .int _), (3, .int _)]) C.x C.b dX12_judge_69 hl (by decide) rfl (fun ls hl => ?_)
        refine kX12_judge_L71 C hr hin ?_ FL 0 (3 * v3) M hf _ _ _ hW (lv_sub hl [2, 3, 4, 1, 0] rfl)
        intro w116_14 M116_15 hf H locs ls hW hl
        refine lv_iload C.x C.b dX12_judge_116 (lv_at hl 3 rfl) ?_
        refine lv_if_ne (tgt := 125) C.x C.b dX12_judge_118 rfl (fun c118 => ?_) (fun c118 => ?_)
        · replace hf := x_in c118 hf
          refine lv_iinc (v := (v3 + 1)) (lv' := [(3, .int (v3 + 1)), (0, .ref (E.b + _)), (2, .int _), (4, .int _)]) C.x C.b dX12_judge_125 hl (k := 2) rfl (by first | rfl | decide) (by decide) rfl (fun ls hl => ?_)
          refine lv_goto (tgt := 38) C.x C.b dX12_judge_128 rfl ?_
          exact ih (v3 + 1) M116_15 hf _ _ _ hW (lv_sub hl [1, 2, 0] rfl)
        · replace hf := x_ip c118 hf
          refine lv_iload_n C.x C.b dX12_judge_121 rfl (lv_at hl 2 rfl) ?_
          refine lv_iconst (v := 1) C.x C.b dX12_judge_122 (by decide) ?_
          refine lv_iadd C.x C.b dX12_judge_123 ?_
          rw [x_e1 hf, x_e2 hf]
          exact x_iret C hr hW dX12_judge_124
      · replace hf := x_in c56 hf
        refine lv_iconst (v := 1) C.x C.b dX12_judge_59 (by decide) ?_
        refine lv_goto (tgt := 64) C.x C.b dX12_judge_60 rfl ?_
        refine lv_istore (lv' := [(4, .int _), (0, .ref (E.b + _)), (2, .int _), (3, .int _)]) C.x C.b dX12_judge_64 hl (by decide) rfl (fun ls hl => ?_)
        refine lv_iconst (v := 3) C.x C.b dX12_judge_66 (by decide) ?_
        refine lv_iload_n C.x C.b dX12_judge_67 rfl (lv_at hl 3 rfl) ?_
        refine lv_imul C.x C.b dX12_judge_68 ?_
        refine lv_istore (lv' := [(5, .int _), (4, .int _), (0, .ref (E.b + _)), (2, .int _), (3, .int _)]) C.x C.b dX12_judge_69 hl (by decide) rfl (fun ls hl => ?_)
        refine kX12_judge_L71 C hr hin ?_ FL 1 (3 * v3) M hf _ _ _ hW (lv_sub hl [2, 3, 4, 1, 0] rfl)
        intro w116_16 M116_17 hf H locs ls hW hl
        refine lv_iload C.x C.b dX12_judge_116 (lv_at hl 3 rfl) ?_
        refine lv_if_ne (tgt := 125) C.x C.b dX12_judge_118 rfl (fun c118 => ?_) (fun c118 => ?_)
        · replace hf := x_in c118 hf
          refine lv_iinc (v := (v3 + 1)) (lv' := [(3, .int (v3 + 1)), (0, .ref (E.b + _)), (2, .int _), (4, .int _)]) C.x C.b dX12_judge_125 hl (k := 2) rfl (by first | rfl | decide) (by decide) rfl (fun ls hl => ?_)
          refine lv_goto (tgt := 38) C.x C.b dX12_judge_128 rfl ?_
          exact ih (v3 + 1) M116_17 hf _ _ _ hW (lv_sub hl [1, 2, 0] rfl)
        · replace hf := x_ip c118 hf
          refine lv_iload_n C.x C.b dX12_judge_121 rfl (lv_at hl 2 rfl) ?_
          refine lv_iconst (v := 1) C.x C.b dX12_judge_122 (by decide) ?_
          refine lv_iadd C.x C.b dX12_judge_123 ?_
          rw [x_e1 hf, x_e2 hf]
          exact x_iret C hr hW dX12_judge_124
set_option maxRecDepth 100000 in
set_option maxHeartbeats 4000000 in
theorem qX12_judge (l : Launch) (E : Ev) {M : Mm} {o : Nat} {p1 : Int32} {p2 : Int32} {rz : Int32} {Mz : Mm} (hf : fX12_judge M o p1 p2 = some (rz, Mz)) : Ct l E yX12_judge cX12_judge 6 (some .int) 8 192 0 0 [.ref (E.b + o), .int p1, .int p2] M (some (.int rz)) Mz := by
  refine ct_of (by decide +kernel) (Nat.le_of_ble_eq_true rfl) fun p e s m args below meth c C hr hin hW ls hl => ?_
  have hl : lv_has ls 6 [(0, .ref (E.b + o)), (1, .int p1), (2, .int p2)] := hl
  unfold fX12_judge at hf
  refine lv_iload_n C.x C.b dX12_judge_0 rfl (lv_at hl 1 rfl) ?_
  replace hf := x_b1 hf; obtain ⟨x1_1, hx1_1, hf⟩ := hf
  refine x_callS (As := [.int p1]) (rest := []) C hW hl (qX12_isTwo l E hx1_1) gs_X12_133 hd_X12_isTwo rfl rfl (Nat.le_of_ble_eq_true rfl) dX12_judge_1 ⟨Nat.le_of_ble_eq_true rfl, Nat.le_of_ble_eq_true rfl⟩ ⟨Nat.le_of_ble_eq_true rfl, Nat.le_of_ble_eq_true rfl⟩ (fun H locs hW => ?_)
  refine lv_if_eq (tgt := 14) C.x C.b dX12_judge_4 rfl (fun c4 => ?_) (fun c4 => ?_)
  · replace hf := x_ip c4 hf
    refine lv_iconst (v := (-1)) C.x C.b dX12_judge_14 (by decide) ?_
    rw [x_e1 hf, x_e2 hf]
    exact x_iret C hr hW dX12_judge_15
  · replace hf := x_in c4 hf
    refine lv_iload_n C.x C.b dX12_judge_7 rfl (lv_at hl 2 rfl) ?_
    replace hf := x_b1 hf; obtain ⟨x8_2, hx8_2, hf⟩ := hf
    refine x_callS (As := [.int p2]) (rest := []) C hW hl (qX12_isTwo l E hx8_2) gs_X12_133 hd_X12_isTwo rfl rfl (Nat.le_of_ble_eq_true rfl) dX12_judge_8 ⟨Nat.le_of_ble_eq_true rfl, Nat.le_of_ble_eq_true rfl⟩ ⟨Nat.le_of_ble_eq_true rfl, Nat.le_of_ble_eq_true rfl⟩ (fun H locs hW => ?_)
    refine lv_if_ne (tgt := 16) C.x C.b dX12_judge_11 rfl (fun c11 => ?_) (fun c11 => ?_)
    · replace hf := x_in c11 hf
      refine lv_aload_n C.x C.b dX12_judge_16 rfl (lv_at hl 0 rfl) ?_
      replace hf := x_b1 hf; obtain ⟨a17_3, ha17_3, hf⟩ := hf
      refine x_getn C hW fg_X12_9_15 ha17_3 dX12_judge_17 ?_
      refine lv_iconst (v := 2) C.x C.b dX12_judge_20 (by decide) ?_
      refine lv_iload_n C.x C.b dX12_judge_21 rfl (lv_at hl 1 rfl) ?_
      refine lv_iadd C.x C.b dX12_judge_22 ?_
      replace hf := x_b1 hf; obtain ⟨x23_4, hx23_4, hf⟩ := hf
      refine x_iald C hW hx23_4 dX12_judge_23 ?_
      refine lv_if_ge (tgt := 30) C.x C.b dX12_judge_24 rfl (fun c24 => ?_) (fun c24 => ?_)
      · replace hf := x_ip c24 hf
        refine lv_aload_n C.x C.b dX12_judge_30 rfl (lv_at hl 0 rfl) ?_
        refine lv_iload_n C.x C.b dX12_judge_31 rfl (lv_at hl 1 rfl) ?_
        refine lv_iload_n C.x C.b dX12_judge_32 rfl (lv_at hl 2 rfl) ?_
        replace hf := x_b1 hf; obtain ⟨_, hk33_5, hf⟩ := hf
        replace hf := x_b1 hf; obtain ⟨M33_6, hM33_6, hf⟩ := hf
        refine x_callV (As := [.int p1, .int p2]) (a := o) (rest := []) C hW hl (qX12_findDue l E hM33_6) (x_gk hk33_5) (by decide) (by decide) rfl gv_X12_394 ⟨rfl, hd_X12_findDue⟩ rfl rfl (Nat.le_of_ble_eq_true rfl) dX12_judge_33 ⟨Nat.le_of_ble_eq_true rfl, Nat.le_of_ble_eq_true rfl⟩ ⟨Nat.le_of_ble_eq_true rfl, Nat.le_of_ble_eq_true rfl⟩ (fun H locs hW => ?_)
        refine lv_iconst (v := 0) C.x C.b dX12_judge_36 (by decide) ?_
        refine lv_istore_n (lv' := [(3, .int _), (0, .ref (E.b + _)), (1, .int _), (2, .int _)]) C.x C.b dX12_judge_37 rfl hl (by decide) rfl (fun ls hl => ?_)
        exact kX12_judge_L38 C hr hin FL 0 M33_6 hf _ _ _ hW (lv_sub hl [1, 3, 0] rfl)
      · replace hf := x_in c24 hf
        refine lv_bipush (v := (-3)) C.x C.b dX12_judge_27 (by decide) ?_
        rw [x_e1 hf, x_e2 hf]
        exact x_iret C hr hW dX12_judge_29
    · replace hf := x_ip c11 hf
      refine lv_iconst (v := (-1)) C.x C.b dX12_judge_14 (by decide) ?_
      rw [x_e1 hf, x_e2 hf]
      exact x_iret C hr hW dX12_judge_15

theorem dX12_isFour_0 : decode cX12_isFour 0 = .ok (.iload_n 0, 1) := by decide +kernel
theorem dX12_isFour_1 : decode cX12_isFour 1 = .ok (.i2l, 1) := by decide +kernel
theorem dX12_isFour_2 : decode cX12_isFour 2 = .ok (.lconst 0, 1) := by decide +kernel
theorem dX12_isFour_3 : decode cX12_isFour 3 = .ok (.ldc2_w 91, 3) := by decide +kernel
theorem dX12_isFour_6 : decode cX12_isFour 6 = .ok (.invokestatic 61, 3) := by decide +kernel
theorem dX12_isFour_9 : decode cX12_isFour 9 = .ok (.ireturn, 1) := by decide +kernel
def fX12_isFour (M : Mm) (p1 : Int32) : Option Int32 :=
  B1 (fX12_in M (p1.toInt64) 0 3) fun x6_1 =>
  bz x6_1
set_option maxRecDepth 100000 in
set_option maxHeartbeats 4000000 in
theorem qX12_isFour (l : Launch) (E : Ev) {M : Mm} {p1 : Int32} {rz : Int32} (hf : fX12_isFour M p1 = some rz) : Ct l E yX12_isFour cX12_isFour 1 (some .boolean) 1 25 0 0 [.int p1] M (some (.int rz)) M := by
  refine ct_of (by decide +kernel) (Nat.le_of_ble_eq_true rfl) fun p e s m args below meth c C hr hin hW ls hl => ?_
  have hl : lv_has ls 1 [(0, .int p1)] := hl
  unfold fX12_isFour at hf
  refine lv_iload_n C.x C.b dX12_isFour_0 rfl (lv_at hl 0 rfl) ?_
  refine lv_i2l (v := p1.toInt64) C.x C.b dX12_isFour_1 rfl ?_
  refine lv_lconst (v := 0) C.x C.b dX12_isFour_2 (by decide) ?_
  refine x_ldc2 (v := 3) C T_6_152 dX12_isFour_3 ?_
  replace hf := x_b1 hf; obtain ⟨x6_1, hx6_1, hf⟩ := hf
  refine x_callS (As := [.long (p1.toInt64), .long 0, .long 3]) (rest := []) C hW hl (qX12_in l E hx6_1) gs_X12_61 hd_X12_in rfl rfl (Nat.le_of_ble_eq_true rfl) dX12_isFour_6 ⟨Nat.le_of_ble_eq_true rfl, Nat.le_of_ble_eq_true rfl⟩ ⟨Nat.le_of_ble_eq_true rfl, Nat.le_of_ble_eq_true rfl⟩ (fun H locs hW => ?_)
  exact x_zret C hr hW hf dX12_isFour_9

theorem dX12_sheet_0 : decode cX12_sheet 0 = .ok (.iload_n 1, 1) := by decide +kernel
theorem dX12_sheet_1 : decode cX12_sheet 1 = .ok (.invokestatic 400, 3) := by decide +kernel
theorem dX12_sheet_4 : decode cX12_sheet 4 = .ok (.ifCond .eq 27, 3) := by decide +kernel
theorem dX12_sheet_7 : decode cX12_sheet 7 = .ok (.iload_n 2, 1) := by decide +kernel
theorem dX12_sheet_8 : decode cX12_sheet 8 = .ok (.i2l, 1) := by decide +kernel
theorem dX12_sheet_9 : decode cX12_sheet 9 = .ok (.ldc2_w 251, 3) := by decide +kernel
theorem dX12_sheet_12 : decode cX12_sheet 12 = .ok (.ldc2_w 91, 3) := by decide +kernel
theorem dX12_sheet_15 : decode cX12_sheet 15 = .ok (.invokestatic 61, 3) := by decide +kernel
theorem dX12_sheet_18 : decode cX12_sheet 18 = .ok (.ifCond .eq 13, 3) := by decide +kernel
theorem dX12_sheet_21 : decode cX12_sheet 21 = .ok (.iload_n 2, 1) := by decide +kernel
theorem dX12_sheet_22 : decode cX12_sheet 22 = .ok (.ifCond .lt 11, 3) := by decide +kernel
theorem dX12_sheet_25 : decode cX12_sheet 25 = .ok (.iload_n 3, 1) := by decide +kernel
theorem dX12_sheet_26 : decode cX12_sheet 26 = .ok (.bipush 40, 2) := by decide +kernel
theorem dX12_sheet_28 : decode cX12_sheet 28 = .ok (.if_icmp .le 5, 3) := by decide +kernel
theorem dX12_sheet_31 : decode cX12_sheet 31 = .ok (.iconst (-1), 1) := by decide +kernel
theorem dX12_sheet_32 : decode cX12_sheet 32 = .ok (.ireturn, 1) := by decide +kernel
theorem dX12_sheet_33 : decode cX12_sheet 33 = .ok (.iload_n 2, 1) := by decide +kernel
theorem dX12_sheet_34 : decode cX12_sheet 34 = .ok (.ifCond .lt 10, 3) := by decide +kernel
theorem dX12_sheet_37 : decode cX12_sheet 37 = .ok (.iload_n 3, 1) := by decide +kernel
theorem dX12_sheet_38 : decode cX12_sheet 38 = .ok (.ifCond .ge 6, 3) := by decide +kernel
theorem dX12_sheet_41 : decode cX12_sheet 41 = .ok (.bipush (-14), 2) := by decide +kernel
theorem dX12_sheet_43 : decode cX12_sheet 43 = .ok (.ireturn, 1) := by decide +kernel
theorem dX12_sheet_44 : decode cX12_sheet 44 = .ok (.aload_n 0, 1) := by decide +kernel
theorem dX12_sheet_45 : decode cX12_sheet 45 = .ok (.getfield 31, 3) := by decide +kernel
theorem dX12_sheet_48 : decode cX12_sheet 48 = .ok (.iload_n 1, 1) := by decide +kernel
theorem dX12_sheet_49 : decode cX12_sheet 49 = .ok (.iload_n 2, 1) := by decide +kernel
theorem dX12_sheet_50 : decode cX12_sheet 50 = .ok (.iastore, 1) := by decide +kernel
theorem dX12_sheet_51 : decode cX12_sheet 51 = .ok (.aload_n 0, 1) := by decide +kernel
theorem dX12_sheet_52 : decode cX12_sheet 52 = .ok (.getfield 34, 3) := by decide +kernel
theorem dX12_sheet_55 : decode cX12_sheet 55 = .ok (.iload_n 1, 1) := by decide +kernel
theorem dX12_sheet_56 : decode cX12_sheet 56 = .ok (.iload_n 2, 1) := by decide +kernel
theorem dX12_sheet_57 : decode cX12_sheet 57 = .ok (.ifCond .ge 7, 3) := by decide +kernel
theorem dX12_sheet_60 : decode cX12_sheet 60 = .ok (.iconst 0, 1) := by decide +kernel
theorem dX12_sheet_61 : decode cX12_sheet 61 = .ok (.goto 4, 3) := by decide +kernel
theorem dX12_sheet_64 : decode cX12_sheet 64 = .ok (.iload_n 3, 1) := by decide +kernel
theorem dX12_sheet_65 : decode cX12_sheet 65 = .ok (.iastore, 1) := by decide +kernel
theorem dX12_sheet_66 : decode cX12_sheet 66 = .ok (.iconst 0, 1) := by decide +kernel
theorem dX12_sheet_67 : decode cX12_sheet 67 = .ok (.istore 4, 2) := by decide +kernel
theorem dX12_sheet_69 : decode cX12_sheet 69 = .ok (.iload 4, 2) := by decide +kernel
theorem dX12_sheet_71 : decode cX12_sheet 71 = .ok (.bipush 40, 2) := by decide +kernel
theorem dX12_sheet_73 : decode cX12_sheet 73 = .ok (.if_icmp .ge 22, 3) := by decide +kernel
theorem dX12_sheet_76 : decode cX12_sheet 76 = .ok (.aload_n 0, 1) := by decide +kernel
theorem dX12_sheet_77 : decode cX12_sheet 77 = .ok (.getfield 37, 3) := by decide +kernel
theorem dX12_sheet_80 : decode cX12_sheet 80 = .ok (.bipush 40, 2) := by decide +kernel
theorem dX12_sheet_82 : decode cX12_sheet 82 = .ok (.iload_n 1, 1) := by decide +kernel
theorem dX12_sheet_83 : decode cX12_sheet 83 = .ok (.imul, 1) := by decide +kernel
theorem dX12_sheet_84 : decode cX12_sheet 84 = .ok (.iload 4, 2) := by decide +kernel
theorem dX12_sheet_86 : decode cX12_sheet 86 = .ok (.iadd, 1) := by decide +kernel
theorem dX12_sheet_87 : decode cX12_sheet 87 = .ok (.lconst 0, 1) := by decide +kernel
theorem dX12_sheet_88 : decode cX12_sheet 88 = .ok (.lastore, 1) := by decide +kernel
theorem dX12_sheet_89 : decode cX12_sheet 89 = .ok (.iinc 4 1, 3) := by decide +kernel
theorem dX12_sheet_92 : decode cX12_sheet 92 = .ok (.goto (-23), 3) := by decide +kernel
theorem dX12_sheet_95 : decode cX12_sheet 95 = .ok (.iconst 1, 1) := by decide +kernel
theorem dX12_sheet_96 : decode cX12_sheet 96 = .ok (.ireturn, 1) := by decide +kernel
theorem hd_X12_isFour : yX12_isFour.cls ≠ "java/lang/invoke/MethodHandle" ∧ yX12_isFour.cls ≠ "java/lang/invoke/VarHandle" ∧ (parseMethodDescriptor yX12_isFour.desc).map (fun d => d.parameters.length) = some 1 := by decide +kernel
theorem gs_X12_400 : GoodIn gT (va_wsS "NylonLadderModel" 400 yX12_isFour (Cond.code yX12_isFour cX12_isFour 1 (some .boolean) :: gT)) := good_S T_8_126 T_8_127 T_1_10 T_8_128
theorem fg_X12_31_15 : FdG "NylonLadderModel" 31 15 13 true := ⟨_, _, _, _, rfl, by decide, by decide, by decide, gxX12, by decide, T_6_62, Or.inl rfl, rfl⟩
theorem fg_X12_34_15 : FdG "NylonLadderModel" 34 15 14 true := ⟨_, _, _, _, rfl, by decide, by decide, by decide, gxX12, by decide, T_6_63, Or.inl rfl, rfl⟩
theorem fg_X12_37_15 : FdG "NylonLadderModel" 37 15 15 true := ⟨_, _, _, _, rfl, by decide, by decide, by decide, gxX12, by decide, T_6_64, Or.inl rfl, rfl⟩
def fX12_sheet_L69 (o : Nat) (v1 : Int32) : Nat → Int32 → Mm → Option (Int32 × Mm)
  | 0, _, _ => none
  | n + 1, v4, M =>
    if 40 ≤ v4 then
      some (1, M)
    else
      B1 (rdN M o 15 15) fun a77_7 =>
      B1 (asL M a77_7 ((40 * v1) + v4) 0) fun M88_8 =>
      fX12_sheet_L69 o v1 n (v4 + 1) M88_8
def fX12_sheet (M : Mm) (o : Nat) (p1 : Int32) (p2 : Int32) (p3 : Int32) : Option (Int32 × Mm) :=
  B1 (fX12_isFour M p1) fun x1_1 =>
  if x1_1 = 0 then
    some ((-1), M)
  else
    B1 (fX12_in M (p2.toInt64) (-1) 3) fun x15_2 =>
    if x15_2 = 0 then
      some ((-1), M)
    else
      if p2 < 0 then
        if p2 < 0 then
          B1 (rdN M o 15 13) fun a45_3 =>
          B1 (asI M a45_3 p1 p2) fun M50_4 =>
          B1 (rdN M50_4 o 15 14) fun a52_5 =>
          if 0 ≤ p2 then
            B1 (asI M50_4 a52_5 p1 p3) fun M65_6 =>
            fX12_sheet_L69 o p1 FL 0 M65_6
          else
            B1 (asI M50_4 a52_5 p1 0) fun M65_9 =>
            fX12_sheet_L69 o p1 FL 0 M65_9
        else
          if 0 ≤ p3 then
            B1 (rdN M o 15 13) fun a45_10 =>
            B1 (asI M a45_10 p1 p2) fun M50_11 =>
            B1 (rdN M50_11 o 15 14) fun a52_12 =>
            if 0 ≤ p2 then
              B1 (asI M50_11 a52_12 p1 p3) fun M65_13 =>
              fX12_sheet_L69 o p1 FL 0 M65_13
            else
              B1 (asI M50_11 a52_12 p1 0) fun M65_14 =>
              fX12_sheet_L69 o p1 FL 0 M65_14
          else
            some ((-14), M)
      else
        if p3 ≤ 40 then
          if p2 < 0 then
            B1 (rdN M o 15 13) fun a45_15 =>
            B1 (asI M a45_15 p1 p2) fun M50_16 =>
            B1 (rdN M50_16 o 15 14) fun a52_17 =>
            if 0 ≤ p2 then
              B1 (asI M50_16 a52_17 p1 p3) fun M65_18 =>
              fX12_sheet_L69 o p1 FL 0 M65_18
            else
              B1 (asI M50_16 a52_17 p1 0) fun M65_19 =>
              fX12_sheet_L69 o p1 FL 0 M65_19
          else
            if 0 ≤ p3 then
              B1 (rdN M o 15 13) fun a45_20 =>
              B1 (asI M a45_20 p1 p2) fun M50_21 =>
              B1 (rdN M50_21 o 15 14) fun a52_22 =>
              if 0 ≤ p2 then
                B1 (asI M50_21 a52_22 p1 p3) fun M65_23 =>
                fX12_sheet_L69 o p1 FL 0 M65_23
              else
                B1 (asI M50_21 a52_22 p1 0) fun M65_24 =>
                fX12_sheet_L69 o p1 FL 0 M65_24
            else
              some ((-14), M)
        else
          some ((-1), M)
set_option maxRecDepth 100000 in
set_option maxHeartbeats 4000000 in
theorem kX12_sheet_L69 {l : Launch} {E : Ev} {p : Program} {e : Env} {s : State} {m : MethodId} {args : Array Value} {below : List Frame} {meth : Method} {c : Code} (C : Cx E p s m args meth c cX12_sheet yX12_sheet.cls 5) (hr : meth.sig.returnType = (some .int)) (hin : yX12_sheet.name = "<init>" → meth.name = "<init>")  {o : Nat} {v1 : Int32} {rz : Int32} {Mz : Mm} : ∀ (n : Nat) (v4 : Int32) (M : Mm), fX12_sheet_L69 o v1 n v4 M = some (rz, Mz) → ∀ (H : Heap) (locs : List Loc) (ls : Array Slot), Wx E s H locs M → lv_has ls 5 [(0, .ref (E.b + o)), (1, .int v1), (4, .int v4)] → W p l e (rM 2 45 0 0) s m args below meth c H locs 0 0 (MQ below (Qp E (some (.int rz)) Mz) args s 0 0 E.A) (F0 m 69 ls []) := by
  intro n
  induction n with
  | zero =>
    intro v4 M hf
    unfold fX12_sheet_L69 at hf
    cases hf
  | succ n ih =>
    intro v4 M hf H locs ls hW hl
    unfold fX12_sheet_L69 at hf
    refine lv_iload C.x C.b dX12_sheet_69 (lv_at hl 2 rfl) ?_
    refine lv_bipush (v := 40) C.x C.b dX12_sheet_71 (by decide) ?_
    refine lv_icmp_ge (tgt := 95) C.x C.b dX12_sheet_73 rfl (fun c73 => ?_) (fun c73 => ?_)
    · replace hf := x_ip c73 hf
      refine lv_iconst (v := 1) C.x C.b dX12_sheet_95 (by decide) ?_
      rw [x_e1 hf, x_e2 hf]
      exact x_iret C hr hW dX12_sheet_96
    · replace hf := x_in c73 hf
      refine lv_aload_n C.x C.b dX12_sheet_76 rfl (lv_at hl 0 rfl) ?_
      replace hf := x_b1 hf; obtain ⟨a77_7, ha77_7, hf⟩ := hf
      refine x_getn C hW fg_X12_37_15 ha77_7 dX12_sheet_77 ?_
      refine lv_bipush (v := 40) C.x C.b dX12_sheet_80 (by decide) ?_
      refine lv_iload_n C.x C.b dX12_sheet_82 rfl (lv_at hl 1 rfl) ?_
      refine lv_imul C.x C.b dX12_sheet_83 ?_
      refine lv_iload C.x C.b dX12_sheet_84 (lv_at hl 2 rfl) ?_
      refine lv_iadd C.x C.b dX12_sheet_86 ?_
      refine lv_lconst (v := 0) C.x C.b dX12_sheet_87 (by decide) ?_
      replace hf := x_b1 hf; obtain ⟨M88_8, hM88_8, hf⟩ := hf
      refine x_last C hW hM88_8 dX12_sheet_88 (fun H locs hW => ?_)
      refine lv_iinc (v := (v4 + 1)) (lv' := [(4, .int (v4 + 1)), (0, .ref (E.b + _)), (1, .int _)]) C.x C.b dX12_sheet_89 hl (k := 2) rfl (by first | rfl | decide) (by decide) rfl (fun ls hl => ?_)
      refine lv_goto (tgt := 69) C.x C.b dX12_sheet_92 rfl ?_
      exact ih (v4 + 1) M88_8 hf _ _ _ hW (lv_sub hl [1, 2, 0] rfl)
set_option maxRecDepth 100000 in
set_option maxHeartbeats 4000000 in
theorem qX12_sheet (l : Launch) (E : Ev) {M : Mm} {o : Nat} {p1 : Int32} {p2 : Int32} {p3 : Int32} {rz : Int32} {Mz : Mm} (hf : fX12_sheet M o p1 p2 p3 = some (rz, Mz)) : Ct l E yX12_sheet cX12_sheet 5 (some .int) 2 45 0 0 [.ref (E.b + o), .int p1, .int p2, .int p3] M (some (.int rz)) Mz := by
  refine ct_of (by decide +kernel) (Nat.le_of_ble_eq_true rfl) fun p e s m args below meth c C hr hin hW ls hl => ?_
  have hl : lv_has ls 5 [(0, .ref (E.b + o)), (1, .int p1), (2, .int p2), (3, .int p3)] := hl
  unfold fX12_sheet at hf
  refine lv_iload_n C.x C.b dX12_sheet_0 rfl (lv_at hl 1 rfl) ?_
  replace hf := x_b1 hf; obtain ⟨x1_1, hx1_1, hf⟩ := hf
  refine x_callS (As := [.int p1]) (rest := []) C hW hl (qX12_isFour l E hx1_1) gs_X12_400 hd_X12_isFour rfl rfl (Nat.le_of_ble_eq_true rfl) dX12_sheet_1 ⟨Nat.le_of_ble_eq_true rfl, Nat.le_of_ble_eq_true rfl⟩ ⟨Nat.le_of_ble_eq_true rfl, Nat.le_of_ble_eq_true rfl⟩ (fun H locs hW => ?_)
  refine lv_if_eq (tgt := 31) C.x C.b dX12_sheet_4 rfl (fun c4 => ?_) (fun c4 => ?_)
  · replace hf := x_ip c4 hf
    refine lv_iconst (v := (-1)) C.x C.b dX12_sheet_31 (by decide) ?_
    rw [x_e1 hf, x_e2 hf]
    exact x_iret C hr hW dX12_sheet_32
  · replace hf := x_in c4 hf
    refine lv_iload_n C.x C.b dX12_sheet_7 rfl (lv_at hl 2 rfl) ?_
    refine lv_i2l (v := p2.toInt64) C.x C.b dX12_sheet_8 rfl ?_
    refine x_ldc2 (v := (-1)) C T_7_199 dX12_sheet_9 ?_
    refine x_ldc2 (v := 3) C T_6_152 dX12_sheet_12 ?_
    replace hf := x_b1 hf; obtain ⟨x15_2, hx15_2, hf⟩ := hf
    refine x_callS (As := [.long (p2.toInt64), .long (-1), .long 3]) (rest := []) C hW hl (qX12_in l E hx15_2) gs_X12_61 hd_X12_in rfl rfl (Nat.le_of_ble_eq_true rfl) dX12_sheet_15 ⟨Nat.le_of_ble_eq_true rfl, Nat.le_of_ble_eq_true rfl⟩ ⟨Nat.le_of_ble_eq_true rfl, Nat.le_of_ble_eq_true rfl⟩ (fun H locs hW => ?_)
    refine lv_if_eq (tgt := 31) C.x C.b dX12_sheet_18 rfl (fun c18 => ?_) (fun c18 => ?_)
    · replace hf := x_ip c18 hf
      refine lv_iconst (v := (-1)) C.x C.b dX12_sheet_31 (by decide) ?_
      rw [x_e1 hf, x_e2 hf]
      exact x_iret C hr hW dX12_sheet_32
    · replace hf := x_in c18 hf
      refine lv_iload_n C.x C.b dX12_sheet_21 rfl (lv_at hl 2 rfl) ?_
      refine lv_if_lt (tgt := 33) C.x C.b dX12_sheet_22 rfl (fun c22 => ?_) (fun c22 => ?_)
      · replace hf := x_ip c22 hf
        refine lv_iload_n C.x C.b dX12_sheet_33 rfl (lv_at hl 2 rfl) ?_
        refine lv_if_lt (tgt := 44) C.x C.b dX12_sheet_34 rfl (fun c34 => ?_) (fun c34 => ?_)
        · replace hf := x_ip c34 hf
          refine lv_aload_n C.x C.b dX12_sheet_44 rfl (lv_at hl 0 rfl) ?_
          replace hf := x_b1 hf; obtain ⟨a45_3, ha45_3, hf⟩ := hf
          refine x_getn C hW fg_X12_31_15 ha45_3 dX12_sheet_45 ?_
          refine lv_iload_n C.x C.b dX12_sheet_48 rfl (lv_at hl 1 rfl) ?_
          refine lv_iload_n C.x C.b dX12_sheet_49 rfl (lv_at hl 2 rfl) ?_
          replace hf := x_b1 hf; obtain ⟨M50_4, hM50_4, hf⟩ := hf
          refine x_iast C hW hM50_4 dX12_sheet_50 (fun H locs hW => ?_)
          refine lv_aload_n C.x C.b dX12_sheet_51 rfl (lv_at hl 0 rfl) ?_
          replace hf := x_b1 hf; obtain ⟨a52_5, ha52_5, hf⟩ := hf
          refine x_getn C hW fg_X12_34_15 ha52_5 dX12_sheet_52 ?_
          refine lv_iload_n C.x C.b dX12_sheet_55 rfl (lv_at hl 1 rfl) ?_
          refine lv_iload_n C.x C.b dX12_sheet_56 rfl (lv_at hl 2 rfl) ?_
          refine lv_if_ge (tgt := 64) C.x C.b dX12_sheet_57 rfl (fun c57 => ?_) (fun c57 => ?_)
          · replace hf := x_ip c57 hf
            refine lv_iload_n C.x C.b dX12_sheet_64 rfl (lv_at hl 3 rfl) ?_
            replace hf := x_b1 hf; obtain ⟨M65_6, hM65_6, hf⟩ := hf
            refine x_iast C hW hM65_6 dX12_sheet_65 (fun H locs hW => ?_)
            refine lv_iconst (v := 0) C.x C.b dX12_sheet_66 (by decide) ?_
            refine lv_istore (lv' := [(4, .int _), (0, .ref (E.b + _)), (1, .int _), (2, .int _), (3, .int _)]) C.x C.b dX12_sheet_67 hl (by decide) rfl (fun ls hl => ?_)
            exact kX12_sheet_L69 C hr hin FL 0 M65_6 hf _ _ _ hW (lv_sub hl [1, 2, 0] rfl)
          · replace hf := x_in c57 hf
            refine lv_iconst (v := 0) C.x C.b dX12_sheet_60 (by decide) ?_
            refine lv_goto (tgt := 65) C.x C.b dX12_sheet_61 rfl ?_
            replace hf := x_b1 hf; obtain ⟨M65_9, hM65_9, hf⟩ := hf
            refine x_iast C hW hM65_9 dX12_sheet_65 (fun H locs hW => ?_)
            refine lv_iconst (v := 0) C.x C.b dX12_sheet_66 (by decide) ?_
            refine lv_istore (lv' := [(4, .int _), (0, .ref (E.b + _)), (1, .int _), (2, .int _), (3, .int _)]) C.x C.b dX12_sheet_67 hl (by decide) rfl (fun ls hl => ?_)
            exact kX12_sheet_L69 C hr hin FL 0 M65_9 hf _ _ _ hW (lv_sub hl [1, 2, 0] rfl)
        · replace hf := x_in c34 hf
          refine lv_iload_n C.x C.b dX12_sheet_37 rfl (lv_at hl 3 rfl) ?_
          refine lv_if_ge (tgt := 44) C.x C.b dX12_sheet_38 rfl (fun c38 => ?_) (fun c38 => ?_)
          · replace hf := x_ip c38 hf
            refine lv_aload_n C.x C.b dX12_sheet_44 rfl (lv_at hl 0 rfl) ?_
            replace hf := x_b1 hf; obtain ⟨a45_10, ha45_10, hf⟩ := hf
            refine x_getn C hW fg_X12_31_15 ha45_10 dX12_sheet_45 ?_
            refine lv_iload_n C.x C.b dX12_sheet_48 rfl (lv_at hl 1 rfl) ?_
            refine lv_iload_n C.x C.b dX12_sheet_49 rfl (lv_at hl 2 rfl) ?_
            replace hf := x_b1 hf; obtain ⟨M50_11, hM50_11, hf⟩ := hf
            refine x_iast C hW hM50_11 dX12_sheet_50 (fun H locs hW => ?_)
            refine lv_aload_n C.x C.b dX12_sheet_51 rfl (lv_at hl 0 rfl) ?_
            replace hf := x_b1 hf; obtain ⟨a52_12, ha52_12, hf⟩ := hf
            refine x_getn C hW fg_X12_34_15 ha52_12 dX12_sheet_52 ?_
            refine lv_iload_n C.x C.b dX12_sheet_55 rfl (lv_at hl 1 rfl) ?_
            refine lv_iload_n C.x C.b dX12_sheet_56 rfl (lv_at hl 2 rfl) ?_
            refine lv_if_ge (tgt := 64) C.x C.b dX12_sheet_57 rfl (fun c57 => ?_) (fun c57 => ?_)
            · replace hf := x_ip c57 hf
              refine lv_iload_n C.x C.b dX12_sheet_64 rfl (lv_at hl 3 rfl) ?_
              replace hf := x_b1 hf; obtain ⟨M65_13, hM65_13, hf⟩ := hf
              refine x_iast C hW hM65_13 dX12_sheet_65 (fun H locs hW => ?_)
              refine lv_iconst (v := 0) C.x C.b dX12_sheet_66 (by decide) ?_
              refine lv_istore (lv' := [(4, .int _), (0, .ref (E.b + _)), (1, .int _), (2, .int _), (3, .int _)]) C.x C.b dX12_sheet_67 hl (by decide) rfl (fun ls hl => ?_)
              exact kX12_sheet_L69 C hr hin FL 0 M65_13 hf _ _ _ hW (lv_sub hl [1, 2, 0] rfl)
            · replace hf := x_in c57 hf
              refine lv_iconst (v := 0) C.x C.b dX12_sheet_60 (by decide) ?_
              refine lv_goto (tgt := 65) C.x C.b dX12_sheet_61 rfl ?_
              replace hf := x_b1 hf; obtain ⟨M65_14, hM65_14, hf⟩ := hf
              refine x_iast C hW hM65_14 dX12_sheet_65 (fun H locs hW => ?_)
              refine lv_iconst (v := 0) C.x C.b dX12_sheet_66 (by decide) ?_
              refine lv_istore (lv' := [(4, .int _), (0, .ref (E.b + _)), (1, .int _), (2, .int _), (3, .int _)]) C.x C.b dX12_sheet_67 hl (by decide) rfl (fun ls hl => ?_)
              exact kX12_sheet_L69 C hr hin FL 0 M65_14 hf _ _ _ hW (lv_sub hl [1, 2, 0] rfl)
          · replace hf := x_in c38 hf
            refine lv_bipush (v := (-14)) C.x C.b dX12_sheet_41 (by decide) ?_
            rw [x_e1 hf, x_e2 hf]
            exact x_iret C hr hW dX12_sheet_43
      · replace hf := x_in c22 hf
        refine lv_iload_n C.x C.b dX12_sheet_25 rfl (lv_at hl 3 rfl) ?_
        refine lv_bipush (v := 40) C.x C.b dX12_sheet_26 (by decide) ?_
        refine lv_icmp_le (tgt := 33) C.x C.b dX12_sheet_28 rfl (fun c28 => ?_) (fun c28 => ?_)
        · replace hf := x_ip c28 hf
          refine lv_iload_n C.x C.b dX12_sheet_33 rfl (lv_at hl 2 rfl) ?_
          refine lv_if_lt (tgt := 44) C.x C.b dX12_sheet_34 rfl (fun c34 => ?_) (fun c34 => ?_)
          · replace hf := x_ip c34 hf
            refine lv_aload_n C.x C.b dX12_sheet_44 rfl (lv_at hl 0 rfl) ?_
            replace hf := x_b1 hf; obtain ⟨a45_15, ha45_15, hf⟩ := hf
            refine x_getn C hW fg_X12_31_15 ha45_15 dX12_sheet_45 ?_
            refine lv_iload_n C.x C.b dX12_sheet_48 rfl (lv_at hl 1 rfl) ?_
            refine lv_iload_n C.x C.b dX12_sheet_49 rfl (lv_at hl 2 rfl) ?_
            replace hf := x_b1 hf; obtain ⟨M50_16, hM50_16, hf⟩ := hf
            refine x_iast C hW hM50_16 dX12_sheet_50 (fun H locs hW => ?_)
            refine lv_aload_n C.x C.b dX12_sheet_51 rfl (lv_at hl 0 rfl) ?_
            replace hf := x_b1 hf; obtain ⟨a52_17, ha52_17, hf⟩ := hf
            refine x_getn C hW fg_X12_34_15 ha52_17 dX12_sheet_52 ?_
            refine lv_iload_n C.x C.b dX12_sheet_55 rfl (lv_at hl 1 rfl) ?_
            refine lv_iload_n C.x C.b dX12_sheet_56 rfl (lv_at hl 2 rfl) ?_
            refine lv_if_ge (tgt := 64) C.x C.b dX12_sheet_57 rfl (fun c57 => ?_) (fun c57 => ?_)
            · replace hf := x_ip c57 hf
              refine lv_iload_n C.x C.b dX12_sheet_64 rfl (lv_at hl 3 rfl) ?_
              replace hf := x_b1 hf; obtain ⟨M65_18, hM65_18, hf⟩ := hf
              refine x_iast C hW hM65_18 dX12_sheet_65 (fun H locs hW => ?_)
              refine lv_iconst (v := 0) C.x C.b dX12_sheet_66 (by decide) ?_
              refine lv_istore (lv' := [(4, .int _), (0, .ref (E.b + _)), (1, .int _), (2, .int _), (3, .int _)]) C.x C.b dX12_sheet_67 hl (by decide) rfl (fun ls hl => ?_)
              exact kX12_sheet_L69 C hr hin FL 0 M65_18 hf _ _ _ hW (lv_sub hl [1, 2, 0] rfl)
            · replace hf := x_in c57 hf
              refine lv_iconst (v := 0) C.x C.b dX12_sheet_60 (by decide) ?_
              refine lv_goto (tgt := 65) C.x C.b dX12_sheet_61 rfl ?_
              replace hf := x_b1 hf; obtain ⟨M65_19, hM65_19, hf⟩ := hf
              refine x_iast C hW hM65_19 dX12_sheet_65 (fun H locs hW => ?_)
              refine lv_iconst (v := 0) C.x C.b dX12_sheet_66 (by decide) ?_
              refine lv_istore (lv' := [(4, .int _), (0, .ref (E.b + _)), (1, .int _), (2, .int _), (3, .int _)]) C.x C.b dX12_sheet_67 hl (by decide) rfl (fun ls hl => ?_)
              exact kX12_sheet_L69 C hr hin FL 0 M65_19 hf _ _ _ hW (lv_sub hl [1, 2, 0] rfl)
          · replace hf := x_in c34 hf
            refine lv_iload_n C.x C.b dX12_sheet_37 rfl (lv_at hl 3 rfl) ?_
            refine lv_if_ge (tgt := 44) C.x C.b dX12_sheet_38 rfl (fun c38 => ?_) (fun c38 => ?_)
            · replace hf := x_ip c38 hf
              refine lv_aload_n C.x C.b dX12_sheet_44 rfl (lv_at hl 0 rfl) ?_
              replace hf := x_b1 hf; obtain ⟨a45_20, ha45_20, hf⟩ := hf
              refine x_getn C hW fg_X12_31_15 ha45_20 dX12_sheet_45 ?_
              refine lv_iload_n C.x C.b dX12_sheet_48 rfl (lv_at hl 1 rfl) ?_
              refine lv_iload_n C.x C.b dX12_sheet_49 rfl (lv_at hl 2 rfl) ?_
              replace hf := x_b1 hf; obtain ⟨M50_21, hM50_21, hf⟩ := hf
              refine x_iast C hW hM50_21 dX12_sheet_50 (fun H locs hW => ?_)
              refine lv_aload_n C.x C.b dX12_sheet_51 rfl (lv_at hl 0 rfl) ?_
              replace hf := x_b1 hf; obtain ⟨a52_22, ha52_22, hf⟩ := hf
              refine x_getn C hW fg_X12_34_15 ha52_22 dX12_sheet_52 ?_
              refine lv_iload_n C.x C.b dX12_sheet_55 rfl (lv_at hl 1 rfl) ?_
              refine lv_iload_n C.x C.b dX12_sheet_56 rfl (lv_at hl 2 rfl) ?_
              refine lv_if_ge (tgt := 64) C.x C.b dX12_sheet_57 rfl (fun c57 => ?_) (fun c57 => ?_)
              · replace hf := x_ip c57 hf
                refine lv_iload_n C.x C.b dX12_sheet_64 rfl (lv_at hl 3 rfl) ?_
                replace hf := x_b1 hf; obtain ⟨M65_23, hM65_23, hf⟩ := hf
                refine x_iast C hW hM65_23 dX12_sheet_65 (fun H locs hW => ?_)
                refine lv_iconst (v := 0) C.x C.b dX12_sheet_66 (by decide) ?_
                refine lv_istore (lv' := [(4, .int _), (0, .ref (E.b + _)), (1, .int _), (2, .int _), (3, .int _)]) C.x C.b dX12_sheet_67 hl (by decide) rfl (fun ls hl => ?_)
                exact kX12_sheet_L69 C hr hin FL 0 M65_23 hf _ _ _ hW (lv_sub hl [1, 2, 0] rfl)
              · replace hf := x_in c57 hf
                refine lv_iconst (v := 0) C.x C.b dX12_sheet_60 (by decide) ?_
                refine lv_goto (tgt := 65) C.x C.b dX12_sheet_61 rfl ?_
                replace hf := x_b1 hf; obtain ⟨M65_24, hM65_24, hf⟩ := hf
                refine x_iast C hW hM65_24 dX12_sheet_65 (fun H locs hW => ?_)
                refine lv_iconst (v := 0) C.x C.b dX12_sheet_66 (by decide) ?_
                refine lv_istore (lv' := [(4, .int _), (0, .ref (E.b + _)), (1, .int _), (2, .int _), (3, .int _)]) C.x C.b dX12_sheet_67 hl (by decide) rfl (fun ls hl => ?_)
                exact kX12_sheet_L69 C hr hin FL 0 M65_24 hf _ _ _ hW (lv_sub hl [1, 2, 0] rfl)
            · replace hf := x_in c38 hf
              refine lv_bipush (v := (-14)) C.x C.b dX12_sheet_41 (by decide) ?_
              rw [x_e1 hf, x_e2 hf]
              exact x_iret C hr hW dX12_sheet_43
        · replace hf := x_in c28 hf
          refine lv_iconst (v := (-1)) C.x C.b dX12_sheet_31 (by decide) ?_
          rw [x_e1 hf, x_e2 hf]
          exact x_iret C hr hW dX12_sheet_32

theorem dX12_lacks_0 : decode cX12_lacks 0 = .ok (.aload_n 0, 1) := by decide +kernel
theorem dX12_lacks_1 : decode cX12_lacks 1 = .ok (.getfield 31, 3) := by decide +kernel
theorem dX12_lacks_4 : decode cX12_lacks 4 = .ok (.iload_n 1, 1) := by decide +kernel
theorem dX12_lacks_5 : decode cX12_lacks 5 = .ok (.iaload, 1) := by decide +kernel
theorem dX12_lacks_6 : decode cX12_lacks 6 = .ok (.ifCond .ge 8, 3) := by decide +kernel
theorem dX12_lacks_9 : decode cX12_lacks 9 = .ok (.bipush (-11), 2) := by decide +kernel
theorem dX12_lacks_11 : decode cX12_lacks 11 = .ok (.goto 23, 3) := by decide +kernel
theorem dX12_lacks_14 : decode cX12_lacks 14 = .ok (.iload_n 2, 1) := by decide +kernel
theorem dX12_lacks_15 : decode cX12_lacks 15 = .ok (.ifCond .lt 18, 3) := by decide +kernel
theorem dX12_lacks_18 : decode cX12_lacks 18 = .ok (.iload_n 2, 1) := by decide +kernel
theorem dX12_lacks_19 : decode cX12_lacks 19 = .ok (.aload_n 0, 1) := by decide +kernel
theorem dX12_lacks_20 : decode cX12_lacks 20 = .ok (.getfield 31, 3) := by decide +kernel
theorem dX12_lacks_23 : decode cX12_lacks 23 = .ok (.iload_n 1, 1) := by decide +kernel
theorem dX12_lacks_24 : decode cX12_lacks 24 = .ok (.iaload, 1) := by decide +kernel
theorem dX12_lacks_25 : decode cX12_lacks 25 = .ok (.if_icmp .eq 8, 3) := by decide +kernel
theorem dX12_lacks_28 : decode cX12_lacks 28 = .ok (.bipush (-13), 2) := by decide +kernel
theorem dX12_lacks_30 : decode cX12_lacks 30 = .ok (.goto 4, 3) := by decide +kernel
theorem dX12_lacks_33 : decode cX12_lacks 33 = .ok (.iconst 0, 1) := by decide +kernel
theorem dX12_lacks_34 : decode cX12_lacks 34 = .ok (.ireturn, 1) := by decide +kernel
def fX12_lacks (M : Mm) (o : Nat) (p1 : Int32) (p2 : Int32) : Option Int32 :=
  B1 (rdN M o 15 13) fun a1_1 =>
  B1 (alI M a1_1 p1) fun x5_2 =>
  if 0 ≤ x5_2 then
    if p2 < 0 then
      some 0
    else
      B1 (rdN M o 15 13) fun a20_3 =>
      B1 (alI M a20_3 p1) fun x24_4 =>
      if p2 = x24_4 then
        some 0
      else
        some (-13)
  else
    some (-11)
set_option maxRecDepth 100000 in
set_option maxHeartbeats 4000000 in
theorem qX12_lacks (l : Launch) (E : Ev) {M : Mm} {o : Nat} {p1 : Int32} {p2 : Int32} {rz : Int32} (hf : fX12_lacks M o p1 p2 = some rz) : Ct l E yX12_lacks cX12_lacks 3 (some .int) 0 0 0 0 [.ref (E.b + o), .int p1, .int p2] M (some (.int rz)) M := by
  refine ct_of (by decide +kernel) (Nat.le_of_ble_eq_true rfl) fun p e s m args below meth c C hr hin hW ls hl => ?_
  have hl : lv_has ls 3 [(0, .ref (E.b + o)), (1, .int p1), (2, .int p2)] := hl
  unfold fX12_lacks at hf
  refine lv_aload_n C.x C.b dX12_lacks_0 rfl (lv_at hl 0 rfl) ?_
  replace hf := x_b1 hf; obtain ⟨a1_1, ha1_1, hf⟩ := hf
  refine x_getn C hW fg_X12_31_15 ha1_1 dX12_lacks_1 ?_
  refine lv_iload_n C.x C.b dX12_lacks_4 rfl (lv_at hl 1 rfl) ?_
  replace hf := x_b1 hf; obtain ⟨x5_2, hx5_2, hf⟩ := hf
  refine x_iald C hW hx5_2 dX12_lacks_5 ?_
  refine lv_if_ge (tgt := 14) C.x C.b dX12_lacks_6 rfl (fun c6 => ?_) (fun c6 => ?_)
  · replace hf := x_ip c6 hf
    refine lv_iload_n C.x C.b dX12_lacks_14 rfl (lv_at hl 2 rfl) ?_
    refine lv_if_lt (tgt := 33) C.x C.b dX12_lacks_15 rfl (fun c15 => ?_) (fun c15 => ?_)
    · replace hf := x_ip c15 hf
      refine lv_iconst (v := 0) C.x C.b dX12_lacks_33 (by decide) ?_
      rw [x_e0 hf]
      exact x_iret C hr hW dX12_lacks_34
    · replace hf := x_in c15 hf
      refine lv_iload_n C.x C.b dX12_lacks_18 rfl (lv_at hl 2 rfl) ?_
      refine lv_aload_n C.x C.b dX12_lacks_19 rfl (lv_at hl 0 rfl) ?_
      replace hf := x_b1 hf; obtain ⟨a20_3, ha20_3, hf⟩ := hf
      refine x_getn C hW fg_X12_31_15 ha20_3 dX12_lacks_20 ?_
      refine lv_iload_n C.x C.b dX12_lacks_23 rfl (lv_at hl 1 rfl) ?_
      replace hf := x_b1 hf; obtain ⟨x24_4, hx24_4, hf⟩ := hf
      refine x_iald C hW hx24_4 dX12_lacks_24 ?_
      refine lv_icmp_eq (tgt := 33) C.x C.b dX12_lacks_25 rfl (fun c25 => ?_) (fun c25 => ?_)
      · replace hf := x_ip c25 hf
        refine lv_iconst (v := 0) C.x C.b dX12_lacks_33 (by decide) ?_
        rw [x_e0 hf]
        exact x_iret C hr hW dX12_lacks_34
      · replace hf := x_in c25 hf
        refine lv_bipush (v := (-13)) C.x C.b dX12_lacks_28 (by decide) ?_
        refine lv_goto (tgt := 34) C.x C.b dX12_lacks_30 rfl ?_
        rw [x_e0 hf]
        exact x_iret C hr hW dX12_lacks_34
  · replace hf := x_in c6 hf
    refine lv_bipush (v := (-11)) C.x C.b dX12_lacks_9 (by decide) ?_
    refine lv_goto (tgt := 34) C.x C.b dX12_lacks_11 rfl ?_
    rw [x_e0 hf]
    exact x_iret C hr hW dX12_lacks_34

theorem dX12_put_0 : decode cX12_put 0 = .ok (.iload_n 1, 1) := by decide +kernel
theorem dX12_put_1 : decode cX12_put 1 = .ok (.invokestatic 400, 3) := by decide +kernel
theorem dX12_put_4 : decode cX12_put 4 = .ok (.ifCond .ne 5, 3) := by decide +kernel
theorem dX12_put_7 : decode cX12_put 7 = .ok (.iconst (-1), 1) := by decide +kernel
theorem dX12_put_8 : decode cX12_put 8 = .ok (.ireturn, 1) := by decide +kernel
theorem dX12_put_9 : decode cX12_put 9 = .ok (.aload_n 0, 1) := by decide +kernel
theorem dX12_put_10 : decode cX12_put 10 = .ok (.iload_n 1, 1) := by decide +kernel
theorem dX12_put_11 : decode cX12_put 11 = .ok (.iconst (-1), 1) := by decide +kernel
theorem dX12_put_12 : decode cX12_put 12 = .ok (.invokevirtual 403, 3) := by decide +kernel
theorem dX12_put_15 : decode cX12_put 15 = .ok (.istore 4, 2) := by decide +kernel
theorem dX12_put_17 : decode cX12_put 17 = .ok (.iload 4, 2) := by decide +kernel
theorem dX12_put_19 : decode cX12_put 19 = .ok (.ifCond .ge 6, 3) := by decide +kernel
theorem dX12_put_22 : decode cX12_put 22 = .ok (.iload 4, 2) := by decide +kernel
theorem dX12_put_24 : decode cX12_put 24 = .ok (.ireturn, 1) := by decide +kernel
theorem dX12_put_25 : decode cX12_put 25 = .ok (.iload_n 2, 1) := by decide +kernel
theorem dX12_put_26 : decode cX12_put 26 = .ok (.i2l, 1) := by decide +kernel
theorem dX12_put_27 : decode cX12_put 27 = .ok (.lconst 0, 1) := by decide +kernel
theorem dX12_put_28 : decode cX12_put 28 = .ok (.aload_n 0, 1) := by decide +kernel
theorem dX12_put_29 : decode cX12_put 29 = .ok (.getfield 34, 3) := by decide +kernel
theorem dX12_put_32 : decode cX12_put 32 = .ok (.iload_n 1, 1) := by decide +kernel
theorem dX12_put_33 : decode cX12_put 33 = .ok (.iaload, 1) := by decide +kernel
theorem dX12_put_34 : decode cX12_put 34 = .ok (.iconst 1, 1) := by decide +kernel
theorem dX12_put_35 : decode cX12_put 35 = .ok (.isub, 1) := by decide +kernel
theorem dX12_put_36 : decode cX12_put 36 = .ok (.i2l, 1) := by decide +kernel
theorem dX12_put_37 : decode cX12_put 37 = .ok (.invokestatic 61, 3) := by decide +kernel
theorem dX12_put_40 : decode cX12_put 40 = .ok (.ifCond .ne 6, 3) := by decide +kernel
theorem dX12_put_43 : decode cX12_put 43 = .ok (.bipush (-12), 2) := by decide +kernel
theorem dX12_put_45 : decode cX12_put 45 = .ok (.ireturn, 1) := by decide +kernel
theorem dX12_put_46 : decode cX12_put 46 = .ok (.aload_n 0, 1) := by decide +kernel
theorem dX12_put_47 : decode cX12_put 47 = .ok (.getfield 31, 3) := by decide +kernel
theorem dX12_put_50 : decode cX12_put 50 = .ok (.iload_n 1, 1) := by decide +kernel
theorem dX12_put_51 : decode cX12_put 51 = .ok (.iaload, 1) := by decide +kernel
theorem dX12_put_52 : decode cX12_put 52 = .ok (.istore 5, 2) := by decide +kernel
theorem dX12_put_54 : decode cX12_put 54 = .ok (.aload_n 0, 1) := by decide +kernel
theorem dX12_put_55 : decode cX12_put 55 = .ok (.getfield 37, 3) := by decide +kernel
theorem dX12_put_58 : decode cX12_put 58 = .ok (.bipush 40, 2) := by decide +kernel
theorem dX12_put_60 : decode cX12_put 60 = .ok (.iload_n 1, 1) := by decide +kernel
theorem dX12_put_61 : decode cX12_put 61 = .ok (.imul, 1) := by decide +kernel
theorem dX12_put_62 : decode cX12_put 62 = .ok (.iload_n 2, 1) := by decide +kernel
theorem dX12_put_63 : decode cX12_put 63 = .ok (.iadd, 1) := by decide +kernel
theorem dX12_put_64 : decode cX12_put 64 = .ok (.iload 5, 2) := by decide +kernel
theorem dX12_put_66 : decode cX12_put 66 = .ok (.ifCond .ne 9, 3) := by decide +kernel
theorem dX12_put_69 : decode cX12_put 69 = .ok (.iload_n 3, 1) := by decide +kernel
theorem dX12_put_70 : decode cX12_put 70 = .ok (.i2b, 1) := by decide +kernel
theorem dX12_put_71 : decode cX12_put 71 = .ok (.i2l, 1) := by decide +kernel
theorem dX12_put_72 : decode cX12_put 72 = .ok (.goto 17, 3) := by decide +kernel
theorem dX12_put_75 : decode cX12_put 75 = .ok (.iload 5, 2) := by decide +kernel
theorem dX12_put_77 : decode cX12_put 77 = .ok (.iconst 1, 1) := by decide +kernel
theorem dX12_put_78 : decode cX12_put 78 = .ok (.if_icmp .ne 9, 3) := by decide +kernel
theorem dX12_put_81 : decode cX12_put 81 = .ok (.iload_n 3, 1) := by decide +kernel
theorem dX12_put_82 : decode cX12_put 82 = .ok (.i2s, 1) := by decide +kernel
theorem dX12_put_83 : decode cX12_put 83 = .ok (.i2l, 1) := by decide +kernel
theorem dX12_put_84 : decode cX12_put 84 = .ok (.goto 5, 3) := by decide +kernel
theorem dX12_put_87 : decode cX12_put 87 = .ok (.iload_n 3, 1) := by decide +kernel
theorem dX12_put_88 : decode cX12_put 88 = .ok (.i2l, 1) := by decide +kernel
theorem dX12_put_89 : decode cX12_put 89 = .ok (.lastore, 1) := by decide +kernel
theorem dX12_put_90 : decode cX12_put 90 = .ok (.iconst 1, 1) := by decide +kernel
theorem dX12_put_91 : decode cX12_put 91 = .ok (.ireturn, 1) := by decide +kernel
theorem hd_X12_lacks : yX12_lacks.cls ≠ "java/lang/invoke/MethodHandle" ∧ yX12_lacks.cls ≠ "java/lang/invoke/VarHandle" ∧ (parseMethodDescriptor yX12_lacks.desc).map (fun d => d.parameters.length) = some 2 := by decide +kernel
theorem gv_X12_403 : GoodIn gT (wsV "NylonLadderModel" 403 "NylonLadderModel" yX12_lacks (Cond.code yX12_lacks cX12_lacks 3 (some .int) :: gT)) := good_V T_8_133 T_8_135 TS_90 T_1_10 T_8_136
def fX12_put (M : Mm) (o : Nat) (p1 : Int32) (p2 : Int32) (p3 : Int32) : Option (Int32 × Mm) :=
  B1 (fX12_isFour M p1) fun x1_1 =>
  if x1_1 = 0 then
    some ((-1), M)
  else
    B1 (gk M o 15) fun _ =>
    B1 (fX12_lacks M o p1 (-1)) fun x12_3 =>
    if 0 ≤ x12_3 then
      B1 (rdN M o 15 14) fun a29_4 =>
      B1 (alI M a29_4 p1) fun x33_5 =>
      B1 (fX12_in M (p2.toInt64) 0 ((x33_5 - 1).toInt64)) fun x37_6 =>
      if x37_6 = 0 then
        some ((-12), M)
      else
        B1 (rdN M o 15 13) fun a47_7 =>
        B1 (alI M a47_7 p1) fun x51_8 =>
        B1 (rdN M o 15 15) fun a55_9 =>
        if x51_8 = 0 then
          B1 (asL M a55_9 ((40 * p1) + p2) ((p3.toInt8.toInt32).toInt64)) fun M89_12 =>
          some (1, M89_12)
        else
          if x51_8 = 1 then
            B1 (asL M a55_9 ((40 * p1) + p2) ((p3.toInt16.toInt32).toInt64)) fun M89_11 =>
            some (1, M89_11)
          else
            B1 (asL M a55_9 ((40 * p1) + p2) (p3.toInt64)) fun M89_10 =>
            some (1, M89_10)
    else
      some (x12_3, M)
set_option maxRecDepth 100000 in
set_option maxHeartbeats 4000000 in
theorem qX12_put (l : Launch) (E : Ev) {M : Mm} {o : Nat} {p1 : Int32} {p2 : Int32} {p3 : Int32} {rz : Int32} {Mz : Mm} (hf : fX12_put M o p1 p2 p3 = some (rz, Mz)) : Ct l E yX12_put cX12_put 6 (some .int) 2 45 0 0 [.ref (E.b + o), .int p1, .int p2, .int p3] M (some (.int rz)) Mz := by
  refine ct_of (by decide +kernel) (Nat.le_of_ble_eq_true rfl) fun p e s m args below meth c C hr hin hW ls hl => ?_
  have hl : lv_has ls 6 [(0, .ref (E.b + o)), (1, .int p1), (2, .int p2), (3, .int p3)] := hl
  unfold fX12_put at hf
  refine lv_iload_n C.x C.b dX12_put_0 rfl (lv_at hl 1 rfl) ?_
  replace hf := x_b1 hf; obtain ⟨x1_1, hx1_1, hf⟩ := hf
  refine x_callS (As := [.int p1]) (rest := []) C hW hl (qX12_isFour l E hx1_1) gs_X12_400 hd_X12_isFour rfl rfl (Nat.le_of_ble_eq_true rfl) dX12_put_1 ⟨Nat.le_of_ble_eq_true rfl, Nat.le_of_ble_eq_true rfl⟩ ⟨Nat.le_of_ble_eq_true rfl, Nat.le_of_ble_eq_true rfl⟩ (fun H locs hW => ?_)
  refine lv_if_ne (tgt := 9) C.x C.b dX12_put_4 rfl (fun c4 => ?_) (fun c4 => ?_)
  · replace hf := x_in c4 hf
    refine lv_aload_n C.x C.b dX12_put_9 rfl (lv_at hl 0 rfl) ?_
    refine lv_iload_n C.x C.b dX12_put_10 rfl (lv_at hl 1 rfl) ?_
    refine lv_iconst (v := (-1)) C.x C.b dX12_put_11 (by decide) ?_
    replace hf := x_b1 hf; obtain ⟨_, hk12_2, hf⟩ := hf
    replace hf := x_b1 hf; obtain ⟨x12_3, hx12_3, hf⟩ := hf
    refine x_callV (As := [.int p1, .int (-1)]) (a := o) (rest := []) C hW hl (qX12_lacks l E hx12_3) (x_gk hk12_2) (by decide) (by decide) rfl gv_X12_403 ⟨rfl, hd_X12_lacks⟩ rfl rfl (Nat.le_of_ble_eq_true rfl) dX12_put_12 ⟨Nat.le_of_ble_eq_true rfl, Nat.le_of_ble_eq_true rfl⟩ ⟨Nat.le_of_ble_eq_true rfl, Nat.le_of_ble_eq_true rfl⟩ (fun H locs hW => ?_)
    refine lv_istore (lv' := [(4, .int _), (0, .ref (E.b + _)), (1, .int _), (2, .int _), (3, .int _)]) C.x C.b dX12_put_15 hl (by decide) rfl (fun ls hl => ?_)
    refine lv_iload C.x C.b dX12_put_17 (lv_at hl 0 rfl) ?_
    refine lv_if_ge (tgt := 25) C.x C.b dX12_put_19 rfl (fun c19 => ?_) (fun c19 => ?_)
    · replace hf := x_ip c19 hf
      refine lv_iload_n C.x C.b dX12_put_25 rfl (lv_at hl 3 rfl) ?_
      refine lv_i2l (v := p2.toInt64) C.x C.b dX12_put_26 rfl ?_
      refine lv_lconst (v := 0) C.x C.b dX12_put_27 (by decide) ?_
      refine lv_aload_n C.x C.b dX12_put_28 rfl (lv_at hl 1 rfl) ?_
      replace hf := x_b1 hf; obtain ⟨a29_4, ha29_4, hf⟩ := hf
      refine x_getn C hW fg_X12_34_15 ha29_4 dX12_put_29 ?_
      refine lv_iload_n C.x C.b dX12_put_32 rfl (lv_at hl 2 rfl) ?_
      replace hf := x_b1 hf; obtain ⟨x33_5, hx33_5, hf⟩ := hf
      refine x_iald C hW hx33_5 dX12_put_33 ?_
      refine lv_iconst (v := 1) C.x C.b dX12_put_34 (by decide) ?_
      refine lv_isub C.x C.b dX12_put_35 ?_
      refine lv_i2l (v := (x33_5 - 1).toInt64) C.x C.b dX12_put_36 rfl ?_
      replace hf := x_b1 hf; obtain ⟨x37_6, hx37_6, hf⟩ := hf
      refine x_callS (As := [.long (p2.toInt64), .long 0, .long ((x33_5 - 1).toInt64)]) (rest := []) C hW hl (qX12_in l E hx37_6) gs_X12_61 hd_X12_in rfl rfl (Nat.le_of_ble_eq_true rfl) dX12_put_37 ⟨Nat.le_of_ble_eq_true rfl, Nat.le_of_ble_eq_true rfl⟩ ⟨Nat.le_of_ble_eq_true rfl, Nat.le_of_ble_eq_true rfl⟩ (fun H locs hW => ?_)
      refine lv_if_ne (tgt := 46) C.x C.b dX12_put_40 rfl (fun c40 => ?_) (fun c40 => ?_)
      · replace hf := x_in c40 hf
        refine lv_aload_n C.x C.b dX12_put_46 rfl (lv_at hl 1 rfl) ?_
        replace hf := x_b1 hf; obtain ⟨a47_7, ha47_7, hf⟩ := hf
        refine x_getn C hW fg_X12_31_15 ha47_7 dX12_put_47 ?_
        refine lv_iload_n C.x C.b dX12_put_50 rfl (lv_at hl 2 rfl) ?_
        replace hf := x_b1 hf; obtain ⟨x51_8, hx51_8, hf⟩ := hf
        refine x_iald C hW hx51_8 dX12_put_51 ?_
        refine lv_istore (lv' := [(5, .int _), (4, .int _), (0, .ref (E.b + _)), (1, .int _), (2, .int _), (3, .int _)]) C.x C.b dX12_put_52 hl (by decide) rfl (fun ls hl => ?_)
        refine lv_aload_n C.x C.b dX12_put_54 rfl (lv_at hl 2 rfl) ?_
        replace hf := x_b1 hf; obtain ⟨a55_9, ha55_9, hf⟩ := hf
        refine x_getn C hW fg_X12_37_15 ha55_9 dX12_put_55 ?_
        refine lv_bipush (v := 40) C.x C.b dX12_put_58 (by decide) ?_
        refine lv_iload_n C.x C.b dX12_put_60 rfl (lv_at hl 3 rfl) ?_
        refine lv_imul C.x C.b dX12_put_61 ?_
        refine lv_iload_n C.x C.b dX12_put_62 rfl (lv_at hl 4 rfl) ?_
        refine lv_iadd C.x C.b dX12_put_63 ?_
        refine lv_iload C.x C.b dX12_put_64 (lv_at hl 0 rfl) ?_
        refine lv_if_ne (tgt := 75) C.x C.b dX12_put_66 rfl (fun c66 => ?_) (fun c66 => ?_)
        · replace hf := x_in c66 hf
          refine lv_iload C.x C.b dX12_put_75 (lv_at hl 0 rfl) ?_
          refine lv_iconst (v := 1) C.x C.b dX12_put_77 (by decide) ?_
          refine lv_icmp_ne (tgt := 87) C.x C.b dX12_put_78 rfl (fun c78 => ?_) (fun c78 => ?_)
          · replace hf := x_in c78 hf
            refine lv_iload_n C.x C.b dX12_put_87 rfl (lv_at hl 5 rfl) ?_
            refine lv_i2l (v := p3.toInt64) C.x C.b dX12_put_88 rfl ?_
            replace hf := x_b1 hf; obtain ⟨M89_10, hM89_10, hf⟩ := hf
            refine x_last C hW hM89_10 dX12_put_89 (fun H locs hW => ?_)
            refine lv_iconst (v := 1) C.x C.b dX12_put_90 (by decide) ?_
            rw [x_e1 hf, x_e2 hf]
            exact x_iret C hr hW dX12_put_91
          · replace hf := x_ip c78 hf
            refine lv_iload_n C.x C.b dX12_put_81 rfl (lv_at hl 5 rfl) ?_
            refine lv_i2s (v := p3.toInt16.toInt32) C.x C.b dX12_put_82 rfl ?_
            refine lv_i2l (v := (p3.toInt16.toInt32).toInt64) C.x C.b dX12_put_83 rfl ?_
            refine lv_goto (tgt := 89) C.x C.b dX12_put_84 rfl ?_
            replace hf := x_b1 hf; obtain ⟨M89_11, hM89_11, hf⟩ := hf
            refine x_last C hW hM89_11 dX12_put_89 (fun H locs hW => ?_)
            refine lv_iconst (v := 1) C.x C.b dX12_put_90 (by decide) ?_
            rw [x_e1 hf, x_e2 hf]
            exact x_iret C hr hW dX12_put_91
        · replace hf := x_ip c66 hf
          refine lv_iload_n C.x C.b dX12_put_69 rfl (lv_at hl 5 rfl) ?_
          refine lv_i2b (v := p3.toInt8.toInt32) C.x C.b dX12_put_70 rfl ?_
          refine lv_i2l (v := (p3.toInt8.toInt32).toInt64) C.x C.b dX12_put_71 rfl ?_
          refine lv_goto (tgt := 89) C.x C.b dX12_put_72 rfl ?_
          replace hf := x_b1 hf; obtain ⟨M89_12, hM89_12, hf⟩ := hf
          refine x_last C hW hM89_12 dX12_put_89 (fun H locs hW => ?_)
          refine lv_iconst (v := 1) C.x C.b dX12_put_90 (by decide) ?_
          rw [x_e1 hf, x_e2 hf]
          exact x_iret C hr hW dX12_put_91
      · replace hf := x_ip c40 hf
        refine lv_bipush (v := (-12)) C.x C.b dX12_put_43 (by decide) ?_
        rw [x_e1 hf, x_e2 hf]
        exact x_iret C hr hW dX12_put_45
    · replace hf := x_in c19 hf
      refine lv_iload C.x C.b dX12_put_22 (lv_at hl 0 rfl) ?_
      rw [x_e1 hf, x_e2 hf]
      exact x_iret C hr hW dX12_put_24
  · replace hf := x_ip c4 hf
    refine lv_iconst (v := (-1)) C.x C.b dX12_put_7 (by decide) ?_
    rw [x_e1 hf, x_e2 hf]
    exact x_iret C hr hW dX12_put_8

theorem dX12_item__0 : decode cX12_item_ 0 = .ok (.iload_n 1, 1) := by decide +kernel
theorem dX12_item__1 : decode cX12_item_ 1 = .ok (.invokestatic 400, 3) := by decide +kernel
theorem dX12_item__4 : decode cX12_item_ 4 = .ok (.ifCond .eq 10, 3) := by decide +kernel
theorem dX12_item__7 : decode cX12_item_ 7 = .ok (.iload_n 2, 1) := by decide +kernel
theorem dX12_item__8 : decode cX12_item_ 8 = .ok (.invokestatic 400, 3) := by decide +kernel
theorem dX12_item__11 : decode cX12_item_ 11 = .ok (.ifCond .ne 5, 3) := by decide +kernel
theorem dX12_item__14 : decode cX12_item_ 14 = .ok (.iconst (-1), 1) := by decide +kernel
theorem dX12_item__15 : decode cX12_item_ 15 = .ok (.ireturn, 1) := by decide +kernel
theorem dX12_item__16 : decode cX12_item_ 16 = .ok (.aload_n 0, 1) := by decide +kernel
theorem dX12_item__17 : decode cX12_item_ 17 = .ok (.iload_n 1, 1) := by decide +kernel
theorem dX12_item__18 : decode cX12_item_ 18 = .ok (.iload_n 2, 1) := by decide +kernel
theorem dX12_item__19 : decode cX12_item_ 19 = .ok (.invokevirtual 403, 3) := by decide +kernel
theorem dX12_item__22 : decode cX12_item_ 22 = .ok (.istore 4, 2) := by decide +kernel
theorem dX12_item__24 : decode cX12_item_ 24 = .ok (.iload 4, 2) := by decide +kernel
theorem dX12_item__26 : decode cX12_item_ 26 = .ok (.ifCond .ge 6, 3) := by decide +kernel
theorem dX12_item__29 : decode cX12_item_ 29 = .ok (.iload 4, 2) := by decide +kernel
theorem dX12_item__31 : decode cX12_item_ 31 = .ok (.ireturn, 1) := by decide +kernel
theorem dX12_item__32 : decode cX12_item_ 32 = .ok (.iload_n 3, 1) := by decide +kernel
theorem dX12_item__33 : decode cX12_item_ 33 = .ok (.i2l, 1) := by decide +kernel
theorem dX12_item__34 : decode cX12_item_ 34 = .ok (.lconst 0, 1) := by decide +kernel
theorem dX12_item__35 : decode cX12_item_ 35 = .ok (.aload_n 0, 1) := by decide +kernel
theorem dX12_item__36 : decode cX12_item_ 36 = .ok (.getfield 34, 3) := by decide +kernel
theorem dX12_item__39 : decode cX12_item_ 39 = .ok (.iload_n 1, 1) := by decide +kernel
theorem dX12_item__40 : decode cX12_item_ 40 = .ok (.iaload, 1) := by decide +kernel
theorem dX12_item__41 : decode cX12_item_ 41 = .ok (.iconst 1, 1) := by decide +kernel
theorem dX12_item__42 : decode cX12_item_ 42 = .ok (.isub, 1) := by decide +kernel
theorem dX12_item__43 : decode cX12_item_ 43 = .ok (.i2l, 1) := by decide +kernel
theorem dX12_item__44 : decode cX12_item_ 44 = .ok (.invokestatic 61, 3) := by decide +kernel
theorem dX12_item__47 : decode cX12_item_ 47 = .ok (.ifCond .eq 18, 3) := by decide +kernel
theorem dX12_item__50 : decode cX12_item_ 50 = .ok (.aload_n 0, 1) := by decide +kernel
theorem dX12_item__51 : decode cX12_item_ 51 = .ok (.getfield 37, 3) := by decide +kernel
theorem dX12_item__54 : decode cX12_item_ 54 = .ok (.bipush 40, 2) := by decide +kernel
theorem dX12_item__56 : decode cX12_item_ 56 = .ok (.iload_n 1, 1) := by decide +kernel
theorem dX12_item__57 : decode cX12_item_ 57 = .ok (.imul, 1) := by decide +kernel
theorem dX12_item__58 : decode cX12_item_ 58 = .ok (.iload_n 3, 1) := by decide +kernel
theorem dX12_item__59 : decode cX12_item_ 59 = .ok (.iadd, 1) := by decide +kernel
theorem dX12_item__60 : decode cX12_item_ 60 = .ok (.laload, 1) := by decide +kernel
theorem dX12_item__61 : decode cX12_item_ 61 = .ok (.l2i, 1) := by decide +kernel
theorem dX12_item__62 : decode cX12_item_ 62 = .ok (.goto 5, 3) := by decide +kernel
theorem dX12_item__65 : decode cX12_item_ 65 = .ok (.bipush (-12), 2) := by decide +kernel
theorem dX12_item__67 : decode cX12_item_ 67 = .ok (.ireturn, 1) := by decide +kernel
def fX12_item_ (M : Mm) (o : Nat) (p1 : Int32) (p2 : Int32) (p3 : Int32) : Option Int32 :=
  B1 (fX12_isFour M p1) fun x1_1 =>
  if x1_1 = 0 then
    some (-1)
  else
    B1 (fX12_isFour M p2) fun x8_2 =>
    if x8_2 = 0 then
      some (-1)
    else
      B1 (gk M o 15) fun _ =>
      B1 (fX12_lacks M o p1 p2) fun x19_4 =>
      if 0 ≤ x19_4 then
        B1 (rdN M o 15 14) fun a36_5 =>
        B1 (alI M a36_5 p1) fun x40_6 =>
        B1 (fX12_in M (p3.toInt64) 0 ((x40_6 - 1).toInt64)) fun x44_7 =>
        if x44_7 = 0 then
          some (-12)
        else
          B1 (rdN M o 15 15) fun a51_8 =>
          B1 (alL M a51_8 ((40 * p1) + p3)) fun x60_9 =>
          some (x60_9.toInt32)
      else
        some x19_4
set_option maxRecDepth 100000 in
set_option maxHeartbeats 4000000 in
theorem qX12_item_ (l : Launch) (E : Ev) {M : Mm} {o : Nat} {p1 : Int32} {p2 : Int32} {p3 : Int32} {rz : Int32} (hf : fX12_item_ M o p1 p2 p3 = some rz) : Ct l E yX12_item_ cX12_item_ 5 (some .int) 2 45 0 0 [.ref (E.b + o), .int p1, .int p2, .int p3] M (some (.int rz)) M := by
  refine ct_of (by decide +kernel) (Nat.le_of_ble_eq_true rfl) fun p e s m args below meth c C hr hin hW ls hl => ?_
  have hl : lv_has ls 5 [(0, .ref (E.b + o)), (1, .int p1), (2, .int p2), (3, .int p3)] := hl
  unfold fX12_item_ at hf
  refine lv_iload_n C.x C.b dX12_item__0 rfl (lv_at hl 1 rfl) ?_
  replace hf := x_b1 hf; obtain ⟨x1_1, hx1_1, hf⟩ := hf
  refine x_callS (As := [.int p1]) (rest := []) C hW hl (qX12_isFour l E hx1_1) gs_X12_400 hd_X12_isFour rfl rfl (Nat.le_of_ble_eq_true rfl) dX12_item__1 ⟨Nat.le_of_ble_eq_true rfl, Nat.le_of_ble_eq_true rfl⟩ ⟨Nat.le_of_ble_eq_true rfl, Nat.le_of_ble_eq_true rfl⟩ (fun H locs hW => ?_)
  refine lv_if_eq (tgt := 14) C.x C.b dX12_item__4 rfl (fun c4 => ?_) (fun c4 => ?_)
  · replace hf := x_ip c4 hf
    refine lv_iconst (v := (-1)) C.x C.b dX12_item__14 (by decide) ?_
    rw [x_e0 hf]
    exact x_iret C hr hW dX12_item__15
  · replace hf := x_in c4 hf
    refine lv_iload_n C.x C.b dX12_item__7 rfl (lv_at hl 2 rfl) ?_
    replace hf := x_b1 hf; obtain ⟨x8_2, hx8_2, hf⟩ := hf
    refine x_callS (As := [.int p2]) (rest := []) C hW hl (qX12_isFour l E hx8_2) gs_X12_400 hd_X12_isFour rfl rfl (Nat.le_of_ble_eq_true rfl) dX12_item__8 ⟨Nat.le_of_ble_eq_true rfl, Nat.le_of_ble_eq_true rfl⟩ ⟨Nat.le_of_ble_eq_true rfl, Nat.le_of_ble_eq_true rfl⟩ (fun H locs hW => ?_)
    refine lv_if_ne (tgt := 16) C.x C.b dX12_item__11 rfl (fun c11 => ?_) (fun c11 => ?_)
    · replace hf := x_in c11 hf
      refine lv_aload_n C.x C.b dX12_item__16 rfl (lv_at hl 0 rfl) ?_
      refine lv_iload_n C.x C.b dX12_item__17 rfl (lv_at hl 1 rfl) ?_
      refine lv_iload_n C.x C.b dX12_item__18 rfl (lv_at hl 2 rfl) ?_
      replace hf := x_b1 hf; obtain ⟨_, hk19_3, hf⟩ := hf
      replace hf := x_b1 hf; obtain ⟨x19_4, hx19_4, hf⟩ := hf
      refine x_callV (As := [.int p1, .int p2]) (a := o) (rest := []) C hW hl (qX12_lacks l E hx19_4) (x_gk hk19_3) (by decide) (by decide) rfl gv_X12_403 ⟨rfl, hd_X12_lacks⟩ rfl rfl (Nat.le_of_ble_eq_true rfl) dX12_item__19 ⟨Nat.le_of_ble_eq_true rfl, Nat.le_of_ble_eq_true rfl⟩ ⟨Nat.le_of_ble_eq_true rfl, Nat.le_of_ble_eq_true rfl⟩ (fun H locs hW => ?_)
      refine lv_istore (lv' := [(4, .int _), (0, .ref (E.b + _)), (1, .int _), (2, .int _), (3, .int _)]) C.x C.b dX12_item__22 hl (by decide) rfl (fun ls hl => ?_)
      refine lv_iload C.x C.b dX12_item__24 (lv_at hl 0 rfl) ?_
      refine lv_if_ge (tgt := 32) C.x C.b dX12_item__26 rfl (fun c26 => ?_) (fun c26 => ?_)
      · replace hf := x_ip c26 hf
        refine lv_iload_n C.x C.b dX12_item__32 rfl (lv_at hl 4 rfl) ?_
        refine lv_i2l (v := p3.toInt64) C.x C.b dX12_item__33 rfl ?_
        refine lv_lconst (v := 0) C.x C.b dX12_item__34 (by decide) ?_
        refine lv_aload_n C.x C.b dX12_item__35 rfl (lv_at hl 1 rfl) ?_
        replace hf := x_b1 hf; obtain ⟨a36_5, ha36_5, hf⟩ := hf
        refine x_getn C hW fg_X12_34_15 ha36_5 dX12_item__36 ?_
        refine lv_iload_n C.x C.b dX12_item__39 rfl (lv_at hl 2 rfl) ?_
        replace hf := x_b1 hf; obtain ⟨x40_6, hx40_6, hf⟩ := hf
        refine x_iald C hW hx40_6 dX12_item__40 ?_
        refine lv_iconst (v := 1) C.x C.b dX12_item__41 (by decide) ?_
        refine lv_isub C.x C.b dX12_item__42 ?_
        refine lv_i2l (v := (x40_6 - 1).toInt64) C.x C.b dX12_item__43 rfl ?_
        replace hf := x_b1 hf; obtain ⟨x44_7, hx44_7, hf⟩ := hf
        refine x_callS (As := [.long (p3.toInt64), .long 0, .long ((x40_6 - 1).toInt64)]) (rest := []) C hW hl (qX12_in l E hx44_7) gs_X12_61 hd_X12_in rfl rfl (Nat.le_of_ble_eq_true rfl) dX12_item__44 ⟨Nat.le_of_ble_eq_true rfl, Nat.le_of_ble_eq_true rfl⟩ ⟨Nat.le_of_ble_eq_true rfl, Nat.le_of_ble_eq_true rfl⟩ (fun H locs hW => ?_)
        refine lv_if_eq (tgt := 65) C.x C.b dX12_item__47 rfl (fun c47 => ?_) (fun c47 => ?_)
        · replace hf := x_ip c47 hf
          refine lv_bipush (v := (-12)) C.x C.b dX12_item__65 (by decide) ?_
          rw [x_e0 hf]
          exact x_iret C hr hW dX12_item__67
        · replace hf := x_in c47 hf
          refine lv_aload_n C.x C.b dX12_item__50 rfl (lv_at hl 1 rfl) ?_
          replace hf := x_b1 hf; obtain ⟨a51_8, ha51_8, hf⟩ := hf
          refine x_getn C hW fg_X12_37_15 ha51_8 dX12_item__51 ?_
          refine lv_bipush (v := 40) C.x C.b dX12_item__54 (by decide) ?_
          refine lv_iload_n C.x C.b dX12_item__56 rfl (lv_at hl 2 rfl) ?_
          refine lv_imul C.x C.b dX12_item__57 ?_
          refine lv_iload_n C.x C.b dX12_item__58 rfl (lv_at hl 4 rfl) ?_
          refine lv_iadd C.x C.b dX12_item__59 ?_
          replace hf := x_b1 hf; obtain ⟨x60_9, hx60_9, hf⟩ := hf
          refine x_lald C hW hx60_9 dX12_item__60 ?_
          refine lv_l2i (v := x60_9.toInt32) C.x C.b dX12_item__61 rfl ?_
          refine lv_goto (tgt := 67) C.x C.b dX12_item__62 rfl ?_
          rw [x_e0 hf]
          exact x_iret C hr hW dX12_item__67
      · replace hf := x_in c26 hf
        refine lv_iload C.x C.b dX12_item__29 (lv_at hl 0 rfl) ?_
        rw [x_e0 hf]
        exact x_iret C hr hW dX12_item__31
    · replace hf := x_ip c11 hf
      refine lv_iconst (v := (-1)) C.x C.b dX12_item__14 (by decide) ?_
      rw [x_e0 hf]
      exact x_iret C hr hW dX12_item__15

theorem dX12_minds_0 : decode cX12_minds 0 = .ok (.iload_n 1, 1) := by decide +kernel
theorem dX12_minds_1 : decode cX12_minds 1 = .ok (.invokestatic 400, 3) := by decide +kernel
theorem dX12_minds_4 : decode cX12_minds 4 = .ok (.ifCond .eq 37, 3) := by decide +kernel
theorem dX12_minds_7 : decode cX12_minds 7 = .ok (.aload_n 0, 1) := by decide +kernel
theorem dX12_minds_8 : decode cX12_minds 8 = .ok (.iload_n 3, 1) := by decide +kernel
theorem dX12_minds_9 : decode cX12_minds 9 = .ok (.invokevirtual 99, 3) := by decide +kernel
theorem dX12_minds_12 : decode cX12_minds 12 = .ok (.ifCond .eq 29, 3) := by decide +kernel
theorem dX12_minds_15 : decode cX12_minds 15 = .ok (.iload 4, 2) := by decide +kernel
theorem dX12_minds_17 : decode cX12_minds 17 = .ok (.i2l, 1) := by decide +kernel
theorem dX12_minds_18 : decode cX12_minds 18 = .ok (.lconst 0, 1) := by decide +kernel
theorem dX12_minds_19 : decode cX12_minds 19 = .ok (.ldc2_w 278, 3) := by decide +kernel
theorem dX12_minds_22 : decode cX12_minds 22 = .ok (.invokestatic 61, 3) := by decide +kernel
theorem dX12_minds_25 : decode cX12_minds 25 = .ok (.ifCond .eq 16, 3) := by decide +kernel
theorem dX12_minds_28 : decode cX12_minds 28 = .ok (.iload_n 3, 1) := by decide +kernel
theorem dX12_minds_29 : decode cX12_minds 29 = .ok (.iload 4, 2) := by decide +kernel
theorem dX12_minds_31 : decode cX12_minds 31 = .ok (.iadd, 1) := by decide +kernel
theorem dX12_minds_32 : decode cX12_minds 32 = .ok (.aload_n 0, 1) := by decide +kernel
theorem dX12_minds_33 : decode cX12_minds 33 = .ok (.getfield 9, 3) := by decide +kernel
theorem dX12_minds_36 : decode cX12_minds 36 = .ok (.iconst 0, 1) := by decide +kernel
theorem dX12_minds_37 : decode cX12_minds 37 = .ok (.iaload, 1) := by decide +kernel
theorem dX12_minds_38 : decode cX12_minds 38 = .ok (.if_icmp .le 5, 3) := by decide +kernel
theorem dX12_minds_41 : decode cX12_minds 41 = .ok (.iconst (-1), 1) := by decide +kernel
theorem dX12_minds_42 : decode cX12_minds 42 = .ok (.ireturn, 1) := by decide +kernel
theorem dX12_minds_43 : decode cX12_minds 43 = .ok (.aload_n 0, 1) := by decide +kernel
theorem dX12_minds_44 : decode cX12_minds 44 = .ok (.iload_n 1, 1) := by decide +kernel
theorem dX12_minds_45 : decode cX12_minds 45 = .ok (.iconst 0, 1) := by decide +kernel
theorem dX12_minds_46 : decode cX12_minds 46 = .ok (.invokevirtual 403, 3) := by decide +kernel
theorem dX12_minds_49 : decode cX12_minds 49 = .ok (.istore 5, 2) := by decide +kernel
theorem dX12_minds_51 : decode cX12_minds 51 = .ok (.iload 5, 2) := by decide +kernel
theorem dX12_minds_53 : decode cX12_minds 53 = .ok (.ifCond .ge 6, 3) := by decide +kernel
theorem dX12_minds_56 : decode cX12_minds 56 = .ok (.iload 5, 2) := by decide +kernel
theorem dX12_minds_58 : decode cX12_minds 58 = .ok (.ireturn, 1) := by decide +kernel
theorem dX12_minds_59 : decode cX12_minds 59 = .ok (.iload_n 2, 1) := by decide +kernel
theorem dX12_minds_60 : decode cX12_minds 60 = .ok (.ifCond .lt 16, 3) := by decide +kernel
theorem dX12_minds_63 : decode cX12_minds 63 = .ok (.iload_n 2, 1) := by decide +kernel
theorem dX12_minds_64 : decode cX12_minds 64 = .ok (.aload_n 0, 1) := by decide +kernel
theorem dX12_minds_65 : decode cX12_minds 65 = .ok (.getfield 34, 3) := by decide +kernel
theorem dX12_minds_68 : decode cX12_minds 68 = .ok (.iload_n 1, 1) := by decide +kernel
theorem dX12_minds_69 : decode cX12_minds 69 = .ok (.iaload, 1) := by decide +kernel
theorem dX12_minds_70 : decode cX12_minds 70 = .ok (.iload 4, 2) := by decide +kernel
theorem dX12_minds_72 : decode cX12_minds 72 = .ok (.isub, 1) := by decide +kernel
theorem dX12_minds_73 : decode cX12_minds 73 = .ok (.if_icmp .le 6, 3) := by decide +kernel
theorem dX12_minds_76 : decode cX12_minds 76 = .ok (.bipush (-12), 2) := by decide +kernel
theorem dX12_minds_78 : decode cX12_minds 78 = .ok (.ireturn, 1) := by decide +kernel
theorem dX12_minds_79 : decode cX12_minds 79 = .ok (.iconst 0, 1) := by decide +kernel
theorem dX12_minds_80 : decode cX12_minds 80 = .ok (.istore 6, 2) := by decide +kernel
theorem dX12_minds_82 : decode cX12_minds 82 = .ok (.iload 6, 2) := by decide +kernel
theorem dX12_minds_84 : decode cX12_minds 84 = .ok (.iload 4, 2) := by decide +kernel
theorem dX12_minds_86 : decode cX12_minds 86 = .ok (.if_icmp .ge 47, 3) := by decide +kernel
theorem dX12_minds_89 : decode cX12_minds 89 = .ok (.aload_n 0, 1) := by decide +kernel
theorem dX12_minds_90 : decode cX12_minds 90 = .ok (.getfield 37, 3) := by decide +kernel
theorem dX12_minds_93 : decode cX12_minds 93 = .ok (.bipush 40, 2) := by decide +kernel
theorem dX12_minds_95 : decode cX12_minds 95 = .ok (.iload_n 1, 1) := by decide +kernel
theorem dX12_minds_96 : decode cX12_minds 96 = .ok (.imul, 1) := by decide +kernel
theorem dX12_minds_97 : decode cX12_minds 97 = .ok (.iload_n 2, 1) := by decide +kernel
theorem dX12_minds_98 : decode cX12_minds 98 = .ok (.iadd, 1) := by decide +kernel
theorem dX12_minds_99 : decode cX12_minds 99 = .ok (.iload 6, 2) := by decide +kernel
theorem dX12_minds_101 : decode cX12_minds 101 = .ok (.iadd, 1) := by decide +kernel
theorem dX12_minds_102 : decode cX12_minds 102 = .ok (.laload, 1) := by decide +kernel
theorem dX12_minds_103 : decode cX12_minds 103 = .ok (.lstore 7, 2) := by decide +kernel
theorem dX12_minds_105 : decode cX12_minds 105 = .ok (.aload_n 0, 1) := by decide +kernel
theorem dX12_minds_106 : decode cX12_minds 106 = .ok (.iload_n 3, 1) := by decide +kernel
theorem dX12_minds_107 : decode cX12_minds 107 = .ok (.iload 6, 2) := by decide +kernel
theorem dX12_minds_109 : decode cX12_minds 109 = .ok (.iadd, 1) := by decide +kernel
theorem dX12_minds_110 : decode cX12_minds 110 = .ok (.iconst 1, 1) := by decide +kernel
theorem dX12_minds_111 : decode cX12_minds 111 = .ok (.lconst 0, 1) := by decide +kernel
theorem dX12_minds_112 : decode cX12_minds 112 = .ok (.ldc2_w 85, 3) := by decide +kernel
theorem dX12_minds_115 : decode cX12_minds 115 = .ok (.lload 7, 2) := by decide +kernel
theorem dX12_minds_117 : decode cX12_minds 117 = .ok (.invokestatic 406, 3) := by decide +kernel
theorem dX12_minds_120 : decode cX12_minds 120 = .ok (.invokestatic 409, 3) := by decide +kernel
theorem dX12_minds_123 : decode cX12_minds 123 = .ok (.l2i, 1) := by decide +kernel
theorem dX12_minds_124 : decode cX12_minds 124 = .ok (.invokevirtual 111, 3) := by decide +kernel
theorem dX12_minds_127 : decode cX12_minds 127 = .ok (.iinc 6 1, 3) := by decide +kernel
theorem dX12_minds_130 : decode cX12_minds 130 = .ok (.goto (-48), 3) := by decide +kernel
theorem dX12_minds_133 : decode cX12_minds 133 = .ok (.iload 4, 2) := by decide +kernel
theorem dX12_minds_135 : decode cX12_minds 135 = .ok (.ireturn, 1) := by decide +kernel
def fX12_minds_L82 (o : Nat) (v1 : Int32) (v2 : Int32) (v3 : Int32) (v4 : Int32) : Nat → Int32 → Mm → Option (Int32 × Mm)
  | 0, _, _ => none
  | n + 1, v6, M =>
    if v4 ≤ v6 then
      some (v4, M)
    else
      B1 (rdN M o 15 15) fun a90_11 =>
      B1 (alL M a90_11 (((40 * v1) + v2) + v6)) fun x102_12 =>
      B1 (gk M o 15) fun _ =>
      B1 (fX12_sets M o (v3 + v6) 1 ((mxL 0 (mnL 9 x102_12)).toInt32)) fun M124_14 =>
      fX12_minds_L82 o v1 v2 v3 v4 n (v6 + 1) M124_14
def fX12_minds (M : Mm) (o : Nat) (p1 : Int32) (p2 : Int32) (p3 : Int32) (p4 : Int32) : Option (Int32 × Mm) :=
  B1 (fX12_isFour M p1) fun x1_1 =>
  if x1_1 = 0 then
    some ((-1), M)
  else
    B1 (gk M o 15) fun _ =>
    B1 (fX12_isOne M o p3) fun x9_3 =>
    if x9_3 = 0 then
      some ((-1), M)
    else
      B1 (fX12_in M (p4.toInt64) 0 8) fun x22_4 =>
      if x22_4 = 0 then
        some ((-1), M)
      else
        B1 (rdN M o 15 0) fun a33_5 =>
        B1 (alI M a33_5 0) fun x37_6 =>
        if (p3 + p4) ≤ x37_6 then
          B1 (gk M o 15) fun _ =>
          B1 (fX12_lacks M o p1 0) fun x46_8 =>
          if 0 ≤ x46_8 then
            if p2 < 0 then
              some ((-12), M)
            else
              B1 (rdN M o 15 14) fun a65_9 =>
              B1 (alI M a65_9 p1) fun x69_10 =>
              if p2 ≤ (x69_10 - p4) then
                fX12_minds_L82 o p1 p2 p3 p4 FL 0 M
              else
                some ((-12), M)
          else
            some (x46_8, M)
        else
          some ((-1), M)
set_option maxRecDepth 100000 in
set_option maxHeartbeats 4000000 in
theorem kX12_minds_L82 {l : Launch} {E : Ev} {p : Program} {e : Env} {s : State} {m : MethodId} {args : Array Value} {below : List Frame} {meth : Method} {c : Code} (C : Cx E p s m args meth c cX12_minds yX12_minds.cls 9) (hr : meth.sig.returnType = (some .int)) (hin : yX12_minds.name = "<init>" → meth.name = "<init>")  {o : Nat} {v1 : Int32} {v2 : Int32} {v3 : Int32} {v4 : Int32} {rz : Int32} {Mz : Mm} : ∀ (n : Nat) (v6 : Int32) (M : Mm), fX12_minds_L82 o v1 v2 v3 v4 n v6 M = some (rz, Mz) → ∀ (H : Heap) (locs : List Loc) (ls : Array Slot), Wx E s H locs M → lv_has ls 9 [(0, .ref (E.b + o)), (1, .int v1), (2, .int v2), (3, .int v3), (4, .int v4), (6, .int v6)] → W p l e (rM 2 46 0 0) s m args below meth c H locs 0 0 (MQ below (Qp E (some (.int rz)) Mz) args s 0 0 E.A) (F0 m 82 ls []) := by
  intro n
  induction n with
  | zero =>
    intro v6 M hf
    unfold fX12_minds_L82 at hf
    cases hf
  | succ n ih =>
    intro v6 M hf H locs ls hW hl
    unfold fX12_minds_L82 at hf
    refine lv_iload C.x C.b dX12_minds_82 (lv_at hl 5 rfl) ?_
    refine lv_iload C.x C.b dX12_minds_84 (lv_at hl 4 rfl) ?_
    refine lv_icmp_ge (tgt := 133) C.x C.b dX12_minds_86 rfl (fun c86 => ?_) (fun c86 => ?_)
    · replace hf := x_ip c86 hf
      refine lv_iload C.x C.b dX12_minds_133 (lv_at hl 4 rfl) ?_
      rw [x_e1 hf, x_e2 hf]
      exact x_iret C hr hW dX12_minds_135
    · replace hf := x_in c86 hf
      refine lv_aload_n C.x C.b dX12_minds_89 rfl (lv_at hl 0 rfl) ?_
      replace hf := x_b1 hf; obtain ⟨a90_11, ha90_11, hf⟩ := hf
      refine x_getn C hW fg_X12_37_15 ha90_11 dX12_minds_90 ?_
      refine lv_bipush (v := 40) C.x C.b dX12_minds_93 (by decide) ?_
      refine lv_iload_n C.x C.b dX12_minds_95 rfl (lv_at hl 1 rfl) ?_
      refine lv_imul C.x C.b dX12_minds_96 ?_
      refine lv_iload_n C.x C.b dX12_minds_97 rfl (lv_at hl 2 rfl) ?_
      refine lv_iadd C.x C.b dX12_minds_98 ?_
      refine lv_iload C.x C.b dX12_minds_99 (lv_at hl 5 rfl) ?_
      refine lv_iadd C.x C.b dX12_minds_101 ?_
      replace hf := x_b1 hf; obtain ⟨x102_12, hx102_12, hf⟩ := hf
      refine x_lald C hW hx102_12 dX12_minds_102 ?_
      refine lv_lstore (lv' := [(7, .long _), (0, .ref (E.b + _)), (1, .int _), (2, .int _), (3, .int _), (4, .int _), (6, .int _)]) C.x C.b dX12_minds_103 hl (by decide) rfl (fun ls hl => ?_)
      refine lv_aload_n C.x C.b dX12_minds_105 rfl (lv_at hl 1 rfl) ?_
      refine lv_iload_n C.x C.b dX12_minds_106 rfl (lv_at hl 4 rfl) ?_
      refine lv_iload C.x C.b dX12_minds_107 (lv_at hl 6 rfl) ?_
      refine lv_iadd C.x C.b dX12_minds_109 ?_
      refine lv_iconst (v := 1) C.x C.b dX12_minds_110 (by decide) ?_
      refine lv_lconst (v := 0) C.x C.b dX12_minds_111 (by decide) ?_
      refine x_ldc2 (v := 9) C T_6_151 dX12_minds_112 ?_
      refine lv_lload C.x C.b dX12_minds_115 (lv_at hl 0 rfl) ?_
      refine x_mminl C hl T_8_145 T_8_146 T_1_15 T_8_147 (Nat.le_of_ble_eq_true rfl) (Nat.le_of_ble_eq_true rfl) ⟨Nat.le_of_ble_eq_true rfl, Nat.le_of_ble_eq_true rfl⟩ dX12_minds_117 ?_
      refine x_mmaxl C hl T_8_148 T_8_149 T_1_15 T_8_150 (Nat.le_of_ble_eq_true rfl) (Nat.le_of_ble_eq_true rfl) ⟨Nat.le_of_ble_eq_true rfl, Nat.le_of_ble_eq_true rfl⟩ dX12_minds_120 ?_
      refine lv_l2i (v := (mxL 0 (mnL 9 x102_12)).toInt32) C.x C.b dX12_minds_123 rfl ?_
      replace hf := x_b1 hf; obtain ⟨_, hk124_13, hf⟩ := hf
      replace hf := x_b1 hf; obtain ⟨M124_14, hM124_14, hf⟩ := hf
      refine x_callV (As := [.int (v3 + v6), .int 1, .int ((mxL 0 (mnL 9 x102_12)).toInt32)]) (a := o) (rest := []) C hW hl (qX12_sets l E hM124_14) (x_gk hk124_13) (by decide) (by decide) rfl gv_X12_111 ⟨rfl, hd_X12_sets⟩ rfl rfl (Nat.le_of_ble_eq_true rfl) dX12_minds_124 ⟨Nat.le_of_ble_eq_true rfl, Nat.le_of_ble_eq_true rfl⟩ ⟨Nat.le_of_ble_eq_true rfl, Nat.le_of_ble_eq_true rfl⟩ (fun H locs hW => ?_)
      refine lv_iinc (v := (v6 + 1)) (lv' := [(6, .int (v6 + 1)), (7, .long _), (0, .ref (E.b + _)), (1, .int _), (2, .int _), (3, .int _), (4, .int _)]) C.x C.b dX12_minds_127 hl (k := 6) rfl (by first | rfl | decide) (by decide) rfl (fun ls hl => ?_)
      refine lv_goto (tgt := 82) C.x C.b dX12_minds_130 rfl ?_
      exact ih (v6 + 1) M124_14 hf _ _ _ hW (lv_sub hl [2, 3, 4, 5, 6, 0] rfl)
set_option maxRecDepth 100000 in
set_option maxHeartbeats 4000000 in
theorem qX12_minds (l : Launch) (E : Ev) {M : Mm} {o : Nat} {p1 : Int32} {p2 : Int32} {p3 : Int32} {p4 : Int32} {rz : Int32} {Mz : Mm} (hf : fX12_minds M o p1 p2 p3 p4 = some (rz, Mz)) : Ct l E yX12_minds cX12_minds 9 (some .int) 2 46 0 0 [.ref (E.b + o), .int p1, .int p2, .int p3, .int p4] M (some (.int rz)) Mz := by
  refine ct_of (by decide +kernel) (Nat.le_of_ble_eq_true rfl) fun p e s m args below meth c C hr hin hW ls hl => ?_
  have hl : lv_has ls 9 [(0, .ref (E.b + o)), (1, .int p1), (2, .int p2), (3, .int p3), (4, .int p4)] := hl
  unfold fX12_minds at hf
  refine lv_iload_n C.x C.b dX12_minds_0 rfl (lv_at hl 1 rfl) ?_
  replace hf := x_b1 hf; obtain ⟨x1_1, hx1_1, hf⟩ := hf
  refine x_callS (As := [.int p1]) (rest := []) C hW hl (qX12_isFour l E hx1_1) gs_X12_400 hd_X12_isFour rfl rfl (Nat.le_of_ble_eq_true rfl) dX12_minds_1 ⟨Nat.le_of_ble_eq_true rfl, Nat.le_of_ble_eq_true rfl⟩ ⟨Nat.le_of_ble_eq_true rfl, Nat.le_of_ble_eq_true rfl⟩ (fun H locs hW => ?_)
  refine lv_if_eq (tgt := 41) C.x C.b dX12_minds_4 rfl (fun c4 => ?_) (fun c4 => ?_)
  · replace hf := x_ip c4 hf
    refine lv_iconst (v := (-1)) C.x C.b dX12_minds_41 (by decide) ?_
    rw [x_e1 hf, x_e2 hf]
    exact x_iret C hr hW dX12_minds_42
  · replace hf := x_in c4 hf
    refine lv_aload_n C.x C.b dX12_minds_7 rfl (lv_at hl 0 rfl) ?_
    refine lv_iload_n C.x C.b dX12_minds_8 rfl (lv_at hl 3 rfl) ?_
    replace hf := x_b1 hf; obtain ⟨_, hk9_2, hf⟩ := hf
    replace hf := x_b1 hf; obtain ⟨x9_3, hx9_3, hf⟩ := hf
    refine x_callV (As := [.int p3]) (a := o) (rest := []) C hW hl (qX12_isOne l E hx9_3) (x_gk hk9_2) (by decide) (by decide) rfl gv_X12_99 ⟨rfl, hd_X12_isOne⟩ rfl rfl (Nat.le_of_ble_eq_true rfl) dX12_minds_9 ⟨Nat.le_of_ble_eq_true rfl, Nat.le_of_ble_eq_true rfl⟩ ⟨Nat.le_of_ble_eq_true rfl, Nat.le_of_ble_eq_true rfl⟩ (fun H locs hW => ?_)
    refine lv_if_eq (tgt := 41) C.x C.b dX12_minds_12 rfl (fun c12 => ?_) (fun c12 => ?_)
    · replace hf := x_ip c12 hf
      refine lv_iconst (v := (-1)) C.x C.b dX12_minds_41 (by decide) ?_
      rw [x_e1 hf, x_e2 hf]
      exact x_iret C hr hW dX12_minds_42
    · replace hf := x_in c12 hf
      refine lv_iload C.x C.b dX12_minds_15 (lv_at hl 4 rfl) ?_
      refine lv_i2l (v := p4.toInt64) C.x C.b dX12_minds_17 rfl ?_
      refine lv_lconst (v := 0) C.x C.b dX12_minds_18 (by decide) ?_
      refine x_ldc2 (v := 8) C T_8_13 dX12_minds_19 ?_
      replace hf := x_b1 hf; obtain ⟨x22_4, hx22_4, hf⟩ := hf
      refine x_callS (As := [.long (p4.toInt64), .long 0, .long 8]) (rest := []) C hW hl (qX12_in l E hx22_4) gs_X12_61 hd_X12_in rfl rfl (Nat.le_of_ble_eq_true rfl) dX12_minds_22 ⟨Nat.le_of_ble_eq_true rfl, Nat.le_of_ble_eq_true rfl⟩ ⟨Nat.le_of_ble_eq_true rfl, Nat.le_of_ble_eq_true rfl⟩ (fun H locs hW => ?_)
      refine lv_if_eq (tgt := 41) C.x C.b dX12_minds_25 rfl (fun c25 => ?_) (fun c25 => ?_)
      · replace hf := x_ip c25 hf
        refine lv_iconst (v := (-1)) C.x C.b dX12_minds_41 (by decide) ?_
        rw [x_e1 hf, x_e2 hf]
        exact x_iret C hr hW dX12_minds_42
      · replace hf := x_in c25 hf
        refine lv_iload_n C.x C.b dX12_minds_28 rfl (lv_at hl 3 rfl) ?_
        refine lv_iload C.x C.b dX12_minds_29 (lv_at hl 4 rfl) ?_
        refine lv_iadd C.x C.b dX12_minds_31 ?_
        refine lv_aload_n C.x C.b dX12_minds_32 rfl (lv_at hl 0 rfl) ?_
        replace hf := x_b1 hf; obtain ⟨a33_5, ha33_5, hf⟩ := hf
        refine x_getn C hW fg_X12_9_15 ha33_5 dX12_minds_33 ?_
        refine lv_iconst (v := 0) C.x C.b dX12_minds_36 (by decide) ?_
        replace hf := x_b1 hf; obtain ⟨x37_6, hx37_6, hf⟩ := hf
        refine x_iald C hW hx37_6 dX12_minds_37 ?_
        refine lv_icmp_le (tgt := 43) C.x C.b dX12_minds_38 rfl (fun c38 => ?_) (fun c38 => ?_)
        · replace hf := x_ip c38 hf
          refine lv_aload_n C.x C.b dX12_minds_43 rfl (lv_at hl 0 rfl) ?_
          refine lv_iload_n C.x C.b dX12_minds_44 rfl (lv_at hl 1 rfl) ?_
          refine lv_iconst (v := 0) C.x C.b dX12_minds_45 (by decide) ?_
          replace hf := x_b1 hf; obtain ⟨_, hk46_7, hf⟩ := hf
          replace hf := x_b1 hf; obtain ⟨x46_8, hx46_8, hf⟩ := hf
          refine x_callV (As := [.int p1, .int 0]) (a := o) (rest := []) C hW hl (qX12_lacks l E hx46_8) (x_gk hk46_7) (by decide) (by decide) rfl gv_X12_403 ⟨rfl, hd_X12_lacks⟩ rfl rfl (Nat.le_of_ble_eq_true rfl) dX12_minds_46 ⟨Nat.le_of_ble_eq_true rfl, Nat.le_of_ble_eq_true rfl⟩ ⟨Nat.le_of_ble_eq_true rfl, Nat.le_of_ble_eq_true rfl⟩ (fun H locs hW => ?_)
          refine lv_istore (lv' := [(5, .int _), (0, .ref (E.b + _)), (1, .int _), (2, .int _), (3, .int _), (4, .int _)]) C.x C.b dX12_minds_49 hl (by decide) rfl (fun ls hl => ?_)
          refine lv_iload C.x C.b dX12_minds_51 (lv_at hl 0 rfl) ?_
          refine lv_if_ge (tgt := 59) C.x C.b dX12_minds_53 rfl (fun c53 => ?_) (fun c53 => ?_)
          · replace hf := x_ip c53 hf
            refine lv_iload_n C.x C.b dX12_minds_59 rfl (lv_at hl 3 rfl) ?_
            refine lv_if_lt (tgt := 76) C.x C.b dX12_minds_60 rfl (fun c60 => ?_) (fun c60 => ?_)
            · replace hf := x_ip c60 hf
              refine lv_bipush (v := (-12)) C.x C.b dX12_minds_76 (by decide) ?_
              rw [x_e1 hf, x_e2 hf]
              exact x_iret C hr hW dX12_minds_78
            · replace hf := x_in c60 hf
              refine lv_iload_n C.x C.b dX12_minds_63 rfl (lv_at hl 3 rfl) ?_
              refine lv_aload_n C.x C.b dX12_minds_64 rfl (lv_at hl 1 rfl) ?_
              replace hf := x_b1 hf; obtain ⟨a65_9, ha65_9, hf⟩ := hf
              refine x_getn C hW fg_X12_34_15 ha65_9 dX12_minds_65 ?_
              refine lv_iload_n C.x C.b dX12_minds_68 rfl (lv_at hl 2 rfl) ?_
              replace hf := x_b1 hf; obtain ⟨x69_10, hx69_10, hf⟩ := hf
              refine x_iald C hW hx69_10 dX12_minds_69 ?_
              refine lv_iload C.x C.b dX12_minds_70 (lv_at hl 5 rfl) ?_
              refine lv_isub C.x C.b dX12_minds_72 ?_
              refine lv_icmp_le (tgt := 79) C.x C.b dX12_minds_73 rfl (fun c73 => ?_) (fun c73 => ?_)
              · replace hf := x_ip c73 hf
                refine lv_iconst (v := 0) C.x C.b dX12_minds_79 (by decide) ?_
                refine lv_istore (lv' := [(6, .int _), (5, .int _), (0, .ref (E.b + _)), (1, .int _), (2, .int _), (3, .int _), (4, .int _)]) C.x C.b dX12_minds_80 hl (by decide) rfl (fun ls hl => ?_)
                exact kX12_minds_L82 C hr hin FL 0 M hf _ _ _ hW (lv_sub hl [2, 3, 4, 5, 6, 0] rfl)
              · replace hf := x_in c73 hf
                refine lv_bipush (v := (-12)) C.x C.b dX12_minds_76 (by decide) ?_
                rw [x_e1 hf, x_e2 hf]
                exact x_iret C hr hW dX12_minds_78
          · replace hf := x_in c53 hf
            refine lv_iload C.x C.b dX12_minds_56 (lv_at hl 0 rfl) ?_
            rw [x_e1 hf, x_e2 hf]
            exact x_iret C hr hW dX12_minds_58
        · replace hf := x_in c38 hf
          refine lv_iconst (v := (-1)) C.x C.b dX12_minds_41 (by decide) ?_
          rw [x_e1 hf, x_e2 hf]
          exact x_iret C hr hW dX12_minds_42

theorem dX12_shelf_0 : decode cX12_shelf 0 = .ok (.iload_n 2, 1) := by decide +kernel
theorem dX12_shelf_1 : decode cX12_shelf 1 = .ok (.ifCond .ne 11, 3) := by decide +kernel
theorem dX12_shelf_4 : decode cX12_shelf 4 = .ok (.aload_n 0, 1) := by decide +kernel
theorem dX12_shelf_5 : decode cX12_shelf 5 = .ok (.iload_n 3, 1) := by decide +kernel
theorem dX12_shelf_6 : decode cX12_shelf 6 = .ok (.invokevirtual 99, 3) := by decide +kernel
theorem dX12_shelf_9 : decode cX12_shelf 9 = .ok (.goto 25, 3) := by decide +kernel
theorem dX12_shelf_12 : decode cX12_shelf 12 = .ok (.iload_n 2, 1) := by decide +kernel
theorem dX12_shelf_13 : decode cX12_shelf 13 = .ok (.iconst 1, 1) := by decide +kernel
theorem dX12_shelf_14 : decode cX12_shelf 14 = .ok (.if_icmp .ne 10, 3) := by decide +kernel
theorem dX12_shelf_17 : decode cX12_shelf 17 = .ok (.iload_n 3, 1) := by decide +kernel
theorem dX12_shelf_18 : decode cX12_shelf 18 = .ok (.invokestatic 400, 3) := by decide +kernel
theorem dX12_shelf_21 : decode cX12_shelf 21 = .ok (.goto 13, 3) := by decide +kernel
theorem dX12_shelf_24 : decode cX12_shelf 24 = .ok (.iload_n 2, 1) := by decide +kernel
theorem dX12_shelf_25 : decode cX12_shelf 25 = .ok (.iconst 2, 1) := by decide +kernel
theorem dX12_shelf_26 : decode cX12_shelf 26 = .ok (.if_icmp .ne 7, 3) := by decide +kernel
theorem dX12_shelf_29 : decode cX12_shelf 29 = .ok (.iconst 1, 1) := by decide +kernel
theorem dX12_shelf_30 : decode cX12_shelf 30 = .ok (.goto 4, 3) := by decide +kernel
theorem dX12_shelf_33 : decode cX12_shelf 33 = .ok (.iconst 0, 1) := by decide +kernel
theorem dX12_shelf_34 : decode cX12_shelf 34 = .ok (.istore 4, 2) := by decide +kernel
theorem dX12_shelf_36 : decode cX12_shelf 36 = .ok (.iload_n 1, 1) := by decide +kernel
theorem dX12_shelf_37 : decode cX12_shelf 37 = .ok (.invokestatic 400, 3) := by decide +kernel
theorem dX12_shelf_40 : decode cX12_shelf 40 = .ok (.ifCond .eq 8, 3) := by decide +kernel
theorem dX12_shelf_43 : decode cX12_shelf 43 = .ok (.iload 4, 2) := by decide +kernel
theorem dX12_shelf_45 : decode cX12_shelf 45 = .ok (.ifCond .ne 5, 3) := by decide +kernel
theorem dX12_shelf_48 : decode cX12_shelf 48 = .ok (.iconst (-1), 1) := by decide +kernel
theorem dX12_shelf_49 : decode cX12_shelf 49 = .ok (.ireturn, 1) := by decide +kernel
theorem dX12_shelf_50 : decode cX12_shelf 50 = .ok (.iload_n 2, 1) := by decide +kernel
theorem dX12_shelf_51 : decode cX12_shelf 51 = .ok (.iconst 1, 1) := by decide +kernel
theorem dX12_shelf_52 : decode cX12_shelf 52 = .ok (.if_icmp .ne 7, 3) := by decide +kernel
theorem dX12_shelf_55 : decode cX12_shelf 55 = .ok (.iconst 1, 1) := by decide +kernel
theorem dX12_shelf_56 : decode cX12_shelf 56 = .ok (.goto 4, 3) := by decide +kernel
theorem dX12_shelf_59 : decode cX12_shelf 59 = .ok (.iconst 0, 1) := by decide +kernel
theorem dX12_shelf_60 : decode cX12_shelf 60 = .ok (.istore 5, 2) := by decide +kernel
theorem dX12_shelf_62 : decode cX12_shelf 62 = .ok (.aload_n 0, 1) := by decide +kernel
theorem dX12_shelf_63 : decode cX12_shelf 63 = .ok (.getfield 41, 3) := by decide +kernel
theorem dX12_shelf_66 : decode cX12_shelf 66 = .ok (.iload_n 1, 1) := by decide +kernel
theorem dX12_shelf_67 : decode cX12_shelf 67 = .ok (.iload 5, 2) := by decide +kernel
theorem dX12_shelf_69 : decode cX12_shelf 69 = .ok (.ifCond .eq 16, 3) := by decide +kernel
theorem dX12_shelf_72 : decode cX12_shelf 72 = .ok (.aload_n 0, 1) := by decide +kernel
theorem dX12_shelf_73 : decode cX12_shelf 73 = .ok (.getfield 31, 3) := by decide +kernel
theorem dX12_shelf_76 : decode cX12_shelf 76 = .ok (.iload_n 3, 1) := by decide +kernel
theorem dX12_shelf_77 : decode cX12_shelf 77 = .ok (.iaload, 1) := by decide +kernel
theorem dX12_shelf_78 : decode cX12_shelf 78 = .ok (.ifCond .ge 7, 3) := by decide +kernel
theorem dX12_shelf_81 : decode cX12_shelf 81 = .ok (.iconst 2, 1) := by decide +kernel
theorem dX12_shelf_82 : decode cX12_shelf 82 = .ok (.goto 4, 3) := by decide +kernel
theorem dX12_shelf_85 : decode cX12_shelf 85 = .ok (.iload_n 2, 1) := by decide +kernel
theorem dX12_shelf_86 : decode cX12_shelf 86 = .ok (.iastore, 1) := by decide +kernel
theorem dX12_shelf_87 : decode cX12_shelf 87 = .ok (.aload_n 0, 1) := by decide +kernel
theorem dX12_shelf_88 : decode cX12_shelf 88 = .ok (.getfield 44, 3) := by decide +kernel
theorem dX12_shelf_91 : decode cX12_shelf 91 = .ok (.iload_n 1, 1) := by decide +kernel
theorem dX12_shelf_92 : decode cX12_shelf 92 = .ok (.iload 5, 2) := by decide +kernel
theorem dX12_shelf_94 : decode cX12_shelf 94 = .ok (.ifCond .eq 12, 3) := by decide +kernel
theorem dX12_shelf_97 : decode cX12_shelf 97 = .ok (.aload_n 0, 1) := by decide +kernel
theorem dX12_shelf_98 : decode cX12_shelf 98 = .ok (.getfield 31, 3) := by decide +kernel
theorem dX12_shelf_101 : decode cX12_shelf 101 = .ok (.iload_n 3, 1) := by decide +kernel
theorem dX12_shelf_102 : decode cX12_shelf 102 = .ok (.iaload, 1) := by decide +kernel
theorem dX12_shelf_103 : decode cX12_shelf 103 = .ok (.goto 4, 3) := by decide +kernel
theorem dX12_shelf_106 : decode cX12_shelf 106 = .ok (.iload_n 3, 1) := by decide +kernel
theorem dX12_shelf_107 : decode cX12_shelf 107 = .ok (.iastore, 1) := by decide +kernel
theorem dX12_shelf_108 : decode cX12_shelf 108 = .ok (.aload_n 0, 1) := by decide +kernel
theorem dX12_shelf_109 : decode cX12_shelf 109 = .ok (.getfield 47, 3) := by decide +kernel
theorem dX12_shelf_112 : decode cX12_shelf 112 = .ok (.iload_n 1, 1) := by decide +kernel
theorem dX12_shelf_113 : decode cX12_shelf 113 = .ok (.iload 5, 2) := by decide +kernel
theorem dX12_shelf_115 : decode cX12_shelf 115 = .ok (.ifCond .eq 12, 3) := by decide +kernel
theorem dX12_shelf_118 : decode cX12_shelf 118 = .ok (.aload_n 0, 1) := by decide +kernel
theorem dX12_shelf_119 : decode cX12_shelf 119 = .ok (.getfield 34, 3) := by decide +kernel
theorem dX12_shelf_122 : decode cX12_shelf 122 = .ok (.iload_n 3, 1) := by decide +kernel
theorem dX12_shelf_123 : decode cX12_shelf 123 = .ok (.iaload, 1) := by decide +kernel
theorem dX12_shelf_124 : decode cX12_shelf 124 = .ok (.goto 4, 3) := by decide +kernel
theorem dX12_shelf_127 : decode cX12_shelf 127 = .ok (.iconst 0, 1) := by decide +kernel
theorem dX12_shelf_128 : decode cX12_shelf 128 = .ok (.iastore, 1) := by decide +kernel
theorem dX12_shelf_129 : decode cX12_shelf 129 = .ok (.iconst 1, 1) := by decide +kernel
theorem dX12_shelf_130 : decode cX12_shelf 130 = .ok (.ireturn, 1) := by decide +kernel
theorem fg_X12_41_15 : FdG "NylonLadderModel" 41 15 16 true := ⟨_, _, _, _, rfl, by decide, by decide, by decide, gxX12, by decide, T_6_65, Or.inl rfl, rfl⟩
theorem fg_X12_44_15 : FdG "NylonLadderModel" 44 15 17 true := ⟨_, _, _, _, rfl, by decide, by decide, by decide, gxX12, by decide, T_6_66, Or.inl rfl, rfl⟩
theorem fg_X12_47_15 : FdG "NylonLadderModel" 47 15 18 true := ⟨_, _, _, _, rfl, by decide, by decide, by decide, gxX12, by decide, T_6_67, Or.inl rfl, rfl⟩
def fX12_shelf (M : Mm) (o : Nat) (p1 : Int32) (p2 : Int32) (p3 : Int32) : Option (Int32 × Mm) :=
  if p2 = 0 then
    B1 (gk M o 15) fun _ =>
    B1 (fX12_isOne M o p3) fun x6_60 =>
    B1 (fX12_isFour M p1) fun x37_61 =>
    if x37_61 = 0 then
      some ((-1), M)
    else
      if x6_60 = 0 then
        some ((-1), M)
      else
        if p2 = 1 then
          B1 (rdN M o 15 16) fun a63_68 =>
          B1 (rdN M o 15 13) fun a73_69 =>
          B1 (alI M a73_69 p3) fun x77_70 =>
          if 0 ≤ x77_70 then
            B1 (asI M a63_68 p1 p2) fun M86_71 =>
            B1 (rdN M86_71 o 15 17) fun a88_72 =>
            B1 (rdN M86_71 o 15 13) fun a98_73 =>
            B1 (alI M86_71 a98_73 p3) fun x102_74 =>
            B1 (asI M86_71 a88_72 p1 x102_74) fun M107_75 =>
            B1 (rdN M107_75 o 15 18) fun a109_76 =>
            B1 (rdN M107_75 o 15 14) fun a119_77 =>
            B1 (alI M107_75 a119_77 p3) fun x123_78 =>
            B1 (asI M107_75 a109_76 p1 x123_78) fun M128_79 =>
            some (1, M128_79)
          else
            B1 (asI M a63_68 p1 2) fun M86_80 =>
            B1 (rdN M86_80 o 15 17) fun a88_81 =>
            B1 (rdN M86_80 o 15 13) fun a98_82 =>
            B1 (alI M86_80 a98_82 p3) fun x102_83 =>
            B1 (asI M86_80 a88_81 p1 x102_83) fun M107_84 =>
            B1 (rdN M107_84 o 15 18) fun a109_85 =>
            B1 (rdN M107_84 o 15 14) fun a119_86 =>
            B1 (alI M107_84 a119_86 p3) fun x123_87 =>
            B1 (asI M107_84 a109_85 p1 x123_87) fun M128_88 =>
            some (1, M128_88)
        else
          B1 (rdN M o 15 16) fun a63_62 =>
          B1 (asI M a63_62 p1 p2) fun M86_63 =>
          B1 (rdN M86_63 o 15 17) fun a88_64 =>
          B1 (asI M86_63 a88_64 p1 p3) fun M107_65 =>
          B1 (rdN M107_65 o 15 18) fun a109_66 =>
          B1 (asI M107_65 a109_66 p1 0) fun M128_67 =>
          some (1, M128_67)
  else
    if p2 = 1 then
      B1 (fX12_isFour M p3) fun x18_30 =>
      B1 (fX12_isFour M p1) fun x37_31 =>
      if x37_31 = 0 then
        some ((-1), M)
      else
        if x18_30 = 0 then
          some ((-1), M)
        else
          if p2 = 1 then
            B1 (rdN M o 15 16) fun a63_38 =>
            B1 (rdN M o 15 13) fun a73_39 =>
            B1 (alI M a73_39 p3) fun x77_40 =>
            if 0 ≤ x77_40 then
              B1 (asI M a63_38 p1 p2) fun M86_41 =>
              B1 (rdN M86_41 o 15 17) fun a88_42 =>
              B1 (rdN M86_41 o 15 13) fun a98_43 =>
              B1 (alI M86_41 a98_43 p3) fun x102_44 =>
              B1 (asI M86_41 a88_42 p1 x102_44) fun M107_45 =>
              B1 (rdN M107_45 o 15 18) fun a109_46 =>
              B1 (rdN M107_45 o 15 14) fun a119_47 =>
              B1 (alI M107_45 a119_47 p3) fun x123_48 =>
              B1 (asI M107_45 a109_46 p1 x123_48) fun M128_49 =>
              some (1, M128_49)
            else
              B1 (asI M a63_38 p1 2) fun M86_50 =>
              B1 (rdN M86_50 o 15 17) fun a88_51 =>
              B1 (rdN M86_50 o 15 13) fun a98_52 =>
              B1 (alI M86_50 a98_52 p3) fun x102_53 =>
              B1 (asI M86_50 a88_51 p1 x102_53) fun M107_54 =>
              B1 (rdN M107_54 o 15 18) fun a109_55 =>
              B1 (rdN M107_54 o 15 14) fun a119_56 =>
              B1 (alI M107_54 a119_56 p3) fun x123_57 =>
              B1 (asI M107_54 a109_55 p1 x123_57) fun M128_58 =>
              some (1, M128_58)
          else
            B1 (rdN M o 15 16) fun a63_32 =>
            B1 (asI M a63_32 p1 p2) fun M86_33 =>
            B1 (rdN M86_33 o 15 17) fun a88_34 =>
            B1 (asI M86_33 a88_34 p1 p3) fun M107_35 =>
            B1 (rdN M107_35 o 15 18) fun a109_36 =>
            B1 (asI M107_35 a109_36 p1 0) fun M128_37 =>
            some (1, M128_37)
    else
      if p2 = 2 then
        B1 (fX12_isFour M p1) fun x37_2 =>
        if x37_2 = 0 then
          some ((-1), M)
        else
          if p2 = 1 then
            B1 (rdN M o 15 16) fun a63_9 =>
            B1 (rdN M o 15 13) fun a73_10 =>
            B1 (alI M a73_10 p3) fun x77_11 =>
            if 0 ≤ x77_11 then
              B1 (asI M a63_9 p1 p2) fun M86_12 =>
              B1 (rdN M86_12 o 15 17) fun a88_13 =>
              B1 (rdN M86_12 o 15 13) fun a98_14 =>
              B1 (alI M86_12 a98_14 p3) fun x102_15 =>
              B1 (asI M86_12 a88_13 p1 x102_15) fun M107_16 =>
              B1 (rdN M107_16 o 15 18) fun a109_17 =>
              B1 (rdN M107_16 o 15 14) fun a119_18 =>
              B1 (alI M107_16 a119_18 p3) fun x123_19 =>
              B1 (asI M107_16 a109_17 p1 x123_19) fun M128_20 =>
              some (1, M128_20)
            else
              B1 (asI M a63_9 p1 2) fun M86_21 =>
              B1 (rdN M86_21 o 15 17) fun a88_22 =>
              B1 (rdN M86_21 o 15 13) fun a98_23 =>
              B1 (alI M86_21 a98_23 p3) fun x102_24 =>
              B1 (asI M86_21 a88_22 p1 x102_24) fun M107_25 =>
              B1 (rdN M107_25 o 15 18) fun a109_26 =>
              B1 (rdN M107_25 o 15 14) fun a119_27 =>
              B1 (alI M107_25 a119_27 p3) fun x123_28 =>
              B1 (asI M107_25 a109_26 p1 x123_28) fun M128_29 =>
              some (1, M128_29)
          else
            B1 (rdN M o 15 16) fun a63_3 =>
            B1 (asI M a63_3 p1 p2) fun M86_4 =>
            B1 (rdN M86_4 o 15 17) fun a88_5 =>
            B1 (asI M86_4 a88_5 p1 p3) fun M107_6 =>
            B1 (rdN M107_6 o 15 18) fun a109_7 =>
            B1 (asI M107_6 a109_7 p1 0) fun M128_8 =>
            some (1, M128_8)
      else
        B1 (fX12_isFour M p1) fun x37_1 =>
        if x37_1 = 0 then
          some ((-1), M)
        else
          some ((-1), M)
set_option maxRecDepth 100000 in
set_option maxHeartbeats 4000000 in
theorem qX12_shelf (l : Launch) (E : Ev) {M : Mm} {o : Nat} {p1 : Int32} {p2 : Int32} {p3 : Int32} {rz : Int32} {Mz : Mm} (hf : fX12_shelf M o p1 p2 p3 = some (rz, Mz)) : Ct l E yX12_shelf cX12_shelf 6 (some .int) 2 46 0 0 [.ref (E.b + o), .int p1, .int p2, .int p3] M (some (.int rz)) Mz := by
  refine ct_of (by decide +kernel) (Nat.le_of_ble_eq_true rfl) fun p e s m args below meth c C hr hin hW ls hl => ?_
  have hl : lv_has ls 6 [(0, .ref (E.b + o)), (1, .int p1), (2, .int p2), (3, .int p3)] := hl
  unfold fX12_shelf at hf
  refine lv_iload_n C.x C.b dX12_shelf_0 rfl (lv_at hl 2 rfl) ?_
  refine lv_if_ne (tgt := 12) C.x C.b dX12_shelf_1 rfl (fun c1 => ?_) (fun c1 => ?_)
  · replace hf := x_in c1 hf
    refine lv_iload_n C.x C.b dX12_shelf_12 rfl (lv_at hl 2 rfl) ?_
    refine lv_iconst (v := 1) C.x C.b dX12_shelf_13 (by decide) ?_
    refine lv_icmp_ne (tgt := 24) C.x C.b dX12_shelf_14 rfl (fun c14 => ?_) (fun c14 => ?_)
    · replace hf := x_in c14 hf
      refine lv_iload_n C.x C.b dX12_shelf_24 rfl (lv_at hl 2 rfl) ?_
      refine lv_iconst (v := 2) C.x C.b dX12_shelf_25 (by decide) ?_
      refine lv_icmp_ne (tgt := 33) C.x C.b dX12_shelf_26 rfl (fun c26 => ?_) (fun c26 => ?_)
      · replace hf := x_in c26 hf
        refine lv_iconst (v := 0) C.x C.b dX12_shelf_33 (by decide) ?_
        refine lv_istore (lv' := [(4, .int _), (0, .ref (E.b + _)), (1, .int _), (2, .int _), (3, .int _)]) C.x C.b dX12_shelf_34 hl (by decide) rfl (fun ls hl => ?_)
        refine lv_iload_n C.x C.b dX12_shelf_36 rfl (lv_at hl 2 rfl) ?_
        replace hf := x_b1 hf; obtain ⟨x37_1, hx37_1, hf⟩ := hf
        refine x_callS (As := [.int p1]) (rest := []) C hW hl (qX12_isFour l E hx37_1) gs_X12_400 hd_X12_isFour rfl rfl (Nat.le_of_ble_eq_true rfl) dX12_shelf_37 ⟨Nat.le_of_ble_eq_true rfl, Nat.le_of_ble_eq_true rfl⟩ ⟨Nat.le_of_ble_eq_true rfl, Nat.le_of_ble_eq_true rfl⟩ (fun H locs hW => ?_)
        refine lv_if_eq (tgt := 48) C.x C.b dX12_shelf_40 rfl (fun c40 => ?_) (fun c40 => ?_)
        · replace hf := x_ip c40 hf
          refine lv_iconst (v := (-1)) C.x C.b dX12_shelf_48 (by decide) ?_
          rw [x_e1 hf, x_e2 hf]
          exact x_iret C hr hW dX12_shelf_49
        · replace hf := x_in c40 hf
          refine lv_iload C.x C.b dX12_shelf_43 (lv_at hl 0 rfl) ?_
          refine lv_if_ne (tgt := 50) C.x C.b dX12_shelf_45 rfl (fun c_ => absurd (by decide) c_) (fun _ => ?_)
          refine lv_iconst (v := (-1)) C.x C.b dX12_shelf_48 (by decide) ?_
          rw [x_e1 hf, x_e2 hf]
          exact x_iret C hr hW dX12_shelf_49
      · replace hf := x_ip c26 hf
        refine lv_iconst (v := 1) C.x C.b dX12_shelf_29 (by decide) ?_
        refine lv_goto (tgt := 34) C.x C.b dX12_shelf_30 rfl ?_
        refine lv_istore (lv' := [(4, .int _), (0, .ref (E.b + _)), (1, .int _), (2, .int _), (3, .int _)]) C.x C.b dX12_shelf_34 hl (by decide) rfl (fun ls hl => ?_)
        refine lv_iload_n C.x C.b dX12_shelf_36 rfl (lv_at hl 2 rfl) ?_
        replace hf := x_b1 hf; obtain ⟨x37_2, hx37_2, hf⟩ := hf
        refine x_callS (As := [.int p1]) (rest := []) C hW hl (qX12_isFour l E hx37_2) gs_X12_400 hd_X12_isFour rfl rfl (Nat.le_of_ble_eq_true rfl) dX12_shelf_37 ⟨Nat.le_of_ble_eq_true rfl, Nat.le_of_ble_eq_true rfl⟩ ⟨Nat.le_of_ble_eq_true rfl, Nat.le_of_ble_eq_true rfl⟩ (fun H locs hW => ?_)
        refine lv_if_eq (tgt := 48) C.x C.b dX12_shelf_40 rfl (fun c40 => ?_) (fun c40 => ?_)
        · replace hf := x_ip c40 hf
          refine lv_iconst (v := (-1)) C.x C.b dX12_shelf_48 (by decide) ?_
          rw [x_e1 hf, x_e2 hf]
          exact x_iret C hr hW dX12_shelf_49
        · replace hf := x_in c40 hf
          refine lv_iload C.x C.b dX12_shelf_43 (lv_at hl 0 rfl) ?_
          refine lv_if_ne (tgt := 50) C.x C.b dX12_shelf_45 rfl (fun _ => ?_) (fun c_ => absurd c_ (by decide))
          refine lv_iload_n C.x C.b dX12_shelf_50 rfl (lv_at hl 3 rfl) ?_
          refine lv_iconst (v := 1) C.x C.b dX12_shelf_51 (by decide) ?_
          refine lv_icmp_ne (tgt := 59) C.x C.b dX12_shelf_52 rfl (fun c52 => ?_) (fun c52 => ?_)
          · replace hf := x_in c52 hf
            refine lv_iconst (v := 0) C.x C.b dX12_shelf_59 (by decide) ?_
            refine lv_istore (lv' := [(5, .int _), (4, .int _), (0, .ref (E.b + _)), (1, .int _), (2, .int _), (3, .int _)]) C.x C.b dX12_shelf_60 hl (by decide) rfl (fun ls hl => ?_)
            refine lv_aload_n C.x C.b dX12_shelf_62 rfl (lv_at hl 2 rfl) ?_
            replace hf := x_b1 hf; obtain ⟨a63_3, ha63_3, hf⟩ := hf
            refine x_getn C hW fg_X12_41_15 ha63_3 dX12_shelf_63 ?_
            refine lv_iload_n C.x C.b dX12_shelf_66 rfl (lv_at hl 3 rfl) ?_
            refine lv_iload C.x C.b dX12_shelf_67 (lv_at hl 0 rfl) ?_
            refine lv_if_eq (tgt := 85) C.x C.b dX12_shelf_69 rfl (fun _ => ?_) (fun c_ => absurd (by decide) c_)
            refine lv_iload_n C.x C.b dX12_shelf_85 rfl (lv_at hl 4 rfl) ?_
            replace hf := x_b1 hf; obtain ⟨M86_4, hM86_4, hf⟩ := hf
            refine x_iast C hW hM86_4 dX12_shelf_86 (fun H locs hW => ?_)
            refine lv_aload_n C.x C.b dX12_shelf_87 rfl (lv_at hl 2 rfl) ?_
            replace hf := x_b1 hf; obtain ⟨a88_5, ha88_5, hf⟩ := hf
            refine x_getn C hW fg_X12_44_15 ha88_5 dX12_shelf_88 ?_
            refine lv_iload_n C.x C.b dX12_shelf_91 rfl (lv_at hl 3 rfl) ?_
            refine lv_iload C.x C.b dX12_shelf_92 (lv_at hl 0 rfl) ?_
            refine lv_if_eq (tgt := 106) C.x C.b dX12_shelf_94 rfl (fun _ => ?_) (fun c_ => absurd (by decide) c_)
            refine lv_iload_n C.x C.b dX12_shelf_106 rfl (lv_at hl 5 rfl) ?_
            replace hf := x_b1 hf; obtain ⟨M107_6, hM107_6, hf⟩ := hf
            refine x_iast C hW hM107_6 dX12_shelf_107 (fun H locs hW => ?_)
            refine lv_aload_n C.x C.b dX12_shelf_108 rfl (lv_at hl 2 rfl) ?_
            replace hf := x_b1 hf; obtain ⟨a109_7, ha109_7, hf⟩ := hf
            refine x_getn C hW fg_X12_47_15 ha109_7 dX12_shelf_109 ?_
            refine lv_iload_n C.x C.b dX12_shelf_112 rfl (lv_at hl 3 rfl) ?_
            refine lv_iload C.x C.b dX12_shelf_113 (lv_at hl 0 rfl) ?_
            refine lv_if_eq (tgt := 127) C.x C.b dX12_shelf_115 rfl (fun _ => ?_) (fun c_ => absurd (by decide) c_)
            refine lv_iconst (v := 0) C.x C.b dX12_shelf_127 (by decide) ?_
            replace hf := x_b1 hf; obtain ⟨M128_8, hM128_8, hf⟩ := hf
            refine x_iast C hW hM128_8 dX12_shelf_128 (fun H locs hW => ?_)
            refine lv_iconst (v := 1) C.x C.b dX12_shelf_129 (by decide) ?_
            rw [x_e1 hf, x_e2 hf]
            exact x_iret C hr hW dX12_shelf_130
          · replace hf := x_ip c52 hf
            refine lv_iconst (v := 1) C.x C.b dX12_shelf_55 (by decide) ?_
            refine lv_goto (tgt := 60) C.x C.b dX12_shelf_56 rfl ?_
            refine lv_istore (lv' := [(5, .int _), (4, .int _), (0, .ref (E.b + _)), (1, .int _), (2, .int _), (3, .int _)]) C.x C.b dX12_shelf_60 hl (by decide) rfl (fun ls hl => ?_)
            refine lv_aload_n C.x C.b dX12_shelf_62 rfl (lv_at hl 2 rfl) ?_
            replace hf := x_b1 hf; obtain ⟨a63_9, ha63_9, hf⟩ := hf
            refine x_getn C hW fg_X12_41_15 ha63_9 dX12_shelf_63 ?_
            refine lv_iload_n C.x C.b dX12_shelf_66 rfl (lv_at hl 3 rfl) ?_
            refine lv_iload C.x C.b dX12_shelf_67 (lv_at hl 0 rfl) ?_
            refine lv_if_eq (tgt := 85) C.x C.b dX12_shelf_69 rfl (fun c_ => absurd c_ (by decide)) (fun _ => ?_)
            refine lv_aload_n C.x C.b dX12_shelf_72 rfl (lv_at hl 2 rfl) ?_
            replace hf := x_b1 hf; obtain ⟨a73_10, ha73_10, hf⟩ := hf
            refine x_getn C hW fg_X12_31_15 ha73_10 dX12_shelf_73 ?_
            refine lv_iload_n C.x C.b dX12_shelf_76 rfl (lv_at hl 5 rfl) ?_
            replace hf := x_b1 hf; obtain ⟨x77_11, hx77_11, hf⟩ := hf
            refine x_iald C hW hx77_11 dX12_shelf_77 ?_
            refine lv_if_ge (tgt := 85) C.x C.b dX12_shelf_78 rfl (fun c78 => ?_) (fun c78 => ?_)
            · replace hf := x_ip c78 hf
              refine lv_iload_n C.x C.b dX12_shelf_85 rfl (lv_at hl 4 rfl) ?_
              replace hf := x_b1 hf; obtain ⟨M86_12, hM86_12, hf⟩ := hf
              refine x_iast C hW hM86_12 dX12_shelf_86 (fun H locs hW => ?_)
              refine lv_aload_n C.x C.b dX12_shelf_87 rfl (lv_at hl 2 rfl) ?_
              replace hf := x_b1 hf; obtain ⟨a88_13, ha88_13, hf⟩ := hf
              refine x_getn C hW fg_X12_44_15 ha88_13 dX12_shelf_88 ?_
              refine lv_iload_n C.x C.b dX12_shelf_91 rfl (lv_at hl 3 rfl) ?_
              refine lv_iload C.x C.b dX12_shelf_92 (lv_at hl 0 rfl) ?_
              refine lv_if_eq (tgt := 106) C.x C.b dX12_shelf_94 rfl (fun c_ => absurd c_ (by decide)) (fun _ => ?_)
              refine lv_aload_n C.x C.b dX12_shelf_97 rfl (lv_at hl 2 rfl) ?_
              replace hf := x_b1 hf; obtain ⟨a98_14, ha98_14, hf⟩ := hf
              refine x_getn C hW fg_X12_31_15 ha98_14 dX12_shelf_98 ?_
              refine lv_iload_n C.x C.b dX12_shelf_101 rfl (lv_at hl 5 rfl) ?_
              replace hf := x_b1 hf; obtain ⟨x102_15, hx102_15, hf⟩ := hf
              refine x_iald C hW hx102_15 dX12_shelf_102 ?_
              refine lv_goto (tgt := 107) C.x C.b dX12_shelf_103 rfl ?_
              replace hf := x_b1 hf; obtain ⟨M107_16, hM107_16, hf⟩ := hf
              refine x_iast C hW hM107_16 dX12_shelf_107 (fun H locs hW => ?_)
              refine lv_aload_n C.x C.b dX12_shelf_108 rfl (lv_at hl 2 rfl) ?_
              replace hf := x_b1 hf; obtain ⟨a109_17, ha109_17, hf⟩ := hf
              refine x_getn C hW fg_X12_47_15 ha109_17 dX12_shelf_109 ?_
              refine lv_iload_n C.x C.b dX12_shelf_112 rfl (lv_at hl 3 rfl) ?_
              refine lv_iload C.x C.b dX12_shelf_113 (lv_at hl 0 rfl) ?_
              refine lv_if_eq (tgt := 127) C.x C.b dX12_shelf_115 rfl (fun c_ => absurd c_ (by decide)) (fun _ => ?_)
              refine lv_aload_n C.x C.b dX12_shelf_118 rfl (lv_at hl 2 rfl) ?_
              replace hf := x_b1 hf; obtain ⟨a119_18, ha119_18, hf⟩ := hf
              refine x_getn C hW fg_X12_34_15 ha119_18 dX12_shelf_119 ?_
              refine lv_iload_n C.x C.b dX12_shelf_122 rfl (lv_at hl 5 rfl) ?_
              replace hf := x_b1 hf; obtain ⟨x123_19, hx123_19, hf⟩ := hf
              refine x_iald C hW hx123_19 dX12_shelf_123 ?_
              refine lv_goto (tgt := 128) C.x C.b dX12_shelf_124 rfl ?_
              replace hf := x_b1 hf; obtain ⟨M128_20, hM128_20, hf⟩ := hf
              refine x_iast C hW hM128_20 dX12_shelf_128 (fun H locs hW => ?_)
              refine lv_iconst (v := 1) C.x C.b dX12_shelf_129 (by decide) ?_
              rw [x_e1 hf, x_e2 hf]
              exact x_iret C hr hW dX12_shelf_130
            · replace hf := x_in c78 hf
              refine lv_iconst (v := 2) C.x C.b dX12_shelf_81 (by decide) ?_
              refine lv_goto (tgt := 86) C.x C.b dX12_shelf_82 rfl ?_
              replace hf := x_b1 hf; obtain ⟨M86_21, hM86_21, hf⟩ := hf
              refine x_iast C hW hM86_21 dX12_shelf_86 (fun H locs hW => ?_)
              refine lv_aload_n C.x C.b dX12_shelf_87 rfl (lv_at hl 2 rfl) ?_
              replace hf := x_b1 hf; obtain ⟨a88_22, ha88_22, hf⟩ := hf
              refine x_getn C hW fg_X12_44_15 ha88_22 dX12_shelf_88 ?_
              refine lv_iload_n C.x C.b dX12_shelf_91 rfl (lv_at hl 3 rfl) ?_
              refine lv_iload C.x C.b dX12_shelf_92 (lv_at hl 0 rfl) ?_
              refine lv_if_eq (tgt := 106) C.x C.b dX12_shelf_94 rfl (fun c_ => absurd c_ (by decide)) (fun _ => ?_)
              refine lv_aload_n C.x C.b dX12_shelf_97 rfl (lv_at hl 2 rfl) ?_
              replace hf := x_b1 hf; obtain ⟨a98_23, ha98_23, hf⟩ := hf
              refine x_getn C hW fg_X12_31_15 ha98_23 dX12_shelf_98 ?_
              refine lv_iload_n C.x C.b dX12_shelf_101 rfl (lv_at hl 5 rfl) ?_
              replace hf := x_b1 hf; obtain ⟨x102_24, hx102_24, hf⟩ := hf
              refine x_iald C hW hx102_24 dX12_shelf_102 ?_
              refine lv_goto (tgt := 107) C.x C.b dX12_shelf_103 rfl ?_
              replace hf := x_b1 hf; obtain ⟨M107_25, hM107_25, hf⟩ := hf
              refine x_iast C hW hM107_25 dX12_shelf_107 (fun H locs hW => ?_)
              refine lv_aload_n C.x C.b dX12_shelf_108 rfl (lv_at hl 2 rfl) ?_
              replace hf := x_b1 hf; obtain ⟨a109_26, ha109_26, hf⟩ := hf
              refine x_getn C hW fg_X12_47_15 ha109_26 dX12_shelf_109 ?_
              refine lv_iload_n C.x C.b dX12_shelf_112 rfl (lv_at hl 3 rfl) ?_
              refine lv_iload C.x C.b dX12_shelf_113 (lv_at hl 0 rfl) ?_
              refine lv_if_eq (tgt := 127) C.x C.b dX12_shelf_115 rfl (fun c_ => absurd c_ (by decide)) (fun _ => ?_)
              refine lv_aload_n C.x C.b dX12_shelf_118 rfl (lv_at hl 2 rfl) ?_
              replace hf := x_b1 hf; obtain ⟨a119_27, ha119_27, hf⟩ := hf
              refine x_getn C hW fg_X12_34_15 ha119_27 dX12_shelf_119 ?_
              refine lv_iload_n C.x C.b dX12_shelf_122 rfl (lv_at hl 5 rfl) ?_
              replace hf := x_b1 hf; obtain ⟨x123_28, hx123_28, hf⟩ := hf
              refine x_iald C hW hx123_28 dX12_shelf_123 ?_
              refine lv_goto (tgt := 128) C.x C.b dX12_shelf_124 rfl ?_
              replace hf := x_b1 hf; obtain ⟨M128_29, hM128_29, hf⟩ := hf
              refine x_iast C hW hM128_29 dX12_shelf_128 (fun H locs hW => ?_)
              refine lv_iconst (v := 1) C.x C.b dX12_shelf_129 (by decide) ?_
              rw [x_e1 hf, x_e2 hf]
              exact x_iret C hr hW dX12_shelf_130
    · replace hf := x_ip c14 hf
      refine lv_iload_n C.x C.b dX12_shelf_17 rfl (lv_at hl 3 rfl) ?_
      replace hf := x_b1 hf; obtain ⟨x18_30, hx18_30, hf⟩ := hf
      refine x_callS (As := [.int p3]) (rest := []) C hW hl (qX12_isFour l E hx18_30) gs_X12_400 hd_X12_isFour rfl rfl (Nat.le_of_ble_eq_true rfl) dX12_shelf_18 ⟨Nat.le_of_ble_eq_true rfl, Nat.le_of_ble_eq_true rfl⟩ ⟨Nat.le_of_ble_eq_true rfl, Nat.le_of_ble_eq_true rfl⟩ (fun H locs hW => ?_)
      refine lv_goto (tgt := 34) C.x C.b dX12_shelf_21 rfl ?_
      refine lv_istore (lv' := [(4, .int _), (0, .ref (E.b + _)), (1, .int _), (2, .int _), (3, .int _)]) C.x C.b dX12_shelf_34 hl (by decide) rfl (fun ls hl => ?_)
      refine lv_iload_n C.x C.b dX12_shelf_36 rfl (lv_at hl 2 rfl) ?_
      replace hf := x_b1 hf; obtain ⟨x37_31, hx37_31, hf⟩ := hf
      refine x_callS (As := [.int p1]) (rest := []) C hW hl (qX12_isFour l E hx37_31) gs_X12_400 hd_X12_isFour rfl rfl (Nat.le_of_ble_eq_true rfl) dX12_shelf_37 ⟨Nat.le_of_ble_eq_true rfl, Nat.le_of_ble_eq_true rfl⟩ ⟨Nat.le_of_ble_eq_true rfl, Nat.le_of_ble_eq_true rfl⟩ (fun H locs hW => ?_)
      refine lv_if_eq (tgt := 48) C.x C.b dX12_shelf_40 rfl (fun c40 => ?_) (fun c40 => ?_)
      · replace hf := x_ip c40 hf
        refine lv_iconst (v := (-1)) C.x C.b dX12_shelf_48 (by decide) ?_
        rw [x_e1 hf, x_e2 hf]
        exact x_iret C hr hW dX12_shelf_49
      · replace hf := x_in c40 hf
        refine lv_iload C.x C.b dX12_shelf_43 (lv_at hl 0 rfl) ?_
        refine lv_if_ne (tgt := 50) C.x C.b dX12_shelf_45 rfl (fun c45 => ?_) (fun c45 => ?_)
        · replace hf := x_in c45 hf
          refine lv_iload_n C.x C.b dX12_shelf_50 rfl (lv_at hl 3 rfl) ?_
          refine lv_iconst (v := 1) C.x C.b dX12_shelf_51 (by decide) ?_
          refine lv_icmp_ne (tgt := 59) C.x C.b dX12_shelf_52 rfl (fun c52 => ?_) (fun c52 => ?_)
          · replace hf := x_in c52 hf
            refine lv_iconst (v := 0) C.x C.b dX12_shelf_59 (by decide) ?_
            refine lv_istore (lv' := [(5, .int _), (4, .int _), (0, .ref (E.b + _)), (1, .int _), (2, .int _), (3, .int _)]) C.x C.b dX12_shelf_60 hl (by decide) rfl (fun ls hl => ?_)
            refine lv_aload_n C.x C.b dX12_shelf_62 rfl (lv_at hl 2 rfl) ?_
            replace hf := x_b1 hf; obtain ⟨a63_32, ha63_32, hf⟩ := hf
            refine x_getn C hW fg_X12_41_15 ha63_32 dX12_shelf_63 ?_
            refine lv_iload_n C.x C.b dX12_shelf_66 rfl (lv_at hl 3 rfl) ?_
            refine lv_iload C.x C.b dX12_shelf_67 (lv_at hl 0 rfl) ?_
            refine lv_if_eq (tgt := 85) C.x C.b dX12_shelf_69 rfl (fun _ => ?_) (fun c_ => absurd (by decide) c_)
            refine lv_iload_n C.x C.b dX12_shelf_85 rfl (lv_at hl 4 rfl) ?_
            replace hf := x_b1 hf; obtain ⟨M86_33, hM86_33, hf⟩ := hf
            refine x_iast C hW hM86_33 dX12_shelf_86 (fun H locs hW => ?_)
            refine lv_aload_n C.x C.b dX12_shelf_87 rfl (lv_at hl 2 rfl) ?_
            replace hf := x_b1 hf; obtain ⟨a88_34, ha88_34, hf⟩ := hf
            refine x_getn C hW fg_X12_44_15 ha88_34 dX12_shelf_88 ?_
            refine lv_iload_n C.x C.b dX12_shelf_91 rfl (lv_at hl 3 rfl) ?_
            refine lv_iload C.x C.b dX12_shelf_92 (lv_at hl 0 rfl) ?_
            refine lv_if_eq (tgt := 106) C.x C.b dX12_shelf_94 rfl (fun _ => ?_) (fun c_ => absurd (by decide) c_)
            refine lv_iload_n C.x C.b dX12_shelf_106 rfl (lv_at hl 5 rfl) ?_
            replace hf := x_b1 hf; obtain ⟨M107_35, hM107_35, hf⟩ := hf
            refine x_iast C hW hM107_35 dX12_shelf_107 (fun H locs hW => ?_)
            refine lv_aload_n C.x C.b dX12_shelf_108 rfl (lv_at hl 2 rfl) ?_
            replace hf := x_b1 hf; obtain ⟨a109_36, ha109_36, hf⟩ := hf
            refine x_getn C hW fg_X12_47_15 ha109_36 dX12_shelf_109 ?_
            refine lv_iload_n C.x C.b dX12_shelf_112 rfl (lv_at hl 3 rfl) ?_
            refine lv_iload C.x C.b dX12_shelf_113 (lv_at hl 0 rfl) ?_
            refine lv_if_eq (tgt := 127) C.x C.b dX12_shelf_115 rfl (fun _ => ?_) (fun c_ => absurd (by decide) c_)
            refine lv_iconst (v := 0) C.x C.b dX12_shelf_127 (by decide) ?_
            replace hf := x_b1 hf; obtain ⟨M128_37, hM128_37, hf⟩ := hf
            refine x_iast C hW hM128_37 dX12_shelf_128 (fun H locs hW => ?_)
            refine lv_iconst (v := 1) C.x C.b dX12_shelf_129 (by decide) ?_
            rw [x_e1 hf, x_e2 hf]
            exact x_iret C hr hW dX12_shelf_130
          · replace hf := x_ip c52 hf
            refine lv_iconst (v := 1) C.x C.b dX12_shelf_55 (by decide) ?_
            refine lv_goto (tgt := 60) C.x C.b dX12_shelf_56 rfl ?_
            refine lv_istore (lv' := [(5, .int _), (4, .int _), (0, .ref (E.b + _)), (1, .int _), (2, .int _), (3, .int _)]) C.x C.b dX12_shelf_60 hl (by decide) rfl (fun ls hl => ?_)
            refine lv_aload_n C.x C.b dX12_shelf_62 rfl (lv_at hl 2 rfl) ?_
            replace hf := x_b1 hf; obtain ⟨a63_38, ha63_38, hf⟩ := hf
            refine x_getn C hW fg_X12_41_15 ha63_38 dX12_shelf_63 ?_
            refine lv_iload_n C.x C.b dX12_shelf_66 rfl (lv_at hl 3 rfl) ?_
            refine lv_iload C.x C.b dX12_shelf_67 (lv_at hl 0 rfl) ?_
            refine lv_if_eq (tgt := 85) C.x C.b dX12_shelf_69 rfl (fun c_ => absurd c_ (by decide)) (fun _ => ?_)
            refine lv_aload_n C.x C.b dX12_shelf_72 rfl (lv_at hl 2 rfl) ?_
            replace hf := x_b1 hf; obtain ⟨a73_39, ha73_39, hf⟩ := hf
            refine x_getn C hW fg_X12_31_15 ha73_39 dX12_shelf_73 ?_
            refine lv_iload_n C.x C.b dX12_shelf_76 rfl (lv_at hl 5 rfl) ?_
            replace hf := x_b1 hf; obtain ⟨x77_40, hx77_40, hf⟩ := hf
            refine x_iald C hW hx77_40 dX12_shelf_77 ?_
            refine lv_if_ge (tgt := 85) C.x C.b dX12_shelf_78 rfl (fun c78 => ?_) (fun c78 => ?_)
            · replace hf := x_ip c78 hf
              refine lv_iload_n C.x C.b dX12_shelf_85 rfl (lv_at hl 4 rfl) ?_
              replace hf := x_b1 hf; obtain ⟨M86_41, hM86_41, hf⟩ := hf
              refine x_iast C hW hM86_41 dX12_shelf_86 (fun H locs hW => ?_)
              refine lv_aload_n C.x C.b dX12_shelf_87 rfl (lv_at hl 2 rfl) ?_
              replace hf := x_b1 hf; obtain ⟨a88_42, ha88_42, hf⟩ := hf
              refine x_getn C hW fg_X12_44_15 ha88_42 dX12_shelf_88 ?_
              refine lv_iload_n C.x C.b dX12_shelf_91 rfl (lv_at hl 3 rfl) ?_
              refine lv_iload C.x C.b dX12_shelf_92 (lv_at hl 0 rfl) ?_
              refine lv_if_eq (tgt := 106) C.x C.b dX12_shelf_94 rfl (fun c_ => absurd c_ (by decide)) (fun _ => ?_)
              refine lv_aload_n C.x C.b dX12_shelf_97 rfl (lv_at hl 2 rfl) ?_
              replace hf := x_b1 hf; obtain ⟨a98_43, ha98_43, hf⟩ := hf
              refine x_getn C hW fg_X12_31_15 ha98_43 dX12_shelf_98 ?_
              refine lv_iload_n C.x C.b dX12_shelf_101 rfl (lv_at hl 5 rfl) ?_
              replace hf := x_b1 hf; obtain ⟨x102_44, hx102_44, hf⟩ := hf
              refine x_iald C hW hx102_44 dX12_shelf_102 ?_
              refine lv_goto (tgt := 107) C.x C.b dX12_shelf_103 rfl ?_
              replace hf := x_b1 hf; obtain ⟨M107_45, hM107_45, hf⟩ := hf
              refine x_iast C hW hM107_45 dX12_shelf_107 (fun H locs hW => ?_)
              refine lv_aload_n C.x C.b dX12_shelf_108 rfl (lv_at hl 2 rfl) ?_
              replace hf := x_b1 hf; obtain ⟨a109_46, ha109_46, hf⟩ := hf
              refine x_getn C hW fg_X12_47_15 ha109_46 dX12_shelf_109 ?_
              refine lv_iload_n C.x C.b dX12_shelf_112 rfl (lv_at hl 3 rfl) ?_
              refine lv_iload C.x C.b dX12_shelf_113 (lv_at hl 0 rfl) ?_
              refine lv_if_eq (tgt := 127) C.x C.b dX12_shelf_115 rfl (fun c_ => absurd c_ (by decide)) (fun _ => ?_)
              refine lv_aload_n C.x C.b dX12_shelf_118 rfl (lv_at hl 2 rfl) ?_
              replace hf := x_b1 hf; obtain ⟨a119_47, ha119_47, hf⟩ := hf
              refine x_getn C hW fg_X12_34_15 ha119_47 dX12_shelf_119 ?_
              refine lv_iload_n C.x C.b dX12_shelf_122 rfl (lv_at hl 5 rfl) ?_
              replace hf := x_b1 hf; obtain ⟨x123_48, hx123_48, hf⟩ := hf
              refine x_iald C hW hx123_48 dX12_shelf_123 ?_
              refine lv_goto (tgt := 128) C.x C.b dX12_shelf_124 rfl ?_
              replace hf := x_b1 hf; obtain ⟨M128_49, hM128_49, hf⟩ := hf
              refine x_iast C hW hM128_49 dX12_shelf_128 (fun H locs hW => ?_)
              refine lv_iconst (v := 1) C.x C.b dX12_shelf_129 (by decide) ?_
              rw [x_e1 hf, x_e2 hf]
              exact x_iret C hr hW dX12_shelf_130
            · replace hf := x_in c78 hf
              refine lv_iconst (v := 2) C.x C.b dX12_shelf_81 (by decide) ?_
              refine lv_goto (tgt := 86) C.x C.b dX12_shelf_82 rfl ?_
              replace hf := x_b1 hf; obtain ⟨M86_50, hM86_50, hf⟩ := hf
              refine x_iast C hW hM86_50 dX12_shelf_86 (fun H locs hW => ?_)
              refine lv_aload_n C.x C.b dX12_shelf_87 rfl (lv_at hl 2 rfl) ?_
              replace hf := x_b1 hf; obtain ⟨a88_51, ha88_51, hf⟩ := hf
              refine x_getn C hW fg_X12_44_15 ha88_51 dX12_shelf_88 ?_
              refine lv_iload_n C.x C.b dX12_shelf_91 rfl (lv_at hl 3 rfl) ?_
              refine lv_iload C.x C.b dX12_shelf_92 (lv_at hl 0 rfl) ?_
              refine lv_if_eq (tgt := 106) C.x C.b dX12_shelf_94 rfl (fun c_ => absurd c_ (by decide)) (fun _ => ?_)
              refine lv_aload_n C.x C.b dX12_shelf_97 rfl (lv_at hl 2 rfl) ?_
              replace hf := x_b1 hf; obtain ⟨a98_52, ha98_52, hf⟩ := hf
              refine x_getn C hW fg_X12_31_15 ha98_52 dX12_shelf_98 ?_
              refine lv_iload_n C.x C.b dX12_shelf_101 rfl (lv_at hl 5 rfl) ?_
              replace hf := x_b1 hf; obtain ⟨x102_53, hx102_53, hf⟩ := hf
              refine x_iald C hW hx102_53 dX12_shelf_102 ?_
              refine lv_goto (tgt := 107) C.x C.b dX12_shelf_103 rfl ?_
              replace hf := x_b1 hf; obtain ⟨M107_54, hM107_54, hf⟩ := hf
              refine x_iast C hW hM107_54 dX12_shelf_107 (fun H locs hW => ?_)
              refine lv_aload_n C.x C.b dX12_shelf_108 rfl (lv_at hl 2 rfl) ?_
              replace hf := x_b1 hf; obtain ⟨a109_55, ha109_55, hf⟩ := hf
              refine x_getn C hW fg_X12_47_15 ha109_55 dX12_shelf_109 ?_
              refine lv_iload_n C.x C.b dX12_shelf_112 rfl (lv_at hl 3 rfl) ?_
              refine lv_iload C.x C.b dX12_shelf_113 (lv_at hl 0 rfl) ?_
              refine lv_if_eq (tgt := 127) C.x C.b dX12_shelf_115 rfl (fun c_ => absurd c_ (by decide)) (fun _ => ?_)
              refine lv_aload_n C.x C.b dX12_shelf_118 rfl (lv_at hl 2 rfl) ?_
              replace hf := x_b1 hf; obtain ⟨a119_56, ha119_56, hf⟩ := hf
              refine x_getn C hW fg_X12_34_15 ha119_56 dX12_shelf_119 ?_
              refine lv_iload_n C.x C.b dX12_shelf_122 rfl (lv_at hl 5 rfl) ?_
              replace hf := x_b1 hf; obtain ⟨x123_57, hx123_57, hf⟩ := hf
              refine x_iald C hW hx123_57 dX12_shelf_123 ?_
              refine lv_goto (tgt := 128) C.x C.b dX12_shelf_124 rfl ?_
              replace hf := x_b1 hf; obtain ⟨M128_58, hM128_58, hf⟩ := hf
              refine x_iast C hW hM128_58 dX12_shelf_128 (fun H locs hW => ?_)
              refine lv_iconst (v := 1) C.x C.b dX12_shelf_129 (by decide) ?_
              rw [x_e1 hf, x_e2 hf]
              exact x_iret C hr hW dX12_shelf_130
        · replace hf := x_ip c45 hf
          refine lv_iconst (v := (-1)) C.x C.b dX12_shelf_48 (by decide) ?_
          rw [x_e1 hf, x_e2 hf]
          exact x_iret C hr hW dX12_shelf_49
  · replace hf := x_ip c1 hf
    refine lv_aload_n C.x C.b dX12_shelf_4 rfl (lv_at hl 0 rfl) ?_
    refine lv_iload_n C.x C.b dX12_shelf_5 rfl (lv_at hl 3 rfl) ?_
    replace hf := x_b1 hf; obtain ⟨_, hk6_59, hf⟩ := hf
    replace hf := x_b1 hf; obtain ⟨x6_60, hx6_60, hf⟩ := hf
    refine x_callV (As := [.int p3]) (a := o) (rest := []) C hW hl (qX12_isOne l E hx6_60) (x_gk hk6_59) (by decide) (by decide) rfl gv_X12_99 ⟨rfl, hd_X12_isOne⟩ rfl rfl (Nat.le_of_ble_eq_true rfl) dX12_shelf_6 ⟨Nat.le_of_ble_eq_true rfl, Nat.le_of_ble_eq_true rfl⟩ ⟨Nat.le_of_ble_eq_true rfl, Nat.le_of_ble_eq_true rfl⟩ (fun H locs hW => ?_)
    refine lv_goto (tgt := 34) C.x C.b dX12_shelf_9 rfl ?_
    refine lv_istore (lv' := [(4, .int _), (0, .ref (E.b + _)), (1, .int _), (2, .int _), (3, .int _)]) C.x C.b dX12_shelf_34 hl (by decide) rfl (fun ls hl => ?_)
    refine lv_iload_n C.x C.b dX12_shelf_36 rfl (lv_at hl 2 rfl) ?_
    replace hf := x_b1 hf; obtain ⟨x37_61, hx37_61, hf⟩ := hf
    refine x_callS (As := [.int p1]) (rest := []) C hW hl (qX12_isFour l E hx37_61) gs_X12_400 hd_X12_isFour rfl rfl (Nat.le_of_ble_eq_true rfl) dX12_shelf_37 ⟨Nat.le_of_ble_eq_true rfl, Nat.le_of_ble_eq_true rfl⟩ ⟨Nat.le_of_ble_eq_true rfl, Nat.le_of_ble_eq_true rfl⟩ (fun H locs hW => ?_)
    refine lv_if_eq (tgt := 48) C.x C.b dX12_shelf_40 rfl (fun c40 => ?_) (fun c40 => ?_)
    · replace hf := x_ip c40 hf
      refine lv_iconst (v := (-1)) C.x C.b dX12_shelf_48 (by decide) ?_
      rw [x_e1 hf, x_e2 hf]
      exact x_iret C hr hW dX12_shelf_49
    · replace hf := x_in c40 hf
      refine lv_iload C.x C.b dX12_shelf_43 (lv_at hl 0 rfl) ?_
      refine lv_if_ne (tgt := 50) C.x C.b dX12_shelf_45 rfl (fun c45 => ?_) (fun c45 => ?_)
      · replace hf := x_in c45 hf
        refine lv_iload_n C.x C.b dX12_shelf_50 rfl (lv_at hl 3 rfl) ?_
        refine lv_iconst (v := 1) C.x C.b dX12_shelf_51 (by decide) ?_
        refine lv_icmp_ne (tgt := 59) C.x C.b dX12_shelf_52 rfl (fun c52 => ?_) (fun c52 => ?_)
        · replace hf := x_in c52 hf
          refine lv_iconst (v := 0) C.x C.b dX12_shelf_59 (by decide) ?_
          refine lv_istore (lv' := [(5, .int _), (4, .int _), (0, .ref (E.b + _)), (1, .int _), (2, .int _), (3, .int _)]) C.x C.b dX12_shelf_60 hl (by decide) rfl (fun ls hl => ?_)
          refine lv_aload_n C.x C.b dX12_shelf_62 rfl (lv_at hl 2 rfl) ?_
          replace hf := x_b1 hf; obtain ⟨a63_62, ha63_62, hf⟩ := hf
          refine x_getn C hW fg_X12_41_15 ha63_62 dX12_shelf_63 ?_
          refine lv_iload_n C.x C.b dX12_shelf_66 rfl (lv_at hl 3 rfl) ?_
          refine lv_iload C.x C.b dX12_shelf_67 (lv_at hl 0 rfl) ?_
          refine lv_if_eq (tgt := 85) C.x C.b dX12_shelf_69 rfl (fun _ => ?_) (fun c_ => absurd (by decide) c_)
          refine lv_iload_n C.x C.b dX12_shelf_85 rfl (lv_at hl 4 rfl) ?_
          replace hf := x_b1 hf; obtain ⟨M86_63, hM86_63, hf⟩ := hf
          refine x_iast C hW hM86_63 dX12_shelf_86 (fun H locs hW => ?_)
          refine lv_aload_n C.x C.b dX12_shelf_87 rfl (lv_at hl 2 rfl) ?_
          replace hf := x_b1 hf; obtain ⟨a88_64, ha88_64, hf⟩ := hf
          refine x_getn C hW fg_X12_44_15 ha88_64 dX12_shelf_88 ?_
          refine lv_iload_n C.x C.b dX12_shelf_91 rfl (lv_at hl 3 rfl) ?_
          refine lv_iload C.x C.b dX12_shelf_92 (lv_at hl 0 rfl) ?_
          refine lv_if_eq (tgt := 106) C.x C.b dX12_shelf_94 rfl (fun _ => ?_) (fun c_ => absurd (by decide) c_)
          refine lv_iload_n C.x C.b dX12_shelf_106 rfl (lv_at hl 5 rfl) ?_
          replace hf := x_b1 hf; obtain ⟨M107_65, hM107_65, hf⟩ := hf
          refine x_iast C hW hM107_65 dX12_shelf_107 (fun H locs hW => ?_)
          refine lv_aload_n C.x C.b dX12_shelf_108 rfl (lv_at hl 2 rfl) ?_
          replace hf := x_b1 hf; obtain ⟨a109_66, ha109_66, hf⟩ := hf
          refine x_getn C hW fg_X12_47_15 ha109_66 dX12_shelf_109 ?_
          refine lv_iload_n C.x C.b dX12_shelf_112 rfl (lv_at hl 3 rfl) ?_
          refine lv_iload C.x C.b dX12_shelf_113 (lv_at hl 0 rfl) ?_
          refine lv_if_eq (tgt := 127) C.x C.b dX12_shelf_115 rfl (fun _ => ?_) (fun c_ => absurd (by decide) c_)
          refine lv_iconst (v := 0) C.x C.b dX12_shelf_127 (by decide) ?_
          replace hf := x_b1 hf; obtain ⟨M128_67, hM128_67, hf⟩ := hf
          refine x_iast C hW hM128_67 dX12_shelf_128 (fun H locs hW => ?_)
          refine lv_iconst (v := 1) C.x C.b dX12_shelf_129 (by decide) ?_
          rw [x_e1 hf, x_e2 hf]
          exact x_iret C hr hW dX12_shelf_130
        · replace hf := x_ip c52 hf
          refine lv_iconst (v := 1) C.x C.b dX12_shelf_55 (by decide) ?_
          refine lv_goto (tgt := 60) C.x C.b dX12_shelf_56 rfl ?_
          refine lv_istore (lv' := [(5, .int _), (4, .int _), (0, .ref (E.b + _)), (1, .int _), (2, .int _), (3, .int _)]) C.x C.b dX12_shelf_60 hl (by decide) rfl (fun ls hl => ?_)
          refine lv_aload_n C.x C.b dX12_shelf_62 rfl (lv_at hl 2 rfl) ?_
          replace hf := x_b1 hf; obtain ⟨a63_68, ha63_68, hf⟩ := hf
          refine x_getn C hW fg_X12_41_15 ha63_68 dX12_shelf_63 ?_
          refine lv_iload_n C.x C.b dX12_shelf_66 rfl (lv_at hl 3 rfl) ?_
          refine lv_iload C.x C.b dX12_shelf_67 (lv_at hl 0 rfl) ?_
          refine lv_if_eq (tgt := 85) C.x C.b dX12_shelf_69 rfl (fun c_ => absurd c_ (by decide)) (fun _ => ?_)
          refine lv_aload_n C.x C.b dX12_shelf_72 rfl (lv_at hl 2 rfl) ?_
          replace hf := x_b1 hf; obtain ⟨a73_69, ha73_69, hf⟩ := hf
          refine x_getn C hW fg_X12_31_15 ha73_69 dX12_shelf_73 ?_
          refine lv_iload_n C.x C.b dX12_shelf_76 rfl (lv_at hl 5 rfl) ?_
          replace hf := x_b1 hf; obtain ⟨x77_70, hx77_70, hf⟩ := hf
          refine x_iald C hW hx77_70 dX12_shelf_77 ?_
          refine lv_if_ge (tgt := 85) C.x C.b dX12_shelf_78 rfl (fun c78 => ?_) (fun c78 => ?_)
          · replace hf := x_ip c78 hf
            refine lv_iload_n C.x C.b dX12_shelf_85 rfl (lv_at hl 4 rfl) ?_
            replace hf := x_b1 hf; obtain ⟨M86_71, hM86_71, hf⟩ := hf
            refine x_iast C hW hM86_71 dX12_shelf_86 (fun H locs hW => ?_)
            refine lv_aload_n C.x C.b dX12_shelf_87 rfl (lv_at hl 2 rfl) ?_
            replace hf := x_b1 hf; obtain ⟨a88_72, ha88_72, hf⟩ := hf
            refine x_getn C hW fg_X12_44_15 ha88_72 dX12_shelf_88 ?_
            refine lv_iload_n C.x C.b dX12_shelf_91 rfl (lv_at hl 3 rfl) ?_
            refine lv_iload C.x C.b dX12_shelf_92 (lv_at hl 0 rfl) ?_
            refine lv_if_eq (tgt := 106) C.x C.b dX12_shelf_94 rfl (fun c_ => absurd c_ (by decide)) (fun _ => ?_)
            refine lv_aload_n C.x C.b dX12_shelf_97 rfl (lv_at hl 2 rfl) ?_
            replace hf := x_b1 hf; obtain ⟨a98_73, ha98_73, hf⟩ := hf
            refine x_getn C hW fg_X12_31_15 ha98_73 dX12_shelf_98 ?_
            refine lv_iload_n C.x C.b dX12_shelf_101 rfl (lv_at hl 5 rfl) ?_
            replace hf := x_b1 hf; obtain ⟨x102_74, hx102_74, hf⟩ := hf
            refine x_iald C hW hx102_74 dX12_shelf_102 ?_
            refine lv_goto (tgt := 107) C.x C.b dX12_shelf_103 rfl ?_
            replace hf := x_b1 hf; obtain ⟨M107_75, hM107_75, hf⟩ := hf
            refine x_iast C hW hM107_75 dX12_shelf_107 (fun H locs hW => ?_)
            refine lv_aload_n C.x C.b dX12_shelf_108 rfl (lv_at hl 2 rfl) ?_
            replace hf := x_b1 hf; obtain ⟨a109_76, ha109_76, hf⟩ := hf
            refine x_getn C hW fg_X12_47_15 ha109_76 dX12_shelf_109 ?_
            refine lv_iload_n C.x C.b dX12_shelf_112 rfl (lv_at hl 3 rfl) ?_
            refine lv_iload C.x C.b dX12_shelf_113 (lv_at hl 0 rfl) ?_
            refine lv_if_eq (tgt := 127) C.x C.b dX12_shelf_115 rfl (fun c_ => absurd c_ (by decide)) (fun _ => ?_)
            refine lv_aload_n C.x C.b dX12_shelf_118 rfl (lv_at hl 2 rfl) ?_
            replace hf := x_b1 hf; obtain ⟨a119_77, ha119_77, hf⟩ := hf
            refine x_getn C hW fg_X12_34_15 ha119_77 dX12_shelf_119 ?_
            refine lv_iload_n C.x C.b dX12_shelf_122 rfl (lv_at hl 5 rfl) ?_
            replace hf := x_b1 hf; obtain ⟨x123_78, hx123_78, hf⟩ := hf
            refine x_iald C hW hx123_78 dX12_shelf_123 ?_
            refine lv_goto (tgt := 128) C.x C.b dX12_shelf_124 rfl ?_
            replace hf := x_b1 hf; obtain ⟨M128_79, hM128_79, hf⟩ := hf
            refine x_iast C hW hM128_79 dX12_shelf_128 (fun H locs hW => ?_)
            refine lv_iconst (v := 1) C.x C.b dX12_shelf_129 (by decide) ?_
            rw [x_e1 hf, x_e2 hf]
            exact x_iret C hr hW dX12_shelf_130
          · replace hf := x_in c78 hf
            refine lv_iconst (v := 2) C.x C.b dX12_shelf_81 (by decide) ?_
            refine lv_goto (tgt := 86) C.x C.b dX12_shelf_82 rfl ?_
            replace hf := x_b1 hf; obtain ⟨M86_80, hM86_80, hf⟩ := hf
            refine x_iast C hW hM86_80 dX12_shelf_86 (fun H locs hW => ?_)
            refine lv_aload_n C.x C.b dX12_shelf_87 rfl (lv_at hl 2 rfl) ?_
            replace hf := x_b1 hf; obtain ⟨a88_81, ha88_81, hf⟩ := hf
            refine x_getn C hW fg_X12_44_15 ha88_81 dX12_shelf_88 ?_
            refine lv_iload_n C.x C.b dX12_shelf_91 rfl (lv_at hl 3 rfl) ?_
            refine lv_iload C.x C.b dX12_shelf_92 (lv_at hl 0 rfl) ?_
            refine lv_if_eq (tgt := 106) C.x C.b dX12_shelf_94 rfl (fun c_ => absurd c_ (by decide)) (fun _ => ?_)
            refine lv_aload_n C.x C.b dX12_shelf_97 rfl (lv_at hl 2 rfl) ?_
            replace hf := x_b1 hf; obtain ⟨a98_82, ha98_82, hf⟩ := hf
            refine x_getn C hW fg_X12_31_15 ha98_82 dX12_shelf_98 ?_
            refine lv_iload_n C.x C.b dX12_shelf_101 rfl (lv_at hl 5 rfl) ?_
            replace hf := x_b1 hf; obtain ⟨x102_83, hx102_83, hf⟩ := hf
            refine x_iald C hW hx102_83 dX12_shelf_102 ?_
            refine lv_goto (tgt := 107) C.x C.b dX12_shelf_103 rfl ?_
            replace hf := x_b1 hf; obtain ⟨M107_84, hM107_84, hf⟩ := hf
            refine x_iast C hW hM107_84 dX12_shelf_107 (fun H locs hW => ?_)
            refine lv_aload_n C.x C.b dX12_shelf_108 rfl (lv_at hl 2 rfl) ?_
            replace hf := x_b1 hf; obtain ⟨a109_85, ha109_85, hf⟩ := hf
            refine x_getn C hW fg_X12_47_15 ha109_85 dX12_shelf_109 ?_
            refine lv_iload_n C.x C.b dX12_shelf_112 rfl (lv_at hl 3 rfl) ?_
            refine lv_iload C.x C.b dX12_shelf_113 (lv_at hl 0 rfl) ?_
            refine lv_if_eq (tgt := 127) C.x C.b dX12_shelf_115 rfl (fun c_ => absurd c_ (by decide)) (fun _ => ?_)
            refine lv_aload_n C.x C.b dX12_shelf_118 rfl (lv_at hl 2 rfl) ?_
            replace hf := x_b1 hf; obtain ⟨a119_86, ha119_86, hf⟩ := hf
            refine x_getn C hW fg_X12_34_15 ha119_86 dX12_shelf_119 ?_
            refine lv_iload_n C.x C.b dX12_shelf_122 rfl (lv_at hl 5 rfl) ?_
            replace hf := x_b1 hf; obtain ⟨x123_87, hx123_87, hf⟩ := hf
            refine x_iald C hW hx123_87 dX12_shelf_123 ?_
            refine lv_goto (tgt := 128) C.x C.b dX12_shelf_124 rfl ?_
            replace hf := x_b1 hf; obtain ⟨M128_88, hM128_88, hf⟩ := hf
            refine x_iast C hW hM128_88 dX12_shelf_128 (fun H locs hW => ?_)
            refine lv_iconst (v := 1) C.x C.b dX12_shelf_129 (by decide) ?_
            rw [x_e1 hf, x_e2 hf]
            exact x_iret C hr hW dX12_shelf_130
      · replace hf := x_ip c45 hf
        refine lv_iconst (v := (-1)) C.x C.b dX12_shelf_48 (by decide) ?_
        rw [x_e1 hf, x_e2 hf]
        exact x_iret C hr hW dX12_shelf_49

theorem dX12_isStocking_0 : decode cX12_isStocking 0 = .ok (.aload_n 0, 1) := by decide +kernel
theorem dX12_isStocking_1 : decode cX12_isStocking 1 = .ok (.getfield 41, 3) := by decide +kernel
theorem dX12_isStocking_4 : decode cX12_isStocking 4 = .ok (.iload_n 1, 1) := by decide +kernel
theorem dX12_isStocking_5 : decode cX12_isStocking 5 = .ok (.iaload, 1) := by decide +kernel
theorem dX12_isStocking_6 : decode cX12_isStocking 6 = .ok (.ifCond .ne 20, 3) := by decide +kernel
theorem dX12_isStocking_9 : decode cX12_isStocking 9 = .ok (.aload_n 0, 1) := by decide +kernel
theorem dX12_isStocking_10 : decode cX12_isStocking 10 = .ok (.aload_n 0, 1) := by decide +kernel
theorem dX12_isStocking_11 : decode cX12_isStocking 11 = .ok (.getfield 44, 3) := by decide +kernel
theorem dX12_isStocking_14 : decode cX12_isStocking 14 = .ok (.iload_n 1, 1) := by decide +kernel
theorem dX12_isStocking_15 : decode cX12_isStocking 15 = .ok (.iaload, 1) := by decide +kernel
theorem dX12_isStocking_16 : decode cX12_isStocking 16 = .ok (.invokevirtual 99, 3) := by decide +kernel
theorem dX12_isStocking_19 : decode cX12_isStocking 19 = .ok (.ifCond .eq 7, 3) := by decide +kernel
theorem dX12_isStocking_22 : decode cX12_isStocking 22 = .ok (.iconst 1, 1) := by decide +kernel
theorem dX12_isStocking_23 : decode cX12_isStocking 23 = .ok (.goto 4, 3) := by decide +kernel
theorem dX12_isStocking_26 : decode cX12_isStocking 26 = .ok (.iconst 0, 1) := by decide +kernel
theorem dX12_isStocking_27 : decode cX12_isStocking 27 = .ok (.ireturn, 1) := by decide +kernel
def fX12_isStocking (M : Mm) (o : Nat) (p1 : Int32) : Option Int32 :=
  B1 (rdN M o 15 16) fun a1_1 =>
  B1 (alI M a1_1 p1) fun x5_2 =>
  if x5_2 = 0 then
    B1 (rdN M o 15 17) fun a11_3 =>
    B1 (alI M a11_3 p1) fun x15_4 =>
    B1 (gk M o 15) fun _ =>
    B1 (fX12_isOne M o x15_4) fun x16_6 =>
    if x16_6 = 0 then
      some 0
    else
      some 1
  else
    some 0
set_option maxRecDepth 100000 in
set_option maxHeartbeats 4000000 in
theorem qX12_isStocking (l : Launch) (E : Ev) {M : Mm} {o : Nat} {p1 : Int32} {rz : Int32} (hf : fX12_isStocking M o p1 = some rz) : Ct l E yX12_isStocking cX12_isStocking 2 (some .boolean) 2 46 0 0 [.ref (E.b + o), .int p1] M (some (.int rz)) M := by
  refine ct_of (by decide +kernel) (Nat.le_of_ble_eq_true rfl) fun p e s m args below meth c C hr hin hW ls hl => ?_
  have hl : lv_has ls 2 [(0, .ref (E.b + o)), (1, .int p1)] := hl
  unfold fX12_isStocking at hf
  refine lv_aload_n C.x C.b dX12_isStocking_0 rfl (lv_at hl 0 rfl) ?_
  replace hf := x_b1 hf; obtain ⟨a1_1, ha1_1, hf⟩ := hf
  refine x_getn C hW fg_X12_41_15 ha1_1 dX12_isStocking_1 ?_
  refine lv_iload_n C.x C.b dX12_isStocking_4 rfl (lv_at hl 1 rfl) ?_
  replace hf := x_b1 hf; obtain ⟨x5_2, hx5_2, hf⟩ := hf
  refine x_iald C hW hx5_2 dX12_isStocking_5 ?_
  refine lv_if_ne (tgt := 26) C.x C.b dX12_isStocking_6 rfl (fun c6 => ?_) (fun c6 => ?_)
  · replace hf := x_in c6 hf
    refine lv_iconst (v := 0) C.x C.b dX12_isStocking_26 (by decide) ?_
    rw [x_e0 hf]
    exact x_zret C hr hW (v := 0) (w := 0) rfl dX12_isStocking_27
  · replace hf := x_ip c6 hf
    refine lv_aload_n C.x C.b dX12_isStocking_9 rfl (lv_at hl 0 rfl) ?_
    refine lv_aload_n C.x C.b dX12_isStocking_10 rfl (lv_at hl 0 rfl) ?_
    replace hf := x_b1 hf; obtain ⟨a11_3, ha11_3, hf⟩ := hf
    refine x_getn C hW fg_X12_44_15 ha11_3 dX12_isStocking_11 ?_
    refine lv_iload_n C.x C.b dX12_isStocking_14 rfl (lv_at hl 1 rfl) ?_
    replace hf := x_b1 hf; obtain ⟨x15_4, hx15_4, hf⟩ := hf
    refine x_iald C hW hx15_4 dX12_isStocking_15 ?_
    replace hf := x_b1 hf; obtain ⟨_, hk16_5, hf⟩ := hf
    replace hf := x_b1 hf; obtain ⟨x16_6, hx16_6, hf⟩ := hf
    refine x_callV (As := [.int x15_4]) (a := o) (rest := []) C hW hl (qX12_isOne l E hx16_6) (x_gk hk16_5) (by decide) (by decide) rfl gv_X12_99 ⟨rfl, hd_X12_isOne⟩ rfl rfl (Nat.le_of_ble_eq_true rfl) dX12_isStocking_16 ⟨Nat.le_of_ble_eq_true rfl, Nat.le_of_ble_eq_true rfl⟩ ⟨Nat.le_of_ble_eq_true rfl, Nat.le_of_ble_eq_true rfl⟩ (fun H locs hW => ?_)
    refine lv_if_eq (tgt := 26) C.x C.b dX12_isStocking_19 rfl (fun c19 => ?_) (fun c19 => ?_)
    · replace hf := x_ip c19 hf
      refine lv_iconst (v := 0) C.x C.b dX12_isStocking_26 (by decide) ?_
      rw [x_e0 hf]
      exact x_zret C hr hW (v := 0) (w := 0) rfl dX12_isStocking_27
    · replace hf := x_in c19 hf
      refine lv_iconst (v := 1) C.x C.b dX12_isStocking_22 (by decide) ?_
      refine lv_goto (tgt := 27) C.x C.b dX12_isStocking_23 rfl ?_
      rw [x_e0 hf]
      exact x_zret C hr hW (v := 1) (w := 1) rfl dX12_isStocking_27

theorem dX12_isUnder_0 : decode cX12_isUnder 0 = .ok (.iload_n 1, 1) := by decide +kernel
theorem dX12_isUnder_1 : decode cX12_isUnder 1 = .ok (.ifCond .eq 28, 3) := by decide +kernel
theorem dX12_isUnder_4 : decode cX12_isUnder 4 = .ok (.iload_n 1, 1) := by decide +kernel
theorem dX12_isUnder_5 : decode cX12_isUnder 5 = .ok (.iload_n 0, 1) := by decide +kernel
theorem dX12_isUnder_6 : decode cX12_isUnder 6 = .ok (.if_icmp .eq 23, 3) := by decide +kernel
theorem dX12_isUnder_9 : decode cX12_isUnder 9 = .ok (.iload_n 1, 1) := by decide +kernel
theorem dX12_isUnder_10 : decode cX12_isUnder 10 = .ok (.iconst 1, 1) := by decide +kernel
theorem dX12_isUnder_11 : decode cX12_isUnder 11 = .ok (.if_icmp .ne 8, 3) := by decide +kernel
theorem dX12_isUnder_14 : decode cX12_isUnder 14 = .ok (.iload_n 0, 1) := by decide +kernel
theorem dX12_isUnder_15 : decode cX12_isUnder 15 = .ok (.iconst 3, 1) := by decide +kernel
theorem dX12_isUnder_16 : decode cX12_isUnder 16 = .ok (.if_icmp .eq 13, 3) := by decide +kernel
theorem dX12_isUnder_19 : decode cX12_isUnder 19 = .ok (.iload_n 1, 1) := by decide +kernel
theorem dX12_isUnder_20 : decode cX12_isUnder 20 = .ok (.iconst 2, 1) := by decide +kernel
theorem dX12_isUnder_21 : decode cX12_isUnder 21 = .ok (.if_icmp .ne 12, 3) := by decide +kernel
theorem dX12_isUnder_24 : decode cX12_isUnder 24 = .ok (.iload_n 0, 1) := by decide +kernel
theorem dX12_isUnder_25 : decode cX12_isUnder 25 = .ok (.iconst 4, 1) := by decide +kernel
theorem dX12_isUnder_26 : decode cX12_isUnder 26 = .ok (.if_icmp .ne 7, 3) := by decide +kernel
theorem dX12_isUnder_29 : decode cX12_isUnder 29 = .ok (.iconst 1, 1) := by decide +kernel
theorem dX12_isUnder_30 : decode cX12_isUnder 30 = .ok (.goto 4, 3) := by decide +kernel
theorem dX12_isUnder_33 : decode cX12_isUnder 33 = .ok (.iconst 0, 1) := by decide +kernel
theorem dX12_isUnder_34 : decode cX12_isUnder 34 = .ok (.ireturn, 1) := by decide +kernel
def fX12_isUnder (M : Mm) (p1 : Int32) (p2 : Int32) : Option Int32 :=
  if p2 = 0 then
    some 1
  else
    if p2 = p1 then
      some 1
    else
      if p2 = 1 then
        if p1 = 3 then
          some 1
        else
          if p2 = 2 then
            if p1 = 4 then
              some 1
            else
              some 0
          else
            some 0
      else
        if p2 = 2 then
          if p1 = 4 then
            some 1
          else
            some 0
        else
          some 0
set_option maxRecDepth 100000 in
set_option maxHeartbeats 4000000 in
theorem qX12_isUnder (l : Launch) (E : Ev) {M : Mm} {p1 : Int32} {p2 : Int32} {rz : Int32} (hf : fX12_isUnder M p1 p2 = some rz) : Ct l E yX12_isUnder cX12_isUnder 2 (some .boolean) 0 0 0 0 [.int p1, .int p2] M (some (.int rz)) M := by
  refine ct_of (by decide +kernel) (Nat.le_of_ble_eq_true rfl) fun p e s m args below meth c C hr hin hW ls hl => ?_
  have hl : lv_has ls 2 [(0, .int p1), (1, .int p2)] := hl
  unfold fX12_isUnder at hf
  refine lv_iload_n C.x C.b dX12_isUnder_0 rfl (lv_at hl 1 rfl) ?_
  refine lv_if_eq (tgt := 29) C.x C.b dX12_isUnder_1 rfl (fun c1 => ?_) (fun c1 => ?_)
  · replace hf := x_ip c1 hf
    refine lv_iconst (v := 1) C.x C.b dX12_isUnder_29 (by decide) ?_
    refine lv_goto (tgt := 34) C.x C.b dX12_isUnder_30 rfl ?_
    rw [x_e0 hf]
    exact x_zret C hr hW (v := 1) (w := 1) rfl dX12_isUnder_34
  · replace hf := x_in c1 hf
    refine lv_iload_n C.x C.b dX12_isUnder_4 rfl (lv_at hl 1 rfl) ?_
    refine lv_iload_n C.x C.b dX12_isUnder_5 rfl (lv_at hl 0 rfl) ?_
    refine lv_icmp_eq (tgt := 29) C.x C.b dX12_isUnder_6 rfl (fun c6 => ?_) (fun c6 => ?_)
    · replace hf := x_ip c6 hf
      refine lv_iconst (v := 1) C.x C.b dX12_isUnder_29 (by decide) ?_
      refine lv_goto (tgt := 34) C.x C.b dX12_isUnder_30 rfl ?_
      rw [x_e0 hf]
      exact x_zret C hr hW (v := 1) (w := 1) rfl dX12_isUnder_34
    · replace hf := x_in c6 hf
      refine lv_iload_n C.x C.b dX12_isUnder_9 rfl (lv_at hl 1 rfl) ?_
      refine lv_iconst (v := 1) C.x C.b dX12_isUnder_10 (by decide) ?_
      refine lv_icmp_ne (tgt := 19) C.x C.b dX12_isUnder_11 rfl (fun c11 => ?_) (fun c11 => ?_)
      · replace hf := x_in c11 hf
        refine lv_iload_n C.x C.b dX12_isUnder_19 rfl (lv_at hl 1 rfl) ?_
        refine lv_iconst (v := 2) C.x C.b dX12_isUnder_20 (by decide) ?_
        refine lv_icmp_ne (tgt := 33) C.x C.b dX12_isUnder_21 rfl (fun c21 => ?_) (fun c21 => ?_)
        · replace hf := x_in c21 hf
          refine lv_iconst (v := 0) C.x C.b dX12_isUnder_33 (by decide) ?_
          rw [x_e0 hf]
          exact x_zret C hr hW (v := 0) (w := 0) rfl dX12_isUnder_34
        · replace hf := x_ip c21 hf
          refine lv_iload_n C.x C.b dX12_isUnder_24 rfl (lv_at hl 0 rfl) ?_
          refine lv_iconst (v := 4) C.x C.b dX12_isUnder_25 (by decide) ?_
          refine lv_icmp_ne (tgt := 33) C.x C.b dX12_isUnder_26 rfl (fun c26 => ?_) (fun c26 => ?_)
          · replace hf := x_in c26 hf
            refine lv_iconst (v := 0) C.x C.b dX12_isUnder_33 (by decide) ?_
            rw [x_e0 hf]
            exact x_zret C hr hW (v := 0) (w := 0) rfl dX12_isUnder_34
          · replace hf := x_ip c26 hf
            refine lv_iconst (v := 1) C.x C.b dX12_isUnder_29 (by decide) ?_
            refine lv_goto (tgt := 34) C.x C.b dX12_isUnder_30 rfl ?_
            rw [x_e0 hf]
            exact x_zret C hr hW (v := 1) (w := 1) rfl dX12_isUnder_34
      · replace hf := x_ip c11 hf
        refine lv_iload_n C.x C.b dX12_isUnder_14 rfl (lv_at hl 0 rfl) ?_
        refine lv_iconst (v := 3) C.x C.b dX12_isUnder_15 (by decide) ?_
        refine lv_icmp_eq (tgt := 29) C.x C.b dX12_isUnder_16 rfl (fun c16 => ?_) (fun c16 => ?_)
        · replace hf := x_ip c16 hf
          refine lv_iconst (v := 1) C.x C.b dX12_isUnder_29 (by decide) ?_
          refine lv_goto (tgt := 34) C.x C.b dX12_isUnder_30 rfl ?_
          rw [x_e0 hf]
          exact x_zret C hr hW (v := 1) (w := 1) rfl dX12_isUnder_34
        · replace hf := x_in c16 hf
          refine lv_iload_n C.x C.b dX12_isUnder_19 rfl (lv_at hl 1 rfl) ?_
          refine lv_iconst (v := 2) C.x C.b dX12_isUnder_20 (by decide) ?_
          refine lv_icmp_ne (tgt := 33) C.x C.b dX12_isUnder_21 rfl (fun c21 => ?_) (fun c21 => ?_)
          · replace hf := x_in c21 hf
            refine lv_iconst (v := 0) C.x C.b dX12_isUnder_33 (by decide) ?_
            rw [x_e0 hf]
            exact x_zret C hr hW (v := 0) (w := 0) rfl dX12_isUnder_34
          · replace hf := x_ip c21 hf
            refine lv_iload_n C.x C.b dX12_isUnder_24 rfl (lv_at hl 0 rfl) ?_
            refine lv_iconst (v := 4) C.x C.b dX12_isUnder_25 (by decide) ?_
            refine lv_icmp_ne (tgt := 33) C.x C.b dX12_isUnder_26 rfl (fun c26 => ?_) (fun c26 => ?_)
            · replace hf := x_in c26 hf
              refine lv_iconst (v := 0) C.x C.b dX12_isUnder_33 (by decide) ?_
              rw [x_e0 hf]
              exact x_zret C hr hW (v := 0) (w := 0) rfl dX12_isUnder_34
            · replace hf := x_ip c26 hf
              refine lv_iconst (v := 1) C.x C.b dX12_isUnder_29 (by decide) ?_
              refine lv_goto (tgt := 34) C.x C.b dX12_isUnder_30 rfl ?_
              rw [x_e0 hf]
              exact x_zret C hr hW (v := 1) (w := 1) rfl dX12_isUnder_34

theorem dX12_taken_0 : decode cX12_taken 0 = .ok (.iload_n 1, 1) := by decide +kernel
theorem dX12_taken_1 : decode cX12_taken 1 = .ok (.invokestatic 400, 3) := by decide +kernel
theorem dX12_taken_4 : decode cX12_taken 4 = .ok (.ifCond .eq 29, 3) := by decide +kernel
theorem dX12_taken_7 : decode cX12_taken 7 = .ok (.iload_n 2, 1) := by decide +kernel
theorem dX12_taken_8 : decode cX12_taken 8 = .ok (.i2l, 1) := by decide +kernel
theorem dX12_taken_9 : decode cX12_taken 9 = .ok (.lconst 0, 1) := by decide +kernel
theorem dX12_taken_10 : decode cX12_taken 10 = .ok (.ldc2_w 83, 3) := by decide +kernel
theorem dX12_taken_13 : decode cX12_taken 13 = .ok (.invokestatic 61, 3) := by decide +kernel
theorem dX12_taken_16 : decode cX12_taken 16 = .ok (.ifCond .ne 19, 3) := by decide +kernel
theorem dX12_taken_19 : decode cX12_taken 19 = .ok (.iload_n 2, 1) := by decide +kernel
theorem dX12_taken_20 : decode cX12_taken 20 = .ok (.i2l, 1) := by decide +kernel
theorem dX12_taken_21 : decode cX12_taken 21 = .ok (.ldc2_w 411, 3) := by decide +kernel
theorem dX12_taken_24 : decode cX12_taken 24 = .ok (.ldc2_w 413, 3) := by decide +kernel
theorem dX12_taken_27 : decode cX12_taken 27 = .ok (.invokestatic 61, 3) := by decide +kernel
theorem dX12_taken_30 : decode cX12_taken 30 = .ok (.ifCond .ne 5, 3) := by decide +kernel
theorem dX12_taken_33 : decode cX12_taken 33 = .ok (.iconst (-1), 1) := by decide +kernel
theorem dX12_taken_34 : decode cX12_taken 34 = .ok (.ireturn, 1) := by decide +kernel
theorem dX12_taken_35 : decode cX12_taken 35 = .ok (.aload_n 0, 1) := by decide +kernel
theorem dX12_taken_36 : decode cX12_taken 36 = .ok (.getfield 41, 3) := by decide +kernel
theorem dX12_taken_39 : decode cX12_taken 39 = .ok (.iload_n 1, 1) := by decide +kernel
theorem dX12_taken_40 : decode cX12_taken 40 = .ok (.iaload, 1) := by decide +kernel
theorem dX12_taken_41 : decode cX12_taken 41 = .ok (.iconst 1, 1) := by decide +kernel
theorem dX12_taken_42 : decode cX12_taken 42 = .ok (.if_icmp .ne 28, 3) := by decide +kernel
theorem dX12_taken_45 : decode cX12_taken 45 = .ok (.iload_n 2, 1) := by decide +kernel
theorem dX12_taken_46 : decode cX12_taken 46 = .ok (.bipush 10, 2) := by decide +kernel
theorem dX12_taken_48 : decode cX12_taken 48 = .ok (.isub, 1) := by decide +kernel
theorem dX12_taken_49 : decode cX12_taken 49 = .ok (.aload_n 0, 1) := by decide +kernel
theorem dX12_taken_50 : decode cX12_taken 50 = .ok (.getfield 44, 3) := by decide +kernel
theorem dX12_taken_53 : decode cX12_taken 53 = .ok (.iload_n 1, 1) := by decide +kernel
theorem dX12_taken_54 : decode cX12_taken 54 = .ok (.iaload, 1) := by decide +kernel
theorem dX12_taken_55 : decode cX12_taken 55 = .ok (.if_icmp .ne 12, 3) := by decide +kernel
theorem dX12_taken_58 : decode cX12_taken 58 = .ok (.aload_n 0, 1) := by decide +kernel
theorem dX12_taken_59 : decode cX12_taken 59 = .ok (.getfield 47, 3) := by decide +kernel
theorem dX12_taken_62 : decode cX12_taken 62 = .ok (.iload_n 1, 1) := by decide +kernel
theorem dX12_taken_63 : decode cX12_taken 63 = .ok (.iaload, 1) := by decide +kernel
theorem dX12_taken_64 : decode cX12_taken 64 = .ok (.goto 5, 3) := by decide +kernel
theorem dX12_taken_67 : decode cX12_taken 67 = .ok (.bipush (-13), 2) := by decide +kernel
theorem dX12_taken_69 : decode cX12_taken 69 = .ok (.ireturn, 1) := by decide +kernel
theorem dX12_taken_70 : decode cX12_taken 70 = .ok (.aload_n 0, 1) := by decide +kernel
theorem dX12_taken_71 : decode cX12_taken 71 = .ok (.iload_n 1, 1) := by decide +kernel
theorem dX12_taken_72 : decode cX12_taken 72 = .ok (.invokevirtual 415, 3) := by decide +kernel
theorem dX12_taken_75 : decode cX12_taken 75 = .ok (.ifCond .ne 6, 3) := by decide +kernel
theorem dX12_taken_78 : decode cX12_taken 78 = .ok (.bipush (-11), 2) := by decide +kernel
theorem dX12_taken_80 : decode cX12_taken 80 = .ok (.ireturn, 1) := by decide +kernel
theorem dX12_taken_81 : decode cX12_taken 81 = .ok (.iload_n 2, 1) := by decide +kernel
theorem dX12_taken_82 : decode cX12_taken 82 = .ok (.bipush 10, 2) := by decide +kernel
theorem dX12_taken_84 : decode cX12_taken 84 = .ok (.if_icmp .ge 30, 3) := by decide +kernel
theorem dX12_taken_87 : decode cX12_taken 87 = .ok (.aload_n 0, 1) := by decide +kernel
theorem dX12_taken_88 : decode cX12_taken 88 = .ok (.aload_n 0, 1) := by decide +kernel
theorem dX12_taken_89 : decode cX12_taken 89 = .ok (.getfield 44, 3) := by decide +kernel
theorem dX12_taken_92 : decode cX12_taken 92 = .ok (.iload_n 1, 1) := by decide +kernel
theorem dX12_taken_93 : decode cX12_taken 93 = .ok (.iaload, 1) := by decide +kernel
theorem dX12_taken_94 : decode cX12_taken 94 = .ok (.iconst 0, 1) := by decide +kernel
theorem dX12_taken_95 : decode cX12_taken 95 = .ok (.invokevirtual 67, 3) := by decide +kernel
theorem dX12_taken_98 : decode cX12_taken 98 = .ok (.iload_n 2, 1) := by decide +kernel
theorem dX12_taken_99 : decode cX12_taken 99 = .ok (.invokestatic 418, 3) := by decide +kernel
theorem dX12_taken_102 : decode cX12_taken 102 = .ok (.ifCond .eq 12, 3) := by decide +kernel
theorem dX12_taken_105 : decode cX12_taken 105 = .ok (.aload_n 0, 1) := by decide +kernel
theorem dX12_taken_106 : decode cX12_taken 106 = .ok (.getfield 44, 3) := by decide +kernel
theorem dX12_taken_109 : decode cX12_taken 109 = .ok (.iload_n 1, 1) := by decide +kernel
theorem dX12_taken_110 : decode cX12_taken 110 = .ok (.iaload, 1) := by decide +kernel
theorem dX12_taken_111 : decode cX12_taken 111 = .ok (.goto 5, 3) := by decide +kernel
theorem dX12_taken_114 : decode cX12_taken 114 = .ok (.bipush (-13), 2) := by decide +kernel
theorem dX12_taken_116 : decode cX12_taken 116 = .ok (.ireturn, 1) := by decide +kernel
theorem hd_X12_isStocking : yX12_isStocking.cls ≠ "java/lang/invoke/MethodHandle" ∧ yX12_isStocking.cls ≠ "java/lang/invoke/VarHandle" ∧ (parseMethodDescriptor yX12_isStocking.desc).map (fun d => d.parameters.length) = some 1 := by decide +kernel
theorem gv_X12_415 : GoodIn gT (wsV "NylonLadderModel" 415 "NylonLadderModel" yX12_isStocking (Cond.code yX12_isStocking cX12_isStocking 2 (some .boolean) :: gT)) := good_V T_8_161 T_8_163 TS_91 T_1_10 T_8_164
theorem hd_X12_isUnder : yX12_isUnder.cls ≠ "java/lang/invoke/MethodHandle" ∧ yX12_isUnder.cls ≠ "java/lang/invoke/VarHandle" ∧ (parseMethodDescriptor yX12_isUnder.desc).map (fun d => d.parameters.length) = some 2 := by decide +kernel
theorem gs_X12_418 : GoodIn gT (va_wsS "NylonLadderModel" 418 yX12_isUnder (Cond.code yX12_isUnder cX12_isUnder 2 (some .boolean) :: gT)) := good_S T_8_165 T_8_166 T_1_10 T_8_167
def fX12_taken (M : Mm) (o : Nat) (p1 : Int32) (p2 : Int32) : Option Int32 :=
  B1 (fX12_isFour M p1) fun x1_1 =>
  if x1_1 = 0 then
    some (-1)
  else
    B1 (fX12_in M (p2.toInt64) 0 5) fun x13_2 =>
    if x13_2 = 0 then
      B1 (fX12_in M (p2.toInt64) 10 13) fun x27_18 =>
      if x27_18 = 0 then
        some (-1)
      else
        B1 (rdN M o 15 16) fun a36_19 =>
        B1 (alI M a36_19 p1) fun x40_20 =>
        if x40_20 = 1 then
          B1 (rdN M o 15 17) fun a50_30 =>
          B1 (alI M a50_30 p1) fun x54_31 =>
          if (p2 - 10) = x54_31 then
            B1 (rdN M o 15 18) fun a59_32 =>
            B1 (alI M a59_32 p1) fun x63_33 =>
            some x63_33
          else
            some (-13)
        else
          B1 (gk M o 15) fun _ =>
          B1 (fX12_isStocking M o p1) fun x72_22 =>
          if x72_22 = 0 then
            some (-11)
          else
            if 10 ≤ p2 then
              some (-13)
            else
              B1 (rdN M o 15 17) fun a89_23 =>
              B1 (alI M a89_23 p1) fun x93_24 =>
              B1 (gk M o 15) fun _ =>
              B1 (fX12_its M o x93_24 0) fun x95_26 =>
              B1 (fX12_isUnder M x95_26 p2) fun x99_27 =>
              if x99_27 = 0 then
                some (-13)
              else
                B1 (rdN M o 15 17) fun a106_28 =>
                B1 (alI M a106_28 p1) fun x110_29 =>
                some x110_29
    else
      B1 (rdN M o 15 16) fun a36_3 =>
      B1 (alI M a36_3 p1) fun x40_4 =>
      if x40_4 = 1 then
        B1 (rdN M o 15 17) fun a50_14 =>
        B1 (alI M a50_14 p1) fun x54_15 =>
        if (p2 - 10) = x54_15 then
          B1 (rdN M o 15 18) fun a59_16 =>
          B1 (alI M a59_16 p1) fun x63_17 =>
          some x63_17
        else
          some (-13)
      else
        B1 (gk M o 15) fun _ =>
        B1 (fX12_isStocking M o p1) fun x72_6 =>
        if x72_6 = 0 then
          some (-11)
        else
          if 10 ≤ p2 then
            some (-13)
          else
            B1 (rdN M o 15 17) fun a89_7 =>
            B1 (alI M a89_7 p1) fun x93_8 =>
            B1 (gk M o 15) fun _ =>
            B1 (fX12_its M o x93_8 0) fun x95_10 =>
            B1 (fX12_isUnder M x95_10 p2) fun x99_11 =>
            if x99_11 = 0 then
              some (-13)
            else
              B1 (rdN M o 15 17) fun a106_12 =>
              B1 (alI M a106_12 p1) fun x110_13 =>
              some x110_13
set_option maxRecDepth 100000 in
set_option maxHeartbeats 4000000 in
theorem qX12_taken (l : Launch) (E : Ev) {M : Mm} {o : Nat} {p1 : Int32} {p2 : Int32} {rz : Int32} (hf : fX12_taken M o p1 p2 = some rz) : Ct l E yX12_taken cX12_taken 3 (some .int) 3 67 0 0 [.ref (E.b + o), .int p1, .int p2] M (some (.int rz)) M := by
  refine ct_of (by decide +kernel) (Nat.le_of_ble_eq_true rfl) fun p e s m args below meth c C hr hin hW ls hl => ?_
  have hl : lv_has ls 3 [(0, .ref (E.b + o)), (1, .int p1), (2, .int p2)] := hl
  unfold fX12_taken at hf
  refine lv_iload_n C.x C.b dX12_taken_0 rfl (lv_at hl 1 rfl) ?_
  replace hf := x_b1 hf; obtain ⟨x1_1, hx1_1, hf⟩ := hf
  refine x_callS (As := [.int p1]) (rest := []) C hW hl (qX12_isFour l E hx1_1) gs_X12_400 hd_X12_isFour rfl rfl (Nat.le_of_ble_eq_true rfl) dX12_taken_1 ⟨Nat.le_of_ble_eq_true rfl, Nat.le_of_ble_eq_true rfl⟩ ⟨Nat.le_of_ble_eq_true rfl, Nat.le_of_ble_eq_true rfl⟩ (fun H locs hW => ?_)
  refine lv_if_eq (tgt := 33) C.x C.b dX12_taken_4 rfl (fun c4 => ?_) (fun c4 => ?_)
  · replace hf := x_ip c4 hf
    refine lv_iconst (v := (-1)) C.x C.b dX12_taken_33 (by decide) ?_
    rw [x_e0 hf]
    exact x_iret C hr hW dX12_taken_34
  · replace hf := x_in c4 hf
    refine lv_iload_n C.x C.b dX12_taken_7 rfl (lv_at hl 2 rfl) ?_
    refine lv_i2l (v := p2.toInt64) C.x C.b dX12_taken_8 rfl ?_
    refine lv_lconst (v := 0) C.x C.b dX12_taken_9 (by decide) ?_
    refine x_ldc2 (v := 5) C T_6_150 dX12_taken_10 ?_
    replace hf := x_b1 hf; obtain ⟨x13_2, hx13_2, hf⟩ := hf
    refine x_callS (As := [.long (p2.toInt64), .long 0, .long 5]) (rest := []) C hW hl (qX12_in l E hx13_2) gs_X12_61 hd_X12_in rfl rfl (Nat.le_of_ble_eq_true rfl) dX12_taken_13 ⟨Nat.le_of_ble_eq_true rfl, Nat.le_of_ble_eq_true rfl⟩ ⟨Nat.le_of_ble_eq_true rfl, Nat.le_of_ble_eq_true rfl⟩ (fun H locs hW => ?_)
    refine lv_if_ne (tgt := 35) C.x C.b dX12_taken_16 rfl (fun c16 => ?_) (fun c16 => ?_)
    · replace hf := x_in c16 hf
      refine lv_aload_n C.x C.b dX12_taken_35 rfl (lv_at hl 0 rfl) ?_
      replace hf := x_b1 hf; obtain ⟨a36_3, ha36_3, hf⟩ := hf
      refine x_getn C hW fg_X12_41_15 ha36_3 dX12_taken_36 ?_
      refine lv_iload_n C.x C.b dX12_taken_39 rfl (lv_at hl 1 rfl) ?_
      replace hf := x_b1 hf; obtain ⟨x40_4, hx40_4, hf⟩ := hf
      refine x_iald C hW hx40_4 dX12_taken_40 ?_
      refine lv_iconst (v := 1) C.x C.b dX12_taken_41 (by decide) ?_
      refine lv_icmp_ne (tgt := 70) C.x C.b dX12_taken_42 rfl (fun c42 => ?_) (fun c42 => ?_)
      · replace hf := x_in c42 hf
        refine lv_aload_n C.x C.b dX12_taken_70 rfl (lv_at hl 0 rfl) ?_
        refine lv_iload_n C.x C.b dX12_taken_71 rfl (lv_at hl 1 rfl) ?_
        replace hf := x_b1 hf; obtain ⟨_, hk72_5, hf⟩ := hf
        replace hf := x_b1 hf; obtain ⟨x72_6, hx72_6, hf⟩ := hf
        refine x_callV (As := [.int p1]) (a := o) (rest := []) C hW hl (qX12_isStocking l E hx72_6) (x_gk hk72_5) (by decide) (by decide) rfl gv_X12_415 ⟨rfl, hd_X12_isStocking⟩ rfl rfl (Nat.le_of_ble_eq_true rfl) dX12_taken_72 ⟨Nat.le_of_ble_eq_true rfl, Nat.le_of_ble_eq_true rfl⟩ ⟨Nat.le_of_ble_eq_true rfl, Nat.le_of_ble_eq_true rfl⟩ (fun H locs hW => ?_)
        refine lv_if_ne (tgt := 81) C.x C.b dX12_taken_75 rfl (fun c75 => ?_) (fun c75 => ?_)
        · replace hf := x_in c75 hf
          refine lv_iload_n C.x C.b dX12_taken_81 rfl (lv_at hl 2 rfl) ?_
          refine lv_bipush (v := 10) C.x C.b dX12_taken_82 (by decide) ?_
          refine lv_icmp_ge (tgt := 114) C.x C.b dX12_taken_84 rfl (fun c84 => ?_) (fun c84 => ?_)
          · replace hf := x_ip c84 hf
            refine lv_bipush (v := (-13)) C.x C.b dX12_taken_114 (by decide) ?_
            rw [x_e0 hf]
            exact x_iret C hr hW dX12_taken_116
          · replace hf := x_in c84 hf
            refine lv_aload_n C.x C.b dX12_taken_87 rfl (lv_at hl 0 rfl) ?_
            refine lv_aload_n C.x C.b dX12_taken_88 rfl (lv_at hl 0 rfl) ?_
            replace hf := x_b1 hf; obtain ⟨a89_7, ha89_7, hf⟩ := hf
            refine x_getn C hW fg_X12_44_15 ha89_7 dX12_taken_89 ?_
            refine lv_iload_n C.x C.b dX12_taken_92 rfl (lv_at hl 1 rfl) ?_
            replace hf := x_b1 hf; obtain ⟨x93_8, hx93_8, hf⟩ := hf
            refine x_iald C hW hx93_8 dX12_taken_93 ?_
            refine lv_iconst (v := 0) C.x C.b dX12_taken_94 (by decide) ?_
            replace hf := x_b1 hf; obtain ⟨_, hk95_9, hf⟩ := hf
            replace hf := x_b1 hf; obtain ⟨x95_10, hx95_10, hf⟩ := hf
            refine x_callV (As := [.int x93_8, .int 0]) (a := o) (rest := []) C hW hl (qX12_its l E hx95_10) (x_gk hk95_9) (by decide) (by decide) rfl gv_X12_67 ⟨rfl, hd_X12_its⟩ rfl rfl (Nat.le_of_ble_eq_true rfl) dX12_taken_95 ⟨Nat.le_of_ble_eq_true rfl, Nat.le_of_ble_eq_true rfl⟩ ⟨Nat.le_of_ble_eq_true rfl, Nat.le_of_ble_eq_true rfl⟩ (fun H locs hW => ?_)
            refine lv_iload_n C.x C.b dX12_taken_98 rfl (lv_at hl 2 rfl) ?_
            replace hf := x_b1 hf; obtain ⟨x99_11, hx99_11, hf⟩ := hf
            refine x_callS (As := [.int x95_10, .int p2]) (rest := []) C hW hl (qX12_isUnder l E hx99_11) gs_X12_418 hd_X12_isUnder rfl rfl (Nat.le_of_ble_eq_true rfl) dX12_taken_99 ⟨Nat.le_of_ble_eq_true rfl, Nat.le_of_ble_eq_true rfl⟩ ⟨Nat.le_of_ble_eq_true rfl, Nat.le_of_ble_eq_true rfl⟩ (fun H locs hW => ?_)
            refine lv_if_eq (tgt := 114) C.x C.b dX12_taken_102 rfl (fun c102 => ?_) (fun c102 => ?_)
            · replace hf := x_ip c102 hf
              refine lv_bipush (v := (-13)) C.x C.b dX12_taken_114 (by decide) ?_
              rw [x_e0 hf]
              exact x_iret C hr hW dX12_taken_116
            · replace hf := x_in c102 hf
              refine lv_aload_n C.x C.b dX12_taken_105 rfl (lv_at hl 0 rfl) ?_
              replace hf := x_b1 hf; obtain ⟨a106_12, ha106_12, hf⟩ := hf
              refine x_getn C hW fg_X12_44_15 ha106_12 dX12_taken_106 ?_
              refine lv_iload_n C.x C.b dX12_taken_109 rfl (lv_at hl 1 rfl) ?_
              replace hf := x_b1 hf; obtain ⟨x110_13, hx110_13, hf⟩ := hf
              refine x_iald C hW hx110_13 dX12_taken_110 ?_
              refine lv_goto (tgt := 116) C.x C.b dX12_taken_111 rfl ?_
              rw [x_e0 hf]
              exact x_iret C hr hW dX12_taken_116
        · replace hf := x_ip c75 hf
          refine lv_bipush (v := (-11)) C.x C.b dX12_taken_78 (by decide) ?_
          rw [x_e0 hf]
          exact x_iret C hr hW dX12_taken_80
      · replace hf := x_ip c42 hf
        refine lv_iload_n C.x C.b dX12_taken_45 rfl (lv_at hl 2 rfl) ?_
        refine lv_bipush (v := 10) C.x C.b dX12_taken_46 (by decide) ?_
        refine lv_isub C.x C.b dX12_taken_48 ?_
        refine lv_aload_n C.x C.b dX12_taken_49 rfl (lv_at hl 0 rfl) ?_
        replace hf := x_b1 hf; obtain ⟨a50_14, ha50_14, hf⟩ := hf
        refine x_getn C hW fg_X12_44_15 ha50_14 dX12_taken_50 ?_
        refine lv_iload_n C.x C.b dX12_taken_53 rfl (lv_at hl 1 rfl) ?_
        replace hf := x_b1 hf; obtain ⟨x54_15, hx54_15, hf⟩ := hf
        refine x_iald C hW hx54_15 dX12_taken_54 ?_
        refine lv_icmp_ne (tgt := 67) C.x C.b dX12_taken_55 rfl (fun c55 => ?_) (fun c55 => ?_)
        · replace hf := x_in c55 hf
          refine lv_bipush (v := (-13)) C.x C.b dX12_taken_67 (by decide) ?_
          rw [x_e0 hf]
          exact x_iret C hr hW dX12_taken_69
        · replace hf := x_ip c55 hf
          refine lv_aload_n C.x C.b dX12_taken_58 rfl (lv_at hl 0 rfl) ?_
          replace hf := x_b1 hf; obtain ⟨a59_16, ha59_16, hf⟩ := hf
          refine x_getn C hW fg_X12_47_15 ha59_16 dX12_taken_59 ?_
          refine lv_iload_n C.x C.b dX12_taken_62 rfl (lv_at hl 1 rfl) ?_
          replace hf := x_b1 hf; obtain ⟨x63_17, hx63_17, hf⟩ := hf
          refine x_iald C hW hx63_17 dX12_taken_63 ?_
          refine lv_goto (tgt := 69) C.x C.b dX12_taken_64 rfl ?_
          rw [x_e0 hf]
          exact x_iret C hr hW dX12_taken_69
    · replace hf := x_ip c16 hf
      refine lv_iload_n C.x C.b dX12_taken_19 rfl (lv_at hl 2 rfl) ?_
      refine lv_i2l (v := p2.toInt64) C.x C.b dX12_taken_20 rfl ?_
      refine x_ldc2 (v := 10) C T_8_159 dX12_taken_21 ?_
      refine x_ldc2 (v := 13) C T_8_160 dX12_taken_24 ?_
      replace hf := x_b1 hf; obtain ⟨x27_18, hx27_18, hf⟩ := hf
      refine x_callS (As := [.long (p2.toInt64), .long 10, .long 13]) (rest := []) C hW hl (qX12_in l E hx27_18) gs_X12_61 hd_X12_in rfl rfl (Nat.le_of_ble_eq_true rfl) dX12_taken_27 ⟨Nat.le_of_ble_eq_true rfl, Nat.le_of_ble_eq_true rfl⟩ ⟨Nat.le_of_ble_eq_true rfl, Nat.le_of_ble_eq_true rfl⟩ (fun H locs hW => ?_)
      refine lv_if_ne (tgt := 35) C.x C.b dX12_taken_30 rfl (fun c30 => ?_) (fun c30 => ?_)
      · replace hf := x_in c30 hf
        refine lv_aload_n C.x C.b dX12_taken_35 rfl (lv_at hl 0 rfl) ?_
        replace hf := x_b1 hf; obtain ⟨a36_19, ha36_19, hf⟩ := hf
        refine x_getn C hW fg_X12_41_15 ha36_19 dX12_taken_36 ?_
        refine lv_iload_n C.x C.b dX12_taken_39 rfl (lv_at hl 1 rfl) ?_
        replace hf := x_b1 hf; obtain ⟨x40_20, hx40_20, hf⟩ := hf
        refine x_iald C hW hx40_20 dX12_taken_40 ?_
        refine lv_iconst (v := 1) C.x C.b dX12_taken_41 (by decide) ?_
        refine lv_icmp_ne (tgt := 70) C.x C.b dX12_taken_42 rfl (fun c42 => ?_) (fun c42 => ?_)
        · replace hf := x_in c42 hf
          refine lv_aload_n C.x C.b dX12_taken_70 rfl (lv_at hl 0 rfl) ?_
          refine lv_iload_n C.x C.b dX12_taken_71 rfl (lv_at hl 1 rfl) ?_
          replace hf := x_b1 hf; obtain ⟨_, hk72_21, hf⟩ := hf
          replace hf := x_b1 hf; obtain ⟨x72_22, hx72_22, hf⟩ := hf
          refine x_callV (As := [.int p1]) (a := o) (rest := []) C hW hl (qX12_isStocking l E hx72_22) (x_gk hk72_21) (by decide) (by decide) rfl gv_X12_415 ⟨rfl, hd_X12_isStocking⟩ rfl rfl (Nat.le_of_ble_eq_true rfl) dX12_taken_72 ⟨Nat.le_of_ble_eq_true rfl, Nat.le_of_ble_eq_true rfl⟩ ⟨Nat.le_of_ble_eq_true rfl, Nat.le_of_ble_eq_true rfl⟩ (fun H locs hW => ?_)
          refine lv_if_ne (tgt := 81) C.x C.b dX12_taken_75 rfl (fun c75 => ?_) (fun c75 => ?_)
          · replace hf := x_in c75 hf
            refine lv_iload_n C.x C.b dX12_taken_81 rfl (lv_at hl 2 rfl) ?_
            refine lv_bipush (v := 10) C.x C.b dX12_taken_82 (by decide) ?_
            refine lv_icmp_ge (tgt := 114) C.x C.b dX12_taken_84 rfl (fun c84 => ?_) (fun c84 => ?_)
            · replace hf := x_ip c84 hf
              refine lv_bipush (v := (-13)) C.x C.b dX12_taken_114 (by decide) ?_
              rw [x_e0 hf]
              exact x_iret C hr hW dX12_taken_116
            · replace hf := x_in c84 hf
              refine lv_aload_n C.x C.b dX12_taken_87 rfl (lv_at hl 0 rfl) ?_
              refine lv_aload_n C.x C.b dX12_taken_88 rfl (lv_at hl 0 rfl) ?_
              replace hf := x_b1 hf; obtain ⟨a89_23, ha89_23, hf⟩ := hf
              refine x_getn C hW fg_X12_44_15 ha89_23 dX12_taken_89 ?_
              refine lv_iload_n C.x C.b dX12_taken_92 rfl (lv_at hl 1 rfl) ?_
              replace hf := x_b1 hf; obtain ⟨x93_24, hx93_24, hf⟩ := hf
              refine x_iald C hW hx93_24 dX12_taken_93 ?_
              refine lv_iconst (v := 0) C.x C.b dX12_taken_94 (by decide) ?_
              replace hf := x_b1 hf; obtain ⟨_, hk95_25, hf⟩ := hf
              replace hf := x_b1 hf; obtain ⟨x95_26, hx95_26, hf⟩ := hf
              refine x_callV (As := [.int x93_24, .int 0]) (a := o) (rest := []) C hW hl (qX12_its l E hx95_26) (x_gk hk95_25) (by decide) (by decide) rfl gv_X12_67 ⟨rfl, hd_X12_its⟩ rfl rfl (Nat.le_of_ble_eq_true rfl) dX12_taken_95 ⟨Nat.le_of_ble_eq_true rfl, Nat.le_of_ble_eq_true rfl⟩ ⟨Nat.le_of_ble_eq_true rfl, Nat.le_of_ble_eq_true rfl⟩ (fun H locs hW => ?_)
              refine lv_iload_n C.x C.b dX12_taken_98 rfl (lv_at hl 2 rfl) ?_
              replace hf := x_b1 hf; obtain ⟨x99_27, hx99_27, hf⟩ := hf
              refine x_callS (As := [.int x95_26, .int p2]) (rest := []) C hW hl (qX12_isUnder l E hx99_27) gs_X12_418 hd_X12_isUnder rfl rfl (Nat.le_of_ble_eq_true rfl) dX12_taken_99 ⟨Nat.le_of_ble_eq_true rfl, Nat.le_of_ble_eq_true rfl⟩ ⟨Nat.le_of_ble_eq_true rfl, Nat.le_of_ble_eq_true rfl⟩ (fun H locs hW => ?_)
              refine lv_if_eq (tgt := 114) C.x C.b dX12_taken_102 rfl (fun c102 => ?_) (fun c102 => ?_)
              · replace hf := x_ip c102 hf
                refine lv_bipush (v := (-13)) C.x C.b dX12_taken_114 (by decide) ?_
                rw [x_e0 hf]
                exact x_iret C hr hW dX12_taken_116
              · replace hf := x_in c102 hf
                refine lv_aload_n C.x C.b dX12_taken_105 rfl (lv_at hl 0 rfl) ?_
                replace hf := x_b1 hf; obtain ⟨a106_28, ha106_28, hf⟩ := hf
                refine x_getn C hW fg_X12_44_15 ha106_28 dX12_taken_106 ?_
                refine lv_iload_n C.x C.b dX12_taken_109 rfl (lv_at hl 1 rfl) ?_
                replace hf := x_b1 hf; obtain ⟨x110_29, hx110_29, hf⟩ := hf
                refine x_iald C hW hx110_29 dX12_taken_110 ?_
                refine lv_goto (tgt := 116) C.x C.b dX12_taken_111 rfl ?_
                rw [x_e0 hf]
                exact x_iret C hr hW dX12_taken_116
          · replace hf := x_ip c75 hf
            refine lv_bipush (v := (-11)) C.x C.b dX12_taken_78 (by decide) ?_
            rw [x_e0 hf]
            exact x_iret C hr hW dX12_taken_80
        · replace hf := x_ip c42 hf
          refine lv_iload_n C.x C.b dX12_taken_45 rfl (lv_at hl 2 rfl) ?_
          refine lv_bipush (v := 10) C.x C.b dX12_taken_46 (by decide) ?_
          refine lv_isub C.x C.b dX12_taken_48 ?_
          refine lv_aload_n C.x C.b dX12_taken_49 rfl (lv_at hl 0 rfl) ?_
          replace hf := x_b1 hf; obtain ⟨a50_30, ha50_30, hf⟩ := hf
          refine x_getn C hW fg_X12_44_15 ha50_30 dX12_taken_50 ?_
          refine lv_iload_n C.x C.b dX12_taken_53 rfl (lv_at hl 1 rfl) ?_
          replace hf := x_b1 hf; obtain ⟨x54_31, hx54_31, hf⟩ := hf
          refine x_iald C hW hx54_31 dX12_taken_54 ?_
          refine lv_icmp_ne (tgt := 67) C.x C.b dX12_taken_55 rfl (fun c55 => ?_) (fun c55 => ?_)
          · replace hf := x_in c55 hf
            refine lv_bipush (v := (-13)) C.x C.b dX12_taken_67 (by decide) ?_
            rw [x_e0 hf]
            exact x_iret C hr hW dX12_taken_69
          · replace hf := x_ip c55 hf
            refine lv_aload_n C.x C.b dX12_taken_58 rfl (lv_at hl 0 rfl) ?_
            replace hf := x_b1 hf; obtain ⟨a59_32, ha59_32, hf⟩ := hf
            refine x_getn C hW fg_X12_47_15 ha59_32 dX12_taken_59 ?_
            refine lv_iload_n C.x C.b dX12_taken_62 rfl (lv_at hl 1 rfl) ?_
            replace hf := x_b1 hf; obtain ⟨x63_33, hx63_33, hf⟩ := hf
            refine x_iald C hW hx63_33 dX12_taken_63 ?_
            refine lv_goto (tgt := 69) C.x C.b dX12_taken_64 rfl ?_
            rw [x_e0 hf]
            exact x_iret C hr hW dX12_taken_69
      · replace hf := x_ip c30 hf
        refine lv_iconst (v := (-1)) C.x C.b dX12_taken_33 (by decide) ?_
        rw [x_e0 hf]
        exact x_iret C hr hW dX12_taken_34

theorem dX12_runs__0 : decode cX12_runs_ 0 = .ok (.aload_n 0, 1) := by decide +kernel
theorem dX12_runs__1 : decode cX12_runs_ 1 = .ok (.getfield 421, 3) := by decide +kernel
theorem dX12_runs__4 : decode cX12_runs_ 4 = .ok (.bipush 30, 2) := by decide +kernel
theorem dX12_runs__6 : decode cX12_runs_ 6 = .ok (.if_icmp .ge 23, 3) := by decide +kernel
theorem dX12_runs__9 : decode cX12_runs_ 9 = .ok (.aload_n 0, 1) := by decide +kernel
theorem dX12_runs__10 : decode cX12_runs_ 10 = .ok (.getfield 50, 3) := by decide +kernel
theorem dX12_runs__13 : decode cX12_runs_ 13 = .ok (.aload_n 0, 1) := by decide +kernel
theorem dX12_runs__14 : decode cX12_runs_ 14 = .ok (.getfield 421, 3) := by decide +kernel
theorem dX12_runs__17 : decode cX12_runs_ 17 = .ok (.iload_n 1, 1) := by decide +kernel
theorem dX12_runs__18 : decode cX12_runs_ 18 = .ok (.iastore, 1) := by decide +kernel
theorem dX12_runs__19 : decode cX12_runs_ 19 = .ok (.aload_n 0, 1) := by decide +kernel
theorem dX12_runs__20 : decode cX12_runs_ 20 = .ok (.dup, 1) := by decide +kernel
theorem dX12_runs__21 : decode cX12_runs_ 21 = .ok (.getfield 421, 3) := by decide +kernel
theorem dX12_runs__24 : decode cX12_runs_ 24 = .ok (.iconst 1, 1) := by decide +kernel
theorem dX12_runs__25 : decode cX12_runs_ 25 = .ok (.iadd, 1) := by decide +kernel
theorem dX12_runs__26 : decode cX12_runs_ 26 = .ok (.putfield 421, 3) := by decide +kernel
theorem dX12_runs__29 : decode cX12_runs_ 29 = .ok (.return_, 1) := by decide +kernel
theorem fg_X12_421_15 : FdG "NylonLadderModel" 421 15 20 false := ⟨_, _, _, _, rfl, by decide, by decide, by decide, gxX12, by decide, T_6_69, Or.inl rfl, rfl⟩
theorem fg_X12_50_15 : FdG "NylonLadderModel" 50 15 19 true := ⟨_, _, _, _, rfl, by decide, by decide, by decide, gxX12, by decide, T_6_68, Or.inl rfl, rfl⟩
theorem fp_X12_421_15 : FdP "NylonLadderModel" 421 15 20 false .int false := ⟨_, _, _, _, _, rfl, by decide, by decide, by decide, gxX12, by decide, T_6_69, Or.inl rfl, rfl, tyX12_ok, nmX12, by decide +kernel, rfl, fun h => by cases h⟩
def fX12_runs_ (M : Mm) (o : Nat) (p1 : Int32) : Option Mm :=
  B1 (rdI M o 15 20) fun x1_1 =>
  if 30 ≤ x1_1 then
    some M
  else
    B1 (rdN M o 15 19) fun a10_2 =>
    B1 (rdI M o 15 20) fun x14_3 =>
    B1 (asI M a10_2 x14_3 p1) fun M18_4 =>
    B1 (rdI M18_4 o 15 20) fun x21_5 =>
    B1 (wrI M18_4 o 15 20 (x21_5 + 1)) fun M26_6 =>
    some M26_6
set_option maxRecDepth 100000 in
set_option maxHeartbeats 4000000 in
theorem qX12_runs_ (l : Launch) (E : Ev) {M : Mm} {o : Nat} {p1 : Int32} {Mz : Mm} (hf : fX12_runs_ M o p1 = some Mz) : Ct l E yX12_runs_ cX12_runs_ 2 none 0 0 0 0 [.ref (E.b + o), .int p1] M none Mz := by
  refine ct_of (by decide +kernel) (Nat.le_of_ble_eq_true rfl) fun p e s m args below meth c C hr hin hW ls hl => ?_
  have hl : lv_has ls 2 [(0, .ref (E.b + o)), (1, .int p1)] := hl
  unfold fX12_runs_ at hf
  refine lv_aload_n C.x C.b dX12_runs__0 rfl (lv_at hl 0 rfl) ?_
  replace hf := x_b1 hf; obtain ⟨x1_1, hx1_1, hf⟩ := hf
  refine x_geti C hW fg_X12_421_15 hx1_1 dX12_runs__1 ?_
  refine lv_bipush (v := 30) C.x C.b dX12_runs__4 (by decide) ?_
  refine lv_icmp_ge (tgt := 29) C.x C.b dX12_runs__6 rfl (fun c6 => ?_) (fun c6 => ?_)
  · replace hf := x_ip c6 hf
    rw [x_e0 hf]
    exact x_vret C hr hW dX12_runs__29
  · replace hf := x_in c6 hf
    refine lv_aload_n C.x C.b dX12_runs__9 rfl (lv_at hl 0 rfl) ?_
    replace hf := x_b1 hf; obtain ⟨a10_2, ha10_2, hf⟩ := hf
    refine x_getn C hW fg_X12_50_15 ha10_2 dX12_runs__10 ?_
    refine lv_aload_n C.x C.b dX12_runs__13 rfl (lv_at hl 0 rfl) ?_
    replace hf := x_b1 hf; obtain ⟨x14_3, hx14_3, hf⟩ := hf
    refine x_geti C hW fg_X12_421_15 hx14_3 dX12_runs__14 ?_
    refine lv_iload_n C.x C.b dX12_runs__17 rfl (lv_at hl 1 rfl) ?_
    replace hf := x_b1 hf; obtain ⟨M18_4, hM18_4, hf⟩ := hf
    refine x_iast C hW hM18_4 dX12_runs__18 (fun H locs hW => ?_)
    refine lv_aload_n C.x C.b dX12_runs__19 rfl (lv_at hl 0 rfl) ?_
    refine lv_dup C.x C.b dX12_runs__20 rfl ?_
    replace hf := x_b1 hf; obtain ⟨x21_5, hx21_5, hf⟩ := hf
    refine x_geti C hW fg_X12_421_15 hx21_5 dX12_runs__21 ?_
    refine lv_iconst (v := 1) C.x C.b dX12_runs__24 (by decide) ?_
    refine lv_iadd C.x C.b dX12_runs__25 ?_
    replace hf := x_b1 hf; obtain ⟨M26_6, hM26_6, hf⟩ := hf
    refine x_puti C hW fp_X12_421_15 hM26_6 (fun h => by cases h) dX12_runs__26 (fun H locs hW => ?_)
    rw [x_e0 hf]
    exact x_vret C hr hW dX12_runs__29

theorem dX12_plainRuns_0 : decode cX12_plainRuns 0 = .ok (.aload_n 0, 1) := by decide +kernel
theorem dX12_plainRuns_1 : decode cX12_plainRuns 1 = .ok (.bipush 10, 2) := by decide +kernel
theorem dX12_plainRuns_3 : decode cX12_plainRuns 3 = .ok (.invokevirtual 424, 3) := by decide +kernel
theorem dX12_plainRuns_6 : decode cX12_plainRuns 6 = .ok (.iload_n 1, 1) := by decide +kernel
theorem dX12_plainRuns_7 : decode cX12_plainRuns 7 = .ok (.aload_n 0, 1) := by decide +kernel
theorem dX12_plainRuns_8 : decode cX12_plainRuns 8 = .ok (.getfield 426, 3) := by decide +kernel
theorem dX12_plainRuns_11 : decode cX12_plainRuns 11 = .ok (.iadd, 1) := by decide +kernel
theorem dX12_plainRuns_12 : decode cX12_plainRuns 12 = .ok (.ireturn, 1) := by decide +kernel
theorem hd_X12_runs_ : yX12_runs_.cls ≠ "java/lang/invoke/MethodHandle" ∧ yX12_runs_.cls ≠ "java/lang/invoke/VarHandle" ∧ (parseMethodDescriptor yX12_runs_.desc).map (fun d => d.parameters.length) = some 1 := by decide +kernel
theorem gv_X12_424 : GoodIn gT (wsV "NylonLadderModel" 424 "NylonLadderModel" yX12_runs_ (Cond.code yX12_runs_ cX12_runs_ 2 none :: gT)) := good_V T_8_180 T_8_182 TS_94 T_1_10 T_8_183
theorem fg_X12_426_15 : FdG "NylonLadderModel" 426 15 22 false := ⟨_, _, _, _, rfl, by decide, by decide, by decide, gxX12, by decide, T_6_71, Or.inl rfl, rfl⟩
def fX12_plainRuns (M : Mm) (o : Nat) (p1 : Int32) : Option (Int32 × Mm) :=
  B1 (gk M o 15) fun _ =>
  B1 (fX12_runs_ M o 10) fun M3_2 =>
  B1 (rdI M3_2 o 15 22) fun x8_3 =>
  some ((p1 + x8_3), M3_2)
set_option maxRecDepth 100000 in
set_option maxHeartbeats 4000000 in
theorem qX12_plainRuns (l : Launch) (E : Ev) {M : Mm} {o : Nat} {p1 : Int32} {rz : Int32} {Mz : Mm} (hf : fX12_plainRuns M o p1 = some (rz, Mz)) : Ct l E yX12_plainRuns cX12_plainRuns 2 (some .int) 1 21 0 0 [.ref (E.b + o), .int p1] M (some (.int rz)) Mz := by
  refine ct_of (by decide +kernel) (Nat.le_of_ble_eq_true rfl) fun p e s m args below meth c C hr hin hW ls hl => ?_
  have hl : lv_has ls 2 [(0, .ref (E.b + o)), (1, .int p1)] := hl
  unfold fX12_plainRuns at hf
  refine lv_aload_n C.x C.b dX12_plainRuns_0 rfl (lv_at hl 0 rfl) ?_
  refine lv_bipush (v := 10) C.x C.b dX12_plainRuns_1 (by decide) ?_
  replace hf := x_b1 hf; obtain ⟨_, hk3_1, hf⟩ := hf
  replace hf := x_b1 hf; obtain ⟨M3_2, hM3_2, hf⟩ := hf
  refine x_callV (As := [.int 10]) (a := o) (rest := []) C hW hl (qX12_runs_ l E hM3_2) (x_gk hk3_1) (by decide) (by decide) rfl gv_X12_424 ⟨rfl, hd_X12_runs_⟩ rfl rfl (Nat.le_of_ble_eq_true rfl) dX12_plainRuns_3 ⟨Nat.le_of_ble_eq_true rfl, Nat.le_of_ble_eq_true rfl⟩ ⟨Nat.le_of_ble_eq_true rfl, Nat.le_of_ble_eq_true rfl⟩ (fun H locs hW => ?_)
  refine lv_iload_n C.x C.b dX12_plainRuns_6 rfl (lv_at hl 1 rfl) ?_
  refine lv_aload_n C.x C.b dX12_plainRuns_7 rfl (lv_at hl 0 rfl) ?_
  replace hf := x_b1 hf; obtain ⟨x8_3, hx8_3, hf⟩ := hf
  refine x_geti C hW fg_X12_426_15 hx8_3 dX12_plainRuns_8 ?_
  refine lv_iadd C.x C.b dX12_plainRuns_11 ?_
  rw [x_e1 hf, x_e2 hf]
  exact x_iret C hr hW dX12_plainRuns_12

theorem dX12_thickRuns_0 : decode cX12_thickRuns 0 = .ok (.aload_n 0, 1) := by decide +kernel
theorem dX12_thickRuns_1 : decode cX12_thickRuns 1 = .ok (.bipush 30, 2) := by decide +kernel
theorem dX12_thickRuns_3 : decode cX12_thickRuns 3 = .ok (.invokevirtual 424, 3) := by decide +kernel
theorem dX12_thickRuns_6 : decode cX12_thickRuns 6 = .ok (.iconst 3, 1) := by decide +kernel
theorem dX12_thickRuns_7 : decode cX12_thickRuns 7 = .ok (.aload_n 0, 1) := by decide +kernel
theorem dX12_thickRuns_8 : decode cX12_thickRuns 8 = .ok (.iload_n 1, 1) := by decide +kernel
theorem dX12_thickRuns_9 : decode cX12_thickRuns 9 = .ok (.invokevirtual 429, 3) := by decide +kernel
theorem dX12_thickRuns_12 : decode cX12_thickRuns 12 = .ok (.imul, 1) := by decide +kernel
theorem dX12_thickRuns_13 : decode cX12_thickRuns 13 = .ok (.ireturn, 1) := by decide +kernel
theorem hd_X12_plainRuns : yX12_plainRuns.cls ≠ "java/lang/invoke/MethodHandle" ∧ yX12_plainRuns.cls ≠ "java/lang/invoke/VarHandle" ∧ (parseMethodDescriptor yX12_plainRuns.desc).map (fun d => d.parameters.length) = some 1 := by decide +kernel
theorem gv_X12_429 : GoodIn gT (wsV "NylonLadderModel" 429 "NylonLadderModel" yX12_plainRuns (Cond.code yX12_plainRuns cX12_plainRuns 2 (some .int) :: gT)) := good_V T_8_184 T_8_186 TS_95 T_1_10 T_8_187
def fX12_thickRuns (M : Mm) (o : Nat) (p1 : Int32) : Option (Int32 × Mm) :=
  B1 (gk M o 15) fun _ =>
  B1 (fX12_runs_ M o 30) fun M3_2 =>
  B1 (gk M3_2 o 15) fun _ =>
  B2 (fX12_plainRuns M3_2 o p1) fun x9_4 M9_5 =>
  some ((3 * x9_4), M9_5)
set_option maxRecDepth 100000 in
set_option maxHeartbeats 4000000 in
theorem qX12_thickRuns (l : Launch) (E : Ev) {M : Mm} {o : Nat} {p1 : Int32} {rz : Int32} {Mz : Mm} (hf : fX12_thickRuns M o p1 = some (rz, Mz)) : Ct l E yX12_thickRuns cX12_thickRuns 2 (some .int) 2 42 0 0 [.ref (E.b + o), .int p1] M (some (.int rz)) Mz := by
  refine ct_of (by decide +kernel) (Nat.le_of_ble_eq_true rfl) fun p e s m args below meth c C hr hin hW ls hl => ?_
  have hl : lv_has ls 2 [(0, .ref (E.b + o)), (1, .int p1)] := hl
  unfold fX12_thickRuns at hf
  refine lv_aload_n C.x C.b dX12_thickRuns_0 rfl (lv_at hl 0 rfl) ?_
  refine lv_bipush (v := 30) C.x C.b dX12_thickRuns_1 (by decide) ?_
  replace hf := x_b1 hf; obtain ⟨_, hk3_1, hf⟩ := hf
  replace hf := x_b1 hf; obtain ⟨M3_2, hM3_2, hf⟩ := hf
  refine x_callV (As := [.int 30]) (a := o) (rest := []) C hW hl (qX12_runs_ l E hM3_2) (x_gk hk3_1) (by decide) (by decide) rfl gv_X12_424 ⟨rfl, hd_X12_runs_⟩ rfl rfl (Nat.le_of_ble_eq_true rfl) dX12_thickRuns_3 ⟨Nat.le_of_ble_eq_true rfl, Nat.le_of_ble_eq_true rfl⟩ ⟨Nat.le_of_ble_eq_true rfl, Nat.le_of_ble_eq_true rfl⟩ (fun H locs hW => ?_)
  refine lv_iconst (v := 3) C.x C.b dX12_thickRuns_6 (by decide) ?_
  refine lv_aload_n C.x C.b dX12_thickRuns_7 rfl (lv_at hl 0 rfl) ?_
  refine lv_iload_n C.x C.b dX12_thickRuns_8 rfl (lv_at hl 1 rfl) ?_
  replace hf := x_b1 hf; obtain ⟨_, hk9_3, hf⟩ := hf
  replace hf := x_b2 hf; obtain ⟨x9_4, M9_5, hx9_4, hf⟩ := hf
  refine x_callV (As := [.int p1]) (a := o) (rest := [.int 3]) C hW hl (qX12_plainRuns l E hx9_4) (x_gk hk9_3) (by decide) (by decide) rfl gv_X12_429 ⟨rfl, hd_X12_plainRuns⟩ rfl rfl (Nat.le_of_ble_eq_true rfl) dX12_thickRuns_9 ⟨Nat.le_of_ble_eq_true rfl, Nat.le_of_ble_eq_true rfl⟩ ⟨Nat.le_of_ble_eq_true rfl, Nat.le_of_ble_eq_true rfl⟩ (fun H locs hW => ?_)
  refine lv_imul C.x C.b dX12_thickRuns_12 ?_
  rw [x_e1 hf, x_e2 hf]
  exact x_iret C hr hW dX12_thickRuns_13
