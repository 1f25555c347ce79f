theorem dX11_feed_0 : decode cX11_feed 0 = .ok (.iload_n 3, 1) := by decide +kernel
theorem dX11_feed_1 : decode cX11_feed 1 = .ok (.iconst 1, 1) := by decide +kernel
theorem dX11_feed_2 : decode cX11_feed 2 = .ok (.bipush 8, 2) := by decide +kernel
theorem dX11_feed_4 : decode cX11_feed 4 = .ok (.invokestatic 69, 3) := by decide +kernel
theorem dX11_feed_7 : decode cX11_feed 7 = .ok (.ifCond .ne 5, 3) := by decide +kernel
theorem dX11_feed_10 : decode cX11_feed 10 = .ok (.iconst (-1), 1) := by decide +kernel
theorem dX11_feed_11 : decode cX11_feed 11 = .ok (.ireturn, 1) := by decide +kernel
theorem dX11_feed_12 : decode cX11_feed 12 = .ok (.aload_n 0, 1) := by decide +kernel
theorem dX11_feed_13 : decode cX11_feed 13 = .ok (.getfield 36, 3) := by decide +kernel
theorem dX11_feed_16 : decode cX11_feed 16 = .ok (.getfield 73, 3) := by decide +kernel
theorem dX11_feed_19 : decode cX11_feed 19 = .ok (.iload_n 3, 1) := by decide +kernel
theorem dX11_feed_20 : decode cX11_feed 20 = .ok (.iadd, 1) := by decide +kernel
theorem dX11_feed_21 : decode cX11_feed 21 = .ok (.sipush 200, 3) := by decide +kernel
theorem dX11_feed_24 : decode cX11_feed 24 = .ok (.if_icmp .le 6, 3) := by decide +kernel
theorem dX11_feed_27 : decode cX11_feed 27 = .ok (.bipush (-2), 2) := by decide +kernel
theorem dX11_feed_29 : decode cX11_feed 29 = .ok (.ireturn, 1) := by decide +kernel
theorem dX11_feed_30 : decode cX11_feed 30 = .ok (.iconst 0, 1) := by decide +kernel
theorem dX11_feed_31 : decode cX11_feed 31 = .ok (.istore 4, 2) := by decide +kernel
theorem dX11_feed_33 : decode cX11_feed 33 = .ok (.iload 4, 2) := by decide +kernel
theorem dX11_feed_35 : decode cX11_feed 35 = .ok (.iload_n 3, 1) := by decide +kernel
theorem dX11_feed_36 : decode cX11_feed 36 = .ok (.if_icmp .ge 28, 3) := by decide +kernel
theorem dX11_feed_39 : decode cX11_feed 39 = .ok (.aload_n 0, 1) := by decide +kernel
theorem dX11_feed_40 : decode cX11_feed 40 = .ok (.getfield 36, 3) := by decide +kernel
theorem dX11_feed_43 : decode cX11_feed 43 = .ok (.lload_n 1, 1) := by decide +kernel
theorem dX11_feed_44 : decode cX11_feed 44 = .ok (.bipush 8, 2) := by decide +kernel
theorem dX11_feed_46 : decode cX11_feed 46 = .ok (.iload 4, 2) := by decide +kernel
theorem dX11_feed_48 : decode cX11_feed 48 = .ok (.imul, 1) := by decide +kernel
theorem dX11_feed_49 : decode cX11_feed 49 = .ok (.lushr, 1) := by decide +kernel
theorem dX11_feed_50 : decode cX11_feed 50 = .ok (.l2i, 1) := by decide +kernel
theorem dX11_feed_51 : decode cX11_feed 51 = .ok (.sipush 255, 3) := by decide +kernel
theorem dX11_feed_54 : decode cX11_feed 54 = .ok (.iand, 1) := by decide +kernel
theorem dX11_feed_55 : decode cX11_feed 55 = .ok (.invokevirtual 76, 3) := by decide +kernel
theorem dX11_feed_58 : decode cX11_feed 58 = .ok (.iinc 4 1, 3) := by decide +kernel
theorem dX11_feed_61 : decode cX11_feed 61 = .ok (.goto (-28), 3) := by decide +kernel
theorem dX11_feed_64 : decode cX11_feed 64 = .ok (.aload_n 0, 1) := by decide +kernel
theorem dX11_feed_65 : decode cX11_feed 65 = .ok (.getfield 36, 3) := by decide +kernel
theorem dX11_feed_68 : decode cX11_feed 68 = .ok (.getfield 73, 3) := by decide +kernel
theorem dX11_feed_71 : decode cX11_feed 71 = .ok (.ireturn, 1) := by decide +kernel
theorem fg_X11_36_14 : FdG "NylonLadder" 36 14 5 true := ⟨_, _, _, _, rfl, by decide, by decide, by decide, gxX11, by decide, T_1_235, Or.inl rfl, rfl⟩
theorem fg_X11_73_11 : FdG "NylonLadder" 73 11 1 false := ⟨_, _, _, _, rfl, by decide, by decide, by decide, gxX8, by decide, T_1_172, Or.inl rfl, rfl⟩
theorem hd_X8_addByte : yX8_addByte.cls ≠ "java/lang/invoke/MethodHandle" ∧ yX8_addByte.cls ≠ "java/lang/invoke/VarHandle" ∧ (parseMethodDescriptor yX8_addByte.desc).map (fun d => d.parameters.length) = some 1 := by decide +kernel
theorem gv_X11_76 : GoodIn gT (wsV "NylonLadder" 76 "NylonLadder$Tape" yX8_addByte (Cond.code yX8_addByte cX8_addByte 2 none :: gT)) := good_V T_2_34 T_2_35 T_2_36 T_1_6 T_2_37
def fX11_feed_L33 (o : Nat) (v1 : Int64) (v3 : Int32) : Nat → Int32 → Mm → Option (Int32 × Mm)
  | 0, _, _ => none
  | n + 1, v4, M =>
    if v3 ≤ v4 then
      B1 (rdN M o 14 5) fun a65_4 =>
      B1 (rdI M a65_4 11 1) fun x68_5 =>
      some (x68_5, M)
    else
      B1 (rdN M o 14 5) fun a40_6 =>
      B1 (gk M a40_6 11) fun _ =>
      B1 (fX8_addByte M a40_6 (((ushL v1 (8 * v4)).toInt32) &&& 255)) fun M55_8 =>
      fX11_feed_L33 o v1 v3 n (v4 + 1) M55_8
def fX11_feed (M : Mm) (o : Nat) (p1 : Int64) (p2 : Int32) : Option (Int32 × Mm) :=
  B1 (fX11_isWithin M p2 1 8) fun x4_1 =>
  if x4_1 = 0 then
    some ((-1), M)
  else
    B1 (rdN M o 14 5) fun a13_2 =>
    B1 (rdI M a13_2 11 1) fun x16_3 =>
    if (x16_3 + p2) ≤ 200 then
      fX11_feed_L33 o p1 p2 FL 0 M
    else
      some ((-2), M)
set_option maxRecDepth 100000 in
set_option maxHeartbeats 4000000 in
theorem kX11_feed_L33 {l : Launch} {E : Ev} {p : Program} {e : Env} {s : State} {m : MethodId} {args : Array Value} {below : List Frame} {meth : Method} {c : Code} (C : Cx E p s m args meth c cX11_feed yX11_feed.cls 5) (hr : meth.sig.returnType = (some .int)) (hin : yX11_feed.name = "<init>" → meth.name = "<init>")  {o : Nat} {v1 : Int64} {v3 : Int32} {rz : Int32} {Mz : Mm} : ∀ (n : Nat) (v4 : Int32) (M : Mm), fX11_feed_L33 o v1 v3 n v4 M = some (rz, Mz) → ∀ (H : Heap) (locs : List Loc) (ls : Array Slot), Wx E s H locs M → lv_has ls 5 [(0, .ref (E.b + o)), (1, .long v1), (3, .int v3), (4, .int v4)] → W p l e (rM 1 22 0 0) s m args below meth c H locs 0 0 (MQ below (Qp E (some (.int rz)) Mz) args s 0 0 E.A) (F0 m 33 ls []) := by
  intro n
  induction n with
  | zero =>
    intro v4 M hf
    unfold fX11_feed_L33 at hf
    cases hf
  | succ n ih =>
    intro v4 M hf H locs ls hW hl
    unfold fX11_feed_L33 at hf
    refine lv_iload C.x C.b dX11_feed_33 (lv_at hl 3 rfl) ?_
    refine lv_iload_n C.x C.b dX11_feed_35 rfl (lv_at hl 2 rfl) ?_
    refine lv_icmp_ge (tgt := 64) C.x C.b dX11_feed_36 rfl (fun c36 => ?_) (fun c36 => ?_)
    · replace hf := x_ip c36 hf
      refine lv_aload_n C.x C.b dX11_feed_64 rfl (lv_at hl 0 rfl) ?_
      replace hf := x_b1 hf; obtain ⟨a65_4, ha65_4, hf⟩ := hf
      refine x_getn C hW fg_X11_36_14 ha65_4 dX11_feed_65 ?_
      replace hf := x_b1 hf; obtain ⟨x68_5, hx68_5, hf⟩ := hf
      refine x_geti C hW fg_X11_73_11 hx68_5 dX11_feed_68 ?_
      rw [x_e1 hf, x_e2 hf]
      exact x_iret C hr hW dX11_feed_71
    · replace hf := x_in c36 hf
      refine lv_aload_n C.x C.b dX11_feed_39 rfl (lv_at hl 0 rfl) ?_
      replace hf := x_b1 hf; obtain ⟨a40_6, ha40_6, hf⟩ := hf
      refine x_getn C hW fg_X11_36_14 ha40_6 dX11_feed_40 ?_
      refine lv_lload_n C.x C.b dX11_feed_43 rfl (lv_at hl 1 rfl) ?_
      refine lv_bipush (v := 8) C.x C.b dX11_feed_44 (by decide) ?_
      refine lv_iload C.x C.b dX11_feed_46 (lv_at hl 3 rfl) ?_
      refine lv_imul C.x C.b dX11_feed_48 ?_
      refine lv_lushr (v := (ushL v1 (8 * v4))) C.x C.b dX11_feed_49 rfl ?_
      refine lv_l2i (v := (ushL v1 (8 * v4)).toInt32) C.x C.b dX11_feed_50 rfl ?_
      refine lv_sipush (v := 255) C.x C.b dX11_feed_51 (by decide) ?_
      refine lv_iand C.x C.b dX11_feed_54 ?_
      replace hf := x_b1 hf; obtain ⟨_, hk55_7, hf⟩ := hf
      replace hf := x_b1 hf; obtain ⟨M55_8, hM55_8, hf⟩ := hf
      refine x_callV (As := [.int (((ushL v1 (8 * v4)).toInt32) &&& 255)]) (a := a40_6) (rest := []) C hW hl (qX8_addByte l E hM55_8) (x_gk hk55_7) (by decide) (by decide) rfl gv_X11_76 ⟨rfl, hd_X8_addByte⟩ rfl rfl (Nat.le_of_ble_eq_true rfl) dX11_feed_55 ⟨Nat.le_of_ble_eq_true rfl, Nat.le_of_ble_eq_true rfl⟩ ⟨Nat.le_of_ble_eq_true rfl, Nat.le_of_ble_eq_true rfl⟩ (fun H locs hW => ?_)
      refine lv_iinc (v := (v4 + 1)) (lv' := [(4, .int (v4 + 1)), (0, .ref (E.b + _)), (1, .long _), (3, .int _)]) C.x C.b dX11_feed_58 hl (k := 3) rfl (by first | rfl | decide) (by decide) rfl (fun ls hl => ?_)
      refine lv_goto (tgt := 33) C.x C.b dX11_feed_61 rfl ?_
      exact ih (v4 + 1) M55_8 hf _ _ _ hW (lv_sub hl [1, 2, 3, 0] rfl)
set_option maxRecDepth 100000 in
set_option maxHeartbeats 4000000 in
theorem qX11_feed (l : Launch) (E : Ev) {M : Mm} {o : Nat} {p1 : Int64} {p2 : Int32} {rz : Int32} {Mz : Mm} (hf : fX11_feed M o p1 p2 = some (rz, Mz)) : Ct l E yX11_feed cX11_feed 5 (some .int) 1 22 0 0 [.ref (E.b + o), .long p1, .int p2] M (some (.int rz)) Mz := by
  refine ct_of (by decide +kernel) (Nat.le_of_ble_eq_true rfl) fun p e s m args below meth c C hr hin hW ls hl => ?_
  have hl : lv_has ls 5 [(0, .ref (E.b + o)), (1, .long p1), (3, .int p2)] := hl
  unfold fX11_feed at hf
  refine lv_iload_n C.x C.b dX11_feed_0 rfl (lv_at hl 2 rfl) ?_
  refine lv_iconst (v := 1) C.x C.b dX11_feed_1 (by decide) ?_
  refine lv_bipush (v := 8) C.x C.b dX11_feed_2 (by decide) ?_
  replace hf := x_b1 hf; obtain ⟨x4_1, hx4_1, hf⟩ := hf
  refine x_callS (As := [.int p2, .int 1, .int 8]) (rest := []) C hW hl (qX11_isWithin l E hx4_1) gs_X11_69 hd_X11_isWithin rfl rfl (Nat.le_of_ble_eq_true rfl) dX11_feed_4 ⟨Nat.le_of_ble_eq_true rfl, Nat.le_of_ble_eq_true rfl⟩ ⟨Nat.le_of_ble_eq_true rfl, Nat.le_of_ble_eq_true rfl⟩ (fun H locs hW => ?_)
  refine lv_if_ne (tgt := 12) C.x C.b dX11_feed_7 rfl (fun c7 => ?_) (fun c7 => ?_)
  · replace hf := x_in c7 hf
    refine lv_aload_n C.x C.b dX11_feed_12 rfl (lv_at hl 0 rfl) ?_
    replace hf := x_b1 hf; obtain ⟨a13_2, ha13_2, hf⟩ := hf
    refine x_getn C hW fg_X11_36_14 ha13_2 dX11_feed_13 ?_
    replace hf := x_b1 hf; obtain ⟨x16_3, hx16_3, hf⟩ := hf
    refine x_geti C hW fg_X11_73_11 hx16_3 dX11_feed_16 ?_
    refine lv_iload_n C.x C.b dX11_feed_19 rfl (lv_at hl 2 rfl) ?_
    refine lv_iadd C.x C.b dX11_feed_20 ?_
    refine lv_sipush (v := 200) C.x C.b dX11_feed_21 (by decide) ?_
    refine lv_icmp_le (tgt := 30) C.x C.b dX11_feed_24 rfl (fun c24 => ?_) (fun c24 => ?_)
    · replace hf := x_ip c24 hf
      refine lv_iconst (v := 0) C.x C.b dX11_feed_30 (by decide) ?_
      refine lv_istore (lv' := [(4, .int _), (0, .ref (E.b + _)), (1, .long _), (3, .int _)]) C.x C.b dX11_feed_31 hl (by decide) rfl (fun ls hl => ?_)
      exact kX11_feed_L33 C hr hin FL 0 M hf _ _ _ hW (lv_sub hl [1, 2, 3, 0] rfl)
    · replace hf := x_in c24 hf
      refine lv_bipush (v := (-2)) C.x C.b dX11_feed_27 (by decide) ?_
      rw [x_e1 hf, x_e2 hf]
      exact x_iret C hr hW dX11_feed_29
  · replace hf := x_ip c7 hf
    refine lv_iconst (v := (-1)) C.x C.b dX11_feed_10 (by decide) ?_
    rw [x_e1 hf, x_e2 hf]
    exact x_iret C hr hW dX11_feed_11

theorem dX11_drawer_0 : decode cX11_drawer 0 = .ok (.aload_n 0, 1) := by decide +kernel
theorem dX11_drawer_1 : decode cX11_drawer 1 = .ok (.getfield 36, 3) := by decide +kernel
theorem dX11_drawer_4 : decode cX11_drawer 4 = .ok (.invokevirtual 80, 3) := by decide +kernel
theorem dX11_drawer_7 : decode cX11_drawer 7 = .ok (.istore_n 1, 1) := by decide +kernel
theorem dX11_drawer_8 : decode cX11_drawer 8 = .ok (.aload_n 0, 1) := by decide +kernel
theorem dX11_drawer_9 : decode cX11_drawer 9 = .ok (.getfield 36, 3) := by decide +kernel
theorem dX11_drawer_12 : decode cX11_drawer 12 = .ok (.iconst 0, 1) := by decide +kernel
theorem dX11_drawer_13 : decode cX11_drawer 13 = .ok (.putfield 73, 3) := by decide +kernel
theorem dX11_drawer_16 : decode cX11_drawer 16 = .ok (.iload_n 1, 1) := by decide +kernel
theorem dX11_drawer_17 : decode cX11_drawer 17 = .ok (.ifCond .lt 8, 3) := by decide +kernel
theorem dX11_drawer_20 : decode cX11_drawer 20 = .ok (.bipush (-100), 2) := by decide +kernel
theorem dX11_drawer_22 : decode cX11_drawer 22 = .ok (.iload_n 1, 1) := by decide +kernel
theorem dX11_drawer_23 : decode cX11_drawer 23 = .ok (.isub, 1) := by decide +kernel
theorem dX11_drawer_24 : decode cX11_drawer 24 = .ok (.ireturn, 1) := by decide +kernel
theorem dX11_drawer_25 : decode cX11_drawer 25 = .ok (.aload_n 0, 1) := by decide +kernel
theorem dX11_drawer_26 : decode cX11_drawer 26 = .ok (.getfield 36, 3) := by decide +kernel
theorem dX11_drawer_29 : decode cX11_drawer 29 = .ok (.getfield 84, 3) := by decide +kernel
theorem dX11_drawer_32 : decode cX11_drawer 32 = .ok (.aload_n 0, 1) := by decide +kernel
theorem dX11_drawer_33 : decode cX11_drawer 33 = .ok (.getfield 10, 3) := by decide +kernel
theorem dX11_drawer_36 : decode cX11_drawer 36 = .ok (.getfield 87, 3) := by decide +kernel
theorem dX11_drawer_39 : decode cX11_drawer 39 = .ok (.putfield 87, 3) := by decide +kernel
theorem dX11_drawer_42 : decode cX11_drawer 42 = .ok (.aload_n 0, 1) := by decide +kernel
theorem dX11_drawer_43 : decode cX11_drawer 43 = .ok (.getfield 10, 3) := by decide +kernel
theorem dX11_drawer_46 : decode cX11_drawer 46 = .ok (.aload_n 0, 1) := by decide +kernel
theorem dX11_drawer_47 : decode cX11_drawer 47 = .ok (.getfield 36, 3) := by decide +kernel
theorem dX11_drawer_50 : decode cX11_drawer 50 = .ok (.getfield 84, 3) := by decide +kernel
theorem dX11_drawer_53 : decode cX11_drawer 53 = .ok (.invokevirtual 90, 3) := by decide +kernel
theorem dX11_drawer_56 : decode cX11_drawer 56 = .ok (.aload_n 0, 1) := by decide +kernel
theorem dX11_drawer_57 : decode cX11_drawer 57 = .ok (.iconst 0, 1) := by decide +kernel
theorem dX11_drawer_58 : decode cX11_drawer 58 = .ok (.putfield 45, 3) := by decide +kernel
theorem dX11_drawer_61 : decode cX11_drawer 61 = .ok (.aload_n 0, 1) := by decide +kernel
theorem dX11_drawer_62 : decode cX11_drawer 62 = .ok (.getfield 10, 3) := by decide +kernel
theorem dX11_drawer_65 : decode cX11_drawer 65 = .ok (.getfield 94, 3) := by decide +kernel
theorem dX11_drawer_68 : decode cX11_drawer 68 = .ok (.ireturn, 1) := by decide +kernel
theorem hd_X8_faultOf : yX8_faultOf.cls ≠ "java/lang/invoke/MethodHandle" ∧ yX8_faultOf.cls ≠ "java/lang/invoke/VarHandle" ∧ (parseMethodDescriptor yX8_faultOf.desc).map (fun d => d.parameters.length) = some 0 := by decide +kernel
theorem gv_X11_80 : GoodIn gT (wsV "NylonLadder" 80 "NylonLadder$Tape" yX8_faultOf (Cond.code yX8_faultOf cX8_faultOf 2 (some .int) :: gT)) := good_V T_2_42 T_2_43 T_2_44 T_1_6 T_2_45
theorem fp_X11_73_11 : FdP "NylonLadder" 73 11 1 false .int false := ⟨_, _, _, _, _, rfl, by decide, by decide, by decide, gxX8, by decide, T_1_172, Or.inl rfl, rfl, tyX8_ok, nmX8, by decide +kernel, rfl, fun h => by cases h⟩
theorem fg_X11_84_11 : FdG "NylonLadder" 84 11 2 true := ⟨_, _, _, _, rfl, by decide, by decide, by decide, gxX8, by decide, T_1_174, Or.inl rfl, rfl⟩
theorem fg_X11_10_14 : FdG "NylonLadder" 10 14 0 true := ⟨_, _, _, _, rfl, by decide, by decide, by decide, gxX11, by decide, T_1_230, Or.inl rfl, rfl⟩
theorem fg_X11_87_3 : FdG "NylonLadder" 87 3 5 false := ⟨_, _, _, _, rfl, by decide, by decide, by decide, gxX0, by decide, T_1_146, Or.inl rfl, rfl⟩
theorem fp_X11_87_3 : FdP "NylonLadder" 87 3 5 false .int false := ⟨_, _, _, _, _, rfl, by decide, by decide, by decide, gxX0, by decide, T_1_146, Or.inl rfl, rfl, tyX0_ok, nmX0, by decide +kernel, rfl, fun h => by cases h⟩
theorem hd_X0_become : yX0_become.cls ≠ "java/lang/invoke/MethodHandle" ∧ yX0_become.cls ≠ "java/lang/invoke/VarHandle" ∧ (parseMethodDescriptor yX0_become.desc).map (fun d => d.parameters.length) = some 1 := by decide +kernel
theorem gv_X11_90 : GoodIn gT (wsV "NylonLadder" 90 "NylonLadder$Drawer" yX0_become (Cond.code yX0_become cX0_become 3 none :: gT)) := good_V T_2_225 T_2_226 T_2_227 T_1_2 T_2_228
theorem fg_X11_94_3 : FdG "NylonLadder" 94 3 2 false := ⟨_, _, _, _, rfl, by decide, by decide, by decide, gxX0, by decide, T_1_137, Or.inl rfl, rfl⟩
def fX11_drawer (M : Mm) (o : Nat) : Option (Int32 × Mm) :=
  B1 (rdN M o 14 5) fun a1_1 =>
  B1 (gk M a1_1 11) fun _ =>
  B2 (fX8_faultOf M a1_1) fun x4_3 M4_4 =>
  B1 (rdN M4_4 o 14 5) fun a9_5 =>
  B1 (wrI M4_4 a9_5 11 1 0) fun M13_6 =>
  if x4_3 < 0 then
    B1 (rdN M13_6 o 14 5) fun a26_7 =>
    B1 (rdN M13_6 a26_7 11 2) fun a29_8 =>
    B1 (rdN M13_6 o 14 0) fun a33_9 =>
    B1 (rdI M13_6 a33_9 3 5) fun x36_10 =>
    B1 (wrI M13_6 a29_8 3 5 x36_10) fun M39_11 =>
    B1 (rdN M39_11 o 14 0) fun a43_12 =>
    B1 (rdN M39_11 o 14 5) fun a47_13 =>
    B1 (rdN M39_11 a47_13 11 2) fun a50_14 =>
    B1 (gk M39_11 a43_12 3) fun _ =>
    B1 (fX0_become M39_11 a43_12 a50_14) fun M53_16 =>
    B1 (wrI M53_16 o 14 7 0) fun M58_17 =>
    B1 (rdN M58_17 o 14 0) fun a62_18 =>
    B1 (rdI M58_17 a62_18 3 2) fun x65_19 =>
    some (x65_19, M58_17)
  else
    some (((-100) - x4_3), M13_6)
set_option maxRecDepth 100000 in
set_option maxHeartbeats 4000000 in
theorem qX11_drawer (l : Launch) (E : Ev) {M : Mm} {o : Nat} {rz : Int32} {Mz : Mm} (hf : fX11_drawer M o = some (rz, Mz)) : Ct l E yX11_drawer cX11_drawer 2 (some .int) 10 215 0 0 [.ref (E.b + o)] M (some (.int rz)) Mz := by
  refine ct_of (by decide +kernel) (Nat.le_of_ble_eq_true rfl) fun p e s m args below meth c C hr hin hW ls hl => ?_
  have hl : lv_has ls 2 [(0, .ref (E.b + o))] := hl
  unfold fX11_drawer at hf
  refine lv_aload_n C.x C.b dX11_drawer_0 rfl (lv_at hl 0 rfl) ?_
  replace hf := x_b1 hf; obtain ⟨a1_1, ha1_1, hf⟩ := hf
  refine x_getn C hW fg_X11_36_14 ha1_1 dX11_drawer_1 ?_
  replace hf := x_b1 hf; obtain ⟨_, hk4_2, hf⟩ := hf
  replace hf := x_b2 hf; obtain ⟨x4_3, M4_4, hx4_3, hf⟩ := hf
  refine x_callV (As := []) (a := a1_1) (rest := []) C hW hl (qX8_faultOf l E hx4_3) (x_gk hk4_2) (by decide) (by decide) rfl gv_X11_80 ⟨rfl, hd_X8_faultOf⟩ rfl rfl (Nat.le_of_ble_eq_true rfl) dX11_drawer_4 ⟨Nat.le_of_ble_eq_true rfl, Nat.le_of_ble_eq_true rfl⟩ ⟨Nat.le_of_ble_eq_true rfl, Nat.le_of_ble_eq_true rfl⟩ (fun H locs hW => ?_)
  refine lv_istore_n (lv' := [(1, .int _), (0, .ref (E.b + _))]) C.x C.b dX11_drawer_7 rfl hl (by decide) rfl (fun ls hl => ?_)
  refine lv_aload_n C.x C.b dX11_drawer_8 rfl (lv_at hl 1 rfl) ?_
  replace hf := x_b1 hf; obtain ⟨a9_5, ha9_5, hf⟩ := hf
  refine x_getn C hW fg_X11_36_14 ha9_5 dX11_drawer_9 ?_
  refine lv_iconst (v := 0) C.x C.b dX11_drawer_12 (by decide) ?_
  replace hf := x_b1 hf; obtain ⟨M13_6, hM13_6, hf⟩ := hf
  refine x_puti C hW fp_X11_73_11 hM13_6 (fun h => by cases h) dX11_drawer_13 (fun H locs hW => ?_)
  refine lv_iload_n C.x C.b dX11_drawer_16 rfl (lv_at hl 0 rfl) ?_
  refine lv_if_lt (tgt := 25) C.x C.b dX11_drawer_17 rfl (fun c17 => ?_) (fun c17 => ?_)
  · replace hf := x_ip c17 hf
    refine lv_aload_n C.x C.b dX11_drawer_25 rfl (lv_at hl 1 rfl) ?_
    replace hf := x_b1 hf; obtain ⟨a26_7, ha26_7, hf⟩ := hf
    refine x_getn C hW fg_X11_36_14 ha26_7 dX11_drawer_26 ?_
    replace hf := x_b1 hf; obtain ⟨a29_8, ha29_8, hf⟩ := hf
    refine x_getn C hW fg_X11_84_11 ha29_8 dX11_drawer_29 ?_
    refine lv_aload_n C.x C.b dX11_drawer_32 rfl (lv_at hl 1 rfl) ?_
    replace hf := x_b1 hf; obtain ⟨a33_9, ha33_9, hf⟩ := hf
    refine x_getn C hW fg_X11_10_14 ha33_9 dX11_drawer_33 ?_
    replace hf := x_b1 hf; obtain ⟨x36_10, hx36_10, hf⟩ := hf
    refine x_geti C hW fg_X11_87_3 hx36_10 dX11_drawer_36 ?_
    replace hf := x_b1 hf; obtain ⟨M39_11, hM39_11, hf⟩ := hf
    refine x_puti C hW fp_X11_87_3 hM39_11 (fun h => by cases h) dX11_drawer_39 (fun H locs hW => ?_)
    refine lv_aload_n C.x C.b dX11_drawer_42 rfl (lv_at hl 1 rfl) ?_
    replace hf := x_b1 hf; obtain ⟨a43_12, ha43_12, hf⟩ := hf
    refine x_getn C hW fg_X11_10_14 ha43_12 dX11_drawer_43 ?_
    refine lv_aload_n C.x C.b dX11_drawer_46 rfl (lv_at hl 1 rfl) ?_
    replace hf := x_b1 hf; obtain ⟨a47_13, ha47_13, hf⟩ := hf
    refine x_getn C hW fg_X11_36_14 ha47_13 dX11_drawer_47 ?_
    replace hf := x_b1 hf; obtain ⟨a50_14, ha50_14, hf⟩ := hf
    refine x_getn C hW fg_X11_84_11 ha50_14 dX11_drawer_50 ?_
    replace hf := x_b1 hf; obtain ⟨_, hk53_15, hf⟩ := hf
    replace hf := x_b1 hf; obtain ⟨M53_16, hM53_16, hf⟩ := hf
    refine x_callV (As := [.ref (E.b + a50_14)]) (a := a43_12) (rest := []) C hW hl (qX0_become l E hM53_16) (x_gk hk53_15) (by decide) (by decide) rfl gv_X11_90 ⟨rfl, hd_X0_become⟩ rfl rfl (Nat.le_of_ble_eq_true rfl) dX11_drawer_53 ⟨Nat.le_of_ble_eq_true rfl, Nat.le_of_ble_eq_true rfl⟩ ⟨Nat.le_of_ble_eq_true rfl, Nat.le_of_ble_eq_true rfl⟩ (fun H locs hW => ?_)
    refine lv_aload_n C.x C.b dX11_drawer_56 rfl (lv_at hl 1 rfl) ?_
    refine lv_iconst (v := 0) C.x C.b dX11_drawer_57 (by decide) ?_
    replace hf := x_b1 hf; obtain ⟨M58_17, hM58_17, hf⟩ := hf
    refine x_puti C hW fp_X11_45_14 hM58_17 (fun h => by cases h) dX11_drawer_58 (fun H locs hW => ?_)
    refine lv_aload_n C.x C.b dX11_drawer_61 rfl (lv_at hl 1 rfl) ?_
    replace hf := x_b1 hf; obtain ⟨a62_18, ha62_18, hf⟩ := hf
    refine x_getn C hW fg_X11_10_14 ha62_18 dX11_drawer_62 ?_
    replace hf := x_b1 hf; obtain ⟨x65_19, hx65_19, hf⟩ := hf
    refine x_geti C hW fg_X11_94_3 hx65_19 dX11_drawer_65 ?_
    rw [x_e1 hf, x_e2 hf]
    exact x_iret C hr hW dX11_drawer_68
  · replace hf := x_in c17 hf
    refine lv_bipush (v := (-100)) C.x C.b dX11_drawer_20 (by decide) ?_
    refine lv_iload_n C.x C.b dX11_drawer_22 rfl (lv_at hl 0 rfl) ?_
    refine lv_isub C.x C.b dX11_drawer_23 ?_
    rw [x_e1 hf, x_e2 hf]
    exact x_iret C hr hW dX11_drawer_24

theorem dX11_isLaw_0 : decode cX11_isLaw 0 = .ok (.iload_n 0, 1) := by decide +kernel
theorem dX11_isLaw_1 : decode cX11_isLaw 1 = .ok (.iconst 0, 1) := by decide +kernel
theorem dX11_isLaw_2 : decode cX11_isLaw 2 = .ok (.bipush 7, 2) := by decide +kernel
theorem dX11_isLaw_4 : decode cX11_isLaw 4 = .ok (.invokestatic 69, 3) := by decide +kernel
theorem dX11_isLaw_7 : decode cX11_isLaw 7 = .ok (.ireturn, 1) := by decide +kernel
def fX11_isLaw (M : Mm) (p1 : Int32) : Option Int32 :=
  B1 (fX11_isWithin M p1 0 7) fun x4_1 =>
  bz x4_1
set_option maxRecDepth 100000 in
set_option maxHeartbeats 4000000 in
theorem qX11_isLaw (l : Launch) (E : Ev) {M : Mm} {p1 : Int32} {rz : Int32} (hf : fX11_isLaw M p1 = some rz) : Ct l E yX11_isLaw cX11_isLaw 1 (some .boolean) 1 22 0 0 [.int p1] M (some (.int rz)) M := by
  refine ct_of (by decide +kernel) (Nat.le_of_ble_eq_true rfl) fun p e s m args below meth c C hr hin hW ls hl => ?_
  have hl : lv_has ls 1 [(0, .int p1)] := hl
  unfold fX11_isLaw at hf
  refine lv_iload_n C.x C.b dX11_isLaw_0 rfl (lv_at hl 0 rfl) ?_
  refine lv_iconst (v := 0) C.x C.b dX11_isLaw_1 (by decide) ?_
  refine lv_bipush (v := 7) C.x C.b dX11_isLaw_2 (by decide) ?_
  replace hf := x_b1 hf; obtain ⟨x4_1, hx4_1, hf⟩ := hf
  refine x_callS (As := [.int p1, .int 0, .int 7]) (rest := []) C hW hl (qX11_isWithin l E hx4_1) gs_X11_69 hd_X11_isWithin rfl rfl (Nat.le_of_ble_eq_true rfl) dX11_isLaw_4 ⟨Nat.le_of_ble_eq_true rfl, Nat.le_of_ble_eq_true rfl⟩ ⟨Nat.le_of_ble_eq_true rfl, Nat.le_of_ble_eq_true rfl⟩ (fun H locs hW => ?_)
  exact x_zret C hr hW hf dX11_isLaw_7

theorem dX11_set_0 : decode cX11_set 0 = .ok (.iload_n 1, 1) := by decide +kernel
theorem dX11_set_1 : decode cX11_set 1 = .ok (.invokestatic 97, 3) := by decide +kernel
theorem dX11_set_4 : decode cX11_set 4 = .ok (.ifCond .eq 20, 3) := by decide +kernel
theorem dX11_set_7 : decode cX11_set 7 = .ok (.iload_n 2, 1) := by decide +kernel
theorem dX11_set_8 : decode cX11_set 8 = .ok (.getstatic 101, 3) := by decide +kernel
theorem dX11_set_11 : decode cX11_set 11 = .ok (.iload_n 1, 1) := by decide +kernel
theorem dX11_set_12 : decode cX11_set 12 = .ok (.iaload, 1) := by decide +kernel
theorem dX11_set_13 : decode cX11_set 13 = .ok (.getstatic 104, 3) := by decide +kernel
theorem dX11_set_16 : decode cX11_set 16 = .ok (.iload_n 1, 1) := by decide +kernel
theorem dX11_set_17 : decode cX11_set 17 = .ok (.iaload, 1) := by decide +kernel
theorem dX11_set_18 : decode cX11_set 18 = .ok (.invokestatic 69, 3) := by decide +kernel
theorem dX11_set_21 : decode cX11_set 21 = .ok (.ifCond .ne 5, 3) := by decide +kernel
theorem dX11_set_24 : decode cX11_set 24 = .ok (.iconst (-1), 1) := by decide +kernel
theorem dX11_set_25 : decode cX11_set 25 = .ok (.ireturn, 1) := by decide +kernel
theorem dX11_set_26 : decode cX11_set 26 = .ok (.aload_n 0, 1) := by decide +kernel
theorem dX11_set_27 : decode cX11_set 27 = .ok (.getfield 10, 3) := by decide +kernel
theorem dX11_set_30 : decode cX11_set 30 = .ok (.getfield 107, 3) := by decide +kernel
theorem dX11_set_33 : decode cX11_set 33 = .ok (.iload_n 1, 1) := by decide +kernel
theorem dX11_set_34 : decode cX11_set 34 = .ok (.iaload, 1) := by decide +kernel
theorem dX11_set_35 : decode cX11_set 35 = .ok (.istore_n 3, 1) := by decide +kernel
theorem dX11_set_36 : decode cX11_set 36 = .ok (.aload_n 0, 1) := by decide +kernel
theorem dX11_set_37 : decode cX11_set 37 = .ok (.getfield 10, 3) := by decide +kernel
theorem dX11_set_40 : decode cX11_set 40 = .ok (.getfield 107, 3) := by decide +kernel
theorem dX11_set_43 : decode cX11_set 43 = .ok (.iload_n 1, 1) := by decide +kernel
theorem dX11_set_44 : decode cX11_set 44 = .ok (.iload_n 2, 1) := by decide +kernel
theorem dX11_set_45 : decode cX11_set 45 = .ok (.iastore, 1) := by decide +kernel
theorem dX11_set_46 : decode cX11_set 46 = .ok (.iload_n 3, 1) := by decide +kernel
theorem dX11_set_47 : decode cX11_set 47 = .ok (.ireturn, 1) := by decide +kernel
theorem hd_X11_isLaw : yX11_isLaw.cls ≠ "java/lang/invoke/MethodHandle" ∧ yX11_isLaw.cls ≠ "java/lang/invoke/VarHandle" ∧ (parseMethodDescriptor yX11_isLaw.desc).map (fun d => d.parameters.length) = some 1 := by decide +kernel
theorem gs_X11_97 : GoodIn gT (va_wsS "NylonLadder" 97 yX11_isLaw (Cond.code yX11_isLaw cX11_isLaw 1 (some .boolean) :: gT)) := good_S T_3_5 T_3_6 T_1_1 T_3_7
theorem fg_X11_107_3 : FdG "NylonLadder" 107 3 0 true := ⟨_, _, _, _, rfl, by decide, by decide, by decide, gxX0, by decide, T_1_131, Or.inl rfl, rfl⟩
def fX11_set (M : Mm) (o : Nat) (p1 : Int32) (p2 : Int32) : Option (Int32 × Mm) :=
  B1 (fX11_isLaw M p1) fun x1_1 =>
  if x1_1 = 0 then
    some ((-1), M)
  else
    B1 (sld 2 p1) fun x12_2 =>
    B1 (sld 3 p1) fun x17_3 =>
    B1 (fX11_isWithin M p2 x12_2 x17_3) fun x18_4 =>
    if x18_4 = 0 then
      some ((-1), M)
    else
      B1 (rdN M o 14 0) fun a27_5 =>
      B1 (rdN M a27_5 3 0) fun a30_6 =>
      B1 (alI M a30_6 p1) fun x34_7 =>
      B1 (rdN M o 14 0) fun a37_8 =>
      B1 (rdN M a37_8 3 0) fun a40_9 =>
      B1 (asI M a40_9 p1 p2) fun M45_10 =>
      some (x34_7, M45_10)
set_option maxRecDepth 100000 in
set_option maxHeartbeats 4000000 in
theorem qX11_set (l : Launch) (E : Ev) {M : Mm} {o : Nat} {p1 : Int32} {p2 : Int32} {rz : Int32} {Mz : Mm} (hf : fX11_set M o p1 p2 = some (rz, Mz)) : Ct l E yX11_set cX11_set 4 (some .int) 2 42 0 0 [.ref (E.b + o), .int p1, .int p2] M (some (.int rz)) Mz := by
  refine ct_of (by decide +kernel) (Nat.le_of_ble_eq_true rfl) fun p e s m args below meth c C hr hin hW ls hl => ?_
  have hl : lv_has ls 4 [(0, .ref (E.b + o)), (1, .int p1), (2, .int p2)] := hl
  unfold fX11_set at hf
  refine lv_iload_n C.x C.b dX11_set_0 rfl (lv_at hl 1 rfl) ?_
  replace hf := x_b1 hf; obtain ⟨x1_1, hx1_1, hf⟩ := hf
  refine x_callS (As := [.int p1]) (rest := []) C hW hl (qX11_isLaw l E hx1_1) gs_X11_97 hd_X11_isLaw rfl rfl (Nat.le_of_ble_eq_true rfl) dX11_set_1 ⟨Nat.le_of_ble_eq_true rfl, Nat.le_of_ble_eq_true rfl⟩ ⟨Nat.le_of_ble_eq_true rfl, Nat.le_of_ble_eq_true rfl⟩ (fun H locs hW => ?_)
  refine lv_if_eq (tgt := 24) C.x C.b dX11_set_4 rfl (fun c4 => ?_) (fun c4 => ?_)
  · replace hf := x_ip c4 hf
    refine lv_iconst (v := (-1)) C.x C.b dX11_set_24 (by decide) ?_
    rw [x_e1 hf, x_e2 hf]
    exact x_iret C hr hW dX11_set_25
  · replace hf := x_in c4 hf
    refine lv_iload_n C.x C.b dX11_set_7 rfl (lv_at hl 2 rfl) ?_
    refine x_gets (k := 2) C hW (by decide) (by decide) T_3_8 dX11_set_8 ?_
    refine lv_iload_n C.x C.b dX11_set_11 rfl (lv_at hl 1 rfl) ?_
    replace hf := x_b1 hf; obtain ⟨x12_2, hx12_2, hf⟩ := hf
    refine x_sald (k := 2) C hW (by decide) (by decide) hx12_2 dX11_set_12 ?_
    refine x_gets (k := 3) C hW (by decide) (by decide) T_3_9 dX11_set_13 ?_
    refine lv_iload_n C.x C.b dX11_set_16 rfl (lv_at hl 1 rfl) ?_
    replace hf := x_b1 hf; obtain ⟨x17_3, hx17_3, hf⟩ := hf
    refine x_sald (k := 3) C hW (by decide) (by decide) hx17_3 dX11_set_17 ?_
    replace hf := x_b1 hf; obtain ⟨x18_4, hx18_4, hf⟩ := hf
    refine x_callS (As := [.int p2, .int x12_2, .int x17_3]) (rest := []) C hW hl (qX11_isWithin l E hx18_4) gs_X11_69 hd_X11_isWithin rfl rfl (Nat.le_of_ble_eq_true rfl) dX11_set_18 ⟨Nat.le_of_ble_eq_true rfl, Nat.le_of_ble_eq_true rfl⟩ ⟨Nat.le_of_ble_eq_true rfl, Nat.le_of_ble_eq_true rfl⟩ (fun H locs hW => ?_)
    refine lv_if_ne (tgt := 26) C.x C.b dX11_set_21 rfl (fun c21 => ?_) (fun c21 => ?_)
    · replace hf := x_in c21 hf
      refine lv_aload_n C.x C.b dX11_set_26 rfl (lv_at hl 0 rfl) ?_
      replace hf := x_b1 hf; obtain ⟨a27_5, ha27_5, hf⟩ := hf
      refine x_getn C hW fg_X11_10_14 ha27_5 dX11_set_27 ?_
      replace hf := x_b1 hf; obtain ⟨a30_6, ha30_6, hf⟩ := hf
      refine x_getn C hW fg_X11_107_3 ha30_6 dX11_set_30 ?_
      refine lv_iload_n C.x C.b dX11_set_33 rfl (lv_at hl 1 rfl) ?_
      replace hf := x_b1 hf; obtain ⟨x34_7, hx34_7, hf⟩ := hf
      refine x_iald C hW hx34_7 dX11_set_34 ?_
      refine lv_istore_n (lv' := [(3, .int _), (0, .ref (E.b + _)), (1, .int _), (2, .int _)]) C.x C.b dX11_set_35 rfl hl (by decide) rfl (fun ls hl => ?_)
      refine lv_aload_n C.x C.b dX11_set_36 rfl (lv_at hl 1 rfl) ?_
      replace hf := x_b1 hf; obtain ⟨a37_8, ha37_8, hf⟩ := hf
      refine x_getn C hW fg_X11_10_14 ha37_8 dX11_set_37 ?_
      replace hf := x_b1 hf; obtain ⟨a40_9, ha40_9, hf⟩ := hf
      refine x_getn C hW fg_X11_107_3 ha40_9 dX11_set_40 ?_
      refine lv_iload_n C.x C.b dX11_set_43 rfl (lv_at hl 2 rfl) ?_
      refine lv_iload_n C.x C.b dX11_set_44 rfl (lv_at hl 3 rfl) ?_
      replace hf := x_b1 hf; obtain ⟨M45_10, hM45_10, hf⟩ := hf
      refine x_iast C hW hM45_10 dX11_set_45 (fun H locs hW => ?_)
      refine lv_iload_n C.x C.b dX11_set_46 rfl (lv_at hl 0 rfl) ?_
      rw [x_e1 hf, x_e2 hf]
      exact x_iret C hr hW dX11_set_47
    · replace hf := x_ip c21 hf
      refine lv_iconst (v := (-1)) C.x C.b dX11_set_24 (by decide) ?_
      rw [x_e1 hf, x_e2 hf]
      exact x_iret C hr hW dX11_set_25

theorem dX11_lawOf_0 : decode cX11_lawOf 0 = .ok (.iload_n 1, 1) := by decide +kernel
theorem dX11_lawOf_1 : decode cX11_lawOf 1 = .ok (.invokestatic 97, 3) := by decide +kernel
theorem dX11_lawOf_4 : decode cX11_lawOf 4 = .ok (.ifCond .eq 15, 3) := by decide +kernel
theorem dX11_lawOf_7 : decode cX11_lawOf 7 = .ok (.aload_n 0, 1) := by decide +kernel
theorem dX11_lawOf_8 : decode cX11_lawOf 8 = .ok (.getfield 10, 3) := by decide +kernel
theorem dX11_lawOf_11 : decode cX11_lawOf 11 = .ok (.getfield 107, 3) := by decide +kernel
theorem dX11_lawOf_14 : decode cX11_lawOf 14 = .ok (.iload_n 1, 1) := by decide +kernel
theorem dX11_lawOf_15 : decode cX11_lawOf 15 = .ok (.iaload, 1) := by decide +kernel
theorem dX11_lawOf_16 : decode cX11_lawOf 16 = .ok (.goto 4, 3) := by decide +kernel
theorem dX11_lawOf_19 : decode cX11_lawOf 19 = .ok (.iconst (-1), 1) := by decide +kernel
theorem dX11_lawOf_20 : decode cX11_lawOf 20 = .ok (.ireturn, 1) := by decide +kernel
def fX11_lawOf (M : Mm) (o : Nat) (p1 : Int32) : Option Int32 :=
  B1 (fX11_isLaw M p1) fun x1_1 =>
  if x1_1 = 0 then
    some (-1)
  else
    B1 (rdN M o 14 0) fun a8_2 =>
    B1 (rdN M a8_2 3 0) fun a11_3 =>
    B1 (alI M a11_3 p1) fun x15_4 =>
    some x15_4
set_option maxRecDepth 100000 in
set_option maxHeartbeats 4000000 in
theorem qX11_lawOf (l : Launch) (E : Ev) {M : Mm} {o : Nat} {p1 : Int32} {rz : Int32} (hf : fX11_lawOf M o p1 = some rz) : Ct l E yX11_lawOf cX11_lawOf 2 (some .int) 2 42 0 0 [.ref (E.b + o), .int p1] M (some (.int rz)) M := by
  refine ct_of (by decide +kernel) (Nat.le_of_ble_eq_true rfl) fun p e s m args below meth c C hr hin hW ls hl => ?_
  have hl : lv_has ls 2 [(0, .ref (E.b + o)), (1, .int p1)] := hl
  unfold fX11_lawOf at hf
  refine lv_iload_n C.x C.b dX11_lawOf_0 rfl (lv_at hl 1 rfl) ?_
  replace hf := x_b1 hf; obtain ⟨x1_1, hx1_1, hf⟩ := hf
  refine x_callS (As := [.int p1]) (rest := []) C hW hl (qX11_isLaw l E hx1_1) gs_X11_97 hd_X11_isLaw rfl rfl (Nat.le_of_ble_eq_true rfl) dX11_lawOf_1 ⟨Nat.le_of_ble_eq_true rfl, Nat.le_of_ble_eq_true rfl⟩ ⟨Nat.le_of_ble_eq_true rfl, Nat.le_of_ble_eq_true rfl⟩ (fun H locs hW => ?_)
  refine lv_if_eq (tgt := 19) C.x C.b dX11_lawOf_4 rfl (fun c4 => ?_) (fun c4 => ?_)
  · replace hf := x_ip c4 hf
    refine lv_iconst (v := (-1)) C.x C.b dX11_lawOf_19 (by decide) ?_
    rw [x_e0 hf]
    exact x_iret C hr hW dX11_lawOf_20
  · replace hf := x_in c4 hf
    refine lv_aload_n C.x C.b dX11_lawOf_7 rfl (lv_at hl 0 rfl) ?_
    replace hf := x_b1 hf; obtain ⟨a8_2, ha8_2, hf⟩ := hf
    refine x_getn C hW fg_X11_10_14 ha8_2 dX11_lawOf_8 ?_
    replace hf := x_b1 hf; obtain ⟨a11_3, ha11_3, hf⟩ := hf
    refine x_getn C hW fg_X11_107_3 ha11_3 dX11_lawOf_11 ?_
    refine lv_iload_n C.x C.b dX11_lawOf_14 rfl (lv_at hl 1 rfl) ?_
    replace hf := x_b1 hf; obtain ⟨x15_4, hx15_4, hf⟩ := hf
    refine x_iald C hW hx15_4 dX11_lawOf_15 ?_
    refine lv_goto (tgt := 20) C.x C.b dX11_lawOf_16 rfl ?_
    rw [x_e0 hf]
    exact x_iret C hr hW dX11_lawOf_20

theorem dX11_isKind_0 : decode cX11_isKind 0 = .ok (.iload_n 0, 1) := by decide +kernel
theorem dX11_isKind_1 : decode cX11_isKind 1 = .ok (.iconst 0, 1) := by decide +kernel
theorem dX11_isKind_2 : decode cX11_isKind 2 = .ok (.iconst 5, 1) := by decide +kernel
theorem dX11_isKind_3 : decode cX11_isKind 3 = .ok (.invokestatic 69, 3) := by decide +kernel
theorem dX11_isKind_6 : decode cX11_isKind 6 = .ok (.ireturn, 1) := by decide +kernel
def fX11_isKind (M : Mm) (p1 : Int32) : Option Int32 :=
  B1 (fX11_isWithin M p1 0 5) fun x3_1 =>
  bz x3_1
set_option maxRecDepth 100000 in
set_option maxHeartbeats 4000000 in
theorem qX11_isKind (l : Launch) (E : Ev) {M : Mm} {p1 : Int32} {rz : Int32} (hf : fX11_isKind M p1 = some rz) : Ct l E yX11_isKind cX11_isKind 1 (some .boolean) 1 22 0 0 [.int p1] M (some (.int rz)) M := by
  refine ct_of (by decide +kernel) (Nat.le_of_ble_eq_true rfl) fun p e s m args below meth c C hr hin hW ls hl => ?_
  have hl : lv_has ls 1 [(0, .int p1)] := hl
  unfold fX11_isKind at hf
  refine lv_iload_n C.x C.b dX11_isKind_0 rfl (lv_at hl 0 rfl) ?_
  refine lv_iconst (v := 0) C.x C.b dX11_isKind_1 (by decide) ?_
  refine lv_iconst (v := 5) C.x C.b dX11_isKind_2 (by decide) ?_
  replace hf := x_b1 hf; obtain ⟨x3_1, hx3_1, hf⟩ := hf
  refine x_callS (As := [.int p1, .int 0, .int 5]) (rest := []) C hW hl (qX11_isWithin l E hx3_1) gs_X11_69 hd_X11_isWithin rfl rfl (Nat.le_of_ble_eq_true rfl) dX11_isKind_3 ⟨Nat.le_of_ble_eq_true rfl, Nat.le_of_ble_eq_true rfl⟩ ⟨Nat.le_of_ble_eq_true rfl, Nat.le_of_ble_eq_true rfl⟩ (fun H locs hW => ?_)
  exact x_zret C hr hW hf dX11_isKind_6

theorem dX11_isA_0 : decode cX11_isA 0 = .ok (.iload_n 0, 1) := by decide +kernel
theorem dX11_isA_1 : decode cX11_isA 1 = .ok (.iconst 0, 1) := by decide +kernel
theorem dX11_isA_2 : decode cX11_isA 2 = .ok (.bipush 9, 2) := by decide +kernel
theorem dX11_isA_4 : decode cX11_isA 4 = .ok (.invokestatic 69, 3) := by decide +kernel
theorem dX11_isA_7 : decode cX11_isA 7 = .ok (.ireturn, 1) := by decide +kernel
def fX11_isA (M : Mm) (p1 : Int32) : Option Int32 :=
  B1 (fX11_isWithin M p1 0 9) fun x4_1 =>
  bz x4_1
set_option maxRecDepth 100000 in
set_option maxHeartbeats 4000000 in
theorem qX11_isA (l : Launch) (E : Ev) {M : Mm} {p1 : Int32} {rz : Int32} (hf : fX11_isA M p1 = some rz) : Ct l E yX11_isA cX11_isA 1 (some .boolean) 1 22 0 0 [.int p1] M (some (.int rz)) M := by
  refine ct_of (by decide +kernel) (Nat.le_of_ble_eq_true rfl) fun p e s m args below meth c C hr hin hW ls hl => ?_
  have hl : lv_has ls 1 [(0, .int p1)] := hl
  unfold fX11_isA at hf
  refine lv_iload_n C.x C.b dX11_isA_0 rfl (lv_at hl 0 rfl) ?_
  refine lv_iconst (v := 0) C.x C.b dX11_isA_1 (by decide) ?_
  refine lv_bipush (v := 9) C.x C.b dX11_isA_2 (by decide) ?_
  replace hf := x_b1 hf; obtain ⟨x4_1, hx4_1, hf⟩ := hf
  refine x_callS (As := [.int p1, .int 0, .int 9]) (rest := []) C hW hl (qX11_isWithin l E hx4_1) gs_X11_69 hd_X11_isWithin rfl rfl (Nat.le_of_ble_eq_true rfl) dX11_isA_4 ⟨Nat.le_of_ble_eq_true rfl, Nat.le_of_ble_eq_true rfl⟩ ⟨Nat.le_of_ble_eq_true rfl, Nat.le_of_ble_eq_true rfl⟩ (fun H locs hW => ?_)
  exact x_zret C hr hW hf dX11_isA_7

theorem dX11_stocking_0 : decode cX11_stocking 0 = .ok (.iload_n 1, 1) := by decide +kernel
theorem dX11_stocking_1 : decode cX11_stocking 1 = .ok (.invokestatic 110, 3) := by decide +kernel
theorem dX11_stocking_4 : decode cX11_stocking 4 = .ok (.ifCond .eq 30, 3) := by decide +kernel
theorem dX11_stocking_7 : decode cX11_stocking 7 = .ok (.iload_n 2, 1) := by decide +kernel
theorem dX11_stocking_8 : decode cX11_stocking 8 = .ok (.invokestatic 113, 3) := by decide +kernel
theorem dX11_stocking_11 : decode cX11_stocking 11 = .ok (.ifCond .eq 23, 3) := by decide +kernel
theorem dX11_stocking_14 : decode cX11_stocking 14 = .ok (.iload_n 3, 1) := by decide +kernel
theorem dX11_stocking_15 : decode cX11_stocking 15 = .ok (.iconst 0, 1) := by decide +kernel
theorem dX11_stocking_16 : decode cX11_stocking 16 = .ok (.iconst 3, 1) := by decide +kernel
theorem dX11_stocking_17 : decode cX11_stocking 17 = .ok (.invokestatic 69, 3) := by decide +kernel
theorem dX11_stocking_20 : decode cX11_stocking 20 = .ok (.ifCond .eq 14, 3) := by decide +kernel
theorem dX11_stocking_23 : decode cX11_stocking 23 = .ok (.iload 4, 2) := by decide +kernel
theorem dX11_stocking_25 : decode cX11_stocking 25 = .ok (.iconst 1, 1) := by decide +kernel
theorem dX11_stocking_26 : decode cX11_stocking 26 = .ok (.bipush 30, 2) := by decide +kernel
theorem dX11_stocking_28 : decode cX11_stocking 28 = .ok (.invokestatic 69, 3) := by decide +kernel
theorem dX11_stocking_31 : decode cX11_stocking 31 = .ok (.ifCond .ne 5, 3) := by decide +kernel
theorem dX11_stocking_34 : decode cX11_stocking 34 = .ok (.iconst (-1), 1) := by decide +kernel
theorem dX11_stocking_35 : decode cX11_stocking 35 = .ok (.ireturn, 1) := by decide +kernel
theorem dX11_stocking_36 : decode cX11_stocking 36 = .ok (.aload_n 0, 1) := by decide +kernel
theorem dX11_stocking_37 : decode cX11_stocking 37 = .ok (.getfield 10, 3) := by decide +kernel
theorem dX11_stocking_40 : decode cX11_stocking 40 = .ok (.iload_n 1, 1) := by decide +kernel
theorem dX11_stocking_41 : decode cX11_stocking 41 = .ok (.iload_n 2, 1) := by decide +kernel
theorem dX11_stocking_42 : decode cX11_stocking 42 = .ok (.iload_n 3, 1) := by decide +kernel
theorem dX11_stocking_43 : decode cX11_stocking 43 = .ok (.iload 4, 2) := by decide +kernel
theorem dX11_stocking_45 : decode cX11_stocking 45 = .ok (.invokevirtual 116, 3) := by decide +kernel
theorem dX11_stocking_48 : decode cX11_stocking 48 = .ok (.ifCond .eq 15, 3) := by decide +kernel
theorem dX11_stocking_51 : decode cX11_stocking 51 = .ok (.aload_n 0, 1) := by decide +kernel
theorem dX11_stocking_52 : decode cX11_stocking 52 = .ok (.getfield 10, 3) := by decide +kernel
theorem dX11_stocking_55 : decode cX11_stocking 55 = .ok (.getfield 94, 3) := by decide +kernel
theorem dX11_stocking_58 : decode cX11_stocking 58 = .ok (.iconst 1, 1) := by decide +kernel
theorem dX11_stocking_59 : decode cX11_stocking 59 = .ok (.isub, 1) := by decide +kernel
theorem dX11_stocking_60 : decode cX11_stocking 60 = .ok (.goto 5, 3) := by decide +kernel
theorem dX11_stocking_63 : decode cX11_stocking 63 = .ok (.bipush (-2), 2) := by decide +kernel
theorem dX11_stocking_65 : decode cX11_stocking 65 = .ok (.ireturn, 1) := by decide +kernel
theorem hd_X11_isKind : yX11_isKind.cls ≠ "java/lang/invoke/MethodHandle" ∧ yX11_isKind.cls ≠ "java/lang/invoke/VarHandle" ∧ (parseMethodDescriptor yX11_isKind.desc).map (fun d => d.parameters.length) = some 1 := by decide +kernel
theorem gs_X11_110 : GoodIn gT (va_wsS "NylonLadder" 110 yX11_isKind (Cond.code yX11_isKind cX11_isKind 1 (some .boolean) :: gT)) := good_S T_3_18 T_3_19 T_1_1 T_3_20
theorem hd_X11_isA : yX11_isA.cls ≠ "java/lang/invoke/MethodHandle" ∧ yX11_isA.cls ≠ "java/lang/invoke/VarHandle" ∧ (parseMethodDescriptor yX11_isA.desc).map (fun d => d.parameters.length) = some 1 := by decide +kernel
theorem gs_X11_113 : GoodIn gT (va_wsS "NylonLadder" 113 yX11_isA (Cond.code yX11_isA cX11_isA 1 (some .boolean) :: gT)) := good_S T_3_21 T_3_22 T_1_1 T_3_23
theorem gv_X11_116 : GoodIn gT (wsV "NylonLadder" 116 "NylonLadder$Drawer" yX0_addStocking (Cond.code yX0_addStocking cX0_addStocking 5 (some .boolean) :: gT)) := good_V T_3_24 T_2_214 T_2_215 T_1_2 T_2_216
def fX11_stocking (M : Mm) (o : Nat) (p1 : Int32) (p2 : Int32) (p3 : Int32) (p4 : Int32) : Option (Int32 × Mm) :=
  B1 (fX11_isKind M p1) fun x1_1 =>
  if x1_1 = 0 then
    some ((-1), M)
  else
    B1 (fX11_isA M p2) fun x8_2 =>
    if x8_2 = 0 then
      some ((-1), M)
    else
      B1 (fX11_isWithin M p3 0 3) fun x17_3 =>
      if x17_3 = 0 then
        some ((-1), M)
      else
        B1 (fX11_isWithin M p4 1 30) fun x28_4 =>
        if x28_4 = 0 then
          some ((-1), M)
        else
          B1 (rdN M o 14 0) fun a37_5 =>
          B1 (gk M a37_5 3) fun _ =>
          B2 (fX0_addStocking M a37_5 p1 p2 p3 p4) fun x45_7 M45_8 =>
          if x45_7 = 0 then
            some ((-2), M45_8)
          else
            B1 (rdN M45_8 o 14 0) fun a52_9 =>
            B1 (rdI M45_8 a52_9 3 2) fun x55_10 =>
            some ((x55_10 - 1), M45_8)
set_option maxRecDepth 100000 in
set_option maxHeartbeats 4000000 in
theorem qX11_stocking (l : Launch) (E : Ev) {M : Mm} {o : Nat} {p1 : Int32} {p2 : Int32} {p3 : Int32} {p4 : Int32} {rz : Int32} {Mz : Mm} (hf : fX11_stocking M o p1 p2 p3 p4 = some (rz, Mz)) : Ct l E yX11_stocking cX11_stocking 5 (some .int) 3 68 0 0 [.ref (E.b + o), .int p1, .int p2, .int p3, .int p4] M (some (.int rz)) Mz := by
  refine ct_of (by decide +kernel) (Nat.le_of_ble_eq_true rfl) fun p e s m args below meth c C hr hin hW ls hl => ?_
  have hl : lv_has ls 5 [(0, .ref (E.b + o)), (1, .int p1), (2, .int p2), (3, .int p3), (4, .int p4)] := hl
  unfold fX11_stocking at hf
  refine lv_iload_n C.x C.b dX11_stocking_0 rfl (lv_at hl 1 rfl) ?_
  replace hf := x_b1 hf; obtain ⟨x1_1, hx1_1, hf⟩ := hf
  refine x_callS (As := [.int p1]) (rest := []) C hW hl (qX11_isKind l E hx1_1) gs_X11_110 hd_X11_isKind rfl rfl (Nat.le_of_ble_eq_true rfl) dX11_stocking_1 ⟨Nat.le_of_ble_eq_true rfl, Nat.le_of_ble_eq_true rfl⟩ ⟨Nat.le_of_ble_eq_true rfl, Nat.le_of_ble_eq_true rfl⟩ (fun H locs hW => ?_)
  refine lv_if_eq (tgt := 34) C.x C.b dX11_stocking_4 rfl (fun c4 => ?_) (fun c4 => ?_)
  · replace hf := x_ip c4 hf
    refine lv_iconst (v := (-1)) C.x C.b dX11_stocking_34 (by decide) ?_
    rw [x_e1 hf, x_e2 hf]
    exact x_iret C hr hW dX11_stocking_35
  · replace hf := x_in c4 hf
    refine lv_iload_n C.x C.b dX11_stocking_7 rfl (lv_at hl 2 rfl) ?_
    replace hf := x_b1 hf; obtain ⟨x8_2, hx8_2, hf⟩ := hf
    refine x_callS (As := [.int p2]) (rest := []) C hW hl (qX11_isA l E hx8_2) gs_X11_113 hd_X11_isA rfl rfl (Nat.le_of_ble_eq_true rfl) dX11_stocking_8 ⟨Nat.le_of_ble_eq_true rfl, Nat.le_of_ble_eq_true rfl⟩ ⟨Nat.le_of_ble_eq_true rfl, Nat.le_of_ble_eq_true rfl⟩ (fun H locs hW => ?_)
    refine lv_if_eq (tgt := 34) C.x C.b dX11_stocking_11 rfl (fun c11 => ?_) (fun c11 => ?_)
    · replace hf := x_ip c11 hf
      refine lv_iconst (v := (-1)) C.x C.b dX11_stocking_34 (by decide) ?_
      rw [x_e1 hf, x_e2 hf]
      exact x_iret C hr hW dX11_stocking_35
    · replace hf := x_in c11 hf
      refine lv_iload_n C.x C.b dX11_stocking_14 rfl (lv_at hl 3 rfl) ?_
      refine lv_iconst (v := 0) C.x C.b dX11_stocking_15 (by decide) ?_
      refine lv_iconst (v := 3) C.x C.b dX11_stocking_16 (by decide) ?_
      replace hf := x_b1 hf; obtain ⟨x17_3, hx17_3, hf⟩ := hf
      refine x_callS (As := [.int p3, .int 0, .int 3]) (rest := []) C hW hl (qX11_isWithin l E hx17_3) gs_X11_69 hd_X11_isWithin rfl rfl (Nat.le_of_ble_eq_true rfl) dX11_stocking_17 ⟨Nat.le_of_ble_eq_true rfl, Nat.le_of_ble_eq_true rfl⟩ ⟨Nat.le_of_ble_eq_true rfl, Nat.le_of_ble_eq_true rfl⟩ (fun H locs hW => ?_)
      refine lv_if_eq (tgt := 34) C.x C.b dX11_stocking_20 rfl (fun c20 => ?_) (fun c20 => ?_)
      · replace hf := x_ip c20 hf
        refine lv_iconst (v := (-1)) C.x C.b dX11_stocking_34 (by decide) ?_
        rw [x_e1 hf, x_e2 hf]
        exact x_iret C hr hW dX11_stocking_35
      · replace hf := x_in c20 hf
        refine lv_iload C.x C.b dX11_stocking_23 (lv_at hl 4 rfl) ?_
        refine lv_iconst (v := 1) C.x C.b dX11_stocking_25 (by decide) ?_
        refine lv_bipush (v := 30) C.x C.b dX11_stocking_26 (by decide) ?_
        replace hf := x_b1 hf; obtain ⟨x28_4, hx28_4, hf⟩ := hf
        refine x_callS (As := [.int p4, .int 1, .int 30]) (rest := []) C hW hl (qX11_isWithin l E hx28_4) gs_X11_69 hd_X11_isWithin rfl rfl (Nat.le_of_ble_eq_true rfl) dX11_stocking_28 ⟨Nat.le_of_ble_eq_true rfl, Nat.le_of_ble_eq_true rfl⟩ ⟨Nat.le_of_ble_eq_true rfl, Nat.le_of_ble_eq_true rfl⟩ (fun H locs hW => ?_)
        refine lv_if_ne (tgt := 36) C.x C.b dX11_stocking_31 rfl (fun c31 => ?_) (fun c31 => ?_)
        · replace hf := x_in c31 hf
          refine lv_aload_n C.x C.b dX11_stocking_36 rfl (lv_at hl 0 rfl) ?_
          replace hf := x_b1 hf; obtain ⟨a37_5, ha37_5, hf⟩ := hf
          refine x_getn C hW fg_X11_10_14 ha37_5 dX11_stocking_37 ?_
          refine lv_iload_n C.x C.b dX11_stocking_40 rfl (lv_at hl 1 rfl) ?_
          refine lv_iload_n C.x C.b dX11_stocking_41 rfl (lv_at hl 2 rfl) ?_
          refine lv_iload_n C.x C.b dX11_stocking_42 rfl (lv_at hl 3 rfl) ?_
          refine lv_iload C.x C.b dX11_stocking_43 (lv_at hl 4 rfl) ?_
          replace hf := x_b1 hf; obtain ⟨_, hk45_6, hf⟩ := hf
          replace hf := x_b2 hf; obtain ⟨x45_7, M45_8, hx45_7, hf⟩ := hf
          refine x_callV (As := [.int p1, .int p2, .int p3, .int p4]) (a := a37_5) (rest := []) C hW hl (qX0_addStocking l E hx45_7) (x_gk hk45_6) (by decide) (by decide) rfl gv_X11_116 ⟨rfl, hd_X0_addStocking⟩ rfl rfl (Nat.le_of_ble_eq_true rfl) dX11_stocking_45 ⟨Nat.le_of_ble_eq_true rfl, Nat.le_of_ble_eq_true rfl⟩ ⟨Nat.le_of_ble_eq_true rfl, Nat.le_of_ble_eq_true rfl⟩ (fun H locs hW => ?_)
          refine lv_if_eq (tgt := 63) C.x C.b dX11_stocking_48 rfl (fun c48 => ?_) (fun c48 => ?_)
          · replace hf := x_ip c48 hf
            refine lv_bipush (v := (-2)) C.x C.b dX11_stocking_63 (by decide) ?_
            rw [x_e1 hf, x_e2 hf]
            exact x_iret C hr hW dX11_stocking_65
          · replace hf := x_in c48 hf
            refine lv_aload_n C.x C.b dX11_stocking_51 rfl (lv_at hl 0 rfl) ?_
            replace hf := x_b1 hf; obtain ⟨a52_9, ha52_9, hf⟩ := hf
            refine x_getn C hW fg_X11_10_14 ha52_9 dX11_stocking_52 ?_
            replace hf := x_b1 hf; obtain ⟨x55_10, hx55_10, hf⟩ := hf
            refine x_geti C hW fg_X11_94_3 hx55_10 dX11_stocking_55 ?_
            refine lv_iconst (v := 1) C.x C.b dX11_stocking_58 (by decide) ?_
            refine lv_isub C.x C.b dX11_stocking_59 ?_
            refine lv_goto (tgt := 65) C.x C.b dX11_stocking_60 rfl ?_
            rw [x_e1 hf, x_e2 hf]
            exact x_iret C hr hW dX11_stocking_65
        · replace hf := x_ip c31 hf
          refine lv_iconst (v := (-1)) C.x C.b dX11_stocking_34 (by decide) ?_
          rw [x_e1 hf, x_e2 hf]
          exact x_iret C hr hW dX11_stocking_35

theorem dX11_of_0 : decode cX11_of 0 = .ok (.aload_n 0, 1) := by decide +kernel
theorem dX11_of_1 : decode cX11_of 1 = .ok (.getfield 10, 3) := by decide +kernel
theorem dX11_of_4 : decode cX11_of 4 = .ok (.iload_n 1, 1) := by decide +kernel
theorem dX11_of_5 : decode cX11_of 5 = .ok (.invokevirtual 120, 3) := by decide +kernel
theorem dX11_of_8 : decode cX11_of 8 = .ok (.astore_n 3, 1) := by decide +kernel
theorem dX11_of_9 : decode cX11_of 9 = .ok (.aload_n 3, 1) := by decide +kernel
theorem dX11_of_10 : decode cX11_of 10 = .ok (.ifnonnull 5, 3) := by decide +kernel
theorem dX11_of_13 : decode cX11_of 13 = .ok (.iconst (-1), 1) := by decide +kernel
theorem dX11_of_14 : decode cX11_of 14 = .ok (.ireturn, 1) := by decide +kernel
theorem dX11_of_15 : decode cX11_of 15 = .ok (.iload_n 2, 1) := by decide +kernel
theorem dX11_of_16 : decode cX11_of 16 = .ok (.tableswitch 110 0 9 #[56, 61, 66, 71, 76, 81, 86, 91, 96, 105], 56) := by decide +kernel
theorem dX11_of_72 : decode cX11_of 72 = .ok (.aload_n 3, 1) := by decide +kernel
theorem dX11_of_73 : decode cX11_of 73 = .ok (.getfield 124, 3) := by decide +kernel
theorem dX11_of_76 : decode cX11_of 76 = .ok (.ireturn, 1) := by decide +kernel
theorem dX11_of_77 : decode cX11_of 77 = .ok (.aload_n 3, 1) := by decide +kernel
theorem dX11_of_78 : decode cX11_of 78 = .ok (.getfield 127, 3) := by decide +kernel
theorem dX11_of_81 : decode cX11_of 81 = .ok (.ireturn, 1) := by decide +kernel
theorem dX11_of_82 : decode cX11_of 82 = .ok (.aload_n 3, 1) := by decide +kernel
theorem dX11_of_83 : decode cX11_of 83 = .ok (.getfield 130, 3) := by decide +kernel
theorem dX11_of_86 : decode cX11_of 86 = .ok (.ireturn, 1) := by decide +kernel
theorem dX11_of_87 : decode cX11_of 87 = .ok (.aload_n 3, 1) := by decide +kernel
theorem dX11_of_88 : decode cX11_of 88 = .ok (.getfield 133, 3) := by decide +kernel
theorem dX11_of_91 : decode cX11_of 91 = .ok (.ireturn, 1) := by decide +kernel
theorem dX11_of_92 : decode cX11_of 92 = .ok (.aload_n 3, 1) := by decide +kernel
theorem dX11_of_93 : decode cX11_of 93 = .ok (.getfield 136, 3) := by decide +kernel
theorem dX11_of_96 : decode cX11_of 96 = .ok (.ireturn, 1) := by decide +kernel
theorem dX11_of_97 : decode cX11_of 97 = .ok (.aload_n 3, 1) := by decide +kernel
theorem dX11_of_98 : decode cX11_of 98 = .ok (.getfield 139, 3) := by decide +kernel
theorem dX11_of_101 : decode cX11_of 101 = .ok (.ireturn, 1) := by decide +kernel
theorem dX11_of_102 : decode cX11_of 102 = .ok (.aload_n 3, 1) := by decide +kernel
theorem dX11_of_103 : decode cX11_of 103 = .ok (.getfield 142, 3) := by decide +kernel
theorem dX11_of_106 : decode cX11_of 106 = .ok (.ireturn, 1) := by decide +kernel
theorem dX11_of_107 : decode cX11_of 107 = .ok (.aload_n 3, 1) := by decide +kernel
theorem dX11_of_108 : decode cX11_of 108 = .ok (.getfield 145, 3) := by decide +kernel
theorem dX11_of_111 : decode cX11_of 111 = .ok (.ireturn, 1) := by decide +kernel
theorem dX11_of_112 : decode cX11_of 112 = .ok (.aload_n 0, 1) := by decide +kernel
theorem dX11_of_113 : decode cX11_of 113 = .ok (.getfield 10, 3) := by decide +kernel
theorem dX11_of_116 : decode cX11_of 116 = .ok (.iload_n 1, 1) := by decide +kernel
theorem dX11_of_117 : decode cX11_of 117 = .ok (.invokevirtual 148, 3) := by decide +kernel
theorem dX11_of_120 : decode cX11_of 120 = .ok (.ireturn, 1) := by decide +kernel
theorem dX11_of_121 : decode cX11_of 121 = .ok (.aload_n 3, 1) := by decide +kernel
theorem dX11_of_122 : decode cX11_of 122 = .ok (.invokevirtual 152, 3) := by decide +kernel
theorem dX11_of_125 : decode cX11_of 125 = .ok (.ireturn, 1) := by decide +kernel
theorem dX11_of_126 : decode cX11_of 126 = .ok (.iconst (-1), 1) := by decide +kernel
theorem dX11_of_127 : decode cX11_of 127 = .ok (.ireturn, 1) := by decide +kernel
theorem gv_X11_120 : GoodIn gT (wsV "NylonLadder" 120 "NylonLadder$Drawer" yX0_stockingAt (Cond.code yX0_stockingAt cX0_stockingAt 2 (some (.object "NylonLadder$Stocking")) :: gT)) := good_V T_3_29 T_2_136 T_2_137 T_1_2 T_2_138
theorem fg_X11_124_10 : FdG "NylonLadder" 124 10 0 false := ⟨_, _, _, _, rfl, by decide, by decide, by decide, gxX7, by decide, T_1_76, Or.inl rfl, rfl⟩
theorem fg_X11_127_10 : FdG "NylonLadder" 127 10 1 false := ⟨_, _, _, _, rfl, by decide, by decide, by decide, gxX7, by decide, T_1_79, Or.inl rfl, rfl⟩
theorem fg_X11_130_10 : FdG "NylonLadder" 130 10 2 false := ⟨_, _, _, _, rfl, by decide, by decide, by decide, gxX7, by decide, T_1_81, Or.inl rfl, rfl⟩
theorem fg_X11_133_10 : FdG "NylonLadder" 133 10 3 false := ⟨_, _, _, _, rfl, by decide, by decide, by decide, gxX7, by decide, T_1_84, Or.inl rfl, rfl⟩
theorem fg_X11_136_10 : FdG "NylonLadder" 136 10 4 false := ⟨_, _, _, _, rfl, by decide, by decide, by decide, gxX7, by decide, T_1_86, Or.inl rfl, rfl⟩
theorem fg_X11_139_10 : FdG "NylonLadder" 139 10 5 false := ⟨_, _, _, _, rfl, by decide, by decide, by decide, gxX7, by decide, T_1_89, Or.inl rfl, rfl⟩
theorem fg_X11_142_10 : FdG "NylonLadder" 142 10 6 false := ⟨_, _, _, _, rfl, by decide, by decide, by decide, gxX7, by decide, T_1_91, Or.inl rfl, rfl⟩
theorem fg_X11_145_10 : FdG "NylonLadder" 145 10 7 false := ⟨_, _, _, _, rfl, by decide, by decide, by decide, gxX7, by decide, T_1_94, Or.inl rfl, rfl⟩
theorem gv_X11_148 : GoodIn gT (wsV "NylonLadder" 148 "NylonLadder$Drawer" yX0_footOf (Cond.code yX0_footOf cX0_footOf 2 (some .int) :: gT)) := good_V T_3_30 T_2_145 T_2_146 T_1_2 T_2_147
theorem gv_X11_152 : GoodIn gT (wsV "NylonLadder" 152 "NylonLadder$Stocking" yX7_openRungs (Cond.code yX7_openRungs cX7_openRungs 1 (some .int) :: gT)) := good_V T_3_31 T_3_32 T_3_33 T_1_4 T_3_34
def fX11_of (M : Mm) (o : Nat) (p1 : Int32) (p2 : Int32) : Option Int32 :=
  B1 (rdN M o 14 0) fun a1_1 =>
  B1 (gk M a1_1 3) fun _ =>
  B1 (fX0_stockingAt M a1_1 p1) fun x5_3 =>
  NL x5_3 (
    some (-1)) (fun a10_4 =>
    if p2 = 0 then
      B1 (rdI M a10_4 10 0) fun x73_5 =>
      some x73_5
    else
      if p2 = 1 then
        B1 (rdI M a10_4 10 1) fun x78_6 =>
        some x78_6
      else
        if p2 = 2 then
          B1 (rdI M a10_4 10 2) fun x83_7 =>
          some x83_7
        else
          if p2 = 3 then
            B1 (rdI M a10_4 10 3) fun x88_8 =>
            some x88_8
          else
            if p2 = 4 then
              B1 (rdI M a10_4 10 4) fun x93_9 =>
              some x93_9
            else
              if p2 = 5 then
                B1 (rdI M a10_4 10 5) fun x98_10 =>
                some x98_10
              else
                if p2 = 6 then
                  B1 (rdI M a10_4 10 6) fun x103_11 =>
                  some x103_11
                else
                  if p2 = 7 then
                    B1 (rdI M a10_4 10 7) fun x108_12 =>
                    some x108_12
                  else
                    if p2 = 8 then
                      B1 (rdN M o 14 0) fun a113_13 =>
                      B1 (gk M a113_13 3) fun _ =>
                      B1 (fX0_footOf M a113_13 p1) fun x117_15 =>
                      some x117_15
                    else
                      if p2 = 9 then
                        B1 (gk M a10_4 10) fun _ =>
                        B1 (fX7_openRungs M a10_4) fun x122_17 =>
                        some x122_17
                      else
                        some (-1))
set_option maxRecDepth 100000 in
set_option maxHeartbeats 4000000 in
theorem qX11_of (l : Launch) (E : Ev) {M : Mm} {o : Nat} {p1 : Int32} {p2 : Int32} {rz : Int32} (hf : fX11_of M o p1 p2 = some rz) : Ct l E yX11_of cX11_of 4 (some .int) 2 43 0 0 [.ref (E.b + o), .int p1, .int p2] M (some (.int rz)) M := by
  refine ct_of (by decide +kernel) (Nat.le_of_ble_eq_true rfl) fun p e s m args below meth c C hr hin hW ls hl => ?_
  have hl : lv_has ls 4 [(0, .ref (E.b + o)), (1, .int p1), (2, .int p2)] := hl
  unfold fX11_of at hf
  refine lv_aload_n C.x C.b dX11_of_0 rfl (lv_at hl 0 rfl) ?_
  replace hf := x_b1 hf; obtain ⟨a1_1, ha1_1, hf⟩ := hf
  refine x_getn C hW fg_X11_10_14 ha1_1 dX11_of_1 ?_
  refine lv_iload_n C.x C.b dX11_of_4 rfl (lv_at hl 1 rfl) ?_
  replace hf := x_b1 hf; obtain ⟨_, hk5_2, hf⟩ := hf
  replace hf := x_b1 hf; obtain ⟨x5_3, hx5_3, hf⟩ := hf
  refine x_callV (As := [.int p1]) (a := a1_1) (rest := []) C hW hl (qX0_stockingAt l E hx5_3) (x_gk hk5_2) (by decide) (by decide) rfl gv_X11_120 ⟨rfl, hd_X0_stockingAt⟩ rfl rfl (Nat.le_of_ble_eq_true rfl) dX11_of_5 ⟨Nat.le_of_ble_eq_true rfl, Nat.le_of_ble_eq_true rfl⟩ ⟨Nat.le_of_ble_eq_true rfl, Nat.le_of_ble_eq_true rfl⟩ (fun H locs hW => ?_)
  refine x_astore_n (lv' := [(3, rv E.b _), (0, .ref (E.b + _)), (1, .int _), (2, .int _)]) C dX11_of_8 rfl hl (by decide) rfl (fun ls hl => ?_)
  refine x_aload_n C dX11_of_9 rfl (lv_at hl 0 rfl) ?_
  replace hf := x_nl hf; rcases hf with ⟨rfl, hf⟩ | ⟨a10_4, rfl, hf⟩
  · refine lv_ifnonnullN C.x C.b dX11_of_10 ?_
    refine lv_iconst (v := (-1)) C.x C.b dX11_of_13 (by decide) ?_
    rw [x_e0 hf]
    exact x_iret C hr hW dX11_of_14
  · refine lv_ifnonnull (tgt := 15) C.x C.b dX11_of_10 rfl ?_
    refine lv_iload_n C.x C.b dX11_of_15 rfl (lv_at hl 3 rfl) ?_
    by_cases s16_0 : p2 = 0
    · replace hf := x_ip s16_0 hf
      refine lv_tableIn (off := 56) (tgt := 72) C.x C.b dX11_of_16 (by rw [s16_0]; decide) (by rw [s16_0]; decide) (by rw [s16_0]; rfl) rfl ?_
      refine lv_aload_n C.x C.b dX11_of_72 rfl (lv_at hl 0 rfl) ?_
      replace hf := x_b1 hf; obtain ⟨x73_5, hx73_5, hf⟩ := hf
      refine x_geti C hW fg_X11_124_10 hx73_5 dX11_of_73 ?_
      rw [x_e0 hf]
      exact x_iret C hr hW dX11_of_76
    · replace hf := x_in s16_0 hf
      by_cases s16_1 : p2 = 1
      · replace hf := x_ip s16_1 hf
        refine lv_tableIn (off := 61) (tgt := 77) C.x C.b dX11_of_16 (by rw [s16_1]; decide) (by rw [s16_1]; decide) (by rw [s16_1]; rfl) rfl ?_
        refine lv_aload_n C.x C.b dX11_of_77 rfl (lv_at hl 0 rfl) ?_
        replace hf := x_b1 hf; obtain ⟨x78_6, hx78_6, hf⟩ := hf
        refine x_geti C hW fg_X11_127_10 hx78_6 dX11_of_78 ?_
        rw [x_e0 hf]
        exact x_iret C hr hW dX11_of_81
      · replace hf := x_in s16_1 hf
        by_cases s16_2 : p2 = 2
        · replace hf := x_ip s16_2 hf
          refine lv_tableIn (off := 66) (tgt := 82) C.x C.b dX11_of_16 (by rw [s16_2]; decide) (by rw [s16_2]; decide) (by rw [s16_2]; rfl) rfl ?_
          refine lv_aload_n C.x C.b dX11_of_82 rfl (lv_at hl 0 rfl) ?_
          replace hf := x_b1 hf; obtain ⟨x83_7, hx83_7, hf⟩ := hf
          refine x_geti C hW fg_X11_130_10 hx83_7 dX11_of_83 ?_
          rw [x_e0 hf]
          exact x_iret C hr hW dX11_of_86
        · replace hf := x_in s16_2 hf
          by_cases s16_3 : p2 = 3
          · replace hf := x_ip s16_3 hf
            refine lv_tableIn (off := 71) (tgt := 87) C.x C.b dX11_of_16 (by rw [s16_3]; decide) (by rw [s16_3]; decide) (by rw [s16_3]; rfl) rfl ?_
            refine lv_aload_n C.x C.b dX11_of_87 rfl (lv_at hl 0 rfl) ?_
            replace hf := x_b1 hf; obtain ⟨x88_8, hx88_8, hf⟩ := hf
            refine x_geti C hW fg_X11_133_10 hx88_8 dX11_of_88 ?_
            rw [x_e0 hf]
            exact x_iret C hr hW dX11_of_91
          · replace hf := x_in s16_3 hf
            by_cases s16_4 : p2 = 4
            · replace hf := x_ip s16_4 hf
              refine lv_tableIn (off := 76) (tgt := 92) C.x C.b dX11_of_16 (by rw [s16_4]; decide) (by rw [s16_4]; decide) (by rw [s16_4]; rfl) rfl ?_
              refine lv_aload_n C.x C.b dX11_of_92 rfl (lv_at hl 0 rfl) ?_
              replace hf := x_b1 hf; obtain ⟨x93_9, hx93_9, hf⟩ := hf
              refine x_geti C hW fg_X11_136_10 hx93_9 dX11_of_93 ?_
              rw [x_e0 hf]
              exact x_iret C hr hW dX11_of_96
            · replace hf := x_in s16_4 hf
              by_cases s16_5 : p2 = 5
              · replace hf := x_ip s16_5 hf
                refine lv_tableIn (off := 81) (tgt := 97) C.x C.b dX11_of_16 (by rw [s16_5]; decide) (by rw [s16_5]; decide) (by rw [s16_5]; rfl) rfl ?_
                refine lv_aload_n C.x C.b dX11_of_97 rfl (lv_at hl 0 rfl) ?_
                replace hf := x_b1 hf; obtain ⟨x98_10, hx98_10, hf⟩ := hf
                refine x_geti C hW fg_X11_139_10 hx98_10 dX11_of_98 ?_
                rw [x_e0 hf]
                exact x_iret C hr hW dX11_of_101
              · replace hf := x_in s16_5 hf
                by_cases s16_6 : p2 = 6
                · replace hf := x_ip s16_6 hf
                  refine lv_tableIn (off := 86) (tgt := 102) C.x C.b dX11_of_16 (by rw [s16_6]; decide) (by rw [s16_6]; decide) (by rw [s16_6]; rfl) rfl ?_
                  refine lv_aload_n C.x C.b dX11_of_102 rfl (lv_at hl 0 rfl) ?_
                  replace hf := x_b1 hf; obtain ⟨x103_11, hx103_11, hf⟩ := hf
                  refine x_geti C hW fg_X11_142_10 hx103_11 dX11_of_103 ?_
                  rw [x_e0 hf]
                  exact x_iret C hr hW dX11_of_106
                · replace hf := x_in s16_6 hf
                  by_cases s16_7 : p2 = 7
                  · replace hf := x_ip s16_7 hf
                    refine lv_tableIn (off := 91) (tgt := 107) C.x C.b dX11_of_16 (by rw [s16_7]; decide) (by rw [s16_7]; decide) (by rw [s16_7]; rfl) rfl ?_
                    refine lv_aload_n C.x C.b dX11_of_107 rfl (lv_at hl 0 rfl) ?_
                    replace hf := x_b1 hf; obtain ⟨x108_12, hx108_12, hf⟩ := hf
                    refine x_geti C hW fg_X11_145_10 hx108_12 dX11_of_108 ?_
                    rw [x_e0 hf]
                    exact x_iret C hr hW dX11_of_111
                  · replace hf := x_in s16_7 hf
                    by_cases s16_8 : p2 = 8
                    · replace hf := x_ip s16_8 hf
                      refine lv_tableIn (off := 96) (tgt := 112) C.x C.b dX11_of_16 (by rw [s16_8]; decide) (by rw [s16_8]; decide) (by rw [s16_8]; rfl) rfl ?_
                      refine lv_aload_n C.x C.b dX11_of_112 rfl (lv_at hl 1 rfl) ?_
                      replace hf := x_b1 hf; obtain ⟨a113_13, ha113_13, hf⟩ := hf
                      refine x_getn C hW fg_X11_10_14 ha113_13 dX11_of_113 ?_
                      refine lv_iload_n C.x C.b dX11_of_116 rfl (lv_at hl 2 rfl) ?_
                      replace hf := x_b1 hf; obtain ⟨_, hk117_14, hf⟩ := hf
                      replace hf := x_b1 hf; obtain ⟨x117_15, hx117_15, hf⟩ := hf
                      refine x_callV (As := [.int p1]) (a := a113_13) (rest := []) C hW hl (qX0_footOf l E hx117_15) (x_gk hk117_14) (by decide) (by decide) rfl gv_X11_148 ⟨rfl, hd_X0_footOf⟩ rfl rfl (Nat.le_of_ble_eq_true rfl) dX11_of_117 ⟨Nat.le_of_ble_eq_true rfl, Nat.le_of_ble_eq_true rfl⟩ ⟨Nat.le_of_ble_eq_true rfl, Nat.le_of_ble_eq_true rfl⟩ (fun H locs hW => ?_)
                      rw [x_e0 hf]
                      exact x_iret C hr hW dX11_of_120
                    · replace hf := x_in s16_8 hf
                      by_cases s16_9 : p2 = 9
                      · replace hf := x_ip s16_9 hf
                        refine lv_tableIn (off := 105) (tgt := 121) C.x C.b dX11_of_16 (by rw [s16_9]; decide) (by rw [s16_9]; decide) (by rw [s16_9]; rfl) rfl ?_
                        refine lv_aload_n C.x C.b dX11_of_121 rfl (lv_at hl 0 rfl) ?_
                        replace hf := x_b1 hf; obtain ⟨_, hk122_16, hf⟩ := hf
                        replace hf := x_b1 hf; obtain ⟨x122_17, hx122_17, hf⟩ := hf
                        refine x_callV (As := []) (a := a10_4) (rest := []) C hW hl (qX7_openRungs l E hx122_17) (x_gk hk122_16) (by decide) (by decide) rfl gv_X11_152 ⟨rfl, hd_X7_openRungs⟩ rfl rfl (Nat.le_of_ble_eq_true rfl) dX11_of_122 ⟨Nat.le_of_ble_eq_true rfl, Nat.le_of_ble_eq_true rfl⟩ ⟨Nat.le_of_ble_eq_true rfl, Nat.le_of_ble_eq_true rfl⟩ (fun H locs hW => ?_)
                        rw [x_e0 hf]
                        exact x_iret C hr hW dX11_of_125
                      · replace hf := x_in s16_9 hf
                        have s16_0_ := lv_neT (a := 0) s16_0 rfl
                        have s16_1_ := lv_neT (a := 1) s16_1 rfl
                        have s16_2_ := lv_neT (a := 2) s16_2 rfl
                        have s16_3_ := lv_neT (a := 3) s16_3 rfl
                        have s16_4_ := lv_neT (a := 4) s16_4 rfl
                        have s16_5_ := lv_neT (a := 5) s16_5 rfl
                        have s16_6_ := lv_neT (a := 6) s16_6 rfl
                        have s16_7_ := lv_neT (a := 7) s16_7 rfl
                        have s16_8_ := lv_neT (a := 8) s16_8 rfl
                        have s16_9_ := lv_neT (a := 9) s16_9 rfl
                        refine lv_tableOut (tgt := 126) C.x C.b dX11_of_16 (by omega) rfl ?_
                        refine lv_iconst (v := (-1)) C.x C.b dX11_of_126 (by decide) ?_
                        rw [x_e0 hf]
                        exact x_iret C hr hW dX11_of_127

theorem dX11_mind_0 : decode cX11_mind 0 = .ok (.aload_n 0, 1) := by decide +kernel
theorem dX11_mind_1 : decode cX11_mind 1 = .ok (.getfield 10, 3) := by decide +kernel
theorem dX11_mind_4 : decode cX11_mind 4 = .ok (.iload_n 1, 1) := by decide +kernel
theorem dX11_mind_5 : decode cX11_mind 5 = .ok (.invokevirtual 120, 3) := by decide +kernel
theorem dX11_mind_8 : decode cX11_mind 8 = .ok (.astore 4, 2) := by decide +kernel
theorem dX11_mind_10 : decode cX11_mind 10 = .ok (.aload 4, 2) := by decide +kernel
theorem dX11_mind_12 : decode cX11_mind 12 = .ok (.ifnull 17, 3) := by decide +kernel
theorem dX11_mind_15 : decode cX11_mind 15 = .ok (.iload_n 2, 1) := by decide +kernel
theorem dX11_mind_16 : decode cX11_mind 16 = .ok (.invokestatic 110, 3) := by decide +kernel
theorem dX11_mind_19 : decode cX11_mind 19 = .ok (.ifCond .eq 10, 3) := by decide +kernel
theorem dX11_mind_22 : decode cX11_mind 22 = .ok (.iload_n 3, 1) := by decide +kernel
theorem dX11_mind_23 : decode cX11_mind 23 = .ok (.invokestatic 113, 3) := by decide +kernel
theorem dX11_mind_26 : decode cX11_mind 26 = .ok (.ifCond .ne 5, 3) := by decide +kernel
theorem dX11_mind_29 : decode cX11_mind 29 = .ok (.iconst (-1), 1) := by decide +kernel
theorem dX11_mind_30 : decode cX11_mind 30 = .ok (.ireturn, 1) := by decide +kernel
theorem dX11_mind_31 : decode cX11_mind 31 = .ok (.aload 4, 2) := by decide +kernel
theorem dX11_mind_33 : decode cX11_mind 33 = .ok (.getfield 124, 3) := by decide +kernel
theorem dX11_mind_36 : decode cX11_mind 36 = .ok (.istore 5, 2) := by decide +kernel
theorem dX11_mind_38 : decode cX11_mind 38 = .ok (.aload 4, 2) := by decide +kernel
theorem dX11_mind_40 : decode cX11_mind 40 = .ok (.iload_n 2, 1) := by decide +kernel
theorem dX11_mind_41 : decode cX11_mind 41 = .ok (.putfield 124, 3) := by decide +kernel
theorem dX11_mind_44 : decode cX11_mind 44 = .ok (.aload 4, 2) := by decide +kernel
theorem dX11_mind_46 : decode cX11_mind 46 = .ok (.iload_n 3, 1) := by decide +kernel
theorem dX11_mind_47 : decode cX11_mind 47 = .ok (.putfield 127, 3) := by decide +kernel
theorem dX11_mind_50 : decode cX11_mind 50 = .ok (.iload 5, 2) := by decide +kernel
theorem dX11_mind_52 : decode cX11_mind 52 = .ok (.ireturn, 1) := by decide +kernel
theorem fp_X11_124_10 : FdP "NylonLadder" 124 10 0 false .int false := ⟨_, _, _, _, _, rfl, by decide, by decide, by decide, gxX7, by decide, T_1_76, Or.inl rfl, rfl, tyX7_ok, nmX7, by decide +kernel, rfl, fun h => by cases h⟩
theorem fp_X11_127_10 : FdP "NylonLadder" 127 10 1 false .int false := ⟨_, _, _, _, _, rfl, by decide, by decide, by decide, gxX7, by decide, T_1_79, Or.inl rfl, rfl, tyX7_ok, nmX7, by decide +kernel, rfl, fun h => by cases h⟩
def fX11_mind (M : Mm) (o : Nat) (p1 : Int32) (p2 : Int32) (p3 : Int32) : Option (Int32 × Mm) :=
  B1 (rdN M o 14 0) fun a1_1 =>
  B1 (gk M a1_1 3) fun _ =>
  B1 (fX0_stockingAt M a1_1 p1) fun x5_3 =>
  NL x5_3 (
    some ((-1), M)) (fun a12_4 =>
    B1 (fX11_isKind M p2) fun x16_5 =>
    if x16_5 = 0 then
      some ((-1), M)
    else
      B1 (fX11_isA M p3) fun x23_6 =>
      if x23_6 = 0 then
        some ((-1), M)
      else
        B1 (rdI M a12_4 10 0) fun x33_7 =>
        B1 (wrI M a12_4 10 0 p2) fun M41_8 =>
        B1 (wrI M41_8 a12_4 10 1 p3) fun M47_9 =>
        some (x33_7, M47_9))
set_option maxRecDepth 100000 in
set_option maxHeartbeats 4000000 in
theorem qX11_mind (l : Launch) (E : Ev) {M : Mm} {o : Nat} {p1 : Int32} {p2 : Int32} {p3 : Int32} {rz : Int32} {Mz : Mm} (hf : fX11_mind M o p1 p2 p3 = some (rz, Mz)) : Ct l E yX11_mind cX11_mind 6 (some .int) 2 43 0 0 [.ref (E.b + o), .int p1, .int p2, .int p3] M (some (.int rz)) Mz := by
  refine ct_of (by decide +kernel) (Nat.le_of_ble_eq_true rfl) fun p e s m args below meth c C hr hin hW ls hl => ?_
  have hl : lv_has ls 6 [(0, .ref (E.b + o)), (1, .int p1), (2, .int p2), (3, .int p3)] := hl
  unfold fX11_mind at hf
  refine lv_aload_n C.x C.b dX11_mind_0 rfl (lv_at hl 0 rfl) ?_
  replace hf := x_b1 hf; obtain ⟨a1_1, ha1_1, hf⟩ := hf
  refine x_getn C hW fg_X11_10_14 ha1_1 dX11_mind_1 ?_
  refine lv_iload_n C.x C.b dX11_mind_4 rfl (lv_at hl 1 rfl) ?_
  replace hf := x_b1 hf; obtain ⟨_, hk5_2, hf⟩ := hf
  replace hf := x_b1 hf; obtain ⟨x5_3, hx5_3, hf⟩ := hf
  refine x_callV (As := [.int p1]) (a := a1_1) (rest := []) C hW hl (qX0_stockingAt l E hx5_3) (x_gk hk5_2) (by decide) (by decide) rfl gv_X11_120 ⟨rfl, hd_X0_stockingAt⟩ rfl rfl (Nat.le_of_ble_eq_true rfl) dX11_mind_5 ⟨Nat.le_of_ble_eq_true rfl, Nat.le_of_ble_eq_true rfl⟩ ⟨Nat.le_of_ble_eq_true rfl, Nat.le_of_ble_eq_true rfl⟩ (fun H locs hW => ?_)
  refine x_astore (lv' := [(4, rv E.b _), (0, .ref (E.b + _)), (1, .int _), (2, .int _), (3, .int _)]) C dX11_mind_8 hl (by decide) rfl (fun ls hl => ?_)
  refine x_aload C dX11_mind_10 (lv_at hl 0 rfl) ?_
  replace hf := x_nl hf; rcases hf with ⟨rfl, hf⟩ | ⟨a12_4, rfl, hf⟩
  · refine lv_ifnullN (tgt := 29) C.x C.b dX11_mind_12 rfl ?_
    refine lv_iconst (v := (-1)) C.x C.b dX11_mind_29 (by decide) ?_
    rw [x_e1 hf, x_e2 hf]
    exact x_iret C hr hW dX11_mind_30
  · refine lv_ifnull C.x C.b dX11_mind_12 ?_
    refine lv_iload_n C.x C.b dX11_mind_15 rfl (lv_at hl 3 rfl) ?_
    replace hf := x_b1 hf; obtain ⟨x16_5, hx16_5, hf⟩ := hf
    refine x_callS (As := [.int p2]) (rest := []) C hW hl (qX11_isKind l E hx16_5) gs_X11_110 hd_X11_isKind rfl rfl (Nat.le_of_ble_eq_true rfl) dX11_mind_16 ⟨Nat.le_of_ble_eq_true rfl, Nat.le_of_ble_eq_true rfl⟩ ⟨Nat.le_of_ble_eq_true rfl, Nat.le_of_ble_eq_true rfl⟩ (fun H locs hW => ?_)
    refine lv_if_eq (tgt := 29) C.x C.b dX11_mind_19 rfl (fun c19 => ?_) (fun c19 => ?_)
    · replace hf := x_ip c19 hf
      refine lv_iconst (v := (-1)) C.x C.b dX11_mind_29 (by decide) ?_
      rw [x_e1 hf, x_e2 hf]
      exact x_iret C hr hW dX11_mind_30
    · replace hf := x_in c19 hf
      refine lv_iload_n C.x C.b dX11_mind_22 rfl (lv_at hl 4 rfl) ?_
      replace hf := x_b1 hf; obtain ⟨x23_6, hx23_6, hf⟩ := hf
      refine x_callS (As := [.int p3]) (rest := []) C hW hl (qX11_isA l E hx23_6) gs_X11_113 hd_X11_isA rfl rfl (Nat.le_of_ble_eq_true rfl) dX11_mind_23 ⟨Nat.le_of_ble_eq_true rfl, Nat.le_of_ble_eq_true rfl⟩ ⟨Nat.le_of_ble_eq_true rfl, Nat.le_of_ble_eq_true rfl⟩ (fun H locs hW => ?_)
      refine lv_if_ne (tgt := 31) C.x C.b dX11_mind_26 rfl (fun c26 => ?_) (fun c26 => ?_)
      · replace hf := x_in c26 hf
        refine lv_aload C.x C.b dX11_mind_31 (lv_at hl 0 rfl) ?_
        replace hf := x_b1 hf; obtain ⟨x33_7, hx33_7, hf⟩ := hf
        refine x_geti C hW fg_X11_124_10 hx33_7 dX11_mind_33 ?_
        refine lv_istore (lv' := [(5, .int _), (4, .ref (E.b + _)), (0, .ref (E.b + _)), (1, .int _), (2, .int _), (3, .int _)]) C.x C.b dX11_mind_36 hl (by decide) rfl (fun ls hl => ?_)
        refine lv_aload C.x C.b dX11_mind_38 (lv_at hl 1 rfl) ?_
        refine lv_iload_n C.x C.b dX11_mind_40 rfl (lv_at hl 4 rfl) ?_
        replace hf := x_b1 hf; obtain ⟨M41_8, hM41_8, hf⟩ := hf
        refine x_puti C hW fp_X11_124_10 hM41_8 (fun h => by cases h) dX11_mind_41 (fun H locs hW => ?_)
        refine lv_aload C.x C.b dX11_mind_44 (lv_at hl 1 rfl) ?_
        refine lv_iload_n C.x C.b dX11_mind_46 rfl (lv_at hl 5 rfl) ?_
        replace hf := x_b1 hf; obtain ⟨M47_9, hM47_9, hf⟩ := hf
        refine x_puti C hW fp_X11_127_10 hM47_9 (fun h => by cases h) dX11_mind_47 (fun H locs hW => ?_)
        refine lv_iload C.x C.b dX11_mind_50 (lv_at hl 0 rfl) ?_
        rw [x_e1 hf, x_e2 hf]
        exact x_iret C hr hW dX11_mind_52
      · replace hf := x_ip c26 hf
        refine lv_iconst (v := (-1)) C.x C.b dX11_mind_29 (by decide) ?_
        rw [x_e1 hf, x_e2 hf]
        exact x_iret C hr hW dX11_mind_30

theorem dX11_snag_0 : decode cX11_snag 0 = .ok (.aload_n 0, 1) := by decide +kernel
theorem dX11_snag_1 : decode cX11_snag 1 = .ok (.getfield 10, 3) := by decide +kernel
theorem dX11_snag_4 : decode cX11_snag 4 = .ok (.iload_n 1, 1) := by decide +kernel
theorem dX11_snag_5 : decode cX11_snag 5 = .ok (.invokevirtual 120, 3) := by decide +kernel
theorem dX11_snag_8 : decode cX11_snag 8 = .ok (.astore_n 3, 1) := by decide +kernel
theorem dX11_snag_9 : decode cX11_snag 9 = .ok (.aload_n 3, 1) := by decide +kernel
theorem dX11_snag_10 : decode cX11_snag 10 = .ok (.ifnull 10, 3) := by decide +kernel
theorem dX11_snag_13 : decode cX11_snag 13 = .ok (.iload_n 2, 1) := by decide +kernel
theorem dX11_snag_14 : decode cX11_snag 14 = .ok (.invokestatic 155, 3) := by decide +kernel
theorem dX11_snag_17 : decode cX11_snag 17 = .ok (.ifCond .ne 5, 3) := by decide +kernel
theorem dX11_snag_20 : decode cX11_snag 20 = .ok (.iconst (-1), 1) := by decide +kernel
theorem dX11_snag_21 : decode cX11_snag 21 = .ok (.ireturn, 1) := by decide +kernel
theorem dX11_snag_22 : decode cX11_snag 22 = .ok (.aload_n 3, 1) := by decide +kernel
theorem dX11_snag_23 : decode cX11_snag 23 = .ok (.iload_n 2, 1) := by decide +kernel
theorem dX11_snag_24 : decode cX11_snag 24 = .ok (.invokevirtual 158, 3) := by decide +kernel
theorem dX11_snag_27 : decode cX11_snag 27 = .ok (.ifCond .eq 7, 3) := by decide +kernel
theorem dX11_snag_30 : decode cX11_snag 30 = .ok (.iconst 1, 1) := by decide +kernel
theorem dX11_snag_31 : decode cX11_snag 31 = .ok (.goto 5, 3) := by decide +kernel
theorem dX11_snag_34 : decode cX11_snag 34 = .ok (.bipush (-4), 2) := by decide +kernel
theorem dX11_snag_36 : decode cX11_snag 36 = .ok (.ireturn, 1) := by decide +kernel
theorem gs_X11_155 : GoodIn gT (va_wsS "NylonLadder" 155 yX11_isRung (Cond.code yX11_isRung cX11_isRung 1 (some .boolean) :: gT)) := good_S T_3_47 T_3_48 T_1_1 T_3_49
theorem gv_X11_158 : GoodIn gT (wsV "NylonLadder" 158 "NylonLadder$Stocking" yX7_beginLadder (Cond.code yX7_beginLadder cX7_beginLadder 2 (some .boolean) :: gT)) := good_V T_3_50 T_3_51 T_3_52 T_1_4 T_3_53
def fX11_snag (M : Mm) (o : Nat) (p1 : Int32) (p2 : Int32) : Option (Int32 × Mm) :=
  B1 (rdN M o 14 0) fun a1_1 =>
  B1 (gk M a1_1 3) fun _ =>
  B1 (fX0_stockingAt M a1_1 p1) fun x5_3 =>
  NL x5_3 (
    some ((-1), M)) (fun a10_4 =>
    B1 (fX11_isRung M p2) fun x14_5 =>
    if x14_5 = 0 then
      some ((-1), M)
    else
      B1 (gk M a10_4 10) fun _ =>
      B2 (fX7_beginLadder M a10_4 p2) fun x24_7 M24_8 =>
      if x24_7 = 0 then
        some ((-4), M24_8)
      else
        some (1, M24_8))
set_option maxRecDepth 100000 in
set_option maxHeartbeats 4000000 in
theorem qX11_snag (l : Launch) (E : Ev) {M : Mm} {o : Nat} {p1 : Int32} {p2 : Int32} {rz : Int32} {Mz : Mm} (hf : fX11_snag M o p1 p2 = some (rz, Mz)) : Ct l E yX11_snag cX11_snag 4 (some .int) 2 43 0 0 [.ref (E.b + o), .int p1, .int p2] M (some (.int rz)) Mz := by
  refine ct_of (by decide +kernel) (Nat.le_of_ble_eq_true rfl) fun p e s m args below meth c C hr hin hW ls hl => ?_
  have hl : lv_has ls 4 [(0, .ref (E.b + o)), (1, .int p1), (2, .int p2)] := hl
  unfold fX11_snag at hf
  refine lv_aload_n C.x C.b dX11_snag_0 rfl (lv_at hl 0 rfl) ?_
  replace hf := x_b1 hf; obtain ⟨a1_1, ha1_1, hf⟩ := hf
  refine x_getn C hW fg_X11_10_14 ha1_1 dX11_snag_1 ?_
  refine lv_iload_n C.x C.b dX11_snag_4 rfl (lv_at hl 1 rfl) ?_
  replace hf := x_b1 hf; obtain ⟨_, hk5_2, hf⟩ := hf
  replace hf := x_b1 hf; obtain ⟨x5_3, hx5_3, hf⟩ := hf
  refine x_callV (As := [.int p1]) (a := a1_1) (rest := []) C hW hl (qX0_stockingAt l E hx5_3) (x_gk hk5_2) (by decide) (by decide) rfl gv_X11_120 ⟨rfl, hd_X0_stockingAt⟩ rfl rfl (Nat.le_of_ble_eq_true rfl) dX11_snag_5 ⟨Nat.le_of_ble_eq_true rfl, Nat.le_of_ble_eq_true rfl⟩ ⟨Nat.le_of_ble_eq_true rfl, Nat.le_of_ble_eq_true rfl⟩ (fun H locs hW => ?_)
  refine x_astore_n (lv' := [(3, rv E.b _), (0, .ref (E.b + _)), (1, .int _), (2, .int _)]) C dX11_snag_8 rfl hl (by decide) rfl (fun ls hl => ?_)
  refine x_aload_n C dX11_snag_9 rfl (lv_at hl 0 rfl) ?_
  replace hf := x_nl hf; rcases hf with ⟨rfl, hf⟩ | ⟨a10_4, rfl, hf⟩
  · refine lv_ifnullN (tgt := 20) C.x C.b dX11_snag_10 rfl ?_
    refine lv_iconst (v := (-1)) C.x C.b dX11_snag_20 (by decide) ?_
    rw [x_e1 hf, x_e2 hf]
    exact x_iret C hr hW dX11_snag_21
  · refine lv_ifnull C.x C.b dX11_snag_10 ?_
    refine lv_iload_n C.x C.b dX11_snag_13 rfl (lv_at hl 3 rfl) ?_
    replace hf := x_b1 hf; obtain ⟨x14_5, hx14_5, hf⟩ := hf
    refine x_callS (As := [.int p2]) (rest := []) C hW hl (qX11_isRung l E hx14_5) gs_X11_155 hd_X11_isRung rfl rfl (Nat.le_of_ble_eq_true rfl) dX11_snag_14 ⟨Nat.le_of_ble_eq_true rfl, Nat.le_of_ble_eq_true rfl⟩ ⟨Nat.le_of_ble_eq_true rfl, Nat.le_of_ble_eq_true rfl⟩ (fun H locs hW => ?_)
    refine lv_if_ne (tgt := 22) C.x C.b dX11_snag_17 rfl (fun c17 => ?_) (fun c17 => ?_)
    · replace hf := x_in c17 hf
      refine lv_aload_n C.x C.b dX11_snag_22 rfl (lv_at hl 0 rfl) ?_
      refine lv_iload_n C.x C.b dX11_snag_23 rfl (lv_at hl 3 rfl) ?_
      replace hf := x_b1 hf; obtain ⟨_, hk24_6, hf⟩ := hf
      replace hf := x_b2 hf; obtain ⟨x24_7, M24_8, hx24_7, hf⟩ := hf
      refine x_callV (As := [.int p2]) (a := a10_4) (rest := []) C hW hl (qX7_beginLadder l E hx24_7) (x_gk hk24_6) (by decide) (by decide) rfl gv_X11_158 ⟨rfl, hd_X7_beginLadder⟩ rfl rfl (Nat.le_of_ble_eq_true rfl) dX11_snag_24 ⟨Nat.le_of_ble_eq_true rfl, Nat.le_of_ble_eq_true rfl⟩ ⟨Nat.le_of_ble_eq_true rfl, Nat.le_of_ble_eq_true rfl⟩ (fun H locs hW => ?_)
      refine lv_if_eq (tgt := 34) C.x C.b dX11_snag_27 rfl (fun c27 => ?_) (fun c27 => ?_)
      · replace hf := x_ip c27 hf
        refine lv_bipush (v := (-4)) C.x C.b dX11_snag_34 (by decide) ?_
        rw [x_e1 hf, x_e2 hf]
        exact x_iret C hr hW dX11_snag_36
      · replace hf := x_in c27 hf
        refine lv_iconst (v := 1) C.x C.b dX11_snag_30 (by decide) ?_
        refine lv_goto (tgt := 36) C.x C.b dX11_snag_31 rfl ?_
        rw [x_e1 hf, x_e2 hf]
        exact x_iret C hr hW dX11_snag_36
    · replace hf := x_ip c17 hf
      refine lv_iconst (v := (-1)) C.x C.b dX11_snag_20 (by decide) ?_
      rw [x_e1 hf, x_e2 hf]
      exact x_iret C hr hW dX11_snag_21

theorem dX11_turn_0 : decode cX11_turn 0 = .ok (.aload_n 0, 1) := by decide +kernel
theorem dX11_turn_1 : decode cX11_turn 1 = .ok (.getfield 10, 3) := by decide +kernel
theorem dX11_turn_4 : decode cX11_turn 4 = .ok (.iload_n 1, 1) := by decide +kernel
theorem dX11_turn_5 : decode cX11_turn 5 = .ok (.invokevirtual 120, 3) := by decide +kernel
theorem dX11_turn_8 : decode cX11_turn 8 = .ok (.astore_n 3, 1) := by decide +kernel
theorem dX11_turn_9 : decode cX11_turn 9 = .ok (.aload_n 3, 1) := by decide +kernel
theorem dX11_turn_10 : decode cX11_turn 10 = .ok (.ifnull 12, 3) := by decide +kernel
theorem dX11_turn_13 : decode cX11_turn 13 = .ok (.iload_n 2, 1) := by decide +kernel
theorem dX11_turn_14 : decode cX11_turn 14 = .ok (.iconst 0, 1) := by decide +kernel
theorem dX11_turn_15 : decode cX11_turn 15 = .ok (.iconst 3, 1) := by decide +kernel
theorem dX11_turn_16 : decode cX11_turn 16 = .ok (.invokestatic 69, 3) := by decide +kernel
theorem dX11_turn_19 : decode cX11_turn 19 = .ok (.ifCond .ne 5, 3) := by decide +kernel
theorem dX11_turn_22 : decode cX11_turn 22 = .ok (.iconst (-1), 1) := by decide +kernel
theorem dX11_turn_23 : decode cX11_turn 23 = .ok (.ireturn, 1) := by decide +kernel
theorem dX11_turn_24 : decode cX11_turn 24 = .ok (.aload_n 3, 1) := by decide +kernel
theorem dX11_turn_25 : decode cX11_turn 25 = .ok (.getfield 139, 3) := by decide +kernel
theorem dX11_turn_28 : decode cX11_turn 28 = .ok (.istore 4, 2) := by decide +kernel
theorem dX11_turn_30 : decode cX11_turn 30 = .ok (.aload_n 3, 1) := by decide +kernel
theorem dX11_turn_31 : decode cX11_turn 31 = .ok (.iload_n 2, 1) := by decide +kernel
theorem dX11_turn_32 : decode cX11_turn 32 = .ok (.putfield 139, 3) := by decide +kernel
theorem dX11_turn_35 : decode cX11_turn 35 = .ok (.iload 4, 2) := by decide +kernel
theorem dX11_turn_37 : decode cX11_turn 37 = .ok (.ireturn, 1) := by decide +kernel
theorem fp_X11_139_10 : FdP "NylonLadder" 139 10 5 false .int false := ⟨_, _, _, _, _, rfl, by decide, by decide, by decide, gxX7, by decide, T_1_89, Or.inl rfl, rfl, tyX7_ok, nmX7, by decide +kernel, rfl, fun h => by cases h⟩
def fX11_turn (M : Mm) (o : Nat) (p1 : Int32) (p2 : Int32) : Option (Int32 × Mm) :=
  B1 (rdN M o 14 0) fun a1_1 =>
  B1 (gk M a1_1 3) fun _ =>
  B1 (fX0_stockingAt M a1_1 p1) fun x5_3 =>
  NL x5_3 (
    some ((-1), M)) (fun a10_4 =>
    B1 (fX11_isWithin M p2 0 3) fun x16_5 =>
    if x16_5 = 0 then
      some ((-1), M)
    else
      B1 (rdI M a10_4 10 5) fun x25_6 =>
      B1 (wrI M a10_4 10 5 p2) fun M32_7 =>
      some (x25_6, M32_7))
set_option maxRecDepth 100000 in
set_option maxHeartbeats 4000000 in
theorem qX11_turn (l : Launch) (E : Ev) {M : Mm} {o : Nat} {p1 : Int32} {p2 : Int32} {rz : Int32} {Mz : Mm} (hf : fX11_turn M o p1 p2 = some (rz, Mz)) : Ct l E yX11_turn cX11_turn 5 (some .int) 2 43 0 0 [.ref (E.b + o), .int p1, .int p2] M (some (.int rz)) Mz := by
  refine ct_of (by decide +kernel) (Nat.le_of_ble_eq_true rfl) fun p e s m args below meth c C hr hin hW ls hl => ?_
  have hl : lv_has ls 5 [(0, .ref (E.b + o)), (1, .int p1), (2, .int p2)] := hl
  unfold fX11_turn at hf
  refine lv_aload_n C.x C.b dX11_turn_0 rfl (lv_at hl 0 rfl) ?_
  replace hf := x_b1 hf; obtain ⟨a1_1, ha1_1, hf⟩ := hf
  refine x_getn C hW fg_X11_10_14 ha1_1 dX11_turn_1 ?_
  refine lv_iload_n C.x C.b dX11_turn_4 rfl (lv_at hl 1 rfl) ?_
  replace hf := x_b1 hf; obtain ⟨_, hk5_2, hf⟩ := hf
  replace hf := x_b1 hf; obtain ⟨x5_3, hx5_3, hf⟩ := hf
  refine x_callV (As := [.int p1]) (a := a1_1) (rest := []) C hW hl (qX0_stockingAt l E hx5_3) (x_gk hk5_2) (by decide) (by decide) rfl gv_X11_120 ⟨rfl, hd_X0_stockingAt⟩ rfl rfl (Nat.le_of_ble_eq_true rfl) dX11_turn_5 ⟨Nat.le_of_ble_eq_true rfl, Nat.le_of_ble_eq_true rfl⟩ ⟨Nat.le_of_ble_eq_true rfl, Nat.le_of_ble_eq_true rfl⟩ (fun H locs hW => ?_)
  refine x_astore_n (lv' := [(3, rv E.b _), (0, .ref (E.b + _)), (1, .int _), (2, .int _)]) C dX11_turn_8 rfl hl (by decide) rfl (fun ls hl => ?_)
  refine x_aload_n C dX11_turn_9 rfl (lv_at hl 0 rfl) ?_
  replace hf := x_nl hf; rcases hf with ⟨rfl, hf⟩ | ⟨a10_4, rfl, hf⟩
  · refine lv_ifnullN (tgt := 22) C.x C.b dX11_turn_10 rfl ?_
    refine lv_iconst (v := (-1)) C.x C.b dX11_turn_22 (by decide) ?_
    rw [x_e1 hf, x_e2 hf]
    exact x_iret C hr hW dX11_turn_23
  · refine lv_ifnull C.x C.b dX11_turn_10 ?_
    refine lv_iload_n C.x C.b dX11_turn_13 rfl (lv_at hl 3 rfl) ?_
    refine lv_iconst (v := 0) C.x C.b dX11_turn_14 (by decide) ?_
    refine lv_iconst (v := 3) C.x C.b dX11_turn_15 (by decide) ?_
    replace hf := x_b1 hf; obtain ⟨x16_5, hx16_5, hf⟩ := hf
    refine x_callS (As := [.int p2, .int 0, .int 3]) (rest := []) C hW hl (qX11_isWithin l E hx16_5) gs_X11_69 hd_X11_isWithin rfl rfl (Nat.le_of_ble_eq_true rfl) dX11_turn_16 ⟨Nat.le_of_ble_eq_true rfl, Nat.le_of_ble_eq_true rfl⟩ ⟨Nat.le_of_ble_eq_true rfl, Nat.le_of_ble_eq_true rfl⟩ (fun H locs hW => ?_)
    refine lv_if_ne (tgt := 24) C.x C.b dX11_turn_19 rfl (fun c19 => ?_) (fun c19 => ?_)
    · replace hf := x_in c19 hf
      refine lv_aload_n C.x C.b dX11_turn_24 rfl (lv_at hl 0 rfl) ?_
      replace hf := x_b1 hf; obtain ⟨x25_6, hx25_6, hf⟩ := hf
      refine x_geti C hW fg_X11_139_10 hx25_6 dX11_turn_25 ?_
      refine lv_istore (lv' := [(4, .int _), (3, .ref (E.b + _)), (0, .ref (E.b + _)), (1, .int _), (2, .int _)]) C.x C.b dX11_turn_28 hl (by decide) rfl (fun ls hl => ?_)
      refine lv_aload_n C.x C.b dX11_turn_30 rfl (lv_at hl 1 rfl) ?_
      refine lv_iload_n C.x C.b dX11_turn_31 rfl (lv_at hl 4 rfl) ?_
      replace hf := x_b1 hf; obtain ⟨M32_7, hM32_7, hf⟩ := hf
      refine x_puti C hW fp_X11_139_10 hM32_7 (fun h => by cases h) dX11_turn_32 (fun H locs hW => ?_)
      refine lv_iload C.x C.b dX11_turn_35 (lv_at hl 0 rfl) ?_
      rw [x_e1 hf, x_e2 hf]
      exact x_iret C hr hW dX11_turn_37
    · replace hf := x_ip c19 hf
      refine lv_iconst (v := (-1)) C.x C.b dX11_turn_22 (by decide) ?_
      rw [x_e1 hf, x_e2 hf]
      exact x_iret C hr hW dX11_turn_23

theorem dX11_dab_0 : decode cX11_dab 0 = .ok (.aload_n 0, 1) := by decide +kernel
theorem dX11_dab_1 : decode cX11_dab 1 = .ok (.getfield 10, 3) := by decide +kernel
theorem dX11_dab_4 : decode cX11_dab 4 = .ok (.iload_n 1, 1) := by decide +kernel
theorem dX11_dab_5 : decode cX11_dab 5 = .ok (.invokevirtual 120, 3) := by decide +kernel
theorem dX11_dab_8 : decode cX11_dab 8 = .ok (.astore_n 3, 1) := by decide +kernel
theorem dX11_dab_9 : decode cX11_dab 9 = .ok (.aload_n 3, 1) := by decide +kernel
theorem dX11_dab_10 : decode cX11_dab 10 = .ok (.ifnonnull 7, 3) := by decide +kernel
theorem dX11_dab_13 : decode cX11_dab 13 = .ok (.iconst (-1), 1) := by decide +kernel
theorem dX11_dab_14 : decode cX11_dab 14 = .ok (.goto 17, 3) := by decide +kernel
theorem dX11_dab_17 : decode cX11_dab 17 = .ok (.aload_n 3, 1) := by decide +kernel
theorem dX11_dab_18 : decode cX11_dab 18 = .ok (.iload_n 2, 1) := by decide +kernel
theorem dX11_dab_19 : decode cX11_dab 19 = .ok (.aload_n 0, 1) := by decide +kernel
theorem dX11_dab_20 : decode cX11_dab 20 = .ok (.getfield 10, 3) := by decide +kernel
theorem dX11_dab_23 : decode cX11_dab 23 = .ok (.getfield 107, 3) := by decide +kernel
theorem dX11_dab_26 : decode cX11_dab 26 = .ok (.iconst 2, 1) := by decide +kernel
theorem dX11_dab_27 : decode cX11_dab 27 = .ok (.iaload, 1) := by decide +kernel
theorem dX11_dab_28 : decode cX11_dab 28 = .ok (.invokevirtual 161, 3) := by decide +kernel
theorem dX11_dab_31 : decode cX11_dab 31 = .ok (.ireturn, 1) := by decide +kernel
theorem hd_X7_addDab : yX7_addDab.cls ≠ "java/lang/invoke/MethodHandle" ∧ yX7_addDab.cls ≠ "java/lang/invoke/VarHandle" ∧ (parseMethodDescriptor yX7_addDab.desc).map (fun d => d.parameters.length) = some 2 := by decide +kernel
theorem gv_X11_161 : GoodIn gT (wsV "NylonLadder" 161 "NylonLadder$Stocking" yX7_addDab (Cond.code yX7_addDab cX7_addDab 3 (some .int) :: gT)) := good_V T_3_66 T_3_67 T_3_68 T_1_4 T_3_69
def fX11_dab (M : Mm) (o : Nat) (p1 : Int32) (p2 : Int32) : Option (Int32 × Mm) :=
  B1 (rdN M o 14 0) fun a1_1 =>
  B1 (gk M a1_1 3) fun _ =>
  B1 (fX0_stockingAt M a1_1 p1) fun x5_3 =>
  NL x5_3 (
    some ((-1), M)) (fun a10_4 =>
    B1 (rdN M o 14 0) fun a20_5 =>
    B1 (rdN M a20_5 3 0) fun a23_6 =>
    B1 (alI M a23_6 2) fun x27_7 =>
    B1 (gk M a10_4 10) fun _ =>
    B2 (fX7_addDab M a10_4 p2 x27_7) fun x28_9 M28_10 =>
    some (x28_9, M28_10))
set_option maxRecDepth 100000 in
set_option maxHeartbeats 4000000 in
theorem qX11_dab (l : Launch) (E : Ev) {M : Mm} {o : Nat} {p1 : Int32} {p2 : Int32} {rz : Int32} {Mz : Mm} (hf : fX11_dab M o p1 p2 = some (rz, Mz)) : Ct l E yX11_dab cX11_dab 4 (some .int) 3 64 0 0 [.ref (E.b + o), .int p1, .int p2] M (some (.int rz)) Mz := by
  refine ct_of (by decide +kernel) (Nat.le_of_ble_eq_true rfl) fun p e s m args below meth c C hr hin hW ls hl => ?_
  have hl : lv_has ls 4 [(0, .ref (E.b + o)), (1, .int p1), (2, .int p2)] := hl
  unfold fX11_dab at hf
  refine lv_aload_n C.x C.b dX11_dab_0 rfl (lv_at hl 0 rfl) ?_
  replace hf := x_b1 hf; obtain ⟨a1_1, ha1_1, hf⟩ := hf
  refine x_getn C hW fg_X11_10_14 ha1_1 dX11_dab_1 ?_
  refine lv_iload_n C.x C.b dX11_dab_4 rfl (lv_at hl 1 rfl) ?_
  replace hf := x_b1 hf; obtain ⟨_, hk5_2, hf⟩ := hf
  replace hf := x_b1 hf; obtain ⟨x5_3, hx5_3, hf⟩ := hf
  refine x_callV (As := [.int p1]) (a := a1_1) (rest := []) C hW hl (qX0_stockingAt l E hx5_3) (x_gk hk5_2) (by decide) (by decide) rfl gv_X11_120 ⟨rfl, hd_X0_stockingAt⟩ rfl rfl (Nat.le_of_ble_eq_true rfl) dX11_dab_5 ⟨Nat.le_of_ble_eq_true rfl, Nat.le_of_ble_eq_true rfl⟩ ⟨Nat.le_of_ble_eq_true rfl, Nat.le_of_ble_eq_true rfl⟩ (fun H locs hW => ?_)
  refine x_astore_n (lv' := [(3, rv E.b _), (0, .ref (E.b + _)), (1, .int _), (2, .int _)]) C dX11_dab_8 rfl hl (by decide) rfl (fun ls hl => ?_)
  refine x_aload_n C dX11_dab_9 rfl (lv_at hl 0 rfl) ?_
  replace hf := x_nl hf; rcases hf with ⟨rfl, hf⟩ | ⟨a10_4, rfl, hf⟩
  · refine lv_ifnonnullN C.x C.b dX11_dab_10 ?_
    refine lv_iconst (v := (-1)) C.x C.b dX11_dab_13 (by decide) ?_
    refine lv_goto (tgt := 31) C.x C.b dX11_dab_14 rfl ?_
    rw [x_e1 hf, x_e2 hf]
    exact x_iret C hr hW dX11_dab_31
  · refine lv_ifnonnull (tgt := 17) C.x C.b dX11_dab_10 rfl ?_
    refine lv_aload_n C.x C.b dX11_dab_17 rfl (lv_at hl 0 rfl) ?_
    refine lv_iload_n C.x C.b dX11_dab_18 rfl (lv_at hl 3 rfl) ?_
    refine lv_aload_n C.x C.b dX11_dab_19 rfl (lv_at hl 1 rfl) ?_
    replace hf := x_b1 hf; obtain ⟨a20_5, ha20_5, hf⟩ := hf
    refine x_getn C hW fg_X11_10_14 ha20_5 dX11_dab_20 ?_
    replace hf := x_b1 hf; obtain ⟨a23_6, ha23_6, hf⟩ := hf
    refine x_getn C hW fg_X11_107_3 ha23_6 dX11_dab_23 ?_
    refine lv_iconst (v := 2) C.x C.b dX11_dab_26 (by decide) ?_
    replace hf := x_b1 hf; obtain ⟨x27_7, hx27_7, hf⟩ := hf
    refine x_iald C hW hx27_7 dX11_dab_27 ?_
    replace hf := x_b1 hf; obtain ⟨_, hk28_8, hf⟩ := hf
    replace hf := x_b2 hf; obtain ⟨x28_9, M28_10, hx28_9, hf⟩ := hf
    refine x_callV (As := [.int p2, .int x27_7]) (a := a10_4) (rest := []) C hW hl (qX7_addDab l E hx28_9) (x_gk hk28_8) (by decide) (by decide) rfl gv_X11_161 ⟨rfl, hd_X7_addDab⟩ rfl rfl (Nat.le_of_ble_eq_true rfl) dX11_dab_28 ⟨Nat.le_of_ble_eq_true rfl, Nat.le_of_ble_eq_true rfl⟩ ⟨Nat.le_of_ble_eq_true rfl, Nat.le_of_ble_eq_true rfl⟩ (fun H locs hW => ?_)
    rw [x_e1 hf, x_e2 hf]
    exact x_iret C hr hW dX11_dab_31

theorem dX11_dabOf_0 : decode cX11_dabOf 0 = .ok (.aload_n 0, 1) := by decide +kernel
theorem dX11_dabOf_1 : decode cX11_dabOf 1 = .ok (.getfield 10, 3) := by decide +kernel
theorem dX11_dabOf_4 : decode cX11_dabOf 4 = .ok (.iload_n 1, 1) := by decide +kernel
theorem dX11_dabOf_5 : decode cX11_dabOf 5 = .ok (.invokevirtual 120, 3) := by decide +kernel
theorem dX11_dabOf_8 : decode cX11_dabOf 8 = .ok (.astore_n 3, 1) := by decide +kernel
theorem dX11_dabOf_9 : decode cX11_dabOf 9 = .ok (.aload_n 3, 1) := by decide +kernel
theorem dX11_dabOf_10 : decode cX11_dabOf 10 = .ok (.ifnull 10, 3) := by decide +kernel
theorem dX11_dabOf_13 : decode cX11_dabOf 13 = .ok (.iload_n 2, 1) := by decide +kernel
theorem dX11_dabOf_14 : decode cX11_dabOf 14 = .ok (.invokestatic 155, 3) := by decide +kernel
theorem dX11_dabOf_17 : decode cX11_dabOf 17 = .ok (.ifCond .ne 5, 3) := by decide +kernel
theorem dX11_dabOf_20 : decode cX11_dabOf 20 = .ok (.iconst (-1), 1) := by decide +kernel
theorem dX11_dabOf_21 : decode cX11_dabOf 21 = .ok (.ireturn, 1) := by decide +kernel
theorem dX11_dabOf_22 : decode cX11_dabOf 22 = .ok (.aload_n 3, 1) := by decide +kernel
theorem dX11_dabOf_23 : decode cX11_dabOf 23 = .ok (.iload_n 2, 1) := by decide +kernel
theorem dX11_dabOf_24 : decode cX11_dabOf 24 = .ok (.invokevirtual 165, 3) := by decide +kernel
theorem dX11_dabOf_27 : decode cX11_dabOf 27 = .ok (.istore 4, 2) := by decide +kernel
theorem dX11_dabOf_29 : decode cX11_dabOf 29 = .ok (.iload 4, 2) := by decide +kernel
theorem dX11_dabOf_31 : decode cX11_dabOf 31 = .ok (.ifCond .ge 8, 3) := by decide +kernel
theorem dX11_dabOf_34 : decode cX11_dabOf 34 = .ok (.bipush (-3), 2) := by decide +kernel
theorem dX11_dabOf_36 : decode cX11_dabOf 36 = .ok (.goto 10, 3) := by decide +kernel
theorem dX11_dabOf_39 : decode cX11_dabOf 39 = .ok (.aload_n 3, 1) := by decide +kernel
theorem dX11_dabOf_40 : decode cX11_dabOf 40 = .ok (.getfield 168, 3) := by decide +kernel
theorem dX11_dabOf_43 : decode cX11_dabOf 43 = .ok (.iload 4, 2) := by decide +kernel
theorem dX11_dabOf_45 : decode cX11_dabOf 45 = .ok (.iaload, 1) := by decide +kernel
theorem dX11_dabOf_46 : decode cX11_dabOf 46 = .ok (.ireturn, 1) := by decide +kernel
theorem gv_X11_165 : GoodIn gT (wsV "NylonLadder" 165 "NylonLadder$Stocking" yX7_dabAt (Cond.code yX7_dabAt cX7_dabAt 3 (some .int) :: gT)) := good_V T_3_75 T_3_55 T_3_56 T_1_4 T_3_57
theorem fg_X11_168_10 : FdG "NylonLadder" 168 10 10 true := ⟨_, _, _, _, rfl, by decide, by decide, by decide, gxX7, by decide, T_1_101, Or.inl rfl, rfl⟩
def fX11_dabOf (M : Mm) (o : Nat) (p1 : Int32) (p2 : Int32) : Option Int32 :=
  B1 (rdN M o 14 0) fun a1_1 =>
  B1 (gk M a1_1 3) fun _ =>
  B1 (fX0_stockingAt M a1_1 p1) fun x5_3 =>
  NL x5_3 (
    some (-1)) (fun a10_4 =>
    B1 (fX11_isRung M p2) fun x14_5 =>
    if x14_5 = 0 then
      some (-1)
    else
      B1 (gk M a10_4 10) fun _ =>
      B1 (fX7_dabAt M a10_4 p2) fun x24_7 =>
      if 0 ≤ x24_7 then
        B1 (rdN M a10_4 10 10) fun a40_8 =>
        B1 (alI M a40_8 x24_7) fun x45_9 =>
        some x45_9
      else
        some (-3))
set_option maxRecDepth 100000 in
set_option maxHeartbeats 4000000 in
theorem qX11_dabOf (l : Launch) (E : Ev) {M : Mm} {o : Nat} {p1 : Int32} {p2 : Int32} {rz : Int32} (hf : fX11_dabOf M o p1 p2 = some rz) : Ct l E yX11_dabOf cX11_dabOf 5 (some .int) 2 43 0 0 [.ref (E.b + o), .int p1, .int p2] M (some (.int rz)) M := by
  refine ct_of (by decide +kernel) (Nat.le_of_ble_eq_true rfl) fun p e s m args below meth c C hr hin hW ls hl => ?_
  have hl : lv_has ls 5 [(0, .ref (E.b + o)), (1, .int p1), (2, .int p2)] := hl
  unfold fX11_dabOf at hf
  refine lv_aload_n C.x C.b dX11_dabOf_0 rfl (lv_at hl 0 rfl) ?_
  replace hf := x_b1 hf; obtain ⟨a1_1, ha1_1, hf⟩ := hf
  refine x_getn C hW fg_X11_10_14 ha1_1 dX11_dabOf_1 ?_
  refine lv_iload_n C.x C.b dX11_dabOf_4 rfl (lv_at hl 1 rfl) ?_
  replace hf := x_b1 hf; obtain ⟨_, hk5_2, hf⟩ := hf
  replace hf := x_b1 hf; obtain ⟨x5_3, hx5_3, hf⟩ := hf
  refine x_callV (As := [.int p1]) (a := a1_1) (rest := []) C hW hl (qX0_stockingAt l E hx5_3) (x_gk hk5_2) (by decide) (by decide) rfl gv_X11_120 ⟨rfl, hd_X0_stockingAt⟩ rfl rfl (Nat.le_of_ble_eq_true rfl) dX11_dabOf_5 ⟨Nat.le_of_ble_eq_true rfl, Nat.le_of_ble_eq_true rfl⟩ ⟨Nat.le_of_ble_eq_true rfl, Nat.le_of_ble_eq_true rfl⟩ (fun H locs hW => ?_)
  refine x_astore_n (lv' := [(3, rv E.b _), (0, .ref (E.b + _)), (1, .int _), (2, .int _)]) C dX11_dabOf_8 rfl hl (by decide) rfl (fun ls hl => ?_)
  refine x_aload_n C dX11_dabOf_9 rfl (lv_at hl 0 rfl) ?_
  replace hf := x_nl hf; rcases hf with ⟨rfl, hf⟩ | ⟨a10_4, rfl, hf⟩
  · refine lv_ifnullN (tgt := 20) C.x C.b dX11_dabOf_10 rfl ?_
    refine lv_iconst (v := (-1)) C.x C.b dX11_dabOf_20 (by decide) ?_
    rw [x_e0 hf]
    exact x_iret C hr hW dX11_dabOf_21
  · refine lv_ifnull C.x C.b dX11_dabOf_10 ?_
    refine lv_iload_n C.x C.b dX11_dabOf_13 rfl (lv_at hl 3 rfl) ?_
    replace hf := x_b1 hf; obtain ⟨x14_5, hx14_5, hf⟩ := hf
    refine x_callS (As := [.int p2]) (rest := []) C hW hl (qX11_isRung l E hx14_5) gs_X11_155 hd_X11_isRung rfl rfl (Nat.le_of_ble_eq_true rfl) dX11_dabOf_14 ⟨Nat.le_of_ble_eq_true rfl, Nat.le_of_ble_eq_true rfl⟩ ⟨Nat.le_of_ble_eq_true rfl, Nat.le_of_ble_eq_true rfl⟩ (fun H locs hW => ?_)
    refine lv_if_ne (tgt := 22) C.x C.b dX11_dabOf_17 rfl (fun c17 => ?_) (fun c17 => ?_)
    · replace hf := x_in c17 hf
      refine lv_aload_n C.x C.b dX11_dabOf_22 rfl (lv_at hl 0 rfl) ?_
      refine lv_iload_n C.x C.b dX11_dabOf_23 rfl (lv_at hl 3 rfl) ?_
      replace hf := x_b1 hf; obtain ⟨_, hk24_6, hf⟩ := hf
      replace hf := x_b1 hf; obtain ⟨x24_7, hx24_7, hf⟩ := hf
      refine x_callV (As := [.int p2]) (a := a10_4) (rest := []) C hW hl (qX7_dabAt l E hx24_7) (x_gk hk24_6) (by decide) (by decide) rfl gv_X11_165 ⟨rfl, hd_X7_dabAt⟩ rfl rfl (Nat.le_of_ble_eq_true rfl) dX11_dabOf_24 ⟨Nat.le_of_ble_eq_true rfl, Nat.le_of_ble_eq_true rfl⟩ ⟨Nat.le_of_ble_eq_true rfl, Nat.le_of_ble_eq_true rfl⟩ (fun H locs hW => ?_)
      refine lv_istore (lv' := [(4, .int _), (3, .ref (E.b + _)), (0, .ref (E.b + _)), (1, .int _), (2, .int _)]) C.x C.b dX11_dabOf_27 hl (by decide) rfl (fun ls hl => ?_)
      refine lv_iload C.x C.b dX11_dabOf_29 (lv_at hl 0 rfl) ?_
      refine lv_if_ge (tgt := 39) C.x C.b dX11_dabOf_31 rfl (fun c31 => ?_) (fun c31 => ?_)
      · replace hf := x_ip c31 hf
        refine lv_aload_n C.x C.b dX11_dabOf_39 rfl (lv_at hl 1 rfl) ?_
        replace hf := x_b1 hf; obtain ⟨a40_8, ha40_8, hf⟩ := hf
        refine x_getn C hW fg_X11_168_10 ha40_8 dX11_dabOf_40 ?_
        refine lv_iload C.x C.b dX11_dabOf_43 (lv_at hl 0 rfl) ?_
        replace hf := x_b1 hf; obtain ⟨x45_9, hx45_9, hf⟩ := hf
        refine x_iald C hW hx45_9 dX11_dabOf_45 ?_
        rw [x_e0 hf]
        exact x_iret C hr hW dX11_dabOf_46
      · replace hf := x_in c31 hf
        refine lv_bipush (v := (-3)) C.x C.b dX11_dabOf_34 (by decide) ?_
        refine lv_goto (tgt := 46) C.x C.b dX11_dabOf_36 rfl ?_
        rw [x_e0 hf]
        exact x_iret C hr hW dX11_dabOf_46
    · replace hf := x_ip c17 hf
      refine lv_iconst (v := (-1)) C.x C.b dX11_dabOf_20 (by decide) ?_
      rw [x_e0 hf]
      exact x_iret C hr hW dX11_dabOf_21

theorem dX11_wash_0 : decode cX11_wash 0 = .ok (.aload_n 0, 1) := by decide +kernel
theorem dX11_wash_1 : decode cX11_wash 1 = .ok (.getfield 10, 3) := by decide +kernel
theorem dX11_wash_4 : decode cX11_wash 4 = .ok (.iload_n 1, 1) := by decide +kernel
theorem dX11_wash_5 : decode cX11_wash 5 = .ok (.invokevirtual 120, 3) := by decide +kernel
theorem dX11_wash_8 : decode cX11_wash 8 = .ok (.astore_n 2, 1) := by decide +kernel
theorem dX11_wash_9 : decode cX11_wash 9 = .ok (.aload_n 2, 1) := by decide +kernel
theorem dX11_wash_10 : decode cX11_wash 10 = .ok (.ifnonnull 5, 3) := by decide +kernel
theorem dX11_wash_13 : decode cX11_wash 13 = .ok (.iconst (-1), 1) := by decide +kernel
theorem dX11_wash_14 : decode cX11_wash 14 = .ok (.ireturn, 1) := by decide +kernel
theorem dX11_wash_15 : decode cX11_wash 15 = .ok (.aload_n 0, 1) := by decide +kernel
theorem dX11_wash_16 : decode cX11_wash 16 = .ok (.getfield 10, 3) := by decide +kernel
theorem dX11_wash_19 : decode cX11_wash 19 = .ok (.iload_n 1, 1) := by decide +kernel
theorem dX11_wash_20 : decode cX11_wash 20 = .ok (.invokevirtual 171, 3) := by decide +kernel
theorem dX11_wash_23 : decode cX11_wash 23 = .ok (.ifCond .eq 6, 3) := by decide +kernel
theorem dX11_wash_26 : decode cX11_wash 26 = .ok (.bipush (-4), 2) := by decide +kernel
theorem dX11_wash_28 : decode cX11_wash 28 = .ok (.ireturn, 1) := by decide +kernel
theorem dX11_wash_29 : decode cX11_wash 29 = .ok (.aload_n 2, 1) := by decide +kernel
theorem dX11_wash_30 : decode cX11_wash 30 = .ok (.getfield 174, 3) := by decide +kernel
theorem dX11_wash_33 : decode cX11_wash 33 = .ok (.istore_n 3, 1) := by decide +kernel
theorem dX11_wash_34 : decode cX11_wash 34 = .ok (.aload_n 2, 1) := by decide +kernel
theorem dX11_wash_35 : decode cX11_wash 35 = .ok (.iconst 0, 1) := by decide +kernel
theorem dX11_wash_36 : decode cX11_wash 36 = .ok (.putfield 174, 3) := by decide +kernel
theorem dX11_wash_39 : decode cX11_wash 39 = .ok (.iload_n 3, 1) := by decide +kernel
theorem dX11_wash_40 : decode cX11_wash 40 = .ok (.ireturn, 1) := by decide +kernel
theorem gv_X11_171 : GoodIn gT (wsV "NylonLadder" 171 "NylonLadder$Drawer" yX0_isOnAFoot (Cond.code yX0_isOnAFoot cX0_isOnAFoot 2 (some .boolean) :: gT)) := good_V T_3_80 T_2_141 T_2_142 T_1_2 T_2_143
theorem fg_X11_174_10 : FdG "NylonLadder" 174 10 8 false := ⟨_, _, _, _, rfl, by decide, by decide, by decide, gxX7, by decide, T_1_97, Or.inl rfl, rfl⟩
theorem fp_X11_174_10 : FdP "NylonLadder" 174 10 8 false .int false := ⟨_, _, _, _, _, rfl, by decide, by decide, by decide, gxX7, by decide, T_1_97, Or.inl rfl, rfl, tyX7_ok, nmX7, by decide +kernel, rfl, fun h => by cases h⟩
def fX11_wash (M : Mm) (o : Nat) (p1 : Int32) : Option (Int32 × Mm) :=
  B1 (rdN M o 14 0) fun a1_1 =>
  B1 (gk M a1_1 3) fun _ =>
  B1 (fX0_stockingAt M a1_1 p1) fun x5_3 =>
  NL x5_3 (
    some ((-1), M)) (fun a10_4 =>
    B1 (rdN M o 14 0) fun a16_5 =>
    B1 (gk M a16_5 3) fun _ =>
    B1 (fX0_isOnAFoot M a16_5 p1) fun x20_7 =>
    if x20_7 = 0 then
      B1 (rdI M a10_4 10 8) fun x30_8 =>
      B1 (wrI M a10_4 10 8 0) fun M36_9 =>
      some (x30_8, M36_9)
    else
      some ((-4), M))
set_option maxRecDepth 100000 in
set_option maxHeartbeats 4000000 in
theorem qX11_wash (l : Launch) (E : Ev) {M : Mm} {o : Nat} {p1 : Int32} {rz : Int32} {Mz : Mm} (hf : fX11_wash M o p1 = some (rz, Mz)) : Ct l E yX11_wash cX11_wash 4 (some .int) 2 43 0 0 [.ref (E.b + o), .int p1] M (some (.int rz)) Mz := by
  refine ct_of (by decide +kernel) (Nat.le_of_ble_eq_true rfl) fun p e s m args below meth c C hr hin hW ls hl => ?_
  have hl : lv_has ls 4 [(0, .ref (E.b + o)), (1, .int p1)] := hl
  unfold fX11_wash at hf
  refine lv_aload_n C.x C.b dX11_wash_0 rfl (lv_at hl 0 rfl) ?_
  replace hf := x_b1 hf; obtain ⟨a1_1, ha1_1, hf⟩ := hf
  refine x_getn C hW fg_X11_10_14 ha1_1 dX11_wash_1 ?_
  refine lv_iload_n C.x C.b dX11_wash_4 rfl (lv_at hl 1 rfl) ?_
  replace hf := x_b1 hf; obtain ⟨_, hk5_2, hf⟩ := hf
  replace hf := x_b1 hf; obtain ⟨x5_3, hx5_3, hf⟩ := hf
  refine x_callV (As := [.int p1]) (a := a1_1) (rest := []) C hW hl (qX0_stockingAt l E hx5_3) (x_gk hk5_2) (by decide) (by decide) rfl gv_X11_120 ⟨rfl, hd_X0_stockingAt⟩ rfl rfl (Nat.le_of_ble_eq_true rfl) dX11_wash_5 ⟨Nat.le_of_ble_eq_true rfl, Nat.le_of_ble_eq_true rfl⟩ ⟨Nat.le_of_ble_eq_true rfl, Nat.le_of_ble_eq_true rfl⟩ (fun H locs hW => ?_)
  refine x_astore_n (lv' := [(2, rv E.b _), (0, .ref (E.b + _)), (1, .int _)]) C dX11_wash_8 rfl hl (by decide) rfl (fun ls hl => ?_)
  refine x_aload_n C dX11_wash_9 rfl (lv_at hl 0 rfl) ?_
  replace hf := x_nl hf; rcases hf with ⟨rfl, hf⟩ | ⟨a10_4, rfl, hf⟩
  · refine lv_ifnonnullN C.x C.b dX11_wash_10 ?_
    refine lv_iconst (v := (-1)) C.x C.b dX11_wash_13 (by decide) ?_
    rw [x_e1 hf, x_e2 hf]
    exact x_iret C hr hW dX11_wash_14
  · refine lv_ifnonnull (tgt := 15) C.x C.b dX11_wash_10 rfl ?_
    refine lv_aload_n C.x C.b dX11_wash_15 rfl (lv_at hl 1 rfl) ?_
    replace hf := x_b1 hf; obtain ⟨a16_5, ha16_5, hf⟩ := hf
    refine x_getn C hW fg_X11_10_14 ha16_5 dX11_wash_16 ?_
    refine lv_iload_n C.x C.b dX11_wash_19 rfl (lv_at hl 2 rfl) ?_
    replace hf := x_b1 hf; obtain ⟨_, hk20_6, hf⟩ := hf
    replace hf := x_b1 hf; obtain ⟨x20_7, hx20_7, hf⟩ := hf
    refine x_callV (As := [.int p1]) (a := a16_5) (rest := []) C hW hl (qX0_isOnAFoot l E hx20_7) (x_gk hk20_6) (by decide) (by decide) rfl gv_X11_171 ⟨rfl, hd_X0_isOnAFoot⟩ rfl rfl (Nat.le_of_ble_eq_true rfl) dX11_wash_20 ⟨Nat.le_of_ble_eq_true rfl, Nat.le_of_ble_eq_true rfl⟩ ⟨Nat.le_of_ble_eq_true rfl, Nat.le_of_ble_eq_true rfl⟩ (fun H locs hW => ?_)
    refine lv_if_eq (tgt := 29) C.x C.b dX11_wash_23 rfl (fun c23 => ?_) (fun c23 => ?_)
    · replace hf := x_ip c23 hf
      refine lv_aload_n C.x C.b dX11_wash_29 rfl (lv_at hl 0 rfl) ?_
      replace hf := x_b1 hf; obtain ⟨x30_8, hx30_8, hf⟩ := hf
      refine x_geti C hW fg_X11_174_10 hx30_8 dX11_wash_30 ?_
      refine lv_istore_n (lv' := [(3, .int _), (2, .ref (E.b + _)), (0, .ref (E.b + _)), (1, .int _)]) C.x C.b dX11_wash_33 rfl hl (by decide) rfl (fun ls hl => ?_)
      refine lv_aload_n C.x C.b dX11_wash_34 rfl (lv_at hl 1 rfl) ?_
      refine lv_iconst (v := 0) C.x C.b dX11_wash_35 (by decide) ?_
      replace hf := x_b1 hf; obtain ⟨M36_9, hM36_9, hf⟩ := hf
      refine x_puti C hW fp_X11_174_10 hM36_9 (fun h => by cases h) dX11_wash_36 (fun H locs hW => ?_)
      refine lv_iload_n C.x C.b dX11_wash_39 rfl (lv_at hl 0 rfl) ?_
      rw [x_e1 hf, x_e2 hf]
      exact x_iret C hr hW dX11_wash_40
    · replace hf := x_in c23 hf
      refine lv_bipush (v := (-4)) C.x C.b dX11_wash_26 (by decide) ?_
      rw [x_e1 hf, x_e2 hf]
      exact x_iret C hr hW dX11_wash_28

theorem dX11_mend_0 : decode cX11_mend 0 = .ok (.aload_n 0, 1) := by decide +kernel
theorem dX11_mend_1 : decode cX11_mend 1 = .ok (.getfield 10, 3) := by decide +kernel
theorem dX11_mend_4 : decode cX11_mend 4 = .ok (.iload_n 1, 1) := by decide +kernel
theorem dX11_mend_5 : decode cX11_mend 5 = .ok (.invokevirtual 120, 3) := by decide +kernel
theorem dX11_mend_8 : decode cX11_mend 8 = .ok (.astore_n 2, 1) := by decide +kernel
theorem dX11_mend_9 : decode cX11_mend 9 = .ok (.aload_n 2, 1) := by decide +kernel
theorem dX11_mend_10 : decode cX11_mend 10 = .ok (.ifnonnull 5, 3) := by decide +kernel
theorem dX11_mend_13 : decode cX11_mend 13 = .ok (.iconst (-1), 1) := by decide +kernel
theorem dX11_mend_14 : decode cX11_mend 14 = .ok (.ireturn, 1) := by decide +kernel
theorem dX11_mend_15 : decode cX11_mend 15 = .ok (.aload_n 0, 1) := by decide +kernel
theorem dX11_mend_16 : decode cX11_mend 16 = .ok (.getfield 10, 3) := by decide +kernel
theorem dX11_mend_19 : decode cX11_mend 19 = .ok (.iload_n 1, 1) := by decide +kernel
theorem dX11_mend_20 : decode cX11_mend 20 = .ok (.invokevirtual 171, 3) := by decide +kernel
theorem dX11_mend_23 : decode cX11_mend 23 = .ok (.ifCond .eq 6, 3) := by decide +kernel
theorem dX11_mend_26 : decode cX11_mend 26 = .ok (.bipush (-4), 2) := by decide +kernel
theorem dX11_mend_28 : decode cX11_mend 28 = .ok (.ireturn, 1) := by decide +kernel
theorem dX11_mend_29 : decode cX11_mend 29 = .ok (.aload_n 2, 1) := by decide +kernel
theorem dX11_mend_30 : decode cX11_mend 30 = .ok (.invokevirtual 177, 3) := by decide +kernel
theorem dX11_mend_33 : decode cX11_mend 33 = .ok (.ifCond .ne 6, 3) := by decide +kernel
theorem dX11_mend_36 : decode cX11_mend 36 = .ok (.bipush (-3), 2) := by decide +kernel
theorem dX11_mend_38 : decode cX11_mend 38 = .ok (.ireturn, 1) := by decide +kernel
theorem dX11_mend_39 : decode cX11_mend 39 = .ok (.aload_n 2, 1) := by decide +kernel
theorem dX11_mend_40 : decode cX11_mend 40 = .ok (.aload_n 0, 1) := by decide +kernel
theorem dX11_mend_41 : decode cX11_mend 41 = .ok (.getfield 10, 3) := by decide +kernel
theorem dX11_mend_44 : decode cX11_mend 44 = .ok (.getfield 107, 3) := by decide +kernel
theorem dX11_mend_47 : decode cX11_mend 47 = .ok (.invokevirtual 181, 3) := by decide +kernel
theorem dX11_mend_50 : decode cX11_mend 50 = .ok (.istore_n 3, 1) := by decide +kernel
theorem dX11_mend_51 : decode cX11_mend 51 = .ok (.aload_n 2, 1) := by decide +kernel
theorem dX11_mend_52 : decode cX11_mend 52 = .ok (.invokevirtual 185, 3) := by decide +kernel
theorem dX11_mend_55 : decode cX11_mend 55 = .ok (.iload_n 3, 1) := by decide +kernel
theorem dX11_mend_56 : decode cX11_mend 56 = .ok (.ireturn, 1) := by decide +kernel
theorem gv_X11_177 : GoodIn gT (wsV "NylonLadder" 177 "NylonLadder$Stocking" yX7_hasLadder (Cond.code yX7_hasLadder cX7_hasLadder 1 (some .boolean) :: gT)) := good_V T_3_85 T_3_36 T_3_37 T_1_4 T_3_38
theorem hd_X7_mendingCosts : yX7_mendingCosts.cls ≠ "java/lang/invoke/MethodHandle" ∧ yX7_mendingCosts.cls ≠ "java/lang/invoke/VarHandle" ∧ (parseMethodDescriptor yX7_mendingCosts.desc).map (fun d => d.parameters.length) = some 1 := by decide +kernel
theorem gv_X11_181 : GoodIn gT (wsV "NylonLadder" 181 "NylonLadder$Stocking" yX7_mendingCosts (Cond.code yX7_mendingCosts cX7_mendingCosts 2 (some .int) :: gT)) := good_V T_3_86 T_3_87 T_3_88 T_1_4 T_3_89
theorem gv_X11_185 : GoodIn gT (wsV "NylonLadder" 185 "NylonLadder$Stocking" yX7_loseLadder (Cond.code yX7_loseLadder cX7_loseLadder 1 none :: gT)) := good_V T_3_91 T_2_222 T_2_223 T_1_4 T_2_224
def fX11_mend (M : Mm) (o : Nat) (p1 : Int32) : Option (Int32 × Mm) :=
  B1 (rdN M o 14 0) fun a1_1 =>
  B1 (gk M a1_1 3) fun _ =>
  B1 (fX0_stockingAt M a1_1 p1) fun x5_3 =>
  NL x5_3 (
    some ((-1), M)) (fun a10_4 =>
    B1 (rdN M o 14 0) fun a16_5 =>
    B1 (gk M a16_5 3) fun _ =>
    B1 (fX0_isOnAFoot M a16_5 p1) fun x20_7 =>
    if x20_7 = 0 then
      B1 (gk M a10_4 10) fun _ =>
      B1 (fX7_hasLadder M a10_4) fun x30_9 =>
      if x30_9 = 0 then
        some ((-3), M)
      else
        B1 (rdN M o 14 0) fun a41_10 =>
        B1 (rdN M a41_10 3 0) fun a44_11 =>
        B1 (gk M a10_4 10) fun _ =>
        B1 (fX7_mendingCosts M a10_4 a44_11) fun x47_13 =>
        B1 (gk M a10_4 10) fun _ =>
        B1 (fX7_loseLadder M a10_4) fun M52_15 =>
        some (x47_13, M52_15)
    else
      some ((-4), M))
set_option maxRecDepth 100000 in
set_option maxHeartbeats 4000000 in
theorem qX11_mend (l : Launch) (E : Ev) {M : Mm} {o : Nat} {p1 : Int32} {rz : Int32} {Mz : Mm} (hf : fX11_mend M o p1 = some (rz, Mz)) : Ct l E yX11_mend cX11_mend 4 (some .int) 3 61 0 0 [.ref (E.b + o), .int p1] M (some (.int rz)) Mz := by
  refine ct_of (by decide +kernel) (Nat.le_of_ble_eq_true rfl) fun p e s m args below meth c C hr hin hW ls hl => ?_
  have hl : lv_has ls 4 [(0, .ref (E.b + o)), (1, .int p1)] := hl
  unfold fX11_mend at hf
  refine lv_aload_n C.x C.b dX11_mend_0 rfl (lv_at hl 0 rfl) ?_
  replace hf := x_b1 hf; obtain ⟨a1_1, ha1_1, hf⟩ := hf
  refine x_getn C hW fg_X11_10_14 ha1_1 dX11_mend_1 ?_
  refine lv_iload_n C.x C.b dX11_mend_4 rfl (lv_at hl 1 rfl) ?_
  replace hf := x_b1 hf; obtain ⟨_, hk5_2, hf⟩ := hf
  replace hf := x_b1 hf; obtain ⟨x5_3, hx5_3, hf⟩ := hf
  refine x_callV (As := [.int p1]) (a := a1_1) (rest := []) C hW hl (qX0_stockingAt l E hx5_3) (x_gk hk5_2) (by decide) (by decide) rfl gv_X11_120 ⟨rfl, hd_X0_stockingAt⟩ rfl rfl (Nat.le_of_ble_eq_true rfl) dX11_mend_5 ⟨Nat.le_of_ble_eq_true rfl, Nat.le_of_ble_eq_true rfl⟩ ⟨Nat.le_of_ble_eq_true rfl, Nat.le_of_ble_eq_true rfl⟩ (fun H locs hW => ?_)
  refine x_astore_n (lv' := [(2, rv E.b _), (0, .ref (E.b + _)), (1, .int _)]) C dX11_mend_8 rfl hl (by decide) rfl (fun ls hl => ?_)
  refine x_aload_n C dX11_mend_9 rfl (lv_at hl 0 rfl) ?_
  replace hf := x_nl hf; rcases hf with ⟨rfl, hf⟩ | ⟨a10_4, rfl, hf⟩
  · refine lv_ifnonnullN C.x C.b dX11_mend_10 ?_
    refine lv_iconst (v := (-1)) C.x C.b dX11_mend_13 (by decide) ?_
    rw [x_e1 hf, x_e2 hf]
    exact x_iret C hr hW dX11_mend_14
  · refine lv_ifnonnull (tgt := 15) C.x C.b dX11_mend_10 rfl ?_
    refine lv_aload_n C.x C.b dX11_mend_15 rfl (lv_at hl 1 rfl) ?_
    replace hf := x_b1 hf; obtain ⟨a16_5, ha16_5, hf⟩ := hf
    refine x_getn C hW fg_X11_10_14 ha16_5 dX11_mend_16 ?_
    refine lv_iload_n C.x C.b dX11_mend_19 rfl (lv_at hl 2 rfl) ?_
    replace hf := x_b1 hf; obtain ⟨_, hk20_6, hf⟩ := hf
    replace hf := x_b1 hf; obtain ⟨x20_7, hx20_7, hf⟩ := hf
    refine x_callV (As := [.int p1]) (a := a16_5) (rest := []) C hW hl (qX0_isOnAFoot l E hx20_7) (x_gk hk20_6) (by decide) (by decide) rfl gv_X11_171 ⟨rfl, hd_X0_isOnAFoot⟩ rfl rfl (Nat.le_of_ble_eq_true rfl) dX11_mend_20 ⟨Nat.le_of_ble_eq_true rfl, Nat.le_of_ble_eq_true rfl⟩ ⟨Nat.le_of_ble_eq_true rfl, Nat.le_of_ble_eq_true rfl⟩ (fun H locs hW => ?_)
    refine lv_if_eq (tgt := 29) C.x C.b dX11_mend_23 rfl (fun c23 => ?_) (fun c23 => ?_)
    · replace hf := x_ip c23 hf
      refine lv_aload_n C.x C.b dX11_mend_29 rfl (lv_at hl 0 rfl) ?_
      replace hf := x_b1 hf; obtain ⟨_, hk30_8, hf⟩ := hf
      replace hf := x_b1 hf; obtain ⟨x30_9, hx30_9, hf⟩ := hf
      refine x_callV (As := []) (a := a10_4) (rest := []) C hW hl (qX7_hasLadder l E hx30_9) (x_gk hk30_8) (by decide) (by decide) rfl gv_X11_177 ⟨rfl, hd_X7_hasLadder⟩ rfl rfl (Nat.le_of_ble_eq_true rfl) dX11_mend_30 ⟨Nat.le_of_ble_eq_true rfl, Nat.le_of_ble_eq_true rfl⟩ ⟨Nat.le_of_ble_eq_true rfl, Nat.le_of_ble_eq_true rfl⟩ (fun H locs hW => ?_)
      refine lv_if_ne (tgt := 39) C.x C.b dX11_mend_33 rfl (fun c33 => ?_) (fun c33 => ?_)
      · replace hf := x_in c33 hf
        refine lv_aload_n C.x C.b dX11_mend_39 rfl (lv_at hl 0 rfl) ?_
        refine lv_aload_n C.x C.b dX11_mend_40 rfl (lv_at hl 1 rfl) ?_
        replace hf := x_b1 hf; obtain ⟨a41_10, ha41_10, hf⟩ := hf
        refine x_getn C hW fg_X11_10_14 ha41_10 dX11_mend_41 ?_
        replace hf := x_b1 hf; obtain ⟨a44_11, ha44_11, hf⟩ := hf
        refine x_getn C hW fg_X11_107_3 ha44_11 dX11_mend_44 ?_
        replace hf := x_b1 hf; obtain ⟨_, hk47_12, hf⟩ := hf
        replace hf := x_b1 hf; obtain ⟨x47_13, hx47_13, hf⟩ := hf
        refine x_callV (As := [.ref (E.b + a44_11)]) (a := a10_4) (rest := []) C hW hl (qX7_mendingCosts l E hx47_13) (x_gk hk47_12) (by decide) (by decide) rfl gv_X11_181 ⟨rfl, hd_X7_mendingCosts⟩ rfl rfl (Nat.le_of_ble_eq_true rfl) dX11_mend_47 ⟨Nat.le_of_ble_eq_true rfl, Nat.le_of_ble_eq_true rfl⟩ ⟨Nat.le_of_ble_eq_true rfl, Nat.le_of_ble_eq_true rfl⟩ (fun H locs hW => ?_)
        refine lv_istore_n (lv' := [(3, .int _), (2, .ref (E.b + _)), (0, .ref (E.b + _)), (1, .int _)]) C.x C.b dX11_mend_50 rfl hl (by decide) rfl (fun ls hl => ?_)
        refine lv_aload_n C.x C.b dX11_mend_51 rfl (lv_at hl 1 rfl) ?_
        replace hf := x_b1 hf; obtain ⟨_, hk52_14, hf⟩ := hf
        replace hf := x_b1 hf; obtain ⟨M52_15, hM52_15, hf⟩ := hf
        refine x_callV (As := []) (a := a10_4) (rest := []) C hW hl (qX7_loseLadder l E hM52_15) (x_gk hk52_14) (by decide) (by decide) rfl gv_X11_185 ⟨rfl, hd_X7_loseLadder⟩ rfl rfl (Nat.le_of_ble_eq_true rfl) dX11_mend_52 ⟨Nat.le_of_ble_eq_true rfl, Nat.le_of_ble_eq_true rfl⟩ ⟨Nat.le_of_ble_eq_true rfl, Nat.le_of_ble_eq_true rfl⟩ (fun H locs hW => ?_)
        refine lv_iload_n C.x C.b dX11_mend_55 rfl (lv_at hl 0 rfl) ?_
        rw [x_e1 hf, x_e2 hf]
        exact x_iret C hr hW dX11_mend_56
      · replace hf := x_ip c33 hf
        refine lv_bipush (v := (-3)) C.x C.b dX11_mend_36 (by decide) ?_
        rw [x_e1 hf, x_e2 hf]
        exact x_iret C hr hW dX11_mend_38
    · replace hf := x_in c23 hf
      refine lv_bipush (v := (-4)) C.x C.b dX11_mend_26 (by decide) ?_
      rw [x_e1 hf, x_e2 hf]
      exact x_iret C hr hW dX11_mend_28

theorem dX11_wear_0 : decode cX11_wear 0 = .ok (.iload_n 1, 1) := by decide +kernel
theorem dX11_wear_1 : decode cX11_wear 1 = .ok (.invokestatic 188, 3) := by decide +kernel
theorem dX11_wear_4 : decode cX11_wear 4 = .ok (.ifCond .eq 19, 3) := by decide +kernel
theorem dX11_wear_7 : decode cX11_wear 7 = .ok (.iload_n 2, 1) := by decide +kernel
theorem dX11_wear_8 : decode cX11_wear 8 = .ok (.iconst (-1), 1) := by decide +kernel
theorem dX11_wear_9 : decode cX11_wear 9 = .ok (.if_icmp .eq 16, 3) := by decide +kernel
theorem dX11_wear_12 : decode cX11_wear 12 = .ok (.aload_n 0, 1) := by decide +kernel
theorem dX11_wear_13 : decode cX11_wear 13 = .ok (.getfield 10, 3) := by decide +kernel
theorem dX11_wear_16 : decode cX11_wear 16 = .ok (.iload_n 2, 1) := by decide +kernel
theorem dX11_wear_17 : decode cX11_wear 17 = .ok (.invokevirtual 120, 3) := by decide +kernel
theorem dX11_wear_20 : decode cX11_wear 20 = .ok (.ifnonnull 5, 3) := by decide +kernel
theorem dX11_wear_23 : decode cX11_wear 23 = .ok (.iconst (-1), 1) := by decide +kernel
theorem dX11_wear_24 : decode cX11_wear 24 = .ok (.ireturn, 1) := by decide +kernel
theorem dX11_wear_25 : decode cX11_wear 25 = .ok (.iload_n 2, 1) := by decide +kernel
theorem dX11_wear_26 : decode cX11_wear 26 = .ok (.iconst (-1), 1) := by decide +kernel
theorem dX11_wear_27 : decode cX11_wear 27 = .ok (.if_icmp .eq 20, 3) := by decide +kernel
theorem dX11_wear_30 : decode cX11_wear 30 = .ok (.aload_n 0, 1) := by decide +kernel
theorem dX11_wear_31 : decode cX11_wear 31 = .ok (.getfield 10, 3) := by decide +kernel
theorem dX11_wear_34 : decode cX11_wear 34 = .ok (.iload_n 2, 1) := by decide +kernel
theorem dX11_wear_35 : decode cX11_wear 35 = .ok (.invokevirtual 148, 3) := by decide +kernel
theorem dX11_wear_38 : decode cX11_wear 38 = .ok (.iconst 1, 1) := by decide +kernel
theorem dX11_wear_39 : decode cX11_wear 39 = .ok (.iload_n 1, 1) := by decide +kernel
theorem dX11_wear_40 : decode cX11_wear 40 = .ok (.isub, 1) := by decide +kernel
theorem dX11_wear_41 : decode cX11_wear 41 = .ok (.if_icmp .ne 6, 3) := by decide +kernel
theorem dX11_wear_44 : decode cX11_wear 44 = .ok (.bipush (-4), 2) := by decide +kernel
theorem dX11_wear_46 : decode cX11_wear 46 = .ok (.ireturn, 1) := by decide +kernel
theorem dX11_wear_47 : decode cX11_wear 47 = .ok (.aload_n 0, 1) := by decide +kernel
theorem dX11_wear_48 : decode cX11_wear 48 = .ok (.getfield 10, 3) := by decide +kernel
theorem dX11_wear_51 : decode cX11_wear 51 = .ok (.getfield 191, 3) := by decide +kernel
theorem dX11_wear_54 : decode cX11_wear 54 = .ok (.iload_n 1, 1) := by decide +kernel
theorem dX11_wear_55 : decode cX11_wear 55 = .ok (.iaload, 1) := by decide +kernel
theorem dX11_wear_56 : decode cX11_wear 56 = .ok (.istore_n 3, 1) := by decide +kernel
theorem dX11_wear_57 : decode cX11_wear 57 = .ok (.aload_n 0, 1) := by decide +kernel
theorem dX11_wear_58 : decode cX11_wear 58 = .ok (.getfield 10, 3) := by decide +kernel
theorem dX11_wear_61 : decode cX11_wear 61 = .ok (.getfield 191, 3) := by decide +kernel
theorem dX11_wear_64 : decode cX11_wear 64 = .ok (.iload_n 1, 1) := by decide +kernel
theorem dX11_wear_65 : decode cX11_wear 65 = .ok (.iload_n 2, 1) := by decide +kernel
theorem dX11_wear_66 : decode cX11_wear 66 = .ok (.iastore, 1) := by decide +kernel
theorem dX11_wear_67 : decode cX11_wear 67 = .ok (.iload_n 3, 1) := by decide +kernel
theorem dX11_wear_68 : decode cX11_wear 68 = .ok (.ifCond .ge 8, 3) := by decide +kernel
theorem dX11_wear_71 : decode cX11_wear 71 = .ok (.bipush (-9), 2) := by decide +kernel
theorem dX11_wear_73 : decode cX11_wear 73 = .ok (.goto 4, 3) := by decide +kernel
theorem dX11_wear_76 : decode cX11_wear 76 = .ok (.iload_n 3, 1) := by decide +kernel
theorem dX11_wear_77 : decode cX11_wear 77 = .ok (.ireturn, 1) := by decide +kernel
theorem gs_X11_188 : GoodIn gT (va_wsS "NylonLadder" 188 yX11_isFoot (Cond.code yX11_isFoot cX11_isFoot 1 (some .boolean) :: gT)) := good_S T_3_96 T_3_97 T_1_1 T_3_98
theorem fg_X11_191_3 : FdG "NylonLadder" 191 3 3 true := ⟨_, _, _, _, rfl, by decide, by decide, by decide, gxX0, by decide, T_1_141, Or.inl rfl, rfl⟩
def fX11_wear (M : Mm) (o : Nat) (p1 : Int32) (p2 : Int32) : Option (Int32 × Mm) :=
  B1 (fX11_isFoot M p1) fun x1_1 =>
  if x1_1 = 0 then
    some ((-1), M)
  else
    if p2 = (-1) then
      if p2 = (-1) then
        B1 (rdN M o 14 0) fun a48_2 =>
        B1 (rdN M a48_2 3 3) fun a51_3 =>
        B1 (alI M a51_3 p1) fun x55_4 =>
        B1 (rdN M o 14 0) fun a58_5 =>
        B1 (rdN M a58_5 3 3) fun a61_6 =>
        B1 (asI M a61_6 p1 p2) fun M66_7 =>
        if 0 ≤ x55_4 then
          some (x55_4, M66_7)
        else
          some ((-9), M66_7)
      else
        B1 (rdN M o 14 0) fun a31_8 =>
        B1 (gk M a31_8 3) fun _ =>
        B1 (fX0_footOf M a31_8 p2) fun x35_10 =>
        if x35_10 = (1 - p1) then
          some ((-4), M)
        else
          B1 (rdN M o 14 0) fun a48_11 =>
          B1 (rdN M a48_11 3 3) fun a51_12 =>
          B1 (alI M a51_12 p1) fun x55_13 =>
          B1 (rdN M o 14 0) fun a58_14 =>
          B1 (rdN M a58_14 3 3) fun a61_15 =>
          B1 (asI M a61_15 p1 p2) fun M66_16 =>
          if 0 ≤ x55_13 then
            some (x55_13, M66_16)
          else
            some ((-9), M66_16)
    else
      B1 (rdN M o 14 0) fun a13_17 =>
      B1 (gk M a13_17 3) fun _ =>
      B1 (fX0_stockingAt M a13_17 p2) fun x17_19 =>
      NL x17_19 (
        some ((-1), M)) (fun a20_20 =>
        if p2 = (-1) then
          B1 (rdN M o 14 0) fun a48_21 =>
          B1 (rdN M a48_21 3 3) fun a51_22 =>
          B1 (alI M a51_22 p1) fun x55_23 =>
          B1 (rdN M o 14 0) fun a58_24 =>
          B1 (rdN M a58_24 3 3) fun a61_25 =>
          B1 (asI M a61_25 p1 p2) fun M66_26 =>
          if 0 ≤ x55_23 then
            some (x55_23, M66_26)
          else
            some ((-9), M66_26)
        else
          B1 (rdN M o 14 0) fun a31_27 =>
          B1 (gk M a31_27 3) fun _ =>
          B1 (fX0_footOf M a31_27 p2) fun x35_29 =>
          if x35_29 = (1 - p1) then
            some ((-4), M)
          else
            B1 (rdN M o 14 0) fun a48_30 =>
            B1 (rdN M a48_30 3 3) fun a51_31 =>
            B1 (alI M a51_31 p1) fun x55_32 =>
            B1 (rdN M o 14 0) fun a58_33 =>
            B1 (rdN M a58_33 3 3) fun a61_34 =>
            B1 (asI M a61_34 p1 p2) fun M66_35 =>
            if 0 ≤ x55_32 then
              some (x55_32, M66_35)
            else
              some ((-9), M66_35))
set_option maxRecDepth 100000 in
set_option maxHeartbeats 4000000 in
theorem qX11_wear (l : Launch) (E : Ev) {M : Mm} {o : Nat} {p1 : Int32} {p2 : Int32} {rz : Int32} {Mz : Mm} (hf : fX11_wear M o p1 p2 = some (rz, Mz)) : Ct l E yX11_wear cX11_wear 4 (some .int) 2 43 0 0 [.ref (E.b + o), .int p1, .int p2] M (some (.int rz)) Mz := by
  refine ct_of (by decide +kernel) (Nat.le_of_ble_eq_true rfl) fun p e s m args below meth c C hr hin hW ls hl => ?_
  have hl : lv_has ls 4 [(0, .ref (E.b + o)), (1, .int p1), (2, .int p2)] := hl
  unfold fX11_wear at hf
  refine lv_iload_n C.x C.b dX11_wear_0 rfl (lv_at hl 1 rfl) ?_
  replace hf := x_b1 hf; obtain ⟨x1_1, hx1_1, hf⟩ := hf
  refine x_callS (As := [.int p1]) (rest := []) C hW hl (qX11_isFoot l E hx1_1) gs_X11_188 hd_X11_isFoot rfl rfl (Nat.le_of_ble_eq_true rfl) dX11_wear_1 ⟨Nat.le_of_ble_eq_true rfl, Nat.le_of_ble_eq_true rfl⟩ ⟨Nat.le_of_ble_eq_true rfl, Nat.le_of_ble_eq_true rfl⟩ (fun H locs hW => ?_)
  refine lv_if_eq (tgt := 23) C.x C.b dX11_wear_4 rfl (fun c4 => ?_) (fun c4 => ?_)
  · replace hf := x_ip c4 hf
    refine lv_iconst (v := (-1)) C.x C.b dX11_wear_23 (by decide) ?_
    rw [x_e1 hf, x_e2 hf]
    exact x_iret C hr hW dX11_wear_24
  · replace hf := x_in c4 hf
    refine lv_iload_n C.x C.b dX11_wear_7 rfl (lv_at hl 2 rfl) ?_
    refine lv_iconst (v := (-1)) C.x C.b dX11_wear_8 (by decide) ?_
    refine lv_icmp_eq (tgt := 25) C.x C.b dX11_wear_9 rfl (fun c9 => ?_) (fun c9 => ?_)
    · replace hf := x_ip c9 hf
      refine lv_iload_n C.x C.b dX11_wear_25 rfl (lv_at hl 2 rfl) ?_
      refine lv_iconst (v := (-1)) C.x C.b dX11_wear_26 (by decide) ?_
      refine lv_icmp_eq (tgt := 47) C.x C.b dX11_wear_27 rfl (fun c27 => ?_) (fun c27 => ?_)
      · replace hf := x_ip c27 hf
        refine lv_aload_n C.x C.b dX11_wear_47 rfl (lv_at hl 0 rfl) ?_
        replace hf := x_b1 hf; obtain ⟨a48_2, ha48_2, hf⟩ := hf
        refine x_getn C hW fg_X11_10_14 ha48_2 dX11_wear_48 ?_
        replace hf := x_b1 hf; obtain ⟨a51_3, ha51_3, hf⟩ := hf
        refine x_getn C hW fg_X11_191_3 ha51_3 dX11_wear_51 ?_
        refine lv_iload_n C.x C.b dX11_wear_54 rfl (lv_at hl 1 rfl) ?_
        replace hf := x_b1 hf; obtain ⟨x55_4, hx55_4, hf⟩ := hf
        refine x_iald C hW hx55_4 dX11_wear_55 ?_
        refine lv_istore_n (lv' := [(3, .int _), (0, .ref (E.b + _)), (1, .int _), (2, .int _)]) C.x C.b dX11_wear_56 rfl hl (by decide) rfl (fun ls hl => ?_)
        refine lv_aload_n C.x C.b dX11_wear_57 rfl (lv_at hl 1 rfl) ?_
        replace hf := x_b1 hf; obtain ⟨a58_5, ha58_5, hf⟩ := hf
        refine x_getn C hW fg_X11_10_14 ha58_5 dX11_wear_58 ?_
        replace hf := x_b1 hf; obtain ⟨a61_6, ha61_6, hf⟩ := hf
        refine x_getn C hW fg_X11_191_3 ha61_6 dX11_wear_61 ?_
        refine lv_iload_n C.x C.b dX11_wear_64 rfl (lv_at hl 2 rfl) ?_
        refine lv_iload_n C.x C.b dX11_wear_65 rfl (lv_at hl 3 rfl) ?_
        replace hf := x_b1 hf; obtain ⟨M66_7, hM66_7, hf⟩ := hf
        refine x_iast C hW hM66_7 dX11_wear_66 (fun H locs hW => ?_)
        refine lv_iload_n C.x C.b dX11_wear_67 rfl (lv_at hl 0 rfl) ?_
        refine lv_if_ge (tgt := 76) C.x C.b dX11_wear_68 rfl (fun c68 => ?_) (fun c68 => ?_)
        · replace hf := x_ip c68 hf
          refine lv_iload_n C.x C.b dX11_wear_76 rfl (lv_at hl 0 rfl) ?_
          rw [x_e1 hf, x_e2 hf]
          exact x_iret C hr hW dX11_wear_77
        · replace hf := x_in c68 hf
          refine lv_bipush (v := (-9)) C.x C.b dX11_wear_71 (by decide) ?_
          refine lv_goto (tgt := 77) C.x C.b dX11_wear_73 rfl ?_
          rw [x_e1 hf, x_e2 hf]
          exact x_iret C hr hW dX11_wear_77
      · replace hf := x_in c27 hf
        refine lv_aload_n C.x C.b dX11_wear_30 rfl (lv_at hl 0 rfl) ?_
        replace hf := x_b1 hf; obtain ⟨a31_8, ha31_8, hf⟩ := hf
        refine x_getn C hW fg_X11_10_14 ha31_8 dX11_wear_31 ?_
        refine lv_iload_n C.x C.b dX11_wear_34 rfl (lv_at hl 2 rfl) ?_
        replace hf := x_b1 hf; obtain ⟨_, hk35_9, hf⟩ := hf
        replace hf := x_b1 hf; obtain ⟨x35_10, hx35_10, hf⟩ := hf
        refine x_callV (As := [.int p2]) (a := a31_8) (rest := []) C hW hl (qX0_footOf l E hx35_10) (x_gk hk35_9) (by decide) (by decide) rfl gv_X11_148 ⟨rfl, hd_X0_footOf⟩ rfl rfl (Nat.le_of_ble_eq_true rfl) dX11_wear_35 ⟨Nat.le_of_ble_eq_true rfl, Nat.le_of_ble_eq_true rfl⟩ ⟨Nat.le_of_ble_eq_true rfl, Nat.le_of_ble_eq_true rfl⟩ (fun H locs hW => ?_)
        refine lv_iconst (v := 1) C.x C.b dX11_wear_38 (by decide) ?_
        refine lv_iload_n C.x C.b dX11_wear_39 rfl (lv_at hl 1 rfl) ?_
        refine lv_isub C.x C.b dX11_wear_40 ?_
        refine lv_icmp_ne (tgt := 47) C.x C.b dX11_wear_41 rfl (fun c41 => ?_) (fun c41 => ?_)
        · replace hf := x_in c41 hf
          refine lv_aload_n C.x C.b dX11_wear_47 rfl (lv_at hl 0 rfl) ?_
          replace hf := x_b1 hf; obtain ⟨a48_11, ha48_11, hf⟩ := hf
          refine x_getn C hW fg_X11_10_14 ha48_11 dX11_wear_48 ?_
          replace hf := x_b1 hf; obtain ⟨a51_12, ha51_12, hf⟩ := hf
          refine x_getn C hW fg_X11_191_3 ha51_12 dX11_wear_51 ?_
          refine lv_iload_n C.x C.b dX11_wear_54 rfl (lv_at hl 1 rfl) ?_
          replace hf := x_b1 hf; obtain ⟨x55_13, hx55_13, hf⟩ := hf
          refine x_iald C hW hx55_13 dX11_wear_55 ?_
          refine lv_istore_n (lv' := [(3, .int _), (0, .ref (E.b + _)), (1, .int _), (2, .int _)]) C.x C.b dX11_wear_56 rfl hl (by decide) rfl (fun ls hl => ?_)
          refine lv_aload_n C.x C.b dX11_wear_57 rfl (lv_at hl 1 rfl) ?_
          replace hf := x_b1 hf; obtain ⟨a58_14, ha58_14, hf⟩ := hf
          refine x_getn C hW fg_X11_10_14 ha58_14 dX11_wear_58 ?_
          replace hf := x_b1 hf; obtain ⟨a61_15, ha61_15, hf⟩ := hf
          refine x_getn C hW fg_X11_191_3 ha61_15 dX11_wear_61 ?_
          refine lv_iload_n C.x C.b dX11_wear_64 rfl (lv_at hl 2 rfl) ?_
          refine lv_iload_n C.x C.b dX11_wear_65 rfl (lv_at hl 3 rfl) ?_
          replace hf := x_b1 hf; obtain ⟨M66_16, hM66_16, hf⟩ := hf
          refine x_iast C hW hM66_16 dX11_wear_66 (fun H locs hW => ?_)
          refine lv_iload_n C.x C.b dX11_wear_67 rfl (lv_at hl 0 rfl) ?_
          refine lv_if_ge (tgt := 76) C.x C.b dX11_wear_68 rfl (fun c68 => ?_) (fun c68 => ?_)
          · replace hf := x_ip c68 hf
            refine lv_iload_n C.x C.b dX11_wear_76 rfl (lv_at hl 0 rfl) ?_
            rw [x_e1 hf, x_e2 hf]
            exact x_iret C hr hW dX11_wear_77
          · replace hf := x_in c68 hf
            refine lv_bipush (v := (-9)) C.x C.b dX11_wear_71 (by decide) ?_
            refine lv_goto (tgt := 77) C.x C.b dX11_wear_73 rfl ?_
            rw [x_e1 hf, x_e2 hf]
            exact x_iret C hr hW dX11_wear_77
        · replace hf := x_ip c41 hf
          refine lv_bipush (v := (-4)) C.x C.b dX11_wear_44 (by decide) ?_
          rw [x_e1 hf, x_e2 hf]
          exact x_iret C hr hW dX11_wear_46
    · replace hf := x_in c9 hf
      refine lv_aload_n C.x C.b dX11_wear_12 rfl (lv_at hl 0 rfl) ?_
      replace hf := x_b1 hf; obtain ⟨a13_17, ha13_17, hf⟩ := hf
      refine x_getn C hW fg_X11_10_14 ha13_17 dX11_wear_13 ?_
      refine lv_iload_n C.x C.b dX11_wear_16 rfl (lv_at hl 2 rfl) ?_
      replace hf := x_b1 hf; obtain ⟨_, hk17_18, hf⟩ := hf
      replace hf := x_b1 hf; obtain ⟨x17_19, hx17_19, hf⟩ := hf
      refine x_callV (As := [.int p2]) (a := a13_17) (rest := []) C hW hl (qX0_stockingAt l E hx17_19) (x_gk hk17_18) (by decide) (by decide) rfl gv_X11_120 ⟨rfl, hd_X0_stockingAt⟩ rfl rfl (Nat.le_of_ble_eq_true rfl) dX11_wear_17 ⟨Nat.le_of_ble_eq_true rfl, Nat.le_of_ble_eq_true rfl⟩ ⟨Nat.le_of_ble_eq_true rfl, Nat.le_of_ble_eq_true rfl⟩ (fun H locs hW => ?_)
      replace hf := x_nl hf; rcases hf with ⟨rfl, hf⟩ | ⟨a20_20, rfl, hf⟩
      · refine lv_ifnonnullN C.x C.b dX11_wear_20 ?_
        refine lv_iconst (v := (-1)) C.x C.b dX11_wear_23 (by decide) ?_
        rw [x_e1 hf, x_e2 hf]
        exact x_iret C hr hW dX11_wear_24
      · refine lv_ifnonnull (tgt := 25) C.x C.b dX11_wear_20 rfl ?_
        refine lv_iload_n C.x C.b dX11_wear_25 rfl (lv_at hl 2 rfl) ?_
        refine lv_iconst (v := (-1)) C.x C.b dX11_wear_26 (by decide) ?_
        refine lv_icmp_eq (tgt := 47) C.x C.b dX11_wear_27 rfl (fun c27 => ?_) (fun c27 => ?_)
        · replace hf := x_ip c27 hf
          refine lv_aload_n C.x C.b dX11_wear_47 rfl (lv_at hl 0 rfl) ?_
          replace hf := x_b1 hf; obtain ⟨a48_21, ha48_21, hf⟩ := hf
          refine x_getn C hW fg_X11_10_14 ha48_21 dX11_wear_48 ?_
          replace hf := x_b1 hf; obtain ⟨a51_22, ha51_22, hf⟩ := hf
          refine x_getn C hW fg_X11_191_3 ha51_22 dX11_wear_51 ?_
          refine lv_iload_n C.x C.b dX11_wear_54 rfl (lv_at hl 1 rfl) ?_
          replace hf := x_b1 hf; obtain ⟨x55_23, hx55_23, hf⟩ := hf
          refine x_iald C hW hx55_23 dX11_wear_55 ?_
          refine lv_istore_n (lv' := [(3, .int _), (0, .ref (E.b + _)), (1, .int _), (2, .int _)]) C.x C.b dX11_wear_56 rfl hl (by decide) rfl (fun ls hl => ?_)
          refine lv_aload_n C.x C.b dX11_wear_57 rfl (lv_at hl 1 rfl) ?_
          replace hf := x_b1 hf; obtain ⟨a58_24, ha58_24, hf⟩ := hf
          refine x_getn C hW fg_X11_10_14 ha58_24 dX11_wear_58 ?_
          replace hf := x_b1 hf; obtain ⟨a61_25, ha61_25, hf⟩ := hf
          refine x_getn C hW fg_X11_191_3 ha61_25 dX11_wear_61 ?_
          refine lv_iload_n C.x C.b dX11_wear_64 rfl (lv_at hl 2 rfl) ?_
          refine lv_iload_n C.x C.b dX11_wear_65 rfl (lv_at hl 3 rfl) ?_
          replace hf := x_b1 hf; obtain ⟨M66_26, hM66_26, hf⟩ := hf
          refine x_iast C hW hM66_26 dX11_wear_66 (fun H locs hW => ?_)
          refine lv_iload_n C.x C.b dX11_wear_67 rfl (lv_at hl 0 rfl) ?_
          refine lv_if_ge (tgt := 76) C.x C.b dX11_wear_68 rfl (fun c68 => ?_) (fun c68 => ?_)
          · replace hf := x_ip c68 hf
            refine lv_iload_n C.x C.b dX11_wear_76 rfl (lv_at hl 0 rfl) ?_
            rw [x_e1 hf, x_e2 hf]
            exact x_iret C hr hW dX11_wear_77
          · replace hf := x_in c68 hf
            refine lv_bipush (v := (-9)) C.x C.b dX11_wear_71 (by decide) ?_
            refine lv_goto (tgt := 77) C.x C.b dX11_wear_73 rfl ?_
            rw [x_e1 hf, x_e2 hf]
            exact x_iret C hr hW dX11_wear_77
        · replace hf := x_in c27 hf
          refine lv_aload_n C.x C.b dX11_wear_30 rfl (lv_at hl 0 rfl) ?_
          replace hf := x_b1 hf; obtain ⟨a31_27, ha31_27, hf⟩ := hf
          refine x_getn C hW fg_X11_10_14 ha31_27 dX11_wear_31 ?_
          refine lv_iload_n C.x C.b dX11_wear_34 rfl (lv_at hl 2 rfl) ?_
          replace hf := x_b1 hf; obtain ⟨_, hk35_28, hf⟩ := hf
          replace hf := x_b1 hf; obtain ⟨x35_29, hx35_29, hf⟩ := hf
          refine x_callV (As := [.int p2]) (a := a31_27) (rest := []) C hW hl (qX0_footOf l E hx35_29) (x_gk hk35_28) (by decide) (by decide) rfl gv_X11_148 ⟨rfl, hd_X0_footOf⟩ rfl rfl (Nat.le_of_ble_eq_true rfl) dX11_wear_35 ⟨Nat.le_of_ble_eq_true rfl, Nat.le_of_ble_eq_true rfl⟩ ⟨Nat.le_of_ble_eq_true rfl, Nat.le_of_ble_eq_true rfl⟩ (fun H locs hW => ?_)
          refine lv_iconst (v := 1) C.x C.b dX11_wear_38 (by decide) ?_
          refine lv_iload_n C.x C.b dX11_wear_39 rfl (lv_at hl 1 rfl) ?_
          refine lv_isub C.x C.b dX11_wear_40 ?_
          refine lv_icmp_ne (tgt := 47) C.x C.b dX11_wear_41 rfl (fun c41 => ?_) (fun c41 => ?_)
          · replace hf := x_in c41 hf
            refine lv_aload_n C.x C.b dX11_wear_47 rfl (lv_at hl 0 rfl) ?_
            replace hf := x_b1 hf; obtain ⟨a48_30, ha48_30, hf⟩ := hf
            refine x_getn C hW fg_X11_10_14 ha48_30 dX11_wear_48 ?_
            replace hf := x_b1 hf; obtain ⟨a51_31, ha51_31, hf⟩ := hf
            refine x_getn C hW fg_X11_191_3 ha51_31 dX11_wear_51 ?_
            refine lv_iload_n C.x C.b dX11_wear_54 rfl (lv_at hl 1 rfl) ?_
            replace hf := x_b1 hf; obtain ⟨x55_32, hx55_32, hf⟩ := hf
            refine x_iald C hW hx55_32 dX11_wear_55 ?_
            refine lv_istore_n (lv' := [(3, .int _), (0, .ref (E.b + _)), (1, .int _), (2, .int _)]) C.x C.b dX11_wear_56 rfl hl (by decide) rfl (fun ls hl => ?_)
            refine lv_aload_n C.x C.b dX11_wear_57 rfl (lv_at hl 1 rfl) ?_
            replace hf := x_b1 hf; obtain ⟨a58_33, ha58_33, hf⟩ := hf
            refine x_getn C hW fg_X11_10_14 ha58_33 dX11_wear_58 ?_
            replace hf := x_b1 hf; obtain ⟨a61_34, ha61_34, hf⟩ := hf
            refine x_getn C hW fg_X11_191_3 ha61_34 dX11_wear_61 ?_
            refine lv_iload_n C.x C.b dX11_wear_64 rfl (lv_at hl 2 rfl) ?_
            refine lv_iload_n C.x C.b dX11_wear_65 rfl (lv_at hl 3 rfl) ?_
            replace hf := x_b1 hf; obtain ⟨M66_35, hM66_35, hf⟩ := hf
            refine x_iast C hW hM66_35 dX11_wear_66 (fun H locs hW => ?_)
            refine lv_iload_n C.x C.b dX11_wear_67 rfl (lv_at hl 0 rfl) ?_
            refine lv_if_ge (tgt := 76) C.x C.b dX11_wear_68 rfl (fun c68 => ?_) (fun c68 => ?_)
            · replace hf := x_ip c68 hf
              refine lv_iload_n C.x C.b dX11_wear_76 rfl (lv_at hl 0 rfl) ?_
              rw [x_e1 hf, x_e2 hf]
              exact x_iret C hr hW dX11_wear_77
            · replace hf := x_in c68 hf
              refine lv_bipush (v := (-9)) C.x C.b dX11_wear_71 (by decide) ?_
              refine lv_goto (tgt := 77) C.x C.b dX11_wear_73 rfl ?_
              rw [x_e1 hf, x_e2 hf]
              exact x_iret C hr hW dX11_wear_77
          · replace hf := x_ip c41 hf
            refine lv_bipush (v := (-4)) C.x C.b dX11_wear_44 (by decide) ?_
            rw [x_e1 hf, x_e2 hf]
            exact x_iret C hr hW dX11_wear_46

theorem dX11_leg_0 : decode cX11_leg 0 = .ok (.aload_n 0, 1) := by decide +kernel
theorem dX11_leg_1 : decode cX11_leg 1 = .ok (.getfield 10, 3) := by decide +kernel
theorem dX11_leg_4 : decode cX11_leg 4 = .ok (.iload_n 1, 1) := by decide +kernel
theorem dX11_leg_5 : decode cX11_leg 5 = .ok (.invokevirtual 194, 3) := by decide +kernel
theorem dX11_leg_8 : decode cX11_leg 8 = .ok (.astore 4, 2) := by decide +kernel
theorem dX11_leg_10 : decode cX11_leg 10 = .ok (.aload 4, 2) := by decide +kernel
theorem dX11_leg_12 : decode cX11_leg 12 = .ok (.ifnull 22, 3) := by decide +kernel
theorem dX11_leg_15 : decode cX11_leg 15 = .ok (.iload_n 2, 1) := by decide +kernel
theorem dX11_leg_16 : decode cX11_leg 16 = .ok (.iconst 0, 1) := by decide +kernel
theorem dX11_leg_17 : decode cX11_leg 17 = .ok (.iconst 3, 1) := by decide +kernel
theorem dX11_leg_18 : decode cX11_leg 18 = .ok (.invokestatic 69, 3) := by decide +kernel
theorem dX11_leg_21 : decode cX11_leg 21 = .ok (.ifCond .eq 13, 3) := by decide +kernel
theorem dX11_leg_24 : decode cX11_leg 24 = .ok (.iload_n 3, 1) := by decide +kernel
theorem dX11_leg_25 : decode cX11_leg 25 = .ok (.iconst 1, 1) := by decide +kernel
theorem dX11_leg_26 : decode cX11_leg 26 = .ok (.bipush 60, 2) := by decide +kernel
theorem dX11_leg_28 : decode cX11_leg 28 = .ok (.invokestatic 69, 3) := by decide +kernel
theorem dX11_leg_31 : decode cX11_leg 31 = .ok (.ifCond .ne 5, 3) := by decide +kernel
theorem dX11_leg_34 : decode cX11_leg 34 = .ok (.iconst (-1), 1) := by decide +kernel
theorem dX11_leg_35 : decode cX11_leg 35 = .ok (.ireturn, 1) := by decide +kernel
theorem dX11_leg_36 : decode cX11_leg 36 = .ok (.aload 4, 2) := by decide +kernel
theorem dX11_leg_38 : decode cX11_leg 38 = .ok (.iload_n 2, 1) := by decide +kernel
theorem dX11_leg_39 : decode cX11_leg 39 = .ok (.iload_n 3, 1) := by decide +kernel
theorem dX11_leg_40 : decode cX11_leg 40 = .ok (.invokevirtual 198, 3) := by decide +kernel
theorem dX11_leg_43 : decode cX11_leg 43 = .ok (.ifCond .eq 11, 3) := by decide +kernel
theorem dX11_leg_46 : decode cX11_leg 46 = .ok (.aload 4, 2) := by decide +kernel
theorem dX11_leg_48 : decode cX11_leg 48 = .ok (.getfield 204, 3) := by decide +kernel
theorem dX11_leg_51 : decode cX11_leg 51 = .ok (.goto 5, 3) := by decide +kernel
theorem dX11_leg_54 : decode cX11_leg 54 = .ok (.bipush (-2), 2) := by decide +kernel
theorem dX11_leg_56 : decode cX11_leg 56 = .ok (.ireturn, 1) := by decide +kernel
theorem hd_X0_wayAt : yX0_wayAt.cls ≠ "java/lang/invoke/MethodHandle" ∧ yX0_wayAt.cls ≠ "java/lang/invoke/VarHandle" ∧ (parseMethodDescriptor yX0_wayAt.desc).map (fun d => d.parameters.length) = some 1 := by decide +kernel
theorem gv_X11_194 : GoodIn gT (wsV "NylonLadder" 194 "NylonLadder$Drawer" yX0_wayAt (Cond.code yX0_wayAt cX0_wayAt 2 (some (.object "NylonLadder$Way")) :: gT)) := good_V T_3_103 T_3_104 T_3_105 T_1_2 T_3_106
theorem gv_X11_198 : GoodIn gT (wsV "NylonLadder" 198 "NylonLadder$Way" yX10_addLeg (Cond.code yX10_addLeg cX10_addLeg 3 (some .boolean) :: gT)) := good_V T_3_107 T_2_188 T_2_189 T_1_3 T_2_190
theorem fg_X11_204_13 : FdG "NylonLadder" 204 13 0 false := ⟨_, _, _, _, rfl, by decide, by decide, by decide, gxX10, by decide, T_1_55, Or.inl rfl, rfl⟩
def fX11_leg (M : Mm) (o : Nat) (p1 : Int32) (p2 : Int32) (p3 : Int32) : Option (Int32 × Mm) :=
  B1 (rdN M o 14 0) fun a1_1 =>
  B1 (gk M a1_1 3) fun _ =>
  B1 (fX0_wayAt M a1_1 p1) fun x5_3 =>
  NL x5_3 (
    some ((-1), M)) (fun a12_4 =>
    B1 (fX11_isWithin M p2 0 3) fun x18_5 =>
    if x18_5 = 0 then
      some ((-1), M)
    else
      B1 (fX11_isWithin M p3 1 60) fun x28_6 =>
      if x28_6 = 0 then
        some ((-1), M)
      else
        B1 (gk M a12_4 13) fun _ =>
        B2 (fX10_addLeg M a12_4 p2 p3) fun x40_8 M40_9 =>
        if x40_8 = 0 then
          some ((-2), M40_9)
        else
          B1 (rdI M40_9 a12_4 13 0) fun x48_10 =>
          some (x48_10, M40_9))
set_option maxRecDepth 100000 in
set_option maxHeartbeats 4000000 in
theorem qX11_leg (l : Launch) (E : Ev) {M : Mm} {o : Nat} {p1 : Int32} {p2 : Int32} {p3 : Int32} {rz : Int32} {Mz : Mm} (hf : fX11_leg M o p1 p2 p3 = some (rz, Mz)) : Ct l E yX11_leg cX11_leg 5 (some .int) 2 43 0 0 [.ref (E.b + o), .int p1, .int p2, .int p3] M (some (.int rz)) Mz := by
  refine ct_of (by decide +kernel) (Nat.le_of_ble_eq_true rfl) fun p e s m args below meth c C hr hin hW ls hl => ?_
  have hl : lv_has ls 5 [(0, .ref (E.b + o)), (1, .int p1), (2, .int p2), (3, .int p3)] := hl
  unfold fX11_leg at hf
  refine lv_aload_n C.x C.b dX11_leg_0 rfl (lv_at hl 0 rfl) ?_
  replace hf := x_b1 hf; obtain ⟨a1_1, ha1_1, hf⟩ := hf
  refine x_getn C hW fg_X11_10_14 ha1_1 dX11_leg_1 ?_
  refine lv_iload_n C.x C.b dX11_leg_4 rfl (lv_at hl 1 rfl) ?_
  replace hf := x_b1 hf; obtain ⟨_, hk5_2, hf⟩ := hf
  replace hf := x_b1 hf; obtain ⟨x5_3, hx5_3, hf⟩ := hf
  refine x_callV (As := [.int p1]) (a := a1_1) (rest := []) C hW hl (qX0_wayAt l E hx5_3) (x_gk hk5_2) (by decide) (by decide) rfl gv_X11_194 ⟨rfl, hd_X0_wayAt⟩ rfl rfl (Nat.le_of_ble_eq_true rfl) dX11_leg_5 ⟨Nat.le_of_ble_eq_true rfl, Nat.le_of_ble_eq_true rfl⟩ ⟨Nat.le_of_ble_eq_true rfl, Nat.le_of_ble_eq_true rfl⟩ (fun H locs hW => ?_)
  refine x_astore (lv' := [(4, rv E.b _), (0, .ref (E.b + _)), (1, .int _), (2, .int _), (3, .int _)]) C dX11_leg_8 hl (by decide) rfl (fun ls hl => ?_)
  refine x_aload C dX11_leg_10 (lv_at hl 0 rfl) ?_
  replace hf := x_nl hf; rcases hf with ⟨rfl, hf⟩ | ⟨a12_4, rfl, hf⟩
  · refine lv_ifnullN (tgt := 34) C.x C.b dX11_leg_12 rfl ?_
    refine lv_iconst (v := (-1)) C.x C.b dX11_leg_34 (by decide) ?_
    rw [x_e1 hf, x_e2 hf]
    exact x_iret C hr hW dX11_leg_35
  · refine lv_ifnull C.x C.b dX11_leg_12 ?_
    refine lv_iload_n C.x C.b dX11_leg_15 rfl (lv_at hl 3 rfl) ?_
    refine lv_iconst (v := 0) C.x C.b dX11_leg_16 (by decide) ?_
    refine lv_iconst (v := 3) C.x C.b dX11_leg_17 (by decide) ?_
    replace hf := x_b1 hf; obtain ⟨x18_5, hx18_5, hf⟩ := hf
    refine x_callS (As := [.int p2, .int 0, .int 3]) (rest := []) C hW hl (qX11_isWithin l E hx18_5) gs_X11_69 hd_X11_isWithin rfl rfl (Nat.le_of_ble_eq_true rfl) dX11_leg_18 ⟨Nat.le_of_ble_eq_true rfl, Nat.le_of_ble_eq_true rfl⟩ ⟨Nat.le_of_ble_eq_true rfl, Nat.le_of_ble_eq_true rfl⟩ (fun H locs hW => ?_)
    refine lv_if_eq (tgt := 34) C.x C.b dX11_leg_21 rfl (fun c21 => ?_) (fun c21 => ?_)
    · replace hf := x_ip c21 hf
      refine lv_iconst (v := (-1)) C.x C.b dX11_leg_34 (by decide) ?_
      rw [x_e1 hf, x_e2 hf]
      exact x_iret C hr hW dX11_leg_35
    · replace hf := x_in c21 hf
      refine lv_iload_n C.x C.b dX11_leg_24 rfl (lv_at hl 4 rfl) ?_
      refine lv_iconst (v := 1) C.x C.b dX11_leg_25 (by decide) ?_
      refine lv_bipush (v := 60) C.x C.b dX11_leg_26 (by decide) ?_
      replace hf := x_b1 hf; obtain ⟨x28_6, hx28_6, hf⟩ := hf
      refine x_callS (As := [.int p3, .int 1, .int 60]) (rest := []) C hW hl (qX11_isWithin l E hx28_6) gs_X11_69 hd_X11_isWithin rfl rfl (Nat.le_of_ble_eq_true rfl) dX11_leg_28 ⟨Nat.le_of_ble_eq_true rfl, Nat.le_of_ble_eq_true rfl⟩ ⟨Nat.le_of_ble_eq_true rfl, Nat.le_of_ble_eq_true rfl⟩ (fun H locs hW => ?_)
      refine lv_if_ne (tgt := 36) C.x C.b dX11_leg_31 rfl (fun c31 => ?_) (fun c31 => ?_)
      · replace hf := x_in c31 hf
        refine lv_aload C.x C.b dX11_leg_36 (lv_at hl 0 rfl) ?_
        refine lv_iload_n C.x C.b dX11_leg_38 rfl (lv_at hl 3 rfl) ?_
        refine lv_iload_n C.x C.b dX11_leg_39 rfl (lv_at hl 4 rfl) ?_
        replace hf := x_b1 hf; obtain ⟨_, hk40_7, hf⟩ := hf
        replace hf := x_b2 hf; obtain ⟨x40_8, M40_9, hx40_8, hf⟩ := hf
        refine x_callV (As := [.int p2, .int p3]) (a := a12_4) (rest := []) C hW hl (qX10_addLeg l E hx40_8) (x_gk hk40_7) (by decide) (by decide) rfl gv_X11_198 ⟨rfl, hd_X10_addLeg⟩ rfl rfl (Nat.le_of_ble_eq_true rfl) dX11_leg_40 ⟨Nat.le_of_ble_eq_true rfl, Nat.le_of_ble_eq_true rfl⟩ ⟨Nat.le_of_ble_eq_true rfl, Nat.le_of_ble_eq_true rfl⟩ (fun H locs hW => ?_)
        refine lv_if_eq (tgt := 54) C.x C.b dX11_leg_43 rfl (fun c43 => ?_) (fun c43 => ?_)
        · replace hf := x_ip c43 hf
          refine lv_bipush (v := (-2)) C.x C.b dX11_leg_54 (by decide) ?_
          rw [x_e1 hf, x_e2 hf]
          exact x_iret C hr hW dX11_leg_56
        · replace hf := x_in c43 hf
          refine lv_aload C.x C.b dX11_leg_46 (lv_at hl 0 rfl) ?_
          replace hf := x_b1 hf; obtain ⟨x48_10, hx48_10, hf⟩ := hf
          refine x_geti C hW fg_X11_204_13 hx48_10 dX11_leg_48 ?_
          refine lv_goto (tgt := 56) C.x C.b dX11_leg_51 rfl ?_
          rw [x_e1 hf, x_e2 hf]
          exact x_iret C hr hW dX11_leg_56
      · replace hf := x_ip c31 hf
        refine lv_iconst (v := (-1)) C.x C.b dX11_leg_34 (by decide) ?_
        rw [x_e1 hf, x_e2 hf]
        exact x_iret C hr hW dX11_leg_35

theorem dX11_legOf_0 : decode cX11_legOf 0 = .ok (.aload_n 0, 1) := by decide +kernel
theorem dX11_legOf_1 : decode cX11_legOf 1 = .ok (.getfield 10, 3) := by decide +kernel
theorem dX11_legOf_4 : decode cX11_legOf 4 = .ok (.iload_n 1, 1) := by decide +kernel
theorem dX11_legOf_5 : decode cX11_legOf 5 = .ok (.invokevirtual 194, 3) := by decide +kernel
theorem dX11_legOf_8 : decode cX11_legOf 8 = .ok (.astore 4, 2) := by decide +kernel
theorem dX11_legOf_10 : decode cX11_legOf 10 = .ok (.aload 4, 2) := by decide +kernel
theorem dX11_legOf_12 : decode cX11_legOf 12 = .ok (.ifnull 12, 3) := by decide +kernel
theorem dX11_legOf_15 : decode cX11_legOf 15 = .ok (.iload_n 3, 1) := by decide +kernel
theorem dX11_legOf_16 : decode cX11_legOf 16 = .ok (.iconst 0, 1) := by decide +kernel
theorem dX11_legOf_17 : decode cX11_legOf 17 = .ok (.iconst 2, 1) := by decide +kernel
theorem dX11_legOf_18 : decode cX11_legOf 18 = .ok (.invokestatic 69, 3) := by decide +kernel
theorem dX11_legOf_21 : decode cX11_legOf 21 = .ok (.ifCond .ne 5, 3) := by decide +kernel
theorem dX11_legOf_24 : decode cX11_legOf 24 = .ok (.iconst (-1), 1) := by decide +kernel
theorem dX11_legOf_25 : decode cX11_legOf 25 = .ok (.ireturn, 1) := by decide +kernel
theorem dX11_legOf_26 : decode cX11_legOf 26 = .ok (.aload 4, 2) := by decide +kernel
theorem dX11_legOf_28 : decode cX11_legOf 28 = .ok (.iload_n 2, 1) := by decide +kernel
theorem dX11_legOf_29 : decode cX11_legOf 29 = .ok (.invokevirtual 205, 3) := by decide +kernel
theorem dX11_legOf_32 : decode cX11_legOf 32 = .ok (.ifCond .ne 6, 3) := by decide +kernel
theorem dX11_legOf_35 : decode cX11_legOf 35 = .ok (.bipush (-3), 2) := by decide +kernel
theorem dX11_legOf_37 : decode cX11_legOf 37 = .ok (.ireturn, 1) := by decide +kernel
theorem dX11_legOf_38 : decode cX11_legOf 38 = .ok (.iload_n 3, 1) := by decide +kernel
theorem dX11_legOf_39 : decode cX11_legOf 39 = .ok (.lookupswitch 41 #[(0, 25), (1, 33)], 25) := by decide +kernel
theorem dX11_legOf_64 : decode cX11_legOf 64 = .ok (.aload 4, 2) := by decide +kernel
theorem dX11_legOf_66 : decode cX11_legOf 66 = .ok (.getfield 208, 3) := by decide +kernel
theorem dX11_legOf_69 : decode cX11_legOf 69 = .ok (.iload_n 2, 1) := by decide +kernel
theorem dX11_legOf_70 : decode cX11_legOf 70 = .ok (.iaload, 1) := by decide +kernel
theorem dX11_legOf_71 : decode cX11_legOf 71 = .ok (.ireturn, 1) := by decide +kernel
theorem dX11_legOf_72 : decode cX11_legOf 72 = .ok (.aload 4, 2) := by decide +kernel
theorem dX11_legOf_74 : decode cX11_legOf 74 = .ok (.getfield 211, 3) := by decide +kernel
theorem dX11_legOf_77 : decode cX11_legOf 77 = .ok (.iload_n 2, 1) := by decide +kernel
theorem dX11_legOf_78 : decode cX11_legOf 78 = .ok (.iaload, 1) := by decide +kernel
theorem dX11_legOf_79 : decode cX11_legOf 79 = .ok (.ireturn, 1) := by decide +kernel
theorem dX11_legOf_80 : decode cX11_legOf 80 = .ok (.aload 4, 2) := by decide +kernel
theorem dX11_legOf_82 : decode cX11_legOf 82 = .ok (.iload_n 2, 1) := by decide +kernel
theorem dX11_legOf_83 : decode cX11_legOf 83 = .ok (.invokevirtual 214, 3) := by decide +kernel
theorem dX11_legOf_86 : decode cX11_legOf 86 = .ok (.ireturn, 1) := by decide +kernel
theorem gv_X11_205 : GoodIn gT (wsV "NylonLadder" 205 "NylonLadder$Way" yX10_hasLeg (Cond.code yX10_hasLeg cX10_hasLeg 2 (some .boolean) :: gT)) := good_V T_3_112 T_3_113 T_3_114 T_1_3 T_3_115
theorem fg_X11_208_13 : FdG "NylonLadder" 208 13 1 true := ⟨_, _, _, _, rfl, by decide, by decide, by decide, gxX10, by decide, T_1_58, Or.inl rfl, rfl⟩
theorem fg_X11_211_13 : FdG "NylonLadder" 211 13 2 true := ⟨_, _, _, _, rfl, by decide, by decide, by decide, gxX10, by decide, T_1_61, Or.inl rfl, rfl⟩
theorem gv_X11_214 : GoodIn gT (wsV "NylonLadder" 214 "NylonLadder$Way" yX10_minutesOf (Cond.code yX10_minutesOf cX10_minutesOf 2 (some .int) :: gT)) := good_V T_3_117 T_3_118 T_3_119 T_1_3 T_3_120
def fX11_legOf (M : Mm) (o : Nat) (p1 : Int32) (p2 : Int32) (p3 : Int32) : Option Int32 :=
  B1 (rdN M o 14 0) fun a1_1 =>
  B1 (gk M a1_1 3) fun _ =>
  B1 (fX0_wayAt M a1_1 p1) fun x5_3 =>
  NL x5_3 (
    some (-1)) (fun a12_4 =>
    B1 (fX11_isWithin M p3 0 2) fun x18_5 =>
    if x18_5 = 0 then
      some (-1)
    else
      B1 (gk M a12_4 13) fun _ =>
      B1 (fX10_hasLeg M a12_4 p2) fun x29_7 =>
      if x29_7 = 0 then
        some (-3)
      else
        if p3 = 0 then
          B1 (rdN M a12_4 13 1) fun a66_8 =>
          B1 (alI M a66_8 p2) fun x70_9 =>
          some x70_9
        else
          if p3 = 1 then
            B1 (rdN M a12_4 13 2) fun a74_10 =>
            B1 (alI M a74_10 p2) fun x78_11 =>
            some x78_11
          else
            B1 (gk M a12_4 13) fun _ =>
            B1 (fX10_minutesOf M a12_4 p2) fun x83_13 =>
            some x83_13)
set_option maxRecDepth 100000 in
set_option maxHeartbeats 4000000 in
theorem qX11_legOf (l : Launch) (E : Ev) {M : Mm} {o : Nat} {p1 : Int32} {p2 : Int32} {p3 : Int32} {rz : Int32} (hf : fX11_legOf M o p1 p2 p3 = some rz) : Ct l E yX11_legOf cX11_legOf 5 (some .int) 3 64 0 0 [.ref (E.b + o), .int p1, .int p2, .int p3] M (some (.int rz)) M := by
  refine ct_of (by decide +kernel) (Nat.le_of_ble_eq_true rfl) fun p e s m args below meth c C hr hin hW ls hl => ?_
  have hl : lv_has ls 5 [(0, .ref (E.b + o)), (1, .int p1), (2, .int p2), (3, .int p3)] := hl
  unfold fX11_legOf at hf
  refine lv_aload_n C.x C.b dX11_legOf_0 rfl (lv_at hl 0 rfl) ?_
  replace hf := x_b1 hf; obtain ⟨a1_1, ha1_1, hf⟩ := hf
  refine x_getn C hW fg_X11_10_14 ha1_1 dX11_legOf_1 ?_
  refine lv_iload_n C.x C.b dX11_legOf_4 rfl (lv_at hl 1 rfl) ?_
  replace hf := x_b1 hf; obtain ⟨_, hk5_2, hf⟩ := hf
  replace hf := x_b1 hf; obtain ⟨x5_3, hx5_3, hf⟩ := hf
  refine x_callV (As := [.int p1]) (a := a1_1) (rest := []) C hW hl (qX0_wayAt l E hx5_3) (x_gk hk5_2) (by decide) (by decide) rfl gv_X11_194 ⟨rfl, hd_X0_wayAt⟩ rfl rfl (Nat.le_of_ble_eq_true rfl) dX11_legOf_5 ⟨Nat.le_of_ble_eq_true rfl, Nat.le_of_ble_eq_true rfl⟩ ⟨Nat.le_of_ble_eq_true rfl, Nat.le_of_ble_eq_true rfl⟩ (fun H locs hW => ?_)
  refine x_astore (lv' := [(4, rv E.b _), (0, .ref (E.b + _)), (1, .int _), (2, .int _), (3, .int _)]) C dX11_legOf_8 hl (by decide) rfl (fun ls hl => ?_)
  refine x_aload C dX11_legOf_10 (lv_at hl 0 rfl) ?_
  replace hf := x_nl hf; rcases hf with ⟨rfl, hf⟩ | ⟨a12_4, rfl, hf⟩
  · refine lv_ifnullN (tgt := 24) C.x C.b dX11_legOf_12 rfl ?_
    refine lv_iconst (v := (-1)) C.x C.b dX11_legOf_24 (by decide) ?_
    rw [x_e0 hf]
    exact x_iret C hr hW dX11_legOf_25
  · refine lv_ifnull C.x C.b dX11_legOf_12 ?_
    refine lv_iload_n C.x C.b dX11_legOf_15 rfl (lv_at hl 4 rfl) ?_
    refine lv_iconst (v := 0) C.x C.b dX11_legOf_16 (by decide) ?_
    refine lv_iconst (v := 2) C.x C.b dX11_legOf_17 (by decide) ?_
    replace hf := x_b1 hf; obtain ⟨x18_5, hx18_5, hf⟩ := hf
    refine x_callS (As := [.int p3, .int 0, .int 2]) (rest := []) C hW hl (qX11_isWithin l E hx18_5) gs_X11_69 hd_X11_isWithin rfl rfl (Nat.le_of_ble_eq_true rfl) dX11_legOf_18 ⟨Nat.le_of_ble_eq_true rfl, Nat.le_of_ble_eq_true rfl⟩ ⟨Nat.le_of_ble_eq_true rfl, Nat.le_of_ble_eq_true rfl⟩ (fun H locs hW => ?_)
    refine lv_if_ne (tgt := 26) C.x C.b dX11_legOf_21 rfl (fun c21 => ?_) (fun c21 => ?_)
    · replace hf := x_in c21 hf
      refine lv_aload C.x C.b dX11_legOf_26 (lv_at hl 0 rfl) ?_
      refine lv_iload_n C.x C.b dX11_legOf_28 rfl (lv_at hl 3 rfl) ?_
      replace hf := x_b1 hf; obtain ⟨_, hk29_6, hf⟩ := hf
      replace hf := x_b1 hf; obtain ⟨x29_7, hx29_7, hf⟩ := hf
      refine x_callV (As := [.int p2]) (a := a12_4) (rest := []) C hW hl (qX10_hasLeg l E hx29_7) (x_gk hk29_6) (by decide) (by decide) rfl gv_X11_205 ⟨rfl, hd_X10_hasLeg⟩ rfl rfl (Nat.le_of_ble_eq_true rfl) dX11_legOf_29 ⟨Nat.le_of_ble_eq_true rfl, Nat.le_of_ble_eq_true rfl⟩ ⟨Nat.le_of_ble_eq_true rfl, Nat.le_of_ble_eq_true rfl⟩ (fun H locs hW => ?_)
      refine lv_if_ne (tgt := 38) C.x C.b dX11_legOf_32 rfl (fun c32 => ?_) (fun c32 => ?_)
      · replace hf := x_in c32 hf
        refine lv_iload_n C.x C.b dX11_legOf_38 rfl (lv_at hl 4 rfl) ?_
        by_cases s39_0 : p3 = 0
        · replace hf := x_ip s39_0 hf
          refine lv_lookup (off := 25) (tgt := 64) C.x C.b dX11_legOf_39 (by decide) (by rw [s39_0]; rfl) rfl ?_
          refine lv_aload C.x C.b dX11_legOf_64 (lv_at hl 0 rfl) ?_
          replace hf := x_b1 hf; obtain ⟨a66_8, ha66_8, hf⟩ := hf
          refine x_getn C hW fg_X11_208_13 ha66_8 dX11_legOf_66 ?_
          refine lv_iload_n C.x C.b dX11_legOf_69 rfl (lv_at hl 3 rfl) ?_
          replace hf := x_b1 hf; obtain ⟨x70_9, hx70_9, hf⟩ := hf
          refine x_iald C hW hx70_9 dX11_legOf_70 ?_
          rw [x_e0 hf]
          exact x_iret C hr hW dX11_legOf_71
        · replace hf := x_in s39_0 hf
          by_cases s39_1 : p3 = 1
          · replace hf := x_ip s39_1 hf
            refine lv_lookup (off := 33) (tgt := 72) C.x C.b dX11_legOf_39 (by decide) (by rw [s39_1]; rfl) rfl ?_
            refine lv_aload C.x C.b dX11_legOf_72 (lv_at hl 0 rfl) ?_
            replace hf := x_b1 hf; obtain ⟨a74_10, ha74_10, hf⟩ := hf
            refine x_getn C hW fg_X11_211_13 ha74_10 dX11_legOf_74 ?_
            refine lv_iload_n C.x C.b dX11_legOf_77 rfl (lv_at hl 3 rfl) ?_
            replace hf := x_b1 hf; obtain ⟨x78_11, hx78_11, hf⟩ := hf
            refine x_iald C hW hx78_11 dX11_legOf_78 ?_
            rw [x_e0 hf]
            exact x_iret C hr hW dX11_legOf_79
          · replace hf := x_in s39_1 hf
            refine lv_lookup (off := 41) (tgt := 80) C.x C.b dX11_legOf_39 (by decide) (by show Op.lookupswitch.offset [(0, 25), (1, 33)] _ _ = _; rw [lv_osw (a := 0) s39_0 rfl, lv_osw (a := 1) s39_1 rfl]; rfl) rfl ?_
            refine lv_aload C.x C.b dX11_legOf_80 (lv_at hl 0 rfl) ?_
            refine lv_iload_n C.x C.b dX11_legOf_82 rfl (lv_at hl 3 rfl) ?_
            replace hf := x_b1 hf; obtain ⟨_, hk83_12, hf⟩ := hf
            replace hf := x_b1 hf; obtain ⟨x83_13, hx83_13, hf⟩ := hf
            refine x_callV (As := [.int p2]) (a := a12_4) (rest := []) C hW hl (qX10_minutesOf l E hx83_13) (x_gk hk83_12) (by decide) (by decide) rfl gv_X11_214 ⟨rfl, hd_X10_minutesOf⟩ rfl rfl (Nat.le_of_ble_eq_true rfl) dX11_legOf_83 ⟨Nat.le_of_ble_eq_true rfl, Nat.le_of_ble_eq_true rfl⟩ ⟨Nat.le_of_ble_eq_true rfl, Nat.le_of_ble_eq_true rfl⟩ (fun H locs hW => ?_)
            rw [x_e0 hf]
            exact x_iret C hr hW dX11_legOf_86
      · replace hf := x_ip c32 hf
        refine lv_bipush (v := (-3)) C.x C.b dX11_legOf_35 (by decide) ?_
        rw [x_e0 hf]
        exact x_iret C hr hW dX11_legOf_37
    · replace hf := x_ip c21 hf
      refine lv_iconst (v := (-1)) C.x C.b dX11_legOf_24 (by decide) ?_
      rw [x_e0 hf]
      exact x_iret C hr hW dX11_legOf_25

theorem dX11_clear_0 : decode cX11_clear 0 = .ok (.aload_n 0, 1) := by decide +kernel
theorem dX11_clear_1 : decode cX11_clear 1 = .ok (.getfield 10, 3) := by decide +kernel
theorem dX11_clear_4 : decode cX11_clear 4 = .ok (.iload_n 1, 1) := by decide +kernel
theorem dX11_clear_5 : decode cX11_clear 5 = .ok (.invokevirtual 194, 3) := by decide +kernel
theorem dX11_clear_8 : decode cX11_clear 8 = .ok (.astore_n 2, 1) := by decide +kernel
theorem dX11_clear_9 : decode cX11_clear 9 = .ok (.aload_n 2, 1) := by decide +kernel
theorem dX11_clear_10 : decode cX11_clear 10 = .ok (.ifnonnull 5, 3) := by decide +kernel
theorem dX11_clear_13 : decode cX11_clear 13 = .ok (.iconst (-1), 1) := by decide +kernel
theorem dX11_clear_14 : decode cX11_clear 14 = .ok (.ireturn, 1) := by decide +kernel
theorem dX11_clear_15 : decode cX11_clear 15 = .ok (.aload_n 2, 1) := by decide +kernel
theorem dX11_clear_16 : decode cX11_clear 16 = .ok (.getfield 204, 3) := by decide +kernel
theorem dX11_clear_19 : decode cX11_clear 19 = .ok (.istore_n 3, 1) := by decide +kernel
theorem dX11_clear_20 : decode cX11_clear 20 = .ok (.aload_n 2, 1) := by decide +kernel
theorem dX11_clear_21 : decode cX11_clear 21 = .ok (.iconst 0, 1) := by decide +kernel
theorem dX11_clear_22 : decode cX11_clear 22 = .ok (.putfield 204, 3) := by decide +kernel
theorem dX11_clear_25 : decode cX11_clear 25 = .ok (.iload_n 3, 1) := by decide +kernel
theorem dX11_clear_26 : decode cX11_clear 26 = .ok (.ireturn, 1) := by decide +kernel
theorem fp_X11_204_13 : FdP "NylonLadder" 204 13 0 false .int false := ⟨_, _, _, _, _, rfl, by decide, by decide, by decide, gxX10, by decide, T_1_55, Or.inl rfl, rfl, tyX10_ok, nmX10, by decide +kernel, rfl, fun h => by cases h⟩
def fX11_clear (M : Mm) (o : Nat) (p1 : Int32) : Option (Int32 × Mm) :=
  B1 (rdN M o 14 0) fun a1_1 =>
  B1 (gk M a1_1 3) fun _ =>
  B1 (fX0_wayAt M a1_1 p1) fun x5_3 =>
  NL x5_3 (
    some ((-1), M)) (fun a10_4 =>
    B1 (rdI M a10_4 13 0) fun x16_5 =>
    B1 (wrI M a10_4 13 0 0) fun M22_6 =>
    some (x16_5, M22_6))
set_option maxRecDepth 100000 in
set_option maxHeartbeats 4000000 in
theorem qX11_clear (l : Launch) (E : Ev) {M : Mm} {o : Nat} {p1 : Int32} {rz : Int32} {Mz : Mm} (hf : fX11_clear M o p1 = some (rz, Mz)) : Ct l E yX11_clear cX11_clear 4 (some .int) 2 43 0 0 [.ref (E.b + o), .int p1] M (some (.int rz)) Mz := by
  refine ct_of (by decide +kernel) (Nat.le_of_ble_eq_true rfl) fun p e s m args below meth c C hr hin hW ls hl => ?_
  have hl : lv_has ls 4 [(0, .ref (E.b + o)), (1, .int p1)] := hl
  unfold fX11_clear at hf
  refine lv_aload_n C.x C.b dX11_clear_0 rfl (lv_at hl 0 rfl) ?_
  replace hf := x_b1 hf; obtain ⟨a1_1, ha1_1, hf⟩ := hf
  refine x_getn C hW fg_X11_10_14 ha1_1 dX11_clear_1 ?_
  refine lv_iload_n C.x C.b dX11_clear_4 rfl (lv_at hl 1 rfl) ?_
  replace hf := x_b1 hf; obtain ⟨_, hk5_2, hf⟩ := hf
  replace hf := x_b1 hf; obtain ⟨x5_3, hx5_3, hf⟩ := hf
  refine x_callV (As := [.int p1]) (a := a1_1) (rest := []) C hW hl (qX0_wayAt l E hx5_3) (x_gk hk5_2) (by decide) (by decide) rfl gv_X11_194 ⟨rfl, hd_X0_wayAt⟩ rfl rfl (Nat.le_of_ble_eq_true rfl) dX11_clear_5 ⟨Nat.le_of_ble_eq_true rfl, Nat.le_of_ble_eq_true rfl⟩ ⟨Nat.le_of_ble_eq_true rfl, Nat.le_of_ble_eq_true rfl⟩ (fun H locs hW => ?_)
  refine x_astore_n (lv' := [(2, rv E.b _), (0, .ref (E.b + _)), (1, .int _)]) C dX11_clear_8 rfl hl (by decide) rfl (fun ls hl => ?_)
  refine x_aload_n C dX11_clear_9 rfl (lv_at hl 0 rfl) ?_
  replace hf := x_nl hf; rcases hf with ⟨rfl, hf⟩ | ⟨a10_4, rfl, hf⟩
  · refine lv_ifnonnullN C.x C.b dX11_clear_10 ?_
    refine lv_iconst (v := (-1)) C.x C.b dX11_clear_13 (by decide) ?_
    rw [x_e1 hf, x_e2 hf]
    exact x_iret C hr hW dX11_clear_14
  · refine lv_ifnonnull (tgt := 15) C.x C.b dX11_clear_10 rfl ?_
    refine lv_aload_n C.x C.b dX11_clear_15 rfl (lv_at hl 0 rfl) ?_
    replace hf := x_b1 hf; obtain ⟨x16_5, hx16_5, hf⟩ := hf
    refine x_geti C hW fg_X11_204_13 hx16_5 dX11_clear_16 ?_
    refine lv_istore_n (lv' := [(3, .int _), (2, .ref (E.b + _)), (0, .ref (E.b + _)), (1, .int _)]) C.x C.b dX11_clear_19 rfl hl (by decide) rfl (fun ls hl => ?_)
    refine lv_aload_n C.x C.b dX11_clear_20 rfl (lv_at hl 1 rfl) ?_
    refine lv_iconst (v := 0) C.x C.b dX11_clear_21 (by decide) ?_
    replace hf := x_b1 hf; obtain ⟨M22_6, hM22_6, hf⟩ := hf
    refine x_puti C hW fp_X11_204_13 hM22_6 (fun h => by cases h) dX11_clear_22 (fun H locs hW => ?_)
    refine lv_iload_n C.x C.b dX11_clear_25 rfl (lv_at hl 0 rfl) ?_
    rw [x_e1 hf, x_e2 hf]
    exact x_iret C hr hW dX11_clear_26

theorem dX11_move_0 : decode cX11_move 0 = .ok (.iload_n 1, 1) := by decide +kernel
theorem dX11_move_1 : decode cX11_move 1 = .ok (.iconst 0, 1) := by decide +kernel
theorem dX11_move_2 : decode cX11_move 2 = .ok (.iconst 3, 1) := by decide +kernel
theorem dX11_move_3 : decode cX11_move 3 = .ok (.invokestatic 69, 3) := by decide +kernel
theorem dX11_move_6 : decode cX11_move 6 = .ok (.ifCond .ne 5, 3) := by decide +kernel
theorem dX11_move_9 : decode cX11_move 9 = .ok (.iconst (-1), 1) := by decide +kernel
theorem dX11_move_10 : decode cX11_move 10 = .ok (.ireturn, 1) := by decide +kernel
theorem dX11_move_11 : decode cX11_move 11 = .ok (.iconst 0, 1) := by decide +kernel
theorem dX11_move_12 : decode cX11_move 12 = .ok (.istore_n 2, 1) := by decide +kernel
theorem dX11_move_13 : decode cX11_move 13 = .ok (.iload_n 2, 1) := by decide +kernel
theorem dX11_move_14 : decode cX11_move 14 = .ok (.iconst 2, 1) := by decide +kernel
theorem dX11_move_15 : decode cX11_move 15 = .ok (.if_icmp .ge 35, 3) := by decide +kernel
theorem dX11_move_18 : decode cX11_move 18 = .ok (.aload_n 0, 1) := by decide +kernel
theorem dX11_move_19 : decode cX11_move 19 = .ok (.getfield 10, 3) := by decide +kernel
theorem dX11_move_22 : decode cX11_move 22 = .ok (.iload_n 2, 1) := by decide +kernel
theorem dX11_move_23 : decode cX11_move 23 = .ok (.invokevirtual 217, 3) := by decide +kernel
theorem dX11_move_26 : decode cX11_move 26 = .ok (.astore_n 3, 1) := by decide +kernel
theorem dX11_move_27 : decode cX11_move 27 = .ok (.aload_n 3, 1) := by decide +kernel
theorem dX11_move_28 : decode cX11_move 28 = .ok (.ifnull 16, 3) := by decide +kernel
theorem dX11_move_31 : decode cX11_move 31 = .ok (.aload_n 3, 1) := by decide +kernel
theorem dX11_move_32 : decode cX11_move 32 = .ok (.iload_n 1, 1) := by decide +kernel
theorem dX11_move_33 : decode cX11_move 33 = .ok (.iconst 1, 1) := by decide +kernel
theorem dX11_move_34 : decode cX11_move 34 = .ok (.aload_n 0, 1) := by decide +kernel
theorem dX11_move_35 : decode cX11_move 35 = .ok (.getfield 10, 3) := by decide +kernel
theorem dX11_move_38 : decode cX11_move 38 = .ok (.getfield 107, 3) := by decide +kernel
theorem dX11_move_41 : decode cX11_move 41 = .ok (.invokevirtual 220, 3) := by decide +kernel
theorem dX11_move_44 : decode cX11_move 44 = .ok (.iinc 2 1, 3) := by decide +kernel
theorem dX11_move_47 : decode cX11_move 47 = .ok (.goto (-34), 3) := by decide +kernel
theorem dX11_move_50 : decode cX11_move 50 = .ok (.aload_n 0, 1) := by decide +kernel
theorem dX11_move_51 : decode cX11_move 51 = .ok (.getfield 10, 3) := by decide +kernel
theorem dX11_move_54 : decode cX11_move 54 = .ok (.invokevirtual 224, 3) := by decide +kernel
theorem dX11_move_57 : decode cX11_move 57 = .ok (.ireturn, 1) := by decide +kernel
theorem hd_X0_openTogether : yX0_openTogether.cls ≠ "java/lang/invoke/MethodHandle" ∧ yX0_openTogether.cls ≠ "java/lang/invoke/VarHandle" ∧ (parseMethodDescriptor yX0_openTogether.desc).map (fun d => d.parameters.length) = some 0 := by decide +kernel
theorem gv_X11_224 : GoodIn gT (wsV "NylonLadder" 224 "NylonLadder$Drawer" yX0_openTogether (Cond.code yX0_openTogether cX0_openTogether 4 (some .int) :: gT)) := good_V T_3_170 T_3_171 T_3_172 T_1_2 T_3_173
theorem gv_X11_217 : GoodIn gT (wsV "NylonLadder" 217 "NylonLadder$Drawer" yX0_wornOn (Cond.code yX0_wornOn cX0_wornOn 2 (some (.object "NylonLadder$Stocking")) :: gT)) := good_V T_3_130 T_3_131 T_3_132 T_1_2 T_3_133
theorem gv_X11_220 : GoodIn gT (wsV "NylonLadder" 220 "NylonLadder$Stocking" yX7_passLeg (Cond.code yX7_passLeg cX7_passLeg 7 none :: gT)) := good_V T_3_136 T_3_137 T_3_138 T_1_4 T_3_139
def fX11_move_L13 (o : Nat) (v1 : Int32) : Nat → Int32 → Mm → Option (Int32 × Mm)
  | 0, _, _ => none
  | n + 1, v2, M =>
    if 2 ≤ v2 then
      B1 (rdN M o 14 0) fun a51_2 =>
      B1 (gk M a51_2 3) fun _ =>
      B1 (fX0_openTogether M a51_2) fun x54_4 =>
      some (x54_4, M)
    else
      B1 (rdN M o 14 0) fun a19_5 =>
      B1 (gk M a19_5 3) fun _ =>
      B1 (fX0_wornOn M a19_5 v2) fun x23_7 =>
      NL x23_7 (
        fX11_move_L13 o v1 n (v2 + 1) M) (fun a28_8 =>
        B1 (rdN M o 14 0) fun a35_9 =>
        B1 (rdN M a35_9 3 0) fun a38_10 =>
        B1 (gk M a28_8 10) fun _ =>
        B1 (fX7_passLeg M a28_8 v1 1 a38_10) fun M41_12 =>
        fX11_move_L13 o v1 n (v2 + 1) M41_12)
def fX11_move (M : Mm) (o : Nat) (p1 : Int32) : Option (Int32 × Mm) :=
  B1 (fX11_isWithin M p1 0 3) fun x3_1 =>
  if x3_1 = 0 then
    some ((-1), M)
  else
    fX11_move_L13 o p1 FL 0 M
set_option maxRecDepth 100000 in
set_option maxHeartbeats 4000000 in
theorem kX11_move_L13 {l : Launch} {E : Ev} {p : Program} {e : Env} {s : State} {m : MethodId} {args : Array Value} {below : List Frame} {meth : Method} {c : Code} (C : Cx E p s m args meth c cX11_move yX11_move.cls 4) (hr : meth.sig.returnType = (some .int)) (hin : yX11_move.name = "<init>" → meth.name = "<init>")  {o : Nat} {v1 : Int32} {rz : Int32} {Mz : Mm} : ∀ (n : Nat) (v2 : Int32) (M : Mm), fX11_move_L13 o v1 n v2 M = some (rz, Mz) → ∀ (H : Heap) (locs : List Loc) (ls : Array Slot), Wx E s H locs M → lv_has ls 4 [(0, .ref (E.b + o)), (1, .int v1), (2, .int v2)] → W p l e (rM 4 88 0 0) s m args below meth c H locs 0 0 (MQ below (Qp E (some (.int rz)) Mz) args s 0 0 E.A) (F0 m 13 ls []) := by
  intro n
  induction n with
  | zero =>
    intro v2 M hf
    unfold fX11_move_L13 at hf
    cases hf
  | succ n ih =>
    intro v2 M hf H locs ls hW hl
    unfold fX11_move_L13 at hf
    refine lv_iload_n C.x C.b dX11_move_13 rfl (lv_at hl 2 rfl) ?_
    refine lv_iconst (v := 2) C.x C.b dX11_move_14 (by decide) ?_
    refine lv_icmp_ge (tgt := 50) C.x C.b dX11_move_15 rfl (fun c15 => ?_) (fun c15 => ?_)
    · replace hf := x_ip c15 hf
      refine lv_aload_n C.x C.b dX11_move_50 rfl (lv_at hl 0 rfl) ?_
      replace hf := x_b1 hf; obtain ⟨a51_2, ha51_2, hf⟩ := hf
      refine x_getn C hW fg_X11_10_14 ha51_2 dX11_move_51 ?_
      replace hf := x_b1 hf; obtain ⟨_, hk54_3, hf⟩ := hf
      replace hf := x_b1 hf; obtain ⟨x54_4, hx54_4, hf⟩ := hf
      refine x_callV (As := []) (a := a51_2) (rest := []) C hW hl (qX0_openTogether l E hx54_4) (x_gk hk54_3) (by decide) (by decide) rfl gv_X11_224 ⟨rfl, hd_X0_openTogether⟩ rfl rfl (Nat.le_of_ble_eq_true rfl) dX11_move_54 ⟨Nat.le_of_ble_eq_true rfl, Nat.le_of_ble_eq_true rfl⟩ ⟨Nat.le_of_ble_eq_true rfl, Nat.le_of_ble_eq_true rfl⟩ (fun H locs hW => ?_)
      rw [x_e1 hf, x_e2 hf]
      exact x_iret C hr hW dX11_move_57
    · replace hf := x_in c15 hf
      refine lv_aload_n C.x C.b dX11_move_18 rfl (lv_at hl 0 rfl) ?_
      replace hf := x_b1 hf; obtain ⟨a19_5, ha19_5, hf⟩ := hf
      refine x_getn C hW fg_X11_10_14 ha19_5 dX11_move_19 ?_
      refine lv_iload_n C.x C.b dX11_move_22 rfl (lv_at hl 2 rfl) ?_
      replace hf := x_b1 hf; obtain ⟨_, hk23_6, hf⟩ := hf
      replace hf := x_b1 hf; obtain ⟨x23_7, hx23_7, hf⟩ := hf
      refine x_callV (As := [.int v2]) (a := a19_5) (rest := []) C hW hl (qX0_wornOn l E hx23_7) (x_gk hk23_6) (by decide) (by decide) rfl gv_X11_217 ⟨rfl, hd_X0_wornOn⟩ rfl rfl (Nat.le_of_ble_eq_true rfl) dX11_move_23 ⟨Nat.le_of_ble_eq_true rfl, Nat.le_of_ble_eq_true rfl⟩ ⟨Nat.le_of_ble_eq_true rfl, Nat.le_of_ble_eq_true rfl⟩ (fun H locs hW => ?_)
      refine x_astore_n (lv' := [(3, rv E.b _), (0, .ref (E.b + _)), (1, .int _), (2, .int _)]) C dX11_move_26 rfl hl (by decide) rfl (fun ls hl => ?_)
      refine x_aload_n C dX11_move_27 rfl (lv_at hl 0 rfl) ?_
      replace hf := x_nl hf; rcases hf with ⟨rfl, hf⟩ | ⟨a28_8, rfl, hf⟩
      · refine lv_ifnullN (tgt := 44) C.x C.b dX11_move_28 rfl ?_
        refine lv_iinc (v := (v2 + 1)) (lv' := [(2, .int (v2 + 1)), (3, .null), (0, .ref (E.b + _)), (1, .int _)]) C.x C.b dX11_move_44 hl (k := 3) rfl (by first | rfl | decide) (by decide) rfl (fun ls hl => ?_)
        refine lv_goto (tgt := 13) C.x C.b dX11_move_47 rfl ?_
        exact ih (v2 + 1) M hf _ _ _ hW (lv_sub hl [2, 3, 0] rfl)
      · refine lv_ifnull C.x C.b dX11_move_28 ?_
        refine lv_aload_n C.x C.b dX11_move_31 rfl (lv_at hl 0 rfl) ?_
        refine lv_iload_n C.x C.b dX11_move_32 rfl (lv_at hl 2 rfl) ?_
        refine lv_iconst (v := 1) C.x C.b dX11_move_33 (by decide) ?_
        refine lv_aload_n C.x C.b dX11_move_34 rfl (lv_at hl 1 rfl) ?_
        replace hf := x_b1 hf; obtain ⟨a35_9, ha35_9, hf⟩ := hf
        refine x_getn C hW fg_X11_10_14 ha35_9 dX11_move_35 ?_
        replace hf := x_b1 hf; obtain ⟨a38_10, ha38_10, hf⟩ := hf
        refine x_getn C hW fg_X11_107_3 ha38_10 dX11_move_38 ?_
        replace hf := x_b1 hf; obtain ⟨_, hk41_11, hf⟩ := hf
        replace hf := x_b1 hf; obtain ⟨M41_12, hM41_12, hf⟩ := hf
        refine x_callV (As := [.int v1, .int 1, .ref (E.b + a38_10)]) (a := a28_8) (rest := []) C hW hl (qX7_passLeg l E hM41_12) (x_gk hk41_11) (by decide) (by decide) rfl gv_X11_220 ⟨rfl, hd_X7_passLeg⟩ rfl rfl (Nat.le_of_ble_eq_true rfl) dX11_move_41 ⟨Nat.le_of_ble_eq_true rfl, Nat.le_of_ble_eq_true rfl⟩ ⟨Nat.le_of_ble_eq_true rfl, Nat.le_of_ble_eq_true rfl⟩ (fun H locs hW => ?_)
        refine lv_iinc (v := (v2 + 1)) (lv' := [(2, .int (v2 + 1)), (3, .ref (E.b + _)), (0, .ref (E.b + _)), (1, .int _)]) C.x C.b dX11_move_44 hl (k := 3) rfl (by first | rfl | decide) (by decide) rfl (fun ls hl => ?_)
        refine lv_goto (tgt := 13) C.x C.b dX11_move_47 rfl ?_
        exact ih (v2 + 1) M41_12 hf _ _ _ hW (lv_sub hl [2, 3, 0] rfl)
set_option maxRecDepth 100000 in
set_option maxHeartbeats 4000000 in
theorem qX11_move (l : Launch) (E : Ev) {M : Mm} {o : Nat} {p1 : Int32} {rz : Int32} {Mz : Mm} (hf : fX11_move M o p1 = some (rz, Mz)) : Ct l E yX11_move cX11_move 4 (some .int) 4 88 0 0 [.ref (E.b + o), .int p1] M (some (.int rz)) Mz := by
  refine ct_of (by decide +kernel) (Nat.le_of_ble_eq_true rfl) fun p e s m args below meth c C hr hin hW ls hl => ?_
  have hl : lv_has ls 4 [(0, .ref (E.b + o)), (1, .int p1)] := hl
  unfold fX11_move at hf
  refine lv_iload_n C.x C.b dX11_move_0 rfl (lv_at hl 1 rfl) ?_
  refine lv_iconst (v := 0) C.x C.b dX11_move_1 (by decide) ?_
  refine lv_iconst (v := 3) C.x C.b dX11_move_2 (by decide) ?_
  replace hf := x_b1 hf; obtain ⟨x3_1, hx3_1, hf⟩ := hf
  refine x_callS (As := [.int p1, .int 0, .int 3]) (rest := []) C hW hl (qX11_isWithin l E hx3_1) gs_X11_69 hd_X11_isWithin rfl rfl (Nat.le_of_ble_eq_true rfl) dX11_move_3 ⟨Nat.le_of_ble_eq_true rfl, Nat.le_of_ble_eq_true rfl⟩ ⟨Nat.le_of_ble_eq_true rfl, Nat.le_of_ble_eq_true rfl⟩ (fun H locs hW => ?_)
  refine lv_if_ne (tgt := 11) C.x C.b dX11_move_6 rfl (fun c6 => ?_) (fun c6 => ?_)
  · replace hf := x_in c6 hf
    refine lv_iconst (v := 0) C.x C.b dX11_move_11 (by decide) ?_
    refine lv_istore_n (lv' := [(2, .int _), (0, .ref (E.b + _)), (1, .int _)]) C.x C.b dX11_move_12 rfl hl (by decide) rfl (fun ls hl => ?_)
    exact kX11_move_L13 C hr hin FL 0 M hf _ _ _ hW (lv_sub hl [1, 2, 0] rfl)
  · replace hf := x_ip c6 hf
    refine lv_iconst (v := (-1)) C.x C.b dX11_move_9 (by decide) ?_
    rw [x_e1 hf, x_e2 hf]
    exact x_iret C hr hW dX11_move_10

theorem dX11_go_0 : decode cX11_go 0 = .ok (.aload_n 0, 1) := by decide +kernel
theorem dX11_go_1 : decode cX11_go 1 = .ok (.getfield 10, 3) := by decide +kernel
theorem dX11_go_4 : decode cX11_go 4 = .ok (.iload_n 1, 1) := by decide +kernel
theorem dX11_go_5 : decode cX11_go 5 = .ok (.invokevirtual 194, 3) := by decide +kernel
theorem dX11_go_8 : decode cX11_go 8 = .ok (.astore_n 2, 1) := by decide +kernel
theorem dX11_go_9 : decode cX11_go 9 = .ok (.aload_n 2, 1) := by decide +kernel
theorem dX11_go_10 : decode cX11_go 10 = .ok (.ifnonnull 5, 3) := by decide +kernel
theorem dX11_go_13 : decode cX11_go 13 = .ok (.iconst (-1), 1) := by decide +kernel
theorem dX11_go_14 : decode cX11_go 14 = .ok (.ireturn, 1) := by decide +kernel
theorem dX11_go_15 : decode cX11_go 15 = .ok (.aload_n 0, 1) := by decide +kernel
theorem dX11_go_16 : decode cX11_go 16 = .ok (.getfield 10, 3) := by decide +kernel
theorem dX11_go_19 : decode cX11_go 19 = .ok (.aload_n 2, 1) := by decide +kernel
theorem dX11_go_20 : decode cX11_go 20 = .ok (.iconst 0, 1) := by decide +kernel
theorem dX11_go_21 : decode cX11_go 21 = .ok (.aload_n 2, 1) := by decide +kernel
theorem dX11_go_22 : decode cX11_go 22 = .ok (.getfield 204, 3) := by decide +kernel
theorem dX11_go_25 : decode cX11_go 25 = .ok (.invokevirtual 227, 3) := by decide +kernel
theorem dX11_go_28 : decode cX11_go 28 = .ok (.aload_n 2, 1) := by decide +kernel
theorem dX11_go_29 : decode cX11_go 29 = .ok (.invokevirtual 231, 3) := by decide +kernel
theorem dX11_go_32 : decode cX11_go 32 = .ok (.ireturn, 1) := by decide +kernel
theorem gv_X11_227 : GoodIn gT (wsV "NylonLadder" 227 "NylonLadder$Drawer" yX0_passWay (Cond.code yX0_passWay cX0_passWay 6 none :: gT)) := good_V T_3_180 T_3_181 T_3_182 T_1_2 T_3_183
theorem hd_X10_minutesOfAll : yX10_minutesOfAll.cls ≠ "java/lang/invoke/MethodHandle" ∧ yX10_minutesOfAll.cls ≠ "java/lang/invoke/VarHandle" ∧ (parseMethodDescriptor yX10_minutesOfAll.desc).map (fun d => d.parameters.length) = some 0 := by decide +kernel
theorem gv_X11_231 : GoodIn gT (wsV "NylonLadder" 231 "NylonLadder$Way" yX10_minutesOfAll (Cond.code yX10_minutesOfAll cX10_minutesOfAll 3 (some .int) :: gT)) := good_V T_3_190 T_3_191 T_3_192 T_1_3 T_3_193
def fX11_go (M : Mm) (o : Nat) (p1 : Int32) : Option (Int32 × Mm) :=
  B1 (rdN M o 14 0) fun a1_1 =>
  B1 (gk M a1_1 3) fun _ =>
  B1 (fX0_wayAt M a1_1 p1) fun x5_3 =>
  NL x5_3 (
    some ((-1), M)) (fun a10_4 =>
    B1 (rdN M o 14 0) fun a16_5 =>
    B1 (rdI M a10_4 13 0) fun x22_6 =>
    B1 (gk M a16_5 3) fun _ =>
    B1 (fX0_passWay M a16_5 a10_4 0 x22_6) fun M25_8 =>
    B1 (gk M25_8 a10_4 13) fun _ =>
    B1 (fX10_minutesOfAll M25_8 a10_4) fun x29_10 =>
    some (x29_10, M25_8))
set_option maxRecDepth 100000 in
set_option maxHeartbeats 4000000 in
theorem qX11_go (l : Launch) (E : Ev) {M : Mm} {o : Nat} {p1 : Int32} {rz : Int32} {Mz : Mm} (hf : fX11_go M o p1 = some (rz, Mz)) : Ct l E yX11_go cX11_go 3 (some .int) 6 138 0 0 [.ref (E.b + o), .int p1] M (some (.int rz)) Mz := by
  refine ct_of (by decide +kernel) (Nat.le_of_ble_eq_true rfl) fun p e s m args below meth c C hr hin hW ls hl => ?_
  have hl : lv_has ls 3 [(0, .ref (E.b + o)), (1, .int p1)] := hl
  unfold fX11_go at hf
  refine lv_aload_n C.x C.b dX11_go_0 rfl (lv_at hl 0 rfl) ?_
  replace hf := x_b1 hf; obtain ⟨a1_1, ha1_1, hf⟩ := hf
  refine x_getn C hW fg_X11_10_14 ha1_1 dX11_go_1 ?_
  refine lv_iload_n C.x C.b dX11_go_4 rfl (lv_at hl 1 rfl) ?_
  replace hf := x_b1 hf; obtain ⟨_, hk5_2, hf⟩ := hf
  replace hf := x_b1 hf; obtain ⟨x5_3, hx5_3, hf⟩ := hf
  refine x_callV (As := [.int p1]) (a := a1_1) (rest := []) C hW hl (qX0_wayAt l E hx5_3) (x_gk hk5_2) (by decide) (by decide) rfl gv_X11_194 ⟨rfl, hd_X0_wayAt⟩ rfl rfl (Nat.le_of_ble_eq_true rfl) dX11_go_5 ⟨Nat.le_of_ble_eq_true rfl, Nat.le_of_ble_eq_true rfl⟩ ⟨Nat.le_of_ble_eq_true rfl, Nat.le_of_ble_eq_true rfl⟩ (fun H locs hW => ?_)
  refine x_astore_n (lv' := [(2, rv E.b _), (0, .ref (E.b + _)), (1, .int _)]) C dX11_go_8 rfl hl (by decide) rfl (fun ls hl => ?_)
  refine x_aload_n C dX11_go_9 rfl (lv_at hl 0 rfl) ?_
  replace hf := x_nl hf; rcases hf with ⟨rfl, hf⟩ | ⟨a10_4, rfl, hf⟩
  · refine lv_ifnonnullN C.x C.b dX11_go_10 ?_
    refine lv_iconst (v := (-1)) C.x C.b dX11_go_13 (by decide) ?_
    rw [x_e1 hf, x_e2 hf]
    exact x_iret C hr hW dX11_go_14
  · refine lv_ifnonnull (tgt := 15) C.x C.b dX11_go_10 rfl ?_
    refine lv_aload_n C.x C.b dX11_go_15 rfl (lv_at hl 1 rfl) ?_
    replace hf := x_b1 hf; obtain ⟨a16_5, ha16_5, hf⟩ := hf
    refine x_getn C hW fg_X11_10_14 ha16_5 dX11_go_16 ?_
    refine lv_aload_n C.x C.b dX11_go_19 rfl (lv_at hl 0 rfl) ?_
    refine lv_iconst (v := 0) C.x C.b dX11_go_20 (by decide) ?_
    refine lv_aload_n C.x C.b dX11_go_21 rfl (lv_at hl 0 rfl) ?_
    replace hf := x_b1 hf; obtain ⟨x22_6, hx22_6, hf⟩ := hf
    refine x_geti C hW fg_X11_204_13 hx22_6 dX11_go_22 ?_
    replace hf := x_b1 hf; obtain ⟨_, hk25_7, hf⟩ := hf
    replace hf := x_b1 hf; obtain ⟨M25_8, hM25_8, hf⟩ := hf
    refine x_callV (As := [.ref (E.b + a10_4), .int 0, .int x22_6]) (a := a16_5) (rest := []) C hW hl (qX0_passWay l E hM25_8) (x_gk hk25_7) (by decide) (by decide) rfl gv_X11_227 ⟨rfl, hd_X0_passWay⟩ rfl rfl (Nat.le_of_ble_eq_true rfl) dX11_go_25 ⟨Nat.le_of_ble_eq_true rfl, Nat.le_of_ble_eq_true rfl⟩ ⟨Nat.le_of_ble_eq_true rfl, Nat.le_of_ble_eq_true rfl⟩ (fun H locs hW => ?_)
    refine lv_aload_n C.x C.b dX11_go_28 rfl (lv_at hl 0 rfl) ?_
    replace hf := x_b1 hf; obtain ⟨_, hk29_9, hf⟩ := hf
    replace hf := x_b1 hf; obtain ⟨x29_10, hx29_10, hf⟩ := hf
    refine x_callV (As := []) (a := a10_4) (rest := []) C hW hl (qX10_minutesOfAll l E hx29_10) (x_gk hk29_9) (by decide) (by decide) rfl gv_X11_231 ⟨rfl, hd_X10_minutesOfAll⟩ rfl rfl (Nat.le_of_ble_eq_true rfl) dX11_go_29 ⟨Nat.le_of_ble_eq_true rfl, Nat.le_of_ble_eq_true rfl⟩ ⟨Nat.le_of_ble_eq_true rfl, Nat.le_of_ble_eq_true rfl⟩ (fun H locs hW => ?_)
    rw [x_e1 hf, x_e2 hf]
    exact x_iret C hr hW dX11_go_32

theorem dX11_minutes_0 : decode cX11_minutes 0 = .ok (.aload_n 0, 1) := by decide +kernel
theorem dX11_minutes_1 : decode cX11_minutes 1 = .ok (.getfield 10, 3) := by decide +kernel
theorem dX11_minutes_4 : decode cX11_minutes 4 = .ok (.iload_n 1, 1) := by decide +kernel
theorem dX11_minutes_5 : decode cX11_minutes 5 = .ok (.invokevirtual 194, 3) := by decide +kernel
theorem dX11_minutes_8 : decode cX11_minutes 8 = .ok (.astore_n 2, 1) := by decide +kernel
theorem dX11_minutes_9 : decode cX11_minutes 9 = .ok (.aload_n 2, 1) := by decide +kernel
theorem dX11_minutes_10 : decode cX11_minutes 10 = .ok (.ifnonnull 7, 3) := by decide +kernel
theorem dX11_minutes_13 : decode cX11_minutes 13 = .ok (.iconst (-1), 1) := by decide +kernel
theorem dX11_minutes_14 : decode cX11_minutes 14 = .ok (.goto 7, 3) := by decide +kernel
theorem dX11_minutes_17 : decode cX11_minutes 17 = .ok (.aload_n 2, 1) := by decide +kernel
theorem dX11_minutes_18 : decode cX11_minutes 18 = .ok (.invokevirtual 231, 3) := by decide +kernel
theorem dX11_minutes_21 : decode cX11_minutes 21 = .ok (.ireturn, 1) := by decide +kernel
def fX11_minutes (M : Mm) (o : Nat) (p1 : Int32) : Option Int32 :=
  B1 (rdN M o 14 0) fun a1_1 =>
  B1 (gk M a1_1 3) fun _ =>
  B1 (fX0_wayAt M a1_1 p1) fun x5_3 =>
  NL x5_3 (
    some (-1)) (fun a10_4 =>
    B1 (gk M a10_4 13) fun _ =>
    B1 (fX10_minutesOfAll M a10_4) fun x18_6 =>
    some x18_6)
set_option maxRecDepth 100000 in
set_option maxHeartbeats 4000000 in
theorem qX11_minutes (l : Launch) (E : Ev) {M : Mm} {o : Nat} {p1 : Int32} {rz : Int32} (hf : fX11_minutes M o p1 = some rz) : Ct l E yX11_minutes cX11_minutes 3 (some .int) 4 86 0 0 [.ref (E.b + o), .int p1] M (some (.int rz)) M := by
  refine ct_of (by decide +kernel) (Nat.le_of_ble_eq_true rfl) fun p e s m args below meth c C hr hin hW ls hl => ?_
  have hl : lv_has ls 3 [(0, .ref (E.b + o)), (1, .int p1)] := hl
  unfold fX11_minutes at hf
  refine lv_aload_n C.x C.b dX11_minutes_0 rfl (lv_at hl 0 rfl) ?_
  replace hf := x_b1 hf; obtain ⟨a1_1, ha1_1, hf⟩ := hf
  refine x_getn C hW fg_X11_10_14 ha1_1 dX11_minutes_1 ?_
  refine lv_iload_n C.x C.b dX11_minutes_4 rfl (lv_at hl 1 rfl) ?_
  replace hf := x_b1 hf; obtain ⟨_, hk5_2, hf⟩ := hf
  replace hf := x_b1 hf; obtain ⟨x5_3, hx5_3, hf⟩ := hf
  refine x_callV (As := [.int p1]) (a := a1_1) (rest := []) C hW hl (qX0_wayAt l E hx5_3) (x_gk hk5_2) (by decide) (by decide) rfl gv_X11_194 ⟨rfl, hd_X0_wayAt⟩ rfl rfl (Nat.le_of_ble_eq_true rfl) dX11_minutes_5 ⟨Nat.le_of_ble_eq_true rfl, Nat.le_of_ble_eq_true rfl⟩ ⟨Nat.le_of_ble_eq_true rfl, Nat.le_of_ble_eq_true rfl⟩ (fun H locs hW => ?_)
  refine x_astore_n (lv' := [(2, rv E.b _), (0, .ref (E.b + _)), (1, .int _)]) C dX11_minutes_8 rfl hl (by decide) rfl (fun ls hl => ?_)
  refine x_aload_n C dX11_minutes_9 rfl (lv_at hl 0 rfl) ?_
  replace hf := x_nl hf; rcases hf with ⟨rfl, hf⟩ | ⟨a10_4, rfl, hf⟩
  · refine lv_ifnonnullN C.x C.b dX11_minutes_10 ?_
    refine lv_iconst (v := (-1)) C.x C.b dX11_minutes_13 (by decide) ?_
    refine lv_goto (tgt := 21) C.x C.b dX11_minutes_14 rfl ?_
    rw [x_e0 hf]
    exact x_iret C hr hW dX11_minutes_21
  · refine lv_ifnonnull (tgt := 17) C.x C.b dX11_minutes_10 rfl ?_
    refine lv_aload_n C.x C.b dX11_minutes_17 rfl (lv_at hl 0 rfl) ?_
    replace hf := x_b1 hf; obtain ⟨_, hk18_5, hf⟩ := hf
    replace hf := x_b1 hf; obtain ⟨x18_6, hx18_6, hf⟩ := hf
    refine x_callV (As := []) (a := a10_4) (rest := []) C hW hl (qX10_minutesOfAll l E hx18_6) (x_gk hk18_5) (by decide) (by decide) rfl gv_X11_231 ⟨rfl, hd_X10_minutesOfAll⟩ rfl rfl (Nat.le_of_ble_eq_true rfl) dX11_minutes_18 ⟨Nat.le_of_ble_eq_true rfl, Nat.le_of_ble_eq_true rfl⟩ ⟨Nat.le_of_ble_eq_true rfl, Nat.le_of_ble_eq_true rfl⟩ (fun H locs hW => ?_)
    rw [x_e0 hf]
    exact x_iret C hr hW dX11_minutes_21

theorem dX11_beginTrial_0 : decode cX11_beginTrial 0 = .ok (.aload_n 0, 1) := by decide +kernel
theorem dX11_beginTrial_1 : decode cX11_beginTrial 1 = .ok (.getfield 23, 3) := by decide +kernel
theorem dX11_beginTrial_4 : decode cX11_beginTrial 4 = .ok (.aload_n 0, 1) := by decide +kernel
theorem dX11_beginTrial_5 : decode cX11_beginTrial 5 = .ok (.getfield 10, 3) := by decide +kernel
theorem dX11_beginTrial_8 : decode cX11_beginTrial 8 = .ok (.invokevirtual 90, 3) := by decide +kernel
theorem dX11_beginTrial_11 : decode cX11_beginTrial 11 = .ok (.aload_n 0, 1) := by decide +kernel
theorem dX11_beginTrial_12 : decode cX11_beginTrial 12 = .ok (.getfield 23, 3) := by decide +kernel
theorem dX11_beginTrial_15 : decode cX11_beginTrial 15 = .ok (.iload_n 1, 1) := by decide +kernel
theorem dX11_beginTrial_16 : decode cX11_beginTrial 16 = .ok (.invokevirtual 217, 3) := by decide +kernel
theorem dX11_beginTrial_19 : decode cX11_beginTrial 19 = .ok (.areturn, 1) := by decide +kernel
theorem fg_X11_23_14 : FdG "NylonLadder" 23 14 3 true := ⟨_, _, _, _, rfl, by decide, by decide, by decide, gxX11, by decide, T_1_233, Or.inl rfl, rfl⟩
def fX11_beginTrial (M : Mm) (o : Nat) (p1 : Int32) : Option (Option Nat × Mm) :=
  B1 (rdN M o 14 3) fun a1_1 =>
  B1 (rdN M o 14 0) fun a5_2 =>
  B1 (gk M a1_1 3) fun _ =>
  B1 (fX0_become M a1_1 a5_2) fun M8_4 =>
  B1 (rdN M8_4 o 14 3) fun a12_5 =>
  B1 (gk M8_4 a12_5 3) fun _ =>
  B1 (fX0_wornOn M8_4 a12_5 p1) fun x16_7 =>
  some (x16_7, M8_4)
set_option maxRecDepth 100000 in
set_option maxHeartbeats 4000000 in
theorem qX11_beginTrial (l : Launch) (E : Ev) {M : Mm} {o : Nat} {p1 : Int32} {rz : Option Nat} {Mz : Mm} (hf : fX11_beginTrial M o p1 = some (rz, Mz)) : Ct l E yX11_beginTrial cX11_beginTrial 2 (some (.object "NylonLadder$Stocking")) 4 87 0 0 [.ref (E.b + o), .int p1] M (some (rv E.b rz)) Mz := by
  refine ct_of (by decide +kernel) (Nat.le_of_ble_eq_true rfl) fun p e s m args below meth c C hr hin hW ls hl => ?_
  have hl : lv_has ls 2 [(0, .ref (E.b + o)), (1, .int p1)] := hl
  unfold fX11_beginTrial at hf
  refine lv_aload_n C.x C.b dX11_beginTrial_0 rfl (lv_at hl 0 rfl) ?_
  replace hf := x_b1 hf; obtain ⟨a1_1, ha1_1, hf⟩ := hf
  refine x_getn C hW fg_X11_23_14 ha1_1 dX11_beginTrial_1 ?_
  refine lv_aload_n C.x C.b dX11_beginTrial_4 rfl (lv_at hl 0 rfl) ?_
  replace hf := x_b1 hf; obtain ⟨a5_2, ha5_2, hf⟩ := hf
  refine x_getn C hW fg_X11_10_14 ha5_2 dX11_beginTrial_5 ?_
  replace hf := x_b1 hf; obtain ⟨_, hk8_3, hf⟩ := hf
  replace hf := x_b1 hf; obtain ⟨M8_4, hM8_4, hf⟩ := hf
  refine x_callV (As := [.ref (E.b + a5_2)]) (a := a1_1) (rest := []) C hW hl (qX0_become l E hM8_4) (x_gk hk8_3) (by decide) (by decide) rfl gv_X11_90 ⟨rfl, hd_X0_become⟩ rfl rfl (Nat.le_of_ble_eq_true rfl) dX11_beginTrial_8 ⟨Nat.le_of_ble_eq_true rfl, Nat.le_of_ble_eq_true rfl⟩ ⟨Nat.le_of_ble_eq_true rfl, Nat.le_of_ble_eq_true rfl⟩ (fun H locs hW => ?_)
  refine lv_aload_n C.x C.b dX11_beginTrial_11 rfl (lv_at hl 0 rfl) ?_
  replace hf := x_b1 hf; obtain ⟨a12_5, ha12_5, hf⟩ := hf
  refine x_getn C hW fg_X11_23_14 ha12_5 dX11_beginTrial_12 ?_
  refine lv_iload_n C.x C.b dX11_beginTrial_15 rfl (lv_at hl 1 rfl) ?_
  replace hf := x_b1 hf; obtain ⟨_, hk16_6, hf⟩ := hf
  replace hf := x_b1 hf; obtain ⟨x16_7, hx16_7, hf⟩ := hf
  refine x_callV (As := [.int p1]) (a := a12_5) (rest := []) C hW hl (qX0_wornOn l E hx16_7) (x_gk hk16_6) (by decide) (by decide) rfl gv_X11_217 ⟨rfl, hd_X0_wornOn⟩ rfl rfl (Nat.le_of_ble_eq_true rfl) dX11_beginTrial_16 ⟨Nat.le_of_ble_eq_true rfl, Nat.le_of_ble_eq_true rfl⟩ ⟨Nat.le_of_ble_eq_true rfl, Nat.le_of_ble_eq_true rfl⟩ (fun H locs hW => ?_)
  rw [x_e1 hf, x_e2 hf]
  exact x_aret C hr (Or.inl ⟨_, rfl⟩) hW dX11_beginTrial_19

theorem dX11_open_0 : decode cX11_open 0 = .ok (.aload_n 0, 1) := by decide +kernel
theorem dX11_open_1 : decode cX11_open 1 = .ok (.getfield 10, 3) := by decide +kernel
theorem dX11_open_4 : decode cX11_open 4 = .ok (.iload_n 2, 1) := by decide +kernel
theorem dX11_open_5 : decode cX11_open 5 = .ok (.invokevirtual 194, 3) := by decide +kernel
theorem dX11_open_8 : decode cX11_open 8 = .ok (.astore 4, 2) := by decide +kernel
theorem dX11_open_10 : decode cX11_open 10 = .ok (.iload_n 1, 1) := by decide +kernel
theorem dX11_open_11 : decode cX11_open 11 = .ok (.invokestatic 188, 3) := by decide +kernel
theorem dX11_open_14 : decode cX11_open 14 = .ok (.ifCond .eq 21, 3) := by decide +kernel
theorem dX11_open_17 : decode cX11_open 17 = .ok (.aload 4, 2) := by decide +kernel
theorem dX11_open_19 : decode cX11_open 19 = .ok (.ifnull 16, 3) := by decide +kernel
theorem dX11_open_22 : decode cX11_open 22 = .ok (.iload_n 3, 1) := by decide +kernel
theorem dX11_open_23 : decode cX11_open 23 = .ok (.iconst 0, 1) := by decide +kernel
theorem dX11_open_24 : decode cX11_open 24 = .ok (.aload 4, 2) := by decide +kernel
theorem dX11_open_26 : decode cX11_open 26 = .ok (.getfield 204, 3) := by decide +kernel
theorem dX11_open_29 : decode cX11_open 29 = .ok (.invokestatic 69, 3) := by decide +kernel
theorem dX11_open_32 : decode cX11_open 32 = .ok (.ifCond .ne 5, 3) := by decide +kernel
theorem dX11_open_35 : decode cX11_open 35 = .ok (.iconst (-1), 1) := by decide +kernel
theorem dX11_open_36 : decode cX11_open 36 = .ok (.ireturn, 1) := by decide +kernel
theorem dX11_open_37 : decode cX11_open 37 = .ok (.aload_n 0, 1) := by decide +kernel
theorem dX11_open_38 : decode cX11_open 38 = .ok (.iload_n 1, 1) := by decide +kernel
theorem dX11_open_39 : decode cX11_open 39 = .ok (.invokevirtual 234, 3) := by decide +kernel
theorem dX11_open_42 : decode cX11_open 42 = .ok (.astore 5, 2) := by decide +kernel
theorem dX11_open_44 : decode cX11_open 44 = .ok (.aload 5, 2) := by decide +kernel
theorem dX11_open_46 : decode cX11_open 46 = .ok (.ifnonnull 6, 3) := by decide +kernel
theorem dX11_open_49 : decode cX11_open 49 = .ok (.bipush (-3), 2) := by decide +kernel
theorem dX11_open_51 : decode cX11_open 51 = .ok (.ireturn, 1) := by decide +kernel
theorem dX11_open_52 : decode cX11_open 52 = .ok (.aload_n 0, 1) := by decide +kernel
theorem dX11_open_53 : decode cX11_open 53 = .ok (.getfield 23, 3) := by decide +kernel
theorem dX11_open_56 : decode cX11_open 56 = .ok (.aload 4, 2) := by decide +kernel
theorem dX11_open_58 : decode cX11_open 58 = .ok (.iconst 0, 1) := by decide +kernel
theorem dX11_open_59 : decode cX11_open 59 = .ok (.iload_n 3, 1) := by decide +kernel
theorem dX11_open_60 : decode cX11_open 60 = .ok (.invokevirtual 227, 3) := by decide +kernel
theorem dX11_open_63 : decode cX11_open 63 = .ok (.aload 5, 2) := by decide +kernel
theorem dX11_open_65 : decode cX11_open 65 = .ok (.invokevirtual 152, 3) := by decide +kernel
theorem dX11_open_68 : decode cX11_open 68 = .ok (.ireturn, 1) := by decide +kernel
theorem hd_X11_beginTrial : yX11_beginTrial.cls ≠ "java/lang/invoke/MethodHandle" ∧ yX11_beginTrial.cls ≠ "java/lang/invoke/VarHandle" ∧ (parseMethodDescriptor yX11_beginTrial.desc).map (fun d => d.parameters.length) = some 1 := by decide +kernel
theorem gv_X11_234 : GoodIn gT (wsV "NylonLadder" 234 "NylonLadder" yX11_beginTrial (Cond.code yX11_beginTrial cX11_beginTrial 2 (some (.object "NylonLadder$Stocking")) :: gT)) := good_V T_3_203 T_3_205 TS_20 T_1_1 T_3_206
def fX11_open (M : Mm) (o : Nat) (p1 : Int32) (p2 : Int32) (p3 : Int32) : Option (Int32 × Mm) :=
  B1 (rdN M o 14 0) fun a1_1 =>
  B1 (gk M a1_1 3) fun _ =>
  B1 (fX0_wayAt M a1_1 p2) fun x5_3 =>
  B1 (fX11_isFoot M p1) fun x11_4 =>
  if x11_4 = 0 then
    some ((-1), M)
  else
    NL x5_3 (
      some ((-1), M)) (fun a19_5 =>
      B1 (rdI M a19_5 13 0) fun x26_6 =>
      B1 (fX11_isWithin M p3 0 x26_6) fun x29_7 =>
      if x29_7 = 0 then
        some ((-1), M)
      else
        B1 (gk M o 14) fun _ =>
        B2 (fX11_beginTrial M o p1) fun x39_9 M39_10 =>
        NL x39_9 (
          some ((-3), M39_10)) (fun a46_11 =>
          B1 (rdN M39_10 o 14 3) fun a53_12 =>
          B1 (gk M39_10 a53_12 3) fun _ =>
          B1 (fX0_passWay M39_10 a53_12 a19_5 0 p3) fun M60_14 =>
          B1 (gk M60_14 a46_11 10) fun _ =>
          B1 (fX7_openRungs M60_14 a46_11) fun x65_16 =>
          some (x65_16, M60_14)))
set_option maxRecDepth 100000 in
set_option maxHeartbeats 4000000 in
theorem qX11_open (l : Launch) (E : Ev) {M : Mm} {o : Nat} {p1 : Int32} {p2 : Int32} {p3 : Int32} {rz : Int32} {Mz : Mm} (hf : fX11_open M o p1 p2 p3 = some (rz, Mz)) : Ct l E yX11_open cX11_open 6 (some .int) 6 138 0 0 [.ref (E.b + o), .int p1, .int p2, .int p3] M (some (.int rz)) Mz := by
  refine ct_of (by decide +kernel) (Nat.le_of_ble_eq_true rfl) fun p e s m args below meth c C hr hin hW ls hl => ?_
  have hl : lv_has ls 6 [(0, .ref (E.b + o)), (1, .int p1), (2, .int p2), (3, .int p3)] := hl
  unfold fX11_open at hf
  refine lv_aload_n C.x C.b dX11_open_0 rfl (lv_at hl 0 rfl) ?_
  replace hf := x_b1 hf; obtain ⟨a1_1, ha1_1, hf⟩ := hf
  refine x_getn C hW fg_X11_10_14 ha1_1 dX11_open_1 ?_
  refine lv_iload_n C.x C.b dX11_open_4 rfl (lv_at hl 2 rfl) ?_
  replace hf := x_b1 hf; obtain ⟨_, hk5_2, hf⟩ := hf
  replace hf := x_b1 hf; obtain ⟨x5_3, hx5_3, hf⟩ := hf
  refine x_callV (As := [.int p2]) (a := a1_1) (rest := []) C hW hl (qX0_wayAt l E hx5_3) (x_gk hk5_2) (by decide) (by decide) rfl gv_X11_194 ⟨rfl, hd_X0_wayAt⟩ rfl rfl (Nat.le_of_ble_eq_true rfl) dX11_open_5 ⟨Nat.le_of_ble_eq_true rfl, Nat.le_of_ble_eq_true rfl⟩ ⟨Nat.le_of_ble_eq_true rfl, Nat.le_of_ble_eq_true rfl⟩ (fun H locs hW => ?_)
  refine x_astore (lv' := [(4, rv E.b _), (0, .ref (E.b + _)), (1, .int _), (2, .int _), (3, .int _)]) C dX11_open_8 hl (by decide) rfl (fun ls hl => ?_)
  refine lv_iload_n C.x C.b dX11_open_10 rfl (lv_at hl 2 rfl) ?_
  replace hf := x_b1 hf; obtain ⟨x11_4, hx11_4, hf⟩ := hf
  refine x_callS (As := [.int p1]) (rest := []) C hW hl (qX11_isFoot l E hx11_4) gs_X11_188 hd_X11_isFoot rfl rfl (Nat.le_of_ble_eq_true rfl) dX11_open_11 ⟨Nat.le_of_ble_eq_true rfl, Nat.le_of_ble_eq_true rfl⟩ ⟨Nat.le_of_ble_eq_true rfl, Nat.le_of_ble_eq_true rfl⟩ (fun H locs hW => ?_)
  refine lv_if_eq (tgt := 35) C.x C.b dX11_open_14 rfl (fun c14 => ?_) (fun c14 => ?_)
  · replace hf := x_ip c14 hf
    refine lv_iconst (v := (-1)) C.x C.b dX11_open_35 (by decide) ?_
    rw [x_e1 hf, x_e2 hf]
    exact x_iret C hr hW dX11_open_36
  · replace hf := x_in c14 hf
    refine x_aload C dX11_open_17 (lv_at hl 0 rfl) ?_
    replace hf := x_nl hf; rcases hf with ⟨rfl, hf⟩ | ⟨a19_5, rfl, hf⟩
    · refine lv_ifnullN (tgt := 35) C.x C.b dX11_open_19 rfl ?_
      refine lv_iconst (v := (-1)) C.x C.b dX11_open_35 (by decide) ?_
      rw [x_e1 hf, x_e2 hf]
      exact x_iret C hr hW dX11_open_36
    · refine lv_ifnull C.x C.b dX11_open_19 ?_
      refine lv_iload_n C.x C.b dX11_open_22 rfl (lv_at hl 4 rfl) ?_
      refine lv_iconst (v := 0) C.x C.b dX11_open_23 (by decide) ?_
      refine lv_aload C.x C.b dX11_open_24 (lv_at hl 0 rfl) ?_
      replace hf := x_b1 hf; obtain ⟨x26_6, hx26_6, hf⟩ := hf
      refine x_geti C hW fg_X11_204_13 hx26_6 dX11_open_26 ?_
      replace hf := x_b1 hf; obtain ⟨x29_7, hx29_7, hf⟩ := hf
      refine x_callS (As := [.int p3, .int 0, .int x26_6]) (rest := []) C hW hl (qX11_isWithin l E hx29_7) gs_X11_69 hd_X11_isWithin rfl rfl (Nat.le_of_ble_eq_true rfl) dX11_open_29 ⟨Nat.le_of_ble_eq_true rfl, Nat.le_of_ble_eq_true rfl⟩ ⟨Nat.le_of_ble_eq_true rfl, Nat.le_of_ble_eq_true rfl⟩ (fun H locs hW => ?_)
      refine lv_if_ne (tgt := 37) C.x C.b dX11_open_32 rfl (fun c32 => ?_) (fun c32 => ?_)
      · replace hf := x_in c32 hf
        refine lv_aload_n C.x C.b dX11_open_37 rfl (lv_at hl 1 rfl) ?_
        refine lv_iload_n C.x C.b dX11_open_38 rfl (lv_at hl 2 rfl) ?_
        replace hf := x_b1 hf; obtain ⟨_, hk39_8, hf⟩ := hf
        replace hf := x_b2 hf; obtain ⟨x39_9, M39_10, hx39_9, hf⟩ := hf
        refine x_callV (As := [.int p1]) (a := o) (rest := []) C hW hl (qX11_beginTrial l E hx39_9) (x_gk hk39_8) (by decide) (by decide) rfl gv_X11_234 ⟨rfl, hd_X11_beginTrial⟩ rfl rfl (Nat.le_of_ble_eq_true rfl) dX11_open_39 ⟨Nat.le_of_ble_eq_true rfl, Nat.le_of_ble_eq_true rfl⟩ ⟨Nat.le_of_ble_eq_true rfl, Nat.le_of_ble_eq_true rfl⟩ (fun H locs hW => ?_)
        refine x_astore (lv' := [(5, rv E.b _), (4, .ref (E.b + _)), (0, .ref (E.b + _)), (1, .int _), (2, .int _), (3, .int _)]) C dX11_open_42 hl (by decide) rfl (fun ls hl => ?_)
        refine x_aload C dX11_open_44 (lv_at hl 0 rfl) ?_
        replace hf := x_nl hf; rcases hf with ⟨rfl, hf⟩ | ⟨a46_11, rfl, hf⟩
        · refine lv_ifnonnullN C.x C.b dX11_open_46 ?_
          refine lv_bipush (v := (-3)) C.x C.b dX11_open_49 (by decide) ?_
          rw [x_e1 hf, x_e2 hf]
          exact x_iret C hr hW dX11_open_51
        · refine lv_ifnonnull (tgt := 52) C.x C.b dX11_open_46 rfl ?_
          refine lv_aload_n C.x C.b dX11_open_52 rfl (lv_at hl 2 rfl) ?_
          replace hf := x_b1 hf; obtain ⟨a53_12, ha53_12, hf⟩ := hf
          refine x_getn C hW fg_X11_23_14 ha53_12 dX11_open_53 ?_
          refine lv_aload C.x C.b dX11_open_56 (lv_at hl 1 rfl) ?_
          refine lv_iconst (v := 0) C.x C.b dX11_open_58 (by decide) ?_
          refine lv_iload_n C.x C.b dX11_open_59 rfl (lv_at hl 5 rfl) ?_
          replace hf := x_b1 hf; obtain ⟨_, hk60_13, hf⟩ := hf
          replace hf := x_b1 hf; obtain ⟨M60_14, hM60_14, hf⟩ := hf
          refine x_callV (As := [.ref (E.b + a19_5), .int 0, .int p3]) (a := a53_12) (rest := []) C hW hl (qX0_passWay l E hM60_14) (x_gk hk60_13) (by decide) (by decide) rfl gv_X11_227 ⟨rfl, hd_X0_passWay⟩ rfl rfl (Nat.le_of_ble_eq_true rfl) dX11_open_60 ⟨Nat.le_of_ble_eq_true rfl, Nat.le_of_ble_eq_true rfl⟩ ⟨Nat.le_of_ble_eq_true rfl, Nat.le_of_ble_eq_true rfl⟩ (fun H locs hW => ?_)
          refine lv_aload C.x C.b dX11_open_63 (lv_at hl 0 rfl) ?_
          replace hf := x_b1 hf; obtain ⟨_, hk65_15, hf⟩ := hf
          replace hf := x_b1 hf; obtain ⟨x65_16, hx65_16, hf⟩ := hf
          refine x_callV (As := []) (a := a46_11) (rest := []) C hW hl (qX7_openRungs l E hx65_16) (x_gk hk65_15) (by decide) (by decide) rfl gv_X11_152 ⟨rfl, hd_X7_openRungs⟩ rfl rfl (Nat.le_of_ble_eq_true rfl) dX11_open_65 ⟨Nat.le_of_ble_eq_true rfl, Nat.le_of_ble_eq_true rfl⟩ ⟨Nat.le_of_ble_eq_true rfl, Nat.le_of_ble_eq_true rfl⟩ (fun H locs hW => ?_)
          rw [x_e1 hf, x_e2 hf]
          exact x_iret C hr hW dX11_open_68
      · replace hf := x_ip c32 hf
        refine lv_iconst (v := (-1)) C.x C.b dX11_open_35 (by decide) ?_
        rw [x_e1 hf, x_e2 hf]
        exact x_iret C hr hW dX11_open_36

theorem dX11_seen_0 : decode cX11_seen 0 = .ok (.aload_n 0, 1) := by decide +kernel
theorem dX11_seen_1 : decode cX11_seen 1 = .ok (.getfield 10, 3) := by decide +kernel
theorem dX11_seen_4 : decode cX11_seen 4 = .ok (.iload_n 2, 1) := by decide +kernel
theorem dX11_seen_5 : decode cX11_seen 5 = .ok (.invokevirtual 194, 3) := by decide +kernel
theorem dX11_seen_8 : decode cX11_seen 8 = .ok (.astore 4, 2) := by decide +kernel
theorem dX11_seen_10 : decode cX11_seen 10 = .ok (.iload_n 1, 1) := by decide +kernel
theorem dX11_seen_11 : decode cX11_seen 11 = .ok (.iconst 0, 1) := by decide +kernel
theorem dX11_seen_12 : decode cX11_seen 12 = .ok (.iconst 3, 1) := by decide +kernel
theorem dX11_seen_13 : decode cX11_seen 13 = .ok (.invokestatic 69, 3) := by decide +kernel
theorem dX11_seen_16 : decode cX11_seen 16 = .ok (.ifCond .eq 21, 3) := by decide +kernel
theorem dX11_seen_19 : decode cX11_seen 19 = .ok (.aload 4, 2) := by decide +kernel
theorem dX11_seen_21 : decode cX11_seen 21 = .ok (.ifnull 16, 3) := by decide +kernel
theorem dX11_seen_24 : decode cX11_seen 24 = .ok (.iload_n 3, 1) := by decide +kernel
theorem dX11_seen_25 : decode cX11_seen 25 = .ok (.iconst 0, 1) := by decide +kernel
theorem dX11_seen_26 : decode cX11_seen 26 = .ok (.aload 4, 2) := by decide +kernel
theorem dX11_seen_28 : decode cX11_seen 28 = .ok (.getfield 204, 3) := by decide +kernel
theorem dX11_seen_31 : decode cX11_seen 31 = .ok (.invokestatic 69, 3) := by decide +kernel
theorem dX11_seen_34 : decode cX11_seen 34 = .ok (.ifCond .ne 5, 3) := by decide +kernel
theorem dX11_seen_37 : decode cX11_seen 37 = .ok (.iconst (-1), 1) := by decide +kernel
theorem dX11_seen_38 : decode cX11_seen 38 = .ok (.ireturn, 1) := by decide +kernel
theorem dX11_seen_39 : decode cX11_seen 39 = .ok (.aload_n 0, 1) := by decide +kernel
theorem dX11_seen_40 : decode cX11_seen 40 = .ok (.getfield 23, 3) := by decide +kernel
theorem dX11_seen_43 : decode cX11_seen 43 = .ok (.aload_n 0, 1) := by decide +kernel
theorem dX11_seen_44 : decode cX11_seen 44 = .ok (.getfield 10, 3) := by decide +kernel
theorem dX11_seen_47 : decode cX11_seen 47 = .ok (.invokevirtual 90, 3) := by decide +kernel
theorem dX11_seen_50 : decode cX11_seen 50 = .ok (.aload_n 0, 1) := by decide +kernel
theorem dX11_seen_51 : decode cX11_seen 51 = .ok (.getfield 23, 3) := by decide +kernel
theorem dX11_seen_54 : decode cX11_seen 54 = .ok (.aload 4, 2) := by decide +kernel
theorem dX11_seen_56 : decode cX11_seen 56 = .ok (.iconst 0, 1) := by decide +kernel
theorem dX11_seen_57 : decode cX11_seen 57 = .ok (.iload_n 3, 1) := by decide +kernel
theorem dX11_seen_58 : decode cX11_seen 58 = .ok (.invokevirtual 227, 3) := by decide +kernel
theorem dX11_seen_61 : decode cX11_seen 61 = .ok (.aload_n 0, 1) := by decide +kernel
theorem dX11_seen_62 : decode cX11_seen 62 = .ok (.getfield 23, 3) := by decide +kernel
theorem dX11_seen_65 : decode cX11_seen 65 = .ok (.iload_n 1, 1) := by decide +kernel
theorem dX11_seen_66 : decode cX11_seen 66 = .ok (.invokevirtual 237, 3) := by decide +kernel
theorem dX11_seen_69 : decode cX11_seen 69 = .ok (.ireturn, 1) := by decide +kernel
theorem gv_X11_237 : GoodIn gT (wsV "NylonLadder" 237 "NylonLadder$Drawer" yX0_seenFrom (Cond.code yX0_seenFrom cX0_seenFrom 5 (some .int) :: gT)) := good_V T_3_211 T_3_212 T_3_213 T_1_2 T_3_214
def fX11_seen (M : Mm) (o : Nat) (p1 : Int32) (p2 : Int32) (p3 : Int32) : Option (Int32 × Mm) :=
  B1 (rdN M o 14 0) fun a1_1 =>
  B1 (gk M a1_1 3) fun _ =>
  B1 (fX0_wayAt M a1_1 p2) fun x5_3 =>
  B1 (fX11_isWithin M p1 0 3) fun x13_4 =>
  if x13_4 = 0 then
    some ((-1), M)
  else
    NL x5_3 (
      some ((-1), M)) (fun a21_5 =>
      B1 (rdI M a21_5 13 0) fun x28_6 =>
      B1 (fX11_isWithin M p3 0 x28_6) fun x31_7 =>
      if x31_7 = 0 then
        some ((-1), M)
      else
        B1 (rdN M o 14 3) fun a40_8 =>
        B1 (rdN M o 14 0) fun a44_9 =>
        B1 (gk M a40_8 3) fun _ =>
        B1 (fX0_become M a40_8 a44_9) fun M47_11 =>
        B1 (rdN M47_11 o 14 3) fun a51_12 =>
        B1 (gk M47_11 a51_12 3) fun _ =>
        B1 (fX0_passWay M47_11 a51_12 a21_5 0 p3) fun M58_14 =>
        B1 (rdN M58_14 o 14 3) fun a62_15 =>
        B1 (gk M58_14 a62_15 3) fun _ =>
        B1 (fX0_seenFrom M58_14 a62_15 p1) fun x66_17 =>
        some (x66_17, M58_14))
set_option maxRecDepth 100000 in
set_option maxHeartbeats 4000000 in
theorem qX11_seen (l : Launch) (E : Ev) {M : Mm} {o : Nat} {p1 : Int32} {p2 : Int32} {p3 : Int32} {rz : Int32} {Mz : Mm} (hf : fX11_seen M o p1 p2 p3 = some (rz, Mz)) : Ct l E yX11_seen cX11_seen 5 (some .int) 6 138 0 0 [.ref (E.b + o), .int p1, .int p2, .int p3] M (some (.int rz)) Mz := by
  refine ct_of (by decide +kernel) (Nat.le_of_ble_eq_true rfl) fun p e s m args below meth c C hr hin hW ls hl => ?_
  have hl : lv_has ls 5 [(0, .ref (E.b + o)), (1, .int p1), (2, .int p2), (3, .int p3)] := hl
  unfold fX11_seen at hf
  refine lv_aload_n C.x C.b dX11_seen_0 rfl (lv_at hl 0 rfl) ?_
  replace hf := x_b1 hf; obtain ⟨a1_1, ha1_1, hf⟩ := hf
  refine x_getn C hW fg_X11_10_14 ha1_1 dX11_seen_1 ?_
  refine lv_iload_n C.x C.b dX11_seen_4 rfl (lv_at hl 2 rfl) ?_
  replace hf := x_b1 hf; obtain ⟨_, hk5_2, hf⟩ := hf
  replace hf := x_b1 hf; obtain ⟨x5_3, hx5_3, hf⟩ := hf
  refine x_callV (As := [.int p2]) (a := a1_1) (rest := []) C hW hl (qX0_wayAt l E hx5_3) (x_gk hk5_2) (by decide) (by decide) rfl gv_X11_194 ⟨rfl, hd_X0_wayAt⟩ rfl rfl (Nat.le_of_ble_eq_true rfl) dX11_seen_5 ⟨Nat.le_of_ble_eq_true rfl, Nat.le_of_ble_eq_true rfl⟩ ⟨Nat.le_of_ble_eq_true rfl, Nat.le_of_ble_eq_true rfl⟩ (fun H locs hW => ?_)
  refine x_astore (lv' := [(4, rv E.b _), (0, .ref (E.b + _)), (1, .int _), (2, .int _), (3, .int _)]) C dX11_seen_8 hl (by decide) rfl (fun ls hl => ?_)
  refine lv_iload_n C.x C.b dX11_seen_10 rfl (lv_at hl 2 rfl) ?_
  refine lv_iconst (v := 0) C.x C.b dX11_seen_11 (by decide) ?_
  refine lv_iconst (v := 3) C.x C.b dX11_seen_12 (by decide) ?_
  replace hf := x_b1 hf; obtain ⟨x13_4, hx13_4, hf⟩ := hf
  refine x_callS (As := [.int p1, .int 0, .int 3]) (rest := []) C hW hl (qX11_isWithin l E hx13_4) gs_X11_69 hd_X11_isWithin rfl rfl (Nat.le_of_ble_eq_true rfl) dX11_seen_13 ⟨Nat.le_of_ble_eq_true rfl, Nat.le_of_ble_eq_true rfl⟩ ⟨Nat.le_of_ble_eq_true rfl, Nat.le_of_ble_eq_true rfl⟩ (fun H locs hW => ?_)
  refine lv_if_eq (tgt := 37) C.x C.b dX11_seen_16 rfl (fun c16 => ?_) (fun c16 => ?_)
  · replace hf := x_ip c16 hf
    refine lv_iconst (v := (-1)) C.x C.b dX11_seen_37 (by decide) ?_
    rw [x_e1 hf, x_e2 hf]
    exact x_iret C hr hW dX11_seen_38
  · replace hf := x_in c16 hf
    refine x_aload C dX11_seen_19 (lv_at hl 0 rfl) ?_
    replace hf := x_nl hf; rcases hf with ⟨rfl, hf⟩ | ⟨a21_5, rfl, hf⟩
    · refine lv_ifnullN (tgt := 37) C.x C.b dX11_seen_21 rfl ?_
      refine lv_iconst (v := (-1)) C.x C.b dX11_seen_37 (by decide) ?_
      rw [x_e1 hf, x_e2 hf]
      exact x_iret C hr hW dX11_seen_38
    · refine lv_ifnull C.x C.b dX11_seen_21 ?_
      refine lv_iload_n C.x C.b dX11_seen_24 rfl (lv_at hl 4 rfl) ?_
      refine lv_iconst (v := 0) C.x C.b dX11_seen_25 (by decide) ?_
      refine lv_aload C.x C.b dX11_seen_26 (lv_at hl 0 rfl) ?_
      replace hf := x_b1 hf; obtain ⟨x28_6, hx28_6, hf⟩ := hf
      refine x_geti C hW fg_X11_204_13 hx28_6 dX11_seen_28 ?_
      replace hf := x_b1 hf; obtain ⟨x31_7, hx31_7, hf⟩ := hf
      refine x_callS (As := [.int p3, .int 0, .int x28_6]) (rest := []) C hW hl (qX11_isWithin l E hx31_7) gs_X11_69 hd_X11_isWithin rfl rfl (Nat.le_of_ble_eq_true rfl) dX11_seen_31 ⟨Nat.le_of_ble_eq_true rfl, Nat.le_of_ble_eq_true rfl⟩ ⟨Nat.le_of_ble_eq_true rfl, Nat.le_of_ble_eq_true rfl⟩ (fun H locs hW => ?_)
      refine lv_if_ne (tgt := 39) C.x C.b dX11_seen_34 rfl (fun c34 => ?_) (fun c34 => ?_)
      · replace hf := x_in c34 hf
        refine lv_aload_n C.x C.b dX11_seen_39 rfl (lv_at hl 1 rfl) ?_
        replace hf := x_b1 hf; obtain ⟨a40_8, ha40_8, hf⟩ := hf
        refine x_getn C hW fg_X11_23_14 ha40_8 dX11_seen_40 ?_
        refine lv_aload_n C.x C.b dX11_seen_43 rfl (lv_at hl 1 rfl) ?_
        replace hf := x_b1 hf; obtain ⟨a44_9, ha44_9, hf⟩ := hf
        refine x_getn C hW fg_X11_10_14 ha44_9 dX11_seen_44 ?_
        replace hf := x_b1 hf; obtain ⟨_, hk47_10, hf⟩ := hf
        replace hf := x_b1 hf; obtain ⟨M47_11, hM47_11, hf⟩ := hf
        refine x_callV (As := [.ref (E.b + a44_9)]) (a := a40_8) (rest := []) C hW hl (qX0_become l E hM47_11) (x_gk hk47_10) (by decide) (by decide) rfl gv_X11_90 ⟨rfl, hd_X0_become⟩ rfl rfl (Nat.le_of_ble_eq_true rfl) dX11_seen_47 ⟨Nat.le_of_ble_eq_true rfl, Nat.le_of_ble_eq_true rfl⟩ ⟨Nat.le_of_ble_eq_true rfl, Nat.le_of_ble_eq_true rfl⟩ (fun H locs hW => ?_)
        refine lv_aload_n C.x C.b dX11_seen_50 rfl (lv_at hl 1 rfl) ?_
        replace hf := x_b1 hf; obtain ⟨a51_12, ha51_12, hf⟩ := hf
        refine x_getn C hW fg_X11_23_14 ha51_12 dX11_seen_51 ?_
        refine lv_aload C.x C.b dX11_seen_54 (lv_at hl 0 rfl) ?_
        refine lv_iconst (v := 0) C.x C.b dX11_seen_56 (by decide) ?_
        refine lv_iload_n C.x C.b dX11_seen_57 rfl (lv_at hl 4 rfl) ?_
        replace hf := x_b1 hf; obtain ⟨_, hk58_13, hf⟩ := hf
        replace hf := x_b1 hf; obtain ⟨M58_14, hM58_14, hf⟩ := hf
        refine x_callV (As := [.ref (E.b + a21_5), .int 0, .int p3]) (a := a51_12) (rest := []) C hW hl (qX0_passWay l E hM58_14) (x_gk hk58_13) (by decide) (by decide) rfl gv_X11_227 ⟨rfl, hd_X0_passWay⟩ rfl rfl (Nat.le_of_ble_eq_true rfl) dX11_seen_58 ⟨Nat.le_of_ble_eq_true rfl, Nat.le_of_ble_eq_true rfl⟩ ⟨Nat.le_of_ble_eq_true rfl, Nat.le_of_ble_eq_true rfl⟩ (fun H locs hW => ?_)
        refine lv_aload_n C.x C.b dX11_seen_61 rfl (lv_at hl 1 rfl) ?_
        replace hf := x_b1 hf; obtain ⟨a62_15, ha62_15, hf⟩ := hf
        refine x_getn C hW fg_X11_23_14 ha62_15 dX11_seen_62 ?_
        refine lv_iload_n C.x C.b dX11_seen_65 rfl (lv_at hl 2 rfl) ?_
        replace hf := x_b1 hf; obtain ⟨_, hk66_16, hf⟩ := hf
        replace hf := x_b1 hf; obtain ⟨x66_17, hx66_17, hf⟩ := hf
        refine x_callV (As := [.int p1]) (a := a62_15) (rest := []) C hW hl (qX0_seenFrom l E hx66_17) (x_gk hk66_16) (by decide) (by decide) rfl gv_X11_237 ⟨rfl, hd_X0_seenFrom⟩ rfl rfl (Nat.le_of_ble_eq_true rfl) dX11_seen_66 ⟨Nat.le_of_ble_eq_true rfl, Nat.le_of_ble_eq_true rfl⟩ ⟨Nat.le_of_ble_eq_true rfl, Nat.le_of_ble_eq_true rfl⟩ (fun H locs hW => ?_)
        rw [x_e1 hf, x_e2 hf]
        exact x_iret C hr hW dX11_seen_69
      · replace hf := x_ip c34 hf
        refine lv_iconst (v := (-1)) C.x C.b dX11_seen_37 (by decide) ?_
        rw [x_e1 hf, x_e2 hf]
        exact x_iret C hr hW dX11_seen_38

theorem dX11_when_0 : decode cX11_when 0 = .ok (.aload_n 0, 1) := by decide +kernel
theorem dX11_when_1 : decode cX11_when 1 = .ok (.getfield 10, 3) := by decide +kernel
theorem dX11_when_4 : decode cX11_when 4 = .ok (.iload_n 2, 1) := by decide +kernel
theorem dX11_when_5 : decode cX11_when 5 = .ok (.invokevirtual 194, 3) := by decide +kernel
theorem dX11_when_8 : decode cX11_when 8 = .ok (.astore 4, 2) := by decide +kernel
theorem dX11_when_10 : decode cX11_when 10 = .ok (.iload_n 1, 1) := by decide +kernel
theorem dX11_when_11 : decode cX11_when 11 = .ok (.invokestatic 188, 3) := by decide +kernel
theorem dX11_when_14 : decode cX11_when 14 = .ok (.ifCond .eq 18, 3) := by decide +kernel
theorem dX11_when_17 : decode cX11_when 17 = .ok (.aload 4, 2) := by decide +kernel
theorem dX11_when_19 : decode cX11_when 19 = .ok (.ifnull 13, 3) := by decide +kernel
theorem dX11_when_22 : decode cX11_when 22 = .ok (.iload_n 3, 1) := by decide +kernel
theorem dX11_when_23 : decode cX11_when 23 = .ok (.iconst 1, 1) := by decide +kernel
theorem dX11_when_24 : decode cX11_when 24 = .ok (.bipush 100, 2) := by decide +kernel
theorem dX11_when_26 : decode cX11_when 26 = .ok (.invokestatic 69, 3) := by decide +kernel
theorem dX11_when_29 : decode cX11_when 29 = .ok (.ifCond .ne 5, 3) := by decide +kernel
theorem dX11_when_32 : decode cX11_when 32 = .ok (.iconst (-1), 1) := by decide +kernel
theorem dX11_when_33 : decode cX11_when 33 = .ok (.ireturn, 1) := by decide +kernel
theorem dX11_when_34 : decode cX11_when 34 = .ok (.aload_n 0, 1) := by decide +kernel
theorem dX11_when_35 : decode cX11_when 35 = .ok (.iload_n 1, 1) := by decide +kernel
theorem dX11_when_36 : decode cX11_when 36 = .ok (.invokevirtual 234, 3) := by decide +kernel
theorem dX11_when_39 : decode cX11_when 39 = .ok (.astore 5, 2) := by decide +kernel
theorem dX11_when_41 : decode cX11_when 41 = .ok (.aload 5, 2) := by decide +kernel
theorem dX11_when_43 : decode cX11_when 43 = .ok (.ifnonnull 6, 3) := by decide +kernel
theorem dX11_when_46 : decode cX11_when 46 = .ok (.bipush (-3), 2) := by decide +kernel
theorem dX11_when_48 : decode cX11_when 48 = .ok (.ireturn, 1) := by decide +kernel
theorem dX11_when_49 : decode cX11_when 49 = .ok (.iconst 0, 1) := by decide +kernel
theorem dX11_when_50 : decode cX11_when 50 = .ok (.istore 6, 2) := by decide +kernel
theorem dX11_when_52 : decode cX11_when 52 = .ok (.iload 6, 2) := by decide +kernel
theorem dX11_when_54 : decode cX11_when 54 = .ok (.aload 4, 2) := by decide +kernel
theorem dX11_when_56 : decode cX11_when 56 = .ok (.getfield 204, 3) := by decide +kernel
theorem dX11_when_59 : decode cX11_when 59 = .ok (.if_icmp .gt 41, 3) := by decide +kernel
theorem dX11_when_62 : decode cX11_when 62 = .ok (.aload 5, 2) := by decide +kernel
theorem dX11_when_64 : decode cX11_when 64 = .ok (.invokevirtual 152, 3) := by decide +kernel
theorem dX11_when_67 : decode cX11_when 67 = .ok (.iload_n 3, 1) := by decide +kernel
theorem dX11_when_68 : decode cX11_when 68 = .ok (.if_icmp .lt 6, 3) := by decide +kernel
theorem dX11_when_71 : decode cX11_when 71 = .ok (.iload 6, 2) := by decide +kernel
theorem dX11_when_73 : decode cX11_when 73 = .ok (.ireturn, 1) := by decide +kernel
theorem dX11_when_74 : decode cX11_when 74 = .ok (.aload 5, 2) := by decide +kernel
theorem dX11_when_76 : decode cX11_when 76 = .ok (.aload 4, 2) := by decide +kernel
theorem dX11_when_78 : decode cX11_when 78 = .ok (.iload 6, 2) := by decide +kernel
theorem dX11_when_80 : decode cX11_when 80 = .ok (.iload 6, 2) := by decide +kernel
theorem dX11_when_82 : decode cX11_when 82 = .ok (.iconst 1, 1) := by decide +kernel
theorem dX11_when_83 : decode cX11_when 83 = .ok (.iadd, 1) := by decide +kernel
theorem dX11_when_84 : decode cX11_when 84 = .ok (.aload_n 0, 1) := by decide +kernel
theorem dX11_when_85 : decode cX11_when 85 = .ok (.getfield 10, 3) := by decide +kernel
theorem dX11_when_88 : decode cX11_when 88 = .ok (.getfield 107, 3) := by decide +kernel
theorem dX11_when_91 : decode cX11_when 91 = .ok (.invokevirtual 240, 3) := by decide +kernel
theorem dX11_when_94 : decode cX11_when 94 = .ok (.iinc 6 1, 3) := by decide +kernel
theorem dX11_when_97 : decode cX11_when 97 = .ok (.goto (-45), 3) := by decide +kernel
theorem dX11_when_100 : decode cX11_when 100 = .ok (.bipush (-3), 2) := by decide +kernel
theorem dX11_when_102 : decode cX11_when 102 = .ok (.ireturn, 1) := by decide +kernel
theorem gv_X11_240 : GoodIn gT (wsV "NylonLadder" 240 "NylonLadder$Stocking" yX7_passWay (Cond.code yX7_passWay cX7_passWay 6 none :: gT)) := good_V T_3_227 T_3_185 T_3_186 T_1_4 T_3_187
def fX11_when_L52 (o : Nat) (v3 : Int32) (v4 : Nat) (v5 : Nat) : Nat → Int32 → Mm → Option (Int32 × Mm)
  | 0, _, _ => none
  | n + 1, v6, M =>
    B1 (rdI M v4 13 0) fun x56_11 =>
    if x56_11 < v6 then
      some ((-3), M)
    else
      B1 (gk M v5 10) fun _ =>
      B1 (fX7_openRungs M v5) fun x64_13 =>
      if x64_13 < v3 then
        B1 (rdN M o 14 0) fun a85_14 =>
        B1 (rdN M a85_14 3 0) fun a88_15 =>
        B1 (gk M v5 10) fun _ =>
        B1 (fX7_passWay M v5 v4 v6 (v6 + 1) a88_15) fun M91_17 =>
        fX11_when_L52 o v3 v4 v5 n (v6 + 1) M91_17
      else
        some (v6, M)
def fX11_when (M : Mm) (o : Nat) (p1 : Int32) (p2 : Int32) (p3 : Int32) : Option (Int32 × Mm) :=
  B1 (rdN M o 14 0) fun a1_1 =>
  B1 (gk M a1_1 3) fun _ =>
  B1 (fX0_wayAt M a1_1 p2) fun x5_3 =>
  B1 (fX11_isFoot M p1) fun x11_4 =>
  if x11_4 = 0 then
    some ((-1), M)
  else
    NL x5_3 (
      some ((-1), M)) (fun a19_5 =>
      B1 (fX11_isWithin M p3 1 100) fun x26_6 =>
      if x26_6 = 0 then
        some ((-1), M)
      else
        B1 (gk M o 14) fun _ =>
        B2 (fX11_beginTrial M o p1) fun x36_8 M36_9 =>
        NL x36_8 (
          some ((-3), M36_9)) (fun a43_10 =>
          fX11_when_L52 o p3 a19_5 a43_10 FL 0 M36_9))
set_option maxRecDepth 100000 in
set_option maxHeartbeats 4000000 in
theorem kX11_when_L52 {l : Launch} {E : Ev} {p : Program} {e : Env} {s : State} {m : MethodId} {args : Array Value} {below : List Frame} {meth : Method} {c : Code} (C : Cx E p s m args meth c cX11_when yX11_when.cls 7) (hr : meth.sig.returnType = (some .int)) (hin : yX11_when.name = "<init>" → meth.name = "<init>")  {o : Nat} {v3 : Int32} {v4 : Nat} {v5 : Nat} {rz : Int32} {Mz : Mm} : ∀ (n : Nat) (v6 : Int32) (M : Mm), fX11_when_L52 o v3 v4 v5 n v6 M = some (rz, Mz) → ∀ (H : Heap) (locs : List Loc) (ls : Array Slot), Wx E s H locs M → lv_has ls 7 [(0, .ref (E.b + o)), (3, .int v3), (4, .ref (E.b + v4)), (5, .ref (E.b + v5)), (6, .int v6)] → W p l e (rM 5 113 0 0) s m args below meth c H locs 0 0 (MQ below (Qp E (some (.int rz)) Mz) args s 0 0 E.A) (F0 m 52 ls []) := by
  intro n
  induction n with
  | zero =>
    intro v6 M hf
    unfold fX11_when_L52 at hf
    cases hf
  | succ n ih =>
    intro v6 M hf H locs ls hW hl
    unfold fX11_when_L52 at hf
    refine lv_iload C.x C.b dX11_when_52 (lv_at hl 4 rfl) ?_
    refine lv_aload C.x C.b dX11_when_54 (lv_at hl 2 rfl) ?_
    replace hf := x_b1 hf; obtain ⟨x56_11, hx56_11, hf⟩ := hf
    refine x_geti C hW fg_X11_204_13 hx56_11 dX11_when_56 ?_
    refine lv_icmp_gt (tgt := 100) C.x C.b dX11_when_59 rfl (fun c59 => ?_) (fun c59 => ?_)
    · replace hf := x_ip c59 hf
      refine lv_bipush (v := (-3)) C.x C.b dX11_when_100 (by decide) ?_
      rw [x_e1 hf, x_e2 hf]
      exact x_iret C hr hW dX11_when_102
    · replace hf := x_in c59 hf
      refine lv_aload C.x C.b dX11_when_62 (lv_at hl 3 rfl) ?_
      replace hf := x_b1 hf; obtain ⟨_, hk64_12, hf⟩ := hf
      replace hf := x_b1 hf; obtain ⟨x64_13, hx64_13, hf⟩ := hf
      refine x_callV (As := []) (a := v5) (rest := []) C hW hl (qX7_openRungs l E hx64_13) (x_gk hk64_12) (by decide) (by decide) rfl gv_X11_152 ⟨rfl, hd_X7_openRungs⟩ rfl rfl (Nat.le_of_ble_eq_true rfl) dX11_when_64 ⟨Nat.le_of_ble_eq_true rfl, Nat.le_of_ble_eq_true rfl⟩ ⟨Nat.le_of_ble_eq_true rfl, Nat.le_of_ble_eq_true rfl⟩ (fun H locs hW => ?_)
      refine lv_iload_n C.x C.b dX11_when_67 rfl (lv_at hl 1 rfl) ?_
      refine lv_icmp_lt (tgt := 74) C.x C.b dX11_when_68 rfl (fun c68 => ?_) (fun c68 => ?_)
      · replace hf := x_ip c68 hf
        refine lv_aload C.x C.b dX11_when_74 (lv_at hl 3 rfl) ?_
        refine lv_aload C.x C.b dX11_when_76 (lv_at hl 2 rfl) ?_
        refine lv_iload C.x C.b dX11_when_78 (lv_at hl 4 rfl) ?_
        refine lv_iload C.x C.b dX11_when_80 (lv_at hl 4 rfl) ?_
        refine lv_iconst (v := 1) C.x C.b dX11_when_82 (by decide) ?_
        refine lv_iadd C.x C.b dX11_when_83 ?_
        refine lv_aload_n C.x C.b dX11_when_84 rfl (lv_at hl 0 rfl) ?_
        replace hf := x_b1 hf; obtain ⟨a85_14, ha85_14, hf⟩ := hf
        refine x_getn C hW fg_X11_10_14 ha85_14 dX11_when_85 ?_
        replace hf := x_b1 hf; obtain ⟨a88_15, ha88_15, hf⟩ := hf
        refine x_getn C hW fg_X11_107_3 ha88_15 dX11_when_88 ?_
        replace hf := x_b1 hf; obtain ⟨_, hk91_16, hf⟩ := hf
        replace hf := x_b1 hf; obtain ⟨M91_17, hM91_17, hf⟩ := hf
        refine x_callV (As := [.ref (E.b + v4), .int v6, .int (v6 + 1), .ref (E.b + a88_15)]) (a := v5) (rest := []) C hW hl (qX7_passWay l E hM91_17) (x_gk hk91_16) (by decide) (by decide) rfl gv_X11_240 ⟨rfl, hd_X7_passWay⟩ rfl rfl (Nat.le_of_ble_eq_true rfl) dX11_when_91 ⟨Nat.le_of_ble_eq_true rfl, Nat.le_of_ble_eq_true rfl⟩ ⟨Nat.le_of_ble_eq_true rfl, Nat.le_of_ble_eq_true rfl⟩ (fun H locs hW => ?_)
        refine lv_iinc (v := (v6 + 1)) (lv' := [(6, .int (v6 + 1)), (0, .ref (E.b + _)), (3, .int _), (4, .ref (E.b + _)), (5, .ref (E.b + _))]) C.x C.b dX11_when_94 hl (k := 4) rfl (by first | rfl | decide) (by decide) rfl (fun ls hl => ?_)
        refine lv_goto (tgt := 52) C.x C.b dX11_when_97 rfl ?_
        exact ih (v6 + 1) M91_17 hf _ _ _ hW (lv_sub hl [1, 2, 3, 4, 0] rfl)
      · replace hf := x_in c68 hf
        refine lv_iload C.x C.b dX11_when_71 (lv_at hl 4 rfl) ?_
        rw [x_e1 hf, x_e2 hf]
        exact x_iret C hr hW dX11_when_73
set_option maxRecDepth 100000 in
set_option maxHeartbeats 4000000 in
theorem qX11_when (l : Launch) (E : Ev) {M : Mm} {o : Nat} {p1 : Int32} {p2 : Int32} {p3 : Int32} {rz : Int32} {Mz : Mm} (hf : fX11_when M o p1 p2 p3 = some (rz, Mz)) : Ct l E yX11_when cX11_when 7 (some .int) 5 113 0 0 [.ref (E.b + o), .int p1, .int p2, .int p3] M (some (.int rz)) Mz := by
  refine ct_of (by decide +kernel) (Nat.le_of_ble_eq_true rfl) fun p e s m args below meth c C hr hin hW ls hl => ?_
  have hl : lv_has ls 7 [(0, .ref (E.b + o)), (1, .int p1), (2, .int p2), (3, .int p3)] := hl
  unfold fX11_when at hf
  refine lv_aload_n C.x C.b dX11_when_0 rfl (lv_at hl 0 rfl) ?_
  replace hf := x_b1 hf; obtain ⟨a1_1, ha1_1, hf⟩ := hf
  refine x_getn C hW fg_X11_10_14 ha1_1 dX11_when_1 ?_
  refine lv_iload_n C.x C.b dX11_when_4 rfl (lv_at hl 2 rfl) ?_
  replace hf := x_b1 hf; obtain ⟨_, hk5_2, hf⟩ := hf
  replace hf := x_b1 hf; obtain ⟨x5_3, hx5_3, hf⟩ := hf
  refine x_callV (As := [.int p2]) (a := a1_1) (rest := []) C hW hl (qX0_wayAt l E hx5_3) (x_gk hk5_2) (by decide) (by decide) rfl gv_X11_194 ⟨rfl, hd_X0_wayAt⟩ rfl rfl (Nat.le_of_ble_eq_true rfl) dX11_when_5 ⟨Nat.le_of_ble_eq_true rfl, Nat.le_of_ble_eq_true rfl⟩ ⟨Nat.le_of_ble_eq_true rfl, Nat.le_of_ble_eq_true rfl⟩ (fun H locs hW => ?_)
  refine x_astore (lv' := [(4, rv E.b _), (0, .ref (E.b + _)), (1, .int _), (2, .int _), (3, .int _)]) C dX11_when_8 hl (by decide) rfl (fun ls hl => ?_)
  refine lv_iload_n C.x C.b dX11_when_10 rfl (lv_at hl 2 rfl) ?_
  replace hf := x_b1 hf; obtain ⟨x11_4, hx11_4, hf⟩ := hf
  refine x_callS (As := [.int p1]) (rest := []) C hW hl (qX11_isFoot l E hx11_4) gs_X11_188 hd_X11_isFoot rfl rfl (Nat.le_of_ble_eq_true rfl) dX11_when_11 ⟨Nat.le_of_ble_eq_true rfl, Nat.le_of_ble_eq_true rfl⟩ ⟨Nat.le_of_ble_eq_true rfl, Nat.le_of_ble_eq_true rfl⟩ (fun H locs hW => ?_)
  refine lv_if_eq (tgt := 32) C.x C.b dX11_when_14 rfl (fun c14 => ?_) (fun c14 => ?_)
  · replace hf := x_ip c14 hf
    refine lv_iconst (v := (-1)) C.x C.b dX11_when_32 (by decide) ?_
    rw [x_e1 hf, x_e2 hf]
    exact x_iret C hr hW dX11_when_33
  · replace hf := x_in c14 hf
    refine x_aload C dX11_when_17 (lv_at hl 0 rfl) ?_
    replace hf := x_nl hf; rcases hf with ⟨rfl, hf⟩ | ⟨a19_5, rfl, hf⟩
    · refine lv_ifnullN (tgt := 32) C.x C.b dX11_when_19 rfl ?_
      refine lv_iconst (v := (-1)) C.x C.b dX11_when_32 (by decide) ?_
      rw [x_e1 hf, x_e2 hf]
      exact x_iret C hr hW dX11_when_33
    · refine lv_ifnull C.x C.b dX11_when_19 ?_
      refine lv_iload_n C.x C.b dX11_when_22 rfl (lv_at hl 4 rfl) ?_
      refine lv_iconst (v := 1) C.x C.b dX11_when_23 (by decide) ?_
      refine lv_bipush (v := 100) C.x C.b dX11_when_24 (by decide) ?_
      replace hf := x_b1 hf; obtain ⟨x26_6, hx26_6, hf⟩ := hf
      refine x_callS (As := [.int p3, .int 1, .int 100]) (rest := []) C hW hl (qX11_isWithin l E hx26_6) gs_X11_69 hd_X11_isWithin rfl rfl (Nat.le_of_ble_eq_true rfl) dX11_when_26 ⟨Nat.le_of_ble_eq_true rfl, Nat.le_of_ble_eq_true rfl⟩ ⟨Nat.le_of_ble_eq_true rfl, Nat.le_of_ble_eq_true rfl⟩ (fun H locs hW => ?_)
      refine lv_if_ne (tgt := 34) C.x C.b dX11_when_29 rfl (fun c29 => ?_) (fun c29 => ?_)
      · replace hf := x_in c29 hf
        refine lv_aload_n C.x C.b dX11_when_34 rfl (lv_at hl 1 rfl) ?_
        refine lv_iload_n C.x C.b dX11_when_35 rfl (lv_at hl 2 rfl) ?_
        replace hf := x_b1 hf; obtain ⟨_, hk36_7, hf⟩ := hf
        replace hf := x_b2 hf; obtain ⟨x36_8, M36_9, hx36_8, hf⟩ := hf
        refine x_callV (As := [.int p1]) (a := o) (rest := []) C hW hl (qX11_beginTrial l E hx36_8) (x_gk hk36_7) (by decide) (by decide) rfl gv_X11_234 ⟨rfl, hd_X11_beginTrial⟩ rfl rfl (Nat.le_of_ble_eq_true rfl) dX11_when_36 ⟨Nat.le_of_ble_eq_true rfl, Nat.le_of_ble_eq_true rfl⟩ ⟨Nat.le_of_ble_eq_true rfl, Nat.le_of_ble_eq_true rfl⟩ (fun H locs hW => ?_)
        refine x_astore (lv' := [(5, rv E.b _), (4, .ref (E.b + _)), (0, .ref (E.b + _)), (1, .int _), (2, .int _), (3, .int _)]) C dX11_when_39 hl (by decide) rfl (fun ls hl => ?_)
        refine x_aload C dX11_when_41 (lv_at hl 0 rfl) ?_
        replace hf := x_nl hf; rcases hf with ⟨rfl, hf⟩ | ⟨a43_10, rfl, hf⟩
        · refine lv_ifnonnullN C.x C.b dX11_when_43 ?_
          refine lv_bipush (v := (-3)) C.x C.b dX11_when_46 (by decide) ?_
          rw [x_e1 hf, x_e2 hf]
          exact x_iret C hr hW dX11_when_48
        · refine lv_ifnonnull (tgt := 49) C.x C.b dX11_when_43 rfl ?_
          refine lv_iconst (v := 0) C.x C.b dX11_when_49 (by decide) ?_
          refine lv_istore (lv' := [(6, .int _), (5, .ref (E.b + _)), (4, .ref (E.b + _)), (0, .ref (E.b + _)), (1, .int _), (2, .int _), (3, .int _)]) C.x C.b dX11_when_50 hl (by decide) rfl (fun ls hl => ?_)
          exact kX11_when_L52 C hr hin FL 0 M36_9 hf _ _ _ hW (lv_sub hl [3, 6, 2, 1, 0] rfl)
      · replace hf := x_ip c29 hf
        refine lv_iconst (v := (-1)) C.x C.b dX11_when_32 (by decide) ?_
        rw [x_e1 hf, x_e2 hf]
        exact x_iret C hr hW dX11_when_33

theorem dX11_hasLadderOn_0 : decode cX11_hasLadderOn 0 = .ok (.aload_n 0, 1) := by decide +kernel
theorem dX11_hasLadderOn_1 : decode cX11_hasLadderOn 1 = .ok (.getfield 10, 3) := by decide +kernel
theorem dX11_hasLadderOn_4 : decode cX11_hasLadderOn 4 = .ok (.iload_n 1, 1) := by decide +kernel
theorem dX11_hasLadderOn_5 : decode cX11_hasLadderOn 5 = .ok (.invokevirtual 217, 3) := by decide +kernel
theorem dX11_hasLadderOn_8 : decode cX11_hasLadderOn 8 = .ok (.astore_n 2, 1) := by decide +kernel
theorem dX11_hasLadderOn_9 : decode cX11_hasLadderOn 9 = .ok (.aload_n 2, 1) := by decide +kernel
theorem dX11_hasLadderOn_10 : decode cX11_hasLadderOn 10 = .ok (.ifnull 14, 3) := by decide +kernel
theorem dX11_hasLadderOn_13 : decode cX11_hasLadderOn 13 = .ok (.aload_n 2, 1) := by decide +kernel
theorem dX11_hasLadderOn_14 : decode cX11_hasLadderOn 14 = .ok (.invokevirtual 177, 3) := by decide +kernel
theorem dX11_hasLadderOn_17 : decode cX11_hasLadderOn 17 = .ok (.ifCond .eq 7, 3) := by decide +kernel
theorem dX11_hasLadderOn_20 : decode cX11_hasLadderOn 20 = .ok (.iconst 1, 1) := by decide +kernel
theorem dX11_hasLadderOn_21 : decode cX11_hasLadderOn 21 = .ok (.goto 4, 3) := by decide +kernel
theorem dX11_hasLadderOn_24 : decode cX11_hasLadderOn 24 = .ok (.iconst 0, 1) := by decide +kernel
theorem dX11_hasLadderOn_25 : decode cX11_hasLadderOn 25 = .ok (.ireturn, 1) := by decide +kernel
def fX11_hasLadderOn (M : Mm) (o : Nat) (p1 : Int32) : Option Int32 :=
  B1 (rdN M o 14 0) fun a1_1 =>
  B1 (gk M a1_1 3) fun _ =>
  B1 (fX0_wornOn M a1_1 p1) fun x5_3 =>
  NL x5_3 (
    some 0) (fun a10_4 =>
    B1 (gk M a10_4 10) fun _ =>
    B1 (fX7_hasLadder M a10_4) fun x14_6 =>
    if x14_6 = 0 then
      some 0
    else
      some 1)
set_option maxRecDepth 100000 in
set_option maxHeartbeats 4000000 in
theorem qX11_hasLadderOn (l : Launch) (E : Ev) {M : Mm} {o : Nat} {p1 : Int32} {rz : Int32} (hf : fX11_hasLadderOn M o p1 = some rz) : Ct l E yX11_hasLadderOn cX11_hasLadderOn 3 (some .boolean) 3 64 0 0 [.ref (E.b + o), .int p1] M (some (.int rz)) M := by
  refine ct_of (by decide +kernel) (Nat.le_of_ble_eq_true rfl) fun p e s m args below meth c C hr hin hW ls hl => ?_
  have hl : lv_has ls 3 [(0, .ref (E.b + o)), (1, .int p1)] := hl
  unfold fX11_hasLadderOn at hf
  refine lv_aload_n C.x C.b dX11_hasLadderOn_0 rfl (lv_at hl 0 rfl) ?_
  replace hf := x_b1 hf; obtain ⟨a1_1, ha1_1, hf⟩ := hf
  refine x_getn C hW fg_X11_10_14 ha1_1 dX11_hasLadderOn_1 ?_
  refine lv_iload_n C.x C.b dX11_hasLadderOn_4 rfl (lv_at hl 1 rfl) ?_
  replace hf := x_b1 hf; obtain ⟨_, hk5_2, hf⟩ := hf
  replace hf := x_b1 hf; obtain ⟨x5_3, hx5_3, hf⟩ := hf
  refine x_callV (As := [.int p1]) (a := a1_1) (rest := []) C hW hl (qX0_wornOn l E hx5_3) (x_gk hk5_2) (by decide) (by decide) rfl gv_X11_217 ⟨rfl, hd_X0_wornOn⟩ rfl rfl (Nat.le_of_ble_eq_true rfl) dX11_hasLadderOn_5 ⟨Nat.le_of_ble_eq_true rfl, Nat.le_of_ble_eq_true rfl⟩ ⟨Nat.le_of_ble_eq_true rfl, Nat.le_of_ble_eq_true rfl⟩ (fun H locs hW => ?_)
  refine x_astore_n (lv' := [(2, rv E.b _), (0, .ref (E.b + _)), (1, .int _)]) C dX11_hasLadderOn_8 rfl hl (by decide) rfl (fun ls hl => ?_)
  refine x_aload_n C dX11_hasLadderOn_9 rfl (lv_at hl 0 rfl) ?_
  replace hf := x_nl hf; rcases hf with ⟨rfl, hf⟩ | ⟨a10_4, rfl, hf⟩
  · refine lv_ifnullN (tgt := 24) C.x C.b dX11_hasLadderOn_10 rfl ?_
    refine lv_iconst (v := 0) C.x C.b dX11_hasLadderOn_24 (by decide) ?_
    rw [x_e0 hf]
    exact x_zret C hr hW (v := 0) (w := 0) rfl dX11_hasLadderOn_25
  · refine lv_ifnull C.x C.b dX11_hasLadderOn_10 ?_
    refine lv_aload_n C.x C.b dX11_hasLadderOn_13 rfl (lv_at hl 0 rfl) ?_
    replace hf := x_b1 hf; obtain ⟨_, hk14_5, hf⟩ := hf
    replace hf := x_b1 hf; obtain ⟨x14_6, hx14_6, hf⟩ := hf
    refine x_callV (As := []) (a := a10_4) (rest := []) C hW hl (qX7_hasLadder l E hx14_6) (x_gk hk14_5) (by decide) (by decide) rfl gv_X11_177 ⟨rfl, hd_X7_hasLadder⟩ rfl rfl (Nat.le_of_ble_eq_true rfl) dX11_hasLadderOn_14 ⟨Nat.le_of_ble_eq_true rfl, Nat.le_of_ble_eq_true rfl⟩ ⟨Nat.le_of_ble_eq_true rfl, Nat.le_of_ble_eq_true rfl⟩ (fun H locs hW => ?_)
    refine lv_if_eq (tgt := 24) C.x C.b dX11_hasLadderOn_17 rfl (fun c17 => ?_) (fun c17 => ?_)
    · replace hf := x_ip c17 hf
      refine lv_iconst (v := 0) C.x C.b dX11_hasLadderOn_24 (by decide) ?_
      rw [x_e0 hf]
      exact x_zret C hr hW (v := 0) (w := 0) rfl dX11_hasLadderOn_25
    · replace hf := x_in c17 hf
      refine lv_iconst (v := 1) C.x C.b dX11_hasLadderOn_20 (by decide) ?_
      refine lv_goto (tgt := 25) C.x C.b dX11_hasLadderOn_21 rfl ?_
      rw [x_e0 hf]
      exact x_zret C hr hW (v := 1) (w := 1) rfl dX11_hasLadderOn_25
