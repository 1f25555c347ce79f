theorem dJx4a65c_add_9ea2d_0 : decode cJx4a65c_add_9ea2d 0 = .ok (.aload_n 0, 1) := by decide +kernel
theorem dJx4a65c_add_9ea2d_1 : decode cJx4a65c_add_9ea2d 1 = .ok (.dup, 1) := by decide +kernel
theorem dJx4a65c_add_9ea2d_2 : decode cJx4a65c_add_9ea2d 2 = .ok (.getfield 63, 3) := by decide +kernel
theorem dJx4a65c_add_9ea2d_5 : decode cJx4a65c_add_9ea2d 5 = .ok (.iconst 1, 1) := by decide +kernel
theorem dJx4a65c_add_9ea2d_6 : decode cJx4a65c_add_9ea2d 6 = .ok (.iadd, 1) := by decide +kernel
theorem dJx4a65c_add_9ea2d_7 : decode cJx4a65c_add_9ea2d 7 = .ok (.putfield 63, 3) := by decide +kernel
theorem dJx4a65c_add_9ea2d_10 : decode cJx4a65c_add_9ea2d 10 = .ok (.aload_n 0, 1) := by decide +kernel
theorem dJx4a65c_add_9ea2d_11 : decode cJx4a65c_add_9ea2d 11 = .ok (.aload_n 1, 1) := by decide +kernel
theorem dJx4a65c_add_9ea2d_12 : decode cJx4a65c_add_9ea2d 12 = .ok (.aload_n 0, 1) := by decide +kernel
theorem dJx4a65c_add_9ea2d_13 : decode cJx4a65c_add_9ea2d 13 = .ok (.getfield 9, 3) := by decide +kernel
theorem dJx4a65c_add_9ea2d_16 : decode cJx4a65c_add_9ea2d 16 = .ok (.aload_n 0, 1) := by decide +kernel
theorem dJx4a65c_add_9ea2d_17 : decode cJx4a65c_add_9ea2d 17 = .ok (.getfield 48, 3) := by decide +kernel
theorem dJx4a65c_add_9ea2d_20 : decode cJx4a65c_add_9ea2d 20 = .ok (.invokevirtual 131, 3) := by decide +kernel
theorem dJx4a65c_add_9ea2d_23 : decode cJx4a65c_add_9ea2d 23 = .ok (.iconst 1, 1) := by decide +kernel
theorem dJx4a65c_add_9ea2d_24 : decode cJx4a65c_add_9ea2d 24 = .ok (.ireturn, 1) := by decide +kernel
theorem hd_Jx4a65c_add_72be8 : yJx4a65c_add_72be8.cls ≠ "java/lang/invoke/MethodHandle" ∧ yJx4a65c_add_72be8.cls ≠ "java/lang/invoke/VarHandle" ∧ (parseMethodDescriptor yJx4a65c_add_72be8.desc).map (fun d => d.parameters.length) = some 3 := by decide +kernel
theorem gv_Jx4a65c_131 : GoodIn gT (wsV "java/util/ArrayList" 131 "java/util/ArrayList" yJx4a65c_add_72be8 (Cond.code yJx4a65c_add_72be8 cJx4a65c_add_72be8 4 none :: gT)) := good_V T_5_89 T_5_91 TS_28 T_1_9 T_5_92
def fJx4a65c_add_9ea2d (M : Mm) (o : Nat) (p1 : Int32) : Option (Int32 × Mm) :=
  B1 (rdI M o 2 0) fun x2_1 =>
  B1 (wrI M o 2 0 (x2_1 + 1)) fun M7_2 =>
  B1 (rdN M7_2 o 2 1) fun d13_3 =>
  B1 (rdI M7_2 o 2 2) fun x17_4 =>
  B1 (gk M7_2 o 2) fun _ =>
  B1 (fJx4a65c_add_72be8 M7_2 o p1 d13_3 x17_4) fun M20_6 =>
  some (1, M20_6)
set_option maxRecDepth 100000 in
set_option maxHeartbeats 4000000 in
theorem qJx4a65c_add_9ea2d (l : Launch) (E : Ev) {M : Mm} {o : Nat} {p1 : Int32} {rz : Int32} {Mz : Mm} (hf : fJx4a65c_add_9ea2d M o p1 = some (rz, Mz)) : Ct l E yJx4a65c_add_9ea2d cJx4a65c_add_9ea2d 2 (some .boolean) 6 128 1 15 [.ref (E.b + o), .ref (bxA E p1)] M (some (.int rz)) Mz := by
  refine ct_of (by decide +kernel) (Nat.le_of_ble_eq_true rfl) fun p e s m args below meth c C hr hin hW ls hl => ?_
  have hl : lv_has ls 2 [(0, .ref (E.b + o)), (1, .ref (bxA E p1))] := hl
  unfold fJx4a65c_add_9ea2d at hf
  refine lv_aload_n C.x C.b dJx4a65c_add_9ea2d_0 rfl (lv_at hl 0 rfl) ?_
  refine lv_dup C.x C.b dJx4a65c_add_9ea2d_1 rfl ?_
  obtain ⟨x2_1, hx2_1, hf⟩ := x_b1 hf
  refine x_lgeti C hW hx2_1 (by decide) T_1_221 (Or.inr T_1_222) dJx4a65c_add_9ea2d_2 ?_
  refine lv_iconst (v := 1) C.x C.b dJx4a65c_add_9ea2d_5 (by decide) ?_
  refine lv_iadd C.x C.b dJx4a65c_add_9ea2d_6 ?_
  obtain ⟨M7_2, hM7_2, hf⟩ := x_b1 hf
  refine x_lputi C hW hM7_2 (by decide) T_1_221 (Or.inr T_1_222) dJx4a65c_add_9ea2d_7 (fun H locs hW => ?_)
  refine lv_aload_n C.x C.b dJx4a65c_add_9ea2d_10 rfl (lv_at hl 0 rfl) ?_
  refine lv_aload_n C.x C.b dJx4a65c_add_9ea2d_11 rfl (lv_at hl 1 rfl) ?_
  refine lv_aload_n C.x C.b dJx4a65c_add_9ea2d_12 rfl (lv_at hl 0 rfl) ?_
  obtain ⟨d13_3, hd13_3, hf⟩ := x_b1 hf
  refine x_lgetd C hW hd13_3 T_1_218 dJx4a65c_add_9ea2d_13 ?_
  refine lv_aload_n C.x C.b dJx4a65c_add_9ea2d_16 rfl (lv_at hl 0 rfl) ?_
  obtain ⟨x17_4, hx17_4, hf⟩ := x_b1 hf
  refine x_lgeti C hW hx17_4 (by decide) T_1_219 (Or.inl rfl) dJx4a65c_add_9ea2d_17 ?_
  obtain ⟨_, hk20_5, hf⟩ := x_b1 hf
  obtain ⟨M20_6, hM20_6, hf⟩ := x_b1 hf
  refine x_callV (As := [.ref (bxA E p1), .ref (alA E d13_3), .int x17_4]) (a := o) (rest := []) C hW hl (qJx4a65c_add_72be8 l E hM20_6) (x_gk hk20_5) (by decide) (by decide) rfl gv_Jx4a65c_131 ⟨rfl, hd_Jx4a65c_add_72be8⟩ rfl rfl (Nat.le_of_ble_eq_true rfl) dJx4a65c_add_9ea2d_20 ⟨Nat.le_of_ble_eq_true rfl, Nat.le_of_ble_eq_true rfl⟩ ⟨Nat.le_of_ble_eq_true rfl, Nat.le_of_ble_eq_true rfl⟩ (fun H locs hW => ?_)
  refine lv_iconst (v := 1) C.x C.b dJx4a65c_add_9ea2d_23 (by decide) ?_
  rw [x_e1 hf, x_e2 hf]
  exact x_zret C hr hW (v := 1) (w := 1) rfl dJx4a65c_add_9ea2d_24

theorem dX4_runs_0 : decode cX4_runs 0 = .ok (.aload_n 0, 1) := by decide +kernel
theorem dX4_runs_1 : decode cX4_runs 1 = .ok (.getfield 20, 3) := by decide +kernel
theorem dX4_runs_4 : decode cX4_runs 4 = .ok (.bipush 10, 2) := by decide +kernel
theorem dX4_runs_6 : decode cX4_runs 6 = .ok (.invokestatic 24, 3) := by decide +kernel
theorem dX4_runs_9 : decode cX4_runs 9 = .ok (.invokevirtual 30, 3) := by decide +kernel
theorem dX4_runs_12 : decode cX4_runs 12 = .ok (.pop, 1) := by decide +kernel
theorem dX4_runs_13 : decode cX4_runs 13 = .ok (.iload_n 1, 1) := by decide +kernel
theorem dX4_runs_14 : decode cX4_runs 14 = .ok (.aload_n 0, 1) := by decide +kernel
theorem dX4_runs_15 : decode cX4_runs 15 = .ok (.getfield 13, 3) := by decide +kernel
theorem dX4_runs_18 : decode cX4_runs 18 = .ok (.iadd, 1) := by decide +kernel
theorem dX4_runs_19 : decode cX4_runs 19 = .ok (.ireturn, 1) := by decide +kernel
theorem fg_X4_20_4 : FdG "NylonLadder$Plain" 20 4 2 true := ⟨_, _, _, _, rfl, by decide, by decide, by decide, gxX1, by decide, T_4_222, Or.inl rfl, rfl⟩
theorem hd_J6_valueOf_2dffe : yJ6_valueOf_2dffe.cls ≠ "java/lang/invoke/MethodHandle" ∧ yJ6_valueOf_2dffe.cls ≠ "java/lang/invoke/VarHandle" ∧ (parseMethodDescriptor yJ6_valueOf_2dffe.desc).map (fun d => d.parameters.length) = some 1 := by decide +kernel
theorem gs_X4_24 : GoodIn gT (va_wsS "NylonLadder$Plain" 24 yJ6_valueOf_2dffe (Cond.code yJ6_valueOf_2dffe cJ6_valueOf_2dffe 1 (some (.object "java/lang/Integer")) :: gT)) := good_S T_5_159 T_5_66 T_1_24 T_5_67
theorem hd_Jx4a65c_add_9ea2d : yJx4a65c_add_9ea2d.cls ≠ "java/lang/invoke/MethodHandle" ∧ yJx4a65c_add_9ea2d.cls ≠ "java/lang/invoke/VarHandle" ∧ (parseMethodDescriptor yJx4a65c_add_9ea2d.desc).map (fun d => d.parameters.length) = some 1 := by decide +kernel
theorem gv_X4_30 : GoodIn gT (wsV "NylonLadder$Plain" 30 "java/util/ArrayList" yJx4a65c_add_9ea2d (Cond.code yJx4a65c_add_9ea2d cJx4a65c_add_9ea2d 2 (some .boolean) :: gT)) := good_V T_5_160 T_5_86 T_5_87 T_1_9 T_5_88
theorem fg_X4_13_4 : FdG "NylonLadder$Plain" 13 4 0 false := ⟨_, _, _, _, rfl, by decide, by decide, by decide, gxX1, by decide, T_4_210, Or.inl rfl, rfl⟩
def fX4_runs_k4 (M : Mm) (o : Nat) (p1 : Int32) : Option (Int32 × Mm) :=
  B1 (rdN M o 4 2) fun a1_1 =>
  B1 (fJ6_valueOf_2dffe M 10) fun x6_2 =>
  B1 (gk M a1_1 2) fun _ =>
  B2 (fJx4a65c_add_9ea2d M a1_1 x6_2) fun x9_4 M9_5 =>
  B1 (rdI M9_5 o 4 0) fun x15_6 =>
  some ((p1 + x15_6), M9_5)
set_option maxRecDepth 100000 in
set_option maxHeartbeats 4000000 in
theorem qX4_runs_k4 (l : Launch) (E : Ev) {M : Mm} {o : Nat} {p1 : Int32} {rz : Int32} {Mz : Mm} (hf : fX4_runs_k4 M o p1 = some (rz, Mz)) : Ct l E yX4_runs cX4_runs 2 (some .int) 7 149 1 15 [.ref (E.b + o), .int p1] M (some (.int rz)) Mz := by
  refine ct_of (by decide +kernel) (Nat.le_of_ble_eq_true rfl) fun p e s m args below meth c C hr hin hW ls hl => ?_
  have hl : lv_has ls 2 [(0, .ref (E.b + o)), (1, .int p1)] := hl
  unfold fX4_runs_k4 at hf
  refine lv_aload_n C.x C.b dX4_runs_0 rfl (lv_at hl 0 rfl) ?_
  obtain ⟨a1_1, ha1_1, hf⟩ := x_b1 hf
  refine x_getn C hW fg_X4_20_4 ha1_1 dX4_runs_1 ?_
  refine lv_bipush (v := 10) C.x C.b dX4_runs_4 (by decide) ?_
  obtain ⟨x6_2, hx6_2, hf⟩ := x_b1 hf
  refine x_callS (As := [.int 10]) (rest := [.ref (E.b + a1_1)]) C hW hl (qJ6_valueOf_2dffe l E hx6_2) gs_X4_24 hd_J6_valueOf_2dffe rfl rfl (Nat.le_of_ble_eq_true rfl) dX4_runs_6 ⟨Nat.le_of_ble_eq_true rfl, Nat.le_of_ble_eq_true rfl⟩ ⟨Nat.le_of_ble_eq_true rfl, Nat.le_of_ble_eq_true rfl⟩ (fun H locs hW => ?_)
  obtain ⟨_, hk9_3, hf⟩ := x_b1 hf
  obtain ⟨x9_4, M9_5, hx9_4, hf⟩ := x_b2 hf
  refine x_callV (As := [.ref (bxA E x6_2)]) (a := a1_1) (rest := []) C hW hl (qJx4a65c_add_9ea2d l E hx9_4) (x_gk hk9_3) (by decide) (by decide) rfl gv_X4_30 ⟨rfl, hd_Jx4a65c_add_9ea2d⟩ rfl rfl (Nat.le_of_ble_eq_true rfl) dX4_runs_9 ⟨Nat.le_of_ble_eq_true rfl, Nat.le_of_ble_eq_true rfl⟩ ⟨Nat.le_of_ble_eq_true rfl, Nat.le_of_ble_eq_true rfl⟩ (fun H locs hW => ?_)
  refine lv_pop C.x C.b dX4_runs_12 rfl ?_
  refine lv_iload_n C.x C.b dX4_runs_13 rfl (lv_at hl 1 rfl) ?_
  refine lv_aload_n C.x C.b dX4_runs_14 rfl (lv_at hl 0 rfl) ?_
  obtain ⟨x15_6, hx15_6, hf⟩ := x_b1 hf
  refine x_geti C hW fg_X4_13_4 hx15_6 dX4_runs_15 ?_
  refine lv_iadd C.x C.b dX4_runs_18 ?_
  rw [x_e1 hf, x_e2 hf]
  exact x_iret C hr hW dX4_runs_19

theorem dX9_runs_0 : decode cX9_runs 0 = .ok (.aload_n 0, 1) := by decide +kernel
theorem dX9_runs_1 : decode cX9_runs 1 = .ok (.getfield 7, 3) := by decide +kernel
theorem dX9_runs_4 : decode cX9_runs 4 = .ok (.bipush 30, 2) := by decide +kernel
theorem dX9_runs_6 : decode cX9_runs 6 = .ok (.invokestatic 13, 3) := by decide +kernel
theorem dX9_runs_9 : decode cX9_runs 9 = .ok (.invokevirtual 19, 3) := by decide +kernel
theorem dX9_runs_12 : decode cX9_runs 12 = .ok (.pop, 1) := by decide +kernel
theorem dX9_runs_13 : decode cX9_runs 13 = .ok (.aload_n 0, 1) := by decide +kernel
theorem dX9_runs_14 : decode cX9_runs 14 = .ok (.iload_n 1, 1) := by decide +kernel
theorem dX9_runs_15 : decode cX9_runs 15 = .ok (.invokespecial 25, 3) := by decide +kernel
theorem dX9_runs_18 : decode cX9_runs 18 = .ok (.iconst 3, 1) := by decide +kernel
theorem dX9_runs_19 : decode cX9_runs 19 = .ok (.imul, 1) := by decide +kernel
theorem dX9_runs_20 : decode cX9_runs 20 = .ok (.ireturn, 1) := by decide +kernel
theorem fg_X9_7_4 : FdG "NylonLadder$Thick" 7 4 2 true := ⟨_, _, _, _, rfl, by decide, by decide, by decide, gxX1, by decide, T_4_225, Or.inr T_4_226, rfl⟩
theorem gs_X9_13 : GoodIn gT (va_wsS "NylonLadder$Thick" 13 yJ6_valueOf_2dffe (Cond.code yJ6_valueOf_2dffe cJ6_valueOf_2dffe 1 (some (.object "java/lang/Integer")) :: gT)) := good_S T_5_144 T_5_66 T_1_24 T_5_67
theorem gv_X9_19 : GoodIn gT (wsV "NylonLadder$Thick" 19 "java/util/ArrayList" yJx4a65c_add_9ea2d (Cond.code yJx4a65c_add_9ea2d cJx4a65c_add_9ea2d 2 (some .boolean) :: gT)) := good_V T_5_145 T_5_86 T_5_87 T_1_9 T_5_88
theorem hd_X4_runs : yX4_runs.cls ≠ "java/lang/invoke/MethodHandle" ∧ yX4_runs.cls ≠ "java/lang/invoke/VarHandle" ∧ (parseMethodDescriptor yX4_runs.desc).map (fun d => d.parameters.length) = some 1 := by decide +kernel
theorem hdn_X4_runs : yX4_runs.name ≠ "<init>" ∧ (parseMethodDescriptor yX4_runs.desc).map (fun d => d.parameters.length) = some 1 := by decide +kernel
theorem gp_X9_25 : GoodIn gT (va_wsSU "NylonLadder$Thick" 25 yX4_runs (Cond.code yX4_runs cX4_runs 2 (some .int) :: gT)) := good_SU T_5_146 T_5_61 T_5_16 T_5_59 T_1_17 T_5_158
def fX9_runs_k4 (M : Mm) (o : Nat) (p1 : Int32) : Option (Int32 × Mm) :=
  B1 (rdN M o 4 2) fun a1_1 =>
  B1 (fJ6_valueOf_2dffe M 30) fun x6_2 =>
  B1 (gk M a1_1 2) fun _ =>
  B2 (fJx4a65c_add_9ea2d M a1_1 x6_2) fun x9_4 M9_5 =>
  B1 (gk M9_5 o 4) fun _ =>
  B2 (fX4_runs_k4 M9_5 o p1) fun x15_7 M15_8 =>
  some ((x15_7 * 3), M15_8)
set_option maxRecDepth 100000 in
set_option maxHeartbeats 4000000 in
theorem qX9_runs_k4 (l : Launch) (E : Ev) {M : Mm} {o : Nat} {p1 : Int32} {rz : Int32} {Mz : Mm} (hf : fX9_runs_k4 M o p1 = some (rz, Mz)) : Ct l E yX9_runs cX9_runs 2 (some .int) 8 170 2 30 [.ref (E.b + o), .int p1] M (some (.int rz)) Mz := by
  refine ct_of (by decide +kernel) (Nat.le_of_ble_eq_true rfl) fun p e s m args below meth c C hr hin hW ls hl => ?_
  have hl : lv_has ls 2 [(0, .ref (E.b + o)), (1, .int p1)] := hl
  unfold fX9_runs_k4 at hf
  refine lv_aload_n C.x C.b dX9_runs_0 rfl (lv_at hl 0 rfl) ?_
  obtain ⟨a1_1, ha1_1, hf⟩ := x_b1 hf
  refine x_getn C hW fg_X9_7_4 ha1_1 dX9_runs_1 ?_
  refine lv_bipush (v := 30) C.x C.b dX9_runs_4 (by decide) ?_
  obtain ⟨x6_2, hx6_2, hf⟩ := x_b1 hf
  refine x_callS (As := [.int 30]) (rest := [.ref (E.b + a1_1)]) C hW hl (qJ6_valueOf_2dffe l E hx6_2) gs_X9_13 hd_J6_valueOf_2dffe rfl rfl (Nat.le_of_ble_eq_true rfl) dX9_runs_6 ⟨Nat.le_of_ble_eq_true rfl, Nat.le_of_ble_eq_true rfl⟩ ⟨Nat.le_of_ble_eq_true rfl, Nat.le_of_ble_eq_true rfl⟩ (fun H locs hW => ?_)
  obtain ⟨_, hk9_3, hf⟩ := x_b1 hf
  obtain ⟨x9_4, M9_5, hx9_4, hf⟩ := x_b2 hf
  refine x_callV (As := [.ref (bxA E x6_2)]) (a := a1_1) (rest := []) C hW hl (qJx4a65c_add_9ea2d l E hx9_4) (x_gk hk9_3) (by decide) (by decide) rfl gv_X9_19 ⟨rfl, hd_Jx4a65c_add_9ea2d⟩ rfl rfl (Nat.le_of_ble_eq_true rfl) dX9_runs_9 ⟨Nat.le_of_ble_eq_true rfl, Nat.le_of_ble_eq_true rfl⟩ ⟨Nat.le_of_ble_eq_true rfl, Nat.le_of_ble_eq_true rfl⟩ (fun H locs hW => ?_)
  refine lv_pop C.x C.b dX9_runs_12 rfl ?_
  refine lv_aload_n C.x C.b dX9_runs_13 rfl (lv_at hl 0 rfl) ?_
  refine lv_iload_n C.x C.b dX9_runs_14 rfl (lv_at hl 1 rfl) ?_
  obtain ⟨_, hk15_6, hf⟩ := x_b1 hf
  obtain ⟨x15_7, M15_8, hx15_7, hf⟩ := x_b2 hf
  refine x_callSU (As := [.int p1]) (a := o) (rest := []) C hW hl (qX4_runs_k4 l E hx15_7) (x_gk hk15_6) (by decide) (by decide) rfl gp_X9_25 hdn_X4_runs rfl rfl (Nat.le_of_ble_eq_true rfl) dX9_runs_15 ⟨Nat.le_of_ble_eq_true rfl, Nat.le_of_ble_eq_true rfl⟩ ⟨Nat.le_of_ble_eq_true rfl, Nat.le_of_ble_eq_true rfl⟩ (fun H locs hW => ?_)
  refine lv_iconst (v := 3) C.x C.b dX9_runs_18 (by decide) ?_
  refine lv_imul C.x C.b dX9_runs_19 ?_
  rw [x_e1 hf, x_e2 hf]
  exact x_iret C hr hW dX9_runs_20

theorem dX1_runs_0 : decode cX1_runs 0 = .ok (.aload_n 0, 1) := by decide +kernel
theorem dX1_runs_1 : decode cX1_runs 1 = .ok (.getfield 7, 3) := by decide +kernel
theorem dX1_runs_4 : decode cX1_runs 4 = .ok (.bipush 40, 2) := by decide +kernel
theorem dX1_runs_6 : decode cX1_runs 6 = .ok (.invokestatic 13, 3) := by decide +kernel
theorem dX1_runs_9 : decode cX1_runs 9 = .ok (.invokevirtual 19, 3) := by decide +kernel
theorem dX1_runs_12 : decode cX1_runs 12 = .ok (.pop, 1) := by decide +kernel
theorem dX1_runs_13 : decode cX1_runs 13 = .ok (.iconst 0, 1) := by decide +kernel
theorem dX1_runs_14 : decode cX1_runs 14 = .ok (.aload_n 0, 1) := by decide +kernel
theorem dX1_runs_15 : decode cX1_runs 15 = .ok (.iload_n 1, 1) := by decide +kernel
theorem dX1_runs_16 : decode cX1_runs 16 = .ok (.invokespecial 25, 3) := by decide +kernel
theorem dX1_runs_19 : decode cX1_runs 19 = .ok (.isub, 1) := by decide +kernel
theorem dX1_runs_20 : decode cX1_runs 20 = .ok (.ireturn, 1) := by decide +kernel
theorem fg_X1_7_4 : FdG "NylonLadder$Lined" 7 4 2 true := ⟨_, _, _, _, rfl, by decide, by decide, by decide, gxX1, by decide, T_4_223, Or.inr T_4_224, rfl⟩
theorem gs_X1_13 : GoodIn gT (va_wsS "NylonLadder$Lined" 13 yJ6_valueOf_2dffe (Cond.code yJ6_valueOf_2dffe cJ6_valueOf_2dffe 1 (some (.object "java/lang/Integer")) :: gT)) := good_S T_5_65 T_5_66 T_1_24 T_5_67
theorem gv_X1_19 : GoodIn gT (wsV "NylonLadder$Lined" 19 "java/util/ArrayList" yJx4a65c_add_9ea2d (Cond.code yJx4a65c_add_9ea2d cJx4a65c_add_9ea2d 2 (some .boolean) :: gT)) := good_V T_5_85 T_5_86 T_5_87 T_1_9 T_5_88
theorem hd_X9_runs : yX9_runs.cls ≠ "java/lang/invoke/MethodHandle" ∧ yX9_runs.cls ≠ "java/lang/invoke/VarHandle" ∧ (parseMethodDescriptor yX9_runs.desc).map (fun d => d.parameters.length) = some 1 := by decide +kernel
theorem hdn_X9_runs : yX9_runs.name ≠ "<init>" ∧ (parseMethodDescriptor yX9_runs.desc).map (fun d => d.parameters.length) = some 1 := by decide +kernel
theorem gp_X1_25 : GoodIn gT (va_wsSU "NylonLadder$Lined" 25 yX9_runs (Cond.code yX9_runs cX9_runs 2 (some .int) :: gT)) := good_SU T_5_141 T_8_237 T_5_38 T_5_142 T_1_19 T_5_143
def fX1_runs_k4 (M : Mm) (o : Nat) (p1 : Int32) : Option (Int32 × Mm) :=
  B1 (rdN M o 4 2) fun a1_1 =>
  B1 (fJ6_valueOf_2dffe M 40) fun x6_2 =>
  B1 (gk M a1_1 2) fun _ =>
  B2 (fJx4a65c_add_9ea2d M a1_1 x6_2) fun x9_4 M9_5 =>
  B1 (gk M9_5 o 4) fun _ =>
  B2 (fX9_runs_k4 M9_5 o p1) fun x16_7 M16_8 =>
  some ((0 - x16_7), M16_8)
set_option maxRecDepth 100000 in
set_option maxHeartbeats 4000000 in
theorem qX1_runs_k4 (l : Launch) (E : Ev) {M : Mm} {o : Nat} {p1 : Int32} {rz : Int32} {Mz : Mm} (hf : fX1_runs_k4 M o p1 = some (rz, Mz)) : Ct l E yX1_runs cX1_runs 2 (some .int) 9 191 3 45 [.ref (E.b + o), .int p1] M (some (.int rz)) Mz := by
  refine ct_of (by decide +kernel) (Nat.le_of_ble_eq_true rfl) fun p e s m args below meth c C hr hin hW ls hl => ?_
  have hl : lv_has ls 2 [(0, .ref (E.b + o)), (1, .int p1)] := hl
  unfold fX1_runs_k4 at hf
  refine lv_aload_n C.x C.b dX1_runs_0 rfl (lv_at hl 0 rfl) ?_
  obtain ⟨a1_1, ha1_1, hf⟩ := x_b1 hf
  refine x_getn C hW fg_X1_7_4 ha1_1 dX1_runs_1 ?_
  refine lv_bipush (v := 40) C.x C.b dX1_runs_4 (by decide) ?_
  obtain ⟨x6_2, hx6_2, hf⟩ := x_b1 hf
  refine x_callS (As := [.int 40]) (rest := [.ref (E.b + a1_1)]) C hW hl (qJ6_valueOf_2dffe l E hx6_2) gs_X1_13 hd_J6_valueOf_2dffe rfl rfl (Nat.le_of_ble_eq_true rfl) dX1_runs_6 ⟨Nat.le_of_ble_eq_true rfl, Nat.le_of_ble_eq_true rfl⟩ ⟨Nat.le_of_ble_eq_true rfl, Nat.le_of_ble_eq_true rfl⟩ (fun H locs hW => ?_)
  obtain ⟨_, hk9_3, hf⟩ := x_b1 hf
  obtain ⟨x9_4, M9_5, hx9_4, hf⟩ := x_b2 hf
  refine x_callV (As := [.ref (bxA E x6_2)]) (a := a1_1) (rest := []) C hW hl (qJx4a65c_add_9ea2d l E hx9_4) (x_gk hk9_3) (by decide) (by decide) rfl gv_X1_19 ⟨rfl, hd_Jx4a65c_add_9ea2d⟩ rfl rfl (Nat.le_of_ble_eq_true rfl) dX1_runs_9 ⟨Nat.le_of_ble_eq_true rfl, Nat.le_of_ble_eq_true rfl⟩ ⟨Nat.le_of_ble_eq_true rfl, Nat.le_of_ble_eq_true rfl⟩ (fun H locs hW => ?_)
  refine lv_pop C.x C.b dX1_runs_12 rfl ?_
  refine lv_iconst (v := 0) C.x C.b dX1_runs_13 (by decide) ?_
  refine lv_aload_n C.x C.b dX1_runs_14 rfl (lv_at hl 0 rfl) ?_
  refine lv_iload_n C.x C.b dX1_runs_15 rfl (lv_at hl 1 rfl) ?_
  obtain ⟨_, hk16_6, hf⟩ := x_b1 hf
  obtain ⟨x16_7, M16_8, hx16_7, hf⟩ := x_b2 hf
  refine x_callSU (As := [.int p1]) (a := o) (rest := [.int 0]) C hW hl (qX9_runs_k4 l E hx16_7) (x_gk hk16_6) (by decide) (by decide) rfl gp_X1_25 hdn_X9_runs rfl rfl (Nat.le_of_ble_eq_true rfl) dX1_runs_16 ⟨Nat.le_of_ble_eq_true rfl, Nat.le_of_ble_eq_true rfl⟩ ⟨Nat.le_of_ble_eq_true rfl, Nat.le_of_ble_eq_true rfl⟩ (fun H locs hW => ?_)
  refine lv_isub C.x C.b dX1_runs_19 ?_
  rw [x_e1 hf, x_e2 hf]
  exact x_iret C hr hW dX1_runs_20

theorem fg_X4_20_5 : FdG "NylonLadder$Plain" 20 5 2 true := ⟨_, _, _, _, rfl, by decide, by decide, by decide, gxX2, by decide, T_4_222, Or.inl rfl, rfl⟩
theorem fg_X4_13_5 : FdG "NylonLadder$Plain" 13 5 0 false := ⟨_, _, _, _, rfl, by decide, by decide, by decide, gxX2, by decide, T_4_210, Or.inl rfl, rfl⟩
def fX4_runs_k5 (M : Mm) (o : Nat) (p1 : Int32) : Option (Int32 × Mm) :=
  B1 (rdN M o 5 2) fun a1_1 =>
  B1 (fJ6_valueOf_2dffe M 10) fun x6_2 =>
  B1 (gk M a1_1 2) fun _ =>
  B2 (fJx4a65c_add_9ea2d M a1_1 x6_2) fun x9_4 M9_5 =>
  B1 (rdI M9_5 o 5 0) fun x15_6 =>
  some ((p1 + x15_6), M9_5)
set_option maxRecDepth 100000 in
set_option maxHeartbeats 4000000 in
theorem qX4_runs_k5 (l : Launch) (E : Ev) {M : Mm} {o : Nat} {p1 : Int32} {rz : Int32} {Mz : Mm} (hf : fX4_runs_k5 M o p1 = some (rz, Mz)) : Ct l E yX4_runs cX4_runs 2 (some .int) 7 149 1 15 [.ref (E.b + o), .int p1] M (some (.int rz)) Mz := by
  refine ct_of (by decide +kernel) (Nat.le_of_ble_eq_true rfl) fun p e s m args below meth c C hr hin hW ls hl => ?_
  have hl : lv_has ls 2 [(0, .ref (E.b + o)), (1, .int p1)] := hl
  unfold fX4_runs_k5 at hf
  refine lv_aload_n C.x C.b dX4_runs_0 rfl (lv_at hl 0 rfl) ?_
  obtain ⟨a1_1, ha1_1, hf⟩ := x_b1 hf
  refine x_getn C hW fg_X4_20_5 ha1_1 dX4_runs_1 ?_
  refine lv_bipush (v := 10) C.x C.b dX4_runs_4 (by decide) ?_
  obtain ⟨x6_2, hx6_2, hf⟩ := x_b1 hf
  refine x_callS (As := [.int 10]) (rest := [.ref (E.b + a1_1)]) C hW hl (qJ6_valueOf_2dffe l E hx6_2) gs_X4_24 hd_J6_valueOf_2dffe rfl rfl (Nat.le_of_ble_eq_true rfl) dX4_runs_6 ⟨Nat.le_of_ble_eq_true rfl, Nat.le_of_ble_eq_true rfl⟩ ⟨Nat.le_of_ble_eq_true rfl, Nat.le_of_ble_eq_true rfl⟩ (fun H locs hW => ?_)
  obtain ⟨_, hk9_3, hf⟩ := x_b1 hf
  obtain ⟨x9_4, M9_5, hx9_4, hf⟩ := x_b2 hf
  refine x_callV (As := [.ref (bxA E x6_2)]) (a := a1_1) (rest := []) C hW hl (qJx4a65c_add_9ea2d l E hx9_4) (x_gk hk9_3) (by decide) (by decide) rfl gv_X4_30 ⟨rfl, hd_Jx4a65c_add_9ea2d⟩ rfl rfl (Nat.le_of_ble_eq_true rfl) dX4_runs_9 ⟨Nat.le_of_ble_eq_true rfl, Nat.le_of_ble_eq_true rfl⟩ ⟨Nat.le_of_ble_eq_true rfl, Nat.le_of_ble_eq_true rfl⟩ (fun H locs hW => ?_)
  refine lv_pop C.x C.b dX4_runs_12 rfl ?_
  refine lv_iload_n C.x C.b dX4_runs_13 rfl (lv_at hl 1 rfl) ?_
  refine lv_aload_n C.x C.b dX4_runs_14 rfl (lv_at hl 0 rfl) ?_
  obtain ⟨x15_6, hx15_6, hf⟩ := x_b1 hf
  refine x_geti C hW fg_X4_13_5 hx15_6 dX4_runs_15 ?_
  refine lv_iadd C.x C.b dX4_runs_18 ?_
  rw [x_e1 hf, x_e2 hf]
  exact x_iret C hr hW dX4_runs_19

theorem dX2_runs_0 : decode cX2_runs 0 = .ok (.aload_n 0, 1) := by decide +kernel
theorem dX2_runs_1 : decode cX2_runs 1 = .ok (.getfield 7, 3) := by decide +kernel
theorem dX2_runs_4 : decode cX2_runs 4 = .ok (.bipush 51, 2) := by decide +kernel
theorem dX2_runs_6 : decode cX2_runs 6 = .ok (.invokestatic 13, 3) := by decide +kernel
theorem dX2_runs_9 : decode cX2_runs 9 = .ok (.invokevirtual 19, 3) := by decide +kernel
theorem dX2_runs_12 : decode cX2_runs 12 = .ok (.pop, 1) := by decide +kernel
theorem dX2_runs_13 : decode cX2_runs 13 = .ok (.aload_n 0, 1) := by decide +kernel
theorem dX2_runs_14 : decode cX2_runs 14 = .ok (.iload_n 1, 1) := by decide +kernel
theorem dX2_runs_15 : decode cX2_runs 15 = .ok (.invokespecial 29, 3) := by decide +kernel
theorem dX2_runs_18 : decode cX2_runs 18 = .ok (.aload_n 0, 1) := by decide +kernel
theorem dX2_runs_19 : decode cX2_runs 19 = .ok (.getfield 32, 3) := by decide +kernel
theorem dX2_runs_22 : decode cX2_runs 22 = .ok (.isub, 1) := by decide +kernel
theorem dX2_runs_23 : decode cX2_runs 23 = .ok (.ireturn, 1) := by decide +kernel
theorem fg_X2_7_5 : FdG "NylonLadder$Mesh" 7 5 2 true := ⟨_, _, _, _, rfl, by decide, by decide, by decide, gxX2, by decide, T_4_229, Or.inr T_4_230, rfl⟩
theorem gs_X2_13 : GoodIn gT (va_wsS "NylonLadder$Mesh" 13 yJ6_valueOf_2dffe (Cond.code yJ6_valueOf_2dffe cJ6_valueOf_2dffe 1 (some (.object "java/lang/Integer")) :: gT)) := good_S T_5_150 T_5_66 T_1_24 T_5_67
theorem gv_X2_19 : GoodIn gT (wsV "NylonLadder$Mesh" 19 "java/util/ArrayList" yJx4a65c_add_9ea2d (Cond.code yJx4a65c_add_9ea2d cJx4a65c_add_9ea2d 2 (some .boolean) :: gT)) := good_V T_5_151 T_5_86 T_5_87 T_1_9 T_5_88
theorem gp_X2_29 : GoodIn gT (sup_ws "NylonLadder$Mesh" "NylonLadder$Plain" 29 ⟨"NylonLadder$Sheer", "runs", "(I)I"⟩ yX4_runs (Cond.code yX4_runs cX4_runs 2 (some .int) :: gT)) := good_SX T_5_152 T_5_153 T_5_27 T_5_5 T_5_59 T_1_17 T_5_158
theorem fg_X2_32_5 : FdG "NylonLadder$Mesh" 32 5 0 false := ⟨_, _, _, _, rfl, by decide, by decide, by decide, gxX2, by decide, T_4_211, Or.inr T_4_212, rfl⟩
def fX2_runs_k5 (M : Mm) (o : Nat) (p1 : Int32) : Option (Int32 × Mm) :=
  B1 (rdN M o 5 2) fun a1_1 =>
  B1 (fJ6_valueOf_2dffe M 51) fun x6_2 =>
  B1 (gk M a1_1 2) fun _ =>
  B2 (fJx4a65c_add_9ea2d M a1_1 x6_2) fun x9_4 M9_5 =>
  B1 (gk M9_5 o 5) fun _ =>
  B2 (fX4_runs_k5 M9_5 o p1) fun x15_7 M15_8 =>
  B1 (rdI M15_8 o 5 0) fun x19_9 =>
  some ((x15_7 - x19_9), M15_8)
set_option maxRecDepth 100000 in
set_option maxHeartbeats 4000000 in
theorem qX2_runs_k5 (l : Launch) (E : Ev) {M : Mm} {o : Nat} {p1 : Int32} {rz : Int32} {Mz : Mm} (hf : fX2_runs_k5 M o p1 = some (rz, Mz)) : Ct l E yX2_runs cX2_runs 2 (some .int) 8 170 2 30 [.ref (E.b + o), .int p1] M (some (.int rz)) Mz := by
  refine ct_of (by decide +kernel) (Nat.le_of_ble_eq_true rfl) fun p e s m args below meth c C hr hin hW ls hl => ?_
  have hl : lv_has ls 2 [(0, .ref (E.b + o)), (1, .int p1)] := hl
  unfold fX2_runs_k5 at hf
  refine lv_aload_n C.x C.b dX2_runs_0 rfl (lv_at hl 0 rfl) ?_
  obtain ⟨a1_1, ha1_1, hf⟩ := x_b1 hf
  refine x_getn C hW fg_X2_7_5 ha1_1 dX2_runs_1 ?_
  refine lv_bipush (v := 51) C.x C.b dX2_runs_4 (by decide) ?_
  obtain ⟨x6_2, hx6_2, hf⟩ := x_b1 hf
  refine x_callS (As := [.int 51]) (rest := [.ref (E.b + a1_1)]) C hW hl (qJ6_valueOf_2dffe l E hx6_2) gs_X2_13 hd_J6_valueOf_2dffe rfl rfl (Nat.le_of_ble_eq_true rfl) dX2_runs_6 ⟨Nat.le_of_ble_eq_true rfl, Nat.le_of_ble_eq_true rfl⟩ ⟨Nat.le_of_ble_eq_true rfl, Nat.le_of_ble_eq_true rfl⟩ (fun H locs hW => ?_)
  obtain ⟨_, hk9_3, hf⟩ := x_b1 hf
  obtain ⟨x9_4, M9_5, hx9_4, hf⟩ := x_b2 hf
  refine x_callV (As := [.ref (bxA E x6_2)]) (a := a1_1) (rest := []) C hW hl (qJx4a65c_add_9ea2d l E hx9_4) (x_gk hk9_3) (by decide) (by decide) rfl gv_X2_19 ⟨rfl, hd_Jx4a65c_add_9ea2d⟩ rfl rfl (Nat.le_of_ble_eq_true rfl) dX2_runs_9 ⟨Nat.le_of_ble_eq_true rfl, Nat.le_of_ble_eq_true rfl⟩ ⟨Nat.le_of_ble_eq_true rfl, Nat.le_of_ble_eq_true rfl⟩ (fun H locs hW => ?_)
  refine lv_pop C.x C.b dX2_runs_12 rfl ?_
  refine lv_aload_n C.x C.b dX2_runs_13 rfl (lv_at hl 0 rfl) ?_
  refine lv_iload_n C.x C.b dX2_runs_14 rfl (lv_at hl 1 rfl) ?_
  obtain ⟨_, hk15_6, hf⟩ := x_b1 hf
  obtain ⟨x15_7, M15_8, hx15_7, hf⟩ := x_b2 hf
  refine x_callSX (owner := "NylonLadder$Plain") (x := ⟨"NylonLadder$Sheer", "runs", "(I)I"⟩) (As := [.int p1]) (a := o) (rest := []) C hW hl (qX4_runs_k5 l E hx15_7) (x_gk hk15_6) (by decide) (by decide) rfl gp_X2_29 rfl hdn_X4_runs rfl rfl (Nat.le_of_ble_eq_true rfl) dX2_runs_15 ⟨Nat.le_of_ble_eq_true rfl, Nat.le_of_ble_eq_true rfl⟩ ⟨Nat.le_of_ble_eq_true rfl, Nat.le_of_ble_eq_true rfl⟩ (fun H locs hW => ?_)
  refine lv_aload_n C.x C.b dX2_runs_18 rfl (lv_at hl 0 rfl) ?_
  obtain ⟨x19_9, hx19_9, hf⟩ := x_b1 hf
  refine x_geti C hW fg_X2_32_5 hx19_9 dX2_runs_19 ?_
  refine lv_isub C.x C.b dX2_runs_22 ?_
  rw [x_e1 hf, x_e2 hf]
  exact x_iret C hr hW dX2_runs_23

theorem fg_X4_20_6 : FdG "NylonLadder$Plain" 20 6 2 true := ⟨_, _, _, _, rfl, by decide, by decide, by decide, gxX3, by decide, T_4_222, Or.inl rfl, rfl⟩
theorem fg_X4_13_6 : FdG "NylonLadder$Plain" 13 6 0 false := ⟨_, _, _, _, rfl, by decide, by decide, by decide, gxX3, by decide, T_4_210, Or.inl rfl, rfl⟩
def fX4_runs_k6 (M : Mm) (o : Nat) (p1 : Int32) : Option (Int32 × Mm) :=
  B1 (rdN M o 6 2) fun a1_1 =>
  B1 (fJ6_valueOf_2dffe M 10) fun x6_2 =>
  B1 (gk M a1_1 2) fun _ =>
  B2 (fJx4a65c_add_9ea2d M a1_1 x6_2) fun x9_4 M9_5 =>
  B1 (rdI M9_5 o 6 0) fun x15_6 =>
  some ((p1 + x15_6), M9_5)
set_option maxRecDepth 100000 in
set_option maxHeartbeats 4000000 in
theorem qX4_runs_k6 (l : Launch) (E : Ev) {M : Mm} {o : Nat} {p1 : Int32} {rz : Int32} {Mz : Mm} (hf : fX4_runs_k6 M o p1 = some (rz, Mz)) : Ct l E yX4_runs cX4_runs 2 (some .int) 7 149 1 15 [.ref (E.b + o), .int p1] M (some (.int rz)) Mz := by
  refine ct_of (by decide +kernel) (Nat.le_of_ble_eq_true rfl) fun p e s m args below meth c C hr hin hW ls hl => ?_
  have hl : lv_has ls 2 [(0, .ref (E.b + o)), (1, .int p1)] := hl
  unfold fX4_runs_k6 at hf
  refine lv_aload_n C.x C.b dX4_runs_0 rfl (lv_at hl 0 rfl) ?_
  obtain ⟨a1_1, ha1_1, hf⟩ := x_b1 hf
  refine x_getn C hW fg_X4_20_6 ha1_1 dX4_runs_1 ?_
  refine lv_bipush (v := 10) C.x C.b dX4_runs_4 (by decide) ?_
  obtain ⟨x6_2, hx6_2, hf⟩ := x_b1 hf
  refine x_callS (As := [.int 10]) (rest := [.ref (E.b + a1_1)]) C hW hl (qJ6_valueOf_2dffe l E hx6_2) gs_X4_24 hd_J6_valueOf_2dffe rfl rfl (Nat.le_of_ble_eq_true rfl) dX4_runs_6 ⟨Nat.le_of_ble_eq_true rfl, Nat.le_of_ble_eq_true rfl⟩ ⟨Nat.le_of_ble_eq_true rfl, Nat.le_of_ble_eq_true rfl⟩ (fun H locs hW => ?_)
  obtain ⟨_, hk9_3, hf⟩ := x_b1 hf
  obtain ⟨x9_4, M9_5, hx9_4, hf⟩ := x_b2 hf
  refine x_callV (As := [.ref (bxA E x6_2)]) (a := a1_1) (rest := []) C hW hl (qJx4a65c_add_9ea2d l E hx9_4) (x_gk hk9_3) (by decide) (by decide) rfl gv_X4_30 ⟨rfl, hd_Jx4a65c_add_9ea2d⟩ rfl rfl (Nat.le_of_ble_eq_true rfl) dX4_runs_9 ⟨Nat.le_of_ble_eq_true rfl, Nat.le_of_ble_eq_true rfl⟩ ⟨Nat.le_of_ble_eq_true rfl, Nat.le_of_ble_eq_true rfl⟩ (fun H locs hW => ?_)
  refine lv_pop C.x C.b dX4_runs_12 rfl ?_
  refine lv_iload_n C.x C.b dX4_runs_13 rfl (lv_at hl 1 rfl) ?_
  refine lv_aload_n C.x C.b dX4_runs_14 rfl (lv_at hl 0 rfl) ?_
  obtain ⟨x15_6, hx15_6, hf⟩ := x_b1 hf
  refine x_geti C hW fg_X4_13_6 hx15_6 dX4_runs_15 ?_
  refine lv_iadd C.x C.b dX4_runs_18 ?_
  rw [x_e1 hf, x_e2 hf]
  exact x_iret C hr hW dX4_runs_19

theorem fg_X4_20_12 : FdG "NylonLadder$Plain" 20 12 2 true := ⟨_, _, _, _, rfl, by decide, by decide, by decide, gxX9, by decide, T_4_222, Or.inl rfl, rfl⟩
theorem fg_X4_13_12 : FdG "NylonLadder$Plain" 13 12 0 false := ⟨_, _, _, _, rfl, by decide, by decide, by decide, gxX9, by decide, T_4_210, Or.inl rfl, rfl⟩
def fX4_runs_k12 (M : Mm) (o : Nat) (p1 : Int32) : Option (Int32 × Mm) :=
  B1 (rdN M o 12 2) fun a1_1 =>
  B1 (fJ6_valueOf_2dffe M 10) fun x6_2 =>
  B1 (gk M a1_1 2) fun _ =>
  B2 (fJx4a65c_add_9ea2d M a1_1 x6_2) fun x9_4 M9_5 =>
  B1 (rdI M9_5 o 12 0) fun x15_6 =>
  some ((p1 + x15_6), M9_5)
set_option maxRecDepth 100000 in
set_option maxHeartbeats 4000000 in
theorem qX4_runs_k12 (l : Launch) (E : Ev) {M : Mm} {o : Nat} {p1 : Int32} {rz : Int32} {Mz : Mm} (hf : fX4_runs_k12 M o p1 = some (rz, Mz)) : Ct l E yX4_runs cX4_runs 2 (some .int) 7 149 1 15 [.ref (E.b + o), .int p1] M (some (.int rz)) Mz := by
  refine ct_of (by decide +kernel) (Nat.le_of_ble_eq_true rfl) fun p e s m args below meth c C hr hin hW ls hl => ?_
  have hl : lv_has ls 2 [(0, .ref (E.b + o)), (1, .int p1)] := hl
  unfold fX4_runs_k12 at hf
  refine lv_aload_n C.x C.b dX4_runs_0 rfl (lv_at hl 0 rfl) ?_
  obtain ⟨a1_1, ha1_1, hf⟩ := x_b1 hf
  refine x_getn C hW fg_X4_20_12 ha1_1 dX4_runs_1 ?_
  refine lv_bipush (v := 10) C.x C.b dX4_runs_4 (by decide) ?_
  obtain ⟨x6_2, hx6_2, hf⟩ := x_b1 hf
  refine x_callS (As := [.int 10]) (rest := [.ref (E.b + a1_1)]) C hW hl (qJ6_valueOf_2dffe l E hx6_2) gs_X4_24 hd_J6_valueOf_2dffe rfl rfl (Nat.le_of_ble_eq_true rfl) dX4_runs_6 ⟨Nat.le_of_ble_eq_true rfl, Nat.le_of_ble_eq_true rfl⟩ ⟨Nat.le_of_ble_eq_true rfl, Nat.le_of_ble_eq_true rfl⟩ (fun H locs hW => ?_)
  obtain ⟨_, hk9_3, hf⟩ := x_b1 hf
  obtain ⟨x9_4, M9_5, hx9_4, hf⟩ := x_b2 hf
  refine x_callV (As := [.ref (bxA E x6_2)]) (a := a1_1) (rest := []) C hW hl (qJx4a65c_add_9ea2d l E hx9_4) (x_gk hk9_3) (by decide) (by decide) rfl gv_X4_30 ⟨rfl, hd_Jx4a65c_add_9ea2d⟩ rfl rfl (Nat.le_of_ble_eq_true rfl) dX4_runs_9 ⟨Nat.le_of_ble_eq_true rfl, Nat.le_of_ble_eq_true rfl⟩ ⟨Nat.le_of_ble_eq_true rfl, Nat.le_of_ble_eq_true rfl⟩ (fun H locs hW => ?_)
  refine lv_pop C.x C.b dX4_runs_12 rfl ?_
  refine lv_iload_n C.x C.b dX4_runs_13 rfl (lv_at hl 1 rfl) ?_
  refine lv_aload_n C.x C.b dX4_runs_14 rfl (lv_at hl 0 rfl) ?_
  obtain ⟨x15_6, hx15_6, hf⟩ := x_b1 hf
  refine x_geti C hW fg_X4_13_12 hx15_6 dX4_runs_15 ?_
  refine lv_iadd C.x C.b dX4_runs_18 ?_
  rw [x_e1 hf, x_e2 hf]
  exact x_iret C hr hW dX4_runs_19

theorem fg_X9_7_12 : FdG "NylonLadder$Thick" 7 12 2 true := ⟨_, _, _, _, rfl, by decide, by decide, by decide, gxX9, by decide, T_4_225, Or.inr T_4_226, rfl⟩
def fX9_runs_k12 (M : Mm) (o : Nat) (p1 : Int32) : Option (Int32 × Mm) :=
  B1 (rdN M o 12 2) fun a1_1 =>
  B1 (fJ6_valueOf_2dffe M 30) fun x6_2 =>
  B1 (gk M a1_1 2) fun _ =>
  B2 (fJx4a65c_add_9ea2d M a1_1 x6_2) fun x9_4 M9_5 =>
  B1 (gk M9_5 o 12) fun _ =>
  B2 (fX4_runs_k12 M9_5 o p1) fun x15_7 M15_8 =>
  some ((x15_7 * 3), M15_8)
set_option maxRecDepth 100000 in
set_option maxHeartbeats 4000000 in
theorem qX9_runs_k12 (l : Launch) (E : Ev) {M : Mm} {o : Nat} {p1 : Int32} {rz : Int32} {Mz : Mm} (hf : fX9_runs_k12 M o p1 = some (rz, Mz)) : Ct l E yX9_runs cX9_runs 2 (some .int) 8 170 2 30 [.ref (E.b + o), .int p1] M (some (.int rz)) Mz := by
  refine ct_of (by decide +kernel) (Nat.le_of_ble_eq_true rfl) fun p e s m args below meth c C hr hin hW ls hl => ?_
  have hl : lv_has ls 2 [(0, .ref (E.b + o)), (1, .int p1)] := hl
  unfold fX9_runs_k12 at hf
  refine lv_aload_n C.x C.b dX9_runs_0 rfl (lv_at hl 0 rfl) ?_
  obtain ⟨a1_1, ha1_1, hf⟩ := x_b1 hf
  refine x_getn C hW fg_X9_7_12 ha1_1 dX9_runs_1 ?_
  refine lv_bipush (v := 30) C.x C.b dX9_runs_4 (by decide) ?_
  obtain ⟨x6_2, hx6_2, hf⟩ := x_b1 hf
  refine x_callS (As := [.int 30]) (rest := [.ref (E.b + a1_1)]) C hW hl (qJ6_valueOf_2dffe l E hx6_2) gs_X9_13 hd_J6_valueOf_2dffe rfl rfl (Nat.le_of_ble_eq_true rfl) dX9_runs_6 ⟨Nat.le_of_ble_eq_true rfl, Nat.le_of_ble_eq_true rfl⟩ ⟨Nat.le_of_ble_eq_true rfl, Nat.le_of_ble_eq_true rfl⟩ (fun H locs hW => ?_)
  obtain ⟨_, hk9_3, hf⟩ := x_b1 hf
  obtain ⟨x9_4, M9_5, hx9_4, hf⟩ := x_b2 hf
  refine x_callV (As := [.ref (bxA E x6_2)]) (a := a1_1) (rest := []) C hW hl (qJx4a65c_add_9ea2d l E hx9_4) (x_gk hk9_3) (by decide) (by decide) rfl gv_X9_19 ⟨rfl, hd_Jx4a65c_add_9ea2d⟩ rfl rfl (Nat.le_of_ble_eq_true rfl) dX9_runs_9 ⟨Nat.le_of_ble_eq_true rfl, Nat.le_of_ble_eq_true rfl⟩ ⟨Nat.le_of_ble_eq_true rfl, Nat.le_of_ble_eq_true rfl⟩ (fun H locs hW => ?_)
  refine lv_pop C.x C.b dX9_runs_12 rfl ?_
  refine lv_aload_n C.x C.b dX9_runs_13 rfl (lv_at hl 0 rfl) ?_
  refine lv_iload_n C.x C.b dX9_runs_14 rfl (lv_at hl 1 rfl) ?_
  obtain ⟨_, hk15_6, hf⟩ := x_b1 hf
  obtain ⟨x15_7, M15_8, hx15_7, hf⟩ := x_b2 hf
  refine x_callSU (As := [.int p1]) (a := o) (rest := []) C hW hl (qX4_runs_k12 l E hx15_7) (x_gk hk15_6) (by decide) (by decide) rfl gp_X9_25 hdn_X4_runs rfl rfl (Nat.le_of_ble_eq_true rfl) dX9_runs_15 ⟨Nat.le_of_ble_eq_true rfl, Nat.le_of_ble_eq_true rfl⟩ ⟨Nat.le_of_ble_eq_true rfl, Nat.le_of_ble_eq_true rfl⟩ (fun H locs hW => ?_)
  refine lv_iconst (v := 3) C.x C.b dX9_runs_18 (by decide) ?_
  refine lv_imul C.x C.b dX9_runs_19 ?_
  rw [x_e1 hf, x_e2 hf]
  exact x_iret C hr hW dX9_runs_20

theorem fg_X4_20_8 : FdG "NylonLadder$Plain" 20 8 2 true := ⟨_, _, _, _, rfl, by decide, by decide, by decide, gxX5, by decide, T_4_222, Or.inl rfl, rfl⟩
theorem fg_X4_13_8 : FdG "NylonLadder$Plain" 13 8 0 false := ⟨_, _, _, _, rfl, by decide, by decide, by decide, gxX5, by decide, T_4_210, Or.inl rfl, rfl⟩
def fX4_runs_k8 (M : Mm) (o : Nat) (p1 : Int32) : Option (Int32 × Mm) :=
  B1 (rdN M o 8 2) fun a1_1 =>
  B1 (fJ6_valueOf_2dffe M 10) fun x6_2 =>
  B1 (gk M a1_1 2) fun _ =>
  B2 (fJx4a65c_add_9ea2d M a1_1 x6_2) fun x9_4 M9_5 =>
  B1 (rdI M9_5 o 8 0) fun x15_6 =>
  some ((p1 + x15_6), M9_5)
set_option maxRecDepth 100000 in
set_option maxHeartbeats 4000000 in
theorem qX4_runs_k8 (l : Launch) (E : Ev) {M : Mm} {o : Nat} {p1 : Int32} {rz : Int32} {Mz : Mm} (hf : fX4_runs_k8 M o p1 = some (rz, Mz)) : Ct l E yX4_runs cX4_runs 2 (some .int) 7 149 1 15 [.ref (E.b + o), .int p1] M (some (.int rz)) Mz := by
  refine ct_of (by decide +kernel) (Nat.le_of_ble_eq_true rfl) fun p e s m args below meth c C hr hin hW ls hl => ?_
  have hl : lv_has ls 2 [(0, .ref (E.b + o)), (1, .int p1)] := hl
  unfold fX4_runs_k8 at hf
  refine lv_aload_n C.x C.b dX4_runs_0 rfl (lv_at hl 0 rfl) ?_
  obtain ⟨a1_1, ha1_1, hf⟩ := x_b1 hf
  refine x_getn C hW fg_X4_20_8 ha1_1 dX4_runs_1 ?_
  refine lv_bipush (v := 10) C.x C.b dX4_runs_4 (by decide) ?_
  obtain ⟨x6_2, hx6_2, hf⟩ := x_b1 hf
  refine x_callS (As := [.int 10]) (rest := [.ref (E.b + a1_1)]) C hW hl (qJ6_valueOf_2dffe l E hx6_2) gs_X4_24 hd_J6_valueOf_2dffe rfl rfl (Nat.le_of_ble_eq_true rfl) dX4_runs_6 ⟨Nat.le_of_ble_eq_true rfl, Nat.le_of_ble_eq_true rfl⟩ ⟨Nat.le_of_ble_eq_true rfl, Nat.le_of_ble_eq_true rfl⟩ (fun H locs hW => ?_)
  obtain ⟨_, hk9_3, hf⟩ := x_b1 hf
  obtain ⟨x9_4, M9_5, hx9_4, hf⟩ := x_b2 hf
  refine x_callV (As := [.ref (bxA E x6_2)]) (a := a1_1) (rest := []) C hW hl (qJx4a65c_add_9ea2d l E hx9_4) (x_gk hk9_3) (by decide) (by decide) rfl gv_X4_30 ⟨rfl, hd_Jx4a65c_add_9ea2d⟩ rfl rfl (Nat.le_of_ble_eq_true rfl) dX4_runs_9 ⟨Nat.le_of_ble_eq_true rfl, Nat.le_of_ble_eq_true rfl⟩ ⟨Nat.le_of_ble_eq_true rfl, Nat.le_of_ble_eq_true rfl⟩ (fun H locs hW => ?_)
  refine lv_pop C.x C.b dX4_runs_12 rfl ?_
  refine lv_iload_n C.x C.b dX4_runs_13 rfl (lv_at hl 1 rfl) ?_
  refine lv_aload_n C.x C.b dX4_runs_14 rfl (lv_at hl 0 rfl) ?_
  obtain ⟨x15_6, hx15_6, hf⟩ := x_b1 hf
  refine x_geti C hW fg_X4_13_8 hx15_6 dX4_runs_15 ?_
  refine lv_iadd C.x C.b dX4_runs_18 ?_
  rw [x_e1 hf, x_e2 hf]
  exact x_iret C hr hW dX4_runs_19

theorem fg_X4_20_7 : FdG "NylonLadder$Plain" 20 7 2 true := ⟨_, _, _, _, rfl, by decide, by decide, by decide, gxX4, by decide, T_4_222, Or.inl rfl, rfl⟩
theorem fg_X4_13_7 : FdG "NylonLadder$Plain" 13 7 0 false := ⟨_, _, _, _, rfl, by decide, by decide, by decide, gxX4, by decide, T_4_210, Or.inl rfl, rfl⟩
def fX4_runs_k7 (M : Mm) (o : Nat) (p1 : Int32) : Option (Int32 × Mm) :=
  B1 (rdN M o 7 2) fun a1_1 =>
  B1 (fJ6_valueOf_2dffe M 10) fun x6_2 =>
  B1 (gk M a1_1 2) fun _ =>
  B2 (fJx4a65c_add_9ea2d M a1_1 x6_2) fun x9_4 M9_5 =>
  B1 (rdI M9_5 o 7 0) fun x15_6 =>
  some ((p1 + x15_6), M9_5)
set_option maxRecDepth 100000 in
set_option maxHeartbeats 4000000 in
theorem qX4_runs_k7 (l : Launch) (E : Ev) {M : Mm} {o : Nat} {p1 : Int32} {rz : Int32} {Mz : Mm} (hf : fX4_runs_k7 M o p1 = some (rz, Mz)) : Ct l E yX4_runs cX4_runs 2 (some .int) 7 149 1 15 [.ref (E.b + o), .int p1] M (some (.int rz)) Mz := by
  refine ct_of (by decide +kernel) (Nat.le_of_ble_eq_true rfl) fun p e s m args below meth c C hr hin hW ls hl => ?_
  have hl : lv_has ls 2 [(0, .ref (E.b + o)), (1, .int p1)] := hl
  unfold fX4_runs_k7 at hf
  refine lv_aload_n C.x C.b dX4_runs_0 rfl (lv_at hl 0 rfl) ?_
  obtain ⟨a1_1, ha1_1, hf⟩ := x_b1 hf
  refine x_getn C hW fg_X4_20_7 ha1_1 dX4_runs_1 ?_
  refine lv_bipush (v := 10) C.x C.b dX4_runs_4 (by decide) ?_
  obtain ⟨x6_2, hx6_2, hf⟩ := x_b1 hf
  refine x_callS (As := [.int 10]) (rest := [.ref (E.b + a1_1)]) C hW hl (qJ6_valueOf_2dffe l E hx6_2) gs_X4_24 hd_J6_valueOf_2dffe rfl rfl (Nat.le_of_ble_eq_true rfl) dX4_runs_6 ⟨Nat.le_of_ble_eq_true rfl, Nat.le_of_ble_eq_true rfl⟩ ⟨Nat.le_of_ble_eq_true rfl, Nat.le_of_ble_eq_true rfl⟩ (fun H locs hW => ?_)
  obtain ⟨_, hk9_3, hf⟩ := x_b1 hf
  obtain ⟨x9_4, M9_5, hx9_4, hf⟩ := x_b2 hf
  refine x_callV (As := [.ref (bxA E x6_2)]) (a := a1_1) (rest := []) C hW hl (qJx4a65c_add_9ea2d l E hx9_4) (x_gk hk9_3) (by decide) (by decide) rfl gv_X4_30 ⟨rfl, hd_Jx4a65c_add_9ea2d⟩ rfl rfl (Nat.le_of_ble_eq_true rfl) dX4_runs_9 ⟨Nat.le_of_ble_eq_true rfl, Nat.le_of_ble_eq_true rfl⟩ ⟨Nat.le_of_ble_eq_true rfl, Nat.le_of_ble_eq_true rfl⟩ (fun H locs hW => ?_)
  refine lv_pop C.x C.b dX4_runs_12 rfl ?_
  refine lv_iload_n C.x C.b dX4_runs_13 rfl (lv_at hl 1 rfl) ?_
  refine lv_aload_n C.x C.b dX4_runs_14 rfl (lv_at hl 0 rfl) ?_
  obtain ⟨x15_6, hx15_6, hf⟩ := x_b1 hf
  refine x_geti C hW fg_X4_13_7 hx15_6 dX4_runs_15 ?_
  refine lv_iadd C.x C.b dX4_runs_18 ?_
  rw [x_e1 hf, x_e2 hf]
  exact x_iret C hr hW dX4_runs_19

theorem dX4_dries_0 : decode cX4_dries 0 = .ok (.aload_n 0, 1) := by decide +kernel
theorem dX4_dries_1 : decode cX4_dries 1 = .ok (.getfield 20, 3) := by decide +kernel
theorem dX4_dries_4 : decode cX4_dries 4 = .ok (.bipush 11, 2) := by decide +kernel
theorem dX4_dries_6 : decode cX4_dries 6 = .ok (.invokestatic 24, 3) := by decide +kernel
theorem dX4_dries_9 : decode cX4_dries 9 = .ok (.invokevirtual 30, 3) := by decide +kernel
theorem dX4_dries_12 : decode cX4_dries 12 = .ok (.pop, 1) := by decide +kernel
theorem dX4_dries_13 : decode cX4_dries 13 = .ok (.aload_n 0, 1) := by decide +kernel
theorem dX4_dries_14 : decode cX4_dries 14 = .ok (.iload_n 1, 1) := by decide +kernel
theorem dX4_dries_15 : decode cX4_dries 15 = .ok (.invokevirtual 36, 3) := by decide +kernel
theorem dX4_dries_18 : decode cX4_dries 18 = .ok (.iconst 2, 1) := by decide +kernel
theorem dX4_dries_19 : decode cX4_dries 19 = .ok (.imul, 1) := by decide +kernel
theorem dX4_dries_20 : decode cX4_dries 20 = .ok (.ireturn, 1) := by decide +kernel
theorem hd_X1_runs : yX1_runs.cls ≠ "java/lang/invoke/MethodHandle" ∧ yX1_runs.cls ≠ "java/lang/invoke/VarHandle" ∧ (parseMethodDescriptor yX1_runs.desc).map (fun d => d.parameters.length) = some 1 := by decide +kernel
theorem hdo_X4_36 : ("NylonLadder$Plain" : String) ≠ "java/lang/invoke/MethodHandle" ∧ ("NylonLadder$Plain" : String) ≠ "java/lang/invoke/VarHandle" ∧ (parseMethodDescriptor "(I)I").map (fun d => d.parameters.length) = some 1 := by decide +kernel
theorem gu_X4_36_4 : GoodIn gT (va_wsO "NylonLadder$Plain" 36 "NylonLadder$Lined" "NylonLadder$Plain" ⟨"NylonLadder$Plain", "runs", "(I)I"⟩ yX1_runs (Cond.code yX1_runs cX1_runs 2 (some .int) :: gT)) := good_O T_5_182 T_5_61 T_5_59 T_5_62 T_5_63 T_1_21 T_5_64
def fX4_dries_k4 (M : Mm) (o : Nat) (p1 : Int32) : Option (Int32 × Mm) :=
  B1 (rdN M o 4 2) fun a1_1 =>
  B1 (fJ6_valueOf_2dffe M 11) fun x6_2 =>
  B1 (gk M a1_1 2) fun _ =>
  B2 (fJx4a65c_add_9ea2d M a1_1 x6_2) fun x9_4 M9_5 =>
  B1 (gk M9_5 o 4) fun _ =>
  B2 (fX1_runs_k4 M9_5 o p1) fun x15_7 M15_8 =>
  some ((x15_7 * 2), M15_8)
set_option maxRecDepth 100000 in
set_option maxHeartbeats 4000000 in
theorem qX4_dries_k4 (l : Launch) (E : Ev) {M : Mm} {o : Nat} {p1 : Int32} {rz : Int32} {Mz : Mm} (hf : fX4_dries_k4 M o p1 = some (rz, Mz)) : Ct l E yX4_dries cX4_dries 2 (some .int) 10 212 4 60 [.ref (E.b + o), .int p1] M (some (.int rz)) Mz := by
  refine ct_of (by decide +kernel) (Nat.le_of_ble_eq_true rfl) fun p e s m args below meth c C hr hin hW ls hl => ?_
  have hl : lv_has ls 2 [(0, .ref (E.b + o)), (1, .int p1)] := hl
  unfold fX4_dries_k4 at hf
  refine lv_aload_n C.x C.b dX4_dries_0 rfl (lv_at hl 0 rfl) ?_
  obtain ⟨a1_1, ha1_1, hf⟩ := x_b1 hf
  refine x_getn C hW fg_X4_20_4 ha1_1 dX4_dries_1 ?_
  refine lv_bipush (v := 11) C.x C.b dX4_dries_4 (by decide) ?_
  obtain ⟨x6_2, hx6_2, hf⟩ := x_b1 hf
  refine x_callS (As := [.int 11]) (rest := [.ref (E.b + a1_1)]) C hW hl (qJ6_valueOf_2dffe l E hx6_2) gs_X4_24 hd_J6_valueOf_2dffe rfl rfl (Nat.le_of_ble_eq_true rfl) dX4_dries_6 ⟨Nat.le_of_ble_eq_true rfl, Nat.le_of_ble_eq_true rfl⟩ ⟨Nat.le_of_ble_eq_true rfl, Nat.le_of_ble_eq_true rfl⟩ (fun H locs hW => ?_)
  obtain ⟨_, hk9_3, hf⟩ := x_b1 hf
  obtain ⟨x9_4, M9_5, hx9_4, hf⟩ := x_b2 hf
  refine x_callV (As := [.ref (bxA E x6_2)]) (a := a1_1) (rest := []) C hW hl (qJx4a65c_add_9ea2d l E hx9_4) (x_gk hk9_3) (by decide) (by decide) rfl gv_X4_30 ⟨rfl, hd_Jx4a65c_add_9ea2d⟩ rfl rfl (Nat.le_of_ble_eq_true rfl) dX4_dries_9 ⟨Nat.le_of_ble_eq_true rfl, Nat.le_of_ble_eq_true rfl⟩ ⟨Nat.le_of_ble_eq_true rfl, Nat.le_of_ble_eq_true rfl⟩ (fun H locs hW => ?_)
  refine lv_pop C.x C.b dX4_dries_12 rfl ?_
  refine lv_aload_n C.x C.b dX4_dries_13 rfl (lv_at hl 0 rfl) ?_
  refine lv_iload_n C.x C.b dX4_dries_14 rfl (lv_at hl 1 rfl) ?_
  obtain ⟨_, hk15_6, hf⟩ := x_b1 hf
  obtain ⟨x15_7, M15_8, hx15_7, hf⟩ := x_b2 hf
  refine x_callO (owner := "NylonLadder$Plain") (x := ⟨"NylonLadder$Plain", "runs", "(I)I"⟩) (As := [.int p1]) (a := o) (rest := []) C hW hl (qX1_runs_k4 l E hx15_7) (x_gk hk15_6) (by decide) (by decide) rfl gu_X4_36_4 T_5_158 hdo_X4_36 rfl rfl (Nat.le_of_ble_eq_true rfl) dX4_dries_15 ⟨Nat.le_of_ble_eq_true rfl, Nat.le_of_ble_eq_true rfl⟩ ⟨Nat.le_of_ble_eq_true rfl, Nat.le_of_ble_eq_true rfl⟩ (fun H locs hW => ?_)
  refine lv_iconst (v := 2) C.x C.b dX4_dries_18 (by decide) ?_
  refine lv_imul C.x C.b dX4_dries_19 ?_
  rw [x_e1 hf, x_e2 hf]
  exact x_iret C hr hW dX4_dries_20

theorem dX1_dries_0 : decode cX1_dries 0 = .ok (.aload_n 0, 1) := by decide +kernel
theorem dX1_dries_1 : decode cX1_dries 1 = .ok (.getfield 7, 3) := by decide +kernel
theorem dX1_dries_4 : decode cX1_dries 4 = .ok (.bipush 41, 2) := by decide +kernel
theorem dX1_dries_6 : decode cX1_dries 6 = .ok (.invokestatic 13, 3) := by decide +kernel
theorem dX1_dries_9 : decode cX1_dries 9 = .ok (.invokevirtual 19, 3) := by decide +kernel
theorem dX1_dries_12 : decode cX1_dries 12 = .ok (.pop, 1) := by decide +kernel
theorem dX1_dries_13 : decode cX1_dries 13 = .ok (.aload_n 0, 1) := by decide +kernel
theorem dX1_dries_14 : decode cX1_dries 14 = .ok (.iload_n 1, 1) := by decide +kernel
theorem dX1_dries_15 : decode cX1_dries 15 = .ok (.invokespecial 29, 3) := by decide +kernel
theorem dX1_dries_18 : decode cX1_dries 18 = .ok (.aload_n 0, 1) := by decide +kernel
theorem dX1_dries_19 : decode cX1_dries 19 = .ok (.aload_n 0, 1) := by decide +kernel
theorem dX1_dries_20 : decode cX1_dries 20 = .ok (.getfield 32, 3) := by decide +kernel
theorem dX1_dries_23 : decode cX1_dries 23 = .ok (.invokevirtual 36, 3) := by decide +kernel
theorem dX1_dries_26 : decode cX1_dries 26 = .ok (.iadd, 1) := by decide +kernel
theorem dX1_dries_27 : decode cX1_dries 27 = .ok (.ireturn, 1) := by decide +kernel
theorem hd_X4_dries : yX4_dries.cls ≠ "java/lang/invoke/MethodHandle" ∧ yX4_dries.cls ≠ "java/lang/invoke/VarHandle" ∧ (parseMethodDescriptor yX4_dries.desc).map (fun d => d.parameters.length) = some 1 := by decide +kernel
theorem hdn_X4_dries : yX4_dries.name ≠ "<init>" ∧ (parseMethodDescriptor yX4_dries.desc).map (fun d => d.parameters.length) = some 1 := by decide +kernel
theorem gp_X1_29 : GoodIn gT (sup_ws "NylonLadder$Lined" "NylonLadder$Plain" 29 ⟨"NylonLadder$Thick", "dries", "(I)I"⟩ yX4_dries (Cond.code yX4_dries cX4_dries 2 (some .int) :: gT)) := good_SX T_5_168 T_5_169 T_5_38 T_5_16 T_5_162 T_1_17 T_5_181
theorem fg_X1_32_4 : FdG "NylonLadder$Lined" 32 4 0 false := ⟨_, _, _, _, rfl, by decide, by decide, by decide, gxX1, by decide, T_4_213, Or.inr T_4_214, rfl⟩
theorem hdo_X1_36 : ("NylonLadder$Lined" : String) ≠ "java/lang/invoke/MethodHandle" ∧ ("NylonLadder$Lined" : String) ≠ "java/lang/invoke/VarHandle" ∧ (parseMethodDescriptor "(I)I").map (fun d => d.parameters.length) = some 1 := by decide +kernel
theorem gu_X1_36_4 : GoodIn gT (wsV "NylonLadder$Lined" 36 "NylonLadder$Lined" yX1_runs (Cond.code yX1_runs cX1_runs 2 (some .int) :: gT)) := good_V T_5_171 T_5_63 T_8_238 T_1_21 T_5_64
def fX1_dries_k4 (M : Mm) (o : Nat) (p1 : Int32) : Option (Int32 × Mm) :=
  B1 (rdN M o 4 2) fun a1_1 =>
  B1 (fJ6_valueOf_2dffe M 41) fun x6_2 =>
  B1 (gk M a1_1 2) fun _ =>
  B2 (fJx4a65c_add_9ea2d M a1_1 x6_2) fun x9_4 M9_5 =>
  B1 (gk M9_5 o 4) fun _ =>
  B2 (fX4_dries_k4 M9_5 o p1) fun x15_7 M15_8 =>
  B1 (rdI M15_8 o 4 0) fun x20_9 =>
  B1 (gk M15_8 o 4) fun _ =>
  B2 (fX1_runs_k4 M15_8 o x20_9) fun x23_11 M23_12 =>
  some ((x15_7 + x23_11), M23_12)
set_option maxRecDepth 100000 in
set_option maxHeartbeats 4000000 in
theorem qX1_dries_k4 (l : Launch) (E : Ev) {M : Mm} {o : Nat} {p1 : Int32} {rz : Int32} {Mz : Mm} (hf : fX1_dries_k4 M o p1 = some (rz, Mz)) : Ct l E yX1_dries cX1_dries 2 (some .int) 11 233 8 120 [.ref (E.b + o), .int p1] M (some (.int rz)) Mz := by
  refine ct_of (by decide +kernel) (Nat.le_of_ble_eq_true rfl) fun p e s m args below meth c C hr hin hW ls hl => ?_
  have hl : lv_has ls 2 [(0, .ref (E.b + o)), (1, .int p1)] := hl
  unfold fX1_dries_k4 at hf
  refine lv_aload_n C.x C.b dX1_dries_0 rfl (lv_at hl 0 rfl) ?_
  obtain ⟨a1_1, ha1_1, hf⟩ := x_b1 hf
  refine x_getn C hW fg_X1_7_4 ha1_1 dX1_dries_1 ?_
  refine lv_bipush (v := 41) C.x C.b dX1_dries_4 (by decide) ?_
  obtain ⟨x6_2, hx6_2, hf⟩ := x_b1 hf
  refine x_callS (As := [.int 41]) (rest := [.ref (E.b + a1_1)]) C hW hl (qJ6_valueOf_2dffe l E hx6_2) gs_X1_13 hd_J6_valueOf_2dffe rfl rfl (Nat.le_of_ble_eq_true rfl) dX1_dries_6 ⟨Nat.le_of_ble_eq_true rfl, Nat.le_of_ble_eq_true rfl⟩ ⟨Nat.le_of_ble_eq_true rfl, Nat.le_of_ble_eq_true rfl⟩ (fun H locs hW => ?_)
  obtain ⟨_, hk9_3, hf⟩ := x_b1 hf
  obtain ⟨x9_4, M9_5, hx9_4, hf⟩ := x_b2 hf
  refine x_callV (As := [.ref (bxA E x6_2)]) (a := a1_1) (rest := []) C hW hl (qJx4a65c_add_9ea2d l E hx9_4) (x_gk hk9_3) (by decide) (by decide) rfl gv_X1_19 ⟨rfl, hd_Jx4a65c_add_9ea2d⟩ rfl rfl (Nat.le_of_ble_eq_true rfl) dX1_dries_9 ⟨Nat.le_of_ble_eq_true rfl, Nat.le_of_ble_eq_true rfl⟩ ⟨Nat.le_of_ble_eq_true rfl, Nat.le_of_ble_eq_true rfl⟩ (fun H locs hW => ?_)
  refine lv_pop C.x C.b dX1_dries_12 rfl ?_
  refine lv_aload_n C.x C.b dX1_dries_13 rfl (lv_at hl 0 rfl) ?_
  refine lv_iload_n C.x C.b dX1_dries_14 rfl (lv_at hl 1 rfl) ?_
  obtain ⟨_, hk15_6, hf⟩ := x_b1 hf
  obtain ⟨x15_7, M15_8, hx15_7, hf⟩ := x_b2 hf
  refine x_callSX (owner := "NylonLadder$Plain") (x := ⟨"NylonLadder$Thick", "dries", "(I)I"⟩) (As := [.int p1]) (a := o) (rest := []) C hW hl (qX4_dries_k4 l E hx15_7) (x_gk hk15_6) (by decide) (by decide) rfl gp_X1_29 rfl hdn_X4_dries rfl rfl (Nat.le_of_ble_eq_true rfl) dX1_dries_15 ⟨Nat.le_of_ble_eq_true rfl, Nat.le_of_ble_eq_true rfl⟩ ⟨Nat.le_of_ble_eq_true rfl, Nat.le_of_ble_eq_true rfl⟩ (fun H locs hW => ?_)
  refine lv_aload_n C.x C.b dX1_dries_18 rfl (lv_at hl 0 rfl) ?_
  refine lv_aload_n C.x C.b dX1_dries_19 rfl (lv_at hl 0 rfl) ?_
  obtain ⟨x20_9, hx20_9, hf⟩ := x_b1 hf
  refine x_geti C hW fg_X1_32_4 hx20_9 dX1_dries_20 ?_
  obtain ⟨_, hk23_10, hf⟩ := x_b1 hf
  obtain ⟨x23_11, M23_12, hx23_11, hf⟩ := x_b2 hf
  refine x_callV (As := [.int x20_9]) (a := o) (rest := [.int x15_7]) C hW hl (qX1_runs_k4 l E hx23_11) (x_gk hk23_10) (by decide) (by decide) rfl gu_X1_36_4 ⟨rfl, hd_X1_runs⟩ rfl rfl (Nat.le_of_ble_eq_true rfl) dX1_dries_23 ⟨Nat.le_of_ble_eq_true rfl, Nat.le_of_ble_eq_true rfl⟩ ⟨Nat.le_of_ble_eq_true rfl, Nat.le_of_ble_eq_true rfl⟩ (fun H locs hW => ?_)
  refine lv_iadd C.x C.b dX1_dries_26 ?_
  rw [x_e1 hf, x_e2 hf]
  exact x_iret C hr hW dX1_dries_27

theorem hd_X2_runs : yX2_runs.cls ≠ "java/lang/invoke/MethodHandle" ∧ yX2_runs.cls ≠ "java/lang/invoke/VarHandle" ∧ (parseMethodDescriptor yX2_runs.desc).map (fun d => d.parameters.length) = some 1 := by decide +kernel
theorem gu_X4_36_5 : GoodIn gT (va_wsO "NylonLadder$Plain" 36 "NylonLadder$Mesh" "NylonLadder$Plain" ⟨"NylonLadder$Plain", "runs", "(I)I"⟩ yX2_runs (Cond.code yX2_runs cX2_runs 2 (some .int) :: gT)) := good_O T_5_182 T_5_61 T_5_59 T_5_147 T_5_148 T_1_20 T_5_149
def fX4_dries_k5 (M : Mm) (o : Nat) (p1 : Int32) : Option (Int32 × Mm) :=
  B1 (rdN M o 5 2) fun a1_1 =>
  B1 (fJ6_valueOf_2dffe M 11) fun x6_2 =>
  B1 (gk M a1_1 2) fun _ =>
  B2 (fJx4a65c_add_9ea2d M a1_1 x6_2) fun x9_4 M9_5 =>
  B1 (gk M9_5 o 5) fun _ =>
  B2 (fX2_runs_k5 M9_5 o p1) fun x15_7 M15_8 =>
  some ((x15_7 * 2), M15_8)
set_option maxRecDepth 100000 in
set_option maxHeartbeats 4000000 in
theorem qX4_dries_k5 (l : Launch) (E : Ev) {M : Mm} {o : Nat} {p1 : Int32} {rz : Int32} {Mz : Mm} (hf : fX4_dries_k5 M o p1 = some (rz, Mz)) : Ct l E yX4_dries cX4_dries 2 (some .int) 9 191 3 45 [.ref (E.b + o), .int p1] M (some (.int rz)) Mz := by
  refine ct_of (by decide +kernel) (Nat.le_of_ble_eq_true rfl) fun p e s m args below meth c C hr hin hW ls hl => ?_
  have hl : lv_has ls 2 [(0, .ref (E.b + o)), (1, .int p1)] := hl
  unfold fX4_dries_k5 at hf
  refine lv_aload_n C.x C.b dX4_dries_0 rfl (lv_at hl 0 rfl) ?_
  obtain ⟨a1_1, ha1_1, hf⟩ := x_b1 hf
  refine x_getn C hW fg_X4_20_5 ha1_1 dX4_dries_1 ?_
  refine lv_bipush (v := 11) C.x C.b dX4_dries_4 (by decide) ?_
  obtain ⟨x6_2, hx6_2, hf⟩ := x_b1 hf
  refine x_callS (As := [.int 11]) (rest := [.ref (E.b + a1_1)]) C hW hl (qJ6_valueOf_2dffe l E hx6_2) gs_X4_24 hd_J6_valueOf_2dffe rfl rfl (Nat.le_of_ble_eq_true rfl) dX4_dries_6 ⟨Nat.le_of_ble_eq_true rfl, Nat.le_of_ble_eq_true rfl⟩ ⟨Nat.le_of_ble_eq_true rfl, Nat.le_of_ble_eq_true rfl⟩ (fun H locs hW => ?_)
  obtain ⟨_, hk9_3, hf⟩ := x_b1 hf
  obtain ⟨x9_4, M9_5, hx9_4, hf⟩ := x_b2 hf
  refine x_callV (As := [.ref (bxA E x6_2)]) (a := a1_1) (rest := []) C hW hl (qJx4a65c_add_9ea2d l E hx9_4) (x_gk hk9_3) (by decide) (by decide) rfl gv_X4_30 ⟨rfl, hd_Jx4a65c_add_9ea2d⟩ rfl rfl (Nat.le_of_ble_eq_true rfl) dX4_dries_9 ⟨Nat.le_of_ble_eq_true rfl, Nat.le_of_ble_eq_true rfl⟩ ⟨Nat.le_of_ble_eq_true rfl, Nat.le_of_ble_eq_true rfl⟩ (fun H locs hW => ?_)
  refine lv_pop C.x C.b dX4_dries_12 rfl ?_
  refine lv_aload_n C.x C.b dX4_dries_13 rfl (lv_at hl 0 rfl) ?_
  refine lv_iload_n C.x C.b dX4_dries_14 rfl (lv_at hl 1 rfl) ?_
  obtain ⟨_, hk15_6, hf⟩ := x_b1 hf
  obtain ⟨x15_7, M15_8, hx15_7, hf⟩ := x_b2 hf
  refine x_callO (owner := "NylonLadder$Plain") (x := ⟨"NylonLadder$Plain", "runs", "(I)I"⟩) (As := [.int p1]) (a := o) (rest := []) C hW hl (qX2_runs_k5 l E hx15_7) (x_gk hk15_6) (by decide) (by decide) rfl gu_X4_36_5 T_5_158 hdo_X4_36 rfl rfl (Nat.le_of_ble_eq_true rfl) dX4_dries_15 ⟨Nat.le_of_ble_eq_true rfl, Nat.le_of_ble_eq_true rfl⟩ ⟨Nat.le_of_ble_eq_true rfl, Nat.le_of_ble_eq_true rfl⟩ (fun H locs hW => ?_)
  refine lv_iconst (v := 2) C.x C.b dX4_dries_18 (by decide) ?_
  refine lv_imul C.x C.b dX4_dries_19 ?_
  rw [x_e1 hf, x_e2 hf]
  exact x_iret C hr hW dX4_dries_20

theorem dX5_dries_0 : decode cX5_dries 0 = .ok (.aload_n 0, 1) := by decide +kernel
theorem dX5_dries_1 : decode cX5_dries 1 = .ok (.getfield 7, 3) := by decide +kernel
theorem dX5_dries_4 : decode cX5_dries 4 = .ok (.bipush 20, 2) := by decide +kernel
theorem dX5_dries_6 : decode cX5_dries 6 = .ok (.invokestatic 13, 3) := by decide +kernel
theorem dX5_dries_9 : decode cX5_dries 9 = .ok (.invokevirtual 19, 3) := by decide +kernel
theorem dX5_dries_12 : decode cX5_dries 12 = .ok (.pop, 1) := by decide +kernel
theorem dX5_dries_13 : decode cX5_dries 13 = .ok (.aload_n 0, 1) := by decide +kernel
theorem dX5_dries_14 : decode cX5_dries 14 = .ok (.iload_n 1, 1) := by decide +kernel
theorem dX5_dries_15 : decode cX5_dries 15 = .ok (.invokespecial 25, 3) := by decide +kernel
theorem dX5_dries_18 : decode cX5_dries 18 = .ok (.aload_n 0, 1) := by decide +kernel
theorem dX5_dries_19 : decode cX5_dries 19 = .ok (.getfield 29, 3) := by decide +kernel
theorem dX5_dries_22 : decode cX5_dries 22 = .ok (.isub, 1) := by decide +kernel
theorem dX5_dries_23 : decode cX5_dries 23 = .ok (.ireturn, 1) := by decide +kernel
theorem fg_X5_7_5 : FdG "NylonLadder$Sheer" 7 5 2 true := ⟨_, _, _, _, rfl, by decide, by decide, by decide, gxX2, by decide, T_4_227, Or.inr T_4_228, rfl⟩
theorem gs_X5_13 : GoodIn gT (va_wsS "NylonLadder$Sheer" 13 yJ6_valueOf_2dffe (Cond.code yJ6_valueOf_2dffe cJ6_valueOf_2dffe 1 (some (.object "java/lang/Integer")) :: gT)) := good_S T_5_175 T_5_66 T_1_24 T_5_67
theorem gv_X5_19 : GoodIn gT (wsV "NylonLadder$Sheer" 19 "java/util/ArrayList" yJx4a65c_add_9ea2d (Cond.code yJx4a65c_add_9ea2d cJx4a65c_add_9ea2d 2 (some .boolean) :: gT)) := good_V T_5_176 T_5_86 T_5_87 T_1_9 T_5_88
theorem gp_X5_25 : GoodIn gT (va_wsSU "NylonLadder$Sheer" 25 yX4_dries (Cond.code yX4_dries cX4_dries 2 (some .int) :: gT)) := good_SU T_5_177 T_5_164 T_5_5 T_5_162 T_1_17 T_5_181
theorem fg_X5_29_5 : FdG "NylonLadder$Sheer" 29 5 1 false := ⟨_, _, _, _, rfl, by decide, by decide, by decide, gxX2, by decide, T_4_218, Or.inr T_4_219, rfl⟩
def fX5_dries_k5 (M : Mm) (o : Nat) (p1 : Int32) : Option (Int32 × Mm) :=
  B1 (rdN M o 5 2) fun a1_1 =>
  B1 (fJ6_valueOf_2dffe M 20) fun x6_2 =>
  B1 (gk M a1_1 2) fun _ =>
  B2 (fJx4a65c_add_9ea2d M a1_1 x6_2) fun x9_4 M9_5 =>
  B1 (gk M9_5 o 5) fun _ =>
  B2 (fX4_dries_k5 M9_5 o p1) fun x15_7 M15_8 =>
  B1 (rdI M15_8 o 5 1) fun x19_9 =>
  some ((x15_7 - x19_9), M15_8)
set_option maxRecDepth 100000 in
set_option maxHeartbeats 4000000 in
theorem qX5_dries_k5 (l : Launch) (E : Ev) {M : Mm} {o : Nat} {p1 : Int32} {rz : Int32} {Mz : Mm} (hf : fX5_dries_k5 M o p1 = some (rz, Mz)) : Ct l E yX5_dries cX5_dries 2 (some .int) 10 212 4 60 [.ref (E.b + o), .int p1] M (some (.int rz)) Mz := by
  refine ct_of (by decide +kernel) (Nat.le_of_ble_eq_true rfl) fun p e s m args below meth c C hr hin hW ls hl => ?_
  have hl : lv_has ls 2 [(0, .ref (E.b + o)), (1, .int p1)] := hl
  unfold fX5_dries_k5 at hf
  refine lv_aload_n C.x C.b dX5_dries_0 rfl (lv_at hl 0 rfl) ?_
  obtain ⟨a1_1, ha1_1, hf⟩ := x_b1 hf
  refine x_getn C hW fg_X5_7_5 ha1_1 dX5_dries_1 ?_
  refine lv_bipush (v := 20) C.x C.b dX5_dries_4 (by decide) ?_
  obtain ⟨x6_2, hx6_2, hf⟩ := x_b1 hf
  refine x_callS (As := [.int 20]) (rest := [.ref (E.b + a1_1)]) C hW hl (qJ6_valueOf_2dffe l E hx6_2) gs_X5_13 hd_J6_valueOf_2dffe rfl rfl (Nat.le_of_ble_eq_true rfl) dX5_dries_6 ⟨Nat.le_of_ble_eq_true rfl, Nat.le_of_ble_eq_true rfl⟩ ⟨Nat.le_of_ble_eq_true rfl, Nat.le_of_ble_eq_true rfl⟩ (fun H locs hW => ?_)
  obtain ⟨_, hk9_3, hf⟩ := x_b1 hf
  obtain ⟨x9_4, M9_5, hx9_4, hf⟩ := x_b2 hf
  refine x_callV (As := [.ref (bxA E x6_2)]) (a := a1_1) (rest := []) C hW hl (qJx4a65c_add_9ea2d l E hx9_4) (x_gk hk9_3) (by decide) (by decide) rfl gv_X5_19 ⟨rfl, hd_Jx4a65c_add_9ea2d⟩ rfl rfl (Nat.le_of_ble_eq_true rfl) dX5_dries_9 ⟨Nat.le_of_ble_eq_true rfl, Nat.le_of_ble_eq_true rfl⟩ ⟨Nat.le_of_ble_eq_true rfl, Nat.le_of_ble_eq_true rfl⟩ (fun H locs hW => ?_)
  refine lv_pop C.x C.b dX5_dries_12 rfl ?_
  refine lv_aload_n C.x C.b dX5_dries_13 rfl (lv_at hl 0 rfl) ?_
  refine lv_iload_n C.x C.b dX5_dries_14 rfl (lv_at hl 1 rfl) ?_
  obtain ⟨_, hk15_6, hf⟩ := x_b1 hf
  obtain ⟨x15_7, M15_8, hx15_7, hf⟩ := x_b2 hf
  refine x_callSU (As := [.int p1]) (a := o) (rest := []) C hW hl (qX4_dries_k5 l E hx15_7) (x_gk hk15_6) (by decide) (by decide) rfl gp_X5_25 hdn_X4_dries rfl rfl (Nat.le_of_ble_eq_true rfl) dX5_dries_15 ⟨Nat.le_of_ble_eq_true rfl, Nat.le_of_ble_eq_true rfl⟩ ⟨Nat.le_of_ble_eq_true rfl, Nat.le_of_ble_eq_true rfl⟩ (fun H locs hW => ?_)
  refine lv_aload_n C.x C.b dX5_dries_18 rfl (lv_at hl 0 rfl) ?_
  obtain ⟨x19_9, hx19_9, hf⟩ := x_b1 hf
  refine x_geti C hW fg_X5_29_5 hx19_9 dX5_dries_19 ?_
  refine lv_isub C.x C.b dX5_dries_22 ?_
  rw [x_e1 hf, x_e2 hf]
  exact x_iret C hr hW dX5_dries_23

theorem gu_X4_36_6 : GoodIn gT (va_wsU "NylonLadder$Plain" 36 "NylonLadder$Old" "NylonLadder$Plain" ⟨"NylonLadder$Plain", "runs", "(I)I"⟩ yX4_runs (Cond.code yX4_runs cX4_runs 2 (some .int) :: gT)) := good_U T_5_182 T_5_61 T_5_155 T_5_59 T_1_17 T_5_158
def fX4_dries_k6 (M : Mm) (o : Nat) (p1 : Int32) : Option (Int32 × Mm) :=
  B1 (rdN M o 6 2) fun a1_1 =>
  B1 (fJ6_valueOf_2dffe M 11) fun x6_2 =>
  B1 (gk M a1_1 2) fun _ =>
  B2 (fJx4a65c_add_9ea2d M a1_1 x6_2) fun x9_4 M9_5 =>
  B1 (gk M9_5 o 6) fun _ =>
  B2 (fX4_runs_k6 M9_5 o p1) fun x15_7 M15_8 =>
  some ((x15_7 * 2), M15_8)
set_option maxRecDepth 100000 in
set_option maxHeartbeats 4000000 in
theorem qX4_dries_k6 (l : Launch) (E : Ev) {M : Mm} {o : Nat} {p1 : Int32} {rz : Int32} {Mz : Mm} (hf : fX4_dries_k6 M o p1 = some (rz, Mz)) : Ct l E yX4_dries cX4_dries 2 (some .int) 8 170 2 30 [.ref (E.b + o), .int p1] M (some (.int rz)) Mz := by
  refine ct_of (by decide +kernel) (Nat.le_of_ble_eq_true rfl) fun p e s m args below meth c C hr hin hW ls hl => ?_
  have hl : lv_has ls 2 [(0, .ref (E.b + o)), (1, .int p1)] := hl
  unfold fX4_dries_k6 at hf
  refine lv_aload_n C.x C.b dX4_dries_0 rfl (lv_at hl 0 rfl) ?_
  obtain ⟨a1_1, ha1_1, hf⟩ := x_b1 hf
  refine x_getn C hW fg_X4_20_6 ha1_1 dX4_dries_1 ?_
  refine lv_bipush (v := 11) C.x C.b dX4_dries_4 (by decide) ?_
  obtain ⟨x6_2, hx6_2, hf⟩ := x_b1 hf
  refine x_callS (As := [.int 11]) (rest := [.ref (E.b + a1_1)]) C hW hl (qJ6_valueOf_2dffe l E hx6_2) gs_X4_24 hd_J6_valueOf_2dffe rfl rfl (Nat.le_of_ble_eq_true rfl) dX4_dries_6 ⟨Nat.le_of_ble_eq_true rfl, Nat.le_of_ble_eq_true rfl⟩ ⟨Nat.le_of_ble_eq_true rfl, Nat.le_of_ble_eq_true rfl⟩ (fun H locs hW => ?_)
  obtain ⟨_, hk9_3, hf⟩ := x_b1 hf
  obtain ⟨x9_4, M9_5, hx9_4, hf⟩ := x_b2 hf
  refine x_callV (As := [.ref (bxA E x6_2)]) (a := a1_1) (rest := []) C hW hl (qJx4a65c_add_9ea2d l E hx9_4) (x_gk hk9_3) (by decide) (by decide) rfl gv_X4_30 ⟨rfl, hd_Jx4a65c_add_9ea2d⟩ rfl rfl (Nat.le_of_ble_eq_true rfl) dX4_dries_9 ⟨Nat.le_of_ble_eq_true rfl, Nat.le_of_ble_eq_true rfl⟩ ⟨Nat.le_of_ble_eq_true rfl, Nat.le_of_ble_eq_true rfl⟩ (fun H locs hW => ?_)
  refine lv_pop C.x C.b dX4_dries_12 rfl ?_
  refine lv_aload_n C.x C.b dX4_dries_13 rfl (lv_at hl 0 rfl) ?_
  refine lv_iload_n C.x C.b dX4_dries_14 rfl (lv_at hl 1 rfl) ?_
  obtain ⟨_, hk15_6, hf⟩ := x_b1 hf
  obtain ⟨x15_7, M15_8, hx15_7, hf⟩ := x_b2 hf
  refine x_callU (owner := "NylonLadder$Plain") (x := ⟨"NylonLadder$Plain", "runs", "(I)I"⟩) (As := [.int p1]) (a := o) (rest := []) C hW hl (qX4_runs_k6 l E hx15_7) (x_gk hk15_6) (by decide) (by decide) rfl gu_X4_36_6 rfl hdo_X4_36 rfl rfl (Nat.le_of_ble_eq_true rfl) dX4_dries_15 ⟨Nat.le_of_ble_eq_true rfl, Nat.le_of_ble_eq_true rfl⟩ ⟨Nat.le_of_ble_eq_true rfl, Nat.le_of_ble_eq_true rfl⟩ (fun H locs hW => ?_)
  refine lv_iconst (v := 2) C.x C.b dX4_dries_18 (by decide) ?_
  refine lv_imul C.x C.b dX4_dries_19 ?_
  rw [x_e1 hf, x_e2 hf]
  exact x_iret C hr hW dX4_dries_20

theorem gu_X4_36_12 : GoodIn gT (va_wsO "NylonLadder$Plain" 36 "NylonLadder$Thick" "NylonLadder$Plain" ⟨"NylonLadder$Plain", "runs", "(I)I"⟩ yX9_runs (Cond.code yX9_runs cX9_runs 2 (some .int) :: gT)) := good_O T_5_182 T_5_61 T_5_59 T_5_157 T_5_142 T_1_19 T_5_143
def fX4_dries_k12 (M : Mm) (o : Nat) (p1 : Int32) : Option (Int32 × Mm) :=
  B1 (rdN M o 12 2) fun a1_1 =>
  B1 (fJ6_valueOf_2dffe M 11) fun x6_2 =>
  B1 (gk M a1_1 2) fun _ =>
  B2 (fJx4a65c_add_9ea2d M a1_1 x6_2) fun x9_4 M9_5 =>
  B1 (gk M9_5 o 12) fun _ =>
  B2 (fX9_runs_k12 M9_5 o p1) fun x15_7 M15_8 =>
  some ((x15_7 * 2), M15_8)
set_option maxRecDepth 100000 in
set_option maxHeartbeats 4000000 in
theorem qX4_dries_k12 (l : Launch) (E : Ev) {M : Mm} {o : Nat} {p1 : Int32} {rz : Int32} {Mz : Mm} (hf : fX4_dries_k12 M o p1 = some (rz, Mz)) : Ct l E yX4_dries cX4_dries 2 (some .int) 9 191 3 45 [.ref (E.b + o), .int p1] M (some (.int rz)) Mz := by
  refine ct_of (by decide +kernel) (Nat.le_of_ble_eq_true rfl) fun p e s m args below meth c C hr hin hW ls hl => ?_
  have hl : lv_has ls 2 [(0, .ref (E.b + o)), (1, .int p1)] := hl
  unfold fX4_dries_k12 at hf
  refine lv_aload_n C.x C.b dX4_dries_0 rfl (lv_at hl 0 rfl) ?_
  obtain ⟨a1_1, ha1_1, hf⟩ := x_b1 hf
  refine x_getn C hW fg_X4_20_12 ha1_1 dX4_dries_1 ?_
  refine lv_bipush (v := 11) C.x C.b dX4_dries_4 (by decide) ?_
  obtain ⟨x6_2, hx6_2, hf⟩ := x_b1 hf
  refine x_callS (As := [.int 11]) (rest := [.ref (E.b + a1_1)]) C hW hl (qJ6_valueOf_2dffe l E hx6_2) gs_X4_24 hd_J6_valueOf_2dffe rfl rfl (Nat.le_of_ble_eq_true rfl) dX4_dries_6 ⟨Nat.le_of_ble_eq_true rfl, Nat.le_of_ble_eq_true rfl⟩ ⟨Nat.le_of_ble_eq_true rfl, Nat.le_of_ble_eq_true rfl⟩ (fun H locs hW => ?_)
  obtain ⟨_, hk9_3, hf⟩ := x_b1 hf
  obtain ⟨x9_4, M9_5, hx9_4, hf⟩ := x_b2 hf
  refine x_callV (As := [.ref (bxA E x6_2)]) (a := a1_1) (rest := []) C hW hl (qJx4a65c_add_9ea2d l E hx9_4) (x_gk hk9_3) (by decide) (by decide) rfl gv_X4_30 ⟨rfl, hd_Jx4a65c_add_9ea2d⟩ rfl rfl (Nat.le_of_ble_eq_true rfl) dX4_dries_9 ⟨Nat.le_of_ble_eq_true rfl, Nat.le_of_ble_eq_true rfl⟩ ⟨Nat.le_of_ble_eq_true rfl, Nat.le_of_ble_eq_true rfl⟩ (fun H locs hW => ?_)
  refine lv_pop C.x C.b dX4_dries_12 rfl ?_
  refine lv_aload_n C.x C.b dX4_dries_13 rfl (lv_at hl 0 rfl) ?_
  refine lv_iload_n C.x C.b dX4_dries_14 rfl (lv_at hl 1 rfl) ?_
  obtain ⟨_, hk15_6, hf⟩ := x_b1 hf
  obtain ⟨x15_7, M15_8, hx15_7, hf⟩ := x_b2 hf
  refine x_callO (owner := "NylonLadder$Plain") (x := ⟨"NylonLadder$Plain", "runs", "(I)I"⟩) (As := [.int p1]) (a := o) (rest := []) C hW hl (qX9_runs_k12 l E hx15_7) (x_gk hk15_6) (by decide) (by decide) rfl gu_X4_36_12 T_5_158 hdo_X4_36 rfl rfl (Nat.le_of_ble_eq_true rfl) dX4_dries_15 ⟨Nat.le_of_ble_eq_true rfl, Nat.le_of_ble_eq_true rfl⟩ ⟨Nat.le_of_ble_eq_true rfl, Nat.le_of_ble_eq_true rfl⟩ (fun H locs hW => ?_)
  refine lv_iconst (v := 2) C.x C.b dX4_dries_18 (by decide) ?_
  refine lv_imul C.x C.b dX4_dries_19 ?_
  rw [x_e1 hf, x_e2 hf]
  exact x_iret C hr hW dX4_dries_20

theorem gu_X4_36_8 : GoodIn gT (va_wsU "NylonLadder$Plain" 36 "NylonLadder$Sheer" "NylonLadder$Plain" ⟨"NylonLadder$Plain", "runs", "(I)I"⟩ yX4_runs (Cond.code yX4_runs cX4_runs 2 (some .int) :: gT)) := good_U T_5_182 T_5_61 T_5_156 T_5_59 T_1_17 T_5_158
def fX4_dries_k8 (M : Mm) (o : Nat) (p1 : Int32) : Option (Int32 × Mm) :=
  B1 (rdN M o 8 2) fun a1_1 =>
  B1 (fJ6_valueOf_2dffe M 11) fun x6_2 =>
  B1 (gk M a1_1 2) fun _ =>
  B2 (fJx4a65c_add_9ea2d M a1_1 x6_2) fun x9_4 M9_5 =>
  B1 (gk M9_5 o 8) fun _ =>
  B2 (fX4_runs_k8 M9_5 o p1) fun x15_7 M15_8 =>
  some ((x15_7 * 2), M15_8)
set_option maxRecDepth 100000 in
set_option maxHeartbeats 4000000 in
theorem qX4_dries_k8 (l : Launch) (E : Ev) {M : Mm} {o : Nat} {p1 : Int32} {rz : Int32} {Mz : Mm} (hf : fX4_dries_k8 M o p1 = some (rz, Mz)) : Ct l E yX4_dries cX4_dries 2 (some .int) 8 170 2 30 [.ref (E.b + o), .int p1] M (some (.int rz)) Mz := by
  refine ct_of (by decide +kernel) (Nat.le_of_ble_eq_true rfl) fun p e s m args below meth c C hr hin hW ls hl => ?_
  have hl : lv_has ls 2 [(0, .ref (E.b + o)), (1, .int p1)] := hl
  unfold fX4_dries_k8 at hf
  refine lv_aload_n C.x C.b dX4_dries_0 rfl (lv_at hl 0 rfl) ?_
  obtain ⟨a1_1, ha1_1, hf⟩ := x_b1 hf
  refine x_getn C hW fg_X4_20_8 ha1_1 dX4_dries_1 ?_
  refine lv_bipush (v := 11) C.x C.b dX4_dries_4 (by decide) ?_
  obtain ⟨x6_2, hx6_2, hf⟩ := x_b1 hf
  refine x_callS (As := [.int 11]) (rest := [.ref (E.b + a1_1)]) C hW hl (qJ6_valueOf_2dffe l E hx6_2) gs_X4_24 hd_J6_valueOf_2dffe rfl rfl (Nat.le_of_ble_eq_true rfl) dX4_dries_6 ⟨Nat.le_of_ble_eq_true rfl, Nat.le_of_ble_eq_true rfl⟩ ⟨Nat.le_of_ble_eq_true rfl, Nat.le_of_ble_eq_true rfl⟩ (fun H locs hW => ?_)
  obtain ⟨_, hk9_3, hf⟩ := x_b1 hf
  obtain ⟨x9_4, M9_5, hx9_4, hf⟩ := x_b2 hf
  refine x_callV (As := [.ref (bxA E x6_2)]) (a := a1_1) (rest := []) C hW hl (qJx4a65c_add_9ea2d l E hx9_4) (x_gk hk9_3) (by decide) (by decide) rfl gv_X4_30 ⟨rfl, hd_Jx4a65c_add_9ea2d⟩ rfl rfl (Nat.le_of_ble_eq_true rfl) dX4_dries_9 ⟨Nat.le_of_ble_eq_true rfl, Nat.le_of_ble_eq_true rfl⟩ ⟨Nat.le_of_ble_eq_true rfl, Nat.le_of_ble_eq_true rfl⟩ (fun H locs hW => ?_)
  refine lv_pop C.x C.b dX4_dries_12 rfl ?_
  refine lv_aload_n C.x C.b dX4_dries_13 rfl (lv_at hl 0 rfl) ?_
  refine lv_iload_n C.x C.b dX4_dries_14 rfl (lv_at hl 1 rfl) ?_
  obtain ⟨_, hk15_6, hf⟩ := x_b1 hf
  obtain ⟨x15_7, M15_8, hx15_7, hf⟩ := x_b2 hf
  refine x_callU (owner := "NylonLadder$Plain") (x := ⟨"NylonLadder$Plain", "runs", "(I)I"⟩) (As := [.int p1]) (a := o) (rest := []) C hW hl (qX4_runs_k8 l E hx15_7) (x_gk hk15_6) (by decide) (by decide) rfl gu_X4_36_8 rfl hdo_X4_36 rfl rfl (Nat.le_of_ble_eq_true rfl) dX4_dries_15 ⟨Nat.le_of_ble_eq_true rfl, Nat.le_of_ble_eq_true rfl⟩ ⟨Nat.le_of_ble_eq_true rfl, Nat.le_of_ble_eq_true rfl⟩ (fun H locs hW => ?_)
  refine lv_iconst (v := 2) C.x C.b dX4_dries_18 (by decide) ?_
  refine lv_imul C.x C.b dX4_dries_19 ?_
  rw [x_e1 hf, x_e2 hf]
  exact x_iret C hr hW dX4_dries_20

theorem fg_X5_7_8 : FdG "NylonLadder$Sheer" 7 8 2 true := ⟨_, _, _, _, rfl, by decide, by decide, by decide, gxX5, by decide, T_4_227, Or.inr T_4_228, rfl⟩
theorem fg_X5_29_8 : FdG "NylonLadder$Sheer" 29 8 1 false := ⟨_, _, _, _, rfl, by decide, by decide, by decide, gxX5, by decide, T_4_218, Or.inr T_4_219, rfl⟩
def fX5_dries_k8 (M : Mm) (o : Nat) (p1 : Int32) : Option (Int32 × Mm) :=
  B1 (rdN M o 8 2) fun a1_1 =>
  B1 (fJ6_valueOf_2dffe M 20) fun x6_2 =>
  B1 (gk M a1_1 2) fun _ =>
  B2 (fJx4a65c_add_9ea2d M a1_1 x6_2) fun x9_4 M9_5 =>
  B1 (gk M9_5 o 8) fun _ =>
  B2 (fX4_dries_k8 M9_5 o p1) fun x15_7 M15_8 =>
  B1 (rdI M15_8 o 8 1) fun x19_9 =>
  some ((x15_7 - x19_9), M15_8)
set_option maxRecDepth 100000 in
set_option maxHeartbeats 4000000 in
theorem qX5_dries_k8 (l : Launch) (E : Ev) {M : Mm} {o : Nat} {p1 : Int32} {rz : Int32} {Mz : Mm} (hf : fX5_dries_k8 M o p1 = some (rz, Mz)) : Ct l E yX5_dries cX5_dries 2 (some .int) 9 191 3 45 [.ref (E.b + o), .int p1] M (some (.int rz)) Mz := by
  refine ct_of (by decide +kernel) (Nat.le_of_ble_eq_true rfl) fun p e s m args below meth c C hr hin hW ls hl => ?_
  have hl : lv_has ls 2 [(0, .ref (E.b + o)), (1, .int p1)] := hl
  unfold fX5_dries_k8 at hf
  refine lv_aload_n C.x C.b dX5_dries_0 rfl (lv_at hl 0 rfl) ?_
  obtain ⟨a1_1, ha1_1, hf⟩ := x_b1 hf
  refine x_getn C hW fg_X5_7_8 ha1_1 dX5_dries_1 ?_
  refine lv_bipush (v := 20) C.x C.b dX5_dries_4 (by decide) ?_
  obtain ⟨x6_2, hx6_2, hf⟩ := x_b1 hf
  refine x_callS (As := [.int 20]) (rest := [.ref (E.b + a1_1)]) C hW hl (qJ6_valueOf_2dffe l E hx6_2) gs_X5_13 hd_J6_valueOf_2dffe rfl rfl (Nat.le_of_ble_eq_true rfl) dX5_dries_6 ⟨Nat.le_of_ble_eq_true rfl, Nat.le_of_ble_eq_true rfl⟩ ⟨Nat.le_of_ble_eq_true rfl, Nat.le_of_ble_eq_true rfl⟩ (fun H locs hW => ?_)
  obtain ⟨_, hk9_3, hf⟩ := x_b1 hf
  obtain ⟨x9_4, M9_5, hx9_4, hf⟩ := x_b2 hf
  refine x_callV (As := [.ref (bxA E x6_2)]) (a := a1_1) (rest := []) C hW hl (qJx4a65c_add_9ea2d l E hx9_4) (x_gk hk9_3) (by decide) (by decide) rfl gv_X5_19 ⟨rfl, hd_Jx4a65c_add_9ea2d⟩ rfl rfl (Nat.le_of_ble_eq_true rfl) dX5_dries_9 ⟨Nat.le_of_ble_eq_true rfl, Nat.le_of_ble_eq_true rfl⟩ ⟨Nat.le_of_ble_eq_true rfl, Nat.le_of_ble_eq_true rfl⟩ (fun H locs hW => ?_)
  refine lv_pop C.x C.b dX5_dries_12 rfl ?_
  refine lv_aload_n C.x C.b dX5_dries_13 rfl (lv_at hl 0 rfl) ?_
  refine lv_iload_n C.x C.b dX5_dries_14 rfl (lv_at hl 1 rfl) ?_
  obtain ⟨_, hk15_6, hf⟩ := x_b1 hf
  obtain ⟨x15_7, M15_8, hx15_7, hf⟩ := x_b2 hf
  refine x_callSU (As := [.int p1]) (a := o) (rest := []) C hW hl (qX4_dries_k8 l E hx15_7) (x_gk hk15_6) (by decide) (by decide) rfl gp_X5_25 hdn_X4_dries rfl rfl (Nat.le_of_ble_eq_true rfl) dX5_dries_15 ⟨Nat.le_of_ble_eq_true rfl, Nat.le_of_ble_eq_true rfl⟩ ⟨Nat.le_of_ble_eq_true rfl, Nat.le_of_ble_eq_true rfl⟩ (fun H locs hW => ?_)
  refine lv_aload_n C.x C.b dX5_dries_18 rfl (lv_at hl 0 rfl) ?_
  obtain ⟨x19_9, hx19_9, hf⟩ := x_b1 hf
  refine x_geti C hW fg_X5_29_8 hx19_9 dX5_dries_19 ?_
  refine lv_isub C.x C.b dX5_dries_22 ?_
  rw [x_e1 hf, x_e2 hf]
  exact x_iret C hr hW dX5_dries_23

theorem gu_X4_36_7 : GoodIn gT (wsV "NylonLadder$Plain" 36 "NylonLadder$Plain" yX4_runs (Cond.code yX4_runs cX4_runs 2 (some .int) :: gT)) := good_V T_5_182 T_5_59 T_5_60 T_1_17 T_5_158
def fX4_dries_k7 (M : Mm) (o : Nat) (p1 : Int32) : Option (Int32 × Mm) :=
  B1 (rdN M o 7 2) fun a1_1 =>
  B1 (fJ6_valueOf_2dffe M 11) fun x6_2 =>
  B1 (gk M a1_1 2) fun _ =>
  B2 (fJx4a65c_add_9ea2d M a1_1 x6_2) fun x9_4 M9_5 =>
  B1 (gk M9_5 o 7) fun _ =>
  B2 (fX4_runs_k7 M9_5 o p1) fun x15_7 M15_8 =>
  some ((x15_7 * 2), M15_8)
set_option maxRecDepth 100000 in
set_option maxHeartbeats 4000000 in
theorem qX4_dries_k7 (l : Launch) (E : Ev) {M : Mm} {o : Nat} {p1 : Int32} {rz : Int32} {Mz : Mm} (hf : fX4_dries_k7 M o p1 = some (rz, Mz)) : Ct l E yX4_dries cX4_dries 2 (some .int) 8 170 2 30 [.ref (E.b + o), .int p1] M (some (.int rz)) Mz := by
  refine ct_of (by decide +kernel) (Nat.le_of_ble_eq_true rfl) fun p e s m args below meth c C hr hin hW ls hl => ?_
  have hl : lv_has ls 2 [(0, .ref (E.b + o)), (1, .int p1)] := hl
  unfold fX4_dries_k7 at hf
  refine lv_aload_n C.x C.b dX4_dries_0 rfl (lv_at hl 0 rfl) ?_
  obtain ⟨a1_1, ha1_1, hf⟩ := x_b1 hf
  refine x_getn C hW fg_X4_20_7 ha1_1 dX4_dries_1 ?_
  refine lv_bipush (v := 11) C.x C.b dX4_dries_4 (by decide) ?_
  obtain ⟨x6_2, hx6_2, hf⟩ := x_b1 hf
  refine x_callS (As := [.int 11]) (rest := [.ref (E.b + a1_1)]) C hW hl (qJ6_valueOf_2dffe l E hx6_2) gs_X4_24 hd_J6_valueOf_2dffe rfl rfl (Nat.le_of_ble_eq_true rfl) dX4_dries_6 ⟨Nat.le_of_ble_eq_true rfl, Nat.le_of_ble_eq_true rfl⟩ ⟨Nat.le_of_ble_eq_true rfl, Nat.le_of_ble_eq_true rfl⟩ (fun H locs hW => ?_)
  obtain ⟨_, hk9_3, hf⟩ := x_b1 hf
  obtain ⟨x9_4, M9_5, hx9_4, hf⟩ := x_b2 hf
  refine x_callV (As := [.ref (bxA E x6_2)]) (a := a1_1) (rest := []) C hW hl (qJx4a65c_add_9ea2d l E hx9_4) (x_gk hk9_3) (by decide) (by decide) rfl gv_X4_30 ⟨rfl, hd_Jx4a65c_add_9ea2d⟩ rfl rfl (Nat.le_of_ble_eq_true rfl) dX4_dries_9 ⟨Nat.le_of_ble_eq_true rfl, Nat.le_of_ble_eq_true rfl⟩ ⟨Nat.le_of_ble_eq_true rfl, Nat.le_of_ble_eq_true rfl⟩ (fun H locs hW => ?_)
  refine lv_pop C.x C.b dX4_dries_12 rfl ?_
  refine lv_aload_n C.x C.b dX4_dries_13 rfl (lv_at hl 0 rfl) ?_
  refine lv_iload_n C.x C.b dX4_dries_14 rfl (lv_at hl 1 rfl) ?_
  obtain ⟨_, hk15_6, hf⟩ := x_b1 hf
  obtain ⟨x15_7, M15_8, hx15_7, hf⟩ := x_b2 hf
  refine x_callV (As := [.int p1]) (a := o) (rest := []) C hW hl (qX4_runs_k7 l E hx15_7) (x_gk hk15_6) (by decide) (by decide) rfl gu_X4_36_7 ⟨rfl, hd_X4_runs⟩ rfl rfl (Nat.le_of_ble_eq_true rfl) dX4_dries_15 ⟨Nat.le_of_ble_eq_true rfl, Nat.le_of_ble_eq_true rfl⟩ ⟨Nat.le_of_ble_eq_true rfl, Nat.le_of_ble_eq_true rfl⟩ (fun H locs hW => ?_)
  refine lv_iconst (v := 2) C.x C.b dX4_dries_18 (by decide) ?_
  refine lv_imul C.x C.b dX4_dries_19 ?_
  rw [x_e1 hf, x_e2 hf]
  exact x_iret C hr hW dX4_dries_20

theorem dX4_holds_0 : decode cX4_holds 0 = .ok (.aload_n 0, 1) := by decide +kernel
theorem dX4_holds_1 : decode cX4_holds 1 = .ok (.getfield 20, 3) := by decide +kernel
theorem dX4_holds_4 : decode cX4_holds 4 = .ok (.bipush 12, 2) := by decide +kernel
theorem dX4_holds_6 : decode cX4_holds 6 = .ok (.invokestatic 24, 3) := by decide +kernel
theorem dX4_holds_9 : decode cX4_holds 9 = .ok (.invokevirtual 30, 3) := by decide +kernel
theorem dX4_holds_12 : decode cX4_holds 12 = .ok (.pop, 1) := by decide +kernel
theorem dX4_holds_13 : decode cX4_holds 13 = .ok (.aload_n 0, 1) := by decide +kernel
theorem dX4_holds_14 : decode cX4_holds 14 = .ok (.getfield 17, 3) := by decide +kernel
theorem dX4_holds_17 : decode cX4_holds 17 = .ok (.aload_n 0, 1) := by decide +kernel
theorem dX4_holds_18 : decode cX4_holds 18 = .ok (.getfield 13, 3) := by decide +kernel
theorem dX4_holds_21 : decode cX4_holds 21 = .ok (.isub, 1) := by decide +kernel
theorem dX4_holds_22 : decode cX4_holds 22 = .ok (.istore_n 2, 1) := by decide +kernel
theorem dX4_holds_23 : decode cX4_holds 23 = .ok (.iload_n 2, 1) := by decide +kernel
theorem dX4_holds_24 : decode cX4_holds 24 = .ok (.ifCond .ne 10, 3) := by decide +kernel
theorem dX4_holds_27 : decode cX4_holds 27 = .ok (.aload_n 0, 1) := by decide +kernel
theorem dX4_holds_28 : decode cX4_holds 28 = .ok (.iconst 1, 1) := by decide +kernel
theorem dX4_holds_29 : decode cX4_holds 29 = .ok (.putfield 7, 3) := by decide +kernel
theorem dX4_holds_32 : decode cX4_holds 32 = .ok (.iconst 0, 1) := by decide +kernel
theorem dX4_holds_33 : decode cX4_holds 33 = .ok (.ireturn, 1) := by decide +kernel
theorem dX4_holds_34 : decode cX4_holds 34 = .ok (.iload_n 1, 1) := by decide +kernel
theorem dX4_holds_35 : decode cX4_holds 35 = .ok (.iload_n 2, 1) := by decide +kernel
theorem dX4_holds_36 : decode cX4_holds 36 = .ok (.idiv, 1) := by decide +kernel
theorem dX4_holds_37 : decode cX4_holds 37 = .ok (.ireturn, 1) := by decide +kernel
theorem fg_X4_17_4 : FdG "NylonLadder$Plain" 17 4 1 false := ⟨_, _, _, _, rfl, by decide, by decide, by decide, gxX1, by decide, T_4_217, Or.inl rfl, rfl⟩
def fX4_holds_k4 (M : Mm) (o : Nat) (p1 : Int32) : Option (Int32 × Mm) :=
  B1 (rdN M o 4 2) fun a1_1 =>
  B1 (fJ6_valueOf_2dffe M 12) fun x6_2 =>
  B1 (gk M a1_1 2) fun _ =>
  B2 (fJx4a65c_add_9ea2d M a1_1 x6_2) fun x9_4 M9_5 =>
  B1 (rdI M9_5 o 4 1) fun x14_6 =>
  B1 (rdI M9_5 o 4 0) fun x18_7 =>
  if (x14_6 - x18_7) = 0 then
    B1 (wrZ M9_5 o 4 3 1) fun M29_9 =>
    some (0, M29_9)
  else
    B1 (nzI (x14_6 - x18_7)) fun _ =>
    some ((p1 / (x14_6 - x18_7)), M9_5)
set_option maxRecDepth 100000 in
set_option maxHeartbeats 4000000 in
theorem qX4_holds_k4 (l : Launch) (E : Ev) {M : Mm} {o : Nat} {p1 : Int32} {rz : Int32} {Mz : Mm} (hf : fX4_holds_k4 M o p1 = some (rz, Mz)) : Ct l E yX4_holds cX4_holds 3 (some .int) 7 149 1 15 [.ref (E.b + o), .int p1] M (some (.int rz)) Mz := by
  refine ct_of (by decide +kernel) (Nat.le_of_ble_eq_true rfl) fun p e s m args below meth c C hr hin hW ls hl => ?_
  have hl : lv_has ls 3 [(0, .ref (E.b + o)), (1, .int p1)] := hl
  unfold fX4_holds_k4 at hf
  refine lv_aload_n C.x C.b dX4_holds_0 rfl (lv_at hl 0 rfl) ?_
  obtain ⟨a1_1, ha1_1, hf⟩ := x_b1 hf
  refine x_getn C hW fg_X4_20_4 ha1_1 dX4_holds_1 ?_
  refine lv_bipush (v := 12) C.x C.b dX4_holds_4 (by decide) ?_
  obtain ⟨x6_2, hx6_2, hf⟩ := x_b1 hf
  refine x_callS (As := [.int 12]) (rest := [.ref (E.b + a1_1)]) C hW hl (qJ6_valueOf_2dffe l E hx6_2) gs_X4_24 hd_J6_valueOf_2dffe rfl rfl (Nat.le_of_ble_eq_true rfl) dX4_holds_6 ⟨Nat.le_of_ble_eq_true rfl, Nat.le_of_ble_eq_true rfl⟩ ⟨Nat.le_of_ble_eq_true rfl, Nat.le_of_ble_eq_true rfl⟩ (fun H locs hW => ?_)
  obtain ⟨_, hk9_3, hf⟩ := x_b1 hf
  obtain ⟨x9_4, M9_5, hx9_4, hf⟩ := x_b2 hf
  refine x_callV (As := [.ref (bxA E x6_2)]) (a := a1_1) (rest := []) C hW hl (qJx4a65c_add_9ea2d l E hx9_4) (x_gk hk9_3) (by decide) (by decide) rfl gv_X4_30 ⟨rfl, hd_Jx4a65c_add_9ea2d⟩ rfl rfl (Nat.le_of_ble_eq_true rfl) dX4_holds_9 ⟨Nat.le_of_ble_eq_true rfl, Nat.le_of_ble_eq_true rfl⟩ ⟨Nat.le_of_ble_eq_true rfl, Nat.le_of_ble_eq_true rfl⟩ (fun H locs hW => ?_)
  refine lv_pop C.x C.b dX4_holds_12 rfl ?_
  refine lv_aload_n C.x C.b dX4_holds_13 rfl (lv_at hl 0 rfl) ?_
  obtain ⟨x14_6, hx14_6, hf⟩ := x_b1 hf
  refine x_geti C hW fg_X4_17_4 hx14_6 dX4_holds_14 ?_
  refine lv_aload_n C.x C.b dX4_holds_17 rfl (lv_at hl 0 rfl) ?_
  obtain ⟨x18_7, hx18_7, hf⟩ := x_b1 hf
  refine x_geti C hW fg_X4_13_4 hx18_7 dX4_holds_18 ?_
  refine lv_isub C.x C.b dX4_holds_21 ?_
  refine lv_istore_n (lv' := [(2, .int _), (0, .ref (E.b + _)), (1, .int _)]) C.x C.b dX4_holds_22 rfl hl (by decide) rfl (fun ls hl => ?_)
  refine lv_iload_n C.x C.b dX4_holds_23 rfl (lv_at hl 0 rfl) ?_
  refine lv_if_ne (tgt := 34) C.x C.b dX4_holds_24 rfl (fun c24 => ?_) (fun c24 => ?_)
  · have hf := x_in c24 hf
    refine lv_iload_n C.x C.b dX4_holds_34 rfl (lv_at hl 2 rfl) ?_
    refine lv_iload_n C.x C.b dX4_holds_35 rfl (lv_at hl 0 rfl) ?_
    obtain ⟨_, hz36_8, hf⟩ := x_b1 hf
    refine lv_idiv C.x C.b dX4_holds_36 (x_nzI hz36_8) ?_
    rw [x_e1 hf, x_e2 hf]
    exact x_iret C hr hW dX4_holds_37
  · have hf := x_ip c24 hf
    refine lv_aload_n C.x C.b dX4_holds_27 rfl (lv_at hl 1 rfl) ?_
    refine lv_iconst (v := 1) C.x C.b dX4_holds_28 (by decide) ?_
    obtain ⟨M29_9, hM29_9, hf⟩ := x_b1 hf
    refine x_putz C hW fp_X4_7_4 hM29_9 (fun h => by cases h) dX4_holds_29 (fun H locs hW => ?_)
    refine lv_iconst (v := 0) C.x C.b dX4_holds_32 (by decide) ?_
    rw [x_e1 hf, x_e2 hf]
    exact x_iret C hr hW dX4_holds_33

theorem fg_X4_17_5 : FdG "NylonLadder$Plain" 17 5 1 false := ⟨_, _, _, _, rfl, by decide, by decide, by decide, gxX2, by decide, T_4_217, Or.inl rfl, rfl⟩
def fX4_holds_k5 (M : Mm) (o : Nat) (p1 : Int32) : Option (Int32 × Mm) :=
  B1 (rdN M o 5 2) fun a1_1 =>
  B1 (fJ6_valueOf_2dffe M 12) fun x6_2 =>
  B1 (gk M a1_1 2) fun _ =>
  B2 (fJx4a65c_add_9ea2d M a1_1 x6_2) fun x9_4 M9_5 =>
  B1 (rdI M9_5 o 5 1) fun x14_6 =>
  B1 (rdI M9_5 o 5 0) fun x18_7 =>
  if (x14_6 - x18_7) = 0 then
    B1 (wrZ M9_5 o 5 3 1) fun M29_9 =>
    some (0, M29_9)
  else
    B1 (nzI (x14_6 - x18_7)) fun _ =>
    some ((p1 / (x14_6 - x18_7)), M9_5)
set_option maxRecDepth 100000 in
set_option maxHeartbeats 4000000 in
theorem qX4_holds_k5 (l : Launch) (E : Ev) {M : Mm} {o : Nat} {p1 : Int32} {rz : Int32} {Mz : Mm} (hf : fX4_holds_k5 M o p1 = some (rz, Mz)) : Ct l E yX4_holds cX4_holds 3 (some .int) 7 149 1 15 [.ref (E.b + o), .int p1] M (some (.int rz)) Mz := by
  refine ct_of (by decide +kernel) (Nat.le_of_ble_eq_true rfl) fun p e s m args below meth c C hr hin hW ls hl => ?_
  have hl : lv_has ls 3 [(0, .ref (E.b + o)), (1, .int p1)] := hl
  unfold fX4_holds_k5 at hf
  refine lv_aload_n C.x C.b dX4_holds_0 rfl (lv_at hl 0 rfl) ?_
  obtain ⟨a1_1, ha1_1, hf⟩ := x_b1 hf
  refine x_getn C hW fg_X4_20_5 ha1_1 dX4_holds_1 ?_
  refine lv_bipush (v := 12) C.x C.b dX4_holds_4 (by decide) ?_
  obtain ⟨x6_2, hx6_2, hf⟩ := x_b1 hf
  refine x_callS (As := [.int 12]) (rest := [.ref (E.b + a1_1)]) C hW hl (qJ6_valueOf_2dffe l E hx6_2) gs_X4_24 hd_J6_valueOf_2dffe rfl rfl (Nat.le_of_ble_eq_true rfl) dX4_holds_6 ⟨Nat.le_of_ble_eq_true rfl, Nat.le_of_ble_eq_true rfl⟩ ⟨Nat.le_of_ble_eq_true rfl, Nat.le_of_ble_eq_true rfl⟩ (fun H locs hW => ?_)
  obtain ⟨_, hk9_3, hf⟩ := x_b1 hf
  obtain ⟨x9_4, M9_5, hx9_4, hf⟩ := x_b2 hf
  refine x_callV (As := [.ref (bxA E x6_2)]) (a := a1_1) (rest := []) C hW hl (qJx4a65c_add_9ea2d l E hx9_4) (x_gk hk9_3) (by decide) (by decide) rfl gv_X4_30 ⟨rfl, hd_Jx4a65c_add_9ea2d⟩ rfl rfl (Nat.le_of_ble_eq_true rfl) dX4_holds_9 ⟨Nat.le_of_ble_eq_true rfl, Nat.le_of_ble_eq_true rfl⟩ ⟨Nat.le_of_ble_eq_true rfl, Nat.le_of_ble_eq_true rfl⟩ (fun H locs hW => ?_)
  refine lv_pop C.x C.b dX4_holds_12 rfl ?_
  refine lv_aload_n C.x C.b dX4_holds_13 rfl (lv_at hl 0 rfl) ?_
  obtain ⟨x14_6, hx14_6, hf⟩ := x_b1 hf
  refine x_geti C hW fg_X4_17_5 hx14_6 dX4_holds_14 ?_
  refine lv_aload_n C.x C.b dX4_holds_17 rfl (lv_at hl 0 rfl) ?_
  obtain ⟨x18_7, hx18_7, hf⟩ := x_b1 hf
  refine x_geti C hW fg_X4_13_5 hx18_7 dX4_holds_18 ?_
  refine lv_isub C.x C.b dX4_holds_21 ?_
  refine lv_istore_n (lv' := [(2, .int _), (0, .ref (E.b + _)), (1, .int _)]) C.x C.b dX4_holds_22 rfl hl (by decide) rfl (fun ls hl => ?_)
  refine lv_iload_n C.x C.b dX4_holds_23 rfl (lv_at hl 0 rfl) ?_
  refine lv_if_ne (tgt := 34) C.x C.b dX4_holds_24 rfl (fun c24 => ?_) (fun c24 => ?_)
  · have hf := x_in c24 hf
    refine lv_iload_n C.x C.b dX4_holds_34 rfl (lv_at hl 2 rfl) ?_
    refine lv_iload_n C.x C.b dX4_holds_35 rfl (lv_at hl 0 rfl) ?_
    obtain ⟨_, hz36_8, hf⟩ := x_b1 hf
    refine lv_idiv C.x C.b dX4_holds_36 (x_nzI hz36_8) ?_
    rw [x_e1 hf, x_e2 hf]
    exact x_iret C hr hW dX4_holds_37
  · have hf := x_ip c24 hf
    refine lv_aload_n C.x C.b dX4_holds_27 rfl (lv_at hl 1 rfl) ?_
    refine lv_iconst (v := 1) C.x C.b dX4_holds_28 (by decide) ?_
    obtain ⟨M29_9, hM29_9, hf⟩ := x_b1 hf
    refine x_putz C hW fp_X4_7_5 hM29_9 (fun h => by cases h) dX4_holds_29 (fun H locs hW => ?_)
    refine lv_iconst (v := 0) C.x C.b dX4_holds_32 (by decide) ?_
    rw [x_e1 hf, x_e2 hf]
    exact x_iret C hr hW dX4_holds_33

theorem dX2_holds_0 : decode cX2_holds 0 = .ok (.aload_n 0, 1) := by decide +kernel
theorem dX2_holds_1 : decode cX2_holds 1 = .ok (.getfield 7, 3) := by decide +kernel
theorem dX2_holds_4 : decode cX2_holds 4 = .ok (.bipush 50, 2) := by decide +kernel
theorem dX2_holds_6 : decode cX2_holds 6 = .ok (.invokestatic 13, 3) := by decide +kernel
theorem dX2_holds_9 : decode cX2_holds 9 = .ok (.invokevirtual 19, 3) := by decide +kernel
theorem dX2_holds_12 : decode cX2_holds 12 = .ok (.pop, 1) := by decide +kernel
theorem dX2_holds_13 : decode cX2_holds 13 = .ok (.aload_n 0, 1) := by decide +kernel
theorem dX2_holds_14 : decode cX2_holds 14 = .ok (.iload_n 1, 1) := by decide +kernel
theorem dX2_holds_15 : decode cX2_holds 15 = .ok (.iconst 2, 1) := by decide +kernel
theorem dX2_holds_16 : decode cX2_holds 16 = .ok (.iadd, 1) := by decide +kernel
theorem dX2_holds_17 : decode cX2_holds 17 = .ok (.invokespecial 25, 3) := by decide +kernel
theorem dX2_holds_20 : decode cX2_holds 20 = .ok (.iconst 1, 1) := by decide +kernel
theorem dX2_holds_21 : decode cX2_holds 21 = .ok (.ixor, 1) := by decide +kernel
theorem dX2_holds_22 : decode cX2_holds 22 = .ok (.ireturn, 1) := by decide +kernel
theorem hd_X4_holds : yX4_holds.cls ≠ "java/lang/invoke/MethodHandle" ∧ yX4_holds.cls ≠ "java/lang/invoke/VarHandle" ∧ (parseMethodDescriptor yX4_holds.desc).map (fun d => d.parameters.length) = some 1 := by decide +kernel
theorem hdn_X4_holds : yX4_holds.name ≠ "<init>" ∧ (parseMethodDescriptor yX4_holds.desc).map (fun d => d.parameters.length) = some 1 := by decide +kernel
theorem gp_X2_25 : GoodIn gT (sup_ws "NylonLadder$Mesh" "NylonLadder$Plain" 25 ⟨"NylonLadder$Sheer", "holds", "(I)I"⟩ yX4_holds (Cond.code yX4_holds cX4_holds 3 (some .int) :: gT)) := good_SX T_5_191 T_5_192 T_5_27 T_5_5 T_5_184 T_1_17 T_5_205
def fX2_holds_k5 (M : Mm) (o : Nat) (p1 : Int32) : Option (Int32 × Mm) :=
  B1 (rdN M o 5 2) fun a1_1 =>
  B1 (fJ6_valueOf_2dffe M 50) fun x6_2 =>
  B1 (gk M a1_1 2) fun _ =>
  B2 (fJx4a65c_add_9ea2d M a1_1 x6_2) fun x9_4 M9_5 =>
  B1 (gk M9_5 o 5) fun _ =>
  B2 (fX4_holds_k5 M9_5 o (p1 + 2)) fun x17_7 M17_8 =>
  some ((x17_7 ^^^ 1), M17_8)
set_option maxRecDepth 100000 in
set_option maxHeartbeats 4000000 in
theorem qX2_holds_k5 (l : Launch) (E : Ev) {M : Mm} {o : Nat} {p1 : Int32} {rz : Int32} {Mz : Mm} (hf : fX2_holds_k5 M o p1 = some (rz, Mz)) : Ct l E yX2_holds cX2_holds 2 (some .int) 8 171 2 30 [.ref (E.b + o), .int p1] M (some (.int rz)) Mz := by
  refine ct_of (by decide +kernel) (Nat.le_of_ble_eq_true rfl) fun p e s m args below meth c C hr hin hW ls hl => ?_
  have hl : lv_has ls 2 [(0, .ref (E.b + o)), (1, .int p1)] := hl
  unfold fX2_holds_k5 at hf
  refine lv_aload_n C.x C.b dX2_holds_0 rfl (lv_at hl 0 rfl) ?_
  obtain ⟨a1_1, ha1_1, hf⟩ := x_b1 hf
  refine x_getn C hW fg_X2_7_5 ha1_1 dX2_holds_1 ?_
  refine lv_bipush (v := 50) C.x C.b dX2_holds_4 (by decide) ?_
  obtain ⟨x6_2, hx6_2, hf⟩ := x_b1 hf
  refine x_callS (As := [.int 50]) (rest := [.ref (E.b + a1_1)]) C hW hl (qJ6_valueOf_2dffe l E hx6_2) gs_X2_13 hd_J6_valueOf_2dffe rfl rfl (Nat.le_of_ble_eq_true rfl) dX2_holds_6 ⟨Nat.le_of_ble_eq_true rfl, Nat.le_of_ble_eq_true rfl⟩ ⟨Nat.le_of_ble_eq_true rfl, Nat.le_of_ble_eq_true rfl⟩ (fun H locs hW => ?_)
  obtain ⟨_, hk9_3, hf⟩ := x_b1 hf
  obtain ⟨x9_4, M9_5, hx9_4, hf⟩ := x_b2 hf
  refine x_callV (As := [.ref (bxA E x6_2)]) (a := a1_1) (rest := []) C hW hl (qJx4a65c_add_9ea2d l E hx9_4) (x_gk hk9_3) (by decide) (by decide) rfl gv_X2_19 ⟨rfl, hd_Jx4a65c_add_9ea2d⟩ rfl rfl (Nat.le_of_ble_eq_true rfl) dX2_holds_9 ⟨Nat.le_of_ble_eq_true rfl, Nat.le_of_ble_eq_true rfl⟩ ⟨Nat.le_of_ble_eq_true rfl, Nat.le_of_ble_eq_true rfl⟩ (fun H locs hW => ?_)
  refine lv_pop C.x C.b dX2_holds_12 rfl ?_
  refine lv_aload_n C.x C.b dX2_holds_13 rfl (lv_at hl 0 rfl) ?_
  refine lv_iload_n C.x C.b dX2_holds_14 rfl (lv_at hl 1 rfl) ?_
  refine lv_iconst (v := 2) C.x C.b dX2_holds_15 (by decide) ?_
  refine lv_iadd C.x C.b dX2_holds_16 ?_
  obtain ⟨_, hk17_6, hf⟩ := x_b1 hf
  obtain ⟨x17_7, M17_8, hx17_7, hf⟩ := x_b2 hf
  refine x_callSX (owner := "NylonLadder$Plain") (x := ⟨"NylonLadder$Sheer", "holds", "(I)I"⟩) (As := [.int (p1 + 2)]) (a := o) (rest := []) C hW hl (qX4_holds_k5 l E hx17_7) (x_gk hk17_6) (by decide) (by decide) rfl gp_X2_25 rfl hdn_X4_holds rfl rfl (Nat.le_of_ble_eq_true rfl) dX2_holds_17 ⟨Nat.le_of_ble_eq_true rfl, Nat.le_of_ble_eq_true rfl⟩ ⟨Nat.le_of_ble_eq_true rfl, Nat.le_of_ble_eq_true rfl⟩ (fun H locs hW => ?_)
  refine lv_iconst (v := 1) C.x C.b dX2_holds_20 (by decide) ?_
  refine lv_ixor C.x C.b dX2_holds_21 ?_
  rw [x_e1 hf, x_e2 hf]
  exact x_iret C hr hW dX2_holds_22

theorem fg_X4_17_6 : FdG "NylonLadder$Plain" 17 6 1 false := ⟨_, _, _, _, rfl, by decide, by decide, by decide, gxX3, by decide, T_4_217, Or.inl rfl, rfl⟩
def fX4_holds_k6 (M : Mm) (o : Nat) (p1 : Int32) : Option (Int32 × Mm) :=
  B1 (rdN M o 6 2) fun a1_1 =>
  B1 (fJ6_valueOf_2dffe M 12) fun x6_2 =>
  B1 (gk M a1_1 2) fun _ =>
  B2 (fJx4a65c_add_9ea2d M a1_1 x6_2) fun x9_4 M9_5 =>
  B1 (rdI M9_5 o 6 1) fun x14_6 =>
  B1 (rdI M9_5 o 6 0) fun x18_7 =>
  if (x14_6 - x18_7) = 0 then
    B1 (wrZ M9_5 o 6 3 1) fun M29_9 =>
    some (0, M29_9)
  else
    B1 (nzI (x14_6 - x18_7)) fun _ =>
    some ((p1 / (x14_6 - x18_7)), M9_5)
set_option maxRecDepth 100000 in
set_option maxHeartbeats 4000000 in
theorem qX4_holds_k6 (l : Launch) (E : Ev) {M : Mm} {o : Nat} {p1 : Int32} {rz : Int32} {Mz : Mm} (hf : fX4_holds_k6 M o p1 = some (rz, Mz)) : Ct l E yX4_holds cX4_holds 3 (some .int) 7 149 1 15 [.ref (E.b + o), .int p1] M (some (.int rz)) Mz := by
  refine ct_of (by decide +kernel) (Nat.le_of_ble_eq_true rfl) fun p e s m args below meth c C hr hin hW ls hl => ?_
  have hl : lv_has ls 3 [(0, .ref (E.b + o)), (1, .int p1)] := hl
  unfold fX4_holds_k6 at hf
  refine lv_aload_n C.x C.b dX4_holds_0 rfl (lv_at hl 0 rfl) ?_
  obtain ⟨a1_1, ha1_1, hf⟩ := x_b1 hf
  refine x_getn C hW fg_X4_20_6 ha1_1 dX4_holds_1 ?_
  refine lv_bipush (v := 12) C.x C.b dX4_holds_4 (by decide) ?_
  obtain ⟨x6_2, hx6_2, hf⟩ := x_b1 hf
  refine x_callS (As := [.int 12]) (rest := [.ref (E.b + a1_1)]) C hW hl (qJ6_valueOf_2dffe l E hx6_2) gs_X4_24 hd_J6_valueOf_2dffe rfl rfl (Nat.le_of_ble_eq_true rfl) dX4_holds_6 ⟨Nat.le_of_ble_eq_true rfl, Nat.le_of_ble_eq_true rfl⟩ ⟨Nat.le_of_ble_eq_true rfl, Nat.le_of_ble_eq_true rfl⟩ (fun H locs hW => ?_)
  obtain ⟨_, hk9_3, hf⟩ := x_b1 hf
  obtain ⟨x9_4, M9_5, hx9_4, hf⟩ := x_b2 hf
  refine x_callV (As := [.ref (bxA E x6_2)]) (a := a1_1) (rest := []) C hW hl (qJx4a65c_add_9ea2d l E hx9_4) (x_gk hk9_3) (by decide) (by decide) rfl gv_X4_30 ⟨rfl, hd_Jx4a65c_add_9ea2d⟩ rfl rfl (Nat.le_of_ble_eq_true rfl) dX4_holds_9 ⟨Nat.le_of_ble_eq_true rfl, Nat.le_of_ble_eq_true rfl⟩ ⟨Nat.le_of_ble_eq_true rfl, Nat.le_of_ble_eq_true rfl⟩ (fun H locs hW => ?_)
  refine lv_pop C.x C.b dX4_holds_12 rfl ?_
  refine lv_aload_n C.x C.b dX4_holds_13 rfl (lv_at hl 0 rfl) ?_
  obtain ⟨x14_6, hx14_6, hf⟩ := x_b1 hf
  refine x_geti C hW fg_X4_17_6 hx14_6 dX4_holds_14 ?_
  refine lv_aload_n C.x C.b dX4_holds_17 rfl (lv_at hl 0 rfl) ?_
  obtain ⟨x18_7, hx18_7, hf⟩ := x_b1 hf
  refine x_geti C hW fg_X4_13_6 hx18_7 dX4_holds_18 ?_
  refine lv_isub C.x C.b dX4_holds_21 ?_
  refine lv_istore_n (lv' := [(2, .int _), (0, .ref (E.b + _)), (1, .int _)]) C.x C.b dX4_holds_22 rfl hl (by decide) rfl (fun ls hl => ?_)
  refine lv_iload_n C.x C.b dX4_holds_23 rfl (lv_at hl 0 rfl) ?_
  refine lv_if_ne (tgt := 34) C.x C.b dX4_holds_24 rfl (fun c24 => ?_) (fun c24 => ?_)
  · have hf := x_in c24 hf
    refine lv_iload_n C.x C.b dX4_holds_34 rfl (lv_at hl 2 rfl) ?_
    refine lv_iload_n C.x C.b dX4_holds_35 rfl (lv_at hl 0 rfl) ?_
    obtain ⟨_, hz36_8, hf⟩ := x_b1 hf
    refine lv_idiv C.x C.b dX4_holds_36 (x_nzI hz36_8) ?_
    rw [x_e1 hf, x_e2 hf]
    exact x_iret C hr hW dX4_holds_37
  · have hf := x_ip c24 hf
    refine lv_aload_n C.x C.b dX4_holds_27 rfl (lv_at hl 1 rfl) ?_
    refine lv_iconst (v := 1) C.x C.b dX4_holds_28 (by decide) ?_
    obtain ⟨M29_9, hM29_9, hf⟩ := x_b1 hf
    refine x_putz C hW fp_X4_7_6 hM29_9 (fun h => by cases h) dX4_holds_29 (fun H locs hW => ?_)
    refine lv_iconst (v := 0) C.x C.b dX4_holds_32 (by decide) ?_
    rw [x_e1 hf, x_e2 hf]
    exact x_iret C hr hW dX4_holds_33

theorem dX3_holds_0 : decode cX3_holds 0 = .ok (.aload_n 0, 1) := by decide +kernel
theorem dX3_holds_1 : decode cX3_holds 1 = .ok (.getfield 7, 3) := by decide +kernel
theorem dX3_holds_4 : decode cX3_holds 4 = .ok (.bipush 61, 2) := by decide +kernel
theorem dX3_holds_6 : decode cX3_holds 6 = .ok (.invokestatic 13, 3) := by decide +kernel
theorem dX3_holds_9 : decode cX3_holds 9 = .ok (.invokevirtual 19, 3) := by decide +kernel
theorem dX3_holds_12 : decode cX3_holds 12 = .ok (.pop, 1) := by decide +kernel
theorem dX3_holds_13 : decode cX3_holds 13 = .ok (.aload_n 0, 1) := by decide +kernel
theorem dX3_holds_14 : decode cX3_holds 14 = .ok (.iload_n 1, 1) := by decide +kernel
theorem dX3_holds_15 : decode cX3_holds 15 = .ok (.invokespecial 29, 3) := by decide +kernel
theorem dX3_holds_18 : decode cX3_holds 18 = .ok (.istore_n 2, 1) := by decide +kernel
theorem dX3_holds_19 : decode cX3_holds 19 = .ok (.aload_n 0, 1) := by decide +kernel
theorem dX3_holds_20 : decode cX3_holds 20 = .ok (.getfield 32, 3) := by decide +kernel
theorem dX3_holds_23 : decode cX3_holds 23 = .ok (.ifCond .eq 7, 3) := by decide +kernel
theorem dX3_holds_26 : decode cX3_holds 26 = .ok (.iconst 0, 1) := by decide +kernel
theorem dX3_holds_27 : decode cX3_holds 27 = .ok (.goto 13, 3) := by decide +kernel
theorem dX3_holds_30 : decode cX3_holds 30 = .ok (.iload_n 2, 1) := by decide +kernel
theorem dX3_holds_31 : decode cX3_holds 31 = .ok (.aload_n 0, 1) := by decide +kernel
theorem dX3_holds_32 : decode cX3_holds 32 = .ok (.aload_n 0, 1) := by decide +kernel
theorem dX3_holds_33 : decode cX3_holds 33 = .ok (.getfield 36, 3) := by decide +kernel
theorem dX3_holds_36 : decode cX3_holds 36 = .ok (.invokevirtual 40, 3) := by decide +kernel
theorem dX3_holds_39 : decode cX3_holds 39 = .ok (.iadd, 1) := by decide +kernel
theorem dX3_holds_40 : decode cX3_holds 40 = .ok (.ireturn, 1) := by decide +kernel
theorem fg_X3_7_6 : FdG "NylonLadder$Old" 7 6 2 true := ⟨_, _, _, _, rfl, by decide, by decide, by decide, gxX3, by decide, T_4_231, Or.inr T_4_232, rfl⟩
theorem gs_X3_13 : GoodIn gT (va_wsS "NylonLadder$Old" 13 yJ6_valueOf_2dffe (Cond.code yJ6_valueOf_2dffe cJ6_valueOf_2dffe 1 (some (.object "java/lang/Integer")) :: gT)) := good_S T_5_197 T_5_66 T_1_24 T_5_67
theorem gv_X3_19 : GoodIn gT (wsV "NylonLadder$Old" 19 "java/util/ArrayList" yJx4a65c_add_9ea2d (Cond.code yJx4a65c_add_9ea2d cJx4a65c_add_9ea2d 2 (some .boolean) :: gT)) := good_V T_5_198 T_5_86 T_5_87 T_1_9 T_5_88
theorem gp_X3_29 : GoodIn gT (va_wsSU "NylonLadder$Old" 29 yX4_holds (Cond.code yX4_holds cX4_holds 3 (some .int) :: gT)) := good_SU T_5_199 T_5_186 T_5_49 T_5_184 T_1_17 T_5_205
theorem fg_X3_32_6 : FdG "NylonLadder$Old" 32 6 3 false := ⟨_, _, _, _, rfl, by decide, by decide, by decide, gxX3, by decide, T_4_234, Or.inr T_4_235, rfl⟩
theorem fg_X3_36_6 : FdG "NylonLadder$Old" 36 6 1 false := ⟨_, _, _, _, rfl, by decide, by decide, by decide, gxX3, by decide, T_4_220, Or.inr T_4_221, rfl⟩
theorem hdo_X3_40 : ("NylonLadder$Plain" : String) ≠ "java/lang/invoke/MethodHandle" ∧ ("NylonLadder$Plain" : String) ≠ "java/lang/invoke/VarHandle" ∧ (parseMethodDescriptor "(I)I").map (fun d => d.parameters.length) = some 1 := by decide +kernel
theorem gu_X3_40_6 : GoodIn gT (va_wsU "NylonLadder$Old" 40 "NylonLadder$Old" "NylonLadder$Plain" ⟨"NylonLadder$Old", "runs", "(I)I"⟩ yX4_runs (Cond.code yX4_runs cX4_runs 2 (some .int) :: gT)) := good_U T_5_200 T_5_201 T_5_202 T_5_59 T_1_17 T_5_158
def fX3_holds_k6 (M : Mm) (o : Nat) (p1 : Int32) : Option (Int32 × Mm) :=
  B1 (rdN M o 6 2) fun a1_1 =>
  B1 (fJ6_valueOf_2dffe M 61) fun x6_2 =>
  B1 (gk M a1_1 2) fun _ =>
  B2 (fJx4a65c_add_9ea2d M a1_1 x6_2) fun x9_4 M9_5 =>
  B1 (gk M9_5 o 6) fun _ =>
  B2 (fX4_holds_k6 M9_5 o p1) fun x15_7 M15_8 =>
  B1 (rdI M15_8 o 6 3) fun x20_9 =>
  if x20_9 = 0 then
    B1 (rdI M15_8 o 6 1) fun x33_10 =>
    B1 (gk M15_8 o 6) fun _ =>
    B2 (fX4_runs_k6 M15_8 o x33_10) fun x36_12 M36_13 =>
    some ((x15_7 + x36_12), M36_13)
  else
    some (0, M15_8)
set_option maxRecDepth 100000 in
set_option maxHeartbeats 4000000 in
theorem qX3_holds_k6 (l : Launch) (E : Ev) {M : Mm} {o : Nat} {p1 : Int32} {rz : Int32} {Mz : Mm} (hf : fX3_holds_k6 M o p1 = some (rz, Mz)) : Ct l E yX3_holds cX3_holds 3 (some .int) 8 171 3 45 [.ref (E.b + o), .int p1] M (some (.int rz)) Mz := by
  refine ct_of (by decide +kernel) (Nat.le_of_ble_eq_true rfl) fun p e s m args below meth c C hr hin hW ls hl => ?_
  have hl : lv_has ls 3 [(0, .ref (E.b + o)), (1, .int p1)] := hl
  unfold fX3_holds_k6 at hf
  refine lv_aload_n C.x C.b dX3_holds_0 rfl (lv_at hl 0 rfl) ?_
  obtain ⟨a1_1, ha1_1, hf⟩ := x_b1 hf
  refine x_getn C hW fg_X3_7_6 ha1_1 dX3_holds_1 ?_
  refine lv_bipush (v := 61) C.x C.b dX3_holds_4 (by decide) ?_
  obtain ⟨x6_2, hx6_2, hf⟩ := x_b1 hf
  refine x_callS (As := [.int 61]) (rest := [.ref (E.b + a1_1)]) C hW hl (qJ6_valueOf_2dffe l E hx6_2) gs_X3_13 hd_J6_valueOf_2dffe rfl rfl (Nat.le_of_ble_eq_true rfl) dX3_holds_6 ⟨Nat.le_of_ble_eq_true rfl, Nat.le_of_ble_eq_true rfl⟩ ⟨Nat.le_of_ble_eq_true rfl, Nat.le_of_ble_eq_true rfl⟩ (fun H locs hW => ?_)
  obtain ⟨_, hk9_3, hf⟩ := x_b1 hf
  obtain ⟨x9_4, M9_5, hx9_4, hf⟩ := x_b2 hf
  refine x_callV (As := [.ref (bxA E x6_2)]) (a := a1_1) (rest := []) C hW hl (qJx4a65c_add_9ea2d l E hx9_4) (x_gk hk9_3) (by decide) (by decide) rfl gv_X3_19 ⟨rfl, hd_Jx4a65c_add_9ea2d⟩ rfl rfl (Nat.le_of_ble_eq_true rfl) dX3_holds_9 ⟨Nat.le_of_ble_eq_true rfl, Nat.le_of_ble_eq_true rfl⟩ ⟨Nat.le_of_ble_eq_true rfl, Nat.le_of_ble_eq_true rfl⟩ (fun H locs hW => ?_)
  refine lv_pop C.x C.b dX3_holds_12 rfl ?_
  refine lv_aload_n C.x C.b dX3_holds_13 rfl (lv_at hl 0 rfl) ?_
  refine lv_iload_n C.x C.b dX3_holds_14 rfl (lv_at hl 1 rfl) ?_
  obtain ⟨_, hk15_6, hf⟩ := x_b1 hf
  obtain ⟨x15_7, M15_8, hx15_7, hf⟩ := x_b2 hf
  refine x_callSU (As := [.int p1]) (a := o) (rest := []) C hW hl (qX4_holds_k6 l E hx15_7) (x_gk hk15_6) (by decide) (by decide) rfl gp_X3_29 hdn_X4_holds rfl rfl (Nat.le_of_ble_eq_true rfl) dX3_holds_15 ⟨Nat.le_of_ble_eq_true rfl, Nat.le_of_ble_eq_true rfl⟩ ⟨Nat.le_of_ble_eq_true rfl, Nat.le_of_ble_eq_true rfl⟩ (fun H locs hW => ?_)
  refine lv_istore_n (lv' := [(2, .int _), (0, .ref (E.b + _)), (1, .int _)]) C.x C.b dX3_holds_18 rfl hl (by decide) rfl (fun ls hl => ?_)
  refine lv_aload_n C.x C.b dX3_holds_19 rfl (lv_at hl 1 rfl) ?_
  obtain ⟨x20_9, hx20_9, hf⟩ := x_b1 hf
  refine x_geti C hW fg_X3_32_6 hx20_9 dX3_holds_20 ?_
  refine lv_if_eq (tgt := 30) C.x C.b dX3_holds_23 rfl (fun c23 => ?_) (fun c23 => ?_)
  · have hf := x_ip c23 hf
    refine lv_iload_n C.x C.b dX3_holds_30 rfl (lv_at hl 0 rfl) ?_
    refine lv_aload_n C.x C.b dX3_holds_31 rfl (lv_at hl 1 rfl) ?_
    refine lv_aload_n C.x C.b dX3_holds_32 rfl (lv_at hl 1 rfl) ?_
    obtain ⟨x33_10, hx33_10, hf⟩ := x_b1 hf
    refine x_geti C hW fg_X3_36_6 hx33_10 dX3_holds_33 ?_
    obtain ⟨_, hk36_11, hf⟩ := x_b1 hf
    obtain ⟨x36_12, M36_13, hx36_12, hf⟩ := x_b2 hf
    refine x_callU (owner := "NylonLadder$Plain") (x := ⟨"NylonLadder$Old", "runs", "(I)I"⟩) (As := [.int x33_10]) (a := o) (rest := [.int x15_7]) C hW hl (qX4_runs_k6 l E hx36_12) (x_gk hk36_11) (by decide) (by decide) rfl gu_X3_40_6 rfl hdo_X3_40 rfl rfl (Nat.le_of_ble_eq_true rfl) dX3_holds_36 ⟨Nat.le_of_ble_eq_true rfl, Nat.le_of_ble_eq_true rfl⟩ ⟨Nat.le_of_ble_eq_true rfl, Nat.le_of_ble_eq_true rfl⟩ (fun H locs hW => ?_)
    refine lv_iadd C.x C.b dX3_holds_39 ?_
    rw [x_e1 hf, x_e2 hf]
    exact x_iret C hr hW dX3_holds_40
  · have hf := x_in c23 hf
    refine lv_iconst (v := 0) C.x C.b dX3_holds_26 (by decide) ?_
    refine lv_goto (tgt := 40) C.x C.b dX3_holds_27 rfl ?_
    refine W.widen (k := 3) (n := 45) (Nat.le_of_ble_eq_true rfl) (Nat.le_of_ble_eq_true rfl) ?_
    rw [x_e1 hf, x_e2 hf]
    exact x_iret C hr hW dX3_holds_40

theorem fg_X4_17_12 : FdG "NylonLadder$Plain" 17 12 1 false := ⟨_, _, _, _, rfl, by decide, by decide, by decide, gxX9, by decide, T_4_217, Or.inl rfl, rfl⟩
def fX4_holds_k12 (M : Mm) (o : Nat) (p1 : Int32) : Option (Int32 × Mm) :=
  B1 (rdN M o 12 2) fun a1_1 =>
  B1 (fJ6_valueOf_2dffe M 12) fun x6_2 =>
  B1 (gk M a1_1 2) fun _ =>
  B2 (fJx4a65c_add_9ea2d M a1_1 x6_2) fun x9_4 M9_5 =>
  B1 (rdI M9_5 o 12 1) fun x14_6 =>
  B1 (rdI M9_5 o 12 0) fun x18_7 =>
  if (x14_6 - x18_7) = 0 then
    B1 (wrZ M9_5 o 12 3 1) fun M29_9 =>
    some (0, M29_9)
  else
    B1 (nzI (x14_6 - x18_7)) fun _ =>
    some ((p1 / (x14_6 - x18_7)), M9_5)
set_option maxRecDepth 100000 in
set_option maxHeartbeats 4000000 in
theorem qX4_holds_k12 (l : Launch) (E : Ev) {M : Mm} {o : Nat} {p1 : Int32} {rz : Int32} {Mz : Mm} (hf : fX4_holds_k12 M o p1 = some (rz, Mz)) : Ct l E yX4_holds cX4_holds 3 (some .int) 7 149 1 15 [.ref (E.b + o), .int p1] M (some (.int rz)) Mz := by
  refine ct_of (by decide +kernel) (Nat.le_of_ble_eq_true rfl) fun p e s m args below meth c C hr hin hW ls hl => ?_
  have hl : lv_has ls 3 [(0, .ref (E.b + o)), (1, .int p1)] := hl
  unfold fX4_holds_k12 at hf
  refine lv_aload_n C.x C.b dX4_holds_0 rfl (lv_at hl 0 rfl) ?_
  obtain ⟨a1_1, ha1_1, hf⟩ := x_b1 hf
  refine x_getn C hW fg_X4_20_12 ha1_1 dX4_holds_1 ?_
  refine lv_bipush (v := 12) C.x C.b dX4_holds_4 (by decide) ?_
  obtain ⟨x6_2, hx6_2, hf⟩ := x_b1 hf
  refine x_callS (As := [.int 12]) (rest := [.ref (E.b + a1_1)]) C hW hl (qJ6_valueOf_2dffe l E hx6_2) gs_X4_24 hd_J6_valueOf_2dffe rfl rfl (Nat.le_of_ble_eq_true rfl) dX4_holds_6 ⟨Nat.le_of_ble_eq_true rfl, Nat.le_of_ble_eq_true rfl⟩ ⟨Nat.le_of_ble_eq_true rfl, Nat.le_of_ble_eq_true rfl⟩ (fun H locs hW => ?_)
  obtain ⟨_, hk9_3, hf⟩ := x_b1 hf
  obtain ⟨x9_4, M9_5, hx9_4, hf⟩ := x_b2 hf
  refine x_callV (As := [.ref (bxA E x6_2)]) (a := a1_1) (rest := []) C hW hl (qJx4a65c_add_9ea2d l E hx9_4) (x_gk hk9_3) (by decide) (by decide) rfl gv_X4_30 ⟨rfl, hd_Jx4a65c_add_9ea2d⟩ rfl rfl (Nat.le_of_ble_eq_true rfl) dX4_holds_9 ⟨Nat.le_of_ble_eq_true rfl, Nat.le_of_ble_eq_true rfl⟩ ⟨Nat.le_of_ble_eq_true rfl, Nat.le_of_ble_eq_true rfl⟩ (fun H locs hW => ?_)
  refine lv_pop C.x C.b dX4_holds_12 rfl ?_
  refine lv_aload_n C.x C.b dX4_holds_13 rfl (lv_at hl 0 rfl) ?_
  obtain ⟨x14_6, hx14_6, hf⟩ := x_b1 hf
  refine x_geti C hW fg_X4_17_12 hx14_6 dX4_holds_14 ?_
  refine lv_aload_n C.x C.b dX4_holds_17 rfl (lv_at hl 0 rfl) ?_
  obtain ⟨x18_7, hx18_7, hf⟩ := x_b1 hf
  refine x_geti C hW fg_X4_13_12 hx18_7 dX4_holds_18 ?_
  refine lv_isub C.x C.b dX4_holds_21 ?_
  refine lv_istore_n (lv' := [(2, .int _), (0, .ref (E.b + _)), (1, .int _)]) C.x C.b dX4_holds_22 rfl hl (by decide) rfl (fun ls hl => ?_)
  refine lv_iload_n C.x C.b dX4_holds_23 rfl (lv_at hl 0 rfl) ?_
  refine lv_if_ne (tgt := 34) C.x C.b dX4_holds_24 rfl (fun c24 => ?_) (fun c24 => ?_)
  · have hf := x_in c24 hf
    refine lv_iload_n C.x C.b dX4_holds_34 rfl (lv_at hl 2 rfl) ?_
    refine lv_iload_n C.x C.b dX4_holds_35 rfl (lv_at hl 0 rfl) ?_
    obtain ⟨_, hz36_8, hf⟩ := x_b1 hf
    refine lv_idiv C.x C.b dX4_holds_36 (x_nzI hz36_8) ?_
    rw [x_e1 hf, x_e2 hf]
    exact x_iret C hr hW dX4_holds_37
  · have hf := x_ip c24 hf
    refine lv_aload_n C.x C.b dX4_holds_27 rfl (lv_at hl 1 rfl) ?_
    refine lv_iconst (v := 1) C.x C.b dX4_holds_28 (by decide) ?_
    obtain ⟨M29_9, hM29_9, hf⟩ := x_b1 hf
    refine x_putz C hW fp_X4_7_12 hM29_9 (fun h => by cases h) dX4_holds_29 (fun H locs hW => ?_)
    refine lv_iconst (v := 0) C.x C.b dX4_holds_32 (by decide) ?_
    rw [x_e1 hf, x_e2 hf]
    exact x_iret C hr hW dX4_holds_33

theorem fg_X4_17_8 : FdG "NylonLadder$Plain" 17 8 1 false := ⟨_, _, _, _, rfl, by decide, by decide, by decide, gxX5, by decide, T_4_217, Or.inl rfl, rfl⟩
def fX4_holds_k8 (M : Mm) (o : Nat) (p1 : Int32) : Option (Int32 × Mm) :=
  B1 (rdN M o 8 2) fun a1_1 =>
  B1 (fJ6_valueOf_2dffe M 12) fun x6_2 =>
  B1 (gk M a1_1 2) fun _ =>
  B2 (fJx4a65c_add_9ea2d M a1_1 x6_2) fun x9_4 M9_5 =>
  B1 (rdI M9_5 o 8 1) fun x14_6 =>
  B1 (rdI M9_5 o 8 0) fun x18_7 =>
  if (x14_6 - x18_7) = 0 then
    B1 (wrZ M9_5 o 8 3 1) fun M29_9 =>
    some (0, M29_9)
  else
    B1 (nzI (x14_6 - x18_7)) fun _ =>
    some ((p1 / (x14_6 - x18_7)), M9_5)
set_option maxRecDepth 100000 in
set_option maxHeartbeats 4000000 in
theorem qX4_holds_k8 (l : Launch) (E : Ev) {M : Mm} {o : Nat} {p1 : Int32} {rz : Int32} {Mz : Mm} (hf : fX4_holds_k8 M o p1 = some (rz, Mz)) : Ct l E yX4_holds cX4_holds 3 (some .int) 7 149 1 15 [.ref (E.b + o), .int p1] M (some (.int rz)) Mz := by
  refine ct_of (by decide +kernel) (Nat.le_of_ble_eq_true rfl) fun p e s m args below meth c C hr hin hW ls hl => ?_
  have hl : lv_has ls 3 [(0, .ref (E.b + o)), (1, .int p1)] := hl
  unfold fX4_holds_k8 at hf
  refine lv_aload_n C.x C.b dX4_holds_0 rfl (lv_at hl 0 rfl) ?_
  obtain ⟨a1_1, ha1_1, hf⟩ := x_b1 hf
  refine x_getn C hW fg_X4_20_8 ha1_1 dX4_holds_1 ?_
  refine lv_bipush (v := 12) C.x C.b dX4_holds_4 (by decide) ?_
  obtain ⟨x6_2, hx6_2, hf⟩ := x_b1 hf
  refine x_callS (As := [.int 12]) (rest := [.ref (E.b + a1_1)]) C hW hl (qJ6_valueOf_2dffe l E hx6_2) gs_X4_24 hd_J6_valueOf_2dffe rfl rfl (Nat.le_of_ble_eq_true rfl) dX4_holds_6 ⟨Nat.le_of_ble_eq_true rfl, Nat.le_of_ble_eq_true rfl⟩ ⟨Nat.le_of_ble_eq_true rfl, Nat.le_of_ble_eq_true rfl⟩ (fun H locs hW => ?_)
  obtain ⟨_, hk9_3, hf⟩ := x_b1 hf
  obtain ⟨x9_4, M9_5, hx9_4, hf⟩ := x_b2 hf
  refine x_callV (As := [.ref (bxA E x6_2)]) (a := a1_1) (rest := []) C hW hl (qJx4a65c_add_9ea2d l E hx9_4) (x_gk hk9_3) (by decide) (by decide) rfl gv_X4_30 ⟨rfl, hd_Jx4a65c_add_9ea2d⟩ rfl rfl (Nat.le_of_ble_eq_true rfl) dX4_holds_9 ⟨Nat.le_of_ble_eq_true rfl, Nat.le_of_ble_eq_true rfl⟩ ⟨Nat.le_of_ble_eq_true rfl, Nat.le_of_ble_eq_true rfl⟩ (fun H locs hW => ?_)
  refine lv_pop C.x C.b dX4_holds_12 rfl ?_
  refine lv_aload_n C.x C.b dX4_holds_13 rfl (lv_at hl 0 rfl) ?_
  obtain ⟨x14_6, hx14_6, hf⟩ := x_b1 hf
  refine x_geti C hW fg_X4_17_8 hx14_6 dX4_holds_14 ?_
  refine lv_aload_n C.x C.b dX4_holds_17 rfl (lv_at hl 0 rfl) ?_
  obtain ⟨x18_7, hx18_7, hf⟩ := x_b1 hf
  refine x_geti C hW fg_X4_13_8 hx18_7 dX4_holds_18 ?_
  refine lv_isub C.x C.b dX4_holds_21 ?_
  refine lv_istore_n (lv' := [(2, .int _), (0, .ref (E.b + _)), (1, .int _)]) C.x C.b dX4_holds_22 rfl hl (by decide) rfl (fun ls hl => ?_)
  refine lv_iload_n C.x C.b dX4_holds_23 rfl (lv_at hl 0 rfl) ?_
  refine lv_if_ne (tgt := 34) C.x C.b dX4_holds_24 rfl (fun c24 => ?_) (fun c24 => ?_)
  · have hf := x_in c24 hf
    refine lv_iload_n C.x C.b dX4_holds_34 rfl (lv_at hl 2 rfl) ?_
    refine lv_iload_n C.x C.b dX4_holds_35 rfl (lv_at hl 0 rfl) ?_
    obtain ⟨_, hz36_8, hf⟩ := x_b1 hf
    refine lv_idiv C.x C.b dX4_holds_36 (x_nzI hz36_8) ?_
    rw [x_e1 hf, x_e2 hf]
    exact x_iret C hr hW dX4_holds_37
  · have hf := x_ip c24 hf
    refine lv_aload_n C.x C.b dX4_holds_27 rfl (lv_at hl 1 rfl) ?_
    refine lv_iconst (v := 1) C.x C.b dX4_holds_28 (by decide) ?_
    obtain ⟨M29_9, hM29_9, hf⟩ := x_b1 hf
    refine x_putz C hW fp_X4_7_8 hM29_9 (fun h => by cases h) dX4_holds_29 (fun H locs hW => ?_)
    refine lv_iconst (v := 0) C.x C.b dX4_holds_32 (by decide) ?_
    rw [x_e1 hf, x_e2 hf]
    exact x_iret C hr hW dX4_holds_33

theorem fg_X4_17_7 : FdG "NylonLadder$Plain" 17 7 1 false := ⟨_, _, _, _, rfl, by decide, by decide, by decide, gxX4, by decide, T_4_217, Or.inl rfl, rfl⟩
def fX4_holds_k7 (M : Mm) (o : Nat) (p1 : Int32) : Option (Int32 × Mm) :=
  B1 (rdN M o 7 2) fun a1_1 =>
  B1 (fJ6_valueOf_2dffe M 12) fun x6_2 =>
  B1 (gk M a1_1 2) fun _ =>
  B2 (fJx4a65c_add_9ea2d M a1_1 x6_2) fun x9_4 M9_5 =>
  B1 (rdI M9_5 o 7 1) fun x14_6 =>
  B1 (rdI M9_5 o 7 0) fun x18_7 =>
  if (x14_6 - x18_7) = 0 then
    B1 (wrZ M9_5 o 7 3 1) fun M29_9 =>
    some (0, M29_9)
  else
    B1 (nzI (x14_6 - x18_7)) fun _ =>
    some ((p1 / (x14_6 - x18_7)), M9_5)
set_option maxRecDepth 100000 in
set_option maxHeartbeats 4000000 in
theorem qX4_holds_k7 (l : Launch) (E : Ev) {M : Mm} {o : Nat} {p1 : Int32} {rz : Int32} {Mz : Mm} (hf : fX4_holds_k7 M o p1 = some (rz, Mz)) : Ct l E yX4_holds cX4_holds 3 (some .int) 7 149 1 15 [.ref (E.b + o), .int p1] M (some (.int rz)) Mz := by
  refine ct_of (by decide +kernel) (Nat.le_of_ble_eq_true rfl) fun p e s m args below meth c C hr hin hW ls hl => ?_
  have hl : lv_has ls 3 [(0, .ref (E.b + o)), (1, .int p1)] := hl
  unfold fX4_holds_k7 at hf
  refine lv_aload_n C.x C.b dX4_holds_0 rfl (lv_at hl 0 rfl) ?_
  obtain ⟨a1_1, ha1_1, hf⟩ := x_b1 hf
  refine x_getn C hW fg_X4_20_7 ha1_1 dX4_holds_1 ?_
  refine lv_bipush (v := 12) C.x C.b dX4_holds_4 (by decide) ?_
  obtain ⟨x6_2, hx6_2, hf⟩ := x_b1 hf
  refine x_callS (As := [.int 12]) (rest := [.ref (E.b + a1_1)]) C hW hl (qJ6_valueOf_2dffe l E hx6_2) gs_X4_24 hd_J6_valueOf_2dffe rfl rfl (Nat.le_of_ble_eq_true rfl) dX4_holds_6 ⟨Nat.le_of_ble_eq_true rfl, Nat.le_of_ble_eq_true rfl⟩ ⟨Nat.le_of_ble_eq_true rfl, Nat.le_of_ble_eq_true rfl⟩ (fun H locs hW => ?_)
  obtain ⟨_, hk9_3, hf⟩ := x_b1 hf
  obtain ⟨x9_4, M9_5, hx9_4, hf⟩ := x_b2 hf
  refine x_callV (As := [.ref (bxA E x6_2)]) (a := a1_1) (rest := []) C hW hl (qJx4a65c_add_9ea2d l E hx9_4) (x_gk hk9_3) (by decide) (by decide) rfl gv_X4_30 ⟨rfl, hd_Jx4a65c_add_9ea2d⟩ rfl rfl (Nat.le_of_ble_eq_true rfl) dX4_holds_9 ⟨Nat.le_of_ble_eq_true rfl, Nat.le_of_ble_eq_true rfl⟩ ⟨Nat.le_of_ble_eq_true rfl, Nat.le_of_ble_eq_true rfl⟩ (fun H locs hW => ?_)
  refine lv_pop C.x C.b dX4_holds_12 rfl ?_
  refine lv_aload_n C.x C.b dX4_holds_13 rfl (lv_at hl 0 rfl) ?_
  obtain ⟨x14_6, hx14_6, hf⟩ := x_b1 hf
  refine x_geti C hW fg_X4_17_7 hx14_6 dX4_holds_14 ?_
  refine lv_aload_n C.x C.b dX4_holds_17 rfl (lv_at hl 0 rfl) ?_
  obtain ⟨x18_7, hx18_7, hf⟩ := x_b1 hf
  refine x_geti C hW fg_X4_13_7 hx18_7 dX4_holds_18 ?_
  refine lv_isub C.x C.b dX4_holds_21 ?_
  refine lv_istore_n (lv' := [(2, .int _), (0, .ref (E.b + _)), (1, .int _)]) C.x C.b dX4_holds_22 rfl hl (by decide) rfl (fun ls hl => ?_)
  refine lv_iload_n C.x C.b dX4_holds_23 rfl (lv_at hl 0 rfl) ?_
  refine lv_if_ne (tgt := 34) C.x C.b dX4_holds_24 rfl (fun c24 => ?_) (fun c24 => ?_)
  · have hf := x_in c24 hf
    refine lv_iload_n C.x C.b dX4_holds_34 rfl (lv_at hl 2 rfl) ?_
    refine lv_iload_n C.x C.b dX4_holds_35 rfl (lv_at hl 0 rfl) ?_
    obtain ⟨_, hz36_8, hf⟩ := x_b1 hf
    refine lv_idiv C.x C.b dX4_holds_36 (x_nzI hz36_8) ?_
    rw [x_e1 hf, x_e2 hf]
    exact x_iret C hr hW dX4_holds_37
  · have hf := x_ip c24 hf
    refine lv_aload_n C.x C.b dX4_holds_27 rfl (lv_at hl 1 rfl) ?_
    refine lv_iconst (v := 1) C.x C.b dX4_holds_28 (by decide) ?_
    obtain ⟨M29_9, hM29_9, hf⟩ := x_b1 hf
    refine x_putz C hW fp_X4_7_7 hM29_9 (fun h => by cases h) dX4_holds_29 (fun H locs hW => ?_)
    refine lv_iconst (v := 0) C.x C.b dX4_holds_32 (by decide) ?_
    rw [x_e1 hf, x_e2 hf]
    exact x_iret C hr hW dX4_holds_33

theorem dX4_tells_0 : decode cX4_tells 0 = .ok (.aload_n 0, 1) := by decide +kernel
theorem dX4_tells_1 : decode cX4_tells 1 = .ok (.getfield 20, 3) := by decide +kernel
theorem dX4_tells_4 : decode cX4_tells 4 = .ok (.bipush 13, 2) := by decide +kernel
theorem dX4_tells_6 : decode cX4_tells 6 = .ok (.invokestatic 24, 3) := by decide +kernel
theorem dX4_tells_9 : decode cX4_tells 9 = .ok (.invokevirtual 30, 3) := by decide +kernel
theorem dX4_tells_12 : decode cX4_tells 12 = .ok (.pop, 1) := by decide +kernel
theorem dX4_tells_13 : decode cX4_tells 13 = .ok (.aload_n 0, 1) := by decide +kernel
theorem dX4_tells_14 : decode cX4_tells 14 = .ok (.iload_n 1, 1) := by decide +kernel
theorem dX4_tells_15 : decode cX4_tells 15 = .ok (.invokevirtual 40, 3) := by decide +kernel
theorem dX4_tells_18 : decode cX4_tells 18 = .ok (.aload_n 0, 1) := by decide +kernel
theorem dX4_tells_19 : decode cX4_tells 19 = .ok (.getfield 17, 3) := by decide +kernel
theorem dX4_tells_22 : decode cX4_tells 22 = .ok (.ixor, 1) := by decide +kernel
theorem dX4_tells_23 : decode cX4_tells 23 = .ok (.ireturn, 1) := by decide +kernel
theorem hd_X1_dries : yX1_dries.cls ≠ "java/lang/invoke/MethodHandle" ∧ yX1_dries.cls ≠ "java/lang/invoke/VarHandle" ∧ (parseMethodDescriptor yX1_dries.desc).map (fun d => d.parameters.length) = some 1 := by decide +kernel
theorem hdo_X4_40 : ("NylonLadder$Plain" : String) ≠ "java/lang/invoke/MethodHandle" ∧ ("NylonLadder$Plain" : String) ≠ "java/lang/invoke/VarHandle" ∧ (parseMethodDescriptor "(I)I").map (fun d => d.parameters.length) = some 1 := by decide +kernel
theorem gu_X4_40_4 : GoodIn gT (va_wsO "NylonLadder$Plain" 40 "NylonLadder$Lined" "NylonLadder$Plain" ⟨"NylonLadder$Plain", "dries", "(I)I"⟩ yX1_dries (Cond.code yX1_dries cX1_dries 2 (some .int) :: gT)) := good_O T_5_226 T_5_164 T_5_162 T_5_165 T_5_166 T_1_21 T_5_167
def fX4_tells_k4 (M : Mm) (o : Nat) (p1 : Int32) : Option (Int32 × Mm) :=
  B1 (rdN M o 4 2) fun a1_1 =>
  B1 (fJ6_valueOf_2dffe M 13) fun x6_2 =>
  B1 (gk M a1_1 2) fun _ =>
  B2 (fJx4a65c_add_9ea2d M a1_1 x6_2) fun x9_4 M9_5 =>
  B1 (gk M9_5 o 4) fun _ =>
  B2 (fX1_dries_k4 M9_5 o p1) fun x15_7 M15_8 =>
  B1 (rdI M15_8 o 4 1) fun x19_9 =>
  some ((x15_7 ^^^ x19_9), M15_8)
set_option maxRecDepth 100000 in
set_option maxHeartbeats 4000000 in
theorem qX4_tells_k4 (l : Launch) (E : Ev) {M : Mm} {o : Nat} {p1 : Int32} {rz : Int32} {Mz : Mm} (hf : fX4_tells_k4 M o p1 = some (rz, Mz)) : Ct l E yX4_tells cX4_tells 2 (some .int) 12 254 9 135 [.ref (E.b + o), .int p1] M (some (.int rz)) Mz := by
  refine ct_of (by decide +kernel) (Nat.le_of_ble_eq_true rfl) fun p e s m args below meth c C hr hin hW ls hl => ?_
  have hl : lv_has ls 2 [(0, .ref (E.b + o)), (1, .int p1)] := hl
  unfold fX4_tells_k4 at hf
  refine lv_aload_n C.x C.b dX4_tells_0 rfl (lv_at hl 0 rfl) ?_
  obtain ⟨a1_1, ha1_1, hf⟩ := x_b1 hf
  refine x_getn C hW fg_X4_20_4 ha1_1 dX4_tells_1 ?_
  refine lv_bipush (v := 13) C.x C.b dX4_tells_4 (by decide) ?_
  obtain ⟨x6_2, hx6_2, hf⟩ := x_b1 hf
  refine x_callS (As := [.int 13]) (rest := [.ref (E.b + a1_1)]) C hW hl (qJ6_valueOf_2dffe l E hx6_2) gs_X4_24 hd_J6_valueOf_2dffe rfl rfl (Nat.le_of_ble_eq_true rfl) dX4_tells_6 ⟨Nat.le_of_ble_eq_true rfl, Nat.le_of_ble_eq_true rfl⟩ ⟨Nat.le_of_ble_eq_true rfl, Nat.le_of_ble_eq_true rfl⟩ (fun H locs hW => ?_)
  obtain ⟨_, hk9_3, hf⟩ := x_b1 hf
  obtain ⟨x9_4, M9_5, hx9_4, hf⟩ := x_b2 hf
  refine x_callV (As := [.ref (bxA E x6_2)]) (a := a1_1) (rest := []) C hW hl (qJx4a65c_add_9ea2d l E hx9_4) (x_gk hk9_3) (by decide) (by decide) rfl gv_X4_30 ⟨rfl, hd_Jx4a65c_add_9ea2d⟩ rfl rfl (Nat.le_of_ble_eq_true rfl) dX4_tells_9 ⟨Nat.le_of_ble_eq_true rfl, Nat.le_of_ble_eq_true rfl⟩ ⟨Nat.le_of_ble_eq_true rfl, Nat.le_of_ble_eq_true rfl⟩ (fun H locs hW => ?_)
  refine lv_pop C.x C.b dX4_tells_12 rfl ?_
  refine lv_aload_n C.x C.b dX4_tells_13 rfl (lv_at hl 0 rfl) ?_
  refine lv_iload_n C.x C.b dX4_tells_14 rfl (lv_at hl 1 rfl) ?_
  obtain ⟨_, hk15_6, hf⟩ := x_b1 hf
  obtain ⟨x15_7, M15_8, hx15_7, hf⟩ := x_b2 hf
  refine x_callO (owner := "NylonLadder$Plain") (x := ⟨"NylonLadder$Plain", "dries", "(I)I"⟩) (As := [.int p1]) (a := o) (rest := []) C hW hl (qX1_dries_k4 l E hx15_7) (x_gk hk15_6) (by decide) (by decide) rfl gu_X4_40_4 T_5_181 hdo_X4_40 rfl rfl (Nat.le_of_ble_eq_true rfl) dX4_tells_15 ⟨Nat.le_of_ble_eq_true rfl, Nat.le_of_ble_eq_true rfl⟩ ⟨Nat.le_of_ble_eq_true rfl, Nat.le_of_ble_eq_true rfl⟩ (fun H locs hW => ?_)
  refine lv_aload_n C.x C.b dX4_tells_18 rfl (lv_at hl 0 rfl) ?_
  obtain ⟨x19_9, hx19_9, hf⟩ := x_b1 hf
  refine x_geti C hW fg_X4_17_4 hx19_9 dX4_tells_19 ?_
  refine lv_ixor C.x C.b dX4_tells_22 ?_
  rw [x_e1 hf, x_e2 hf]
  exact x_iret C hr hW dX4_tells_23

theorem dX9_tells_0 : decode cX9_tells 0 = .ok (.aload_n 0, 1) := by decide +kernel
theorem dX9_tells_1 : decode cX9_tells 1 = .ok (.getfield 7, 3) := by decide +kernel
theorem dX9_tells_4 : decode cX9_tells 4 = .ok (.bipush 31, 2) := by decide +kernel
theorem dX9_tells_6 : decode cX9_tells 6 = .ok (.invokestatic 13, 3) := by decide +kernel
theorem dX9_tells_9 : decode cX9_tells 9 = .ok (.invokevirtual 19, 3) := by decide +kernel
theorem dX9_tells_12 : decode cX9_tells 12 = .ok (.pop, 1) := by decide +kernel
theorem dX9_tells_13 : decode cX9_tells 13 = .ok (.aload_n 0, 1) := by decide +kernel
theorem dX9_tells_14 : decode cX9_tells 14 = .ok (.iload_n 1, 1) := by decide +kernel
theorem dX9_tells_15 : decode cX9_tells 15 = .ok (.invokespecial 29, 3) := by decide +kernel
theorem dX9_tells_18 : decode cX9_tells 18 = .ok (.aload_n 0, 1) := by decide +kernel
theorem dX9_tells_19 : decode cX9_tells 19 = .ok (.aload_n 0, 1) := by decide +kernel
theorem dX9_tells_20 : decode cX9_tells 20 = .ok (.getfield 32, 3) := by decide +kernel
theorem dX9_tells_23 : decode cX9_tells 23 = .ok (.invokevirtual 36, 3) := by decide +kernel
theorem dX9_tells_26 : decode cX9_tells 26 = .ok (.iadd, 1) := by decide +kernel
theorem dX9_tells_27 : decode cX9_tells 27 = .ok (.ireturn, 1) := by decide +kernel
theorem hd_X4_tells : yX4_tells.cls ≠ "java/lang/invoke/MethodHandle" ∧ yX4_tells.cls ≠ "java/lang/invoke/VarHandle" ∧ (parseMethodDescriptor yX4_tells.desc).map (fun d => d.parameters.length) = some 1 := by decide +kernel
theorem hdn_X4_tells : yX4_tells.name ≠ "<init>" ∧ (parseMethodDescriptor yX4_tells.desc).map (fun d => d.parameters.length) = some 1 := by decide +kernel
theorem gp_X9_29 : GoodIn gT (va_wsSU "NylonLadder$Thick" 29 yX4_tells (Cond.code yX4_tells cX4_tells 2 (some .int) :: gT)) := good_SU T_5_213 T_5_209 T_5_16 T_5_207 T_1_17 T_5_225
theorem fg_X9_32_4 : FdG "NylonLadder$Thick" 32 4 0 false := ⟨_, _, _, _, rfl, by decide, by decide, by decide, gxX1, by decide, T_4_215, Or.inr T_4_216, rfl⟩
theorem hdo_X9_36 : ("NylonLadder$Plain" : String) ≠ "java/lang/invoke/MethodHandle" ∧ ("NylonLadder$Plain" : String) ≠ "java/lang/invoke/VarHandle" ∧ (parseMethodDescriptor "(I)I").map (fun d => d.parameters.length) = some 1 := by decide +kernel
theorem gu_X9_36_4 : GoodIn gT (va_wsU "NylonLadder$Thick" 36 "NylonLadder$Lined" "NylonLadder$Plain" ⟨"NylonLadder$Thick", "holds", "(I)I"⟩ yX4_holds (Cond.code yX4_holds cX4_holds 3 (some .int) :: gT)) := good_U T_5_214 T_5_215 T_5_216 T_5_184 T_1_17 T_5_205
def fX9_tells_k4 (M : Mm) (o : Nat) (p1 : Int32) : Option (Int32 × Mm) :=
  B1 (rdN M o 4 2) fun a1_1 =>
  B1 (fJ6_valueOf_2dffe M 31) fun x6_2 =>
  B1 (gk M a1_1 2) fun _ =>
  B2 (fJx4a65c_add_9ea2d M a1_1 x6_2) fun x9_4 M9_5 =>
  B1 (gk M9_5 o 4) fun _ =>
  B2 (fX4_tells_k4 M9_5 o p1) fun x15_7 M15_8 =>
  B1 (rdI M15_8 o 4 0) fun x20_9 =>
  B1 (gk M15_8 o 4) fun _ =>
  B2 (fX4_holds_k4 M15_8 o x20_9) fun x23_11 M23_12 =>
  some ((x15_7 + x23_11), M23_12)
set_option maxRecDepth 100000 in
set_option maxHeartbeats 4000000 in
theorem qX9_tells_k4 (l : Launch) (E : Ev) {M : Mm} {o : Nat} {p1 : Int32} {rz : Int32} {Mz : Mm} (hf : fX9_tells_k4 M o p1 = some (rz, Mz)) : Ct l E yX9_tells cX9_tells 2 (some .int) 13 275 11 165 [.ref (E.b + o), .int p1] M (some (.int rz)) Mz := by
  refine ct_of (by decide +kernel) (Nat.le_of_ble_eq_true rfl) fun p e s m args below meth c C hr hin hW ls hl => ?_
  have hl : lv_has ls 2 [(0, .ref (E.b + o)), (1, .int p1)] := hl
  unfold fX9_tells_k4 at hf
  refine lv_aload_n C.x C.b dX9_tells_0 rfl (lv_at hl 0 rfl) ?_
  obtain ⟨a1_1, ha1_1, hf⟩ := x_b1 hf
  refine x_getn C hW fg_X9_7_4 ha1_1 dX9_tells_1 ?_
  refine lv_bipush (v := 31) C.x C.b dX9_tells_4 (by decide) ?_
  obtain ⟨x6_2, hx6_2, hf⟩ := x_b1 hf
  refine x_callS (As := [.int 31]) (rest := [.ref (E.b + a1_1)]) C hW hl (qJ6_valueOf_2dffe l E hx6_2) gs_X9_13 hd_J6_valueOf_2dffe rfl rfl (Nat.le_of_ble_eq_true rfl) dX9_tells_6 ⟨Nat.le_of_ble_eq_true rfl, Nat.le_of_ble_eq_true rfl⟩ ⟨Nat.le_of_ble_eq_true rfl, Nat.le_of_ble_eq_true rfl⟩ (fun H locs hW => ?_)
  obtain ⟨_, hk9_3, hf⟩ := x_b1 hf
  obtain ⟨x9_4, M9_5, hx9_4, hf⟩ := x_b2 hf
  refine x_callV (As := [.ref (bxA E x6_2)]) (a := a1_1) (rest := []) C hW hl (qJx4a65c_add_9ea2d l E hx9_4) (x_gk hk9_3) (by decide) (by decide) rfl gv_X9_19 ⟨rfl, hd_Jx4a65c_add_9ea2d⟩ rfl rfl (Nat.le_of_ble_eq_true rfl) dX9_tells_9 ⟨Nat.le_of_ble_eq_true rfl, Nat.le_of_ble_eq_true rfl⟩ ⟨Nat.le_of_ble_eq_true rfl, Nat.le_of_ble_eq_true rfl⟩ (fun H locs hW => ?_)
  refine lv_pop C.x C.b dX9_tells_12 rfl ?_
  refine lv_aload_n C.x C.b dX9_tells_13 rfl (lv_at hl 0 rfl) ?_
  refine lv_iload_n C.x C.b dX9_tells_14 rfl (lv_at hl 1 rfl) ?_
  obtain ⟨_, hk15_6, hf⟩ := x_b1 hf
  obtain ⟨x15_7, M15_8, hx15_7, hf⟩ := x_b2 hf
  refine x_callSU (As := [.int p1]) (a := o) (rest := []) C hW hl (qX4_tells_k4 l E hx15_7) (x_gk hk15_6) (by decide) (by decide) rfl gp_X9_29 hdn_X4_tells rfl rfl (Nat.le_of_ble_eq_true rfl) dX9_tells_15 ⟨Nat.le_of_ble_eq_true rfl, Nat.le_of_ble_eq_true rfl⟩ ⟨Nat.le_of_ble_eq_true rfl, Nat.le_of_ble_eq_true rfl⟩ (fun H locs hW => ?_)
  refine lv_aload_n C.x C.b dX9_tells_18 rfl (lv_at hl 0 rfl) ?_
  refine lv_aload_n C.x C.b dX9_tells_19 rfl (lv_at hl 0 rfl) ?_
  obtain ⟨x20_9, hx20_9, hf⟩ := x_b1 hf
  refine x_geti C hW fg_X9_32_4 hx20_9 dX9_tells_20 ?_
  obtain ⟨_, hk23_10, hf⟩ := x_b1 hf
  obtain ⟨x23_11, M23_12, hx23_11, hf⟩ := x_b2 hf
  refine x_callU (owner := "NylonLadder$Plain") (x := ⟨"NylonLadder$Thick", "holds", "(I)I"⟩) (As := [.int x20_9]) (a := o) (rest := [.int x15_7]) C hW hl (qX4_holds_k4 l E hx23_11) (x_gk hk23_10) (by decide) (by decide) rfl gu_X9_36_4 rfl hdo_X9_36 rfl rfl (Nat.le_of_ble_eq_true rfl) dX9_tells_23 ⟨Nat.le_of_ble_eq_true rfl, Nat.le_of_ble_eq_true rfl⟩ ⟨Nat.le_of_ble_eq_true rfl, Nat.le_of_ble_eq_true rfl⟩ (fun H locs hW => ?_)
  refine lv_iadd C.x C.b dX9_tells_26 ?_
  rw [x_e1 hf, x_e2 hf]
  exact x_iret C hr hW dX9_tells_27

theorem hd_X5_dries : yX5_dries.cls ≠ "java/lang/invoke/MethodHandle" ∧ yX5_dries.cls ≠ "java/lang/invoke/VarHandle" ∧ (parseMethodDescriptor yX5_dries.desc).map (fun d => d.parameters.length) = some 1 := by decide +kernel
theorem gu_X4_40_5 : GoodIn gT (va_wsO "NylonLadder$Plain" 40 "NylonLadder$Mesh" "NylonLadder$Plain" ⟨"NylonLadder$Plain", "dries", "(I)I"⟩ yX5_dries (Cond.code yX5_dries cX5_dries 2 (some .int) :: gT)) := good_O T_5_226 T_5_164 T_5_162 T_5_172 T_5_173 T_1_18 T_5_174
def fX4_tells_k5 (M : Mm) (o : Nat) (p1 : Int32) : Option (Int32 × Mm) :=
  B1 (rdN M o 5 2) fun a1_1 =>
  B1 (fJ6_valueOf_2dffe M 13) fun x6_2 =>
  B1 (gk M a1_1 2) fun _ =>
  B2 (fJx4a65c_add_9ea2d M a1_1 x6_2) fun x9_4 M9_5 =>
  B1 (gk M9_5 o 5) fun _ =>
  B2 (fX5_dries_k5 M9_5 o p1) fun x15_7 M15_8 =>
  B1 (rdI M15_8 o 5 1) fun x19_9 =>
  some ((x15_7 ^^^ x19_9), M15_8)
set_option maxRecDepth 100000 in
set_option maxHeartbeats 4000000 in
theorem qX4_tells_k5 (l : Launch) (E : Ev) {M : Mm} {o : Nat} {p1 : Int32} {rz : Int32} {Mz : Mm} (hf : fX4_tells_k5 M o p1 = some (rz, Mz)) : Ct l E yX4_tells cX4_tells 2 (some .int) 11 233 5 75 [.ref (E.b + o), .int p1] M (some (.int rz)) Mz := by
  refine ct_of (by decide +kernel) (Nat.le_of_ble_eq_true rfl) fun p e s m args below meth c C hr hin hW ls hl => ?_
  have hl : lv_has ls 2 [(0, .ref (E.b + o)), (1, .int p1)] := hl
  unfold fX4_tells_k5 at hf
  refine lv_aload_n C.x C.b dX4_tells_0 rfl (lv_at hl 0 rfl) ?_
  obtain ⟨a1_1, ha1_1, hf⟩ := x_b1 hf
  refine x_getn C hW fg_X4_20_5 ha1_1 dX4_tells_1 ?_
  refine lv_bipush (v := 13) C.x C.b dX4_tells_4 (by decide) ?_
  obtain ⟨x6_2, hx6_2, hf⟩ := x_b1 hf
  refine x_callS (As := [.int 13]) (rest := [.ref (E.b + a1_1)]) C hW hl (qJ6_valueOf_2dffe l E hx6_2) gs_X4_24 hd_J6_valueOf_2dffe rfl rfl (Nat.le_of_ble_eq_true rfl) dX4_tells_6 ⟨Nat.le_of_ble_eq_true rfl, Nat.le_of_ble_eq_true rfl⟩ ⟨Nat.le_of_ble_eq_true rfl, Nat.le_of_ble_eq_true rfl⟩ (fun H locs hW => ?_)
  obtain ⟨_, hk9_3, hf⟩ := x_b1 hf
  obtain ⟨x9_4, M9_5, hx9_4, hf⟩ := x_b2 hf
  refine x_callV (As := [.ref (bxA E x6_2)]) (a := a1_1) (rest := []) C hW hl (qJx4a65c_add_9ea2d l E hx9_4) (x_gk hk9_3) (by decide) (by decide) rfl gv_X4_30 ⟨rfl, hd_Jx4a65c_add_9ea2d⟩ rfl rfl (Nat.le_of_ble_eq_true rfl) dX4_tells_9 ⟨Nat.le_of_ble_eq_true rfl, Nat.le_of_ble_eq_true rfl⟩ ⟨Nat.le_of_ble_eq_true rfl, Nat.le_of_ble_eq_true rfl⟩ (fun H locs hW => ?_)
  refine lv_pop C.x C.b dX4_tells_12 rfl ?_
  refine lv_aload_n C.x C.b dX4_tells_13 rfl (lv_at hl 0 rfl) ?_
  refine lv_iload_n C.x C.b dX4_tells_14 rfl (lv_at hl 1 rfl) ?_
  obtain ⟨_, hk15_6, hf⟩ := x_b1 hf
  obtain ⟨x15_7, M15_8, hx15_7, hf⟩ := x_b2 hf
  refine x_callO (owner := "NylonLadder$Plain") (x := ⟨"NylonLadder$Plain", "dries", "(I)I"⟩) (As := [.int p1]) (a := o) (rest := []) C hW hl (qX5_dries_k5 l E hx15_7) (x_gk hk15_6) (by decide) (by decide) rfl gu_X4_40_5 T_5_181 hdo_X4_40 rfl rfl (Nat.le_of_ble_eq_true rfl) dX4_tells_15 ⟨Nat.le_of_ble_eq_true rfl, Nat.le_of_ble_eq_true rfl⟩ ⟨Nat.le_of_ble_eq_true rfl, Nat.le_of_ble_eq_true rfl⟩ (fun H locs hW => ?_)
  refine lv_aload_n C.x C.b dX4_tells_18 rfl (lv_at hl 0 rfl) ?_
  obtain ⟨x19_9, hx19_9, hf⟩ := x_b1 hf
  refine x_geti C hW fg_X4_17_5 hx19_9 dX4_tells_19 ?_
  refine lv_ixor C.x C.b dX4_tells_22 ?_
  rw [x_e1 hf, x_e2 hf]
  exact x_iret C hr hW dX4_tells_23

theorem gu_X4_40_6 : GoodIn gT (va_wsU "NylonLadder$Plain" 40 "NylonLadder$Old" "NylonLadder$Plain" ⟨"NylonLadder$Plain", "dries", "(I)I"⟩ yX4_dries (Cond.code yX4_dries cX4_dries 2 (some .int) :: gT)) := good_U T_5_226 T_5_164 T_5_178 T_5_162 T_1_17 T_5_181
def fX4_tells_k6 (M : Mm) (o : Nat) (p1 : Int32) : Option (Int32 × Mm) :=
  B1 (rdN M o 6 2) fun a1_1 =>
  B1 (fJ6_valueOf_2dffe M 13) fun x6_2 =>
  B1 (gk M a1_1 2) fun _ =>
  B2 (fJx4a65c_add_9ea2d M a1_1 x6_2) fun x9_4 M9_5 =>
  B1 (gk M9_5 o 6) fun _ =>
  B2 (fX4_dries_k6 M9_5 o p1) fun x15_7 M15_8 =>
  B1 (rdI M15_8 o 6 1) fun x19_9 =>
  some ((x15_7 ^^^ x19_9), M15_8)
set_option maxRecDepth 100000 in
set_option maxHeartbeats 4000000 in
theorem qX4_tells_k6 (l : Launch) (E : Ev) {M : Mm} {o : Nat} {p1 : Int32} {rz : Int32} {Mz : Mm} (hf : fX4_tells_k6 M o p1 = some (rz, Mz)) : Ct l E yX4_tells cX4_tells 2 (some .int) 9 191 3 45 [.ref (E.b + o), .int p1] M (some (.int rz)) Mz := by
  refine ct_of (by decide +kernel) (Nat.le_of_ble_eq_true rfl) fun p e s m args below meth c C hr hin hW ls hl => ?_
  have hl : lv_has ls 2 [(0, .ref (E.b + o)), (1, .int p1)] := hl
  unfold fX4_tells_k6 at hf
  refine lv_aload_n C.x C.b dX4_tells_0 rfl (lv_at hl 0 rfl) ?_
  obtain ⟨a1_1, ha1_1, hf⟩ := x_b1 hf
  refine x_getn C hW fg_X4_20_6 ha1_1 dX4_tells_1 ?_
  refine lv_bipush (v := 13) C.x C.b dX4_tells_4 (by decide) ?_
  obtain ⟨x6_2, hx6_2, hf⟩ := x_b1 hf
  refine x_callS (As := [.int 13]) (rest := [.ref (E.b + a1_1)]) C hW hl (qJ6_valueOf_2dffe l E hx6_2) gs_X4_24 hd_J6_valueOf_2dffe rfl rfl (Nat.le_of_ble_eq_true rfl) dX4_tells_6 ⟨Nat.le_of_ble_eq_true rfl, Nat.le_of_ble_eq_true rfl⟩ ⟨Nat.le_of_ble_eq_true rfl, Nat.le_of_ble_eq_true rfl⟩ (fun H locs hW => ?_)
  obtain ⟨_, hk9_3, hf⟩ := x_b1 hf
  obtain ⟨x9_4, M9_5, hx9_4, hf⟩ := x_b2 hf
  refine x_callV (As := [.ref (bxA E x6_2)]) (a := a1_1) (rest := []) C hW hl (qJx4a65c_add_9ea2d l E hx9_4) (x_gk hk9_3) (by decide) (by decide) rfl gv_X4_30 ⟨rfl, hd_Jx4a65c_add_9ea2d⟩ rfl rfl (Nat.le_of_ble_eq_true rfl) dX4_tells_9 ⟨Nat.le_of_ble_eq_true rfl, Nat.le_of_ble_eq_true rfl⟩ ⟨Nat.le_of_ble_eq_true rfl, Nat.le_of_ble_eq_true rfl⟩ (fun H locs hW => ?_)
  refine lv_pop C.x C.b dX4_tells_12 rfl ?_
  refine lv_aload_n C.x C.b dX4_tells_13 rfl (lv_at hl 0 rfl) ?_
  refine lv_iload_n C.x C.b dX4_tells_14 rfl (lv_at hl 1 rfl) ?_
  obtain ⟨_, hk15_6, hf⟩ := x_b1 hf
  obtain ⟨x15_7, M15_8, hx15_7, hf⟩ := x_b2 hf
  refine x_callU (owner := "NylonLadder$Plain") (x := ⟨"NylonLadder$Plain", "dries", "(I)I"⟩) (As := [.int p1]) (a := o) (rest := []) C hW hl (qX4_dries_k6 l E hx15_7) (x_gk hk15_6) (by decide) (by decide) rfl gu_X4_40_6 rfl hdo_X4_40 rfl rfl (Nat.le_of_ble_eq_true rfl) dX4_tells_15 ⟨Nat.le_of_ble_eq_true rfl, Nat.le_of_ble_eq_true rfl⟩ ⟨Nat.le_of_ble_eq_true rfl, Nat.le_of_ble_eq_true rfl⟩ (fun H locs hW => ?_)
  refine lv_aload_n C.x C.b dX4_tells_18 rfl (lv_at hl 0 rfl) ?_
  obtain ⟨x19_9, hx19_9, hf⟩ := x_b1 hf
  refine x_geti C hW fg_X4_17_6 hx19_9 dX4_tells_19 ?_
  refine lv_ixor C.x C.b dX4_tells_22 ?_
  rw [x_e1 hf, x_e2 hf]
  exact x_iret C hr hW dX4_tells_23

theorem dX3_tells_0 : decode cX3_tells 0 = .ok (.aload_n 0, 1) := by decide +kernel
theorem dX3_tells_1 : decode cX3_tells 1 = .ok (.getfield 7, 3) := by decide +kernel
theorem dX3_tells_4 : decode cX3_tells 4 = .ok (.bipush 60, 2) := by decide +kernel
theorem dX3_tells_6 : decode cX3_tells 6 = .ok (.invokestatic 13, 3) := by decide +kernel
theorem dX3_tells_9 : decode cX3_tells 9 = .ok (.invokevirtual 19, 3) := by decide +kernel
theorem dX3_tells_12 : decode cX3_tells 12 = .ok (.pop, 1) := by decide +kernel
theorem dX3_tells_13 : decode cX3_tells 13 = .ok (.aload_n 0, 1) := by decide +kernel
theorem dX3_tells_14 : decode cX3_tells 14 = .ok (.iload_n 1, 1) := by decide +kernel
theorem dX3_tells_15 : decode cX3_tells 15 = .ok (.invokespecial 25, 3) := by decide +kernel
theorem dX3_tells_18 : decode cX3_tells 18 = .ok (.iconst 2, 1) := by decide +kernel
theorem dX3_tells_19 : decode cX3_tells 19 = .ok (.imul, 1) := by decide +kernel
theorem dX3_tells_20 : decode cX3_tells 20 = .ok (.ireturn, 1) := by decide +kernel
theorem gp_X3_25 : GoodIn gT (va_wsSU "NylonLadder$Old" 25 yX4_tells (Cond.code yX4_tells cX4_tells 2 (some .int) :: gT)) := good_SU T_5_222 T_5_209 T_5_49 T_5_207 T_1_17 T_5_225
def fX3_tells_k6 (M : Mm) (o : Nat) (p1 : Int32) : Option (Int32 × Mm) :=
  B1 (rdN M o 6 2) fun a1_1 =>
  B1 (fJ6_valueOf_2dffe M 60) fun x6_2 =>
  B1 (gk M a1_1 2) fun _ =>
  B2 (fJx4a65c_add_9ea2d M a1_1 x6_2) fun x9_4 M9_5 =>
  B1 (gk M9_5 o 6) fun _ =>
  B2 (fX4_tells_k6 M9_5 o p1) fun x15_7 M15_8 =>
  some ((x15_7 * 2), M15_8)
set_option maxRecDepth 100000 in
set_option maxHeartbeats 4000000 in
theorem qX3_tells_k6 (l : Launch) (E : Ev) {M : Mm} {o : Nat} {p1 : Int32} {rz : Int32} {Mz : Mm} (hf : fX3_tells_k6 M o p1 = some (rz, Mz)) : Ct l E yX3_tells cX3_tells 2 (some .int) 10 212 4 60 [.ref (E.b + o), .int p1] M (some (.int rz)) Mz := by
  refine ct_of (by decide +kernel) (Nat.le_of_ble_eq_true rfl) fun p e s m args below meth c C hr hin hW ls hl => ?_
  have hl : lv_has ls 2 [(0, .ref (E.b + o)), (1, .int p1)] := hl
  unfold fX3_tells_k6 at hf
  refine lv_aload_n C.x C.b dX3_tells_0 rfl (lv_at hl 0 rfl) ?_
  obtain ⟨a1_1, ha1_1, hf⟩ := x_b1 hf
  refine x_getn C hW fg_X3_7_6 ha1_1 dX3_tells_1 ?_
  refine lv_bipush (v := 60) C.x C.b dX3_tells_4 (by decide) ?_
  obtain ⟨x6_2, hx6_2, hf⟩ := x_b1 hf
  refine x_callS (As := [.int 60]) (rest := [.ref (E.b + a1_1)]) C hW hl (qJ6_valueOf_2dffe l E hx6_2) gs_X3_13 hd_J6_valueOf_2dffe rfl rfl (Nat.le_of_ble_eq_true rfl) dX3_tells_6 ⟨Nat.le_of_ble_eq_true rfl, Nat.le_of_ble_eq_true rfl⟩ ⟨Nat.le_of_ble_eq_true rfl, Nat.le_of_ble_eq_true rfl⟩ (fun H locs hW => ?_)
  obtain ⟨_, hk9_3, hf⟩ := x_b1 hf
  obtain ⟨x9_4, M9_5, hx9_4, hf⟩ := x_b2 hf
  refine x_callV (As := [.ref (bxA E x6_2)]) (a := a1_1) (rest := []) C hW hl (qJx4a65c_add_9ea2d l E hx9_4) (x_gk hk9_3) (by decide) (by decide) rfl gv_X3_19 ⟨rfl, hd_Jx4a65c_add_9ea2d⟩ rfl rfl (Nat.le_of_ble_eq_true rfl) dX3_tells_9 ⟨Nat.le_of_ble_eq_true rfl, Nat.le_of_ble_eq_true rfl⟩ ⟨Nat.le_of_ble_eq_true rfl, Nat.le_of_ble_eq_true rfl⟩ (fun H locs hW => ?_)
  refine lv_pop C.x C.b dX3_tells_12 rfl ?_
  refine lv_aload_n C.x C.b dX3_tells_13 rfl (lv_at hl 0 rfl) ?_
  refine lv_iload_n C.x C.b dX3_tells_14 rfl (lv_at hl 1 rfl) ?_
  obtain ⟨_, hk15_6, hf⟩ := x_b1 hf
  obtain ⟨x15_7, M15_8, hx15_7, hf⟩ := x_b2 hf
  refine x_callSU (As := [.int p1]) (a := o) (rest := []) C hW hl (qX4_tells_k6 l E hx15_7) (x_gk hk15_6) (by decide) (by decide) rfl gp_X3_25 hdn_X4_tells rfl rfl (Nat.le_of_ble_eq_true rfl) dX3_tells_15 ⟨Nat.le_of_ble_eq_true rfl, Nat.le_of_ble_eq_true rfl⟩ ⟨Nat.le_of_ble_eq_true rfl, Nat.le_of_ble_eq_true rfl⟩ (fun H locs hW => ?_)
  refine lv_iconst (v := 2) C.x C.b dX3_tells_18 (by decide) ?_
  refine lv_imul C.x C.b dX3_tells_19 ?_
  rw [x_e1 hf, x_e2 hf]
  exact x_iret C hr hW dX3_tells_20

theorem gu_X4_40_12 : GoodIn gT (va_wsU "NylonLadder$Plain" 40 "NylonLadder$Thick" "NylonLadder$Plain" ⟨"NylonLadder$Plain", "dries", "(I)I"⟩ yX4_dries (Cond.code yX4_dries cX4_dries 2 (some .int) :: gT)) := good_U T_5_226 T_5_164 T_5_180 T_5_162 T_1_17 T_5_181
def fX4_tells_k12 (M : Mm) (o : Nat) (p1 : Int32) : Option (Int32 × Mm) :=
  B1 (rdN M o 12 2) fun a1_1 =>
  B1 (fJ6_valueOf_2dffe M 13) fun x6_2 =>
  B1 (gk M a1_1 2) fun _ =>
  B2 (fJx4a65c_add_9ea2d M a1_1 x6_2) fun x9_4 M9_5 =>
  B1 (gk M9_5 o 12) fun _ =>
  B2 (fX4_dries_k12 M9_5 o p1) fun x15_7 M15_8 =>
  B1 (rdI M15_8 o 12 1) fun x19_9 =>
  some ((x15_7 ^^^ x19_9), M15_8)
set_option maxRecDepth 100000 in
set_option maxHeartbeats 4000000 in
theorem qX4_tells_k12 (l : Launch) (E : Ev) {M : Mm} {o : Nat} {p1 : Int32} {rz : Int32} {Mz : Mm} (hf : fX4_tells_k12 M o p1 = some (rz, Mz)) : Ct l E yX4_tells cX4_tells 2 (some .int) 10 212 4 60 [.ref (E.b + o), .int p1] M (some (.int rz)) Mz := by
  refine ct_of (by decide +kernel) (Nat.le_of_ble_eq_true rfl) fun p e s m args below meth c C hr hin hW ls hl => ?_
  have hl : lv_has ls 2 [(0, .ref (E.b + o)), (1, .int p1)] := hl
  unfold fX4_tells_k12 at hf
  refine lv_aload_n C.x C.b dX4_tells_0 rfl (lv_at hl 0 rfl) ?_
  obtain ⟨a1_1, ha1_1, hf⟩ := x_b1 hf
  refine x_getn C hW fg_X4_20_12 ha1_1 dX4_tells_1 ?_
  refine lv_bipush (v := 13) C.x C.b dX4_tells_4 (by decide) ?_
  obtain ⟨x6_2, hx6_2, hf⟩ := x_b1 hf
  refine x_callS (As := [.int 13]) (rest := [.ref (E.b + a1_1)]) C hW hl (qJ6_valueOf_2dffe l E hx6_2) gs_X4_24 hd_J6_valueOf_2dffe rfl rfl (Nat.le_of_ble_eq_true rfl) dX4_tells_6 ⟨Nat.le_of_ble_eq_true rfl, Nat.le_of_ble_eq_true rfl⟩ ⟨Nat.le_of_ble_eq_true rfl, Nat.le_of_ble_eq_true rfl⟩ (fun H locs hW => ?_)
  obtain ⟨_, hk9_3, hf⟩ := x_b1 hf
  obtain ⟨x9_4, M9_5, hx9_4, hf⟩ := x_b2 hf
  refine x_callV (As := [.ref (bxA E x6_2)]) (a := a1_1) (rest := []) C hW hl (qJx4a65c_add_9ea2d l E hx9_4) (x_gk hk9_3) (by decide) (by decide) rfl gv_X4_30 ⟨rfl, hd_Jx4a65c_add_9ea2d⟩ rfl rfl (Nat.le_of_ble_eq_true rfl) dX4_tells_9 ⟨Nat.le_of_ble_eq_true rfl, Nat.le_of_ble_eq_true rfl⟩ ⟨Nat.le_of_ble_eq_true rfl, Nat.le_of_ble_eq_true rfl⟩ (fun H locs hW => ?_)
  refine lv_pop C.x C.b dX4_tells_12 rfl ?_
  refine lv_aload_n C.x C.b dX4_tells_13 rfl (lv_at hl 0 rfl) ?_
  refine lv_iload_n C.x C.b dX4_tells_14 rfl (lv_at hl 1 rfl) ?_
  obtain ⟨_, hk15_6, hf⟩ := x_b1 hf
  obtain ⟨x15_7, M15_8, hx15_7, hf⟩ := x_b2 hf
  refine x_callU (owner := "NylonLadder$Plain") (x := ⟨"NylonLadder$Plain", "dries", "(I)I"⟩) (As := [.int p1]) (a := o) (rest := []) C hW hl (qX4_dries_k12 l E hx15_7) (x_gk hk15_6) (by decide) (by decide) rfl gu_X4_40_12 rfl hdo_X4_40 rfl rfl (Nat.le_of_ble_eq_true rfl) dX4_tells_15 ⟨Nat.le_of_ble_eq_true rfl, Nat.le_of_ble_eq_true rfl⟩ ⟨Nat.le_of_ble_eq_true rfl, Nat.le_of_ble_eq_true rfl⟩ (fun H locs hW => ?_)
  refine lv_aload_n C.x C.b dX4_tells_18 rfl (lv_at hl 0 rfl) ?_
  obtain ⟨x19_9, hx19_9, hf⟩ := x_b1 hf
  refine x_geti C hW fg_X4_17_12 hx19_9 dX4_tells_19 ?_
  refine lv_ixor C.x C.b dX4_tells_22 ?_
  rw [x_e1 hf, x_e2 hf]
  exact x_iret C hr hW dX4_tells_23

theorem fg_X9_32_12 : FdG "NylonLadder$Thick" 32 12 0 false := ⟨_, _, _, _, rfl, by decide, by decide, by decide, gxX9, by decide, T_4_215, Or.inr T_4_216, rfl⟩
theorem gu_X9_36_12 : GoodIn gT (va_wsU "NylonLadder$Thick" 36 "NylonLadder$Thick" "NylonLadder$Plain" ⟨"NylonLadder$Thick", "holds", "(I)I"⟩ yX4_holds (Cond.code yX4_holds cX4_holds 3 (some .int) :: gT)) := good_U T_5_214 T_5_215 T_5_217 T_5_184 T_1_17 T_5_205
def fX9_tells_k12 (M : Mm) (o : Nat) (p1 : Int32) : Option (Int32 × Mm) :=
  B1 (rdN M o 12 2) fun a1_1 =>
  B1 (fJ6_valueOf_2dffe M 31) fun x6_2 =>
  B1 (gk M a1_1 2) fun _ =>
  B2 (fJx4a65c_add_9ea2d M a1_1 x6_2) fun x9_4 M9_5 =>
  B1 (gk M9_5 o 12) fun _ =>
  B2 (fX4_tells_k12 M9_5 o p1) fun x15_7 M15_8 =>
  B1 (rdI M15_8 o 12 0) fun x20_9 =>
  B1 (gk M15_8 o 12) fun _ =>
  B2 (fX4_holds_k12 M15_8 o x20_9) fun x23_11 M23_12 =>
  some ((x15_7 + x23_11), M23_12)
set_option maxRecDepth 100000 in
set_option maxHeartbeats 4000000 in
theorem qX9_tells_k12 (l : Launch) (E : Ev) {M : Mm} {o : Nat} {p1 : Int32} {rz : Int32} {Mz : Mm} (hf : fX9_tells_k12 M o p1 = some (rz, Mz)) : Ct l E yX9_tells cX9_tells 2 (some .int) 11 233 6 90 [.ref (E.b + o), .int p1] M (some (.int rz)) Mz := by
  refine ct_of (by decide +kernel) (Nat.le_of_ble_eq_true rfl) fun p e s m args below meth c C hr hin hW ls hl => ?_
  have hl : lv_has ls 2 [(0, .ref (E.b + o)), (1, .int p1)] := hl
  unfold fX9_tells_k12 at hf
  refine lv_aload_n C.x C.b dX9_tells_0 rfl (lv_at hl 0 rfl) ?_
  obtain ⟨a1_1, ha1_1, hf⟩ := x_b1 hf
  refine x_getn C hW fg_X9_7_12 ha1_1 dX9_tells_1 ?_
  refine lv_bipush (v := 31) C.x C.b dX9_tells_4 (by decide) ?_
  obtain ⟨x6_2, hx6_2, hf⟩ := x_b1 hf
  refine x_callS (As := [.int 31]) (rest := [.ref (E.b + a1_1)]) C hW hl (qJ6_valueOf_2dffe l E hx6_2) gs_X9_13 hd_J6_valueOf_2dffe rfl rfl (Nat.le_of_ble_eq_true rfl) dX9_tells_6 ⟨Nat.le_of_ble_eq_true rfl, Nat.le_of_ble_eq_true rfl⟩ ⟨Nat.le_of_ble_eq_true rfl, Nat.le_of_ble_eq_true rfl⟩ (fun H locs hW => ?_)
  obtain ⟨_, hk9_3, hf⟩ := x_b1 hf
  obtain ⟨x9_4, M9_5, hx9_4, hf⟩ := x_b2 hf
  refine x_callV (As := [.ref (bxA E x6_2)]) (a := a1_1) (rest := []) C hW hl (qJx4a65c_add_9ea2d l E hx9_4) (x_gk hk9_3) (by decide) (by decide) rfl gv_X9_19 ⟨rfl, hd_Jx4a65c_add_9ea2d⟩ rfl rfl (Nat.le_of_ble_eq_true rfl) dX9_tells_9 ⟨Nat.le_of_ble_eq_true rfl, Nat.le_of_ble_eq_true rfl⟩ ⟨Nat.le_of_ble_eq_true rfl, Nat.le_of_ble_eq_true rfl⟩ (fun H locs hW => ?_)
  refine lv_pop C.x C.b dX9_tells_12 rfl ?_
  refine lv_aload_n C.x C.b dX9_tells_13 rfl (lv_at hl 0 rfl) ?_
  refine lv_iload_n C.x C.b dX9_tells_14 rfl (lv_at hl 1 rfl) ?_
  obtain ⟨_, hk15_6, hf⟩ := x_b1 hf
  obtain ⟨x15_7, M15_8, hx15_7, hf⟩ := x_b2 hf
  refine x_callSU (As := [.int p1]) (a := o) (rest := []) C hW hl (qX4_tells_k12 l E hx15_7) (x_gk hk15_6) (by decide) (by decide) rfl gp_X9_29 hdn_X4_tells rfl rfl (Nat.le_of_ble_eq_true rfl) dX9_tells_15 ⟨Nat.le_of_ble_eq_true rfl, Nat.le_of_ble_eq_true rfl⟩ ⟨Nat.le_of_ble_eq_true rfl, Nat.le_of_ble_eq_true rfl⟩ (fun H locs hW => ?_)
  refine lv_aload_n C.x C.b dX9_tells_18 rfl (lv_at hl 0 rfl) ?_
  refine lv_aload_n C.x C.b dX9_tells_19 rfl (lv_at hl 0 rfl) ?_
  obtain ⟨x20_9, hx20_9, hf⟩ := x_b1 hf
  refine x_geti C hW fg_X9_32_12 hx20_9 dX9_tells_20 ?_
  obtain ⟨_, hk23_10, hf⟩ := x_b1 hf
  obtain ⟨x23_11, M23_12, hx23_11, hf⟩ := x_b2 hf
  refine x_callU (owner := "NylonLadder$Plain") (x := ⟨"NylonLadder$Thick", "holds", "(I)I"⟩) (As := [.int x20_9]) (a := o) (rest := [.int x15_7]) C hW hl (qX4_holds_k12 l E hx23_11) (x_gk hk23_10) (by decide) (by decide) rfl gu_X9_36_12 rfl hdo_X9_36 rfl rfl (Nat.le_of_ble_eq_true rfl) dX9_tells_23 ⟨Nat.le_of_ble_eq_true rfl, Nat.le_of_ble_eq_true rfl⟩ ⟨Nat.le_of_ble_eq_true rfl, Nat.le_of_ble_eq_true rfl⟩ (fun H locs hW => ?_)
  refine lv_iadd C.x C.b dX9_tells_26 ?_
  rw [x_e1 hf, x_e2 hf]
  exact x_iret C hr hW dX9_tells_27

theorem gu_X4_40_8 : GoodIn gT (va_wsO "NylonLadder$Plain" 40 "NylonLadder$Sheer" "NylonLadder$Plain" ⟨"NylonLadder$Plain", "dries", "(I)I"⟩ yX5_dries (Cond.code yX5_dries cX5_dries 2 (some .int) :: gT)) := good_O T_5_226 T_5_164 T_5_162 T_5_179 T_5_173 T_1_18 T_5_174
def fX4_tells_k8 (M : Mm) (o : Nat) (p1 : Int32) : Option (Int32 × Mm) :=
  B1 (rdN M o 8 2) fun a1_1 =>
  B1 (fJ6_valueOf_2dffe M 13) fun x6_2 =>
  B1 (gk M a1_1 2) fun _ =>
  B2 (fJx4a65c_add_9ea2d M a1_1 x6_2) fun x9_4 M9_5 =>
  B1 (gk M9_5 o 8) fun _ =>
  B2 (fX5_dries_k8 M9_5 o p1) fun x15_7 M15_8 =>
  B1 (rdI M15_8 o 8 1) fun x19_9 =>
  some ((x15_7 ^^^ x19_9), M15_8)
set_option maxRecDepth 100000 in
set_option maxHeartbeats 4000000 in
theorem qX4_tells_k8 (l : Launch) (E : Ev) {M : Mm} {o : Nat} {p1 : Int32} {rz : Int32} {Mz : Mm} (hf : fX4_tells_k8 M o p1 = some (rz, Mz)) : Ct l E yX4_tells cX4_tells 2 (some .int) 10 212 4 60 [.ref (E.b + o), .int p1] M (some (.int rz)) Mz := by
  refine ct_of (by decide +kernel) (Nat.le_of_ble_eq_true rfl) fun p e s m args below meth c C hr hin hW ls hl => ?_
  have hl : lv_has ls 2 [(0, .ref (E.b + o)), (1, .int p1)] := hl
  unfold fX4_tells_k8 at hf
  refine lv_aload_n C.x C.b dX4_tells_0 rfl (lv_at hl 0 rfl) ?_
  obtain ⟨a1_1, ha1_1, hf⟩ := x_b1 hf
  refine x_getn C hW fg_X4_20_8 ha1_1 dX4_tells_1 ?_
  refine lv_bipush (v := 13) C.x C.b dX4_tells_4 (by decide) ?_
  obtain ⟨x6_2, hx6_2, hf⟩ := x_b1 hf
  refine x_callS (As := [.int 13]) (rest := [.ref (E.b + a1_1)]) C hW hl (qJ6_valueOf_2dffe l E hx6_2) gs_X4_24 hd_J6_valueOf_2dffe rfl rfl (Nat.le_of_ble_eq_true rfl) dX4_tells_6 ⟨Nat.le_of_ble_eq_true rfl, Nat.le_of_ble_eq_true rfl⟩ ⟨Nat.le_of_ble_eq_true rfl, Nat.le_of_ble_eq_true rfl⟩ (fun H locs hW => ?_)
  obtain ⟨_, hk9_3, hf⟩ := x_b1 hf
  obtain ⟨x9_4, M9_5, hx9_4, hf⟩ := x_b2 hf
  refine x_callV (As := [.ref (bxA E x6_2)]) (a := a1_1) (rest := []) C hW hl (qJx4a65c_add_9ea2d l E hx9_4) (x_gk hk9_3) (by decide) (by decide) rfl gv_X4_30 ⟨rfl, hd_Jx4a65c_add_9ea2d⟩ rfl rfl (Nat.le_of_ble_eq_true rfl) dX4_tells_9 ⟨Nat.le_of_ble_eq_true rfl, Nat.le_of_ble_eq_true rfl⟩ ⟨Nat.le_of_ble_eq_true rfl, Nat.le_of_ble_eq_true rfl⟩ (fun H locs hW => ?_)
  refine lv_pop C.x C.b dX4_tells_12 rfl ?_
  refine lv_aload_n C.x C.b dX4_tells_13 rfl (lv_at hl 0 rfl) ?_
  refine lv_iload_n C.x C.b dX4_tells_14 rfl (lv_at hl 1 rfl) ?_
  obtain ⟨_, hk15_6, hf⟩ := x_b1 hf
  obtain ⟨x15_7, M15_8, hx15_7, hf⟩ := x_b2 hf
  refine x_callO (owner := "NylonLadder$Plain") (x := ⟨"NylonLadder$Plain", "dries", "(I)I"⟩) (As := [.int p1]) (a := o) (rest := []) C hW hl (qX5_dries_k8 l E hx15_7) (x_gk hk15_6) (by decide) (by decide) rfl gu_X4_40_8 T_5_181 hdo_X4_40 rfl rfl (Nat.le_of_ble_eq_true rfl) dX4_tells_15 ⟨Nat.le_of_ble_eq_true rfl, Nat.le_of_ble_eq_true rfl⟩ ⟨Nat.le_of_ble_eq_true rfl, Nat.le_of_ble_eq_true rfl⟩ (fun H locs hW => ?_)
  refine lv_aload_n C.x C.b dX4_tells_18 rfl (lv_at hl 0 rfl) ?_
  obtain ⟨x19_9, hx19_9, hf⟩ := x_b1 hf
  refine x_geti C hW fg_X4_17_8 hx19_9 dX4_tells_19 ?_
  refine lv_ixor C.x C.b dX4_tells_22 ?_
  rw [x_e1 hf, x_e2 hf]
  exact x_iret C hr hW dX4_tells_23

theorem gu_X4_40_7 : GoodIn gT (wsV "NylonLadder$Plain" 40 "NylonLadder$Plain" yX4_dries (Cond.code yX4_dries cX4_dries 2 (some .int) :: gT)) := good_V T_5_226 T_5_162 T_5_163 T_1_17 T_5_181
def fX4_tells_k7 (M : Mm) (o : Nat) (p1 : Int32) : Option (Int32 × Mm) :=
  B1 (rdN M o 7 2) fun a1_1 =>
  B1 (fJ6_valueOf_2dffe M 13) fun x6_2 =>
  B1 (gk M a1_1 2) fun _ =>
  B2 (fJx4a65c_add_9ea2d M a1_1 x6_2) fun x9_4 M9_5 =>
  B1 (gk M9_5 o 7) fun _ =>
  B2 (fX4_dries_k7 M9_5 o p1) fun x15_7 M15_8 =>
  B1 (rdI M15_8 o 7 1) fun x19_9 =>
  some ((x15_7 ^^^ x19_9), M15_8)
set_option maxRecDepth 100000 in
set_option maxHeartbeats 4000000 in
theorem qX4_tells_k7 (l : Launch) (E : Ev) {M : Mm} {o : Nat} {p1 : Int32} {rz : Int32} {Mz : Mm} (hf : fX4_tells_k7 M o p1 = some (rz, Mz)) : Ct l E yX4_tells cX4_tells 2 (some .int) 9 191 3 45 [.ref (E.b + o), .int p1] M (some (.int rz)) Mz := by
  refine ct_of (by decide +kernel) (Nat.le_of_ble_eq_true rfl) fun p e s m args below meth c C hr hin hW ls hl => ?_
  have hl : lv_has ls 2 [(0, .ref (E.b + o)), (1, .int p1)] := hl
  unfold fX4_tells_k7 at hf
  refine lv_aload_n C.x C.b dX4_tells_0 rfl (lv_at hl 0 rfl) ?_
  obtain ⟨a1_1, ha1_1, hf⟩ := x_b1 hf
  refine x_getn C hW fg_X4_20_7 ha1_1 dX4_tells_1 ?_
  refine lv_bipush (v := 13) C.x C.b dX4_tells_4 (by decide) ?_
  obtain ⟨x6_2, hx6_2, hf⟩ := x_b1 hf
  refine x_callS (As := [.int 13]) (rest := [.ref (E.b + a1_1)]) C hW hl (qJ6_valueOf_2dffe l E hx6_2) gs_X4_24 hd_J6_valueOf_2dffe rfl rfl (Nat.le_of_ble_eq_true rfl) dX4_tells_6 ⟨Nat.le_of_ble_eq_true rfl, Nat.le_of_ble_eq_true rfl⟩ ⟨Nat.le_of_ble_eq_true rfl, Nat.le_of_ble_eq_true rfl⟩ (fun H locs hW => ?_)
  obtain ⟨_, hk9_3, hf⟩ := x_b1 hf
  obtain ⟨x9_4, M9_5, hx9_4, hf⟩ := x_b2 hf
  refine x_callV (As := [.ref (bxA E x6_2)]) (a := a1_1) (rest := []) C hW hl (qJx4a65c_add_9ea2d l E hx9_4) (x_gk hk9_3) (by decide) (by decide) rfl gv_X4_30 ⟨rfl, hd_Jx4a65c_add_9ea2d⟩ rfl rfl (Nat.le_of_ble_eq_true rfl) dX4_tells_9 ⟨Nat.le_of_ble_eq_true rfl, Nat.le_of_ble_eq_true rfl⟩ ⟨Nat.le_of_ble_eq_true rfl, Nat.le_of_ble_eq_true rfl⟩ (fun H locs hW => ?_)
  refine lv_pop C.x C.b dX4_tells_12 rfl ?_
  refine lv_aload_n C.x C.b dX4_tells_13 rfl (lv_at hl 0 rfl) ?_
  refine lv_iload_n C.x C.b dX4_tells_14 rfl (lv_at hl 1 rfl) ?_
  obtain ⟨_, hk15_6, hf⟩ := x_b1 hf
  obtain ⟨x15_7, M15_8, hx15_7, hf⟩ := x_b2 hf
  refine x_callV (As := [.int p1]) (a := o) (rest := []) C hW hl (qX4_dries_k7 l E hx15_7) (x_gk hk15_6) (by decide) (by decide) rfl gu_X4_40_7 ⟨rfl, hd_X4_dries⟩ rfl rfl (Nat.le_of_ble_eq_true rfl) dX4_tells_15 ⟨Nat.le_of_ble_eq_true rfl, Nat.le_of_ble_eq_true rfl⟩ ⟨Nat.le_of_ble_eq_true rfl, Nat.le_of_ble_eq_true rfl⟩ (fun H locs hW => ?_)
  refine lv_aload_n C.x C.b dX4_tells_18 rfl (lv_at hl 0 rfl) ?_
  obtain ⟨x19_9, hx19_9, hf⟩ := x_b1 hf
  refine x_geti C hW fg_X4_17_7 hx19_9 dX4_tells_19 ?_
  refine lv_ixor C.x C.b dX4_tells_22 ?_
  rw [x_e1 hf, x_e2 hf]
  exact x_iret C hr hW dX4_tells_23

theorem dX11_act_0 : decode cX11_act 0 = .ok (.aload_n 0, 1) := by decide +kernel
theorem dX11_act_1 : decode cX11_act 1 = .ok (.getfield 65, 3) := by decide +kernel
theorem dX11_act_4 : decode cX11_act 4 = .ok (.invokevirtual 328, 3) := by decide +kernel
theorem dX11_act_7 : decode cX11_act 7 = .ok (.iload_n 1, 1) := by decide +kernel
theorem dX11_act_8 : decode cX11_act 8 = .ok (.invokestatic 322, 3) := by decide +kernel
theorem dX11_act_11 : decode cX11_act 11 = .ok (.ifCond .eq 12, 3) := by decide +kernel
theorem dX11_act_14 : decode cX11_act 14 = .ok (.iload_n 2, 1) := by decide +kernel
theorem dX11_act_15 : decode cX11_act 15 = .ok (.iconst 0, 1) := by decide +kernel
theorem dX11_act_16 : decode cX11_act 16 = .ok (.iconst 3, 1) := by decide +kernel
theorem dX11_act_17 : decode cX11_act 17 = .ok (.invokestatic 69, 3) := by decide +kernel
theorem dX11_act_20 : decode cX11_act 20 = .ok (.ifCond .ne 5, 3) := by decide +kernel
theorem dX11_act_23 : decode cX11_act 23 = .ok (.iconst 0, 1) := by decide +kernel
theorem dX11_act_24 : decode cX11_act 24 = .ok (.ireturn, 1) := by decide +kernel
theorem dX11_act_25 : decode cX11_act 25 = .ok (.aload_n 0, 1) := by decide +kernel
theorem dX11_act_26 : decode cX11_act 26 = .ok (.getfield 10, 3) := by decide +kernel
theorem dX11_act_29 : decode cX11_act 29 = .ok (.aload_n 0, 1) := by decide +kernel
theorem dX11_act_30 : decode cX11_act 30 = .ok (.getfield 55, 3) := by decide +kernel
theorem dX11_act_33 : decode cX11_act 33 = .ok (.iload_n 1, 1) := by decide +kernel
theorem dX11_act_34 : decode cX11_act 34 = .ok (.iaload, 1) := by decide +kernel
theorem dX11_act_35 : decode cX11_act 35 = .ok (.invokevirtual 120, 3) := by decide +kernel
theorem dX11_act_38 : decode cX11_act 38 = .ok (.astore 4, 2) := by decide +kernel
theorem dX11_act_40 : decode cX11_act 40 = .ok (.aload 4, 2) := by decide +kernel
theorem dX11_act_42 : decode cX11_act 42 = .ok (.ifnonnull 5, 3) := by decide +kernel
theorem dX11_act_45 : decode cX11_act 45 = .ok (.iconst 0, 1) := by decide +kernel
theorem dX11_act_46 : decode cX11_act 46 = .ok (.ireturn, 1) := by decide +kernel
theorem dX11_act_47 : decode cX11_act 47 = .ok (.aload_n 0, 1) := by decide +kernel
theorem dX11_act_48 : decode cX11_act 48 = .ok (.aload 4, 2) := by decide +kernel
theorem dX11_act_50 : decode cX11_act 50 = .ok (.getfield 124, 3) := by decide +kernel
theorem dX11_act_53 : decode cX11_act 53 = .ok (.aload_n 0, 1) := by decide +kernel
theorem dX11_act_54 : decode cX11_act 54 = .ok (.getfield 55, 3) := by decide +kernel
theorem dX11_act_57 : decode cX11_act 57 = .ok (.iload_n 1, 1) := by decide +kernel
theorem dX11_act_58 : decode cX11_act 58 = .ok (.iaload, 1) := by decide +kernel
theorem dX11_act_59 : decode cX11_act 59 = .ok (.aload 4, 2) := by decide +kernel
theorem dX11_act_61 : decode cX11_act 61 = .ok (.getfield 127, 3) := by decide +kernel
theorem dX11_act_64 : decode cX11_act 64 = .ok (.invokevirtual 331, 3) := by decide +kernel
theorem dX11_act_67 : decode cX11_act 67 = .ok (.astore 5, 2) := by decide +kernel
theorem dX11_act_69 : decode cX11_act 69 = .ok (.iload_n 2, 1) := by decide +kernel
theorem dX11_act_70 : decode cX11_act 70 = .ok (.tableswitch 59 0 2 #[26, 37, 48], 26) := by decide +kernel
theorem dX11_act_96 : decode cX11_act 96 = .ok (.aload 5, 2) := by decide +kernel
theorem dX11_act_98 : decode cX11_act 98 = .ok (.iload_n 3, 1) := by decide +kernel
theorem dX11_act_99 : decode cX11_act 99 = .ok (.invokevirtual 335, 3) := by decide +kernel
theorem dX11_act_102 : decode cX11_act 102 = .ok (.istore 6, 2) := by decide +kernel
theorem dX11_act_104 : decode cX11_act 104 = .ok (.goto 33, 3) := by decide +kernel
theorem dX11_act_107 : decode cX11_act 107 = .ok (.aload 5, 2) := by decide +kernel
theorem dX11_act_109 : decode cX11_act 109 = .ok (.iload_n 3, 1) := by decide +kernel
theorem dX11_act_110 : decode cX11_act 110 = .ok (.invokevirtual 340, 3) := by decide +kernel
theorem dX11_act_113 : decode cX11_act 113 = .ok (.istore 6, 2) := by decide +kernel
theorem dX11_act_115 : decode cX11_act 115 = .ok (.goto 22, 3) := by decide +kernel
theorem dX11_act_118 : decode cX11_act 118 = .ok (.aload 5, 2) := by decide +kernel
theorem dX11_act_120 : decode cX11_act 120 = .ok (.iload_n 3, 1) := by decide +kernel
theorem dX11_act_121 : decode cX11_act 121 = .ok (.invokevirtual 343, 3) := by decide +kernel
theorem dX11_act_124 : decode cX11_act 124 = .ok (.istore 6, 2) := by decide +kernel
theorem dX11_act_126 : decode cX11_act 126 = .ok (.goto 11, 3) := by decide +kernel
theorem dX11_act_129 : decode cX11_act 129 = .ok (.aload 5, 2) := by decide +kernel
theorem dX11_act_131 : decode cX11_act 131 = .ok (.iload_n 3, 1) := by decide +kernel
theorem dX11_act_132 : decode cX11_act 132 = .ok (.invokevirtual 346, 3) := by decide +kernel
theorem dX11_act_135 : decode cX11_act 135 = .ok (.istore 6, 2) := by decide +kernel
theorem dX11_act_137 : decode cX11_act 137 = .ok (.aload 5, 2) := by decide +kernel
theorem dX11_act_139 : decode cX11_act 139 = .ok (.getfield 349, 3) := by decide +kernel
theorem dX11_act_142 : decode cX11_act 142 = .ok (.ifCond .eq 8, 3) := by decide +kernel
theorem dX11_act_145 : decode cX11_act 145 = .ok (.bipush (-15), 2) := by decide +kernel
theorem dX11_act_147 : decode cX11_act 147 = .ok (.goto 5, 3) := by decide +kernel
theorem dX11_act_150 : decode cX11_act 150 = .ok (.iload 6, 2) := by decide +kernel
theorem dX11_act_152 : decode cX11_act 152 = .ok (.ireturn, 1) := by decide +kernel
theorem hd_Jx4a65c_clear_da8c8 : yJx4a65c_clear_da8c8.cls ≠ "java/lang/invoke/MethodHandle" ∧ yJx4a65c_clear_da8c8.cls ≠ "java/lang/invoke/VarHandle" ∧ (parseMethodDescriptor yJx4a65c_clear_da8c8.desc).map (fun d => d.parameters.length) = some 0 := by decide +kernel
theorem gv_X11_328 : GoodIn gT (wsV "NylonLadder" 328 "java/util/ArrayList" yJx4a65c_clear_da8c8 (Cond.code yJx4a65c_clear_da8c8 cJx4a65c_clear_da8c8 4 none :: gT)) := good_V T_4_193 T_4_194 T_4_195 T_1_9 T_4_196
theorem hd_X11_thingOf : yX11_thingOf.cls ≠ "java/lang/invoke/MethodHandle" ∧ yX11_thingOf.cls ≠ "java/lang/invoke/VarHandle" ∧ (parseMethodDescriptor yX11_thingOf.desc).map (fun d => d.parameters.length) = some 3 := by decide +kernel
theorem gv_X11_331 : GoodIn gT (wsV "NylonLadder" 331 "NylonLadder" yX11_thingOf (Cond.code yX11_thingOf cX11_thingOf 4 (some (.object "NylonLadder$Plain")) :: gT)) := good_V T_4_197 T_4_199 TS_27 T_1_1 T_4_200
theorem hdo_X11_335 : ("NylonLadder$Plain" : String) ≠ "java/lang/invoke/MethodHandle" ∧ ("NylonLadder$Plain" : String) ≠ "java/lang/invoke/VarHandle" ∧ (parseMethodDescriptor "(I)I").map (fun d => d.parameters.length) = some 1 := by decide +kernel
theorem gu_X11_335_4 : GoodIn gT (va_wsO "NylonLadder" 335 "NylonLadder$Lined" "NylonLadder$Plain" ⟨"NylonLadder$Plain", "runs", "(I)I"⟩ yX1_runs (Cond.code yX1_runs cX1_runs 2 (some .int) :: gT)) := good_O T_5_58 T_5_61 T_5_59 T_5_62 T_5_63 T_1_21 T_5_64
theorem fg_X11_349_4 : FdG "NylonLadder" 349 4 3 false := ⟨_, _, _, _, rfl, by decide, by decide, by decide, gxX1, by decide, T_4_236, Or.inl rfl, rfl⟩
theorem gu_X11_335_5 : GoodIn gT (va_wsO "NylonLadder" 335 "NylonLadder$Mesh" "NylonLadder$Plain" ⟨"NylonLadder$Plain", "runs", "(I)I"⟩ yX2_runs (Cond.code yX2_runs cX2_runs 2 (some .int) :: gT)) := good_O T_5_58 T_5_61 T_5_59 T_5_147 T_5_148 T_1_20 T_5_149
theorem fg_X11_349_5 : FdG "NylonLadder" 349 5 3 false := ⟨_, _, _, _, rfl, by decide, by decide, by decide, gxX2, by decide, T_4_236, Or.inl rfl, rfl⟩
theorem gu_X11_335_6 : GoodIn gT (va_wsU "NylonLadder" 335 "NylonLadder$Old" "NylonLadder$Plain" ⟨"NylonLadder$Plain", "runs", "(I)I"⟩ yX4_runs (Cond.code yX4_runs cX4_runs 2 (some .int) :: gT)) := good_U T_5_58 T_5_61 T_5_155 T_5_59 T_1_17 T_5_158
theorem fg_X11_349_6 : FdG "NylonLadder" 349 6 3 false := ⟨_, _, _, _, rfl, by decide, by decide, by decide, gxX3, by decide, T_4_236, Or.inl rfl, rfl⟩
theorem gu_X11_335_7 : GoodIn gT (wsV "NylonLadder" 335 "NylonLadder$Plain" yX4_runs (Cond.code yX4_runs cX4_runs 2 (some .int) :: gT)) := good_V T_5_58 T_5_59 T_5_60 T_1_17 T_5_158
theorem fg_X11_349_7 : FdG "NylonLadder" 349 7 3 false := ⟨_, _, _, _, rfl, by decide, by decide, by decide, gxX4, by decide, T_4_236, Or.inl rfl, rfl⟩
theorem gu_X11_335_8 : GoodIn gT (va_wsU "NylonLadder" 335 "NylonLadder$Sheer" "NylonLadder$Plain" ⟨"NylonLadder$Plain", "runs", "(I)I"⟩ yX4_runs (Cond.code yX4_runs cX4_runs 2 (some .int) :: gT)) := good_U T_5_58 T_5_61 T_5_156 T_5_59 T_1_17 T_5_158
theorem fg_X11_349_8 : FdG "NylonLadder" 349 8 3 false := ⟨_, _, _, _, rfl, by decide, by decide, by decide, gxX5, by decide, T_4_236, Or.inl rfl, rfl⟩
theorem gu_X11_335_12 : GoodIn gT (va_wsO "NylonLadder" 335 "NylonLadder$Thick" "NylonLadder$Plain" ⟨"NylonLadder$Plain", "runs", "(I)I"⟩ yX9_runs (Cond.code yX9_runs cX9_runs 2 (some .int) :: gT)) := good_O T_5_58 T_5_61 T_5_59 T_5_157 T_5_142 T_1_19 T_5_143
theorem fg_X11_349_12 : FdG "NylonLadder" 349 12 3 false := ⟨_, _, _, _, rfl, by decide, by decide, by decide, gxX9, by decide, T_4_236, Or.inl rfl, rfl⟩
theorem hdo_X11_340 : ("NylonLadder$Plain" : String) ≠ "java/lang/invoke/MethodHandle" ∧ ("NylonLadder$Plain" : String) ≠ "java/lang/invoke/VarHandle" ∧ (parseMethodDescriptor "(I)I").map (fun d => d.parameters.length) = some 1 := by decide +kernel
theorem gu_X11_340_4 : GoodIn gT (va_wsO "NylonLadder" 340 "NylonLadder$Lined" "NylonLadder$Plain" ⟨"NylonLadder$Plain", "dries", "(I)I"⟩ yX1_dries (Cond.code yX1_dries cX1_dries 2 (some .int) :: gT)) := good_O T_5_161 T_5_164 T_5_162 T_5_165 T_5_166 T_1_21 T_5_167
theorem gu_X11_340_5 : GoodIn gT (va_wsO "NylonLadder" 340 "NylonLadder$Mesh" "NylonLadder$Plain" ⟨"NylonLadder$Plain", "dries", "(I)I"⟩ yX5_dries (Cond.code yX5_dries cX5_dries 2 (some .int) :: gT)) := good_O T_5_161 T_5_164 T_5_162 T_5_172 T_5_173 T_1_18 T_5_174
theorem gu_X11_340_6 : GoodIn gT (va_wsU "NylonLadder" 340 "NylonLadder$Old" "NylonLadder$Plain" ⟨"NylonLadder$Plain", "dries", "(I)I"⟩ yX4_dries (Cond.code yX4_dries cX4_dries 2 (some .int) :: gT)) := good_U T_5_161 T_5_164 T_5_178 T_5_162 T_1_17 T_5_181
theorem gu_X11_340_7 : GoodIn gT (wsV "NylonLadder" 340 "NylonLadder$Plain" yX4_dries (Cond.code yX4_dries cX4_dries 2 (some .int) :: gT)) := good_V T_5_161 T_5_162 T_5_163 T_1_17 T_5_181
theorem gu_X11_340_8 : GoodIn gT (va_wsO "NylonLadder" 340 "NylonLadder$Sheer" "NylonLadder$Plain" ⟨"NylonLadder$Plain", "dries", "(I)I"⟩ yX5_dries (Cond.code yX5_dries cX5_dries 2 (some .int) :: gT)) := good_O T_5_161 T_5_164 T_5_162 T_5_179 T_5_173 T_1_18 T_5_174
theorem gu_X11_340_12 : GoodIn gT (va_wsU "NylonLadder" 340 "NylonLadder$Thick" "NylonLadder$Plain" ⟨"NylonLadder$Plain", "dries", "(I)I"⟩ yX4_dries (Cond.code yX4_dries cX4_dries 2 (some .int) :: gT)) := good_U T_5_161 T_5_164 T_5_180 T_5_162 T_1_17 T_5_181
theorem hdo_X11_343 : ("NylonLadder$Plain" : String) ≠ "java/lang/invoke/MethodHandle" ∧ ("NylonLadder$Plain" : String) ≠ "java/lang/invoke/VarHandle" ∧ (parseMethodDescriptor "(I)I").map (fun d => d.parameters.length) = some 1 := by decide +kernel
theorem gu_X11_343_4 : GoodIn gT (va_wsU "NylonLadder" 343 "NylonLadder$Lined" "NylonLadder$Plain" ⟨"NylonLadder$Plain", "holds", "(I)I"⟩ yX4_holds (Cond.code yX4_holds cX4_holds 3 (some .int) :: gT)) := good_U T_5_183 T_5_186 T_5_187 T_5_184 T_1_17 T_5_205
theorem hd_X2_holds : yX2_holds.cls ≠ "java/lang/invoke/MethodHandle" ∧ yX2_holds.cls ≠ "java/lang/invoke/VarHandle" ∧ (parseMethodDescriptor yX2_holds.desc).map (fun d => d.parameters.length) = some 1 := by decide +kernel
theorem gu_X11_343_5 : GoodIn gT (va_wsO "NylonLadder" 343 "NylonLadder$Mesh" "NylonLadder$Plain" ⟨"NylonLadder$Plain", "holds", "(I)I"⟩ yX2_holds (Cond.code yX2_holds cX2_holds 2 (some .int) :: gT)) := good_O T_5_183 T_5_186 T_5_184 T_5_188 T_5_189 T_1_20 T_5_190
theorem hd_X3_holds : yX3_holds.cls ≠ "java/lang/invoke/MethodHandle" ∧ yX3_holds.cls ≠ "java/lang/invoke/VarHandle" ∧ (parseMethodDescriptor yX3_holds.desc).map (fun d => d.parameters.length) = some 1 := by decide +kernel
theorem gu_X11_343_6 : GoodIn gT (va_wsO "NylonLadder" 343 "NylonLadder$Old" "NylonLadder$Plain" ⟨"NylonLadder$Plain", "holds", "(I)I"⟩ yX3_holds (Cond.code yX3_holds cX3_holds 3 (some .int) :: gT)) := good_O T_5_183 T_5_186 T_5_184 T_5_194 T_5_195 T_1_22 T_5_196
theorem gu_X11_343_7 : GoodIn gT (wsV "NylonLadder" 343 "NylonLadder$Plain" yX4_holds (Cond.code yX4_holds cX4_holds 3 (some .int) :: gT)) := good_V T_5_183 T_5_184 T_5_185 T_1_17 T_5_205
theorem gu_X11_343_8 : GoodIn gT (va_wsU "NylonLadder" 343 "NylonLadder$Sheer" "NylonLadder$Plain" ⟨"NylonLadder$Plain", "holds", "(I)I"⟩ yX4_holds (Cond.code yX4_holds cX4_holds 3 (some .int) :: gT)) := good_U T_5_183 T_5_186 T_5_203 T_5_184 T_1_17 T_5_205
theorem gu_X11_343_12 : GoodIn gT (va_wsU "NylonLadder" 343 "NylonLadder$Thick" "NylonLadder$Plain" ⟨"NylonLadder$Plain", "holds", "(I)I"⟩ yX4_holds (Cond.code yX4_holds cX4_holds 3 (some .int) :: gT)) := good_U T_5_183 T_5_186 T_5_204 T_5_184 T_1_17 T_5_205
theorem hd_X9_tells : yX9_tells.cls ≠ "java/lang/invoke/MethodHandle" ∧ yX9_tells.cls ≠ "java/lang/invoke/VarHandle" ∧ (parseMethodDescriptor yX9_tells.desc).map (fun d => d.parameters.length) = some 1 := by decide +kernel
theorem hdo_X11_346 : ("NylonLadder$Plain" : String) ≠ "java/lang/invoke/MethodHandle" ∧ ("NylonLadder$Plain" : String) ≠ "java/lang/invoke/VarHandle" ∧ (parseMethodDescriptor "(I)I").map (fun d => d.parameters.length) = some 1 := by decide +kernel
theorem gu_X11_346_4 : GoodIn gT (va_wsO "NylonLadder" 346 "NylonLadder$Lined" "NylonLadder$Plain" ⟨"NylonLadder$Plain", "tells", "(I)I"⟩ yX9_tells (Cond.code yX9_tells cX9_tells 2 (some .int) :: gT)) := good_O T_5_206 T_5_209 T_5_207 T_5_210 T_5_211 T_1_19 T_5_212
theorem gu_X11_346_5 : GoodIn gT (va_wsU "NylonLadder" 346 "NylonLadder$Mesh" "NylonLadder$Plain" ⟨"NylonLadder$Plain", "tells", "(I)I"⟩ yX4_tells (Cond.code yX4_tells cX4_tells 2 (some .int) :: gT)) := good_U T_5_206 T_5_209 T_5_218 T_5_207 T_1_17 T_5_225
theorem hd_X3_tells : yX3_tells.cls ≠ "java/lang/invoke/MethodHandle" ∧ yX3_tells.cls ≠ "java/lang/invoke/VarHandle" ∧ (parseMethodDescriptor yX3_tells.desc).map (fun d => d.parameters.length) = some 1 := by decide +kernel
theorem gu_X11_346_6 : GoodIn gT (va_wsO "NylonLadder" 346 "NylonLadder$Old" "NylonLadder$Plain" ⟨"NylonLadder$Plain", "tells", "(I)I"⟩ yX3_tells (Cond.code yX3_tells cX3_tells 2 (some .int) :: gT)) := good_O T_5_206 T_5_209 T_5_207 T_5_219 T_5_220 T_1_22 T_5_221
theorem gu_X11_346_7 : GoodIn gT (wsV "NylonLadder" 346 "NylonLadder$Plain" yX4_tells (Cond.code yX4_tells cX4_tells 2 (some .int) :: gT)) := good_V T_5_206 T_5_207 T_5_208 T_1_17 T_5_225
theorem gu_X11_346_8 : GoodIn gT (va_wsU "NylonLadder" 346 "NylonLadder$Sheer" "NylonLadder$Plain" ⟨"NylonLadder$Plain", "tells", "(I)I"⟩ yX4_tells (Cond.code yX4_tells cX4_tells 2 (some .int) :: gT)) := good_U T_5_206 T_5_209 T_5_223 T_5_207 T_1_17 T_5_225
theorem gu_X11_346_12 : GoodIn gT (va_wsO "NylonLadder" 346 "NylonLadder$Thick" "NylonLadder$Plain" ⟨"NylonLadder$Plain", "tells", "(I)I"⟩ yX9_tells (Cond.code yX9_tells cX9_tells 2 (some .int) :: gT)) := good_O T_5_206 T_5_209 T_5_207 T_5_224 T_5_211 T_1_19 T_5_212
def fX11_act (M : Mm) (o : Nat) (p1 : Int32) (p2 : Int32) (p3 : Int32) : Option (Int32 × Mm) :=
  B1 (rdN M o 14 11) fun a1_1 =>
  B1 (gk M a1_1 2) fun _ =>
  B1 (fJx4a65c_clear_da8c8 M a1_1) fun M4_3 =>
  B1 (fX11_isShelf M4_3 p1) fun x8_4 =>
  if x8_4 = 0 then
    some (0, M4_3)
  else
    B1 (fX11_isWithin M4_3 p2 0 3) fun x17_5 =>
    if x17_5 = 0 then
      some (0, M4_3)
    else
      B1 (rdN M4_3 o 14 0) fun a26_6 =>
      B1 (rdN M4_3 o 14 9) fun a30_7 =>
      B1 (alI M4_3 a30_7 p1) fun x34_8 =>
      B1 (gk M4_3 a26_6 3) fun _ =>
      B1 (fX0_stockingAt M4_3 a26_6 x34_8) fun x35_10 =>
      NL x35_10 (
        some (0, M4_3)) (fun a42_11 =>
        B1 (rdI M4_3 a42_11 10 0) fun x50_12 =>
        B1 (rdN M4_3 o 14 9) fun a54_13 =>
        B1 (alI M4_3 a54_13 p1) fun x58_14 =>
        B1 (rdI M4_3 a42_11 10 1) fun x61_15 =>
        B1 (gk M4_3 o 14) fun _ =>
        B2 (fX11_thingOf M4_3 o x50_12 x58_14 x61_15) fun x64_17 M64_18 =>
        if p2 = 0 then
          B1 x64_17 fun a99_19 =>
          if M64_18.k a99_19 = 4 then
            B1 (gk M64_18 a99_19 4) fun _ =>
            B2 (fX1_runs_k4 M64_18 a99_19 p3) fun x99_21 M99_22 =>
            B1 (rdI M99_22 a99_19 4 3) fun x139_23 =>
            if x139_23 = 0 then
              some (x99_21, M99_22)
            else
              some ((-15), M99_22)
          else
            if M64_18.k a99_19 = 5 then
              B1 (gk M64_18 a99_19 5) fun _ =>
              B2 (fX2_runs_k5 M64_18 a99_19 p3) fun x99_25 M99_26 =>
              B1 (rdI M99_26 a99_19 5 3) fun x139_27 =>
              if x139_27 = 0 then
                some (x99_25, M99_26)
              else
                some ((-15), M99_26)
            else
              if M64_18.k a99_19 = 6 then
                B1 (gk M64_18 a99_19 6) fun _ =>
                B2 (fX4_runs_k6 M64_18 a99_19 p3) fun x99_29 M99_30 =>
                B1 (rdI M99_30 a99_19 6 3) fun x139_31 =>
                if x139_31 = 0 then
                  some (x99_29, M99_30)
                else
                  some ((-15), M99_30)
              else
                if M64_18.k a99_19 = 7 then
                  B1 (gk M64_18 a99_19 7) fun _ =>
                  B2 (fX4_runs_k7 M64_18 a99_19 p3) fun x99_33 M99_34 =>
                  B1 (rdI M99_34 a99_19 7 3) fun x139_35 =>
                  if x139_35 = 0 then
                    some (x99_33, M99_34)
                  else
                    some ((-15), M99_34)
                else
                  if M64_18.k a99_19 = 8 then
                    B1 (gk M64_18 a99_19 8) fun _ =>
                    B2 (fX4_runs_k8 M64_18 a99_19 p3) fun x99_37 M99_38 =>
                    B1 (rdI M99_38 a99_19 8 3) fun x139_39 =>
                    if x139_39 = 0 then
                      some (x99_37, M99_38)
                    else
                      some ((-15), M99_38)
                  else
                    if M64_18.k a99_19 = 12 then
                      B1 (gk M64_18 a99_19 12) fun _ =>
                      B2 (fX9_runs_k12 M64_18 a99_19 p3) fun x99_41 M99_42 =>
                      B1 (rdI M99_42 a99_19 12 3) fun x139_43 =>
                      if x139_43 = 0 then
                        some (x99_41, M99_42)
                      else
                        some ((-15), M99_42)
                    else
                      none
        else
          if p2 = 1 then
            B1 x64_17 fun a110_44 =>
            if M64_18.k a110_44 = 4 then
              B1 (gk M64_18 a110_44 4) fun _ =>
              B2 (fX1_dries_k4 M64_18 a110_44 p3) fun x110_46 M110_47 =>
              B1 (rdI M110_47 a110_44 4 3) fun x139_48 =>
              if x139_48 = 0 then
                some (x110_46, M110_47)
              else
                some ((-15), M110_47)
            else
              if M64_18.k a110_44 = 5 then
                B1 (gk M64_18 a110_44 5) fun _ =>
                B2 (fX5_dries_k5 M64_18 a110_44 p3) fun x110_50 M110_51 =>
                B1 (rdI M110_51 a110_44 5 3) fun x139_52 =>
                if x139_52 = 0 then
                  some (x110_50, M110_51)
                else
                  some ((-15), M110_51)
              else
                if M64_18.k a110_44 = 6 then
                  B1 (gk M64_18 a110_44 6) fun _ =>
                  B2 (fX4_dries_k6 M64_18 a110_44 p3) fun x110_54 M110_55 =>
                  B1 (rdI M110_55 a110_44 6 3) fun x139_56 =>
                  if x139_56 = 0 then
                    some (x110_54, M110_55)
                  else
                    some ((-15), M110_55)
                else
                  if M64_18.k a110_44 = 7 then
                    B1 (gk M64_18 a110_44 7) fun _ =>
                    B2 (fX4_dries_k7 M64_18 a110_44 p3) fun x110_58 M110_59 =>
                    B1 (rdI M110_59 a110_44 7 3) fun x139_60 =>
                    if x139_60 = 0 then
                      some (x110_58, M110_59)
                    else
                      some ((-15), M110_59)
                  else
                    if M64_18.k a110_44 = 8 then
                      B1 (gk M64_18 a110_44 8) fun _ =>
                      B2 (fX5_dries_k8 M64_18 a110_44 p3) fun x110_62 M110_63 =>
                      B1 (rdI M110_63 a110_44 8 3) fun x139_64 =>
                      if x139_64 = 0 then
                        some (x110_62, M110_63)
                      else
                        some ((-15), M110_63)
                    else
                      if M64_18.k a110_44 = 12 then
                        B1 (gk M64_18 a110_44 12) fun _ =>
                        B2 (fX4_dries_k12 M64_18 a110_44 p3) fun x110_66 M110_67 =>
                        B1 (rdI M110_67 a110_44 12 3) fun x139_68 =>
                        if x139_68 = 0 then
                          some (x110_66, M110_67)
                        else
                          some ((-15), M110_67)
                      else
                        none
          else
            if p2 = 2 then
              B1 x64_17 fun a121_69 =>
              if M64_18.k a121_69 = 4 then
                B1 (gk M64_18 a121_69 4) fun _ =>
                B2 (fX4_holds_k4 M64_18 a121_69 p3) fun x121_71 M121_72 =>
                B1 (rdI M121_72 a121_69 4 3) fun x139_73 =>
                if x139_73 = 0 then
                  some (x121_71, M121_72)
                else
                  some ((-15), M121_72)
              else
                if M64_18.k a121_69 = 5 then
                  B1 (gk M64_18 a121_69 5) fun _ =>
                  B2 (fX2_holds_k5 M64_18 a121_69 p3) fun x121_75 M121_76 =>
                  B1 (rdI M121_76 a121_69 5 3) fun x139_77 =>
                  if x139_77 = 0 then
                    some (x121_75, M121_76)
                  else
                    some ((-15), M121_76)
                else
                  if M64_18.k a121_69 = 6 then
                    B1 (gk M64_18 a121_69 6) fun _ =>
                    B2 (fX3_holds_k6 M64_18 a121_69 p3) fun x121_79 M121_80 =>
                    B1 (rdI M121_80 a121_69 6 3) fun x139_81 =>
                    if x139_81 = 0 then
                      some (x121_79, M121_80)
                    else
                      some ((-15), M121_80)
                  else
                    if M64_18.k a121_69 = 7 then
                      B1 (gk M64_18 a121_69 7) fun _ =>
                      B2 (fX4_holds_k7 M64_18 a121_69 p3) fun x121_83 M121_84 =>
                      B1 (rdI M121_84 a121_69 7 3) fun x139_85 =>
                      if x139_85 = 0 then
                        some (x121_83, M121_84)
                      else
                        some ((-15), M121_84)
                    else
                      if M64_18.k a121_69 = 8 then
                        B1 (gk M64_18 a121_69 8) fun _ =>
                        B2 (fX4_holds_k8 M64_18 a121_69 p3) fun x121_87 M121_88 =>
                        B1 (rdI M121_88 a121_69 8 3) fun x139_89 =>
                        if x139_89 = 0 then
                          some (x121_87, M121_88)
                        else
                          some ((-15), M121_88)
                      else
                        if M64_18.k a121_69 = 12 then
                          B1 (gk M64_18 a121_69 12) fun _ =>
                          B2 (fX4_holds_k12 M64_18 a121_69 p3) fun x121_91 M121_92 =>
                          B1 (rdI M121_92 a121_69 12 3) fun x139_93 =>
                          if x139_93 = 0 then
                            some (x121_91, M121_92)
                          else
                            some ((-15), M121_92)
                        else
                          none
            else
              B1 x64_17 fun a132_94 =>
              if M64_18.k a132_94 = 4 then
                B1 (gk M64_18 a132_94 4) fun _ =>
                B2 (fX9_tells_k4 M64_18 a132_94 p3) fun x132_96 M132_97 =>
                B1 (rdI M132_97 a132_94 4 3) fun x139_98 =>
                if x139_98 = 0 then
                  some (x132_96, M132_97)
                else
                  some ((-15), M132_97)
              else
                if M64_18.k a132_94 = 5 then
                  B1 (gk M64_18 a132_94 5) fun _ =>
                  B2 (fX4_tells_k5 M64_18 a132_94 p3) fun x132_100 M132_101 =>
                  B1 (rdI M132_101 a132_94 5 3) fun x139_102 =>
                  if x139_102 = 0 then
                    some (x132_100, M132_101)
                  else
                    some ((-15), M132_101)
                else
                  if M64_18.k a132_94 = 6 then
                    B1 (gk M64_18 a132_94 6) fun _ =>
                    B2 (fX3_tells_k6 M64_18 a132_94 p3) fun x132_104 M132_105 =>
                    B1 (rdI M132_105 a132_94 6 3) fun x139_106 =>
                    if x139_106 = 0 then
                      some (x132_104, M132_105)
                    else
                      some ((-15), M132_105)
                  else
                    if M64_18.k a132_94 = 7 then
                      B1 (gk M64_18 a132_94 7) fun _ =>
                      B2 (fX4_tells_k7 M64_18 a132_94 p3) fun x132_108 M132_109 =>
                      B1 (rdI M132_109 a132_94 7 3) fun x139_110 =>
                      if x139_110 = 0 then
                        some (x132_108, M132_109)
                      else
                        some ((-15), M132_109)
                    else
                      if M64_18.k a132_94 = 8 then
                        B1 (gk M64_18 a132_94 8) fun _ =>
                        B2 (fX4_tells_k8 M64_18 a132_94 p3) fun x132_112 M132_113 =>
                        B1 (rdI M132_113 a132_94 8 3) fun x139_114 =>
                        if x139_114 = 0 then
                          some (x132_112, M132_113)
                        else
                          some ((-15), M132_113)
                      else
                        if M64_18.k a132_94 = 12 then
                          B1 (gk M64_18 a132_94 12) fun _ =>
                          B2 (fX9_tells_k12 M64_18 a132_94 p3) fun x132_116 M132_117 =>
                          B1 (rdI M132_117 a132_94 12 3) fun x139_118 =>
                          if x139_118 = 0 then
                            some (x132_116, M132_117)
                          else
                            some ((-15), M132_117)
                        else
                          none)
set_option maxRecDepth 100000 in
set_option maxHeartbeats 4000000 in
theorem qX11_act (l : Launch) (E : Ev) {M : Mm} {o : Nat} {p1 : Int32} {p2 : Int32} {p3 : Int32} {rz : Int32} {Mz : Mm} (hf : fX11_act M o p1 p2 p3 = some (rz, Mz)) : Ct l E yX11_act cX11_act 7 (some .int) 14 296 12 169 [.ref (E.b + o), .int p1, .int p2, .int p3] M (some (.int rz)) Mz := by
  refine ct_of (by decide +kernel) (Nat.le_of_ble_eq_true rfl) fun p e s m args below meth c C hr hin hW ls hl => ?_
  have hl : lv_has ls 7 [(0, .ref (E.b + o)), (1, .int p1), (2, .int p2), (3, .int p3)] := hl
  unfold fX11_act at hf
  refine lv_aload_n C.x C.b dX11_act_0 rfl (lv_at hl 0 rfl) ?_
  obtain ⟨a1_1, ha1_1, hf⟩ := x_b1 hf
  refine x_getn C hW fg_X11_65_14 ha1_1 dX11_act_1 ?_
  obtain ⟨_, hk4_2, hf⟩ := x_b1 hf
  obtain ⟨M4_3, hM4_3, hf⟩ := x_b1 hf
  refine x_callV (As := []) (a := a1_1) (rest := []) C hW hl (qJx4a65c_clear_da8c8 l E hM4_3) (x_gk hk4_2) (by decide) (by decide) rfl gv_X11_328 ⟨rfl, hd_Jx4a65c_clear_da8c8⟩ rfl rfl (Nat.le_of_ble_eq_true rfl) dX11_act_4 ⟨Nat.le_of_ble_eq_true rfl, Nat.le_of_ble_eq_true rfl⟩ ⟨Nat.le_of_ble_eq_true rfl, Nat.le_of_ble_eq_true rfl⟩ (fun H locs hW => ?_)
  refine lv_iload_n C.x C.b dX11_act_7 rfl (lv_at hl 1 rfl) ?_
  obtain ⟨x8_4, hx8_4, hf⟩ := x_b1 hf
  refine x_callS (As := [.int p1]) (rest := []) C hW hl (qX11_isShelf l E hx8_4) gs_X11_322 hd_X11_isShelf rfl rfl (Nat.le_of_ble_eq_true rfl) dX11_act_8 ⟨Nat.le_of_ble_eq_true rfl, Nat.le_of_ble_eq_true rfl⟩ ⟨Nat.le_of_ble_eq_true rfl, Nat.le_of_ble_eq_true rfl⟩ (fun H locs hW => ?_)
  refine lv_if_eq (tgt := 23) C.x C.b dX11_act_11 rfl (fun c11 => ?_) (fun c11 => ?_)
  · have hf := x_ip c11 hf
    refine lv_iconst (v := 0) C.x C.b dX11_act_23 (by decide) ?_
    refine W.widen (k := 12) (n := 169) (Nat.le_of_ble_eq_true rfl) (Nat.le_of_ble_eq_true rfl) ?_
    rw [x_e1 hf, x_e2 hf]
    exact x_iret C hr hW dX11_act_24
  · have hf := x_in c11 hf
    refine lv_iload_n C.x C.b dX11_act_14 rfl (lv_at hl 2 rfl) ?_
    refine lv_iconst (v := 0) C.x C.b dX11_act_15 (by decide) ?_
    refine lv_iconst (v := 3) C.x C.b dX11_act_16 (by decide) ?_
    obtain ⟨x17_5, hx17_5, hf⟩ := x_b1 hf
    refine x_callS (As := [.int p2, .int 0, .int 3]) (rest := []) C hW hl (qX11_isWithin l E hx17_5) gs_X11_69 hd_X11_isWithin rfl rfl (Nat.le_of_ble_eq_true rfl) dX11_act_17 ⟨Nat.le_of_ble_eq_true rfl, Nat.le_of_ble_eq_true rfl⟩ ⟨Nat.le_of_ble_eq_true rfl, Nat.le_of_ble_eq_true rfl⟩ (fun H locs hW => ?_)
    refine lv_if_ne (tgt := 25) C.x C.b dX11_act_20 rfl (fun c20 => ?_) (fun c20 => ?_)
    · have hf := x_in c20 hf
      refine lv_aload_n C.x C.b dX11_act_25 rfl (lv_at hl 0 rfl) ?_
      obtain ⟨a26_6, ha26_6, hf⟩ := x_b1 hf
      refine x_getn C hW fg_X11_10_14 ha26_6 dX11_act_26 ?_
      refine lv_aload_n C.x C.b dX11_act_29 rfl (lv_at hl 0 rfl) ?_
      obtain ⟨a30_7, ha30_7, hf⟩ := x_b1 hf
      refine x_getn C hW fg_X11_55_14 ha30_7 dX11_act_30 ?_
      refine lv_iload_n C.x C.b dX11_act_33 rfl (lv_at hl 1 rfl) ?_
      obtain ⟨x34_8, hx34_8, hf⟩ := x_b1 hf
      refine x_iald C hW hx34_8 dX11_act_34 ?_
      obtain ⟨_, hk35_9, hf⟩ := x_b1 hf
      obtain ⟨x35_10, hx35_10, hf⟩ := x_b1 hf
      refine x_callV (As := [.int x34_8]) (a := a26_6) (rest := []) C hW hl (qX0_stockingAt l E hx35_10) (x_gk hk35_9) (by decide) (by decide) rfl gv_X11_120 ⟨rfl, hd_X0_stockingAt⟩ rfl rfl (Nat.le_of_ble_eq_true rfl) dX11_act_35 ⟨Nat.le_of_ble_eq_true rfl, Nat.le_of_ble_eq_true rfl⟩ ⟨Nat.le_of_ble_eq_true rfl, Nat.le_of_ble_eq_true rfl⟩ (fun H locs hW => ?_)
      refine x_astore (lv' := [(4, rv E.b _), (0, .ref (E.b + _)), (1, .int _), (2, .int _), (3, .int _)]) C dX11_act_38 hl (by decide) rfl (fun ls hl => ?_)
      refine x_aload C dX11_act_40 (lv_at hl 0 rfl) ?_
      rcases x_nl hf with ⟨rfl, hf⟩ | ⟨a42_11, rfl, hf⟩
      · refine lv_ifnonnullN C.x C.b dX11_act_42 ?_
        refine lv_iconst (v := 0) C.x C.b dX11_act_45 (by decide) ?_
        refine W.widen (k := 12) (n := 169) (Nat.le_of_ble_eq_true rfl) (Nat.le_of_ble_eq_true rfl) ?_
        rw [x_e1 hf, x_e2 hf]
        exact x_iret C hr hW dX11_act_46
      · refine lv_ifnonnull (tgt := 47) C.x C.b dX11_act_42 rfl ?_
        refine lv_aload_n C.x C.b dX11_act_47 rfl (lv_at hl 1 rfl) ?_
        refine lv_aload C.x C.b dX11_act_48 (lv_at hl 0 rfl) ?_
        obtain ⟨x50_12, hx50_12, hf⟩ := x_b1 hf
        refine x_geti C hW fg_X11_124_10 hx50_12 dX11_act_50 ?_
        refine lv_aload_n C.x C.b dX11_act_53 rfl (lv_at hl 1 rfl) ?_
        obtain ⟨a54_13, ha54_13, hf⟩ := x_b1 hf
        refine x_getn C hW fg_X11_55_14 ha54_13 dX11_act_54 ?_
        refine lv_iload_n C.x C.b dX11_act_57 rfl (lv_at hl 2 rfl) ?_
        obtain ⟨x58_14, hx58_14, hf⟩ := x_b1 hf
        refine x_iald C hW hx58_14 dX11_act_58 ?_
        refine lv_aload C.x C.b dX11_act_59 (lv_at hl 0 rfl) ?_
        obtain ⟨x61_15, hx61_15, hf⟩ := x_b1 hf
        refine x_geti C hW fg_X11_127_10 hx61_15 dX11_act_61 ?_
        obtain ⟨_, hk64_16, hf⟩ := x_b1 hf
        obtain ⟨x64_17, M64_18, hx64_17, hf⟩ := x_b2 hf
        refine x_callV (As := [.int x50_12, .int x58_14, .int x61_15]) (a := o) (rest := []) C hW hl (qX11_thingOf l E hx64_17) (x_gk hk64_16) (by decide) (by decide) rfl gv_X11_331 ⟨rfl, hd_X11_thingOf⟩ rfl rfl (Nat.le_of_ble_eq_true rfl) dX11_act_64 ⟨Nat.le_of_ble_eq_true rfl, Nat.le_of_ble_eq_true rfl⟩ ⟨Nat.le_of_ble_eq_true rfl, Nat.le_of_ble_eq_true rfl⟩ (fun H locs hW => ?_)
        refine x_astore (lv' := [(5, rv E.b _), (4, .ref (E.b + _)), (0, .ref (E.b + _)), (1, .int _), (2, .int _), (3, .int _)]) C dX11_act_67 hl (by decide) rfl (fun ls hl => ?_)
        refine lv_iload_n C.x C.b dX11_act_69 rfl (lv_at hl 4 rfl) ?_
        by_cases s70_0 : p2 = 0
        · have hf := x_ip s70_0 hf
          refine lv_tableIn (off := 26) (tgt := 96) C.x C.b dX11_act_70 (by rw [s70_0]; decide) (by rw [s70_0]; decide) (by rw [s70_0]; rfl) rfl ?_
          refine x_aload C dX11_act_96 (lv_at hl 0 rfl) ?_
          refine lv_iload_n C.x C.b dX11_act_98 rfl (lv_at hl 5 rfl) ?_
          obtain ⟨a99_19, rfl, hf⟩ := x_b1 hf
          by_cases hk4 : M64_18.k a99_19 = 4
          · have hf := x_ip hk4 hf
            obtain ⟨_, hk99_20, hf⟩ := x_b1 hf
            obtain ⟨x99_21, M99_22, hx99_21, hf⟩ := x_b2 hf
            refine x_callO (owner := "NylonLadder$Plain") (x := ⟨"NylonLadder$Plain", "runs", "(I)I"⟩) (As := [.int p3]) (a := a99_19) (rest := []) C hW hl (qX1_runs_k4 l E hx99_21) (x_gk hk99_20) (by decide) (by decide) rfl gu_X11_335_4 T_5_158 hdo_X11_335 rfl rfl (Nat.le_of_ble_eq_true rfl) dX11_act_99 ⟨Nat.le_of_ble_eq_true rfl, Nat.le_of_ble_eq_true rfl⟩ ⟨Nat.le_of_ble_eq_true rfl, Nat.le_of_ble_eq_true rfl⟩ (fun H locs hW => ?_)
            refine lv_istore (lv' := [(6, .int _), (5, .ref (E.b + _)), (4, .ref (E.b + _)), (0, .ref (E.b + _)), (1, .int _), (2, .int _), (3, .int _)]) C.x C.b dX11_act_102 hl (by decide) rfl (fun ls hl => ?_)
            refine lv_goto (tgt := 137) C.x C.b dX11_act_104 rfl ?_
            refine lv_aload C.x C.b dX11_act_137 (lv_at hl 1 rfl) ?_
            obtain ⟨x139_23, hx139_23, hf⟩ := x_b1 hf
            refine x_geti C hW fg_X11_349_4 hx139_23 dX11_act_139 ?_
            refine lv_if_eq (tgt := 150) C.x C.b dX11_act_142 rfl (fun c142 => ?_) (fun c142 => ?_)
            · have hf := x_ip c142 hf
              refine lv_iload C.x C.b dX11_act_150 (lv_at hl 0 rfl) ?_
              refine W.widen (k := 12) (n := 169) (Nat.le_of_ble_eq_true rfl) (Nat.le_of_ble_eq_true rfl) ?_
              rw [x_e1 hf, x_e2 hf]
              exact x_iret C hr hW dX11_act_152
            · have hf := x_in c142 hf
              refine lv_bipush (v := (-15)) C.x C.b dX11_act_145 (by decide) ?_
              refine lv_goto (tgt := 152) C.x C.b dX11_act_147 rfl ?_
              refine W.widen (k := 12) (n := 169) (Nat.le_of_ble_eq_true rfl) (Nat.le_of_ble_eq_true rfl) ?_
              rw [x_e1 hf, x_e2 hf]
              exact x_iret C hr hW dX11_act_152
          · have hf := x_in hk4 hf
            by_cases hk5 : M64_18.k a99_19 = 5
            · have hf := x_ip hk5 hf
              obtain ⟨_, hk99_24, hf⟩ := x_b1 hf
              obtain ⟨x99_25, M99_26, hx99_25, hf⟩ := x_b2 hf
              refine x_callO (owner := "NylonLadder$Plain") (x := ⟨"NylonLadder$Plain", "runs", "(I)I"⟩) (As := [.int p3]) (a := a99_19) (rest := []) C hW hl (qX2_runs_k5 l E hx99_25) (x_gk hk99_24) (by decide) (by decide) rfl gu_X11_335_5 T_5_158 hdo_X11_335 rfl rfl (Nat.le_of_ble_eq_true rfl) dX11_act_99 ⟨Nat.le_of_ble_eq_true rfl, Nat.le_of_ble_eq_true rfl⟩ ⟨Nat.le_of_ble_eq_true rfl, Nat.le_of_ble_eq_true rfl⟩ (fun H locs hW => ?_)
              refine lv_istore (lv' := [(6, .int _), (5, .ref (E.b + _)), (4, .ref (E.b + _)), (0, .ref (E.b + _)), (1, .int _), (2, .int _), (3, .int _)]) C.x C.b dX11_act_102 hl (by decide) rfl (fun ls hl => ?_)
              refine lv_goto (tgt := 137) C.x C.b dX11_act_104 rfl ?_
              refine lv_aload C.x C.b dX11_act_137 (lv_at hl 1 rfl) ?_
              obtain ⟨x139_27, hx139_27, hf⟩ := x_b1 hf
              refine x_geti C hW fg_X11_349_5 hx139_27 dX11_act_139 ?_
              refine lv_if_eq (tgt := 150) C.x C.b dX11_act_142 rfl (fun c142 => ?_) (fun c142 => ?_)
              · have hf := x_ip c142 hf
                refine lv_iload C.x C.b dX11_act_150 (lv_at hl 0 rfl) ?_
                refine W.widen (k := 12) (n := 169) (Nat.le_of_ble_eq_true rfl) (Nat.le_of_ble_eq_true rfl) ?_
                rw [x_e1 hf, x_e2 hf]
                exact x_iret C hr hW dX11_act_152
              · have hf := x_in c142 hf
                refine lv_bipush (v := (-15)) C.x C.b dX11_act_145 (by decide) ?_
                refine lv_goto (tgt := 152) C.x C.b dX11_act_147 rfl ?_
                refine W.widen (k := 12) (n := 169) (Nat.le_of_ble_eq_true rfl) (Nat.le_of_ble_eq_true rfl) ?_
                rw [x_e1 hf, x_e2 hf]
                exact x_iret C hr hW dX11_act_152
            · have hf := x_in hk5 hf
              by_cases hk6 : M64_18.k a99_19 = 6
              · have hf := x_ip hk6 hf
                obtain ⟨_, hk99_28, hf⟩ := x_b1 hf
                obtain ⟨x99_29, M99_30, hx99_29, hf⟩ := x_b2 hf
                refine x_callU (owner := "NylonLadder$Plain") (x := ⟨"NylonLadder$Plain", "runs", "(I)I"⟩) (As := [.int p3]) (a := a99_19) (rest := []) C hW hl (qX4_runs_k6 l E hx99_29) (x_gk hk99_28) (by decide) (by decide) rfl gu_X11_335_6 rfl hdo_X11_335 rfl rfl (Nat.le_of_ble_eq_true rfl) dX11_act_99 ⟨Nat.le_of_ble_eq_true rfl, Nat.le_of_ble_eq_true rfl⟩ ⟨Nat.le_of_ble_eq_true rfl, Nat.le_of_ble_eq_true rfl⟩ (fun H locs hW => ?_)
                refine lv_istore (lv' := [(6, .int _), (5, .ref (E.b + _)), (4, .ref (E.b + _)), (0, .ref (E.b + _)), (1, .int _), (2, .int _), (3, .int _)]) C.x C.b dX11_act_102 hl (by decide) rfl (fun ls hl => ?_)
                refine lv_goto (tgt := 137) C.x C.b dX11_act_104 rfl ?_
                refine lv_aload C.x C.b dX11_act_137 (lv_at hl 1 rfl) ?_
                obtain ⟨x139_31, hx139_31, hf⟩ := x_b1 hf
                refine x_geti C hW fg_X11_349_6 hx139_31 dX11_act_139 ?_
                refine lv_if_eq (tgt := 150) C.x C.b dX11_act_142 rfl (fun c142 => ?_) (fun c142 => ?_)
                · have hf := x_ip c142 hf
                  refine lv_iload C.x C.b dX11_act_150 (lv_at hl 0 rfl) ?_
                  refine W.widen (k := 12) (n := 169) (Nat.le_of_ble_eq_true rfl) (Nat.le_of_ble_eq_true rfl) ?_
                  rw [x_e1 hf, x_e2 hf]
                  exact x_iret C hr hW dX11_act_152
                · have hf := x_in c142 hf
                  refine lv_bipush (v := (-15)) C.x C.b dX11_act_145 (by decide) ?_
                  refine lv_goto (tgt := 152) C.x C.b dX11_act_147 rfl ?_
                  refine W.widen (k := 12) (n := 169) (Nat.le_of_ble_eq_true rfl) (Nat.le_of_ble_eq_true rfl) ?_
                  rw [x_e1 hf, x_e2 hf]
                  exact x_iret C hr hW dX11_act_152
              · have hf := x_in hk6 hf
                by_cases hk7 : M64_18.k a99_19 = 7
                · have hf := x_ip hk7 hf
                  obtain ⟨_, hk99_32, hf⟩ := x_b1 hf
                  obtain ⟨x99_33, M99_34, hx99_33, hf⟩ := x_b2 hf
                  refine x_callV (As := [.int p3]) (a := a99_19) (rest := []) C hW hl (qX4_runs_k7 l E hx99_33) (x_gk hk99_32) (by decide) (by decide) rfl gu_X11_335_7 ⟨rfl, hd_X4_runs⟩ rfl rfl (Nat.le_of_ble_eq_true rfl) dX11_act_99 ⟨Nat.le_of_ble_eq_true rfl, Nat.le_of_ble_eq_true rfl⟩ ⟨Nat.le_of_ble_eq_true rfl, Nat.le_of_ble_eq_true rfl⟩ (fun H locs hW => ?_)
                  refine lv_istore (lv' := [(6, .int _), (5, .ref (E.b + _)), (4, .ref (E.b + _)), (0, .ref (E.b + _)), (1, .int _), (2, .int _), (3, .int _)]) C.x C.b dX11_act_102 hl (by decide) rfl (fun ls hl => ?_)
                  refine lv_goto (tgt := 137) C.x C.b dX11_act_104 rfl ?_
                  refine lv_aload C.x C.b dX11_act_137 (lv_at hl 1 rfl) ?_
                  obtain ⟨x139_35, hx139_35, hf⟩ := x_b1 hf
                  refine x_geti C hW fg_X11_349_7 hx139_35 dX11_act_139 ?_
                  refine lv_if_eq (tgt := 150) C.x C.b dX11_act_142 rfl (fun c142 => ?_) (fun c142 => ?_)
                  · have hf := x_ip c142 hf
                    refine lv_iload C.x C.b dX11_act_150 (lv_at hl 0 rfl) ?_
                    refine W.widen (k := 12) (n := 169) (Nat.le_of_ble_eq_true rfl) (Nat.le_of_ble_eq_true rfl) ?_
                    rw [x_e1 hf, x_e2 hf]
                    exact x_iret C hr hW dX11_act_152
                  · have hf := x_in c142 hf
                    refine lv_bipush (v := (-15)) C.x C.b dX11_act_145 (by decide) ?_
                    refine lv_goto (tgt := 152) C.x C.b dX11_act_147 rfl ?_
                    refine W.widen (k := 12) (n := 169) (Nat.le_of_ble_eq_true rfl) (Nat.le_of_ble_eq_true rfl) ?_
                    rw [x_e1 hf, x_e2 hf]
                    exact x_iret C hr hW dX11_act_152
                · have hf := x_in hk7 hf
                  by_cases hk8 : M64_18.k a99_19 = 8
                  · have hf := x_ip hk8 hf
                    obtain ⟨_, hk99_36, hf⟩ := x_b1 hf
                    obtain ⟨x99_37, M99_38, hx99_37, hf⟩ := x_b2 hf
                    refine x_callU (owner := "NylonLadder$Plain") (x := ⟨"NylonLadder$Plain", "runs", "(I)I"⟩) (As := [.int p3]) (a := a99_19) (rest := []) C hW hl (qX4_runs_k8 l E hx99_37) (x_gk hk99_36) (by decide) (by decide) rfl gu_X11_335_8 rfl hdo_X11_335 rfl rfl (Nat.le_of_ble_eq_true rfl) dX11_act_99 ⟨Nat.le_of_ble_eq_true rfl, Nat.le_of_ble_eq_true rfl⟩ ⟨Nat.le_of_ble_eq_true rfl, Nat.le_of_ble_eq_true rfl⟩ (fun H locs hW => ?_)
                    refine lv_istore (lv' := [(6, .int _), (5, .ref (E.b + _)), (4, .ref (E.b + _)), (0, .ref (E.b + _)), (1, .int _), (2, .int _), (3, .int _)]) C.x C.b dX11_act_102 hl (by decide) rfl (fun ls hl => ?_)
                    refine lv_goto (tgt := 137) C.x C.b dX11_act_104 rfl ?_
                    refine lv_aload C.x C.b dX11_act_137 (lv_at hl 1 rfl) ?_
                    obtain ⟨x139_39, hx139_39, hf⟩ := x_b1 hf
                    refine x_geti C hW fg_X11_349_8 hx139_39 dX11_act_139 ?_
                    refine lv_if_eq (tgt := 150) C.x C.b dX11_act_142 rfl (fun c142 => ?_) (fun c142 => ?_)
                    · have hf := x_ip c142 hf
                      refine lv_iload C.x C.b dX11_act_150 (lv_at hl 0 rfl) ?_
                      refine W.widen (k := 12) (n := 169) (Nat.le_of_ble_eq_true rfl) (Nat.le_of_ble_eq_true rfl) ?_
                      rw [x_e1 hf, x_e2 hf]
                      exact x_iret C hr hW dX11_act_152
                    · have hf := x_in c142 hf
                      refine lv_bipush (v := (-15)) C.x C.b dX11_act_145 (by decide) ?_
                      refine lv_goto (tgt := 152) C.x C.b dX11_act_147 rfl ?_
                      refine W.widen (k := 12) (n := 169) (Nat.le_of_ble_eq_true rfl) (Nat.le_of_ble_eq_true rfl) ?_
                      rw [x_e1 hf, x_e2 hf]
                      exact x_iret C hr hW dX11_act_152
                  · have hf := x_in hk8 hf
                    by_cases hk12 : M64_18.k a99_19 = 12
                    · have hf := x_ip hk12 hf
                      obtain ⟨_, hk99_40, hf⟩ := x_b1 hf
                      obtain ⟨x99_41, M99_42, hx99_41, hf⟩ := x_b2 hf
                      refine x_callO (owner := "NylonLadder$Plain") (x := ⟨"NylonLadder$Plain", "runs", "(I)I"⟩) (As := [.int p3]) (a := a99_19) (rest := []) C hW hl (qX9_runs_k12 l E hx99_41) (x_gk hk99_40) (by decide) (by decide) rfl gu_X11_335_12 T_5_158 hdo_X11_335 rfl rfl (Nat.le_of_ble_eq_true rfl) dX11_act_99 ⟨Nat.le_of_ble_eq_true rfl, Nat.le_of_ble_eq_true rfl⟩ ⟨Nat.le_of_ble_eq_true rfl, Nat.le_of_ble_eq_true rfl⟩ (fun H locs hW => ?_)
                      refine lv_istore (lv' := [(6, .int _), (5, .ref (E.b + _)), (4, .ref (E.b + _)), (0, .ref (E.b + _)), (1, .int _), (2, .int _), (3, .int _)]) C.x C.b dX11_act_102 hl (by decide) rfl (fun ls hl => ?_)
                      refine lv_goto (tgt := 137) C.x C.b dX11_act_104 rfl ?_
                      refine lv_aload C.x C.b dX11_act_137 (lv_at hl 1 rfl) ?_
                      obtain ⟨x139_43, hx139_43, hf⟩ := x_b1 hf
                      refine x_geti C hW fg_X11_349_12 hx139_43 dX11_act_139 ?_
                      refine lv_if_eq (tgt := 150) C.x C.b dX11_act_142 rfl (fun c142 => ?_) (fun c142 => ?_)
                      · have hf := x_ip c142 hf
                        refine lv_iload C.x C.b dX11_act_150 (lv_at hl 0 rfl) ?_
                        refine W.widen (k := 12) (n := 169) (Nat.le_of_ble_eq_true rfl) (Nat.le_of_ble_eq_true rfl) ?_
                        rw [x_e1 hf, x_e2 hf]
                        exact x_iret C hr hW dX11_act_152
                      · have hf := x_in c142 hf
                        refine lv_bipush (v := (-15)) C.x C.b dX11_act_145 (by decide) ?_
                        refine lv_goto (tgt := 152) C.x C.b dX11_act_147 rfl ?_
                        refine W.widen (k := 12) (n := 169) (Nat.le_of_ble_eq_true rfl) (Nat.le_of_ble_eq_true rfl) ?_
                        rw [x_e1 hf, x_e2 hf]
                        exact x_iret C hr hW dX11_act_152
                    · have hf := x_in hk12 hf
                      cases hf
        · have hf := x_in s70_0 hf
          by_cases s70_1 : p2 = 1
          · have hf := x_ip s70_1 hf
            refine lv_tableIn (off := 37) (tgt := 107) C.x C.b dX11_act_70 (by rw [s70_1]; decide) (by rw [s70_1]; decide) (by rw [s70_1]; rfl) rfl ?_
            refine x_aload C dX11_act_107 (lv_at hl 0 rfl) ?_
            refine lv_iload_n C.x C.b dX11_act_109 rfl (lv_at hl 5 rfl) ?_
            obtain ⟨a110_44, rfl, hf⟩ := x_b1 hf
            by_cases hk4 : M64_18.k a110_44 = 4
            · have hf := x_ip hk4 hf
              obtain ⟨_, hk110_45, hf⟩ := x_b1 hf
              obtain ⟨x110_46, M110_47, hx110_46, hf⟩ := x_b2 hf
              refine x_callO (owner := "NylonLadder$Plain") (x := ⟨"NylonLadder$Plain", "dries", "(I)I"⟩) (As := [.int p3]) (a := a110_44) (rest := []) C hW hl (qX1_dries_k4 l E hx110_46) (x_gk hk110_45) (by decide) (by decide) rfl gu_X11_340_4 T_5_181 hdo_X11_340 rfl rfl (Nat.le_of_ble_eq_true rfl) dX11_act_110 ⟨Nat.le_of_ble_eq_true rfl, Nat.le_of_ble_eq_true rfl⟩ ⟨Nat.le_of_ble_eq_true rfl, Nat.le_of_ble_eq_true rfl⟩ (fun H locs hW => ?_)
              refine lv_istore (lv' := [(6, .int _), (5, .ref (E.b + _)), (4, .ref (E.b + _)), (0, .ref (E.b + _)), (1, .int _), (2, .int _), (3, .int _)]) C.x C.b dX11_act_113 hl (by decide) rfl (fun ls hl => ?_)
              refine lv_goto (tgt := 137) C.x C.b dX11_act_115 rfl ?_
              refine lv_aload C.x C.b dX11_act_137 (lv_at hl 1 rfl) ?_
              obtain ⟨x139_48, hx139_48, hf⟩ := x_b1 hf
              refine x_geti C hW fg_X11_349_4 hx139_48 dX11_act_139 ?_
              refine lv_if_eq (tgt := 150) C.x C.b dX11_act_142 rfl (fun c142 => ?_) (fun c142 => ?_)
              · have hf := x_ip c142 hf
                refine lv_iload C.x C.b dX11_act_150 (lv_at hl 0 rfl) ?_
                refine W.widen (k := 12) (n := 169) (Nat.le_of_ble_eq_true rfl) (Nat.le_of_ble_eq_true rfl) ?_
                rw [x_e1 hf, x_e2 hf]
                exact x_iret C hr hW dX11_act_152
              · have hf := x_in c142 hf
                refine lv_bipush (v := (-15)) C.x C.b dX11_act_145 (by decide) ?_
                refine lv_goto (tgt := 152) C.x C.b dX11_act_147 rfl ?_
                refine W.widen (k := 12) (n := 169) (Nat.le_of_ble_eq_true rfl) (Nat.le_of_ble_eq_true rfl) ?_
                rw [x_e1 hf, x_e2 hf]
                exact x_iret C hr hW dX11_act_152
            · have hf := x_in hk4 hf
              by_cases hk5 : M64_18.k a110_44 = 5
              · have hf := x_ip hk5 hf
                obtain ⟨_, hk110_49, hf⟩ := x_b1 hf
                obtain ⟨x110_50, M110_51, hx110_50, hf⟩ := x_b2 hf
                refine x_callO (owner := "NylonLadder$Plain") (x := ⟨"NylonLadder$Plain", "dries", "(I)I"⟩) (As := [.int p3]) (a := a110_44) (rest := []) C hW hl (qX5_dries_k5 l E hx110_50) (x_gk hk110_49) (by decide) (by decide) rfl gu_X11_340_5 T_5_181 hdo_X11_340 rfl rfl (Nat.le_of_ble_eq_true rfl) dX11_act_110 ⟨Nat.le_of_ble_eq_true rfl, Nat.le_of_ble_eq_true rfl⟩ ⟨Nat.le_of_ble_eq_true rfl, Nat.le_of_ble_eq_true rfl⟩ (fun H locs hW => ?_)
                refine lv_istore (lv' := [(6, .int _), (5, .ref (E.b + _)), (4, .ref (E.b + _)), (0, .ref (E.b + _)), (1, .int _), (2, .int _), (3, .int _)]) C.x C.b dX11_act_113 hl (by decide) rfl (fun ls hl => ?_)
                refine lv_goto (tgt := 137) C.x C.b dX11_act_115 rfl ?_
                refine lv_aload C.x C.b dX11_act_137 (lv_at hl 1 rfl) ?_
                obtain ⟨x139_52, hx139_52, hf⟩ := x_b1 hf
                refine x_geti C hW fg_X11_349_5 hx139_52 dX11_act_139 ?_
                refine lv_if_eq (tgt := 150) C.x C.b dX11_act_142 rfl (fun c142 => ?_) (fun c142 => ?_)
                · have hf := x_ip c142 hf
                  refine lv_iload C.x C.b dX11_act_150 (lv_at hl 0 rfl) ?_
                  refine W.widen (k := 12) (n := 169) (Nat.le_of_ble_eq_true rfl) (Nat.le_of_ble_eq_true rfl) ?_
                  rw [x_e1 hf, x_e2 hf]
                  exact x_iret C hr hW dX11_act_152
                · have hf := x_in c142 hf
                  refine lv_bipush (v := (-15)) C.x C.b dX11_act_145 (by decide) ?_
                  refine lv_goto (tgt := 152) C.x C.b dX11_act_147 rfl ?_
                  refine W.widen (k := 12) (n := 169) (Nat.le_of_ble_eq_true rfl) (Nat.le_of_ble_eq_true rfl) ?_
                  rw [x_e1 hf, x_e2 hf]
                  exact x_iret C hr hW dX11_act_152
              · have hf := x_in hk5 hf
                by_cases hk6 : M64_18.k a110_44 = 6
                · have hf := x_ip hk6 hf
                  obtain ⟨_, hk110_53, hf⟩ := x_b1 hf
                  obtain ⟨x110_54, M110_55, hx110_54, hf⟩ := x_b2 hf
                  refine x_callU (owner := "NylonLadder$Plain") (x := ⟨"NylonLadder$Plain", "dries", "(I)I"⟩) (As := [.int p3]) (a := a110_44) (rest := []) C hW hl (qX4_dries_k6 l E hx110_54) (x_gk hk110_53) (by decide) (by decide) rfl gu_X11_340_6 rfl hdo_X11_340 rfl rfl (Nat.le_of_ble_eq_true rfl) dX11_act_110 ⟨Nat.le_of_ble_eq_true rfl, Nat.le_of_ble_eq_true rfl⟩ ⟨Nat.le_of_ble_eq_true rfl, Nat.le_of_ble_eq_true rfl⟩ (fun H locs hW => ?_)
                  refine lv_istore (lv' := [(6, .int _), (5, .ref (E.b + _)), (4, .ref (E.b + _)), (0, .ref (E.b + _)), (1, .int _), (2, .int _), (3, .int _)]) C.x C.b dX11_act_113 hl (by decide) rfl (fun ls hl => ?_)
                  refine lv_goto (tgt := 137) C.x C.b dX11_act_115 rfl ?_
                  refine lv_aload C.x C.b dX11_act_137 (lv_at hl 1 rfl) ?_
                  obtain ⟨x139_56, hx139_56, hf⟩ := x_b1 hf
                  refine x_geti C hW fg_X11_349_6 hx139_56 dX11_act_139 ?_
                  refine lv_if_eq (tgt := 150) C.x C.b dX11_act_142 rfl (fun c142 => ?_) (fun c142 => ?_)
                  · have hf := x_ip c142 hf
                    refine lv_iload C.x C.b dX11_act_150 (lv_at hl 0 rfl) ?_
                    refine W.widen (k := 12) (n := 169) (Nat.le_of_ble_eq_true rfl) (Nat.le_of_ble_eq_true rfl) ?_
                    rw [x_e1 hf, x_e2 hf]
                    exact x_iret C hr hW dX11_act_152
                  · have hf := x_in c142 hf
                    refine lv_bipush (v := (-15)) C.x C.b dX11_act_145 (by decide) ?_
                    refine lv_goto (tgt := 152) C.x C.b dX11_act_147 rfl ?_
                    refine W.widen (k := 12) (n := 169) (Nat.le_of_ble_eq_true rfl) (Nat.le_of_ble_eq_true rfl) ?_
                    rw [x_e1 hf, x_e2 hf]
                    exact x_iret C hr hW dX11_act_152
                · have hf := x_in hk6 hf
                  by_cases hk7 : M64_18.k a110_44 = 7
                  · have hf := x_ip hk7 hf
                    obtain ⟨_, hk110_57, hf⟩ := x_b1 hf
                    obtain ⟨x110_58, M110_59, hx110_58, hf⟩ := x_b2 hf
                    refine x_callV (As := [.int p3]) (a := a110_44) (rest := []) C hW hl (qX4_dries_k7 l E hx110_58) (x_gk hk110_57) (by decide) (by decide) rfl gu_X11_340_7 ⟨rfl, hd_X4_dries⟩ rfl rfl (Nat.le_of_ble_eq_true rfl) dX11_act_110 ⟨Nat.le_of_ble_eq_true rfl, Nat.le_of_ble_eq_true rfl⟩ ⟨Nat.le_of_ble_eq_true rfl, Nat.le_of_ble_eq_true rfl⟩ (fun H locs hW => ?_)
                    refine lv_istore (lv' := [(6, .int _), (5, .ref (E.b + _)), (4, .ref (E.b + _)), (0, .ref (E.b + _)), (1, .int _), (2, .int _), (3, .int _)]) C.x C.b dX11_act_113 hl (by decide) rfl (fun ls hl => ?_)
                    refine lv_goto (tgt := 137) C.x C.b dX11_act_115 rfl ?_
                    refine lv_aload C.x C.b dX11_act_137 (lv_at hl 1 rfl) ?_
                    obtain ⟨x139_60, hx139_60, hf⟩ := x_b1 hf
                    refine x_geti C hW fg_X11_349_7 hx139_60 dX11_act_139 ?_
                    refine lv_if_eq (tgt := 150) C.x C.b dX11_act_142 rfl (fun c142 => ?_) (fun c142 => ?_)
                    · have hf := x_ip c142 hf
                      refine lv_iload C.x C.b dX11_act_150 (lv_at hl 0 rfl) ?_
                      refine W.widen (k := 12) (n := 169) (Nat.le_of_ble_eq_true rfl) (Nat.le_of_ble_eq_true rfl) ?_
                      rw [x_e1 hf, x_e2 hf]
                      exact x_iret C hr hW dX11_act_152
                    · have hf := x_in c142 hf
                      refine lv_bipush (v := (-15)) C.x C.b dX11_act_145 (by decide) ?_
                      refine lv_goto (tgt := 152) C.x C.b dX11_act_147 rfl ?_
                      refine W.widen (k := 12) (n := 169) (Nat.le_of_ble_eq_true rfl) (Nat.le_of_ble_eq_true rfl) ?_
                      rw [x_e1 hf, x_e2 hf]
                      exact x_iret C hr hW dX11_act_152
                  · have hf := x_in hk7 hf
                    by_cases hk8 : M64_18.k a110_44 = 8
                    · have hf := x_ip hk8 hf
                      obtain ⟨_, hk110_61, hf⟩ := x_b1 hf
                      obtain ⟨x110_62, M110_63, hx110_62, hf⟩ := x_b2 hf
                      refine x_callO (owner := "NylonLadder$Plain") (x := ⟨"NylonLadder$Plain", "dries", "(I)I"⟩) (As := [.int p3]) (a := a110_44) (rest := []) C hW hl (qX5_dries_k8 l E hx110_62) (x_gk hk110_61) (by decide) (by decide) rfl gu_X11_340_8 T_5_181 hdo_X11_340 rfl rfl (Nat.le_of_ble_eq_true rfl) dX11_act_110 ⟨Nat.le_of_ble_eq_true rfl, Nat.le_of_ble_eq_true rfl⟩ ⟨Nat.le_of_ble_eq_true rfl, Nat.le_of_ble_eq_true rfl⟩ (fun H locs hW => ?_)
                      refine lv_istore (lv' := [(6, .int _), (5, .ref (E.b + _)), (4, .ref (E.b + _)), (0, .ref (E.b + _)), (1, .int _), (2, .int _), (3, .int _)]) C.x C.b dX11_act_113 hl (by decide) rfl (fun ls hl => ?_)
                      refine lv_goto (tgt := 137) C.x C.b dX11_act_115 rfl ?_
                      refine lv_aload C.x C.b dX11_act_137 (lv_at hl 1 rfl) ?_
                      obtain ⟨x139_64, hx139_64, hf⟩ := x_b1 hf
                      refine x_geti C hW fg_X11_349_8 hx139_64 dX11_act_139 ?_
                      refine lv_if_eq (tgt := 150) C.x C.b dX11_act_142 rfl (fun c142 => ?_) (fun c142 => ?_)
                      · have hf := x_ip c142 hf
                        refine lv_iload C.x C.b dX11_act_150 (lv_at hl 0 rfl) ?_
                        refine W.widen (k := 12) (n := 169) (Nat.le_of_ble_eq_true rfl) (Nat.le_of_ble_eq_true rfl) ?_
                        rw [x_e1 hf, x_e2 hf]
                        exact x_iret C hr hW dX11_act_152
                      · have hf := x_in c142 hf
                        refine lv_bipush (v := (-15)) C.x C.b dX11_act_145 (by decide) ?_
                        refine lv_goto (tgt := 152) C.x C.b dX11_act_147 rfl ?_
                        refine W.widen (k := 12) (n := 169) (Nat.le_of_ble_eq_true rfl) (Nat.le_of_ble_eq_true rfl) ?_
                        rw [x_e1 hf, x_e2 hf]
                        exact x_iret C hr hW dX11_act_152
                    · have hf := x_in hk8 hf
                      by_cases hk12 : M64_18.k a110_44 = 12
                      · have hf := x_ip hk12 hf
                        obtain ⟨_, hk110_65, hf⟩ := x_b1 hf
                        obtain ⟨x110_66, M110_67, hx110_66, hf⟩ := x_b2 hf
                        refine x_callU (owner := "NylonLadder$Plain") (x := ⟨"NylonLadder$Plain", "dries", "(I)I"⟩) (As := [.int p3]) (a := a110_44) (rest := []) C hW hl (qX4_dries_k12 l E hx110_66) (x_gk hk110_65) (by decide) (by decide) rfl gu_X11_340_12 rfl hdo_X11_340 rfl rfl (Nat.le_of_ble_eq_true rfl) dX11_act_110 ⟨Nat.le_of_ble_eq_true rfl, Nat.le_of_ble_eq_true rfl⟩ ⟨Nat.le_of_ble_eq_true rfl, Nat.le_of_ble_eq_true rfl⟩ (fun H locs hW => ?_)
                        refine lv_istore (lv' := [(6, .int _), (5, .ref (E.b + _)), (4, .ref (E.b + _)), (0, .ref (E.b + _)), (1, .int _), (2, .int _), (3, .int _)]) C.x C.b dX11_act_113 hl (by decide) rfl (fun ls hl => ?_)
                        refine lv_goto (tgt := 137) C.x C.b dX11_act_115 rfl ?_
                        refine lv_aload C.x C.b dX11_act_137 (lv_at hl 1 rfl) ?_
                        obtain ⟨x139_68, hx139_68, hf⟩ := x_b1 hf
                        refine x_geti C hW fg_X11_349_12 hx139_68 dX11_act_139 ?_
                        refine lv_if_eq (tgt := 150) C.x C.b dX11_act_142 rfl (fun c142 => ?_) (fun c142 => ?_)
                        · have hf := x_ip c142 hf
                          refine lv_iload C.x C.b dX11_act_150 (lv_at hl 0 rfl) ?_
                          refine W.widen (k := 12) (n := 169) (Nat.le_of_ble_eq_true rfl) (Nat.le_of_ble_eq_true rfl) ?_
                          rw [x_e1 hf, x_e2 hf]
                          exact x_iret C hr hW dX11_act_152
                        · have hf := x_in c142 hf
                          refine lv_bipush (v := (-15)) C.x C.b dX11_act_145 (by decide) ?_
                          refine lv_goto (tgt := 152) C.x C.b dX11_act_147 rfl ?_
                          refine W.widen (k := 12) (n := 169) (Nat.le_of_ble_eq_true rfl) (Nat.le_of_ble_eq_true rfl) ?_
                          rw [x_e1 hf, x_e2 hf]
                          exact x_iret C hr hW dX11_act_152
                      · have hf := x_in hk12 hf
                        cases hf
          · have hf := x_in s70_1 hf
            by_cases s70_2 : p2 = 2
            · have hf := x_ip s70_2 hf
              refine lv_tableIn (off := 48) (tgt := 118) C.x C.b dX11_act_70 (by rw [s70_2]; decide) (by rw [s70_2]; decide) (by rw [s70_2]; rfl) rfl ?_
              refine x_aload C dX11_act_118 (lv_at hl 0 rfl) ?_
              refine lv_iload_n C.x C.b dX11_act_120 rfl (lv_at hl 5 rfl) ?_
              obtain ⟨a121_69, rfl, hf⟩ := x_b1 hf
              by_cases hk4 : M64_18.k a121_69 = 4
              · have hf := x_ip hk4 hf
                obtain ⟨_, hk121_70, hf⟩ := x_b1 hf
                obtain ⟨x121_71, M121_72, hx121_71, hf⟩ := x_b2 hf
                refine x_callU (owner := "NylonLadder$Plain") (x := ⟨"NylonLadder$Plain", "holds", "(I)I"⟩) (As := [.int p3]) (a := a121_69) (rest := []) C hW hl (qX4_holds_k4 l E hx121_71) (x_gk hk121_70) (by decide) (by decide) rfl gu_X11_343_4 rfl hdo_X11_343 rfl rfl (Nat.le_of_ble_eq_true rfl) dX11_act_121 ⟨Nat.le_of_ble_eq_true rfl, Nat.le_of_ble_eq_true rfl⟩ ⟨Nat.le_of_ble_eq_true rfl, Nat.le_of_ble_eq_true rfl⟩ (fun H locs hW => ?_)
                refine lv_istore (lv' := [(6, .int _), (5, .ref (E.b + _)), (4, .ref (E.b + _)), (0, .ref (E.b + _)), (1, .int _), (2, .int _), (3, .int _)]) C.x C.b dX11_act_124 hl (by decide) rfl (fun ls hl => ?_)
                refine lv_goto (tgt := 137) C.x C.b dX11_act_126 rfl ?_
                refine lv_aload C.x C.b dX11_act_137 (lv_at hl 1 rfl) ?_
                obtain ⟨x139_73, hx139_73, hf⟩ := x_b1 hf
                refine x_geti C hW fg_X11_349_4 hx139_73 dX11_act_139 ?_
                refine lv_if_eq (tgt := 150) C.x C.b dX11_act_142 rfl (fun c142 => ?_) (fun c142 => ?_)
                · have hf := x_ip c142 hf
                  refine lv_iload C.x C.b dX11_act_150 (lv_at hl 0 rfl) ?_
                  refine W.widen (k := 12) (n := 169) (Nat.le_of_ble_eq_true rfl) (Nat.le_of_ble_eq_true rfl) ?_
                  rw [x_e1 hf, x_e2 hf]
                  exact x_iret C hr hW dX11_act_152
                · have hf := x_in c142 hf
                  refine lv_bipush (v := (-15)) C.x C.b dX11_act_145 (by decide) ?_
                  refine lv_goto (tgt := 152) C.x C.b dX11_act_147 rfl ?_
                  refine W.widen (k := 12) (n := 169) (Nat.le_of_ble_eq_true rfl) (Nat.le_of_ble_eq_true rfl) ?_
                  rw [x_e1 hf, x_e2 hf]
                  exact x_iret C hr hW dX11_act_152
              · have hf := x_in hk4 hf
                by_cases hk5 : M64_18.k a121_69 = 5
                · have hf := x_ip hk5 hf
                  obtain ⟨_, hk121_74, hf⟩ := x_b1 hf
                  obtain ⟨x121_75, M121_76, hx121_75, hf⟩ := x_b2 hf
                  refine x_callO (owner := "NylonLadder$Plain") (x := ⟨"NylonLadder$Plain", "holds", "(I)I"⟩) (As := [.int p3]) (a := a121_69) (rest := []) C hW hl (qX2_holds_k5 l E hx121_75) (x_gk hk121_74) (by decide) (by decide) rfl gu_X11_343_5 T_5_205 hdo_X11_343 rfl rfl (Nat.le_of_ble_eq_true rfl) dX11_act_121 ⟨Nat.le_of_ble_eq_true rfl, Nat.le_of_ble_eq_true rfl⟩ ⟨Nat.le_of_ble_eq_true rfl, Nat.le_of_ble_eq_true rfl⟩ (fun H locs hW => ?_)
                  refine lv_istore (lv' := [(6, .int _), (5, .ref (E.b + _)), (4, .ref (E.b + _)), (0, .ref (E.b + _)), (1, .int _), (2, .int _), (3, .int _)]) C.x C.b dX11_act_124 hl (by decide) rfl (fun ls hl => ?_)
                  refine lv_goto (tgt := 137) C.x C.b dX11_act_126 rfl ?_
                  refine lv_aload C.x C.b dX11_act_137 (lv_at hl 1 rfl) ?_
                  obtain ⟨x139_77, hx139_77, hf⟩ := x_b1 hf
                  refine x_geti C hW fg_X11_349_5 hx139_77 dX11_act_139 ?_
                  refine lv_if_eq (tgt := 150) C.x C.b dX11_act_142 rfl (fun c142 => ?_) (fun c142 => ?_)
                  · have hf := x_ip c142 hf
                    refine lv_iload C.x C.b dX11_act_150 (lv_at hl 0 rfl) ?_
                    refine W.widen (k := 12) (n := 169) (Nat.le_of_ble_eq_true rfl) (Nat.le_of_ble_eq_true rfl) ?_
                    rw [x_e1 hf, x_e2 hf]
                    exact x_iret C hr hW dX11_act_152
                  · have hf := x_in c142 hf
                    refine lv_bipush (v := (-15)) C.x C.b dX11_act_145 (by decide) ?_
                    refine lv_goto (tgt := 152) C.x C.b dX11_act_147 rfl ?_
                    refine W.widen (k := 12) (n := 169) (Nat.le_of_ble_eq_true rfl) (Nat.le_of_ble_eq_true rfl) ?_
                    rw [x_e1 hf, x_e2 hf]
                    exact x_iret C hr hW dX11_act_152
                · have hf := x_in hk5 hf
                  by_cases hk6 : M64_18.k a121_69 = 6
                  · have hf := x_ip hk6 hf
                    obtain ⟨_, hk121_78, hf⟩ := x_b1 hf
                    obtain ⟨x121_79, M121_80, hx121_79, hf⟩ := x_b2 hf
                    refine x_callO (owner := "NylonLadder$Plain") (x := ⟨"NylonLadder$Plain", "holds", "(I)I"⟩) (As := [.int p3]) (a := a121_69) (rest := []) C hW hl (qX3_holds_k6 l E hx121_79) (x_gk hk121_78) (by decide) (by decide) rfl gu_X11_343_6 T_5_205 hdo_X11_343 rfl rfl (Nat.le_of_ble_eq_true rfl) dX11_act_121 ⟨Nat.le_of_ble_eq_true rfl, Nat.le_of_ble_eq_true rfl⟩ ⟨Nat.le_of_ble_eq_true rfl, Nat.le_of_ble_eq_true rfl⟩ (fun H locs hW => ?_)
                    refine lv_istore (lv' := [(6, .int _), (5, .ref (E.b + _)), (4, .ref (E.b + _)), (0, .ref (E.b + _)), (1, .int _), (2, .int _), (3, .int _)]) C.x C.b dX11_act_124 hl (by decide) rfl (fun ls hl => ?_)
                    refine lv_goto (tgt := 137) C.x C.b dX11_act_126 rfl ?_
                    refine lv_aload C.x C.b dX11_act_137 (lv_at hl 1 rfl) ?_
                    obtain ⟨x139_81, hx139_81, hf⟩ := x_b1 hf
                    refine x_geti C hW fg_X11_349_6 hx139_81 dX11_act_139 ?_
                    refine lv_if_eq (tgt := 150) C.x C.b dX11_act_142 rfl (fun c142 => ?_) (fun c142 => ?_)
                    · have hf := x_ip c142 hf
                      refine lv_iload C.x C.b dX11_act_150 (lv_at hl 0 rfl) ?_
                      refine W.widen (k := 12) (n := 169) (Nat.le_of_ble_eq_true rfl) (Nat.le_of_ble_eq_true rfl) ?_
                      rw [x_e1 hf, x_e2 hf]
                      exact x_iret C hr hW dX11_act_152
                    · have hf := x_in c142 hf
                      refine lv_bipush (v := (-15)) C.x C.b dX11_act_145 (by decide) ?_
                      refine lv_goto (tgt := 152) C.x C.b dX11_act_147 rfl ?_
                      refine W.widen (k := 12) (n := 169) (Nat.le_of_ble_eq_true rfl) (Nat.le_of_ble_eq_true rfl) ?_
                      rw [x_e1 hf, x_e2 hf]
                      exact x_iret C hr hW dX11_act_152
                  · have hf := x_in hk6 hf
                    by_cases hk7 : M64_18.k a121_69 = 7
                    · have hf := x_ip hk7 hf
                      obtain ⟨_, hk121_82, hf⟩ := x_b1 hf
                      obtain ⟨x121_83, M121_84, hx121_83, hf⟩ := x_b2 hf
                      refine x_callV (As := [.int p3]) (a := a121_69) (rest := []) C hW hl (qX4_holds_k7 l E hx121_83) (x_gk hk121_82) (by decide) (by decide) rfl gu_X11_343_7 ⟨rfl, hd_X4_holds⟩ rfl rfl (Nat.le_of_ble_eq_true rfl) dX11_act_121 ⟨Nat.le_of_ble_eq_true rfl, Nat.le_of_ble_eq_true rfl⟩ ⟨Nat.le_of_ble_eq_true rfl, Nat.le_of_ble_eq_true rfl⟩ (fun H locs hW => ?_)
                      refine lv_istore (lv' := [(6, .int _), (5, .ref (E.b + _)), (4, .ref (E.b + _)), (0, .ref (E.b + _)), (1, .int _), (2, .int _), (3, .int _)]) C.x C.b dX11_act_124 hl (by decide) rfl (fun ls hl => ?_)
                      refine lv_goto (tgt := 137) C.x C.b dX11_act_126 rfl ?_
                      refine lv_aload C.x C.b dX11_act_137 (lv_at hl 1 rfl) ?_
                      obtain ⟨x139_85, hx139_85, hf⟩ := x_b1 hf
                      refine x_geti C hW fg_X11_349_7 hx139_85 dX11_act_139 ?_
                      refine lv_if_eq (tgt := 150) C.x C.b dX11_act_142 rfl (fun c142 => ?_) (fun c142 => ?_)
                      · have hf := x_ip c142 hf
                        refine lv_iload C.x C.b dX11_act_150 (lv_at hl 0 rfl) ?_
                        refine W.widen (k := 12) (n := 169) (Nat.le_of_ble_eq_true rfl) (Nat.le_of_ble_eq_true rfl) ?_
                        rw [x_e1 hf, x_e2 hf]
                        exact x_iret C hr hW dX11_act_152
                      · have hf := x_in c142 hf
                        refine lv_bipush (v := (-15)) C.x C.b dX11_act_145 (by decide) ?_
                        refine lv_goto (tgt := 152) C.x C.b dX11_act_147 rfl ?_
                        refine W.widen (k := 12) (n := 169) (Nat.le_of_ble_eq_true rfl) (Nat.le_of_ble_eq_true rfl) ?_
                        rw [x_e1 hf, x_e2 hf]
                        exact x_iret C hr hW dX11_act_152
                    · have hf := x_in hk7 hf
                      by_cases hk8 : M64_18.k a121_69 = 8
                      · have hf := x_ip hk8 hf
                        obtain ⟨_, hk121_86, hf⟩ := x_b1 hf
                        obtain ⟨x121_87, M121_88, hx121_87, hf⟩ := x_b2 hf
                        refine x_callU (owner := "NylonLadder$Plain") (x := ⟨"NylonLadder$Plain", "holds", "(I)I"⟩) (As := [.int p3]) (a := a121_69) (rest := []) C hW hl (qX4_holds_k8 l E hx121_87) (x_gk hk121_86) (by decide) (by decide) rfl gu_X11_343_8 rfl hdo_X11_343 rfl rfl (Nat.le_of_ble_eq_true rfl) dX11_act_121 ⟨Nat.le_of_ble_eq_true rfl, Nat.le_of_ble_eq_true rfl⟩ ⟨Nat.le_of_ble_eq_true rfl, Nat.le_of_ble_eq_true rfl⟩ (fun H locs hW => ?_)
                        refine lv_istore (lv' := [(6, .int _), (5, .ref (E.b + _)), (4, .ref (E.b + _)), (0, .ref (E.b + _)), (1, .int _), (2, .int _), (3, .int _)]) C.x C.b dX11_act_124 hl (by decide) rfl (fun ls hl => ?_)
                        refine lv_goto (tgt := 137) C.x C.b dX11_act_126 rfl ?_
                        refine lv_aload C.x C.b dX11_act_137 (lv_at hl 1 rfl) ?_
                        obtain ⟨x139_89, hx139_89, hf⟩ := x_b1 hf
                        refine x_geti C hW fg_X11_349_8 hx139_89 dX11_act_139 ?_
                        refine lv_if_eq (tgt := 150) C.x C.b dX11_act_142 rfl (fun c142 => ?_) (fun c142 => ?_)
                        · have hf := x_ip c142 hf
                          refine lv_iload C.x C.b dX11_act_150 (lv_at hl 0 rfl) ?_
                          refine W.widen (k := 12) (n := 169) (Nat.le_of_ble_eq_true rfl) (Nat.le_of_ble_eq_true rfl) ?_
                          rw [x_e1 hf, x_e2 hf]
                          exact x_iret C hr hW dX11_act_152
                        · have hf := x_in c142 hf
                          refine lv_bipush (v := (-15)) C.x C.b dX11_act_145 (by decide) ?_
                          refine lv_goto (tgt := 152) C.x C.b dX11_act_147 rfl ?_
                          refine W.widen (k := 12) (n := 169) (Nat.le_of_ble_eq_true rfl) (Nat.le_of_ble_eq_true rfl) ?_
                          rw [x_e1 hf, x_e2 hf]
                          exact x_iret C hr hW dX11_act_152
                      · have hf := x_in hk8 hf
                        by_cases hk12 : M64_18.k a121_69 = 12
                        · have hf := x_ip hk12 hf
                          obtain ⟨_, hk121_90, hf⟩ := x_b1 hf
                          obtain ⟨x121_91, M121_92, hx121_91, hf⟩ := x_b2 hf
                          refine x_callU (owner := "NylonLadder$Plain") (x := ⟨"NylonLadder$Plain", "holds", "(I)I"⟩) (As := [.int p3]) (a := a121_69) (rest := []) C hW hl (qX4_holds_k12 l E hx121_91) (x_gk hk121_90) (by decide) (by decide) rfl gu_X11_343_12 rfl hdo_X11_343 rfl rfl (Nat.le_of_ble_eq_true rfl) dX11_act_121 ⟨Nat.le_of_ble_eq_true rfl, Nat.le_of_ble_eq_true rfl⟩ ⟨Nat.le_of_ble_eq_true rfl, Nat.le_of_ble_eq_true rfl⟩ (fun H locs hW => ?_)
                          refine lv_istore (lv' := [(6, .int _), (5, .ref (E.b + _)), (4, .ref (E.b + _)), (0, .ref (E.b + _)), (1, .int _), (2, .int _), (3, .int _)]) C.x C.b dX11_act_124 hl (by decide) rfl (fun ls hl => ?_)
                          refine lv_goto (tgt := 137) C.x C.b dX11_act_126 rfl ?_
                          refine lv_aload C.x C.b dX11_act_137 (lv_at hl 1 rfl) ?_
                          obtain ⟨x139_93, hx139_93, hf⟩ := x_b1 hf
                          refine x_geti C hW fg_X11_349_12 hx139_93 dX11_act_139 ?_
                          refine lv_if_eq (tgt := 150) C.x C.b dX11_act_142 rfl (fun c142 => ?_) (fun c142 => ?_)
                          · have hf := x_ip c142 hf
                            refine lv_iload C.x C.b dX11_act_150 (lv_at hl 0 rfl) ?_
                            refine W.widen (k := 12) (n := 169) (Nat.le_of_ble_eq_true rfl) (Nat.le_of_ble_eq_true rfl) ?_
                            rw [x_e1 hf, x_e2 hf]
                            exact x_iret C hr hW dX11_act_152
                          · have hf := x_in c142 hf
                            refine lv_bipush (v := (-15)) C.x C.b dX11_act_145 (by decide) ?_
                            refine lv_goto (tgt := 152) C.x C.b dX11_act_147 rfl ?_
                            refine W.widen (k := 12) (n := 169) (Nat.le_of_ble_eq_true rfl) (Nat.le_of_ble_eq_true rfl) ?_
                            rw [x_e1 hf, x_e2 hf]
                            exact x_iret C hr hW dX11_act_152
                        · have hf := x_in hk12 hf
                          cases hf
            · have hf := x_in s70_2 hf
              have s70_0_ := lv_neT (a := 0) s70_0 rfl
              have s70_1_ := lv_neT (a := 1) s70_1 rfl
              have s70_2_ := lv_neT (a := 2) s70_2 rfl
              refine lv_tableOut (tgt := 129) C.x C.b dX11_act_70 (by omega) rfl ?_
              refine x_aload C dX11_act_129 (lv_at hl 0 rfl) ?_
              refine lv_iload_n C.x C.b dX11_act_131 rfl (lv_at hl 5 rfl) ?_
              obtain ⟨a132_94, rfl, hf⟩ := x_b1 hf
              by_cases hk4 : M64_18.k a132_94 = 4
              · have hf := x_ip hk4 hf
                obtain ⟨_, hk132_95, hf⟩ := x_b1 hf
                obtain ⟨x132_96, M132_97, hx132_96, hf⟩ := x_b2 hf
                refine x_callO (owner := "NylonLadder$Plain") (x := ⟨"NylonLadder$Plain", "tells", "(I)I"⟩) (As := [.int p3]) (a := a132_94) (rest := []) C hW hl (qX9_tells_k4 l E hx132_96) (x_gk hk132_95) (by decide) (by decide) rfl gu_X11_346_4 T_5_225 hdo_X11_346 rfl rfl (Nat.le_of_ble_eq_true rfl) dX11_act_132 ⟨Nat.le_of_ble_eq_true rfl, Nat.le_of_ble_eq_true rfl⟩ ⟨Nat.le_of_ble_eq_true rfl, Nat.le_of_ble_eq_true rfl⟩ (fun H locs hW => ?_)
                refine lv_istore (lv' := [(6, .int _), (5, .ref (E.b + _)), (4, .ref (E.b + _)), (0, .ref (E.b + _)), (1, .int _), (2, .int _), (3, .int _)]) C.x C.b dX11_act_135 hl (by decide) rfl (fun ls hl => ?_)
                refine lv_aload C.x C.b dX11_act_137 (lv_at hl 1 rfl) ?_
                obtain ⟨x139_98, hx139_98, hf⟩ := x_b1 hf
                refine x_geti C hW fg_X11_349_4 hx139_98 dX11_act_139 ?_
                refine lv_if_eq (tgt := 150) C.x C.b dX11_act_142 rfl (fun c142 => ?_) (fun c142 => ?_)
                · have hf := x_ip c142 hf
                  refine lv_iload C.x C.b dX11_act_150 (lv_at hl 0 rfl) ?_
                  rw [x_e1 hf, x_e2 hf]
                  exact x_iret C hr hW dX11_act_152
                · have hf := x_in c142 hf
                  refine lv_bipush (v := (-15)) C.x C.b dX11_act_145 (by decide) ?_
                  refine lv_goto (tgt := 152) C.x C.b dX11_act_147 rfl ?_
                  rw [x_e1 hf, x_e2 hf]
                  exact x_iret C hr hW dX11_act_152
              · have hf := x_in hk4 hf
                by_cases hk5 : M64_18.k a132_94 = 5
                · have hf := x_ip hk5 hf
                  obtain ⟨_, hk132_99, hf⟩ := x_b1 hf
                  obtain ⟨x132_100, M132_101, hx132_100, hf⟩ := x_b2 hf
                  refine x_callU (owner := "NylonLadder$Plain") (x := ⟨"NylonLadder$Plain", "tells", "(I)I"⟩) (As := [.int p3]) (a := a132_94) (rest := []) C hW hl (qX4_tells_k5 l E hx132_100) (x_gk hk132_99) (by decide) (by decide) rfl gu_X11_346_5 rfl hdo_X11_346 rfl rfl (Nat.le_of_ble_eq_true rfl) dX11_act_132 ⟨Nat.le_of_ble_eq_true rfl, Nat.le_of_ble_eq_true rfl⟩ ⟨Nat.le_of_ble_eq_true rfl, Nat.le_of_ble_eq_true rfl⟩ (fun H locs hW => ?_)
                  refine lv_istore (lv' := [(6, .int _), (5, .ref (E.b + _)), (4, .ref (E.b + _)), (0, .ref (E.b + _)), (1, .int _), (2, .int _), (3, .int _)]) C.x C.b dX11_act_135 hl (by decide) rfl (fun ls hl => ?_)
                  refine lv_aload C.x C.b dX11_act_137 (lv_at hl 1 rfl) ?_
                  obtain ⟨x139_102, hx139_102, hf⟩ := x_b1 hf
                  refine x_geti C hW fg_X11_349_5 hx139_102 dX11_act_139 ?_
                  refine lv_if_eq (tgt := 150) C.x C.b dX11_act_142 rfl (fun c142 => ?_) (fun c142 => ?_)
                  · have hf := x_ip c142 hf
                    refine lv_iload C.x C.b dX11_act_150 (lv_at hl 0 rfl) ?_
                    refine W.widen (k := 12) (n := 169) (Nat.le_of_ble_eq_true rfl) (Nat.le_of_ble_eq_true rfl) ?_
                    rw [x_e1 hf, x_e2 hf]
                    exact x_iret C hr hW dX11_act_152
                  · have hf := x_in c142 hf
                    refine lv_bipush (v := (-15)) C.x C.b dX11_act_145 (by decide) ?_
                    refine lv_goto (tgt := 152) C.x C.b dX11_act_147 rfl ?_
                    refine W.widen (k := 12) (n := 169) (Nat.le_of_ble_eq_true rfl) (Nat.le_of_ble_eq_true rfl) ?_
                    rw [x_e1 hf, x_e2 hf]
                    exact x_iret C hr hW dX11_act_152
                · have hf := x_in hk5 hf
                  by_cases hk6 : M64_18.k a132_94 = 6
                  · have hf := x_ip hk6 hf
                    obtain ⟨_, hk132_103, hf⟩ := x_b1 hf
                    obtain ⟨x132_104, M132_105, hx132_104, hf⟩ := x_b2 hf
                    refine x_callO (owner := "NylonLadder$Plain") (x := ⟨"NylonLadder$Plain", "tells", "(I)I"⟩) (As := [.int p3]) (a := a132_94) (rest := []) C hW hl (qX3_tells_k6 l E hx132_104) (x_gk hk132_103) (by decide) (by decide) rfl gu_X11_346_6 T_5_225 hdo_X11_346 rfl rfl (Nat.le_of_ble_eq_true rfl) dX11_act_132 ⟨Nat.le_of_ble_eq_true rfl, Nat.le_of_ble_eq_true rfl⟩ ⟨Nat.le_of_ble_eq_true rfl, Nat.le_of_ble_eq_true rfl⟩ (fun H locs hW => ?_)
                    refine lv_istore (lv' := [(6, .int _), (5, .ref (E.b + _)), (4, .ref (E.b + _)), (0, .ref (E.b + _)), (1, .int _), (2, .int _), (3, .int _)]) C.x C.b dX11_act_135 hl (by decide) rfl (fun ls hl => ?_)
                    refine lv_aload C.x C.b dX11_act_137 (lv_at hl 1 rfl) ?_
                    obtain ⟨x139_106, hx139_106, hf⟩ := x_b1 hf
                    refine x_geti C hW fg_X11_349_6 hx139_106 dX11_act_139 ?_
                    refine lv_if_eq (tgt := 150) C.x C.b dX11_act_142 rfl (fun c142 => ?_) (fun c142 => ?_)
                    · have hf := x_ip c142 hf
                      refine lv_iload C.x C.b dX11_act_150 (lv_at hl 0 rfl) ?_
                      refine W.widen (k := 12) (n := 169) (Nat.le_of_ble_eq_true rfl) (Nat.le_of_ble_eq_true rfl) ?_
                      rw [x_e1 hf, x_e2 hf]
                      exact x_iret C hr hW dX11_act_152
                    · have hf := x_in c142 hf
                      refine lv_bipush (v := (-15)) C.x C.b dX11_act_145 (by decide) ?_
                      refine lv_goto (tgt := 152) C.x C.b dX11_act_147 rfl ?_
                      refine W.widen (k := 12) (n := 169) (Nat.le_of_ble_eq_true rfl) (Nat.le_of_ble_eq_true rfl) ?_
                      rw [x_e1 hf, x_e2 hf]
                      exact x_iret C hr hW dX11_act_152
                  · have hf := x_in hk6 hf
                    by_cases hk7 : M64_18.k a132_94 = 7
                    · have hf := x_ip hk7 hf
                      obtain ⟨_, hk132_107, hf⟩ := x_b1 hf
                      obtain ⟨x132_108, M132_109, hx132_108, hf⟩ := x_b2 hf
                      refine x_callV (As := [.int p3]) (a := a132_94) (rest := []) C hW hl (qX4_tells_k7 l E hx132_108) (x_gk hk132_107) (by decide) (by decide) rfl gu_X11_346_7 ⟨rfl, hd_X4_tells⟩ rfl rfl (Nat.le_of_ble_eq_true rfl) dX11_act_132 ⟨Nat.le_of_ble_eq_true rfl, Nat.le_of_ble_eq_true rfl⟩ ⟨Nat.le_of_ble_eq_true rfl, Nat.le_of_ble_eq_true rfl⟩ (fun H locs hW => ?_)
                      refine lv_istore (lv' := [(6, .int _), (5, .ref (E.b + _)), (4, .ref (E.b + _)), (0, .ref (E.b + _)), (1, .int _), (2, .int _), (3, .int _)]) C.x C.b dX11_act_135 hl (by decide) rfl (fun ls hl => ?_)
                      refine lv_aload C.x C.b dX11_act_137 (lv_at hl 1 rfl) ?_
                      obtain ⟨x139_110, hx139_110, hf⟩ := x_b1 hf
                      refine x_geti C hW fg_X11_349_7 hx139_110 dX11_act_139 ?_
                      refine lv_if_eq (tgt := 150) C.x C.b dX11_act_142 rfl (fun c142 => ?_) (fun c142 => ?_)
                      · have hf := x_ip c142 hf
                        refine lv_iload C.x C.b dX11_act_150 (lv_at hl 0 rfl) ?_
                        refine W.widen (k := 12) (n := 169) (Nat.le_of_ble_eq_true rfl) (Nat.le_of_ble_eq_true rfl) ?_
                        rw [x_e1 hf, x_e2 hf]
                        exact x_iret C hr hW dX11_act_152
                      · have hf := x_in c142 hf
                        refine lv_bipush (v := (-15)) C.x C.b dX11_act_145 (by decide) ?_
                        refine lv_goto (tgt := 152) C.x C.b dX11_act_147 rfl ?_
                        refine W.widen (k := 12) (n := 169) (Nat.le_of_ble_eq_true rfl) (Nat.le_of_ble_eq_true rfl) ?_
                        rw [x_e1 hf, x_e2 hf]
                        exact x_iret C hr hW dX11_act_152
                    · have hf := x_in hk7 hf
                      by_cases hk8 : M64_18.k a132_94 = 8
                      · have hf := x_ip hk8 hf
                        obtain ⟨_, hk132_111, hf⟩ := x_b1 hf
                        obtain ⟨x132_112, M132_113, hx132_112, hf⟩ := x_b2 hf
                        refine x_callU (owner := "NylonLadder$Plain") (x := ⟨"NylonLadder$Plain", "tells", "(I)I"⟩) (As := [.int p3]) (a := a132_94) (rest := []) C hW hl (qX4_tells_k8 l E hx132_112) (x_gk hk132_111) (by decide) (by decide) rfl gu_X11_346_8 rfl hdo_X11_346 rfl rfl (Nat.le_of_ble_eq_true rfl) dX11_act_132 ⟨Nat.le_of_ble_eq_true rfl, Nat.le_of_ble_eq_true rfl⟩ ⟨Nat.le_of_ble_eq_true rfl, Nat.le_of_ble_eq_true rfl⟩ (fun H locs hW => ?_)
                        refine lv_istore (lv' := [(6, .int _), (5, .ref (E.b + _)), (4, .ref (E.b + _)), (0, .ref (E.b + _)), (1, .int _), (2, .int _), (3, .int _)]) C.x C.b dX11_act_135 hl (by decide) rfl (fun ls hl => ?_)
                        refine lv_aload C.x C.b dX11_act_137 (lv_at hl 1 rfl) ?_
                        obtain ⟨x139_114, hx139_114, hf⟩ := x_b1 hf
                        refine x_geti C hW fg_X11_349_8 hx139_114 dX11_act_139 ?_
                        refine lv_if_eq (tgt := 150) C.x C.b dX11_act_142 rfl (fun c142 => ?_) (fun c142 => ?_)
                        · have hf := x_ip c142 hf
                          refine lv_iload C.x C.b dX11_act_150 (lv_at hl 0 rfl) ?_
                          refine W.widen (k := 12) (n := 169) (Nat.le_of_ble_eq_true rfl) (Nat.le_of_ble_eq_true rfl) ?_
                          rw [x_e1 hf, x_e2 hf]
                          exact x_iret C hr hW dX11_act_152
                        · have hf := x_in c142 hf
                          refine lv_bipush (v := (-15)) C.x C.b dX11_act_145 (by decide) ?_
                          refine lv_goto (tgt := 152) C.x C.b dX11_act_147 rfl ?_
                          refine W.widen (k := 12) (n := 169) (Nat.le_of_ble_eq_true rfl) (Nat.le_of_ble_eq_true rfl) ?_
                          rw [x_e1 hf, x_e2 hf]
                          exact x_iret C hr hW dX11_act_152
                      · have hf := x_in hk8 hf
                        by_cases hk12 : M64_18.k a132_94 = 12
                        · have hf := x_ip hk12 hf
                          obtain ⟨_, hk132_115, hf⟩ := x_b1 hf
                          obtain ⟨x132_116, M132_117, hx132_116, hf⟩ := x_b2 hf
                          refine x_callO (owner := "NylonLadder$Plain") (x := ⟨"NylonLadder$Plain", "tells", "(I)I"⟩) (As := [.int p3]) (a := a132_94) (rest := []) C hW hl (qX9_tells_k12 l E hx132_116) (x_gk hk132_115) (by decide) (by decide) rfl gu_X11_346_12 T_5_225 hdo_X11_346 rfl rfl (Nat.le_of_ble_eq_true rfl) dX11_act_132 ⟨Nat.le_of_ble_eq_true rfl, Nat.le_of_ble_eq_true rfl⟩ ⟨Nat.le_of_ble_eq_true rfl, Nat.le_of_ble_eq_true rfl⟩ (fun H locs hW => ?_)
                          refine lv_istore (lv' := [(6, .int _), (5, .ref (E.b + _)), (4, .ref (E.b + _)), (0, .ref (E.b + _)), (1, .int _), (2, .int _), (3, .int _)]) C.x C.b dX11_act_135 hl (by decide) rfl (fun ls hl => ?_)
                          refine lv_aload C.x C.b dX11_act_137 (lv_at hl 1 rfl) ?_
                          obtain ⟨x139_118, hx139_118, hf⟩ := x_b1 hf
                          refine x_geti C hW fg_X11_349_12 hx139_118 dX11_act_139 ?_
                          refine lv_if_eq (tgt := 150) C.x C.b dX11_act_142 rfl (fun c142 => ?_) (fun c142 => ?_)
                          · have hf := x_ip c142 hf
                            refine lv_iload C.x C.b dX11_act_150 (lv_at hl 0 rfl) ?_
                            refine W.widen (k := 12) (n := 169) (Nat.le_of_ble_eq_true rfl) (Nat.le_of_ble_eq_true rfl) ?_
                            rw [x_e1 hf, x_e2 hf]
                            exact x_iret C hr hW dX11_act_152
                          · have hf := x_in c142 hf
                            refine lv_bipush (v := (-15)) C.x C.b dX11_act_145 (by decide) ?_
                            refine lv_goto (tgt := 152) C.x C.b dX11_act_147 rfl ?_
                            refine W.widen (k := 12) (n := 169) (Nat.le_of_ble_eq_true rfl) (Nat.le_of_ble_eq_true rfl) ?_
                            rw [x_e1 hf, x_e2 hf]
                            exact x_iret C hr hW dX11_act_152
                        · have hf := x_in hk12 hf
                          cases hf
    · have hf := x_ip c20 hf
      refine lv_iconst (v := 0) C.x C.b dX11_act_23 (by decide) ?_
      refine W.widen (k := 12) (n := 169) (Nat.le_of_ble_eq_true rfl) (Nat.le_of_ble_eq_true rfl) ?_
      rw [x_e1 hf, x_e2 hf]
      exact x_iret C hr hW dX11_act_24

theorem dJx4a65c_size_8abf5_0 : decode cJx4a65c_size_8abf5 0 = .ok (.aload_n 0, 1) := by decide +kernel
theorem dJx4a65c_size_8abf5_1 : decode cJx4a65c_size_8abf5 1 = .ok (.getfield 48, 3) := by decide +kernel
theorem dJx4a65c_size_8abf5_4 : decode cJx4a65c_size_8abf5 4 = .ok (.ireturn, 1) := by decide +kernel
def fJx4a65c_size_8abf5 (M : Mm) (o : Nat) : Option Int32 :=
  B1 (rdI M o 2 2) fun x1_1 =>
  some x1_1
set_option maxRecDepth 100000 in
set_option maxHeartbeats 4000000 in
theorem qJx4a65c_size_8abf5 (l : Launch) (E : Ev) {M : Mm} {o : Nat} {rz : Int32} (hf : fJx4a65c_size_8abf5 M o = some rz) : Ct l E yJx4a65c_size_8abf5 cJx4a65c_size_8abf5 1 (some .int) 0 0 0 0 [.ref (E.b + o)] M (some (.int rz)) M := by
  refine ct_of (by decide +kernel) (Nat.le_of_ble_eq_true rfl) fun p e s m args below meth c C hr hin hW ls hl => ?_
  have hl : lv_has ls 1 [(0, .ref (E.b + o))] := hl
  unfold fJx4a65c_size_8abf5 at hf
  refine lv_aload_n C.x C.b dJx4a65c_size_8abf5_0 rfl (lv_at hl 0 rfl) ?_
  obtain ⟨x1_1, hx1_1, hf⟩ := x_b1 hf
  refine x_lgeti C hW hx1_1 (by decide) T_1_219 (Or.inl rfl) dJx4a65c_size_8abf5_1 ?_
  rw [x_e0 hf]
  exact x_iret C hr hW dJx4a65c_size_8abf5_4

theorem dX11_bodiesKept_0 : decode cX11_bodiesKept 0 = .ok (.bipush 30, 2) := by decide +kernel
theorem dX11_bodiesKept_2 : decode cX11_bodiesKept 2 = .ok (.aload_n 0, 1) := by decide +kernel
theorem dX11_bodiesKept_3 : decode cX11_bodiesKept 3 = .ok (.getfield 65, 3) := by decide +kernel
theorem dX11_bodiesKept_6 : decode cX11_bodiesKept 6 = .ok (.invokevirtual 373, 3) := by decide +kernel
theorem dX11_bodiesKept_9 : decode cX11_bodiesKept 9 = .ok (.invokestatic 304, 3) := by decide +kernel
theorem dX11_bodiesKept_12 : decode cX11_bodiesKept 12 = .ok (.ireturn, 1) := by decide +kernel
theorem hd_Jx4a65c_size_8abf5 : yJx4a65c_size_8abf5.cls ≠ "java/lang/invoke/MethodHandle" ∧ yJx4a65c_size_8abf5.cls ≠ "java/lang/invoke/VarHandle" ∧ (parseMethodDescriptor yJx4a65c_size_8abf5.desc).map (fun d => d.parameters.length) = some 0 := by decide +kernel
theorem gv_X11_373 : GoodIn gT (wsV "NylonLadder" 373 "java/util/ArrayList" yJx4a65c_size_8abf5 (Cond.code yJx4a65c_size_8abf5 cJx4a65c_size_8abf5 1 (some .int) :: gT)) := good_V T_5_235 T_5_236 T_5_237 T_1_9 T_5_238
def fX11_bodiesKept (M : Mm) (o : Nat) : Option Int32 :=
  B1 (rdN M o 14 11) fun a3_1 =>
  B1 (gk M a3_1 2) fun _ =>
  B1 (fJx4a65c_size_8abf5 M a3_1) fun x6_3 =>
  some (mnI 30 x6_3)
set_option maxRecDepth 100000 in
set_option maxHeartbeats 4000000 in
theorem qX11_bodiesKept (l : Launch) (E : Ev) {M : Mm} {o : Nat} {rz : Int32} (hf : fX11_bodiesKept M o = some rz) : Ct l E yX11_bodiesKept cX11_bodiesKept 1 (some .int) 1 20 0 0 [.ref (E.b + o)] M (some (.int rz)) M := by
  refine ct_of (by decide +kernel) (Nat.le_of_ble_eq_true rfl) fun p e s m args below meth c C hr hin hW ls hl => ?_
  have hl : lv_has ls 1 [(0, .ref (E.b + o))] := hl
  unfold fX11_bodiesKept at hf
  refine lv_bipush (v := 30) C.x C.b dX11_bodiesKept_0 (by decide) ?_
  refine lv_aload_n C.x C.b dX11_bodiesKept_2 rfl (lv_at hl 0 rfl) ?_
  obtain ⟨a3_1, ha3_1, hf⟩ := x_b1 hf
  refine x_getn C hW fg_X11_65_14 ha3_1 dX11_bodiesKept_3 ?_
  obtain ⟨_, hk6_2, hf⟩ := x_b1 hf
  obtain ⟨x6_3, hx6_3, hf⟩ := x_b1 hf
  refine x_callV (As := []) (a := a3_1) (rest := [.int 30]) C hW hl (qJx4a65c_size_8abf5 l E hx6_3) (x_gk hk6_2) (by decide) (by decide) rfl gv_X11_373 ⟨rfl, hd_Jx4a65c_size_8abf5⟩ rfl rfl (Nat.le_of_ble_eq_true rfl) dX11_bodiesKept_6 ⟨Nat.le_of_ble_eq_true rfl, Nat.le_of_ble_eq_true rfl⟩ ⟨Nat.le_of_ble_eq_true rfl, Nat.le_of_ble_eq_true rfl⟩ (fun H locs hW => ?_)
  refine x_mmin C hl T_4_135 T_3_160 T_1_15 T_3_161 (Nat.le_of_ble_eq_true rfl) (Nat.le_of_ble_eq_true rfl) ⟨Nat.le_of_ble_eq_true rfl, Nat.le_of_ble_eq_true rfl⟩ dX11_bodiesKept_9 ?_
  rw [x_e0 hf]
  exact x_iret C hr hW dX11_bodiesKept_12
