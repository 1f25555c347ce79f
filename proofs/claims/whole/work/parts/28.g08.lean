theorem dX0_ladders_0 : decode cX0_ladders 0 = .ok (.iconst 0, 1) := by decide +kernel
theorem dX0_ladders_1 : decode cX0_ladders 1 = .ok (.istore_n 1, 1) := by decide +kernel
theorem dX0_ladders_2 : decode cX0_ladders 2 = .ok (.iconst 0, 1) := by decide +kernel
theorem dX0_ladders_3 : decode cX0_ladders 3 = .ok (.istore_n 2, 1) := by decide +kernel
theorem dX0_ladders_4 : decode cX0_ladders 4 = .ok (.iload_n 2, 1) := by decide +kernel
theorem dX0_ladders_5 : decode cX0_ladders 5 = .ok (.aload_n 0, 1) := by decide +kernel
theorem dX0_ladders_6 : decode cX0_ladders 6 = .ok (.getfield 21, 3) := by decide +kernel
theorem dX0_ladders_9 : decode cX0_ladders 9 = .ok (.if_icmp .ge 29, 3) := by decide +kernel
theorem dX0_ladders_12 : decode cX0_ladders 12 = .ok (.iload_n 1, 1) := by decide +kernel
theorem dX0_ladders_13 : decode cX0_ladders 13 = .ok (.aload_n 0, 1) := by decide +kernel
theorem dX0_ladders_14 : decode cX0_ladders 14 = .ok (.getfield 17, 3) := by decide +kernel
theorem dX0_ladders_17 : decode cX0_ladders 17 = .ok (.iload_n 2, 1) := by decide +kernel
theorem dX0_ladders_18 : decode cX0_ladders 18 = .ok (.aaload, 1) := by decide +kernel
theorem dX0_ladders_19 : decode cX0_ladders 19 = .ok (.invokevirtual 117, 3) := by decide +kernel
theorem dX0_ladders_22 : decode cX0_ladders 22 = .ok (.ifCond .eq 7, 3) := by decide +kernel
theorem dX0_ladders_25 : decode cX0_ladders 25 = .ok (.iconst 1, 1) := by decide +kernel
theorem dX0_ladders_26 : decode cX0_ladders 26 = .ok (.goto 4, 3) := by decide +kernel
theorem dX0_ladders_29 : decode cX0_ladders 29 = .ok (.iconst 0, 1) := by decide +kernel
theorem dX0_ladders_30 : decode cX0_ladders 30 = .ok (.iadd, 1) := by decide +kernel
theorem dX0_ladders_31 : decode cX0_ladders 31 = .ok (.istore_n 1, 1) := by decide +kernel
theorem dX0_ladders_32 : decode cX0_ladders 32 = .ok (.iinc 2 1, 3) := by decide +kernel
theorem dX0_ladders_35 : decode cX0_ladders 35 = .ok (.goto (-31), 3) := by decide +kernel
theorem dX0_ladders_38 : decode cX0_ladders 38 = .ok (.iload_n 1, 1) := by decide +kernel
theorem dX0_ladders_39 : decode cX0_ladders 39 = .ok (.ireturn, 1) := by decide +kernel
theorem gv_X0_117 : GoodIn gT (wsV "NylonLadder$Drawer" 117 "NylonLadder$Stocking" yX7_hasLadder (Cond.code yX7_hasLadder cX7_hasLadder 1 (some .boolean) :: gT)) := good_V T_6_24 T_3_36 T_3_37 T_1_4 T_3_38
def fX0_ladders_L4 (M : Mm) (o : Nat) : Nat → Int32 → Int32 → Option Int32
  | 0, _, _ => none
  | n + 1, v1, v2 =>
    B1 (rdI M o 3 2) fun x6_1 =>
    if x6_1 ≤ v2 then
      some v1
    else
      B1 (rdN M o 3 1) fun a14_2 =>
      B1 (alN M a14_2 23 v2) fun a18_3 =>
      B1 (gk M a18_3 10) fun _ =>
      B1 (fX7_hasLadder M a18_3) fun x19_5 =>
      if x19_5 = 0 then
        fX0_ladders_L4 M o n (v1 + 0) (v2 + 1)
      else
        fX0_ladders_L4 M o n (v1 + 1) (v2 + 1)
def fX0_ladders (M : Mm) (o : Nat) : Option Int32 :=
  fX0_ladders_L4 M o FL 0 0
set_option maxRecDepth 100000 in
set_option maxHeartbeats 4000000 in
theorem kX0_ladders_L4 {l : Launch} {E : Ev} {p : Program} {e : Env} {s : State} {m : MethodId} {args : Array Value} {below : List Frame} {meth : Method} {c : Code} (C : Cx E p s m args meth c cX0_ladders yX0_ladders.cls 3) (hr : meth.sig.returnType = (some .int)) (hin : yX0_ladders.name = "<init>" → meth.name = "<init>") {M : Mm}  {o : Nat} {rz : Int32} : ∀ (n : Nat) (v1 : Int32) (v2 : Int32), fX0_ladders_L4 M o n v1 v2 = some rz → ∀ (H : Heap) (locs : List Loc) (ls : Array Slot), Wx E s H locs M → lv_has ls 3 [(0, .ref (E.b + o)), (1, .int v1), (2, .int v2)] → W p l e (rM 1 20 0 0) s m args below meth c H locs 0 0 (MQ below (Qp E (some (.int rz)) M) args s 0 0 E.A) (F0 m 4 ls []) := by
  intro n
  induction n with
  | zero =>
    intro v1 v2 hf
    unfold fX0_ladders_L4 at hf
    cases hf
  | succ n ih =>
    intro v1 v2 hf H locs ls hW hl
    unfold fX0_ladders_L4 at hf
    refine lv_iload_n C.x C.b dX0_ladders_4 rfl (lv_at hl 2 rfl) ?_
    refine lv_aload_n C.x C.b dX0_ladders_5 rfl (lv_at hl 0 rfl) ?_
    replace hf := x_b1 hf; obtain ⟨x6_1, hx6_1, hf⟩ := hf
    refine x_geti C hW fg_X0_21_3 hx6_1 dX0_ladders_6 ?_
    refine lv_icmp_ge (tgt := 38) C.x C.b dX0_ladders_9 rfl (fun c9 => ?_) (fun c9 => ?_)
    · replace hf := x_ip c9 hf
      refine lv_iload_n C.x C.b dX0_ladders_38 rfl (lv_at hl 1 rfl) ?_
      rw [x_e0 hf]
      exact x_iret C hr hW dX0_ladders_39
    · replace hf := x_in c9 hf
      refine lv_iload_n C.x C.b dX0_ladders_12 rfl (lv_at hl 1 rfl) ?_
      refine lv_aload_n C.x C.b dX0_ladders_13 rfl (lv_at hl 0 rfl) ?_
      replace hf := x_b1 hf; obtain ⟨a14_2, ha14_2, hf⟩ := hf
      refine x_getn C hW fg_X0_17_3 ha14_2 dX0_ladders_14 ?_
      refine lv_iload_n C.x C.b dX0_ladders_17 rfl (lv_at hl 2 rfl) ?_
      replace hf := x_b1 hf; obtain ⟨a18_3, ha18_3, hf⟩ := hf
      refine x_aldn C hW (kd := 23) (by decide) (by decide) ha18_3 dX0_ladders_18 ?_
      replace hf := x_b1 hf; obtain ⟨_, hk19_4, hf⟩ := hf
      replace hf := x_b1 hf; obtain ⟨x19_5, hx19_5, hf⟩ := hf
      refine x_callV (As := []) (a := a18_3) (rest := [.int v1]) C hW hl (qX7_hasLadder l E hx19_5) (x_gk hk19_4) (by decide) (by decide) rfl gv_X0_117 ⟨rfl, hd_X7_hasLadder⟩ rfl rfl (Nat.le_of_ble_eq_true rfl) dX0_ladders_19 ⟨Nat.le_of_ble_eq_true rfl, Nat.le_of_ble_eq_true rfl⟩ ⟨Nat.le_of_ble_eq_true rfl, Nat.le_of_ble_eq_true rfl⟩ (fun H locs hW => ?_)
      refine lv_if_eq (tgt := 29) C.x C.b dX0_ladders_22 rfl (fun c22 => ?_) (fun c22 => ?_)
      · replace hf := x_ip c22 hf
        refine lv_iconst (v := 0) C.x C.b dX0_ladders_29 (by decide) ?_
        refine lv_iadd C.x C.b dX0_ladders_30 ?_
        refine lv_istore_n (lv' := [(1, .int _), (0, .ref (E.b + _)), (2, .int _)]) C.x C.b dX0_ladders_31 rfl hl (by decide) rfl (fun ls hl => ?_)
        refine lv_iinc (v := (v2 + 1)) (lv' := [(2, .int (v2 + 1)), (1, .int _), (0, .ref (E.b + _))]) C.x C.b dX0_ladders_32 hl (k := 2) rfl (by first | rfl | decide) (by decide) rfl (fun ls hl => ?_)
        refine lv_goto (tgt := 4) C.x C.b dX0_ladders_35 rfl ?_
        exact ih (v1 + 0) (v2 + 1) hf _ _ _ hW (lv_sub hl [2, 1, 0] rfl)
      · replace hf := x_in c22 hf
        refine lv_iconst (v := 1) C.x C.b dX0_ladders_25 (by decide) ?_
        refine lv_goto (tgt := 30) C.x C.b dX0_ladders_26 rfl ?_
        refine lv_iadd C.x C.b dX0_ladders_30 ?_
        refine lv_istore_n (lv' := [(1, .int _), (0, .ref (E.b + _)), (2, .int _)]) C.x C.b dX0_ladders_31 rfl hl (by decide) rfl (fun ls hl => ?_)
        refine lv_iinc (v := (v2 + 1)) (lv' := [(2, .int (v2 + 1)), (1, .int _), (0, .ref (E.b + _))]) C.x C.b dX0_ladders_32 hl (k := 2) rfl (by first | rfl | decide) (by decide) rfl (fun ls hl => ?_)
        refine lv_goto (tgt := 4) C.x C.b dX0_ladders_35 rfl ?_
        exact ih (v1 + 1) (v2 + 1) hf _ _ _ hW (lv_sub hl [2, 1, 0] rfl)
set_option maxRecDepth 100000 in
set_option maxHeartbeats 4000000 in
theorem qX0_ladders (l : Launch) (E : Ev) {M : Mm} {o : Nat} {rz : Int32} (hf : fX0_ladders M o = some rz) : Ct l E yX0_ladders cX0_ladders 3 (some .int) 1 20 0 0 [.ref (E.b + o)] M (some (.int rz)) M := by
  refine ct_of (by decide +kernel) (Nat.le_of_ble_eq_true rfl) fun p e s m args below meth c C hr hin hW ls hl => ?_
  have hl : lv_has ls 3 [(0, .ref (E.b + o))] := hl
  unfold fX0_ladders at hf
  refine lv_iconst (v := 0) C.x C.b dX0_ladders_0 (by decide) ?_
  refine lv_istore_n (lv' := [(1, .int _), (0, .ref (E.b + _))]) C.x C.b dX0_ladders_1 rfl hl (by decide) rfl (fun ls hl => ?_)
  refine lv_iconst (v := 0) C.x C.b dX0_ladders_2 (by decide) ?_
  refine lv_istore_n (lv' := [(2, .int _), (1, .int _), (0, .ref (E.b + _))]) C.x C.b dX0_ladders_3 rfl hl (by decide) rfl (fun ls hl => ?_)
  exact kX0_ladders_L4 C hr hin FL 0 0 hf _ _ _ hW (lv_sub hl [2, 1, 0] rfl)

theorem dX0_dabsOfAll_0 : decode cX0_dabsOfAll 0 = .ok (.iconst 0, 1) := by decide +kernel
theorem dX0_dabsOfAll_1 : decode cX0_dabsOfAll 1 = .ok (.istore_n 1, 1) := by decide +kernel
theorem dX0_dabsOfAll_2 : decode cX0_dabsOfAll 2 = .ok (.iconst 0, 1) := by decide +kernel
theorem dX0_dabsOfAll_3 : decode cX0_dabsOfAll 3 = .ok (.istore_n 2, 1) := by decide +kernel
theorem dX0_dabsOfAll_4 : decode cX0_dabsOfAll 4 = .ok (.iload_n 2, 1) := by decide +kernel
theorem dX0_dabsOfAll_5 : decode cX0_dabsOfAll 5 = .ok (.aload_n 0, 1) := by decide +kernel
theorem dX0_dabsOfAll_6 : decode cX0_dabsOfAll 6 = .ok (.getfield 21, 3) := by decide +kernel
theorem dX0_dabsOfAll_9 : decode cX0_dabsOfAll 9 = .ok (.if_icmp .ge 21, 3) := by decide +kernel
theorem dX0_dabsOfAll_12 : decode cX0_dabsOfAll 12 = .ok (.iload_n 1, 1) := by decide +kernel
theorem dX0_dabsOfAll_13 : decode cX0_dabsOfAll 13 = .ok (.aload_n 0, 1) := by decide +kernel
theorem dX0_dabsOfAll_14 : decode cX0_dabsOfAll 14 = .ok (.getfield 17, 3) := by decide +kernel
theorem dX0_dabsOfAll_17 : decode cX0_dabsOfAll 17 = .ok (.iload_n 2, 1) := by decide +kernel
theorem dX0_dabsOfAll_18 : decode cX0_dabsOfAll 18 = .ok (.aaload, 1) := by decide +kernel
theorem dX0_dabsOfAll_19 : decode cX0_dabsOfAll 19 = .ok (.getfield 120, 3) := by decide +kernel
theorem dX0_dabsOfAll_22 : decode cX0_dabsOfAll 22 = .ok (.iadd, 1) := by decide +kernel
theorem dX0_dabsOfAll_23 : decode cX0_dabsOfAll 23 = .ok (.istore_n 1, 1) := by decide +kernel
theorem dX0_dabsOfAll_24 : decode cX0_dabsOfAll 24 = .ok (.iinc 2 1, 3) := by decide +kernel
theorem dX0_dabsOfAll_27 : decode cX0_dabsOfAll 27 = .ok (.goto (-23), 3) := by decide +kernel
theorem dX0_dabsOfAll_30 : decode cX0_dabsOfAll 30 = .ok (.iload_n 1, 1) := by decide +kernel
theorem dX0_dabsOfAll_31 : decode cX0_dabsOfAll 31 = .ok (.ireturn, 1) := by decide +kernel
theorem fg_X0_120_10 : FdG "NylonLadder$Drawer" 120 10 8 false := ⟨_, _, _, _, rfl, by decide, by decide, by decide, gxX7, by decide, T_1_98, Or.inl rfl, rfl⟩
def fX0_dabsOfAll_L4 (M : Mm) (o : Nat) : Nat → Int32 → Int32 → Option Int32
  | 0, _, _ => none
  | n + 1, v1, v2 =>
    B1 (rdI M o 3 2) fun x6_1 =>
    if x6_1 ≤ v2 then
      some v1
    else
      B1 (rdN M o 3 1) fun a14_2 =>
      B1 (alN M a14_2 23 v2) fun a18_3 =>
      B1 (rdI M a18_3 10 8) fun x19_4 =>
      fX0_dabsOfAll_L4 M o n (v1 + x19_4) (v2 + 1)
def fX0_dabsOfAll (M : Mm) (o : Nat) : Option Int32 :=
  fX0_dabsOfAll_L4 M o FL 0 0
set_option maxRecDepth 100000 in
set_option maxHeartbeats 4000000 in
theorem kX0_dabsOfAll_L4 {l : Launch} {E : Ev} {p : Program} {e : Env} {s : State} {m : MethodId} {args : Array Value} {below : List Frame} {meth : Method} {c : Code} (C : Cx E p s m args meth c cX0_dabsOfAll yX0_dabsOfAll.cls 3) (hr : meth.sig.returnType = (some .int)) (hin : yX0_dabsOfAll.name = "<init>" → meth.name = "<init>") {M : Mm}  {o : Nat} {rz : Int32} : ∀ (n : Nat) (v1 : Int32) (v2 : Int32), fX0_dabsOfAll_L4 M o n v1 v2 = some rz → ∀ (H : Heap) (locs : List Loc) (ls : Array Slot), Wx E s H locs M → lv_has ls 3 [(0, .ref (E.b + o)), (1, .int v1), (2, .int v2)] → W p l e (rM 0 0 0 0) s m args below meth c H locs 0 0 (MQ below (Qp E (some (.int rz)) M) args s 0 0 E.A) (F0 m 4 ls []) := by
  intro n
  induction n with
  | zero =>
    intro v1 v2 hf
    unfold fX0_dabsOfAll_L4 at hf
    cases hf
  | succ n ih =>
    intro v1 v2 hf H locs ls hW hl
    unfold fX0_dabsOfAll_L4 at hf
    refine lv_iload_n C.x C.b dX0_dabsOfAll_4 rfl (lv_at hl 2 rfl) ?_
    refine lv_aload_n C.x C.b dX0_dabsOfAll_5 rfl (lv_at hl 0 rfl) ?_
    replace hf := x_b1 hf; obtain ⟨x6_1, hx6_1, hf⟩ := hf
    refine x_geti C hW fg_X0_21_3 hx6_1 dX0_dabsOfAll_6 ?_
    refine lv_icmp_ge (tgt := 30) C.x C.b dX0_dabsOfAll_9 rfl (fun c9 => ?_) (fun c9 => ?_)
    · replace hf := x_ip c9 hf
      refine lv_iload_n C.x C.b dX0_dabsOfAll_30 rfl (lv_at hl 1 rfl) ?_
      rw [x_e0 hf]
      exact x_iret C hr hW dX0_dabsOfAll_31
    · replace hf := x_in c9 hf
      refine lv_iload_n C.x C.b dX0_dabsOfAll_12 rfl (lv_at hl 1 rfl) ?_
      refine lv_aload_n C.x C.b dX0_dabsOfAll_13 rfl (lv_at hl 0 rfl) ?_
      replace hf := x_b1 hf; obtain ⟨a14_2, ha14_2, hf⟩ := hf
      refine x_getn C hW fg_X0_17_3 ha14_2 dX0_dabsOfAll_14 ?_
      refine lv_iload_n C.x C.b dX0_dabsOfAll_17 rfl (lv_at hl 2 rfl) ?_
      replace hf := x_b1 hf; obtain ⟨a18_3, ha18_3, hf⟩ := hf
      refine x_aldn C hW (kd := 23) (by decide) (by decide) ha18_3 dX0_dabsOfAll_18 ?_
      replace hf := x_b1 hf; obtain ⟨x19_4, hx19_4, hf⟩ := hf
      refine x_geti C hW fg_X0_120_10 hx19_4 dX0_dabsOfAll_19 ?_
      refine lv_iadd C.x C.b dX0_dabsOfAll_22 ?_
      refine lv_istore_n (lv' := [(1, .int _), (0, .ref (E.b + _)), (2, .int _)]) C.x C.b dX0_dabsOfAll_23 rfl hl (by decide) rfl (fun ls hl => ?_)
      refine lv_iinc (v := (v2 + 1)) (lv' := [(2, .int (v2 + 1)), (1, .int _), (0, .ref (E.b + _))]) C.x C.b dX0_dabsOfAll_24 hl (k := 2) rfl (by first | rfl | decide) (by decide) rfl (fun ls hl => ?_)
      refine lv_goto (tgt := 4) C.x C.b dX0_dabsOfAll_27 rfl ?_
      exact ih (v1 + x19_4) (v2 + 1) hf _ _ _ hW (lv_sub hl [2, 1, 0] rfl)
set_option maxRecDepth 100000 in
set_option maxHeartbeats 4000000 in
theorem qX0_dabsOfAll (l : Launch) (E : Ev) {M : Mm} {o : Nat} {rz : Int32} (hf : fX0_dabsOfAll M o = some rz) : Ct l E yX0_dabsOfAll cX0_dabsOfAll 3 (some .int) 0 0 0 0 [.ref (E.b + o)] M (some (.int rz)) M := by
  refine ct_of (by decide +kernel) (Nat.le_of_ble_eq_true rfl) fun p e s m args below meth c C hr hin hW ls hl => ?_
  have hl : lv_has ls 3 [(0, .ref (E.b + o))] := hl
  unfold fX0_dabsOfAll at hf
  refine lv_iconst (v := 0) C.x C.b dX0_dabsOfAll_0 (by decide) ?_
  refine lv_istore_n (lv' := [(1, .int _), (0, .ref (E.b + _))]) C.x C.b dX0_dabsOfAll_1 rfl hl (by decide) rfl (fun ls hl => ?_)
  refine lv_iconst (v := 0) C.x C.b dX0_dabsOfAll_2 (by decide) ?_
  refine lv_istore_n (lv' := [(2, .int _), (1, .int _), (0, .ref (E.b + _))]) C.x C.b dX0_dabsOfAll_3 rfl hl (by decide) rfl (fun ls hl => ?_)
  exact kX0_dabsOfAll_L4 C hr hin FL 0 0 hf _ _ _ hW (lv_sub hl [2, 1, 0] rfl)

theorem dX0_draw_0 : decode cX0_draw 0 = .ok (.aload_n 0, 1) := by decide +kernel
theorem dX0_draw_1 : decode cX0_draw 1 = .ok (.aload_n 0, 1) := by decide +kernel
theorem dX0_draw_2 : decode cX0_draw 2 = .ok (.getfield 35, 3) := by decide +kernel
theorem dX0_draw_5 : decode cX0_draw 5 = .ok (.ldc 123, 2) := by decide +kernel
theorem dX0_draw_7 : decode cX0_draw 7 = .ok (.imul, 1) := by decide +kernel
theorem dX0_draw_8 : decode cX0_draw 8 = .ok (.sipush 12345, 3) := by decide +kernel
theorem dX0_draw_11 : decode cX0_draw 11 = .ok (.iadd, 1) := by decide +kernel
theorem dX0_draw_12 : decode cX0_draw 12 = .ok (.putfield 35, 3) := by decide +kernel
theorem dX0_draw_15 : decode cX0_draw 15 = .ok (.aload_n 0, 1) := by decide +kernel
theorem dX0_draw_16 : decode cX0_draw 16 = .ok (.getfield 35, 3) := by decide +kernel
theorem dX0_draw_19 : decode cX0_draw 19 = .ok (.bipush 16, 2) := by decide +kernel
theorem dX0_draw_21 : decode cX0_draw 21 = .ok (.iushr, 1) := by decide +kernel
theorem dX0_draw_22 : decode cX0_draw 22 = .ok (.ireturn, 1) := by decide +kernel
def fX0_draw (M : Mm) (o : Nat) : Option (Int32 × Mm) :=
  B1 (rdI M o 3 5) fun x2_1 =>
  B1 (wrI M o 3 5 ((x2_1 * 1103515245) + 12345)) fun M12_2 =>
  B1 (rdI M12_2 o 3 5) fun x16_3 =>
  some ((ushI x16_3 16), M12_2)
set_option maxRecDepth 100000 in
set_option maxHeartbeats 4000000 in
theorem qX0_draw (l : Launch) (E : Ev) {M : Mm} {o : Nat} {rz : Int32} {Mz : Mm} (hf : fX0_draw M o = some (rz, Mz)) : Ct l E yX0_draw cX0_draw 1 (some .int) 0 0 0 0 [.ref (E.b + o)] M (some (.int rz)) Mz := by
  refine ct_of (by decide +kernel) (Nat.le_of_ble_eq_true rfl) fun p e s m args below meth c C hr hin hW ls hl => ?_
  have hl : lv_has ls 1 [(0, .ref (E.b + o))] := hl
  unfold fX0_draw at hf
  refine lv_aload_n C.x C.b dX0_draw_0 rfl (lv_at hl 0 rfl) ?_
  refine lv_aload_n C.x C.b dX0_draw_1 rfl (lv_at hl 0 rfl) ?_
  replace hf := x_b1 hf; obtain ⟨x2_1, hx2_1, hf⟩ := hf
  refine x_geti C hW fg_X0_35_3 hx2_1 dX0_draw_2 ?_
  refine x_ldci (v := 1103515245) C T_4_101 dX0_draw_5 ?_
  refine lv_imul C.x C.b dX0_draw_7 ?_
  refine lv_sipush (v := 12345) C.x C.b dX0_draw_8 (by decide) ?_
  refine lv_iadd C.x C.b dX0_draw_11 ?_
  replace hf := x_b1 hf; obtain ⟨M12_2, hM12_2, hf⟩ := hf
  refine x_puti C hW fp_X0_35_3 hM12_2 (fun h => by cases h) dX0_draw_12 (fun H locs hW => ?_)
  refine lv_aload_n C.x C.b dX0_draw_15 rfl (lv_at hl 0 rfl) ?_
  replace hf := x_b1 hf; obtain ⟨x16_3, hx16_3, hf⟩ := hf
  refine x_geti C hW fg_X0_35_3 hx16_3 dX0_draw_16 ?_
  refine lv_bipush (v := 16) C.x C.b dX0_draw_19 (by decide) ?_
  refine lv_iushr (v := (ushI x16_3 16)) C.x C.b dX0_draw_21 rfl ?_
  rw [x_e1 hf, x_e2 hf]
  exact x_iret C hr hW dX0_draw_22

theorem dX0_leastPaired_0 : decode cX0_leastPaired 0 = .ok (.iconst 0, 1) := by decide +kernel
theorem dX0_leastPaired_1 : decode cX0_leastPaired 1 = .ok (.istore_n 1, 1) := by decide +kernel
theorem dX0_leastPaired_2 : decode cX0_leastPaired 2 = .ok (.iload_n 1, 1) := by decide +kernel
theorem dX0_leastPaired_3 : decode cX0_leastPaired 3 = .ok (.aload_n 0, 1) := by decide +kernel
theorem dX0_leastPaired_4 : decode cX0_leastPaired 4 = .ok (.getfield 21, 3) := by decide +kernel
theorem dX0_leastPaired_7 : decode cX0_leastPaired 7 = .ok (.if_icmp .ge 19, 3) := by decide +kernel
theorem dX0_leastPaired_10 : decode cX0_leastPaired 10 = .ok (.aload_n 0, 1) := by decide +kernel
theorem dX0_leastPaired_11 : decode cX0_leastPaired 11 = .ok (.iload_n 1, 1) := by decide +kernel
theorem dX0_leastPaired_12 : decode cX0_leastPaired 12 = .ok (.invokevirtual 127, 3) := by decide +kernel
theorem dX0_leastPaired_15 : decode cX0_leastPaired 15 = .ok (.ifCond .lt 5, 3) := by decide +kernel
theorem dX0_leastPaired_18 : decode cX0_leastPaired 18 = .ok (.iload_n 1, 1) := by decide +kernel
theorem dX0_leastPaired_19 : decode cX0_leastPaired 19 = .ok (.ireturn, 1) := by decide +kernel
theorem dX0_leastPaired_20 : decode cX0_leastPaired 20 = .ok (.iinc 1 1, 3) := by decide +kernel
theorem dX0_leastPaired_23 : decode cX0_leastPaired 23 = .ok (.goto (-21), 3) := by decide +kernel
theorem dX0_leastPaired_26 : decode cX0_leastPaired 26 = .ok (.iconst (-1), 1) := by decide +kernel
theorem dX0_leastPaired_27 : decode cX0_leastPaired 27 = .ok (.ireturn, 1) := by decide +kernel
theorem hd_X0_mateOf : yX0_mateOf.cls ≠ "java/lang/invoke/MethodHandle" ∧ yX0_mateOf.cls ≠ "java/lang/invoke/VarHandle" ∧ (parseMethodDescriptor yX0_mateOf.desc).map (fun d => d.parameters.length) = some 1 := by decide +kernel
theorem gv_X0_127 : GoodIn gT (wsV "NylonLadder$Drawer" 127 "NylonLadder$Drawer" yX0_mateOf (Cond.code yX0_mateOf cX0_mateOf 3 (some .int) :: gT)) := good_V T_4_96 T_4_48 T_4_49 T_1_2 T_4_50
def fX0_leastPaired_L2 (M : Mm) (o : Nat) : Nat → Int32 → Option Int32
  | 0, _ => none
  | n + 1, v1 =>
    B1 (rdI M o 3 2) fun x4_1 =>
    if x4_1 ≤ v1 then
      some (-1)
    else
      B1 (gk M o 3) fun _ =>
      B1 (fX0_mateOf M o v1) fun x12_3 =>
      if x12_3 < 0 then
        fX0_leastPaired_L2 M o n (v1 + 1)
      else
        some v1
def fX0_leastPaired (M : Mm) (o : Nat) : Option Int32 :=
  fX0_leastPaired_L2 M o FL 0
set_option maxRecDepth 100000 in
set_option maxHeartbeats 4000000 in
theorem kX0_leastPaired_L2 {l : Launch} {E : Ev} {p : Program} {e : Env} {s : State} {m : MethodId} {args : Array Value} {below : List Frame} {meth : Method} {c : Code} (C : Cx E p s m args meth c cX0_leastPaired yX0_leastPaired.cls 2) (hr : meth.sig.returnType = (some .int)) (hin : yX0_leastPaired.name = "<init>" → meth.name = "<init>") {M : Mm}  {o : Nat} {rz : Int32} : ∀ (n : Nat) (v1 : Int32), fX0_leastPaired_L2 M o n v1 = some rz → ∀ (H : Heap) (locs : List Loc) (ls : Array Slot), Wx E s H locs M → lv_has ls 2 [(0, .ref (E.b + o)), (1, .int v1)] → W p l e (rM 5 109 0 0) s m args below meth c H locs 0 0 (MQ below (Qp E (some (.int rz)) M) args s 0 0 E.A) (F0 m 2 ls []) := by
  intro n
  induction n with
  | zero =>
    intro v1 hf
    unfold fX0_leastPaired_L2 at hf
    cases hf
  | succ n ih =>
    intro v1 hf H locs ls hW hl
    unfold fX0_leastPaired_L2 at hf
    refine lv_iload_n C.x C.b dX0_leastPaired_2 rfl (lv_at hl 1 rfl) ?_
    refine lv_aload_n C.x C.b dX0_leastPaired_3 rfl (lv_at hl 0 rfl) ?_
    replace hf := x_b1 hf; obtain ⟨x4_1, hx4_1, hf⟩ := hf
    refine x_geti C hW fg_X0_21_3 hx4_1 dX0_leastPaired_4 ?_
    refine lv_icmp_ge (tgt := 26) C.x C.b dX0_leastPaired_7 rfl (fun c7 => ?_) (fun c7 => ?_)
    · replace hf := x_ip c7 hf
      refine lv_iconst (v := (-1)) C.x C.b dX0_leastPaired_26 (by decide) ?_
      rw [x_e0 hf]
      exact x_iret C hr hW dX0_leastPaired_27
    · replace hf := x_in c7 hf
      refine lv_aload_n C.x C.b dX0_leastPaired_10 rfl (lv_at hl 0 rfl) ?_
      refine lv_iload_n C.x C.b dX0_leastPaired_11 rfl (lv_at hl 1 rfl) ?_
      replace hf := x_b1 hf; obtain ⟨_, hk12_2, hf⟩ := hf
      replace hf := x_b1 hf; obtain ⟨x12_3, hx12_3, hf⟩ := hf
      refine x_callV (As := [.int v1]) (a := o) (rest := []) C hW hl (qX0_mateOf l E hx12_3) (x_gk hk12_2) (by decide) (by decide) rfl gv_X0_127 ⟨rfl, hd_X0_mateOf⟩ rfl rfl (Nat.le_of_ble_eq_true rfl) dX0_leastPaired_12 ⟨Nat.le_of_ble_eq_true rfl, Nat.le_of_ble_eq_true rfl⟩ ⟨Nat.le_of_ble_eq_true rfl, Nat.le_of_ble_eq_true rfl⟩ (fun H locs hW => ?_)
      refine lv_if_lt (tgt := 20) C.x C.b dX0_leastPaired_15 rfl (fun c15 => ?_) (fun c15 => ?_)
      · replace hf := x_ip c15 hf
        refine lv_iinc (v := (v1 + 1)) (lv' := [(1, .int (v1 + 1)), (0, .ref (E.b + _))]) C.x C.b dX0_leastPaired_20 hl (k := 1) rfl (by first | rfl | decide) (by decide) rfl (fun ls hl => ?_)
        refine lv_goto (tgt := 2) C.x C.b dX0_leastPaired_23 rfl ?_
        exact ih (v1 + 1) hf _ _ _ hW (lv_sub hl [1, 0] rfl)
      · replace hf := x_in c15 hf
        refine lv_iload_n C.x C.b dX0_leastPaired_18 rfl (lv_at hl 1 rfl) ?_
        rw [x_e0 hf]
        exact x_iret C hr hW dX0_leastPaired_19
set_option maxRecDepth 100000 in
set_option maxHeartbeats 4000000 in
theorem qX0_leastPaired (l : Launch) (E : Ev) {M : Mm} {o : Nat} {rz : Int32} (hf : fX0_leastPaired M o = some rz) : Ct l E yX0_leastPaired cX0_leastPaired 2 (some .int) 5 109 0 0 [.ref (E.b + o)] M (some (.int rz)) M := by
  refine ct_of (by decide +kernel) (Nat.le_of_ble_eq_true rfl) fun p e s m args below meth c C hr hin hW ls hl => ?_
  have hl : lv_has ls 2 [(0, .ref (E.b + o))] := hl
  unfold fX0_leastPaired at hf
  refine lv_iconst (v := 0) C.x C.b dX0_leastPaired_0 (by decide) ?_
  refine lv_istore_n (lv' := [(1, .int _), (0, .ref (E.b + _))]) C.x C.b dX0_leastPaired_1 rfl hl (by decide) rfl (fun ls hl => ?_)
  exact kX0_leastPaired_L2 C hr hin FL 0 hf _ _ _ hW (lv_sub hl [1, 0] rfl)

theorem dX7_dabAt_0 : decode cX7_dabAt 0 = .ok (.iconst 0, 1) := by decide +kernel
theorem dX7_dabAt_1 : decode cX7_dabAt 1 = .ok (.istore_n 2, 1) := by decide +kernel
theorem dX7_dabAt_2 : decode cX7_dabAt 2 = .ok (.iload_n 2, 1) := by decide +kernel
theorem dX7_dabAt_3 : decode cX7_dabAt 3 = .ok (.aload_n 0, 1) := by decide +kernel
theorem dX7_dabAt_4 : decode cX7_dabAt 4 = .ok (.getfield 36, 3) := by decide +kernel
theorem dX7_dabAt_7 : decode cX7_dabAt 7 = .ok (.if_icmp .ge 26, 3) := by decide +kernel
theorem dX7_dabAt_10 : decode cX7_dabAt 10 = .ok (.iload_n 2, 1) := by decide +kernel
theorem dX7_dabAt_11 : decode cX7_dabAt 11 = .ok (.iconst 2, 1) := by decide +kernel
theorem dX7_dabAt_12 : decode cX7_dabAt 12 = .ok (.if_icmp .ge 21, 3) := by decide +kernel
theorem dX7_dabAt_15 : decode cX7_dabAt 15 = .ok (.aload_n 0, 1) := by decide +kernel
theorem dX7_dabAt_16 : decode cX7_dabAt 16 = .ok (.getfield 39, 3) := by decide +kernel
theorem dX7_dabAt_19 : decode cX7_dabAt 19 = .ok (.iload_n 2, 1) := by decide +kernel
theorem dX7_dabAt_20 : decode cX7_dabAt 20 = .ok (.iaload, 1) := by decide +kernel
theorem dX7_dabAt_21 : decode cX7_dabAt 21 = .ok (.iload_n 1, 1) := by decide +kernel
theorem dX7_dabAt_22 : decode cX7_dabAt 22 = .ok (.if_icmp .ne 5, 3) := by decide +kernel
theorem dX7_dabAt_25 : decode cX7_dabAt 25 = .ok (.iload_n 2, 1) := by decide +kernel
theorem dX7_dabAt_26 : decode cX7_dabAt 26 = .ok (.ireturn, 1) := by decide +kernel
theorem dX7_dabAt_27 : decode cX7_dabAt 27 = .ok (.iinc 2 1, 3) := by decide +kernel
theorem dX7_dabAt_30 : decode cX7_dabAt 30 = .ok (.goto (-28), 3) := by decide +kernel
theorem dX7_dabAt_33 : decode cX7_dabAt 33 = .ok (.iconst (-1), 1) := by decide +kernel
theorem dX7_dabAt_34 : decode cX7_dabAt 34 = .ok (.ireturn, 1) := by decide +kernel
def fX7_dabAt_L2 (M : Mm) (o : Nat) (v1 : Int32) : Nat → Int32 → Option Int32
  | 0, _ => none
  | n + 1, v2 =>
    B1 (rdI M o 10 8) fun x4_1 =>
    if x4_1 ≤ v2 then
      some (-1)
    else
      if 2 ≤ v2 then
        some (-1)
      else
        B1 (rdN M o 10 9) fun a16_2 =>
        B1 (alI M a16_2 v2) fun x20_3 =>
        if x20_3 = v1 then
          some v2
        else
          fX7_dabAt_L2 M o v1 n (v2 + 1)
def fX7_dabAt (M : Mm) (o : Nat) (p1 : Int32) : Option Int32 :=
  fX7_dabAt_L2 M o p1 FL 0
set_option maxRecDepth 100000 in
set_option maxHeartbeats 4000000 in
theorem kX7_dabAt_L2 {l : Launch} {E : Ev} {p : Program} {e : Env} {s : State} {m : MethodId} {args : Array Value} {below : List Frame} {meth : Method} {c : Code} (C : Cx E p s m args meth c cX7_dabAt yX7_dabAt.cls 3) (hr : meth.sig.returnType = (some .int)) (hin : yX7_dabAt.name = "<init>" → meth.name = "<init>") {M : Mm}  {o : Nat} {v1 : Int32} {rz : Int32} : ∀ (n : Nat) (v2 : Int32), fX7_dabAt_L2 M o v1 n v2 = some rz → ∀ (H : Heap) (locs : List Loc) (ls : Array Slot), Wx E s H locs M → lv_has ls 3 [(0, .ref (E.b + o)), (1, .int v1), (2, .int v2)] → W p l e (rM 0 0 0 0) s m args below meth c H locs 0 0 (MQ below (Qp E (some (.int rz)) M) args s 0 0 E.A) (F0 m 2 ls []) := by
  intro n
  induction n with
  | zero =>
    intro v2 hf
    unfold fX7_dabAt_L2 at hf
    cases hf
  | succ n ih =>
    intro v2 hf H locs ls hW hl
    unfold fX7_dabAt_L2 at hf
    refine lv_iload_n C.x C.b dX7_dabAt_2 rfl (lv_at hl 2 rfl) ?_
    refine lv_aload_n C.x C.b dX7_dabAt_3 rfl (lv_at hl 0 rfl) ?_
    replace hf := x_b1 hf; obtain ⟨x4_1, hx4_1, hf⟩ := hf
    refine x_geti C hW fg_X7_36_10 hx4_1 dX7_dabAt_4 ?_
    refine lv_icmp_ge (tgt := 33) C.x C.b dX7_dabAt_7 rfl (fun c7 => ?_) (fun c7 => ?_)
    · replace hf := x_ip c7 hf
      refine lv_iconst (v := (-1)) C.x C.b dX7_dabAt_33 (by decide) ?_
      rw [x_e0 hf]
      exact x_iret C hr hW dX7_dabAt_34
    · replace hf := x_in c7 hf
      refine lv_iload_n C.x C.b dX7_dabAt_10 rfl (lv_at hl 2 rfl) ?_
      refine lv_iconst (v := 2) C.x C.b dX7_dabAt_11 (by decide) ?_
      refine lv_icmp_ge (tgt := 33) C.x C.b dX7_dabAt_12 rfl (fun c12 => ?_) (fun c12 => ?_)
      · replace hf := x_ip c12 hf
        refine lv_iconst (v := (-1)) C.x C.b dX7_dabAt_33 (by decide) ?_
        rw [x_e0 hf]
        exact x_iret C hr hW dX7_dabAt_34
      · replace hf := x_in c12 hf
        refine lv_aload_n C.x C.b dX7_dabAt_15 rfl (lv_at hl 0 rfl) ?_
        replace hf := x_b1 hf; obtain ⟨a16_2, ha16_2, hf⟩ := hf
        refine x_getn C hW fg_X7_39_10 ha16_2 dX7_dabAt_16 ?_
        refine lv_iload_n C.x C.b dX7_dabAt_19 rfl (lv_at hl 2 rfl) ?_
        replace hf := x_b1 hf; obtain ⟨x20_3, hx20_3, hf⟩ := hf
        refine x_iald C hW hx20_3 dX7_dabAt_20 ?_
        refine lv_iload_n C.x C.b dX7_dabAt_21 rfl (lv_at hl 1 rfl) ?_
        refine lv_icmp_ne (tgt := 27) C.x C.b dX7_dabAt_22 rfl (fun c22 => ?_) (fun c22 => ?_)
        · replace hf := x_in c22 hf
          refine lv_iinc (v := (v2 + 1)) (lv' := [(2, .int (v2 + 1)), (0, .ref (E.b + _)), (1, .int _)]) C.x C.b dX7_dabAt_27 hl (k := 2) rfl (by first | rfl | decide) (by decide) rfl (fun ls hl => ?_)
          refine lv_goto (tgt := 2) C.x C.b dX7_dabAt_30 rfl ?_
          exact ih (v2 + 1) hf _ _ _ hW (lv_sub hl [1, 2, 0] rfl)
        · replace hf := x_ip c22 hf
          refine lv_iload_n C.x C.b dX7_dabAt_25 rfl (lv_at hl 2 rfl) ?_
          rw [x_e0 hf]
          exact x_iret C hr hW dX7_dabAt_26
set_option maxRecDepth 100000 in
set_option maxHeartbeats 4000000 in
theorem qX7_dabAt (l : Launch) (E : Ev) {M : Mm} {o : Nat} {p1 : Int32} {rz : Int32} (hf : fX7_dabAt M o p1 = some rz) : Ct l E yX7_dabAt cX7_dabAt 3 (some .int) 0 0 0 0 [.ref (E.b + o), .int p1] M (some (.int rz)) M := by
  refine ct_of (by decide +kernel) (Nat.le_of_ble_eq_true rfl) fun p e s m args below meth c C hr hin hW ls hl => ?_
  have hl : lv_has ls 3 [(0, .ref (E.b + o)), (1, .int p1)] := hl
  unfold fX7_dabAt at hf
  refine lv_iconst (v := 0) C.x C.b dX7_dabAt_0 (by decide) ?_
  refine lv_istore_n (lv' := [(2, .int _), (0, .ref (E.b + _)), (1, .int _)]) C.x C.b dX7_dabAt_1 rfl hl (by decide) rfl (fun ls hl => ?_)
  exact kX7_dabAt_L2 C hr hin FL 0 hf _ _ _ hW (lv_sub hl [1, 2, 0] rfl)

theorem dX7_beginLadder_0 : decode cX7_beginLadder 0 = .ok (.aload_n 0, 1) := by decide +kernel
theorem dX7_beginLadder_1 : decode cX7_beginLadder 1 = .ok (.invokevirtual 59, 3) := by decide +kernel
theorem dX7_beginLadder_4 : decode cX7_beginLadder 4 = .ok (.ifCond .ne 11, 3) := by decide +kernel
theorem dX7_beginLadder_7 : decode cX7_beginLadder 7 = .ok (.aload_n 0, 1) := by decide +kernel
theorem dX7_beginLadder_8 : decode cX7_beginLadder 8 = .ok (.iload_n 1, 1) := by decide +kernel
theorem dX7_beginLadder_9 : decode cX7_beginLadder 9 = .ok (.invokevirtual 76, 3) := by decide +kernel
theorem dX7_beginLadder_12 : decode cX7_beginLadder 12 = .ok (.ifCond .lt 5, 3) := by decide +kernel
theorem dX7_beginLadder_15 : decode cX7_beginLadder 15 = .ok (.iconst 0, 1) := by decide +kernel
theorem dX7_beginLadder_16 : decode cX7_beginLadder 16 = .ok (.ireturn, 1) := by decide +kernel
theorem dX7_beginLadder_17 : decode cX7_beginLadder 17 = .ok (.aload_n 0, 1) := by decide +kernel
theorem dX7_beginLadder_18 : decode cX7_beginLadder 18 = .ok (.iload_n 1, 1) := by decide +kernel
theorem dX7_beginLadder_19 : decode cX7_beginLadder 19 = .ok (.putfield 30, 3) := by decide +kernel
theorem dX7_beginLadder_22 : decode cX7_beginLadder 22 = .ok (.aload_n 0, 1) := by decide +kernel
theorem dX7_beginLadder_23 : decode cX7_beginLadder 23 = .ok (.iload_n 1, 1) := by decide +kernel
theorem dX7_beginLadder_24 : decode cX7_beginLadder 24 = .ok (.putfield 33, 3) := by decide +kernel
theorem dX7_beginLadder_27 : decode cX7_beginLadder 27 = .ok (.iconst 1, 1) := by decide +kernel
theorem dX7_beginLadder_28 : decode cX7_beginLadder 28 = .ok (.ireturn, 1) := by decide +kernel
theorem hd_X7_dabAt : yX7_dabAt.cls ≠ "java/lang/invoke/MethodHandle" ∧ yX7_dabAt.cls ≠ "java/lang/invoke/VarHandle" ∧ (parseMethodDescriptor yX7_dabAt.desc).map (fun d => d.parameters.length) = some 1 := by decide +kernel
theorem gv_X7_76 : GoodIn gT (wsV "NylonLadder$Stocking" 76 "NylonLadder$Stocking" yX7_dabAt (Cond.code yX7_dabAt cX7_dabAt 3 (some .int) :: gT)) := good_V T_3_54 T_3_55 T_3_56 T_1_4 T_3_57
def fX7_beginLadder (M : Mm) (o : Nat) (p1 : Int32) : Option (Int32 × Mm) :=
  B1 (gk M o 10) fun _ =>
  B1 (fX7_hasLadder M o) fun x1_2 =>
  if x1_2 = 0 then
    B1 (gk M o 10) fun _ =>
    B1 (fX7_dabAt M o p1) fun x9_4 =>
    if x9_4 < 0 then
      B1 (wrI M o 10 6 p1) fun M19_5 =>
      B1 (wrI M19_5 o 10 7 p1) fun M24_6 =>
      some (1, M24_6)
    else
      some (0, M)
  else
    some (0, M)
set_option maxRecDepth 100000 in
set_option maxHeartbeats 4000000 in
theorem qX7_beginLadder (l : Launch) (E : Ev) {M : Mm} {o : Nat} {p1 : Int32} {rz : Int32} {Mz : Mm} (hf : fX7_beginLadder M o p1 = some (rz, Mz)) : Ct l E yX7_beginLadder cX7_beginLadder 2 (some .boolean) 1 22 0 0 [.ref (E.b + o), .int p1] M (some (.int rz)) Mz := by
  refine ct_of (by decide +kernel) (Nat.le_of_ble_eq_true rfl) fun p e s m args below meth c C hr hin hW ls hl => ?_
  have hl : lv_has ls 2 [(0, .ref (E.b + o)), (1, .int p1)] := hl
  unfold fX7_beginLadder at hf
  refine lv_aload_n C.x C.b dX7_beginLadder_0 rfl (lv_at hl 0 rfl) ?_
  replace hf := x_b1 hf; obtain ⟨_, hk1_1, hf⟩ := hf
  replace hf := x_b1 hf; obtain ⟨x1_2, hx1_2, hf⟩ := hf
  refine x_callV (As := []) (a := o) (rest := []) C hW hl (qX7_hasLadder l E hx1_2) (x_gk hk1_1) (by decide) (by decide) rfl gv_X7_59 ⟨rfl, hd_X7_hasLadder⟩ rfl rfl (Nat.le_of_ble_eq_true rfl) dX7_beginLadder_1 ⟨Nat.le_of_ble_eq_true rfl, Nat.le_of_ble_eq_true rfl⟩ ⟨Nat.le_of_ble_eq_true rfl, Nat.le_of_ble_eq_true rfl⟩ (fun H locs hW => ?_)
  refine lv_if_ne (tgt := 15) C.x C.b dX7_beginLadder_4 rfl (fun c4 => ?_) (fun c4 => ?_)
  · replace hf := x_in c4 hf
    refine lv_iconst (v := 0) C.x C.b dX7_beginLadder_15 (by decide) ?_
    rw [x_e1 hf, x_e2 hf]
    exact x_zret C hr hW (v := 0) (w := 0) rfl dX7_beginLadder_16
  · replace hf := x_ip c4 hf
    refine lv_aload_n C.x C.b dX7_beginLadder_7 rfl (lv_at hl 0 rfl) ?_
    refine lv_iload_n C.x C.b dX7_beginLadder_8 rfl (lv_at hl 1 rfl) ?_
    replace hf := x_b1 hf; obtain ⟨_, hk9_3, hf⟩ := hf
    replace hf := x_b1 hf; obtain ⟨x9_4, hx9_4, hf⟩ := hf
    refine x_callV (As := [.int p1]) (a := o) (rest := []) C hW hl (qX7_dabAt l E hx9_4) (x_gk hk9_3) (by decide) (by decide) rfl gv_X7_76 ⟨rfl, hd_X7_dabAt⟩ rfl rfl (Nat.le_of_ble_eq_true rfl) dX7_beginLadder_9 ⟨Nat.le_of_ble_eq_true rfl, Nat.le_of_ble_eq_true rfl⟩ ⟨Nat.le_of_ble_eq_true rfl, Nat.le_of_ble_eq_true rfl⟩ (fun H locs hW => ?_)
    refine lv_if_lt (tgt := 17) C.x C.b dX7_beginLadder_12 rfl (fun c12 => ?_) (fun c12 => ?_)
    · replace hf := x_ip c12 hf
      refine lv_aload_n C.x C.b dX7_beginLadder_17 rfl (lv_at hl 0 rfl) ?_
      refine lv_iload_n C.x C.b dX7_beginLadder_18 rfl (lv_at hl 1 rfl) ?_
      replace hf := x_b1 hf; obtain ⟨M19_5, hM19_5, hf⟩ := hf
      refine x_puti C hW fp_X7_30_10 hM19_5 (fun h => by cases h) dX7_beginLadder_19 (fun H locs hW => ?_)
      refine lv_aload_n C.x C.b dX7_beginLadder_22 rfl (lv_at hl 0 rfl) ?_
      refine lv_iload_n C.x C.b dX7_beginLadder_23 rfl (lv_at hl 1 rfl) ?_
      replace hf := x_b1 hf; obtain ⟨M24_6, hM24_6, hf⟩ := hf
      refine x_puti C hW fp_X7_33_10 hM24_6 (fun h => by cases h) dX7_beginLadder_24 (fun H locs hW => ?_)
      refine lv_iconst (v := 1) C.x C.b dX7_beginLadder_27 (by decide) ?_
      rw [x_e1 hf, x_e2 hf]
      exact x_zret C hr hW (v := 1) (w := 1) rfl dX7_beginLadder_28
    · replace hf := x_in c12 hf
      refine lv_iconst (v := 0) C.x C.b dX7_beginLadder_15 (by decide) ?_
      rw [x_e1 hf, x_e2 hf]
      exact x_zret C hr hW (v := 0) (w := 0) rfl dX7_beginLadder_16

theorem dX0_liveADay_0 : decode cX0_liveADay 0 = .ok (.aload_n 0, 1) := by decide +kernel
theorem dX0_liveADay_1 : decode cX0_liveADay 1 = .ok (.invokevirtual 124, 3) := by decide +kernel
theorem dX0_liveADay_4 : decode cX0_liveADay 4 = .ok (.istore_n 1, 1) := by decide +kernel
theorem dX0_liveADay_5 : decode cX0_liveADay 5 = .ok (.aload_n 0, 1) := by decide +kernel
theorem dX0_liveADay_6 : decode cX0_liveADay 6 = .ok (.iload_n 1, 1) := by decide +kernel
theorem dX0_liveADay_7 : decode cX0_liveADay 7 = .ok (.invokevirtual 127, 3) := by decide +kernel
theorem dX0_liveADay_10 : decode cX0_liveADay 10 = .ok (.istore_n 2, 1) := by decide +kernel
theorem dX0_liveADay_11 : decode cX0_liveADay 11 = .ok (.iload_n 1, 1) := by decide +kernel
theorem dX0_liveADay_12 : decode cX0_liveADay 12 = .ok (.ifCond .lt 7, 3) := by decide +kernel
theorem dX0_liveADay_15 : decode cX0_liveADay 15 = .ok (.iload_n 2, 1) := by decide +kernel
theorem dX0_liveADay_16 : decode cX0_liveADay 16 = .ok (.ifCond .ge 5, 3) := by decide +kernel
theorem dX0_liveADay_19 : decode cX0_liveADay 19 = .ok (.iconst 0, 1) := by decide +kernel
theorem dX0_liveADay_20 : decode cX0_liveADay 20 = .ok (.ireturn, 1) := by decide +kernel
theorem dX0_liveADay_21 : decode cX0_liveADay 21 = .ok (.aload_n 0, 1) := by decide +kernel
theorem dX0_liveADay_22 : decode cX0_liveADay 22 = .ok (.getfield 25, 3) := by decide +kernel
theorem dX0_liveADay_25 : decode cX0_liveADay 25 = .ok (.iconst 0, 1) := by decide +kernel
theorem dX0_liveADay_26 : decode cX0_liveADay 26 = .ok (.iload_n 1, 1) := by decide +kernel
theorem dX0_liveADay_27 : decode cX0_liveADay 27 = .ok (.iastore, 1) := by decide +kernel
theorem dX0_liveADay_28 : decode cX0_liveADay 28 = .ok (.aload_n 0, 1) := by decide +kernel
theorem dX0_liveADay_29 : decode cX0_liveADay 29 = .ok (.getfield 25, 3) := by decide +kernel
theorem dX0_liveADay_32 : decode cX0_liveADay 32 = .ok (.iconst 1, 1) := by decide +kernel
theorem dX0_liveADay_33 : decode cX0_liveADay 33 = .ok (.iload_n 2, 1) := by decide +kernel
theorem dX0_liveADay_34 : decode cX0_liveADay 34 = .ok (.iastore, 1) := by decide +kernel
theorem dX0_liveADay_35 : decode cX0_liveADay 35 = .ok (.aload_n 0, 1) := by decide +kernel
theorem dX0_liveADay_36 : decode cX0_liveADay 36 = .ok (.invokevirtual 130, 3) := by decide +kernel
theorem dX0_liveADay_39 : decode cX0_liveADay 39 = .ok (.bipush 10, 2) := by decide +kernel
theorem dX0_liveADay_41 : decode cX0_liveADay 41 = .ok (.irem, 1) := by decide +kernel
theorem dX0_liveADay_42 : decode cX0_liveADay 42 = .ok (.aload_n 0, 1) := by decide +kernel
theorem dX0_liveADay_43 : decode cX0_liveADay 43 = .ok (.getfield 9, 3) := by decide +kernel
theorem dX0_liveADay_46 : decode cX0_liveADay 46 = .ok (.bipush 7, 2) := by decide +kernel
theorem dX0_liveADay_48 : decode cX0_liveADay 48 = .ok (.iaload, 1) := by decide +kernel
theorem dX0_liveADay_49 : decode cX0_liveADay 49 = .ok (.if_icmp .ge 20, 3) := by decide +kernel
theorem dX0_liveADay_52 : decode cX0_liveADay 52 = .ok (.aload_n 0, 1) := by decide +kernel
theorem dX0_liveADay_53 : decode cX0_liveADay 53 = .ok (.getfield 17, 3) := by decide +kernel
theorem dX0_liveADay_56 : decode cX0_liveADay 56 = .ok (.iload_n 1, 1) := by decide +kernel
theorem dX0_liveADay_57 : decode cX0_liveADay 57 = .ok (.aaload, 1) := by decide +kernel
theorem dX0_liveADay_58 : decode cX0_liveADay 58 = .ok (.aload_n 0, 1) := by decide +kernel
theorem dX0_liveADay_59 : decode cX0_liveADay 59 = .ok (.invokevirtual 130, 3) := by decide +kernel
theorem dX0_liveADay_62 : decode cX0_liveADay 62 = .ok (.bipush 100, 2) := by decide +kernel
theorem dX0_liveADay_64 : decode cX0_liveADay 64 = .ok (.irem, 1) := by decide +kernel
theorem dX0_liveADay_65 : decode cX0_liveADay 65 = .ok (.invokevirtual 133, 3) := by decide +kernel
theorem dX0_liveADay_68 : decode cX0_liveADay 68 = .ok (.pop, 1) := by decide +kernel
theorem dX0_liveADay_69 : decode cX0_liveADay 69 = .ok (.aload_n 0, 1) := by decide +kernel
theorem dX0_liveADay_70 : decode cX0_liveADay 70 = .ok (.aload_n 0, 1) := by decide +kernel
theorem dX0_liveADay_71 : decode cX0_liveADay 71 = .ok (.getfield 31, 3) := by decide +kernel
theorem dX0_liveADay_74 : decode cX0_liveADay 74 = .ok (.iconst 0, 1) := by decide +kernel
theorem dX0_liveADay_75 : decode cX0_liveADay 75 = .ok (.aaload, 1) := by decide +kernel
theorem dX0_liveADay_76 : decode cX0_liveADay 76 = .ok (.iconst 0, 1) := by decide +kernel
theorem dX0_liveADay_77 : decode cX0_liveADay 77 = .ok (.aload_n 0, 1) := by decide +kernel
theorem dX0_liveADay_78 : decode cX0_liveADay 78 = .ok (.getfield 31, 3) := by decide +kernel
theorem dX0_liveADay_81 : decode cX0_liveADay 81 = .ok (.iconst 0, 1) := by decide +kernel
theorem dX0_liveADay_82 : decode cX0_liveADay 82 = .ok (.aaload, 1) := by decide +kernel
theorem dX0_liveADay_83 : decode cX0_liveADay 83 = .ok (.getfield 51, 3) := by decide +kernel
theorem dX0_liveADay_86 : decode cX0_liveADay 86 = .ok (.invokevirtual 136, 3) := by decide +kernel
theorem dX0_liveADay_89 : decode cX0_liveADay 89 = .ok (.aload_n 0, 1) := by decide +kernel
theorem dX0_liveADay_90 : decode cX0_liveADay 90 = .ok (.getfield 17, 3) := by decide +kernel
theorem dX0_liveADay_93 : decode cX0_liveADay 93 = .ok (.iload_n 1, 1) := by decide +kernel
theorem dX0_liveADay_94 : decode cX0_liveADay 94 = .ok (.aaload, 1) := by decide +kernel
theorem dX0_liveADay_95 : decode cX0_liveADay 95 = .ok (.dup, 1) := by decide +kernel
theorem dX0_liveADay_96 : decode cX0_liveADay 96 = .ok (.getfield 139, 3) := by decide +kernel
theorem dX0_liveADay_99 : decode cX0_liveADay 99 = .ok (.iconst 1, 1) := by decide +kernel
theorem dX0_liveADay_100 : decode cX0_liveADay 100 = .ok (.iadd, 1) := by decide +kernel
theorem dX0_liveADay_101 : decode cX0_liveADay 101 = .ok (.putfield 139, 3) := by decide +kernel
theorem dX0_liveADay_104 : decode cX0_liveADay 104 = .ok (.aload_n 0, 1) := by decide +kernel
theorem dX0_liveADay_105 : decode cX0_liveADay 105 = .ok (.getfield 17, 3) := by decide +kernel
theorem dX0_liveADay_108 : decode cX0_liveADay 108 = .ok (.iload_n 2, 1) := by decide +kernel
theorem dX0_liveADay_109 : decode cX0_liveADay 109 = .ok (.aaload, 1) := by decide +kernel
theorem dX0_liveADay_110 : decode cX0_liveADay 110 = .ok (.dup, 1) := by decide +kernel
theorem dX0_liveADay_111 : decode cX0_liveADay 111 = .ok (.getfield 139, 3) := by decide +kernel
theorem dX0_liveADay_114 : decode cX0_liveADay 114 = .ok (.iconst 1, 1) := by decide +kernel
theorem dX0_liveADay_115 : decode cX0_liveADay 115 = .ok (.iadd, 1) := by decide +kernel
theorem dX0_liveADay_116 : decode cX0_liveADay 116 = .ok (.putfield 139, 3) := by decide +kernel
theorem dX0_liveADay_119 : decode cX0_liveADay 119 = .ok (.aload_n 0, 1) := by decide +kernel
theorem dX0_liveADay_120 : decode cX0_liveADay 120 = .ok (.invokevirtual 48, 3) := by decide +kernel
theorem dX0_liveADay_123 : decode cX0_liveADay 123 = .ok (.iconst 1, 1) := by decide +kernel
theorem dX0_liveADay_124 : decode cX0_liveADay 124 = .ok (.ireturn, 1) := by decide +kernel
theorem hd_X0_leastPaired : yX0_leastPaired.cls ≠ "java/lang/invoke/MethodHandle" ∧ yX0_leastPaired.cls ≠ "java/lang/invoke/VarHandle" ∧ (parseMethodDescriptor yX0_leastPaired.desc).map (fun d => d.parameters.length) = some 0 := by decide +kernel
theorem gv_X0_124 : GoodIn gT (wsV "NylonLadder$Drawer" 124 "NylonLadder$Drawer" yX0_leastPaired (Cond.code yX0_leastPaired cX0_leastPaired 2 (some .int) :: gT)) := good_V T_4_92 T_4_94 TS_25 T_1_2 T_4_95
theorem hd_X0_draw : yX0_draw.cls ≠ "java/lang/invoke/MethodHandle" ∧ yX0_draw.cls ≠ "java/lang/invoke/VarHandle" ∧ (parseMethodDescriptor yX0_draw.desc).map (fun d => d.parameters.length) = some 0 := by decide +kernel
theorem gv_X0_130 : GoodIn gT (wsV "NylonLadder$Drawer" 130 "NylonLadder$Drawer" yX0_draw (Cond.code yX0_draw cX0_draw 1 (some .int) :: gT)) := good_V T_4_97 T_4_98 T_4_99 T_1_2 T_4_100
theorem fg_X0_51_13 : FdG "NylonLadder$Drawer" 51 13 0 false := ⟨_, _, _, _, rfl, by decide, by decide, by decide, gxX10, by decide, T_1_53, Or.inl rfl, rfl⟩
theorem hd_X0_passWay : yX0_passWay.cls ≠ "java/lang/invoke/MethodHandle" ∧ yX0_passWay.cls ≠ "java/lang/invoke/VarHandle" ∧ (parseMethodDescriptor yX0_passWay.desc).map (fun d => d.parameters.length) = some 3 := by decide +kernel
theorem gv_X0_136 : GoodIn gT (wsV "NylonLadder$Drawer" 136 "NylonLadder$Drawer" yX0_passWay (Cond.code yX0_passWay cX0_passWay 6 none :: gT)) := good_V T_4_103 T_3_181 T_3_182 T_1_2 T_3_183
theorem fg_X0_139_10 : FdG "NylonLadder$Drawer" 139 10 4 false := ⟨_, _, _, _, rfl, by decide, by decide, by decide, gxX7, by decide, T_1_87, Or.inl rfl, rfl⟩
theorem fp_X0_139_10 : FdP "NylonLadder$Drawer" 139 10 4 false .int false := ⟨_, _, _, _, _, rfl, by decide, by decide, by decide, gxX7, by decide, T_1_87, Or.inl rfl, rfl, tyX7_ok, nmX7, by decide +kernel, rfl, fun h => by cases h⟩
theorem hd_X7_beginLadder : yX7_beginLadder.cls ≠ "java/lang/invoke/MethodHandle" ∧ yX7_beginLadder.cls ≠ "java/lang/invoke/VarHandle" ∧ (parseMethodDescriptor yX7_beginLadder.desc).map (fun d => d.parameters.length) = some 1 := by decide +kernel
theorem gv_X0_133 : GoodIn gT (wsV "NylonLadder$Drawer" 133 "NylonLadder$Stocking" yX7_beginLadder (Cond.code yX7_beginLadder cX7_beginLadder 2 (some .boolean) :: gT)) := good_V T_4_102 T_3_51 T_3_52 T_1_4 T_3_53
def fX0_liveADay (M : Mm) (o : Nat) : Option (Int32 × Mm) :=
  B1 (gk M o 3) fun _ =>
  B1 (fX0_leastPaired M o) fun x1_2 =>
  B1 (gk M o 3) fun _ =>
  B1 (fX0_mateOf M o x1_2) fun x7_4 =>
  if x1_2 < 0 then
    some (0, M)
  else
    if 0 ≤ x7_4 then
      B1 (rdN M o 3 3) fun a22_5 =>
      B1 (asI M a22_5 0 x1_2) fun M27_6 =>
      B1 (rdN M27_6 o 3 3) fun a29_7 =>
      B1 (asI M27_6 a29_7 1 x7_4) fun M34_8 =>
      B1 (gk M34_8 o 3) fun _ =>
      B2 (fX0_draw M34_8 o) fun x36_10 M36_11 =>
      B1 (rdN M36_11 o 3 0) fun a43_12 =>
      B1 (alI M36_11 a43_12 7) fun x48_13 =>
      if x48_13 ≤ (x36_10 - x36_10 / 10 * 10) then
        B1 (rdN M36_11 o 3 4) fun a71_14 =>
        B1 (alN M36_11 a71_14 24 0) fun a75_15 =>
        B1 (rdN M36_11 o 3 4) fun a78_16 =>
        B1 (alN M36_11 a78_16 24 0) fun a82_17 =>
        B1 (rdI M36_11 a82_17 13 0) fun x83_18 =>
        B1 (gk M36_11 o 3) fun _ =>
        B1 (fX0_passWay M36_11 o a75_15 0 x83_18) fun M86_20 =>
        B1 (rdN M86_20 o 3 1) fun a90_21 =>
        B1 (alN M86_20 a90_21 23 x1_2) fun a94_22 =>
        B1 (rdI M86_20 a94_22 10 4) fun x96_23 =>
        B1 (wrI M86_20 a94_22 10 4 (x96_23 + 1)) fun M101_24 =>
        B1 (rdN M101_24 o 3 1) fun a105_25 =>
        B1 (alN M101_24 a105_25 23 x7_4) fun a109_26 =>
        B1 (rdI M101_24 a109_26 10 4) fun x111_27 =>
        B1 (wrI M101_24 a109_26 10 4 (x111_27 + 1)) fun M116_28 =>
        B1 (gk M116_28 o 3) fun _ =>
        B1 (fX0_takeOff M116_28 o) fun M120_30 =>
        some (1, M120_30)
      else
        B1 (rdN M36_11 o 3 1) fun a53_31 =>
        B1 (alN M36_11 a53_31 23 x1_2) fun a57_32 =>
        B1 (gk M36_11 o 3) fun _ =>
        B2 (fX0_draw M36_11 o) fun x59_34 M59_35 =>
        B1 (gk M59_35 a57_32 10) fun _ =>
        B2 (fX7_beginLadder M59_35 a57_32 (x59_34 - x59_34 / 100 * 100)) fun x65_37 M65_38 =>
        B1 (rdN M65_38 o 3 4) fun a71_39 =>
        B1 (alN M65_38 a71_39 24 0) fun a75_40 =>
        B1 (rdN M65_38 o 3 4) fun a78_41 =>
        B1 (alN M65_38 a78_41 24 0) fun a82_42 =>
        B1 (rdI M65_38 a82_42 13 0) fun x83_43 =>
        B1 (gk M65_38 o 3) fun _ =>
        B1 (fX0_passWay M65_38 o a75_40 0 x83_43) fun M86_45 =>
        B1 (rdN M86_45 o 3 1) fun a90_46 =>
        B1 (alN M86_45 a90_46 23 x1_2) fun a94_47 =>
        B1 (rdI M86_45 a94_47 10 4) fun x96_48 =>
        B1 (wrI M86_45 a94_47 10 4 (x96_48 + 1)) fun M101_49 =>
        B1 (rdN M101_49 o 3 1) fun a105_50 =>
        B1 (alN M101_49 a105_50 23 x7_4) fun a109_51 =>
        B1 (rdI M101_49 a109_51 10 4) fun x111_52 =>
        B1 (wrI M101_49 a109_51 10 4 (x111_52 + 1)) fun M116_53 =>
        B1 (gk M116_53 o 3) fun _ =>
        B1 (fX0_takeOff M116_53 o) fun M120_55 =>
        some (1, M120_55)
    else
      some (0, M)
set_option maxRecDepth 100000 in
set_option maxHeartbeats 4000000 in
theorem qX0_liveADay (l : Launch) (E : Ev) {M : Mm} {o : Nat} {rz : Int32} {Mz : Mm} (hf : fX0_liveADay M o = some (rz, Mz)) : Ct l E yX0_liveADay cX0_liveADay 3 (some .boolean) 6 138 0 0 [.ref (E.b + o)] M (some (.int rz)) Mz := by
  refine ct_of (by decide +kernel) (Nat.le_of_ble_eq_true rfl) fun p e s m args below meth c C hr hin hW ls hl => ?_
  have hl : lv_has ls 3 [(0, .ref (E.b + o))] := hl
  unfold fX0_liveADay at hf
  refine lv_aload_n C.x C.b dX0_liveADay_0 rfl (lv_at hl 0 rfl) ?_
  replace hf := x_b1 hf; obtain ⟨_, hk1_1, hf⟩ := hf
  replace hf := x_b1 hf; obtain ⟨x1_2, hx1_2, hf⟩ := hf
  refine x_callV (As := []) (a := o) (rest := []) C hW hl (qX0_leastPaired l E hx1_2) (x_gk hk1_1) (by decide) (by decide) rfl gv_X0_124 ⟨rfl, hd_X0_leastPaired⟩ rfl rfl (Nat.le_of_ble_eq_true rfl) dX0_liveADay_1 ⟨Nat.le_of_ble_eq_true rfl, Nat.le_of_ble_eq_true rfl⟩ ⟨Nat.le_of_ble_eq_true rfl, Nat.le_of_ble_eq_true rfl⟩ (fun H locs hW => ?_)
  refine lv_istore_n (lv' := [(1, .int _), (0, .ref (E.b + _))]) C.x C.b dX0_liveADay_4 rfl hl (by decide) rfl (fun ls hl => ?_)
  refine lv_aload_n C.x C.b dX0_liveADay_5 rfl (lv_at hl 1 rfl) ?_
  refine lv_iload_n C.x C.b dX0_liveADay_6 rfl (lv_at hl 0 rfl) ?_
  replace hf := x_b1 hf; obtain ⟨_, hk7_3, hf⟩ := hf
  replace hf := x_b1 hf; obtain ⟨x7_4, hx7_4, hf⟩ := hf
  refine x_callV (As := [.int x1_2]) (a := o) (rest := []) C hW hl (qX0_mateOf l E hx7_4) (x_gk hk7_3) (by decide) (by decide) rfl gv_X0_127 ⟨rfl, hd_X0_mateOf⟩ rfl rfl (Nat.le_of_ble_eq_true rfl) dX0_liveADay_7 ⟨Nat.le_of_ble_eq_true rfl, Nat.le_of_ble_eq_true rfl⟩ ⟨Nat.le_of_ble_eq_true rfl, Nat.le_of_ble_eq_true rfl⟩ (fun H locs hW => ?_)
  refine lv_istore_n (lv' := [(2, .int _), (1, .int _), (0, .ref (E.b + _))]) C.x C.b dX0_liveADay_10 rfl hl (by decide) rfl (fun ls hl => ?_)
  refine lv_iload_n C.x C.b dX0_liveADay_11 rfl (lv_at hl 1 rfl) ?_
  refine lv_if_lt (tgt := 19) C.x C.b dX0_liveADay_12 rfl (fun c12 => ?_) (fun c12 => ?_)
  · replace hf := x_ip c12 hf
    refine lv_iconst (v := 0) C.x C.b dX0_liveADay_19 (by decide) ?_
    rw [x_e1 hf, x_e2 hf]
    exact x_zret C hr hW (v := 0) (w := 0) rfl dX0_liveADay_20
  · replace hf := x_in c12 hf
    refine lv_iload_n C.x C.b dX0_liveADay_15 rfl (lv_at hl 0 rfl) ?_
    refine lv_if_ge (tgt := 21) C.x C.b dX0_liveADay_16 rfl (fun c16 => ?_) (fun c16 => ?_)
    · replace hf := x_ip c16 hf
      refine lv_aload_n C.x C.b dX0_liveADay_21 rfl (lv_at hl 2 rfl) ?_
      replace hf := x_b1 hf; obtain ⟨a22_5, ha22_5, hf⟩ := hf
      refine x_getn C hW fg_X0_25_3 ha22_5 dX0_liveADay_22 ?_
      refine lv_iconst (v := 0) C.x C.b dX0_liveADay_25 (by decide) ?_
      refine lv_iload_n C.x C.b dX0_liveADay_26 rfl (lv_at hl 1 rfl) ?_
      replace hf := x_b1 hf; obtain ⟨M27_6, hM27_6, hf⟩ := hf
      refine x_iast C hW hM27_6 dX0_liveADay_27 (fun H locs hW => ?_)
      refine lv_aload_n C.x C.b dX0_liveADay_28 rfl (lv_at hl 2 rfl) ?_
      replace hf := x_b1 hf; obtain ⟨a29_7, ha29_7, hf⟩ := hf
      refine x_getn C hW fg_X0_25_3 ha29_7 dX0_liveADay_29 ?_
      refine lv_iconst (v := 1) C.x C.b dX0_liveADay_32 (by decide) ?_
      refine lv_iload_n C.x C.b dX0_liveADay_33 rfl (lv_at hl 0 rfl) ?_
      replace hf := x_b1 hf; obtain ⟨M34_8, hM34_8, hf⟩ := hf
      refine x_iast C hW hM34_8 dX0_liveADay_34 (fun H locs hW => ?_)
      refine lv_aload_n C.x C.b dX0_liveADay_35 rfl (lv_at hl 2 rfl) ?_
      replace hf := x_b1 hf; obtain ⟨_, hk36_9, hf⟩ := hf
      replace hf := x_b2 hf; obtain ⟨x36_10, M36_11, hx36_10, hf⟩ := hf
      refine x_callV (As := []) (a := o) (rest := []) C hW hl (qX0_draw l E hx36_10) (x_gk hk36_9) (by decide) (by decide) rfl gv_X0_130 ⟨rfl, hd_X0_draw⟩ rfl rfl (Nat.le_of_ble_eq_true rfl) dX0_liveADay_36 ⟨Nat.le_of_ble_eq_true rfl, Nat.le_of_ble_eq_true rfl⟩ ⟨Nat.le_of_ble_eq_true rfl, Nat.le_of_ble_eq_true rfl⟩ (fun H locs hW => ?_)
      refine lv_bipush (v := 10) C.x C.b dX0_liveADay_39 (by decide) ?_
      refine lv_irem C.x C.b dX0_liveADay_41 (by decide) ?_
      refine lv_aload_n C.x C.b dX0_liveADay_42 rfl (lv_at hl 2 rfl) ?_
      replace hf := x_b1 hf; obtain ⟨a43_12, ha43_12, hf⟩ := hf
      refine x_getn C hW fg_X0_9_3 ha43_12 dX0_liveADay_43 ?_
      refine lv_bipush (v := 7) C.x C.b dX0_liveADay_46 (by decide) ?_
      replace hf := x_b1 hf; obtain ⟨x48_13, hx48_13, hf⟩ := hf
      refine x_iald C hW hx48_13 dX0_liveADay_48 ?_
      refine lv_icmp_ge (tgt := 69) C.x C.b dX0_liveADay_49 rfl (fun c49 => ?_) (fun c49 => ?_)
      · replace hf := x_ip c49 hf
        refine lv_aload_n C.x C.b dX0_liveADay_69 rfl (lv_at hl 2 rfl) ?_
        refine lv_aload_n C.x C.b dX0_liveADay_70 rfl (lv_at hl 2 rfl) ?_
        replace hf := x_b1 hf; obtain ⟨a71_14, ha71_14, hf⟩ := hf
        refine x_getn C hW fg_X0_31_3 ha71_14 dX0_liveADay_71 ?_
        refine lv_iconst (v := 0) C.x C.b dX0_liveADay_74 (by decide) ?_
        replace hf := x_b1 hf; obtain ⟨a75_15, ha75_15, hf⟩ := hf
        refine x_aldn C hW (kd := 24) (by decide) (by decide) ha75_15 dX0_liveADay_75 ?_
        refine lv_iconst (v := 0) C.x C.b dX0_liveADay_76 (by decide) ?_
        refine lv_aload_n C.x C.b dX0_liveADay_77 rfl (lv_at hl 2 rfl) ?_
        replace hf := x_b1 hf; obtain ⟨a78_16, ha78_16, hf⟩ := hf
        refine x_getn C hW fg_X0_31_3 ha78_16 dX0_liveADay_78 ?_
        refine lv_iconst (v := 0) C.x C.b dX0_liveADay_81 (by decide) ?_
        replace hf := x_b1 hf; obtain ⟨a82_17, ha82_17, hf⟩ := hf
        refine x_aldn C hW (kd := 24) (by decide) (by decide) ha82_17 dX0_liveADay_82 ?_
        replace hf := x_b1 hf; obtain ⟨x83_18, hx83_18, hf⟩ := hf
        refine x_geti C hW fg_X0_51_13 hx83_18 dX0_liveADay_83 ?_
        replace hf := x_b1 hf; obtain ⟨_, hk86_19, hf⟩ := hf
        replace hf := x_b1 hf; obtain ⟨M86_20, hM86_20, hf⟩ := hf
        refine x_callV (As := [.ref (E.b + a75_15), .int 0, .int x83_18]) (a := o) (rest := []) C hW hl (qX0_passWay l E hM86_20) (x_gk hk86_19) (by decide) (by decide) rfl gv_X0_136 ⟨rfl, hd_X0_passWay⟩ rfl rfl (Nat.le_of_ble_eq_true rfl) dX0_liveADay_86 ⟨Nat.le_of_ble_eq_true rfl, Nat.le_of_ble_eq_true rfl⟩ ⟨Nat.le_of_ble_eq_true rfl, Nat.le_of_ble_eq_true rfl⟩ (fun H locs hW => ?_)
        refine lv_aload_n C.x C.b dX0_liveADay_89 rfl (lv_at hl 2 rfl) ?_
        replace hf := x_b1 hf; obtain ⟨a90_21, ha90_21, hf⟩ := hf
        refine x_getn C hW fg_X0_17_3 ha90_21 dX0_liveADay_90 ?_
        refine lv_iload_n C.x C.b dX0_liveADay_93 rfl (lv_at hl 1 rfl) ?_
        replace hf := x_b1 hf; obtain ⟨a94_22, ha94_22, hf⟩ := hf
        refine x_aldn C hW (kd := 23) (by decide) (by decide) ha94_22 dX0_liveADay_94 ?_
        refine lv_dup C.x C.b dX0_liveADay_95 rfl ?_
        replace hf := x_b1 hf; obtain ⟨x96_23, hx96_23, hf⟩ := hf
        refine x_geti C hW fg_X0_139_10 hx96_23 dX0_liveADay_96 ?_
        refine lv_iconst (v := 1) C.x C.b dX0_liveADay_99 (by decide) ?_
        refine lv_iadd C.x C.b dX0_liveADay_100 ?_
        replace hf := x_b1 hf; obtain ⟨M101_24, hM101_24, hf⟩ := hf
        refine x_puti C hW fp_X0_139_10 hM101_24 (fun h => by cases h) dX0_liveADay_101 (fun H locs hW => ?_)
        refine lv_aload_n C.x C.b dX0_liveADay_104 rfl (lv_at hl 2 rfl) ?_
        replace hf := x_b1 hf; obtain ⟨a105_25, ha105_25, hf⟩ := hf
        refine x_getn C hW fg_X0_17_3 ha105_25 dX0_liveADay_105 ?_
        refine lv_iload_n C.x C.b dX0_liveADay_108 rfl (lv_at hl 0 rfl) ?_
        replace hf := x_b1 hf; obtain ⟨a109_26, ha109_26, hf⟩ := hf
        refine x_aldn C hW (kd := 23) (by decide) (by decide) ha109_26 dX0_liveADay_109 ?_
        refine lv_dup C.x C.b dX0_liveADay_110 rfl ?_
        replace hf := x_b1 hf; obtain ⟨x111_27, hx111_27, hf⟩ := hf
        refine x_geti C hW fg_X0_139_10 hx111_27 dX0_liveADay_111 ?_
        refine lv_iconst (v := 1) C.x C.b dX0_liveADay_114 (by decide) ?_
        refine lv_iadd C.x C.b dX0_liveADay_115 ?_
        replace hf := x_b1 hf; obtain ⟨M116_28, hM116_28, hf⟩ := hf
        refine x_puti C hW fp_X0_139_10 hM116_28 (fun h => by cases h) dX0_liveADay_116 (fun H locs hW => ?_)
        refine lv_aload_n C.x C.b dX0_liveADay_119 rfl (lv_at hl 2 rfl) ?_
        replace hf := x_b1 hf; obtain ⟨_, hk120_29, hf⟩ := hf
        replace hf := x_b1 hf; obtain ⟨M120_30, hM120_30, hf⟩ := hf
        refine x_callV (As := []) (a := o) (rest := []) C hW hl (qX0_takeOff l E hM120_30) (x_gk hk120_29) (by decide) (by decide) rfl gv_X0_48 ⟨rfl, hd_X0_takeOff⟩ rfl rfl (Nat.le_of_ble_eq_true rfl) dX0_liveADay_120 ⟨Nat.le_of_ble_eq_true rfl, Nat.le_of_ble_eq_true rfl⟩ ⟨Nat.le_of_ble_eq_true rfl, Nat.le_of_ble_eq_true rfl⟩ (fun H locs hW => ?_)
        refine lv_iconst (v := 1) C.x C.b dX0_liveADay_123 (by decide) ?_
        rw [x_e1 hf, x_e2 hf]
        exact x_zret C hr hW (v := 1) (w := 1) rfl dX0_liveADay_124
      · replace hf := x_in c49 hf
        refine lv_aload_n C.x C.b dX0_liveADay_52 rfl (lv_at hl 2 rfl) ?_
        replace hf := x_b1 hf; obtain ⟨a53_31, ha53_31, hf⟩ := hf
        refine x_getn C hW fg_X0_17_3 ha53_31 dX0_liveADay_53 ?_
        refine lv_iload_n C.x C.b dX0_liveADay_56 rfl (lv_at hl 1 rfl) ?_
        replace hf := x_b1 hf; obtain ⟨a57_32, ha57_32, hf⟩ := hf
        refine x_aldn C hW (kd := 23) (by decide) (by decide) ha57_32 dX0_liveADay_57 ?_
        refine lv_aload_n C.x C.b dX0_liveADay_58 rfl (lv_at hl 2 rfl) ?_
        replace hf := x_b1 hf; obtain ⟨_, hk59_33, hf⟩ := hf
        replace hf := x_b2 hf; obtain ⟨x59_34, M59_35, hx59_34, hf⟩ := hf
        refine x_callV (As := []) (a := o) (rest := [.ref (E.b + a57_32)]) C hW hl (qX0_draw l E hx59_34) (x_gk hk59_33) (by decide) (by decide) rfl gv_X0_130 ⟨rfl, hd_X0_draw⟩ rfl rfl (Nat.le_of_ble_eq_true rfl) dX0_liveADay_59 ⟨Nat.le_of_ble_eq_true rfl, Nat.le_of_ble_eq_true rfl⟩ ⟨Nat.le_of_ble_eq_true rfl, Nat.le_of_ble_eq_true rfl⟩ (fun H locs hW => ?_)
        refine lv_bipush (v := 100) C.x C.b dX0_liveADay_62 (by decide) ?_
        refine lv_irem C.x C.b dX0_liveADay_64 (by decide) ?_
        replace hf := x_b1 hf; obtain ⟨_, hk65_36, hf⟩ := hf
        replace hf := x_b2 hf; obtain ⟨x65_37, M65_38, hx65_37, hf⟩ := hf
        refine x_callV (As := [.int (x59_34 - x59_34 / 100 * 100)]) (a := a57_32) (rest := []) C hW hl (qX7_beginLadder l E hx65_37) (x_gk hk65_36) (by decide) (by decide) rfl gv_X0_133 ⟨rfl, hd_X7_beginLadder⟩ rfl rfl (Nat.le_of_ble_eq_true rfl) dX0_liveADay_65 ⟨Nat.le_of_ble_eq_true rfl, Nat.le_of_ble_eq_true rfl⟩ ⟨Nat.le_of_ble_eq_true rfl, Nat.le_of_ble_eq_true rfl⟩ (fun H locs hW => ?_)
        refine lv_pop C.x C.b dX0_liveADay_68 rfl ?_
        refine lv_aload_n C.x C.b dX0_liveADay_69 rfl (lv_at hl 2 rfl) ?_
        refine lv_aload_n C.x C.b dX0_liveADay_70 rfl (lv_at hl 2 rfl) ?_
        replace hf := x_b1 hf; obtain ⟨a71_39, ha71_39, hf⟩ := hf
        refine x_getn C hW fg_X0_31_3 ha71_39 dX0_liveADay_71 ?_
        refine lv_iconst (v := 0) C.x C.b dX0_liveADay_74 (by decide) ?_
        replace hf := x_b1 hf; obtain ⟨a75_40, ha75_40, hf⟩ := hf
        refine x_aldn C hW (kd := 24) (by decide) (by decide) ha75_40 dX0_liveADay_75 ?_
        refine lv_iconst (v := 0) C.x C.b dX0_liveADay_76 (by decide) ?_
        refine lv_aload_n C.x C.b dX0_liveADay_77 rfl (lv_at hl 2 rfl) ?_
        replace hf := x_b1 hf; obtain ⟨a78_41, ha78_41, hf⟩ := hf
        refine x_getn C hW fg_X0_31_3 ha78_41 dX0_liveADay_78 ?_
        refine lv_iconst (v := 0) C.x C.b dX0_liveADay_81 (by decide) ?_
        replace hf := x_b1 hf; obtain ⟨a82_42, ha82_42, hf⟩ := hf
        refine x_aldn C hW (kd := 24) (by decide) (by decide) ha82_42 dX0_liveADay_82 ?_
        replace hf := x_b1 hf; obtain ⟨x83_43, hx83_43, hf⟩ := hf
        refine x_geti C hW fg_X0_51_13 hx83_43 dX0_liveADay_83 ?_
        replace hf := x_b1 hf; obtain ⟨_, hk86_44, hf⟩ := hf
        replace hf := x_b1 hf; obtain ⟨M86_45, hM86_45, hf⟩ := hf
        refine x_callV (As := [.ref (E.b + a75_40), .int 0, .int x83_43]) (a := o) (rest := []) C hW hl (qX0_passWay l E hM86_45) (x_gk hk86_44) (by decide) (by decide) rfl gv_X0_136 ⟨rfl, hd_X0_passWay⟩ rfl rfl (Nat.le_of_ble_eq_true rfl) dX0_liveADay_86 ⟨Nat.le_of_ble_eq_true rfl, Nat.le_of_ble_eq_true rfl⟩ ⟨Nat.le_of_ble_eq_true rfl, Nat.le_of_ble_eq_true rfl⟩ (fun H locs hW => ?_)
        refine lv_aload_n C.x C.b dX0_liveADay_89 rfl (lv_at hl 2 rfl) ?_
        replace hf := x_b1 hf; obtain ⟨a90_46, ha90_46, hf⟩ := hf
        refine x_getn C hW fg_X0_17_3 ha90_46 dX0_liveADay_90 ?_
        refine lv_iload_n C.x C.b dX0_liveADay_93 rfl (lv_at hl 1 rfl) ?_
        replace hf := x_b1 hf; obtain ⟨a94_47, ha94_47, hf⟩ := hf
        refine x_aldn C hW (kd := 23) (by decide) (by decide) ha94_47 dX0_liveADay_94 ?_
        refine lv_dup C.x C.b dX0_liveADay_95 rfl ?_
        replace hf := x_b1 hf; obtain ⟨x96_48, hx96_48, hf⟩ := hf
        refine x_geti C hW fg_X0_139_10 hx96_48 dX0_liveADay_96 ?_
        refine lv_iconst (v := 1) C.x C.b dX0_liveADay_99 (by decide) ?_
        refine lv_iadd C.x C.b dX0_liveADay_100 ?_
        replace hf := x_b1 hf; obtain ⟨M101_49, hM101_49, hf⟩ := hf
        refine x_puti C hW fp_X0_139_10 hM101_49 (fun h => by cases h) dX0_liveADay_101 (fun H locs hW => ?_)
        refine lv_aload_n C.x C.b dX0_liveADay_104 rfl (lv_at hl 2 rfl) ?_
        replace hf := x_b1 hf; obtain ⟨a105_50, ha105_50, hf⟩ := hf
        refine x_getn C hW fg_X0_17_3 ha105_50 dX0_liveADay_105 ?_
        refine lv_iload_n C.x C.b dX0_liveADay_108 rfl (lv_at hl 0 rfl) ?_
        replace hf := x_b1 hf; obtain ⟨a109_51, ha109_51, hf⟩ := hf
        refine x_aldn C hW (kd := 23) (by decide) (by decide) ha109_51 dX0_liveADay_109 ?_
        refine lv_dup C.x C.b dX0_liveADay_110 rfl ?_
        replace hf := x_b1 hf; obtain ⟨x111_52, hx111_52, hf⟩ := hf
        refine x_geti C hW fg_X0_139_10 hx111_52 dX0_liveADay_111 ?_
        refine lv_iconst (v := 1) C.x C.b dX0_liveADay_114 (by decide) ?_
        refine lv_iadd C.x C.b dX0_liveADay_115 ?_
        replace hf := x_b1 hf; obtain ⟨M116_53, hM116_53, hf⟩ := hf
        refine x_puti C hW fp_X0_139_10 hM116_53 (fun h => by cases h) dX0_liveADay_116 (fun H locs hW => ?_)
        refine lv_aload_n C.x C.b dX0_liveADay_119 rfl (lv_at hl 2 rfl) ?_
        replace hf := x_b1 hf; obtain ⟨_, hk120_54, hf⟩ := hf
        replace hf := x_b1 hf; obtain ⟨M120_55, hM120_55, hf⟩ := hf
        refine x_callV (As := []) (a := o) (rest := []) C hW hl (qX0_takeOff l E hM120_55) (x_gk hk120_54) (by decide) (by decide) rfl gv_X0_48 ⟨rfl, hd_X0_takeOff⟩ rfl rfl (Nat.le_of_ble_eq_true rfl) dX0_liveADay_120 ⟨Nat.le_of_ble_eq_true rfl, Nat.le_of_ble_eq_true rfl⟩ ⟨Nat.le_of_ble_eq_true rfl, Nat.le_of_ble_eq_true rfl⟩ (fun H locs hW => ?_)
        refine lv_iconst (v := 1) C.x C.b dX0_liveADay_123 (by decide) ?_
        rw [x_e1 hf, x_e2 hf]
        exact x_zret C hr hW (v := 1) (w := 1) rfl dX0_liveADay_124
    · replace hf := x_in c16 hf
      refine lv_iconst (v := 0) C.x C.b dX0_liveADay_19 (by decide) ?_
      rw [x_e1 hf, x_e2 hf]
      exact x_zret C hr hW (v := 0) (w := 0) rfl dX0_liveADay_20

theorem dX6_init_0 : decode cX6_init 0 = .ok (.aload_n 0, 1) := by decide +kernel
theorem dX6_init_1 : decode cX6_init 1 = .ok (.invokespecial 1, 3) := by decide +kernel
theorem dX6_init_4 : decode cX6_init 4 = .ok (.aload_n 0, 1) := by decide +kernel
theorem dX6_init_5 : decode cX6_init 5 = .ok (.iload_n 1, 1) := by decide +kernel
theorem dX6_init_6 : decode cX6_init 6 = .ok (.putfield 7, 3) := by decide +kernel
theorem dX6_init_9 : decode cX6_init 9 = .ok (.aload_n 0, 1) := by decide +kernel
theorem dX6_init_10 : decode cX6_init 10 = .ok (.iconst 0, 1) := by decide +kernel
theorem dX6_init_11 : decode cX6_init 11 = .ok (.iload_n 2, 1) := by decide +kernel
theorem dX6_init_12 : decode cX6_init 12 = .ok (.invokestatic 13, 3) := by decide +kernel
theorem dX6_init_15 : decode cX6_init 15 = .ok (.newarray .long, 2) := by decide +kernel
theorem dX6_init_17 : decode cX6_init 17 = .ok (.putfield 19, 3) := by decide +kernel
theorem dX6_init_20 : decode cX6_init 20 = .ok (.return_, 1) := by decide +kernel
theorem fp_X6_7_9 : FdP "NylonLadder$Sheet" 7 9 0 false .int true := ⟨_, _, _, _, _, rfl, by decide, by decide, by decide, gxX6, by decide, T_4_146, Or.inl rfl, rfl, tyX6_ok, nmX6, by decide +kernel, rfl, fun _ => rfl⟩
theorem fp_X6_19_9 : FdP "NylonLadder$Sheet" 19 9 1 true (.array .long) true := ⟨_, _, _, _, _, rfl, by decide, by decide, by decide, gxX6, by decide, T_4_148, Or.inl rfl, rfl, tyX6_ok, nmX6, by decide +kernel, rfl, fun _ => rfl⟩
def fX6_init (M : Mm) (o : Nat) (p1 : Int32) (p2 : Int32) : Option Mm :=
  B1 (wrI M o 9 0 p1) fun M6_1 =>
  B1 (nwA M6_1 22 40 (mxI 0 p2)) fun M15_2 =>
  B1 (wrR M15_2 o 9 1 (some M6_1.n)) fun M17_3 =>
  some M17_3
set_option maxRecDepth 100000 in
set_option maxHeartbeats 4000000 in
theorem qX6_init (l : Launch) (E : Ev) {M : Mm} {o : Nat} {p1 : Int32} {p2 : Int32} {Mz : Mm} (hf : fX6_init M o p1 p2 = some Mz) : Ct l E yX6_init cX6_init 3 none 1 14 1 40 [.ref (E.b + o), .int p1, .int p2] M none Mz := by
  refine ct_of (by decide +kernel) (Nat.le_of_ble_eq_true rfl) fun p e s m args below meth c C hr hin hW ls hl => ?_
  have hl : lv_has ls 3 [(0, .ref (E.b + o)), (1, .int p1), (2, .int p2)] := hl
  unfold fX6_init at hf
  refine lv_aload_n C.x C.b dX6_init_0 rfl (lv_at hl 0 rfl) ?_
  refine x_objInit C hl T_4_144 T_1_35 T_1_36 dX6_init_1 (Nat.le_of_ble_eq_true rfl) (Nat.le_of_ble_eq_true rfl) ?_
  refine lv_aload_n C.x C.b dX6_init_4 rfl (lv_at hl 0 rfl) ?_
  refine lv_iload_n C.x C.b dX6_init_5 rfl (lv_at hl 1 rfl) ?_
  replace hf := x_b1 hf; obtain ⟨M6_1, hM6_1, hf⟩ := hf
  refine x_puti C hW fp_X6_7_9 hM6_1 (fun _ => hin rfl) dX6_init_6 (fun H locs hW => ?_)
  refine lv_aload_n C.x C.b dX6_init_9 rfl (lv_at hl 0 rfl) ?_
  refine lv_iconst (v := 0) C.x C.b dX6_init_10 (by decide) ?_
  refine lv_iload_n C.x C.b dX6_init_11 rfl (lv_at hl 2 rfl) ?_
  refine x_mmax C hl T_4_145 T_3_145 T_1_15 T_3_146 (Nat.le_of_ble_eq_true rfl) (Nat.le_of_ble_eq_true rfl) ⟨Nat.le_of_ble_eq_true rfl, Nat.le_of_ble_eq_true rfl⟩ dX6_init_12 ?_
  replace hf := x_b1 hf; obtain ⟨M15_2, hM15_2, hf⟩ := hf
  refine x_newl C hW hM15_2 T_4_155 (by decide) ⟨Nat.le_of_ble_eq_true rfl, Nat.le_of_ble_eq_true rfl⟩ dX6_init_15 (fun H hW => ?_)
  replace hf := x_b1 hf; obtain ⟨M17_3, hM17_3, hf⟩ := hf
  refine x_putr (v := (some M6_1.n)) C hW fp_X6_19_9 hM17_3 (fun _ => hin rfl) rfl rfl dX6_init_17 (fun H locs hW => ?_)
  rw [x_e0 hf]
  exact x_vret C hr hW dX6_init_20

theorem dX6_hasItem_0 : decode cX6_hasItem 0 = .ok (.iload_n 1, 1) := by decide +kernel
theorem dX6_hasItem_1 : decode cX6_hasItem 1 = .ok (.iconst 0, 1) := by decide +kernel
theorem dX6_hasItem_2 : decode cX6_hasItem 2 = .ok (.aload_n 0, 1) := by decide +kernel
theorem dX6_hasItem_3 : decode cX6_hasItem 3 = .ok (.getfield 19, 3) := by decide +kernel
theorem dX6_hasItem_6 : decode cX6_hasItem 6 = .ok (.arraylength, 1) := by decide +kernel
theorem dX6_hasItem_7 : decode cX6_hasItem 7 = .ok (.iconst 1, 1) := by decide +kernel
theorem dX6_hasItem_8 : decode cX6_hasItem 8 = .ok (.isub, 1) := by decide +kernel
theorem dX6_hasItem_9 : decode cX6_hasItem 9 = .ok (.invokestatic 23, 3) := by decide +kernel
theorem dX6_hasItem_12 : decode cX6_hasItem 12 = .ok (.ireturn, 1) := by decide +kernel
theorem fg_X6_19_9 : FdG "NylonLadder$Sheet" 19 9 1 true := ⟨_, _, _, _, rfl, by decide, by decide, by decide, gxX6, by decide, T_4_148, Or.inl rfl, rfl⟩
def fX6_hasItem (M : Mm) (o : Nat) (p1 : Int32) : Option Int32 :=
  B1 (rdN M o 9 1) fun a3_1 =>
  B1 (alN_ M a3_1) fun x6_2 =>
  B1 (fX11_isWithin M p1 0 (x6_2 - 1)) fun x9_3 =>
  bz x9_3
set_option maxRecDepth 100000 in
set_option maxHeartbeats 4000000 in
theorem qX6_hasItem (l : Launch) (E : Ev) {M : Mm} {o : Nat} {p1 : Int32} {rz : Int32} (hf : fX6_hasItem M o p1 = some rz) : Ct l E yX6_hasItem cX6_hasItem 2 (some .boolean) 1 22 0 0 [.ref (E.b + o), .int p1] M (some (.int rz)) M := by
  refine ct_of (by decide +kernel) (Nat.le_of_ble_eq_true rfl) fun p e s m args below meth c C hr hin hW ls hl => ?_
  have hl : lv_has ls 2 [(0, .ref (E.b + o)), (1, .int p1)] := hl
  unfold fX6_hasItem at hf
  refine lv_iload_n C.x C.b dX6_hasItem_0 rfl (lv_at hl 1 rfl) ?_
  refine lv_iconst (v := 0) C.x C.b dX6_hasItem_1 (by decide) ?_
  refine lv_aload_n C.x C.b dX6_hasItem_2 rfl (lv_at hl 0 rfl) ?_
  replace hf := x_b1 hf; obtain ⟨a3_1, ha3_1, hf⟩ := hf
  refine x_getn C hW fg_X6_19_9 ha3_1 dX6_hasItem_3 ?_
  replace hf := x_b1 hf; obtain ⟨x6_2, hx6_2, hf⟩ := hf
  refine x_alen C hW hx6_2 dX6_hasItem_6 ?_
  refine lv_iconst (v := 1) C.x C.b dX6_hasItem_7 (by decide) ?_
  refine lv_isub C.x C.b dX6_hasItem_8 ?_
  replace hf := x_b1 hf; obtain ⟨x9_3, hx9_3, hf⟩ := hf
  refine x_callSN (host := "NylonLadder") (As := [.int p1, .int 0, .int (x6_2 - 1)]) (rest := []) C hW hl (qX11_isWithin l E hx9_3) T_4_164 T_2_32 T_1_1 T_2_33 hd_X11_isWithin rfl rfl (Nat.le_of_ble_eq_true rfl) dX6_hasItem_9 ⟨Nat.le_of_ble_eq_true rfl, Nat.le_of_ble_eq_true rfl⟩ ⟨Nat.le_of_ble_eq_true rfl, Nat.le_of_ble_eq_true rfl⟩ (fun H locs hW => ?_)
  exact x_zret C hr hW hf dX6_hasItem_12

theorem dX6_narrowed_0 : decode cX6_narrowed 0 = .ok (.aload_n 0, 1) := by decide +kernel
theorem dX6_narrowed_1 : decode cX6_narrowed 1 = .ok (.getfield 7, 3) := by decide +kernel
theorem dX6_narrowed_4 : decode cX6_narrowed 4 = .ok (.lookupswitch 36 #[(0, 28), (1, 32)], 28) := by decide +kernel
theorem dX6_narrowed_32 : decode cX6_narrowed 32 = .ok (.iload_n 1, 1) := by decide +kernel
theorem dX6_narrowed_33 : decode cX6_narrowed 33 = .ok (.i2b, 1) := by decide +kernel
theorem dX6_narrowed_34 : decode cX6_narrowed 34 = .ok (.i2l, 1) := by decide +kernel
theorem dX6_narrowed_35 : decode cX6_narrowed 35 = .ok (.lreturn, 1) := by decide +kernel
theorem dX6_narrowed_36 : decode cX6_narrowed 36 = .ok (.iload_n 1, 1) := by decide +kernel
theorem dX6_narrowed_37 : decode cX6_narrowed 37 = .ok (.i2s, 1) := by decide +kernel
theorem dX6_narrowed_38 : decode cX6_narrowed 38 = .ok (.i2l, 1) := by decide +kernel
theorem dX6_narrowed_39 : decode cX6_narrowed 39 = .ok (.lreturn, 1) := by decide +kernel
theorem dX6_narrowed_40 : decode cX6_narrowed 40 = .ok (.iload_n 1, 1) := by decide +kernel
theorem dX6_narrowed_41 : decode cX6_narrowed 41 = .ok (.i2l, 1) := by decide +kernel
theorem dX6_narrowed_42 : decode cX6_narrowed 42 = .ok (.lreturn, 1) := by decide +kernel
theorem fg_X6_7_9 : FdG "NylonLadder$Sheet" 7 9 0 false := ⟨_, _, _, _, rfl, by decide, by decide, by decide, gxX6, by decide, T_4_146, Or.inl rfl, rfl⟩
def fX6_narrowed (M : Mm) (o : Nat) (p1 : Int32) : Option Int64 :=
  B1 (rdI M o 9 0) fun x1_1 =>
  if x1_1 = 0 then
    some ((p1.toInt8.toInt32).toInt64)
  else
    if x1_1 = 1 then
      some ((p1.toInt16.toInt32).toInt64)
    else
      some (p1.toInt64)
set_option maxRecDepth 100000 in
set_option maxHeartbeats 4000000 in
theorem qX6_narrowed (l : Launch) (E : Ev) {M : Mm} {o : Nat} {p1 : Int32} {rz : Int64} (hf : fX6_narrowed M o p1 = some rz) : Ct l E yX6_narrowed cX6_narrowed 2 (some .long) 0 0 0 0 [.ref (E.b + o), .int p1] M (some (.long rz)) M := by
  refine ct_of (by decide +kernel) (Nat.le_of_ble_eq_true rfl) fun p e s m args below meth c C hr hin hW ls hl => ?_
  have hl : lv_has ls 2 [(0, .ref (E.b + o)), (1, .int p1)] := hl
  unfold fX6_narrowed at hf
  refine lv_aload_n C.x C.b dX6_narrowed_0 rfl (lv_at hl 0 rfl) ?_
  replace hf := x_b1 hf; obtain ⟨x1_1, hx1_1, hf⟩ := hf
  refine x_geti C hW fg_X6_7_9 hx1_1 dX6_narrowed_1 ?_
  by_cases s4_0 : x1_1 = 0
  · replace hf := x_ip s4_0 hf
    refine lv_lookup (off := 28) (tgt := 32) C.x C.b dX6_narrowed_4 (by decide) (by rw [s4_0]; rfl) rfl ?_
    refine lv_iload_n C.x C.b dX6_narrowed_32 rfl (lv_at hl 1 rfl) ?_
    refine lv_i2b (v := p1.toInt8.toInt32) C.x C.b dX6_narrowed_33 rfl ?_
    refine lv_i2l (v := (p1.toInt8.toInt32).toInt64) C.x C.b dX6_narrowed_34 rfl ?_
    rw [x_e0 hf]
    exact x_lret C hr hW dX6_narrowed_35
  · replace hf := x_in s4_0 hf
    by_cases s4_1 : x1_1 = 1
    · replace hf := x_ip s4_1 hf
      refine lv_lookup (off := 32) (tgt := 36) C.x C.b dX6_narrowed_4 (by decide) (by rw [s4_1]; rfl) rfl ?_
      refine lv_iload_n C.x C.b dX6_narrowed_36 rfl (lv_at hl 1 rfl) ?_
      refine lv_i2s (v := p1.toInt16.toInt32) C.x C.b dX6_narrowed_37 rfl ?_
      refine lv_i2l (v := (p1.toInt16.toInt32).toInt64) C.x C.b dX6_narrowed_38 rfl ?_
      rw [x_e0 hf]
      exact x_lret C hr hW dX6_narrowed_39
    · replace hf := x_in s4_1 hf
      refine lv_lookup (off := 36) (tgt := 40) C.x C.b dX6_narrowed_4 (by decide) (by show Op.lookupswitch.offset [(0, 28), (1, 32)] _ _ = _; rw [lv_osw (a := 0) s4_0 rfl, lv_osw (a := 1) s4_1 rfl]; rfl) rfl ?_
      refine lv_iload_n C.x C.b dX6_narrowed_40 rfl (lv_at hl 1 rfl) ?_
      refine lv_i2l (v := p1.toInt64) C.x C.b dX6_narrowed_41 rfl ?_
      rw [x_e0 hf]
      exact x_lret C hr hW dX6_narrowed_42

theorem dX7_mendingCosts_0 : decode cX7_mendingCosts 0 = .ok (.aload_n 1, 1) := by decide +kernel
theorem dX7_mendingCosts_1 : decode cX7_mendingCosts 1 = .ok (.iconst 5, 1) := by decide +kernel
theorem dX7_mendingCosts_2 : decode cX7_mendingCosts 2 = .ok (.iaload, 1) := by decide +kernel
theorem dX7_mendingCosts_3 : decode cX7_mendingCosts 3 = .ok (.aload_n 0, 1) := by decide +kernel
theorem dX7_mendingCosts_4 : decode cX7_mendingCosts 4 = .ok (.invokevirtual 72, 3) := by decide +kernel
theorem dX7_mendingCosts_7 : decode cX7_mendingCosts 7 = .ok (.imul, 1) := by decide +kernel
theorem dX7_mendingCosts_8 : decode cX7_mendingCosts 8 = .ok (.ireturn, 1) := by decide +kernel
theorem gv_X7_72 : GoodIn gT (wsV "NylonLadder$Stocking" 72 "NylonLadder$Stocking" yX7_openRungs (Cond.code yX7_openRungs cX7_openRungs 1 (some .int) :: gT)) := good_V T_3_90 T_3_32 T_3_33 T_1_4 T_3_34
def fX7_mendingCosts (M : Mm) (o : Nat) (p1 : Nat) : Option Int32 :=
  B1 (alI M p1 5) fun x2_1 =>
  B1 (gk M o 10) fun _ =>
  B1 (fX7_openRungs M o) fun x4_3 =>
  some (x2_1 * x4_3)
set_option maxRecDepth 100000 in
set_option maxHeartbeats 4000000 in
theorem qX7_mendingCosts (l : Launch) (E : Ev) {M : Mm} {o : Nat} {p1 : Nat} {rz : Int32} (hf : fX7_mendingCosts M o p1 = some rz) : Ct l E yX7_mendingCosts cX7_mendingCosts 2 (some .int) 2 40 0 0 [.ref (E.b + o), .ref (E.b + p1)] M (some (.int rz)) M := by
  refine ct_of (by decide +kernel) (Nat.le_of_ble_eq_true rfl) fun p e s m args below meth c C hr hin hW ls hl => ?_
  have hl : lv_has ls 2 [(0, .ref (E.b + o)), (1, .ref (E.b + p1))] := hl
  unfold fX7_mendingCosts at hf
  refine lv_aload_n C.x C.b dX7_mendingCosts_0 rfl (lv_at hl 1 rfl) ?_
  refine lv_iconst (v := 5) C.x C.b dX7_mendingCosts_1 (by decide) ?_
  replace hf := x_b1 hf; obtain ⟨x2_1, hx2_1, hf⟩ := hf
  refine x_iald C hW hx2_1 dX7_mendingCosts_2 ?_
  refine lv_aload_n C.x C.b dX7_mendingCosts_3 rfl (lv_at hl 0 rfl) ?_
  replace hf := x_b1 hf; obtain ⟨_, hk4_2, hf⟩ := hf
  replace hf := x_b1 hf; obtain ⟨x4_3, hx4_3, hf⟩ := hf
  refine x_callV (As := []) (a := o) (rest := [.int x2_1]) C hW hl (qX7_openRungs l E hx4_3) (x_gk hk4_2) (by decide) (by decide) rfl gv_X7_72 ⟨rfl, hd_X7_openRungs⟩ rfl rfl (Nat.le_of_ble_eq_true rfl) dX7_mendingCosts_4 ⟨Nat.le_of_ble_eq_true rfl, Nat.le_of_ble_eq_true rfl⟩ ⟨Nat.le_of_ble_eq_true rfl, Nat.le_of_ble_eq_true rfl⟩ (fun H locs hW => ?_)
  refine lv_imul C.x C.b dX7_mendingCosts_7 ?_
  rw [x_e0 hf]
  exact x_iret C hr hW dX7_mendingCosts_8

theorem dX11_isRung_0 : decode cX11_isRung 0 = .ok (.iload_n 0, 1) := by decide +kernel
theorem dX11_isRung_1 : decode cX11_isRung 1 = .ok (.iconst 0, 1) := by decide +kernel
theorem dX11_isRung_2 : decode cX11_isRung 2 = .ok (.bipush 99, 2) := by decide +kernel
theorem dX11_isRung_4 : decode cX11_isRung 4 = .ok (.invokestatic 69, 3) := by decide +kernel
theorem dX11_isRung_7 : decode cX11_isRung 7 = .ok (.ireturn, 1) := by decide +kernel
def fX11_isRung (M : Mm) (p1 : Int32) : Option Int32 :=
  B1 (fX11_isWithin M p1 0 99) fun x4_1 =>
  bz x4_1
set_option maxRecDepth 100000 in
set_option maxHeartbeats 4000000 in
theorem qX11_isRung (l : Launch) (E : Ev) {M : Mm} {p1 : Int32} {rz : Int32} (hf : fX11_isRung M p1 = some rz) : Ct l E yX11_isRung cX11_isRung 1 (some .boolean) 1 22 0 0 [.int p1] M (some (.int rz)) M := by
  refine ct_of (by decide +kernel) (Nat.le_of_ble_eq_true rfl) fun p e s m args below meth c C hr hin hW ls hl => ?_
  have hl : lv_has ls 1 [(0, .int p1)] := hl
  unfold fX11_isRung at hf
  refine lv_iload_n C.x C.b dX11_isRung_0 rfl (lv_at hl 0 rfl) ?_
  refine lv_iconst (v := 0) C.x C.b dX11_isRung_1 (by decide) ?_
  refine lv_bipush (v := 99) C.x C.b dX11_isRung_2 (by decide) ?_
  replace hf := x_b1 hf; obtain ⟨x4_1, hx4_1, hf⟩ := hf
  refine x_callS (As := [.int p1, .int 0, .int 99]) (rest := []) C hW hl (qX11_isWithin l E hx4_1) gs_X11_69 hd_X11_isWithin rfl rfl (Nat.le_of_ble_eq_true rfl) dX11_isRung_4 ⟨Nat.le_of_ble_eq_true rfl, Nat.le_of_ble_eq_true rfl⟩ ⟨Nat.le_of_ble_eq_true rfl, Nat.le_of_ble_eq_true rfl⟩ (fun H locs hW => ?_)
  exact x_zret C hr hW hf dX11_isRung_7

theorem dX7_addDab_0 : decode cX7_addDab 0 = .ok (.iload_n 1, 1) := by decide +kernel
theorem dX7_addDab_1 : decode cX7_addDab 1 = .ok (.invokestatic 80, 3) := by decide +kernel
theorem dX7_addDab_4 : decode cX7_addDab 4 = .ok (.ifCond .ne 5, 3) := by decide +kernel
theorem dX7_addDab_7 : decode cX7_addDab 7 = .ok (.iconst (-1), 1) := by decide +kernel
theorem dX7_addDab_8 : decode cX7_addDab 8 = .ok (.ireturn, 1) := by decide +kernel
theorem dX7_addDab_9 : decode cX7_addDab 9 = .ok (.iload_n 1, 1) := by decide +kernel
theorem dX7_addDab_10 : decode cX7_addDab 10 = .ok (.aload_n 0, 1) := by decide +kernel
theorem dX7_addDab_11 : decode cX7_addDab 11 = .ok (.getfield 30, 3) := by decide +kernel
theorem dX7_addDab_14 : decode cX7_addDab 14 = .ok (.if_icmp .lt 11, 3) := by decide +kernel
theorem dX7_addDab_17 : decode cX7_addDab 17 = .ok (.iload_n 1, 1) := by decide +kernel
theorem dX7_addDab_18 : decode cX7_addDab 18 = .ok (.aload_n 0, 1) := by decide +kernel
theorem dX7_addDab_19 : decode cX7_addDab 19 = .ok (.getfield 33, 3) := by decide +kernel
theorem dX7_addDab_22 : decode cX7_addDab 22 = .ok (.if_icmp .le 11, 3) := by decide +kernel
theorem dX7_addDab_25 : decode cX7_addDab 25 = .ok (.aload_n 0, 1) := by decide +kernel
theorem dX7_addDab_26 : decode cX7_addDab 26 = .ok (.iload_n 1, 1) := by decide +kernel
theorem dX7_addDab_27 : decode cX7_addDab 27 = .ok (.invokevirtual 76, 3) := by decide +kernel
theorem dX7_addDab_30 : decode cX7_addDab 30 = .ok (.ifCond .lt 6, 3) := by decide +kernel
theorem dX7_addDab_33 : decode cX7_addDab 33 = .ok (.bipush (-4), 2) := by decide +kernel
theorem dX7_addDab_35 : decode cX7_addDab 35 = .ok (.ireturn, 1) := by decide +kernel
theorem dX7_addDab_36 : decode cX7_addDab 36 = .ok (.aload_n 0, 1) := by decide +kernel
theorem dX7_addDab_37 : decode cX7_addDab 37 = .ok (.getfield 36, 3) := by decide +kernel
theorem dX7_addDab_40 : decode cX7_addDab 40 = .ok (.iconst 2, 1) := by decide +kernel
theorem dX7_addDab_41 : decode cX7_addDab 41 = .ok (.if_icmp .lt 6, 3) := by decide +kernel
theorem dX7_addDab_44 : decode cX7_addDab 44 = .ok (.bipush (-2), 2) := by decide +kernel
theorem dX7_addDab_46 : decode cX7_addDab 46 = .ok (.ireturn, 1) := by decide +kernel
theorem dX7_addDab_47 : decode cX7_addDab 47 = .ok (.aload_n 0, 1) := by decide +kernel
theorem dX7_addDab_48 : decode cX7_addDab 48 = .ok (.getfield 39, 3) := by decide +kernel
theorem dX7_addDab_51 : decode cX7_addDab 51 = .ok (.aload_n 0, 1) := by decide +kernel
theorem dX7_addDab_52 : decode cX7_addDab 52 = .ok (.getfield 36, 3) := by decide +kernel
theorem dX7_addDab_55 : decode cX7_addDab 55 = .ok (.iload_n 1, 1) := by decide +kernel
theorem dX7_addDab_56 : decode cX7_addDab 56 = .ok (.iastore, 1) := by decide +kernel
theorem dX7_addDab_57 : decode cX7_addDab 57 = .ok (.aload_n 0, 1) := by decide +kernel
theorem dX7_addDab_58 : decode cX7_addDab 58 = .ok (.getfield 43, 3) := by decide +kernel
theorem dX7_addDab_61 : decode cX7_addDab 61 = .ok (.aload_n 0, 1) := by decide +kernel
theorem dX7_addDab_62 : decode cX7_addDab 62 = .ok (.getfield 36, 3) := by decide +kernel
theorem dX7_addDab_65 : decode cX7_addDab 65 = .ok (.iload_n 2, 1) := by decide +kernel
theorem dX7_addDab_66 : decode cX7_addDab 66 = .ok (.iastore, 1) := by decide +kernel
theorem dX7_addDab_67 : decode cX7_addDab 67 = .ok (.aload_n 0, 1) := by decide +kernel
theorem dX7_addDab_68 : decode cX7_addDab 68 = .ok (.dup, 1) := by decide +kernel
theorem dX7_addDab_69 : decode cX7_addDab 69 = .ok (.getfield 36, 3) := by decide +kernel
theorem dX7_addDab_72 : decode cX7_addDab 72 = .ok (.iconst 1, 1) := by decide +kernel
theorem dX7_addDab_73 : decode cX7_addDab 73 = .ok (.iadd, 1) := by decide +kernel
theorem dX7_addDab_74 : decode cX7_addDab 74 = .ok (.putfield 36, 3) := by decide +kernel
theorem dX7_addDab_77 : decode cX7_addDab 77 = .ok (.aload_n 0, 1) := by decide +kernel
theorem dX7_addDab_78 : decode cX7_addDab 78 = .ok (.getfield 36, 3) := by decide +kernel
theorem dX7_addDab_81 : decode cX7_addDab 81 = .ok (.ireturn, 1) := by decide +kernel
theorem hd_X11_isRung : yX11_isRung.cls ≠ "java/lang/invoke/MethodHandle" ∧ yX11_isRung.cls ≠ "java/lang/invoke/VarHandle" ∧ (parseMethodDescriptor yX11_isRung.desc).map (fun d => d.parameters.length) = some 1 := by decide +kernel
def fX7_addDab (M : Mm) (o : Nat) (p1 : Int32) (p2 : Int32) : Option (Int32 × Mm) :=
  B1 (fX11_isRung M p1) fun x1_1 =>
  if x1_1 = 0 then
    some ((-1), M)
  else
    B1 (rdI M o 10 6) fun x11_2 =>
    if p1 < x11_2 then
      B1 (gk M o 10) fun _ =>
      B1 (fX7_dabAt M o p1) fun x27_4 =>
      if x27_4 < 0 then
        B1 (rdI M o 10 8) fun x37_5 =>
        if x37_5 < 2 then
          B1 (rdN M o 10 9) fun a48_6 =>
          B1 (rdI M o 10 8) fun x52_7 =>
          B1 (asI M a48_6 x52_7 p1) fun M56_8 =>
          B1 (rdN M56_8 o 10 10) fun a58_9 =>
          B1 (rdI M56_8 o 10 8) fun x62_10 =>
          B1 (asI M56_8 a58_9 x62_10 p2) fun M66_11 =>
          B1 (rdI M66_11 o 10 8) fun x69_12 =>
          B1 (wrI M66_11 o 10 8 (x69_12 + 1)) fun M74_13 =>
          B1 (rdI M74_13 o 10 8) fun x78_14 =>
          some (x78_14, M74_13)
        else
          some ((-2), M)
      else
        some ((-4), M)
    else
      B1 (rdI M o 10 7) fun x19_15 =>
      if p1 ≤ x19_15 then
        some ((-4), M)
      else
        B1 (gk M o 10) fun _ =>
        B1 (fX7_dabAt M o p1) fun x27_17 =>
        if x27_17 < 0 then
          B1 (rdI M o 10 8) fun x37_18 =>
          if x37_18 < 2 then
            B1 (rdN M o 10 9) fun a48_19 =>
            B1 (rdI M o 10 8) fun x52_20 =>
            B1 (asI M a48_19 x52_20 p1) fun M56_21 =>
            B1 (rdN M56_21 o 10 10) fun a58_22 =>
            B1 (rdI M56_21 o 10 8) fun x62_23 =>
            B1 (asI M56_21 a58_22 x62_23 p2) fun M66_24 =>
            B1 (rdI M66_24 o 10 8) fun x69_25 =>
            B1 (wrI M66_24 o 10 8 (x69_25 + 1)) fun M74_26 =>
            B1 (rdI M74_26 o 10 8) fun x78_27 =>
            some (x78_27, M74_26)
          else
            some ((-2), M)
        else
          some ((-4), M)
set_option maxRecDepth 100000 in
set_option maxHeartbeats 4000000 in
theorem qX7_addDab (l : Launch) (E : Ev) {M : Mm} {o : Nat} {p1 : Int32} {p2 : Int32} {rz : Int32} {Mz : Mm} (hf : fX7_addDab M o p1 p2 = some (rz, Mz)) : Ct l E yX7_addDab cX7_addDab 3 (some .int) 2 42 0 0 [.ref (E.b + o), .int p1, .int p2] M (some (.int rz)) Mz := by
  refine ct_of (by decide +kernel) (Nat.le_of_ble_eq_true rfl) fun p e s m args below meth c C hr hin hW ls hl => ?_
  have hl : lv_has ls 3 [(0, .ref (E.b + o)), (1, .int p1), (2, .int p2)] := hl
  unfold fX7_addDab at hf
  refine lv_iload_n C.x C.b dX7_addDab_0 rfl (lv_at hl 1 rfl) ?_
  replace hf := x_b1 hf; obtain ⟨x1_1, hx1_1, hf⟩ := hf
  refine x_callSN (host := "NylonLadder") (As := [.int p1]) (rest := []) C hW hl (qX11_isRung l E hx1_1) T_3_70 T_3_48 T_1_1 T_3_49 hd_X11_isRung rfl rfl (Nat.le_of_ble_eq_true rfl) dX7_addDab_1 ⟨Nat.le_of_ble_eq_true rfl, Nat.le_of_ble_eq_true rfl⟩ ⟨Nat.le_of_ble_eq_true rfl, Nat.le_of_ble_eq_true rfl⟩ (fun H locs hW => ?_)
  refine lv_if_ne (tgt := 9) C.x C.b dX7_addDab_4 rfl (fun c4 => ?_) (fun c4 => ?_)
  · replace hf := x_in c4 hf
    refine lv_iload_n C.x C.b dX7_addDab_9 rfl (lv_at hl 1 rfl) ?_
    refine lv_aload_n C.x C.b dX7_addDab_10 rfl (lv_at hl 0 rfl) ?_
    replace hf := x_b1 hf; obtain ⟨x11_2, hx11_2, hf⟩ := hf
    refine x_geti C hW fg_X7_30_10 hx11_2 dX7_addDab_11 ?_
    refine lv_icmp_lt (tgt := 25) C.x C.b dX7_addDab_14 rfl (fun c14 => ?_) (fun c14 => ?_)
    · replace hf := x_ip c14 hf
      refine lv_aload_n C.x C.b dX7_addDab_25 rfl (lv_at hl 0 rfl) ?_
      refine lv_iload_n C.x C.b dX7_addDab_26 rfl (lv_at hl 1 rfl) ?_
      replace hf := x_b1 hf; obtain ⟨_, hk27_3, hf⟩ := hf
      replace hf := x_b1 hf; obtain ⟨x27_4, hx27_4, hf⟩ := hf
      refine x_callV (As := [.int p1]) (a := o) (rest := []) C hW hl (qX7_dabAt l E hx27_4) (x_gk hk27_3) (by decide) (by decide) rfl gv_X7_76 ⟨rfl, hd_X7_dabAt⟩ rfl rfl (Nat.le_of_ble_eq_true rfl) dX7_addDab_27 ⟨Nat.le_of_ble_eq_true rfl, Nat.le_of_ble_eq_true rfl⟩ ⟨Nat.le_of_ble_eq_true rfl, Nat.le_of_ble_eq_true rfl⟩ (fun H locs hW => ?_)
      refine lv_if_lt (tgt := 36) C.x C.b dX7_addDab_30 rfl (fun c30 => ?_) (fun c30 => ?_)
      · replace hf := x_ip c30 hf
        refine lv_aload_n C.x C.b dX7_addDab_36 rfl (lv_at hl 0 rfl) ?_
        replace hf := x_b1 hf; obtain ⟨x37_5, hx37_5, hf⟩ := hf
        refine x_geti C hW fg_X7_36_10 hx37_5 dX7_addDab_37 ?_
        refine lv_iconst (v := 2) C.x C.b dX7_addDab_40 (by decide) ?_
        refine lv_icmp_lt (tgt := 47) C.x C.b dX7_addDab_41 rfl (fun c41 => ?_) (fun c41 => ?_)
        · replace hf := x_ip c41 hf
          refine lv_aload_n C.x C.b dX7_addDab_47 rfl (lv_at hl 0 rfl) ?_
          replace hf := x_b1 hf; obtain ⟨a48_6, ha48_6, hf⟩ := hf
          refine x_getn C hW fg_X7_39_10 ha48_6 dX7_addDab_48 ?_
          refine lv_aload_n C.x C.b dX7_addDab_51 rfl (lv_at hl 0 rfl) ?_
          replace hf := x_b1 hf; obtain ⟨x52_7, hx52_7, hf⟩ := hf
          refine x_geti C hW fg_X7_36_10 hx52_7 dX7_addDab_52 ?_
          refine lv_iload_n C.x C.b dX7_addDab_55 rfl (lv_at hl 1 rfl) ?_
          replace hf := x_b1 hf; obtain ⟨M56_8, hM56_8, hf⟩ := hf
          refine x_iast C hW hM56_8 dX7_addDab_56 (fun H locs hW => ?_)
          refine lv_aload_n C.x C.b dX7_addDab_57 rfl (lv_at hl 0 rfl) ?_
          replace hf := x_b1 hf; obtain ⟨a58_9, ha58_9, hf⟩ := hf
          refine x_getn C hW fg_X7_43_10 ha58_9 dX7_addDab_58 ?_
          refine lv_aload_n C.x C.b dX7_addDab_61 rfl (lv_at hl 0 rfl) ?_
          replace hf := x_b1 hf; obtain ⟨x62_10, hx62_10, hf⟩ := hf
          refine x_geti C hW fg_X7_36_10 hx62_10 dX7_addDab_62 ?_
          refine lv_iload_n C.x C.b dX7_addDab_65 rfl (lv_at hl 2 rfl) ?_
          replace hf := x_b1 hf; obtain ⟨M66_11, hM66_11, hf⟩ := hf
          refine x_iast C hW hM66_11 dX7_addDab_66 (fun H locs hW => ?_)
          refine lv_aload_n C.x C.b dX7_addDab_67 rfl (lv_at hl 0 rfl) ?_
          refine lv_dup C.x C.b dX7_addDab_68 rfl ?_
          replace hf := x_b1 hf; obtain ⟨x69_12, hx69_12, hf⟩ := hf
          refine x_geti C hW fg_X7_36_10 hx69_12 dX7_addDab_69 ?_
          refine lv_iconst (v := 1) C.x C.b dX7_addDab_72 (by decide) ?_
          refine lv_iadd C.x C.b dX7_addDab_73 ?_
          replace hf := x_b1 hf; obtain ⟨M74_13, hM74_13, hf⟩ := hf
          refine x_puti C hW fp_X7_36_10 hM74_13 (fun h => by cases h) dX7_addDab_74 (fun H locs hW => ?_)
          refine lv_aload_n C.x C.b dX7_addDab_77 rfl (lv_at hl 0 rfl) ?_
          replace hf := x_b1 hf; obtain ⟨x78_14, hx78_14, hf⟩ := hf
          refine x_geti C hW fg_X7_36_10 hx78_14 dX7_addDab_78 ?_
          rw [x_e1 hf, x_e2 hf]
          exact x_iret C hr hW dX7_addDab_81
        · replace hf := x_in c41 hf
          refine lv_bipush (v := (-2)) C.x C.b dX7_addDab_44 (by decide) ?_
          rw [x_e1 hf, x_e2 hf]
          exact x_iret C hr hW dX7_addDab_46
      · replace hf := x_in c30 hf
        refine lv_bipush (v := (-4)) C.x C.b dX7_addDab_33 (by decide) ?_
        rw [x_e1 hf, x_e2 hf]
        exact x_iret C hr hW dX7_addDab_35
    · replace hf := x_in c14 hf
      refine lv_iload_n C.x C.b dX7_addDab_17 rfl (lv_at hl 1 rfl) ?_
      refine lv_aload_n C.x C.b dX7_addDab_18 rfl (lv_at hl 0 rfl) ?_
      replace hf := x_b1 hf; obtain ⟨x19_15, hx19_15, hf⟩ := hf
      refine x_geti C hW fg_X7_33_10 hx19_15 dX7_addDab_19 ?_
      refine lv_icmp_le (tgt := 33) C.x C.b dX7_addDab_22 rfl (fun c22 => ?_) (fun c22 => ?_)
      · replace hf := x_ip c22 hf
        refine lv_bipush (v := (-4)) C.x C.b dX7_addDab_33 (by decide) ?_
        rw [x_e1 hf, x_e2 hf]
        exact x_iret C hr hW dX7_addDab_35
      · replace hf := x_in c22 hf
        refine lv_aload_n C.x C.b dX7_addDab_25 rfl (lv_at hl 0 rfl) ?_
        refine lv_iload_n C.x C.b dX7_addDab_26 rfl (lv_at hl 1 rfl) ?_
        replace hf := x_b1 hf; obtain ⟨_, hk27_16, hf⟩ := hf
        replace hf := x_b1 hf; obtain ⟨x27_17, hx27_17, hf⟩ := hf
        refine x_callV (As := [.int p1]) (a := o) (rest := []) C hW hl (qX7_dabAt l E hx27_17) (x_gk hk27_16) (by decide) (by decide) rfl gv_X7_76 ⟨rfl, hd_X7_dabAt⟩ rfl rfl (Nat.le_of_ble_eq_true rfl) dX7_addDab_27 ⟨Nat.le_of_ble_eq_true rfl, Nat.le_of_ble_eq_true rfl⟩ ⟨Nat.le_of_ble_eq_true rfl, Nat.le_of_ble_eq_true rfl⟩ (fun H locs hW => ?_)
        refine lv_if_lt (tgt := 36) C.x C.b dX7_addDab_30 rfl (fun c30 => ?_) (fun c30 => ?_)
        · replace hf := x_ip c30 hf
          refine lv_aload_n C.x C.b dX7_addDab_36 rfl (lv_at hl 0 rfl) ?_
          replace hf := x_b1 hf; obtain ⟨x37_18, hx37_18, hf⟩ := hf
          refine x_geti C hW fg_X7_36_10 hx37_18 dX7_addDab_37 ?_
          refine lv_iconst (v := 2) C.x C.b dX7_addDab_40 (by decide) ?_
          refine lv_icmp_lt (tgt := 47) C.x C.b dX7_addDab_41 rfl (fun c41 => ?_) (fun c41 => ?_)
          · replace hf := x_ip c41 hf
            refine lv_aload_n C.x C.b dX7_addDab_47 rfl (lv_at hl 0 rfl) ?_
            replace hf := x_b1 hf; obtain ⟨a48_19, ha48_19, hf⟩ := hf
            refine x_getn C hW fg_X7_39_10 ha48_19 dX7_addDab_48 ?_
            refine lv_aload_n C.x C.b dX7_addDab_51 rfl (lv_at hl 0 rfl) ?_
            replace hf := x_b1 hf; obtain ⟨x52_20, hx52_20, hf⟩ := hf
            refine x_geti C hW fg_X7_36_10 hx52_20 dX7_addDab_52 ?_
            refine lv_iload_n C.x C.b dX7_addDab_55 rfl (lv_at hl 1 rfl) ?_
            replace hf := x_b1 hf; obtain ⟨M56_21, hM56_21, hf⟩ := hf
            refine x_iast C hW hM56_21 dX7_addDab_56 (fun H locs hW => ?_)
            refine lv_aload_n C.x C.b dX7_addDab_57 rfl (lv_at hl 0 rfl) ?_
            replace hf := x_b1 hf; obtain ⟨a58_22, ha58_22, hf⟩ := hf
            refine x_getn C hW fg_X7_43_10 ha58_22 dX7_addDab_58 ?_
            refine lv_aload_n C.x C.b dX7_addDab_61 rfl (lv_at hl 0 rfl) ?_
            replace hf := x_b1 hf; obtain ⟨x62_23, hx62_23, hf⟩ := hf
            refine x_geti C hW fg_X7_36_10 hx62_23 dX7_addDab_62 ?_
            refine lv_iload_n C.x C.b dX7_addDab_65 rfl (lv_at hl 2 rfl) ?_
            replace hf := x_b1 hf; obtain ⟨M66_24, hM66_24, hf⟩ := hf
            refine x_iast C hW hM66_24 dX7_addDab_66 (fun H locs hW => ?_)
            refine lv_aload_n C.x C.b dX7_addDab_67 rfl (lv_at hl 0 rfl) ?_
            refine lv_dup C.x C.b dX7_addDab_68 rfl ?_
            replace hf := x_b1 hf; obtain ⟨x69_25, hx69_25, hf⟩ := hf
            refine x_geti C hW fg_X7_36_10 hx69_25 dX7_addDab_69 ?_
            refine lv_iconst (v := 1) C.x C.b dX7_addDab_72 (by decide) ?_
            refine lv_iadd C.x C.b dX7_addDab_73 ?_
            replace hf := x_b1 hf; obtain ⟨M74_26, hM74_26, hf⟩ := hf
            refine x_puti C hW fp_X7_36_10 hM74_26 (fun h => by cases h) dX7_addDab_74 (fun H locs hW => ?_)
            refine lv_aload_n C.x C.b dX7_addDab_77 rfl (lv_at hl 0 rfl) ?_
            replace hf := x_b1 hf; obtain ⟨x78_27, hx78_27, hf⟩ := hf
            refine x_geti C hW fg_X7_36_10 hx78_27 dX7_addDab_78 ?_
            rw [x_e1 hf, x_e2 hf]
            exact x_iret C hr hW dX7_addDab_81
          · replace hf := x_in c41 hf
            refine lv_bipush (v := (-2)) C.x C.b dX7_addDab_44 (by decide) ?_
            rw [x_e1 hf, x_e2 hf]
            exact x_iret C hr hW dX7_addDab_46
        · replace hf := x_in c30 hf
          refine lv_bipush (v := (-4)) C.x C.b dX7_addDab_33 (by decide) ?_
          rw [x_e1 hf, x_e2 hf]
          exact x_iret C hr hW dX7_addDab_35
  · replace hf := x_ip c4 hf
    refine lv_iconst (v := (-1)) C.x C.b dX7_addDab_7 (by decide) ?_
    rw [x_e1 hf, x_e2 hf]
    exact x_iret C hr hW dX7_addDab_8

theorem dX8_init_0 : decode cX8_init 0 = .ok (.aload_n 0, 1) := by decide +kernel
theorem dX8_init_1 : decode cX8_init 1 = .ok (.invokespecial 3, 3) := by decide +kernel
theorem dX8_init_4 : decode cX8_init 4 = .ok (.aload_n 0, 1) := by decide +kernel
theorem dX8_init_5 : decode cX8_init 5 = .ok (.sipush 200, 3) := by decide +kernel
theorem dX8_init_8 : decode cX8_init 8 = .ok (.newarray .int, 2) := by decide +kernel
theorem dX8_init_10 : decode cX8_init 10 = .ok (.putfield 9, 3) := by decide +kernel
theorem dX8_init_13 : decode cX8_init 13 = .ok (.aload_n 0, 1) := by decide +kernel
theorem dX8_init_14 : decode cX8_init 14 = .ok (.iconst 0, 1) := by decide +kernel
theorem dX8_init_15 : decode cX8_init 15 = .ok (.putfield 15, 3) := by decide +kernel
theorem dX8_init_18 : decode cX8_init 18 = .ok (.aload_n 0, 1) := by decide +kernel
theorem dX8_init_19 : decode cX8_init 19 = .ok (.new 19, 3) := by decide +kernel
theorem dX8_init_22 : decode cX8_init 22 = .ok (.dup, 1) := by decide +kernel
theorem dX8_init_23 : decode cX8_init 23 = .ok (.invokespecial 21, 3) := by decide +kernel
theorem dX8_init_26 : decode cX8_init 26 = .ok (.putfield 22, 3) := by decide +kernel
theorem dX8_init_29 : decode cX8_init 29 = .ok (.aload_n 0, 1) := by decide +kernel
theorem dX8_init_30 : decode cX8_init 30 = .ok (.sipush 201, 3) := by decide +kernel
theorem dX8_init_33 : decode cX8_init 33 = .ok (.newarray .int, 2) := by decide +kernel
theorem dX8_init_35 : decode cX8_init 35 = .ok (.putfield 26, 3) := by decide +kernel
theorem dX8_init_38 : decode cX8_init 38 = .ok (.aload_n 0, 1) := by decide +kernel
theorem dX8_init_39 : decode cX8_init 39 = .ok (.sipush 201, 3) := by decide +kernel
theorem dX8_init_42 : decode cX8_init 42 = .ok (.newarray .int, 2) := by decide +kernel
theorem dX8_init_44 : decode cX8_init 44 = .ok (.putfield 29, 3) := by decide +kernel
theorem dX8_init_47 : decode cX8_init 47 = .ok (.aload_n 0, 1) := by decide +kernel
theorem dX8_init_48 : decode cX8_init 48 = .ok (.sipush 201, 3) := by decide +kernel
theorem dX8_init_51 : decode cX8_init 51 = .ok (.newarray .int, 2) := by decide +kernel
theorem dX8_init_53 : decode cX8_init 53 = .ok (.putfield 32, 3) := by decide +kernel
theorem dX8_init_56 : decode cX8_init 56 = .ok (.aload_n 0, 1) := by decide +kernel
theorem dX8_init_57 : decode cX8_init 57 = .ok (.iconst 0, 1) := by decide +kernel
theorem dX8_init_58 : decode cX8_init 58 = .ok (.putfield 35, 3) := by decide +kernel
theorem dX8_init_61 : decode cX8_init 61 = .ok (.aload_n 0, 1) := by decide +kernel
theorem dX8_init_62 : decode cX8_init 62 = .ok (.iconst 0, 1) := by decide +kernel
theorem dX8_init_63 : decode cX8_init 63 = .ok (.putfield 38, 3) := by decide +kernel
theorem dX8_init_66 : decode cX8_init 66 = .ok (.aload_n 0, 1) := by decide +kernel
theorem dX8_init_67 : decode cX8_init 67 = .ok (.iconst (-1), 1) := by decide +kernel
theorem dX8_init_68 : decode cX8_init 68 = .ok (.putfield 41, 3) := by decide +kernel
theorem dX8_init_71 : decode cX8_init 71 = .ok (.return_, 1) := by decide +kernel
theorem fp_X8_9_11 : FdP "NylonLadder$Tape" 9 11 0 true (.array .int) true := ⟨_, _, _, _, _, rfl, by decide, by decide, by decide, gxX8, by decide, T_1_170, Or.inl rfl, rfl, tyX8_ok, nmX8, by decide +kernel, rfl, fun _ => rfl⟩
theorem fp_X8_15_11 : FdP "NylonLadder$Tape" 15 11 1 false .int false := ⟨_, _, _, _, _, rfl, by decide, by decide, by decide, gxX8, by decide, T_1_171, Or.inl rfl, rfl, tyX8_ok, nmX8, by decide +kernel, rfl, fun h => by cases h⟩
theorem nw_X8_19 : NwO "NylonLadder$Tape" 19 3 6 := ⟨_, _, _, rfl, by decide, by decide, gxX0, tyX0_ok, T_1_168, T_1_38, T_1_2, fun _ => rfl, by decide +kernel⟩
theorem hd_X0_init : yX0_init.cls ≠ "java/lang/invoke/MethodHandle" ∧ yX0_init.cls ≠ "java/lang/invoke/VarHandle" ∧ (parseMethodDescriptor yX0_init.desc).map (fun d => d.parameters.length) = some 0 := by decide +kernel
theorem fp_X8_22_11 : FdP "NylonLadder$Tape" 22 11 2 true (.object "NylonLadder$Drawer") true := ⟨_, _, _, _, _, rfl, by decide, by decide, by decide, gxX8, by decide, T_1_173, Or.inl rfl, rfl, tyX8_ok, nmX8, by decide +kernel, rfl, fun _ => rfl⟩
theorem fp_X8_26_11 : FdP "NylonLadder$Tape" 26 11 3 true (.array .int) true := ⟨_, _, _, _, _, rfl, by decide, by decide, by decide, gxX8, by decide, T_1_175, Or.inl rfl, rfl, tyX8_ok, nmX8, by decide +kernel, rfl, fun _ => rfl⟩
theorem fp_X8_29_11 : FdP "NylonLadder$Tape" 29 11 4 true (.array .int) true := ⟨_, _, _, _, _, rfl, by decide, by decide, by decide, gxX8, by decide, T_1_176, Or.inl rfl, rfl, tyX8_ok, nmX8, by decide +kernel, rfl, fun _ => rfl⟩
theorem fp_X8_32_11 : FdP "NylonLadder$Tape" 32 11 5 true (.array .int) true := ⟨_, _, _, _, _, rfl, by decide, by decide, by decide, gxX8, by decide, T_1_177, Or.inl rfl, rfl, tyX8_ok, nmX8, by decide +kernel, rfl, fun _ => rfl⟩
theorem fp_X8_35_11 : FdP "NylonLadder$Tape" 35 11 6 false .int false := ⟨_, _, _, _, _, rfl, by decide, by decide, by decide, gxX8, by decide, T_1_178, Or.inl rfl, rfl, tyX8_ok, nmX8, by decide +kernel, rfl, fun h => by cases h⟩
theorem fp_X8_38_11 : FdP "NylonLadder$Tape" 38 11 7 false .int false := ⟨_, _, _, _, _, rfl, by decide, by decide, by decide, gxX8, by decide, T_1_179, Or.inl rfl, rfl, tyX8_ok, nmX8, by decide +kernel, rfl, fun h => by cases h⟩
theorem fp_X8_41_11 : FdP "NylonLadder$Tape" 41 11 8 false .int false := ⟨_, _, _, _, _, rfl, by decide, by decide, by decide, gxX8, by decide, T_1_180, Or.inl rfl, rfl, tyX8_ok, nmX8, by decide +kernel, rfl, fun h => by cases h⟩
def fX8_init (M : Mm) (o : Nat) : Option Mm :=
  B1 (nwA M 21 200 200) fun M8_1 =>
  B1 (wrR M8_1 o 11 0 (some M.n)) fun M10_2 =>
  B1 (wrI M10_2 o 11 1 0) fun M15_3 =>
  B1 (nwO M15_3 3) fun M19_4 =>
  B1 (fX0_init M19_4 M15_3.n) fun M23_5 =>
  B1 (wrR M23_5 o 11 2 (some M15_3.n)) fun M26_6 =>
  B1 (nwA M26_6 21 201 201) fun M33_7 =>
  B1 (wrR M33_7 o 11 3 (some M26_6.n)) fun M35_8 =>
  B1 (nwA M35_8 21 201 201) fun M42_9 =>
  B1 (wrR M42_9 o 11 4 (some M35_8.n)) fun M44_10 =>
  B1 (nwA M44_10 21 201 201) fun M51_11 =>
  B1 (wrR M51_11 o 11 5 (some M44_10.n)) fun M53_12 =>
  B1 (wrI M53_12 o 11 6 0) fun M58_13 =>
  B1 (wrI M58_13 o 11 7 0) fun M63_14 =>
  B1 (wrI M63_14 o 11 8 (-1)) fun M68_15 =>
  some M68_15
set_option maxRecDepth 100000 in
set_option maxHeartbeats 4000000 in
theorem qX8_init (l : Launch) (E : Ev) {M : Mm} {o : Nat} {Mz : Mm} (hf : fX8_init M o = some Mz) : Ct l E yX8_init cX8_init 1 none 3 53 39 995 [.ref (E.b + o)] M none Mz := by
  refine ct_of (by decide +kernel) (Nat.le_of_ble_eq_true rfl) fun p e s m args below meth c C hr hin hW ls hl => ?_
  have hl : lv_has ls 1 [(0, .ref (E.b + o))] := hl
  unfold fX8_init at hf
  refine lv_aload_n C.x C.b dX8_init_0 rfl (lv_at hl 0 rfl) ?_
  refine x_objInit C hl T_1_167 T_1_35 T_1_36 dX8_init_1 (Nat.le_of_ble_eq_true rfl) (Nat.le_of_ble_eq_true rfl) ?_
  refine lv_aload_n C.x C.b dX8_init_4 rfl (lv_at hl 0 rfl) ?_
  refine lv_sipush (v := 200) C.x C.b dX8_init_5 (by decide) ?_
  replace hf := x_b1 hf; obtain ⟨M8_1, hM8_1, hf⟩ := hf
  refine x_newa C hW hM8_1 T_1_69 (by decide) ⟨Nat.le_of_ble_eq_true rfl, Nat.le_of_ble_eq_true rfl⟩ dX8_init_8 (fun H hW => ?_)
  replace hf := x_b1 hf; obtain ⟨M10_2, hM10_2, hf⟩ := hf
  refine x_putr (v := (some M.n)) C hW fp_X8_9_11 hM10_2 (fun _ => hin rfl) rfl rfl dX8_init_10 (fun H locs hW => ?_)
  refine lv_aload_n C.x C.b dX8_init_13 rfl (lv_at hl 0 rfl) ?_
  refine lv_iconst (v := 0) C.x C.b dX8_init_14 (by decide) ?_
  replace hf := x_b1 hf; obtain ⟨M15_3, hM15_3, hf⟩ := hf
  refine x_puti C hW fp_X8_15_11 hM15_3 (fun h => by cases h) dX8_init_15 (fun H locs hW => ?_)
  refine lv_aload_n C.x C.b dX8_init_18 rfl (lv_at hl 0 rfl) ?_
  replace hf := x_b1 hf; obtain ⟨M19_4, hM19_4, hf⟩ := hf
  refine x_newo C hW hM19_4 nw_X8_19 dX8_init_19 ⟨Nat.le_of_ble_eq_true rfl, Nat.le_of_ble_eq_true rfl⟩ (fun H hW => ?_)
  refine lv_dup C.x C.b dX8_init_22 rfl ?_
  replace hf := x_b1 hf; obtain ⟨M23_5, hM23_5, hf⟩ := hf
  refine x_callI (As := []) (a := M15_3.n) (rest := [.ref (E.b + M15_3.n), .ref (E.b + o)]) C hW hl (qX0_init l E hM23_5) T_1_169 T_1_40 T_1_2 T_1_41 rfl hd_X0_init rfl rfl (Nat.le_of_ble_eq_true rfl) dX8_init_23 ⟨Nat.le_of_ble_eq_true rfl, Nat.le_of_ble_eq_true rfl⟩ ⟨Nat.le_of_ble_eq_true rfl, Nat.le_of_ble_eq_true rfl⟩ (fun H locs hW => ?_)
  replace hf := x_b1 hf; obtain ⟨M26_6, hM26_6, hf⟩ := hf
  refine x_putr (v := (some M15_3.n)) C hW fp_X8_22_11 hM26_6 (fun _ => hin rfl) rfl rfl dX8_init_26 (fun H locs hW => ?_)
  refine lv_aload_n C.x C.b dX8_init_29 rfl (lv_at hl 0 rfl) ?_
  refine lv_sipush (v := 201) C.x C.b dX8_init_30 (by decide) ?_
  replace hf := x_b1 hf; obtain ⟨M33_7, hM33_7, hf⟩ := hf
  refine x_newa C hW hM33_7 T_1_69 (by decide) ⟨Nat.le_of_ble_eq_true rfl, Nat.le_of_ble_eq_true rfl⟩ dX8_init_33 (fun H hW => ?_)
  replace hf := x_b1 hf; obtain ⟨M35_8, hM35_8, hf⟩ := hf
  refine x_putr (v := (some M26_6.n)) C hW fp_X8_26_11 hM35_8 (fun _ => hin rfl) rfl rfl dX8_init_35 (fun H locs hW => ?_)
  refine lv_aload_n C.x C.b dX8_init_38 rfl (lv_at hl 0 rfl) ?_
  refine lv_sipush (v := 201) C.x C.b dX8_init_39 (by decide) ?_
  replace hf := x_b1 hf; obtain ⟨M42_9, hM42_9, hf⟩ := hf
  refine x_newa C hW hM42_9 T_1_69 (by decide) ⟨Nat.le_of_ble_eq_true rfl, Nat.le_of_ble_eq_true rfl⟩ dX8_init_42 (fun H hW => ?_)
  replace hf := x_b1 hf; obtain ⟨M44_10, hM44_10, hf⟩ := hf
  refine x_putr (v := (some M35_8.n)) C hW fp_X8_29_11 hM44_10 (fun _ => hin rfl) rfl rfl dX8_init_44 (fun H locs hW => ?_)
  refine lv_aload_n C.x C.b dX8_init_47 rfl (lv_at hl 0 rfl) ?_
  refine lv_sipush (v := 201) C.x C.b dX8_init_48 (by decide) ?_
  replace hf := x_b1 hf; obtain ⟨M51_11, hM51_11, hf⟩ := hf
  refine x_newa C hW hM51_11 T_1_69 (by decide) ⟨Nat.le_of_ble_eq_true rfl, Nat.le_of_ble_eq_true rfl⟩ dX8_init_51 (fun H hW => ?_)
  replace hf := x_b1 hf; obtain ⟨M53_12, hM53_12, hf⟩ := hf
  refine x_putr (v := (some M44_10.n)) C hW fp_X8_32_11 hM53_12 (fun _ => hin rfl) rfl rfl dX8_init_53 (fun H locs hW => ?_)
  refine lv_aload_n C.x C.b dX8_init_56 rfl (lv_at hl 0 rfl) ?_
  refine lv_iconst (v := 0) C.x C.b dX8_init_57 (by decide) ?_
  replace hf := x_b1 hf; obtain ⟨M58_13, hM58_13, hf⟩ := hf
  refine x_puti C hW fp_X8_35_11 hM58_13 (fun h => by cases h) dX8_init_58 (fun H locs hW => ?_)
  refine lv_aload_n C.x C.b dX8_init_61 rfl (lv_at hl 0 rfl) ?_
  refine lv_iconst (v := 0) C.x C.b dX8_init_62 (by decide) ?_
  replace hf := x_b1 hf; obtain ⟨M63_14, hM63_14, hf⟩ := hf
  refine x_puti C hW fp_X8_38_11 hM63_14 (fun h => by cases h) dX8_init_63 (fun H locs hW => ?_)
  refine lv_aload_n C.x C.b dX8_init_66 rfl (lv_at hl 0 rfl) ?_
  refine lv_iconst (v := (-1)) C.x C.b dX8_init_67 (by decide) ?_
  replace hf := x_b1 hf; obtain ⟨M68_15, hM68_15, hf⟩ := hf
  refine x_puti C hW fp_X8_41_11 hM68_15 (fun h => by cases h) dX8_init_68 (fun H locs hW => ?_)
  rw [x_e0 hf]
  exact x_vret C hr hW dX8_init_71

theorem dX8_addByte_0 : decode cX8_addByte 0 = .ok (.aload_n 0, 1) := by decide +kernel
theorem dX8_addByte_1 : decode cX8_addByte 1 = .ok (.getfield 15, 3) := by decide +kernel
theorem dX8_addByte_4 : decode cX8_addByte 4 = .ok (.sipush 200, 3) := by decide +kernel
theorem dX8_addByte_7 : decode cX8_addByte 7 = .ok (.if_icmp .ge 23, 3) := by decide +kernel
theorem dX8_addByte_10 : decode cX8_addByte 10 = .ok (.aload_n 0, 1) := by decide +kernel
theorem dX8_addByte_11 : decode cX8_addByte 11 = .ok (.getfield 9, 3) := by decide +kernel
theorem dX8_addByte_14 : decode cX8_addByte 14 = .ok (.aload_n 0, 1) := by decide +kernel
theorem dX8_addByte_15 : decode cX8_addByte 15 = .ok (.getfield 15, 3) := by decide +kernel
theorem dX8_addByte_18 : decode cX8_addByte 18 = .ok (.iload_n 1, 1) := by decide +kernel
theorem dX8_addByte_19 : decode cX8_addByte 19 = .ok (.iastore, 1) := by decide +kernel
theorem dX8_addByte_20 : decode cX8_addByte 20 = .ok (.aload_n 0, 1) := by decide +kernel
theorem dX8_addByte_21 : decode cX8_addByte 21 = .ok (.dup, 1) := by decide +kernel
theorem dX8_addByte_22 : decode cX8_addByte 22 = .ok (.getfield 15, 3) := by decide +kernel
theorem dX8_addByte_25 : decode cX8_addByte 25 = .ok (.iconst 1, 1) := by decide +kernel
theorem dX8_addByte_26 : decode cX8_addByte 26 = .ok (.iadd, 1) := by decide +kernel
theorem dX8_addByte_27 : decode cX8_addByte 27 = .ok (.putfield 15, 3) := by decide +kernel
theorem dX8_addByte_30 : decode cX8_addByte 30 = .ok (.return_, 1) := by decide +kernel
theorem fg_X8_15_11 : FdG "NylonLadder$Tape" 15 11 1 false := ⟨_, _, _, _, rfl, by decide, by decide, by decide, gxX8, by decide, T_1_171, Or.inl rfl, rfl⟩
theorem fg_X8_9_11 : FdG "NylonLadder$Tape" 9 11 0 true := ⟨_, _, _, _, rfl, by decide, by decide, by decide, gxX8, by decide, T_1_170, Or.inl rfl, rfl⟩
def fX8_addByte (M : Mm) (o : Nat) (p1 : Int32) : Option Mm :=
  B1 (rdI M o 11 1) fun x1_1 =>
  if 200 ≤ x1_1 then
    some M
  else
    B1 (rdN M o 11 0) fun a11_2 =>
    B1 (rdI M o 11 1) fun x15_3 =>
    B1 (asI M a11_2 x15_3 p1) fun M19_4 =>
    B1 (rdI M19_4 o 11 1) fun x22_5 =>
    B1 (wrI M19_4 o 11 1 (x22_5 + 1)) fun M27_6 =>
    some M27_6
set_option maxRecDepth 100000 in
set_option maxHeartbeats 4000000 in
theorem qX8_addByte (l : Launch) (E : Ev) {M : Mm} {o : Nat} {p1 : Int32} {Mz : Mm} (hf : fX8_addByte M o p1 = some Mz) : Ct l E yX8_addByte cX8_addByte 2 none 0 0 0 0 [.ref (E.b + o), .int p1] M none Mz := by
  refine ct_of (by decide +kernel) (Nat.le_of_ble_eq_true rfl) fun p e s m args below meth c C hr hin hW ls hl => ?_
  have hl : lv_has ls 2 [(0, .ref (E.b + o)), (1, .int p1)] := hl
  unfold fX8_addByte at hf
  refine lv_aload_n C.x C.b dX8_addByte_0 rfl (lv_at hl 0 rfl) ?_
  replace hf := x_b1 hf; obtain ⟨x1_1, hx1_1, hf⟩ := hf
  refine x_geti C hW fg_X8_15_11 hx1_1 dX8_addByte_1 ?_
  refine lv_sipush (v := 200) C.x C.b dX8_addByte_4 (by decide) ?_
  refine lv_icmp_ge (tgt := 30) C.x C.b dX8_addByte_7 rfl (fun c7 => ?_) (fun c7 => ?_)
  · replace hf := x_ip c7 hf
    rw [x_e0 hf]
    exact x_vret C hr hW dX8_addByte_30
  · replace hf := x_in c7 hf
    refine lv_aload_n C.x C.b dX8_addByte_10 rfl (lv_at hl 0 rfl) ?_
    replace hf := x_b1 hf; obtain ⟨a11_2, ha11_2, hf⟩ := hf
    refine x_getn C hW fg_X8_9_11 ha11_2 dX8_addByte_11 ?_
    refine lv_aload_n C.x C.b dX8_addByte_14 rfl (lv_at hl 0 rfl) ?_
    replace hf := x_b1 hf; obtain ⟨x15_3, hx15_3, hf⟩ := hf
    refine x_geti C hW fg_X8_15_11 hx15_3 dX8_addByte_15 ?_
    refine lv_iload_n C.x C.b dX8_addByte_18 rfl (lv_at hl 1 rfl) ?_
    replace hf := x_b1 hf; obtain ⟨M19_4, hM19_4, hf⟩ := hf
    refine x_iast C hW hM19_4 dX8_addByte_19 (fun H locs hW => ?_)
    refine lv_aload_n C.x C.b dX8_addByte_20 rfl (lv_at hl 0 rfl) ?_
    refine lv_dup C.x C.b dX8_addByte_21 rfl ?_
    replace hf := x_b1 hf; obtain ⟨x22_5, hx22_5, hf⟩ := hf
    refine x_geti C hW fg_X8_15_11 hx22_5 dX8_addByte_22 ?_
    refine lv_iconst (v := 1) C.x C.b dX8_addByte_25 (by decide) ?_
    refine lv_iadd C.x C.b dX8_addByte_26 ?_
    replace hf := x_b1 hf; obtain ⟨M27_6, hM27_6, hf⟩ := hf
    refine x_puti C hW fp_X8_15_11 hM27_6 (fun h => by cases h) dX8_addByte_27 (fun H locs hW => ?_)
    rw [x_e0 hf]
    exact x_vret C hr hW dX8_addByte_30

theorem dX8_sortOf_0 : decode cX8_sortOf 0 = .ok (.iload_n 0, 1) := by decide +kernel
theorem dX8_sortOf_1 : decode cX8_sortOf 1 = .ok (.bipush 32, 2) := by decide +kernel
theorem dX8_sortOf_3 : decode cX8_sortOf 3 = .ok (.if_icmp .ne 5, 3) := by decide +kernel
theorem dX8_sortOf_6 : decode cX8_sortOf 6 = .ok (.iconst 1, 1) := by decide +kernel
theorem dX8_sortOf_7 : decode cX8_sortOf 7 = .ok (.ireturn, 1) := by decide +kernel
theorem dX8_sortOf_8 : decode cX8_sortOf 8 = .ok (.iload_n 0, 1) := by decide +kernel
theorem dX8_sortOf_9 : decode cX8_sortOf 9 = .ok (.bipush 97, 2) := by decide +kernel
theorem dX8_sortOf_11 : decode cX8_sortOf 11 = .ok (.bipush 122, 2) := by decide +kernel
theorem dX8_sortOf_13 : decode cX8_sortOf 13 = .ok (.invokestatic 61, 3) := by decide +kernel
theorem dX8_sortOf_16 : decode cX8_sortOf 16 = .ok (.ifCond .eq 5, 3) := by decide +kernel
theorem dX8_sortOf_19 : decode cX8_sortOf 19 = .ok (.iconst 2, 1) := by decide +kernel
theorem dX8_sortOf_20 : decode cX8_sortOf 20 = .ok (.ireturn, 1) := by decide +kernel
theorem dX8_sortOf_21 : decode cX8_sortOf 21 = .ok (.iload_n 0, 1) := by decide +kernel
theorem dX8_sortOf_22 : decode cX8_sortOf 22 = .ok (.bipush 48, 2) := by decide +kernel
theorem dX8_sortOf_24 : decode cX8_sortOf 24 = .ok (.bipush 57, 2) := by decide +kernel
theorem dX8_sortOf_26 : decode cX8_sortOf 26 = .ok (.invokestatic 61, 3) := by decide +kernel
theorem dX8_sortOf_29 : decode cX8_sortOf 29 = .ok (.ifCond .eq 7, 3) := by decide +kernel
theorem dX8_sortOf_32 : decode cX8_sortOf 32 = .ok (.iconst 3, 1) := by decide +kernel
theorem dX8_sortOf_33 : decode cX8_sortOf 33 = .ok (.goto 4, 3) := by decide +kernel
theorem dX8_sortOf_36 : decode cX8_sortOf 36 = .ok (.iconst 4, 1) := by decide +kernel
theorem dX8_sortOf_37 : decode cX8_sortOf 37 = .ok (.ireturn, 1) := by decide +kernel
def fX8_sortOf (M : Mm) (p1 : Int32) : Option Int32 :=
  if p1 = 32 then
    some 1
  else
    B1 (fX11_isWithin M p1 97 122) fun x13_1 =>
    if x13_1 = 0 then
      B1 (fX11_isWithin M p1 48 57) fun x26_2 =>
      if x26_2 = 0 then
        some 4
      else
        some 3
    else
      some 2
set_option maxRecDepth 100000 in
set_option maxHeartbeats 4000000 in
theorem qX8_sortOf (l : Launch) (E : Ev) {M : Mm} {p1 : Int32} {rz : Int32} (hf : fX8_sortOf M p1 = some rz) : Ct l E yX8_sortOf cX8_sortOf 1 (some .int) 1 22 0 0 [.int p1] M (some (.int rz)) M := by
  refine ct_of (by decide +kernel) (Nat.le_of_ble_eq_true rfl) fun p e s m args below meth c C hr hin hW ls hl => ?_
  have hl : lv_has ls 1 [(0, .int p1)] := hl
  unfold fX8_sortOf at hf
  refine lv_iload_n C.x C.b dX8_sortOf_0 rfl (lv_at hl 0 rfl) ?_
  refine lv_bipush (v := 32) C.x C.b dX8_sortOf_1 (by decide) ?_
  refine lv_icmp_ne (tgt := 8) C.x C.b dX8_sortOf_3 rfl (fun c3 => ?_) (fun c3 => ?_)
  · replace hf := x_in c3 hf
    refine lv_iload_n C.x C.b dX8_sortOf_8 rfl (lv_at hl 0 rfl) ?_
    refine lv_bipush (v := 97) C.x C.b dX8_sortOf_9 (by decide) ?_
    refine lv_bipush (v := 122) C.x C.b dX8_sortOf_11 (by decide) ?_
    replace hf := x_b1 hf; obtain ⟨x13_1, hx13_1, hf⟩ := hf
    refine x_callSN (host := "NylonLadder") (As := [.int p1, .int 97, .int 122]) (rest := []) C hW hl (qX11_isWithin l E hx13_1) T_2_53 T_2_32 T_1_1 T_2_33 hd_X11_isWithin rfl rfl (Nat.le_of_ble_eq_true rfl) dX8_sortOf_13 ⟨Nat.le_of_ble_eq_true rfl, Nat.le_of_ble_eq_true rfl⟩ ⟨Nat.le_of_ble_eq_true rfl, Nat.le_of_ble_eq_true rfl⟩ (fun H locs hW => ?_)
    refine lv_if_eq (tgt := 21) C.x C.b dX8_sortOf_16 rfl (fun c16 => ?_) (fun c16 => ?_)
    · replace hf := x_ip c16 hf
      refine lv_iload_n C.x C.b dX8_sortOf_21 rfl (lv_at hl 0 rfl) ?_
      refine lv_bipush (v := 48) C.x C.b dX8_sortOf_22 (by decide) ?_
      refine lv_bipush (v := 57) C.x C.b dX8_sortOf_24 (by decide) ?_
      replace hf := x_b1 hf; obtain ⟨x26_2, hx26_2, hf⟩ := hf
      refine x_callSN (host := "NylonLadder") (As := [.int p1, .int 48, .int 57]) (rest := []) C hW hl (qX11_isWithin l E hx26_2) T_2_53 T_2_32 T_1_1 T_2_33 hd_X11_isWithin rfl rfl (Nat.le_of_ble_eq_true rfl) dX8_sortOf_26 ⟨Nat.le_of_ble_eq_true rfl, Nat.le_of_ble_eq_true rfl⟩ ⟨Nat.le_of_ble_eq_true rfl, Nat.le_of_ble_eq_true rfl⟩ (fun H locs hW => ?_)
      refine lv_if_eq (tgt := 36) C.x C.b dX8_sortOf_29 rfl (fun c29 => ?_) (fun c29 => ?_)
      · replace hf := x_ip c29 hf
        refine lv_iconst (v := 4) C.x C.b dX8_sortOf_36 (by decide) ?_
        rw [x_e0 hf]
        exact x_iret C hr hW dX8_sortOf_37
      · replace hf := x_in c29 hf
        refine lv_iconst (v := 3) C.x C.b dX8_sortOf_32 (by decide) ?_
        refine lv_goto (tgt := 37) C.x C.b dX8_sortOf_33 rfl ?_
        rw [x_e0 hf]
        exact x_iret C hr hW dX8_sortOf_37
    · replace hf := x_in c16 hf
      refine lv_iconst (v := 2) C.x C.b dX8_sortOf_19 (by decide) ?_
      rw [x_e0 hf]
      exact x_iret C hr hW dX8_sortOf_20
  · replace hf := x_ip c3 hf
    refine lv_iconst (v := 1) C.x C.b dX8_sortOf_6 (by decide) ?_
    rw [x_e0 hf]
    exact x_iret C hr hW dX8_sortOf_7

theorem dX8_addToken_0 : decode cX8_addToken 0 = .ok (.aload_n 0, 1) := by decide +kernel
theorem dX8_addToken_1 : decode cX8_addToken 1 = .ok (.getfield 35, 3) := by decide +kernel
theorem dX8_addToken_4 : decode cX8_addToken 4 = .ok (.aload_n 0, 1) := by decide +kernel
theorem dX8_addToken_5 : decode cX8_addToken 5 = .ok (.getfield 26, 3) := by decide +kernel
theorem dX8_addToken_8 : decode cX8_addToken 8 = .ok (.arraylength, 1) := by decide +kernel
theorem dX8_addToken_9 : decode cX8_addToken 9 = .ok (.if_icmp .ge 43, 3) := by decide +kernel
theorem dX8_addToken_12 : decode cX8_addToken 12 = .ok (.aload_n 0, 1) := by decide +kernel
theorem dX8_addToken_13 : decode cX8_addToken 13 = .ok (.getfield 26, 3) := by decide +kernel
theorem dX8_addToken_16 : decode cX8_addToken 16 = .ok (.aload_n 0, 1) := by decide +kernel
theorem dX8_addToken_17 : decode cX8_addToken 17 = .ok (.getfield 35, 3) := by decide +kernel
theorem dX8_addToken_20 : decode cX8_addToken 20 = .ok (.iload_n 1, 1) := by decide +kernel
theorem dX8_addToken_21 : decode cX8_addToken 21 = .ok (.iastore, 1) := by decide +kernel
theorem dX8_addToken_22 : decode cX8_addToken 22 = .ok (.aload_n 0, 1) := by decide +kernel
theorem dX8_addToken_23 : decode cX8_addToken 23 = .ok (.getfield 29, 3) := by decide +kernel
theorem dX8_addToken_26 : decode cX8_addToken 26 = .ok (.aload_n 0, 1) := by decide +kernel
theorem dX8_addToken_27 : decode cX8_addToken 27 = .ok (.getfield 35, 3) := by decide +kernel
theorem dX8_addToken_30 : decode cX8_addToken 30 = .ok (.iload_n 2, 1) := by decide +kernel
theorem dX8_addToken_31 : decode cX8_addToken 31 = .ok (.iastore, 1) := by decide +kernel
theorem dX8_addToken_32 : decode cX8_addToken 32 = .ok (.aload_n 0, 1) := by decide +kernel
theorem dX8_addToken_33 : decode cX8_addToken 33 = .ok (.getfield 32, 3) := by decide +kernel
theorem dX8_addToken_36 : decode cX8_addToken 36 = .ok (.aload_n 0, 1) := by decide +kernel
theorem dX8_addToken_37 : decode cX8_addToken 37 = .ok (.getfield 35, 3) := by decide +kernel
theorem dX8_addToken_40 : decode cX8_addToken 40 = .ok (.iload_n 3, 1) := by decide +kernel
theorem dX8_addToken_41 : decode cX8_addToken 41 = .ok (.iastore, 1) := by decide +kernel
theorem dX8_addToken_42 : decode cX8_addToken 42 = .ok (.aload_n 0, 1) := by decide +kernel
theorem dX8_addToken_43 : decode cX8_addToken 43 = .ok (.dup, 1) := by decide +kernel
theorem dX8_addToken_44 : decode cX8_addToken 44 = .ok (.getfield 35, 3) := by decide +kernel
theorem dX8_addToken_47 : decode cX8_addToken 47 = .ok (.iconst 1, 1) := by decide +kernel
theorem dX8_addToken_48 : decode cX8_addToken 48 = .ok (.iadd, 1) := by decide +kernel
theorem dX8_addToken_49 : decode cX8_addToken 49 = .ok (.putfield 35, 3) := by decide +kernel
theorem dX8_addToken_52 : decode cX8_addToken 52 = .ok (.return_, 1) := by decide +kernel
theorem fg_X8_35_11 : FdG "NylonLadder$Tape" 35 11 6 false := ⟨_, _, _, _, rfl, by decide, by decide, by decide, gxX8, by decide, T_1_178, Or.inl rfl, rfl⟩
theorem fg_X8_26_11 : FdG "NylonLadder$Tape" 26 11 3 true := ⟨_, _, _, _, rfl, by decide, by decide, by decide, gxX8, by decide, T_1_175, Or.inl rfl, rfl⟩
theorem fg_X8_29_11 : FdG "NylonLadder$Tape" 29 11 4 true := ⟨_, _, _, _, rfl, by decide, by decide, by decide, gxX8, by decide, T_1_176, Or.inl rfl, rfl⟩
theorem fg_X8_32_11 : FdG "NylonLadder$Tape" 32 11 5 true := ⟨_, _, _, _, rfl, by decide, by decide, by decide, gxX8, by decide, T_1_177, Or.inl rfl, rfl⟩
def fX8_addToken (M : Mm) (o : Nat) (p1 : Int32) (p2 : Int32) (p3 : Int32) : Option Mm :=
  B1 (rdI M o 11 6) fun x1_1 =>
  B1 (rdN M o 11 3) fun a5_2 =>
  B1 (alN_ M a5_2) fun x8_3 =>
  if x8_3 ≤ x1_1 then
    some M
  else
    B1 (rdN M o 11 3) fun a13_4 =>
    B1 (rdI M o 11 6) fun x17_5 =>
    B1 (asI M a13_4 x17_5 p1) fun M21_6 =>
    B1 (rdN M21_6 o 11 4) fun a23_7 =>
    B1 (rdI M21_6 o 11 6) fun x27_8 =>
    B1 (asI M21_6 a23_7 x27_8 p2) fun M31_9 =>
    B1 (rdN M31_9 o 11 5) fun a33_10 =>
    B1 (rdI M31_9 o 11 6) fun x37_11 =>
    B1 (asI M31_9 a33_10 x37_11 p3) fun M41_12 =>
    B1 (rdI M41_12 o 11 6) fun x44_13 =>
    B1 (wrI M41_12 o 11 6 (x44_13 + 1)) fun M49_14 =>
    some M49_14
set_option maxRecDepth 100000 in
set_option maxHeartbeats 4000000 in
theorem qX8_addToken (l : Launch) (E : Ev) {M : Mm} {o : Nat} {p1 : Int32} {p2 : Int32} {p3 : Int32} {Mz : Mm} (hf : fX8_addToken M o p1 p2 p3 = some Mz) : Ct l E yX8_addToken cX8_addToken 4 none 0 0 0 0 [.ref (E.b + o), .int p1, .int p2, .int p3] M none Mz := by
  refine ct_of (by decide +kernel) (Nat.le_of_ble_eq_true rfl) fun p e s m args below meth c C hr hin hW ls hl => ?_
  have hl : lv_has ls 4 [(0, .ref (E.b + o)), (1, .int p1), (2, .int p2), (3, .int p3)] := hl
  unfold fX8_addToken at hf
  refine lv_aload_n C.x C.b dX8_addToken_0 rfl (lv_at hl 0 rfl) ?_
  replace hf := x_b1 hf; obtain ⟨x1_1, hx1_1, hf⟩ := hf
  refine x_geti C hW fg_X8_35_11 hx1_1 dX8_addToken_1 ?_
  refine lv_aload_n C.x C.b dX8_addToken_4 rfl (lv_at hl 0 rfl) ?_
  replace hf := x_b1 hf; obtain ⟨a5_2, ha5_2, hf⟩ := hf
  refine x_getn C hW fg_X8_26_11 ha5_2 dX8_addToken_5 ?_
  replace hf := x_b1 hf; obtain ⟨x8_3, hx8_3, hf⟩ := hf
  refine x_alen C hW hx8_3 dX8_addToken_8 ?_
  refine lv_icmp_ge (tgt := 52) C.x C.b dX8_addToken_9 rfl (fun c9 => ?_) (fun c9 => ?_)
  · replace hf := x_ip c9 hf
    rw [x_e0 hf]
    exact x_vret C hr hW dX8_addToken_52
  · replace hf := x_in c9 hf
    refine lv_aload_n C.x C.b dX8_addToken_12 rfl (lv_at hl 0 rfl) ?_
    replace hf := x_b1 hf; obtain ⟨a13_4, ha13_4, hf⟩ := hf
    refine x_getn C hW fg_X8_26_11 ha13_4 dX8_addToken_13 ?_
    refine lv_aload_n C.x C.b dX8_addToken_16 rfl (lv_at hl 0 rfl) ?_
    replace hf := x_b1 hf; obtain ⟨x17_5, hx17_5, hf⟩ := hf
    refine x_geti C hW fg_X8_35_11 hx17_5 dX8_addToken_17 ?_
    refine lv_iload_n C.x C.b dX8_addToken_20 rfl (lv_at hl 1 rfl) ?_
    replace hf := x_b1 hf; obtain ⟨M21_6, hM21_6, hf⟩ := hf
    refine x_iast C hW hM21_6 dX8_addToken_21 (fun H locs hW => ?_)
    refine lv_aload_n C.x C.b dX8_addToken_22 rfl (lv_at hl 0 rfl) ?_
    replace hf := x_b1 hf; obtain ⟨a23_7, ha23_7, hf⟩ := hf
    refine x_getn C hW fg_X8_29_11 ha23_7 dX8_addToken_23 ?_
    refine lv_aload_n C.x C.b dX8_addToken_26 rfl (lv_at hl 0 rfl) ?_
    replace hf := x_b1 hf; obtain ⟨x27_8, hx27_8, hf⟩ := hf
    refine x_geti C hW fg_X8_35_11 hx27_8 dX8_addToken_27 ?_
    refine lv_iload_n C.x C.b dX8_addToken_30 rfl (lv_at hl 2 rfl) ?_
    replace hf := x_b1 hf; obtain ⟨M31_9, hM31_9, hf⟩ := hf
    refine x_iast C hW hM31_9 dX8_addToken_31 (fun H locs hW => ?_)
    refine lv_aload_n C.x C.b dX8_addToken_32 rfl (lv_at hl 0 rfl) ?_
    replace hf := x_b1 hf; obtain ⟨a33_10, ha33_10, hf⟩ := hf
    refine x_getn C hW fg_X8_32_11 ha33_10 dX8_addToken_33 ?_
    refine lv_aload_n C.x C.b dX8_addToken_36 rfl (lv_at hl 0 rfl) ?_
    replace hf := x_b1 hf; obtain ⟨x37_11, hx37_11, hf⟩ := hf
    refine x_geti C hW fg_X8_35_11 hx37_11 dX8_addToken_37 ?_
    refine lv_iload_n C.x C.b dX8_addToken_40 rfl (lv_at hl 3 rfl) ?_
    replace hf := x_b1 hf; obtain ⟨M41_12, hM41_12, hf⟩ := hf
    refine x_iast C hW hM41_12 dX8_addToken_41 (fun H locs hW => ?_)
    refine lv_aload_n C.x C.b dX8_addToken_42 rfl (lv_at hl 0 rfl) ?_
    refine lv_dup C.x C.b dX8_addToken_43 rfl ?_
    replace hf := x_b1 hf; obtain ⟨x44_13, hx44_13, hf⟩ := hf
    refine x_geti C hW fg_X8_35_11 hx44_13 dX8_addToken_44 ?_
    refine lv_iconst (v := 1) C.x C.b dX8_addToken_47 (by decide) ?_
    refine lv_iadd C.x C.b dX8_addToken_48 ?_
    replace hf := x_b1 hf; obtain ⟨M49_14, hM49_14, hf⟩ := hf
    refine x_puti C hW fp_X8_35_11 hM49_14 (fun h => by cases h) dX8_addToken_49 (fun H locs hW => ?_)
    rw [x_e0 hf]
    exact x_vret C hr hW dX8_addToken_52

theorem dX8_part_0 : decode cX8_part 0 = .ok (.aload_n 0, 1) := by decide +kernel
theorem dX8_part_1 : decode cX8_part 1 = .ok (.iconst 0, 1) := by decide +kernel
theorem dX8_part_2 : decode cX8_part 2 = .ok (.putfield 35, 3) := by decide +kernel
theorem dX8_part_5 : decode cX8_part 5 = .ok (.iconst 0, 1) := by decide +kernel
theorem dX8_part_6 : decode cX8_part 6 = .ok (.istore_n 1, 1) := by decide +kernel
theorem dX8_part_7 : decode cX8_part 7 = .ok (.iload_n 1, 1) := by decide +kernel
theorem dX8_part_8 : decode cX8_part 8 = .ok (.aload_n 0, 1) := by decide +kernel
theorem dX8_part_9 : decode cX8_part 9 = .ok (.getfield 15, 3) := by decide +kernel
theorem dX8_part_12 : decode cX8_part 12 = .ok (.if_icmp .ge 65, 3) := by decide +kernel
theorem dX8_part_15 : decode cX8_part 15 = .ok (.iload_n 1, 1) := by decide +kernel
theorem dX8_part_16 : decode cX8_part 16 = .ok (.istore_n 2, 1) := by decide +kernel
theorem dX8_part_17 : decode cX8_part 17 = .ok (.aload_n 0, 1) := by decide +kernel
theorem dX8_part_18 : decode cX8_part 18 = .ok (.getfield 9, 3) := by decide +kernel
theorem dX8_part_21 : decode cX8_part 21 = .ok (.iload_n 2, 1) := by decide +kernel
theorem dX8_part_22 : decode cX8_part 22 = .ok (.iaload, 1) := by decide +kernel
theorem dX8_part_23 : decode cX8_part 23 = .ok (.invokestatic 53, 3) := by decide +kernel
theorem dX8_part_26 : decode cX8_part 26 = .ok (.istore_n 3, 1) := by decide +kernel
theorem dX8_part_27 : decode cX8_part 27 = .ok (.iinc 1 1, 3) := by decide +kernel
theorem dX8_part_30 : decode cX8_part 30 = .ok (.iload_n 3, 1) := by decide +kernel
theorem dX8_part_31 : decode cX8_part 31 = .ok (.iconst 4, 1) := by decide +kernel
theorem dX8_part_32 : decode cX8_part 32 = .ok (.if_icmp .eq 30, 3) := by decide +kernel
theorem dX8_part_35 : decode cX8_part 35 = .ok (.iload_n 1, 1) := by decide +kernel
theorem dX8_part_36 : decode cX8_part 36 = .ok (.aload_n 0, 1) := by decide +kernel
theorem dX8_part_37 : decode cX8_part 37 = .ok (.getfield 15, 3) := by decide +kernel
theorem dX8_part_40 : decode cX8_part 40 = .ok (.if_icmp .ge 22, 3) := by decide +kernel
theorem dX8_part_43 : decode cX8_part 43 = .ok (.aload_n 0, 1) := by decide +kernel
theorem dX8_part_44 : decode cX8_part 44 = .ok (.getfield 9, 3) := by decide +kernel
theorem dX8_part_47 : decode cX8_part 47 = .ok (.iload_n 1, 1) := by decide +kernel
theorem dX8_part_48 : decode cX8_part 48 = .ok (.iaload, 1) := by decide +kernel
theorem dX8_part_49 : decode cX8_part 49 = .ok (.invokestatic 53, 3) := by decide +kernel
theorem dX8_part_52 : decode cX8_part 52 = .ok (.iload_n 3, 1) := by decide +kernel
theorem dX8_part_53 : decode cX8_part 53 = .ok (.if_icmp .ne 9, 3) := by decide +kernel
theorem dX8_part_56 : decode cX8_part 56 = .ok (.iinc 1 1, 3) := by decide +kernel
theorem dX8_part_59 : decode cX8_part 59 = .ok (.goto (-29), 3) := by decide +kernel
theorem dX8_part_62 : decode cX8_part 62 = .ok (.iload_n 3, 1) := by decide +kernel
theorem dX8_part_63 : decode cX8_part 63 = .ok (.iconst 1, 1) := by decide +kernel
theorem dX8_part_64 : decode cX8_part 64 = .ok (.if_icmp .eq 10, 3) := by decide +kernel
theorem dX8_part_67 : decode cX8_part 67 = .ok (.aload_n 0, 1) := by decide +kernel
theorem dX8_part_68 : decode cX8_part 68 = .ok (.iload_n 3, 1) := by decide +kernel
theorem dX8_part_69 : decode cX8_part 69 = .ok (.iload_n 2, 1) := by decide +kernel
theorem dX8_part_70 : decode cX8_part 70 = .ok (.iload_n 1, 1) := by decide +kernel
theorem dX8_part_71 : decode cX8_part 71 = .ok (.invokevirtual 57, 3) := by decide +kernel
theorem dX8_part_74 : decode cX8_part 74 = .ok (.goto (-67), 3) := by decide +kernel
theorem dX8_part_77 : decode cX8_part 77 = .ok (.aload_n 0, 1) := by decide +kernel
theorem dX8_part_78 : decode cX8_part 78 = .ok (.iconst 0, 1) := by decide +kernel
theorem dX8_part_79 : decode cX8_part 79 = .ok (.aload_n 0, 1) := by decide +kernel
theorem dX8_part_80 : decode cX8_part 80 = .ok (.getfield 15, 3) := by decide +kernel
theorem dX8_part_83 : decode cX8_part 83 = .ok (.aload_n 0, 1) := by decide +kernel
theorem dX8_part_84 : decode cX8_part 84 = .ok (.getfield 15, 3) := by decide +kernel
theorem dX8_part_87 : decode cX8_part 87 = .ok (.invokevirtual 57, 3) := by decide +kernel
theorem dX8_part_90 : decode cX8_part 90 = .ok (.return_, 1) := by decide +kernel
theorem hd_X8_addToken : yX8_addToken.cls ≠ "java/lang/invoke/MethodHandle" ∧ yX8_addToken.cls ≠ "java/lang/invoke/VarHandle" ∧ (parseMethodDescriptor yX8_addToken.desc).map (fun d => d.parameters.length) = some 3 := by decide +kernel
theorem gv_X8_57 : GoodIn gT (wsV "NylonLadder$Tape" 57 "NylonLadder$Tape" yX8_addToken (Cond.code yX8_addToken cX8_addToken 4 none :: gT)) := good_V T_2_54 T_2_56 TS_1 T_1_6 T_2_57
theorem hd_X8_sortOf : yX8_sortOf.cls ≠ "java/lang/invoke/MethodHandle" ∧ yX8_sortOf.cls ≠ "java/lang/invoke/VarHandle" ∧ (parseMethodDescriptor yX8_sortOf.desc).map (fun d => d.parameters.length) = some 1 := by decide +kernel
theorem gs_X8_53 : GoodIn gT (va_wsS "NylonLadder$Tape" 53 yX8_sortOf (Cond.code yX8_sortOf cX8_sortOf 1 (some .int) :: gT)) := good_S T_2_50 T_2_51 T_1_6 T_2_52
def fX8_part_L30 (kk : Int32 → Mm → Option Mm) (o : Nat) (v2 : Int32) (v3 : Int32) : Nat → Int32 → Mm → Option Mm
  | 0, _, _ => none
  | n + 1, v1, M =>
    if v3 = 4 then
      kk v1 M
    else
      B1 (rdI M o 11 1) fun x37_10 =>
      if x37_10 ≤ v1 then
        kk v1 M
      else
        B1 (rdN M o 11 0) fun a44_11 =>
        B1 (alI M a44_11 v1) fun x48_12 =>
        B1 (fX8_sortOf M x48_12) fun x49_13 =>
        if x49_13 = v3 then
          fX8_part_L30 kk o v2 v3 n (v1 + 1) M
        else
          kk v1 M
def fX8_part_L7 (o : Nat) : Nat → Int32 → Mm → Option Mm
  | 0, _, _ => none
  | n + 1, v1, M =>
    B1 (rdI M o 11 1) fun x9_2 =>
    if x9_2 ≤ v1 then
      B1 (rdI M o 11 1) fun x80_3 =>
      B1 (rdI M o 11 1) fun x84_4 =>
      B1 (gk M o 11) fun _ =>
      B1 (fX8_addToken M o 0 x80_3 x84_4) fun M87_6 =>
      some M87_6
    else
      B1 (rdN M o 11 0) fun a18_7 =>
      B1 (alI M a18_7 v1) fun x22_8 =>
      B1 (fX8_sortOf M x22_8) fun x23_9 =>
      fX8_part_L30 (fun w62_14 M62_15 =>
        if x23_9 = 1 then
          fX8_part_L7 o n w62_14 M62_15
        else
          B1 (gk M62_15 o 11) fun _ =>
          B1 (fX8_addToken M62_15 o x23_9 v1 w62_14) fun M71_17 =>
          fX8_part_L7 o n w62_14 M71_17) o v1 x23_9 FL (v1 + 1) M
def fX8_part (M : Mm) (o : Nat) : Option Mm :=
  B1 (wrI M o 11 6 0) fun M2_1 =>
  fX8_part_L7 o FL 0 M2_1
set_option maxRecDepth 100000 in
set_option maxHeartbeats 4000000 in
theorem kX8_part_L30 {l : Launch} {E : Ev} {p : Program} {e : Env} {s : State} {m : MethodId} {args : Array Value} {below : List Frame} {meth : Method} {c : Code} (C : Cx E p s m args meth c cX8_part yX8_part.cls 4) (hr : meth.sig.returnType = none) (hin : yX8_part.name = "<init>" → meth.name = "<init>")  {o : Nat} {v2 : Int32} {v3 : Int32} {Mz : Mm} {kk : Int32 → Mm → Option Mm} (hkk : ∀ (v1 : Int32) (M : Mm), kk v1 M = some Mz → ∀ (H : Heap) (locs : List Loc) (ls : Array Slot), Wx E s H locs M → lv_has ls 4 [(0, .ref (E.b + o)), (1, .int v1), (2, .int v2), (3, .int v3)] → W p l e (rM 2 42 0 0) s m args below meth c H locs 0 0 (MQ below (Qp E none Mz) args s 0 0 E.A) (F0 m 62 ls [])) : ∀ (n : Nat) (v1 : Int32) (M : Mm), fX8_part_L30 kk o v2 v3 n v1 M = some Mz → ∀ (H : Heap) (locs : List Loc) (ls : Array Slot), Wx E s H locs M → lv_has ls 4 [(0, .ref (E.b + o)), (1, .int v1), (2, .int v2), (3, .int v3)] → W p l e (rM 2 42 0 0) s m args below meth c H locs 0 0 (MQ below (Qp E none Mz) args s 0 0 E.A) (F0 m 30 ls []) := by
  intro n
  induction n with
  | zero =>
    intro v1 M hf
    unfold fX8_part_L30 at hf
    cases hf
  | succ n ih =>
    intro v1 M hf H locs ls hW hl
    unfold fX8_part_L30 at hf
    refine lv_iload_n C.x C.b dX8_part_30 rfl (lv_at hl 3 rfl) ?_
    refine lv_iconst (v := 4) C.x C.b dX8_part_31 (by decide) ?_
    refine lv_icmp_eq (tgt := 62) C.x C.b dX8_part_32 rfl (fun c32 => ?_) (fun c32 => ?_)
    · replace hf := x_ip c32 hf
      exact hkk v1 M hf _ _ _ hW (lv_sub hl [0, 1, 2, 3] rfl)
    · replace hf := x_in c32 hf
      refine lv_iload_n C.x C.b dX8_part_35 rfl (lv_at hl 1 rfl) ?_
      refine lv_aload_n C.x C.b dX8_part_36 rfl (lv_at hl 0 rfl) ?_
      replace hf := x_b1 hf; obtain ⟨x37_10, hx37_10, hf⟩ := hf
      refine x_geti C hW fg_X8_15_11 hx37_10 dX8_part_37 ?_
      refine lv_icmp_ge (tgt := 62) C.x C.b dX8_part_40 rfl (fun c40 => ?_) (fun c40 => ?_)
      · replace hf := x_ip c40 hf
        exact hkk v1 M hf _ _ _ hW (lv_sub hl [0, 1, 2, 3] rfl)
      · replace hf := x_in c40 hf
        refine lv_aload_n C.x C.b dX8_part_43 rfl (lv_at hl 0 rfl) ?_
        replace hf := x_b1 hf; obtain ⟨a44_11, ha44_11, hf⟩ := hf
        refine x_getn C hW fg_X8_9_11 ha44_11 dX8_part_44 ?_
        refine lv_iload_n C.x C.b dX8_part_47 rfl (lv_at hl 1 rfl) ?_
        replace hf := x_b1 hf; obtain ⟨x48_12, hx48_12, hf⟩ := hf
        refine x_iald C hW hx48_12 dX8_part_48 ?_
        replace hf := x_b1 hf; obtain ⟨x49_13, hx49_13, hf⟩ := hf
        refine x_callS (As := [.int x48_12]) (rest := []) C hW hl (qX8_sortOf l E hx49_13) gs_X8_53 hd_X8_sortOf rfl rfl (Nat.le_of_ble_eq_true rfl) dX8_part_49 ⟨Nat.le_of_ble_eq_true rfl, Nat.le_of_ble_eq_true rfl⟩ ⟨Nat.le_of_ble_eq_true rfl, Nat.le_of_ble_eq_true rfl⟩ (fun H locs hW => ?_)
        refine lv_iload_n C.x C.b dX8_part_52 rfl (lv_at hl 3 rfl) ?_
        refine lv_icmp_ne (tgt := 62) C.x C.b dX8_part_53 rfl (fun c53 => ?_) (fun c53 => ?_)
        · replace hf := x_in c53 hf
          exact hkk v1 M hf _ _ _ hW (lv_sub hl [0, 1, 2, 3] rfl)
        · replace hf := x_ip c53 hf
          refine lv_iinc (v := (v1 + 1)) (lv' := [(1, .int (v1 + 1)), (0, .ref (E.b + _)), (2, .int _), (3, .int _)]) C.x C.b dX8_part_56 hl (k := 1) rfl (by first | rfl | decide) (by decide) rfl (fun ls hl => ?_)
          refine lv_goto (tgt := 30) C.x C.b dX8_part_59 rfl ?_
          exact ih (v1 + 1) M hf _ _ _ hW (lv_sub hl [1, 0, 2, 3] rfl)
set_option maxRecDepth 100000 in
set_option maxHeartbeats 4000000 in
theorem kX8_part_L7 {l : Launch} {E : Ev} {p : Program} {e : Env} {s : State} {m : MethodId} {args : Array Value} {below : List Frame} {meth : Method} {c : Code} (C : Cx E p s m args meth c cX8_part yX8_part.cls 4) (hr : meth.sig.returnType = none) (hin : yX8_part.name = "<init>" → meth.name = "<init>")  {o : Nat} {Mz : Mm} : ∀ (n : Nat) (v1 : Int32) (M : Mm), fX8_part_L7 o n v1 M = some Mz → ∀ (H : Heap) (locs : List Loc) (ls : Array Slot), Wx E s H locs M → lv_has ls 4 [(0, .ref (E.b + o)), (1, .int v1)] → W p l e (rM 2 42 0 0) s m args below meth c H locs 0 0 (MQ below (Qp E none Mz) args s 0 0 E.A) (F0 m 7 ls []) := by
  intro n
  induction n with
  | zero =>
    intro v1 M hf
    unfold fX8_part_L7 at hf
    cases hf
  | succ n ih =>
    intro v1 M hf H locs ls hW hl
    unfold fX8_part_L7 at hf
    refine lv_iload_n C.x C.b dX8_part_7 rfl (lv_at hl 1 rfl) ?_
    refine lv_aload_n C.x C.b dX8_part_8 rfl (lv_at hl 0 rfl) ?_
    replace hf := x_b1 hf; obtain ⟨x9_2, hx9_2, hf⟩ := hf
    refine x_geti C hW fg_X8_15_11 hx9_2 dX8_part_9 ?_
    refine lv_icmp_ge (tgt := 77) C.x C.b dX8_part_12 rfl (fun c12 => ?_) (fun c12 => ?_)
    · replace hf := x_ip c12 hf
      refine lv_aload_n C.x C.b dX8_part_77 rfl (lv_at hl 0 rfl) ?_
      refine lv_iconst (v := 0) C.x C.b dX8_part_78 (by decide) ?_
      refine lv_aload_n C.x C.b dX8_part_79 rfl (lv_at hl 0 rfl) ?_
      replace hf := x_b1 hf; obtain ⟨x80_3, hx80_3, hf⟩ := hf
      refine x_geti C hW fg_X8_15_11 hx80_3 dX8_part_80 ?_
      refine lv_aload_n C.x C.b dX8_part_83 rfl (lv_at hl 0 rfl) ?_
      replace hf := x_b1 hf; obtain ⟨x84_4, hx84_4, hf⟩ := hf
      refine x_geti C hW fg_X8_15_11 hx84_4 dX8_part_84 ?_
      replace hf := x_b1 hf; obtain ⟨_, hk87_5, hf⟩ := hf
      replace hf := x_b1 hf; obtain ⟨M87_6, hM87_6, hf⟩ := hf
      refine x_callV (As := [.int 0, .int x80_3, .int x84_4]) (a := o) (rest := []) C hW hl (qX8_addToken l E hM87_6) (x_gk hk87_5) (by decide) (by decide) rfl gv_X8_57 ⟨rfl, hd_X8_addToken⟩ rfl rfl (Nat.le_of_ble_eq_true rfl) dX8_part_87 ⟨Nat.le_of_ble_eq_true rfl, Nat.le_of_ble_eq_true rfl⟩ ⟨Nat.le_of_ble_eq_true rfl, Nat.le_of_ble_eq_true rfl⟩ (fun H locs hW => ?_)
      rw [x_e0 hf]
      exact x_vret C hr hW dX8_part_90
    · replace hf := x_in c12 hf
      refine lv_iload_n C.x C.b dX8_part_15 rfl (lv_at hl 1 rfl) ?_
      refine lv_istore_n (lv' := [(2, .int _), (0, .ref (E.b + _)), (1, .int _)]) C.x C.b dX8_part_16 rfl hl (by decide) rfl (fun ls hl => ?_)
      refine lv_aload_n C.x C.b dX8_part_17 rfl (lv_at hl 1 rfl) ?_
      replace hf := x_b1 hf; obtain ⟨a18_7, ha18_7, hf⟩ := hf
      refine x_getn C hW fg_X8_9_11 ha18_7 dX8_part_18 ?_
      refine lv_iload_n C.x C.b dX8_part_21 rfl (lv_at hl 0 rfl) ?_
      replace hf := x_b1 hf; obtain ⟨x22_8, hx22_8, hf⟩ := hf
      refine x_iald C hW hx22_8 dX8_part_22 ?_
      replace hf := x_b1 hf; obtain ⟨x23_9, hx23_9, hf⟩ := hf
      refine x_callS (As := [.int x22_8]) (rest := []) C hW hl (qX8_sortOf l E hx23_9) gs_X8_53 hd_X8_sortOf rfl rfl (Nat.le_of_ble_eq_true rfl) dX8_part_23 ⟨Nat.le_of_ble_eq_true rfl, Nat.le_of_ble_eq_true rfl⟩ ⟨Nat.le_of_ble_eq_true rfl, Nat.le_of_ble_eq_true rfl⟩ (fun H locs hW => ?_)
      refine lv_istore_n (lv' := [(3, .int _), (2, .int _), (0, .ref (E.b + _)), (1, .int _)]) C.x C.b dX8_part_26 rfl hl (by decide) rfl (fun ls hl => ?_)
      refine lv_iinc (v := (v1 + 1)) (lv' := [(1, .int (v1 + 1)), (3, .int _), (2, .int _), (0, .ref (E.b + _))]) C.x C.b dX8_part_27 hl (k := 3) rfl (by first | rfl | decide) (by decide) rfl (fun ls hl => ?_)
      refine kX8_part_L30 C hr hin ?_ FL (v1 + 1) M hf _ _ _ hW (lv_sub hl [3, 0, 2, 1] rfl)
      intro w62_14 M62_15 hf H locs ls hW hl
      refine lv_iload_n C.x C.b dX8_part_62 rfl (lv_at hl 3 rfl) ?_
      refine lv_iconst (v := 1) C.x C.b dX8_part_63 (by decide) ?_
      refine lv_icmp_eq (tgt := 74) C.x C.b dX8_part_64 rfl (fun c64 => ?_) (fun c64 => ?_)
      · replace hf := x_ip c64 hf
        refine lv_goto (tgt := 7) C.x C.b dX8_part_74 rfl ?_
        exact ih w62_14 M62_15 hf _ _ _ hW (lv_sub hl [0, 1] rfl)
      · replace hf := x_in c64 hf
        refine lv_aload_n C.x C.b dX8_part_67 rfl (lv_at hl 0 rfl) ?_
        refine lv_iload_n C.x C.b dX8_part_68 rfl (lv_at hl 3 rfl) ?_
        refine lv_iload_n C.x C.b dX8_part_69 rfl (lv_at hl 2 rfl) ?_
        refine lv_iload_n C.x C.b dX8_part_70 rfl (lv_at hl 1 rfl) ?_
        replace hf := x_b1 hf; obtain ⟨_, hk71_16, hf⟩ := hf
        replace hf := x_b1 hf; obtain ⟨M71_17, hM71_17, hf⟩ := hf
        refine x_callV (As := [.int x23_9, .int v1, .int w62_14]) (a := o) (rest := []) C hW hl (qX8_addToken l E hM71_17) (x_gk hk71_16) (by decide) (by decide) rfl gv_X8_57 ⟨rfl, hd_X8_addToken⟩ rfl rfl (Nat.le_of_ble_eq_true rfl) dX8_part_71 ⟨Nat.le_of_ble_eq_true rfl, Nat.le_of_ble_eq_true rfl⟩ ⟨Nat.le_of_ble_eq_true rfl, Nat.le_of_ble_eq_true rfl⟩ (fun H locs hW => ?_)
        refine lv_goto (tgt := 7) C.x C.b dX8_part_74 rfl ?_
        exact ih w62_14 M71_17 hf _ _ _ hW (lv_sub hl [0, 1] rfl)
set_option maxRecDepth 100000 in
set_option maxHeartbeats 4000000 in
theorem qX8_part (l : Launch) (E : Ev) {M : Mm} {o : Nat} {Mz : Mm} (hf : fX8_part M o = some Mz) : Ct l E yX8_part cX8_part 4 none 2 42 0 0 [.ref (E.b + o)] M none Mz := by
  refine ct_of (by decide +kernel) (Nat.le_of_ble_eq_true rfl) fun p e s m args below meth c C hr hin hW ls hl => ?_
  have hl : lv_has ls 4 [(0, .ref (E.b + o))] := hl
  unfold fX8_part at hf
  refine lv_aload_n C.x C.b dX8_part_0 rfl (lv_at hl 0 rfl) ?_
  refine lv_iconst (v := 0) C.x C.b dX8_part_1 (by decide) ?_
  replace hf := x_b1 hf; obtain ⟨M2_1, hM2_1, hf⟩ := hf
  refine x_puti C hW fp_X8_35_11 hM2_1 (fun h => by cases h) dX8_part_2 (fun H locs hW => ?_)
  refine lv_iconst (v := 0) C.x C.b dX8_part_5 (by decide) ?_
  refine lv_istore_n (lv' := [(1, .int _), (0, .ref (E.b + _))]) C.x C.b dX8_part_6 rfl hl (by decide) rfl (fun ls hl => ?_)
  exact kX8_part_L7 C hr hin FL 0 M2_1 hf _ _ _ hW (lv_sub hl [1, 0] rfl)

theorem dX8_isName_0 : decode cX8_isName 0 = .ok (.aload_n 0, 1) := by decide +kernel
theorem dX8_isName_1 : decode cX8_isName 1 = .ok (.getfield 29, 3) := by decide +kernel
theorem dX8_isName_4 : decode cX8_isName 4 = .ok (.aload_n 0, 1) := by decide +kernel
theorem dX8_isName_5 : decode cX8_isName 5 = .ok (.getfield 38, 3) := by decide +kernel
theorem dX8_isName_8 : decode cX8_isName 8 = .ok (.iaload, 1) := by decide +kernel
theorem dX8_isName_9 : decode cX8_isName 9 = .ok (.istore_n 2, 1) := by decide +kernel
theorem dX8_isName_10 : decode cX8_isName 10 = .ok (.aload_n 0, 1) := by decide +kernel
theorem dX8_isName_11 : decode cX8_isName 11 = .ok (.getfield 26, 3) := by decide +kernel
theorem dX8_isName_14 : decode cX8_isName 14 = .ok (.aload_n 0, 1) := by decide +kernel
theorem dX8_isName_15 : decode cX8_isName 15 = .ok (.getfield 38, 3) := by decide +kernel
theorem dX8_isName_18 : decode cX8_isName 18 = .ok (.iaload, 1) := by decide +kernel
theorem dX8_isName_19 : decode cX8_isName 19 = .ok (.iconst 2, 1) := by decide +kernel
theorem dX8_isName_20 : decode cX8_isName 20 = .ok (.if_icmp .ne 21, 3) := by decide +kernel
theorem dX8_isName_23 : decode cX8_isName 23 = .ok (.aload_n 0, 1) := by decide +kernel
theorem dX8_isName_24 : decode cX8_isName 24 = .ok (.getfield 32, 3) := by decide +kernel
theorem dX8_isName_27 : decode cX8_isName 27 = .ok (.aload_n 0, 1) := by decide +kernel
theorem dX8_isName_28 : decode cX8_isName 28 = .ok (.getfield 38, 3) := by decide +kernel
theorem dX8_isName_31 : decode cX8_isName 31 = .ok (.iaload, 1) := by decide +kernel
theorem dX8_isName_32 : decode cX8_isName 32 = .ok (.iload_n 2, 1) := by decide +kernel
theorem dX8_isName_33 : decode cX8_isName 33 = .ok (.isub, 1) := by decide +kernel
theorem dX8_isName_34 : decode cX8_isName 34 = .ok (.aload_n 1, 1) := by decide +kernel
theorem dX8_isName_35 : decode cX8_isName 35 = .ok (.invokevirtual 176, 3) := by decide +kernel
theorem dX8_isName_38 : decode cX8_isName 38 = .ok (.if_icmp .eq 5, 3) := by decide +kernel
theorem dX8_isName_41 : decode cX8_isName 41 = .ok (.iconst 0, 1) := by decide +kernel
theorem dX8_isName_42 : decode cX8_isName 42 = .ok (.ireturn, 1) := by decide +kernel
theorem dX8_isName_43 : decode cX8_isName 43 = .ok (.iconst 0, 1) := by decide +kernel
theorem dX8_isName_44 : decode cX8_isName 44 = .ok (.istore_n 3, 1) := by decide +kernel
theorem dX8_isName_45 : decode cX8_isName 45 = .ok (.iload_n 3, 1) := by decide +kernel
theorem dX8_isName_46 : decode cX8_isName 46 = .ok (.aload_n 1, 1) := by decide +kernel
theorem dX8_isName_47 : decode cX8_isName 47 = .ok (.invokevirtual 176, 3) := by decide +kernel
theorem dX8_isName_50 : decode cX8_isName 50 = .ok (.if_icmp .ge 27, 3) := by decide +kernel
theorem dX8_isName_53 : decode cX8_isName 53 = .ok (.aload_n 0, 1) := by decide +kernel
theorem dX8_isName_54 : decode cX8_isName 54 = .ok (.getfield 9, 3) := by decide +kernel
theorem dX8_isName_57 : decode cX8_isName 57 = .ok (.iload_n 2, 1) := by decide +kernel
theorem dX8_isName_58 : decode cX8_isName 58 = .ok (.iload_n 3, 1) := by decide +kernel
theorem dX8_isName_59 : decode cX8_isName 59 = .ok (.iadd, 1) := by decide +kernel
theorem dX8_isName_60 : decode cX8_isName 60 = .ok (.iaload, 1) := by decide +kernel
theorem dX8_isName_61 : decode cX8_isName 61 = .ok (.aload_n 1, 1) := by decide +kernel
theorem dX8_isName_62 : decode cX8_isName 62 = .ok (.iload_n 3, 1) := by decide +kernel
theorem dX8_isName_63 : decode cX8_isName 63 = .ok (.invokevirtual 180, 3) := by decide +kernel
theorem dX8_isName_66 : decode cX8_isName 66 = .ok (.if_icmp .eq 5, 3) := by decide +kernel
theorem dX8_isName_69 : decode cX8_isName 69 = .ok (.iconst 0, 1) := by decide +kernel
theorem dX8_isName_70 : decode cX8_isName 70 = .ok (.ireturn, 1) := by decide +kernel
theorem dX8_isName_71 : decode cX8_isName 71 = .ok (.iinc 3 1, 3) := by decide +kernel
theorem dX8_isName_74 : decode cX8_isName 74 = .ok (.goto (-29), 3) := by decide +kernel
theorem dX8_isName_77 : decode cX8_isName 77 = .ok (.iconst 1, 1) := by decide +kernel
theorem dX8_isName_78 : decode cX8_isName 78 = .ok (.ireturn, 1) := by decide +kernel
theorem fg_X8_38_11 : FdG "NylonLadder$Tape" 38 11 7 false := ⟨_, _, _, _, rfl, by decide, by decide, by decide, gxX8, by decide, T_1_179, Or.inl rfl, rfl⟩
theorem gv_X8_176 : GoodIn gT (wsV "NylonLadder$Tape" 176 "java/lang/String" yJ0_length_8abf5 (Cond.code yJ0_length_8abf5 cJ0_length_8abf5 1 (some .int) :: gT)) := good_V T_2_75 T_2_76 T_2_77 T_1_11 T_2_78
theorem gv_X8_180 : GoodIn gT (wsV "NylonLadder$Tape" 180 "java/lang/String" yJ0_charAt_5068e (Cond.code yJ0_charAt_5068e cJ0_charAt_5068e 2 (some .char) :: gT)) := good_V T_2_85 T_2_86 T_2_87 T_1_11 T_2_88
def fX8_isName_L45 (M : Mm) (o : Nat) (v1 : Nat) (v2 : Int32) : Nat → Int32 → Option Int32
  | 0, _ => none
  | n + 1, v3 =>
    B1 (tq v1) fun _ =>
    B1 (fJ0_length_8abf5 M v1) fun x47_13 =>
    if x47_13 ≤ v3 then
      some 1
    else
      B1 (rdN M o 11 0) fun a54_14 =>
      B1 (alI M a54_14 (v2 + v3)) fun x60_15 =>
      B1 (tq v1) fun _ =>
      B1 (fJ0_charAt_5068e M v1 v3) fun x63_17 =>
      if x60_15 = x63_17 then
        fX8_isName_L45 M o v1 v2 n (v3 + 1)
      else
        some 0
def fX8_isName (M : Mm) (o : Nat) (p1 : Nat) : Option Int32 :=
  B1 (rdN M o 11 4) fun a1_1 =>
  B1 (rdI M o 11 7) fun x5_2 =>
  B1 (alI M a1_1 x5_2) fun x8_3 =>
  B1 (rdN M o 11 3) fun a11_4 =>
  B1 (rdI M o 11 7) fun x15_5 =>
  B1 (alI M a11_4 x15_5) fun x18_6 =>
  if x18_6 = 2 then
    B1 (rdN M o 11 5) fun a24_7 =>
    B1 (rdI M o 11 7) fun x28_8 =>
    B1 (alI M a24_7 x28_8) fun x31_9 =>
    B1 (tq p1) fun _ =>
    B1 (fJ0_length_8abf5 M p1) fun x35_11 =>
    if (x31_9 - x8_3) = x35_11 then
      fX8_isName_L45 M o p1 x8_3 FL 0
    else
      some 0
  else
    some 0
set_option maxRecDepth 100000 in
set_option maxHeartbeats 4000000 in
theorem kX8_isName_L45 {l : Launch} {E : Ev} {p : Program} {e : Env} {s : State} {m : MethodId} {args : Array Value} {below : List Frame} {meth : Method} {c : Code} (C : Cx E p s m args meth c cX8_isName yX8_isName.cls 4) (hr : meth.sig.returnType = (some .boolean)) (hin : yX8_isName.name = "<init>" → meth.name = "<init>") {M : Mm}  {o : Nat} {v1 : Nat} {v2 : Int32} {rz : Int32} : ∀ (n : Nat) (v3 : Int32), fX8_isName_L45 M o v1 v2 n v3 = some rz → ∀ (H : Heap) (locs : List Loc) (ls : Array Slot), Wx E s H locs M → lv_has ls 4 [(0, .ref (E.b + o)), (1, .ref (E.x (100 + v1))), (2, .int v2), (3, .int v3)] → W p l e (rM 4 85 0 0) s m args below meth c H locs 0 0 (MQ below (Qp E (some (.int rz)) M) args s 0 0 E.A) (F0 m 45 ls []) := by
  intro n
  induction n with
  | zero =>
    intro v3 hf
    unfold fX8_isName_L45 at hf
    cases hf
  | succ n ih =>
    intro v3 hf H locs ls hW hl
    unfold fX8_isName_L45 at hf
    refine lv_iload_n C.x C.b dX8_isName_45 rfl (lv_at hl 3 rfl) ?_
    refine lv_aload_n C.x C.b dX8_isName_46 rfl (lv_at hl 1 rfl) ?_
    replace hf := x_b1 hf; obtain ⟨_, hk47_12, hf⟩ := hf
    replace hf := x_b1 hf; obtain ⟨x47_13, hx47_13, hf⟩ := hf
    refine x_callA (As := []) (rest := [.int v3]) (Cn := "java/lang/String") C hW hl (qJ0_length_8abf5 l E hx47_13) (x_rcvT C hW (tq_lt hk47_12)) gv_X8_176 ⟨rfl, hd_J0_length_8abf5⟩ rfl rfl (Nat.le_of_ble_eq_true rfl) dX8_isName_47 ⟨Nat.le_of_ble_eq_true rfl, Nat.le_of_ble_eq_true rfl⟩ ⟨Nat.le_of_ble_eq_true rfl, Nat.le_of_ble_eq_true rfl⟩ (fun H locs hW => ?_)
    refine lv_icmp_ge (tgt := 77) C.x C.b dX8_isName_50 rfl (fun c50 => ?_) (fun c50 => ?_)
    · replace hf := x_ip c50 hf
      refine lv_iconst (v := 1) C.x C.b dX8_isName_77 (by decide) ?_
      rw [x_e0 hf]
      exact x_zret C hr hW (v := 1) (w := 1) rfl dX8_isName_78
    · replace hf := x_in c50 hf
      refine lv_aload_n C.x C.b dX8_isName_53 rfl (lv_at hl 0 rfl) ?_
      replace hf := x_b1 hf; obtain ⟨a54_14, ha54_14, hf⟩ := hf
      refine x_getn C hW fg_X8_9_11 ha54_14 dX8_isName_54 ?_
      refine lv_iload_n C.x C.b dX8_isName_57 rfl (lv_at hl 2 rfl) ?_
      refine lv_iload_n C.x C.b dX8_isName_58 rfl (lv_at hl 3 rfl) ?_
      refine lv_iadd C.x C.b dX8_isName_59 ?_
      replace hf := x_b1 hf; obtain ⟨x60_15, hx60_15, hf⟩ := hf
      refine x_iald C hW hx60_15 dX8_isName_60 ?_
      refine lv_aload_n C.x C.b dX8_isName_61 rfl (lv_at hl 1 rfl) ?_
      refine lv_iload_n C.x C.b dX8_isName_62 rfl (lv_at hl 3 rfl) ?_
      replace hf := x_b1 hf; obtain ⟨_, hk63_16, hf⟩ := hf
      replace hf := x_b1 hf; obtain ⟨x63_17, hx63_17, hf⟩ := hf
      refine x_callA (As := [.int v3]) (rest := [.int x60_15]) (Cn := "java/lang/String") C hW hl (qJ0_charAt_5068e l E hx63_17) (x_rcvT C hW (tq_lt hk63_16)) gv_X8_180 ⟨rfl, hd_J0_charAt_5068e⟩ rfl rfl (Nat.le_of_ble_eq_true rfl) dX8_isName_63 ⟨Nat.le_of_ble_eq_true rfl, Nat.le_of_ble_eq_true rfl⟩ ⟨Nat.le_of_ble_eq_true rfl, Nat.le_of_ble_eq_true rfl⟩ (fun H locs hW => ?_)
      refine lv_icmp_eq (tgt := 71) C.x C.b dX8_isName_66 rfl (fun c66 => ?_) (fun c66 => ?_)
      · replace hf := x_ip c66 hf
        refine lv_iinc (v := (v3 + 1)) (lv' := [(3, .int (v3 + 1)), (0, .ref (E.b + _)), (1, .ref (E.x (100 + _))), (2, .int _)]) C.x C.b dX8_isName_71 hl (k := 3) rfl (by first | rfl | decide) (by decide) rfl (fun ls hl => ?_)
        refine lv_goto (tgt := 45) C.x C.b dX8_isName_74 rfl ?_
        exact ih (v3 + 1) hf _ _ _ hW (lv_sub hl [1, 2, 3, 0] rfl)
      · replace hf := x_in c66 hf
        refine lv_iconst (v := 0) C.x C.b dX8_isName_69 (by decide) ?_
        rw [x_e0 hf]
        exact x_zret C hr hW (v := 0) (w := 0) rfl dX8_isName_70
set_option maxRecDepth 100000 in
set_option maxHeartbeats 4000000 in
theorem qX8_isName (l : Launch) (E : Ev) {M : Mm} {o : Nat} {p1 : Nat} {rz : Int32} (hf : fX8_isName M o p1 = some rz) : Ct l E yX8_isName cX8_isName 4 (some .boolean) 4 85 0 0 [.ref (E.b + o), .ref (E.x (100 + p1))] M (some (.int rz)) M := by
  refine ct_of (by decide +kernel) (Nat.le_of_ble_eq_true rfl) fun p e s m args below meth c C hr hin hW ls hl => ?_
  have hl : lv_has ls 4 [(0, .ref (E.b + o)), (1, .ref (E.x (100 + p1)))] := hl
  unfold fX8_isName at hf
  refine lv_aload_n C.x C.b dX8_isName_0 rfl (lv_at hl 0 rfl) ?_
  replace hf := x_b1 hf; obtain ⟨a1_1, ha1_1, hf⟩ := hf
  refine x_getn C hW fg_X8_29_11 ha1_1 dX8_isName_1 ?_
  refine lv_aload_n C.x C.b dX8_isName_4 rfl (lv_at hl 0 rfl) ?_
  replace hf := x_b1 hf; obtain ⟨x5_2, hx5_2, hf⟩ := hf
  refine x_geti C hW fg_X8_38_11 hx5_2 dX8_isName_5 ?_
  replace hf := x_b1 hf; obtain ⟨x8_3, hx8_3, hf⟩ := hf
  refine x_iald C hW hx8_3 dX8_isName_8 ?_
  refine lv_istore_n (lv' := [(2, .int _), (0, .ref (E.b + _)), (1, .ref (E.x (100 + _)))]) C.x C.b dX8_isName_9 rfl hl (by decide) rfl (fun ls hl => ?_)
  refine lv_aload_n C.x C.b dX8_isName_10 rfl (lv_at hl 1 rfl) ?_
  replace hf := x_b1 hf; obtain ⟨a11_4, ha11_4, hf⟩ := hf
  refine x_getn C hW fg_X8_26_11 ha11_4 dX8_isName_11 ?_
  refine lv_aload_n C.x C.b dX8_isName_14 rfl (lv_at hl 1 rfl) ?_
  replace hf := x_b1 hf; obtain ⟨x15_5, hx15_5, hf⟩ := hf
  refine x_geti C hW fg_X8_38_11 hx15_5 dX8_isName_15 ?_
  replace hf := x_b1 hf; obtain ⟨x18_6, hx18_6, hf⟩ := hf
  refine x_iald C hW hx18_6 dX8_isName_18 ?_
  refine lv_iconst (v := 2) C.x C.b dX8_isName_19 (by decide) ?_
  refine lv_icmp_ne (tgt := 41) C.x C.b dX8_isName_20 rfl (fun c20 => ?_) (fun c20 => ?_)
  · replace hf := x_in c20 hf
    refine lv_iconst (v := 0) C.x C.b dX8_isName_41 (by decide) ?_
    rw [x_e0 hf]
    exact x_zret C hr hW (v := 0) (w := 0) rfl dX8_isName_42
  · replace hf := x_ip c20 hf
    refine lv_aload_n C.x C.b dX8_isName_23 rfl (lv_at hl 1 rfl) ?_
    replace hf := x_b1 hf; obtain ⟨a24_7, ha24_7, hf⟩ := hf
    refine x_getn C hW fg_X8_32_11 ha24_7 dX8_isName_24 ?_
    refine lv_aload_n C.x C.b dX8_isName_27 rfl (lv_at hl 1 rfl) ?_
    replace hf := x_b1 hf; obtain ⟨x28_8, hx28_8, hf⟩ := hf
    refine x_geti C hW fg_X8_38_11 hx28_8 dX8_isName_28 ?_
    replace hf := x_b1 hf; obtain ⟨x31_9, hx31_9, hf⟩ := hf
    refine x_iald C hW hx31_9 dX8_isName_31 ?_
    refine lv_iload_n C.x C.b dX8_isName_32 rfl (lv_at hl 0 rfl) ?_
    refine lv_isub C.x C.b dX8_isName_33 ?_
    refine lv_aload_n C.x C.b dX8_isName_34 rfl (lv_at hl 2 rfl) ?_
    replace hf := x_b1 hf; obtain ⟨_, hk35_10, hf⟩ := hf
    replace hf := x_b1 hf; obtain ⟨x35_11, hx35_11, hf⟩ := hf
    refine x_callA (As := []) (rest := [.int (x31_9 - x8_3)]) (Cn := "java/lang/String") C hW hl (qJ0_length_8abf5 l E hx35_11) (x_rcvT C hW (tq_lt hk35_10)) gv_X8_176 ⟨rfl, hd_J0_length_8abf5⟩ rfl rfl (Nat.le_of_ble_eq_true rfl) dX8_isName_35 ⟨Nat.le_of_ble_eq_true rfl, Nat.le_of_ble_eq_true rfl⟩ ⟨Nat.le_of_ble_eq_true rfl, Nat.le_of_ble_eq_true rfl⟩ (fun H locs hW => ?_)
    refine lv_icmp_eq (tgt := 43) C.x C.b dX8_isName_38 rfl (fun c38 => ?_) (fun c38 => ?_)
    · replace hf := x_ip c38 hf
      refine lv_iconst (v := 0) C.x C.b dX8_isName_43 (by decide) ?_
      refine lv_istore_n (lv' := [(3, .int _), (2, .int _), (0, .ref (E.b + _)), (1, .ref (E.x (100 + _)))]) C.x C.b dX8_isName_44 rfl hl (by decide) rfl (fun ls hl => ?_)
      exact kX8_isName_L45 C hr hin FL 0 hf _ _ _ hW (lv_sub hl [2, 3, 1, 0] rfl)
    · replace hf := x_in c38 hf
      refine lv_iconst (v := 0) C.x C.b dX8_isName_41 (by decide) ?_
      rw [x_e0 hf]
      exact x_zret C hr hW (v := 0) (w := 0) rfl dX8_isName_42

theorem dX8_take_0 : decode cX8_take 0 = .ok (.aload_n 0, 1) := by decide +kernel
theorem dX8_take_1 : decode cX8_take 1 = .ok (.getfield 41, 3) := by decide +kernel
theorem dX8_take_4 : decode cX8_take 4 = .ok (.ifCond .lt 4, 3) := by decide +kernel
theorem dX8_take_7 : decode cX8_take 7 = .ok (.return_, 1) := by decide +kernel
theorem dX8_take_8 : decode cX8_take 8 = .ok (.iload_n 1, 1) := by decide +kernel
theorem dX8_take_9 : decode cX8_take 9 = .ok (.ifCond .eq 29, 3) := by decide +kernel
theorem dX8_take_12 : decode cX8_take 12 = .ok (.aload_n 0, 1) := by decide +kernel
theorem dX8_take_13 : decode cX8_take 13 = .ok (.getfield 38, 3) := by decide +kernel
theorem dX8_take_16 : decode cX8_take 16 = .ok (.aload_n 0, 1) := by decide +kernel
theorem dX8_take_17 : decode cX8_take 17 = .ok (.getfield 35, 3) := by decide +kernel
theorem dX8_take_20 : decode cX8_take 20 = .ok (.iconst 1, 1) := by decide +kernel
theorem dX8_take_21 : decode cX8_take 21 = .ok (.isub, 1) := by decide +kernel
theorem dX8_take_22 : decode cX8_take 22 = .ok (.if_icmp .ge 16, 3) := by decide +kernel
theorem dX8_take_25 : decode cX8_take 25 = .ok (.aload_n 0, 1) := by decide +kernel
theorem dX8_take_26 : decode cX8_take 26 = .ok (.dup, 1) := by decide +kernel
theorem dX8_take_27 : decode cX8_take 27 = .ok (.getfield 38, 3) := by decide +kernel
theorem dX8_take_30 : decode cX8_take 30 = .ok (.iconst 1, 1) := by decide +kernel
theorem dX8_take_31 : decode cX8_take 31 = .ok (.iadd, 1) := by decide +kernel
theorem dX8_take_32 : decode cX8_take 32 = .ok (.putfield 38, 3) := by decide +kernel
theorem dX8_take_35 : decode cX8_take 35 = .ok (.goto 16, 3) := by decide +kernel
theorem dX8_take_38 : decode cX8_take 38 = .ok (.aload_n 0, 1) := by decide +kernel
theorem dX8_take_39 : decode cX8_take 39 = .ok (.aload_n 0, 1) := by decide +kernel
theorem dX8_take_40 : decode cX8_take 40 = .ok (.getfield 29, 3) := by decide +kernel
theorem dX8_take_43 : decode cX8_take 43 = .ok (.aload_n 0, 1) := by decide +kernel
theorem dX8_take_44 : decode cX8_take 44 = .ok (.getfield 38, 3) := by decide +kernel
theorem dX8_take_47 : decode cX8_take 47 = .ok (.iaload, 1) := by decide +kernel
theorem dX8_take_48 : decode cX8_take 48 = .ok (.putfield 41, 3) := by decide +kernel
theorem dX8_take_51 : decode cX8_take 51 = .ok (.return_, 1) := by decide +kernel
theorem fg_X8_41_11 : FdG "NylonLadder$Tape" 41 11 8 false := ⟨_, _, _, _, rfl, by decide, by decide, by decide, gxX8, by decide, T_1_180, Or.inl rfl, rfl⟩
def fX8_take (M : Mm) (o : Nat) (p1 : Int32) : Option Mm :=
  B1 (rdI M o 11 8) fun x1_1 =>
  if x1_1 < 0 then
    if p1 = 0 then
      B1 (rdN M o 11 4) fun a40_2 =>
      B1 (rdI M o 11 7) fun x44_3 =>
      B1 (alI M a40_2 x44_3) fun x47_4 =>
      B1 (wrI M o 11 8 x47_4) fun M48_5 =>
      some M48_5
    else
      B1 (rdI M o 11 7) fun x13_6 =>
      B1 (rdI M o 11 6) fun x17_7 =>
      if (x17_7 - 1) ≤ x13_6 then
        B1 (rdN M o 11 4) fun a40_8 =>
        B1 (rdI M o 11 7) fun x44_9 =>
        B1 (alI M a40_8 x44_9) fun x47_10 =>
        B1 (wrI M o 11 8 x47_10) fun M48_11 =>
        some M48_11
      else
        B1 (rdI M o 11 7) fun x27_12 =>
        B1 (wrI M o 11 7 (x27_12 + 1)) fun M32_13 =>
        some M32_13
  else
    some M
set_option maxRecDepth 100000 in
set_option maxHeartbeats 4000000 in
theorem qX8_take (l : Launch) (E : Ev) {M : Mm} {o : Nat} {p1 : Int32} {Mz : Mm} (hf : fX8_take M o p1 = some Mz) : Ct l E yX8_take cX8_take 2 none 0 0 0 0 [.ref (E.b + o), .int p1] M none Mz := by
  refine ct_of (by decide +kernel) (Nat.le_of_ble_eq_true rfl) fun p e s m args below meth c C hr hin hW ls hl => ?_
  have hl : lv_has ls 2 [(0, .ref (E.b + o)), (1, .int p1)] := hl
  unfold fX8_take at hf
  refine lv_aload_n C.x C.b dX8_take_0 rfl (lv_at hl 0 rfl) ?_
  replace hf := x_b1 hf; obtain ⟨x1_1, hx1_1, hf⟩ := hf
  refine x_geti C hW fg_X8_41_11 hx1_1 dX8_take_1 ?_
  refine lv_if_lt (tgt := 8) C.x C.b dX8_take_4 rfl (fun c4 => ?_) (fun c4 => ?_)
  · replace hf := x_ip c4 hf
    refine lv_iload_n C.x C.b dX8_take_8 rfl (lv_at hl 1 rfl) ?_
    refine lv_if_eq (tgt := 38) C.x C.b dX8_take_9 rfl (fun c9 => ?_) (fun c9 => ?_)
    · replace hf := x_ip c9 hf
      refine lv_aload_n C.x C.b dX8_take_38 rfl (lv_at hl 0 rfl) ?_
      refine lv_aload_n C.x C.b dX8_take_39 rfl (lv_at hl 0 rfl) ?_
      replace hf := x_b1 hf; obtain ⟨a40_2, ha40_2, hf⟩ := hf
      refine x_getn C hW fg_X8_29_11 ha40_2 dX8_take_40 ?_
      refine lv_aload_n C.x C.b dX8_take_43 rfl (lv_at hl 0 rfl) ?_
      replace hf := x_b1 hf; obtain ⟨x44_3, hx44_3, hf⟩ := hf
      refine x_geti C hW fg_X8_38_11 hx44_3 dX8_take_44 ?_
      replace hf := x_b1 hf; obtain ⟨x47_4, hx47_4, hf⟩ := hf
      refine x_iald C hW hx47_4 dX8_take_47 ?_
      replace hf := x_b1 hf; obtain ⟨M48_5, hM48_5, hf⟩ := hf
      refine x_puti C hW fp_X8_41_11 hM48_5 (fun h => by cases h) dX8_take_48 (fun H locs hW => ?_)
      rw [x_e0 hf]
      exact x_vret C hr hW dX8_take_51
    · replace hf := x_in c9 hf
      refine lv_aload_n C.x C.b dX8_take_12 rfl (lv_at hl 0 rfl) ?_
      replace hf := x_b1 hf; obtain ⟨x13_6, hx13_6, hf⟩ := hf
      refine x_geti C hW fg_X8_38_11 hx13_6 dX8_take_13 ?_
      refine lv_aload_n C.x C.b dX8_take_16 rfl (lv_at hl 0 rfl) ?_
      replace hf := x_b1 hf; obtain ⟨x17_7, hx17_7, hf⟩ := hf
      refine x_geti C hW fg_X8_35_11 hx17_7 dX8_take_17 ?_
      refine lv_iconst (v := 1) C.x C.b dX8_take_20 (by decide) ?_
      refine lv_isub C.x C.b dX8_take_21 ?_
      refine lv_icmp_ge (tgt := 38) C.x C.b dX8_take_22 rfl (fun c22 => ?_) (fun c22 => ?_)
      · replace hf := x_ip c22 hf
        refine lv_aload_n C.x C.b dX8_take_38 rfl (lv_at hl 0 rfl) ?_
        refine lv_aload_n C.x C.b dX8_take_39 rfl (lv_at hl 0 rfl) ?_
        replace hf := x_b1 hf; obtain ⟨a40_8, ha40_8, hf⟩ := hf
        refine x_getn C hW fg_X8_29_11 ha40_8 dX8_take_40 ?_
        refine lv_aload_n C.x C.b dX8_take_43 rfl (lv_at hl 0 rfl) ?_
        replace hf := x_b1 hf; obtain ⟨x44_9, hx44_9, hf⟩ := hf
        refine x_geti C hW fg_X8_38_11 hx44_9 dX8_take_44 ?_
        replace hf := x_b1 hf; obtain ⟨x47_10, hx47_10, hf⟩ := hf
        refine x_iald C hW hx47_10 dX8_take_47 ?_
        replace hf := x_b1 hf; obtain ⟨M48_11, hM48_11, hf⟩ := hf
        refine x_puti C hW fp_X8_41_11 hM48_11 (fun h => by cases h) dX8_take_48 (fun H locs hW => ?_)
        rw [x_e0 hf]
        exact x_vret C hr hW dX8_take_51
      · replace hf := x_in c22 hf
        refine lv_aload_n C.x C.b dX8_take_25 rfl (lv_at hl 0 rfl) ?_
        refine lv_dup C.x C.b dX8_take_26 rfl ?_
        replace hf := x_b1 hf; obtain ⟨x27_12, hx27_12, hf⟩ := hf
        refine x_geti C hW fg_X8_38_11 hx27_12 dX8_take_27 ?_
        refine lv_iconst (v := 1) C.x C.b dX8_take_30 (by decide) ?_
        refine lv_iadd C.x C.b dX8_take_31 ?_
        replace hf := x_b1 hf; obtain ⟨M32_13, hM32_13, hf⟩ := hf
        refine x_puti C hW fp_X8_38_11 hM32_13 (fun h => by cases h) dX8_take_32 (fun H locs hW => ?_)
        refine lv_goto (tgt := 51) C.x C.b dX8_take_35 rfl ?_
        rw [x_e0 hf]
        exact x_vret C hr hW dX8_take_51
  · replace hf := x_in c4 hf
    rw [x_e0 hf]
    exact x_vret C hr hW dX8_take_7

theorem dX8_numberHere_0 : decode cX8_numberHere 0 = .ok (.aload_n 0, 1) := by decide +kernel
theorem dX8_numberHere_1 : decode cX8_numberHere 1 = .ok (.getfield 26, 3) := by decide +kernel
theorem dX8_numberHere_4 : decode cX8_numberHere 4 = .ok (.aload_n 0, 1) := by decide +kernel
theorem dX8_numberHere_5 : decode cX8_numberHere 5 = .ok (.getfield 38, 3) := by decide +kernel
theorem dX8_numberHere_8 : decode cX8_numberHere 8 = .ok (.iaload, 1) := by decide +kernel
theorem dX8_numberHere_9 : decode cX8_numberHere 9 = .ok (.iconst 3, 1) := by decide +kernel
theorem dX8_numberHere_10 : decode cX8_numberHere 10 = .ok (.if_icmp .ne 26, 3) := by decide +kernel
theorem dX8_numberHere_13 : decode cX8_numberHere 13 = .ok (.aload_n 0, 1) := by decide +kernel
theorem dX8_numberHere_14 : decode cX8_numberHere 14 = .ok (.getfield 32, 3) := by decide +kernel
theorem dX8_numberHere_17 : decode cX8_numberHere 17 = .ok (.aload_n 0, 1) := by decide +kernel
theorem dX8_numberHere_18 : decode cX8_numberHere 18 = .ok (.getfield 38, 3) := by decide +kernel
theorem dX8_numberHere_21 : decode cX8_numberHere 21 = .ok (.iaload, 1) := by decide +kernel
theorem dX8_numberHere_22 : decode cX8_numberHere 22 = .ok (.aload_n 0, 1) := by decide +kernel
theorem dX8_numberHere_23 : decode cX8_numberHere 23 = .ok (.getfield 29, 3) := by decide +kernel
theorem dX8_numberHere_26 : decode cX8_numberHere 26 = .ok (.aload_n 0, 1) := by decide +kernel
theorem dX8_numberHere_27 : decode cX8_numberHere 27 = .ok (.getfield 38, 3) := by decide +kernel
theorem dX8_numberHere_30 : decode cX8_numberHere 30 = .ok (.iaload, 1) := by decide +kernel
theorem dX8_numberHere_31 : decode cX8_numberHere 31 = .ok (.isub, 1) := by decide +kernel
theorem dX8_numberHere_32 : decode cX8_numberHere 32 = .ok (.iconst 2, 1) := by decide +kernel
theorem dX8_numberHere_33 : decode cX8_numberHere 33 = .ok (.if_icmp .le 5, 3) := by decide +kernel
theorem dX8_numberHere_36 : decode cX8_numberHere 36 = .ok (.iconst (-1), 1) := by decide +kernel
theorem dX8_numberHere_37 : decode cX8_numberHere 37 = .ok (.ireturn, 1) := by decide +kernel
theorem dX8_numberHere_38 : decode cX8_numberHere 38 = .ok (.iconst 0, 1) := by decide +kernel
theorem dX8_numberHere_39 : decode cX8_numberHere 39 = .ok (.istore_n 1, 1) := by decide +kernel
theorem dX8_numberHere_40 : decode cX8_numberHere 40 = .ok (.aload_n 0, 1) := by decide +kernel
theorem dX8_numberHere_41 : decode cX8_numberHere 41 = .ok (.getfield 29, 3) := by decide +kernel
theorem dX8_numberHere_44 : decode cX8_numberHere 44 = .ok (.aload_n 0, 1) := by decide +kernel
theorem dX8_numberHere_45 : decode cX8_numberHere 45 = .ok (.getfield 38, 3) := by decide +kernel
theorem dX8_numberHere_48 : decode cX8_numberHere 48 = .ok (.iaload, 1) := by decide +kernel
theorem dX8_numberHere_49 : decode cX8_numberHere 49 = .ok (.istore_n 2, 1) := by decide +kernel
theorem dX8_numberHere_50 : decode cX8_numberHere 50 = .ok (.iload_n 2, 1) := by decide +kernel
theorem dX8_numberHere_51 : decode cX8_numberHere 51 = .ok (.aload_n 0, 1) := by decide +kernel
theorem dX8_numberHere_52 : decode cX8_numberHere 52 = .ok (.getfield 32, 3) := by decide +kernel
theorem dX8_numberHere_55 : decode cX8_numberHere 55 = .ok (.aload_n 0, 1) := by decide +kernel
theorem dX8_numberHere_56 : decode cX8_numberHere 56 = .ok (.getfield 38, 3) := by decide +kernel
theorem dX8_numberHere_59 : decode cX8_numberHere 59 = .ok (.iaload, 1) := by decide +kernel
theorem dX8_numberHere_60 : decode cX8_numberHere 60 = .ok (.if_icmp .ge 24, 3) := by decide +kernel
theorem dX8_numberHere_63 : decode cX8_numberHere 63 = .ok (.bipush 10, 2) := by decide +kernel
theorem dX8_numberHere_65 : decode cX8_numberHere 65 = .ok (.iload_n 1, 1) := by decide +kernel
theorem dX8_numberHere_66 : decode cX8_numberHere 66 = .ok (.imul, 1) := by decide +kernel
theorem dX8_numberHere_67 : decode cX8_numberHere 67 = .ok (.aload_n 0, 1) := by decide +kernel
theorem dX8_numberHere_68 : decode cX8_numberHere 68 = .ok (.getfield 9, 3) := by decide +kernel
theorem dX8_numberHere_71 : decode cX8_numberHere 71 = .ok (.iload_n 2, 1) := by decide +kernel
theorem dX8_numberHere_72 : decode cX8_numberHere 72 = .ok (.iaload, 1) := by decide +kernel
theorem dX8_numberHere_73 : decode cX8_numberHere 73 = .ok (.iadd, 1) := by decide +kernel
theorem dX8_numberHere_74 : decode cX8_numberHere 74 = .ok (.bipush 48, 2) := by decide +kernel
theorem dX8_numberHere_76 : decode cX8_numberHere 76 = .ok (.isub, 1) := by decide +kernel
theorem dX8_numberHere_77 : decode cX8_numberHere 77 = .ok (.istore_n 1, 1) := by decide +kernel
theorem dX8_numberHere_78 : decode cX8_numberHere 78 = .ok (.iinc 2 1, 3) := by decide +kernel
theorem dX8_numberHere_81 : decode cX8_numberHere 81 = .ok (.goto (-31), 3) := by decide +kernel
theorem dX8_numberHere_84 : decode cX8_numberHere 84 = .ok (.iload_n 1, 1) := by decide +kernel
theorem dX8_numberHere_85 : decode cX8_numberHere 85 = .ok (.ireturn, 1) := by decide +kernel
def fX8_numberHere_L50 (M : Mm) (o : Nat) : Nat → Int32 → Int32 → Option Int32
  | 0, _, _ => none
  | n + 1, v1, v2 =>
    B1 (rdN M o 11 5) fun a52_13 =>
    B1 (rdI M o 11 7) fun x56_14 =>
    B1 (alI M a52_13 x56_14) fun x59_15 =>
    if x59_15 ≤ v2 then
      some v1
    else
      B1 (rdN M o 11 0) fun a68_16 =>
      B1 (alI M a68_16 v2) fun x72_17 =>
      fX8_numberHere_L50 M o n (((10 * v1) + x72_17) - 48) (v2 + 1)
def fX8_numberHere (M : Mm) (o : Nat) : Option Int32 :=
  B1 (rdN M o 11 3) fun a1_1 =>
  B1 (rdI M o 11 7) fun x5_2 =>
  B1 (alI M a1_1 x5_2) fun x8_3 =>
  if x8_3 = 3 then
    B1 (rdN M o 11 5) fun a14_4 =>
    B1 (rdI M o 11 7) fun x18_5 =>
    B1 (alI M a14_4 x18_5) fun x21_6 =>
    B1 (rdN M o 11 4) fun a23_7 =>
    B1 (rdI M o 11 7) fun x27_8 =>
    B1 (alI M a23_7 x27_8) fun x30_9 =>
    if (x21_6 - x30_9) ≤ 2 then
      B1 (rdN M o 11 4) fun a41_10 =>
      B1 (rdI M o 11 7) fun x45_11 =>
      B1 (alI M a41_10 x45_11) fun x48_12 =>
      fX8_numberHere_L50 M o FL 0 x48_12
    else
      some (-1)
  else
    some (-1)
set_option maxRecDepth 100000 in
set_option maxHeartbeats 4000000 in
theorem kX8_numberHere_L50 {l : Launch} {E : Ev} {p : Program} {e : Env} {s : State} {m : MethodId} {args : Array Value} {below : List Frame} {meth : Method} {c : Code} (C : Cx E p s m args meth c cX8_numberHere yX8_numberHere.cls 3) (hr : meth.sig.returnType = (some .int)) (hin : yX8_numberHere.name = "<init>" → meth.name = "<init>") {M : Mm}  {o : Nat} {rz : Int32} : ∀ (n : Nat) (v1 : Int32) (v2 : Int32), fX8_numberHere_L50 M o n v1 v2 = some rz → ∀ (H : Heap) (locs : List Loc) (ls : Array Slot), Wx E s H locs M → lv_has ls 3 [(0, .ref (E.b + o)), (1, .int v1), (2, .int v2)] → W p l e (rM 0 0 0 0) s m args below meth c H locs 0 0 (MQ below (Qp E (some (.int rz)) M) args s 0 0 E.A) (F0 m 50 ls []) := by
  intro n
  induction n with
  | zero =>
    intro v1 v2 hf
    unfold fX8_numberHere_L50 at hf
    cases hf
  | succ n ih =>
    intro v1 v2 hf H locs ls hW hl
    unfold fX8_numberHere_L50 at hf
    refine lv_iload_n C.x C.b dX8_numberHere_50 rfl (lv_at hl 2 rfl) ?_
    refine lv_aload_n C.x C.b dX8_numberHere_51 rfl (lv_at hl 0 rfl) ?_
    replace hf := x_b1 hf; obtain ⟨a52_13, ha52_13, hf⟩ := hf
    refine x_getn C hW fg_X8_32_11 ha52_13 dX8_numberHere_52 ?_
    refine lv_aload_n C.x C.b dX8_numberHere_55 rfl (lv_at hl 0 rfl) ?_
    replace hf := x_b1 hf; obtain ⟨x56_14, hx56_14, hf⟩ := hf
    refine x_geti C hW fg_X8_38_11 hx56_14 dX8_numberHere_56 ?_
    replace hf := x_b1 hf; obtain ⟨x59_15, hx59_15, hf⟩ := hf
    refine x_iald C hW hx59_15 dX8_numberHere_59 ?_
    refine lv_icmp_ge (tgt := 84) C.x C.b dX8_numberHere_60 rfl (fun c60 => ?_) (fun c60 => ?_)
    · replace hf := x_ip c60 hf
      refine lv_iload_n C.x C.b dX8_numberHere_84 rfl (lv_at hl 1 rfl) ?_
      rw [x_e0 hf]
      exact x_iret C hr hW dX8_numberHere_85
    · replace hf := x_in c60 hf
      refine lv_bipush (v := 10) C.x C.b dX8_numberHere_63 (by decide) ?_
      refine lv_iload_n C.x C.b dX8_numberHere_65 rfl (lv_at hl 1 rfl) ?_
      refine lv_imul C.x C.b dX8_numberHere_66 ?_
      refine lv_aload_n C.x C.b dX8_numberHere_67 rfl (lv_at hl 0 rfl) ?_
      replace hf := x_b1 hf; obtain ⟨a68_16, ha68_16, hf⟩ := hf
      refine x_getn C hW fg_X8_9_11 ha68_16 dX8_numberHere_68 ?_
      refine lv_iload_n C.x C.b dX8_numberHere_71 rfl (lv_at hl 2 rfl) ?_
      replace hf := x_b1 hf; obtain ⟨x72_17, hx72_17, hf⟩ := hf
      refine x_iald C hW hx72_17 dX8_numberHere_72 ?_
      refine lv_iadd C.x C.b dX8_numberHere_73 ?_
      refine lv_bipush (v := 48) C.x C.b dX8_numberHere_74 (by decide) ?_
      refine lv_isub C.x C.b dX8_numberHere_76 ?_
      refine lv_istore_n (lv' := [(1, .int _), (0, .ref (E.b + _)), (2, .int _)]) C.x C.b dX8_numberHere_77 rfl hl (by decide) rfl (fun ls hl => ?_)
      refine lv_iinc (v := (v2 + 1)) (lv' := [(2, .int (v2 + 1)), (1, .int _), (0, .ref (E.b + _))]) C.x C.b dX8_numberHere_78 hl (k := 2) rfl (by first | rfl | decide) (by decide) rfl (fun ls hl => ?_)
      refine lv_goto (tgt := 50) C.x C.b dX8_numberHere_81 rfl ?_
      exact ih (((10 * v1) + x72_17) - 48) (v2 + 1) hf _ _ _ hW (lv_sub hl [2, 1, 0] rfl)
set_option maxRecDepth 100000 in
set_option maxHeartbeats 4000000 in
theorem qX8_numberHere (l : Launch) (E : Ev) {M : Mm} {o : Nat} {rz : Int32} (hf : fX8_numberHere M o = some rz) : Ct l E yX8_numberHere cX8_numberHere 3 (some .int) 0 0 0 0 [.ref (E.b + o)] M (some (.int rz)) M := by
  refine ct_of (by decide +kernel) (Nat.le_of_ble_eq_true rfl) fun p e s m args below meth c C hr hin hW ls hl => ?_
  have hl : lv_has ls 3 [(0, .ref (E.b + o))] := hl
  unfold fX8_numberHere at hf
  refine lv_aload_n C.x C.b dX8_numberHere_0 rfl (lv_at hl 0 rfl) ?_
  replace hf := x_b1 hf; obtain ⟨a1_1, ha1_1, hf⟩ := hf
  refine x_getn C hW fg_X8_26_11 ha1_1 dX8_numberHere_1 ?_
  refine lv_aload_n C.x C.b dX8_numberHere_4 rfl (lv_at hl 0 rfl) ?_
  replace hf := x_b1 hf; obtain ⟨x5_2, hx5_2, hf⟩ := hf
  refine x_geti C hW fg_X8_38_11 hx5_2 dX8_numberHere_5 ?_
  replace hf := x_b1 hf; obtain ⟨x8_3, hx8_3, hf⟩ := hf
  refine x_iald C hW hx8_3 dX8_numberHere_8 ?_
  refine lv_iconst (v := 3) C.x C.b dX8_numberHere_9 (by decide) ?_
  refine lv_icmp_ne (tgt := 36) C.x C.b dX8_numberHere_10 rfl (fun c10 => ?_) (fun c10 => ?_)
  · replace hf := x_in c10 hf
    refine lv_iconst (v := (-1)) C.x C.b dX8_numberHere_36 (by decide) ?_
    rw [x_e0 hf]
    exact x_iret C hr hW dX8_numberHere_37
  · replace hf := x_ip c10 hf
    refine lv_aload_n C.x C.b dX8_numberHere_13 rfl (lv_at hl 0 rfl) ?_
    replace hf := x_b1 hf; obtain ⟨a14_4, ha14_4, hf⟩ := hf
    refine x_getn C hW fg_X8_32_11 ha14_4 dX8_numberHere_14 ?_
    refine lv_aload_n C.x C.b dX8_numberHere_17 rfl (lv_at hl 0 rfl) ?_
    replace hf := x_b1 hf; obtain ⟨x18_5, hx18_5, hf⟩ := hf
    refine x_geti C hW fg_X8_38_11 hx18_5 dX8_numberHere_18 ?_
    replace hf := x_b1 hf; obtain ⟨x21_6, hx21_6, hf⟩ := hf
    refine x_iald C hW hx21_6 dX8_numberHere_21 ?_
    refine lv_aload_n C.x C.b dX8_numberHere_22 rfl (lv_at hl 0 rfl) ?_
    replace hf := x_b1 hf; obtain ⟨a23_7, ha23_7, hf⟩ := hf
    refine x_getn C hW fg_X8_29_11 ha23_7 dX8_numberHere_23 ?_
    refine lv_aload_n C.x C.b dX8_numberHere_26 rfl (lv_at hl 0 rfl) ?_
    replace hf := x_b1 hf; obtain ⟨x27_8, hx27_8, hf⟩ := hf
    refine x_geti C hW fg_X8_38_11 hx27_8 dX8_numberHere_27 ?_
    replace hf := x_b1 hf; obtain ⟨x30_9, hx30_9, hf⟩ := hf
    refine x_iald C hW hx30_9 dX8_numberHere_30 ?_
    refine lv_isub C.x C.b dX8_numberHere_31 ?_
    refine lv_iconst (v := 2) C.x C.b dX8_numberHere_32 (by decide) ?_
    refine lv_icmp_le (tgt := 38) C.x C.b dX8_numberHere_33 rfl (fun c33 => ?_) (fun c33 => ?_)
    · replace hf := x_ip c33 hf
      refine lv_iconst (v := 0) C.x C.b dX8_numberHere_38 (by decide) ?_
      refine lv_istore_n (lv' := [(1, .int _), (0, .ref (E.b + _))]) C.x C.b dX8_numberHere_39 rfl hl (by decide) rfl (fun ls hl => ?_)
      refine lv_aload_n C.x C.b dX8_numberHere_40 rfl (lv_at hl 1 rfl) ?_
      replace hf := x_b1 hf; obtain ⟨a41_10, ha41_10, hf⟩ := hf
      refine x_getn C hW fg_X8_29_11 ha41_10 dX8_numberHere_41 ?_
      refine lv_aload_n C.x C.b dX8_numberHere_44 rfl (lv_at hl 1 rfl) ?_
      replace hf := x_b1 hf; obtain ⟨x45_11, hx45_11, hf⟩ := hf
      refine x_geti C hW fg_X8_38_11 hx45_11 dX8_numberHere_45 ?_
      replace hf := x_b1 hf; obtain ⟨x48_12, hx48_12, hf⟩ := hf
      refine x_iald C hW hx48_12 dX8_numberHere_48 ?_
      refine lv_istore_n (lv' := [(2, .int _), (1, .int _), (0, .ref (E.b + _))]) C.x C.b dX8_numberHere_49 rfl hl (by decide) rfl (fun ls hl => ?_)
      exact kX8_numberHere_L50 C hr hin FL 0 x48_12 hf _ _ _ hW (lv_sub hl [2, 1, 0] rfl)
    · replace hf := x_in c33 hf
      refine lv_iconst (v := (-1)) C.x C.b dX8_numberHere_36 (by decide) ?_
      rw [x_e0 hf]
      exact x_iret C hr hW dX8_numberHere_37

theorem dX8_isSign_0 : decode cX8_isSign 0 = .ok (.aload_n 0, 1) := by decide +kernel
theorem dX8_isSign_1 : decode cX8_isSign 1 = .ok (.getfield 26, 3) := by decide +kernel
theorem dX8_isSign_4 : decode cX8_isSign 4 = .ok (.aload_n 0, 1) := by decide +kernel
theorem dX8_isSign_5 : decode cX8_isSign 5 = .ok (.getfield 38, 3) := by decide +kernel
theorem dX8_isSign_8 : decode cX8_isSign 8 = .ok (.iaload, 1) := by decide +kernel
theorem dX8_isSign_9 : decode cX8_isSign 9 = .ok (.iconst 4, 1) := by decide +kernel
theorem dX8_isSign_10 : decode cX8_isSign 10 = .ok (.if_icmp .ne 25, 3) := by decide +kernel
theorem dX8_isSign_13 : decode cX8_isSign 13 = .ok (.aload_n 0, 1) := by decide +kernel
theorem dX8_isSign_14 : decode cX8_isSign 14 = .ok (.getfield 9, 3) := by decide +kernel
theorem dX8_isSign_17 : decode cX8_isSign 17 = .ok (.aload_n 0, 1) := by decide +kernel
theorem dX8_isSign_18 : decode cX8_isSign 18 = .ok (.getfield 29, 3) := by decide +kernel
theorem dX8_isSign_21 : decode cX8_isSign 21 = .ok (.aload_n 0, 1) := by decide +kernel
theorem dX8_isSign_22 : decode cX8_isSign 22 = .ok (.getfield 38, 3) := by decide +kernel
theorem dX8_isSign_25 : decode cX8_isSign 25 = .ok (.iaload, 1) := by decide +kernel
theorem dX8_isSign_26 : decode cX8_isSign 26 = .ok (.iaload, 1) := by decide +kernel
theorem dX8_isSign_27 : decode cX8_isSign 27 = .ok (.iload_n 1, 1) := by decide +kernel
theorem dX8_isSign_28 : decode cX8_isSign 28 = .ok (.if_icmp .ne 7, 3) := by decide +kernel
theorem dX8_isSign_31 : decode cX8_isSign 31 = .ok (.iconst 1, 1) := by decide +kernel
theorem dX8_isSign_32 : decode cX8_isSign 32 = .ok (.goto 4, 3) := by decide +kernel
theorem dX8_isSign_35 : decode cX8_isSign 35 = .ok (.iconst 0, 1) := by decide +kernel
theorem dX8_isSign_36 : decode cX8_isSign 36 = .ok (.ireturn, 1) := by decide +kernel
def fX8_isSign (M : Mm) (o : Nat) (p1 : Int32) : Option Int32 :=
  B1 (rdN M o 11 3) fun a1_1 =>
  B1 (rdI M o 11 7) fun x5_2 =>
  B1 (alI M a1_1 x5_2) fun x8_3 =>
  if x8_3 = 4 then
    B1 (rdN M o 11 0) fun a14_4 =>
    B1 (rdN M o 11 4) fun a18_5 =>
    B1 (rdI M o 11 7) fun x22_6 =>
    B1 (alI M a18_5 x22_6) fun x25_7 =>
    B1 (alI M a14_4 x25_7) fun x26_8 =>
    if x26_8 = p1 then
      some 1
    else
      some 0
  else
    some 0
set_option maxRecDepth 100000 in
set_option maxHeartbeats 4000000 in
theorem qX8_isSign (l : Launch) (E : Ev) {M : Mm} {o : Nat} {p1 : Int32} {rz : Int32} (hf : fX8_isSign M o p1 = some rz) : Ct l E yX8_isSign cX8_isSign 2 (some .boolean) 0 0 0 0 [.ref (E.b + o), .int p1] M (some (.int rz)) M := by
  refine ct_of (by decide +kernel) (Nat.le_of_ble_eq_true rfl) fun p e s m args below meth c C hr hin hW ls hl => ?_
  have hl : lv_has ls 2 [(0, .ref (E.b + o)), (1, .int p1)] := hl
  unfold fX8_isSign at hf
  refine lv_aload_n C.x C.b dX8_isSign_0 rfl (lv_at hl 0 rfl) ?_
  replace hf := x_b1 hf; obtain ⟨a1_1, ha1_1, hf⟩ := hf
  refine x_getn C hW fg_X8_26_11 ha1_1 dX8_isSign_1 ?_
  refine lv_aload_n C.x C.b dX8_isSign_4 rfl (lv_at hl 0 rfl) ?_
  replace hf := x_b1 hf; obtain ⟨x5_2, hx5_2, hf⟩ := hf
  refine x_geti C hW fg_X8_38_11 hx5_2 dX8_isSign_5 ?_
  replace hf := x_b1 hf; obtain ⟨x8_3, hx8_3, hf⟩ := hf
  refine x_iald C hW hx8_3 dX8_isSign_8 ?_
  refine lv_iconst (v := 4) C.x C.b dX8_isSign_9 (by decide) ?_
  refine lv_icmp_ne (tgt := 35) C.x C.b dX8_isSign_10 rfl (fun c10 => ?_) (fun c10 => ?_)
  · replace hf := x_in c10 hf
    refine lv_iconst (v := 0) C.x C.b dX8_isSign_35 (by decide) ?_
    rw [x_e0 hf]
    exact x_zret C hr hW (v := 0) (w := 0) rfl dX8_isSign_36
  · replace hf := x_ip c10 hf
    refine lv_aload_n C.x C.b dX8_isSign_13 rfl (lv_at hl 0 rfl) ?_
    replace hf := x_b1 hf; obtain ⟨a14_4, ha14_4, hf⟩ := hf
    refine x_getn C hW fg_X8_9_11 ha14_4 dX8_isSign_14 ?_
    refine lv_aload_n C.x C.b dX8_isSign_17 rfl (lv_at hl 0 rfl) ?_
    replace hf := x_b1 hf; obtain ⟨a18_5, ha18_5, hf⟩ := hf
    refine x_getn C hW fg_X8_29_11 ha18_5 dX8_isSign_18 ?_
    refine lv_aload_n C.x C.b dX8_isSign_21 rfl (lv_at hl 0 rfl) ?_
    replace hf := x_b1 hf; obtain ⟨x22_6, hx22_6, hf⟩ := hf
    refine x_geti C hW fg_X8_38_11 hx22_6 dX8_isSign_22 ?_
    replace hf := x_b1 hf; obtain ⟨x25_7, hx25_7, hf⟩ := hf
    refine x_iald C hW hx25_7 dX8_isSign_25 ?_
    replace hf := x_b1 hf; obtain ⟨x26_8, hx26_8, hf⟩ := hf
    refine x_iald C hW hx26_8 dX8_isSign_26 ?_
    refine lv_iload_n C.x C.b dX8_isSign_27 rfl (lv_at hl 1 rfl) ?_
    refine lv_icmp_ne (tgt := 35) C.x C.b dX8_isSign_28 rfl (fun c28 => ?_) (fun c28 => ?_)
    · replace hf := x_in c28 hf
      refine lv_iconst (v := 0) C.x C.b dX8_isSign_35 (by decide) ?_
      rw [x_e0 hf]
      exact x_zret C hr hW (v := 0) (w := 0) rfl dX8_isSign_36
    · replace hf := x_ip c28 hf
      refine lv_iconst (v := 1) C.x C.b dX8_isSign_31 (by decide) ?_
      refine lv_goto (tgt := 36) C.x C.b dX8_isSign_32 rfl ?_
      rw [x_e0 hf]
      exact x_zret C hr hW (v := 1) (w := 1) rfl dX8_isSign_36

theorem dX8_takeFoot_0 : decode cX8_takeFoot 0 = .ok (.aload_n 0, 1) := by decide +kernel
theorem dX8_takeFoot_1 : decode cX8_takeFoot 1 = .ok (.iconst 1, 1) := by decide +kernel
theorem dX8_takeFoot_2 : decode cX8_takeFoot 2 = .ok (.invokevirtual 99, 3) := by decide +kernel
theorem dX8_takeFoot_5 : decode cX8_takeFoot 5 = .ok (.aload_n 0, 1) := by decide +kernel
theorem dX8_takeFoot_6 : decode cX8_takeFoot 6 = .ok (.invokevirtual 103, 3) := by decide +kernel
theorem dX8_takeFoot_9 : decode cX8_takeFoot 9 = .ok (.istore_n 2, 1) := by decide +kernel
theorem dX8_takeFoot_10 : decode cX8_takeFoot 10 = .ok (.aload_n 0, 1) := by decide +kernel
theorem dX8_takeFoot_11 : decode cX8_takeFoot 11 = .ok (.aload_n 0, 1) := by decide +kernel
theorem dX8_takeFoot_12 : decode cX8_takeFoot 12 = .ok (.getfield 22, 3) := by decide +kernel
theorem dX8_takeFoot_15 : decode cX8_takeFoot 15 = .ok (.iload_n 2, 1) := by decide +kernel
theorem dX8_takeFoot_16 : decode cX8_takeFoot 16 = .ok (.invokevirtual 107, 3) := by decide +kernel
theorem dX8_takeFoot_19 : decode cX8_takeFoot 19 = .ok (.ifnull 18, 3) := by decide +kernel
theorem dX8_takeFoot_22 : decode cX8_takeFoot 22 = .ok (.aload_n 0, 1) := by decide +kernel
theorem dX8_takeFoot_23 : decode cX8_takeFoot 23 = .ok (.getfield 22, 3) := by decide +kernel
theorem dX8_takeFoot_26 : decode cX8_takeFoot 26 = .ok (.iload_n 2, 1) := by decide +kernel
theorem dX8_takeFoot_27 : decode cX8_takeFoot 27 = .ok (.invokevirtual 111, 3) := by decide +kernel
theorem dX8_takeFoot_30 : decode cX8_takeFoot 30 = .ok (.ifCond .ne 7, 3) := by decide +kernel
theorem dX8_takeFoot_33 : decode cX8_takeFoot 33 = .ok (.iconst 1, 1) := by decide +kernel
theorem dX8_takeFoot_34 : decode cX8_takeFoot 34 = .ok (.goto 4, 3) := by decide +kernel
theorem dX8_takeFoot_37 : decode cX8_takeFoot 37 = .ok (.iconst 0, 1) := by decide +kernel
theorem dX8_takeFoot_38 : decode cX8_takeFoot 38 = .ok (.invokevirtual 99, 3) := by decide +kernel
theorem dX8_takeFoot_41 : decode cX8_takeFoot 41 = .ok (.aload_n 0, 1) := by decide +kernel
theorem dX8_takeFoot_42 : decode cX8_takeFoot 42 = .ok (.aload_n 0, 1) := by decide +kernel
theorem dX8_takeFoot_43 : decode cX8_takeFoot 43 = .ok (.bipush 59, 2) := by decide +kernel
theorem dX8_takeFoot_45 : decode cX8_takeFoot 45 = .ok (.invokevirtual 115, 3) := by decide +kernel
theorem dX8_takeFoot_48 : decode cX8_takeFoot 48 = .ok (.invokevirtual 99, 3) := by decide +kernel
theorem dX8_takeFoot_51 : decode cX8_takeFoot 51 = .ok (.aload_n 0, 1) := by decide +kernel
theorem dX8_takeFoot_52 : decode cX8_takeFoot 52 = .ok (.getfield 41, 3) := by decide +kernel
theorem dX8_takeFoot_55 : decode cX8_takeFoot 55 = .ok (.ifCond .ge 13, 3) := by decide +kernel
theorem dX8_takeFoot_58 : decode cX8_takeFoot 58 = .ok (.aload_n 0, 1) := by decide +kernel
theorem dX8_takeFoot_59 : decode cX8_takeFoot 59 = .ok (.getfield 22, 3) := by decide +kernel
theorem dX8_takeFoot_62 : decode cX8_takeFoot 62 = .ok (.getfield 119, 3) := by decide +kernel
theorem dX8_takeFoot_65 : decode cX8_takeFoot 65 = .ok (.iload_n 1, 1) := by decide +kernel
theorem dX8_takeFoot_66 : decode cX8_takeFoot 66 = .ok (.iload_n 2, 1) := by decide +kernel
theorem dX8_takeFoot_67 : decode cX8_takeFoot 67 = .ok (.iastore, 1) := by decide +kernel
theorem dX8_takeFoot_68 : decode cX8_takeFoot 68 = .ok (.return_, 1) := by decide +kernel
theorem hd_X8_take : yX8_take.cls ≠ "java/lang/invoke/MethodHandle" ∧ yX8_take.cls ≠ "java/lang/invoke/VarHandle" ∧ (parseMethodDescriptor yX8_take.desc).map (fun d => d.parameters.length) = some 1 := by decide +kernel
theorem gv_X8_99 : GoodIn gT (wsV "NylonLadder$Tape" 99 "NylonLadder$Tape" yX8_take (Cond.code yX8_take cX8_take 2 none :: gT)) := good_V T_2_127 T_2_129 TS_5 T_1_6 T_2_130
theorem hd_X8_numberHere : yX8_numberHere.cls ≠ "java/lang/invoke/MethodHandle" ∧ yX8_numberHere.cls ≠ "java/lang/invoke/VarHandle" ∧ (parseMethodDescriptor yX8_numberHere.desc).map (fun d => d.parameters.length) = some 0 := by decide +kernel
theorem gv_X8_103 : GoodIn gT (wsV "NylonLadder$Tape" 103 "NylonLadder$Tape" yX8_numberHere (Cond.code yX8_numberHere cX8_numberHere 3 (some .int) :: gT)) := good_V T_2_131 T_2_133 TS_6 T_1_6 T_2_134
theorem fg_X8_22_11 : FdG "NylonLadder$Tape" 22 11 2 true := ⟨_, _, _, _, rfl, by decide, by decide, by decide, gxX8, by decide, T_1_173, Or.inl rfl, rfl⟩
theorem gv_X8_107 : GoodIn gT (wsV "NylonLadder$Tape" 107 "NylonLadder$Drawer" yX0_stockingAt (Cond.code yX0_stockingAt cX0_stockingAt 2 (some (.object "NylonLadder$Stocking")) :: gT)) := good_V T_2_135 T_2_136 T_2_137 T_1_2 T_2_138
theorem hd_X8_isSign : yX8_isSign.cls ≠ "java/lang/invoke/MethodHandle" ∧ yX8_isSign.cls ≠ "java/lang/invoke/VarHandle" ∧ (parseMethodDescriptor yX8_isSign.desc).map (fun d => d.parameters.length) = some 1 := by decide +kernel
theorem gv_X8_115 : GoodIn gT (wsV "NylonLadder$Tape" 115 "NylonLadder$Tape" yX8_isSign (Cond.code yX8_isSign cX8_isSign 2 (some .boolean) :: gT)) := good_V T_2_148 T_2_150 TS_7 T_1_6 T_2_151
theorem fg_X8_119_3 : FdG "NylonLadder$Tape" 119 3 3 true := ⟨_, _, _, _, rfl, by decide, by decide, by decide, gxX0, by decide, T_1_140, Or.inl rfl, rfl⟩
theorem hd_X0_isOnAFoot : yX0_isOnAFoot.cls ≠ "java/lang/invoke/MethodHandle" ∧ yX0_isOnAFoot.cls ≠ "java/lang/invoke/VarHandle" ∧ (parseMethodDescriptor yX0_isOnAFoot.desc).map (fun d => d.parameters.length) = some 1 := by decide +kernel
theorem gv_X8_111 : GoodIn gT (wsV "NylonLadder$Tape" 111 "NylonLadder$Drawer" yX0_isOnAFoot (Cond.code yX0_isOnAFoot cX0_isOnAFoot 2 (some .boolean) :: gT)) := good_V T_2_140 T_2_141 T_2_142 T_1_2 T_2_143
def fX8_takeFoot (M : Mm) (o : Nat) (p1 : Int32) : Option Mm :=
  B1 (gk M o 11) fun _ =>
  B1 (fX8_take M o 1) fun M2_2 =>
  B1 (gk M2_2 o 11) fun _ =>
  B1 (fX8_numberHere M2_2 o) fun x6_4 =>
  B1 (rdN M2_2 o 11 2) fun a12_5 =>
  B1 (gk M2_2 a12_5 3) fun _ =>
  B1 (fX0_stockingAt M2_2 a12_5 x6_4) fun x16_7 =>
  NL x16_7 (
    B1 (gk M2_2 o 11) fun _ =>
    B1 (fX8_take M2_2 o 0) fun M38_10 =>
    B1 (gk M38_10 o 11) fun _ =>
    B1 (fX8_isSign M38_10 o 59) fun x45_12 =>
    B1 (gk M38_10 o 11) fun _ =>
    B1 (fX8_take M38_10 o x45_12) fun M48_14 =>
    B1 (rdI M48_14 o 11 8) fun x52_15 =>
    if 0 ≤ x52_15 then
      some M48_14
    else
      B1 (rdN M48_14 o 11 2) fun a59_16 =>
      B1 (rdN M48_14 a59_16 3 3) fun a62_17 =>
      B1 (asI M48_14 a62_17 p1 x6_4) fun M67_18 =>
      some M67_18) (fun a19_8 =>
    B1 (rdN M2_2 o 11 2) fun a23_19 =>
    B1 (gk M2_2 a23_19 3) fun _ =>
    B1 (fX0_isOnAFoot M2_2 a23_19 x6_4) fun x27_21 =>
    if x27_21 = 0 then
      B1 (gk M2_2 o 11) fun _ =>
      B1 (fX8_take M2_2 o 1) fun M38_33 =>
      B1 (gk M38_33 o 11) fun _ =>
      B1 (fX8_isSign M38_33 o 59) fun x45_35 =>
      B1 (gk M38_33 o 11) fun _ =>
      B1 (fX8_take M38_33 o x45_35) fun M48_37 =>
      B1 (rdI M48_37 o 11 8) fun x52_38 =>
      if 0 ≤ x52_38 then
        some M48_37
      else
        B1 (rdN M48_37 o 11 2) fun a59_39 =>
        B1 (rdN M48_37 a59_39 3 3) fun a62_40 =>
        B1 (asI M48_37 a62_40 p1 x6_4) fun M67_41 =>
        some M67_41
    else
      B1 (gk M2_2 o 11) fun _ =>
      B1 (fX8_take M2_2 o 0) fun M38_23 =>
      B1 (gk M38_23 o 11) fun _ =>
      B1 (fX8_isSign M38_23 o 59) fun x45_25 =>
      B1 (gk M38_23 o 11) fun _ =>
      B1 (fX8_take M38_23 o x45_25) fun M48_27 =>
      B1 (rdI M48_27 o 11 8) fun x52_28 =>
      if 0 ≤ x52_28 then
        some M48_27
      else
        B1 (rdN M48_27 o 11 2) fun a59_29 =>
        B1 (rdN M48_27 a59_29 3 3) fun a62_30 =>
        B1 (asI M48_27 a62_30 p1 x6_4) fun M67_31 =>
        some M67_31)
set_option maxRecDepth 100000 in
set_option maxHeartbeats 4000000 in
theorem qX8_takeFoot (l : Launch) (E : Ev) {M : Mm} {o : Nat} {p1 : Int32} {Mz : Mm} (hf : fX8_takeFoot M o p1 = some Mz) : Ct l E yX8_takeFoot cX8_takeFoot 3 none 2 43 0 0 [.ref (E.b + o), .int p1] M none Mz := by
  refine ct_of (by decide +kernel) (Nat.le_of_ble_eq_true rfl) fun p e s m args below meth c C hr hin hW ls hl => ?_
  have hl : lv_has ls 3 [(0, .ref (E.b + o)), (1, .int p1)] := hl
  unfold fX8_takeFoot at hf
  refine lv_aload_n C.x C.b dX8_takeFoot_0 rfl (lv_at hl 0 rfl) ?_
  refine lv_iconst (v := 1) C.x C.b dX8_takeFoot_1 (by decide) ?_
  replace hf := x_b1 hf; obtain ⟨_, hk2_1, hf⟩ := hf
  replace hf := x_b1 hf; obtain ⟨M2_2, hM2_2, hf⟩ := hf
  refine x_callV (As := [.int 1]) (a := o) (rest := []) C hW hl (qX8_take l E hM2_2) (x_gk hk2_1) (by decide) (by decide) rfl gv_X8_99 ⟨rfl, hd_X8_take⟩ rfl rfl (Nat.le_of_ble_eq_true rfl) dX8_takeFoot_2 ⟨Nat.le_of_ble_eq_true rfl, Nat.le_of_ble_eq_true rfl⟩ ⟨Nat.le_of_ble_eq_true rfl, Nat.le_of_ble_eq_true rfl⟩ (fun H locs hW => ?_)
  refine lv_aload_n C.x C.b dX8_takeFoot_5 rfl (lv_at hl 0 rfl) ?_
  replace hf := x_b1 hf; obtain ⟨_, hk6_3, hf⟩ := hf
  replace hf := x_b1 hf; obtain ⟨x6_4, hx6_4, hf⟩ := hf
  refine x_callV (As := []) (a := o) (rest := []) C hW hl (qX8_numberHere l E hx6_4) (x_gk hk6_3) (by decide) (by decide) rfl gv_X8_103 ⟨rfl, hd_X8_numberHere⟩ rfl rfl (Nat.le_of_ble_eq_true rfl) dX8_takeFoot_6 ⟨Nat.le_of_ble_eq_true rfl, Nat.le_of_ble_eq_true rfl⟩ ⟨Nat.le_of_ble_eq_true rfl, Nat.le_of_ble_eq_true rfl⟩ (fun H locs hW => ?_)
  refine lv_istore_n (lv' := [(2, .int _), (0, .ref (E.b + _)), (1, .int _)]) C.x C.b dX8_takeFoot_9 rfl hl (by decide) rfl (fun ls hl => ?_)
  refine lv_aload_n C.x C.b dX8_takeFoot_10 rfl (lv_at hl 1 rfl) ?_
  refine lv_aload_n C.x C.b dX8_takeFoot_11 rfl (lv_at hl 1 rfl) ?_
  replace hf := x_b1 hf; obtain ⟨a12_5, ha12_5, hf⟩ := hf
  refine x_getn C hW fg_X8_22_11 ha12_5 dX8_takeFoot_12 ?_
  refine lv_iload_n C.x C.b dX8_takeFoot_15 rfl (lv_at hl 0 rfl) ?_
  replace hf := x_b1 hf; obtain ⟨_, hk16_6, hf⟩ := hf
  replace hf := x_b1 hf; obtain ⟨x16_7, hx16_7, hf⟩ := hf
  refine x_callV (As := [.int x6_4]) (a := a12_5) (rest := [.ref (E.b + o)]) C hW hl (qX0_stockingAt l E hx16_7) (x_gk hk16_6) (by decide) (by decide) rfl gv_X8_107 ⟨rfl, hd_X0_stockingAt⟩ rfl rfl (Nat.le_of_ble_eq_true rfl) dX8_takeFoot_16 ⟨Nat.le_of_ble_eq_true rfl, Nat.le_of_ble_eq_true rfl⟩ ⟨Nat.le_of_ble_eq_true rfl, Nat.le_of_ble_eq_true rfl⟩ (fun H locs hW => ?_)
  replace hf := x_nl hf; rcases hf with ⟨rfl, hf⟩ | ⟨a19_8, rfl, hf⟩
  · refine lv_ifnullN (tgt := 37) C.x C.b dX8_takeFoot_19 rfl ?_
    refine lv_iconst (v := 0) C.x C.b dX8_takeFoot_37 (by decide) ?_
    replace hf := x_b1 hf; obtain ⟨_, hk38_9, hf⟩ := hf
    replace hf := x_b1 hf; obtain ⟨M38_10, hM38_10, hf⟩ := hf
    refine x_callV (As := [.int 0]) (a := o) (rest := []) C hW hl (qX8_take l E hM38_10) (x_gk hk38_9) (by decide) (by decide) rfl gv_X8_99 ⟨rfl, hd_X8_take⟩ rfl rfl (Nat.le_of_ble_eq_true rfl) dX8_takeFoot_38 ⟨Nat.le_of_ble_eq_true rfl, Nat.le_of_ble_eq_true rfl⟩ ⟨Nat.le_of_ble_eq_true rfl, Nat.le_of_ble_eq_true rfl⟩ (fun H locs hW => ?_)
    refine lv_aload_n C.x C.b dX8_takeFoot_41 rfl (lv_at hl 1 rfl) ?_
    refine lv_aload_n C.x C.b dX8_takeFoot_42 rfl (lv_at hl 1 rfl) ?_
    refine lv_bipush (v := 59) C.x C.b dX8_takeFoot_43 (by decide) ?_
    replace hf := x_b1 hf; obtain ⟨_, hk45_11, hf⟩ := hf
    replace hf := x_b1 hf; obtain ⟨x45_12, hx45_12, hf⟩ := hf
    refine x_callV (As := [.int 59]) (a := o) (rest := [.ref (E.b + o)]) C hW hl (qX8_isSign l E hx45_12) (x_gk hk45_11) (by decide) (by decide) rfl gv_X8_115 ⟨rfl, hd_X8_isSign⟩ rfl rfl (Nat.le_of_ble_eq_true rfl) dX8_takeFoot_45 ⟨Nat.le_of_ble_eq_true rfl, Nat.le_of_ble_eq_true rfl⟩ ⟨Nat.le_of_ble_eq_true rfl, Nat.le_of_ble_eq_true rfl⟩ (fun H locs hW => ?_)
    replace hf := x_b1 hf; obtain ⟨_, hk48_13, hf⟩ := hf
    replace hf := x_b1 hf; obtain ⟨M48_14, hM48_14, hf⟩ := hf
    refine x_callV (As := [.int x45_12]) (a := o) (rest := []) C hW hl (qX8_take l E hM48_14) (x_gk hk48_13) (by decide) (by decide) rfl gv_X8_99 ⟨rfl, hd_X8_take⟩ rfl rfl (Nat.le_of_ble_eq_true rfl) dX8_takeFoot_48 ⟨Nat.le_of_ble_eq_true rfl, Nat.le_of_ble_eq_true rfl⟩ ⟨Nat.le_of_ble_eq_true rfl, Nat.le_of_ble_eq_true rfl⟩ (fun H locs hW => ?_)
    refine lv_aload_n C.x C.b dX8_takeFoot_51 rfl (lv_at hl 1 rfl) ?_
    replace hf := x_b1 hf; obtain ⟨x52_15, hx52_15, hf⟩ := hf
    refine x_geti C hW fg_X8_41_11 hx52_15 dX8_takeFoot_52 ?_
    refine lv_if_ge (tgt := 68) C.x C.b dX8_takeFoot_55 rfl (fun c55 => ?_) (fun c55 => ?_)
    · replace hf := x_ip c55 hf
      rw [x_e0 hf]
      exact x_vret C hr hW dX8_takeFoot_68
    · replace hf := x_in c55 hf
      refine lv_aload_n C.x C.b dX8_takeFoot_58 rfl (lv_at hl 1 rfl) ?_
      replace hf := x_b1 hf; obtain ⟨a59_16, ha59_16, hf⟩ := hf
      refine x_getn C hW fg_X8_22_11 ha59_16 dX8_takeFoot_59 ?_
      replace hf := x_b1 hf; obtain ⟨a62_17, ha62_17, hf⟩ := hf
      refine x_getn C hW fg_X8_119_3 ha62_17 dX8_takeFoot_62 ?_
      refine lv_iload_n C.x C.b dX8_takeFoot_65 rfl (lv_at hl 2 rfl) ?_
      refine lv_iload_n C.x C.b dX8_takeFoot_66 rfl (lv_at hl 0 rfl) ?_
      replace hf := x_b1 hf; obtain ⟨M67_18, hM67_18, hf⟩ := hf
      refine x_iast C hW hM67_18 dX8_takeFoot_67 (fun H locs hW => ?_)
      rw [x_e0 hf]
      exact x_vret C hr hW dX8_takeFoot_68
  · refine lv_ifnull C.x C.b dX8_takeFoot_19 ?_
    refine lv_aload_n C.x C.b dX8_takeFoot_22 rfl (lv_at hl 1 rfl) ?_
    replace hf := x_b1 hf; obtain ⟨a23_19, ha23_19, hf⟩ := hf
    refine x_getn C hW fg_X8_22_11 ha23_19 dX8_takeFoot_23 ?_
    refine lv_iload_n C.x C.b dX8_takeFoot_26 rfl (lv_at hl 0 rfl) ?_
    replace hf := x_b1 hf; obtain ⟨_, hk27_20, hf⟩ := hf
    replace hf := x_b1 hf; obtain ⟨x27_21, hx27_21, hf⟩ := hf
    refine x_callV (As := [.int x6_4]) (a := a23_19) (rest := [.ref (E.b + o)]) C hW hl (qX0_isOnAFoot l E hx27_21) (x_gk hk27_20) (by decide) (by decide) rfl gv_X8_111 ⟨rfl, hd_X0_isOnAFoot⟩ rfl rfl (Nat.le_of_ble_eq_true rfl) dX8_takeFoot_27 ⟨Nat.le_of_ble_eq_true rfl, Nat.le_of_ble_eq_true rfl⟩ ⟨Nat.le_of_ble_eq_true rfl, Nat.le_of_ble_eq_true rfl⟩ (fun H locs hW => ?_)
    refine lv_if_ne (tgt := 37) C.x C.b dX8_takeFoot_30 rfl (fun c30 => ?_) (fun c30 => ?_)
    · replace hf := x_in c30 hf
      refine lv_iconst (v := 0) C.x C.b dX8_takeFoot_37 (by decide) ?_
      replace hf := x_b1 hf; obtain ⟨_, hk38_22, hf⟩ := hf
      replace hf := x_b1 hf; obtain ⟨M38_23, hM38_23, hf⟩ := hf
      refine x_callV (As := [.int 0]) (a := o) (rest := []) C hW hl (qX8_take l E hM38_23) (x_gk hk38_22) (by decide) (by decide) rfl gv_X8_99 ⟨rfl, hd_X8_take⟩ rfl rfl (Nat.le_of_ble_eq_true rfl) dX8_takeFoot_38 ⟨Nat.le_of_ble_eq_true rfl, Nat.le_of_ble_eq_true rfl⟩ ⟨Nat.le_of_ble_eq_true rfl, Nat.le_of_ble_eq_true rfl⟩ (fun H locs hW => ?_)
      refine lv_aload_n C.x C.b dX8_takeFoot_41 rfl (lv_at hl 1 rfl) ?_
      refine lv_aload_n C.x C.b dX8_takeFoot_42 rfl (lv_at hl 1 rfl) ?_
      refine lv_bipush (v := 59) C.x C.b dX8_takeFoot_43 (by decide) ?_
      replace hf := x_b1 hf; obtain ⟨_, hk45_24, hf⟩ := hf
      replace hf := x_b1 hf; obtain ⟨x45_25, hx45_25, hf⟩ := hf
      refine x_callV (As := [.int 59]) (a := o) (rest := [.ref (E.b + o)]) C hW hl (qX8_isSign l E hx45_25) (x_gk hk45_24) (by decide) (by decide) rfl gv_X8_115 ⟨rfl, hd_X8_isSign⟩ rfl rfl (Nat.le_of_ble_eq_true rfl) dX8_takeFoot_45 ⟨Nat.le_of_ble_eq_true rfl, Nat.le_of_ble_eq_true rfl⟩ ⟨Nat.le_of_ble_eq_true rfl, Nat.le_of_ble_eq_true rfl⟩ (fun H locs hW => ?_)
      replace hf := x_b1 hf; obtain ⟨_, hk48_26, hf⟩ := hf
      replace hf := x_b1 hf; obtain ⟨M48_27, hM48_27, hf⟩ := hf
      refine x_callV (As := [.int x45_25]) (a := o) (rest := []) C hW hl (qX8_take l E hM48_27) (x_gk hk48_26) (by decide) (by decide) rfl gv_X8_99 ⟨rfl, hd_X8_take⟩ rfl rfl (Nat.le_of_ble_eq_true rfl) dX8_takeFoot_48 ⟨Nat.le_of_ble_eq_true rfl, Nat.le_of_ble_eq_true rfl⟩ ⟨Nat.le_of_ble_eq_true rfl, Nat.le_of_ble_eq_true rfl⟩ (fun H locs hW => ?_)
      refine lv_aload_n C.x C.b dX8_takeFoot_51 rfl (lv_at hl 1 rfl) ?_
      replace hf := x_b1 hf; obtain ⟨x52_28, hx52_28, hf⟩ := hf
      refine x_geti C hW fg_X8_41_11 hx52_28 dX8_takeFoot_52 ?_
      refine lv_if_ge (tgt := 68) C.x C.b dX8_takeFoot_55 rfl (fun c55 => ?_) (fun c55 => ?_)
      · replace hf := x_ip c55 hf
        rw [x_e0 hf]
        exact x_vret C hr hW dX8_takeFoot_68
      · replace hf := x_in c55 hf
        refine lv_aload_n C.x C.b dX8_takeFoot_58 rfl (lv_at hl 1 rfl) ?_
        replace hf := x_b1 hf; obtain ⟨a59_29, ha59_29, hf⟩ := hf
        refine x_getn C hW fg_X8_22_11 ha59_29 dX8_takeFoot_59 ?_
        replace hf := x_b1 hf; obtain ⟨a62_30, ha62_30, hf⟩ := hf
        refine x_getn C hW fg_X8_119_3 ha62_30 dX8_takeFoot_62 ?_
        refine lv_iload_n C.x C.b dX8_takeFoot_65 rfl (lv_at hl 2 rfl) ?_
        refine lv_iload_n C.x C.b dX8_takeFoot_66 rfl (lv_at hl 0 rfl) ?_
        replace hf := x_b1 hf; obtain ⟨M67_31, hM67_31, hf⟩ := hf
        refine x_iast C hW hM67_31 dX8_takeFoot_67 (fun H locs hW => ?_)
        rw [x_e0 hf]
        exact x_vret C hr hW dX8_takeFoot_68
    · replace hf := x_ip c30 hf
      refine lv_iconst (v := 1) C.x C.b dX8_takeFoot_33 (by decide) ?_
      refine lv_goto (tgt := 38) C.x C.b dX8_takeFoot_34 rfl ?_
      replace hf := x_b1 hf; obtain ⟨_, hk38_32, hf⟩ := hf
      replace hf := x_b1 hf; obtain ⟨M38_33, hM38_33, hf⟩ := hf
      refine x_callV (As := [.int 1]) (a := o) (rest := []) C hW hl (qX8_take l E hM38_33) (x_gk hk38_32) (by decide) (by decide) rfl gv_X8_99 ⟨rfl, hd_X8_take⟩ rfl rfl (Nat.le_of_ble_eq_true rfl) dX8_takeFoot_38 ⟨Nat.le_of_ble_eq_true rfl, Nat.le_of_ble_eq_true rfl⟩ ⟨Nat.le_of_ble_eq_true rfl, Nat.le_of_ble_eq_true rfl⟩ (fun H locs hW => ?_)
      refine lv_aload_n C.x C.b dX8_takeFoot_41 rfl (lv_at hl 1 rfl) ?_
      refine lv_aload_n C.x C.b dX8_takeFoot_42 rfl (lv_at hl 1 rfl) ?_
      refine lv_bipush (v := 59) C.x C.b dX8_takeFoot_43 (by decide) ?_
      replace hf := x_b1 hf; obtain ⟨_, hk45_34, hf⟩ := hf
      replace hf := x_b1 hf; obtain ⟨x45_35, hx45_35, hf⟩ := hf
      refine x_callV (As := [.int 59]) (a := o) (rest := [.ref (E.b + o)]) C hW hl (qX8_isSign l E hx45_35) (x_gk hk45_34) (by decide) (by decide) rfl gv_X8_115 ⟨rfl, hd_X8_isSign⟩ rfl rfl (Nat.le_of_ble_eq_true rfl) dX8_takeFoot_45 ⟨Nat.le_of_ble_eq_true rfl, Nat.le_of_ble_eq_true rfl⟩ ⟨Nat.le_of_ble_eq_true rfl, Nat.le_of_ble_eq_true rfl⟩ (fun H locs hW => ?_)
      replace hf := x_b1 hf; obtain ⟨_, hk48_36, hf⟩ := hf
      replace hf := x_b1 hf; obtain ⟨M48_37, hM48_37, hf⟩ := hf
      refine x_callV (As := [.int x45_35]) (a := o) (rest := []) C hW hl (qX8_take l E hM48_37) (x_gk hk48_36) (by decide) (by decide) rfl gv_X8_99 ⟨rfl, hd_X8_take⟩ rfl rfl (Nat.le_of_ble_eq_true rfl) dX8_takeFoot_48 ⟨Nat.le_of_ble_eq_true rfl, Nat.le_of_ble_eq_true rfl⟩ ⟨Nat.le_of_ble_eq_true rfl, Nat.le_of_ble_eq_true rfl⟩ (fun H locs hW => ?_)
      refine lv_aload_n C.x C.b dX8_takeFoot_51 rfl (lv_at hl 1 rfl) ?_
      replace hf := x_b1 hf; obtain ⟨x52_38, hx52_38, hf⟩ := hf
      refine x_geti C hW fg_X8_41_11 hx52_38 dX8_takeFoot_52 ?_
      refine lv_if_ge (tgt := 68) C.x C.b dX8_takeFoot_55 rfl (fun c55 => ?_) (fun c55 => ?_)
      · replace hf := x_ip c55 hf
        rw [x_e0 hf]
        exact x_vret C hr hW dX8_takeFoot_68
      · replace hf := x_in c55 hf
        refine lv_aload_n C.x C.b dX8_takeFoot_58 rfl (lv_at hl 1 rfl) ?_
        replace hf := x_b1 hf; obtain ⟨a59_39, ha59_39, hf⟩ := hf
        refine x_getn C hW fg_X8_22_11 ha59_39 dX8_takeFoot_59 ?_
        replace hf := x_b1 hf; obtain ⟨a62_40, ha62_40, hf⟩ := hf
        refine x_getn C hW fg_X8_119_3 ha62_40 dX8_takeFoot_62 ?_
        refine lv_iload_n C.x C.b dX8_takeFoot_65 rfl (lv_at hl 2 rfl) ?_
        refine lv_iload_n C.x C.b dX8_takeFoot_66 rfl (lv_at hl 0 rfl) ?_
        replace hf := x_b1 hf; obtain ⟨M67_41, hM67_41, hf⟩ := hf
        refine x_iast C hW hM67_41 dX8_takeFoot_67 (fun H locs hW => ?_)
        rw [x_e0 hf]
        exact x_vret C hr hW dX8_takeFoot_68

theorem dX8_takeNumber_0 : decode cX8_takeNumber 0 = .ok (.aload_n 0, 1) := by decide +kernel
theorem dX8_takeNumber_1 : decode cX8_takeNumber 1 = .ok (.invokevirtual 103, 3) := by decide +kernel
theorem dX8_takeNumber_4 : decode cX8_takeNumber 4 = .ok (.istore_n 3, 1) := by decide +kernel
theorem dX8_takeNumber_5 : decode cX8_takeNumber 5 = .ok (.aload_n 0, 1) := by decide +kernel
theorem dX8_takeNumber_6 : decode cX8_takeNumber 6 = .ok (.iload_n 3, 1) := by decide +kernel
theorem dX8_takeNumber_7 : decode cX8_takeNumber 7 = .ok (.ifCond .lt 16, 3) := by decide +kernel
theorem dX8_takeNumber_10 : decode cX8_takeNumber 10 = .ok (.iload_n 3, 1) := by decide +kernel
theorem dX8_takeNumber_11 : decode cX8_takeNumber 11 = .ok (.iload_n 1, 1) := by decide +kernel
theorem dX8_takeNumber_12 : decode cX8_takeNumber 12 = .ok (.iload_n 2, 1) := by decide +kernel
theorem dX8_takeNumber_13 : decode cX8_takeNumber 13 = .ok (.invokestatic 61, 3) := by decide +kernel
theorem dX8_takeNumber_16 : decode cX8_takeNumber 16 = .ok (.ifCond .eq 7, 3) := by decide +kernel
theorem dX8_takeNumber_19 : decode cX8_takeNumber 19 = .ok (.iconst 1, 1) := by decide +kernel
theorem dX8_takeNumber_20 : decode cX8_takeNumber 20 = .ok (.goto 4, 3) := by decide +kernel
theorem dX8_takeNumber_23 : decode cX8_takeNumber 23 = .ok (.iconst 0, 1) := by decide +kernel
theorem dX8_takeNumber_24 : decode cX8_takeNumber 24 = .ok (.invokevirtual 99, 3) := by decide +kernel
theorem dX8_takeNumber_27 : decode cX8_takeNumber 27 = .ok (.iload_n 3, 1) := by decide +kernel
theorem dX8_takeNumber_28 : decode cX8_takeNumber 28 = .ok (.ireturn, 1) := by decide +kernel
def fX8_takeNumber (M : Mm) (o : Nat) (p1 : Int32) (p2 : Int32) : Option (Int32 × Mm) :=
  B1 (gk M o 11) fun _ =>
  B1 (fX8_numberHere M o) fun x1_2 =>
  if x1_2 < 0 then
    B1 (gk M o 11) fun _ =>
    B1 (fX8_take M o 0) fun M24_4 =>
    some (x1_2, M24_4)
  else
    B1 (fX11_isWithin M x1_2 p1 p2) fun x13_5 =>
    if x13_5 = 0 then
      B1 (gk M o 11) fun _ =>
      B1 (fX8_take M o 0) fun M24_7 =>
      some (x1_2, M24_7)
    else
      B1 (gk M o 11) fun _ =>
      B1 (fX8_take M o 1) fun M24_9 =>
      some (x1_2, M24_9)
set_option maxRecDepth 100000 in
set_option maxHeartbeats 4000000 in
theorem qX8_takeNumber (l : Launch) (E : Ev) {M : Mm} {o : Nat} {p1 : Int32} {p2 : Int32} {rz : Int32} {Mz : Mm} (hf : fX8_takeNumber M o p1 p2 = some (rz, Mz)) : Ct l E yX8_takeNumber cX8_takeNumber 4 (some .int) 1 22 0 0 [.ref (E.b + o), .int p1, .int p2] M (some (.int rz)) Mz := by
  refine ct_of (by decide +kernel) (Nat.le_of_ble_eq_true rfl) fun p e s m args below meth c C hr hin hW ls hl => ?_
  have hl : lv_has ls 4 [(0, .ref (E.b + o)), (1, .int p1), (2, .int p2)] := hl
  unfold fX8_takeNumber at hf
  refine lv_aload_n C.x C.b dX8_takeNumber_0 rfl (lv_at hl 0 rfl) ?_
  replace hf := x_b1 hf; obtain ⟨_, hk1_1, hf⟩ := hf
  replace hf := x_b1 hf; obtain ⟨x1_2, hx1_2, hf⟩ := hf
  refine x_callV (As := []) (a := o) (rest := []) C hW hl (qX8_numberHere l E hx1_2) (x_gk hk1_1) (by decide) (by decide) rfl gv_X8_103 ⟨rfl, hd_X8_numberHere⟩ rfl rfl (Nat.le_of_ble_eq_true rfl) dX8_takeNumber_1 ⟨Nat.le_of_ble_eq_true rfl, Nat.le_of_ble_eq_true rfl⟩ ⟨Nat.le_of_ble_eq_true rfl, Nat.le_of_ble_eq_true rfl⟩ (fun H locs hW => ?_)
  refine lv_istore_n (lv' := [(3, .int _), (0, .ref (E.b + _)), (1, .int _), (2, .int _)]) C.x C.b dX8_takeNumber_4 rfl hl (by decide) rfl (fun ls hl => ?_)
  refine lv_aload_n C.x C.b dX8_takeNumber_5 rfl (lv_at hl 1 rfl) ?_
  refine lv_iload_n C.x C.b dX8_takeNumber_6 rfl (lv_at hl 0 rfl) ?_
  refine lv_if_lt (tgt := 23) C.x C.b dX8_takeNumber_7 rfl (fun c7 => ?_) (fun c7 => ?_)
  · replace hf := x_ip c7 hf
    refine lv_iconst (v := 0) C.x C.b dX8_takeNumber_23 (by decide) ?_
    replace hf := x_b1 hf; obtain ⟨_, hk24_3, hf⟩ := hf
    replace hf := x_b1 hf; obtain ⟨M24_4, hM24_4, hf⟩ := hf
    refine x_callV (As := [.int 0]) (a := o) (rest := []) C hW hl (qX8_take l E hM24_4) (x_gk hk24_3) (by decide) (by decide) rfl gv_X8_99 ⟨rfl, hd_X8_take⟩ rfl rfl (Nat.le_of_ble_eq_true rfl) dX8_takeNumber_24 ⟨Nat.le_of_ble_eq_true rfl, Nat.le_of_ble_eq_true rfl⟩ ⟨Nat.le_of_ble_eq_true rfl, Nat.le_of_ble_eq_true rfl⟩ (fun H locs hW => ?_)
    refine lv_iload_n C.x C.b dX8_takeNumber_27 rfl (lv_at hl 0 rfl) ?_
    rw [x_e1 hf, x_e2 hf]
    exact x_iret C hr hW dX8_takeNumber_28
  · replace hf := x_in c7 hf
    refine lv_iload_n C.x C.b dX8_takeNumber_10 rfl (lv_at hl 0 rfl) ?_
    refine lv_iload_n C.x C.b dX8_takeNumber_11 rfl (lv_at hl 2 rfl) ?_
    refine lv_iload_n C.x C.b dX8_takeNumber_12 rfl (lv_at hl 3 rfl) ?_
    replace hf := x_b1 hf; obtain ⟨x13_5, hx13_5, hf⟩ := hf
    refine x_callSN (host := "NylonLadder") (As := [.int x1_2, .int p1, .int p2]) (rest := [.ref (E.b + o)]) C hW hl (qX11_isWithin l E hx13_5) T_2_53 T_2_32 T_1_1 T_2_33 hd_X11_isWithin rfl rfl (Nat.le_of_ble_eq_true rfl) dX8_takeNumber_13 ⟨Nat.le_of_ble_eq_true rfl, Nat.le_of_ble_eq_true rfl⟩ ⟨Nat.le_of_ble_eq_true rfl, Nat.le_of_ble_eq_true rfl⟩ (fun H locs hW => ?_)
    refine lv_if_eq (tgt := 23) C.x C.b dX8_takeNumber_16 rfl (fun c16 => ?_) (fun c16 => ?_)
    · replace hf := x_ip c16 hf
      refine lv_iconst (v := 0) C.x C.b dX8_takeNumber_23 (by decide) ?_
      replace hf := x_b1 hf; obtain ⟨_, hk24_6, hf⟩ := hf
      replace hf := x_b1 hf; obtain ⟨M24_7, hM24_7, hf⟩ := hf
      refine x_callV (As := [.int 0]) (a := o) (rest := []) C hW hl (qX8_take l E hM24_7) (x_gk hk24_6) (by decide) (by decide) rfl gv_X8_99 ⟨rfl, hd_X8_take⟩ rfl rfl (Nat.le_of_ble_eq_true rfl) dX8_takeNumber_24 ⟨Nat.le_of_ble_eq_true rfl, Nat.le_of_ble_eq_true rfl⟩ ⟨Nat.le_of_ble_eq_true rfl, Nat.le_of_ble_eq_true rfl⟩ (fun H locs hW => ?_)
      refine lv_iload_n C.x C.b dX8_takeNumber_27 rfl (lv_at hl 0 rfl) ?_
      rw [x_e1 hf, x_e2 hf]
      exact x_iret C hr hW dX8_takeNumber_28
    · replace hf := x_in c16 hf
      refine lv_iconst (v := 1) C.x C.b dX8_takeNumber_19 (by decide) ?_
      refine lv_goto (tgt := 24) C.x C.b dX8_takeNumber_20 rfl ?_
      replace hf := x_b1 hf; obtain ⟨_, hk24_8, hf⟩ := hf
      replace hf := x_b1 hf; obtain ⟨M24_9, hM24_9, hf⟩ := hf
      refine x_callV (As := [.int 1]) (a := o) (rest := []) C hW hl (qX8_take l E hM24_9) (x_gk hk24_8) (by decide) (by decide) rfl gv_X8_99 ⟨rfl, hd_X8_take⟩ rfl rfl (Nat.le_of_ble_eq_true rfl) dX8_takeNumber_24 ⟨Nat.le_of_ble_eq_true rfl, Nat.le_of_ble_eq_true rfl⟩ ⟨Nat.le_of_ble_eq_true rfl, Nat.le_of_ble_eq_true rfl⟩ (fun H locs hW => ?_)
      refine lv_iload_n C.x C.b dX8_takeNumber_27 rfl (lv_at hl 0 rfl) ?_
      rw [x_e1 hf, x_e2 hf]
      exact x_iret C hr hW dX8_takeNumber_28

theorem dX8_takeLaw_0 : decode cX8_takeLaw 0 = .ok (.aload_n 0, 1) := by decide +kernel
theorem dX8_takeLaw_1 : decode cX8_takeLaw 1 = .ok (.iconst 1, 1) := by decide +kernel
theorem dX8_takeLaw_2 : decode cX8_takeLaw 2 = .ok (.invokevirtual 99, 3) := by decide +kernel
theorem dX8_takeLaw_5 : decode cX8_takeLaw 5 = .ok (.aload_n 0, 1) := by decide +kernel
theorem dX8_takeLaw_6 : decode cX8_takeLaw 6 = .ok (.getstatic 122, 3) := by decide +kernel
theorem dX8_takeLaw_9 : decode cX8_takeLaw 9 = .ok (.iload_n 1, 1) := by decide +kernel
theorem dX8_takeLaw_10 : decode cX8_takeLaw 10 = .ok (.iaload, 1) := by decide +kernel
theorem dX8_takeLaw_11 : decode cX8_takeLaw 11 = .ok (.getstatic 125, 3) := by decide +kernel
theorem dX8_takeLaw_14 : decode cX8_takeLaw 14 = .ok (.iload_n 1, 1) := by decide +kernel
theorem dX8_takeLaw_15 : decode cX8_takeLaw 15 = .ok (.iaload, 1) := by decide +kernel
theorem dX8_takeLaw_16 : decode cX8_takeLaw 16 = .ok (.invokevirtual 128, 3) := by decide +kernel
theorem dX8_takeLaw_19 : decode cX8_takeLaw 19 = .ok (.istore_n 2, 1) := by decide +kernel
theorem dX8_takeLaw_20 : decode cX8_takeLaw 20 = .ok (.aload_n 0, 1) := by decide +kernel
theorem dX8_takeLaw_21 : decode cX8_takeLaw 21 = .ok (.aload_n 0, 1) := by decide +kernel
theorem dX8_takeLaw_22 : decode cX8_takeLaw 22 = .ok (.bipush 59, 2) := by decide +kernel
theorem dX8_takeLaw_24 : decode cX8_takeLaw 24 = .ok (.invokevirtual 115, 3) := by decide +kernel
theorem dX8_takeLaw_27 : decode cX8_takeLaw 27 = .ok (.invokevirtual 99, 3) := by decide +kernel
theorem dX8_takeLaw_30 : decode cX8_takeLaw 30 = .ok (.aload_n 0, 1) := by decide +kernel
theorem dX8_takeLaw_31 : decode cX8_takeLaw 31 = .ok (.getfield 41, 3) := by decide +kernel
theorem dX8_takeLaw_34 : decode cX8_takeLaw 34 = .ok (.ifCond .ge 13, 3) := by decide +kernel
theorem dX8_takeLaw_37 : decode cX8_takeLaw 37 = .ok (.aload_n 0, 1) := by decide +kernel
theorem dX8_takeLaw_38 : decode cX8_takeLaw 38 = .ok (.getfield 22, 3) := by decide +kernel
theorem dX8_takeLaw_41 : decode cX8_takeLaw 41 = .ok (.getfield 132, 3) := by decide +kernel
theorem dX8_takeLaw_44 : decode cX8_takeLaw 44 = .ok (.iload_n 1, 1) := by decide +kernel
theorem dX8_takeLaw_45 : decode cX8_takeLaw 45 = .ok (.iload_n 2, 1) := by decide +kernel
theorem dX8_takeLaw_46 : decode cX8_takeLaw 46 = .ok (.iastore, 1) := by decide +kernel
theorem dX8_takeLaw_47 : decode cX8_takeLaw 47 = .ok (.return_, 1) := by decide +kernel
theorem hd_X8_takeNumber : yX8_takeNumber.cls ≠ "java/lang/invoke/MethodHandle" ∧ yX8_takeNumber.cls ≠ "java/lang/invoke/VarHandle" ∧ (parseMethodDescriptor yX8_takeNumber.desc).map (fun d => d.parameters.length) = some 2 := by decide +kernel
theorem gv_X8_128 : GoodIn gT (wsV "NylonLadder$Tape" 128 "NylonLadder$Tape" yX8_takeNumber (Cond.code yX8_takeNumber cX8_takeNumber 4 (some .int) :: gT)) := good_V T_2_162 T_2_164 TS_9 T_1_6 T_2_165
theorem fg_X8_132_3 : FdG "NylonLadder$Tape" 132 3 0 true := ⟨_, _, _, _, rfl, by decide, by decide, by decide, gxX0, by decide, T_1_132, Or.inl rfl, rfl⟩
def fX8_takeLaw (M : Mm) (o : Nat) (p1 : Int32) : Option Mm :=
  B1 (gk M o 11) fun _ =>
  B1 (fX8_take M o 1) fun M2_2 =>
  B1 (sld 2 p1) fun x10_3 =>
  B1 (sld 3 p1) fun x15_4 =>
  B1 (gk M2_2 o 11) fun _ =>
  B2 (fX8_takeNumber M2_2 o x10_3 x15_4) fun x16_6 M16_7 =>
  B1 (gk M16_7 o 11) fun _ =>
  B1 (fX8_isSign M16_7 o 59) fun x24_9 =>
  B1 (gk M16_7 o 11) fun _ =>
  B1 (fX8_take M16_7 o x24_9) fun M27_11 =>
  B1 (rdI M27_11 o 11 8) fun x31_12 =>
  if 0 ≤ x31_12 then
    some M27_11
  else
    B1 (rdN M27_11 o 11 2) fun a38_13 =>
    B1 (rdN M27_11 a38_13 3 0) fun a41_14 =>
    B1 (asI M27_11 a41_14 p1 x16_6) fun M46_15 =>
    some M46_15
set_option maxRecDepth 100000 in
set_option maxHeartbeats 4000000 in
theorem qX8_takeLaw (l : Launch) (E : Ev) {M : Mm} {o : Nat} {p1 : Int32} {Mz : Mm} (hf : fX8_takeLaw M o p1 = some Mz) : Ct l E yX8_takeLaw cX8_takeLaw 3 none 2 45 0 0 [.ref (E.b + o), .int p1] M none Mz := by
  refine ct_of (by decide +kernel) (Nat.le_of_ble_eq_true rfl) fun p e s m args below meth c C hr hin hW ls hl => ?_
  have hl : lv_has ls 3 [(0, .ref (E.b + o)), (1, .int p1)] := hl
  unfold fX8_takeLaw at hf
  refine lv_aload_n C.x C.b dX8_takeLaw_0 rfl (lv_at hl 0 rfl) ?_
  refine lv_iconst (v := 1) C.x C.b dX8_takeLaw_1 (by decide) ?_
  replace hf := x_b1 hf; obtain ⟨_, hk2_1, hf⟩ := hf
  replace hf := x_b1 hf; obtain ⟨M2_2, hM2_2, hf⟩ := hf
  refine x_callV (As := [.int 1]) (a := o) (rest := []) C hW hl (qX8_take l E hM2_2) (x_gk hk2_1) (by decide) (by decide) rfl gv_X8_99 ⟨rfl, hd_X8_take⟩ rfl rfl (Nat.le_of_ble_eq_true rfl) dX8_takeLaw_2 ⟨Nat.le_of_ble_eq_true rfl, Nat.le_of_ble_eq_true rfl⟩ ⟨Nat.le_of_ble_eq_true rfl, Nat.le_of_ble_eq_true rfl⟩ (fun H locs hW => ?_)
  refine lv_aload_n C.x C.b dX8_takeLaw_5 rfl (lv_at hl 0 rfl) ?_
  refine x_getsN (k := 2) C hW (by decide) (by decide) T_2_158 dX8_takeLaw_6 ?_
  refine lv_iload_n C.x C.b dX8_takeLaw_9 rfl (lv_at hl 1 rfl) ?_
  replace hf := x_b1 hf; obtain ⟨x10_3, hx10_3, hf⟩ := hf
  refine x_sald (k := 2) C hW (by decide) (by decide) hx10_3 dX8_takeLaw_10 ?_
  refine x_getsN (k := 3) C hW (by decide) (by decide) T_2_160 dX8_takeLaw_11 ?_
  refine lv_iload_n C.x C.b dX8_takeLaw_14 rfl (lv_at hl 1 rfl) ?_
  replace hf := x_b1 hf; obtain ⟨x15_4, hx15_4, hf⟩ := hf
  refine x_sald (k := 3) C hW (by decide) (by decide) hx15_4 dX8_takeLaw_15 ?_
  replace hf := x_b1 hf; obtain ⟨_, hk16_5, hf⟩ := hf
  replace hf := x_b2 hf; obtain ⟨x16_6, M16_7, hx16_6, hf⟩ := hf
  refine x_callV (As := [.int x10_3, .int x15_4]) (a := o) (rest := []) C hW hl (qX8_takeNumber l E hx16_6) (x_gk hk16_5) (by decide) (by decide) rfl gv_X8_128 ⟨rfl, hd_X8_takeNumber⟩ rfl rfl (Nat.le_of_ble_eq_true rfl) dX8_takeLaw_16 ⟨Nat.le_of_ble_eq_true rfl, Nat.le_of_ble_eq_true rfl⟩ ⟨Nat.le_of_ble_eq_true rfl, Nat.le_of_ble_eq_true rfl⟩ (fun H locs hW => ?_)
  refine lv_istore_n (lv' := [(2, .int _), (0, .ref (E.b + _)), (1, .int _)]) C.x C.b dX8_takeLaw_19 rfl hl (by decide) rfl (fun ls hl => ?_)
  refine lv_aload_n C.x C.b dX8_takeLaw_20 rfl (lv_at hl 1 rfl) ?_
  refine lv_aload_n C.x C.b dX8_takeLaw_21 rfl (lv_at hl 1 rfl) ?_
  refine lv_bipush (v := 59) C.x C.b dX8_takeLaw_22 (by decide) ?_
  replace hf := x_b1 hf; obtain ⟨_, hk24_8, hf⟩ := hf
  replace hf := x_b1 hf; obtain ⟨x24_9, hx24_9, hf⟩ := hf
  refine x_callV (As := [.int 59]) (a := o) (rest := [.ref (E.b + o)]) C hW hl (qX8_isSign l E hx24_9) (x_gk hk24_8) (by decide) (by decide) rfl gv_X8_115 ⟨rfl, hd_X8_isSign⟩ rfl rfl (Nat.le_of_ble_eq_true rfl) dX8_takeLaw_24 ⟨Nat.le_of_ble_eq_true rfl, Nat.le_of_ble_eq_true rfl⟩ ⟨Nat.le_of_ble_eq_true rfl, Nat.le_of_ble_eq_true rfl⟩ (fun H locs hW => ?_)
  replace hf := x_b1 hf; obtain ⟨_, hk27_10, hf⟩ := hf
  replace hf := x_b1 hf; obtain ⟨M27_11, hM27_11, hf⟩ := hf
  refine x_callV (As := [.int x24_9]) (a := o) (rest := []) C hW hl (qX8_take l E hM27_11) (x_gk hk27_10) (by decide) (by decide) rfl gv_X8_99 ⟨rfl, hd_X8_take⟩ rfl rfl (Nat.le_of_ble_eq_true rfl) dX8_takeLaw_27 ⟨Nat.le_of_ble_eq_true rfl, Nat.le_of_ble_eq_true rfl⟩ ⟨Nat.le_of_ble_eq_true rfl, Nat.le_of_ble_eq_true rfl⟩ (fun H locs hW => ?_)
  refine lv_aload_n C.x C.b dX8_takeLaw_30 rfl (lv_at hl 1 rfl) ?_
  replace hf := x_b1 hf; obtain ⟨x31_12, hx31_12, hf⟩ := hf
  refine x_geti C hW fg_X8_41_11 hx31_12 dX8_takeLaw_31 ?_
  refine lv_if_ge (tgt := 47) C.x C.b dX8_takeLaw_34 rfl (fun c34 => ?_) (fun c34 => ?_)
  · replace hf := x_ip c34 hf
    rw [x_e0 hf]
    exact x_vret C hr hW dX8_takeLaw_47
  · replace hf := x_in c34 hf
    refine lv_aload_n C.x C.b dX8_takeLaw_37 rfl (lv_at hl 1 rfl) ?_
    replace hf := x_b1 hf; obtain ⟨a38_13, ha38_13, hf⟩ := hf
    refine x_getn C hW fg_X8_22_11 ha38_13 dX8_takeLaw_38 ?_
    replace hf := x_b1 hf; obtain ⟨a41_14, ha41_14, hf⟩ := hf
    refine x_getn C hW fg_X8_132_3 ha41_14 dX8_takeLaw_41 ?_
    refine lv_iload_n C.x C.b dX8_takeLaw_44 rfl (lv_at hl 2 rfl) ?_
    refine lv_iload_n C.x C.b dX8_takeLaw_45 rfl (lv_at hl 0 rfl) ?_
    replace hf := x_b1 hf; obtain ⟨M46_15, hM46_15, hf⟩ := hf
    refine x_iast C hW hM46_15 dX8_takeLaw_46 (fun H locs hW => ?_)
    rw [x_e0 hf]
    exact x_vret C hr hW dX8_takeLaw_47

theorem dX8_nameOfMove_0 : decode cX8_nameOfMove 0 = .ok (.iload_n 0, 1) := by decide +kernel
theorem dX8_nameOfMove_1 : decode cX8_nameOfMove 1 = .ok (.tableswitch 36 1 3 #[27, 30, 33], 27) := by decide +kernel
theorem dX8_nameOfMove_28 : decode cX8_nameOfMove 28 = .ok (.ldc 203, 2) := by decide +kernel
theorem dX8_nameOfMove_30 : decode cX8_nameOfMove 30 = .ok (.areturn, 1) := by decide +kernel
theorem dX8_nameOfMove_31 : decode cX8_nameOfMove 31 = .ok (.ldc 205, 2) := by decide +kernel
theorem dX8_nameOfMove_33 : decode cX8_nameOfMove 33 = .ok (.areturn, 1) := by decide +kernel
theorem dX8_nameOfMove_34 : decode cX8_nameOfMove 34 = .ok (.ldc 207, 2) := by decide +kernel
theorem dX8_nameOfMove_36 : decode cX8_nameOfMove 36 = .ok (.areturn, 1) := by decide +kernel
theorem dX8_nameOfMove_37 : decode cX8_nameOfMove 37 = .ok (.ldc 209, 2) := by decide +kernel
theorem dX8_nameOfMove_39 : decode cX8_nameOfMove 39 = .ok (.areturn, 1) := by decide +kernel
def fX8_nameOfMove (M : Mm) (p1 : Int32) : Option Nat :=
  if p1 = 1 then
    some 5
  else
    if p1 = 2 then
      some 6
    else
      if p1 = 3 then
        some 7
      else
        some 8
set_option maxRecDepth 100000 in
set_option maxHeartbeats 4000000 in
theorem qX8_nameOfMove (l : Launch) (E : Ev) {M : Mm} {p1 : Int32} {rz : Nat} (hf : fX8_nameOfMove M p1 = some rz) : Ct l E yX8_nameOfMove cX8_nameOfMove 1 (some (.object "java/lang/String")) 0 0 0 0 [.int p1] M (some (.ref (E.x (100 + rz)))) M := by
  refine ct_of (by decide +kernel) (Nat.le_of_ble_eq_true rfl) fun p e s m args below meth c C hr hin hW ls hl => ?_
  have hl : lv_has ls 1 [(0, .int p1)] := hl
  unfold fX8_nameOfMove at hf
  refine lv_iload_n C.x C.b dX8_nameOfMove_0 rfl (lv_at hl 0 rfl) ?_
  by_cases s1_1 : p1 = 1
  · replace hf := x_ip s1_1 hf
    refine lv_tableIn (off := 27) (tgt := 28) C.x C.b dX8_nameOfMove_1 (by rw [s1_1]; decide) (by rw [s1_1]; decide) (by rw [s1_1]; rfl) rfl ?_
    refine x_ldcS (q := 5) (tx := "stairs") C (by decide +kernel) dX8_nameOfMove_28 ?_
    rw [x_e0 hf]
    exact x_sret C hr (Or.inl ⟨_, rfl⟩) hW dX8_nameOfMove_30
  · replace hf := x_in s1_1 hf
    by_cases s1_2 : p1 = 2
    · replace hf := x_ip s1_2 hf
      refine lv_tableIn (off := 30) (tgt := 31) C.x C.b dX8_nameOfMove_1 (by rw [s1_2]; decide) (by rw [s1_2]; decide) (by rw [s1_2]; rfl) rfl ?_
      refine x_ldcS (q := 6) (tx := "sits") C (by decide +kernel) dX8_nameOfMove_31 ?_
      rw [x_e0 hf]
      exact x_sret C hr (Or.inl ⟨_, rfl⟩) hW dX8_nameOfMove_33
    · replace hf := x_in s1_2 hf
      by_cases s1_3 : p1 = 3
      · replace hf := x_ip s1_3 hf
        refine lv_tableIn (off := 33) (tgt := 34) C.x C.b dX8_nameOfMove_1 (by rw [s1_3]; decide) (by rw [s1_3]; decide) (by rw [s1_3]; rfl) rfl ?_
        refine x_ldcS (q := 7) (tx := "stands") C (by decide +kernel) dX8_nameOfMove_34 ?_
        rw [x_e0 hf]
        exact x_sret C hr (Or.inl ⟨_, rfl⟩) hW dX8_nameOfMove_36
      · replace hf := x_in s1_3 hf
        have s1_1_ := lv_neT (a := 1) s1_1 rfl
        have s1_2_ := lv_neT (a := 2) s1_2 rfl
        have s1_3_ := lv_neT (a := 3) s1_3 rfl
        refine lv_tableOut (tgt := 37) C.x C.b dX8_nameOfMove_1 (by omega) rfl ?_
        refine x_ldcS (q := 8) (tx := "steps") C (by decide +kernel) dX8_nameOfMove_37 ?_
        rw [x_e0 hf]
        exact x_sret C hr (Or.inl ⟨_, rfl⟩) hW dX8_nameOfMove_39

theorem dX8_moveHere_0 : decode cX8_moveHere 0 = .ok (.iconst 0, 1) := by decide +kernel
theorem dX8_moveHere_1 : decode cX8_moveHere 1 = .ok (.istore_n 1, 1) := by decide +kernel
theorem dX8_moveHere_2 : decode cX8_moveHere 2 = .ok (.iload_n 1, 1) := by decide +kernel
theorem dX8_moveHere_3 : decode cX8_moveHere 3 = .ok (.iconst 3, 1) := by decide +kernel
theorem dX8_moveHere_4 : decode cX8_moveHere 4 = .ok (.if_icmp .gt 22, 3) := by decide +kernel
theorem dX8_moveHere_7 : decode cX8_moveHere 7 = .ok (.aload_n 0, 1) := by decide +kernel
theorem dX8_moveHere_8 : decode cX8_moveHere 8 = .ok (.iload_n 1, 1) := by decide +kernel
theorem dX8_moveHere_9 : decode cX8_moveHere 9 = .ok (.invokestatic 188, 3) := by decide +kernel
theorem dX8_moveHere_12 : decode cX8_moveHere 12 = .ok (.invokevirtual 67, 3) := by decide +kernel
theorem dX8_moveHere_15 : decode cX8_moveHere 15 = .ok (.ifCond .eq 5, 3) := by decide +kernel
theorem dX8_moveHere_18 : decode cX8_moveHere 18 = .ok (.iload_n 1, 1) := by decide +kernel
theorem dX8_moveHere_19 : decode cX8_moveHere 19 = .ok (.ireturn, 1) := by decide +kernel
theorem dX8_moveHere_20 : decode cX8_moveHere 20 = .ok (.iinc 1 1, 3) := by decide +kernel
theorem dX8_moveHere_23 : decode cX8_moveHere 23 = .ok (.goto (-21), 3) := by decide +kernel
theorem dX8_moveHere_26 : decode cX8_moveHere 26 = .ok (.iconst (-1), 1) := by decide +kernel
theorem dX8_moveHere_27 : decode cX8_moveHere 27 = .ok (.ireturn, 1) := by decide +kernel
theorem hd_X8_nameOfMove : yX8_nameOfMove.cls ≠ "java/lang/invoke/MethodHandle" ∧ yX8_nameOfMove.cls ≠ "java/lang/invoke/VarHandle" ∧ (parseMethodDescriptor yX8_nameOfMove.desc).map (fun d => d.parameters.length) = some 1 := by decide +kernel
theorem gs_X8_188 : GoodIn gT (va_wsS "NylonLadder$Tape" 188 yX8_nameOfMove (Cond.code yX8_nameOfMove cX8_nameOfMove 1 (some (.object "java/lang/String")) :: gT)) := good_S T_2_180 T_2_181 T_1_6 T_2_182
theorem hd_X8_isName : yX8_isName.cls ≠ "java/lang/invoke/MethodHandle" ∧ yX8_isName.cls ≠ "java/lang/invoke/VarHandle" ∧ (parseMethodDescriptor yX8_isName.desc).map (fun d => d.parameters.length) = some 1 := by decide +kernel
theorem gv_X8_67 : GoodIn gT (wsV "NylonLadder$Tape" 67 "NylonLadder$Tape" yX8_isName (Cond.code yX8_isName cX8_isName 4 (some .boolean) :: gT)) := good_V T_2_71 T_2_73 TS_3 T_1_6 T_2_74
def fX8_moveHere_L2 (M : Mm) (o : Nat) : Nat → Int32 → Option Int32
  | 0, _ => none
  | n + 1, v1 =>
    if 3 < v1 then
      some (-1)
    else
      B1 (fX8_nameOfMove M v1) fun x9_1 =>
      B1 (gk M o 11) fun _ =>
      B1 (fX8_isName M o x9_1) fun x12_3 =>
      if x12_3 = 0 then
        fX8_moveHere_L2 M o n (v1 + 1)
      else
        some v1
def fX8_moveHere (M : Mm) (o : Nat) : Option Int32 :=
  fX8_moveHere_L2 M o FL 0
set_option maxRecDepth 100000 in
set_option maxHeartbeats 4000000 in
theorem kX8_moveHere_L2 {l : Launch} {E : Ev} {p : Program} {e : Env} {s : State} {m : MethodId} {args : Array Value} {below : List Frame} {meth : Method} {c : Code} (C : Cx E p s m args meth c cX8_moveHere yX8_moveHere.cls 2) (hr : meth.sig.returnType = (some .int)) (hin : yX8_moveHere.name = "<init>" → meth.name = "<init>") {M : Mm}  {o : Nat} {rz : Int32} : ∀ (n : Nat) (v1 : Int32), fX8_moveHere_L2 M o n v1 = some rz → ∀ (H : Heap) (locs : List Loc) (ls : Array Slot), Wx E s H locs M → lv_has ls 2 [(0, .ref (E.b + o)), (1, .int v1)] → W p l e (rM 5 108 0 0) s m args below meth c H locs 0 0 (MQ below (Qp E (some (.int rz)) M) args s 0 0 E.A) (F0 m 2 ls []) := by
  intro n
  induction n with
  | zero =>
    intro v1 hf
    unfold fX8_moveHere_L2 at hf
    cases hf
  | succ n ih =>
    intro v1 hf H locs ls hW hl
    unfold fX8_moveHere_L2 at hf
    refine lv_iload_n C.x C.b dX8_moveHere_2 rfl (lv_at hl 1 rfl) ?_
    refine lv_iconst (v := 3) C.x C.b dX8_moveHere_3 (by decide) ?_
    refine lv_icmp_gt (tgt := 26) C.x C.b dX8_moveHere_4 rfl (fun c4 => ?_) (fun c4 => ?_)
    · replace hf := x_ip c4 hf
      refine lv_iconst (v := (-1)) C.x C.b dX8_moveHere_26 (by decide) ?_
      rw [x_e0 hf]
      exact x_iret C hr hW dX8_moveHere_27
    · replace hf := x_in c4 hf
      refine lv_aload_n C.x C.b dX8_moveHere_7 rfl (lv_at hl 0 rfl) ?_
      refine lv_iload_n C.x C.b dX8_moveHere_8 rfl (lv_at hl 1 rfl) ?_
      replace hf := x_b1 hf; obtain ⟨x9_1, hx9_1, hf⟩ := hf
      refine x_callS (As := [.int v1]) (rest := [.ref (E.b + o)]) C hW hl (qX8_nameOfMove l E hx9_1) gs_X8_188 hd_X8_nameOfMove rfl rfl (Nat.le_of_ble_eq_true rfl) dX8_moveHere_9 ⟨Nat.le_of_ble_eq_true rfl, Nat.le_of_ble_eq_true rfl⟩ ⟨Nat.le_of_ble_eq_true rfl, Nat.le_of_ble_eq_true rfl⟩ (fun H locs hW => ?_)
      replace hf := x_b1 hf; obtain ⟨_, hk12_2, hf⟩ := hf
      replace hf := x_b1 hf; obtain ⟨x12_3, hx12_3, hf⟩ := hf
      refine x_callV (As := [.ref (E.x (100 + x9_1))]) (a := o) (rest := []) C hW hl (qX8_isName l E hx12_3) (x_gk hk12_2) (by decide) (by decide) rfl gv_X8_67 ⟨rfl, hd_X8_isName⟩ rfl rfl (Nat.le_of_ble_eq_true rfl) dX8_moveHere_12 ⟨Nat.le_of_ble_eq_true rfl, Nat.le_of_ble_eq_true rfl⟩ ⟨Nat.le_of_ble_eq_true rfl, Nat.le_of_ble_eq_true rfl⟩ (fun H locs hW => ?_)
      refine lv_if_eq (tgt := 20) C.x C.b dX8_moveHere_15 rfl (fun c15 => ?_) (fun c15 => ?_)
      · replace hf := x_ip c15 hf
        refine lv_iinc (v := (v1 + 1)) (lv' := [(1, .int (v1 + 1)), (0, .ref (E.b + _))]) C.x C.b dX8_moveHere_20 hl (k := 1) rfl (by first | rfl | decide) (by decide) rfl (fun ls hl => ?_)
        refine lv_goto (tgt := 2) C.x C.b dX8_moveHere_23 rfl ?_
        exact ih (v1 + 1) hf _ _ _ hW (lv_sub hl [1, 0] rfl)
      · replace hf := x_in c15 hf
        refine lv_iload_n C.x C.b dX8_moveHere_18 rfl (lv_at hl 1 rfl) ?_
        rw [x_e0 hf]
        exact x_iret C hr hW dX8_moveHere_19
set_option maxRecDepth 100000 in
set_option maxHeartbeats 4000000 in
theorem qX8_moveHere (l : Launch) (E : Ev) {M : Mm} {o : Nat} {rz : Int32} (hf : fX8_moveHere M o = some rz) : Ct l E yX8_moveHere cX8_moveHere 2 (some .int) 5 108 0 0 [.ref (E.b + o)] M (some (.int rz)) M := by
  refine ct_of (by decide +kernel) (Nat.le_of_ble_eq_true rfl) fun p e s m args below meth c C hr hin hW ls hl => ?_
  have hl : lv_has ls 2 [(0, .ref (E.b + o))] := hl
  unfold fX8_moveHere at hf
  refine lv_iconst (v := 0) C.x C.b dX8_moveHere_0 (by decide) ?_
  refine lv_istore_n (lv' := [(1, .int _), (0, .ref (E.b + _))]) C.x C.b dX8_moveHere_1 rfl hl (by decide) rfl (fun ls hl => ?_)
  exact kX8_moveHere_L2 C hr hin FL 0 hf _ _ _ hW (lv_sub hl [1, 0] rfl)

theorem dX10_addLeg_0 : decode cX10_addLeg 0 = .ok (.aload_n 0, 1) := by decide +kernel
theorem dX10_addLeg_1 : decode cX10_addLeg 1 = .ok (.getfield 9, 3) := by decide +kernel
theorem dX10_addLeg_4 : decode cX10_addLeg 4 = .ok (.bipush 10, 2) := by decide +kernel
theorem dX10_addLeg_6 : decode cX10_addLeg 6 = .ok (.if_icmp .lt 5, 3) := by decide +kernel
theorem dX10_addLeg_9 : decode cX10_addLeg 9 = .ok (.iconst 0, 1) := by decide +kernel
theorem dX10_addLeg_10 : decode cX10_addLeg 10 = .ok (.ireturn, 1) := by decide +kernel
theorem dX10_addLeg_11 : decode cX10_addLeg 11 = .ok (.aload_n 0, 1) := by decide +kernel
theorem dX10_addLeg_12 : decode cX10_addLeg 12 = .ok (.getfield 15, 3) := by decide +kernel
theorem dX10_addLeg_15 : decode cX10_addLeg 15 = .ok (.aload_n 0, 1) := by decide +kernel
theorem dX10_addLeg_16 : decode cX10_addLeg 16 = .ok (.getfield 9, 3) := by decide +kernel
theorem dX10_addLeg_19 : decode cX10_addLeg 19 = .ok (.iload_n 1, 1) := by decide +kernel
theorem dX10_addLeg_20 : decode cX10_addLeg 20 = .ok (.iastore, 1) := by decide +kernel
theorem dX10_addLeg_21 : decode cX10_addLeg 21 = .ok (.aload_n 0, 1) := by decide +kernel
theorem dX10_addLeg_22 : decode cX10_addLeg 22 = .ok (.getfield 19, 3) := by decide +kernel
theorem dX10_addLeg_25 : decode cX10_addLeg 25 = .ok (.aload_n 0, 1) := by decide +kernel
theorem dX10_addLeg_26 : decode cX10_addLeg 26 = .ok (.getfield 9, 3) := by decide +kernel
theorem dX10_addLeg_29 : decode cX10_addLeg 29 = .ok (.iload_n 2, 1) := by decide +kernel
theorem dX10_addLeg_30 : decode cX10_addLeg 30 = .ok (.iastore, 1) := by decide +kernel
theorem dX10_addLeg_31 : decode cX10_addLeg 31 = .ok (.aload_n 0, 1) := by decide +kernel
theorem dX10_addLeg_32 : decode cX10_addLeg 32 = .ok (.dup, 1) := by decide +kernel
theorem dX10_addLeg_33 : decode cX10_addLeg 33 = .ok (.getfield 9, 3) := by decide +kernel
theorem dX10_addLeg_36 : decode cX10_addLeg 36 = .ok (.iconst 1, 1) := by decide +kernel
theorem dX10_addLeg_37 : decode cX10_addLeg 37 = .ok (.iadd, 1) := by decide +kernel
theorem dX10_addLeg_38 : decode cX10_addLeg 38 = .ok (.putfield 9, 3) := by decide +kernel
theorem dX10_addLeg_41 : decode cX10_addLeg 41 = .ok (.iconst 1, 1) := by decide +kernel
theorem dX10_addLeg_42 : decode cX10_addLeg 42 = .ok (.ireturn, 1) := by decide +kernel
def fX10_addLeg (M : Mm) (o : Nat) (p1 : Int32) (p2 : Int32) : Option (Int32 × Mm) :=
  B1 (rdI M o 13 0) fun x1_1 =>
  if x1_1 < 10 then
    B1 (rdN M o 13 1) fun a12_2 =>
    B1 (rdI M o 13 0) fun x16_3 =>
    B1 (asI M a12_2 x16_3 p1) fun M20_4 =>
    B1 (rdN M20_4 o 13 2) fun a22_5 =>
    B1 (rdI M20_4 o 13 0) fun x26_6 =>
    B1 (asI M20_4 a22_5 x26_6 p2) fun M30_7 =>
    B1 (rdI M30_7 o 13 0) fun x33_8 =>
    B1 (wrI M30_7 o 13 0 (x33_8 + 1)) fun M38_9 =>
    some (1, M38_9)
  else
    some (0, M)
set_option maxRecDepth 100000 in
set_option maxHeartbeats 4000000 in
theorem qX10_addLeg (l : Launch) (E : Ev) {M : Mm} {o : Nat} {p1 : Int32} {p2 : Int32} {rz : Int32} {Mz : Mm} (hf : fX10_addLeg M o p1 p2 = some (rz, Mz)) : Ct l E yX10_addLeg cX10_addLeg 3 (some .boolean) 0 0 0 0 [.ref (E.b + o), .int p1, .int p2] M (some (.int rz)) Mz := by
  refine ct_of (by decide +kernel) (Nat.le_of_ble_eq_true rfl) fun p e s m args below meth c C hr hin hW ls hl => ?_
  have hl : lv_has ls 3 [(0, .ref (E.b + o)), (1, .int p1), (2, .int p2)] := hl
  unfold fX10_addLeg at hf
  refine lv_aload_n C.x C.b dX10_addLeg_0 rfl (lv_at hl 0 rfl) ?_
  replace hf := x_b1 hf; obtain ⟨x1_1, hx1_1, hf⟩ := hf
  refine x_geti C hW fg_X10_9_13 hx1_1 dX10_addLeg_1 ?_
  refine lv_bipush (v := 10) C.x C.b dX10_addLeg_4 (by decide) ?_
  refine lv_icmp_lt (tgt := 11) C.x C.b dX10_addLeg_6 rfl (fun c6 => ?_) (fun c6 => ?_)
  · replace hf := x_ip c6 hf
    refine lv_aload_n C.x C.b dX10_addLeg_11 rfl (lv_at hl 0 rfl) ?_
    replace hf := x_b1 hf; obtain ⟨a12_2, ha12_2, hf⟩ := hf
    refine x_getn C hW fg_X10_15_13 ha12_2 dX10_addLeg_12 ?_
    refine lv_aload_n C.x C.b dX10_addLeg_15 rfl (lv_at hl 0 rfl) ?_
    replace hf := x_b1 hf; obtain ⟨x16_3, hx16_3, hf⟩ := hf
    refine x_geti C hW fg_X10_9_13 hx16_3 dX10_addLeg_16 ?_
    refine lv_iload_n C.x C.b dX10_addLeg_19 rfl (lv_at hl 1 rfl) ?_
    replace hf := x_b1 hf; obtain ⟨M20_4, hM20_4, hf⟩ := hf
    refine x_iast C hW hM20_4 dX10_addLeg_20 (fun H locs hW => ?_)
    refine lv_aload_n C.x C.b dX10_addLeg_21 rfl (lv_at hl 0 rfl) ?_
    replace hf := x_b1 hf; obtain ⟨a22_5, ha22_5, hf⟩ := hf
    refine x_getn C hW fg_X10_19_13 ha22_5 dX10_addLeg_22 ?_
    refine lv_aload_n C.x C.b dX10_addLeg_25 rfl (lv_at hl 0 rfl) ?_
    replace hf := x_b1 hf; obtain ⟨x26_6, hx26_6, hf⟩ := hf
    refine x_geti C hW fg_X10_9_13 hx26_6 dX10_addLeg_26 ?_
    refine lv_iload_n C.x C.b dX10_addLeg_29 rfl (lv_at hl 2 rfl) ?_
    replace hf := x_b1 hf; obtain ⟨M30_7, hM30_7, hf⟩ := hf
    refine x_iast C hW hM30_7 dX10_addLeg_30 (fun H locs hW => ?_)
    refine lv_aload_n C.x C.b dX10_addLeg_31 rfl (lv_at hl 0 rfl) ?_
    refine lv_dup C.x C.b dX10_addLeg_32 rfl ?_
    replace hf := x_b1 hf; obtain ⟨x33_8, hx33_8, hf⟩ := hf
    refine x_geti C hW fg_X10_9_13 hx33_8 dX10_addLeg_33 ?_
    refine lv_iconst (v := 1) C.x C.b dX10_addLeg_36 (by decide) ?_
    refine lv_iadd C.x C.b dX10_addLeg_37 ?_
    replace hf := x_b1 hf; obtain ⟨M38_9, hM38_9, hf⟩ := hf
    refine x_puti C hW fp_X10_9_13 hM38_9 (fun h => by cases h) dX10_addLeg_38 (fun H locs hW => ?_)
    refine lv_iconst (v := 1) C.x C.b dX10_addLeg_41 (by decide) ?_
    rw [x_e1 hf, x_e2 hf]
    exact x_zret C hr hW (v := 1) (w := 1) rfl dX10_addLeg_42
  · replace hf := x_in c6 hf
    refine lv_iconst (v := 0) C.x C.b dX10_addLeg_9 (by decide) ?_
    rw [x_e1 hf, x_e2 hf]
    exact x_zret C hr hW (v := 0) (w := 0) rfl dX10_addLeg_10
