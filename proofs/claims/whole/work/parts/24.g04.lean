theorem dX12_isWord_0 : decode cX12_isWord 0 = .ok (.aload_n 0, 1) := by decide +kernel
theorem dX12_isWord_1 : decode cX12_isWord 1 = .ok (.getfield 296, 3) := by decide +kernel
theorem dX12_isWord_4 : decode cX12_isWord 4 = .ok (.ifCond .ne 23, 3) := by decide +kernel
theorem dX12_isWord_7 : decode cX12_isWord 7 = .ok (.aload_n 0, 1) := by decide +kernel
theorem dX12_isWord_8 : decode cX12_isWord 8 = .ok (.getfield 286, 3) := by decide +kernel
theorem dX12_isWord_11 : decode cX12_isWord 11 = .ok (.aload_n 0, 1) := by decide +kernel
theorem dX12_isWord_12 : decode cX12_isWord 12 = .ok (.getfield 289, 3) := by decide +kernel
theorem dX12_isWord_15 : decode cX12_isWord 15 = .ok (.isub, 1) := by decide +kernel
theorem dX12_isWord_16 : decode cX12_isWord 16 = .ok (.aload_n 1, 1) := by decide +kernel
theorem dX12_isWord_17 : decode cX12_isWord 17 = .ok (.invokevirtual 300, 3) := by decide +kernel
theorem dX12_isWord_20 : decode cX12_isWord 20 = .ok (.if_icmp .ne 7, 3) := by decide +kernel
theorem dX12_isWord_23 : decode cX12_isWord 23 = .ok (.iconst 1, 1) := by decide +kernel
theorem dX12_isWord_24 : decode cX12_isWord 24 = .ok (.goto 4, 3) := by decide +kernel
theorem dX12_isWord_27 : decode cX12_isWord 27 = .ok (.iconst 0, 1) := by decide +kernel
theorem dX12_isWord_28 : decode cX12_isWord 28 = .ok (.istore_n 2, 1) := by decide +kernel
theorem dX12_isWord_29 : decode cX12_isWord 29 = .ok (.iconst 0, 1) := by decide +kernel
theorem dX12_isWord_30 : decode cX12_isWord 30 = .ok (.istore_n 3, 1) := by decide +kernel
theorem dX12_isWord_31 : decode cX12_isWord 31 = .ok (.iload_n 2, 1) := by decide +kernel
theorem dX12_isWord_32 : decode cX12_isWord 32 = .ok (.ifCond .eq 42, 3) := by decide +kernel
theorem dX12_isWord_35 : decode cX12_isWord 35 = .ok (.iload_n 3, 1) := by decide +kernel
theorem dX12_isWord_36 : decode cX12_isWord 36 = .ok (.aload_n 1, 1) := by decide +kernel
theorem dX12_isWord_37 : decode cX12_isWord 37 = .ok (.invokevirtual 300, 3) := by decide +kernel
theorem dX12_isWord_40 : decode cX12_isWord 40 = .ok (.if_icmp .ge 34, 3) := by decide +kernel
theorem dX12_isWord_43 : decode cX12_isWord 43 = .ok (.aload_n 0, 1) := by decide +kernel
theorem dX12_isWord_44 : decode cX12_isWord 44 = .ok (.getfield 22, 3) := by decide +kernel
theorem dX12_isWord_47 : decode cX12_isWord 47 = .ok (.aload_n 0, 1) := by decide +kernel
theorem dX12_isWord_48 : decode cX12_isWord 48 = .ok (.getfield 289, 3) := by decide +kernel
theorem dX12_isWord_51 : decode cX12_isWord 51 = .ok (.iload_n 3, 1) := by decide +kernel
theorem dX12_isWord_52 : decode cX12_isWord 52 = .ok (.iadd, 1) := by decide +kernel
theorem dX12_isWord_53 : decode cX12_isWord 53 = .ok (.iaload, 1) := by decide +kernel
theorem dX12_isWord_54 : decode cX12_isWord 54 = .ok (.aload_n 1, 1) := by decide +kernel
theorem dX12_isWord_55 : decode cX12_isWord 55 = .ok (.iload_n 3, 1) := by decide +kernel
theorem dX12_isWord_56 : decode cX12_isWord 56 = .ok (.invokevirtual 305, 3) := by decide +kernel
theorem dX12_isWord_59 : decode cX12_isWord 59 = .ok (.if_icmp .ne 7, 3) := by decide +kernel
theorem dX12_isWord_62 : decode cX12_isWord 62 = .ok (.iconst 1, 1) := by decide +kernel
theorem dX12_isWord_63 : decode cX12_isWord 63 = .ok (.goto 4, 3) := by decide +kernel
theorem dX12_isWord_66 : decode cX12_isWord 66 = .ok (.iconst 0, 1) := by decide +kernel
theorem dX12_isWord_67 : decode cX12_isWord 67 = .ok (.istore_n 2, 1) := by decide +kernel
theorem dX12_isWord_68 : decode cX12_isWord 68 = .ok (.iinc 3 1, 3) := by decide +kernel
theorem dX12_isWord_71 : decode cX12_isWord 71 = .ok (.goto (-40), 3) := by decide +kernel
theorem dX12_isWord_74 : decode cX12_isWord 74 = .ok (.iload_n 2, 1) := by decide +kernel
theorem dX12_isWord_75 : decode cX12_isWord 75 = .ok (.ireturn, 1) := by decide +kernel
theorem fg_X12_296_15 : FdG "NylonLadderModel" 296 15 9 false := ⟨_, _, _, _, rfl, by decide, by decide, by decide, gxX12, by decide, T_6_58, Or.inl rfl, rfl⟩
theorem hd_J0_length_8abf5 : yJ0_length_8abf5.cls ≠ "java/lang/invoke/MethodHandle" ∧ yJ0_length_8abf5.cls ≠ "java/lang/invoke/VarHandle" ∧ (parseMethodDescriptor yJ0_length_8abf5.desc).map (fun d => d.parameters.length) = some 0 := by decide +kernel
theorem gv_X12_300 : GoodIn gT (wsV "NylonLadderModel" 300 "java/lang/String" yJ0_length_8abf5 (Cond.code yJ0_length_8abf5 cJ0_length_8abf5 1 (some .int) :: gT)) := good_V T_8_48 T_2_76 T_2_77 T_1_11 T_2_78
theorem hd_J0_charAt_5068e : yJ0_charAt_5068e.cls ≠ "java/lang/invoke/MethodHandle" ∧ yJ0_charAt_5068e.cls ≠ "java/lang/invoke/VarHandle" ∧ (parseMethodDescriptor yJ0_charAt_5068e.desc).map (fun d => d.parameters.length) = some 1 := by decide +kernel
theorem gv_X12_305 : GoodIn gT (wsV "NylonLadderModel" 305 "java/lang/String" yJ0_charAt_5068e (Cond.code yJ0_charAt_5068e cJ0_charAt_5068e 2 (some .char) :: gT)) := good_V T_8_49 T_2_86 T_2_87 T_1_11 T_2_88
def fX12_isWord_L31 (M : Mm) (o : Nat) (v1 : Nat) : Nat → Int32 → Int32 → Option Int32
  | 0, _, _ => none
  | n + 1, v2, v3 =>
    if v2 = 0 then
      bz v2
    else
      B1 (tq v1) fun _ =>
      B1 (fJ0_length_8abf5 M v1) fun x37_3 =>
      if x37_3 ≤ v3 then
        bz v2
      else
        B1 (rdN M o 15 5) fun a44_4 =>
        B1 (rdI M o 15 7) fun x48_5 =>
        B1 (alI M a44_4 (x48_5 + v3)) fun x53_6 =>
        B1 (tq v1) fun _ =>
        B1 (fJ0_charAt_5068e M v1 v3) fun x56_8 =>
        if x53_6 = x56_8 then
          fX12_isWord_L31 M o v1 n 1 (v3 + 1)
        else
          fX12_isWord_L31 M o v1 n 0 (v3 + 1)
def fX12_isWord (M : Mm) (o : Nat) (p1 : Nat) : Option Int32 :=
  B1 (rdI M o 15 9) fun x1_1 =>
  if x1_1 = 0 then
    B1 (rdI M o 15 8) fun x8_9 =>
    B1 (rdI M o 15 7) fun x12_10 =>
    B1 (tq p1) fun _ =>
    B1 (fJ0_length_8abf5 M p1) fun x17_12 =>
    if (x8_9 - x12_10) = x17_12 then
      fX12_isWord_L31 M o p1 FL 1 0
    else
      fX12_isWord_L31 M o p1 FL 0 0
  else
    fX12_isWord_L31 M o p1 FL 0 0
set_option maxRecDepth 100000 in
set_option maxHeartbeats 4000000 in
theorem kX12_isWord_L31 {l : Launch} {E : Ev} {p : Program} {e : Env} {s : State} {m : MethodId} {args : Array Value} {below : List Frame} {meth : Method} {c : Code} (C : Cx E p s m args meth c cX12_isWord yX12_isWord.cls 4) (hr : meth.sig.returnType = (some .boolean)) (hin : yX12_isWord.name = "<init>" → meth.name = "<init>") {M : Mm}  {o : Nat} {v1 : Nat} {rz : Int32} : ∀ (n : Nat) (v2 : Int32) (v3 : Int32), fX12_isWord_L31 M o v1 n v2 v3 = some rz → ∀ (H : Heap) (locs : List Loc) (ls : Array Slot), Wx E s H locs M → lv_has ls 4 [(0, .ref (E.b + o)), (1, .ref (E.x (100 + v1))), (2, .int v2), (3, .int v3)] → W p l e (rM 4 85 0 0) s m args below meth c H locs 0 0 (MQ below (Qp E (some (.int rz)) M) args s 0 0 E.A) (F0 m 31 ls []) := by
  intro n
  induction n with
  | zero =>
    intro v2 v3 hf
    unfold fX12_isWord_L31 at hf
    cases hf
  | succ n ih =>
    intro v2 v3 hf H locs ls hW hl
    unfold fX12_isWord_L31 at hf
    refine lv_iload_n C.x C.b dX12_isWord_31 rfl (lv_at hl 2 rfl) ?_
    refine lv_if_eq (tgt := 74) C.x C.b dX12_isWord_32 rfl (fun c32 => ?_) (fun c32 => ?_)
    · replace hf := x_ip c32 hf
      refine lv_iload_n C.x C.b dX12_isWord_74 rfl (lv_at hl 2 rfl) ?_
      exact x_zret C hr hW hf dX12_isWord_75
    · replace hf := x_in c32 hf
      refine lv_iload_n C.x C.b dX12_isWord_35 rfl (lv_at hl 3 rfl) ?_
      refine lv_aload_n C.x C.b dX12_isWord_36 rfl (lv_at hl 1 rfl) ?_
      replace hf := x_b1 hf; obtain ⟨_, hk37_2, hf⟩ := hf
      replace hf := x_b1 hf; obtain ⟨x37_3, hx37_3, hf⟩ := hf
      refine x_callA (As := []) (rest := [.int v3]) (Cn := "java/lang/String") C hW hl (qJ0_length_8abf5 l E hx37_3) (x_rcvT C hW (tq_lt hk37_2)) gv_X12_300 ⟨rfl, hd_J0_length_8abf5⟩ rfl rfl (Nat.le_of_ble_eq_true rfl) dX12_isWord_37 ⟨Nat.le_of_ble_eq_true rfl, Nat.le_of_ble_eq_true rfl⟩ ⟨Nat.le_of_ble_eq_true rfl, Nat.le_of_ble_eq_true rfl⟩ (fun H locs hW => ?_)
      refine lv_icmp_ge (tgt := 74) C.x C.b dX12_isWord_40 rfl (fun c40 => ?_) (fun c40 => ?_)
      · replace hf := x_ip c40 hf
        refine lv_iload_n C.x C.b dX12_isWord_74 rfl (lv_at hl 2 rfl) ?_
        exact x_zret C hr hW hf dX12_isWord_75
      · replace hf := x_in c40 hf
        refine lv_aload_n C.x C.b dX12_isWord_43 rfl (lv_at hl 0 rfl) ?_
        replace hf := x_b1 hf; obtain ⟨a44_4, ha44_4, hf⟩ := hf
        refine x_getn C hW fg_X12_22_15 ha44_4 dX12_isWord_44 ?_
        refine lv_aload_n C.x C.b dX12_isWord_47 rfl (lv_at hl 0 rfl) ?_
        replace hf := x_b1 hf; obtain ⟨x48_5, hx48_5, hf⟩ := hf
        refine x_geti C hW fg_X12_289_15 hx48_5 dX12_isWord_48 ?_
        refine lv_iload_n C.x C.b dX12_isWord_51 rfl (lv_at hl 3 rfl) ?_
        refine lv_iadd C.x C.b dX12_isWord_52 ?_
        replace hf := x_b1 hf; obtain ⟨x53_6, hx53_6, hf⟩ := hf
        refine x_iald C hW hx53_6 dX12_isWord_53 ?_
        refine lv_aload_n C.x C.b dX12_isWord_54 rfl (lv_at hl 1 rfl) ?_
        refine lv_iload_n C.x C.b dX12_isWord_55 rfl (lv_at hl 3 rfl) ?_
        replace hf := x_b1 hf; obtain ⟨_, hk56_7, hf⟩ := hf
        replace hf := x_b1 hf; obtain ⟨x56_8, hx56_8, hf⟩ := hf
        refine x_callA (As := [.int v3]) (rest := [.int x53_6]) (Cn := "java/lang/String") C hW hl (qJ0_charAt_5068e l E hx56_8) (x_rcvT C hW (tq_lt hk56_7)) gv_X12_305 ⟨rfl, hd_J0_charAt_5068e⟩ rfl rfl (Nat.le_of_ble_eq_true rfl) dX12_isWord_56 ⟨Nat.le_of_ble_eq_true rfl, Nat.le_of_ble_eq_true rfl⟩ ⟨Nat.le_of_ble_eq_true rfl, Nat.le_of_ble_eq_true rfl⟩ (fun H locs hW => ?_)
        refine lv_icmp_ne (tgt := 66) C.x C.b dX12_isWord_59 rfl (fun c59 => ?_) (fun c59 => ?_)
        · replace hf := x_in c59 hf
          refine lv_iconst (v := 0) C.x C.b dX12_isWord_66 (by decide) ?_
          refine lv_istore_n (lv' := [(2, .int _), (0, .ref (E.b + _)), (1, .ref (E.x (100 + _))), (3, .int _)]) C.x C.b dX12_isWord_67 rfl hl (by decide) rfl (fun ls hl => ?_)
          refine lv_iinc (v := (v3 + 1)) (lv' := [(3, .int (v3 + 1)), (2, .int _), (0, .ref (E.b + _)), (1, .ref (E.x (100 + _)))]) C.x C.b dX12_isWord_68 hl (k := 3) rfl (by first | rfl | decide) (by decide) rfl (fun ls hl => ?_)
          refine lv_goto (tgt := 31) C.x C.b dX12_isWord_71 rfl ?_
          exact ih 0 (v3 + 1) hf _ _ _ hW (lv_sub hl [2, 3, 1, 0] rfl)
        · replace hf := x_ip c59 hf
          refine lv_iconst (v := 1) C.x C.b dX12_isWord_62 (by decide) ?_
          refine lv_goto (tgt := 67) C.x C.b dX12_isWord_63 rfl ?_
          refine lv_istore_n (lv' := [(2, .int _), (0, .ref (E.b + _)), (1, .ref (E.x (100 + _))), (3, .int _)]) C.x C.b dX12_isWord_67 rfl hl (by decide) rfl (fun ls hl => ?_)
          refine lv_iinc (v := (v3 + 1)) (lv' := [(3, .int (v3 + 1)), (2, .int _), (0, .ref (E.b + _)), (1, .ref (E.x (100 + _)))]) C.x C.b dX12_isWord_68 hl (k := 3) rfl (by first | rfl | decide) (by decide) rfl (fun ls hl => ?_)
          refine lv_goto (tgt := 31) C.x C.b dX12_isWord_71 rfl ?_
          exact ih 1 (v3 + 1) hf _ _ _ hW (lv_sub hl [2, 3, 1, 0] rfl)
set_option maxRecDepth 100000 in
set_option maxHeartbeats 4000000 in
theorem qX12_isWord (l : Launch) (E : Ev) {M : Mm} {o : Nat} {p1 : Nat} {rz : Int32} (hf : fX12_isWord M o p1 = some rz) : Ct l E yX12_isWord cX12_isWord 4 (some .boolean) 4 85 0 0 [.ref (E.b + o), .ref (E.x (100 + p1))] M (some (.int rz)) M := by
  refine ct_of (by decide +kernel) (Nat.le_of_ble_eq_true rfl) fun p e s m args below meth c C hr hin hW ls hl => ?_
  have hl : lv_has ls 4 [(0, .ref (E.b + o)), (1, .ref (E.x (100 + p1)))] := hl
  unfold fX12_isWord at hf
  refine lv_aload_n C.x C.b dX12_isWord_0 rfl (lv_at hl 0 rfl) ?_
  replace hf := x_b1 hf; obtain ⟨x1_1, hx1_1, hf⟩ := hf
  refine x_geti C hW fg_X12_296_15 hx1_1 dX12_isWord_1 ?_
  refine lv_if_ne (tgt := 27) C.x C.b dX12_isWord_4 rfl (fun c4 => ?_) (fun c4 => ?_)
  · replace hf := x_in c4 hf
    refine lv_iconst (v := 0) C.x C.b dX12_isWord_27 (by decide) ?_
    refine lv_istore_n (lv' := [(2, .int _), (0, .ref (E.b + _)), (1, .ref (E.x (100 + _)))]) C.x C.b dX12_isWord_28 rfl hl (by decide) rfl (fun ls hl => ?_)
    refine lv_iconst (v := 0) C.x C.b dX12_isWord_29 (by decide) ?_
    refine lv_istore_n (lv' := [(3, .int _), (2, .int _), (0, .ref (E.b + _)), (1, .ref (E.x (100 + _)))]) C.x C.b dX12_isWord_30 rfl hl (by decide) rfl (fun ls hl => ?_)
    exact kX12_isWord_L31 C hr hin FL 0 0 hf _ _ _ hW (lv_sub hl [2, 3, 1, 0] rfl)
  · replace hf := x_ip c4 hf
    refine lv_aload_n C.x C.b dX12_isWord_7 rfl (lv_at hl 0 rfl) ?_
    replace hf := x_b1 hf; obtain ⟨x8_9, hx8_9, hf⟩ := hf
    refine x_geti C hW fg_X12_286_15 hx8_9 dX12_isWord_8 ?_
    refine lv_aload_n C.x C.b dX12_isWord_11 rfl (lv_at hl 0 rfl) ?_
    replace hf := x_b1 hf; obtain ⟨x12_10, hx12_10, hf⟩ := hf
    refine x_geti C hW fg_X12_289_15 hx12_10 dX12_isWord_12 ?_
    refine lv_isub C.x C.b dX12_isWord_15 ?_
    refine lv_aload_n C.x C.b dX12_isWord_16 rfl (lv_at hl 1 rfl) ?_
    replace hf := x_b1 hf; obtain ⟨_, hk17_11, hf⟩ := hf
    replace hf := x_b1 hf; obtain ⟨x17_12, hx17_12, hf⟩ := hf
    refine x_callA (As := []) (rest := [.int (x8_9 - x12_10)]) (Cn := "java/lang/String") C hW hl (qJ0_length_8abf5 l E hx17_12) (x_rcvT C hW (tq_lt hk17_11)) gv_X12_300 ⟨rfl, hd_J0_length_8abf5⟩ rfl rfl (Nat.le_of_ble_eq_true rfl) dX12_isWord_17 ⟨Nat.le_of_ble_eq_true rfl, Nat.le_of_ble_eq_true rfl⟩ ⟨Nat.le_of_ble_eq_true rfl, Nat.le_of_ble_eq_true rfl⟩ (fun H locs hW => ?_)
    refine lv_icmp_ne (tgt := 27) C.x C.b dX12_isWord_20 rfl (fun c20 => ?_) (fun c20 => ?_)
    · replace hf := x_in c20 hf
      refine lv_iconst (v := 0) C.x C.b dX12_isWord_27 (by decide) ?_
      refine lv_istore_n (lv' := [(2, .int _), (0, .ref (E.b + _)), (1, .ref (E.x (100 + _)))]) C.x C.b dX12_isWord_28 rfl hl (by decide) rfl (fun ls hl => ?_)
      refine lv_iconst (v := 0) C.x C.b dX12_isWord_29 (by decide) ?_
      refine lv_istore_n (lv' := [(3, .int _), (2, .int _), (0, .ref (E.b + _)), (1, .ref (E.x (100 + _)))]) C.x C.b dX12_isWord_30 rfl hl (by decide) rfl (fun ls hl => ?_)
      exact kX12_isWord_L31 C hr hin FL 0 0 hf _ _ _ hW (lv_sub hl [2, 3, 1, 0] rfl)
    · replace hf := x_ip c20 hf
      refine lv_iconst (v := 1) C.x C.b dX12_isWord_23 (by decide) ?_
      refine lv_goto (tgt := 28) C.x C.b dX12_isWord_24 rfl ?_
      refine lv_istore_n (lv' := [(2, .int _), (0, .ref (E.b + _)), (1, .ref (E.x (100 + _)))]) C.x C.b dX12_isWord_28 rfl hl (by decide) rfl (fun ls hl => ?_)
      refine lv_iconst (v := 0) C.x C.b dX12_isWord_29 (by decide) ?_
      refine lv_istore_n (lv' := [(3, .int _), (2, .int _), (0, .ref (E.b + _)), (1, .ref (E.x (100 + _)))]) C.x C.b dX12_isWord_30 rfl hl (by decide) rfl (fun ls hl => ?_)
      exact kX12_isWord_L31 C hr hin FL 1 0 hf _ _ _ hW (lv_sub hl [2, 3, 1, 0] rfl)

theorem dX12_takes_0 : decode cX12_takes 0 = .ok (.aload_n 0, 1) := by decide +kernel
theorem dX12_takes_1 : decode cX12_takes 1 = .ok (.aload_n 1, 1) := by decide +kernel
theorem dX12_takes_2 : decode cX12_takes 2 = .ok (.invokevirtual 309, 3) := by decide +kernel
theorem dX12_takes_5 : decode cX12_takes 5 = .ok (.istore_n 2, 1) := by decide +kernel
theorem dX12_takes_6 : decode cX12_takes 6 = .ok (.iload_n 2, 1) := by decide +kernel
theorem dX12_takes_7 : decode cX12_takes 7 = .ok (.ifCond .eq 7, 3) := by decide +kernel
theorem dX12_takes_10 : decode cX12_takes 10 = .ok (.aload_n 0, 1) := by decide +kernel
theorem dX12_takes_11 : decode cX12_takes 11 = .ok (.invokevirtual 313, 3) := by decide +kernel
theorem dX12_takes_14 : decode cX12_takes 14 = .ok (.iload_n 2, 1) := by decide +kernel
theorem dX12_takes_15 : decode cX12_takes 15 = .ok (.ireturn, 1) := by decide +kernel
theorem hd_X12_isWord : yX12_isWord.cls ≠ "java/lang/invoke/MethodHandle" ∧ yX12_isWord.cls ≠ "java/lang/invoke/VarHandle" ∧ (parseMethodDescriptor yX12_isWord.desc).map (fun d => d.parameters.length) = some 1 := by decide +kernel
theorem gv_X12_309 : GoodIn gT (wsV "NylonLadderModel" 309 "NylonLadderModel" yX12_isWord (Cond.code yX12_isWord cX12_isWord 4 (some .boolean) :: gT)) := good_V T_8_44 T_8_46 TS_79 T_1_10 T_8_47
theorem hd_X12_next : yX12_next.cls ≠ "java/lang/invoke/MethodHandle" ∧ yX12_next.cls ≠ "java/lang/invoke/VarHandle" ∧ (parseMethodDescriptor yX12_next.desc).map (fun d => d.parameters.length) = some 0 := by decide +kernel
theorem gv_X12_313 : GoodIn gT (wsV "NylonLadderModel" 313 "NylonLadderModel" yX12_next (Cond.code yX12_next cX12_next 3 none :: gT)) := good_V T_8_19 T_8_21 TS_75 T_1_10 T_8_22
def fX12_takes (M : Mm) (o : Nat) (p1 : Nat) : Option (Int32 × Mm) :=
  B1 (gk M o 15) fun _ =>
  B1 (fX12_isWord M o p1) fun x2_2 =>
  if x2_2 = 0 then
    B1 (bz x2_2) fun z15_3 =>
    some (z15_3, M)
  else
    B1 (gk M o 15) fun _ =>
    B1 (fX12_next M o) fun M11_5 =>
    B1 (bz x2_2) fun z15_6 =>
    some (z15_6, M11_5)
set_option maxRecDepth 100000 in
set_option maxHeartbeats 4000000 in
theorem qX12_takes (l : Launch) (E : Ev) {M : Mm} {o : Nat} {p1 : Nat} {rz : Int32} {Mz : Mm} (hf : fX12_takes M o p1 = some (rz, Mz)) : Ct l E yX12_takes cX12_takes 3 (some .boolean) 5 108 0 0 [.ref (E.b + o), .ref (E.x (100 + p1))] M (some (.int rz)) Mz := by
  refine ct_of (by decide +kernel) (Nat.le_of_ble_eq_true rfl) fun p e s m args below meth c C hr hin hW ls hl => ?_
  have hl : lv_has ls 3 [(0, .ref (E.b + o)), (1, .ref (E.x (100 + p1)))] := hl
  unfold fX12_takes at hf
  refine lv_aload_n C.x C.b dX12_takes_0 rfl (lv_at hl 0 rfl) ?_
  refine lv_aload_n C.x C.b dX12_takes_1 rfl (lv_at hl 1 rfl) ?_
  replace hf := x_b1 hf; obtain ⟨_, hk2_1, hf⟩ := hf
  replace hf := x_b1 hf; obtain ⟨x2_2, hx2_2, hf⟩ := hf
  refine x_callV (As := [.ref (E.x (100 + p1))]) (a := o) (rest := []) C hW hl (qX12_isWord l E hx2_2) (x_gk hk2_1) (by decide) (by decide) rfl gv_X12_309 ⟨rfl, hd_X12_isWord⟩ rfl rfl (Nat.le_of_ble_eq_true rfl) dX12_takes_2 ⟨Nat.le_of_ble_eq_true rfl, Nat.le_of_ble_eq_true rfl⟩ ⟨Nat.le_of_ble_eq_true rfl, Nat.le_of_ble_eq_true rfl⟩ (fun H locs hW => ?_)
  refine lv_istore_n (lv' := [(2, .int _), (0, .ref (E.b + _)), (1, .ref (E.x (100 + _)))]) C.x C.b dX12_takes_5 rfl hl (by decide) rfl (fun ls hl => ?_)
  refine lv_iload_n C.x C.b dX12_takes_6 rfl (lv_at hl 0 rfl) ?_
  refine lv_if_eq (tgt := 14) C.x C.b dX12_takes_7 rfl (fun c7 => ?_) (fun c7 => ?_)
  · replace hf := x_ip c7 hf
    refine lv_iload_n C.x C.b dX12_takes_14 rfl (lv_at hl 0 rfl) ?_
    replace hf := x_b1 hf; obtain ⟨z15_3, hz15_3, hf⟩ := hf
    rw [x_e1 hf, x_e2 hf]
    exact x_zret C hr hW hz15_3 dX12_takes_15
  · replace hf := x_in c7 hf
    refine lv_aload_n C.x C.b dX12_takes_10 rfl (lv_at hl 1 rfl) ?_
    replace hf := x_b1 hf; obtain ⟨_, hk11_4, hf⟩ := hf
    replace hf := x_b1 hf; obtain ⟨M11_5, hM11_5, hf⟩ := hf
    refine x_callV (As := []) (a := o) (rest := []) C hW hl (qX12_next l E hM11_5) (x_gk hk11_4) (by decide) (by decide) rfl gv_X12_313 ⟨rfl, hd_X12_next⟩ rfl rfl (Nat.le_of_ble_eq_true rfl) dX12_takes_11 ⟨Nat.le_of_ble_eq_true rfl, Nat.le_of_ble_eq_true rfl⟩ ⟨Nat.le_of_ble_eq_true rfl, Nat.le_of_ble_eq_true rfl⟩ (fun H locs hW => ?_)
    refine lv_iload_n C.x C.b dX12_takes_14 rfl (lv_at hl 0 rfl) ?_
    replace hf := x_b1 hf; obtain ⟨z15_6, hz15_6, hf⟩ := hf
    rw [x_e1 hf, x_e2 hf]
    exact x_zret C hr hW hz15_6 dX12_takes_15

theorem dX12_wants_0 : decode cX12_wants 0 = .ok (.aload_n 0, 1) := by decide +kernel
theorem dX12_wants_1 : decode cX12_wants 1 = .ok (.aload_n 0, 1) := by decide +kernel
theorem dX12_wants_2 : decode cX12_wants 2 = .ok (.getfield 296, 3) := by decide +kernel
theorem dX12_wants_5 : decode cX12_wants 5 = .ok (.ifCond .ne 11, 3) := by decide +kernel
theorem dX12_wants_8 : decode cX12_wants 8 = .ok (.aload_n 0, 1) := by decide +kernel
theorem dX12_wants_9 : decode cX12_wants 9 = .ok (.aload_n 1, 1) := by decide +kernel
theorem dX12_wants_10 : decode cX12_wants 10 = .ok (.invokevirtual 309, 3) := by decide +kernel
theorem dX12_wants_13 : decode cX12_wants 13 = .ok (.ifCond .ne 7, 3) := by decide +kernel
theorem dX12_wants_16 : decode cX12_wants 16 = .ok (.iconst 1, 1) := by decide +kernel
theorem dX12_wants_17 : decode cX12_wants 17 = .ok (.goto 4, 3) := by decide +kernel
theorem dX12_wants_20 : decode cX12_wants 20 = .ok (.iconst 0, 1) := by decide +kernel
theorem dX12_wants_21 : decode cX12_wants 21 = .ok (.putfield 296, 3) := by decide +kernel
theorem dX12_wants_24 : decode cX12_wants 24 = .ok (.aload_n 0, 1) := by decide +kernel
theorem dX12_wants_25 : decode cX12_wants 25 = .ok (.getfield 296, 3) := by decide +kernel
theorem dX12_wants_28 : decode cX12_wants 28 = .ok (.ifCond .ne 7, 3) := by decide +kernel
theorem dX12_wants_31 : decode cX12_wants 31 = .ok (.aload_n 0, 1) := by decide +kernel
theorem dX12_wants_32 : decode cX12_wants 32 = .ok (.invokevirtual 313, 3) := by decide +kernel
theorem dX12_wants_35 : decode cX12_wants 35 = .ok (.return_, 1) := by decide +kernel
theorem fp_X12_296_15 : FdP "NylonLadderModel" 296 15 9 false .boolean false := ⟨_, _, _, _, _, rfl, by decide, by decide, by decide, gxX12, by decide, T_6_58, Or.inl rfl, rfl, tyX12_ok, nmX12, by decide +kernel, rfl, fun h => by cases h⟩
def fX12_wants (M : Mm) (o : Nat) (p1 : Nat) : Option Mm :=
  B1 (rdI M o 15 9) fun x2_1 =>
  if x2_1 = 0 then
    B1 (gk M o 15) fun _ =>
    B1 (fX12_isWord M o p1) fun x10_7 =>
    if x10_7 = 0 then
      B1 (wrZ M o 15 9 1) fun M21_12 =>
      B1 (rdI M21_12 o 15 9) fun x25_13 =>
      if x25_13 = 0 then
        B1 (gk M21_12 o 15) fun _ =>
        B1 (fX12_next M21_12 o) fun M32_15 =>
        some M32_15
      else
        some M21_12
    else
      B1 (wrZ M o 15 9 0) fun M21_8 =>
      B1 (rdI M21_8 o 15 9) fun x25_9 =>
      if x25_9 = 0 then
        B1 (gk M21_8 o 15) fun _ =>
        B1 (fX12_next M21_8 o) fun M32_11 =>
        some M32_11
      else
        some M21_8
  else
    B1 (wrZ M o 15 9 1) fun M21_2 =>
    B1 (rdI M21_2 o 15 9) fun x25_3 =>
    if x25_3 = 0 then
      B1 (gk M21_2 o 15) fun _ =>
      B1 (fX12_next M21_2 o) fun M32_5 =>
      some M32_5
    else
      some M21_2
set_option maxRecDepth 100000 in
set_option maxHeartbeats 4000000 in
theorem qX12_wants (l : Launch) (E : Ev) {M : Mm} {o : Nat} {p1 : Nat} {Mz : Mm} (hf : fX12_wants M o p1 = some Mz) : Ct l E yX12_wants cX12_wants 2 none 5 108 0 0 [.ref (E.b + o), .ref (E.x (100 + p1))] M none Mz := by
  refine ct_of (by decide +kernel) (Nat.le_of_ble_eq_true rfl) fun p e s m args below meth c C hr hin hW ls hl => ?_
  have hl : lv_has ls 2 [(0, .ref (E.b + o)), (1, .ref (E.x (100 + p1)))] := hl
  unfold fX12_wants at hf
  refine lv_aload_n C.x C.b dX12_wants_0 rfl (lv_at hl 0 rfl) ?_
  refine lv_aload_n C.x C.b dX12_wants_1 rfl (lv_at hl 0 rfl) ?_
  replace hf := x_b1 hf; obtain ⟨x2_1, hx2_1, hf⟩ := hf
  refine x_geti C hW fg_X12_296_15 hx2_1 dX12_wants_2 ?_
  refine lv_if_ne (tgt := 16) C.x C.b dX12_wants_5 rfl (fun c5 => ?_) (fun c5 => ?_)
  · replace hf := x_in c5 hf
    refine lv_iconst (v := 1) C.x C.b dX12_wants_16 (by decide) ?_
    refine lv_goto (tgt := 21) C.x C.b dX12_wants_17 rfl ?_
    replace hf := x_b1 hf; obtain ⟨M21_2, hM21_2, hf⟩ := hf
    refine x_putz C hW fp_X12_296_15 hM21_2 (fun h => by cases h) dX12_wants_21 (fun H locs hW => ?_)
    refine lv_aload_n C.x C.b dX12_wants_24 rfl (lv_at hl 0 rfl) ?_
    replace hf := x_b1 hf; obtain ⟨x25_3, hx25_3, hf⟩ := hf
    refine x_geti C hW fg_X12_296_15 hx25_3 dX12_wants_25 ?_
    refine lv_if_ne (tgt := 35) C.x C.b dX12_wants_28 rfl (fun c28 => ?_) (fun c28 => ?_)
    · replace hf := x_in c28 hf
      rw [x_e0 hf]
      exact x_vret C hr hW dX12_wants_35
    · replace hf := x_ip c28 hf
      refine lv_aload_n C.x C.b dX12_wants_31 rfl (lv_at hl 0 rfl) ?_
      replace hf := x_b1 hf; obtain ⟨_, hk32_4, hf⟩ := hf
      replace hf := x_b1 hf; obtain ⟨M32_5, hM32_5, hf⟩ := hf
      refine x_callV (As := []) (a := o) (rest := []) C hW hl (qX12_next l E hM32_5) (x_gk hk32_4) (by decide) (by decide) rfl gv_X12_313 ⟨rfl, hd_X12_next⟩ rfl rfl (Nat.le_of_ble_eq_true rfl) dX12_wants_32 ⟨Nat.le_of_ble_eq_true rfl, Nat.le_of_ble_eq_true rfl⟩ ⟨Nat.le_of_ble_eq_true rfl, Nat.le_of_ble_eq_true rfl⟩ (fun H locs hW => ?_)
      rw [x_e0 hf]
      exact x_vret C hr hW dX12_wants_35
  · replace hf := x_ip c5 hf
    refine lv_aload_n C.x C.b dX12_wants_8 rfl (lv_at hl 0 rfl) ?_
    refine lv_aload_n C.x C.b dX12_wants_9 rfl (lv_at hl 1 rfl) ?_
    replace hf := x_b1 hf; obtain ⟨_, hk10_6, hf⟩ := hf
    replace hf := x_b1 hf; obtain ⟨x10_7, hx10_7, hf⟩ := hf
    refine x_callV (As := [.ref (E.x (100 + p1))]) (a := o) (rest := [.ref (E.b + o)]) C hW hl (qX12_isWord l E hx10_7) (x_gk hk10_6) (by decide) (by decide) rfl gv_X12_309 ⟨rfl, hd_X12_isWord⟩ rfl rfl (Nat.le_of_ble_eq_true rfl) dX12_wants_10 ⟨Nat.le_of_ble_eq_true rfl, Nat.le_of_ble_eq_true rfl⟩ ⟨Nat.le_of_ble_eq_true rfl, Nat.le_of_ble_eq_true rfl⟩ (fun H locs hW => ?_)
    refine lv_if_ne (tgt := 20) C.x C.b dX12_wants_13 rfl (fun c13 => ?_) (fun c13 => ?_)
    · replace hf := x_in c13 hf
      refine lv_iconst (v := 0) C.x C.b dX12_wants_20 (by decide) ?_
      replace hf := x_b1 hf; obtain ⟨M21_8, hM21_8, hf⟩ := hf
      refine x_putz C hW fp_X12_296_15 hM21_8 (fun h => by cases h) dX12_wants_21 (fun H locs hW => ?_)
      refine lv_aload_n C.x C.b dX12_wants_24 rfl (lv_at hl 0 rfl) ?_
      replace hf := x_b1 hf; obtain ⟨x25_9, hx25_9, hf⟩ := hf
      refine x_geti C hW fg_X12_296_15 hx25_9 dX12_wants_25 ?_
      refine lv_if_ne (tgt := 35) C.x C.b dX12_wants_28 rfl (fun c28 => ?_) (fun c28 => ?_)
      · replace hf := x_in c28 hf
        rw [x_e0 hf]
        exact x_vret C hr hW dX12_wants_35
      · replace hf := x_ip c28 hf
        refine lv_aload_n C.x C.b dX12_wants_31 rfl (lv_at hl 0 rfl) ?_
        replace hf := x_b1 hf; obtain ⟨_, hk32_10, hf⟩ := hf
        replace hf := x_b1 hf; obtain ⟨M32_11, hM32_11, hf⟩ := hf
        refine x_callV (As := []) (a := o) (rest := []) C hW hl (qX12_next l E hM32_11) (x_gk hk32_10) (by decide) (by decide) rfl gv_X12_313 ⟨rfl, hd_X12_next⟩ rfl rfl (Nat.le_of_ble_eq_true rfl) dX12_wants_32 ⟨Nat.le_of_ble_eq_true rfl, Nat.le_of_ble_eq_true rfl⟩ ⟨Nat.le_of_ble_eq_true rfl, Nat.le_of_ble_eq_true rfl⟩ (fun H locs hW => ?_)
        rw [x_e0 hf]
        exact x_vret C hr hW dX12_wants_35
    · replace hf := x_ip c13 hf
      refine lv_iconst (v := 1) C.x C.b dX12_wants_16 (by decide) ?_
      refine lv_goto (tgt := 21) C.x C.b dX12_wants_17 rfl ?_
      replace hf := x_b1 hf; obtain ⟨M21_12, hM21_12, hf⟩ := hf
      refine x_putz C hW fp_X12_296_15 hM21_12 (fun h => by cases h) dX12_wants_21 (fun H locs hW => ?_)
      refine lv_aload_n C.x C.b dX12_wants_24 rfl (lv_at hl 0 rfl) ?_
      replace hf := x_b1 hf; obtain ⟨x25_13, hx25_13, hf⟩ := hf
      refine x_geti C hW fg_X12_296_15 hx25_13 dX12_wants_25 ?_
      refine lv_if_ne (tgt := 35) C.x C.b dX12_wants_28 rfl (fun c28 => ?_) (fun c28 => ?_)
      · replace hf := x_in c28 hf
        rw [x_e0 hf]
        exact x_vret C hr hW dX12_wants_35
      · replace hf := x_ip c28 hf
        refine lv_aload_n C.x C.b dX12_wants_31 rfl (lv_at hl 0 rfl) ?_
        replace hf := x_b1 hf; obtain ⟨_, hk32_14, hf⟩ := hf
        replace hf := x_b1 hf; obtain ⟨M32_15, hM32_15, hf⟩ := hf
        refine x_callV (As := []) (a := o) (rest := []) C hW hl (qX12_next l E hM32_15) (x_gk hk32_14) (by decide) (by decide) rfl gv_X12_313 ⟨rfl, hd_X12_next⟩ rfl rfl (Nat.le_of_ble_eq_true rfl) dX12_wants_32 ⟨Nat.le_of_ble_eq_true rfl, Nat.le_of_ble_eq_true rfl⟩ ⟨Nat.le_of_ble_eq_true rfl, Nat.le_of_ble_eq_true rfl⟩ (fun H locs hW => ?_)
        rw [x_e0 hf]
        exact x_vret C hr hW dX12_wants_35

theorem dX12_numberHere_0 : decode cX12_numberHere 0 = .ok (.aload_n 0, 1) := by decide +kernel
theorem dX12_numberHere_1 : decode cX12_numberHere 1 = .ok (.aload_n 0, 1) := by decide +kernel
theorem dX12_numberHere_2 : decode cX12_numberHere 2 = .ok (.getfield 289, 3) := by decide +kernel
theorem dX12_numberHere_5 : decode cX12_numberHere 5 = .ok (.bipush 48, 2) := by decide +kernel
theorem dX12_numberHere_7 : decode cX12_numberHere 7 = .ok (.bipush 57, 2) := by decide +kernel
theorem dX12_numberHere_9 : decode cX12_numberHere 9 = .ok (.invokevirtual 292, 3) := by decide +kernel
theorem dX12_numberHere_12 : decode cX12_numberHere 12 = .ok (.ifCond .eq 20, 3) := by decide +kernel
theorem dX12_numberHere_15 : decode cX12_numberHere 15 = .ok (.aload_n 0, 1) := by decide +kernel
theorem dX12_numberHere_16 : decode cX12_numberHere 16 = .ok (.getfield 286, 3) := by decide +kernel
theorem dX12_numberHere_19 : decode cX12_numberHere 19 = .ok (.aload_n 0, 1) := by decide +kernel
theorem dX12_numberHere_20 : decode cX12_numberHere 20 = .ok (.getfield 289, 3) := by decide +kernel
theorem dX12_numberHere_23 : decode cX12_numberHere 23 = .ok (.isub, 1) := by decide +kernel
theorem dX12_numberHere_24 : decode cX12_numberHere 24 = .ok (.iconst 2, 1) := by decide +kernel
theorem dX12_numberHere_25 : decode cX12_numberHere 25 = .ok (.if_icmp .gt 7, 3) := by decide +kernel
theorem dX12_numberHere_28 : decode cX12_numberHere 28 = .ok (.iconst 0, 1) := by decide +kernel
theorem dX12_numberHere_29 : decode cX12_numberHere 29 = .ok (.goto 4, 3) := by decide +kernel
theorem dX12_numberHere_32 : decode cX12_numberHere 32 = .ok (.iconst (-1), 1) := by decide +kernel
theorem dX12_numberHere_33 : decode cX12_numberHere 33 = .ok (.istore_n 1, 1) := by decide +kernel
theorem dX12_numberHere_34 : decode cX12_numberHere 34 = .ok (.aload_n 0, 1) := by decide +kernel
theorem dX12_numberHere_35 : decode cX12_numberHere 35 = .ok (.getfield 289, 3) := by decide +kernel
theorem dX12_numberHere_38 : decode cX12_numberHere 38 = .ok (.istore_n 2, 1) := by decide +kernel
theorem dX12_numberHere_39 : decode cX12_numberHere 39 = .ok (.iload_n 2, 1) := by decide +kernel
theorem dX12_numberHere_40 : decode cX12_numberHere 40 = .ok (.aload_n 0, 1) := by decide +kernel
theorem dX12_numberHere_41 : decode cX12_numberHere 41 = .ok (.getfield 286, 3) := by decide +kernel
theorem dX12_numberHere_44 : decode cX12_numberHere 44 = .ok (.if_icmp .ge 28, 3) := by decide +kernel
theorem dX12_numberHere_47 : decode cX12_numberHere 47 = .ok (.iload_n 1, 1) := by decide +kernel
theorem dX12_numberHere_48 : decode cX12_numberHere 48 = .ok (.ifCond .lt 24, 3) := by decide +kernel
theorem dX12_numberHere_51 : decode cX12_numberHere 51 = .ok (.bipush 10, 2) := by decide +kernel
theorem dX12_numberHere_53 : decode cX12_numberHere 53 = .ok (.iload_n 1, 1) := by decide +kernel
theorem dX12_numberHere_54 : decode cX12_numberHere 54 = .ok (.imul, 1) := by decide +kernel
theorem dX12_numberHere_55 : decode cX12_numberHere 55 = .ok (.aload_n 0, 1) := by decide +kernel
theorem dX12_numberHere_56 : decode cX12_numberHere 56 = .ok (.getfield 22, 3) := by decide +kernel
theorem dX12_numberHere_59 : decode cX12_numberHere 59 = .ok (.iload_n 2, 1) := by decide +kernel
theorem dX12_numberHere_60 : decode cX12_numberHere 60 = .ok (.iaload, 1) := by decide +kernel
theorem dX12_numberHere_61 : decode cX12_numberHere 61 = .ok (.iadd, 1) := by decide +kernel
theorem dX12_numberHere_62 : decode cX12_numberHere 62 = .ok (.bipush 48, 2) := by decide +kernel
theorem dX12_numberHere_64 : decode cX12_numberHere 64 = .ok (.isub, 1) := by decide +kernel
theorem dX12_numberHere_65 : decode cX12_numberHere 65 = .ok (.istore_n 1, 1) := by decide +kernel
theorem dX12_numberHere_66 : decode cX12_numberHere 66 = .ok (.iinc 2 1, 3) := by decide +kernel
theorem dX12_numberHere_69 : decode cX12_numberHere 69 = .ok (.goto (-30), 3) := by decide +kernel
theorem dX12_numberHere_72 : decode cX12_numberHere 72 = .ok (.iload_n 1, 1) := by decide +kernel
theorem dX12_numberHere_73 : decode cX12_numberHere 73 = .ok (.ireturn, 1) := by decide +kernel
def fX12_numberHere_L39 (M : Mm) (o : Nat) : Nat → Int32 → Int32 → Option Int32
  | 0, _, _ => none
  | n + 1, v1, v2 =>
    B1 (rdI M o 15 8) fun x41_5 =>
    if x41_5 ≤ v2 then
      some v1
    else
      if v1 < 0 then
        some v1
      else
        B1 (rdN M o 15 5) fun a56_6 =>
        B1 (alI M a56_6 v2) fun x60_7 =>
        fX12_numberHere_L39 M o n (((10 * v1) + x60_7) - 48) (v2 + 1)
def fX12_numberHere (M : Mm) (o : Nat) : Option Int32 :=
  B1 (rdI M o 15 7) fun x2_1 =>
  B1 (gk M o 15) fun _ =>
  B1 (fX12_isByte M o x2_1 48 57) fun x9_3 =>
  if x9_3 = 0 then
    B1 (rdI M o 15 7) fun x35_4 =>
    fX12_numberHere_L39 M o FL (-1) x35_4
  else
    B1 (rdI M o 15 8) fun x16_8 =>
    B1 (rdI M o 15 7) fun x20_9 =>
    if 2 < (x16_8 - x20_9) then
      B1 (rdI M o 15 7) fun x35_10 =>
      fX12_numberHere_L39 M o FL (-1) x35_10
    else
      B1 (rdI M o 15 7) fun x35_11 =>
      fX12_numberHere_L39 M o FL 0 x35_11
set_option maxRecDepth 100000 in
set_option maxHeartbeats 4000000 in
theorem kX12_numberHere_L39 {l : Launch} {E : Ev} {p : Program} {e : Env} {s : State} {m : MethodId} {args : Array Value} {below : List Frame} {meth : Method} {c : Code} (C : Cx E p s m args meth c cX12_numberHere yX12_numberHere.cls 3) (hr : meth.sig.returnType = (some .int)) (hin : yX12_numberHere.name = "<init>" → meth.name = "<init>") {M : Mm}  {o : Nat} {rz : Int32} : ∀ (n : Nat) (v1 : Int32) (v2 : Int32), fX12_numberHere_L39 M o n v1 v2 = some rz → ∀ (H : Heap) (locs : List Loc) (ls : Array Slot), Wx E s H locs M → lv_has ls 3 [(0, .ref (E.b + o)), (1, .int v1), (2, .int v2)] → W p l e (rM 2 48 0 0) s m args below meth c H locs 0 0 (MQ below (Qp E (some (.int rz)) M) args s 0 0 E.A) (F0 m 39 ls []) := by
  intro n
  induction n with
  | zero =>
    intro v1 v2 hf
    unfold fX12_numberHere_L39 at hf
    cases hf
  | succ n ih =>
    intro v1 v2 hf H locs ls hW hl
    unfold fX12_numberHere_L39 at hf
    refine lv_iload_n C.x C.b dX12_numberHere_39 rfl (lv_at hl 2 rfl) ?_
    refine lv_aload_n C.x C.b dX12_numberHere_40 rfl (lv_at hl 0 rfl) ?_
    replace hf := x_b1 hf; obtain ⟨x41_5, hx41_5, hf⟩ := hf
    refine x_geti C hW fg_X12_286_15 hx41_5 dX12_numberHere_41 ?_
    refine lv_icmp_ge (tgt := 72) C.x C.b dX12_numberHere_44 rfl (fun c44 => ?_) (fun c44 => ?_)
    · replace hf := x_ip c44 hf
      refine lv_iload_n C.x C.b dX12_numberHere_72 rfl (lv_at hl 1 rfl) ?_
      rw [x_e0 hf]
      exact x_iret C hr hW dX12_numberHere_73
    · replace hf := x_in c44 hf
      refine lv_iload_n C.x C.b dX12_numberHere_47 rfl (lv_at hl 1 rfl) ?_
      refine lv_if_lt (tgt := 72) C.x C.b dX12_numberHere_48 rfl (fun c48 => ?_) (fun c48 => ?_)
      · replace hf := x_ip c48 hf
        refine lv_iload_n C.x C.b dX12_numberHere_72 rfl (lv_at hl 1 rfl) ?_
        rw [x_e0 hf]
        exact x_iret C hr hW dX12_numberHere_73
      · replace hf := x_in c48 hf
        refine lv_bipush (v := 10) C.x C.b dX12_numberHere_51 (by decide) ?_
        refine lv_iload_n C.x C.b dX12_numberHere_53 rfl (lv_at hl 1 rfl) ?_
        refine lv_imul C.x C.b dX12_numberHere_54 ?_
        refine lv_aload_n C.x C.b dX12_numberHere_55 rfl (lv_at hl 0 rfl) ?_
        replace hf := x_b1 hf; obtain ⟨a56_6, ha56_6, hf⟩ := hf
        refine x_getn C hW fg_X12_22_15 ha56_6 dX12_numberHere_56 ?_
        refine lv_iload_n C.x C.b dX12_numberHere_59 rfl (lv_at hl 2 rfl) ?_
        replace hf := x_b1 hf; obtain ⟨x60_7, hx60_7, hf⟩ := hf
        refine x_iald C hW hx60_7 dX12_numberHere_60 ?_
        refine lv_iadd C.x C.b dX12_numberHere_61 ?_
        refine lv_bipush (v := 48) C.x C.b dX12_numberHere_62 (by decide) ?_
        refine lv_isub C.x C.b dX12_numberHere_64 ?_
        refine lv_istore_n (lv' := [(1, .int _), (0, .ref (E.b + _)), (2, .int _)]) C.x C.b dX12_numberHere_65 rfl hl (by decide) rfl (fun ls hl => ?_)
        refine lv_iinc (v := (v2 + 1)) (lv' := [(2, .int (v2 + 1)), (1, .int _), (0, .ref (E.b + _))]) C.x C.b dX12_numberHere_66 hl (k := 2) rfl (by first | rfl | decide) (by decide) rfl (fun ls hl => ?_)
        refine lv_goto (tgt := 39) C.x C.b dX12_numberHere_69 rfl ?_
        exact ih (((10 * v1) + x60_7) - 48) (v2 + 1) hf _ _ _ hW (lv_sub hl [2, 1, 0] rfl)
set_option maxRecDepth 100000 in
set_option maxHeartbeats 4000000 in
theorem qX12_numberHere (l : Launch) (E : Ev) {M : Mm} {o : Nat} {rz : Int32} (hf : fX12_numberHere M o = some rz) : Ct l E yX12_numberHere cX12_numberHere 3 (some .int) 2 48 0 0 [.ref (E.b + o)] M (some (.int rz)) M := by
  refine ct_of (by decide +kernel) (Nat.le_of_ble_eq_true rfl) fun p e s m args below meth c C hr hin hW ls hl => ?_
  have hl : lv_has ls 3 [(0, .ref (E.b + o))] := hl
  unfold fX12_numberHere at hf
  refine lv_aload_n C.x C.b dX12_numberHere_0 rfl (lv_at hl 0 rfl) ?_
  refine lv_aload_n C.x C.b dX12_numberHere_1 rfl (lv_at hl 0 rfl) ?_
  replace hf := x_b1 hf; obtain ⟨x2_1, hx2_1, hf⟩ := hf
  refine x_geti C hW fg_X12_289_15 hx2_1 dX12_numberHere_2 ?_
  refine lv_bipush (v := 48) C.x C.b dX12_numberHere_5 (by decide) ?_
  refine lv_bipush (v := 57) C.x C.b dX12_numberHere_7 (by decide) ?_
  replace hf := x_b1 hf; obtain ⟨_, hk9_2, hf⟩ := hf
  replace hf := x_b1 hf; obtain ⟨x9_3, hx9_3, hf⟩ := hf
  refine x_callV (As := [.int x2_1, .int 48, .int 57]) (a := o) (rest := []) C hW hl (qX12_isByte l E hx9_3) (x_gk hk9_2) (by decide) (by decide) rfl gv_X12_292 ⟨rfl, hd_X12_isByte⟩ rfl rfl (Nat.le_of_ble_eq_true rfl) dX12_numberHere_9 ⟨Nat.le_of_ble_eq_true rfl, Nat.le_of_ble_eq_true rfl⟩ ⟨Nat.le_of_ble_eq_true rfl, Nat.le_of_ble_eq_true rfl⟩ (fun H locs hW => ?_)
  refine lv_if_eq (tgt := 32) C.x C.b dX12_numberHere_12 rfl (fun c12 => ?_) (fun c12 => ?_)
  · replace hf := x_ip c12 hf
    refine lv_iconst (v := (-1)) C.x C.b dX12_numberHere_32 (by decide) ?_
    refine lv_istore_n (lv' := [(1, .int _), (0, .ref (E.b + _))]) C.x C.b dX12_numberHere_33 rfl hl (by decide) rfl (fun ls hl => ?_)
    refine lv_aload_n C.x C.b dX12_numberHere_34 rfl (lv_at hl 1 rfl) ?_
    replace hf := x_b1 hf; obtain ⟨x35_4, hx35_4, hf⟩ := hf
    refine x_geti C hW fg_X12_289_15 hx35_4 dX12_numberHere_35 ?_
    refine lv_istore_n (lv' := [(2, .int _), (1, .int _), (0, .ref (E.b + _))]) C.x C.b dX12_numberHere_38 rfl hl (by decide) rfl (fun ls hl => ?_)
    exact kX12_numberHere_L39 C hr hin FL (-1) x35_4 hf _ _ _ hW (lv_sub hl [2, 1, 0] rfl)
  · replace hf := x_in c12 hf
    refine lv_aload_n C.x C.b dX12_numberHere_15 rfl (lv_at hl 0 rfl) ?_
    replace hf := x_b1 hf; obtain ⟨x16_8, hx16_8, hf⟩ := hf
    refine x_geti C hW fg_X12_286_15 hx16_8 dX12_numberHere_16 ?_
    refine lv_aload_n C.x C.b dX12_numberHere_19 rfl (lv_at hl 0 rfl) ?_
    replace hf := x_b1 hf; obtain ⟨x20_9, hx20_9, hf⟩ := hf
    refine x_geti C hW fg_X12_289_15 hx20_9 dX12_numberHere_20 ?_
    refine lv_isub C.x C.b dX12_numberHere_23 ?_
    refine lv_iconst (v := 2) C.x C.b dX12_numberHere_24 (by decide) ?_
    refine lv_icmp_gt (tgt := 32) C.x C.b dX12_numberHere_25 rfl (fun c25 => ?_) (fun c25 => ?_)
    · replace hf := x_ip c25 hf
      refine lv_iconst (v := (-1)) C.x C.b dX12_numberHere_32 (by decide) ?_
      refine lv_istore_n (lv' := [(1, .int _), (0, .ref (E.b + _))]) C.x C.b dX12_numberHere_33 rfl hl (by decide) rfl (fun ls hl => ?_)
      refine lv_aload_n C.x C.b dX12_numberHere_34 rfl (lv_at hl 1 rfl) ?_
      replace hf := x_b1 hf; obtain ⟨x35_10, hx35_10, hf⟩ := hf
      refine x_geti C hW fg_X12_289_15 hx35_10 dX12_numberHere_35 ?_
      refine lv_istore_n (lv' := [(2, .int _), (1, .int _), (0, .ref (E.b + _))]) C.x C.b dX12_numberHere_38 rfl hl (by decide) rfl (fun ls hl => ?_)
      exact kX12_numberHere_L39 C hr hin FL (-1) x35_10 hf _ _ _ hW (lv_sub hl [2, 1, 0] rfl)
    · replace hf := x_in c25 hf
      refine lv_iconst (v := 0) C.x C.b dX12_numberHere_28 (by decide) ?_
      refine lv_goto (tgt := 33) C.x C.b dX12_numberHere_29 rfl ?_
      refine lv_istore_n (lv' := [(1, .int _), (0, .ref (E.b + _))]) C.x C.b dX12_numberHere_33 rfl hl (by decide) rfl (fun ls hl => ?_)
      refine lv_aload_n C.x C.b dX12_numberHere_34 rfl (lv_at hl 1 rfl) ?_
      replace hf := x_b1 hf; obtain ⟨x35_11, hx35_11, hf⟩ := hf
      refine x_geti C hW fg_X12_289_15 hx35_11 dX12_numberHere_35 ?_
      refine lv_istore_n (lv' := [(2, .int _), (1, .int _), (0, .ref (E.b + _))]) C.x C.b dX12_numberHere_38 rfl hl (by decide) rfl (fun ls hl => ?_)
      exact kX12_numberHere_L39 C hr hin FL 0 x35_11 hf _ _ _ hW (lv_sub hl [2, 1, 0] rfl)

theorem dX12_number_0 : decode cX12_number 0 = .ok (.aload_n 0, 1) := by decide +kernel
theorem dX12_number_1 : decode cX12_number 1 = .ok (.invokevirtual 316, 3) := by decide +kernel
theorem dX12_number_4 : decode cX12_number 4 = .ok (.istore_n 3, 1) := by decide +kernel
theorem dX12_number_5 : decode cX12_number 5 = .ok (.aload_n 0, 1) := by decide +kernel
theorem dX12_number_6 : decode cX12_number 6 = .ok (.aload_n 0, 1) := by decide +kernel
theorem dX12_number_7 : decode cX12_number 7 = .ok (.getfield 296, 3) := by decide +kernel
theorem dX12_number_10 : decode cX12_number 10 = .ok (.ifCond .ne 15, 3) := by decide +kernel
theorem dX12_number_13 : decode cX12_number 13 = .ok (.iload_n 3, 1) := by decide +kernel
theorem dX12_number_14 : decode cX12_number 14 = .ok (.i2l, 1) := by decide +kernel
theorem dX12_number_15 : decode cX12_number 15 = .ok (.iload_n 1, 1) := by decide +kernel
theorem dX12_number_16 : decode cX12_number 16 = .ok (.i2l, 1) := by decide +kernel
theorem dX12_number_17 : decode cX12_number 17 = .ok (.iload_n 2, 1) := by decide +kernel
theorem dX12_number_18 : decode cX12_number 18 = .ok (.i2l, 1) := by decide +kernel
theorem dX12_number_19 : decode cX12_number 19 = .ok (.invokestatic 61, 3) := by decide +kernel
theorem dX12_number_22 : decode cX12_number 22 = .ok (.ifCond .ne 7, 3) := by decide +kernel
theorem dX12_number_25 : decode cX12_number 25 = .ok (.iconst 1, 1) := by decide +kernel
theorem dX12_number_26 : decode cX12_number 26 = .ok (.goto 4, 3) := by decide +kernel
theorem dX12_number_29 : decode cX12_number 29 = .ok (.iconst 0, 1) := by decide +kernel
theorem dX12_number_30 : decode cX12_number 30 = .ok (.putfield 296, 3) := by decide +kernel
theorem dX12_number_33 : decode cX12_number 33 = .ok (.aload_n 0, 1) := by decide +kernel
theorem dX12_number_34 : decode cX12_number 34 = .ok (.getfield 296, 3) := by decide +kernel
theorem dX12_number_37 : decode cX12_number 37 = .ok (.ifCond .ne 7, 3) := by decide +kernel
theorem dX12_number_40 : decode cX12_number 40 = .ok (.aload_n 0, 1) := by decide +kernel
theorem dX12_number_41 : decode cX12_number 41 = .ok (.invokevirtual 313, 3) := by decide +kernel
theorem dX12_number_44 : decode cX12_number 44 = .ok (.iload_n 3, 1) := by decide +kernel
theorem dX12_number_45 : decode cX12_number 45 = .ok (.ireturn, 1) := by decide +kernel
theorem hd_X12_numberHere : yX12_numberHere.cls ≠ "java/lang/invoke/MethodHandle" ∧ yX12_numberHere.cls ≠ "java/lang/invoke/VarHandle" ∧ (parseMethodDescriptor yX12_numberHere.desc).map (fun d => d.parameters.length) = some 0 := by decide +kernel
theorem gv_X12_316 : GoodIn gT (wsV "NylonLadderModel" 316 "NylonLadderModel" yX12_numberHere (Cond.code yX12_numberHere cX12_numberHere 3 (some .int) :: gT)) := good_V T_8_58 T_8_60 TS_82 T_1_10 T_8_61
def fX12_number (M : Mm) (o : Nat) (p1 : Int32) (p2 : Int32) : Option (Int32 × Mm) :=
  B1 (gk M o 15) fun _ =>
  B1 (fX12_numberHere M o) fun x1_2 =>
  B1 (rdI M o 15 9) fun x7_3 =>
  if x7_3 = 0 then
    B1 (fX12_in M (x1_2.toInt64) (p1.toInt64) (p2.toInt64)) fun x19_8 =>
    if x19_8 = 0 then
      B1 (wrZ M o 15 9 1) fun M30_13 =>
      B1 (rdI M30_13 o 15 9) fun x34_14 =>
      if x34_14 = 0 then
        B1 (gk M30_13 o 15) fun _ =>
        B1 (fX12_next M30_13 o) fun M41_16 =>
        some (x1_2, M41_16)
      else
        some (x1_2, M30_13)
    else
      B1 (wrZ M o 15 9 0) fun M30_9 =>
      B1 (rdI M30_9 o 15 9) fun x34_10 =>
      if x34_10 = 0 then
        B1 (gk M30_9 o 15) fun _ =>
        B1 (fX12_next M30_9 o) fun M41_12 =>
        some (x1_2, M41_12)
      else
        some (x1_2, M30_9)
  else
    B1 (wrZ M o 15 9 1) fun M30_4 =>
    B1 (rdI M30_4 o 15 9) fun x34_5 =>
    if x34_5 = 0 then
      B1 (gk M30_4 o 15) fun _ =>
      B1 (fX12_next M30_4 o) fun M41_7 =>
      some (x1_2, M41_7)
    else
      some (x1_2, M30_4)
set_option maxRecDepth 100000 in
set_option maxHeartbeats 4000000 in
theorem qX12_number (l : Launch) (E : Ev) {M : Mm} {o : Nat} {p1 : Int32} {p2 : Int32} {rz : Int32} {Mz : Mm} (hf : fX12_number M o p1 p2 = some (rz, Mz)) : Ct l E yX12_number cX12_number 4 (some .int) 3 70 0 0 [.ref (E.b + o), .int p1, .int p2] M (some (.int rz)) Mz := by
  refine ct_of (by decide +kernel) (Nat.le_of_ble_eq_true rfl) fun p e s m args below meth c C hr hin hW ls hl => ?_
  have hl : lv_has ls 4 [(0, .ref (E.b + o)), (1, .int p1), (2, .int p2)] := hl
  unfold fX12_number at hf
  refine lv_aload_n C.x C.b dX12_number_0 rfl (lv_at hl 0 rfl) ?_
  replace hf := x_b1 hf; obtain ⟨_, hk1_1, hf⟩ := hf
  replace hf := x_b1 hf; obtain ⟨x1_2, hx1_2, hf⟩ := hf
  refine x_callV (As := []) (a := o) (rest := []) C hW hl (qX12_numberHere l E hx1_2) (x_gk hk1_1) (by decide) (by decide) rfl gv_X12_316 ⟨rfl, hd_X12_numberHere⟩ rfl rfl (Nat.le_of_ble_eq_true rfl) dX12_number_1 ⟨Nat.le_of_ble_eq_true rfl, Nat.le_of_ble_eq_true rfl⟩ ⟨Nat.le_of_ble_eq_true rfl, Nat.le_of_ble_eq_true rfl⟩ (fun H locs hW => ?_)
  refine lv_istore_n (lv' := [(3, .int _), (0, .ref (E.b + _)), (1, .int _), (2, .int _)]) C.x C.b dX12_number_4 rfl hl (by decide) rfl (fun ls hl => ?_)
  refine lv_aload_n C.x C.b dX12_number_5 rfl (lv_at hl 1 rfl) ?_
  refine lv_aload_n C.x C.b dX12_number_6 rfl (lv_at hl 1 rfl) ?_
  replace hf := x_b1 hf; obtain ⟨x7_3, hx7_3, hf⟩ := hf
  refine x_geti C hW fg_X12_296_15 hx7_3 dX12_number_7 ?_
  refine lv_if_ne (tgt := 25) C.x C.b dX12_number_10 rfl (fun c10 => ?_) (fun c10 => ?_)
  · replace hf := x_in c10 hf
    refine lv_iconst (v := 1) C.x C.b dX12_number_25 (by decide) ?_
    refine lv_goto (tgt := 30) C.x C.b dX12_number_26 rfl ?_
    replace hf := x_b1 hf; obtain ⟨M30_4, hM30_4, hf⟩ := hf
    refine x_putz C hW fp_X12_296_15 hM30_4 (fun h => by cases h) dX12_number_30 (fun H locs hW => ?_)
    refine lv_aload_n C.x C.b dX12_number_33 rfl (lv_at hl 1 rfl) ?_
    replace hf := x_b1 hf; obtain ⟨x34_5, hx34_5, hf⟩ := hf
    refine x_geti C hW fg_X12_296_15 hx34_5 dX12_number_34 ?_
    refine lv_if_ne (tgt := 44) C.x C.b dX12_number_37 rfl (fun c37 => ?_) (fun c37 => ?_)
    · replace hf := x_in c37 hf
      refine lv_iload_n C.x C.b dX12_number_44 rfl (lv_at hl 0 rfl) ?_
      rw [x_e1 hf, x_e2 hf]
      exact x_iret C hr hW dX12_number_45
    · replace hf := x_ip c37 hf
      refine lv_aload_n C.x C.b dX12_number_40 rfl (lv_at hl 1 rfl) ?_
      replace hf := x_b1 hf; obtain ⟨_, hk41_6, hf⟩ := hf
      replace hf := x_b1 hf; obtain ⟨M41_7, hM41_7, hf⟩ := hf
      refine x_callV (As := []) (a := o) (rest := []) C hW hl (qX12_next l E hM41_7) (x_gk hk41_6) (by decide) (by decide) rfl gv_X12_313 ⟨rfl, hd_X12_next⟩ rfl rfl (Nat.le_of_ble_eq_true rfl) dX12_number_41 ⟨Nat.le_of_ble_eq_true rfl, Nat.le_of_ble_eq_true rfl⟩ ⟨Nat.le_of_ble_eq_true rfl, Nat.le_of_ble_eq_true rfl⟩ (fun H locs hW => ?_)
      refine lv_iload_n C.x C.b dX12_number_44 rfl (lv_at hl 0 rfl) ?_
      rw [x_e1 hf, x_e2 hf]
      exact x_iret C hr hW dX12_number_45
  · replace hf := x_ip c10 hf
    refine lv_iload_n C.x C.b dX12_number_13 rfl (lv_at hl 0 rfl) ?_
    refine lv_i2l (v := x1_2.toInt64) C.x C.b dX12_number_14 rfl ?_
    refine lv_iload_n C.x C.b dX12_number_15 rfl (lv_at hl 2 rfl) ?_
    refine lv_i2l (v := p1.toInt64) C.x C.b dX12_number_16 rfl ?_
    refine lv_iload_n C.x C.b dX12_number_17 rfl (lv_at hl 3 rfl) ?_
    refine lv_i2l (v := p2.toInt64) C.x C.b dX12_number_18 rfl ?_
    replace hf := x_b1 hf; obtain ⟨x19_8, hx19_8, hf⟩ := hf
    refine x_callS (As := [.long (x1_2.toInt64), .long (p1.toInt64), .long (p2.toInt64)]) (rest := [.ref (E.b + o)]) C hW hl (qX12_in l E hx19_8) gs_X12_61 hd_X12_in rfl rfl (Nat.le_of_ble_eq_true rfl) dX12_number_19 ⟨Nat.le_of_ble_eq_true rfl, Nat.le_of_ble_eq_true rfl⟩ ⟨Nat.le_of_ble_eq_true rfl, Nat.le_of_ble_eq_true rfl⟩ (fun H locs hW => ?_)
    refine lv_if_ne (tgt := 29) C.x C.b dX12_number_22 rfl (fun c22 => ?_) (fun c22 => ?_)
    · replace hf := x_in c22 hf
      refine lv_iconst (v := 0) C.x C.b dX12_number_29 (by decide) ?_
      replace hf := x_b1 hf; obtain ⟨M30_9, hM30_9, hf⟩ := hf
      refine x_putz C hW fp_X12_296_15 hM30_9 (fun h => by cases h) dX12_number_30 (fun H locs hW => ?_)
      refine lv_aload_n C.x C.b dX12_number_33 rfl (lv_at hl 1 rfl) ?_
      replace hf := x_b1 hf; obtain ⟨x34_10, hx34_10, hf⟩ := hf
      refine x_geti C hW fg_X12_296_15 hx34_10 dX12_number_34 ?_
      refine lv_if_ne (tgt := 44) C.x C.b dX12_number_37 rfl (fun c37 => ?_) (fun c37 => ?_)
      · replace hf := x_in c37 hf
        refine lv_iload_n C.x C.b dX12_number_44 rfl (lv_at hl 0 rfl) ?_
        rw [x_e1 hf, x_e2 hf]
        exact x_iret C hr hW dX12_number_45
      · replace hf := x_ip c37 hf
        refine lv_aload_n C.x C.b dX12_number_40 rfl (lv_at hl 1 rfl) ?_
        replace hf := x_b1 hf; obtain ⟨_, hk41_11, hf⟩ := hf
        replace hf := x_b1 hf; obtain ⟨M41_12, hM41_12, hf⟩ := hf
        refine x_callV (As := []) (a := o) (rest := []) C hW hl (qX12_next l E hM41_12) (x_gk hk41_11) (by decide) (by decide) rfl gv_X12_313 ⟨rfl, hd_X12_next⟩ rfl rfl (Nat.le_of_ble_eq_true rfl) dX12_number_41 ⟨Nat.le_of_ble_eq_true rfl, Nat.le_of_ble_eq_true rfl⟩ ⟨Nat.le_of_ble_eq_true rfl, Nat.le_of_ble_eq_true rfl⟩ (fun H locs hW => ?_)
        refine lv_iload_n C.x C.b dX12_number_44 rfl (lv_at hl 0 rfl) ?_
        rw [x_e1 hf, x_e2 hf]
        exact x_iret C hr hW dX12_number_45
    · replace hf := x_ip c22 hf
      refine lv_iconst (v := 1) C.x C.b dX12_number_25 (by decide) ?_
      refine lv_goto (tgt := 30) C.x C.b dX12_number_26 rfl ?_
      replace hf := x_b1 hf; obtain ⟨M30_13, hM30_13, hf⟩ := hf
      refine x_putz C hW fp_X12_296_15 hM30_13 (fun h => by cases h) dX12_number_30 (fun H locs hW => ?_)
      refine lv_aload_n C.x C.b dX12_number_33 rfl (lv_at hl 1 rfl) ?_
      replace hf := x_b1 hf; obtain ⟨x34_14, hx34_14, hf⟩ := hf
      refine x_geti C hW fg_X12_296_15 hx34_14 dX12_number_34 ?_
      refine lv_if_ne (tgt := 44) C.x C.b dX12_number_37 rfl (fun c37 => ?_) (fun c37 => ?_)
      · replace hf := x_in c37 hf
        refine lv_iload_n C.x C.b dX12_number_44 rfl (lv_at hl 0 rfl) ?_
        rw [x_e1 hf, x_e2 hf]
        exact x_iret C hr hW dX12_number_45
      · replace hf := x_ip c37 hf
        refine lv_aload_n C.x C.b dX12_number_40 rfl (lv_at hl 1 rfl) ?_
        replace hf := x_b1 hf; obtain ⟨_, hk41_15, hf⟩ := hf
        replace hf := x_b1 hf; obtain ⟨M41_16, hM41_16, hf⟩ := hf
        refine x_callV (As := []) (a := o) (rest := []) C hW hl (qX12_next l E hM41_16) (x_gk hk41_15) (by decide) (by decide) rfl gv_X12_313 ⟨rfl, hd_X12_next⟩ rfl rfl (Nat.le_of_ble_eq_true rfl) dX12_number_41 ⟨Nat.le_of_ble_eq_true rfl, Nat.le_of_ble_eq_true rfl⟩ ⟨Nat.le_of_ble_eq_true rfl, Nat.le_of_ble_eq_true rfl⟩ (fun H locs hW => ?_)
        refine lv_iload_n C.x C.b dX12_number_44 rfl (lv_at hl 0 rfl) ?_
        rw [x_e1 hf, x_e2 hf]
        exact x_iret C hr hW dX12_number_45

theorem dX12_nameOf_0 : decode cX12_nameOf 0 = .ok (.iload_n 0, 1) := by decide +kernel
theorem dX12_nameOf_1 : decode cX12_nameOf 1 = .ok (.tableswitch 55 0 4 #[35, 39, 43, 47, 51], 35) := by decide +kernel
theorem dX12_nameOf_36 : decode cX12_nameOf 36 = .ok (.ldc_w 319, 3) := by decide +kernel
theorem dX12_nameOf_39 : decode cX12_nameOf 39 = .ok (.areturn, 1) := by decide +kernel
theorem dX12_nameOf_40 : decode cX12_nameOf 40 = .ok (.ldc_w 321, 3) := by decide +kernel
theorem dX12_nameOf_43 : decode cX12_nameOf 43 = .ok (.areturn, 1) := by decide +kernel
theorem dX12_nameOf_44 : decode cX12_nameOf 44 = .ok (.ldc_w 323, 3) := by decide +kernel
theorem dX12_nameOf_47 : decode cX12_nameOf 47 = .ok (.areturn, 1) := by decide +kernel
theorem dX12_nameOf_48 : decode cX12_nameOf 48 = .ok (.ldc_w 325, 3) := by decide +kernel
theorem dX12_nameOf_51 : decode cX12_nameOf 51 = .ok (.areturn, 1) := by decide +kernel
theorem dX12_nameOf_52 : decode cX12_nameOf 52 = .ok (.ldc_w 327, 3) := by decide +kernel
theorem dX12_nameOf_55 : decode cX12_nameOf 55 = .ok (.areturn, 1) := by decide +kernel
theorem dX12_nameOf_56 : decode cX12_nameOf 56 = .ok (.ldc_w 329, 3) := by decide +kernel
theorem dX12_nameOf_59 : decode cX12_nameOf 59 = .ok (.areturn, 1) := by decide +kernel
def fX12_nameOf (M : Mm) (p1 : Int32) : Option Nat :=
  if p1 = 0 then
    some 15
  else
    if p1 = 1 then
      some 10
    else
      if p1 = 2 then
        some 11
      else
        if p1 = 3 then
          some 12
        else
          if p1 = 4 then
            some 13
          else
            some 14
set_option maxRecDepth 100000 in
set_option maxHeartbeats 4000000 in
theorem qX12_nameOf (l : Launch) (E : Ev) {M : Mm} {p1 : Int32} {rz : Nat} (hf : fX12_nameOf M p1 = some rz) : Ct l E yX12_nameOf cX12_nameOf 1 (some (.object "java/lang/String")) 0 0 0 0 [.int p1] M (some (.ref (E.x (100 + rz)))) M := by
  refine ct_of (by decide +kernel) (Nat.le_of_ble_eq_true rfl) fun p e s m args below meth c C hr hin hW ls hl => ?_
  have hl : lv_has ls 1 [(0, .int p1)] := hl
  unfold fX12_nameOf at hf
  refine lv_iload_n C.x C.b dX12_nameOf_0 rfl (lv_at hl 0 rfl) ?_
  by_cases s1_0 : p1 = 0
  · replace hf := x_ip s1_0 hf
    refine lv_tableIn (off := 35) (tgt := 36) C.x C.b dX12_nameOf_1 (by rw [s1_0]; decide) (by rw [s1_0]; decide) (by rw [s1_0]; rfl) rfl ?_
    refine x_ldcSW (q := 15) (tx := "plain") C (by decide +kernel) dX12_nameOf_36 ?_
    rw [x_e0 hf]
    exact x_sret C hr (Or.inl ⟨_, rfl⟩) hW dX12_nameOf_39
  · replace hf := x_in s1_0 hf
    by_cases s1_1 : p1 = 1
    · replace hf := x_ip s1_1 hf
      refine lv_tableIn (off := 39) (tgt := 40) C.x C.b dX12_nameOf_1 (by rw [s1_1]; decide) (by rw [s1_1]; decide) (by rw [s1_1]; rfl) rfl ?_
      refine x_ldcSW (q := 10) (tx := "sheer") C (by decide +kernel) dX12_nameOf_40 ?_
      rw [x_e0 hf]
      exact x_sret C hr (Or.inl ⟨_, rfl⟩) hW dX12_nameOf_43
    · replace hf := x_in s1_1 hf
      by_cases s1_2 : p1 = 2
      · replace hf := x_ip s1_2 hf
        refine lv_tableIn (off := 43) (tgt := 44) C.x C.b dX12_nameOf_1 (by rw [s1_2]; decide) (by rw [s1_2]; decide) (by rw [s1_2]; rfl) rfl ?_
        refine x_ldcSW (q := 11) (tx := "thick") C (by decide +kernel) dX12_nameOf_44 ?_
        rw [x_e0 hf]
        exact x_sret C hr (Or.inl ⟨_, rfl⟩) hW dX12_nameOf_47
      · replace hf := x_in s1_2 hf
        by_cases s1_3 : p1 = 3
        · replace hf := x_ip s1_3 hf
          refine lv_tableIn (off := 47) (tgt := 48) C.x C.b dX12_nameOf_1 (by rw [s1_3]; decide) (by rw [s1_3]; decide) (by rw [s1_3]; rfl) rfl ?_
          refine x_ldcSW (q := 12) (tx := "mesh") C (by decide +kernel) dX12_nameOf_48 ?_
          rw [x_e0 hf]
          exact x_sret C hr (Or.inl ⟨_, rfl⟩) hW dX12_nameOf_51
        · replace hf := x_in s1_3 hf
          by_cases s1_4 : p1 = 4
          · replace hf := x_ip s1_4 hf
            refine lv_tableIn (off := 51) (tgt := 52) C.x C.b dX12_nameOf_1 (by rw [s1_4]; decide) (by rw [s1_4]; decide) (by rw [s1_4]; rfl) rfl ?_
            refine x_ldcSW (q := 13) (tx := "lined") C (by decide +kernel) dX12_nameOf_52 ?_
            rw [x_e0 hf]
            exact x_sret C hr (Or.inl ⟨_, rfl⟩) hW dX12_nameOf_55
          · replace hf := x_in s1_4 hf
            have s1_0_ := lv_neT (a := 0) s1_0 rfl
            have s1_1_ := lv_neT (a := 1) s1_1 rfl
            have s1_2_ := lv_neT (a := 2) s1_2 rfl
            have s1_3_ := lv_neT (a := 3) s1_3 rfl
            have s1_4_ := lv_neT (a := 4) s1_4 rfl
            refine lv_tableOut (tgt := 56) C.x C.b dX12_nameOf_1 (by omega) rfl ?_
            refine x_ldcSW (q := 14) (tx := "old") C (by decide +kernel) dX12_nameOf_56 ?_
            rw [x_e0 hf]
            exact x_sret C hr (Or.inl ⟨_, rfl⟩) hW dX12_nameOf_59

theorem dX12_kindHere_0 : decode cX12_kindHere 0 = .ok (.iconst 5, 1) := by decide +kernel
theorem dX12_kindHere_1 : decode cX12_kindHere 1 = .ok (.istore_n 1, 1) := by decide +kernel
theorem dX12_kindHere_2 : decode cX12_kindHere 2 = .ok (.iload_n 1, 1) := by decide +kernel
theorem dX12_kindHere_3 : decode cX12_kindHere 3 = .ok (.ifCond .lt 20, 3) := by decide +kernel
theorem dX12_kindHere_6 : decode cX12_kindHere 6 = .ok (.aload_n 0, 1) := by decide +kernel
theorem dX12_kindHere_7 : decode cX12_kindHere 7 = .ok (.iload_n 1, 1) := by decide +kernel
theorem dX12_kindHere_8 : decode cX12_kindHere 8 = .ok (.invokestatic 331, 3) := by decide +kernel
theorem dX12_kindHere_11 : decode cX12_kindHere 11 = .ok (.invokevirtual 309, 3) := by decide +kernel
theorem dX12_kindHere_14 : decode cX12_kindHere 14 = .ok (.ifCond .ne 9, 3) := by decide +kernel
theorem dX12_kindHere_17 : decode cX12_kindHere 17 = .ok (.iinc 1 (-1), 3) := by decide +kernel
theorem dX12_kindHere_20 : decode cX12_kindHere 20 = .ok (.goto (-18), 3) := by decide +kernel
theorem dX12_kindHere_23 : decode cX12_kindHere 23 = .ok (.iload_n 1, 1) := by decide +kernel
theorem dX12_kindHere_24 : decode cX12_kindHere 24 = .ok (.ireturn, 1) := by decide +kernel
theorem hd_X12_nameOf : yX12_nameOf.cls ≠ "java/lang/invoke/MethodHandle" ∧ yX12_nameOf.cls ≠ "java/lang/invoke/VarHandle" ∧ (parseMethodDescriptor yX12_nameOf.desc).map (fun d => d.parameters.length) = some 1 := by decide +kernel
theorem gs_X12_331 : GoodIn gT (va_wsS "NylonLadderModel" 331 yX12_nameOf (Cond.code yX12_nameOf cX12_nameOf 1 (some (.object "java/lang/String")) :: gT)) := good_S T_8_35 T_8_36 T_1_10 T_8_37
def fX12_kindHere_L2 (M : Mm) (o : Nat) : Nat → Int32 → Option Int32
  | 0, _ => none
  | n + 1, v1 =>
    if v1 < 0 then
      some v1
    else
      B1 (fX12_nameOf M v1) fun x8_1 =>
      B1 (gk M o 15) fun _ =>
      B1 (fX12_isWord M o x8_1) fun x11_3 =>
      if x11_3 = 0 then
        fX12_kindHere_L2 M o n (v1 + (-1))
      else
        some v1
def fX12_kindHere (M : Mm) (o : Nat) : Option Int32 :=
  fX12_kindHere_L2 M o FL 5
set_option maxRecDepth 100000 in
set_option maxHeartbeats 4000000 in
theorem kX12_kindHere_L2 {l : Launch} {E : Ev} {p : Program} {e : Env} {s : State} {m : MethodId} {args : Array Value} {below : List Frame} {meth : Method} {c : Code} (C : Cx E p s m args meth c cX12_kindHere yX12_kindHere.cls 2) (hr : meth.sig.returnType = (some .int)) (hin : yX12_kindHere.name = "<init>" → meth.name = "<init>") {M : Mm}  {o : Nat} {rz : Int32} : ∀ (n : Nat) (v1 : Int32), fX12_kindHere_L2 M o n v1 = some rz → ∀ (H : Heap) (locs : List Loc) (ls : Array Slot), Wx E s H locs M → lv_has ls 2 [(0, .ref (E.b + o)), (1, .int v1)] → W p l e (rM 5 108 0 0) s m args below meth c H locs 0 0 (MQ below (Qp E (some (.int rz)) M) args s 0 0 E.A) (F0 m 2 ls []) := by
  intro n
  induction n with
  | zero =>
    intro v1 hf
    unfold fX12_kindHere_L2 at hf
    cases hf
  | succ n ih =>
    intro v1 hf H locs ls hW hl
    unfold fX12_kindHere_L2 at hf
    refine lv_iload_n C.x C.b dX12_kindHere_2 rfl (lv_at hl 1 rfl) ?_
    refine lv_if_lt (tgt := 23) C.x C.b dX12_kindHere_3 rfl (fun c3 => ?_) (fun c3 => ?_)
    · replace hf := x_ip c3 hf
      refine lv_iload_n C.x C.b dX12_kindHere_23 rfl (lv_at hl 1 rfl) ?_
      rw [x_e0 hf]
      exact x_iret C hr hW dX12_kindHere_24
    · replace hf := x_in c3 hf
      refine lv_aload_n C.x C.b dX12_kindHere_6 rfl (lv_at hl 0 rfl) ?_
      refine lv_iload_n C.x C.b dX12_kindHere_7 rfl (lv_at hl 1 rfl) ?_
      replace hf := x_b1 hf; obtain ⟨x8_1, hx8_1, hf⟩ := hf
      refine x_callS (As := [.int v1]) (rest := [.ref (E.b + o)]) C hW hl (qX12_nameOf l E hx8_1) gs_X12_331 hd_X12_nameOf rfl rfl (Nat.le_of_ble_eq_true rfl) dX12_kindHere_8 ⟨Nat.le_of_ble_eq_true rfl, Nat.le_of_ble_eq_true rfl⟩ ⟨Nat.le_of_ble_eq_true rfl, Nat.le_of_ble_eq_true rfl⟩ (fun H locs hW => ?_)
      replace hf := x_b1 hf; obtain ⟨_, hk11_2, hf⟩ := hf
      replace hf := x_b1 hf; obtain ⟨x11_3, hx11_3, hf⟩ := hf
      refine x_callV (As := [.ref (E.x (100 + x8_1))]) (a := o) (rest := []) C hW hl (qX12_isWord l E hx11_3) (x_gk hk11_2) (by decide) (by decide) rfl gv_X12_309 ⟨rfl, hd_X12_isWord⟩ rfl rfl (Nat.le_of_ble_eq_true rfl) dX12_kindHere_11 ⟨Nat.le_of_ble_eq_true rfl, Nat.le_of_ble_eq_true rfl⟩ ⟨Nat.le_of_ble_eq_true rfl, Nat.le_of_ble_eq_true rfl⟩ (fun H locs hW => ?_)
      refine lv_if_ne (tgt := 23) C.x C.b dX12_kindHere_14 rfl (fun c14 => ?_) (fun c14 => ?_)
      · replace hf := x_in c14 hf
        refine lv_iload_n C.x C.b dX12_kindHere_23 rfl (lv_at hl 1 rfl) ?_
        rw [x_e0 hf]
        exact x_iret C hr hW dX12_kindHere_24
      · replace hf := x_ip c14 hf
        refine lv_iinc (v := (v1 + (-1))) (lv' := [(1, .int (v1 + (-1))), (0, .ref (E.b + _))]) C.x C.b dX12_kindHere_17 hl (k := 1) rfl (by first | rfl | decide) (by decide) rfl (fun ls hl => ?_)
        refine lv_goto (tgt := 2) C.x C.b dX12_kindHere_20 rfl ?_
        exact ih (v1 + (-1)) hf _ _ _ hW (lv_sub hl [1, 0] rfl)
set_option maxRecDepth 100000 in
set_option maxHeartbeats 4000000 in
theorem qX12_kindHere (l : Launch) (E : Ev) {M : Mm} {o : Nat} {rz : Int32} (hf : fX12_kindHere M o = some rz) : Ct l E yX12_kindHere cX12_kindHere 2 (some .int) 5 108 0 0 [.ref (E.b + o)] M (some (.int rz)) M := by
  refine ct_of (by decide +kernel) (Nat.le_of_ble_eq_true rfl) fun p e s m args below meth c C hr hin hW ls hl => ?_
  have hl : lv_has ls 2 [(0, .ref (E.b + o))] := hl
  unfold fX12_kindHere at hf
  refine lv_iconst (v := 5) C.x C.b dX12_kindHere_0 (by decide) ?_
  refine lv_istore_n (lv' := [(1, .int _), (0, .ref (E.b + _))]) C.x C.b dX12_kindHere_1 rfl hl (by decide) rfl (fun ls hl => ?_)
  exact kX12_kindHere_L2 C hr hin FL 5 hf _ _ _ hW (lv_sub hl [1, 0] rfl)

theorem dX12_moveHere_0 : decode cX12_moveHere 0 = .ok (.aload_n 0, 1) := by decide +kernel
theorem dX12_moveHere_1 : decode cX12_moveHere 1 = .ok (.ldc_w 335, 3) := by decide +kernel
theorem dX12_moveHere_4 : decode cX12_moveHere 4 = .ok (.invokevirtual 309, 3) := by decide +kernel
theorem dX12_moveHere_7 : decode cX12_moveHere 7 = .ok (.ifCond .eq 7, 3) := by decide +kernel
theorem dX12_moveHere_10 : decode cX12_moveHere 10 = .ok (.iconst 0, 1) := by decide +kernel
theorem dX12_moveHere_11 : decode cX12_moveHere 11 = .ok (.goto 46, 3) := by decide +kernel
theorem dX12_moveHere_14 : decode cX12_moveHere 14 = .ok (.aload_n 0, 1) := by decide +kernel
theorem dX12_moveHere_15 : decode cX12_moveHere 15 = .ok (.ldc_w 337, 3) := by decide +kernel
theorem dX12_moveHere_18 : decode cX12_moveHere 18 = .ok (.invokevirtual 309, 3) := by decide +kernel
theorem dX12_moveHere_21 : decode cX12_moveHere 21 = .ok (.ifCond .eq 7, 3) := by decide +kernel
theorem dX12_moveHere_24 : decode cX12_moveHere 24 = .ok (.iconst 1, 1) := by decide +kernel
theorem dX12_moveHere_25 : decode cX12_moveHere 25 = .ok (.goto 32, 3) := by decide +kernel
theorem dX12_moveHere_28 : decode cX12_moveHere 28 = .ok (.aload_n 0, 1) := by decide +kernel
theorem dX12_moveHere_29 : decode cX12_moveHere 29 = .ok (.ldc_w 339, 3) := by decide +kernel
theorem dX12_moveHere_32 : decode cX12_moveHere 32 = .ok (.invokevirtual 309, 3) := by decide +kernel
theorem dX12_moveHere_35 : decode cX12_moveHere 35 = .ok (.ifCond .eq 7, 3) := by decide +kernel
theorem dX12_moveHere_38 : decode cX12_moveHere 38 = .ok (.iconst 2, 1) := by decide +kernel
theorem dX12_moveHere_39 : decode cX12_moveHere 39 = .ok (.goto 18, 3) := by decide +kernel
theorem dX12_moveHere_42 : decode cX12_moveHere 42 = .ok (.aload_n 0, 1) := by decide +kernel
theorem dX12_moveHere_43 : decode cX12_moveHere 43 = .ok (.ldc_w 341, 3) := by decide +kernel
theorem dX12_moveHere_46 : decode cX12_moveHere 46 = .ok (.invokevirtual 309, 3) := by decide +kernel
theorem dX12_moveHere_49 : decode cX12_moveHere 49 = .ok (.ifCond .eq 7, 3) := by decide +kernel
theorem dX12_moveHere_52 : decode cX12_moveHere 52 = .ok (.iconst 3, 1) := by decide +kernel
theorem dX12_moveHere_53 : decode cX12_moveHere 53 = .ok (.goto 4, 3) := by decide +kernel
theorem dX12_moveHere_56 : decode cX12_moveHere 56 = .ok (.iconst (-1), 1) := by decide +kernel
theorem dX12_moveHere_57 : decode cX12_moveHere 57 = .ok (.ireturn, 1) := by decide +kernel
def fX12_moveHere (M : Mm) (o : Nat) : Option Int32 :=
  B1 (gk M o 15) fun _ =>
  B1 (fX12_isWord M o 8) fun x4_2 =>
  if x4_2 = 0 then
    B1 (gk M o 15) fun _ =>
    B1 (fX12_isWord M o 5) fun x18_4 =>
    if x18_4 = 0 then
      B1 (gk M o 15) fun _ =>
      B1 (fX12_isWord M o 6) fun x32_6 =>
      if x32_6 = 0 then
        B1 (gk M o 15) fun _ =>
        B1 (fX12_isWord M o 7) fun x46_8 =>
        if x46_8 = 0 then
          some (-1)
        else
          some 3
      else
        some 2
    else
      some 1
  else
    some 0
set_option maxRecDepth 100000 in
set_option maxHeartbeats 4000000 in
theorem qX12_moveHere (l : Launch) (E : Ev) {M : Mm} {o : Nat} {rz : Int32} (hf : fX12_moveHere M o = some rz) : Ct l E yX12_moveHere cX12_moveHere 1 (some .int) 5 108 0 0 [.ref (E.b + o)] M (some (.int rz)) M := by
  refine ct_of (by decide +kernel) (Nat.le_of_ble_eq_true rfl) fun p e s m args below meth c C hr hin hW ls hl => ?_
  have hl : lv_has ls 1 [(0, .ref (E.b + o))] := hl
  unfold fX12_moveHere at hf
  refine lv_aload_n C.x C.b dX12_moveHere_0 rfl (lv_at hl 0 rfl) ?_
  refine x_ldcSW (q := 8) (tx := "steps") C (by decide +kernel) dX12_moveHere_1 ?_
  replace hf := x_b1 hf; obtain ⟨_, hk4_1, hf⟩ := hf
  replace hf := x_b1 hf; obtain ⟨x4_2, hx4_2, hf⟩ := hf
  refine x_callV (As := [.ref (E.x (100 + 8))]) (a := o) (rest := []) C hW hl (qX12_isWord l E hx4_2) (x_gk hk4_1) (by decide) (by decide) rfl gv_X12_309 ⟨rfl, hd_X12_isWord⟩ rfl rfl (Nat.le_of_ble_eq_true rfl) dX12_moveHere_4 ⟨Nat.le_of_ble_eq_true rfl, Nat.le_of_ble_eq_true rfl⟩ ⟨Nat.le_of_ble_eq_true rfl, Nat.le_of_ble_eq_true rfl⟩ (fun H locs hW => ?_)
  refine lv_if_eq (tgt := 14) C.x C.b dX12_moveHere_7 rfl (fun c7 => ?_) (fun c7 => ?_)
  · replace hf := x_ip c7 hf
    refine lv_aload_n C.x C.b dX12_moveHere_14 rfl (lv_at hl 0 rfl) ?_
    refine x_ldcSW (q := 5) (tx := "stairs") C (by decide +kernel) dX12_moveHere_15 ?_
    replace hf := x_b1 hf; obtain ⟨_, hk18_3, hf⟩ := hf
    replace hf := x_b1 hf; obtain ⟨x18_4, hx18_4, hf⟩ := hf
    refine x_callV (As := [.ref (E.x (100 + 5))]) (a := o) (rest := []) C hW hl (qX12_isWord l E hx18_4) (x_gk hk18_3) (by decide) (by decide) rfl gv_X12_309 ⟨rfl, hd_X12_isWord⟩ rfl rfl (Nat.le_of_ble_eq_true rfl) dX12_moveHere_18 ⟨Nat.le_of_ble_eq_true rfl, Nat.le_of_ble_eq_true rfl⟩ ⟨Nat.le_of_ble_eq_true rfl, Nat.le_of_ble_eq_true rfl⟩ (fun H locs hW => ?_)
    refine lv_if_eq (tgt := 28) C.x C.b dX12_moveHere_21 rfl (fun c21 => ?_) (fun c21 => ?_)
    · replace hf := x_ip c21 hf
      refine lv_aload_n C.x C.b dX12_moveHere_28 rfl (lv_at hl 0 rfl) ?_
      refine x_ldcSW (q := 6) (tx := "sits") C (by decide +kernel) dX12_moveHere_29 ?_
      replace hf := x_b1 hf; obtain ⟨_, hk32_5, hf⟩ := hf
      replace hf := x_b1 hf; obtain ⟨x32_6, hx32_6, hf⟩ := hf
      refine x_callV (As := [.ref (E.x (100 + 6))]) (a := o) (rest := []) C hW hl (qX12_isWord l E hx32_6) (x_gk hk32_5) (by decide) (by decide) rfl gv_X12_309 ⟨rfl, hd_X12_isWord⟩ rfl rfl (Nat.le_of_ble_eq_true rfl) dX12_moveHere_32 ⟨Nat.le_of_ble_eq_true rfl, Nat.le_of_ble_eq_true rfl⟩ ⟨Nat.le_of_ble_eq_true rfl, Nat.le_of_ble_eq_true rfl⟩ (fun H locs hW => ?_)
      refine lv_if_eq (tgt := 42) C.x C.b dX12_moveHere_35 rfl (fun c35 => ?_) (fun c35 => ?_)
      · replace hf := x_ip c35 hf
        refine lv_aload_n C.x C.b dX12_moveHere_42 rfl (lv_at hl 0 rfl) ?_
        refine x_ldcSW (q := 7) (tx := "stands") C (by decide +kernel) dX12_moveHere_43 ?_
        replace hf := x_b1 hf; obtain ⟨_, hk46_7, hf⟩ := hf
        replace hf := x_b1 hf; obtain ⟨x46_8, hx46_8, hf⟩ := hf
        refine x_callV (As := [.ref (E.x (100 + 7))]) (a := o) (rest := []) C hW hl (qX12_isWord l E hx46_8) (x_gk hk46_7) (by decide) (by decide) rfl gv_X12_309 ⟨rfl, hd_X12_isWord⟩ rfl rfl (Nat.le_of_ble_eq_true rfl) dX12_moveHere_46 ⟨Nat.le_of_ble_eq_true rfl, Nat.le_of_ble_eq_true rfl⟩ ⟨Nat.le_of_ble_eq_true rfl, Nat.le_of_ble_eq_true rfl⟩ (fun H locs hW => ?_)
        refine lv_if_eq (tgt := 56) C.x C.b dX12_moveHere_49 rfl (fun c49 => ?_) (fun c49 => ?_)
        · replace hf := x_ip c49 hf
          refine lv_iconst (v := (-1)) C.x C.b dX12_moveHere_56 (by decide) ?_
          rw [x_e0 hf]
          exact x_iret C hr hW dX12_moveHere_57
        · replace hf := x_in c49 hf
          refine lv_iconst (v := 3) C.x C.b dX12_moveHere_52 (by decide) ?_
          refine lv_goto (tgt := 57) C.x C.b dX12_moveHere_53 rfl ?_
          rw [x_e0 hf]
          exact x_iret C hr hW dX12_moveHere_57
      · replace hf := x_in c35 hf
        refine lv_iconst (v := 2) C.x C.b dX12_moveHere_38 (by decide) ?_
        refine lv_goto (tgt := 57) C.x C.b dX12_moveHere_39 rfl ?_
        rw [x_e0 hf]
        exact x_iret C hr hW dX12_moveHere_57
    · replace hf := x_in c21 hf
      refine lv_iconst (v := 1) C.x C.b dX12_moveHere_24 (by decide) ?_
      refine lv_goto (tgt := 57) C.x C.b dX12_moveHere_25 rfl ?_
      rw [x_e0 hf]
      exact x_iret C hr hW dX12_moveHere_57
  · replace hf := x_in c7 hf
    refine lv_iconst (v := 0) C.x C.b dX12_moveHere_10 (by decide) ?_
    refine lv_goto (tgt := 57) C.x C.b dX12_moveHere_11 rfl ?_
    rw [x_e0 hf]
    exact x_iret C hr hW dX12_moveHere_57

theorem dX12_stockingTold_0 : decode cX12_stockingTold 0 = .ok (.aload_n 0, 1) := by decide +kernel
theorem dX12_stockingTold_1 : decode cX12_stockingTold 1 = .ok (.aload_n 0, 1) := by decide +kernel
theorem dX12_stockingTold_2 : decode cX12_stockingTold 2 = .ok (.getfield 19, 3) := by decide +kernel
theorem dX12_stockingTold_5 : decode cX12_stockingTold 5 = .ok (.iconst 0, 1) := by decide +kernel
theorem dX12_stockingTold_6 : decode cX12_stockingTold 6 = .ok (.iaload, 1) := by decide +kernel
theorem dX12_stockingTold_7 : decode cX12_stockingTold 7 = .ok (.bipush 8, 2) := by decide +kernel
theorem dX12_stockingTold_9 : decode cX12_stockingTold 9 = .ok (.if_icmp .ne 7, 3) := by decide +kernel
theorem dX12_stockingTold_12 : decode cX12_stockingTold 12 = .ok (.iconst 1, 1) := by decide +kernel
theorem dX12_stockingTold_13 : decode cX12_stockingTold 13 = .ok (.goto 4, 3) := by decide +kernel
theorem dX12_stockingTold_16 : decode cX12_stockingTold 16 = .ok (.iconst 0, 1) := by decide +kernel
theorem dX12_stockingTold_17 : decode cX12_stockingTold 17 = .ok (.putfield 296, 3) := by decide +kernel
theorem dX12_stockingTold_20 : decode cX12_stockingTold 20 = .ok (.aload_n 0, 1) := by decide +kernel
theorem dX12_stockingTold_21 : decode cX12_stockingTold 21 = .ok (.getfield 296, 3) := by decide +kernel
theorem dX12_stockingTold_24 : decode cX12_stockingTold 24 = .ok (.ifCond .eq 4, 3) := by decide +kernel
theorem dX12_stockingTold_27 : decode cX12_stockingTold 27 = .ok (.return_, 1) := by decide +kernel
theorem dX12_stockingTold_28 : decode cX12_stockingTold 28 = .ok (.aload_n 0, 1) := by decide +kernel
theorem dX12_stockingTold_29 : decode cX12_stockingTold 29 = .ok (.invokevirtual 313, 3) := by decide +kernel
theorem dX12_stockingTold_32 : decode cX12_stockingTold 32 = .ok (.aload_n 0, 1) := by decide +kernel
theorem dX12_stockingTold_33 : decode cX12_stockingTold 33 = .ok (.iconst 0, 1) := by decide +kernel
theorem dX12_stockingTold_34 : decode cX12_stockingTold 34 = .ok (.bipush 9, 2) := by decide +kernel
theorem dX12_stockingTold_36 : decode cX12_stockingTold 36 = .ok (.invokevirtual 343, 3) := by decide +kernel
theorem dX12_stockingTold_39 : decode cX12_stockingTold 39 = .ok (.istore_n 2, 1) := by decide +kernel
theorem dX12_stockingTold_40 : decode cX12_stockingTold 40 = .ok (.aload_n 0, 1) := by decide +kernel
theorem dX12_stockingTold_41 : decode cX12_stockingTold 41 = .ok (.ldc_w 345, 3) := by decide +kernel
theorem dX12_stockingTold_44 : decode cX12_stockingTold 44 = .ok (.invokevirtual 347, 3) := by decide +kernel
theorem dX12_stockingTold_47 : decode cX12_stockingTold 47 = .ok (.aload_n 0, 1) := by decide +kernel
theorem dX12_stockingTold_48 : decode cX12_stockingTold 48 = .ok (.iconst 0, 1) := by decide +kernel
theorem dX12_stockingTold_49 : decode cX12_stockingTold 49 = .ok (.iconst 3, 1) := by decide +kernel
theorem dX12_stockingTold_50 : decode cX12_stockingTold 50 = .ok (.invokevirtual 343, 3) := by decide +kernel
theorem dX12_stockingTold_53 : decode cX12_stockingTold 53 = .ok (.istore_n 3, 1) := by decide +kernel
theorem dX12_stockingTold_54 : decode cX12_stockingTold 54 = .ok (.aload_n 0, 1) := by decide +kernel
theorem dX12_stockingTold_55 : decode cX12_stockingTold 55 = .ok (.ldc_w 351, 3) := by decide +kernel
theorem dX12_stockingTold_58 : decode cX12_stockingTold 58 = .ok (.invokevirtual 347, 3) := by decide +kernel
theorem dX12_stockingTold_61 : decode cX12_stockingTold 61 = .ok (.aload_n 0, 1) := by decide +kernel
theorem dX12_stockingTold_62 : decode cX12_stockingTold 62 = .ok (.iconst 1, 1) := by decide +kernel
theorem dX12_stockingTold_63 : decode cX12_stockingTold 63 = .ok (.bipush 30, 2) := by decide +kernel
theorem dX12_stockingTold_65 : decode cX12_stockingTold 65 = .ok (.invokevirtual 343, 3) := by decide +kernel
theorem dX12_stockingTold_68 : decode cX12_stockingTold 68 = .ok (.istore 4, 2) := by decide +kernel
theorem dX12_stockingTold_70 : decode cX12_stockingTold 70 = .ok (.aload_n 0, 1) := by decide +kernel
theorem dX12_stockingTold_71 : decode cX12_stockingTold 71 = .ok (.getfield 296, 3) := by decide +kernel
theorem dX12_stockingTold_74 : decode cX12_stockingTold 74 = .ok (.ifCond .eq 4, 3) := by decide +kernel
theorem dX12_stockingTold_77 : decode cX12_stockingTold 77 = .ok (.return_, 1) := by decide +kernel
theorem dX12_stockingTold_78 : decode cX12_stockingTold 78 = .ok (.bipush 54, 2) := by decide +kernel
theorem dX12_stockingTold_80 : decode cX12_stockingTold 80 = .ok (.bipush 13, 2) := by decide +kernel
theorem dX12_stockingTold_82 : decode cX12_stockingTold 82 = .ok (.aload_n 0, 1) := by decide +kernel
theorem dX12_stockingTold_83 : decode cX12_stockingTold 83 = .ok (.getfield 19, 3) := by decide +kernel
theorem dX12_stockingTold_86 : decode cX12_stockingTold 86 = .ok (.iload_n 1, 1) := by decide +kernel
theorem dX12_stockingTold_87 : decode cX12_stockingTold 87 = .ok (.iload_n 2, 1) := by decide +kernel
theorem dX12_stockingTold_88 : decode cX12_stockingTold 88 = .ok (.iload_n 3, 1) := by decide +kernel
theorem dX12_stockingTold_89 : decode cX12_stockingTold 89 = .ok (.iload 4, 2) := by decide +kernel
theorem dX12_stockingTold_91 : decode cX12_stockingTold 91 = .ok (.invokestatic 95, 3) := by decide +kernel
theorem dX12_stockingTold_94 : decode cX12_stockingTold 94 = .ok (.imul, 1) := by decide +kernel
theorem dX12_stockingTold_95 : decode cX12_stockingTold 95 = .ok (.iadd, 1) := by decide +kernel
theorem dX12_stockingTold_96 : decode cX12_stockingTold 96 = .ok (.istore 5, 2) := by decide +kernel
theorem dX12_stockingTold_98 : decode cX12_stockingTold 98 = .ok (.aload_n 0, 1) := by decide +kernel
theorem dX12_stockingTold_99 : decode cX12_stockingTold 99 = .ok (.ldc_w 353, 3) := by decide +kernel
theorem dX12_stockingTold_102 : decode cX12_stockingTold 102 = .ok (.invokevirtual 354, 3) := by decide +kernel
theorem dX12_stockingTold_105 : decode cX12_stockingTold 105 = .ok (.ifCond .eq 49, 3) := by decide +kernel
theorem dX12_stockingTold_108 : decode cX12_stockingTold 108 = .ok (.aload_n 0, 1) := by decide +kernel
theorem dX12_stockingTold_109 : decode cX12_stockingTold 109 = .ok (.iconst 0, 1) := by decide +kernel
theorem dX12_stockingTold_110 : decode cX12_stockingTold 110 = .ok (.bipush 99, 2) := by decide +kernel
theorem dX12_stockingTold_112 : decode cX12_stockingTold 112 = .ok (.invokevirtual 343, 3) := by decide +kernel
theorem dX12_stockingTold_115 : decode cX12_stockingTold 115 = .ok (.istore 6, 2) := by decide +kernel
theorem dX12_stockingTold_117 : decode cX12_stockingTold 117 = .ok (.aload_n 0, 1) := by decide +kernel
theorem dX12_stockingTold_118 : decode cX12_stockingTold 118 = .ok (.ldc_w 357, 3) := by decide +kernel
theorem dX12_stockingTold_121 : decode cX12_stockingTold 121 = .ok (.invokevirtual 347, 3) := by decide +kernel
theorem dX12_stockingTold_124 : decode cX12_stockingTold 124 = .ok (.aload_n 0, 1) := by decide +kernel
theorem dX12_stockingTold_125 : decode cX12_stockingTold 125 = .ok (.getfield 19, 3) := by decide +kernel
theorem dX12_stockingTold_128 : decode cX12_stockingTold 128 = .ok (.iload 5, 2) := by decide +kernel
theorem dX12_stockingTold_130 : decode cX12_stockingTold 130 = .ok (.bipush 6, 2) := by decide +kernel
theorem dX12_stockingTold_132 : decode cX12_stockingTold 132 = .ok (.iadd, 1) := by decide +kernel
theorem dX12_stockingTold_133 : decode cX12_stockingTold 133 = .ok (.iload 6, 2) := by decide +kernel
theorem dX12_stockingTold_135 : decode cX12_stockingTold 135 = .ok (.iastore, 1) := by decide +kernel
theorem dX12_stockingTold_136 : decode cX12_stockingTold 136 = .ok (.aload_n 0, 1) := by decide +kernel
theorem dX12_stockingTold_137 : decode cX12_stockingTold 137 = .ok (.getfield 19, 3) := by decide +kernel
theorem dX12_stockingTold_140 : decode cX12_stockingTold 140 = .ok (.iload 5, 2) := by decide +kernel
theorem dX12_stockingTold_142 : decode cX12_stockingTold 142 = .ok (.bipush 7, 2) := by decide +kernel
theorem dX12_stockingTold_144 : decode cX12_stockingTold 144 = .ok (.iadd, 1) := by decide +kernel
theorem dX12_stockingTold_145 : decode cX12_stockingTold 145 = .ok (.aload_n 0, 1) := by decide +kernel
theorem dX12_stockingTold_146 : decode cX12_stockingTold 146 = .ok (.iload 6, 2) := by decide +kernel
theorem dX12_stockingTold_148 : decode cX12_stockingTold 148 = .ok (.bipush 99, 2) := by decide +kernel
theorem dX12_stockingTold_150 : decode cX12_stockingTold 150 = .ok (.invokevirtual 343, 3) := by decide +kernel
theorem dX12_stockingTold_153 : decode cX12_stockingTold 153 = .ok (.iastore, 1) := by decide +kernel
theorem dX12_stockingTold_154 : decode cX12_stockingTold 154 = .ok (.return_, 1) := by decide +kernel
theorem fg_X12_19_15 : FdG "NylonLadderModel" 19 15 3 true := ⟨_, _, _, _, rfl, by decide, by decide, by decide, gxX12, by decide, T_6_52, Or.inl rfl, rfl⟩
theorem hd_X12_number : yX12_number.cls ≠ "java/lang/invoke/MethodHandle" ∧ yX12_number.cls ≠ "java/lang/invoke/VarHandle" ∧ (parseMethodDescriptor yX12_number.desc).map (fun d => d.parameters.length) = some 2 := by decide +kernel
theorem gv_X12_343 : GoodIn gT (wsV "NylonLadderModel" 343 "NylonLadderModel" yX12_number (Cond.code yX12_number cX12_number 4 (some .int) :: gT)) := good_V T_8_54 T_8_56 TS_81 T_1_10 T_8_57
theorem hd_X12_wants : yX12_wants.cls ≠ "java/lang/invoke/MethodHandle" ∧ yX12_wants.cls ≠ "java/lang/invoke/VarHandle" ∧ (parseMethodDescriptor yX12_wants.desc).map (fun d => d.parameters.length) = some 1 := by decide +kernel
theorem gv_X12_347 : GoodIn gT (wsV "NylonLadderModel" 347 "NylonLadderModel" yX12_wants (Cond.code yX12_wants cX12_wants 2 none :: gT)) := good_V T_8_63 T_8_65 TS_83 T_1_10 T_8_66
theorem hd_X12_takes : yX12_takes.cls ≠ "java/lang/invoke/MethodHandle" ∧ yX12_takes.cls ≠ "java/lang/invoke/VarHandle" ∧ (parseMethodDescriptor yX12_takes.desc).map (fun d => d.parameters.length) = some 1 := by decide +kernel
theorem gv_X12_354 : GoodIn gT (wsV "NylonLadderModel" 354 "NylonLadderModel" yX12_takes (Cond.code yX12_takes cX12_takes 3 (some .boolean) :: gT)) := good_V T_8_69 T_8_71 TS_84 T_1_10 T_8_72
def fX12_stockingTold (M : Mm) (o : Nat) (p1 : Int32) : Option Mm :=
  B1 (rdN M o 15 3) fun a2_1 =>
  B1 (alI M a2_1 0) fun x6_2 =>
  if x6_2 = 8 then
    B1 (wrZ M o 15 9 1) fun M17_39 =>
    B1 (rdI M17_39 o 15 9) fun x21_40 =>
    if x21_40 = 0 then
      B1 (gk M17_39 o 15) fun _ =>
      B1 (fX12_next M17_39 o) fun M29_42 =>
      B1 (gk M29_42 o 15) fun _ =>
      B2 (fX12_number M29_42 o 0 9) fun x36_44 M36_45 =>
      B1 (gk M36_45 o 15) fun _ =>
      B1 (fX12_wants M36_45 o 16) fun M44_47 =>
      B1 (gk M44_47 o 15) fun _ =>
      B2 (fX12_number M44_47 o 0 3) fun x50_49 M50_50 =>
      B1 (gk M50_50 o 15) fun _ =>
      B1 (fX12_wants M50_50 o 17) fun M58_52 =>
      B1 (gk M58_52 o 15) fun _ =>
      B2 (fX12_number M58_52 o 1 30) fun x65_54 M65_55 =>
      B1 (rdI M65_55 o 15 9) fun x71_56 =>
      if x71_56 = 0 then
        B1 (rdN M65_55 o 15 3) fun a83_57 =>
        B2 (fX12_comes M65_55 a83_57 p1 x36_44 x50_49 x65_54) fun x91_58 M91_59 =>
        B1 (gk M91_59 o 15) fun _ =>
        B2 (fX12_takes M91_59 o 18) fun x102_61 M102_62 =>
        if x102_61 = 0 then
          some M102_62
        else
          B1 (gk M102_62 o 15) fun _ =>
          B2 (fX12_number M102_62 o 0 99) fun x112_64 M112_65 =>
          B1 (gk M112_65 o 15) fun _ =>
          B1 (fX12_wants M112_65 o 19) fun M121_67 =>
          B1 (rdN M121_67 o 15 3) fun a125_68 =>
          B1 (asI M121_67 a125_68 ((54 + (13 * x91_58)) + 6) x112_64) fun M135_69 =>
          B1 (rdN M135_69 o 15 3) fun a137_70 =>
          B1 (gk M135_69 o 15) fun _ =>
          B2 (fX12_number M135_69 o x112_64 99) fun x150_72 M150_73 =>
          B1 (asI M150_73 a137_70 ((54 + (13 * x91_58)) + 7) x150_72) fun M153_74 =>
          some M153_74
      else
        some M65_55
    else
      some M17_39
  else
    B1 (wrZ M o 15 9 0) fun M17_3 =>
    B1 (rdI M17_3 o 15 9) fun x21_4 =>
    if x21_4 = 0 then
      B1 (gk M17_3 o 15) fun _ =>
      B1 (fX12_next M17_3 o) fun M29_6 =>
      B1 (gk M29_6 o 15) fun _ =>
      B2 (fX12_number M29_6 o 0 9) fun x36_8 M36_9 =>
      B1 (gk M36_9 o 15) fun _ =>
      B1 (fX12_wants M36_9 o 16) fun M44_11 =>
      B1 (gk M44_11 o 15) fun _ =>
      B2 (fX12_number M44_11 o 0 3) fun x50_13 M50_14 =>
      B1 (gk M50_14 o 15) fun _ =>
      B1 (fX12_wants M50_14 o 17) fun M58_16 =>
      B1 (gk M58_16 o 15) fun _ =>
      B2 (fX12_number M58_16 o 1 30) fun x65_18 M65_19 =>
      B1 (rdI M65_19 o 15 9) fun x71_20 =>
      if x71_20 = 0 then
        B1 (rdN M65_19 o 15 3) fun a83_21 =>
        B2 (fX12_comes M65_19 a83_21 p1 x36_8 x50_13 x65_18) fun x91_22 M91_23 =>
        B1 (gk M91_23 o 15) fun _ =>
        B2 (fX12_takes M91_23 o 18) fun x102_25 M102_26 =>
        if x102_25 = 0 then
          some M102_26
        else
          B1 (gk M102_26 o 15) fun _ =>
          B2 (fX12_number M102_26 o 0 99) fun x112_28 M112_29 =>
          B1 (gk M112_29 o 15) fun _ =>
          B1 (fX12_wants M112_29 o 19) fun M121_31 =>
          B1 (rdN M121_31 o 15 3) fun a125_32 =>
          B1 (asI M121_31 a125_32 ((54 + (13 * x91_22)) + 6) x112_28) fun M135_33 =>
          B1 (rdN M135_33 o 15 3) fun a137_34 =>
          B1 (gk M135_33 o 15) fun _ =>
          B2 (fX12_number M135_33 o x112_28 99) fun x150_36 M150_37 =>
          B1 (asI M150_37 a137_34 ((54 + (13 * x91_22)) + 7) x150_36) fun M153_38 =>
          some M153_38
      else
        some M65_19
    else
      some M17_3
set_option maxRecDepth 100000 in
set_option maxHeartbeats 4000000 in
theorem qX12_stockingTold (l : Launch) (E : Ev) {M : Mm} {o : Nat} {p1 : Int32} {Mz : Mm} (hf : fX12_stockingTold M o p1 = some Mz) : Ct l E yX12_stockingTold cX12_stockingTold 7 none 6 130 0 0 [.ref (E.b + o), .int p1] M none Mz := by
  refine ct_of (by decide +kernel) (Nat.le_of_ble_eq_true rfl) fun p e s m args below meth c C hr hin hW ls hl => ?_
  have hl : lv_has ls 7 [(0, .ref (E.b + o)), (1, .int p1)] := hl
  unfold fX12_stockingTold at hf
  refine lv_aload_n C.x C.b dX12_stockingTold_0 rfl (lv_at hl 0 rfl) ?_
  refine lv_aload_n C.x C.b dX12_stockingTold_1 rfl (lv_at hl 0 rfl) ?_
  replace hf := x_b1 hf; obtain ⟨a2_1, ha2_1, hf⟩ := hf
  refine x_getn C hW fg_X12_19_15 ha2_1 dX12_stockingTold_2 ?_
  refine lv_iconst (v := 0) C.x C.b dX12_stockingTold_5 (by decide) ?_
  replace hf := x_b1 hf; obtain ⟨x6_2, hx6_2, hf⟩ := hf
  refine x_iald C hW hx6_2 dX12_stockingTold_6 ?_
  refine lv_bipush (v := 8) C.x C.b dX12_stockingTold_7 (by decide) ?_
  refine lv_icmp_ne (tgt := 16) C.x C.b dX12_stockingTold_9 rfl (fun c9 => ?_) (fun c9 => ?_)
  · replace hf := x_in c9 hf
    refine lv_iconst (v := 0) C.x C.b dX12_stockingTold_16 (by decide) ?_
    replace hf := x_b1 hf; obtain ⟨M17_3, hM17_3, hf⟩ := hf
    refine x_putz C hW fp_X12_296_15 hM17_3 (fun h => by cases h) dX12_stockingTold_17 (fun H locs hW => ?_)
    refine lv_aload_n C.x C.b dX12_stockingTold_20 rfl (lv_at hl 0 rfl) ?_
    replace hf := x_b1 hf; obtain ⟨x21_4, hx21_4, hf⟩ := hf
    refine x_geti C hW fg_X12_296_15 hx21_4 dX12_stockingTold_21 ?_
    refine lv_if_eq (tgt := 28) C.x C.b dX12_stockingTold_24 rfl (fun c24 => ?_) (fun c24 => ?_)
    · replace hf := x_ip c24 hf
      refine lv_aload_n C.x C.b dX12_stockingTold_28 rfl (lv_at hl 0 rfl) ?_
      replace hf := x_b1 hf; obtain ⟨_, hk29_5, hf⟩ := hf
      replace hf := x_b1 hf; obtain ⟨M29_6, hM29_6, hf⟩ := hf
      refine x_callV (As := []) (a := o) (rest := []) C hW hl (qX12_next l E hM29_6) (x_gk hk29_5) (by decide) (by decide) rfl gv_X12_313 ⟨rfl, hd_X12_next⟩ rfl rfl (Nat.le_of_ble_eq_true rfl) dX12_stockingTold_29 ⟨Nat.le_of_ble_eq_true rfl, Nat.le_of_ble_eq_true rfl⟩ ⟨Nat.le_of_ble_eq_true rfl, Nat.le_of_ble_eq_true rfl⟩ (fun H locs hW => ?_)
      refine lv_aload_n C.x C.b dX12_stockingTold_32 rfl (lv_at hl 0 rfl) ?_
      refine lv_iconst (v := 0) C.x C.b dX12_stockingTold_33 (by decide) ?_
      refine lv_bipush (v := 9) C.x C.b dX12_stockingTold_34 (by decide) ?_
      replace hf := x_b1 hf; obtain ⟨_, hk36_7, hf⟩ := hf
      replace hf := x_b2 hf; obtain ⟨x36_8, M36_9, hx36_8, hf⟩ := hf
      refine x_callV (As := [.int 0, .int 9]) (a := o) (rest := []) C hW hl (qX12_number l E hx36_8) (x_gk hk36_7) (by decide) (by decide) rfl gv_X12_343 ⟨rfl, hd_X12_number⟩ rfl rfl (Nat.le_of_ble_eq_true rfl) dX12_stockingTold_36 ⟨Nat.le_of_ble_eq_true rfl, Nat.le_of_ble_eq_true rfl⟩ ⟨Nat.le_of_ble_eq_true rfl, Nat.le_of_ble_eq_true rfl⟩ (fun H locs hW => ?_)
      refine lv_istore_n (lv' := [(2, .int _), (0, .ref (E.b + _)), (1, .int _)]) C.x C.b dX12_stockingTold_39 rfl hl (by decide) rfl (fun ls hl => ?_)
      refine lv_aload_n C.x C.b dX12_stockingTold_40 rfl (lv_at hl 1 rfl) ?_
      refine x_ldcSW (q := 16) (tx := "shade") C (by decide +kernel) dX12_stockingTold_41 ?_
      replace hf := x_b1 hf; obtain ⟨_, hk44_10, hf⟩ := hf
      replace hf := x_b1 hf; obtain ⟨M44_11, hM44_11, hf⟩ := hf
      refine x_callV (As := [.ref (E.x (100 + 16))]) (a := o) (rest := []) C hW hl (qX12_wants l E hM44_11) (x_gk hk44_10) (by decide) (by decide) rfl gv_X12_347 ⟨rfl, hd_X12_wants⟩ rfl rfl (Nat.le_of_ble_eq_true rfl) dX12_stockingTold_44 ⟨Nat.le_of_ble_eq_true rfl, Nat.le_of_ble_eq_true rfl⟩ ⟨Nat.le_of_ble_eq_true rfl, Nat.le_of_ble_eq_true rfl⟩ (fun H locs hW => ?_)
      refine lv_aload_n C.x C.b dX12_stockingTold_47 rfl (lv_at hl 1 rfl) ?_
      refine lv_iconst (v := 0) C.x C.b dX12_stockingTold_48 (by decide) ?_
      refine lv_iconst (v := 3) C.x C.b dX12_stockingTold_49 (by decide) ?_
      replace hf := x_b1 hf; obtain ⟨_, hk50_12, hf⟩ := hf
      replace hf := x_b2 hf; obtain ⟨x50_13, M50_14, hx50_13, hf⟩ := hf
      refine x_callV (As := [.int 0, .int 3]) (a := o) (rest := []) C hW hl (qX12_number l E hx50_13) (x_gk hk50_12) (by decide) (by decide) rfl gv_X12_343 ⟨rfl, hd_X12_number⟩ rfl rfl (Nat.le_of_ble_eq_true rfl) dX12_stockingTold_50 ⟨Nat.le_of_ble_eq_true rfl, Nat.le_of_ble_eq_true rfl⟩ ⟨Nat.le_of_ble_eq_true rfl, Nat.le_of_ble_eq_true rfl⟩ (fun H locs hW => ?_)
      refine lv_istore_n (lv' := [(3, .int _), (2, .int _), (0, .ref (E.b + _)), (1, .int _)]) C.x C.b dX12_stockingTold_53 rfl hl (by decide) rfl (fun ls hl => ?_)
      refine lv_aload_n C.x C.b dX12_stockingTold_54 rfl (lv_at hl 2 rfl) ?_
      refine x_ldcSW (q := 17) (tx := "lasts") C (by decide +kernel) dX12_stockingTold_55 ?_
      replace hf := x_b1 hf; obtain ⟨_, hk58_15, hf⟩ := hf
      replace hf := x_b1 hf; obtain ⟨M58_16, hM58_16, hf⟩ := hf
      refine x_callV (As := [.ref (E.x (100 + 17))]) (a := o) (rest := []) C hW hl (qX12_wants l E hM58_16) (x_gk hk58_15) (by decide) (by decide) rfl gv_X12_347 ⟨rfl, hd_X12_wants⟩ rfl rfl (Nat.le_of_ble_eq_true rfl) dX12_stockingTold_58 ⟨Nat.le_of_ble_eq_true rfl, Nat.le_of_ble_eq_true rfl⟩ ⟨Nat.le_of_ble_eq_true rfl, Nat.le_of_ble_eq_true rfl⟩ (fun H locs hW => ?_)
      refine lv_aload_n C.x C.b dX12_stockingTold_61 rfl (lv_at hl 2 rfl) ?_
      refine lv_iconst (v := 1) C.x C.b dX12_stockingTold_62 (by decide) ?_
      refine lv_bipush (v := 30) C.x C.b dX12_stockingTold_63 (by decide) ?_
      replace hf := x_b1 hf; obtain ⟨_, hk65_17, hf⟩ := hf
      replace hf := x_b2 hf; obtain ⟨x65_18, M65_19, hx65_18, hf⟩ := hf
      refine x_callV (As := [.int 1, .int 30]) (a := o) (rest := []) C hW hl (qX12_number l E hx65_18) (x_gk hk65_17) (by decide) (by decide) rfl gv_X12_343 ⟨rfl, hd_X12_number⟩ rfl rfl (Nat.le_of_ble_eq_true rfl) dX12_stockingTold_65 ⟨Nat.le_of_ble_eq_true rfl, Nat.le_of_ble_eq_true rfl⟩ ⟨Nat.le_of_ble_eq_true rfl, Nat.le_of_ble_eq_true rfl⟩ (fun H locs hW => ?_)
      refine lv_istore (lv' := [(4, .int _), (3, .int _), (2, .int _), (0, .ref (E.b + _)), (1, .int _)]) C.x C.b dX12_stockingTold_68 hl (by decide) rfl (fun ls hl => ?_)
      refine lv_aload_n C.x C.b dX12_stockingTold_70 rfl (lv_at hl 3 rfl) ?_
      replace hf := x_b1 hf; obtain ⟨x71_20, hx71_20, hf⟩ := hf
      refine x_geti C hW fg_X12_296_15 hx71_20 dX12_stockingTold_71 ?_
      refine lv_if_eq (tgt := 78) C.x C.b dX12_stockingTold_74 rfl (fun c74 => ?_) (fun c74 => ?_)
      · replace hf := x_ip c74 hf
        refine lv_bipush (v := 54) C.x C.b dX12_stockingTold_78 (by decide) ?_
        refine lv_bipush (v := 13) C.x C.b dX12_stockingTold_80 (by decide) ?_
        refine lv_aload_n C.x C.b dX12_stockingTold_82 rfl (lv_at hl 3 rfl) ?_
        replace hf := x_b1 hf; obtain ⟨a83_21, ha83_21, hf⟩ := hf
        refine x_getn C hW fg_X12_19_15 ha83_21 dX12_stockingTold_83 ?_
        refine lv_iload_n C.x C.b dX12_stockingTold_86 rfl (lv_at hl 4 rfl) ?_
        refine lv_iload_n C.x C.b dX12_stockingTold_87 rfl (lv_at hl 2 rfl) ?_
        refine lv_iload_n C.x C.b dX12_stockingTold_88 rfl (lv_at hl 1 rfl) ?_
        refine lv_iload C.x C.b dX12_stockingTold_89 (lv_at hl 0 rfl) ?_
        replace hf := x_b2 hf; obtain ⟨x91_22, M91_23, hx91_22, hf⟩ := hf
        refine x_callS (As := [.ref (E.b + a83_21), .int p1, .int x36_8, .int x50_13, .int x65_18]) (rest := [.int 13, .int 54]) C hW hl (qX12_comes l E hx91_22) gs_X12_95 hd_X12_comes rfl rfl (Nat.le_of_ble_eq_true rfl) dX12_stockingTold_91 ⟨Nat.le_of_ble_eq_true rfl, Nat.le_of_ble_eq_true rfl⟩ ⟨Nat.le_of_ble_eq_true rfl, Nat.le_of_ble_eq_true rfl⟩ (fun H locs hW => ?_)
        refine lv_imul C.x C.b dX12_stockingTold_94 ?_
        refine lv_iadd C.x C.b dX12_stockingTold_95 ?_
        refine lv_istore (lv' := [(5, .int _), (4, .int _), (3, .int _), (2, .int _), (0, .ref (E.b + _)), (1, .int _)]) C.x C.b dX12_stockingTold_96 hl (by decide) rfl (fun ls hl => ?_)
        refine lv_aload_n C.x C.b dX12_stockingTold_98 rfl (lv_at hl 4 rfl) ?_
        refine x_ldcSW (q := 18) (tx := "ladder") C (by decide +kernel) dX12_stockingTold_99 ?_
        replace hf := x_b1 hf; obtain ⟨_, hk102_24, hf⟩ := hf
        replace hf := x_b2 hf; obtain ⟨x102_25, M102_26, hx102_25, hf⟩ := hf
        refine x_callV (As := [.ref (E.x (100 + 18))]) (a := o) (rest := []) C hW hl (qX12_takes l E hx102_25) (x_gk hk102_24) (by decide) (by decide) rfl gv_X12_354 ⟨rfl, hd_X12_takes⟩ rfl rfl (Nat.le_of_ble_eq_true rfl) dX12_stockingTold_102 ⟨Nat.le_of_ble_eq_true rfl, Nat.le_of_ble_eq_true rfl⟩ ⟨Nat.le_of_ble_eq_true rfl, Nat.le_of_ble_eq_true rfl⟩ (fun H locs hW => ?_)
        refine lv_if_eq (tgt := 154) C.x C.b dX12_stockingTold_105 rfl (fun c105 => ?_) (fun c105 => ?_)
        · replace hf := x_ip c105 hf
          rw [x_e0 hf]
          exact x_vret C hr hW dX12_stockingTold_154
        · replace hf := x_in c105 hf
          refine lv_aload_n C.x C.b dX12_stockingTold_108 rfl (lv_at hl 4 rfl) ?_
          refine lv_iconst (v := 0) C.x C.b dX12_stockingTold_109 (by decide) ?_
          refine lv_bipush (v := 99) C.x C.b dX12_stockingTold_110 (by decide) ?_
          replace hf := x_b1 hf; obtain ⟨_, hk112_27, hf⟩ := hf
          replace hf := x_b2 hf; obtain ⟨x112_28, M112_29, hx112_28, hf⟩ := hf
          refine x_callV (As := [.int 0, .int 99]) (a := o) (rest := []) C hW hl (qX12_number l E hx112_28) (x_gk hk112_27) (by decide) (by decide) rfl gv_X12_343 ⟨rfl, hd_X12_number⟩ rfl rfl (Nat.le_of_ble_eq_true rfl) dX12_stockingTold_112 ⟨Nat.le_of_ble_eq_true rfl, Nat.le_of_ble_eq_true rfl⟩ ⟨Nat.le_of_ble_eq_true rfl, Nat.le_of_ble_eq_true rfl⟩ (fun H locs hW => ?_)
          refine lv_istore (lv' := [(6, .int _), (5, .int _), (4, .int _), (3, .int _), (2, .int _), (0, .ref (E.b + _)), (1, .int _)]) C.x C.b dX12_stockingTold_115 hl (by decide) rfl (fun ls hl => ?_)
          refine lv_aload_n C.x C.b dX12_stockingTold_117 rfl (lv_at hl 5 rfl) ?_
          refine x_ldcSW (q := 19) (tx := "to") C (by decide +kernel) dX12_stockingTold_118 ?_
          replace hf := x_b1 hf; obtain ⟨_, hk121_30, hf⟩ := hf
          replace hf := x_b1 hf; obtain ⟨M121_31, hM121_31, hf⟩ := hf
          refine x_callV (As := [.ref (E.x (100 + 19))]) (a := o) (rest := []) C hW hl (qX12_wants l E hM121_31) (x_gk hk121_30) (by decide) (by decide) rfl gv_X12_347 ⟨rfl, hd_X12_wants⟩ rfl rfl (Nat.le_of_ble_eq_true rfl) dX12_stockingTold_121 ⟨Nat.le_of_ble_eq_true rfl, Nat.le_of_ble_eq_true rfl⟩ ⟨Nat.le_of_ble_eq_true rfl, Nat.le_of_ble_eq_true rfl⟩ (fun H locs hW => ?_)
          refine lv_aload_n C.x C.b dX12_stockingTold_124 rfl (lv_at hl 5 rfl) ?_
          replace hf := x_b1 hf; obtain ⟨a125_32, ha125_32, hf⟩ := hf
          refine x_getn C hW fg_X12_19_15 ha125_32 dX12_stockingTold_125 ?_
          refine lv_iload C.x C.b dX12_stockingTold_128 (lv_at hl 1 rfl) ?_
          refine lv_bipush (v := 6) C.x C.b dX12_stockingTold_130 (by decide) ?_
          refine lv_iadd C.x C.b dX12_stockingTold_132 ?_
          refine lv_iload C.x C.b dX12_stockingTold_133 (lv_at hl 0 rfl) ?_
          replace hf := x_b1 hf; obtain ⟨M135_33, hM135_33, hf⟩ := hf
          refine x_iast C hW hM135_33 dX12_stockingTold_135 (fun H locs hW => ?_)
          refine lv_aload_n C.x C.b dX12_stockingTold_136 rfl (lv_at hl 5 rfl) ?_
          replace hf := x_b1 hf; obtain ⟨a137_34, ha137_34, hf⟩ := hf
          refine x_getn C hW fg_X12_19_15 ha137_34 dX12_stockingTold_137 ?_
          refine lv_iload C.x C.b dX12_stockingTold_140 (lv_at hl 1 rfl) ?_
          refine lv_bipush (v := 7) C.x C.b dX12_stockingTold_142 (by decide) ?_
          refine lv_iadd C.x C.b dX12_stockingTold_144 ?_
          refine lv_aload_n C.x C.b dX12_stockingTold_145 rfl (lv_at hl 5 rfl) ?_
          refine lv_iload C.x C.b dX12_stockingTold_146 (lv_at hl 0 rfl) ?_
          refine lv_bipush (v := 99) C.x C.b dX12_stockingTold_148 (by decide) ?_
          replace hf := x_b1 hf; obtain ⟨_, hk150_35, hf⟩ := hf
          replace hf := x_b2 hf; obtain ⟨x150_36, M150_37, hx150_36, hf⟩ := hf
          refine x_callV (As := [.int x112_28, .int 99]) (a := o) (rest := [.int ((54 + (13 * x91_22)) + 7), .ref (E.b + a137_34)]) C hW hl (qX12_number l E hx150_36) (x_gk hk150_35) (by decide) (by decide) rfl gv_X12_343 ⟨rfl, hd_X12_number⟩ rfl rfl (Nat.le_of_ble_eq_true rfl) dX12_stockingTold_150 ⟨Nat.le_of_ble_eq_true rfl, Nat.le_of_ble_eq_true rfl⟩ ⟨Nat.le_of_ble_eq_true rfl, Nat.le_of_ble_eq_true rfl⟩ (fun H locs hW => ?_)
          replace hf := x_b1 hf; obtain ⟨M153_38, hM153_38, hf⟩ := hf
          refine x_iast C hW hM153_38 dX12_stockingTold_153 (fun H locs hW => ?_)
          rw [x_e0 hf]
          exact x_vret C hr hW dX12_stockingTold_154
      · replace hf := x_in c74 hf
        rw [x_e0 hf]
        exact x_vret C hr hW dX12_stockingTold_77
    · replace hf := x_in c24 hf
      rw [x_e0 hf]
      exact x_vret C hr hW dX12_stockingTold_27
  · replace hf := x_ip c9 hf
    refine lv_iconst (v := 1) C.x C.b dX12_stockingTold_12 (by decide) ?_
    refine lv_goto (tgt := 17) C.x C.b dX12_stockingTold_13 rfl ?_
    replace hf := x_b1 hf; obtain ⟨M17_39, hM17_39, hf⟩ := hf
    refine x_putz C hW fp_X12_296_15 hM17_39 (fun h => by cases h) dX12_stockingTold_17 (fun H locs hW => ?_)
    refine lv_aload_n C.x C.b dX12_stockingTold_20 rfl (lv_at hl 0 rfl) ?_
    replace hf := x_b1 hf; obtain ⟨x21_40, hx21_40, hf⟩ := hf
    refine x_geti C hW fg_X12_296_15 hx21_40 dX12_stockingTold_21 ?_
    refine lv_if_eq (tgt := 28) C.x C.b dX12_stockingTold_24 rfl (fun c24 => ?_) (fun c24 => ?_)
    · replace hf := x_ip c24 hf
      refine lv_aload_n C.x C.b dX12_stockingTold_28 rfl (lv_at hl 0 rfl) ?_
      replace hf := x_b1 hf; obtain ⟨_, hk29_41, hf⟩ := hf
      replace hf := x_b1 hf; obtain ⟨M29_42, hM29_42, hf⟩ := hf
      refine x_callV (As := []) (a := o) (rest := []) C hW hl (qX12_next l E hM29_42) (x_gk hk29_41) (by decide) (by decide) rfl gv_X12_313 ⟨rfl, hd_X12_next⟩ rfl rfl (Nat.le_of_ble_eq_true rfl) dX12_stockingTold_29 ⟨Nat.le_of_ble_eq_true rfl, Nat.le_of_ble_eq_true rfl⟩ ⟨Nat.le_of_ble_eq_true rfl, Nat.le_of_ble_eq_true rfl⟩ (fun H locs hW => ?_)
      refine lv_aload_n C.x C.b dX12_stockingTold_32 rfl (lv_at hl 0 rfl) ?_
      refine lv_iconst (v := 0) C.x C.b dX12_stockingTold_33 (by decide) ?_
      refine lv_bipush (v := 9) C.x C.b dX12_stockingTold_34 (by decide) ?_
      replace hf := x_b1 hf; obtain ⟨_, hk36_43, hf⟩ := hf
      replace hf := x_b2 hf; obtain ⟨x36_44, M36_45, hx36_44, hf⟩ := hf
      refine x_callV (As := [.int 0, .int 9]) (a := o) (rest := []) C hW hl (qX12_number l E hx36_44) (x_gk hk36_43) (by decide) (by decide) rfl gv_X12_343 ⟨rfl, hd_X12_number⟩ rfl rfl (Nat.le_of_ble_eq_true rfl) dX12_stockingTold_36 ⟨Nat.le_of_ble_eq_true rfl, Nat.le_of_ble_eq_true rfl⟩ ⟨Nat.le_of_ble_eq_true rfl, Nat.le_of_ble_eq_true rfl⟩ (fun H locs hW => ?_)
      refine lv_istore_n (lv' := [(2, .int _), (0, .ref (E.b + _)), (1, .int _)]) C.x C.b dX12_stockingTold_39 rfl hl (by decide) rfl (fun ls hl => ?_)
      refine lv_aload_n C.x C.b dX12_stockingTold_40 rfl (lv_at hl 1 rfl) ?_
      refine x_ldcSW (q := 16) (tx := "shade") C (by decide +kernel) dX12_stockingTold_41 ?_
      replace hf := x_b1 hf; obtain ⟨_, hk44_46, hf⟩ := hf
      replace hf := x_b1 hf; obtain ⟨M44_47, hM44_47, hf⟩ := hf
      refine x_callV (As := [.ref (E.x (100 + 16))]) (a := o) (rest := []) C hW hl (qX12_wants l E hM44_47) (x_gk hk44_46) (by decide) (by decide) rfl gv_X12_347 ⟨rfl, hd_X12_wants⟩ rfl rfl (Nat.le_of_ble_eq_true rfl) dX12_stockingTold_44 ⟨Nat.le_of_ble_eq_true rfl, Nat.le_of_ble_eq_true rfl⟩ ⟨Nat.le_of_ble_eq_true rfl, Nat.le_of_ble_eq_true rfl⟩ (fun H locs hW => ?_)
      refine lv_aload_n C.x C.b dX12_stockingTold_47 rfl (lv_at hl 1 rfl) ?_
      refine lv_iconst (v := 0) C.x C.b dX12_stockingTold_48 (by decide) ?_
      refine lv_iconst (v := 3) C.x C.b dX12_stockingTold_49 (by decide) ?_
      replace hf := x_b1 hf; obtain ⟨_, hk50_48, hf⟩ := hf
      replace hf := x_b2 hf; obtain ⟨x50_49, M50_50, hx50_49, hf⟩ := hf
      refine x_callV (As := [.int 0, .int 3]) (a := o) (rest := []) C hW hl (qX12_number l E hx50_49) (x_gk hk50_48) (by decide) (by decide) rfl gv_X12_343 ⟨rfl, hd_X12_number⟩ rfl rfl (Nat.le_of_ble_eq_true rfl) dX12_stockingTold_50 ⟨Nat.le_of_ble_eq_true rfl, Nat.le_of_ble_eq_true rfl⟩ ⟨Nat.le_of_ble_eq_true rfl, Nat.le_of_ble_eq_true rfl⟩ (fun H locs hW => ?_)
      refine lv_istore_n (lv' := [(3, .int _), (2, .int _), (0, .ref (E.b + _)), (1, .int _)]) C.x C.b dX12_stockingTold_53 rfl hl (by decide) rfl (fun ls hl => ?_)
      refine lv_aload_n C.x C.b dX12_stockingTold_54 rfl (lv_at hl 2 rfl) ?_
      refine x_ldcSW (q := 17) (tx := "lasts") C (by decide +kernel) dX12_stockingTold_55 ?_
      replace hf := x_b1 hf; obtain ⟨_, hk58_51, hf⟩ := hf
      replace hf := x_b1 hf; obtain ⟨M58_52, hM58_52, hf⟩ := hf
      refine x_callV (As := [.ref (E.x (100 + 17))]) (a := o) (rest := []) C hW hl (qX12_wants l E hM58_52) (x_gk hk58_51) (by decide) (by decide) rfl gv_X12_347 ⟨rfl, hd_X12_wants⟩ rfl rfl (Nat.le_of_ble_eq_true rfl) dX12_stockingTold_58 ⟨Nat.le_of_ble_eq_true rfl, Nat.le_of_ble_eq_true rfl⟩ ⟨Nat.le_of_ble_eq_true rfl, Nat.le_of_ble_eq_true rfl⟩ (fun H locs hW => ?_)
      refine lv_aload_n C.x C.b dX12_stockingTold_61 rfl (lv_at hl 2 rfl) ?_
      refine lv_iconst (v := 1) C.x C.b dX12_stockingTold_62 (by decide) ?_
      refine lv_bipush (v := 30) C.x C.b dX12_stockingTold_63 (by decide) ?_
      replace hf := x_b1 hf; obtain ⟨_, hk65_53, hf⟩ := hf
      replace hf := x_b2 hf; obtain ⟨x65_54, M65_55, hx65_54, hf⟩ := hf
      refine x_callV (As := [.int 1, .int 30]) (a := o) (rest := []) C hW hl (qX12_number l E hx65_54) (x_gk hk65_53) (by decide) (by decide) rfl gv_X12_343 ⟨rfl, hd_X12_number⟩ rfl rfl (Nat.le_of_ble_eq_true rfl) dX12_stockingTold_65 ⟨Nat.le_of_ble_eq_true rfl, Nat.le_of_ble_eq_true rfl⟩ ⟨Nat.le_of_ble_eq_true rfl, Nat.le_of_ble_eq_true rfl⟩ (fun H locs hW => ?_)
      refine lv_istore (lv' := [(4, .int _), (3, .int _), (2, .int _), (0, .ref (E.b + _)), (1, .int _)]) C.x C.b dX12_stockingTold_68 hl (by decide) rfl (fun ls hl => ?_)
      refine lv_aload_n C.x C.b dX12_stockingTold_70 rfl (lv_at hl 3 rfl) ?_
      replace hf := x_b1 hf; obtain ⟨x71_56, hx71_56, hf⟩ := hf
      refine x_geti C hW fg_X12_296_15 hx71_56 dX12_stockingTold_71 ?_
      refine lv_if_eq (tgt := 78) C.x C.b dX12_stockingTold_74 rfl (fun c74 => ?_) (fun c74 => ?_)
      · replace hf := x_ip c74 hf
        refine lv_bipush (v := 54) C.x C.b dX12_stockingTold_78 (by decide) ?_
        refine lv_bipush (v := 13) C.x C.b dX12_stockingTold_80 (by decide) ?_
        refine lv_aload_n C.x C.b dX12_stockingTold_82 rfl (lv_at hl 3 rfl) ?_
        replace hf := x_b1 hf; obtain ⟨a83_57, ha83_57, hf⟩ := hf
        refine x_getn C hW fg_X12_19_15 ha83_57 dX12_stockingTold_83 ?_
        refine lv_iload_n C.x C.b dX12_stockingTold_86 rfl (lv_at hl 4 rfl) ?_
        refine lv_iload_n C.x C.b dX12_stockingTold_87 rfl (lv_at hl 2 rfl) ?_
        refine lv_iload_n C.x C.b dX12_stockingTold_88 rfl (lv_at hl 1 rfl) ?_
        refine lv_iload C.x C.b dX12_stockingTold_89 (lv_at hl 0 rfl) ?_
        replace hf := x_b2 hf; obtain ⟨x91_58, M91_59, hx91_58, hf⟩ := hf
        refine x_callS (As := [.ref (E.b + a83_57), .int p1, .int x36_44, .int x50_49, .int x65_54]) (rest := [.int 13, .int 54]) C hW hl (qX12_comes l E hx91_58) gs_X12_95 hd_X12_comes rfl rfl (Nat.le_of_ble_eq_true rfl) dX12_stockingTold_91 ⟨Nat.le_of_ble_eq_true rfl, Nat.le_of_ble_eq_true rfl⟩ ⟨Nat.le_of_ble_eq_true rfl, Nat.le_of_ble_eq_true rfl⟩ (fun H locs hW => ?_)
        refine lv_imul C.x C.b dX12_stockingTold_94 ?_
        refine lv_iadd C.x C.b dX12_stockingTold_95 ?_
        refine lv_istore (lv' := [(5, .int _), (4, .int _), (3, .int _), (2, .int _), (0, .ref (E.b + _)), (1, .int _)]) C.x C.b dX12_stockingTold_96 hl (by decide) rfl (fun ls hl => ?_)
        refine lv_aload_n C.x C.b dX12_stockingTold_98 rfl (lv_at hl 4 rfl) ?_
        refine x_ldcSW (q := 18) (tx := "ladder") C (by decide +kernel) dX12_stockingTold_99 ?_
        replace hf := x_b1 hf; obtain ⟨_, hk102_60, hf⟩ := hf
        replace hf := x_b2 hf; obtain ⟨x102_61, M102_62, hx102_61, hf⟩ := hf
        refine x_callV (As := [.ref (E.x (100 + 18))]) (a := o) (rest := []) C hW hl (qX12_takes l E hx102_61) (x_gk hk102_60) (by decide) (by decide) rfl gv_X12_354 ⟨rfl, hd_X12_takes⟩ rfl rfl (Nat.le_of_ble_eq_true rfl) dX12_stockingTold_102 ⟨Nat.le_of_ble_eq_true rfl, Nat.le_of_ble_eq_true rfl⟩ ⟨Nat.le_of_ble_eq_true rfl, Nat.le_of_ble_eq_true rfl⟩ (fun H locs hW => ?_)
        refine lv_if_eq (tgt := 154) C.x C.b dX12_stockingTold_105 rfl (fun c105 => ?_) (fun c105 => ?_)
        · replace hf := x_ip c105 hf
          rw [x_e0 hf]
          exact x_vret C hr hW dX12_stockingTold_154
        · replace hf := x_in c105 hf
          refine lv_aload_n C.x C.b dX12_stockingTold_108 rfl (lv_at hl 4 rfl) ?_
          refine lv_iconst (v := 0) C.x C.b dX12_stockingTold_109 (by decide) ?_
          refine lv_bipush (v := 99) C.x C.b dX12_stockingTold_110 (by decide) ?_
          replace hf := x_b1 hf; obtain ⟨_, hk112_63, hf⟩ := hf
          replace hf := x_b2 hf; obtain ⟨x112_64, M112_65, hx112_64, hf⟩ := hf
          refine x_callV (As := [.int 0, .int 99]) (a := o) (rest := []) C hW hl (qX12_number l E hx112_64) (x_gk hk112_63) (by decide) (by decide) rfl gv_X12_343 ⟨rfl, hd_X12_number⟩ rfl rfl (Nat.le_of_ble_eq_true rfl) dX12_stockingTold_112 ⟨Nat.le_of_ble_eq_true rfl, Nat.le_of_ble_eq_true rfl⟩ ⟨Nat.le_of_ble_eq_true rfl, Nat.le_of_ble_eq_true rfl⟩ (fun H locs hW => ?_)
          refine lv_istore (lv' := [(6, .int _), (5, .int _), (4, .int _), (3, .int _), (2, .int _), (0, .ref (E.b + _)), (1, .int _)]) C.x C.b dX12_stockingTold_115 hl (by decide) rfl (fun ls hl => ?_)
          refine lv_aload_n C.x C.b dX12_stockingTold_117 rfl (lv_at hl 5 rfl) ?_
          refine x_ldcSW (q := 19) (tx := "to") C (by decide +kernel) dX12_stockingTold_118 ?_
          replace hf := x_b1 hf; obtain ⟨_, hk121_66, hf⟩ := hf
          replace hf := x_b1 hf; obtain ⟨M121_67, hM121_67, hf⟩ := hf
          refine x_callV (As := [.ref (E.x (100 + 19))]) (a := o) (rest := []) C hW hl (qX12_wants l E hM121_67) (x_gk hk121_66) (by decide) (by decide) rfl gv_X12_347 ⟨rfl, hd_X12_wants⟩ rfl rfl (Nat.le_of_ble_eq_true rfl) dX12_stockingTold_121 ⟨Nat.le_of_ble_eq_true rfl, Nat.le_of_ble_eq_true rfl⟩ ⟨Nat.le_of_ble_eq_true rfl, Nat.le_of_ble_eq_true rfl⟩ (fun H locs hW => ?_)
          refine lv_aload_n C.x C.b dX12_stockingTold_124 rfl (lv_at hl 5 rfl) ?_
          replace hf := x_b1 hf; obtain ⟨a125_68, ha125_68, hf⟩ := hf
          refine x_getn C hW fg_X12_19_15 ha125_68 dX12_stockingTold_125 ?_
          refine lv_iload C.x C.b dX12_stockingTold_128 (lv_at hl 1 rfl) ?_
          refine lv_bipush (v := 6) C.x C.b dX12_stockingTold_130 (by decide) ?_
          refine lv_iadd C.x C.b dX12_stockingTold_132 ?_
          refine lv_iload C.x C.b dX12_stockingTold_133 (lv_at hl 0 rfl) ?_
          replace hf := x_b1 hf; obtain ⟨M135_69, hM135_69, hf⟩ := hf
          refine x_iast C hW hM135_69 dX12_stockingTold_135 (fun H locs hW => ?_)
          refine lv_aload_n C.x C.b dX12_stockingTold_136 rfl (lv_at hl 5 rfl) ?_
          replace hf := x_b1 hf; obtain ⟨a137_70, ha137_70, hf⟩ := hf
          refine x_getn C hW fg_X12_19_15 ha137_70 dX12_stockingTold_137 ?_
          refine lv_iload C.x C.b dX12_stockingTold_140 (lv_at hl 1 rfl) ?_
          refine lv_bipush (v := 7) C.x C.b dX12_stockingTold_142 (by decide) ?_
          refine lv_iadd C.x C.b dX12_stockingTold_144 ?_
          refine lv_aload_n C.x C.b dX12_stockingTold_145 rfl (lv_at hl 5 rfl) ?_
          refine lv_iload C.x C.b dX12_stockingTold_146 (lv_at hl 0 rfl) ?_
          refine lv_bipush (v := 99) C.x C.b dX12_stockingTold_148 (by decide) ?_
          replace hf := x_b1 hf; obtain ⟨_, hk150_71, hf⟩ := hf
          replace hf := x_b2 hf; obtain ⟨x150_72, M150_73, hx150_72, hf⟩ := hf
          refine x_callV (As := [.int x112_64, .int 99]) (a := o) (rest := [.int ((54 + (13 * x91_58)) + 7), .ref (E.b + a137_70)]) C hW hl (qX12_number l E hx150_72) (x_gk hk150_71) (by decide) (by decide) rfl gv_X12_343 ⟨rfl, hd_X12_number⟩ rfl rfl (Nat.le_of_ble_eq_true rfl) dX12_stockingTold_150 ⟨Nat.le_of_ble_eq_true rfl, Nat.le_of_ble_eq_true rfl⟩ ⟨Nat.le_of_ble_eq_true rfl, Nat.le_of_ble_eq_true rfl⟩ (fun H locs hW => ?_)
          replace hf := x_b1 hf; obtain ⟨M153_74, hM153_74, hf⟩ := hf
          refine x_iast C hW hM153_74 dX12_stockingTold_153 (fun H locs hW => ?_)
          rw [x_e0 hf]
          exact x_vret C hr hW dX12_stockingTold_154
      · replace hf := x_in c74 hf
        rw [x_e0 hf]
        exact x_vret C hr hW dX12_stockingTold_77
    · replace hf := x_in c24 hf
      rw [x_e0 hf]
      exact x_vret C hr hW dX12_stockingTold_27

theorem dX12_footTold_0 : decode cX12_footTold 0 = .ok (.aload_n 0, 1) := by decide +kernel
theorem dX12_footTold_1 : decode cX12_footTold 1 = .ok (.invokevirtual 316, 3) := by decide +kernel
theorem dX12_footTold_4 : decode cX12_footTold 4 = .ok (.istore_n 2, 1) := by decide +kernel
theorem dX12_footTold_5 : decode cX12_footTold 5 = .ok (.aload_n 0, 1) := by decide +kernel
theorem dX12_footTold_6 : decode cX12_footTold 6 = .ok (.iload_n 2, 1) := by decide +kernel
theorem dX12_footTold_7 : decode cX12_footTold 7 = .ok (.i2l, 1) := by decide +kernel
theorem dX12_footTold_8 : decode cX12_footTold 8 = .ok (.lconst 0, 1) := by decide +kernel
theorem dX12_footTold_9 : decode cX12_footTold 9 = .ok (.aload_n 0, 1) := by decide +kernel
theorem dX12_footTold_10 : decode cX12_footTold 10 = .ok (.getfield 19, 3) := by decide +kernel
theorem dX12_footTold_13 : decode cX12_footTold 13 = .ok (.iconst 0, 1) := by decide +kernel
theorem dX12_footTold_14 : decode cX12_footTold 14 = .ok (.iaload, 1) := by decide +kernel
theorem dX12_footTold_15 : decode cX12_footTold 15 = .ok (.iconst 1, 1) := by decide +kernel
theorem dX12_footTold_16 : decode cX12_footTold 16 = .ok (.isub, 1) := by decide +kernel
theorem dX12_footTold_17 : decode cX12_footTold 17 = .ok (.i2l, 1) := by decide +kernel
theorem dX12_footTold_18 : decode cX12_footTold 18 = .ok (.invokestatic 61, 3) := by decide +kernel
theorem dX12_footTold_21 : decode cX12_footTold 21 = .ok (.ifCond .eq 23, 3) := by decide +kernel
theorem dX12_footTold_24 : decode cX12_footTold 24 = .ok (.aload_n 0, 1) := by decide +kernel
theorem dX12_footTold_25 : decode cX12_footTold 25 = .ok (.getfield 19, 3) := by decide +kernel
theorem dX12_footTold_28 : decode cX12_footTold 28 = .ok (.iconst 2, 1) := by decide +kernel
theorem dX12_footTold_29 : decode cX12_footTold 29 = .ok (.iaload, 1) := by decide +kernel
theorem dX12_footTold_30 : decode cX12_footTold 30 = .ok (.iload_n 2, 1) := by decide +kernel
theorem dX12_footTold_31 : decode cX12_footTold 31 = .ok (.if_icmp .eq 13, 3) := by decide +kernel
theorem dX12_footTold_34 : decode cX12_footTold 34 = .ok (.aload_n 0, 1) := by decide +kernel
theorem dX12_footTold_35 : decode cX12_footTold 35 = .ok (.getfield 19, 3) := by decide +kernel
theorem dX12_footTold_38 : decode cX12_footTold 38 = .ok (.iconst 3, 1) := by decide +kernel
theorem dX12_footTold_39 : decode cX12_footTold 39 = .ok (.iaload, 1) := by decide +kernel
theorem dX12_footTold_40 : decode cX12_footTold 40 = .ok (.iload_n 2, 1) := by decide +kernel
theorem dX12_footTold_41 : decode cX12_footTold 41 = .ok (.if_icmp .ne 7, 3) := by decide +kernel
theorem dX12_footTold_44 : decode cX12_footTold 44 = .ok (.iconst 1, 1) := by decide +kernel
theorem dX12_footTold_45 : decode cX12_footTold 45 = .ok (.goto 4, 3) := by decide +kernel
theorem dX12_footTold_48 : decode cX12_footTold 48 = .ok (.iconst 0, 1) := by decide +kernel
theorem dX12_footTold_49 : decode cX12_footTold 49 = .ok (.putfield 296, 3) := by decide +kernel
theorem dX12_footTold_52 : decode cX12_footTold 52 = .ok (.aload_n 0, 1) := by decide +kernel
theorem dX12_footTold_53 : decode cX12_footTold 53 = .ok (.getfield 296, 3) := by decide +kernel
theorem dX12_footTold_56 : decode cX12_footTold 56 = .ok (.ifCond .ne 16, 3) := by decide +kernel
theorem dX12_footTold_59 : decode cX12_footTold 59 = .ok (.aload_n 0, 1) := by decide +kernel
theorem dX12_footTold_60 : decode cX12_footTold 60 = .ok (.invokevirtual 313, 3) := by decide +kernel
theorem dX12_footTold_63 : decode cX12_footTold 63 = .ok (.aload_n 0, 1) := by decide +kernel
theorem dX12_footTold_64 : decode cX12_footTold 64 = .ok (.getfield 19, 3) := by decide +kernel
theorem dX12_footTold_67 : decode cX12_footTold 67 = .ok (.iconst 2, 1) := by decide +kernel
theorem dX12_footTold_68 : decode cX12_footTold 68 = .ok (.iload_n 1, 1) := by decide +kernel
theorem dX12_footTold_69 : decode cX12_footTold 69 = .ok (.iadd, 1) := by decide +kernel
theorem dX12_footTold_70 : decode cX12_footTold 70 = .ok (.iload_n 2, 1) := by decide +kernel
theorem dX12_footTold_71 : decode cX12_footTold 71 = .ok (.iastore, 1) := by decide +kernel
theorem dX12_footTold_72 : decode cX12_footTold 72 = .ok (.return_, 1) := by decide +kernel
def fX12_footTold (M : Mm) (o : Nat) (p1 : Int32) : Option Mm :=
  B1 (gk M o 15) fun _ =>
  B1 (fX12_numberHere M o) fun x1_2 =>
  B1 (rdN M o 15 3) fun a10_3 =>
  B1 (alI M a10_3 0) fun x14_4 =>
  B1 (fX12_in M (x1_2.toInt64) 0 ((x14_4 - 1).toInt64)) fun x18_5 =>
  if x18_5 = 0 then
    B1 (wrZ M o 15 9 1) fun M49_6 =>
    B1 (rdI M49_6 o 15 9) fun x53_7 =>
    if x53_7 = 0 then
      B1 (gk M49_6 o 15) fun _ =>
      B1 (fX12_next M49_6 o) fun M60_9 =>
      B1 (rdN M60_9 o 15 3) fun a64_10 =>
      B1 (asI M60_9 a64_10 (2 + p1) x1_2) fun M71_11 =>
      some M71_11
    else
      some M49_6
  else
    B1 (rdN M o 15 3) fun a25_12 =>
    B1 (alI M a25_12 2) fun x29_13 =>
    if x29_13 = x1_2 then
      B1 (wrZ M o 15 9 1) fun M49_14 =>
      B1 (rdI M49_14 o 15 9) fun x53_15 =>
      if x53_15 = 0 then
        B1 (gk M49_14 o 15) fun _ =>
        B1 (fX12_next M49_14 o) fun M60_17 =>
        B1 (rdN M60_17 o 15 3) fun a64_18 =>
        B1 (asI M60_17 a64_18 (2 + p1) x1_2) fun M71_19 =>
        some M71_19
      else
        some M49_14
    else
      B1 (rdN M o 15 3) fun a35_20 =>
      B1 (alI M a35_20 3) fun x39_21 =>
      if x39_21 = x1_2 then
        B1 (wrZ M o 15 9 1) fun M49_28 =>
        B1 (rdI M49_28 o 15 9) fun x53_29 =>
        if x53_29 = 0 then
          B1 (gk M49_28 o 15) fun _ =>
          B1 (fX12_next M49_28 o) fun M60_31 =>
          B1 (rdN M60_31 o 15 3) fun a64_32 =>
          B1 (asI M60_31 a64_32 (2 + p1) x1_2) fun M71_33 =>
          some M71_33
        else
          some M49_28
      else
        B1 (wrZ M o 15 9 0) fun M49_22 =>
        B1 (rdI M49_22 o 15 9) fun x53_23 =>
        if x53_23 = 0 then
          B1 (gk M49_22 o 15) fun _ =>
          B1 (fX12_next M49_22 o) fun M60_25 =>
          B1 (rdN M60_25 o 15 3) fun a64_26 =>
          B1 (asI M60_25 a64_26 (2 + p1) x1_2) fun M71_27 =>
          some M71_27
        else
          some M49_22
set_option maxRecDepth 100000 in
set_option maxHeartbeats 4000000 in
theorem qX12_footTold (l : Launch) (E : Ev) {M : Mm} {o : Nat} {p1 : Int32} {Mz : Mm} (hf : fX12_footTold M o p1 = some Mz) : Ct l E yX12_footTold cX12_footTold 3 none 3 70 0 0 [.ref (E.b + o), .int p1] M none Mz := by
  refine ct_of (by decide +kernel) (Nat.le_of_ble_eq_true rfl) fun p e s m args below meth c C hr hin hW ls hl => ?_
  have hl : lv_has ls 3 [(0, .ref (E.b + o)), (1, .int p1)] := hl
  unfold fX12_footTold at hf
  refine lv_aload_n C.x C.b dX12_footTold_0 rfl (lv_at hl 0 rfl) ?_
  replace hf := x_b1 hf; obtain ⟨_, hk1_1, hf⟩ := hf
  replace hf := x_b1 hf; obtain ⟨x1_2, hx1_2, hf⟩ := hf
  refine x_callV (As := []) (a := o) (rest := []) C hW hl (qX12_numberHere l E hx1_2) (x_gk hk1_1) (by decide) (by decide) rfl gv_X12_316 ⟨rfl, hd_X12_numberHere⟩ rfl rfl (Nat.le_of_ble_eq_true rfl) dX12_footTold_1 ⟨Nat.le_of_ble_eq_true rfl, Nat.le_of_ble_eq_true rfl⟩ ⟨Nat.le_of_ble_eq_true rfl, Nat.le_of_ble_eq_true rfl⟩ (fun H locs hW => ?_)
  refine lv_istore_n (lv' := [(2, .int _), (0, .ref (E.b + _)), (1, .int _)]) C.x C.b dX12_footTold_4 rfl hl (by decide) rfl (fun ls hl => ?_)
  refine lv_aload_n C.x C.b dX12_footTold_5 rfl (lv_at hl 1 rfl) ?_
  refine lv_iload_n C.x C.b dX12_footTold_6 rfl (lv_at hl 0 rfl) ?_
  refine lv_i2l (v := x1_2.toInt64) C.x C.b dX12_footTold_7 rfl ?_
  refine lv_lconst (v := 0) C.x C.b dX12_footTold_8 (by decide) ?_
  refine lv_aload_n C.x C.b dX12_footTold_9 rfl (lv_at hl 1 rfl) ?_
  replace hf := x_b1 hf; obtain ⟨a10_3, ha10_3, hf⟩ := hf
  refine x_getn C hW fg_X12_19_15 ha10_3 dX12_footTold_10 ?_
  refine lv_iconst (v := 0) C.x C.b dX12_footTold_13 (by decide) ?_
  replace hf := x_b1 hf; obtain ⟨x14_4, hx14_4, hf⟩ := hf
  refine x_iald C hW hx14_4 dX12_footTold_14 ?_
  refine lv_iconst (v := 1) C.x C.b dX12_footTold_15 (by decide) ?_
  refine lv_isub C.x C.b dX12_footTold_16 ?_
  refine lv_i2l (v := (x14_4 - 1).toInt64) C.x C.b dX12_footTold_17 rfl ?_
  replace hf := x_b1 hf; obtain ⟨x18_5, hx18_5, hf⟩ := hf
  refine x_callS (As := [.long (x1_2.toInt64), .long 0, .long ((x14_4 - 1).toInt64)]) (rest := [.ref (E.b + o)]) C hW hl (qX12_in l E hx18_5) gs_X12_61 hd_X12_in rfl rfl (Nat.le_of_ble_eq_true rfl) dX12_footTold_18 ⟨Nat.le_of_ble_eq_true rfl, Nat.le_of_ble_eq_true rfl⟩ ⟨Nat.le_of_ble_eq_true rfl, Nat.le_of_ble_eq_true rfl⟩ (fun H locs hW => ?_)
  refine lv_if_eq (tgt := 44) C.x C.b dX12_footTold_21 rfl (fun c21 => ?_) (fun c21 => ?_)
  · replace hf := x_ip c21 hf
    refine lv_iconst (v := 1) C.x C.b dX12_footTold_44 (by decide) ?_
    refine lv_goto (tgt := 49) C.x C.b dX12_footTold_45 rfl ?_
    replace hf := x_b1 hf; obtain ⟨M49_6, hM49_6, hf⟩ := hf
    refine x_putz C hW fp_X12_296_15 hM49_6 (fun h => by cases h) dX12_footTold_49 (fun H locs hW => ?_)
    refine lv_aload_n C.x C.b dX12_footTold_52 rfl (lv_at hl 1 rfl) ?_
    replace hf := x_b1 hf; obtain ⟨x53_7, hx53_7, hf⟩ := hf
    refine x_geti C hW fg_X12_296_15 hx53_7 dX12_footTold_53 ?_
    refine lv_if_ne (tgt := 72) C.x C.b dX12_footTold_56 rfl (fun c56 => ?_) (fun c56 => ?_)
    · replace hf := x_in c56 hf
      rw [x_e0 hf]
      exact x_vret C hr hW dX12_footTold_72
    · replace hf := x_ip c56 hf
      refine lv_aload_n C.x C.b dX12_footTold_59 rfl (lv_at hl 1 rfl) ?_
      replace hf := x_b1 hf; obtain ⟨_, hk60_8, hf⟩ := hf
      replace hf := x_b1 hf; obtain ⟨M60_9, hM60_9, hf⟩ := hf
      refine x_callV (As := []) (a := o) (rest := []) C hW hl (qX12_next l E hM60_9) (x_gk hk60_8) (by decide) (by decide) rfl gv_X12_313 ⟨rfl, hd_X12_next⟩ rfl rfl (Nat.le_of_ble_eq_true rfl) dX12_footTold_60 ⟨Nat.le_of_ble_eq_true rfl, Nat.le_of_ble_eq_true rfl⟩ ⟨Nat.le_of_ble_eq_true rfl, Nat.le_of_ble_eq_true rfl⟩ (fun H locs hW => ?_)
      refine lv_aload_n C.x C.b dX12_footTold_63 rfl (lv_at hl 1 rfl) ?_
      replace hf := x_b1 hf; obtain ⟨a64_10, ha64_10, hf⟩ := hf
      refine x_getn C hW fg_X12_19_15 ha64_10 dX12_footTold_64 ?_
      refine lv_iconst (v := 2) C.x C.b dX12_footTold_67 (by decide) ?_
      refine lv_iload_n C.x C.b dX12_footTold_68 rfl (lv_at hl 2 rfl) ?_
      refine lv_iadd C.x C.b dX12_footTold_69 ?_
      refine lv_iload_n C.x C.b dX12_footTold_70 rfl (lv_at hl 0 rfl) ?_
      replace hf := x_b1 hf; obtain ⟨M71_11, hM71_11, hf⟩ := hf
      refine x_iast C hW hM71_11 dX12_footTold_71 (fun H locs hW => ?_)
      rw [x_e0 hf]
      exact x_vret C hr hW dX12_footTold_72
  · replace hf := x_in c21 hf
    refine lv_aload_n C.x C.b dX12_footTold_24 rfl (lv_at hl 1 rfl) ?_
    replace hf := x_b1 hf; obtain ⟨a25_12, ha25_12, hf⟩ := hf
    refine x_getn C hW fg_X12_19_15 ha25_12 dX12_footTold_25 ?_
    refine lv_iconst (v := 2) C.x C.b dX12_footTold_28 (by decide) ?_
    replace hf := x_b1 hf; obtain ⟨x29_13, hx29_13, hf⟩ := hf
    refine x_iald C hW hx29_13 dX12_footTold_29 ?_
    refine lv_iload_n C.x C.b dX12_footTold_30 rfl (lv_at hl 0 rfl) ?_
    refine lv_icmp_eq (tgt := 44) C.x C.b dX12_footTold_31 rfl (fun c31 => ?_) (fun c31 => ?_)
    · replace hf := x_ip c31 hf
      refine lv_iconst (v := 1) C.x C.b dX12_footTold_44 (by decide) ?_
      refine lv_goto (tgt := 49) C.x C.b dX12_footTold_45 rfl ?_
      replace hf := x_b1 hf; obtain ⟨M49_14, hM49_14, hf⟩ := hf
      refine x_putz C hW fp_X12_296_15 hM49_14 (fun h => by cases h) dX12_footTold_49 (fun H locs hW => ?_)
      refine lv_aload_n C.x C.b dX12_footTold_52 rfl (lv_at hl 1 rfl) ?_
      replace hf := x_b1 hf; obtain ⟨x53_15, hx53_15, hf⟩ := hf
      refine x_geti C hW fg_X12_296_15 hx53_15 dX12_footTold_53 ?_
      refine lv_if_ne (tgt := 72) C.x C.b dX12_footTold_56 rfl (fun c56 => ?_) (fun c56 => ?_)
      · replace hf := x_in c56 hf
        rw [x_e0 hf]
        exact x_vret C hr hW dX12_footTold_72
      · replace hf := x_ip c56 hf
        refine lv_aload_n C.x C.b dX12_footTold_59 rfl (lv_at hl 1 rfl) ?_
        replace hf := x_b1 hf; obtain ⟨_, hk60_16, hf⟩ := hf
        replace hf := x_b1 hf; obtain ⟨M60_17, hM60_17, hf⟩ := hf
        refine x_callV (As := []) (a := o) (rest := []) C hW hl (qX12_next l E hM60_17) (x_gk hk60_16) (by decide) (by decide) rfl gv_X12_313 ⟨rfl, hd_X12_next⟩ rfl rfl (Nat.le_of_ble_eq_true rfl) dX12_footTold_60 ⟨Nat.le_of_ble_eq_true rfl, Nat.le_of_ble_eq_true rfl⟩ ⟨Nat.le_of_ble_eq_true rfl, Nat.le_of_ble_eq_true rfl⟩ (fun H locs hW => ?_)
        refine lv_aload_n C.x C.b dX12_footTold_63 rfl (lv_at hl 1 rfl) ?_
        replace hf := x_b1 hf; obtain ⟨a64_18, ha64_18, hf⟩ := hf
        refine x_getn C hW fg_X12_19_15 ha64_18 dX12_footTold_64 ?_
        refine lv_iconst (v := 2) C.x C.b dX12_footTold_67 (by decide) ?_
        refine lv_iload_n C.x C.b dX12_footTold_68 rfl (lv_at hl 2 rfl) ?_
        refine lv_iadd C.x C.b dX12_footTold_69 ?_
        refine lv_iload_n C.x C.b dX12_footTold_70 rfl (lv_at hl 0 rfl) ?_
        replace hf := x_b1 hf; obtain ⟨M71_19, hM71_19, hf⟩ := hf
        refine x_iast C hW hM71_19 dX12_footTold_71 (fun H locs hW => ?_)
        rw [x_e0 hf]
        exact x_vret C hr hW dX12_footTold_72
    · replace hf := x_in c31 hf
      refine lv_aload_n C.x C.b dX12_footTold_34 rfl (lv_at hl 1 rfl) ?_
      replace hf := x_b1 hf; obtain ⟨a35_20, ha35_20, hf⟩ := hf
      refine x_getn C hW fg_X12_19_15 ha35_20 dX12_footTold_35 ?_
      refine lv_iconst (v := 3) C.x C.b dX12_footTold_38 (by decide) ?_
      replace hf := x_b1 hf; obtain ⟨x39_21, hx39_21, hf⟩ := hf
      refine x_iald C hW hx39_21 dX12_footTold_39 ?_
      refine lv_iload_n C.x C.b dX12_footTold_40 rfl (lv_at hl 0 rfl) ?_
      refine lv_icmp_ne (tgt := 48) C.x C.b dX12_footTold_41 rfl (fun c41 => ?_) (fun c41 => ?_)
      · replace hf := x_in c41 hf
        refine lv_iconst (v := 0) C.x C.b dX12_footTold_48 (by decide) ?_
        replace hf := x_b1 hf; obtain ⟨M49_22, hM49_22, hf⟩ := hf
        refine x_putz C hW fp_X12_296_15 hM49_22 (fun h => by cases h) dX12_footTold_49 (fun H locs hW => ?_)
        refine lv_aload_n C.x C.b dX12_footTold_52 rfl (lv_at hl 1 rfl) ?_
        replace hf := x_b1 hf; obtain ⟨x53_23, hx53_23, hf⟩ := hf
        refine x_geti C hW fg_X12_296_15 hx53_23 dX12_footTold_53 ?_
        refine lv_if_ne (tgt := 72) C.x C.b dX12_footTold_56 rfl (fun c56 => ?_) (fun c56 => ?_)
        · replace hf := x_in c56 hf
          rw [x_e0 hf]
          exact x_vret C hr hW dX12_footTold_72
        · replace hf := x_ip c56 hf
          refine lv_aload_n C.x C.b dX12_footTold_59 rfl (lv_at hl 1 rfl) ?_
          replace hf := x_b1 hf; obtain ⟨_, hk60_24, hf⟩ := hf
          replace hf := x_b1 hf; obtain ⟨M60_25, hM60_25, hf⟩ := hf
          refine x_callV (As := []) (a := o) (rest := []) C hW hl (qX12_next l E hM60_25) (x_gk hk60_24) (by decide) (by decide) rfl gv_X12_313 ⟨rfl, hd_X12_next⟩ rfl rfl (Nat.le_of_ble_eq_true rfl) dX12_footTold_60 ⟨Nat.le_of_ble_eq_true rfl, Nat.le_of_ble_eq_true rfl⟩ ⟨Nat.le_of_ble_eq_true rfl, Nat.le_of_ble_eq_true rfl⟩ (fun H locs hW => ?_)
          refine lv_aload_n C.x C.b dX12_footTold_63 rfl (lv_at hl 1 rfl) ?_
          replace hf := x_b1 hf; obtain ⟨a64_26, ha64_26, hf⟩ := hf
          refine x_getn C hW fg_X12_19_15 ha64_26 dX12_footTold_64 ?_
          refine lv_iconst (v := 2) C.x C.b dX12_footTold_67 (by decide) ?_
          refine lv_iload_n C.x C.b dX12_footTold_68 rfl (lv_at hl 2 rfl) ?_
          refine lv_iadd C.x C.b dX12_footTold_69 ?_
          refine lv_iload_n C.x C.b dX12_footTold_70 rfl (lv_at hl 0 rfl) ?_
          replace hf := x_b1 hf; obtain ⟨M71_27, hM71_27, hf⟩ := hf
          refine x_iast C hW hM71_27 dX12_footTold_71 (fun H locs hW => ?_)
          rw [x_e0 hf]
          exact x_vret C hr hW dX12_footTold_72
      · replace hf := x_ip c41 hf
        refine lv_iconst (v := 1) C.x C.b dX12_footTold_44 (by decide) ?_
        refine lv_goto (tgt := 49) C.x C.b dX12_footTold_45 rfl ?_
        replace hf := x_b1 hf; obtain ⟨M49_28, hM49_28, hf⟩ := hf
        refine x_putz C hW fp_X12_296_15 hM49_28 (fun h => by cases h) dX12_footTold_49 (fun H locs hW => ?_)
        refine lv_aload_n C.x C.b dX12_footTold_52 rfl (lv_at hl 1 rfl) ?_
        replace hf := x_b1 hf; obtain ⟨x53_29, hx53_29, hf⟩ := hf
        refine x_geti C hW fg_X12_296_15 hx53_29 dX12_footTold_53 ?_
        refine lv_if_ne (tgt := 72) C.x C.b dX12_footTold_56 rfl (fun c56 => ?_) (fun c56 => ?_)
        · replace hf := x_in c56 hf
          rw [x_e0 hf]
          exact x_vret C hr hW dX12_footTold_72
        · replace hf := x_ip c56 hf
          refine lv_aload_n C.x C.b dX12_footTold_59 rfl (lv_at hl 1 rfl) ?_
          replace hf := x_b1 hf; obtain ⟨_, hk60_30, hf⟩ := hf
          replace hf := x_b1 hf; obtain ⟨M60_31, hM60_31, hf⟩ := hf
          refine x_callV (As := []) (a := o) (rest := []) C hW hl (qX12_next l E hM60_31) (x_gk hk60_30) (by decide) (by decide) rfl gv_X12_313 ⟨rfl, hd_X12_next⟩ rfl rfl (Nat.le_of_ble_eq_true rfl) dX12_footTold_60 ⟨Nat.le_of_ble_eq_true rfl, Nat.le_of_ble_eq_true rfl⟩ ⟨Nat.le_of_ble_eq_true rfl, Nat.le_of_ble_eq_true rfl⟩ (fun H locs hW => ?_)
          refine lv_aload_n C.x C.b dX12_footTold_63 rfl (lv_at hl 1 rfl) ?_
          replace hf := x_b1 hf; obtain ⟨a64_32, ha64_32, hf⟩ := hf
          refine x_getn C hW fg_X12_19_15 ha64_32 dX12_footTold_64 ?_
          refine lv_iconst (v := 2) C.x C.b dX12_footTold_67 (by decide) ?_
          refine lv_iload_n C.x C.b dX12_footTold_68 rfl (lv_at hl 2 rfl) ?_
          refine lv_iadd C.x C.b dX12_footTold_69 ?_
          refine lv_iload_n C.x C.b dX12_footTold_70 rfl (lv_at hl 0 rfl) ?_
          replace hf := x_b1 hf; obtain ⟨M71_33, hM71_33, hf⟩ := hf
          refine x_iast C hW hM71_33 dX12_footTold_71 (fun H locs hW => ?_)
          rw [x_e0 hf]
          exact x_vret C hr hW dX12_footTold_72

theorem dX12_wayTold_0 : decode cX12_wayTold 0 = .ok (.aload_n 0, 1) := by decide +kernel
theorem dX12_wayTold_1 : decode cX12_wayTold 1 = .ok (.getfield 19, 3) := by decide +kernel
theorem dX12_wayTold_4 : decode cX12_wayTold 4 = .ok (.bipush 12, 2) := by decide +kernel
theorem dX12_wayTold_6 : decode cX12_wayTold 6 = .ok (.iload_n 1, 1) := by decide +kernel
theorem dX12_wayTold_7 : decode cX12_wayTold 7 = .ok (.iadd, 1) := by decide +kernel
theorem dX12_wayTold_8 : decode cX12_wayTold 8 = .ok (.iconst 0, 1) := by decide +kernel
theorem dX12_wayTold_9 : decode cX12_wayTold 9 = .ok (.iastore, 1) := by decide +kernel
theorem dX12_wayTold_10 : decode cX12_wayTold 10 = .ok (.iconst 1, 1) := by decide +kernel
theorem dX12_wayTold_11 : decode cX12_wayTold 11 = .ok (.istore_n 2, 1) := by decide +kernel
theorem dX12_wayTold_12 : decode cX12_wayTold 12 = .ok (.iload_n 2, 1) := by decide +kernel
theorem dX12_wayTold_13 : decode cX12_wayTold 13 = .ok (.ifCond .eq 91, 3) := by decide +kernel
theorem dX12_wayTold_16 : decode cX12_wayTold 16 = .ok (.aload_n 0, 1) := by decide +kernel
theorem dX12_wayTold_17 : decode cX12_wayTold 17 = .ok (.getfield 296, 3) := by decide +kernel
theorem dX12_wayTold_20 : decode cX12_wayTold 20 = .ok (.ifCond .ne 84, 3) := by decide +kernel
theorem dX12_wayTold_23 : decode cX12_wayTold 23 = .ok (.aload_n 0, 1) := by decide +kernel
theorem dX12_wayTold_24 : decode cX12_wayTold 24 = .ok (.invokevirtual 358, 3) := by decide +kernel
theorem dX12_wayTold_27 : decode cX12_wayTold 27 = .ok (.istore_n 3, 1) := by decide +kernel
theorem dX12_wayTold_28 : decode cX12_wayTold 28 = .ok (.aload_n 0, 1) := by decide +kernel
theorem dX12_wayTold_29 : decode cX12_wayTold 29 = .ok (.iload_n 3, 1) := by decide +kernel
theorem dX12_wayTold_30 : decode cX12_wayTold 30 = .ok (.ifCond .lt 17, 3) := by decide +kernel
theorem dX12_wayTold_33 : decode cX12_wayTold 33 = .ok (.aload_n 0, 1) := by decide +kernel
theorem dX12_wayTold_34 : decode cX12_wayTold 34 = .ok (.getfield 19, 3) := by decide +kernel
theorem dX12_wayTold_37 : decode cX12_wayTold 37 = .ok (.bipush 12, 2) := by decide +kernel
theorem dX12_wayTold_39 : decode cX12_wayTold 39 = .ok (.iload_n 1, 1) := by decide +kernel
theorem dX12_wayTold_40 : decode cX12_wayTold 40 = .ok (.iadd, 1) := by decide +kernel
theorem dX12_wayTold_41 : decode cX12_wayTold 41 = .ok (.iaload, 1) := by decide +kernel
theorem dX12_wayTold_42 : decode cX12_wayTold 42 = .ok (.bipush 10, 2) := by decide +kernel
theorem dX12_wayTold_44 : decode cX12_wayTold 44 = .ok (.if_icmp .ne 7, 3) := by decide +kernel
theorem dX12_wayTold_47 : decode cX12_wayTold 47 = .ok (.iconst 1, 1) := by decide +kernel
theorem dX12_wayTold_48 : decode cX12_wayTold 48 = .ok (.goto 4, 3) := by decide +kernel
theorem dX12_wayTold_51 : decode cX12_wayTold 51 = .ok (.iconst 0, 1) := by decide +kernel
theorem dX12_wayTold_52 : decode cX12_wayTold 52 = .ok (.putfield 296, 3) := by decide +kernel
theorem dX12_wayTold_55 : decode cX12_wayTold 55 = .ok (.aload_n 0, 1) := by decide +kernel
theorem dX12_wayTold_56 : decode cX12_wayTold 56 = .ok (.getfield 296, 3) := by decide +kernel
theorem dX12_wayTold_59 : decode cX12_wayTold 59 = .ok (.ifCond .ne 34, 3) := by decide +kernel
theorem dX12_wayTold_62 : decode cX12_wayTold 62 = .ok (.aload_n 0, 1) := by decide +kernel
theorem dX12_wayTold_63 : decode cX12_wayTold 63 = .ok (.invokevirtual 313, 3) := by decide +kernel
theorem dX12_wayTold_66 : decode cX12_wayTold 66 = .ok (.aload_n 0, 1) := by decide +kernel
theorem dX12_wayTold_67 : decode cX12_wayTold 67 = .ok (.iconst 1, 1) := by decide +kernel
theorem dX12_wayTold_68 : decode cX12_wayTold 68 = .ok (.bipush 60, 2) := by decide +kernel
theorem dX12_wayTold_70 : decode cX12_wayTold 70 = .ok (.invokevirtual 343, 3) := by decide +kernel
theorem dX12_wayTold_73 : decode cX12_wayTold 73 = .ok (.istore 4, 2) := by decide +kernel
theorem dX12_wayTold_75 : decode cX12_wayTold 75 = .ok (.aload_n 0, 1) := by decide +kernel
theorem dX12_wayTold_76 : decode cX12_wayTold 76 = .ok (.getfield 296, 3) := by decide +kernel
theorem dX12_wayTold_79 : decode cX12_wayTold 79 = .ok (.ifCond .ne 14, 3) := by decide +kernel
theorem dX12_wayTold_82 : decode cX12_wayTold 82 = .ok (.aload_n 0, 1) := by decide +kernel
theorem dX12_wayTold_83 : decode cX12_wayTold 83 = .ok (.getfield 19, 3) := by decide +kernel
theorem dX12_wayTold_86 : decode cX12_wayTold 86 = .ok (.iload_n 1, 1) := by decide +kernel
theorem dX12_wayTold_87 : decode cX12_wayTold 87 = .ok (.iload_n 3, 1) := by decide +kernel
theorem dX12_wayTold_88 : decode cX12_wayTold 88 = .ok (.iload 4, 2) := by decide +kernel
theorem dX12_wayTold_90 : decode cX12_wayTold 90 = .ok (.invokestatic 138, 3) := by decide +kernel
theorem dX12_wayTold_93 : decode cX12_wayTold 93 = .ok (.aload_n 0, 1) := by decide +kernel
theorem dX12_wayTold_94 : decode cX12_wayTold 94 = .ok (.ldc_w 361, 3) := by decide +kernel
theorem dX12_wayTold_97 : decode cX12_wayTold 97 = .ok (.invokevirtual 354, 3) := by decide +kernel
theorem dX12_wayTold_100 : decode cX12_wayTold 100 = .ok (.istore_n 2, 1) := by decide +kernel
theorem dX12_wayTold_101 : decode cX12_wayTold 101 = .ok (.goto (-89), 3) := by decide +kernel
theorem dX12_wayTold_104 : decode cX12_wayTold 104 = .ok (.return_, 1) := by decide +kernel
theorem hd_X12_moveHere : yX12_moveHere.cls ≠ "java/lang/invoke/MethodHandle" ∧ yX12_moveHere.cls ≠ "java/lang/invoke/VarHandle" ∧ (parseMethodDescriptor yX12_moveHere.desc).map (fun d => d.parameters.length) = some 0 := by decide +kernel
theorem gv_X12_358 : GoodIn gT (wsV "NylonLadderModel" 358 "NylonLadderModel" yX12_moveHere (Cond.code yX12_moveHere cX12_moveHere 1 (some .int) :: gT)) := good_V T_8_87 T_8_89 TS_87 T_1_10 T_8_90
def fX12_wayTold_L12 (o : Nat) (v1 : Int32) : Nat → Int32 → Mm → Option Mm
  | 0, _, _ => none
  | n + 1, v2, M =>
    if v2 = 0 then
      some M
    else
      B1 (rdI M o 15 9) fun x17_3 =>
      if x17_3 = 0 then
        B1 (gk M o 15) fun _ =>
        B1 (fX12_moveHere M o) fun x24_5 =>
        if x24_5 < 0 then
          B1 (wrZ M o 15 9 1) fun M52_6 =>
          B1 (rdI M52_6 o 15 9) fun x56_7 =>
          if x56_7 = 0 then
            B1 (gk M52_6 o 15) fun _ =>
            B1 (fX12_next M52_6 o) fun M63_12 =>
            B1 (gk M63_12 o 15) fun _ =>
            B2 (fX12_number M63_12 o 1 60) fun x70_14 M70_15 =>
            B1 (rdI M70_15 o 15 9) fun x76_16 =>
            if x76_16 = 0 then
              B1 (rdN M70_15 o 15 3) fun a83_20 =>
              B1 (fX12_goes M70_15 a83_20 v1 x24_5 x70_14) fun M90_21 =>
              B1 (gk M90_21 o 15) fun _ =>
              B2 (fX12_takes M90_21 o 20) fun x97_23 M97_24 =>
              fX12_wayTold_L12 o v1 n x97_23 M97_24
            else
              B1 (gk M70_15 o 15) fun _ =>
              B2 (fX12_takes M70_15 o 20) fun x97_18 M97_19 =>
              fX12_wayTold_L12 o v1 n x97_18 M97_19
          else
            B1 (gk M52_6 o 15) fun _ =>
            B2 (fX12_takes M52_6 o 20) fun x97_9 M97_10 =>
            fX12_wayTold_L12 o v1 n x97_9 M97_10
        else
          B1 (rdN M o 15 3) fun a34_25 =>
          B1 (alI M a34_25 (12 + v1)) fun x41_26 =>
          if x41_26 = 10 then
            B1 (wrZ M o 15 9 1) fun M52_46 =>
            B1 (rdI M52_46 o 15 9) fun x56_47 =>
            if x56_47 = 0 then
              B1 (gk M52_46 o 15) fun _ =>
              B1 (fX12_next M52_46 o) fun M63_52 =>
              B1 (gk M63_52 o 15) fun _ =>
              B2 (fX12_number M63_52 o 1 60) fun x70_54 M70_55 =>
              B1 (rdI M70_55 o 15 9) fun x76_56 =>
              if x76_56 = 0 then
                B1 (rdN M70_55 o 15 3) fun a83_60 =>
                B1 (fX12_goes M70_55 a83_60 v1 x24_5 x70_54) fun M90_61 =>
                B1 (gk M90_61 o 15) fun _ =>
                B2 (fX12_takes M90_61 o 20) fun x97_63 M97_64 =>
                fX12_wayTold_L12 o v1 n x97_63 M97_64
              else
                B1 (gk M70_55 o 15) fun _ =>
                B2 (fX12_takes M70_55 o 20) fun x97_58 M97_59 =>
                fX12_wayTold_L12 o v1 n x97_58 M97_59
            else
              B1 (gk M52_46 o 15) fun _ =>
              B2 (fX12_takes M52_46 o 20) fun x97_49 M97_50 =>
              fX12_wayTold_L12 o v1 n x97_49 M97_50
          else
            B1 (wrZ M o 15 9 0) fun M52_27 =>
            B1 (rdI M52_27 o 15 9) fun x56_28 =>
            if x56_28 = 0 then
              B1 (gk M52_27 o 15) fun _ =>
              B1 (fX12_next M52_27 o) fun M63_33 =>
              B1 (gk M63_33 o 15) fun _ =>
              B2 (fX12_number M63_33 o 1 60) fun x70_35 M70_36 =>
              B1 (rdI M70_36 o 15 9) fun x76_37 =>
              if x76_37 = 0 then
                B1 (rdN M70_36 o 15 3) fun a83_41 =>
                B1 (fX12_goes M70_36 a83_41 v1 x24_5 x70_35) fun M90_42 =>
                B1 (gk M90_42 o 15) fun _ =>
                B2 (fX12_takes M90_42 o 20) fun x97_44 M97_45 =>
                fX12_wayTold_L12 o v1 n x97_44 M97_45
              else
                B1 (gk M70_36 o 15) fun _ =>
                B2 (fX12_takes M70_36 o 20) fun x97_39 M97_40 =>
                fX12_wayTold_L12 o v1 n x97_39 M97_40
            else
              B1 (gk M52_27 o 15) fun _ =>
              B2 (fX12_takes M52_27 o 20) fun x97_30 M97_31 =>
              fX12_wayTold_L12 o v1 n x97_30 M97_31
      else
        some M
def fX12_wayTold (M : Mm) (o : Nat) (p1 : Int32) : Option Mm :=
  B1 (rdN M o 15 3) fun a1_1 =>
  B1 (asI M a1_1 (12 + p1) 0) fun M9_2 =>
  fX12_wayTold_L12 o p1 FL 1 M9_2
set_option maxRecDepth 100000 in
set_option maxHeartbeats 4000000 in
theorem kX12_wayTold_L12 {l : Launch} {E : Ev} {p : Program} {e : Env} {s : State} {m : MethodId} {args : Array Value} {below : List Frame} {meth : Method} {c : Code} (C : Cx E p s m args meth c cX12_wayTold yX12_wayTold.cls 5) (hr : meth.sig.returnType = none) (hin : yX12_wayTold.name = "<init>" → meth.name = "<init>")  {o : Nat} {v1 : Int32} {Mz : Mm} : ∀ (n : Nat) (v2 : Int32) (M : Mm), fX12_wayTold_L12 o v1 n v2 M = some Mz → ∀ (H : Heap) (locs : List Loc) (ls : Array Slot), Wx E s H locs M → lv_has ls 5 [(0, .ref (E.b + o)), (1, .int v1), (2, .int v2)] → W p l e (rM 6 130 0 0) s m args below meth c H locs 0 0 (MQ below (Qp E none Mz) args s 0 0 E.A) (F0 m 12 ls []) := by
  intro n
  induction n with
  | zero =>
    intro v2 M hf
    unfold fX12_wayTold_L12 at hf
    cases hf
  | succ n ih =>
    intro v2 M hf H locs ls hW hl
    unfold fX12_wayTold_L12 at hf
    refine lv_iload_n C.x C.b dX12_wayTold_12 rfl (lv_at hl 2 rfl) ?_
    refine lv_if_eq (tgt := 104) C.x C.b dX12_wayTold_13 rfl (fun c13 => ?_) (fun c13 => ?_)
    · replace hf := x_ip c13 hf
      rw [x_e0 hf]
      exact x_vret C hr hW dX12_wayTold_104
    · replace hf := x_in c13 hf
      refine lv_aload_n C.x C.b dX12_wayTold_16 rfl (lv_at hl 0 rfl) ?_
      replace hf := x_b1 hf; obtain ⟨x17_3, hx17_3, hf⟩ := hf
      refine x_geti C hW fg_X12_296_15 hx17_3 dX12_wayTold_17 ?_
      refine lv_if_ne (tgt := 104) C.x C.b dX12_wayTold_20 rfl (fun c20 => ?_) (fun c20 => ?_)
      · replace hf := x_in c20 hf
        rw [x_e0 hf]
        exact x_vret C hr hW dX12_wayTold_104
      · replace hf := x_ip c20 hf
        refine lv_aload_n C.x C.b dX12_wayTold_23 rfl (lv_at hl 0 rfl) ?_
        replace hf := x_b1 hf; obtain ⟨_, hk24_4, hf⟩ := hf
        replace hf := x_b1 hf; obtain ⟨x24_5, hx24_5, hf⟩ := hf
        refine x_callV (As := []) (a := o) (rest := []) C hW hl (qX12_moveHere l E hx24_5) (x_gk hk24_4) (by decide) (by decide) rfl gv_X12_358 ⟨rfl, hd_X12_moveHere⟩ rfl rfl (Nat.le_of_ble_eq_true rfl) dX12_wayTold_24 ⟨Nat.le_of_ble_eq_true rfl, Nat.le_of_ble_eq_true rfl⟩ ⟨Nat.le_of_ble_eq_true rfl, Nat.le_of_ble_eq_true rfl⟩ (fun H locs hW => ?_)
        refine lv_istore_n (lv' := [(3, .int _), (0, .ref (E.b + _)), (1, .int _), (2, .int _)]) C.x C.b dX12_wayTold_27 rfl hl (by decide) rfl (fun ls hl => ?_)
        refine lv_aload_n C.x C.b dX12_wayTold_28 rfl (lv_at hl 1 rfl) ?_
        refine lv_iload_n C.x C.b dX12_wayTold_29 rfl (lv_at hl 0 rfl) ?_
        refine lv_if_lt (tgt := 47) C.x C.b dX12_wayTold_30 rfl (fun c30 => ?_) (fun c30 => ?_)
        · replace hf := x_ip c30 hf
          refine lv_iconst (v := 1) C.x C.b dX12_wayTold_47 (by decide) ?_
          refine lv_goto (tgt := 52) C.x C.b dX12_wayTold_48 rfl ?_
          replace hf := x_b1 hf; obtain ⟨M52_6, hM52_6, hf⟩ := hf
          refine x_putz C hW fp_X12_296_15 hM52_6 (fun h => by cases h) dX12_wayTold_52 (fun H locs hW => ?_)
          refine lv_aload_n C.x C.b dX12_wayTold_55 rfl (lv_at hl 1 rfl) ?_
          replace hf := x_b1 hf; obtain ⟨x56_7, hx56_7, hf⟩ := hf
          refine x_geti C hW fg_X12_296_15 hx56_7 dX12_wayTold_56 ?_
          refine lv_if_ne (tgt := 93) C.x C.b dX12_wayTold_59 rfl (fun c59 => ?_) (fun c59 => ?_)
          · replace hf := x_in c59 hf
            refine lv_aload_n C.x C.b dX12_wayTold_93 rfl (lv_at hl 1 rfl) ?_
            refine x_ldcSW (q := 20) (tx := ",") C (by decide +kernel) dX12_wayTold_94 ?_
            replace hf := x_b1 hf; obtain ⟨_, hk97_8, hf⟩ := hf
            replace hf := x_b2 hf; obtain ⟨x97_9, M97_10, hx97_9, hf⟩ := hf
            refine x_callV (As := [.ref (E.x (100 + 20))]) (a := o) (rest := []) C hW hl (qX12_takes l E hx97_9) (x_gk hk97_8) (by decide) (by decide) rfl gv_X12_354 ⟨rfl, hd_X12_takes⟩ rfl rfl (Nat.le_of_ble_eq_true rfl) dX12_wayTold_97 ⟨Nat.le_of_ble_eq_true rfl, Nat.le_of_ble_eq_true rfl⟩ ⟨Nat.le_of_ble_eq_true rfl, Nat.le_of_ble_eq_true rfl⟩ (fun H locs hW => ?_)
            refine lv_istore_n (lv' := [(2, .int _), (3, .int _), (0, .ref (E.b + _)), (1, .int _)]) C.x C.b dX12_wayTold_100 rfl hl (by decide) rfl (fun ls hl => ?_)
            refine lv_goto (tgt := 12) C.x C.b dX12_wayTold_101 rfl ?_
            exact ih x97_9 M97_10 hf _ _ _ hW (lv_sub hl [2, 3, 0] rfl)
          · replace hf := x_ip c59 hf
            refine lv_aload_n C.x C.b dX12_wayTold_62 rfl (lv_at hl 1 rfl) ?_
            replace hf := x_b1 hf; obtain ⟨_, hk63_11, hf⟩ := hf
            replace hf := x_b1 hf; obtain ⟨M63_12, hM63_12, hf⟩ := hf
            refine x_callV (As := []) (a := o) (rest := []) C hW hl (qX12_next l E hM63_12) (x_gk hk63_11) (by decide) (by decide) rfl gv_X12_313 ⟨rfl, hd_X12_next⟩ rfl rfl (Nat.le_of_ble_eq_true rfl) dX12_wayTold_63 ⟨Nat.le_of_ble_eq_true rfl, Nat.le_of_ble_eq_true rfl⟩ ⟨Nat.le_of_ble_eq_true rfl, Nat.le_of_ble_eq_true rfl⟩ (fun H locs hW => ?_)
            refine lv_aload_n C.x C.b dX12_wayTold_66 rfl (lv_at hl 1 rfl) ?_
            refine lv_iconst (v := 1) C.x C.b dX12_wayTold_67 (by decide) ?_
            refine lv_bipush (v := 60) C.x C.b dX12_wayTold_68 (by decide) ?_
            replace hf := x_b1 hf; obtain ⟨_, hk70_13, hf⟩ := hf
            replace hf := x_b2 hf; obtain ⟨x70_14, M70_15, hx70_14, hf⟩ := hf
            refine x_callV (As := [.int 1, .int 60]) (a := o) (rest := []) C hW hl (qX12_number l E hx70_14) (x_gk hk70_13) (by decide) (by decide) rfl gv_X12_343 ⟨rfl, hd_X12_number⟩ rfl rfl (Nat.le_of_ble_eq_true rfl) dX12_wayTold_70 ⟨Nat.le_of_ble_eq_true rfl, Nat.le_of_ble_eq_true rfl⟩ ⟨Nat.le_of_ble_eq_true rfl, Nat.le_of_ble_eq_true rfl⟩ (fun H locs hW => ?_)
            refine lv_istore (lv' := [(4, .int _), (3, .int _), (0, .ref (E.b + _)), (1, .int _), (2, .int _)]) C.x C.b dX12_wayTold_73 hl (by decide) rfl (fun ls hl => ?_)
            refine lv_aload_n C.x C.b dX12_wayTold_75 rfl (lv_at hl 2 rfl) ?_
            replace hf := x_b1 hf; obtain ⟨x76_16, hx76_16, hf⟩ := hf
            refine x_geti C hW fg_X12_296_15 hx76_16 dX12_wayTold_76 ?_
            refine lv_if_ne (tgt := 93) C.x C.b dX12_wayTold_79 rfl (fun c79 => ?_) (fun c79 => ?_)
            · replace hf := x_in c79 hf
              refine lv_aload_n C.x C.b dX12_wayTold_93 rfl (lv_at hl 2 rfl) ?_
              refine x_ldcSW (q := 20) (tx := ",") C (by decide +kernel) dX12_wayTold_94 ?_
              replace hf := x_b1 hf; obtain ⟨_, hk97_17, hf⟩ := hf
              replace hf := x_b2 hf; obtain ⟨x97_18, M97_19, hx97_18, hf⟩ := hf
              refine x_callV (As := [.ref (E.x (100 + 20))]) (a := o) (rest := []) C hW hl (qX12_takes l E hx97_18) (x_gk hk97_17) (by decide) (by decide) rfl gv_X12_354 ⟨rfl, hd_X12_takes⟩ rfl rfl (Nat.le_of_ble_eq_true rfl) dX12_wayTold_97 ⟨Nat.le_of_ble_eq_true rfl, Nat.le_of_ble_eq_true rfl⟩ ⟨Nat.le_of_ble_eq_true rfl, Nat.le_of_ble_eq_true rfl⟩ (fun H locs hW => ?_)
              refine lv_istore_n (lv' := [(2, .int _), (4, .int _), (3, .int _), (0, .ref (E.b + _)), (1, .int _)]) C.x C.b dX12_wayTold_100 rfl hl (by decide) rfl (fun ls hl => ?_)
              refine lv_goto (tgt := 12) C.x C.b dX12_wayTold_101 rfl ?_
              exact ih x97_18 M97_19 hf _ _ _ hW (lv_sub hl [3, 4, 0] rfl)
            · replace hf := x_ip c79 hf
              refine lv_aload_n C.x C.b dX12_wayTold_82 rfl (lv_at hl 2 rfl) ?_
              replace hf := x_b1 hf; obtain ⟨a83_20, ha83_20, hf⟩ := hf
              refine x_getn C hW fg_X12_19_15 ha83_20 dX12_wayTold_83 ?_
              refine lv_iload_n C.x C.b dX12_wayTold_86 rfl (lv_at hl 3 rfl) ?_
              refine lv_iload_n C.x C.b dX12_wayTold_87 rfl (lv_at hl 1 rfl) ?_
              refine lv_iload C.x C.b dX12_wayTold_88 (lv_at hl 0 rfl) ?_
              replace hf := x_b1 hf; obtain ⟨M90_21, hM90_21, hf⟩ := hf
              refine x_callS (As := [.ref (E.b + a83_20), .int v1, .int x24_5, .int x70_14]) (rest := []) C hW hl (qX12_goes l E hM90_21) gs_X12_138 hd_X12_goes rfl rfl (Nat.le_of_ble_eq_true rfl) dX12_wayTold_90 ⟨Nat.le_of_ble_eq_true rfl, Nat.le_of_ble_eq_true rfl⟩ ⟨Nat.le_of_ble_eq_true rfl, Nat.le_of_ble_eq_true rfl⟩ (fun H locs hW => ?_)
              refine lv_aload_n C.x C.b dX12_wayTold_93 rfl (lv_at hl 2 rfl) ?_
              refine x_ldcSW (q := 20) (tx := ",") C (by decide +kernel) dX12_wayTold_94 ?_
              replace hf := x_b1 hf; obtain ⟨_, hk97_22, hf⟩ := hf
              replace hf := x_b2 hf; obtain ⟨x97_23, M97_24, hx97_23, hf⟩ := hf
              refine x_callV (As := [.ref (E.x (100 + 20))]) (a := o) (rest := []) C hW hl (qX12_takes l E hx97_23) (x_gk hk97_22) (by decide) (by decide) rfl gv_X12_354 ⟨rfl, hd_X12_takes⟩ rfl rfl (Nat.le_of_ble_eq_true rfl) dX12_wayTold_97 ⟨Nat.le_of_ble_eq_true rfl, Nat.le_of_ble_eq_true rfl⟩ ⟨Nat.le_of_ble_eq_true rfl, Nat.le_of_ble_eq_true rfl⟩ (fun H locs hW => ?_)
              refine lv_istore_n (lv' := [(2, .int _), (4, .int _), (3, .int _), (0, .ref (E.b + _)), (1, .int _)]) C.x C.b dX12_wayTold_100 rfl hl (by decide) rfl (fun ls hl => ?_)
              refine lv_goto (tgt := 12) C.x C.b dX12_wayTold_101 rfl ?_
              exact ih x97_23 M97_24 hf _ _ _ hW (lv_sub hl [3, 4, 0] rfl)
        · replace hf := x_in c30 hf
          refine lv_aload_n C.x C.b dX12_wayTold_33 rfl (lv_at hl 1 rfl) ?_
          replace hf := x_b1 hf; obtain ⟨a34_25, ha34_25, hf⟩ := hf
          refine x_getn C hW fg_X12_19_15 ha34_25 dX12_wayTold_34 ?_
          refine lv_bipush (v := 12) C.x C.b dX12_wayTold_37 (by decide) ?_
          refine lv_iload_n C.x C.b dX12_wayTold_39 rfl (lv_at hl 2 rfl) ?_
          refine lv_iadd C.x C.b dX12_wayTold_40 ?_
          replace hf := x_b1 hf; obtain ⟨x41_26, hx41_26, hf⟩ := hf
          refine x_iald C hW hx41_26 dX12_wayTold_41 ?_
          refine lv_bipush (v := 10) C.x C.b dX12_wayTold_42 (by decide) ?_
          refine lv_icmp_ne (tgt := 51) C.x C.b dX12_wayTold_44 rfl (fun c44 => ?_) (fun c44 => ?_)
          · replace hf := x_in c44 hf
            refine lv_iconst (v := 0) C.x C.b dX12_wayTold_51 (by decide) ?_
            replace hf := x_b1 hf; obtain ⟨M52_27, hM52_27, hf⟩ := hf
            refine x_putz C hW fp_X12_296_15 hM52_27 (fun h => by cases h) dX12_wayTold_52 (fun H locs hW => ?_)
            refine lv_aload_n C.x C.b dX12_wayTold_55 rfl (lv_at hl 1 rfl) ?_
            replace hf := x_b1 hf; obtain ⟨x56_28, hx56_28, hf⟩ := hf
            refine x_geti C hW fg_X12_296_15 hx56_28 dX12_wayTold_56 ?_
            refine lv_if_ne (tgt := 93) C.x C.b dX12_wayTold_59 rfl (fun c59 => ?_) (fun c59 => ?_)
            · replace hf := x_in c59 hf
              refine lv_aload_n C.x C.b dX12_wayTold_93 rfl (lv_at hl 1 rfl) ?_
              refine x_ldcSW (q := 20) (tx := ",") C (by decide +kernel) dX12_wayTold_94 ?_
              replace hf := x_b1 hf; obtain ⟨_, hk97_29, hf⟩ := hf
              replace hf := x_b2 hf; obtain ⟨x97_30, M97_31, hx97_30, hf⟩ := hf
              refine x_callV (As := [.ref (E.x (100 + 20))]) (a := o) (rest := []) C hW hl (qX12_takes l E hx97_30) (x_gk hk97_29) (by decide) (by decide) rfl gv_X12_354 ⟨rfl, hd_X12_takes⟩ rfl rfl (Nat.le_of_ble_eq_true rfl) dX12_wayTold_97 ⟨Nat.le_of_ble_eq_true rfl, Nat.le_of_ble_eq_true rfl⟩ ⟨Nat.le_of_ble_eq_true rfl, Nat.le_of_ble_eq_true rfl⟩ (fun H locs hW => ?_)
              refine lv_istore_n (lv' := [(2, .int _), (3, .int _), (0, .ref (E.b + _)), (1, .int _)]) C.x C.b dX12_wayTold_100 rfl hl (by decide) rfl (fun ls hl => ?_)
              refine lv_goto (tgt := 12) C.x C.b dX12_wayTold_101 rfl ?_
              exact ih x97_30 M97_31 hf _ _ _ hW (lv_sub hl [2, 3, 0] rfl)
            · replace hf := x_ip c59 hf
              refine lv_aload_n C.x C.b dX12_wayTold_62 rfl (lv_at hl 1 rfl) ?_
              replace hf := x_b1 hf; obtain ⟨_, hk63_32, hf⟩ := hf
              replace hf := x_b1 hf; obtain ⟨M63_33, hM63_33, hf⟩ := hf
              refine x_callV (As := []) (a := o) (rest := []) C hW hl (qX12_next l E hM63_33) (x_gk hk63_32) (by decide) (by decide) rfl gv_X12_313 ⟨rfl, hd_X12_next⟩ rfl rfl (Nat.le_of_ble_eq_true rfl) dX12_wayTold_63 ⟨Nat.le_of_ble_eq_true rfl, Nat.le_of_ble_eq_true rfl⟩ ⟨Nat.le_of_ble_eq_true rfl, Nat.le_of_ble_eq_true rfl⟩ (fun H locs hW => ?_)
              refine lv_aload_n C.x C.b dX12_wayTold_66 rfl (lv_at hl 1 rfl) ?_
              refine lv_iconst (v := 1) C.x C.b dX12_wayTold_67 (by decide) ?_
              refine lv_bipush (v := 60) C.x C.b dX12_wayTold_68 (by decide) ?_
              replace hf := x_b1 hf; obtain ⟨_, hk70_34, hf⟩ := hf
              replace hf := x_b2 hf; obtain ⟨x70_35, M70_36, hx70_35, hf⟩ := hf
              refine x_callV (As := [.int 1, .int 60]) (a := o) (rest := []) C hW hl (qX12_number l E hx70_35) (x_gk hk70_34) (by decide) (by decide) rfl gv_X12_343 ⟨rfl, hd_X12_number⟩ rfl rfl (Nat.le_of_ble_eq_true rfl) dX12_wayTold_70 ⟨Nat.le_of_ble_eq_true rfl, Nat.le_of_ble_eq_true rfl⟩ ⟨Nat.le_of_ble_eq_true rfl, Nat.le_of_ble_eq_true rfl⟩ (fun H locs hW => ?_)
              refine lv_istore (lv' := [(4, .int _), (3, .int _), (0, .ref (E.b + _)), (1, .int _), (2, .int _)]) C.x C.b dX12_wayTold_73 hl (by decide) rfl (fun ls hl => ?_)
              refine lv_aload_n C.x C.b dX12_wayTold_75 rfl (lv_at hl 2 rfl) ?_
              replace hf := x_b1 hf; obtain ⟨x76_37, hx76_37, hf⟩ := hf
              refine x_geti C hW fg_X12_296_15 hx76_37 dX12_wayTold_76 ?_
              refine lv_if_ne (tgt := 93) C.x C.b dX12_wayTold_79 rfl (fun c79 => ?_) (fun c79 => ?_)
              · replace hf := x_in c79 hf
                refine lv_aload_n C.x C.b dX12_wayTold_93 rfl (lv_at hl 2 rfl) ?_
                refine x_ldcSW (q := 20) (tx := ",") C (by decide +kernel) dX12_wayTold_94 ?_
                replace hf := x_b1 hf; obtain ⟨_, hk97_38, hf⟩ := hf
                replace hf := x_b2 hf; obtain ⟨x97_39, M97_40, hx97_39, hf⟩ := hf
                refine x_callV (As := [.ref (E.x (100 + 20))]) (a := o) (rest := []) C hW hl (qX12_takes l E hx97_39) (x_gk hk97_38) (by decide) (by decide) rfl gv_X12_354 ⟨rfl, hd_X12_takes⟩ rfl rfl (Nat.le_of_ble_eq_true rfl) dX12_wayTold_97 ⟨Nat.le_of_ble_eq_true rfl, Nat.le_of_ble_eq_true rfl⟩ ⟨Nat.le_of_ble_eq_true rfl, Nat.le_of_ble_eq_true rfl⟩ (fun H locs hW => ?_)
                refine lv_istore_n (lv' := [(2, .int _), (4, .int _), (3, .int _), (0, .ref (E.b + _)), (1, .int _)]) C.x C.b dX12_wayTold_100 rfl hl (by decide) rfl (fun ls hl => ?_)
                refine lv_goto (tgt := 12) C.x C.b dX12_wayTold_101 rfl ?_
                exact ih x97_39 M97_40 hf _ _ _ hW (lv_sub hl [3, 4, 0] rfl)
              · replace hf := x_ip c79 hf
                refine lv_aload_n C.x C.b dX12_wayTold_82 rfl (lv_at hl 2 rfl) ?_
                replace hf := x_b1 hf; obtain ⟨a83_41, ha83_41, hf⟩ := hf
                refine x_getn C hW fg_X12_19_15 ha83_41 dX12_wayTold_83 ?_
                refine lv_iload_n C.x C.b dX12_wayTold_86 rfl (lv_at hl 3 rfl) ?_
                refine lv_iload_n C.x C.b dX12_wayTold_87 rfl (lv_at hl 1 rfl) ?_
                refine lv_iload C.x C.b dX12_wayTold_88 (lv_at hl 0 rfl) ?_
                replace hf := x_b1 hf; obtain ⟨M90_42, hM90_42, hf⟩ := hf
                refine x_callS (As := [.ref (E.b + a83_41), .int v1, .int x24_5, .int x70_35]) (rest := []) C hW hl (qX12_goes l E hM90_42) gs_X12_138 hd_X12_goes rfl rfl (Nat.le_of_ble_eq_true rfl) dX12_wayTold_90 ⟨Nat.le_of_ble_eq_true rfl, Nat.le_of_ble_eq_true rfl⟩ ⟨Nat.le_of_ble_eq_true rfl, Nat.le_of_ble_eq_true rfl⟩ (fun H locs hW => ?_)
                refine lv_aload_n C.x C.b dX12_wayTold_93 rfl (lv_at hl 2 rfl) ?_
                refine x_ldcSW (q := 20) (tx := ",") C (by decide +kernel) dX12_wayTold_94 ?_
                replace hf := x_b1 hf; obtain ⟨_, hk97_43, hf⟩ := hf
                replace hf := x_b2 hf; obtain ⟨x97_44, M97_45, hx97_44, hf⟩ := hf
                refine x_callV (As := [.ref (E.x (100 + 20))]) (a := o) (rest := []) C hW hl (qX12_takes l E hx97_44) (x_gk hk97_43) (by decide) (by decide) rfl gv_X12_354 ⟨rfl, hd_X12_takes⟩ rfl rfl (Nat.le_of_ble_eq_true rfl) dX12_wayTold_97 ⟨Nat.le_of_ble_eq_true rfl, Nat.le_of_ble_eq_true rfl⟩ ⟨Nat.le_of_ble_eq_true rfl, Nat.le_of_ble_eq_true rfl⟩ (fun H locs hW => ?_)
                refine lv_istore_n (lv' := [(2, .int _), (4, .int _), (3, .int _), (0, .ref (E.b + _)), (1, .int _)]) C.x C.b dX12_wayTold_100 rfl hl (by decide) rfl (fun ls hl => ?_)
                refine lv_goto (tgt := 12) C.x C.b dX12_wayTold_101 rfl ?_
                exact ih x97_44 M97_45 hf _ _ _ hW (lv_sub hl [3, 4, 0] rfl)
          · replace hf := x_ip c44 hf
            refine lv_iconst (v := 1) C.x C.b dX12_wayTold_47 (by decide) ?_
            refine lv_goto (tgt := 52) C.x C.b dX12_wayTold_48 rfl ?_
            replace hf := x_b1 hf; obtain ⟨M52_46, hM52_46, hf⟩ := hf
            refine x_putz C hW fp_X12_296_15 hM52_46 (fun h => by cases h) dX12_wayTold_52 (fun H locs hW => ?_)
            refine lv_aload_n C.x C.b dX12_wayTold_55 rfl (lv_at hl 1 rfl) ?_
            replace hf := x_b1 hf; obtain ⟨x56_47, hx56_47, hf⟩ := hf
            refine x_geti C hW fg_X12_296_15 hx56_47 dX12_wayTold_56 ?_
            refine lv_if_ne (tgt := 93) C.x C.b dX12_wayTold_59 rfl (fun c59 => ?_) (fun c59 => ?_)
            · replace hf := x_in c59 hf
              refine lv_aload_n C.x C.b dX12_wayTold_93 rfl (lv_at hl 1 rfl) ?_
              refine x_ldcSW (q := 20) (tx := ",") C (by decide +kernel) dX12_wayTold_94 ?_
              replace hf := x_b1 hf; obtain ⟨_, hk97_48, hf⟩ := hf
              replace hf := x_b2 hf; obtain ⟨x97_49, M97_50, hx97_49, hf⟩ := hf
              refine x_callV (As := [.ref (E.x (100 + 20))]) (a := o) (rest := []) C hW hl (qX12_takes l E hx97_49) (x_gk hk97_48) (by decide) (by decide) rfl gv_X12_354 ⟨rfl, hd_X12_takes⟩ rfl rfl (Nat.le_of_ble_eq_true rfl) dX12_wayTold_97 ⟨Nat.le_of_ble_eq_true rfl, Nat.le_of_ble_eq_true rfl⟩ ⟨Nat.le_of_ble_eq_true rfl, Nat.le_of_ble_eq_true rfl⟩ (fun H locs hW => ?_)
              refine lv_istore_n (lv' := [(2, .int _), (3, .int _), (0, .ref (E.b + _)), (1, .int _)]) C.x C.b dX12_wayTold_100 rfl hl (by decide) rfl (fun ls hl => ?_)
              refine lv_goto (tgt := 12) C.x C.b dX12_wayTold_101 rfl ?_
              exact ih x97_49 M97_50 hf _ _ _ hW (lv_sub hl [2, 3, 0] rfl)
            · replace hf := x_ip c59 hf
              refine lv_aload_n C.x C.b dX12_wayTold_62 rfl (lv_at hl 1 rfl) ?_
              replace hf := x_b1 hf; obtain ⟨_, hk63_51, hf⟩ := hf
              replace hf := x_b1 hf; obtain ⟨M63_52, hM63_52, hf⟩ := hf
              refine x_callV (As := []) (a := o) (rest := []) C hW hl (qX12_next l E hM63_52) (x_gk hk63_51) (by decide) (by decide) rfl gv_X12_313 ⟨rfl, hd_X12_next⟩ rfl rfl (Nat.le_of_ble_eq_true rfl) dX12_wayTold_63 ⟨Nat.le_of_ble_eq_true rfl, Nat.le_of_ble_eq_true rfl⟩ ⟨Nat.le_of_ble_eq_true rfl, Nat.le_of_ble_eq_true rfl⟩ (fun H locs hW => ?_)
              refine lv_aload_n C.x C.b dX12_wayTold_66 rfl (lv_at hl 1 rfl) ?_
              refine lv_iconst (v := 1) C.x C.b dX12_wayTold_67 (by decide) ?_
              refine lv_bipush (v := 60) C.x C.b dX12_wayTold_68 (by decide) ?_
              replace hf := x_b1 hf; obtain ⟨_, hk70_53, hf⟩ := hf
              replace hf := x_b2 hf; obtain ⟨x70_54, M70_55, hx70_54, hf⟩ := hf
              refine x_callV (As := [.int 1, .int 60]) (a := o) (rest := []) C hW hl (qX12_number l E hx70_54) (x_gk hk70_53) (by decide) (by decide) rfl gv_X12_343 ⟨rfl, hd_X12_number⟩ rfl rfl (Nat.le_of_ble_eq_true rfl) dX12_wayTold_70 ⟨Nat.le_of_ble_eq_true rfl, Nat.le_of_ble_eq_true rfl⟩ ⟨Nat.le_of_ble_eq_true rfl, Nat.le_of_ble_eq_true rfl⟩ (fun H locs hW => ?_)
              refine lv_istore (lv' := [(4, .int _), (3, .int _), (0, .ref (E.b + _)), (1, .int _), (2, .int _)]) C.x C.b dX12_wayTold_73 hl (by decide) rfl (fun ls hl => ?_)
              refine lv_aload_n C.x C.b dX12_wayTold_75 rfl (lv_at hl 2 rfl) ?_
              replace hf := x_b1 hf; obtain ⟨x76_56, hx76_56, hf⟩ := hf
              refine x_geti C hW fg_X12_296_15 hx76_56 dX12_wayTold_76 ?_
              refine lv_if_ne (tgt := 93) C.x C.b dX12_wayTold_79 rfl (fun c79 => ?_) (fun c79 => ?_)
              · replace hf := x_in c79 hf
                refine lv_aload_n C.x C.b dX12_wayTold_93 rfl (lv_at hl 2 rfl) ?_
                refine x_ldcSW (q := 20) (tx := ",") C (by decide +kernel) dX12_wayTold_94 ?_
                replace hf := x_b1 hf; obtain ⟨_, hk97_57, hf⟩ := hf
                replace hf := x_b2 hf; obtain ⟨x97_58, M97_59, hx97_58, hf⟩ := hf
                refine x_callV (As := [.ref (E.x (100 + 20))]) (a := o) (rest := []) C hW hl (qX12_takes l E hx97_58) (x_gk hk97_57) (by decide) (by decide) rfl gv_X12_354 ⟨rfl, hd_X12_takes⟩ rfl rfl (Nat.le_of_ble_eq_true rfl) dX12_wayTold_97 ⟨Nat.le_of_ble_eq_true rfl, Nat.le_of_ble_eq_true rfl⟩ ⟨Nat.le_of_ble_eq_true rfl, Nat.le_of_ble_eq_true rfl⟩ (fun H locs hW => ?_)
                refine lv_istore_n (lv' := [(2, .int _), (4, .int _), (3, .int _), (0, .ref (E.b + _)), (1, .int _)]) C.x C.b dX12_wayTold_100 rfl hl (by decide) rfl (fun ls hl => ?_)
                refine lv_goto (tgt := 12) C.x C.b dX12_wayTold_101 rfl ?_
                exact ih x97_58 M97_59 hf _ _ _ hW (lv_sub hl [3, 4, 0] rfl)
              · replace hf := x_ip c79 hf
                refine lv_aload_n C.x C.b dX12_wayTold_82 rfl (lv_at hl 2 rfl) ?_
                replace hf := x_b1 hf; obtain ⟨a83_60, ha83_60, hf⟩ := hf
                refine x_getn C hW fg_X12_19_15 ha83_60 dX12_wayTold_83 ?_
                refine lv_iload_n C.x C.b dX12_wayTold_86 rfl (lv_at hl 3 rfl) ?_
                refine lv_iload_n C.x C.b dX12_wayTold_87 rfl (lv_at hl 1 rfl) ?_
                refine lv_iload C.x C.b dX12_wayTold_88 (lv_at hl 0 rfl) ?_
                replace hf := x_b1 hf; obtain ⟨M90_61, hM90_61, hf⟩ := hf
                refine x_callS (As := [.ref (E.b + a83_60), .int v1, .int x24_5, .int x70_54]) (rest := []) C hW hl (qX12_goes l E hM90_61) gs_X12_138 hd_X12_goes rfl rfl (Nat.le_of_ble_eq_true rfl) dX12_wayTold_90 ⟨Nat.le_of_ble_eq_true rfl, Nat.le_of_ble_eq_true rfl⟩ ⟨Nat.le_of_ble_eq_true rfl, Nat.le_of_ble_eq_true rfl⟩ (fun H locs hW => ?_)
                refine lv_aload_n C.x C.b dX12_wayTold_93 rfl (lv_at hl 2 rfl) ?_
                refine x_ldcSW (q := 20) (tx := ",") C (by decide +kernel) dX12_wayTold_94 ?_
                replace hf := x_b1 hf; obtain ⟨_, hk97_62, hf⟩ := hf
                replace hf := x_b2 hf; obtain ⟨x97_63, M97_64, hx97_63, hf⟩ := hf
                refine x_callV (As := [.ref (E.x (100 + 20))]) (a := o) (rest := []) C hW hl (qX12_takes l E hx97_63) (x_gk hk97_62) (by decide) (by decide) rfl gv_X12_354 ⟨rfl, hd_X12_takes⟩ rfl rfl (Nat.le_of_ble_eq_true rfl) dX12_wayTold_97 ⟨Nat.le_of_ble_eq_true rfl, Nat.le_of_ble_eq_true rfl⟩ ⟨Nat.le_of_ble_eq_true rfl, Nat.le_of_ble_eq_true rfl⟩ (fun H locs hW => ?_)
                refine lv_istore_n (lv' := [(2, .int _), (4, .int _), (3, .int _), (0, .ref (E.b + _)), (1, .int _)]) C.x C.b dX12_wayTold_100 rfl hl (by decide) rfl (fun ls hl => ?_)
                refine lv_goto (tgt := 12) C.x C.b dX12_wayTold_101 rfl ?_
                exact ih x97_63 M97_64 hf _ _ _ hW (lv_sub hl [3, 4, 0] rfl)
set_option maxRecDepth 100000 in
set_option maxHeartbeats 4000000 in
theorem qX12_wayTold (l : Launch) (E : Ev) {M : Mm} {o : Nat} {p1 : Int32} {Mz : Mm} (hf : fX12_wayTold M o p1 = some Mz) : Ct l E yX12_wayTold cX12_wayTold 5 none 6 130 0 0 [.ref (E.b + o), .int p1] M none Mz := by
  refine ct_of (by decide +kernel) (Nat.le_of_ble_eq_true rfl) fun p e s m args below meth c C hr hin hW ls hl => ?_
  have hl : lv_has ls 5 [(0, .ref (E.b + o)), (1, .int p1)] := hl
  unfold fX12_wayTold at hf
  refine lv_aload_n C.x C.b dX12_wayTold_0 rfl (lv_at hl 0 rfl) ?_
  replace hf := x_b1 hf; obtain ⟨a1_1, ha1_1, hf⟩ := hf
  refine x_getn C hW fg_X12_19_15 ha1_1 dX12_wayTold_1 ?_
  refine lv_bipush (v := 12) C.x C.b dX12_wayTold_4 (by decide) ?_
  refine lv_iload_n C.x C.b dX12_wayTold_6 rfl (lv_at hl 1 rfl) ?_
  refine lv_iadd C.x C.b dX12_wayTold_7 ?_
  refine lv_iconst (v := 0) C.x C.b dX12_wayTold_8 (by decide) ?_
  replace hf := x_b1 hf; obtain ⟨M9_2, hM9_2, hf⟩ := hf
  refine x_iast C hW hM9_2 dX12_wayTold_9 (fun H locs hW => ?_)
  refine lv_iconst (v := 1) C.x C.b dX12_wayTold_10 (by decide) ?_
  refine lv_istore_n (lv' := [(2, .int _), (0, .ref (E.b + _)), (1, .int _)]) C.x C.b dX12_wayTold_11 rfl hl (by decide) rfl (fun ls hl => ?_)
  exact kX12_wayTold_L12 C hr hin FL 1 M9_2 hf _ _ _ hW (lv_sub hl [1, 2, 0] rfl)

theorem dX12_item_0 : decode cX12_item 0 = .ok (.aload_n 0, 1) := by decide +kernel
theorem dX12_item_1 : decode cX12_item 1 = .ok (.invokevirtual 363, 3) := by decide +kernel
theorem dX12_item_4 : decode cX12_item 4 = .ok (.istore_n 1, 1) := by decide +kernel
theorem dX12_item_5 : decode cX12_item 5 = .ok (.iload_n 1, 1) := by decide +kernel
theorem dX12_item_6 : decode cX12_item 6 = .ok (.ifCond .lt 11, 3) := by decide +kernel
theorem dX12_item_9 : decode cX12_item 9 = .ok (.aload_n 0, 1) := by decide +kernel
theorem dX12_item_10 : decode cX12_item 10 = .ok (.iload_n 1, 1) := by decide +kernel
theorem dX12_item_11 : decode cX12_item 11 = .ok (.invokevirtual 366, 3) := by decide +kernel
theorem dX12_item_14 : decode cX12_item 14 = .ok (.goto 128, 3) := by decide +kernel
theorem dX12_item_17 : decode cX12_item 17 = .ok (.aload_n 0, 1) := by decide +kernel
theorem dX12_item_18 : decode cX12_item 18 = .ok (.ldc_w 369, 3) := by decide +kernel
theorem dX12_item_21 : decode cX12_item 21 = .ok (.invokevirtual 354, 3) := by decide +kernel
theorem dX12_item_24 : decode cX12_item 24 = .ok (.ifCond .eq 11, 3) := by decide +kernel
theorem dX12_item_27 : decode cX12_item 27 = .ok (.aload_n 0, 1) := by decide +kernel
theorem dX12_item_28 : decode cX12_item 28 = .ok (.iconst 0, 1) := by decide +kernel
theorem dX12_item_29 : decode cX12_item 29 = .ok (.invokevirtual 371, 3) := by decide +kernel
theorem dX12_item_32 : decode cX12_item 32 = .ok (.goto 110, 3) := by decide +kernel
theorem dX12_item_35 : decode cX12_item 35 = .ok (.aload_n 0, 1) := by decide +kernel
theorem dX12_item_36 : decode cX12_item 36 = .ok (.ldc_w 374, 3) := by decide +kernel
theorem dX12_item_39 : decode cX12_item 39 = .ok (.invokevirtual 354, 3) := by decide +kernel
theorem dX12_item_42 : decode cX12_item 42 = .ok (.ifCond .eq 11, 3) := by decide +kernel
theorem dX12_item_45 : decode cX12_item 45 = .ok (.aload_n 0, 1) := by decide +kernel
theorem dX12_item_46 : decode cX12_item 46 = .ok (.iconst 1, 1) := by decide +kernel
theorem dX12_item_47 : decode cX12_item 47 = .ok (.invokevirtual 371, 3) := by decide +kernel
theorem dX12_item_50 : decode cX12_item 50 = .ok (.goto 92, 3) := by decide +kernel
theorem dX12_item_53 : decode cX12_item 53 = .ok (.aload_n 0, 1) := by decide +kernel
theorem dX12_item_54 : decode cX12_item 54 = .ok (.ldc_w 376, 3) := by decide +kernel
theorem dX12_item_57 : decode cX12_item 57 = .ok (.invokevirtual 354, 3) := by decide +kernel
theorem dX12_item_60 : decode cX12_item 60 = .ok (.ifCond .eq 19, 3) := by decide +kernel
theorem dX12_item_63 : decode cX12_item 63 = .ok (.aload_n 0, 1) := by decide +kernel
theorem dX12_item_64 : decode cX12_item 64 = .ok (.getfield 19, 3) := by decide +kernel
theorem dX12_item_67 : decode cX12_item 67 = .ok (.iconst 4, 1) := by decide +kernel
theorem dX12_item_68 : decode cX12_item 68 = .ok (.aload_n 0, 1) := by decide +kernel
theorem dX12_item_69 : decode cX12_item 69 = .ok (.iconst 0, 1) := by decide +kernel
theorem dX12_item_70 : decode cX12_item 70 = .ok (.bipush 9, 2) := by decide +kernel
theorem dX12_item_72 : decode cX12_item 72 = .ok (.invokevirtual 343, 3) := by decide +kernel
theorem dX12_item_75 : decode cX12_item 75 = .ok (.iastore, 1) := by decide +kernel
theorem dX12_item_76 : decode cX12_item 76 = .ok (.goto 66, 3) := by decide +kernel
theorem dX12_item_79 : decode cX12_item 79 = .ok (.aload_n 0, 1) := by decide +kernel
theorem dX12_item_80 : decode cX12_item 80 = .ok (.ldc_w 378, 3) := by decide +kernel
theorem dX12_item_83 : decode cX12_item 83 = .ok (.invokevirtual 354, 3) := by decide +kernel
theorem dX12_item_86 : decode cX12_item 86 = .ok (.ifCond .eq 19, 3) := by decide +kernel
theorem dX12_item_89 : decode cX12_item 89 = .ok (.aload_n 0, 1) := by decide +kernel
theorem dX12_item_90 : decode cX12_item 90 = .ok (.getfield 19, 3) := by decide +kernel
theorem dX12_item_93 : decode cX12_item 93 = .ok (.iconst 5, 1) := by decide +kernel
theorem dX12_item_94 : decode cX12_item 94 = .ok (.aload_n 0, 1) := by decide +kernel
theorem dX12_item_95 : decode cX12_item 95 = .ok (.iconst 0, 1) := by decide +kernel
theorem dX12_item_96 : decode cX12_item 96 = .ok (.bipush 20, 2) := by decide +kernel
theorem dX12_item_98 : decode cX12_item 98 = .ok (.invokevirtual 343, 3) := by decide +kernel
theorem dX12_item_101 : decode cX12_item 101 = .ok (.iastore, 1) := by decide +kernel
theorem dX12_item_102 : decode cX12_item 102 = .ok (.goto 40, 3) := by decide +kernel
theorem dX12_item_105 : decode cX12_item 105 = .ok (.aload_n 0, 1) := by decide +kernel
theorem dX12_item_106 : decode cX12_item 106 = .ok (.ldc_w 380, 3) := by decide +kernel
theorem dX12_item_109 : decode cX12_item 109 = .ok (.invokevirtual 354, 3) := by decide +kernel
theorem dX12_item_112 : decode cX12_item 112 = .ok (.ifCond .eq 11, 3) := by decide +kernel
theorem dX12_item_115 : decode cX12_item 115 = .ok (.aload_n 0, 1) := by decide +kernel
theorem dX12_item_116 : decode cX12_item 116 = .ok (.iconst 0, 1) := by decide +kernel
theorem dX12_item_117 : decode cX12_item 117 = .ok (.invokevirtual 382, 3) := by decide +kernel
theorem dX12_item_120 : decode cX12_item 120 = .ok (.goto 22, 3) := by decide +kernel
theorem dX12_item_123 : decode cX12_item 123 = .ok (.aload_n 0, 1) := by decide +kernel
theorem dX12_item_124 : decode cX12_item 124 = .ok (.ldc_w 385, 3) := by decide +kernel
theorem dX12_item_127 : decode cX12_item 127 = .ok (.invokevirtual 347, 3) := by decide +kernel
theorem dX12_item_130 : decode cX12_item 130 = .ok (.aload_n 0, 1) := by decide +kernel
theorem dX12_item_131 : decode cX12_item 131 = .ok (.getfield 296, 3) := by decide +kernel
theorem dX12_item_134 : decode cX12_item 134 = .ok (.ifCond .ne 8, 3) := by decide +kernel
theorem dX12_item_137 : decode cX12_item 137 = .ok (.aload_n 0, 1) := by decide +kernel
theorem dX12_item_138 : decode cX12_item 138 = .ok (.iconst 1, 1) := by decide +kernel
theorem dX12_item_139 : decode cX12_item 139 = .ok (.invokevirtual 382, 3) := by decide +kernel
theorem dX12_item_142 : decode cX12_item 142 = .ok (.aload_n 0, 1) := by decide +kernel
theorem dX12_item_143 : decode cX12_item 143 = .ok (.ldc_w 387, 3) := by decide +kernel
theorem dX12_item_146 : decode cX12_item 146 = .ok (.invokevirtual 347, 3) := by decide +kernel
theorem dX12_item_149 : decode cX12_item 149 = .ok (.return_, 1) := by decide +kernel
theorem hd_X12_kindHere : yX12_kindHere.cls ≠ "java/lang/invoke/MethodHandle" ∧ yX12_kindHere.cls ≠ "java/lang/invoke/VarHandle" ∧ (parseMethodDescriptor yX12_kindHere.desc).map (fun d => d.parameters.length) = some 0 := by decide +kernel
theorem gv_X12_363 : GoodIn gT (wsV "NylonLadderModel" 363 "NylonLadderModel" yX12_kindHere (Cond.code yX12_kindHere cX12_kindHere 2 (some .int) :: gT)) := good_V T_8_31 T_8_33 TS_78 T_1_10 T_8_34
theorem hd_X12_wayTold : yX12_wayTold.cls ≠ "java/lang/invoke/MethodHandle" ∧ yX12_wayTold.cls ≠ "java/lang/invoke/VarHandle" ∧ (parseMethodDescriptor yX12_wayTold.desc).map (fun d => d.parameters.length) = some 1 := by decide +kernel
theorem gv_X12_382 : GoodIn gT (wsV "NylonLadderModel" 382 "NylonLadderModel" yX12_wayTold (Cond.code yX12_wayTold cX12_wayTold 5 none :: gT)) := good_V T_8_83 T_8_85 TS_86 T_1_10 T_8_86
theorem hd_X12_footTold : yX12_footTold.cls ≠ "java/lang/invoke/MethodHandle" ∧ yX12_footTold.cls ≠ "java/lang/invoke/VarHandle" ∧ (parseMethodDescriptor yX12_footTold.desc).map (fun d => d.parameters.length) = some 1 := by decide +kernel
theorem gv_X12_371 : GoodIn gT (wsV "NylonLadderModel" 371 "NylonLadderModel" yX12_footTold (Cond.code yX12_footTold cX12_footTold 3 none :: gT)) := good_V T_8_75 T_8_77 TS_85 T_1_10 T_8_78
theorem hd_X12_stockingTold : yX12_stockingTold.cls ≠ "java/lang/invoke/MethodHandle" ∧ yX12_stockingTold.cls ≠ "java/lang/invoke/VarHandle" ∧ (parseMethodDescriptor yX12_stockingTold.desc).map (fun d => d.parameters.length) = some 1 := by decide +kernel
theorem gv_X12_366 : GoodIn gT (wsV "NylonLadderModel" 366 "NylonLadderModel" yX12_stockingTold (Cond.code yX12_stockingTold cX12_stockingTold 7 none :: gT)) := good_V T_8_50 T_8_52 TS_80 T_1_10 T_8_53
def fX12_item (M : Mm) (o : Nat) : Option Mm :=
  B1 (gk M o 15) fun _ =>
  B1 (fX12_kindHere M o) fun x1_2 =>
  if x1_2 < 0 then
    B1 (gk M o 15) fun _ =>
    B2 (fX12_takes M o 0) fun x21_4 M21_5 =>
    if x21_4 = 0 then
      B1 (gk M21_5 o 15) fun _ =>
      B2 (fX12_takes M21_5 o 1) fun x39_7 M39_8 =>
      if x39_7 = 0 then
        B1 (gk M39_8 o 15) fun _ =>
        B2 (fX12_takes M39_8 o 2) fun x57_10 M57_11 =>
        if x57_10 = 0 then
          B1 (gk M57_11 o 15) fun _ =>
          B2 (fX12_takes M57_11 o 3) fun x83_13 M83_14 =>
          if x83_13 = 0 then
            B1 (gk M83_14 o 15) fun _ =>
            B2 (fX12_takes M83_14 o 4) fun x109_16 M109_17 =>
            if x109_16 = 0 then
              B1 (gk M109_17 o 15) fun _ =>
              B1 (fX12_wants M109_17 o 9) fun M127_19 =>
              B1 (rdI M127_19 o 15 9) fun x131_20 =>
              if x131_20 = 0 then
                B1 (gk M127_19 o 15) fun _ =>
                B1 (fX12_wayTold M127_19 o 1) fun M139_24 =>
                B1 (gk M139_24 o 15) fun _ =>
                B1 (fX12_wants M139_24 o 21) fun M146_26 =>
                some M146_26
              else
                B1 (gk M127_19 o 15) fun _ =>
                B1 (fX12_wants M127_19 o 21) fun M146_22 =>
                some M146_22
            else
              B1 (gk M109_17 o 15) fun _ =>
              B1 (fX12_wayTold M109_17 o 0) fun M117_28 =>
              B1 (gk M117_28 o 15) fun _ =>
              B1 (fX12_wants M117_28 o 21) fun M146_30 =>
              some M146_30
          else
            B1 (rdN M83_14 o 15 3) fun a90_31 =>
            B1 (gk M83_14 o 15) fun _ =>
            B2 (fX12_number M83_14 o 0 20) fun x98_33 M98_34 =>
            B1 (asI M98_34 a90_31 5 x98_33) fun M101_35 =>
            B1 (gk M101_35 o 15) fun _ =>
            B1 (fX12_wants M101_35 o 21) fun M146_37 =>
            some M146_37
        else
          B1 (rdN M57_11 o 15 3) fun a64_38 =>
          B1 (gk M57_11 o 15) fun _ =>
          B2 (fX12_number M57_11 o 0 9) fun x72_40 M72_41 =>
          B1 (asI M72_41 a64_38 4 x72_40) fun M75_42 =>
          B1 (gk M75_42 o 15) fun _ =>
          B1 (fX12_wants M75_42 o 21) fun M146_44 =>
          some M146_44
      else
        B1 (gk M39_8 o 15) fun _ =>
        B1 (fX12_footTold M39_8 o 1) fun M47_46 =>
        B1 (gk M47_46 o 15) fun _ =>
        B1 (fX12_wants M47_46 o 21) fun M146_48 =>
        some M146_48
    else
      B1 (gk M21_5 o 15) fun _ =>
      B1 (fX12_footTold M21_5 o 0) fun M29_50 =>
      B1 (gk M29_50 o 15) fun _ =>
      B1 (fX12_wants M29_50 o 21) fun M146_52 =>
      some M146_52
  else
    B1 (gk M o 15) fun _ =>
    B1 (fX12_stockingTold M o x1_2) fun M11_54 =>
    B1 (gk M11_54 o 15) fun _ =>
    B1 (fX12_wants M11_54 o 21) fun M146_56 =>
    some M146_56
set_option maxRecDepth 100000 in
set_option maxHeartbeats 4000000 in
theorem qX12_item (l : Launch) (E : Ev) {M : Mm} {o : Nat} {Mz : Mm} (hf : fX12_item M o = some Mz) : Ct l E yX12_item cX12_item 2 none 7 156 0 0 [.ref (E.b + o)] M none Mz := by
  refine ct_of (by decide +kernel) (Nat.le_of_ble_eq_true rfl) fun p e s m args below meth c C hr hin hW ls hl => ?_
  have hl : lv_has ls 2 [(0, .ref (E.b + o))] := hl
  unfold fX12_item at hf
  refine lv_aload_n C.x C.b dX12_item_0 rfl (lv_at hl 0 rfl) ?_
  replace hf := x_b1 hf; obtain ⟨_, hk1_1, hf⟩ := hf
  replace hf := x_b1 hf; obtain ⟨x1_2, hx1_2, hf⟩ := hf
  refine x_callV (As := []) (a := o) (rest := []) C hW hl (qX12_kindHere l E hx1_2) (x_gk hk1_1) (by decide) (by decide) rfl gv_X12_363 ⟨rfl, hd_X12_kindHere⟩ rfl rfl (Nat.le_of_ble_eq_true rfl) dX12_item_1 ⟨Nat.le_of_ble_eq_true rfl, Nat.le_of_ble_eq_true rfl⟩ ⟨Nat.le_of_ble_eq_true rfl, Nat.le_of_ble_eq_true rfl⟩ (fun H locs hW => ?_)
  refine lv_istore_n (lv' := [(1, .int _), (0, .ref (E.b + _))]) C.x C.b dX12_item_4 rfl hl (by decide) rfl (fun ls hl => ?_)
  refine lv_iload_n C.x C.b dX12_item_5 rfl (lv_at hl 0 rfl) ?_
  refine lv_if_lt (tgt := 17) C.x C.b dX12_item_6 rfl (fun c6 => ?_) (fun c6 => ?_)
  · replace hf := x_ip c6 hf
    refine lv_aload_n C.x C.b dX12_item_17 rfl (lv_at hl 1 rfl) ?_
    refine x_ldcSW (q := 0) (tx := "left") C (by decide +kernel) dX12_item_18 ?_
    replace hf := x_b1 hf; obtain ⟨_, hk21_3, hf⟩ := hf
    replace hf := x_b2 hf; obtain ⟨x21_4, M21_5, hx21_4, hf⟩ := hf
    refine x_callV (As := [.ref (E.x (100 + 0))]) (a := o) (rest := []) C hW hl (qX12_takes l E hx21_4) (x_gk hk21_3) (by decide) (by decide) rfl gv_X12_354 ⟨rfl, hd_X12_takes⟩ rfl rfl (Nat.le_of_ble_eq_true rfl) dX12_item_21 ⟨Nat.le_of_ble_eq_true rfl, Nat.le_of_ble_eq_true rfl⟩ ⟨Nat.le_of_ble_eq_true rfl, Nat.le_of_ble_eq_true rfl⟩ (fun H locs hW => ?_)
    refine lv_if_eq (tgt := 35) C.x C.b dX12_item_24 rfl (fun c24 => ?_) (fun c24 => ?_)
    · replace hf := x_ip c24 hf
      refine lv_aload_n C.x C.b dX12_item_35 rfl (lv_at hl 1 rfl) ?_
      refine x_ldcSW (q := 1) (tx := "right") C (by decide +kernel) dX12_item_36 ?_
      replace hf := x_b1 hf; obtain ⟨_, hk39_6, hf⟩ := hf
      replace hf := x_b2 hf; obtain ⟨x39_7, M39_8, hx39_7, hf⟩ := hf
      refine x_callV (As := [.ref (E.x (100 + 1))]) (a := o) (rest := []) C hW hl (qX12_takes l E hx39_7) (x_gk hk39_6) (by decide) (by decide) rfl gv_X12_354 ⟨rfl, hd_X12_takes⟩ rfl rfl (Nat.le_of_ble_eq_true rfl) dX12_item_39 ⟨Nat.le_of_ble_eq_true rfl, Nat.le_of_ble_eq_true rfl⟩ ⟨Nat.le_of_ble_eq_true rfl, Nat.le_of_ble_eq_true rfl⟩ (fun H locs hW => ?_)
      refine lv_if_eq (tgt := 53) C.x C.b dX12_item_42 rfl (fun c42 => ?_) (fun c42 => ?_)
      · replace hf := x_ip c42 hf
        refine lv_aload_n C.x C.b dX12_item_53 rfl (lv_at hl 1 rfl) ?_
        refine x_ldcSW (q := 2) (tx := "step") C (by decide +kernel) dX12_item_54 ?_
        replace hf := x_b1 hf; obtain ⟨_, hk57_9, hf⟩ := hf
        replace hf := x_b2 hf; obtain ⟨x57_10, M57_11, hx57_10, hf⟩ := hf
        refine x_callV (As := [.ref (E.x (100 + 2))]) (a := o) (rest := []) C hW hl (qX12_takes l E hx57_10) (x_gk hk57_9) (by decide) (by decide) rfl gv_X12_354 ⟨rfl, hd_X12_takes⟩ rfl rfl (Nat.le_of_ble_eq_true rfl) dX12_item_57 ⟨Nat.le_of_ble_eq_true rfl, Nat.le_of_ble_eq_true rfl⟩ ⟨Nat.le_of_ble_eq_true rfl, Nat.le_of_ble_eq_true rfl⟩ (fun H locs hW => ?_)
        refine lv_if_eq (tgt := 79) C.x C.b dX12_item_60 rfl (fun c60 => ?_) (fun c60 => ?_)
        · replace hf := x_ip c60 hf
          refine lv_aload_n C.x C.b dX12_item_79 rfl (lv_at hl 1 rfl) ?_
          refine x_ldcSW (q := 3) (tx := "bend") C (by decide +kernel) dX12_item_80 ?_
          replace hf := x_b1 hf; obtain ⟨_, hk83_12, hf⟩ := hf
          replace hf := x_b2 hf; obtain ⟨x83_13, M83_14, hx83_13, hf⟩ := hf
          refine x_callV (As := [.ref (E.x (100 + 3))]) (a := o) (rest := []) C hW hl (qX12_takes l E hx83_13) (x_gk hk83_12) (by decide) (by decide) rfl gv_X12_354 ⟨rfl, hd_X12_takes⟩ rfl rfl (Nat.le_of_ble_eq_true rfl) dX12_item_83 ⟨Nat.le_of_ble_eq_true rfl, Nat.le_of_ble_eq_true rfl⟩ ⟨Nat.le_of_ble_eq_true rfl, Nat.le_of_ble_eq_true rfl⟩ (fun H locs hW => ?_)
          refine lv_if_eq (tgt := 105) C.x C.b dX12_item_86 rfl (fun c86 => ?_) (fun c86 => ?_)
          · replace hf := x_ip c86 hf
            refine lv_aload_n C.x C.b dX12_item_105 rfl (lv_at hl 1 rfl) ?_
            refine x_ldcSW (q := 4) (tx := "go") C (by decide +kernel) dX12_item_106 ?_
            replace hf := x_b1 hf; obtain ⟨_, hk109_15, hf⟩ := hf
            replace hf := x_b2 hf; obtain ⟨x109_16, M109_17, hx109_16, hf⟩ := hf
            refine x_callV (As := [.ref (E.x (100 + 4))]) (a := o) (rest := []) C hW hl (qX12_takes l E hx109_16) (x_gk hk109_15) (by decide) (by decide) rfl gv_X12_354 ⟨rfl, hd_X12_takes⟩ rfl rfl (Nat.le_of_ble_eq_true rfl) dX12_item_109 ⟨Nat.le_of_ble_eq_true rfl, Nat.le_of_ble_eq_true rfl⟩ ⟨Nat.le_of_ble_eq_true rfl, Nat.le_of_ble_eq_true rfl⟩ (fun H locs hW => ?_)
            refine lv_if_eq (tgt := 123) C.x C.b dX12_item_112 rfl (fun c112 => ?_) (fun c112 => ?_)
            · replace hf := x_ip c112 hf
              refine lv_aload_n C.x C.b dX12_item_123 rfl (lv_at hl 1 rfl) ?_
              refine x_ldcSW (q := 9) (tx := "cab") C (by decide +kernel) dX12_item_124 ?_
              replace hf := x_b1 hf; obtain ⟨_, hk127_18, hf⟩ := hf
              replace hf := x_b1 hf; obtain ⟨M127_19, hM127_19, hf⟩ := hf
              refine x_callV (As := [.ref (E.x (100 + 9))]) (a := o) (rest := []) C hW hl (qX12_wants l E hM127_19) (x_gk hk127_18) (by decide) (by decide) rfl gv_X12_347 ⟨rfl, hd_X12_wants⟩ rfl rfl (Nat.le_of_ble_eq_true rfl) dX12_item_127 ⟨Nat.le_of_ble_eq_true rfl, Nat.le_of_ble_eq_true rfl⟩ ⟨Nat.le_of_ble_eq_true rfl, Nat.le_of_ble_eq_true rfl⟩ (fun H locs hW => ?_)
              refine lv_aload_n C.x C.b dX12_item_130 rfl (lv_at hl 1 rfl) ?_
              replace hf := x_b1 hf; obtain ⟨x131_20, hx131_20, hf⟩ := hf
              refine x_geti C hW fg_X12_296_15 hx131_20 dX12_item_131 ?_
              refine lv_if_ne (tgt := 142) C.x C.b dX12_item_134 rfl (fun c134 => ?_) (fun c134 => ?_)
              · replace hf := x_in c134 hf
                refine lv_aload_n C.x C.b dX12_item_142 rfl (lv_at hl 1 rfl) ?_
                refine x_ldcSW (q := 21) (tx := ";") C (by decide +kernel) dX12_item_143 ?_
                replace hf := x_b1 hf; obtain ⟨_, hk146_21, hf⟩ := hf
                replace hf := x_b1 hf; obtain ⟨M146_22, hM146_22, hf⟩ := hf
                refine x_callV (As := [.ref (E.x (100 + 21))]) (a := o) (rest := []) C hW hl (qX12_wants l E hM146_22) (x_gk hk146_21) (by decide) (by decide) rfl gv_X12_347 ⟨rfl, hd_X12_wants⟩ rfl rfl (Nat.le_of_ble_eq_true rfl) dX12_item_146 ⟨Nat.le_of_ble_eq_true rfl, Nat.le_of_ble_eq_true rfl⟩ ⟨Nat.le_of_ble_eq_true rfl, Nat.le_of_ble_eq_true rfl⟩ (fun H locs hW => ?_)
                rw [x_e0 hf]
                exact x_vret C hr hW dX12_item_149
              · replace hf := x_ip c134 hf
                refine lv_aload_n C.x C.b dX12_item_137 rfl (lv_at hl 1 rfl) ?_
                refine lv_iconst (v := 1) C.x C.b dX12_item_138 (by decide) ?_
                replace hf := x_b1 hf; obtain ⟨_, hk139_23, hf⟩ := hf
                replace hf := x_b1 hf; obtain ⟨M139_24, hM139_24, hf⟩ := hf
                refine x_callV (As := [.int 1]) (a := o) (rest := []) C hW hl (qX12_wayTold l E hM139_24) (x_gk hk139_23) (by decide) (by decide) rfl gv_X12_382 ⟨rfl, hd_X12_wayTold⟩ rfl rfl (Nat.le_of_ble_eq_true rfl) dX12_item_139 ⟨Nat.le_of_ble_eq_true rfl, Nat.le_of_ble_eq_true rfl⟩ ⟨Nat.le_of_ble_eq_true rfl, Nat.le_of_ble_eq_true rfl⟩ (fun H locs hW => ?_)
                refine lv_aload_n C.x C.b dX12_item_142 rfl (lv_at hl 1 rfl) ?_
                refine x_ldcSW (q := 21) (tx := ";") C (by decide +kernel) dX12_item_143 ?_
                replace hf := x_b1 hf; obtain ⟨_, hk146_25, hf⟩ := hf
                replace hf := x_b1 hf; obtain ⟨M146_26, hM146_26, hf⟩ := hf
                refine x_callV (As := [.ref (E.x (100 + 21))]) (a := o) (rest := []) C hW hl (qX12_wants l E hM146_26) (x_gk hk146_25) (by decide) (by decide) rfl gv_X12_347 ⟨rfl, hd_X12_wants⟩ rfl rfl (Nat.le_of_ble_eq_true rfl) dX12_item_146 ⟨Nat.le_of_ble_eq_true rfl, Nat.le_of_ble_eq_true rfl⟩ ⟨Nat.le_of_ble_eq_true rfl, Nat.le_of_ble_eq_true rfl⟩ (fun H locs hW => ?_)
                rw [x_e0 hf]
                exact x_vret C hr hW dX12_item_149
            · replace hf := x_in c112 hf
              refine lv_aload_n C.x C.b dX12_item_115 rfl (lv_at hl 1 rfl) ?_
              refine lv_iconst (v := 0) C.x C.b dX12_item_116 (by decide) ?_
              replace hf := x_b1 hf; obtain ⟨_, hk117_27, hf⟩ := hf
              replace hf := x_b1 hf; obtain ⟨M117_28, hM117_28, hf⟩ := hf
              refine x_callV (As := [.int 0]) (a := o) (rest := []) C hW hl (qX12_wayTold l E hM117_28) (x_gk hk117_27) (by decide) (by decide) rfl gv_X12_382 ⟨rfl, hd_X12_wayTold⟩ rfl rfl (Nat.le_of_ble_eq_true rfl) dX12_item_117 ⟨Nat.le_of_ble_eq_true rfl, Nat.le_of_ble_eq_true rfl⟩ ⟨Nat.le_of_ble_eq_true rfl, Nat.le_of_ble_eq_true rfl⟩ (fun H locs hW => ?_)
              refine lv_goto (tgt := 142) C.x C.b dX12_item_120 rfl ?_
              refine lv_aload_n C.x C.b dX12_item_142 rfl (lv_at hl 1 rfl) ?_
              refine x_ldcSW (q := 21) (tx := ";") C (by decide +kernel) dX12_item_143 ?_
              replace hf := x_b1 hf; obtain ⟨_, hk146_29, hf⟩ := hf
              replace hf := x_b1 hf; obtain ⟨M146_30, hM146_30, hf⟩ := hf
              refine x_callV (As := [.ref (E.x (100 + 21))]) (a := o) (rest := []) C hW hl (qX12_wants l E hM146_30) (x_gk hk146_29) (by decide) (by decide) rfl gv_X12_347 ⟨rfl, hd_X12_wants⟩ rfl rfl (Nat.le_of_ble_eq_true rfl) dX12_item_146 ⟨Nat.le_of_ble_eq_true rfl, Nat.le_of_ble_eq_true rfl⟩ ⟨Nat.le_of_ble_eq_true rfl, Nat.le_of_ble_eq_true rfl⟩ (fun H locs hW => ?_)
              rw [x_e0 hf]
              exact x_vret C hr hW dX12_item_149
          · replace hf := x_in c86 hf
            refine lv_aload_n C.x C.b dX12_item_89 rfl (lv_at hl 1 rfl) ?_
            replace hf := x_b1 hf; obtain ⟨a90_31, ha90_31, hf⟩ := hf
            refine x_getn C hW fg_X12_19_15 ha90_31 dX12_item_90 ?_
            refine lv_iconst (v := 5) C.x C.b dX12_item_93 (by decide) ?_
            refine lv_aload_n C.x C.b dX12_item_94 rfl (lv_at hl 1 rfl) ?_
            refine lv_iconst (v := 0) C.x C.b dX12_item_95 (by decide) ?_
            refine lv_bipush (v := 20) C.x C.b dX12_item_96 (by decide) ?_
            replace hf := x_b1 hf; obtain ⟨_, hk98_32, hf⟩ := hf
            replace hf := x_b2 hf; obtain ⟨x98_33, M98_34, hx98_33, hf⟩ := hf
            refine x_callV (As := [.int 0, .int 20]) (a := o) (rest := [.int 5, .ref (E.b + a90_31)]) C hW hl (qX12_number l E hx98_33) (x_gk hk98_32) (by decide) (by decide) rfl gv_X12_343 ⟨rfl, hd_X12_number⟩ rfl rfl (Nat.le_of_ble_eq_true rfl) dX12_item_98 ⟨Nat.le_of_ble_eq_true rfl, Nat.le_of_ble_eq_true rfl⟩ ⟨Nat.le_of_ble_eq_true rfl, Nat.le_of_ble_eq_true rfl⟩ (fun H locs hW => ?_)
            replace hf := x_b1 hf; obtain ⟨M101_35, hM101_35, hf⟩ := hf
            refine x_iast C hW hM101_35 dX12_item_101 (fun H locs hW => ?_)
            refine lv_goto (tgt := 142) C.x C.b dX12_item_102 rfl ?_
            refine lv_aload_n C.x C.b dX12_item_142 rfl (lv_at hl 1 rfl) ?_
            refine x_ldcSW (q := 21) (tx := ";") C (by decide +kernel) dX12_item_143 ?_
            replace hf := x_b1 hf; obtain ⟨_, hk146_36, hf⟩ := hf
            replace hf := x_b1 hf; obtain ⟨M146_37, hM146_37, hf⟩ := hf
            refine x_callV (As := [.ref (E.x (100 + 21))]) (a := o) (rest := []) C hW hl (qX12_wants l E hM146_37) (x_gk hk146_36) (by decide) (by decide) rfl gv_X12_347 ⟨rfl, hd_X12_wants⟩ rfl rfl (Nat.le_of_ble_eq_true rfl) dX12_item_146 ⟨Nat.le_of_ble_eq_true rfl, Nat.le_of_ble_eq_true rfl⟩ ⟨Nat.le_of_ble_eq_true rfl, Nat.le_of_ble_eq_true rfl⟩ (fun H locs hW => ?_)
            rw [x_e0 hf]
            exact x_vret C hr hW dX12_item_149
        · replace hf := x_in c60 hf
          refine lv_aload_n C.x C.b dX12_item_63 rfl (lv_at hl 1 rfl) ?_
          replace hf := x_b1 hf; obtain ⟨a64_38, ha64_38, hf⟩ := hf
          refine x_getn C hW fg_X12_19_15 ha64_38 dX12_item_64 ?_
          refine lv_iconst (v := 4) C.x C.b dX12_item_67 (by decide) ?_
          refine lv_aload_n C.x C.b dX12_item_68 rfl (lv_at hl 1 rfl) ?_
          refine lv_iconst (v := 0) C.x C.b dX12_item_69 (by decide) ?_
          refine lv_bipush (v := 9) C.x C.b dX12_item_70 (by decide) ?_
          replace hf := x_b1 hf; obtain ⟨_, hk72_39, hf⟩ := hf
          replace hf := x_b2 hf; obtain ⟨x72_40, M72_41, hx72_40, hf⟩ := hf
          refine x_callV (As := [.int 0, .int 9]) (a := o) (rest := [.int 4, .ref (E.b + a64_38)]) C hW hl (qX12_number l E hx72_40) (x_gk hk72_39) (by decide) (by decide) rfl gv_X12_343 ⟨rfl, hd_X12_number⟩ rfl rfl (Nat.le_of_ble_eq_true rfl) dX12_item_72 ⟨Nat.le_of_ble_eq_true rfl, Nat.le_of_ble_eq_true rfl⟩ ⟨Nat.le_of_ble_eq_true rfl, Nat.le_of_ble_eq_true rfl⟩ (fun H locs hW => ?_)
          replace hf := x_b1 hf; obtain ⟨M75_42, hM75_42, hf⟩ := hf
          refine x_iast C hW hM75_42 dX12_item_75 (fun H locs hW => ?_)
          refine lv_goto (tgt := 142) C.x C.b dX12_item_76 rfl ?_
          refine lv_aload_n C.x C.b dX12_item_142 rfl (lv_at hl 1 rfl) ?_
          refine x_ldcSW (q := 21) (tx := ";") C (by decide +kernel) dX12_item_143 ?_
          replace hf := x_b1 hf; obtain ⟨_, hk146_43, hf⟩ := hf
          replace hf := x_b1 hf; obtain ⟨M146_44, hM146_44, hf⟩ := hf
          refine x_callV (As := [.ref (E.x (100 + 21))]) (a := o) (rest := []) C hW hl (qX12_wants l E hM146_44) (x_gk hk146_43) (by decide) (by decide) rfl gv_X12_347 ⟨rfl, hd_X12_wants⟩ rfl rfl (Nat.le_of_ble_eq_true rfl) dX12_item_146 ⟨Nat.le_of_ble_eq_true rfl, Nat.le_of_ble_eq_true rfl⟩ ⟨Nat.le_of_ble_eq_true rfl, Nat.le_of_ble_eq_true rfl⟩ (fun H locs hW => ?_)
          rw [x_e0 hf]
          exact x_vret C hr hW dX12_item_149
      · replace hf := x_in c42 hf
        refine lv_aload_n C.x C.b dX12_item_45 rfl (lv_at hl 1 rfl) ?_
        refine lv_iconst (v := 1) C.x C.b dX12_item_46 (by decide) ?_
        replace hf := x_b1 hf; obtain ⟨_, hk47_45, hf⟩ := hf
        replace hf := x_b1 hf; obtain ⟨M47_46, hM47_46, hf⟩ := hf
        refine x_callV (As := [.int 1]) (a := o) (rest := []) C hW hl (qX12_footTold l E hM47_46) (x_gk hk47_45) (by decide) (by decide) rfl gv_X12_371 ⟨rfl, hd_X12_footTold⟩ rfl rfl (Nat.le_of_ble_eq_true rfl) dX12_item_47 ⟨Nat.le_of_ble_eq_true rfl, Nat.le_of_ble_eq_true rfl⟩ ⟨Nat.le_of_ble_eq_true rfl, Nat.le_of_ble_eq_true rfl⟩ (fun H locs hW => ?_)
        refine lv_goto (tgt := 142) C.x C.b dX12_item_50 rfl ?_
        refine lv_aload_n C.x C.b dX12_item_142 rfl (lv_at hl 1 rfl) ?_
        refine x_ldcSW (q := 21) (tx := ";") C (by decide +kernel) dX12_item_143 ?_
        replace hf := x_b1 hf; obtain ⟨_, hk146_47, hf⟩ := hf
        replace hf := x_b1 hf; obtain ⟨M146_48, hM146_48, hf⟩ := hf
        refine x_callV (As := [.ref (E.x (100 + 21))]) (a := o) (rest := []) C hW hl (qX12_wants l E hM146_48) (x_gk hk146_47) (by decide) (by decide) rfl gv_X12_347 ⟨rfl, hd_X12_wants⟩ rfl rfl (Nat.le_of_ble_eq_true rfl) dX12_item_146 ⟨Nat.le_of_ble_eq_true rfl, Nat.le_of_ble_eq_true rfl⟩ ⟨Nat.le_of_ble_eq_true rfl, Nat.le_of_ble_eq_true rfl⟩ (fun H locs hW => ?_)
        rw [x_e0 hf]
        exact x_vret C hr hW dX12_item_149
    · replace hf := x_in c24 hf
      refine lv_aload_n C.x C.b dX12_item_27 rfl (lv_at hl 1 rfl) ?_
      refine lv_iconst (v := 0) C.x C.b dX12_item_28 (by decide) ?_
      replace hf := x_b1 hf; obtain ⟨_, hk29_49, hf⟩ := hf
      replace hf := x_b1 hf; obtain ⟨M29_50, hM29_50, hf⟩ := hf
      refine x_callV (As := [.int 0]) (a := o) (rest := []) C hW hl (qX12_footTold l E hM29_50) (x_gk hk29_49) (by decide) (by decide) rfl gv_X12_371 ⟨rfl, hd_X12_footTold⟩ rfl rfl (Nat.le_of_ble_eq_true rfl) dX12_item_29 ⟨Nat.le_of_ble_eq_true rfl, Nat.le_of_ble_eq_true rfl⟩ ⟨Nat.le_of_ble_eq_true rfl, Nat.le_of_ble_eq_true rfl⟩ (fun H locs hW => ?_)
      refine lv_goto (tgt := 142) C.x C.b dX12_item_32 rfl ?_
      refine lv_aload_n C.x C.b dX12_item_142 rfl (lv_at hl 1 rfl) ?_
      refine x_ldcSW (q := 21) (tx := ";") C (by decide +kernel) dX12_item_143 ?_
      replace hf := x_b1 hf; obtain ⟨_, hk146_51, hf⟩ := hf
      replace hf := x_b1 hf; obtain ⟨M146_52, hM146_52, hf⟩ := hf
      refine x_callV (As := [.ref (E.x (100 + 21))]) (a := o) (rest := []) C hW hl (qX12_wants l E hM146_52) (x_gk hk146_51) (by decide) (by decide) rfl gv_X12_347 ⟨rfl, hd_X12_wants⟩ rfl rfl (Nat.le_of_ble_eq_true rfl) dX12_item_146 ⟨Nat.le_of_ble_eq_true rfl, Nat.le_of_ble_eq_true rfl⟩ ⟨Nat.le_of_ble_eq_true rfl, Nat.le_of_ble_eq_true rfl⟩ (fun H locs hW => ?_)
      rw [x_e0 hf]
      exact x_vret C hr hW dX12_item_149
  · replace hf := x_in c6 hf
    refine lv_aload_n C.x C.b dX12_item_9 rfl (lv_at hl 1 rfl) ?_
    refine lv_iload_n C.x C.b dX12_item_10 rfl (lv_at hl 0 rfl) ?_
    replace hf := x_b1 hf; obtain ⟨_, hk11_53, hf⟩ := hf
    replace hf := x_b1 hf; obtain ⟨M11_54, hM11_54, hf⟩ := hf
    refine x_callV (As := [.int x1_2]) (a := o) (rest := []) C hW hl (qX12_stockingTold l E hM11_54) (x_gk hk11_53) (by decide) (by decide) rfl gv_X12_366 ⟨rfl, hd_X12_stockingTold⟩ rfl rfl (Nat.le_of_ble_eq_true rfl) dX12_item_11 ⟨Nat.le_of_ble_eq_true rfl, Nat.le_of_ble_eq_true rfl⟩ ⟨Nat.le_of_ble_eq_true rfl, Nat.le_of_ble_eq_true rfl⟩ (fun H locs hW => ?_)
    refine lv_goto (tgt := 142) C.x C.b dX12_item_14 rfl ?_
    refine lv_aload_n C.x C.b dX12_item_142 rfl (lv_at hl 1 rfl) ?_
    refine x_ldcSW (q := 21) (tx := ";") C (by decide +kernel) dX12_item_143 ?_
    replace hf := x_b1 hf; obtain ⟨_, hk146_55, hf⟩ := hf
    replace hf := x_b1 hf; obtain ⟨M146_56, hM146_56, hf⟩ := hf
    refine x_callV (As := [.ref (E.x (100 + 21))]) (a := o) (rest := []) C hW hl (qX12_wants l E hM146_56) (x_gk hk146_55) (by decide) (by decide) rfl gv_X12_347 ⟨rfl, hd_X12_wants⟩ rfl rfl (Nat.le_of_ble_eq_true rfl) dX12_item_146 ⟨Nat.le_of_ble_eq_true rfl, Nat.le_of_ble_eq_true rfl⟩ ⟨Nat.le_of_ble_eq_true rfl, Nat.le_of_ble_eq_true rfl⟩ (fun H locs hW => ?_)
    rw [x_e0 hf]
    exact x_vret C hr hW dX12_item_149

theorem dX12_drawer_0 : decode cX12_drawer 0 = .ok (.aload_n 0, 1) := by decide +kernel
theorem dX12_drawer_1 : decode cX12_drawer 1 = .ok (.getfield 9, 3) := by decide +kernel
theorem dX12_drawer_4 : decode cX12_drawer 4 = .ok (.aload_n 0, 1) := by decide +kernel
theorem dX12_drawer_5 : decode cX12_drawer 5 = .ok (.getfield 19, 3) := by decide +kernel
theorem dX12_drawer_8 : decode cX12_drawer 8 = .ok (.invokestatic 204, 3) := by decide +kernel
theorem dX12_drawer_11 : decode cX12_drawer 11 = .ok (.aload_n 0, 1) := by decide +kernel
theorem dX12_drawer_12 : decode cX12_drawer 12 = .ok (.getfield 19, 3) := by decide +kernel
theorem dX12_drawer_15 : decode cX12_drawer 15 = .ok (.invokestatic 53, 3) := by decide +kernel
theorem dX12_drawer_18 : decode cX12_drawer 18 = .ok (.aload_n 0, 1) := by decide +kernel
theorem dX12_drawer_19 : decode cX12_drawer 19 = .ok (.iconst 0, 1) := by decide +kernel
theorem dX12_drawer_20 : decode cX12_drawer 20 = .ok (.putfield 296, 3) := by decide +kernel
theorem dX12_drawer_23 : decode cX12_drawer 23 = .ok (.aload_n 0, 1) := by decide +kernel
theorem dX12_drawer_24 : decode cX12_drawer 24 = .ok (.iconst 0, 1) := by decide +kernel
theorem dX12_drawer_25 : decode cX12_drawer 25 = .ok (.putfield 286, 3) := by decide +kernel
theorem dX12_drawer_28 : decode cX12_drawer 28 = .ok (.aload_n 0, 1) := by decide +kernel
theorem dX12_drawer_29 : decode cX12_drawer 29 = .ok (.invokevirtual 313, 3) := by decide +kernel
theorem dX12_drawer_32 : decode cX12_drawer 32 = .ok (.aload_n 0, 1) := by decide +kernel
theorem dX12_drawer_33 : decode cX12_drawer 33 = .ok (.getfield 296, 3) := by decide +kernel
theorem dX12_drawer_36 : decode cX12_drawer 36 = .ok (.ifCond .ne 21, 3) := by decide +kernel
theorem dX12_drawer_39 : decode cX12_drawer 39 = .ok (.aload_n 0, 1) := by decide +kernel
theorem dX12_drawer_40 : decode cX12_drawer 40 = .ok (.getfield 289, 3) := by decide +kernel
theorem dX12_drawer_43 : decode cX12_drawer 43 = .ok (.aload_n 0, 1) := by decide +kernel
theorem dX12_drawer_44 : decode cX12_drawer 44 = .ok (.getfield 280, 3) := by decide +kernel
theorem dX12_drawer_47 : decode cX12_drawer 47 = .ok (.if_icmp .ge 10, 3) := by decide +kernel
theorem dX12_drawer_50 : decode cX12_drawer 50 = .ok (.aload_n 0, 1) := by decide +kernel
theorem dX12_drawer_51 : decode cX12_drawer 51 = .ok (.invokevirtual 389, 3) := by decide +kernel
theorem dX12_drawer_54 : decode cX12_drawer 54 = .ok (.goto (-22), 3) := by decide +kernel
theorem dX12_drawer_57 : decode cX12_drawer 57 = .ok (.aload_n 0, 1) := by decide +kernel
theorem dX12_drawer_58 : decode cX12_drawer 58 = .ok (.iconst 0, 1) := by decide +kernel
theorem dX12_drawer_59 : decode cX12_drawer 59 = .ok (.putfield 280, 3) := by decide +kernel
theorem dX12_drawer_62 : decode cX12_drawer 62 = .ok (.aload_n 0, 1) := by decide +kernel
theorem dX12_drawer_63 : decode cX12_drawer 63 = .ok (.getfield 296, 3) := by decide +kernel
theorem dX12_drawer_66 : decode cX12_drawer 66 = .ok (.ifCond .eq 11, 3) := by decide +kernel
theorem dX12_drawer_69 : decode cX12_drawer 69 = .ok (.bipush (-100), 2) := by decide +kernel
theorem dX12_drawer_71 : decode cX12_drawer 71 = .ok (.aload_n 0, 1) := by decide +kernel
theorem dX12_drawer_72 : decode cX12_drawer 72 = .ok (.getfield 289, 3) := by decide +kernel
theorem dX12_drawer_75 : decode cX12_drawer 75 = .ok (.isub, 1) := by decide +kernel
theorem dX12_drawer_76 : decode cX12_drawer 76 = .ok (.ireturn, 1) := by decide +kernel
theorem dX12_drawer_77 : decode cX12_drawer 77 = .ok (.aload_n 0, 1) := by decide +kernel
theorem dX12_drawer_78 : decode cX12_drawer 78 = .ok (.getfield 19, 3) := by decide +kernel
theorem dX12_drawer_81 : decode cX12_drawer 81 = .ok (.aload_n 0, 1) := by decide +kernel
theorem dX12_drawer_82 : decode cX12_drawer 82 = .ok (.getfield 9, 3) := by decide +kernel
theorem dX12_drawer_85 : decode cX12_drawer 85 = .ok (.invokestatic 204, 3) := by decide +kernel
theorem dX12_drawer_88 : decode cX12_drawer 88 = .ok (.aload_n 0, 1) := by decide +kernel
theorem dX12_drawer_89 : decode cX12_drawer 89 = .ok (.iconst 0, 1) := by decide +kernel
theorem dX12_drawer_90 : decode cX12_drawer 90 = .ok (.putfield 391, 3) := by decide +kernel
theorem dX12_drawer_93 : decode cX12_drawer 93 = .ok (.aload_n 0, 1) := by decide +kernel
theorem dX12_drawer_94 : decode cX12_drawer 94 = .ok (.getfield 9, 3) := by decide +kernel
theorem dX12_drawer_97 : decode cX12_drawer 97 = .ok (.iconst 0, 1) := by decide +kernel
theorem dX12_drawer_98 : decode cX12_drawer 98 = .ok (.iaload, 1) := by decide +kernel
theorem dX12_drawer_99 : decode cX12_drawer 99 = .ok (.ireturn, 1) := by decide +kernel
theorem fp_X12_391_15 : FdP "NylonLadderModel" 391 15 11 false .int false := ⟨_, _, _, _, _, rfl, by decide, by decide, by decide, gxX12, by decide, T_6_60, Or.inl rfl, rfl, tyX12_ok, nmX12, by decide +kernel, rfl, fun h => by cases h⟩
theorem hd_X12_item : yX12_item.cls ≠ "java/lang/invoke/MethodHandle" ∧ yX12_item.cls ≠ "java/lang/invoke/VarHandle" ∧ (parseMethodDescriptor yX12_item.desc).map (fun d => d.parameters.length) = some 0 := by decide +kernel
theorem gv_X12_389 : GoodIn gT (wsV "NylonLadderModel" 389 "NylonLadderModel" yX12_item (Cond.code yX12_item cX12_item 2 none :: gT)) := good_V T_8_27 T_8_29 TS_77 T_1_10 T_8_30
def fX12_drawer_L32 (o : Nat) : Nat → Mm → Option (Int32 × Mm)
  | 0, _ => none
  | n + 1, M =>
    B1 (rdI M o 15 9) fun x33_10 =>
    if x33_10 = 0 then
      B1 (rdI M o 15 7) fun x40_20 =>
      B1 (rdI M o 15 6) fun x44_21 =>
      if x44_21 ≤ x40_20 then
        B1 (wrI M o 15 6 0) fun M59_22 =>
        B1 (rdI M59_22 o 15 9) fun x63_23 =>
        if x63_23 = 0 then
          B1 (rdN M59_22 o 15 3) fun a78_24 =>
          B1 (rdN M59_22 o 15 0) fun a82_25 =>
          B1 (fX12_become M59_22 a78_24 a82_25) fun M85_26 =>
          B1 (wrI M85_26 o 15 11 0) fun M90_27 =>
          B1 (rdN M90_27 o 15 0) fun a94_28 =>
          B1 (alI M90_27 a94_28 0) fun x98_29 =>
          some (x98_29, M90_27)
        else
          B1 (rdI M59_22 o 15 7) fun x72_30 =>
          some (((-100) - x72_30), M59_22)
      else
        B1 (gk M o 15) fun _ =>
        B1 (fX12_item M o) fun M51_32 =>
        fX12_drawer_L32 o n M51_32
    else
      B1 (wrI M o 15 6 0) fun M59_11 =>
      B1 (rdI M59_11 o 15 9) fun x63_12 =>
      if x63_12 = 0 then
        B1 (rdN M59_11 o 15 3) fun a78_13 =>
        B1 (rdN M59_11 o 15 0) fun a82_14 =>
        B1 (fX12_become M59_11 a78_13 a82_14) fun M85_15 =>
        B1 (wrI M85_15 o 15 11 0) fun M90_16 =>
        B1 (rdN M90_16 o 15 0) fun a94_17 =>
        B1 (alI M90_16 a94_17 0) fun x98_18 =>
        some (x98_18, M90_16)
      else
        B1 (rdI M59_11 o 15 7) fun x72_19 =>
        some (((-100) - x72_19), M59_11)
def fX12_drawer (M : Mm) (o : Nat) : Option (Int32 × Mm) :=
  B1 (rdN M o 15 0) fun a1_1 =>
  B1 (rdN M o 15 3) fun a5_2 =>
  B1 (fX12_become M a1_1 a5_2) fun M8_3 =>
  B1 (rdN M8_3 o 15 3) fun a12_4 =>
  B1 (fX12_begins M8_3 a12_4) fun M15_5 =>
  B1 (wrZ M15_5 o 15 9 0) fun M20_6 =>
  B1 (wrI M20_6 o 15 8 0) fun M25_7 =>
  B1 (gk M25_7 o 15) fun _ =>
  B1 (fX12_next M25_7 o) fun M29_9 =>
  fX12_drawer_L32 o FL M29_9
set_option maxRecDepth 100000 in
set_option maxHeartbeats 4000000 in
theorem kX12_drawer_L32 {l : Launch} {E : Ev} {p : Program} {e : Env} {s : State} {m : MethodId} {args : Array Value} {below : List Frame} {meth : Method} {c : Code} (C : Cx E p s m args meth c cX12_drawer yX12_drawer.cls 1) (hr : meth.sig.returnType = (some .int)) (hin : yX12_drawer.name = "<init>" → meth.name = "<init>")  {o : Nat} {rz : Int32} {Mz : Mm} : ∀ (n : Nat) (M : Mm), fX12_drawer_L32 o n M = some (rz, Mz) → ∀ (H : Heap) (locs : List Loc) (ls : Array Slot), Wx E s H locs M → lv_has ls 1 [(0, .ref (E.b + o))] → W p l e (rM 8 177 0 0) s m args below meth c H locs 0 0 (MQ below (Qp E (some (.int rz)) Mz) args s 0 0 E.A) (F0 m 32 ls []) := by
  intro n
  induction n with
  | zero =>
    intro M hf
    unfold fX12_drawer_L32 at hf
    cases hf
  | succ n ih =>
    intro M hf H locs ls hW hl
    unfold fX12_drawer_L32 at hf
    refine lv_aload_n C.x C.b dX12_drawer_32 rfl (lv_at hl 0 rfl) ?_
    replace hf := x_b1 hf; obtain ⟨x33_10, hx33_10, hf⟩ := hf
    refine x_geti C hW fg_X12_296_15 hx33_10 dX12_drawer_33 ?_
    refine lv_if_ne (tgt := 57) C.x C.b dX12_drawer_36 rfl (fun c36 => ?_) (fun c36 => ?_)
    · replace hf := x_in c36 hf
      refine lv_aload_n C.x C.b dX12_drawer_57 rfl (lv_at hl 0 rfl) ?_
      refine lv_iconst (v := 0) C.x C.b dX12_drawer_58 (by decide) ?_
      replace hf := x_b1 hf; obtain ⟨M59_11, hM59_11, hf⟩ := hf
      refine x_puti C hW fp_X12_280_15 hM59_11 (fun h => by cases h) dX12_drawer_59 (fun H locs hW => ?_)
      refine lv_aload_n C.x C.b dX12_drawer_62 rfl (lv_at hl 0 rfl) ?_
      replace hf := x_b1 hf; obtain ⟨x63_12, hx63_12, hf⟩ := hf
      refine x_geti C hW fg_X12_296_15 hx63_12 dX12_drawer_63 ?_
      refine lv_if_eq (tgt := 77) C.x C.b dX12_drawer_66 rfl (fun c66 => ?_) (fun c66 => ?_)
      · replace hf := x_ip c66 hf
        refine lv_aload_n C.x C.b dX12_drawer_77 rfl (lv_at hl 0 rfl) ?_
        replace hf := x_b1 hf; obtain ⟨a78_13, ha78_13, hf⟩ := hf
        refine x_getn C hW fg_X12_19_15 ha78_13 dX12_drawer_78 ?_
        refine lv_aload_n C.x C.b dX12_drawer_81 rfl (lv_at hl 0 rfl) ?_
        replace hf := x_b1 hf; obtain ⟨a82_14, ha82_14, hf⟩ := hf
        refine x_getn C hW fg_X12_9_15 ha82_14 dX12_drawer_82 ?_
        replace hf := x_b1 hf; obtain ⟨M85_15, hM85_15, hf⟩ := hf
        refine x_callS (As := [.ref (E.b + a78_13), .ref (E.b + a82_14)]) (rest := []) C hW hl (qX12_become l E hM85_15) gs_X12_204 hd_X12_become rfl rfl (Nat.le_of_ble_eq_true rfl) dX12_drawer_85 ⟨Nat.le_of_ble_eq_true rfl, Nat.le_of_ble_eq_true rfl⟩ ⟨Nat.le_of_ble_eq_true rfl, Nat.le_of_ble_eq_true rfl⟩ (fun H locs hW => ?_)
        refine lv_aload_n C.x C.b dX12_drawer_88 rfl (lv_at hl 0 rfl) ?_
        refine lv_iconst (v := 0) C.x C.b dX12_drawer_89 (by decide) ?_
        replace hf := x_b1 hf; obtain ⟨M90_16, hM90_16, hf⟩ := hf
        refine x_puti C hW fp_X12_391_15 hM90_16 (fun h => by cases h) dX12_drawer_90 (fun H locs hW => ?_)
        refine lv_aload_n C.x C.b dX12_drawer_93 rfl (lv_at hl 0 rfl) ?_
        replace hf := x_b1 hf; obtain ⟨a94_17, ha94_17, hf⟩ := hf
        refine x_getn C hW fg_X12_9_15 ha94_17 dX12_drawer_94 ?_
        refine lv_iconst (v := 0) C.x C.b dX12_drawer_97 (by decide) ?_
        replace hf := x_b1 hf; obtain ⟨x98_18, hx98_18, hf⟩ := hf
        refine x_iald C hW hx98_18 dX12_drawer_98 ?_
        rw [x_e1 hf, x_e2 hf]
        exact x_iret C hr hW dX12_drawer_99
      · replace hf := x_in c66 hf
        refine lv_bipush (v := (-100)) C.x C.b dX12_drawer_69 (by decide) ?_
        refine lv_aload_n C.x C.b dX12_drawer_71 rfl (lv_at hl 0 rfl) ?_
        replace hf := x_b1 hf; obtain ⟨x72_19, hx72_19, hf⟩ := hf
        refine x_geti C hW fg_X12_289_15 hx72_19 dX12_drawer_72 ?_
        refine lv_isub C.x C.b dX12_drawer_75 ?_
        rw [x_e1 hf, x_e2 hf]
        exact x_iret C hr hW dX12_drawer_76
    · replace hf := x_ip c36 hf
      refine lv_aload_n C.x C.b dX12_drawer_39 rfl (lv_at hl 0 rfl) ?_
      replace hf := x_b1 hf; obtain ⟨x40_20, hx40_20, hf⟩ := hf
      refine x_geti C hW fg_X12_289_15 hx40_20 dX12_drawer_40 ?_
      refine lv_aload_n C.x C.b dX12_drawer_43 rfl (lv_at hl 0 rfl) ?_
      replace hf := x_b1 hf; obtain ⟨x44_21, hx44_21, hf⟩ := hf
      refine x_geti C hW fg_X12_280_15 hx44_21 dX12_drawer_44 ?_
      refine lv_icmp_ge (tgt := 57) C.x C.b dX12_drawer_47 rfl (fun c47 => ?_) (fun c47 => ?_)
      · replace hf := x_ip c47 hf
        refine lv_aload_n C.x C.b dX12_drawer_57 rfl (lv_at hl 0 rfl) ?_
        refine lv_iconst (v := 0) C.x C.b dX12_drawer_58 (by decide) ?_
        replace hf := x_b1 hf; obtain ⟨M59_22, hM59_22, hf⟩ := hf
        refine x_puti C hW fp_X12_280_15 hM59_22 (fun h => by cases h) dX12_drawer_59 (fun H locs hW => ?_)
        refine lv_aload_n C.x C.b dX12_drawer_62 rfl (lv_at hl 0 rfl) ?_
        replace hf := x_b1 hf; obtain ⟨x63_23, hx63_23, hf⟩ := hf
        refine x_geti C hW fg_X12_296_15 hx63_23 dX12_drawer_63 ?_
        refine lv_if_eq (tgt := 77) C.x C.b dX12_drawer_66 rfl (fun c66 => ?_) (fun c66 => ?_)
        · replace hf := x_ip c66 hf
          refine lv_aload_n C.x C.b dX12_drawer_77 rfl (lv_at hl 0 rfl) ?_
          replace hf := x_b1 hf; obtain ⟨a78_24, ha78_24, hf⟩ := hf
          refine x_getn C hW fg_X12_19_15 ha78_24 dX12_drawer_78 ?_
          refine lv_aload_n C.x C.b dX12_drawer_81 rfl (lv_at hl 0 rfl) ?_
          replace hf := x_b1 hf; obtain ⟨a82_25, ha82_25, hf⟩ := hf
          refine x_getn C hW fg_X12_9_15 ha82_25 dX12_drawer_82 ?_
          replace hf := x_b1 hf; obtain ⟨M85_26, hM85_26, hf⟩ := hf
          refine x_callS (As := [.ref (E.b + a78_24), .ref (E.b + a82_25)]) (rest := []) C hW hl (qX12_become l E hM85_26) gs_X12_204 hd_X12_become rfl rfl (Nat.le_of_ble_eq_true rfl) dX12_drawer_85 ⟨Nat.le_of_ble_eq_true rfl, Nat.le_of_ble_eq_true rfl⟩ ⟨Nat.le_of_ble_eq_true rfl, Nat.le_of_ble_eq_true rfl⟩ (fun H locs hW => ?_)
          refine lv_aload_n C.x C.b dX12_drawer_88 rfl (lv_at hl 0 rfl) ?_
          refine lv_iconst (v := 0) C.x C.b dX12_drawer_89 (by decide) ?_
          replace hf := x_b1 hf; obtain ⟨M90_27, hM90_27, hf⟩ := hf
          refine x_puti C hW fp_X12_391_15 hM90_27 (fun h => by cases h) dX12_drawer_90 (fun H locs hW => ?_)
          refine lv_aload_n C.x C.b dX12_drawer_93 rfl (lv_at hl 0 rfl) ?_
          replace hf := x_b1 hf; obtain ⟨a94_28, ha94_28, hf⟩ := hf
          refine x_getn C hW fg_X12_9_15 ha94_28 dX12_drawer_94 ?_
          refine lv_iconst (v := 0) C.x C.b dX12_drawer_97 (by decide) ?_
          replace hf := x_b1 hf; obtain ⟨x98_29, hx98_29, hf⟩ := hf
          refine x_iald C hW hx98_29 dX12_drawer_98 ?_
          rw [x_e1 hf, x_e2 hf]
          exact x_iret C hr hW dX12_drawer_99
        · replace hf := x_in c66 hf
          refine lv_bipush (v := (-100)) C.x C.b dX12_drawer_69 (by decide) ?_
          refine lv_aload_n C.x C.b dX12_drawer_71 rfl (lv_at hl 0 rfl) ?_
          replace hf := x_b1 hf; obtain ⟨x72_30, hx72_30, hf⟩ := hf
          refine x_geti C hW fg_X12_289_15 hx72_30 dX12_drawer_72 ?_
          refine lv_isub C.x C.b dX12_drawer_75 ?_
          rw [x_e1 hf, x_e2 hf]
          exact x_iret C hr hW dX12_drawer_76
      · replace hf := x_in c47 hf
        refine lv_aload_n C.x C.b dX12_drawer_50 rfl (lv_at hl 0 rfl) ?_
        replace hf := x_b1 hf; obtain ⟨_, hk51_31, hf⟩ := hf
        replace hf := x_b1 hf; obtain ⟨M51_32, hM51_32, hf⟩ := hf
        refine x_callV (As := []) (a := o) (rest := []) C hW hl (qX12_item l E hM51_32) (x_gk hk51_31) (by decide) (by decide) rfl gv_X12_389 ⟨rfl, hd_X12_item⟩ rfl rfl (Nat.le_of_ble_eq_true rfl) dX12_drawer_51 ⟨Nat.le_of_ble_eq_true rfl, Nat.le_of_ble_eq_true rfl⟩ ⟨Nat.le_of_ble_eq_true rfl, Nat.le_of_ble_eq_true rfl⟩ (fun H locs hW => ?_)
        refine lv_goto (tgt := 32) C.x C.b dX12_drawer_54 rfl ?_
        exact ih M51_32 hf _ _ _ hW (lv_sub hl [0] rfl)
set_option maxRecDepth 100000 in
set_option maxHeartbeats 4000000 in
theorem qX12_drawer (l : Launch) (E : Ev) {M : Mm} {o : Nat} {rz : Int32} {Mz : Mm} (hf : fX12_drawer M o = some (rz, Mz)) : Ct l E yX12_drawer cX12_drawer 1 (some .int) 8 177 0 0 [.ref (E.b + o)] M (some (.int rz)) Mz := by
  refine ct_of (by decide +kernel) (Nat.le_of_ble_eq_true rfl) fun p e s m args below meth c C hr hin hW ls hl => ?_
  have hl : lv_has ls 1 [(0, .ref (E.b + o))] := hl
  unfold fX12_drawer at hf
  refine lv_aload_n C.x C.b dX12_drawer_0 rfl (lv_at hl 0 rfl) ?_
  replace hf := x_b1 hf; obtain ⟨a1_1, ha1_1, hf⟩ := hf
  refine x_getn C hW fg_X12_9_15 ha1_1 dX12_drawer_1 ?_
  refine lv_aload_n C.x C.b dX12_drawer_4 rfl (lv_at hl 0 rfl) ?_
  replace hf := x_b1 hf; obtain ⟨a5_2, ha5_2, hf⟩ := hf
  refine x_getn C hW fg_X12_19_15 ha5_2 dX12_drawer_5 ?_
  replace hf := x_b1 hf; obtain ⟨M8_3, hM8_3, hf⟩ := hf
  refine x_callS (As := [.ref (E.b + a1_1), .ref (E.b + a5_2)]) (rest := []) C hW hl (qX12_become l E hM8_3) gs_X12_204 hd_X12_become rfl rfl (Nat.le_of_ble_eq_true rfl) dX12_drawer_8 ⟨Nat.le_of_ble_eq_true rfl, Nat.le_of_ble_eq_true rfl⟩ ⟨Nat.le_of_ble_eq_true rfl, Nat.le_of_ble_eq_true rfl⟩ (fun H locs hW => ?_)
  refine lv_aload_n C.x C.b dX12_drawer_11 rfl (lv_at hl 0 rfl) ?_
  replace hf := x_b1 hf; obtain ⟨a12_4, ha12_4, hf⟩ := hf
  refine x_getn C hW fg_X12_19_15 ha12_4 dX12_drawer_12 ?_
  replace hf := x_b1 hf; obtain ⟨M15_5, hM15_5, hf⟩ := hf
  refine x_callS (As := [.ref (E.b + a12_4)]) (rest := []) C hW hl (qX12_begins l E hM15_5) gs_X12_53 hd_X12_begins rfl rfl (Nat.le_of_ble_eq_true rfl) dX12_drawer_15 ⟨Nat.le_of_ble_eq_true rfl, Nat.le_of_ble_eq_true rfl⟩ ⟨Nat.le_of_ble_eq_true rfl, Nat.le_of_ble_eq_true rfl⟩ (fun H locs hW => ?_)
  refine lv_aload_n C.x C.b dX12_drawer_18 rfl (lv_at hl 0 rfl) ?_
  refine lv_iconst (v := 0) C.x C.b dX12_drawer_19 (by decide) ?_
  replace hf := x_b1 hf; obtain ⟨M20_6, hM20_6, hf⟩ := hf
  refine x_putz C hW fp_X12_296_15 hM20_6 (fun h => by cases h) dX12_drawer_20 (fun H locs hW => ?_)
  refine lv_aload_n C.x C.b dX12_drawer_23 rfl (lv_at hl 0 rfl) ?_
  refine lv_iconst (v := 0) C.x C.b dX12_drawer_24 (by decide) ?_
  replace hf := x_b1 hf; obtain ⟨M25_7, hM25_7, hf⟩ := hf
  refine x_puti C hW fp_X12_286_15 hM25_7 (fun h => by cases h) dX12_drawer_25 (fun H locs hW => ?_)
  refine lv_aload_n C.x C.b dX12_drawer_28 rfl (lv_at hl 0 rfl) ?_
  replace hf := x_b1 hf; obtain ⟨_, hk29_8, hf⟩ := hf
  replace hf := x_b1 hf; obtain ⟨M29_9, hM29_9, hf⟩ := hf
  refine x_callV (As := []) (a := o) (rest := []) C hW hl (qX12_next l E hM29_9) (x_gk hk29_8) (by decide) (by decide) rfl gv_X12_313 ⟨rfl, hd_X12_next⟩ rfl rfl (Nat.le_of_ble_eq_true rfl) dX12_drawer_29 ⟨Nat.le_of_ble_eq_true rfl, Nat.le_of_ble_eq_true rfl⟩ ⟨Nat.le_of_ble_eq_true rfl, Nat.le_of_ble_eq_true rfl⟩ (fun H locs hW => ?_)
  exact kX12_drawer_L32 C hr hin FL M29_9 hf _ _ _ hW (lv_sub hl [0] rfl)

theorem dX12_findDue_0 : decode cX12_findDue 0 = .ok (.aload_n 0, 1) := by decide +kernel
theorem dX12_findDue_1 : decode cX12_findDue 1 = .ok (.getfield 9, 3) := by decide +kernel
theorem dX12_findDue_4 : decode cX12_findDue 4 = .ok (.iconst 2, 1) := by decide +kernel
theorem dX12_findDue_5 : decode cX12_findDue 5 = .ok (.iload_n 1, 1) := by decide +kernel
theorem dX12_findDue_6 : decode cX12_findDue 6 = .ok (.iadd, 1) := by decide +kernel
theorem dX12_findDue_7 : decode cX12_findDue 7 = .ok (.iaload, 1) := by decide +kernel
theorem dX12_findDue_8 : decode cX12_findDue 8 = .ok (.istore_n 3, 1) := by decide +kernel
theorem dX12_findDue_9 : decode cX12_findDue 9 = .ok (.aload_n 0, 1) := by decide +kernel
theorem dX12_findDue_10 : decode cX12_findDue 10 = .ok (.invokevirtual 211, 3) := by decide +kernel
theorem dX12_findDue_13 : decode cX12_findDue 13 = .ok (.iconst 0, 1) := by decide +kernel
theorem dX12_findDue_14 : decode cX12_findDue 14 = .ok (.istore 4, 2) := by decide +kernel
theorem dX12_findDue_16 : decode cX12_findDue 16 = .ok (.iload 4, 2) := by decide +kernel
theorem dX12_findDue_18 : decode cX12_findDue 18 = .ok (.aload_n 0, 1) := by decide +kernel
theorem dX12_findDue_19 : decode cX12_findDue 19 = .ok (.getfield 9, 3) := by decide +kernel
theorem dX12_findDue_22 : decode cX12_findDue 22 = .ok (.bipush 12, 2) := by decide +kernel
theorem dX12_findDue_24 : decode cX12_findDue 24 = .ok (.iload_n 2, 1) := by decide +kernel
theorem dX12_findDue_25 : decode cX12_findDue 25 = .ok (.iadd, 1) := by decide +kernel
theorem dX12_findDue_26 : decode cX12_findDue 26 = .ok (.iaload, 1) := by decide +kernel
theorem dX12_findDue_27 : decode cX12_findDue 27 = .ok (.if_icmp .ge 73, 3) := by decide +kernel
theorem dX12_findDue_30 : decode cX12_findDue 30 = .ok (.aload_n 0, 1) := by decide +kernel
theorem dX12_findDue_31 : decode cX12_findDue 31 = .ok (.iload_n 2, 1) := by decide +kernel
theorem dX12_findDue_32 : decode cX12_findDue 32 = .ok (.iload 4, 2) := by decide +kernel
theorem dX12_findDue_34 : decode cX12_findDue 34 = .ok (.iload 4, 2) := by decide +kernel
theorem dX12_findDue_36 : decode cX12_findDue 36 = .ok (.iconst 1, 1) := by decide +kernel
theorem dX12_findDue_37 : decode cX12_findDue 37 = .ok (.iadd, 1) := by decide +kernel
theorem dX12_findDue_38 : decode cX12_findDue 38 = .ok (.invokevirtual 199, 3) := by decide +kernel
theorem dX12_findDue_41 : decode cX12_findDue 41 = .ok (.aload_n 0, 1) := by decide +kernel
theorem dX12_findDue_42 : decode cX12_findDue 42 = .ok (.getfield 28, 3) := by decide +kernel
theorem dX12_findDue_45 : decode cX12_findDue 45 = .ok (.iconst 3, 1) := by decide +kernel
theorem dX12_findDue_46 : decode cX12_findDue 46 = .ok (.iload 4, 2) := by decide +kernel
theorem dX12_findDue_48 : decode cX12_findDue 48 = .ok (.imul, 1) := by decide +kernel
theorem dX12_findDue_49 : decode cX12_findDue 49 = .ok (.iload 4, 2) := by decide +kernel
theorem dX12_findDue_51 : decode cX12_findDue 51 = .ok (.iastore, 1) := by decide +kernel
theorem dX12_findDue_52 : decode cX12_findDue 52 = .ok (.aload_n 0, 1) := by decide +kernel
theorem dX12_findDue_53 : decode cX12_findDue 53 = .ok (.getfield 28, 3) := by decide +kernel
theorem dX12_findDue_56 : decode cX12_findDue 56 = .ok (.iconst 3, 1) := by decide +kernel
theorem dX12_findDue_57 : decode cX12_findDue 57 = .ok (.iload 4, 2) := by decide +kernel
theorem dX12_findDue_59 : decode cX12_findDue 59 = .ok (.imul, 1) := by decide +kernel
theorem dX12_findDue_60 : decode cX12_findDue 60 = .ok (.iconst 1, 1) := by decide +kernel
theorem dX12_findDue_61 : decode cX12_findDue 61 = .ok (.iadd, 1) := by decide +kernel
theorem dX12_findDue_62 : decode cX12_findDue 62 = .ok (.aload_n 0, 1) := by decide +kernel
theorem dX12_findDue_63 : decode cX12_findDue 63 = .ok (.iload_n 3, 1) := by decide +kernel
theorem dX12_findDue_64 : decode cX12_findDue 64 = .ok (.bipush 6, 2) := by decide +kernel
theorem dX12_findDue_66 : decode cX12_findDue 66 = .ok (.invokevirtual 67, 3) := by decide +kernel
theorem dX12_findDue_69 : decode cX12_findDue 69 = .ok (.invokestatic 105, 3) := by decide +kernel
theorem dX12_findDue_72 : decode cX12_findDue 72 = .ok (.iastore, 1) := by decide +kernel
theorem dX12_findDue_73 : decode cX12_findDue 73 = .ok (.aload_n 0, 1) := by decide +kernel
theorem dX12_findDue_74 : decode cX12_findDue 74 = .ok (.getfield 28, 3) := by decide +kernel
theorem dX12_findDue_77 : decode cX12_findDue 77 = .ok (.iconst 3, 1) := by decide +kernel
theorem dX12_findDue_78 : decode cX12_findDue 78 = .ok (.iload 4, 2) := by decide +kernel
theorem dX12_findDue_80 : decode cX12_findDue 80 = .ok (.imul, 1) := by decide +kernel
theorem dX12_findDue_81 : decode cX12_findDue 81 = .ok (.iconst 2, 1) := by decide +kernel
theorem dX12_findDue_82 : decode cX12_findDue 82 = .ok (.iadd, 1) := by decide +kernel
theorem dX12_findDue_83 : decode cX12_findDue 83 = .ok (.aload_n 0, 1) := by decide +kernel
theorem dX12_findDue_84 : decode cX12_findDue 84 = .ok (.iload_n 3, 1) := by decide +kernel
theorem dX12_findDue_85 : decode cX12_findDue 85 = .ok (.bipush 7, 2) := by decide +kernel
theorem dX12_findDue_87 : decode cX12_findDue 87 = .ok (.invokevirtual 67, 3) := by decide +kernel
theorem dX12_findDue_90 : decode cX12_findDue 90 = .ok (.invokestatic 105, 3) := by decide +kernel
theorem dX12_findDue_93 : decode cX12_findDue 93 = .ok (.iastore, 1) := by decide +kernel
theorem dX12_findDue_94 : decode cX12_findDue 94 = .ok (.iinc 4 1, 3) := by decide +kernel
theorem dX12_findDue_97 : decode cX12_findDue 97 = .ok (.goto (-81), 3) := by decide +kernel
theorem dX12_findDue_100 : decode cX12_findDue 100 = .ok (.aload_n 0, 1) := by decide +kernel
theorem dX12_findDue_101 : decode cX12_findDue 101 = .ok (.invokevirtual 214, 3) := by decide +kernel
theorem dX12_findDue_104 : decode cX12_findDue 104 = .ok (.return_, 1) := by decide +kernel
theorem fg_X12_28_15 : FdG "NylonLadderModel" 28 15 12 true := ⟨_, _, _, _, rfl, by decide, by decide, by decide, gxX12, by decide, T_6_61, Or.inl rfl, rfl⟩
def fX12_findDue_L16 (o : Nat) (v2 : Int32) (v3 : Int32) : Nat → Int32 → Mm → Option Mm
  | 0, _, _ => none
  | n + 1, v4, M =>
    B1 (rdN M o 15 0) fun a19_5 =>
    B1 (alI M a19_5 (12 + v2)) fun x26_6 =>
    if x26_6 ≤ v4 then
      B1 (gk M o 15) fun _ =>
      B1 (fX12_laysBack M o) fun M101_8 =>
      some M101_8
    else
      B1 (gk M o 15) fun _ =>
      B1 (fX12_walks M o v2 v4 (v4 + 1)) fun M38_10 =>
      B1 (rdN M38_10 o 15 12) fun a42_11 =>
      B1 (asI M38_10 a42_11 (3 * v4) v4) fun M51_12 =>
      B1 (rdN M51_12 o 15 12) fun a53_13 =>
      B1 (gk M51_12 o 15) fun _ =>
      B1 (fX12_its M51_12 o v3 6) fun x66_15 =>
      B1 (fX12_told M51_12 x66_15) fun x69_16 =>
      B1 (asI M51_12 a53_13 ((3 * v4) + 1) x69_16) fun M72_17 =>
      B1 (rdN M72_17 o 15 12) fun a74_18 =>
      B1 (gk M72_17 o 15) fun _ =>
      B1 (fX12_its M72_17 o v3 7) fun x87_20 =>
      B1 (fX12_told M72_17 x87_20) fun x90_21 =>
      B1 (asI M72_17 a74_18 ((3 * v4) + 2) x90_21) fun M93_22 =>
      fX12_findDue_L16 o v2 v3 n (v4 + 1) M93_22
def fX12_findDue (M : Mm) (o : Nat) (p1 : Int32) (p2 : Int32) : Option Mm :=
  B1 (rdN M o 15 0) fun a1_1 =>
  B1 (alI M a1_1 (2 + p1)) fun x7_2 =>
  B1 (gk M o 15) fun _ =>
  B1 (fX12_lends M o) fun M10_4 =>
  fX12_findDue_L16 o p2 x7_2 FL 0 M10_4
set_option maxRecDepth 100000 in
set_option maxHeartbeats 4000000 in
theorem kX12_findDue_L16 {l : Launch} {E : Ev} {p : Program} {e : Env} {s : State} {m : MethodId} {args : Array Value} {below : List Frame} {meth : Method} {c : Code} (C : Cx E p s m args meth c cX12_findDue yX12_findDue.cls 5) (hr : meth.sig.returnType = none) (hin : yX12_findDue.name = "<init>" → meth.name = "<init>")  {o : Nat} {v2 : Int32} {v3 : Int32} {Mz : Mm} : ∀ (n : Nat) (v4 : Int32) (M : Mm), fX12_findDue_L16 o v2 v3 n v4 M = some Mz → ∀ (H : Heap) (locs : List Loc) (ls : Array Slot), Wx E s H locs M → lv_has ls 5 [(0, .ref (E.b + o)), (2, .int v2), (3, .int v3), (4, .int v4)] → W p l e (rM 7 168 0 0) s m args below meth c H locs 0 0 (MQ below (Qp E none Mz) args s 0 0 E.A) (F0 m 16 ls []) := by
  intro n
  induction n with
  | zero =>
    intro v4 M hf
    unfold fX12_findDue_L16 at hf
    cases hf
  | succ n ih =>
    intro v4 M hf H locs ls hW hl
    unfold fX12_findDue_L16 at hf
    refine lv_iload C.x C.b dX12_findDue_16 (lv_at hl 3 rfl) ?_
    refine lv_aload_n C.x C.b dX12_findDue_18 rfl (lv_at hl 0 rfl) ?_
    replace hf := x_b1 hf; obtain ⟨a19_5, ha19_5, hf⟩ := hf
    refine x_getn C hW fg_X12_9_15 ha19_5 dX12_findDue_19 ?_
    refine lv_bipush (v := 12) C.x C.b dX12_findDue_22 (by decide) ?_
    refine lv_iload_n C.x C.b dX12_findDue_24 rfl (lv_at hl 1 rfl) ?_
    refine lv_iadd C.x C.b dX12_findDue_25 ?_
    replace hf := x_b1 hf; obtain ⟨x26_6, hx26_6, hf⟩ := hf
    refine x_iald C hW hx26_6 dX12_findDue_26 ?_
    refine lv_icmp_ge (tgt := 100) C.x C.b dX12_findDue_27 rfl (fun c27 => ?_) (fun c27 => ?_)
    · replace hf := x_ip c27 hf
      refine lv_aload_n C.x C.b dX12_findDue_100 rfl (lv_at hl 0 rfl) ?_
      replace hf := x_b1 hf; obtain ⟨_, hk101_7, hf⟩ := hf
      replace hf := x_b1 hf; obtain ⟨M101_8, hM101_8, hf⟩ := hf
      refine x_callV (As := []) (a := o) (rest := []) C hW hl (qX12_laysBack l E hM101_8) (x_gk hk101_7) (by decide) (by decide) rfl gv_X12_214 ⟨rfl, hd_X12_laysBack⟩ rfl rfl (Nat.le_of_ble_eq_true rfl) dX12_findDue_101 ⟨Nat.le_of_ble_eq_true rfl, Nat.le_of_ble_eq_true rfl⟩ ⟨Nat.le_of_ble_eq_true rfl, Nat.le_of_ble_eq_true rfl⟩ (fun H locs hW => ?_)
      rw [x_e0 hf]
      exact x_vret C hr hW dX12_findDue_104
    · replace hf := x_in c27 hf
      refine lv_aload_n C.x C.b dX12_findDue_30 rfl (lv_at hl 0 rfl) ?_
      refine lv_iload_n C.x C.b dX12_findDue_31 rfl (lv_at hl 1 rfl) ?_
      refine lv_iload C.x C.b dX12_findDue_32 (lv_at hl 3 rfl) ?_
      refine lv_iload C.x C.b dX12_findDue_34 (lv_at hl 3 rfl) ?_
      refine lv_iconst (v := 1) C.x C.b dX12_findDue_36 (by decide) ?_
      refine lv_iadd C.x C.b dX12_findDue_37 ?_
      replace hf := x_b1 hf; obtain ⟨_, hk38_9, hf⟩ := hf
      replace hf := x_b1 hf; obtain ⟨M38_10, hM38_10, hf⟩ := hf
      refine x_callV (As := [.int v2, .int v4, .int (v4 + 1)]) (a := o) (rest := []) C hW hl (qX12_walks l E hM38_10) (x_gk hk38_9) (by decide) (by decide) rfl gv_X12_199 ⟨rfl, hd_X12_walks⟩ rfl rfl (Nat.le_of_ble_eq_true rfl) dX12_findDue_38 ⟨Nat.le_of_ble_eq_true rfl, Nat.le_of_ble_eq_true rfl⟩ ⟨Nat.le_of_ble_eq_true rfl, Nat.le_of_ble_eq_true rfl⟩ (fun H locs hW => ?_)
      refine lv_aload_n C.x C.b dX12_findDue_41 rfl (lv_at hl 0 rfl) ?_
      replace hf := x_b1 hf; obtain ⟨a42_11, ha42_11, hf⟩ := hf
      refine x_getn C hW fg_X12_28_15 ha42_11 dX12_findDue_42 ?_
      refine lv_iconst (v := 3) C.x C.b dX12_findDue_45 (by decide) ?_
      refine lv_iload C.x C.b dX12_findDue_46 (lv_at hl 3 rfl) ?_
      refine lv_imul C.x C.b dX12_findDue_48 ?_
      refine lv_iload C.x C.b dX12_findDue_49 (lv_at hl 3 rfl) ?_
      replace hf := x_b1 hf; obtain ⟨M51_12, hM51_12, hf⟩ := hf
      refine x_iast C hW hM51_12 dX12_findDue_51 (fun H locs hW => ?_)
      refine lv_aload_n C.x C.b dX12_findDue_52 rfl (lv_at hl 0 rfl) ?_
      replace hf := x_b1 hf; obtain ⟨a53_13, ha53_13, hf⟩ := hf
      refine x_getn C hW fg_X12_28_15 ha53_13 dX12_findDue_53 ?_
      refine lv_iconst (v := 3) C.x C.b dX12_findDue_56 (by decide) ?_
      refine lv_iload C.x C.b dX12_findDue_57 (lv_at hl 3 rfl) ?_
      refine lv_imul C.x C.b dX12_findDue_59 ?_
      refine lv_iconst (v := 1) C.x C.b dX12_findDue_60 (by decide) ?_
      refine lv_iadd C.x C.b dX12_findDue_61 ?_
      refine lv_aload_n C.x C.b dX12_findDue_62 rfl (lv_at hl 0 rfl) ?_
      refine lv_iload_n C.x C.b dX12_findDue_63 rfl (lv_at hl 2 rfl) ?_
      refine lv_bipush (v := 6) C.x C.b dX12_findDue_64 (by decide) ?_
      replace hf := x_b1 hf; obtain ⟨_, hk66_14, hf⟩ := hf
      replace hf := x_b1 hf; obtain ⟨x66_15, hx66_15, hf⟩ := hf
      refine x_callV (As := [.int v3, .int 6]) (a := o) (rest := [.int ((3 * v4) + 1), .ref (E.b + a53_13)]) C hW hl (qX12_its l E hx66_15) (x_gk hk66_14) (by decide) (by decide) rfl gv_X12_67 ⟨rfl, hd_X12_its⟩ rfl rfl (Nat.le_of_ble_eq_true rfl) dX12_findDue_66 ⟨Nat.le_of_ble_eq_true rfl, Nat.le_of_ble_eq_true rfl⟩ ⟨Nat.le_of_ble_eq_true rfl, Nat.le_of_ble_eq_true rfl⟩ (fun H locs hW => ?_)
      replace hf := x_b1 hf; obtain ⟨x69_16, hx69_16, hf⟩ := hf
      refine x_callS (As := [.int x66_15]) (rest := [.int ((3 * v4) + 1), .ref (E.b + a53_13)]) C hW hl (qX12_told l E hx69_16) gs_X12_105 hd_X12_told rfl rfl (Nat.le_of_ble_eq_true rfl) dX12_findDue_69 ⟨Nat.le_of_ble_eq_true rfl, Nat.le_of_ble_eq_true rfl⟩ ⟨Nat.le_of_ble_eq_true rfl, Nat.le_of_ble_eq_true rfl⟩ (fun H locs hW => ?_)
      replace hf := x_b1 hf; obtain ⟨M72_17, hM72_17, hf⟩ := hf
      refine x_iast C hW hM72_17 dX12_findDue_72 (fun H locs hW => ?_)
      refine lv_aload_n C.x C.b dX12_findDue_73 rfl (lv_at hl 0 rfl) ?_
      replace hf := x_b1 hf; obtain ⟨a74_18, ha74_18, hf⟩ := hf
      refine x_getn C hW fg_X12_28_15 ha74_18 dX12_findDue_74 ?_
      refine lv_iconst (v := 3) C.x C.b dX12_findDue_77 (by decide) ?_
      refine lv_iload C.x C.b dX12_findDue_78 (lv_at hl 3 rfl) ?_
      refine lv_imul C.x C.b dX12_findDue_80 ?_
      refine lv_iconst (v := 2) C.x C.b dX12_findDue_81 (by decide) ?_
      refine lv_iadd C.x C.b dX12_findDue_82 ?_
      refine lv_aload_n C.x C.b dX12_findDue_83 rfl (lv_at hl 0 rfl) ?_
      refine lv_iload_n C.x C.b dX12_findDue_84 rfl (lv_at hl 2 rfl) ?_
      refine lv_bipush (v := 7) C.x C.b dX12_findDue_85 (by decide) ?_
      replace hf := x_b1 hf; obtain ⟨_, hk87_19, hf⟩ := hf
      replace hf := x_b1 hf; obtain ⟨x87_20, hx87_20, hf⟩ := hf
      refine x_callV (As := [.int v3, .int 7]) (a := o) (rest := [.int ((3 * v4) + 2), .ref (E.b + a74_18)]) C hW hl (qX12_its l E hx87_20) (x_gk hk87_19) (by decide) (by decide) rfl gv_X12_67 ⟨rfl, hd_X12_its⟩ rfl rfl (Nat.le_of_ble_eq_true rfl) dX12_findDue_87 ⟨Nat.le_of_ble_eq_true rfl, Nat.le_of_ble_eq_true rfl⟩ ⟨Nat.le_of_ble_eq_true rfl, Nat.le_of_ble_eq_true rfl⟩ (fun H locs hW => ?_)
      replace hf := x_b1 hf; obtain ⟨x90_21, hx90_21, hf⟩ := hf
      refine x_callS (As := [.int x87_20]) (rest := [.int ((3 * v4) + 2), .ref (E.b + a74_18)]) C hW hl (qX12_told l E hx90_21) gs_X12_105 hd_X12_told rfl rfl (Nat.le_of_ble_eq_true rfl) dX12_findDue_90 ⟨Nat.le_of_ble_eq_true rfl, Nat.le_of_ble_eq_true rfl⟩ ⟨Nat.le_of_ble_eq_true rfl, Nat.le_of_ble_eq_true rfl⟩ (fun H locs hW => ?_)
      replace hf := x_b1 hf; obtain ⟨M93_22, hM93_22, hf⟩ := hf
      refine x_iast C hW hM93_22 dX12_findDue_93 (fun H locs hW => ?_)
      refine lv_iinc (v := (v4 + 1)) (lv' := [(4, .int (v4 + 1)), (0, .ref (E.b + _)), (2, .int _), (3, .int _)]) C.x C.b dX12_findDue_94 hl (k := 3) rfl (by first | rfl | decide) (by decide) rfl (fun ls hl => ?_)
      refine lv_goto (tgt := 16) C.x C.b dX12_findDue_97 rfl ?_
      exact ih (v4 + 1) M93_22 hf _ _ _ hW (lv_sub hl [1, 2, 3, 0] rfl)
set_option maxRecDepth 100000 in
set_option maxHeartbeats 4000000 in
theorem qX12_findDue (l : Launch) (E : Ev) {M : Mm} {o : Nat} {p1 : Int32} {p2 : Int32} {Mz : Mm} (hf : fX12_findDue M o p1 p2 = some Mz) : Ct l E yX12_findDue cX12_findDue 5 none 7 168 0 0 [.ref (E.b + o), .int p1, .int p2] M none Mz := by
  refine ct_of (by decide +kernel) (Nat.le_of_ble_eq_true rfl) fun p e s m args below meth c C hr hin hW ls hl => ?_
  have hl : lv_has ls 5 [(0, .ref (E.b + o)), (1, .int p1), (2, .int p2)] := hl
  unfold fX12_findDue at hf
  refine lv_aload_n C.x C.b dX12_findDue_0 rfl (lv_at hl 0 rfl) ?_
  replace hf := x_b1 hf; obtain ⟨a1_1, ha1_1, hf⟩ := hf
  refine x_getn C hW fg_X12_9_15 ha1_1 dX12_findDue_1 ?_
  refine lv_iconst (v := 2) C.x C.b dX12_findDue_4 (by decide) ?_
  refine lv_iload_n C.x C.b dX12_findDue_5 rfl (lv_at hl 1 rfl) ?_
  refine lv_iadd C.x C.b dX12_findDue_6 ?_
  replace hf := x_b1 hf; obtain ⟨x7_2, hx7_2, hf⟩ := hf
  refine x_iald C hW hx7_2 dX12_findDue_7 ?_
  refine lv_istore_n (lv' := [(3, .int _), (0, .ref (E.b + _)), (1, .int _), (2, .int _)]) C.x C.b dX12_findDue_8 rfl hl (by decide) rfl (fun ls hl => ?_)
  refine lv_aload_n C.x C.b dX12_findDue_9 rfl (lv_at hl 1 rfl) ?_
  replace hf := x_b1 hf; obtain ⟨_, hk10_3, hf⟩ := hf
  replace hf := x_b1 hf; obtain ⟨M10_4, hM10_4, hf⟩ := hf
  refine x_callV (As := []) (a := o) (rest := []) C hW hl (qX12_lends l E hM10_4) (x_gk hk10_3) (by decide) (by decide) rfl gv_X12_211 ⟨rfl, hd_X12_lends⟩ rfl rfl (Nat.le_of_ble_eq_true rfl) dX12_findDue_10 ⟨Nat.le_of_ble_eq_true rfl, Nat.le_of_ble_eq_true rfl⟩ ⟨Nat.le_of_ble_eq_true rfl, Nat.le_of_ble_eq_true rfl⟩ (fun H locs hW => ?_)
  refine lv_iconst (v := 0) C.x C.b dX12_findDue_13 (by decide) ?_
  refine lv_istore (lv' := [(4, .int _), (3, .int _), (0, .ref (E.b + _)), (1, .int _), (2, .int _)]) C.x C.b dX12_findDue_14 hl (by decide) rfl (fun ls hl => ?_)
  exact kX12_findDue_L16 C hr hin FL 0 M10_4 hf _ _ _ hW (lv_sub hl [2, 4, 1, 0] rfl)
