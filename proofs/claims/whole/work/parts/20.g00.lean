theorem dX12_first_0 : decode cX12_first 0 = .ok (.iload_n 0, 1) := by decide +kernel
theorem dX12_first_1 : decode cX12_first 1 = .ok (.tableswitch 60 0 6 #[43, 45, 48, 50, 53, 48, 56], 43) := by decide +kernel
theorem dX12_first_44 : decode cX12_first 44 = .ok (.iconst 3, 1) := by decide +kernel
theorem dX12_first_45 : decode cX12_first 45 = .ok (.ireturn, 1) := by decide +kernel
theorem dX12_first_46 : decode cX12_first 46 = .ok (.bipush 10, 2) := by decide +kernel
theorem dX12_first_48 : decode cX12_first 48 = .ok (.ireturn, 1) := by decide +kernel
theorem dX12_first_49 : decode cX12_first 49 = .ok (.iconst 2, 1) := by decide +kernel
theorem dX12_first_50 : decode cX12_first 50 = .ok (.ireturn, 1) := by decide +kernel
theorem dX12_first_51 : decode cX12_first 51 = .ok (.bipush 8, 2) := by decide +kernel
theorem dX12_first_53 : decode cX12_first 53 = .ok (.ireturn, 1) := by decide +kernel
theorem dX12_first_54 : decode cX12_first 54 = .ok (.bipush 60, 2) := by decide +kernel
theorem dX12_first_56 : decode cX12_first 56 = .ok (.ireturn, 1) := by decide +kernel
theorem dX12_first_57 : decode cX12_first 57 = .ok (.sipush 190, 3) := by decide +kernel
theorem dX12_first_60 : decode cX12_first 60 = .ok (.ireturn, 1) := by decide +kernel
theorem dX12_first_61 : decode cX12_first 61 = .ok (.iconst 2, 1) := by decide +kernel
theorem dX12_first_62 : decode cX12_first 62 = .ok (.ireturn, 1) := by decide +kernel
def fX12_first (M : Mm) (p1 : Int32) : Option Int32 :=
  if p1 = 0 then
    some 3
  else
    if p1 = 1 then
      some 10
    else
      if p1 = 2 then
        some 2
      else
        if p1 = 3 then
          some 8
        else
          if p1 = 4 then
            some 60
          else
            if p1 = 5 then
              some 2
            else
              if p1 = 6 then
                some 190
              else
                some 2
set_option maxRecDepth 100000 in
set_option maxHeartbeats 4000000 in
theorem qX12_first (l : Launch) (E : Ev) {M : Mm} {p1 : Int32} {rz : Int32} (hf : fX12_first M p1 = some rz) : Ct l E yX12_first cX12_first 1 (some .int) 0 0 0 0 [.int p1] M (some (.int rz)) M := by
  refine ct_of (by decide +kernel) (Nat.le_of_ble_eq_true rfl) fun p e s m args below meth c C hr hin hW ls hl => ?_
  have hl : lv_has ls 1 [(0, .int p1)] := hl
  unfold fX12_first at hf
  refine lv_iload_n C.x C.b dX12_first_0 rfl (lv_at hl 0 rfl) ?_
  by_cases s1_0 : p1 = 0
  · replace hf := x_ip s1_0 hf
    refine lv_tableIn (off := 43) (tgt := 44) C.x C.b dX12_first_1 (by rw [s1_0]; decide) (by rw [s1_0]; decide) (by rw [s1_0]; rfl) rfl ?_
    refine lv_iconst (v := 3) C.x C.b dX12_first_44 (by decide) ?_
    rw [x_e0 hf]
    exact x_iret C hr hW dX12_first_45
  · replace hf := x_in s1_0 hf
    by_cases s1_1 : p1 = 1
    · replace hf := x_ip s1_1 hf
      refine lv_tableIn (off := 45) (tgt := 46) C.x C.b dX12_first_1 (by rw [s1_1]; decide) (by rw [s1_1]; decide) (by rw [s1_1]; rfl) rfl ?_
      refine lv_bipush (v := 10) C.x C.b dX12_first_46 (by decide) ?_
      rw [x_e0 hf]
      exact x_iret C hr hW dX12_first_48
    · replace hf := x_in s1_1 hf
      by_cases s1_2 : p1 = 2
      · replace hf := x_ip s1_2 hf
        refine lv_tableIn (off := 48) (tgt := 49) C.x C.b dX12_first_1 (by rw [s1_2]; decide) (by rw [s1_2]; decide) (by rw [s1_2]; rfl) rfl ?_
        refine lv_iconst (v := 2) C.x C.b dX12_first_49 (by decide) ?_
        rw [x_e0 hf]
        exact x_iret C hr hW dX12_first_50
      · replace hf := x_in s1_2 hf
        by_cases s1_3 : p1 = 3
        · replace hf := x_ip s1_3 hf
          refine lv_tableIn (off := 50) (tgt := 51) C.x C.b dX12_first_1 (by rw [s1_3]; decide) (by rw [s1_3]; decide) (by rw [s1_3]; rfl) rfl ?_
          refine lv_bipush (v := 8) C.x C.b dX12_first_51 (by decide) ?_
          rw [x_e0 hf]
          exact x_iret C hr hW dX12_first_53
        · replace hf := x_in s1_3 hf
          by_cases s1_4 : p1 = 4
          · replace hf := x_ip s1_4 hf
            refine lv_tableIn (off := 53) (tgt := 54) C.x C.b dX12_first_1 (by rw [s1_4]; decide) (by rw [s1_4]; decide) (by rw [s1_4]; rfl) rfl ?_
            refine lv_bipush (v := 60) C.x C.b dX12_first_54 (by decide) ?_
            rw [x_e0 hf]
            exact x_iret C hr hW dX12_first_56
          · replace hf := x_in s1_4 hf
            by_cases s1_5 : p1 = 5
            · replace hf := x_ip s1_5 hf
              refine lv_tableIn (off := 48) (tgt := 49) C.x C.b dX12_first_1 (by rw [s1_5]; decide) (by rw [s1_5]; decide) (by rw [s1_5]; rfl) rfl ?_
              refine lv_iconst (v := 2) C.x C.b dX12_first_49 (by decide) ?_
              rw [x_e0 hf]
              exact x_iret C hr hW dX12_first_50
            · replace hf := x_in s1_5 hf
              by_cases s1_6 : p1 = 6
              · replace hf := x_ip s1_6 hf
                refine lv_tableIn (off := 56) (tgt := 57) C.x C.b dX12_first_1 (by rw [s1_6]; decide) (by rw [s1_6]; decide) (by rw [s1_6]; rfl) rfl ?_
                refine lv_sipush (v := 190) C.x C.b dX12_first_57 (by decide) ?_
                rw [x_e0 hf]
                exact x_iret C hr hW dX12_first_60
              · replace hf := x_in s1_6 hf
                have s1_0_ := lv_neT (a := 0) s1_0 rfl
                have s1_1_ := lv_neT (a := 1) s1_1 rfl
                have s1_2_ := lv_neT (a := 2) s1_2 rfl
                have s1_3_ := lv_neT (a := 3) s1_3 rfl
                have s1_4_ := lv_neT (a := 4) s1_4 rfl
                have s1_5_ := lv_neT (a := 5) s1_5 rfl
                have s1_6_ := lv_neT (a := 6) s1_6 rfl
                refine lv_tableOut (tgt := 61) C.x C.b dX12_first_1 (by omega) rfl ?_
                refine lv_iconst (v := 2) C.x C.b dX12_first_61 (by decide) ?_
                rw [x_e0 hf]
                exact x_iret C hr hW dX12_first_62

theorem dX12_begins_0 : decode cX12_begins 0 = .ok (.aload_n 0, 1) := by decide +kernel
theorem dX12_begins_1 : decode cX12_begins 1 = .ok (.iconst 0, 1) := by decide +kernel
theorem dX12_begins_2 : decode cX12_begins 2 = .ok (.iconst 0, 1) := by decide +kernel
theorem dX12_begins_3 : decode cX12_begins 3 = .ok (.iastore, 1) := by decide +kernel
theorem dX12_begins_4 : decode cX12_begins 4 = .ok (.aload_n 0, 1) := by decide +kernel
theorem dX12_begins_5 : decode cX12_begins 5 = .ok (.iconst 2, 1) := by decide +kernel
theorem dX12_begins_6 : decode cX12_begins 6 = .ok (.iconst (-1), 1) := by decide +kernel
theorem dX12_begins_7 : decode cX12_begins 7 = .ok (.iastore, 1) := by decide +kernel
theorem dX12_begins_8 : decode cX12_begins 8 = .ok (.aload_n 0, 1) := by decide +kernel
theorem dX12_begins_9 : decode cX12_begins 9 = .ok (.iconst 3, 1) := by decide +kernel
theorem dX12_begins_10 : decode cX12_begins 10 = .ok (.iconst (-1), 1) := by decide +kernel
theorem dX12_begins_11 : decode cX12_begins 11 = .ok (.iastore, 1) := by decide +kernel
theorem dX12_begins_12 : decode cX12_begins 12 = .ok (.aload_n 0, 1) := by decide +kernel
theorem dX12_begins_13 : decode cX12_begins 13 = .ok (.bipush 12, 2) := by decide +kernel
theorem dX12_begins_15 : decode cX12_begins 15 = .ok (.iconst 0, 1) := by decide +kernel
theorem dX12_begins_16 : decode cX12_begins 16 = .ok (.iastore, 1) := by decide +kernel
theorem dX12_begins_17 : decode cX12_begins 17 = .ok (.aload_n 0, 1) := by decide +kernel
theorem dX12_begins_18 : decode cX12_begins 18 = .ok (.bipush 13, 2) := by decide +kernel
theorem dX12_begins_20 : decode cX12_begins 20 = .ok (.iconst 0, 1) := by decide +kernel
theorem dX12_begins_21 : decode cX12_begins 21 = .ok (.iastore, 1) := by decide +kernel
theorem dX12_begins_22 : decode cX12_begins 22 = .ok (.iconst 0, 1) := by decide +kernel
theorem dX12_begins_23 : decode cX12_begins 23 = .ok (.istore_n 1, 1) := by decide +kernel
theorem dX12_begins_24 : decode cX12_begins 24 = .ok (.iload_n 1, 1) := by decide +kernel
theorem dX12_begins_25 : decode cX12_begins 25 = .ok (.bipush 8, 2) := by decide +kernel
theorem dX12_begins_27 : decode cX12_begins 27 = .ok (.if_icmp .ge 18, 3) := by decide +kernel
theorem dX12_begins_30 : decode cX12_begins 30 = .ok (.aload_n 0, 1) := by decide +kernel
theorem dX12_begins_31 : decode cX12_begins 31 = .ok (.iconst 4, 1) := by decide +kernel
theorem dX12_begins_32 : decode cX12_begins 32 = .ok (.iload_n 1, 1) := by decide +kernel
theorem dX12_begins_33 : decode cX12_begins 33 = .ok (.iadd, 1) := by decide +kernel
theorem dX12_begins_34 : decode cX12_begins 34 = .ok (.iload_n 1, 1) := by decide +kernel
theorem dX12_begins_35 : decode cX12_begins 35 = .ok (.invokestatic 57, 3) := by decide +kernel
theorem dX12_begins_38 : decode cX12_begins 38 = .ok (.iastore, 1) := by decide +kernel
theorem dX12_begins_39 : decode cX12_begins 39 = .ok (.iinc 1 1, 3) := by decide +kernel
theorem dX12_begins_42 : decode cX12_begins 42 = .ok (.goto (-18), 3) := by decide +kernel
theorem dX12_begins_45 : decode cX12_begins 45 = .ok (.return_, 1) := by decide +kernel
theorem hd_X12_first : yX12_first.cls ≠ "java/lang/invoke/MethodHandle" ∧ yX12_first.cls ≠ "java/lang/invoke/VarHandle" ∧ (parseMethodDescriptor yX12_first.desc).map (fun d => d.parameters.length) = some 1 := by decide +kernel
theorem gs_X12_57 : GoodIn gT (va_wsS "NylonLadderModel" 57 yX12_first (Cond.code yX12_first cX12_first 1 (some .int) :: gT)) := good_S T_6_46 T_6_47 T_1_10 T_6_48
def fX12_begins_L24 (v0 : Nat) : Nat → Int32 → Mm → Option Mm
  | 0, _, _ => none
  | n + 1, v1, M =>
    if 8 ≤ v1 then
      some M
    else
      B1 (fX12_first M v1) fun x35_6 =>
      B1 (asI M v0 (4 + v1) x35_6) fun M38_7 =>
      fX12_begins_L24 v0 n (v1 + 1) M38_7
def fX12_begins (M : Mm) (p1 : Nat) : Option Mm :=
  B1 (asI M p1 0 0) fun M3_1 =>
  B1 (asI M3_1 p1 2 (-1)) fun M7_2 =>
  B1 (asI M7_2 p1 3 (-1)) fun M11_3 =>
  B1 (asI M11_3 p1 12 0) fun M16_4 =>
  B1 (asI M16_4 p1 13 0) fun M21_5 =>
  fX12_begins_L24 p1 FL 0 M21_5
set_option maxRecDepth 100000 in
set_option maxHeartbeats 4000000 in
theorem kX12_begins_L24 {l : Launch} {E : Ev} {p : Program} {e : Env} {s : State} {m : MethodId} {args : Array Value} {below : List Frame} {meth : Method} {c : Code} (C : Cx E p s m args meth c cX12_begins yX12_begins.cls 2) (hr : meth.sig.returnType = none) (hin : yX12_begins.name = "<init>" → meth.name = "<init>")  {v0 : Nat} {Mz : Mm} : ∀ (n : Nat) (v1 : Int32) (M : Mm), fX12_begins_L24 v0 n v1 M = some Mz → ∀ (H : Heap) (locs : List Loc) (ls : Array Slot), Wx E s H locs M → lv_has ls 2 [(0, .ref (E.b + v0)), (1, .int v1)] → W p l e (rM 1 20 0 0) s m args below meth c H locs 0 0 (MQ below (Qp E none Mz) args s 0 0 E.A) (F0 m 24 ls []) := by
  intro n
  induction n with
  | zero =>
    intro v1 M hf
    unfold fX12_begins_L24 at hf
    cases hf
  | succ n ih =>
    intro v1 M hf H locs ls hW hl
    unfold fX12_begins_L24 at hf
    refine lv_iload_n C.x C.b dX12_begins_24 rfl (lv_at hl 1 rfl) ?_
    refine lv_bipush (v := 8) C.x C.b dX12_begins_25 (by decide) ?_
    refine lv_icmp_ge (tgt := 45) C.x C.b dX12_begins_27 rfl (fun c27 => ?_) (fun c27 => ?_)
    · replace hf := x_ip c27 hf
      rw [x_e0 hf]
      exact x_vret C hr hW dX12_begins_45
    · replace hf := x_in c27 hf
      refine lv_aload_n C.x C.b dX12_begins_30 rfl (lv_at hl 0 rfl) ?_
      refine lv_iconst (v := 4) C.x C.b dX12_begins_31 (by decide) ?_
      refine lv_iload_n C.x C.b dX12_begins_32 rfl (lv_at hl 1 rfl) ?_
      refine lv_iadd C.x C.b dX12_begins_33 ?_
      refine lv_iload_n C.x C.b dX12_begins_34 rfl (lv_at hl 1 rfl) ?_
      replace hf := x_b1 hf; obtain ⟨x35_6, hx35_6, hf⟩ := hf
      refine x_callS (As := [.int v1]) (rest := [.int (4 + v1), .ref (E.b + v0)]) C hW hl (qX12_first l E hx35_6) gs_X12_57 hd_X12_first rfl rfl (Nat.le_of_ble_eq_true rfl) dX12_begins_35 ⟨Nat.le_of_ble_eq_true rfl, Nat.le_of_ble_eq_true rfl⟩ ⟨Nat.le_of_ble_eq_true rfl, Nat.le_of_ble_eq_true rfl⟩ (fun H locs hW => ?_)
      replace hf := x_b1 hf; obtain ⟨M38_7, hM38_7, hf⟩ := hf
      refine x_iast C hW hM38_7 dX12_begins_38 (fun H locs hW => ?_)
      refine lv_iinc (v := (v1 + 1)) (lv' := [(1, .int (v1 + 1)), (0, .ref (E.b + _))]) C.x C.b dX12_begins_39 hl (k := 1) rfl (by first | rfl | decide) (by decide) rfl (fun ls hl => ?_)
      refine lv_goto (tgt := 24) C.x C.b dX12_begins_42 rfl ?_
      exact ih (v1 + 1) M38_7 hf _ _ _ hW (lv_sub hl [1, 0] rfl)
set_option maxRecDepth 100000 in
set_option maxHeartbeats 4000000 in
theorem qX12_begins (l : Launch) (E : Ev) {M : Mm} {p1 : Nat} {Mz : Mm} (hf : fX12_begins M p1 = some Mz) : Ct l E yX12_begins cX12_begins 2 none 1 20 0 0 [.ref (E.b + p1)] M none Mz := by
  refine ct_of (by decide +kernel) (Nat.le_of_ble_eq_true rfl) fun p e s m args below meth c C hr hin hW ls hl => ?_
  have hl : lv_has ls 2 [(0, .ref (E.b + p1))] := hl
  unfold fX12_begins at hf
  refine lv_aload_n C.x C.b dX12_begins_0 rfl (lv_at hl 0 rfl) ?_
  refine lv_iconst (v := 0) C.x C.b dX12_begins_1 (by decide) ?_
  refine lv_iconst (v := 0) C.x C.b dX12_begins_2 (by decide) ?_
  replace hf := x_b1 hf; obtain ⟨M3_1, hM3_1, hf⟩ := hf
  refine x_iast C hW hM3_1 dX12_begins_3 (fun H locs hW => ?_)
  refine lv_aload_n C.x C.b dX12_begins_4 rfl (lv_at hl 0 rfl) ?_
  refine lv_iconst (v := 2) C.x C.b dX12_begins_5 (by decide) ?_
  refine lv_iconst (v := (-1)) C.x C.b dX12_begins_6 (by decide) ?_
  replace hf := x_b1 hf; obtain ⟨M7_2, hM7_2, hf⟩ := hf
  refine x_iast C hW hM7_2 dX12_begins_7 (fun H locs hW => ?_)
  refine lv_aload_n C.x C.b dX12_begins_8 rfl (lv_at hl 0 rfl) ?_
  refine lv_iconst (v := 3) C.x C.b dX12_begins_9 (by decide) ?_
  refine lv_iconst (v := (-1)) C.x C.b dX12_begins_10 (by decide) ?_
  replace hf := x_b1 hf; obtain ⟨M11_3, hM11_3, hf⟩ := hf
  refine x_iast C hW hM11_3 dX12_begins_11 (fun H locs hW => ?_)
  refine lv_aload_n C.x C.b dX12_begins_12 rfl (lv_at hl 0 rfl) ?_
  refine lv_bipush (v := 12) C.x C.b dX12_begins_13 (by decide) ?_
  refine lv_iconst (v := 0) C.x C.b dX12_begins_15 (by decide) ?_
  replace hf := x_b1 hf; obtain ⟨M16_4, hM16_4, hf⟩ := hf
  refine x_iast C hW hM16_4 dX12_begins_16 (fun H locs hW => ?_)
  refine lv_aload_n C.x C.b dX12_begins_17 rfl (lv_at hl 0 rfl) ?_
  refine lv_bipush (v := 13) C.x C.b dX12_begins_18 (by decide) ?_
  refine lv_iconst (v := 0) C.x C.b dX12_begins_20 (by decide) ?_
  replace hf := x_b1 hf; obtain ⟨M21_5, hM21_5, hf⟩ := hf
  refine x_iast C hW hM21_5 dX12_begins_21 (fun H locs hW => ?_)
  refine lv_iconst (v := 0) C.x C.b dX12_begins_22 (by decide) ?_
  refine lv_istore_n (lv' := [(1, .int _), (0, .ref (E.b + _))]) C.x C.b dX12_begins_23 rfl hl (by decide) rfl (fun ls hl => ?_)
  exact kX12_begins_L24 C hr hin FL 0 M21_5 hf _ _ _ hW (lv_sub hl [1, 0] rfl)

theorem dX12_init_0 : decode cX12_init 0 = .ok (.aload_n 0, 1) := by decide +kernel
theorem dX12_init_1 : decode cX12_init 1 = .ok (.invokespecial 3, 3) := by decide +kernel
theorem dX12_init_4 : decode cX12_init 4 = .ok (.aload_n 0, 1) := by decide +kernel
theorem dX12_init_5 : decode cX12_init 5 = .ok (.sipush 158, 3) := by decide +kernel
theorem dX12_init_8 : decode cX12_init 8 = .ok (.newarray .int, 2) := by decide +kernel
theorem dX12_init_10 : decode cX12_init 10 = .ok (.putfield 9, 3) := by decide +kernel
theorem dX12_init_13 : decode cX12_init 13 = .ok (.aload_n 0, 1) := by decide +kernel
theorem dX12_init_14 : decode cX12_init 14 = .ok (.sipush 158, 3) := by decide +kernel
theorem dX12_init_17 : decode cX12_init 17 = .ok (.newarray .int, 2) := by decide +kernel
theorem dX12_init_19 : decode cX12_init 19 = .ok (.putfield 13, 3) := by decide +kernel
theorem dX12_init_22 : decode cX12_init 22 = .ok (.aload_n 0, 1) := by decide +kernel
theorem dX12_init_23 : decode cX12_init 23 = .ok (.sipush 158, 3) := by decide +kernel
theorem dX12_init_26 : decode cX12_init 26 = .ok (.newarray .int, 2) := by decide +kernel
theorem dX12_init_28 : decode cX12_init 28 = .ok (.putfield 16, 3) := by decide +kernel
theorem dX12_init_31 : decode cX12_init 31 = .ok (.aload_n 0, 1) := by decide +kernel
theorem dX12_init_32 : decode cX12_init 32 = .ok (.sipush 158, 3) := by decide +kernel
theorem dX12_init_35 : decode cX12_init 35 = .ok (.newarray .int, 2) := by decide +kernel
theorem dX12_init_37 : decode cX12_init 37 = .ok (.putfield 19, 3) := by decide +kernel
theorem dX12_init_40 : decode cX12_init 40 = .ok (.aload_n 0, 1) := by decide +kernel
theorem dX12_init_41 : decode cX12_init 41 = .ok (.sipush 200, 3) := by decide +kernel
theorem dX12_init_44 : decode cX12_init 44 = .ok (.newarray .int, 2) := by decide +kernel
theorem dX12_init_46 : decode cX12_init 46 = .ok (.putfield 22, 3) := by decide +kernel
theorem dX12_init_49 : decode cX12_init 49 = .ok (.aload_n 0, 1) := by decide +kernel
theorem dX12_init_50 : decode cX12_init 50 = .ok (.bipush 30, 2) := by decide +kernel
theorem dX12_init_52 : decode cX12_init 52 = .ok (.newarray .int, 2) := by decide +kernel
theorem dX12_init_54 : decode cX12_init 54 = .ok (.putfield 25, 3) := by decide +kernel
theorem dX12_init_57 : decode cX12_init 57 = .ok (.aload_n 0, 1) := by decide +kernel
theorem dX12_init_58 : decode cX12_init 58 = .ok (.bipush 30, 2) := by decide +kernel
theorem dX12_init_60 : decode cX12_init 60 = .ok (.newarray .int, 2) := by decide +kernel
theorem dX12_init_62 : decode cX12_init 62 = .ok (.putfield 28, 3) := by decide +kernel
theorem dX12_init_65 : decode cX12_init 65 = .ok (.aload_n 0, 1) := by decide +kernel
theorem dX12_init_66 : decode cX12_init 66 = .ok (.iconst 4, 1) := by decide +kernel
theorem dX12_init_67 : decode cX12_init 67 = .ok (.newarray .int, 2) := by decide +kernel
theorem dX12_init_69 : decode cX12_init 69 = .ok (.dup, 1) := by decide +kernel
theorem dX12_init_70 : decode cX12_init 70 = .ok (.iconst 0, 1) := by decide +kernel
theorem dX12_init_71 : decode cX12_init 71 = .ok (.iconst (-1), 1) := by decide +kernel
theorem dX12_init_72 : decode cX12_init 72 = .ok (.iastore, 1) := by decide +kernel
theorem dX12_init_73 : decode cX12_init 73 = .ok (.dup, 1) := by decide +kernel
theorem dX12_init_74 : decode cX12_init 74 = .ok (.iconst 1, 1) := by decide +kernel
theorem dX12_init_75 : decode cX12_init 75 = .ok (.iconst (-1), 1) := by decide +kernel
theorem dX12_init_76 : decode cX12_init 76 = .ok (.iastore, 1) := by decide +kernel
theorem dX12_init_77 : decode cX12_init 77 = .ok (.dup, 1) := by decide +kernel
theorem dX12_init_78 : decode cX12_init 78 = .ok (.iconst 2, 1) := by decide +kernel
theorem dX12_init_79 : decode cX12_init 79 = .ok (.iconst (-1), 1) := by decide +kernel
theorem dX12_init_80 : decode cX12_init 80 = .ok (.iastore, 1) := by decide +kernel
theorem dX12_init_81 : decode cX12_init 81 = .ok (.dup, 1) := by decide +kernel
theorem dX12_init_82 : decode cX12_init 82 = .ok (.iconst 3, 1) := by decide +kernel
theorem dX12_init_83 : decode cX12_init 83 = .ok (.iconst (-1), 1) := by decide +kernel
theorem dX12_init_84 : decode cX12_init 84 = .ok (.iastore, 1) := by decide +kernel
theorem dX12_init_85 : decode cX12_init 85 = .ok (.putfield 31, 3) := by decide +kernel
theorem dX12_init_88 : decode cX12_init 88 = .ok (.aload_n 0, 1) := by decide +kernel
theorem dX12_init_89 : decode cX12_init 89 = .ok (.iconst 4, 1) := by decide +kernel
theorem dX12_init_90 : decode cX12_init 90 = .ok (.newarray .int, 2) := by decide +kernel
theorem dX12_init_92 : decode cX12_init 92 = .ok (.putfield 34, 3) := by decide +kernel
theorem dX12_init_95 : decode cX12_init 95 = .ok (.aload_n 0, 1) := by decide +kernel
theorem dX12_init_96 : decode cX12_init 96 = .ok (.sipush 160, 3) := by decide +kernel
theorem dX12_init_99 : decode cX12_init 99 = .ok (.newarray .long, 2) := by decide +kernel
theorem dX12_init_101 : decode cX12_init 101 = .ok (.putfield 37, 3) := by decide +kernel
theorem dX12_init_104 : decode cX12_init 104 = .ok (.aload_n 0, 1) := by decide +kernel
theorem dX12_init_105 : decode cX12_init 105 = .ok (.iconst 4, 1) := by decide +kernel
theorem dX12_init_106 : decode cX12_init 106 = .ok (.newarray .int, 2) := by decide +kernel
theorem dX12_init_108 : decode cX12_init 108 = .ok (.dup, 1) := by decide +kernel
theorem dX12_init_109 : decode cX12_init 109 = .ok (.iconst 0, 1) := by decide +kernel
theorem dX12_init_110 : decode cX12_init 110 = .ok (.iconst 2, 1) := by decide +kernel
theorem dX12_init_111 : decode cX12_init 111 = .ok (.iastore, 1) := by decide +kernel
theorem dX12_init_112 : decode cX12_init 112 = .ok (.dup, 1) := by decide +kernel
theorem dX12_init_113 : decode cX12_init 113 = .ok (.iconst 1, 1) := by decide +kernel
theorem dX12_init_114 : decode cX12_init 114 = .ok (.iconst 2, 1) := by decide +kernel
theorem dX12_init_115 : decode cX12_init 115 = .ok (.iastore, 1) := by decide +kernel
theorem dX12_init_116 : decode cX12_init 116 = .ok (.dup, 1) := by decide +kernel
theorem dX12_init_117 : decode cX12_init 117 = .ok (.iconst 2, 1) := by decide +kernel
theorem dX12_init_118 : decode cX12_init 118 = .ok (.iconst 2, 1) := by decide +kernel
theorem dX12_init_119 : decode cX12_init 119 = .ok (.iastore, 1) := by decide +kernel
theorem dX12_init_120 : decode cX12_init 120 = .ok (.dup, 1) := by decide +kernel
theorem dX12_init_121 : decode cX12_init 121 = .ok (.iconst 3, 1) := by decide +kernel
theorem dX12_init_122 : decode cX12_init 122 = .ok (.iconst 2, 1) := by decide +kernel
theorem dX12_init_123 : decode cX12_init 123 = .ok (.iastore, 1) := by decide +kernel
theorem dX12_init_124 : decode cX12_init 124 = .ok (.putfield 41, 3) := by decide +kernel
theorem dX12_init_127 : decode cX12_init 127 = .ok (.aload_n 0, 1) := by decide +kernel
theorem dX12_init_128 : decode cX12_init 128 = .ok (.iconst 4, 1) := by decide +kernel
theorem dX12_init_129 : decode cX12_init 129 = .ok (.newarray .int, 2) := by decide +kernel
theorem dX12_init_131 : decode cX12_init 131 = .ok (.putfield 44, 3) := by decide +kernel
theorem dX12_init_134 : decode cX12_init 134 = .ok (.aload_n 0, 1) := by decide +kernel
theorem dX12_init_135 : decode cX12_init 135 = .ok (.iconst 4, 1) := by decide +kernel
theorem dX12_init_136 : decode cX12_init 136 = .ok (.newarray .int, 2) := by decide +kernel
theorem dX12_init_138 : decode cX12_init 138 = .ok (.putfield 47, 3) := by decide +kernel
theorem dX12_init_141 : decode cX12_init 141 = .ok (.aload_n 0, 1) := by decide +kernel
theorem dX12_init_142 : decode cX12_init 142 = .ok (.bipush 30, 2) := by decide +kernel
theorem dX12_init_144 : decode cX12_init 144 = .ok (.newarray .int, 2) := by decide +kernel
theorem dX12_init_146 : decode cX12_init 146 = .ok (.putfield 50, 3) := by decide +kernel
theorem dX12_init_149 : decode cX12_init 149 = .ok (.aload_n 0, 1) := by decide +kernel
theorem dX12_init_150 : decode cX12_init 150 = .ok (.getfield 9, 3) := by decide +kernel
theorem dX12_init_153 : decode cX12_init 153 = .ok (.invokestatic 53, 3) := by decide +kernel
theorem dX12_init_156 : decode cX12_init 156 = .ok (.aload_n 0, 1) := by decide +kernel
theorem dX12_init_157 : decode cX12_init 157 = .ok (.getfield 9, 3) := by decide +kernel
theorem dX12_init_160 : decode cX12_init 160 = .ok (.iconst 1, 1) := by decide +kernel
theorem dX12_init_161 : decode cX12_init 161 = .ok (.iconst 1, 1) := by decide +kernel
theorem dX12_init_162 : decode cX12_init 162 = .ok (.iastore, 1) := by decide +kernel
theorem dX12_init_163 : decode cX12_init 163 = .ok (.return_, 1) := by decide +kernel
theorem fp_X12_9_15 : FdP "NylonLadderModel" 9 15 0 true (.array .int) true := ⟨_, _, _, _, _, rfl, by decide, by decide, by decide, gxX12, by decide, T_6_49, Or.inl rfl, rfl, tyX12_ok, nmX12, by decide +kernel, rfl, fun _ => rfl⟩
theorem fp_X12_13_15 : FdP "NylonLadderModel" 13 15 1 true (.array .int) true := ⟨_, _, _, _, _, rfl, by decide, by decide, by decide, gxX12, by decide, T_6_50, Or.inl rfl, rfl, tyX12_ok, nmX12, by decide +kernel, rfl, fun _ => rfl⟩
theorem fp_X12_16_15 : FdP "NylonLadderModel" 16 15 2 true (.array .int) true := ⟨_, _, _, _, _, rfl, by decide, by decide, by decide, gxX12, by decide, T_6_51, Or.inl rfl, rfl, tyX12_ok, nmX12, by decide +kernel, rfl, fun _ => rfl⟩
theorem fp_X12_19_15 : FdP "NylonLadderModel" 19 15 3 true (.array .int) true := ⟨_, _, _, _, _, rfl, by decide, by decide, by decide, gxX12, by decide, T_6_52, Or.inl rfl, rfl, tyX12_ok, nmX12, by decide +kernel, rfl, fun _ => rfl⟩
theorem fp_X12_22_15 : FdP "NylonLadderModel" 22 15 5 true (.array .int) true := ⟨_, _, _, _, _, rfl, by decide, by decide, by decide, gxX12, by decide, T_6_54, Or.inl rfl, rfl, tyX12_ok, nmX12, by decide +kernel, rfl, fun _ => rfl⟩
theorem fp_X12_25_15 : FdP "NylonLadderModel" 25 15 10 true (.array .int) true := ⟨_, _, _, _, _, rfl, by decide, by decide, by decide, gxX12, by decide, T_6_59, Or.inl rfl, rfl, tyX12_ok, nmX12, by decide +kernel, rfl, fun _ => rfl⟩
theorem fp_X12_28_15 : FdP "NylonLadderModel" 28 15 12 true (.array .int) true := ⟨_, _, _, _, _, rfl, by decide, by decide, by decide, gxX12, by decide, T_6_61, Or.inl rfl, rfl, tyX12_ok, nmX12, by decide +kernel, rfl, fun _ => rfl⟩
theorem fp_X12_31_15 : FdP "NylonLadderModel" 31 15 13 true (.array .int) true := ⟨_, _, _, _, _, rfl, by decide, by decide, by decide, gxX12, by decide, T_6_62, Or.inl rfl, rfl, tyX12_ok, nmX12, by decide +kernel, rfl, fun _ => rfl⟩
theorem fp_X12_34_15 : FdP "NylonLadderModel" 34 15 14 true (.array .int) true := ⟨_, _, _, _, _, rfl, by decide, by decide, by decide, gxX12, by decide, T_6_63, Or.inl rfl, rfl, tyX12_ok, nmX12, by decide +kernel, rfl, fun _ => rfl⟩
theorem fp_X12_37_15 : FdP "NylonLadderModel" 37 15 15 true (.array .long) true := ⟨_, _, _, _, _, rfl, by decide, by decide, by decide, gxX12, by decide, T_6_64, Or.inl rfl, rfl, tyX12_ok, nmX12, by decide +kernel, rfl, fun _ => rfl⟩
theorem fp_X12_41_15 : FdP "NylonLadderModel" 41 15 16 true (.array .int) true := ⟨_, _, _, _, _, rfl, by decide, by decide, by decide, gxX12, by decide, T_6_65, Or.inl rfl, rfl, tyX12_ok, nmX12, by decide +kernel, rfl, fun _ => rfl⟩
theorem fp_X12_44_15 : FdP "NylonLadderModel" 44 15 17 true (.array .int) true := ⟨_, _, _, _, _, rfl, by decide, by decide, by decide, gxX12, by decide, T_6_66, Or.inl rfl, rfl, tyX12_ok, nmX12, by decide +kernel, rfl, fun _ => rfl⟩
theorem fp_X12_47_15 : FdP "NylonLadderModel" 47 15 18 true (.array .int) true := ⟨_, _, _, _, _, rfl, by decide, by decide, by decide, gxX12, by decide, T_6_67, Or.inl rfl, rfl, tyX12_ok, nmX12, by decide +kernel, rfl, fun _ => rfl⟩
theorem fp_X12_50_15 : FdP "NylonLadderModel" 50 15 19 true (.array .int) true := ⟨_, _, _, _, _, rfl, by decide, by decide, by decide, gxX12, by decide, T_6_68, Or.inl rfl, rfl, tyX12_ok, nmX12, by decide +kernel, rfl, fun _ => rfl⟩
theorem fg_X12_9_15 : FdG "NylonLadderModel" 9 15 0 true := ⟨_, _, _, _, rfl, by decide, by decide, by decide, gxX12, by decide, T_6_49, Or.inl rfl, rfl⟩
theorem hd_X12_begins : yX12_begins.cls ≠ "java/lang/invoke/MethodHandle" ∧ yX12_begins.cls ≠ "java/lang/invoke/VarHandle" ∧ (parseMethodDescriptor yX12_begins.desc).map (fun d => d.parameters.length) = some 1 := by decide +kernel
theorem gs_X12_53 : GoodIn gT (va_wsS "NylonLadderModel" 53 yX12_begins (Cond.code yX12_begins cX12_begins 2 none :: gT)) := good_S T_6_43 T_6_44 T_1_10 T_6_45
def fX12_init (M : Mm) (o : Nat) : Option Mm :=
  B1 (nwA M 21 158 158) fun M8_1 =>
  B1 (wrR M8_1 o 15 0 (some M.n)) fun M10_2 =>
  B1 (nwA M10_2 21 158 158) fun M17_3 =>
  B1 (wrR M17_3 o 15 1 (some M10_2.n)) fun M19_4 =>
  B1 (nwA M19_4 21 158 158) fun M26_5 =>
  B1 (wrR M26_5 o 15 2 (some M19_4.n)) fun M28_6 =>
  B1 (nwA M28_6 21 158 158) fun M35_7 =>
  B1 (wrR M35_7 o 15 3 (some M28_6.n)) fun M37_8 =>
  B1 (nwA M37_8 21 200 200) fun M44_9 =>
  B1 (wrR M44_9 o 15 5 (some M37_8.n)) fun M46_10 =>
  B1 (nwA M46_10 21 30 30) fun M52_11 =>
  B1 (wrR M52_11 o 15 10 (some M46_10.n)) fun M54_12 =>
  B1 (nwA M54_12 21 30 30) fun M60_13 =>
  B1 (wrR M60_13 o 15 12 (some M54_12.n)) fun M62_14 =>
  B1 (nwA M62_14 21 4 4) fun M67_15 =>
  B1 (asI M67_15 M62_14.n 0 (-1)) fun M72_16 =>
  B1 (asI M72_16 M62_14.n 1 (-1)) fun M76_17 =>
  B1 (asI M76_17 M62_14.n 2 (-1)) fun M80_18 =>
  B1 (asI M80_18 M62_14.n 3 (-1)) fun M84_19 =>
  B1 (wrR M84_19 o 15 13 (some M62_14.n)) fun M85_20 =>
  B1 (nwA M85_20 21 4 4) fun M90_21 =>
  B1 (wrR M90_21 o 15 14 (some M85_20.n)) fun M92_22 =>
  B1 (nwA M92_22 22 160 160) fun M99_23 =>
  B1 (wrR M99_23 o 15 15 (some M92_22.n)) fun M101_24 =>
  B1 (nwA M101_24 21 4 4) fun M106_25 =>
  B1 (asI M106_25 M101_24.n 0 2) fun M111_26 =>
  B1 (asI M111_26 M101_24.n 1 2) fun M115_27 =>
  B1 (asI M115_27 M101_24.n 2 2) fun M119_28 =>
  B1 (asI M119_28 M101_24.n 3 2) fun M123_29 =>
  B1 (wrR M123_29 o 15 16 (some M101_24.n)) fun M124_30 =>
  B1 (nwA M124_30 21 4 4) fun M129_31 =>
  B1 (wrR M129_31 o 15 17 (some M124_30.n)) fun M131_32 =>
  B1 (nwA M131_32 21 4 4) fun M136_33 =>
  B1 (wrR M136_33 o 15 18 (some M131_32.n)) fun M138_34 =>
  B1 (nwA M138_34 21 30 30) fun M144_35 =>
  B1 (wrR M144_35 o 15 19 (some M138_34.n)) fun M146_36 =>
  B1 (rdN M146_36 o 15 0) fun a150_37 =>
  B1 (fX12_begins M146_36 a150_37) fun M153_38 =>
  B1 (rdN M153_38 o 15 0) fun a157_39 =>
  B1 (asI M153_38 a157_39 1 1) fun M162_40 =>
  some M162_40
set_option maxRecDepth 100000 in
set_option maxHeartbeats 4000000 in
theorem qX12_init (l : Launch) (E : Ev) {M : Mm} {o : Nat} {Mz : Mm} (hf : fX12_init M o = some Mz) : Ct l E yX12_init cX12_init 1 none 2 41 14 1102 [.ref (E.b + o)] M none Mz := by
  refine ct_of (by decide +kernel) (Nat.le_of_ble_eq_true rfl) fun p e s m args below meth c C hr hin hW ls hl => ?_
  have hl : lv_has ls 1 [(0, .ref (E.b + o))] := hl
  unfold fX12_init at hf
  refine lv_aload_n C.x C.b dX12_init_0 rfl (lv_at hl 0 rfl) ?_
  refine x_objInit C hl T_6_42 T_1_35 T_1_36 dX12_init_1 (Nat.le_of_ble_eq_true rfl) (Nat.le_of_ble_eq_true rfl) ?_
  refine lv_aload_n C.x C.b dX12_init_4 rfl (lv_at hl 0 rfl) ?_
  refine lv_sipush (v := 158) C.x C.b dX12_init_5 (by decide) ?_
  replace hf := x_b1 hf; obtain ⟨M8_1, hM8_1, hf⟩ := hf
  refine x_newa C hW hM8_1 T_1_69 (by decide) ⟨Nat.le_of_ble_eq_true rfl, Nat.le_of_ble_eq_true rfl⟩ dX12_init_8 (fun H hW => ?_)
  replace hf := x_b1 hf; obtain ⟨M10_2, hM10_2, hf⟩ := hf
  refine x_putr (v := (some M.n)) C hW fp_X12_9_15 hM10_2 (fun _ => hin rfl) rfl rfl dX12_init_10 (fun H locs hW => ?_)
  refine lv_aload_n C.x C.b dX12_init_13 rfl (lv_at hl 0 rfl) ?_
  refine lv_sipush (v := 158) C.x C.b dX12_init_14 (by decide) ?_
  replace hf := x_b1 hf; obtain ⟨M17_3, hM17_3, hf⟩ := hf
  refine x_newa C hW hM17_3 T_1_69 (by decide) ⟨Nat.le_of_ble_eq_true rfl, Nat.le_of_ble_eq_true rfl⟩ dX12_init_17 (fun H hW => ?_)
  replace hf := x_b1 hf; obtain ⟨M19_4, hM19_4, hf⟩ := hf
  refine x_putr (v := (some M10_2.n)) C hW fp_X12_13_15 hM19_4 (fun _ => hin rfl) rfl rfl dX12_init_19 (fun H locs hW => ?_)
  refine lv_aload_n C.x C.b dX12_init_22 rfl (lv_at hl 0 rfl) ?_
  refine lv_sipush (v := 158) C.x C.b dX12_init_23 (by decide) ?_
  replace hf := x_b1 hf; obtain ⟨M26_5, hM26_5, hf⟩ := hf
  refine x_newa C hW hM26_5 T_1_69 (by decide) ⟨Nat.le_of_ble_eq_true rfl, Nat.le_of_ble_eq_true rfl⟩ dX12_init_26 (fun H hW => ?_)
  replace hf := x_b1 hf; obtain ⟨M28_6, hM28_6, hf⟩ := hf
  refine x_putr (v := (some M19_4.n)) C hW fp_X12_16_15 hM28_6 (fun _ => hin rfl) rfl rfl dX12_init_28 (fun H locs hW => ?_)
  refine lv_aload_n C.x C.b dX12_init_31 rfl (lv_at hl 0 rfl) ?_
  refine lv_sipush (v := 158) C.x C.b dX12_init_32 (by decide) ?_
  replace hf := x_b1 hf; obtain ⟨M35_7, hM35_7, hf⟩ := hf
  refine x_newa C hW hM35_7 T_1_69 (by decide) ⟨Nat.le_of_ble_eq_true rfl, Nat.le_of_ble_eq_true rfl⟩ dX12_init_35 (fun H hW => ?_)
  replace hf := x_b1 hf; obtain ⟨M37_8, hM37_8, hf⟩ := hf
  refine x_putr (v := (some M28_6.n)) C hW fp_X12_19_15 hM37_8 (fun _ => hin rfl) rfl rfl dX12_init_37 (fun H locs hW => ?_)
  refine lv_aload_n C.x C.b dX12_init_40 rfl (lv_at hl 0 rfl) ?_
  refine lv_sipush (v := 200) C.x C.b dX12_init_41 (by decide) ?_
  replace hf := x_b1 hf; obtain ⟨M44_9, hM44_9, hf⟩ := hf
  refine x_newa C hW hM44_9 T_1_69 (by decide) ⟨Nat.le_of_ble_eq_true rfl, Nat.le_of_ble_eq_true rfl⟩ dX12_init_44 (fun H hW => ?_)
  replace hf := x_b1 hf; obtain ⟨M46_10, hM46_10, hf⟩ := hf
  refine x_putr (v := (some M37_8.n)) C hW fp_X12_22_15 hM46_10 (fun _ => hin rfl) rfl rfl dX12_init_46 (fun H locs hW => ?_)
  refine lv_aload_n C.x C.b dX12_init_49 rfl (lv_at hl 0 rfl) ?_
  refine lv_bipush (v := 30) C.x C.b dX12_init_50 (by decide) ?_
  replace hf := x_b1 hf; obtain ⟨M52_11, hM52_11, hf⟩ := hf
  refine x_newa C hW hM52_11 T_1_69 (by decide) ⟨Nat.le_of_ble_eq_true rfl, Nat.le_of_ble_eq_true rfl⟩ dX12_init_52 (fun H hW => ?_)
  replace hf := x_b1 hf; obtain ⟨M54_12, hM54_12, hf⟩ := hf
  refine x_putr (v := (some M46_10.n)) C hW fp_X12_25_15 hM54_12 (fun _ => hin rfl) rfl rfl dX12_init_54 (fun H locs hW => ?_)
  refine lv_aload_n C.x C.b dX12_init_57 rfl (lv_at hl 0 rfl) ?_
  refine lv_bipush (v := 30) C.x C.b dX12_init_58 (by decide) ?_
  replace hf := x_b1 hf; obtain ⟨M60_13, hM60_13, hf⟩ := hf
  refine x_newa C hW hM60_13 T_1_69 (by decide) ⟨Nat.le_of_ble_eq_true rfl, Nat.le_of_ble_eq_true rfl⟩ dX12_init_60 (fun H hW => ?_)
  replace hf := x_b1 hf; obtain ⟨M62_14, hM62_14, hf⟩ := hf
  refine x_putr (v := (some M54_12.n)) C hW fp_X12_28_15 hM62_14 (fun _ => hin rfl) rfl rfl dX12_init_62 (fun H locs hW => ?_)
  refine lv_aload_n C.x C.b dX12_init_65 rfl (lv_at hl 0 rfl) ?_
  refine lv_iconst (v := 4) C.x C.b dX12_init_66 (by decide) ?_
  replace hf := x_b1 hf; obtain ⟨M67_15, hM67_15, hf⟩ := hf
  refine x_newa C hW hM67_15 T_1_69 (by decide) ⟨Nat.le_of_ble_eq_true rfl, Nat.le_of_ble_eq_true rfl⟩ dX12_init_67 (fun H hW => ?_)
  refine lv_dup C.x C.b dX12_init_69 rfl ?_
  refine lv_iconst (v := 0) C.x C.b dX12_init_70 (by decide) ?_
  refine lv_iconst (v := (-1)) C.x C.b dX12_init_71 (by decide) ?_
  replace hf := x_b1 hf; obtain ⟨M72_16, hM72_16, hf⟩ := hf
  refine x_iast C hW hM72_16 dX12_init_72 (fun H locs hW => ?_)
  refine lv_dup C.x C.b dX12_init_73 rfl ?_
  refine lv_iconst (v := 1) C.x C.b dX12_init_74 (by decide) ?_
  refine lv_iconst (v := (-1)) C.x C.b dX12_init_75 (by decide) ?_
  replace hf := x_b1 hf; obtain ⟨M76_17, hM76_17, hf⟩ := hf
  refine x_iast C hW hM76_17 dX12_init_76 (fun H locs hW => ?_)
  refine lv_dup C.x C.b dX12_init_77 rfl ?_
  refine lv_iconst (v := 2) C.x C.b dX12_init_78 (by decide) ?_
  refine lv_iconst (v := (-1)) C.x C.b dX12_init_79 (by decide) ?_
  replace hf := x_b1 hf; obtain ⟨M80_18, hM80_18, hf⟩ := hf
  refine x_iast C hW hM80_18 dX12_init_80 (fun H locs hW => ?_)
  refine lv_dup C.x C.b dX12_init_81 rfl ?_
  refine lv_iconst (v := 3) C.x C.b dX12_init_82 (by decide) ?_
  refine lv_iconst (v := (-1)) C.x C.b dX12_init_83 (by decide) ?_
  replace hf := x_b1 hf; obtain ⟨M84_19, hM84_19, hf⟩ := hf
  refine x_iast C hW hM84_19 dX12_init_84 (fun H locs hW => ?_)
  replace hf := x_b1 hf; obtain ⟨M85_20, hM85_20, hf⟩ := hf
  refine x_putr (v := (some M62_14.n)) C hW fp_X12_31_15 hM85_20 (fun _ => hin rfl) rfl rfl dX12_init_85 (fun H locs hW => ?_)
  refine lv_aload_n C.x C.b dX12_init_88 rfl (lv_at hl 0 rfl) ?_
  refine lv_iconst (v := 4) C.x C.b dX12_init_89 (by decide) ?_
  replace hf := x_b1 hf; obtain ⟨M90_21, hM90_21, hf⟩ := hf
  refine x_newa C hW hM90_21 T_1_69 (by decide) ⟨Nat.le_of_ble_eq_true rfl, Nat.le_of_ble_eq_true rfl⟩ dX12_init_90 (fun H hW => ?_)
  replace hf := x_b1 hf; obtain ⟨M92_22, hM92_22, hf⟩ := hf
  refine x_putr (v := (some M85_20.n)) C hW fp_X12_34_15 hM92_22 (fun _ => hin rfl) rfl rfl dX12_init_92 (fun H locs hW => ?_)
  refine lv_aload_n C.x C.b dX12_init_95 rfl (lv_at hl 0 rfl) ?_
  refine lv_sipush (v := 160) C.x C.b dX12_init_96 (by decide) ?_
  replace hf := x_b1 hf; obtain ⟨M99_23, hM99_23, hf⟩ := hf
  refine x_newl C hW hM99_23 T_4_155 (by decide) ⟨Nat.le_of_ble_eq_true rfl, Nat.le_of_ble_eq_true rfl⟩ dX12_init_99 (fun H hW => ?_)
  replace hf := x_b1 hf; obtain ⟨M101_24, hM101_24, hf⟩ := hf
  refine x_putr (v := (some M92_22.n)) C hW fp_X12_37_15 hM101_24 (fun _ => hin rfl) rfl rfl dX12_init_101 (fun H locs hW => ?_)
  refine lv_aload_n C.x C.b dX12_init_104 rfl (lv_at hl 0 rfl) ?_
  refine lv_iconst (v := 4) C.x C.b dX12_init_105 (by decide) ?_
  replace hf := x_b1 hf; obtain ⟨M106_25, hM106_25, hf⟩ := hf
  refine x_newa C hW hM106_25 T_1_69 (by decide) ⟨Nat.le_of_ble_eq_true rfl, Nat.le_of_ble_eq_true rfl⟩ dX12_init_106 (fun H hW => ?_)
  refine lv_dup C.x C.b dX12_init_108 rfl ?_
  refine lv_iconst (v := 0) C.x C.b dX12_init_109 (by decide) ?_
  refine lv_iconst (v := 2) C.x C.b dX12_init_110 (by decide) ?_
  replace hf := x_b1 hf; obtain ⟨M111_26, hM111_26, hf⟩ := hf
  refine x_iast C hW hM111_26 dX12_init_111 (fun H locs hW => ?_)
  refine lv_dup C.x C.b dX12_init_112 rfl ?_
  refine lv_iconst (v := 1) C.x C.b dX12_init_113 (by decide) ?_
  refine lv_iconst (v := 2) C.x C.b dX12_init_114 (by decide) ?_
  replace hf := x_b1 hf; obtain ⟨M115_27, hM115_27, hf⟩ := hf
  refine x_iast C hW hM115_27 dX12_init_115 (fun H locs hW => ?_)
  refine lv_dup C.x C.b dX12_init_116 rfl ?_
  refine lv_iconst (v := 2) C.x C.b dX12_init_117 (by decide) ?_
  refine lv_iconst (v := 2) C.x C.b dX12_init_118 (by decide) ?_
  replace hf := x_b1 hf; obtain ⟨M119_28, hM119_28, hf⟩ := hf
  refine x_iast C hW hM119_28 dX12_init_119 (fun H locs hW => ?_)
  refine lv_dup C.x C.b dX12_init_120 rfl ?_
  refine lv_iconst (v := 3) C.x C.b dX12_init_121 (by decide) ?_
  refine lv_iconst (v := 2) C.x C.b dX12_init_122 (by decide) ?_
  replace hf := x_b1 hf; obtain ⟨M123_29, hM123_29, hf⟩ := hf
  refine x_iast C hW hM123_29 dX12_init_123 (fun H locs hW => ?_)
  replace hf := x_b1 hf; obtain ⟨M124_30, hM124_30, hf⟩ := hf
  refine x_putr (v := (some M101_24.n)) C hW fp_X12_41_15 hM124_30 (fun _ => hin rfl) rfl rfl dX12_init_124 (fun H locs hW => ?_)
  refine lv_aload_n C.x C.b dX12_init_127 rfl (lv_at hl 0 rfl) ?_
  refine lv_iconst (v := 4) C.x C.b dX12_init_128 (by decide) ?_
  replace hf := x_b1 hf; obtain ⟨M129_31, hM129_31, hf⟩ := hf
  refine x_newa C hW hM129_31 T_1_69 (by decide) ⟨Nat.le_of_ble_eq_true rfl, Nat.le_of_ble_eq_true rfl⟩ dX12_init_129 (fun H hW => ?_)
  replace hf := x_b1 hf; obtain ⟨M131_32, hM131_32, hf⟩ := hf
  refine x_putr (v := (some M124_30.n)) C hW fp_X12_44_15 hM131_32 (fun _ => hin rfl) rfl rfl dX12_init_131 (fun H locs hW => ?_)
  refine lv_aload_n C.x C.b dX12_init_134 rfl (lv_at hl 0 rfl) ?_
  refine lv_iconst (v := 4) C.x C.b dX12_init_135 (by decide) ?_
  replace hf := x_b1 hf; obtain ⟨M136_33, hM136_33, hf⟩ := hf
  refine x_newa C hW hM136_33 T_1_69 (by decide) ⟨Nat.le_of_ble_eq_true rfl, Nat.le_of_ble_eq_true rfl⟩ dX12_init_136 (fun H hW => ?_)
  replace hf := x_b1 hf; obtain ⟨M138_34, hM138_34, hf⟩ := hf
  refine x_putr (v := (some M131_32.n)) C hW fp_X12_47_15 hM138_34 (fun _ => hin rfl) rfl rfl dX12_init_138 (fun H locs hW => ?_)
  refine lv_aload_n C.x C.b dX12_init_141 rfl (lv_at hl 0 rfl) ?_
  refine lv_bipush (v := 30) C.x C.b dX12_init_142 (by decide) ?_
  replace hf := x_b1 hf; obtain ⟨M144_35, hM144_35, hf⟩ := hf
  refine x_newa C hW hM144_35 T_1_69 (by decide) ⟨Nat.le_of_ble_eq_true rfl, Nat.le_of_ble_eq_true rfl⟩ dX12_init_144 (fun H hW => ?_)
  replace hf := x_b1 hf; obtain ⟨M146_36, hM146_36, hf⟩ := hf
  refine x_putr (v := (some M138_34.n)) C hW fp_X12_50_15 hM146_36 (fun _ => hin rfl) rfl rfl dX12_init_146 (fun H locs hW => ?_)
  refine lv_aload_n C.x C.b dX12_init_149 rfl (lv_at hl 0 rfl) ?_
  replace hf := x_b1 hf; obtain ⟨a150_37, ha150_37, hf⟩ := hf
  refine x_getn C hW fg_X12_9_15 ha150_37 dX12_init_150 ?_
  replace hf := x_b1 hf; obtain ⟨M153_38, hM153_38, hf⟩ := hf
  refine x_callS (As := [.ref (E.b + a150_37)]) (rest := []) C hW hl (qX12_begins l E hM153_38) gs_X12_53 hd_X12_begins rfl rfl (Nat.le_of_ble_eq_true rfl) dX12_init_153 ⟨Nat.le_of_ble_eq_true rfl, Nat.le_of_ble_eq_true rfl⟩ ⟨Nat.le_of_ble_eq_true rfl, Nat.le_of_ble_eq_true rfl⟩ (fun H locs hW => ?_)
  refine lv_aload_n C.x C.b dX12_init_156 rfl (lv_at hl 0 rfl) ?_
  replace hf := x_b1 hf; obtain ⟨a157_39, ha157_39, hf⟩ := hf
  refine x_getn C hW fg_X12_9_15 ha157_39 dX12_init_157 ?_
  refine lv_iconst (v := 1) C.x C.b dX12_init_160 (by decide) ?_
  refine lv_iconst (v := 1) C.x C.b dX12_init_161 (by decide) ?_
  replace hf := x_b1 hf; obtain ⟨M162_40, hM162_40, hf⟩ := hf
  refine x_iast C hW hM162_40 dX12_init_162 (fun H locs hW => ?_)
  rw [x_e0 hf]
  exact x_vret C hr hW dX12_init_163

theorem dX12_become_0 : decode cX12_become 0 = .ok (.iconst 0, 1) := by decide +kernel
theorem dX12_become_1 : decode cX12_become 1 = .ok (.istore_n 2, 1) := by decide +kernel
theorem dX12_become_2 : decode cX12_become 2 = .ok (.iload_n 2, 1) := by decide +kernel
theorem dX12_become_3 : decode cX12_become 3 = .ok (.sipush 158, 3) := by decide +kernel
theorem dX12_become_6 : decode cX12_become 6 = .ok (.if_icmp .ge 15, 3) := by decide +kernel
theorem dX12_become_9 : decode cX12_become 9 = .ok (.aload_n 1, 1) := by decide +kernel
theorem dX12_become_10 : decode cX12_become 10 = .ok (.iload_n 2, 1) := by decide +kernel
theorem dX12_become_11 : decode cX12_become 11 = .ok (.aload_n 0, 1) := by decide +kernel
theorem dX12_become_12 : decode cX12_become 12 = .ok (.iload_n 2, 1) := by decide +kernel
theorem dX12_become_13 : decode cX12_become 13 = .ok (.iaload, 1) := by decide +kernel
theorem dX12_become_14 : decode cX12_become 14 = .ok (.iastore, 1) := by decide +kernel
theorem dX12_become_15 : decode cX12_become 15 = .ok (.iinc 2 1, 3) := by decide +kernel
theorem dX12_become_18 : decode cX12_become 18 = .ok (.goto (-16), 3) := by decide +kernel
theorem dX12_become_21 : decode cX12_become 21 = .ok (.return_, 1) := by decide +kernel
def fX12_become_L2 (v0 : Nat) (v1 : Nat) : Nat → Int32 → Mm → Option Mm
  | 0, _, _ => none
  | n + 1, v2, M =>
    if 158 ≤ v2 then
      some M
    else
      B1 (alI M v0 v2) fun x13_1 =>
      B1 (asI M v1 v2 x13_1) fun M14_2 =>
      fX12_become_L2 v0 v1 n (v2 + 1) M14_2
def fX12_become (M : Mm) (p1 : Nat) (p2 : Nat) : Option Mm :=
  fX12_become_L2 p1 p2 FL 0 M
set_option maxRecDepth 100000 in
set_option maxHeartbeats 4000000 in
theorem kX12_become_L2 {l : Launch} {E : Ev} {p : Program} {e : Env} {s : State} {m : MethodId} {args : Array Value} {below : List Frame} {meth : Method} {c : Code} (C : Cx E p s m args meth c cX12_become yX12_become.cls 3) (hr : meth.sig.returnType = none) (hin : yX12_become.name = "<init>" → meth.name = "<init>")  {v0 : Nat} {v1 : Nat} {Mz : Mm} : ∀ (n : Nat) (v2 : Int32) (M : Mm), fX12_become_L2 v0 v1 n v2 M = some Mz → ∀ (H : Heap) (locs : List Loc) (ls : Array Slot), Wx E s H locs M → lv_has ls 3 [(0, .ref (E.b + v0)), (1, .ref (E.b + v1)), (2, .int v2)] → W p l e (rM 0 0 0 0) s m args below meth c H locs 0 0 (MQ below (Qp E none Mz) args s 0 0 E.A) (F0 m 2 ls []) := by
  intro n
  induction n with
  | zero =>
    intro v2 M hf
    unfold fX12_become_L2 at hf
    cases hf
  | succ n ih =>
    intro v2 M hf H locs ls hW hl
    unfold fX12_become_L2 at hf
    refine lv_iload_n C.x C.b dX12_become_2 rfl (lv_at hl 2 rfl) ?_
    refine lv_sipush (v := 158) C.x C.b dX12_become_3 (by decide) ?_
    refine lv_icmp_ge (tgt := 21) C.x C.b dX12_become_6 rfl (fun c6 => ?_) (fun c6 => ?_)
    · replace hf := x_ip c6 hf
      rw [x_e0 hf]
      exact x_vret C hr hW dX12_become_21
    · replace hf := x_in c6 hf
      refine lv_aload_n C.x C.b dX12_become_9 rfl (lv_at hl 1 rfl) ?_
      refine lv_iload_n C.x C.b dX12_become_10 rfl (lv_at hl 2 rfl) ?_
      refine lv_aload_n C.x C.b dX12_become_11 rfl (lv_at hl 0 rfl) ?_
      refine lv_iload_n C.x C.b dX12_become_12 rfl (lv_at hl 2 rfl) ?_
      replace hf := x_b1 hf; obtain ⟨x13_1, hx13_1, hf⟩ := hf
      refine x_iald C hW hx13_1 dX12_become_13 ?_
      replace hf := x_b1 hf; obtain ⟨M14_2, hM14_2, hf⟩ := hf
      refine x_iast C hW hM14_2 dX12_become_14 (fun H locs hW => ?_)
      refine lv_iinc (v := (v2 + 1)) (lv' := [(2, .int (v2 + 1)), (0, .ref (E.b + _)), (1, .ref (E.b + _))]) C.x C.b dX12_become_15 hl (k := 2) rfl (by first | rfl | decide) (by decide) rfl (fun ls hl => ?_)
      refine lv_goto (tgt := 2) C.x C.b dX12_become_18 rfl ?_
      exact ih (v2 + 1) M14_2 hf _ _ _ hW (lv_sub hl [1, 2, 0] rfl)
set_option maxRecDepth 100000 in
set_option maxHeartbeats 4000000 in
theorem qX12_become (l : Launch) (E : Ev) {M : Mm} {p1 : Nat} {p2 : Nat} {Mz : Mm} (hf : fX12_become M p1 p2 = some Mz) : Ct l E yX12_become cX12_become 3 none 0 0 0 0 [.ref (E.b + p1), .ref (E.b + p2)] M none Mz := by
  refine ct_of (by decide +kernel) (Nat.le_of_ble_eq_true rfl) fun p e s m args below meth c C hr hin hW ls hl => ?_
  have hl : lv_has ls 3 [(0, .ref (E.b + p1)), (1, .ref (E.b + p2))] := hl
  unfold fX12_become at hf
  refine lv_iconst (v := 0) C.x C.b dX12_become_0 (by decide) ?_
  refine lv_istore_n (lv' := [(2, .int _), (0, .ref (E.b + _)), (1, .ref (E.b + _))]) C.x C.b dX12_become_1 rfl hl (by decide) rfl (fun ls hl => ?_)
  exact kX12_become_L2 C hr hin FL 0 M hf _ _ _ hW (lv_sub hl [1, 2, 0] rfl)

theorem dX12_in_0 : decode cX12_in 0 = .ok (.lload_n 0, 1) := by decide +kernel
theorem dX12_in_1 : decode cX12_in 1 = .ok (.lload_n 2, 1) := by decide +kernel
theorem dX12_in_2 : decode cX12_in 2 = .ok (.lcmp, 1) := by decide +kernel
theorem dX12_in_3 : decode cX12_in 3 = .ok (.ifCond .lt 14, 3) := by decide +kernel
theorem dX12_in_6 : decode cX12_in 6 = .ok (.lload_n 0, 1) := by decide +kernel
theorem dX12_in_7 : decode cX12_in 7 = .ok (.lload 4, 2) := by decide +kernel
theorem dX12_in_9 : decode cX12_in 9 = .ok (.lcmp, 1) := by decide +kernel
theorem dX12_in_10 : decode cX12_in 10 = .ok (.ifCond .gt 7, 3) := by decide +kernel
theorem dX12_in_13 : decode cX12_in 13 = .ok (.iconst 1, 1) := by decide +kernel
theorem dX12_in_14 : decode cX12_in 14 = .ok (.goto 4, 3) := by decide +kernel
theorem dX12_in_17 : decode cX12_in 17 = .ok (.iconst 0, 1) := by decide +kernel
theorem dX12_in_18 : decode cX12_in 18 = .ok (.ireturn, 1) := by decide +kernel
def fX12_in (M : Mm) (p1 : Int64) (p2 : Int64) (p3 : Int64) : Option Int32 :=
  if (lg_cmp p1 p2) < 0 then
    some 0
  else
    if 0 < (lg_cmp p1 p3) then
      some 0
    else
      some 1
set_option maxRecDepth 100000 in
set_option maxHeartbeats 4000000 in
theorem qX12_in (l : Launch) (E : Ev) {M : Mm} {p1 : Int64} {p2 : Int64} {p3 : Int64} {rz : Int32} (hf : fX12_in M p1 p2 p3 = some rz) : Ct l E yX12_in cX12_in 6 (some .boolean) 0 0 0 0 [.long p1, .long p2, .long p3] M (some (.int rz)) M := by
  refine ct_of (by decide +kernel) (Nat.le_of_ble_eq_true rfl) fun p e s m args below meth c C hr hin hW ls hl => ?_
  have hl : lv_has ls 6 [(0, .long p1), (2, .long p2), (4, .long p3)] := hl
  unfold fX12_in at hf
  refine lv_lload_n C.x C.b dX12_in_0 rfl (lv_at hl 0 rfl) ?_
  refine lv_lload_n C.x C.b dX12_in_1 rfl (lv_at hl 1 rfl) ?_
  refine W.lcmp C.x C.b dX12_in_2 ?_
  refine lv_if_lt (tgt := 17) C.x C.b dX12_in_3 rfl (fun c3 => ?_) (fun c3 => ?_)
  · replace hf := x_ip c3 hf
    refine lv_iconst (v := 0) C.x C.b dX12_in_17 (by decide) ?_
    rw [x_e0 hf]
    exact x_zret C hr hW (v := 0) (w := 0) rfl dX12_in_18
  · replace hf := x_in c3 hf
    refine lv_lload_n C.x C.b dX12_in_6 rfl (lv_at hl 0 rfl) ?_
    refine lv_lload C.x C.b dX12_in_7 (lv_at hl 2 rfl) ?_
    refine W.lcmp C.x C.b dX12_in_9 ?_
    refine lv_if_gt (tgt := 17) C.x C.b dX12_in_10 rfl (fun c10 => ?_) (fun c10 => ?_)
    · replace hf := x_ip c10 hf
      refine lv_iconst (v := 0) C.x C.b dX12_in_17 (by decide) ?_
      rw [x_e0 hf]
      exact x_zret C hr hW (v := 0) (w := 0) rfl dX12_in_18
    · replace hf := x_in c10 hf
      refine lv_iconst (v := 1) C.x C.b dX12_in_13 (by decide) ?_
      refine lv_goto (tgt := 18) C.x C.b dX12_in_14 rfl ?_
      rw [x_e0 hf]
      exact x_zret C hr hW (v := 1) (w := 1) rfl dX12_in_18

theorem dX12_isOne_0 : decode cX12_isOne 0 = .ok (.iload_n 1, 1) := by decide +kernel
theorem dX12_isOne_1 : decode cX12_isOne 1 = .ok (.i2l, 1) := by decide +kernel
theorem dX12_isOne_2 : decode cX12_isOne 2 = .ok (.lconst 0, 1) := by decide +kernel
theorem dX12_isOne_3 : decode cX12_isOne 3 = .ok (.aload_n 0, 1) := by decide +kernel
theorem dX12_isOne_4 : decode cX12_isOne 4 = .ok (.getfield 9, 3) := by decide +kernel
theorem dX12_isOne_7 : decode cX12_isOne 7 = .ok (.iconst 0, 1) := by decide +kernel
theorem dX12_isOne_8 : decode cX12_isOne 8 = .ok (.iaload, 1) := by decide +kernel
theorem dX12_isOne_9 : decode cX12_isOne 9 = .ok (.iconst 1, 1) := by decide +kernel
theorem dX12_isOne_10 : decode cX12_isOne 10 = .ok (.isub, 1) := by decide +kernel
theorem dX12_isOne_11 : decode cX12_isOne 11 = .ok (.i2l, 1) := by decide +kernel
theorem dX12_isOne_12 : decode cX12_isOne 12 = .ok (.invokestatic 61, 3) := by decide +kernel
theorem dX12_isOne_15 : decode cX12_isOne 15 = .ok (.ireturn, 1) := by decide +kernel
theorem hd_X12_in : yX12_in.cls ≠ "java/lang/invoke/MethodHandle" ∧ yX12_in.cls ≠ "java/lang/invoke/VarHandle" ∧ (parseMethodDescriptor yX12_in.desc).map (fun d => d.parameters.length) = some 3 := by decide +kernel
theorem gs_X12_61 : GoodIn gT (va_wsS "NylonLadderModel" 61 yX12_in (Cond.code yX12_in cX12_in 6 (some .boolean) :: gT)) := good_S T_6_130 T_6_131 T_1_10 T_6_132
def fX12_isOne (M : Mm) (o : Nat) (p1 : Int32) : Option Int32 :=
  B1 (rdN M o 15 0) fun a4_1 =>
  B1 (alI M a4_1 0) fun x8_2 =>
  B1 (fX12_in M (p1.toInt64) 0 ((x8_2 - 1).toInt64)) fun x12_3 =>
  bz x12_3
set_option maxRecDepth 100000 in
set_option maxHeartbeats 4000000 in
theorem qX12_isOne (l : Launch) (E : Ev) {M : Mm} {o : Nat} {p1 : Int32} {rz : Int32} (hf : fX12_isOne M o p1 = some rz) : Ct l E yX12_isOne cX12_isOne 2 (some .boolean) 1 25 0 0 [.ref (E.b + o), .int p1] M (some (.int rz)) M := by
  refine ct_of (by decide +kernel) (Nat.le_of_ble_eq_true rfl) fun p e s m args below meth c C hr hin hW ls hl => ?_
  have hl : lv_has ls 2 [(0, .ref (E.b + o)), (1, .int p1)] := hl
  unfold fX12_isOne at hf
  refine lv_iload_n C.x C.b dX12_isOne_0 rfl (lv_at hl 1 rfl) ?_
  refine lv_i2l (v := p1.toInt64) C.x C.b dX12_isOne_1 rfl ?_
  refine lv_lconst (v := 0) C.x C.b dX12_isOne_2 (by decide) ?_
  refine lv_aload_n C.x C.b dX12_isOne_3 rfl (lv_at hl 0 rfl) ?_
  replace hf := x_b1 hf; obtain ⟨a4_1, ha4_1, hf⟩ := hf
  refine x_getn C hW fg_X12_9_15 ha4_1 dX12_isOne_4 ?_
  refine lv_iconst (v := 0) C.x C.b dX12_isOne_7 (by decide) ?_
  replace hf := x_b1 hf; obtain ⟨x8_2, hx8_2, hf⟩ := hf
  refine x_iald C hW hx8_2 dX12_isOne_8 ?_
  refine lv_iconst (v := 1) C.x C.b dX12_isOne_9 (by decide) ?_
  refine lv_isub C.x C.b dX12_isOne_10 ?_
  refine lv_i2l (v := (x8_2 - 1).toInt64) C.x C.b dX12_isOne_11 rfl ?_
  replace hf := x_b1 hf; obtain ⟨x12_3, hx12_3, hf⟩ := hf
  refine x_callS (As := [.long (p1.toInt64), .long 0, .long ((x8_2 - 1).toInt64)]) (rest := []) C hW hl (qX12_in l E hx12_3) gs_X12_61 hd_X12_in rfl rfl (Nat.le_of_ble_eq_true rfl) dX12_isOne_12 ⟨Nat.le_of_ble_eq_true rfl, Nat.le_of_ble_eq_true rfl⟩ ⟨Nat.le_of_ble_eq_true rfl, Nat.le_of_ble_eq_true rfl⟩ (fun H locs hW => ?_)
  exact x_zret C hr hW hf dX12_isOne_15

theorem dX12_isRung_0 : decode cX12_isRung 0 = .ok (.iload_n 0, 1) := by decide +kernel
theorem dX12_isRung_1 : decode cX12_isRung 1 = .ok (.i2l, 1) := by decide +kernel
theorem dX12_isRung_2 : decode cX12_isRung 2 = .ok (.lconst 0, 1) := by decide +kernel
theorem dX12_isRung_3 : decode cX12_isRung 3 = .ok (.ldc2_w 65, 3) := by decide +kernel
theorem dX12_isRung_6 : decode cX12_isRung 6 = .ok (.invokestatic 61, 3) := by decide +kernel
theorem dX12_isRung_9 : decode cX12_isRung 9 = .ok (.ireturn, 1) := by decide +kernel
def fX12_isRung (M : Mm) (p1 : Int32) : Option Int32 :=
  B1 (fX12_in M (p1.toInt64) 0 99) fun x6_1 =>
  bz x6_1
set_option maxRecDepth 100000 in
set_option maxHeartbeats 4000000 in
theorem qX12_isRung (l : Launch) (E : Ev) {M : Mm} {p1 : Int32} {rz : Int32} (hf : fX12_isRung M p1 = some rz) : Ct l E yX12_isRung cX12_isRung 1 (some .boolean) 1 25 0 0 [.int p1] M (some (.int rz)) M := by
  refine ct_of (by decide +kernel) (Nat.le_of_ble_eq_true rfl) fun p e s m args below meth c C hr hin hW ls hl => ?_
  have hl : lv_has ls 1 [(0, .int p1)] := hl
  unfold fX12_isRung at hf
  refine lv_iload_n C.x C.b dX12_isRung_0 rfl (lv_at hl 0 rfl) ?_
  refine lv_i2l (v := p1.toInt64) C.x C.b dX12_isRung_1 rfl ?_
  refine lv_lconst (v := 0) C.x C.b dX12_isRung_2 (by decide) ?_
  refine x_ldc2 (v := 99) C T_6_199 dX12_isRung_3 ?_
  replace hf := x_b1 hf; obtain ⟨x6_1, hx6_1, hf⟩ := hf
  refine x_callS (As := [.long (p1.toInt64), .long 0, .long 99]) (rest := []) C hW hl (qX12_in l E hx6_1) gs_X12_61 hd_X12_in rfl rfl (Nat.le_of_ble_eq_true rfl) dX12_isRung_6 ⟨Nat.le_of_ble_eq_true rfl, Nat.le_of_ble_eq_true rfl⟩ ⟨Nat.le_of_ble_eq_true rfl, Nat.le_of_ble_eq_true rfl⟩ (fun H locs hW => ?_)
  exact x_zret C hr hW hf dX12_isRung_9

theorem dX12_isTwo_0 : decode cX12_isTwo 0 = .ok (.iload_n 0, 1) := by decide +kernel
theorem dX12_isTwo_1 : decode cX12_isTwo 1 = .ok (.i2l, 1) := by decide +kernel
theorem dX12_isTwo_2 : decode cX12_isTwo 2 = .ok (.lconst 0, 1) := by decide +kernel
theorem dX12_isTwo_3 : decode cX12_isTwo 3 = .ok (.lconst 1, 1) := by decide +kernel
theorem dX12_isTwo_4 : decode cX12_isTwo 4 = .ok (.invokestatic 61, 3) := by decide +kernel
theorem dX12_isTwo_7 : decode cX12_isTwo 7 = .ok (.ireturn, 1) := by decide +kernel
def fX12_isTwo (M : Mm) (p1 : Int32) : Option Int32 :=
  B1 (fX12_in M (p1.toInt64) 0 1) fun x4_1 =>
  bz x4_1
set_option maxRecDepth 100000 in
set_option maxHeartbeats 4000000 in
theorem qX12_isTwo (l : Launch) (E : Ev) {M : Mm} {p1 : Int32} {rz : Int32} (hf : fX12_isTwo M p1 = some rz) : Ct l E yX12_isTwo cX12_isTwo 1 (some .boolean) 1 25 0 0 [.int p1] M (some (.int rz)) M := by
  refine ct_of (by decide +kernel) (Nat.le_of_ble_eq_true rfl) fun p e s m args below meth c C hr hin hW ls hl => ?_
  have hl : lv_has ls 1 [(0, .int p1)] := hl
  unfold fX12_isTwo at hf
  refine lv_iload_n C.x C.b dX12_isTwo_0 rfl (lv_at hl 0 rfl) ?_
  refine lv_i2l (v := p1.toInt64) C.x C.b dX12_isTwo_1 rfl ?_
  refine lv_lconst (v := 0) C.x C.b dX12_isTwo_2 (by decide) ?_
  refine lv_lconst (v := 1) C.x C.b dX12_isTwo_3 (by decide) ?_
  replace hf := x_b1 hf; obtain ⟨x4_1, hx4_1, hf⟩ := hf
  refine x_callS (As := [.long (p1.toInt64), .long 0, .long 1]) (rest := []) C hW hl (qX12_in l E hx4_1) gs_X12_61 hd_X12_in rfl rfl (Nat.le_of_ble_eq_true rfl) dX12_isTwo_4 ⟨Nat.le_of_ble_eq_true rfl, Nat.le_of_ble_eq_true rfl⟩ ⟨Nat.le_of_ble_eq_true rfl, Nat.le_of_ble_eq_true rfl⟩ (fun H locs hW => ?_)
  exact x_zret C hr hW hf dX12_isTwo_7

theorem dX12_its_0 : decode cX12_its 0 = .ok (.aload_n 0, 1) := by decide +kernel
theorem dX12_its_1 : decode cX12_its 1 = .ok (.getfield 9, 3) := by decide +kernel
theorem dX12_its_4 : decode cX12_its 4 = .ok (.bipush 54, 2) := by decide +kernel
theorem dX12_its_6 : decode cX12_its 6 = .ok (.bipush 13, 2) := by decide +kernel
theorem dX12_its_8 : decode cX12_its 8 = .ok (.iload_n 1, 1) := by decide +kernel
theorem dX12_its_9 : decode cX12_its 9 = .ok (.imul, 1) := by decide +kernel
theorem dX12_its_10 : decode cX12_its 10 = .ok (.iadd, 1) := by decide +kernel
theorem dX12_its_11 : decode cX12_its 11 = .ok (.iload_n 2, 1) := by decide +kernel
theorem dX12_its_12 : decode cX12_its 12 = .ok (.iadd, 1) := by decide +kernel
theorem dX12_its_13 : decode cX12_its 13 = .ok (.iaload, 1) := by decide +kernel
theorem dX12_its_14 : decode cX12_its 14 = .ok (.ireturn, 1) := by decide +kernel
def fX12_its (M : Mm) (o : Nat) (p1 : Int32) (p2 : Int32) : Option Int32 :=
  B1 (rdN M o 15 0) fun a1_1 =>
  B1 (alI M a1_1 ((54 + (13 * p1)) + p2)) fun x13_2 =>
  some x13_2
set_option maxRecDepth 100000 in
set_option maxHeartbeats 4000000 in
theorem qX12_its (l : Launch) (E : Ev) {M : Mm} {o : Nat} {p1 : Int32} {p2 : Int32} {rz : Int32} (hf : fX12_its M o p1 p2 = some rz) : Ct l E yX12_its cX12_its 3 (some .int) 0 0 0 0 [.ref (E.b + o), .int p1, .int p2] M (some (.int rz)) M := by
  refine ct_of (by decide +kernel) (Nat.le_of_ble_eq_true rfl) fun p e s m args below meth c C hr hin hW ls hl => ?_
  have hl : lv_has ls 3 [(0, .ref (E.b + o)), (1, .int p1), (2, .int p2)] := hl
  unfold fX12_its at hf
  refine lv_aload_n C.x C.b dX12_its_0 rfl (lv_at hl 0 rfl) ?_
  replace hf := x_b1 hf; obtain ⟨a1_1, ha1_1, hf⟩ := hf
  refine x_getn C hW fg_X12_9_15 ha1_1 dX12_its_1 ?_
  refine lv_bipush (v := 54) C.x C.b dX12_its_4 (by decide) ?_
  refine lv_bipush (v := 13) C.x C.b dX12_its_6 (by decide) ?_
  refine lv_iload_n C.x C.b dX12_its_8 rfl (lv_at hl 1 rfl) ?_
  refine lv_imul C.x C.b dX12_its_9 ?_
  refine lv_iadd C.x C.b dX12_its_10 ?_
  refine lv_iload_n C.x C.b dX12_its_11 rfl (lv_at hl 2 rfl) ?_
  refine lv_iadd C.x C.b dX12_its_12 ?_
  replace hf := x_b1 hf; obtain ⟨x13_2, hx13_2, hf⟩ := hf
  refine x_iald C hW hx13_2 dX12_its_13 ?_
  rw [x_e0 hf]
  exact x_iret C hr hW dX12_its_14

theorem dX12_sets_0 : decode cX12_sets 0 = .ok (.aload_n 0, 1) := by decide +kernel
theorem dX12_sets_1 : decode cX12_sets 1 = .ok (.getfield 9, 3) := by decide +kernel
theorem dX12_sets_4 : decode cX12_sets 4 = .ok (.bipush 54, 2) := by decide +kernel
theorem dX12_sets_6 : decode cX12_sets 6 = .ok (.bipush 13, 2) := by decide +kernel
theorem dX12_sets_8 : decode cX12_sets 8 = .ok (.iload_n 1, 1) := by decide +kernel
theorem dX12_sets_9 : decode cX12_sets 9 = .ok (.imul, 1) := by decide +kernel
theorem dX12_sets_10 : decode cX12_sets 10 = .ok (.iadd, 1) := by decide +kernel
theorem dX12_sets_11 : decode cX12_sets 11 = .ok (.iload_n 2, 1) := by decide +kernel
theorem dX12_sets_12 : decode cX12_sets 12 = .ok (.iadd, 1) := by decide +kernel
theorem dX12_sets_13 : decode cX12_sets 13 = .ok (.iload_n 3, 1) := by decide +kernel
theorem dX12_sets_14 : decode cX12_sets 14 = .ok (.iastore, 1) := by decide +kernel
theorem dX12_sets_15 : decode cX12_sets 15 = .ok (.return_, 1) := by decide +kernel
def fX12_sets (M : Mm) (o : Nat) (p1 : Int32) (p2 : Int32) (p3 : Int32) : Option Mm :=
  B1 (rdN M o 15 0) fun a1_1 =>
  B1 (asI M a1_1 ((54 + (13 * p1)) + p2) p3) fun M14_2 =>
  some M14_2
set_option maxRecDepth 100000 in
set_option maxHeartbeats 4000000 in
theorem qX12_sets (l : Launch) (E : Ev) {M : Mm} {o : Nat} {p1 : Int32} {p2 : Int32} {p3 : Int32} {Mz : Mm} (hf : fX12_sets M o p1 p2 p3 = some Mz) : Ct l E yX12_sets cX12_sets 4 none 0 0 0 0 [.ref (E.b + o), .int p1, .int p2, .int p3] M none Mz := by
  refine ct_of (by decide +kernel) (Nat.le_of_ble_eq_true rfl) fun p e s m args below meth c C hr hin hW ls hl => ?_
  have hl : lv_has ls 4 [(0, .ref (E.b + o)), (1, .int p1), (2, .int p2), (3, .int p3)] := hl
  unfold fX12_sets at hf
  refine lv_aload_n C.x C.b dX12_sets_0 rfl (lv_at hl 0 rfl) ?_
  replace hf := x_b1 hf; obtain ⟨a1_1, ha1_1, hf⟩ := hf
  refine x_getn C hW fg_X12_9_15 ha1_1 dX12_sets_1 ?_
  refine lv_bipush (v := 54) C.x C.b dX12_sets_4 (by decide) ?_
  refine lv_bipush (v := 13) C.x C.b dX12_sets_6 (by decide) ?_
  refine lv_iload_n C.x C.b dX12_sets_8 rfl (lv_at hl 1 rfl) ?_
  refine lv_imul C.x C.b dX12_sets_9 ?_
  refine lv_iadd C.x C.b dX12_sets_10 ?_
  refine lv_iload_n C.x C.b dX12_sets_11 rfl (lv_at hl 2 rfl) ?_
  refine lv_iadd C.x C.b dX12_sets_12 ?_
  refine lv_iload_n C.x C.b dX12_sets_13 rfl (lv_at hl 3 rfl) ?_
  replace hf := x_b1 hf; obtain ⟨M14_2, hM14_2, hf⟩ := hf
  refine x_iast C hW hM14_2 dX12_sets_14 (fun H locs hW => ?_)
  rw [x_e0 hf]
  exact x_vret C hr hW dX12_sets_15

theorem dX12_hasLadder_0 : decode cX12_hasLadder 0 = .ok (.aload_n 0, 1) := by decide +kernel
theorem dX12_hasLadder_1 : decode cX12_hasLadder 1 = .ok (.iload_n 1, 1) := by decide +kernel
theorem dX12_hasLadder_2 : decode cX12_hasLadder 2 = .ok (.bipush 6, 2) := by decide +kernel
theorem dX12_hasLadder_4 : decode cX12_hasLadder 4 = .ok (.invokevirtual 67, 3) := by decide +kernel
theorem dX12_hasLadder_7 : decode cX12_hasLadder 7 = .ok (.ifCond .lt 7, 3) := by decide +kernel
theorem dX12_hasLadder_10 : decode cX12_hasLadder 10 = .ok (.iconst 1, 1) := by decide +kernel
theorem dX12_hasLadder_11 : decode cX12_hasLadder 11 = .ok (.goto 4, 3) := by decide +kernel
theorem dX12_hasLadder_14 : decode cX12_hasLadder 14 = .ok (.iconst 0, 1) := by decide +kernel
theorem dX12_hasLadder_15 : decode cX12_hasLadder 15 = .ok (.ireturn, 1) := by decide +kernel
theorem hd_X12_its : yX12_its.cls ≠ "java/lang/invoke/MethodHandle" ∧ yX12_its.cls ≠ "java/lang/invoke/VarHandle" ∧ (parseMethodDescriptor yX12_its.desc).map (fun d => d.parameters.length) = some 2 := by decide +kernel
theorem gv_X12_67 : GoodIn gT (wsV "NylonLadderModel" 67 "NylonLadderModel" yX12_its (Cond.code yX12_its cX12_its 3 (some .int) :: gT)) := good_V T_6_180 T_6_182 TS_36 T_1_10 T_6_183
def fX12_hasLadder (M : Mm) (o : Nat) (p1 : Int32) : Option Int32 :=
  B1 (gk M o 15) fun _ =>
  B1 (fX12_its M o p1 6) fun x4_2 =>
  if x4_2 < 0 then
    some 0
  else
    some 1
set_option maxRecDepth 100000 in
set_option maxHeartbeats 4000000 in
theorem qX12_hasLadder (l : Launch) (E : Ev) {M : Mm} {o : Nat} {p1 : Int32} {rz : Int32} (hf : fX12_hasLadder M o p1 = some rz) : Ct l E yX12_hasLadder cX12_hasLadder 2 (some .boolean) 1 22 0 0 [.ref (E.b + o), .int p1] M (some (.int rz)) M := by
  refine ct_of (by decide +kernel) (Nat.le_of_ble_eq_true rfl) fun p e s m args below meth c C hr hin hW ls hl => ?_
  have hl : lv_has ls 2 [(0, .ref (E.b + o)), (1, .int p1)] := hl
  unfold fX12_hasLadder at hf
  refine lv_aload_n C.x C.b dX12_hasLadder_0 rfl (lv_at hl 0 rfl) ?_
  refine lv_iload_n C.x C.b dX12_hasLadder_1 rfl (lv_at hl 1 rfl) ?_
  refine lv_bipush (v := 6) C.x C.b dX12_hasLadder_2 (by decide) ?_
  replace hf := x_b1 hf; obtain ⟨_, hk4_1, hf⟩ := hf
  replace hf := x_b1 hf; obtain ⟨x4_2, hx4_2, hf⟩ := hf
  refine x_callV (As := [.int p1, .int 6]) (a := o) (rest := []) C hW hl (qX12_its l E hx4_2) (x_gk hk4_1) (by decide) (by decide) rfl gv_X12_67 ⟨rfl, hd_X12_its⟩ rfl rfl (Nat.le_of_ble_eq_true rfl) dX12_hasLadder_4 ⟨Nat.le_of_ble_eq_true rfl, Nat.le_of_ble_eq_true rfl⟩ ⟨Nat.le_of_ble_eq_true rfl, Nat.le_of_ble_eq_true rfl⟩ (fun H locs hW => ?_)
  refine lv_if_lt (tgt := 14) C.x C.b dX12_hasLadder_7 rfl (fun c7 => ?_) (fun c7 => ?_)
  · replace hf := x_ip c7 hf
    refine lv_iconst (v := 0) C.x C.b dX12_hasLadder_14 (by decide) ?_
    rw [x_e0 hf]
    exact x_zret C hr hW (v := 0) (w := 0) rfl dX12_hasLadder_15
  · replace hf := x_in c7 hf
    refine lv_iconst (v := 1) C.x C.b dX12_hasLadder_10 (by decide) ?_
    refine lv_goto (tgt := 15) C.x C.b dX12_hasLadder_11 rfl ?_
    rw [x_e0 hf]
    exact x_zret C hr hW (v := 1) (w := 1) rfl dX12_hasLadder_15

theorem dX12_openOf_0 : decode cX12_openOf 0 = .ok (.aload_n 0, 1) := by decide +kernel
theorem dX12_openOf_1 : decode cX12_openOf 1 = .ok (.iload_n 1, 1) := by decide +kernel
theorem dX12_openOf_2 : decode cX12_openOf 2 = .ok (.invokevirtual 71, 3) := by decide +kernel
theorem dX12_openOf_5 : decode cX12_openOf 5 = .ok (.ifCond .eq 23, 3) := by decide +kernel
theorem dX12_openOf_8 : decode cX12_openOf 8 = .ok (.aload_n 0, 1) := by decide +kernel
theorem dX12_openOf_9 : decode cX12_openOf 9 = .ok (.iload_n 1, 1) := by decide +kernel
theorem dX12_openOf_10 : decode cX12_openOf 10 = .ok (.bipush 7, 2) := by decide +kernel
theorem dX12_openOf_12 : decode cX12_openOf 12 = .ok (.invokevirtual 67, 3) := by decide +kernel
theorem dX12_openOf_15 : decode cX12_openOf 15 = .ok (.aload_n 0, 1) := by decide +kernel
theorem dX12_openOf_16 : decode cX12_openOf 16 = .ok (.iload_n 1, 1) := by decide +kernel
theorem dX12_openOf_17 : decode cX12_openOf 17 = .ok (.bipush 6, 2) := by decide +kernel
theorem dX12_openOf_19 : decode cX12_openOf 19 = .ok (.invokevirtual 67, 3) := by decide +kernel
theorem dX12_openOf_22 : decode cX12_openOf 22 = .ok (.isub, 1) := by decide +kernel
theorem dX12_openOf_23 : decode cX12_openOf 23 = .ok (.iconst 1, 1) := by decide +kernel
theorem dX12_openOf_24 : decode cX12_openOf 24 = .ok (.iadd, 1) := by decide +kernel
theorem dX12_openOf_25 : decode cX12_openOf 25 = .ok (.goto 4, 3) := by decide +kernel
theorem dX12_openOf_28 : decode cX12_openOf 28 = .ok (.iconst 0, 1) := by decide +kernel
theorem dX12_openOf_29 : decode cX12_openOf 29 = .ok (.ireturn, 1) := by decide +kernel
theorem hd_X12_hasLadder : yX12_hasLadder.cls ≠ "java/lang/invoke/MethodHandle" ∧ yX12_hasLadder.cls ≠ "java/lang/invoke/VarHandle" ∧ (parseMethodDescriptor yX12_hasLadder.desc).map (fun d => d.parameters.length) = some 1 := by decide +kernel
theorem gv_X12_71 : GoodIn gT (wsV "NylonLadderModel" 71 "NylonLadderModel" yX12_hasLadder (Cond.code yX12_hasLadder cX12_hasLadder 2 (some .boolean) :: gT)) := good_V T_6_176 T_6_178 TS_35 T_1_10 T_6_179
def fX12_openOf (M : Mm) (o : Nat) (p1 : Int32) : Option Int32 :=
  B1 (gk M o 15) fun _ =>
  B1 (fX12_hasLadder M o p1) fun x2_2 =>
  if x2_2 = 0 then
    some 0
  else
    B1 (gk M o 15) fun _ =>
    B1 (fX12_its M o p1 7) fun x12_4 =>
    B1 (gk M o 15) fun _ =>
    B1 (fX12_its M o p1 6) fun x19_6 =>
    some ((x12_4 - x19_6) + 1)
set_option maxRecDepth 100000 in
set_option maxHeartbeats 4000000 in
theorem qX12_openOf (l : Launch) (E : Ev) {M : Mm} {o : Nat} {p1 : Int32} {rz : Int32} (hf : fX12_openOf M o p1 = some rz) : Ct l E yX12_openOf cX12_openOf 2 (some .int) 2 43 0 0 [.ref (E.b + o), .int p1] M (some (.int rz)) M := by
  refine ct_of (by decide +kernel) (Nat.le_of_ble_eq_true rfl) fun p e s m args below meth c C hr hin hW ls hl => ?_
  have hl : lv_has ls 2 [(0, .ref (E.b + o)), (1, .int p1)] := hl
  unfold fX12_openOf at hf
  refine lv_aload_n C.x C.b dX12_openOf_0 rfl (lv_at hl 0 rfl) ?_
  refine lv_iload_n C.x C.b dX12_openOf_1 rfl (lv_at hl 1 rfl) ?_
  replace hf := x_b1 hf; obtain ⟨_, hk2_1, hf⟩ := hf
  replace hf := x_b1 hf; obtain ⟨x2_2, hx2_2, hf⟩ := hf
  refine x_callV (As := [.int p1]) (a := o) (rest := []) C hW hl (qX12_hasLadder l E hx2_2) (x_gk hk2_1) (by decide) (by decide) rfl gv_X12_71 ⟨rfl, hd_X12_hasLadder⟩ rfl rfl (Nat.le_of_ble_eq_true rfl) dX12_openOf_2 ⟨Nat.le_of_ble_eq_true rfl, Nat.le_of_ble_eq_true rfl⟩ ⟨Nat.le_of_ble_eq_true rfl, Nat.le_of_ble_eq_true rfl⟩ (fun H locs hW => ?_)
  refine lv_if_eq (tgt := 28) C.x C.b dX12_openOf_5 rfl (fun c5 => ?_) (fun c5 => ?_)
  · replace hf := x_ip c5 hf
    refine lv_iconst (v := 0) C.x C.b dX12_openOf_28 (by decide) ?_
    rw [x_e0 hf]
    exact x_iret C hr hW dX12_openOf_29
  · replace hf := x_in c5 hf
    refine lv_aload_n C.x C.b dX12_openOf_8 rfl (lv_at hl 0 rfl) ?_
    refine lv_iload_n C.x C.b dX12_openOf_9 rfl (lv_at hl 1 rfl) ?_
    refine lv_bipush (v := 7) C.x C.b dX12_openOf_10 (by decide) ?_
    replace hf := x_b1 hf; obtain ⟨_, hk12_3, hf⟩ := hf
    replace hf := x_b1 hf; obtain ⟨x12_4, hx12_4, hf⟩ := hf
    refine x_callV (As := [.int p1, .int 7]) (a := o) (rest := []) C hW hl (qX12_its l E hx12_4) (x_gk hk12_3) (by decide) (by decide) rfl gv_X12_67 ⟨rfl, hd_X12_its⟩ rfl rfl (Nat.le_of_ble_eq_true rfl) dX12_openOf_12 ⟨Nat.le_of_ble_eq_true rfl, Nat.le_of_ble_eq_true rfl⟩ ⟨Nat.le_of_ble_eq_true rfl, Nat.le_of_ble_eq_true rfl⟩ (fun H locs hW => ?_)
    refine lv_aload_n C.x C.b dX12_openOf_15 rfl (lv_at hl 0 rfl) ?_
    refine lv_iload_n C.x C.b dX12_openOf_16 rfl (lv_at hl 1 rfl) ?_
    refine lv_bipush (v := 6) C.x C.b dX12_openOf_17 (by decide) ?_
    replace hf := x_b1 hf; obtain ⟨_, hk19_5, hf⟩ := hf
    replace hf := x_b1 hf; obtain ⟨x19_6, hx19_6, hf⟩ := hf
    refine x_callV (As := [.int p1, .int 6]) (a := o) (rest := [.int x12_4]) C hW hl (qX12_its l E hx19_6) (x_gk hk19_5) (by decide) (by decide) rfl gv_X12_67 ⟨rfl, hd_X12_its⟩ rfl rfl (Nat.le_of_ble_eq_true rfl) dX12_openOf_19 ⟨Nat.le_of_ble_eq_true rfl, Nat.le_of_ble_eq_true rfl⟩ ⟨Nat.le_of_ble_eq_true rfl, Nat.le_of_ble_eq_true rfl⟩ (fun H locs hW => ?_)
    refine lv_isub C.x C.b dX12_openOf_22 ?_
    refine lv_iconst (v := 1) C.x C.b dX12_openOf_23 (by decide) ?_
    refine lv_iadd C.x C.b dX12_openOf_24 ?_
    refine lv_goto (tgt := 29) C.x C.b dX12_openOf_25 rfl ?_
    rw [x_e0 hf]
    exact x_iret C hr hW dX12_openOf_29

theorem dX12_footOf_0 : decode cX12_footOf 0 = .ok (.aload_n 0, 1) := by decide +kernel
theorem dX12_footOf_1 : decode cX12_footOf 1 = .ok (.getfield 9, 3) := by decide +kernel
theorem dX12_footOf_4 : decode cX12_footOf 4 = .ok (.iconst 2, 1) := by decide +kernel
theorem dX12_footOf_5 : decode cX12_footOf 5 = .ok (.iaload, 1) := by decide +kernel
theorem dX12_footOf_6 : decode cX12_footOf 6 = .ok (.iload_n 1, 1) := by decide +kernel
theorem dX12_footOf_7 : decode cX12_footOf 7 = .ok (.if_icmp .ne 7, 3) := by decide +kernel
theorem dX12_footOf_10 : decode cX12_footOf 10 = .ok (.iconst 0, 1) := by decide +kernel
theorem dX12_footOf_11 : decode cX12_footOf 11 = .ok (.goto 18, 3) := by decide +kernel
theorem dX12_footOf_14 : decode cX12_footOf 14 = .ok (.aload_n 0, 1) := by decide +kernel
theorem dX12_footOf_15 : decode cX12_footOf 15 = .ok (.getfield 9, 3) := by decide +kernel
theorem dX12_footOf_18 : decode cX12_footOf 18 = .ok (.iconst 3, 1) := by decide +kernel
theorem dX12_footOf_19 : decode cX12_footOf 19 = .ok (.iaload, 1) := by decide +kernel
theorem dX12_footOf_20 : decode cX12_footOf 20 = .ok (.iload_n 1, 1) := by decide +kernel
theorem dX12_footOf_21 : decode cX12_footOf 21 = .ok (.if_icmp .ne 7, 3) := by decide +kernel
theorem dX12_footOf_24 : decode cX12_footOf 24 = .ok (.iconst 1, 1) := by decide +kernel
theorem dX12_footOf_25 : decode cX12_footOf 25 = .ok (.goto 4, 3) := by decide +kernel
theorem dX12_footOf_28 : decode cX12_footOf 28 = .ok (.iconst (-1), 1) := by decide +kernel
theorem dX12_footOf_29 : decode cX12_footOf 29 = .ok (.ireturn, 1) := by decide +kernel
def fX12_footOf (M : Mm) (o : Nat) (p1 : Int32) : Option Int32 :=
  B1 (rdN M o 15 0) fun a1_1 =>
  B1 (alI M a1_1 2) fun x5_2 =>
  if x5_2 = p1 then
    some 0
  else
    B1 (rdN M o 15 0) fun a15_3 =>
    B1 (alI M a15_3 3) fun x19_4 =>
    if x19_4 = p1 then
      some 1
    else
      some (-1)
set_option maxRecDepth 100000 in
set_option maxHeartbeats 4000000 in
theorem qX12_footOf (l : Launch) (E : Ev) {M : Mm} {o : Nat} {p1 : Int32} {rz : Int32} (hf : fX12_footOf M o p1 = some rz) : Ct l E yX12_footOf cX12_footOf 2 (some .int) 0 0 0 0 [.ref (E.b + o), .int p1] M (some (.int rz)) M := by
  refine ct_of (by decide +kernel) (Nat.le_of_ble_eq_true rfl) fun p e s m args below meth c C hr hin hW ls hl => ?_
  have hl : lv_has ls 2 [(0, .ref (E.b + o)), (1, .int p1)] := hl
  unfold fX12_footOf at hf
  refine lv_aload_n C.x C.b dX12_footOf_0 rfl (lv_at hl 0 rfl) ?_
  replace hf := x_b1 hf; obtain ⟨a1_1, ha1_1, hf⟩ := hf
  refine x_getn C hW fg_X12_9_15 ha1_1 dX12_footOf_1 ?_
  refine lv_iconst (v := 2) C.x C.b dX12_footOf_4 (by decide) ?_
  replace hf := x_b1 hf; obtain ⟨x5_2, hx5_2, hf⟩ := hf
  refine x_iald C hW hx5_2 dX12_footOf_5 ?_
  refine lv_iload_n C.x C.b dX12_footOf_6 rfl (lv_at hl 1 rfl) ?_
  refine lv_icmp_ne (tgt := 14) C.x C.b dX12_footOf_7 rfl (fun c7 => ?_) (fun c7 => ?_)
  · replace hf := x_in c7 hf
    refine lv_aload_n C.x C.b dX12_footOf_14 rfl (lv_at hl 0 rfl) ?_
    replace hf := x_b1 hf; obtain ⟨a15_3, ha15_3, hf⟩ := hf
    refine x_getn C hW fg_X12_9_15 ha15_3 dX12_footOf_15 ?_
    refine lv_iconst (v := 3) C.x C.b dX12_footOf_18 (by decide) ?_
    replace hf := x_b1 hf; obtain ⟨x19_4, hx19_4, hf⟩ := hf
    refine x_iald C hW hx19_4 dX12_footOf_19 ?_
    refine lv_iload_n C.x C.b dX12_footOf_20 rfl (lv_at hl 1 rfl) ?_
    refine lv_icmp_ne (tgt := 28) C.x C.b dX12_footOf_21 rfl (fun c21 => ?_) (fun c21 => ?_)
    · replace hf := x_in c21 hf
      refine lv_iconst (v := (-1)) C.x C.b dX12_footOf_28 (by decide) ?_
      rw [x_e0 hf]
      exact x_iret C hr hW dX12_footOf_29
    · replace hf := x_ip c21 hf
      refine lv_iconst (v := 1) C.x C.b dX12_footOf_24 (by decide) ?_
      refine lv_goto (tgt := 29) C.x C.b dX12_footOf_25 rfl ?_
      rw [x_e0 hf]
      exact x_iret C hr hW dX12_footOf_29
  · replace hf := x_ip c7 hf
    refine lv_iconst (v := 0) C.x C.b dX12_footOf_10 (by decide) ?_
    refine lv_goto (tgt := 29) C.x C.b dX12_footOf_11 rfl ?_
    rw [x_e0 hf]
    exact x_iret C hr hW dX12_footOf_29

theorem dX12_dabAt_0 : decode cX12_dabAt 0 = .ok (.aload_n 0, 1) := by decide +kernel
theorem dX12_dabAt_1 : decode cX12_dabAt 1 = .ok (.iload_n 1, 1) := by decide +kernel
theorem dX12_dabAt_2 : decode cX12_dabAt 2 = .ok (.bipush 8, 2) := by decide +kernel
theorem dX12_dabAt_4 : decode cX12_dabAt 4 = .ok (.invokevirtual 67, 3) := by decide +kernel
theorem dX12_dabAt_7 : decode cX12_dabAt 7 = .ok (.iconst 1, 1) := by decide +kernel
theorem dX12_dabAt_8 : decode cX12_dabAt 8 = .ok (.isub, 1) := by decide +kernel
theorem dX12_dabAt_9 : decode cX12_dabAt 9 = .ok (.istore_n 3, 1) := by decide +kernel
theorem dX12_dabAt_10 : decode cX12_dabAt 10 = .ok (.iload_n 3, 1) := by decide +kernel
theorem dX12_dabAt_11 : decode cX12_dabAt 11 = .ok (.ifCond .lt 22, 3) := by decide +kernel
theorem dX12_dabAt_14 : decode cX12_dabAt 14 = .ok (.aload_n 0, 1) := by decide +kernel
theorem dX12_dabAt_15 : decode cX12_dabAt 15 = .ok (.iload_n 1, 1) := by decide +kernel
theorem dX12_dabAt_16 : decode cX12_dabAt 16 = .ok (.bipush 9, 2) := by decide +kernel
theorem dX12_dabAt_18 : decode cX12_dabAt 18 = .ok (.iload_n 3, 1) := by decide +kernel
theorem dX12_dabAt_19 : decode cX12_dabAt 19 = .ok (.iadd, 1) := by decide +kernel
theorem dX12_dabAt_20 : decode cX12_dabAt 20 = .ok (.invokevirtual 67, 3) := by decide +kernel
theorem dX12_dabAt_23 : decode cX12_dabAt 23 = .ok (.iload_n 2, 1) := by decide +kernel
theorem dX12_dabAt_24 : decode cX12_dabAt 24 = .ok (.if_icmp .eq 9, 3) := by decide +kernel
theorem dX12_dabAt_27 : decode cX12_dabAt 27 = .ok (.iinc 3 (-1), 3) := by decide +kernel
theorem dX12_dabAt_30 : decode cX12_dabAt 30 = .ok (.goto (-20), 3) := by decide +kernel
theorem dX12_dabAt_33 : decode cX12_dabAt 33 = .ok (.iload_n 3, 1) := by decide +kernel
theorem dX12_dabAt_34 : decode cX12_dabAt 34 = .ok (.ireturn, 1) := by decide +kernel
def fX12_dabAt_L10 (M : Mm) (o : Nat) (v1 : Int32) (v2 : Int32) : Nat → Int32 → Option Int32
  | 0, _ => none
  | n + 1, v3 =>
    if v3 < 0 then
      some v3
    else
      B1 (gk M o 15) fun _ =>
      B1 (fX12_its M o v1 (9 + v3)) fun x20_4 =>
      if x20_4 = v2 then
        some v3
      else
        fX12_dabAt_L10 M o v1 v2 n (v3 + (-1))
def fX12_dabAt (M : Mm) (o : Nat) (p1 : Int32) (p2 : Int32) : Option Int32 :=
  B1 (gk M o 15) fun _ =>
  B1 (fX12_its M o p1 8) fun x4_2 =>
  fX12_dabAt_L10 M o p1 p2 FL (x4_2 - 1)
set_option maxRecDepth 100000 in
set_option maxHeartbeats 4000000 in
theorem kX12_dabAt_L10 {l : Launch} {E : Ev} {p : Program} {e : Env} {s : State} {m : MethodId} {args : Array Value} {below : List Frame} {meth : Method} {c : Code} (C : Cx E p s m args meth c cX12_dabAt yX12_dabAt.cls 4) (hr : meth.sig.returnType = (some .int)) (hin : yX12_dabAt.name = "<init>" → meth.name = "<init>") {M : Mm}  {o : Nat} {v1 : Int32} {v2 : Int32} {rz : Int32} : ∀ (n : Nat) (v3 : Int32), fX12_dabAt_L10 M o v1 v2 n v3 = some rz → ∀ (H : Heap) (locs : List Loc) (ls : Array Slot), Wx E s H locs M → lv_has ls 4 [(0, .ref (E.b + o)), (1, .int v1), (2, .int v2), (3, .int v3)] → W p l e (rM 1 22 0 0) s m args below meth c H locs 0 0 (MQ below (Qp E (some (.int rz)) M) args s 0 0 E.A) (F0 m 10 ls []) := by
  intro n
  induction n with
  | zero =>
    intro v3 hf
    unfold fX12_dabAt_L10 at hf
    cases hf
  | succ n ih =>
    intro v3 hf H locs ls hW hl
    unfold fX12_dabAt_L10 at hf
    refine lv_iload_n C.x C.b dX12_dabAt_10 rfl (lv_at hl 3 rfl) ?_
    refine lv_if_lt (tgt := 33) C.x C.b dX12_dabAt_11 rfl (fun c11 => ?_) (fun c11 => ?_)
    · replace hf := x_ip c11 hf
      refine lv_iload_n C.x C.b dX12_dabAt_33 rfl (lv_at hl 3 rfl) ?_
      rw [x_e0 hf]
      exact x_iret C hr hW dX12_dabAt_34
    · replace hf := x_in c11 hf
      refine lv_aload_n C.x C.b dX12_dabAt_14 rfl (lv_at hl 0 rfl) ?_
      refine lv_iload_n C.x C.b dX12_dabAt_15 rfl (lv_at hl 1 rfl) ?_
      refine lv_bipush (v := 9) C.x C.b dX12_dabAt_16 (by decide) ?_
      refine lv_iload_n C.x C.b dX12_dabAt_18 rfl (lv_at hl 3 rfl) ?_
      refine lv_iadd C.x C.b dX12_dabAt_19 ?_
      replace hf := x_b1 hf; obtain ⟨_, hk20_3, hf⟩ := hf
      replace hf := x_b1 hf; obtain ⟨x20_4, hx20_4, hf⟩ := hf
      refine x_callV (As := [.int v1, .int (9 + v3)]) (a := o) (rest := []) C hW hl (qX12_its l E hx20_4) (x_gk hk20_3) (by decide) (by decide) rfl gv_X12_67 ⟨rfl, hd_X12_its⟩ rfl rfl (Nat.le_of_ble_eq_true rfl) dX12_dabAt_20 ⟨Nat.le_of_ble_eq_true rfl, Nat.le_of_ble_eq_true rfl⟩ ⟨Nat.le_of_ble_eq_true rfl, Nat.le_of_ble_eq_true rfl⟩ (fun H locs hW => ?_)
      refine lv_iload_n C.x C.b dX12_dabAt_23 rfl (lv_at hl 2 rfl) ?_
      refine lv_icmp_eq (tgt := 33) C.x C.b dX12_dabAt_24 rfl (fun c24 => ?_) (fun c24 => ?_)
      · replace hf := x_ip c24 hf
        refine lv_iload_n C.x C.b dX12_dabAt_33 rfl (lv_at hl 3 rfl) ?_
        rw [x_e0 hf]
        exact x_iret C hr hW dX12_dabAt_34
      · replace hf := x_in c24 hf
        refine lv_iinc (v := (v3 + (-1))) (lv' := [(3, .int (v3 + (-1))), (0, .ref (E.b + _)), (1, .int _), (2, .int _)]) C.x C.b dX12_dabAt_27 hl (k := 3) rfl (by first | rfl | decide) (by decide) rfl (fun ls hl => ?_)
        refine lv_goto (tgt := 10) C.x C.b dX12_dabAt_30 rfl ?_
        exact ih (v3 + (-1)) hf _ _ _ hW (lv_sub hl [1, 2, 3, 0] rfl)
set_option maxRecDepth 100000 in
set_option maxHeartbeats 4000000 in
theorem qX12_dabAt (l : Launch) (E : Ev) {M : Mm} {o : Nat} {p1 : Int32} {p2 : Int32} {rz : Int32} (hf : fX12_dabAt M o p1 p2 = some rz) : Ct l E yX12_dabAt cX12_dabAt 4 (some .int) 1 22 0 0 [.ref (E.b + o), .int p1, .int p2] M (some (.int rz)) M := by
  refine ct_of (by decide +kernel) (Nat.le_of_ble_eq_true rfl) fun p e s m args below meth c C hr hin hW ls hl => ?_
  have hl : lv_has ls 4 [(0, .ref (E.b + o)), (1, .int p1), (2, .int p2)] := hl
  unfold fX12_dabAt at hf
  refine lv_aload_n C.x C.b dX12_dabAt_0 rfl (lv_at hl 0 rfl) ?_
  refine lv_iload_n C.x C.b dX12_dabAt_1 rfl (lv_at hl 1 rfl) ?_
  refine lv_bipush (v := 8) C.x C.b dX12_dabAt_2 (by decide) ?_
  replace hf := x_b1 hf; obtain ⟨_, hk4_1, hf⟩ := hf
  replace hf := x_b1 hf; obtain ⟨x4_2, hx4_2, hf⟩ := hf
  refine x_callV (As := [.int p1, .int 8]) (a := o) (rest := []) C hW hl (qX12_its l E hx4_2) (x_gk hk4_1) (by decide) (by decide) rfl gv_X12_67 ⟨rfl, hd_X12_its⟩ rfl rfl (Nat.le_of_ble_eq_true rfl) dX12_dabAt_4 ⟨Nat.le_of_ble_eq_true rfl, Nat.le_of_ble_eq_true rfl⟩ ⟨Nat.le_of_ble_eq_true rfl, Nat.le_of_ble_eq_true rfl⟩ (fun H locs hW => ?_)
  refine lv_iconst (v := 1) C.x C.b dX12_dabAt_7 (by decide) ?_
  refine lv_isub C.x C.b dX12_dabAt_8 ?_
  refine lv_istore_n (lv' := [(3, .int _), (0, .ref (E.b + _)), (1, .int _), (2, .int _)]) C.x C.b dX12_dabAt_9 rfl hl (by decide) rfl (fun ls hl => ?_)
  exact kX12_dabAt_L10 C hr hin FL (x4_2 - 1) hf _ _ _ hW (lv_sub hl [1, 2, 3, 0] rfl)

theorem dX12_isOpen_0 : decode cX12_isOpen 0 = .ok (.aload_n 0, 1) := by decide +kernel
theorem dX12_isOpen_1 : decode cX12_isOpen 1 = .ok (.iload_n 1, 1) := by decide +kernel
theorem dX12_isOpen_2 : decode cX12_isOpen 2 = .ok (.invokevirtual 71, 3) := by decide +kernel
theorem dX12_isOpen_5 : decode cX12_isOpen 5 = .ok (.ifCond .eq 31, 3) := by decide +kernel
theorem dX12_isOpen_8 : decode cX12_isOpen 8 = .ok (.iload_n 2, 1) := by decide +kernel
theorem dX12_isOpen_9 : decode cX12_isOpen 9 = .ok (.i2l, 1) := by decide +kernel
theorem dX12_isOpen_10 : decode cX12_isOpen 10 = .ok (.aload_n 0, 1) := by decide +kernel
theorem dX12_isOpen_11 : decode cX12_isOpen 11 = .ok (.iload_n 1, 1) := by decide +kernel
theorem dX12_isOpen_12 : decode cX12_isOpen 12 = .ok (.bipush 6, 2) := by decide +kernel
theorem dX12_isOpen_14 : decode cX12_isOpen 14 = .ok (.invokevirtual 67, 3) := by decide +kernel
theorem dX12_isOpen_17 : decode cX12_isOpen 17 = .ok (.i2l, 1) := by decide +kernel
theorem dX12_isOpen_18 : decode cX12_isOpen 18 = .ok (.aload_n 0, 1) := by decide +kernel
theorem dX12_isOpen_19 : decode cX12_isOpen 19 = .ok (.iload_n 1, 1) := by decide +kernel
theorem dX12_isOpen_20 : decode cX12_isOpen 20 = .ok (.bipush 7, 2) := by decide +kernel
theorem dX12_isOpen_22 : decode cX12_isOpen 22 = .ok (.invokevirtual 67, 3) := by decide +kernel
theorem dX12_isOpen_25 : decode cX12_isOpen 25 = .ok (.i2l, 1) := by decide +kernel
theorem dX12_isOpen_26 : decode cX12_isOpen 26 = .ok (.invokestatic 61, 3) := by decide +kernel
theorem dX12_isOpen_29 : decode cX12_isOpen 29 = .ok (.ifCond .eq 7, 3) := by decide +kernel
theorem dX12_isOpen_32 : decode cX12_isOpen 32 = .ok (.iconst 1, 1) := by decide +kernel
theorem dX12_isOpen_33 : decode cX12_isOpen 33 = .ok (.goto 4, 3) := by decide +kernel
theorem dX12_isOpen_36 : decode cX12_isOpen 36 = .ok (.iconst 0, 1) := by decide +kernel
theorem dX12_isOpen_37 : decode cX12_isOpen 37 = .ok (.ireturn, 1) := by decide +kernel
def fX12_isOpen (M : Mm) (o : Nat) (p1 : Int32) (p2 : Int32) : Option Int32 :=
  B1 (gk M o 15) fun _ =>
  B1 (fX12_hasLadder M o p1) fun x2_2 =>
  if x2_2 = 0 then
    some 0
  else
    B1 (gk M o 15) fun _ =>
    B1 (fX12_its M o p1 6) fun x14_4 =>
    B1 (gk M o 15) fun _ =>
    B1 (fX12_its M o p1 7) fun x22_6 =>
    B1 (fX12_in M (p2.toInt64) (x14_4.toInt64) (x22_6.toInt64)) fun x26_7 =>
    if x26_7 = 0 then
      some 0
    else
      some 1
set_option maxRecDepth 100000 in
set_option maxHeartbeats 4000000 in
theorem qX12_isOpen (l : Launch) (E : Ev) {M : Mm} {o : Nat} {p1 : Int32} {p2 : Int32} {rz : Int32} (hf : fX12_isOpen M o p1 p2 = some rz) : Ct l E yX12_isOpen cX12_isOpen 3 (some .boolean) 2 43 0 0 [.ref (E.b + o), .int p1, .int p2] M (some (.int rz)) M := by
  refine ct_of (by decide +kernel) (Nat.le_of_ble_eq_true rfl) fun p e s m args below meth c C hr hin hW ls hl => ?_
  have hl : lv_has ls 3 [(0, .ref (E.b + o)), (1, .int p1), (2, .int p2)] := hl
  unfold fX12_isOpen at hf
  refine lv_aload_n C.x C.b dX12_isOpen_0 rfl (lv_at hl 0 rfl) ?_
  refine lv_iload_n C.x C.b dX12_isOpen_1 rfl (lv_at hl 1 rfl) ?_
  replace hf := x_b1 hf; obtain ⟨_, hk2_1, hf⟩ := hf
  replace hf := x_b1 hf; obtain ⟨x2_2, hx2_2, hf⟩ := hf
  refine x_callV (As := [.int p1]) (a := o) (rest := []) C hW hl (qX12_hasLadder l E hx2_2) (x_gk hk2_1) (by decide) (by decide) rfl gv_X12_71 ⟨rfl, hd_X12_hasLadder⟩ rfl rfl (Nat.le_of_ble_eq_true rfl) dX12_isOpen_2 ⟨Nat.le_of_ble_eq_true rfl, Nat.le_of_ble_eq_true rfl⟩ ⟨Nat.le_of_ble_eq_true rfl, Nat.le_of_ble_eq_true rfl⟩ (fun H locs hW => ?_)
  refine lv_if_eq (tgt := 36) C.x C.b dX12_isOpen_5 rfl (fun c5 => ?_) (fun c5 => ?_)
  · replace hf := x_ip c5 hf
    refine lv_iconst (v := 0) C.x C.b dX12_isOpen_36 (by decide) ?_
    rw [x_e0 hf]
    exact x_zret C hr hW (v := 0) (w := 0) rfl dX12_isOpen_37
  · replace hf := x_in c5 hf
    refine lv_iload_n C.x C.b dX12_isOpen_8 rfl (lv_at hl 2 rfl) ?_
    refine lv_i2l (v := p2.toInt64) C.x C.b dX12_isOpen_9 rfl ?_
    refine lv_aload_n C.x C.b dX12_isOpen_10 rfl (lv_at hl 0 rfl) ?_
    refine lv_iload_n C.x C.b dX12_isOpen_11 rfl (lv_at hl 1 rfl) ?_
    refine lv_bipush (v := 6) C.x C.b dX12_isOpen_12 (by decide) ?_
    replace hf := x_b1 hf; obtain ⟨_, hk14_3, hf⟩ := hf
    replace hf := x_b1 hf; obtain ⟨x14_4, hx14_4, hf⟩ := hf
    refine x_callV (As := [.int p1, .int 6]) (a := o) (rest := [.long (p2.toInt64)]) C hW hl (qX12_its l E hx14_4) (x_gk hk14_3) (by decide) (by decide) rfl gv_X12_67 ⟨rfl, hd_X12_its⟩ rfl rfl (Nat.le_of_ble_eq_true rfl) dX12_isOpen_14 ⟨Nat.le_of_ble_eq_true rfl, Nat.le_of_ble_eq_true rfl⟩ ⟨Nat.le_of_ble_eq_true rfl, Nat.le_of_ble_eq_true rfl⟩ (fun H locs hW => ?_)
    refine lv_i2l (v := x14_4.toInt64) C.x C.b dX12_isOpen_17 rfl ?_
    refine lv_aload_n C.x C.b dX12_isOpen_18 rfl (lv_at hl 0 rfl) ?_
    refine lv_iload_n C.x C.b dX12_isOpen_19 rfl (lv_at hl 1 rfl) ?_
    refine lv_bipush (v := 7) C.x C.b dX12_isOpen_20 (by decide) ?_
    replace hf := x_b1 hf; obtain ⟨_, hk22_5, hf⟩ := hf
    replace hf := x_b1 hf; obtain ⟨x22_6, hx22_6, hf⟩ := hf
    refine x_callV (As := [.int p1, .int 7]) (a := o) (rest := [.long (x14_4.toInt64), .long (p2.toInt64)]) C hW hl (qX12_its l E hx22_6) (x_gk hk22_5) (by decide) (by decide) rfl gv_X12_67 ⟨rfl, hd_X12_its⟩ rfl rfl (Nat.le_of_ble_eq_true rfl) dX12_isOpen_22 ⟨Nat.le_of_ble_eq_true rfl, Nat.le_of_ble_eq_true rfl⟩ ⟨Nat.le_of_ble_eq_true rfl, Nat.le_of_ble_eq_true rfl⟩ (fun H locs hW => ?_)
    refine lv_i2l (v := x22_6.toInt64) C.x C.b dX12_isOpen_25 rfl ?_
    replace hf := x_b1 hf; obtain ⟨x26_7, hx26_7, hf⟩ := hf
    refine x_callS (As := [.long (p2.toInt64), .long (x14_4.toInt64), .long (x22_6.toInt64)]) (rest := []) C hW hl (qX12_in l E hx26_7) gs_X12_61 hd_X12_in rfl rfl (Nat.le_of_ble_eq_true rfl) dX12_isOpen_26 ⟨Nat.le_of_ble_eq_true rfl, Nat.le_of_ble_eq_true rfl⟩ ⟨Nat.le_of_ble_eq_true rfl, Nat.le_of_ble_eq_true rfl⟩ (fun H locs hW => ?_)
    refine lv_if_eq (tgt := 36) C.x C.b dX12_isOpen_29 rfl (fun c29 => ?_) (fun c29 => ?_)
    · replace hf := x_ip c29 hf
      refine lv_iconst (v := 0) C.x C.b dX12_isOpen_36 (by decide) ?_
      rw [x_e0 hf]
      exact x_zret C hr hW (v := 0) (w := 0) rfl dX12_isOpen_37
    · replace hf := x_in c29 hf
      refine lv_iconst (v := 1) C.x C.b dX12_isOpen_32 (by decide) ?_
      refine lv_goto (tgt := 37) C.x C.b dX12_isOpen_33 rfl ?_
      rw [x_e0 hf]
      exact x_zret C hr hW (v := 1) (w := 1) rfl dX12_isOpen_37

theorem dX12_least_0 : decode cX12_least 0 = .ok (.iload_n 0, 1) := by decide +kernel
theorem dX12_least_1 : decode cX12_least 1 = .ok (.iconst 4, 1) := by decide +kernel
theorem dX12_least_2 : decode cX12_least 2 = .ok (.if_icmp .ne 8, 3) := by decide +kernel
theorem dX12_least_5 : decode cX12_least 5 = .ok (.bipush 31, 2) := by decide +kernel
theorem dX12_least_7 : decode cX12_least 7 = .ok (.goto 19, 3) := by decide +kernel
theorem dX12_least_10 : decode cX12_least 10 = .ok (.iload_n 0, 1) := by decide +kernel
theorem dX12_least_11 : decode cX12_least 11 = .ok (.iconst 2, 1) := by decide +kernel
theorem dX12_least_12 : decode cX12_least 12 = .ok (.if_icmp .eq 9, 3) := by decide +kernel
theorem dX12_least_15 : decode cX12_least 15 = .ok (.iload_n 0, 1) := by decide +kernel
theorem dX12_least_16 : decode cX12_least 16 = .ok (.bipush 6, 2) := by decide +kernel
theorem dX12_least_18 : decode cX12_least 18 = .ok (.if_icmp .ne 7, 3) := by decide +kernel
theorem dX12_least_21 : decode cX12_least 21 = .ok (.iconst 1, 1) := by decide +kernel
theorem dX12_least_22 : decode cX12_least 22 = .ok (.goto 4, 3) := by decide +kernel
theorem dX12_least_25 : decode cX12_least 25 = .ok (.iconst 0, 1) := by decide +kernel
theorem dX12_least_26 : decode cX12_least 26 = .ok (.ireturn, 1) := by decide +kernel
def fX12_least (M : Mm) (p1 : Int32) : Option Int32 :=
  if p1 = 4 then
    some 31
  else
    if p1 = 2 then
      some 1
    else
      if p1 = 6 then
        some 1
      else
        some 0
set_option maxRecDepth 100000 in
set_option maxHeartbeats 4000000 in
theorem qX12_least (l : Launch) (E : Ev) {M : Mm} {p1 : Int32} {rz : Int32} (hf : fX12_least M p1 = some rz) : Ct l E yX12_least cX12_least 1 (some .int) 0 0 0 0 [.int p1] M (some (.int rz)) M := by
  refine ct_of (by decide +kernel) (Nat.le_of_ble_eq_true rfl) fun p e s m args below meth c C hr hin hW ls hl => ?_
  have hl : lv_has ls 1 [(0, .int p1)] := hl
  unfold fX12_least at hf
  refine lv_iload_n C.x C.b dX12_least_0 rfl (lv_at hl 0 rfl) ?_
  refine lv_iconst (v := 4) C.x C.b dX12_least_1 (by decide) ?_
  refine lv_icmp_ne (tgt := 10) C.x C.b dX12_least_2 rfl (fun c2 => ?_) (fun c2 => ?_)
  · replace hf := x_in c2 hf
    refine lv_iload_n C.x C.b dX12_least_10 rfl (lv_at hl 0 rfl) ?_
    refine lv_iconst (v := 2) C.x C.b dX12_least_11 (by decide) ?_
    refine lv_icmp_eq (tgt := 21) C.x C.b dX12_least_12 rfl (fun c12 => ?_) (fun c12 => ?_)
    · replace hf := x_ip c12 hf
      refine lv_iconst (v := 1) C.x C.b dX12_least_21 (by decide) ?_
      refine lv_goto (tgt := 26) C.x C.b dX12_least_22 rfl ?_
      rw [x_e0 hf]
      exact x_iret C hr hW dX12_least_26
    · replace hf := x_in c12 hf
      refine lv_iload_n C.x C.b dX12_least_15 rfl (lv_at hl 0 rfl) ?_
      refine lv_bipush (v := 6) C.x C.b dX12_least_16 (by decide) ?_
      refine lv_icmp_ne (tgt := 25) C.x C.b dX12_least_18 rfl (fun c18 => ?_) (fun c18 => ?_)
      · replace hf := x_in c18 hf
        refine lv_iconst (v := 0) C.x C.b dX12_least_25 (by decide) ?_
        rw [x_e0 hf]
        exact x_iret C hr hW dX12_least_26
      · replace hf := x_ip c18 hf
        refine lv_iconst (v := 1) C.x C.b dX12_least_21 (by decide) ?_
        refine lv_goto (tgt := 26) C.x C.b dX12_least_22 rfl ?_
        rw [x_e0 hf]
        exact x_iret C hr hW dX12_least_26
  · replace hf := x_ip c2 hf
    refine lv_bipush (v := 31) C.x C.b dX12_least_5 (by decide) ?_
    refine lv_goto (tgt := 26) C.x C.b dX12_least_7 rfl ?_
    rw [x_e0 hf]
    exact x_iret C hr hW dX12_least_26

theorem dX12_most_0 : decode cX12_most 0 = .ok (.iload_n 0, 1) := by decide +kernel
theorem dX12_most_1 : decode cX12_most 1 = .ok (.tableswitch 64 0 6 #[43, 46, 49, 51, 54, 57, 60], 43) := by decide +kernel
theorem dX12_most_44 : decode cX12_most 44 = .ok (.bipush 9, 2) := by decide +kernel
theorem dX12_most_46 : decode cX12_most 46 = .ok (.ireturn, 1) := by decide +kernel
theorem dX12_most_47 : decode cX12_most 47 = .ok (.bipush 20, 2) := by decide +kernel
theorem dX12_most_49 : decode cX12_most 49 = .ok (.ireturn, 1) := by decide +kernel
theorem dX12_most_50 : decode cX12_most 50 = .ok (.iconst 5, 1) := by decide +kernel
theorem dX12_most_51 : decode cX12_most 51 = .ok (.ireturn, 1) := by decide +kernel
theorem dX12_most_52 : decode cX12_most 52 = .ok (.bipush 30, 2) := by decide +kernel
theorem dX12_most_54 : decode cX12_most 54 = .ok (.ireturn, 1) := by decide +kernel
theorem dX12_most_55 : decode cX12_most 55 = .ok (.bipush 100, 2) := by decide +kernel
theorem dX12_most_57 : decode cX12_most 57 = .ok (.ireturn, 1) := by decide +kernel
theorem dX12_most_58 : decode cX12_most 58 = .ok (.bipush 99, 2) := by decide +kernel
theorem dX12_most_60 : decode cX12_most 60 = .ok (.ireturn, 1) := by decide +kernel
theorem dX12_most_61 : decode cX12_most 61 = .ok (.sipush 999, 3) := by decide +kernel
theorem dX12_most_64 : decode cX12_most 64 = .ok (.ireturn, 1) := by decide +kernel
theorem dX12_most_65 : decode cX12_most 65 = .ok (.bipush 10, 2) := by decide +kernel
theorem dX12_most_67 : decode cX12_most 67 = .ok (.ireturn, 1) := by decide +kernel
def fX12_most (M : Mm) (p1 : Int32) : Option Int32 :=
  if p1 = 0 then
    some 9
  else
    if p1 = 1 then
      some 20
    else
      if p1 = 2 then
        some 5
      else
        if p1 = 3 then
          some 30
        else
          if p1 = 4 then
            some 100
          else
            if p1 = 5 then
              some 99
            else
              if p1 = 6 then
                some 999
              else
                some 10
set_option maxRecDepth 100000 in
set_option maxHeartbeats 4000000 in
theorem qX12_most (l : Launch) (E : Ev) {M : Mm} {p1 : Int32} {rz : Int32} (hf : fX12_most M p1 = some rz) : Ct l E yX12_most cX12_most 1 (some .int) 0 0 0 0 [.int p1] M (some (.int rz)) M := by
  refine ct_of (by decide +kernel) (Nat.le_of_ble_eq_true rfl) fun p e s m args below meth c C hr hin hW ls hl => ?_
  have hl : lv_has ls 1 [(0, .int p1)] := hl
  unfold fX12_most at hf
  refine lv_iload_n C.x C.b dX12_most_0 rfl (lv_at hl 0 rfl) ?_
  by_cases s1_0 : p1 = 0
  · replace hf := x_ip s1_0 hf
    refine lv_tableIn (off := 43) (tgt := 44) C.x C.b dX12_most_1 (by rw [s1_0]; decide) (by rw [s1_0]; decide) (by rw [s1_0]; rfl) rfl ?_
    refine lv_bipush (v := 9) C.x C.b dX12_most_44 (by decide) ?_
    rw [x_e0 hf]
    exact x_iret C hr hW dX12_most_46
  · replace hf := x_in s1_0 hf
    by_cases s1_1 : p1 = 1
    · replace hf := x_ip s1_1 hf
      refine lv_tableIn (off := 46) (tgt := 47) C.x C.b dX12_most_1 (by rw [s1_1]; decide) (by rw [s1_1]; decide) (by rw [s1_1]; rfl) rfl ?_
      refine lv_bipush (v := 20) C.x C.b dX12_most_47 (by decide) ?_
      rw [x_e0 hf]
      exact x_iret C hr hW dX12_most_49
    · replace hf := x_in s1_1 hf
      by_cases s1_2 : p1 = 2
      · replace hf := x_ip s1_2 hf
        refine lv_tableIn (off := 49) (tgt := 50) C.x C.b dX12_most_1 (by rw [s1_2]; decide) (by rw [s1_2]; decide) (by rw [s1_2]; rfl) rfl ?_
        refine lv_iconst (v := 5) C.x C.b dX12_most_50 (by decide) ?_
        rw [x_e0 hf]
        exact x_iret C hr hW dX12_most_51
      · replace hf := x_in s1_2 hf
        by_cases s1_3 : p1 = 3
        · replace hf := x_ip s1_3 hf
          refine lv_tableIn (off := 51) (tgt := 52) C.x C.b dX12_most_1 (by rw [s1_3]; decide) (by rw [s1_3]; decide) (by rw [s1_3]; rfl) rfl ?_
          refine lv_bipush (v := 30) C.x C.b dX12_most_52 (by decide) ?_
          rw [x_e0 hf]
          exact x_iret C hr hW dX12_most_54
        · replace hf := x_in s1_3 hf
          by_cases s1_4 : p1 = 4
          · replace hf := x_ip s1_4 hf
            refine lv_tableIn (off := 54) (tgt := 55) C.x C.b dX12_most_1 (by rw [s1_4]; decide) (by rw [s1_4]; decide) (by rw [s1_4]; rfl) rfl ?_
            refine lv_bipush (v := 100) C.x C.b dX12_most_55 (by decide) ?_
            rw [x_e0 hf]
            exact x_iret C hr hW dX12_most_57
          · replace hf := x_in s1_4 hf
            by_cases s1_5 : p1 = 5
            · replace hf := x_ip s1_5 hf
              refine lv_tableIn (off := 57) (tgt := 58) C.x C.b dX12_most_1 (by rw [s1_5]; decide) (by rw [s1_5]; decide) (by rw [s1_5]; rfl) rfl ?_
              refine lv_bipush (v := 99) C.x C.b dX12_most_58 (by decide) ?_
              rw [x_e0 hf]
              exact x_iret C hr hW dX12_most_60
            · replace hf := x_in s1_5 hf
              by_cases s1_6 : p1 = 6
              · replace hf := x_ip s1_6 hf
                refine lv_tableIn (off := 60) (tgt := 61) C.x C.b dX12_most_1 (by rw [s1_6]; decide) (by rw [s1_6]; decide) (by rw [s1_6]; rfl) rfl ?_
                refine lv_sipush (v := 999) C.x C.b dX12_most_61 (by decide) ?_
                rw [x_e0 hf]
                exact x_iret C hr hW dX12_most_64
              · replace hf := x_in s1_6 hf
                have s1_0_ := lv_neT (a := 0) s1_0 rfl
                have s1_1_ := lv_neT (a := 1) s1_1 rfl
                have s1_2_ := lv_neT (a := 2) s1_2 rfl
                have s1_3_ := lv_neT (a := 3) s1_3 rfl
                have s1_4_ := lv_neT (a := 4) s1_4 rfl
                have s1_5_ := lv_neT (a := 5) s1_5 rfl
                have s1_6_ := lv_neT (a := 6) s1_6 rfl
                refine lv_tableOut (tgt := 65) C.x C.b dX12_most_1 (by omega) rfl ?_
                refine lv_bipush (v := 10) C.x C.b dX12_most_65 (by decide) ?_
                rw [x_e0 hf]
                exact x_iret C hr hW dX12_most_67

theorem dX12_set_0 : decode cX12_set 0 = .ok (.iload_n 1, 1) := by decide +kernel
theorem dX12_set_1 : decode cX12_set 1 = .ok (.i2l, 1) := by decide +kernel
theorem dX12_set_2 : decode cX12_set 2 = .ok (.lconst 0, 1) := by decide +kernel
theorem dX12_set_3 : decode cX12_set 3 = .ok (.ldc2_w 75, 3) := by decide +kernel
theorem dX12_set_6 : decode cX12_set 6 = .ok (.invokestatic 61, 3) := by decide +kernel
theorem dX12_set_9 : decode cX12_set 9 = .ok (.ifCond .eq 21, 3) := by decide +kernel
theorem dX12_set_12 : decode cX12_set 12 = .ok (.iload_n 2, 1) := by decide +kernel
theorem dX12_set_13 : decode cX12_set 13 = .ok (.i2l, 1) := by decide +kernel
theorem dX12_set_14 : decode cX12_set 14 = .ok (.iload_n 1, 1) := by decide +kernel
theorem dX12_set_15 : decode cX12_set 15 = .ok (.invokestatic 77, 3) := by decide +kernel
theorem dX12_set_18 : decode cX12_set 18 = .ok (.i2l, 1) := by decide +kernel
theorem dX12_set_19 : decode cX12_set 19 = .ok (.iload_n 1, 1) := by decide +kernel
theorem dX12_set_20 : decode cX12_set 20 = .ok (.invokestatic 80, 3) := by decide +kernel
theorem dX12_set_23 : decode cX12_set 23 = .ok (.i2l, 1) := by decide +kernel
theorem dX12_set_24 : decode cX12_set 24 = .ok (.invokestatic 61, 3) := by decide +kernel
theorem dX12_set_27 : decode cX12_set 27 = .ok (.ifCond .ne 5, 3) := by decide +kernel
theorem dX12_set_30 : decode cX12_set 30 = .ok (.iconst (-1), 1) := by decide +kernel
theorem dX12_set_31 : decode cX12_set 31 = .ok (.ireturn, 1) := by decide +kernel
theorem dX12_set_32 : decode cX12_set 32 = .ok (.aload_n 0, 1) := by decide +kernel
theorem dX12_set_33 : decode cX12_set 33 = .ok (.getfield 9, 3) := by decide +kernel
theorem dX12_set_36 : decode cX12_set 36 = .ok (.iconst 4, 1) := by decide +kernel
theorem dX12_set_37 : decode cX12_set 37 = .ok (.iload_n 1, 1) := by decide +kernel
theorem dX12_set_38 : decode cX12_set 38 = .ok (.iadd, 1) := by decide +kernel
theorem dX12_set_39 : decode cX12_set 39 = .ok (.iaload, 1) := by decide +kernel
theorem dX12_set_40 : decode cX12_set 40 = .ok (.istore_n 3, 1) := by decide +kernel
theorem dX12_set_41 : decode cX12_set 41 = .ok (.aload_n 0, 1) := by decide +kernel
theorem dX12_set_42 : decode cX12_set 42 = .ok (.getfield 9, 3) := by decide +kernel
theorem dX12_set_45 : decode cX12_set 45 = .ok (.iconst 4, 1) := by decide +kernel
theorem dX12_set_46 : decode cX12_set 46 = .ok (.iload_n 1, 1) := by decide +kernel
theorem dX12_set_47 : decode cX12_set 47 = .ok (.iadd, 1) := by decide +kernel
theorem dX12_set_48 : decode cX12_set 48 = .ok (.iload_n 2, 1) := by decide +kernel
theorem dX12_set_49 : decode cX12_set 49 = .ok (.iastore, 1) := by decide +kernel
theorem dX12_set_50 : decode cX12_set 50 = .ok (.iload_n 3, 1) := by decide +kernel
theorem dX12_set_51 : decode cX12_set 51 = .ok (.ireturn, 1) := by decide +kernel
theorem hd_X12_least : yX12_least.cls ≠ "java/lang/invoke/MethodHandle" ∧ yX12_least.cls ≠ "java/lang/invoke/VarHandle" ∧ (parseMethodDescriptor yX12_least.desc).map (fun d => d.parameters.length) = some 1 := by decide +kernel
theorem gs_X12_77 : GoodIn gT (va_wsS "NylonLadderModel" 77 yX12_least (Cond.code yX12_least cX12_least 1 (some .int) :: gT)) := good_S T_6_133 T_6_134 T_1_10 T_6_135
theorem hd_X12_most : yX12_most.cls ≠ "java/lang/invoke/MethodHandle" ∧ yX12_most.cls ≠ "java/lang/invoke/VarHandle" ∧ (parseMethodDescriptor yX12_most.desc).map (fun d => d.parameters.length) = some 1 := by decide +kernel
theorem gs_X12_80 : GoodIn gT (va_wsS "NylonLadderModel" 80 yX12_most (Cond.code yX12_most cX12_most 1 (some .int) :: gT)) := good_S T_6_136 T_6_137 T_1_10 T_6_138
def fX12_set (M : Mm) (o : Nat) (p1 : Int32) (p2 : Int32) : Option (Int32 × Mm) :=
  B1 (fX12_in M (p1.toInt64) 0 7) fun x6_1 =>
  if x6_1 = 0 then
    some ((-1), M)
  else
    B1 (fX12_least M p1) fun x15_2 =>
    B1 (fX12_most M p1) fun x20_3 =>
    B1 (fX12_in M (p2.toInt64) (x15_2.toInt64) (x20_3.toInt64)) fun x24_4 =>
    if x24_4 = 0 then
      some ((-1), M)
    else
      B1 (rdN M o 15 0) fun a33_5 =>
      B1 (alI M a33_5 (4 + p1)) fun x39_6 =>
      B1 (rdN M o 15 0) fun a42_7 =>
      B1 (asI M a42_7 (4 + p1) p2) fun M49_8 =>
      some (x39_6, M49_8)
set_option maxRecDepth 100000 in
set_option maxHeartbeats 4000000 in
theorem qX12_set (l : Launch) (E : Ev) {M : Mm} {o : Nat} {p1 : Int32} {p2 : Int32} {rz : Int32} {Mz : Mm} (hf : fX12_set M o p1 p2 = some (rz, Mz)) : Ct l E yX12_set cX12_set 4 (some .int) 1 25 0 0 [.ref (E.b + o), .int p1, .int p2] M (some (.int rz)) Mz := by
  refine ct_of (by decide +kernel) (Nat.le_of_ble_eq_true rfl) fun p e s m args below meth c C hr hin hW ls hl => ?_
  have hl : lv_has ls 4 [(0, .ref (E.b + o)), (1, .int p1), (2, .int p2)] := hl
  unfold fX12_set at hf
  refine lv_iload_n C.x C.b dX12_set_0 rfl (lv_at hl 1 rfl) ?_
  refine lv_i2l (v := p1.toInt64) C.x C.b dX12_set_1 rfl ?_
  refine lv_lconst (v := 0) C.x C.b dX12_set_2 (by decide) ?_
  refine x_ldc2 (v := 7) C T_6_129 dX12_set_3 ?_
  replace hf := x_b1 hf; obtain ⟨x6_1, hx6_1, hf⟩ := hf
  refine x_callS (As := [.long (p1.toInt64), .long 0, .long 7]) (rest := []) C hW hl (qX12_in l E hx6_1) gs_X12_61 hd_X12_in rfl rfl (Nat.le_of_ble_eq_true rfl) dX12_set_6 ⟨Nat.le_of_ble_eq_true rfl, Nat.le_of_ble_eq_true rfl⟩ ⟨Nat.le_of_ble_eq_true rfl, Nat.le_of_ble_eq_true rfl⟩ (fun H locs hW => ?_)
  refine lv_if_eq (tgt := 30) C.x C.b dX12_set_9 rfl (fun c9 => ?_) (fun c9 => ?_)
  · replace hf := x_ip c9 hf
    refine lv_iconst (v := (-1)) C.x C.b dX12_set_30 (by decide) ?_
    rw [x_e1 hf, x_e2 hf]
    exact x_iret C hr hW dX12_set_31
  · replace hf := x_in c9 hf
    refine lv_iload_n C.x C.b dX12_set_12 rfl (lv_at hl 2 rfl) ?_
    refine lv_i2l (v := p2.toInt64) C.x C.b dX12_set_13 rfl ?_
    refine lv_iload_n C.x C.b dX12_set_14 rfl (lv_at hl 1 rfl) ?_
    replace hf := x_b1 hf; obtain ⟨x15_2, hx15_2, hf⟩ := hf
    refine x_callS (As := [.int p1]) (rest := [.long (p2.toInt64)]) C hW hl (qX12_least l E hx15_2) gs_X12_77 hd_X12_least rfl rfl (Nat.le_of_ble_eq_true rfl) dX12_set_15 ⟨Nat.le_of_ble_eq_true rfl, Nat.le_of_ble_eq_true rfl⟩ ⟨Nat.le_of_ble_eq_true rfl, Nat.le_of_ble_eq_true rfl⟩ (fun H locs hW => ?_)
    refine lv_i2l (v := x15_2.toInt64) C.x C.b dX12_set_18 rfl ?_
    refine lv_iload_n C.x C.b dX12_set_19 rfl (lv_at hl 1 rfl) ?_
    replace hf := x_b1 hf; obtain ⟨x20_3, hx20_3, hf⟩ := hf
    refine x_callS (As := [.int p1]) (rest := [.long (x15_2.toInt64), .long (p2.toInt64)]) C hW hl (qX12_most l E hx20_3) gs_X12_80 hd_X12_most rfl rfl (Nat.le_of_ble_eq_true rfl) dX12_set_20 ⟨Nat.le_of_ble_eq_true rfl, Nat.le_of_ble_eq_true rfl⟩ ⟨Nat.le_of_ble_eq_true rfl, Nat.le_of_ble_eq_true rfl⟩ (fun H locs hW => ?_)
    refine lv_i2l (v := x20_3.toInt64) C.x C.b dX12_set_23 rfl ?_
    replace hf := x_b1 hf; obtain ⟨x24_4, hx24_4, hf⟩ := hf
    refine x_callS (As := [.long (p2.toInt64), .long (x15_2.toInt64), .long (x20_3.toInt64)]) (rest := []) C hW hl (qX12_in l E hx24_4) gs_X12_61 hd_X12_in rfl rfl (Nat.le_of_ble_eq_true rfl) dX12_set_24 ⟨Nat.le_of_ble_eq_true rfl, Nat.le_of_ble_eq_true rfl⟩ ⟨Nat.le_of_ble_eq_true rfl, Nat.le_of_ble_eq_true rfl⟩ (fun H locs hW => ?_)
    refine lv_if_ne (tgt := 32) C.x C.b dX12_set_27 rfl (fun c27 => ?_) (fun c27 => ?_)
    · replace hf := x_in c27 hf
      refine lv_aload_n C.x C.b dX12_set_32 rfl (lv_at hl 0 rfl) ?_
      replace hf := x_b1 hf; obtain ⟨a33_5, ha33_5, hf⟩ := hf
      refine x_getn C hW fg_X12_9_15 ha33_5 dX12_set_33 ?_
      refine lv_iconst (v := 4) C.x C.b dX12_set_36 (by decide) ?_
      refine lv_iload_n C.x C.b dX12_set_37 rfl (lv_at hl 1 rfl) ?_
      refine lv_iadd C.x C.b dX12_set_38 ?_
      replace hf := x_b1 hf; obtain ⟨x39_6, hx39_6, hf⟩ := hf
      refine x_iald C hW hx39_6 dX12_set_39 ?_
      refine lv_istore_n (lv' := [(3, .int _), (0, .ref (E.b + _)), (1, .int _), (2, .int _)]) C.x C.b dX12_set_40 rfl hl (by decide) rfl (fun ls hl => ?_)
      refine lv_aload_n C.x C.b dX12_set_41 rfl (lv_at hl 1 rfl) ?_
      replace hf := x_b1 hf; obtain ⟨a42_7, ha42_7, hf⟩ := hf
      refine x_getn C hW fg_X12_9_15 ha42_7 dX12_set_42 ?_
      refine lv_iconst (v := 4) C.x C.b dX12_set_45 (by decide) ?_
      refine lv_iload_n C.x C.b dX12_set_46 rfl (lv_at hl 2 rfl) ?_
      refine lv_iadd C.x C.b dX12_set_47 ?_
      refine lv_iload_n C.x C.b dX12_set_48 rfl (lv_at hl 3 rfl) ?_
      replace hf := x_b1 hf; obtain ⟨M49_8, hM49_8, hf⟩ := hf
      refine x_iast C hW hM49_8 dX12_set_49 (fun H locs hW => ?_)
      refine lv_iload_n C.x C.b dX12_set_50 rfl (lv_at hl 0 rfl) ?_
      rw [x_e1 hf, x_e2 hf]
      exact x_iret C hr hW dX12_set_51
    · replace hf := x_ip c27 hf
      refine lv_iconst (v := (-1)) C.x C.b dX12_set_30 (by decide) ?_
      rw [x_e1 hf, x_e2 hf]
      exact x_iret C hr hW dX12_set_31

theorem dX12_lawOf_0 : decode cX12_lawOf 0 = .ok (.iload_n 1, 1) := by decide +kernel
theorem dX12_lawOf_1 : decode cX12_lawOf 1 = .ok (.i2l, 1) := by decide +kernel
theorem dX12_lawOf_2 : decode cX12_lawOf 2 = .ok (.lconst 0, 1) := by decide +kernel
theorem dX12_lawOf_3 : decode cX12_lawOf 3 = .ok (.ldc2_w 75, 3) := by decide +kernel
theorem dX12_lawOf_6 : decode cX12_lawOf 6 = .ok (.invokestatic 61, 3) := by decide +kernel
theorem dX12_lawOf_9 : decode cX12_lawOf 9 = .ok (.ifCond .eq 14, 3) := by decide +kernel
theorem dX12_lawOf_12 : decode cX12_lawOf 12 = .ok (.aload_n 0, 1) := by decide +kernel
theorem dX12_lawOf_13 : decode cX12_lawOf 13 = .ok (.getfield 9, 3) := by decide +kernel
theorem dX12_lawOf_16 : decode cX12_lawOf 16 = .ok (.iconst 4, 1) := by decide +kernel
theorem dX12_lawOf_17 : decode cX12_lawOf 17 = .ok (.iload_n 1, 1) := by decide +kernel
theorem dX12_lawOf_18 : decode cX12_lawOf 18 = .ok (.iadd, 1) := by decide +kernel
theorem dX12_lawOf_19 : decode cX12_lawOf 19 = .ok (.iaload, 1) := by decide +kernel
theorem dX12_lawOf_20 : decode cX12_lawOf 20 = .ok (.goto 4, 3) := by decide +kernel
theorem dX12_lawOf_23 : decode cX12_lawOf 23 = .ok (.iconst (-1), 1) := by decide +kernel
theorem dX12_lawOf_24 : decode cX12_lawOf 24 = .ok (.ireturn, 1) := by decide +kernel
def fX12_lawOf (M : Mm) (o : Nat) (p1 : Int32) : Option Int32 :=
  B1 (fX12_in M (p1.toInt64) 0 7) fun x6_1 =>
  if x6_1 = 0 then
    some (-1)
  else
    B1 (rdN M o 15 0) fun a13_2 =>
    B1 (alI M a13_2 (4 + p1)) fun x19_3 =>
    some x19_3
set_option maxRecDepth 100000 in
set_option maxHeartbeats 4000000 in
theorem qX12_lawOf (l : Launch) (E : Ev) {M : Mm} {o : Nat} {p1 : Int32} {rz : Int32} (hf : fX12_lawOf M o p1 = some rz) : Ct l E yX12_lawOf cX12_lawOf 2 (some .int) 1 25 0 0 [.ref (E.b + o), .int p1] M (some (.int rz)) M := by
  refine ct_of (by decide +kernel) (Nat.le_of_ble_eq_true rfl) fun p e s m args below meth c C hr hin hW ls hl => ?_
  have hl : lv_has ls 2 [(0, .ref (E.b + o)), (1, .int p1)] := hl
  unfold fX12_lawOf at hf
  refine lv_iload_n C.x C.b dX12_lawOf_0 rfl (lv_at hl 1 rfl) ?_
  refine lv_i2l (v := p1.toInt64) C.x C.b dX12_lawOf_1 rfl ?_
  refine lv_lconst (v := 0) C.x C.b dX12_lawOf_2 (by decide) ?_
  refine x_ldc2 (v := 7) C T_6_129 dX12_lawOf_3 ?_
  replace hf := x_b1 hf; obtain ⟨x6_1, hx6_1, hf⟩ := hf
  refine x_callS (As := [.long (p1.toInt64), .long 0, .long 7]) (rest := []) C hW hl (qX12_in l E hx6_1) gs_X12_61 hd_X12_in rfl rfl (Nat.le_of_ble_eq_true rfl) dX12_lawOf_6 ⟨Nat.le_of_ble_eq_true rfl, Nat.le_of_ble_eq_true rfl⟩ ⟨Nat.le_of_ble_eq_true rfl, Nat.le_of_ble_eq_true rfl⟩ (fun H locs hW => ?_)
  refine lv_if_eq (tgt := 23) C.x C.b dX12_lawOf_9 rfl (fun c9 => ?_) (fun c9 => ?_)
  · replace hf := x_ip c9 hf
    refine lv_iconst (v := (-1)) C.x C.b dX12_lawOf_23 (by decide) ?_
    rw [x_e0 hf]
    exact x_iret C hr hW dX12_lawOf_24
  · replace hf := x_in c9 hf
    refine lv_aload_n C.x C.b dX12_lawOf_12 rfl (lv_at hl 0 rfl) ?_
    replace hf := x_b1 hf; obtain ⟨a13_2, ha13_2, hf⟩ := hf
    refine x_getn C hW fg_X12_9_15 ha13_2 dX12_lawOf_13 ?_
    refine lv_iconst (v := 4) C.x C.b dX12_lawOf_16 (by decide) ?_
    refine lv_iload_n C.x C.b dX12_lawOf_17 rfl (lv_at hl 1 rfl) ?_
    refine lv_iadd C.x C.b dX12_lawOf_18 ?_
    replace hf := x_b1 hf; obtain ⟨x19_3, hx19_3, hf⟩ := hf
    refine x_iald C hW hx19_3 dX12_lawOf_19 ?_
    refine lv_goto (tgt := 24) C.x C.b dX12_lawOf_20 rfl ?_
    rw [x_e0 hf]
    exact x_iret C hr hW dX12_lawOf_24

theorem dX12_comes_0 : decode cX12_comes 0 = .ok (.bipush 54, 2) := by decide +kernel
theorem dX12_comes_2 : decode cX12_comes 2 = .ok (.bipush 13, 2) := by decide +kernel
theorem dX12_comes_4 : decode cX12_comes 4 = .ok (.aload_n 0, 1) := by decide +kernel
theorem dX12_comes_5 : decode cX12_comes 5 = .ok (.iconst 0, 1) := by decide +kernel
theorem dX12_comes_6 : decode cX12_comes 6 = .ok (.iaload, 1) := by decide +kernel
theorem dX12_comes_7 : decode cX12_comes 7 = .ok (.imul, 1) := by decide +kernel
theorem dX12_comes_8 : decode cX12_comes 8 = .ok (.iadd, 1) := by decide +kernel
theorem dX12_comes_9 : decode cX12_comes 9 = .ok (.istore 5, 2) := by decide +kernel
theorem dX12_comes_11 : decode cX12_comes 11 = .ok (.iconst 0, 1) := by decide +kernel
theorem dX12_comes_12 : decode cX12_comes 12 = .ok (.istore 6, 2) := by decide +kernel
theorem dX12_comes_14 : decode cX12_comes 14 = .ok (.iload 6, 2) := by decide +kernel
theorem dX12_comes_16 : decode cX12_comes 16 = .ok (.bipush 13, 2) := by decide +kernel
theorem dX12_comes_18 : decode cX12_comes 18 = .ok (.if_icmp .ge 17, 3) := by decide +kernel
theorem dX12_comes_21 : decode cX12_comes 21 = .ok (.aload_n 0, 1) := by decide +kernel
theorem dX12_comes_22 : decode cX12_comes 22 = .ok (.iload 5, 2) := by decide +kernel
theorem dX12_comes_24 : decode cX12_comes 24 = .ok (.iload 6, 2) := by decide +kernel
theorem dX12_comes_26 : decode cX12_comes 26 = .ok (.iadd, 1) := by decide +kernel
theorem dX12_comes_27 : decode cX12_comes 27 = .ok (.iconst 0, 1) := by decide +kernel
theorem dX12_comes_28 : decode cX12_comes 28 = .ok (.iastore, 1) := by decide +kernel
theorem dX12_comes_29 : decode cX12_comes 29 = .ok (.iinc 6 1, 3) := by decide +kernel
theorem dX12_comes_32 : decode cX12_comes 32 = .ok (.goto (-18), 3) := by decide +kernel
theorem dX12_comes_35 : decode cX12_comes 35 = .ok (.aload_n 0, 1) := by decide +kernel
theorem dX12_comes_36 : decode cX12_comes 36 = .ok (.iload 5, 2) := by decide +kernel
theorem dX12_comes_38 : decode cX12_comes 38 = .ok (.iconst 0, 1) := by decide +kernel
theorem dX12_comes_39 : decode cX12_comes 39 = .ok (.iadd, 1) := by decide +kernel
theorem dX12_comes_40 : decode cX12_comes 40 = .ok (.iload_n 1, 1) := by decide +kernel
theorem dX12_comes_41 : decode cX12_comes 41 = .ok (.iastore, 1) := by decide +kernel
theorem dX12_comes_42 : decode cX12_comes 42 = .ok (.aload_n 0, 1) := by decide +kernel
theorem dX12_comes_43 : decode cX12_comes 43 = .ok (.iload 5, 2) := by decide +kernel
theorem dX12_comes_45 : decode cX12_comes 45 = .ok (.iconst 1, 1) := by decide +kernel
theorem dX12_comes_46 : decode cX12_comes 46 = .ok (.iadd, 1) := by decide +kernel
theorem dX12_comes_47 : decode cX12_comes 47 = .ok (.iload_n 2, 1) := by decide +kernel
theorem dX12_comes_48 : decode cX12_comes 48 = .ok (.iastore, 1) := by decide +kernel
theorem dX12_comes_49 : decode cX12_comes 49 = .ok (.aload_n 0, 1) := by decide +kernel
theorem dX12_comes_50 : decode cX12_comes 50 = .ok (.iload 5, 2) := by decide +kernel
theorem dX12_comes_52 : decode cX12_comes 52 = .ok (.iconst 2, 1) := by decide +kernel
theorem dX12_comes_53 : decode cX12_comes 53 = .ok (.iadd, 1) := by decide +kernel
theorem dX12_comes_54 : decode cX12_comes 54 = .ok (.iload_n 3, 1) := by decide +kernel
theorem dX12_comes_55 : decode cX12_comes 55 = .ok (.iastore, 1) := by decide +kernel
theorem dX12_comes_56 : decode cX12_comes 56 = .ok (.aload_n 0, 1) := by decide +kernel
theorem dX12_comes_57 : decode cX12_comes 57 = .ok (.iload 5, 2) := by decide +kernel
theorem dX12_comes_59 : decode cX12_comes 59 = .ok (.iconst 3, 1) := by decide +kernel
theorem dX12_comes_60 : decode cX12_comes 60 = .ok (.iadd, 1) := by decide +kernel
theorem dX12_comes_61 : decode cX12_comes 61 = .ok (.iload 4, 2) := by decide +kernel
theorem dX12_comes_63 : decode cX12_comes 63 = .ok (.iastore, 1) := by decide +kernel
theorem dX12_comes_64 : decode cX12_comes 64 = .ok (.aload_n 0, 1) := by decide +kernel
theorem dX12_comes_65 : decode cX12_comes 65 = .ok (.iload 5, 2) := by decide +kernel
theorem dX12_comes_67 : decode cX12_comes 67 = .ok (.bipush 6, 2) := by decide +kernel
theorem dX12_comes_69 : decode cX12_comes 69 = .ok (.iadd, 1) := by decide +kernel
theorem dX12_comes_70 : decode cX12_comes 70 = .ok (.iconst (-1), 1) := by decide +kernel
theorem dX12_comes_71 : decode cX12_comes 71 = .ok (.iastore, 1) := by decide +kernel
theorem dX12_comes_72 : decode cX12_comes 72 = .ok (.aload_n 0, 1) := by decide +kernel
theorem dX12_comes_73 : decode cX12_comes 73 = .ok (.iload 5, 2) := by decide +kernel
theorem dX12_comes_75 : decode cX12_comes 75 = .ok (.bipush 7, 2) := by decide +kernel
theorem dX12_comes_77 : decode cX12_comes 77 = .ok (.iadd, 1) := by decide +kernel
theorem dX12_comes_78 : decode cX12_comes 78 = .ok (.iconst (-1), 1) := by decide +kernel
theorem dX12_comes_79 : decode cX12_comes 79 = .ok (.iastore, 1) := by decide +kernel
theorem dX12_comes_80 : decode cX12_comes 80 = .ok (.aload_n 0, 1) := by decide +kernel
theorem dX12_comes_81 : decode cX12_comes 81 = .ok (.iconst 0, 1) := by decide +kernel
theorem dX12_comes_82 : decode cX12_comes 82 = .ok (.dup2, 1) := by decide +kernel
theorem dX12_comes_83 : decode cX12_comes 83 = .ok (.iaload, 1) := by decide +kernel
theorem dX12_comes_84 : decode cX12_comes 84 = .ok (.iconst 1, 1) := by decide +kernel
theorem dX12_comes_85 : decode cX12_comes 85 = .ok (.iadd, 1) := by decide +kernel
theorem dX12_comes_86 : decode cX12_comes 86 = .ok (.iastore, 1) := by decide +kernel
theorem dX12_comes_87 : decode cX12_comes 87 = .ok (.aload_n 0, 1) := by decide +kernel
theorem dX12_comes_88 : decode cX12_comes 88 = .ok (.iconst 0, 1) := by decide +kernel
theorem dX12_comes_89 : decode cX12_comes 89 = .ok (.iaload, 1) := by decide +kernel
theorem dX12_comes_90 : decode cX12_comes 90 = .ok (.iconst 1, 1) := by decide +kernel
theorem dX12_comes_91 : decode cX12_comes 91 = .ok (.isub, 1) := by decide +kernel
theorem dX12_comes_92 : decode cX12_comes 92 = .ok (.ireturn, 1) := by decide +kernel
def fX12_comes_L14 (v0 : Nat) (v1 : Int32) (v2 : Int32) (v3 : Int32) (v4 : Int32) (v5 : Int32) : Nat → Int32 → Mm → Option (Int32 × Mm)
  | 0, _, _ => none
  | n + 1, v6, M =>
    if 13 ≤ v6 then
      B1 (asI M v0 (v5 + 0) v1) fun M41_2 =>
      B1 (asI M41_2 v0 (v5 + 1) v2) fun M48_3 =>
      B1 (asI M48_3 v0 (v5 + 2) v3) fun M55_4 =>
      B1 (asI M55_4 v0 (v5 + 3) v4) fun M63_5 =>
      B1 (asI M63_5 v0 (v5 + 6) (-1)) fun M71_6 =>
      B1 (asI M71_6 v0 (v5 + 7) (-1)) fun M79_7 =>
      B1 (alI M79_7 v0 0) fun x83_8 =>
      B1 (asI M79_7 v0 0 (x83_8 + 1)) fun M86_9 =>
      B1 (alI M86_9 v0 0) fun x89_10 =>
      some ((x89_10 - 1), M86_9)
    else
      B1 (asI M v0 (v5 + v6) 0) fun M28_11 =>
      fX12_comes_L14 v0 v1 v2 v3 v4 v5 n (v6 + 1) M28_11
def fX12_comes (M : Mm) (p1 : Nat) (p2 : Int32) (p3 : Int32) (p4 : Int32) (p5 : Int32) : Option (Int32 × Mm) :=
  B1 (alI M p1 0) fun x6_1 =>
  fX12_comes_L14 p1 p2 p3 p4 p5 (54 + (13 * x6_1)) FL 0 M
set_option maxRecDepth 100000 in
set_option maxHeartbeats 4000000 in
theorem kX12_comes_L14 {l : Launch} {E : Ev} {p : Program} {e : Env} {s : State} {m : MethodId} {args : Array Value} {below : List Frame} {meth : Method} {c : Code} (C : Cx E p s m args meth c cX12_comes yX12_comes.cls 7) (hr : meth.sig.returnType = (some .int)) (hin : yX12_comes.name = "<init>" → meth.name = "<init>")  {v0 : Nat} {v1 : Int32} {v2 : Int32} {v3 : Int32} {v4 : Int32} {v5 : Int32} {rz : Int32} {Mz : Mm} : ∀ (n : Nat) (v6 : Int32) (M : Mm), fX12_comes_L14 v0 v1 v2 v3 v4 v5 n v6 M = some (rz, Mz) → ∀ (H : Heap) (locs : List Loc) (ls : Array Slot), Wx E s H locs M → lv_has ls 7 [(0, .ref (E.b + v0)), (1, .int v1), (2, .int v2), (3, .int v3), (4, .int v4), (5, .int v5), (6, .int v6)] → W p l e (rM 0 0 0 0) s m args below meth c H locs 0 0 (MQ below (Qp E (some (.int rz)) Mz) args s 0 0 E.A) (F0 m 14 ls []) := by
  intro n
  induction n with
  | zero =>
    intro v6 M hf
    unfold fX12_comes_L14 at hf
    cases hf
  | succ n ih =>
    intro v6 M hf H locs ls hW hl
    unfold fX12_comes_L14 at hf
    refine lv_iload C.x C.b dX12_comes_14 (lv_at hl 6 rfl) ?_
    refine lv_bipush (v := 13) C.x C.b dX12_comes_16 (by decide) ?_
    refine lv_icmp_ge (tgt := 35) C.x C.b dX12_comes_18 rfl (fun c18 => ?_) (fun c18 => ?_)
    · replace hf := x_ip c18 hf
      refine lv_aload_n C.x C.b dX12_comes_35 rfl (lv_at hl 0 rfl) ?_
      refine lv_iload C.x C.b dX12_comes_36 (lv_at hl 5 rfl) ?_
      refine lv_iconst (v := 0) C.x C.b dX12_comes_38 (by decide) ?_
      refine lv_iadd C.x C.b dX12_comes_39 ?_
      refine lv_iload_n C.x C.b dX12_comes_40 rfl (lv_at hl 1 rfl) ?_
      replace hf := x_b1 hf; obtain ⟨M41_2, hM41_2, hf⟩ := hf
      refine x_iast C hW hM41_2 dX12_comes_41 (fun H locs hW => ?_)
      refine lv_aload_n C.x C.b dX12_comes_42 rfl (lv_at hl 0 rfl) ?_
      refine lv_iload C.x C.b dX12_comes_43 (lv_at hl 5 rfl) ?_
      refine lv_iconst (v := 1) C.x C.b dX12_comes_45 (by decide) ?_
      refine lv_iadd C.x C.b dX12_comes_46 ?_
      refine lv_iload_n C.x C.b dX12_comes_47 rfl (lv_at hl 2 rfl) ?_
      replace hf := x_b1 hf; obtain ⟨M48_3, hM48_3, hf⟩ := hf
      refine x_iast C hW hM48_3 dX12_comes_48 (fun H locs hW => ?_)
      refine lv_aload_n C.x C.b dX12_comes_49 rfl (lv_at hl 0 rfl) ?_
      refine lv_iload C.x C.b dX12_comes_50 (lv_at hl 5 rfl) ?_
      refine lv_iconst (v := 2) C.x C.b dX12_comes_52 (by decide) ?_
      refine lv_iadd C.x C.b dX12_comes_53 ?_
      refine lv_iload_n C.x C.b dX12_comes_54 rfl (lv_at hl 3 rfl) ?_
      replace hf := x_b1 hf; obtain ⟨M55_4, hM55_4, hf⟩ := hf
      refine x_iast C hW hM55_4 dX12_comes_55 (fun H locs hW => ?_)
      refine lv_aload_n C.x C.b dX12_comes_56 rfl (lv_at hl 0 rfl) ?_
      refine lv_iload C.x C.b dX12_comes_57 (lv_at hl 5 rfl) ?_
      refine lv_iconst (v := 3) C.x C.b dX12_comes_59 (by decide) ?_
      refine lv_iadd C.x C.b dX12_comes_60 ?_
      refine lv_iload C.x C.b dX12_comes_61 (lv_at hl 4 rfl) ?_
      replace hf := x_b1 hf; obtain ⟨M63_5, hM63_5, hf⟩ := hf
      refine x_iast C hW hM63_5 dX12_comes_63 (fun H locs hW => ?_)
      refine lv_aload_n C.x C.b dX12_comes_64 rfl (lv_at hl 0 rfl) ?_
      refine lv_iload C.x C.b dX12_comes_65 (lv_at hl 5 rfl) ?_
      refine lv_bipush (v := 6) C.x C.b dX12_comes_67 (by decide) ?_
      refine lv_iadd C.x C.b dX12_comes_69 ?_
      refine lv_iconst (v := (-1)) C.x C.b dX12_comes_70 (by decide) ?_
      replace hf := x_b1 hf; obtain ⟨M71_6, hM71_6, hf⟩ := hf
      refine x_iast C hW hM71_6 dX12_comes_71 (fun H locs hW => ?_)
      refine lv_aload_n C.x C.b dX12_comes_72 rfl (lv_at hl 0 rfl) ?_
      refine lv_iload C.x C.b dX12_comes_73 (lv_at hl 5 rfl) ?_
      refine lv_bipush (v := 7) C.x C.b dX12_comes_75 (by decide) ?_
      refine lv_iadd C.x C.b dX12_comes_77 ?_
      refine lv_iconst (v := (-1)) C.x C.b dX12_comes_78 (by decide) ?_
      replace hf := x_b1 hf; obtain ⟨M79_7, hM79_7, hf⟩ := hf
      refine x_iast C hW hM79_7 dX12_comes_79 (fun H locs hW => ?_)
      refine lv_aload_n C.x C.b dX12_comes_80 rfl (lv_at hl 0 rfl) ?_
      refine lv_iconst (v := 0) C.x C.b dX12_comes_81 (by decide) ?_
      refine lv_dup2_11 C.x C.b dX12_comes_82 rfl rfl ?_
      replace hf := x_b1 hf; obtain ⟨x83_8, hx83_8, hf⟩ := hf
      refine x_iald C hW hx83_8 dX12_comes_83 ?_
      refine lv_iconst (v := 1) C.x C.b dX12_comes_84 (by decide) ?_
      refine lv_iadd C.x C.b dX12_comes_85 ?_
      replace hf := x_b1 hf; obtain ⟨M86_9, hM86_9, hf⟩ := hf
      refine x_iast C hW hM86_9 dX12_comes_86 (fun H locs hW => ?_)
      refine lv_aload_n C.x C.b dX12_comes_87 rfl (lv_at hl 0 rfl) ?_
      refine lv_iconst (v := 0) C.x C.b dX12_comes_88 (by decide) ?_
      replace hf := x_b1 hf; obtain ⟨x89_10, hx89_10, hf⟩ := hf
      refine x_iald C hW hx89_10 dX12_comes_89 ?_
      refine lv_iconst (v := 1) C.x C.b dX12_comes_90 (by decide) ?_
      refine lv_isub C.x C.b dX12_comes_91 ?_
      rw [x_e1 hf, x_e2 hf]
      exact x_iret C hr hW dX12_comes_92
    · replace hf := x_in c18 hf
      refine lv_aload_n C.x C.b dX12_comes_21 rfl (lv_at hl 0 rfl) ?_
      refine lv_iload C.x C.b dX12_comes_22 (lv_at hl 5 rfl) ?_
      refine lv_iload C.x C.b dX12_comes_24 (lv_at hl 6 rfl) ?_
      refine lv_iadd C.x C.b dX12_comes_26 ?_
      refine lv_iconst (v := 0) C.x C.b dX12_comes_27 (by decide) ?_
      replace hf := x_b1 hf; obtain ⟨M28_11, hM28_11, hf⟩ := hf
      refine x_iast C hW hM28_11 dX12_comes_28 (fun H locs hW => ?_)
      refine lv_iinc (v := (v6 + 1)) (lv' := [(6, .int (v6 + 1)), (0, .ref (E.b + _)), (1, .int _), (2, .int _), (3, .int _), (4, .int _), (5, .int _)]) C.x C.b dX12_comes_29 hl (k := 6) rfl (by first | rfl | decide) (by decide) rfl (fun ls hl => ?_)
      refine lv_goto (tgt := 14) C.x C.b dX12_comes_32 rfl ?_
      exact ih (v6 + 1) M28_11 hf _ _ _ hW (lv_sub hl [1, 2, 3, 4, 5, 6, 0] rfl)
set_option maxRecDepth 100000 in
set_option maxHeartbeats 4000000 in
theorem qX12_comes (l : Launch) (E : Ev) {M : Mm} {p1 : Nat} {p2 : Int32} {p3 : Int32} {p4 : Int32} {p5 : Int32} {rz : Int32} {Mz : Mm} (hf : fX12_comes M p1 p2 p3 p4 p5 = some (rz, Mz)) : Ct l E yX12_comes cX12_comes 7 (some .int) 0 0 0 0 [.ref (E.b + p1), .int p2, .int p3, .int p4, .int p5] M (some (.int rz)) Mz := by
  refine ct_of (by decide +kernel) (Nat.le_of_ble_eq_true rfl) fun p e s m args below meth c C hr hin hW ls hl => ?_
  have hl : lv_has ls 7 [(0, .ref (E.b + p1)), (1, .int p2), (2, .int p3), (3, .int p4), (4, .int p5)] := hl
  unfold fX12_comes at hf
  refine lv_bipush (v := 54) C.x C.b dX12_comes_0 (by decide) ?_
  refine lv_bipush (v := 13) C.x C.b dX12_comes_2 (by decide) ?_
  refine lv_aload_n C.x C.b dX12_comes_4 rfl (lv_at hl 0 rfl) ?_
  refine lv_iconst (v := 0) C.x C.b dX12_comes_5 (by decide) ?_
  replace hf := x_b1 hf; obtain ⟨x6_1, hx6_1, hf⟩ := hf
  refine x_iald C hW hx6_1 dX12_comes_6 ?_
  refine lv_imul C.x C.b dX12_comes_7 ?_
  refine lv_iadd C.x C.b dX12_comes_8 ?_
  refine lv_istore (lv' := [(5, .int _), (0, .ref (E.b + _)), (1, .int _), (2, .int _), (3, .int _), (4, .int _)]) C.x C.b dX12_comes_9 hl (by decide) rfl (fun ls hl => ?_)
  refine lv_iconst (v := 0) C.x C.b dX12_comes_11 (by decide) ?_
  refine lv_istore (lv' := [(6, .int _), (5, .int _), (0, .ref (E.b + _)), (1, .int _), (2, .int _), (3, .int _), (4, .int _)]) C.x C.b dX12_comes_12 hl (by decide) rfl (fun ls hl => ?_)
  exact kX12_comes_L14 C hr hin FL 0 M hf _ _ _ hW (lv_sub hl [2, 3, 4, 5, 6, 1, 0] rfl)

theorem dX12_isKind_0 : decode cX12_isKind 0 = .ok (.iload_n 0, 1) := by decide +kernel
theorem dX12_isKind_1 : decode cX12_isKind 1 = .ok (.i2l, 1) := by decide +kernel
theorem dX12_isKind_2 : decode cX12_isKind 2 = .ok (.lconst 0, 1) := by decide +kernel
theorem dX12_isKind_3 : decode cX12_isKind 3 = .ok (.ldc2_w 83, 3) := by decide +kernel
theorem dX12_isKind_6 : decode cX12_isKind 6 = .ok (.invokestatic 61, 3) := by decide +kernel
theorem dX12_isKind_9 : decode cX12_isKind 9 = .ok (.ifCond .eq 19, 3) := by decide +kernel
theorem dX12_isKind_12 : decode cX12_isKind 12 = .ok (.iload_n 1, 1) := by decide +kernel
theorem dX12_isKind_13 : decode cX12_isKind 13 = .ok (.i2l, 1) := by decide +kernel
theorem dX12_isKind_14 : decode cX12_isKind 14 = .ok (.lconst 0, 1) := by decide +kernel
theorem dX12_isKind_15 : decode cX12_isKind 15 = .ok (.ldc2_w 85, 3) := by decide +kernel
theorem dX12_isKind_18 : decode cX12_isKind 18 = .ok (.invokestatic 61, 3) := by decide +kernel
theorem dX12_isKind_21 : decode cX12_isKind 21 = .ok (.ifCond .eq 7, 3) := by decide +kernel
theorem dX12_isKind_24 : decode cX12_isKind 24 = .ok (.iconst 1, 1) := by decide +kernel
theorem dX12_isKind_25 : decode cX12_isKind 25 = .ok (.goto 4, 3) := by decide +kernel
theorem dX12_isKind_28 : decode cX12_isKind 28 = .ok (.iconst 0, 1) := by decide +kernel
theorem dX12_isKind_29 : decode cX12_isKind 29 = .ok (.ireturn, 1) := by decide +kernel
def fX12_isKind (M : Mm) (p1 : Int32) (p2 : Int32) : Option Int32 :=
  B1 (fX12_in M (p1.toInt64) 0 5) fun x6_1 =>
  if x6_1 = 0 then
    some 0
  else
    B1 (fX12_in M (p2.toInt64) 0 9) fun x18_2 =>
    if x18_2 = 0 then
      some 0
    else
      some 1
set_option maxRecDepth 100000 in
set_option maxHeartbeats 4000000 in
theorem qX12_isKind (l : Launch) (E : Ev) {M : Mm} {p1 : Int32} {p2 : Int32} {rz : Int32} (hf : fX12_isKind M p1 p2 = some rz) : Ct l E yX12_isKind cX12_isKind 2 (some .boolean) 1 25 0 0 [.int p1, .int p2] M (some (.int rz)) M := by
  refine ct_of (by decide +kernel) (Nat.le_of_ble_eq_true rfl) fun p e s m args below meth c C hr hin hW ls hl => ?_
  have hl : lv_has ls 2 [(0, .int p1), (1, .int p2)] := hl
  unfold fX12_isKind at hf
  refine lv_iload_n C.x C.b dX12_isKind_0 rfl (lv_at hl 0 rfl) ?_
  refine lv_i2l (v := p1.toInt64) C.x C.b dX12_isKind_1 rfl ?_
  refine lv_lconst (v := 0) C.x C.b dX12_isKind_2 (by decide) ?_
  refine x_ldc2 (v := 5) C T_6_150 dX12_isKind_3 ?_
  replace hf := x_b1 hf; obtain ⟨x6_1, hx6_1, hf⟩ := hf
  refine x_callS (As := [.long (p1.toInt64), .long 0, .long 5]) (rest := []) C hW hl (qX12_in l E hx6_1) gs_X12_61 hd_X12_in rfl rfl (Nat.le_of_ble_eq_true rfl) dX12_isKind_6 ⟨Nat.le_of_ble_eq_true rfl, Nat.le_of_ble_eq_true rfl⟩ ⟨Nat.le_of_ble_eq_true rfl, Nat.le_of_ble_eq_true rfl⟩ (fun H locs hW => ?_)
  refine lv_if_eq (tgt := 28) C.x C.b dX12_isKind_9 rfl (fun c9 => ?_) (fun c9 => ?_)
  · replace hf := x_ip c9 hf
    refine lv_iconst (v := 0) C.x C.b dX12_isKind_28 (by decide) ?_
    rw [x_e0 hf]
    exact x_zret C hr hW (v := 0) (w := 0) rfl dX12_isKind_29
  · replace hf := x_in c9 hf
    refine lv_iload_n C.x C.b dX12_isKind_12 rfl (lv_at hl 1 rfl) ?_
    refine lv_i2l (v := p2.toInt64) C.x C.b dX12_isKind_13 rfl ?_
    refine lv_lconst (v := 0) C.x C.b dX12_isKind_14 (by decide) ?_
    refine x_ldc2 (v := 9) C T_6_151 dX12_isKind_15 ?_
    replace hf := x_b1 hf; obtain ⟨x18_2, hx18_2, hf⟩ := hf
    refine x_callS (As := [.long (p2.toInt64), .long 0, .long 9]) (rest := []) C hW hl (qX12_in l E hx18_2) gs_X12_61 hd_X12_in rfl rfl (Nat.le_of_ble_eq_true rfl) dX12_isKind_18 ⟨Nat.le_of_ble_eq_true rfl, Nat.le_of_ble_eq_true rfl⟩ ⟨Nat.le_of_ble_eq_true rfl, Nat.le_of_ble_eq_true rfl⟩ (fun H locs hW => ?_)
    refine lv_if_eq (tgt := 28) C.x C.b dX12_isKind_21 rfl (fun c21 => ?_) (fun c21 => ?_)
    · replace hf := x_ip c21 hf
      refine lv_iconst (v := 0) C.x C.b dX12_isKind_28 (by decide) ?_
      rw [x_e0 hf]
      exact x_zret C hr hW (v := 0) (w := 0) rfl dX12_isKind_29
    · replace hf := x_in c21 hf
      refine lv_iconst (v := 1) C.x C.b dX12_isKind_24 (by decide) ?_
      refine lv_goto (tgt := 29) C.x C.b dX12_isKind_25 rfl ?_
      rw [x_e0 hf]
      exact x_zret C hr hW (v := 1) (w := 1) rfl dX12_isKind_29

theorem dX12_stocking_0 : decode cX12_stocking 0 = .ok (.iload_n 1, 1) := by decide +kernel
theorem dX12_stocking_1 : decode cX12_stocking 1 = .ok (.iload_n 2, 1) := by decide +kernel
theorem dX12_stocking_2 : decode cX12_stocking 2 = .ok (.invokestatic 87, 3) := by decide +kernel
theorem dX12_stocking_5 : decode cX12_stocking 5 = .ok (.ifCond .eq 28, 3) := by decide +kernel
theorem dX12_stocking_8 : decode cX12_stocking 8 = .ok (.iload_n 3, 1) := by decide +kernel
theorem dX12_stocking_9 : decode cX12_stocking 9 = .ok (.i2l, 1) := by decide +kernel
theorem dX12_stocking_10 : decode cX12_stocking 10 = .ok (.lconst 0, 1) := by decide +kernel
theorem dX12_stocking_11 : decode cX12_stocking 11 = .ok (.ldc2_w 91, 3) := by decide +kernel
theorem dX12_stocking_14 : decode cX12_stocking 14 = .ok (.invokestatic 61, 3) := by decide +kernel
theorem dX12_stocking_17 : decode cX12_stocking 17 = .ok (.ifCond .eq 16, 3) := by decide +kernel
theorem dX12_stocking_20 : decode cX12_stocking 20 = .ok (.iload 4, 2) := by decide +kernel
theorem dX12_stocking_22 : decode cX12_stocking 22 = .ok (.i2l, 1) := by decide +kernel
theorem dX12_stocking_23 : decode cX12_stocking 23 = .ok (.lconst 1, 1) := by decide +kernel
theorem dX12_stocking_24 : decode cX12_stocking 24 = .ok (.ldc2_w 93, 3) := by decide +kernel
theorem dX12_stocking_27 : decode cX12_stocking 27 = .ok (.invokestatic 61, 3) := by decide +kernel
theorem dX12_stocking_30 : decode cX12_stocking 30 = .ok (.ifCond .ne 5, 3) := by decide +kernel
theorem dX12_stocking_33 : decode cX12_stocking 33 = .ok (.iconst (-1), 1) := by decide +kernel
theorem dX12_stocking_34 : decode cX12_stocking 34 = .ok (.ireturn, 1) := by decide +kernel
theorem dX12_stocking_35 : decode cX12_stocking 35 = .ok (.aload_n 0, 1) := by decide +kernel
theorem dX12_stocking_36 : decode cX12_stocking 36 = .ok (.getfield 9, 3) := by decide +kernel
theorem dX12_stocking_39 : decode cX12_stocking 39 = .ok (.iconst 0, 1) := by decide +kernel
theorem dX12_stocking_40 : decode cX12_stocking 40 = .ok (.iaload, 1) := by decide +kernel
theorem dX12_stocking_41 : decode cX12_stocking 41 = .ok (.bipush 8, 2) := by decide +kernel
theorem dX12_stocking_43 : decode cX12_stocking 43 = .ok (.if_icmp .ne 8, 3) := by decide +kernel
theorem dX12_stocking_46 : decode cX12_stocking 46 = .ok (.bipush (-2), 2) := by decide +kernel
theorem dX12_stocking_48 : decode cX12_stocking 48 = .ok (.goto 15, 3) := by decide +kernel
theorem dX12_stocking_51 : decode cX12_stocking 51 = .ok (.aload_n 0, 1) := by decide +kernel
theorem dX12_stocking_52 : decode cX12_stocking 52 = .ok (.getfield 9, 3) := by decide +kernel
theorem dX12_stocking_55 : decode cX12_stocking 55 = .ok (.iload_n 1, 1) := by decide +kernel
theorem dX12_stocking_56 : decode cX12_stocking 56 = .ok (.iload_n 2, 1) := by decide +kernel
theorem dX12_stocking_57 : decode cX12_stocking 57 = .ok (.iload_n 3, 1) := by decide +kernel
theorem dX12_stocking_58 : decode cX12_stocking 58 = .ok (.iload 4, 2) := by decide +kernel
theorem dX12_stocking_60 : decode cX12_stocking 60 = .ok (.invokestatic 95, 3) := by decide +kernel
theorem dX12_stocking_63 : decode cX12_stocking 63 = .ok (.ireturn, 1) := by decide +kernel
theorem hd_X12_isKind : yX12_isKind.cls ≠ "java/lang/invoke/MethodHandle" ∧ yX12_isKind.cls ≠ "java/lang/invoke/VarHandle" ∧ (parseMethodDescriptor yX12_isKind.desc).map (fun d => d.parameters.length) = some 2 := by decide +kernel
theorem gs_X12_87 : GoodIn gT (va_wsS "NylonLadderModel" 87 yX12_isKind (Cond.code yX12_isKind cX12_isKind 2 (some .boolean) :: gT)) := good_S T_6_147 T_6_148 T_1_10 T_6_149
theorem hd_X12_comes : yX12_comes.cls ≠ "java/lang/invoke/MethodHandle" ∧ yX12_comes.cls ≠ "java/lang/invoke/VarHandle" ∧ (parseMethodDescriptor yX12_comes.desc).map (fun d => d.parameters.length) = some 5 := by decide +kernel
theorem gs_X12_95 : GoodIn gT (va_wsS "NylonLadderModel" 95 yX12_comes (Cond.code yX12_comes cX12_comes 7 (some .int) :: gT)) := good_S T_6_154 T_6_155 T_1_10 T_6_156
def fX12_stocking (M : Mm) (o : Nat) (p1 : Int32) (p2 : Int32) (p3 : Int32) (p4 : Int32) : Option (Int32 × Mm) :=
  B1 (fX12_isKind M p1 p2) fun x2_1 =>
  if x2_1 = 0 then
    some ((-1), M)
  else
    B1 (fX12_in M (p3.toInt64) 0 3) fun x14_2 =>
    if x14_2 = 0 then
      some ((-1), M)
    else
      B1 (fX12_in M (p4.toInt64) 1 30) fun x27_3 =>
      if x27_3 = 0 then
        some ((-1), M)
      else
        B1 (rdN M o 15 0) fun a36_4 =>
        B1 (alI M a36_4 0) fun x40_5 =>
        if x40_5 = 8 then
          some ((-2), M)
        else
          B1 (rdN M o 15 0) fun a52_6 =>
          B2 (fX12_comes M a52_6 p1 p2 p3 p4) fun x60_7 M60_8 =>
          some (x60_7, M60_8)
set_option maxRecDepth 100000 in
set_option maxHeartbeats 4000000 in
theorem qX12_stocking (l : Launch) (E : Ev) {M : Mm} {o : Nat} {p1 : Int32} {p2 : Int32} {p3 : Int32} {p4 : Int32} {rz : Int32} {Mz : Mm} (hf : fX12_stocking M o p1 p2 p3 p4 = some (rz, Mz)) : Ct l E yX12_stocking cX12_stocking 5 (some .int) 2 46 0 0 [.ref (E.b + o), .int p1, .int p2, .int p3, .int p4] M (some (.int rz)) Mz := by
  refine ct_of (by decide +kernel) (Nat.le_of_ble_eq_true rfl) fun p e s m args below meth c C hr hin hW ls hl => ?_
  have hl : lv_has ls 5 [(0, .ref (E.b + o)), (1, .int p1), (2, .int p2), (3, .int p3), (4, .int p4)] := hl
  unfold fX12_stocking at hf
  refine lv_iload_n C.x C.b dX12_stocking_0 rfl (lv_at hl 1 rfl) ?_
  refine lv_iload_n C.x C.b dX12_stocking_1 rfl (lv_at hl 2 rfl) ?_
  replace hf := x_b1 hf; obtain ⟨x2_1, hx2_1, hf⟩ := hf
  refine x_callS (As := [.int p1, .int p2]) (rest := []) C hW hl (qX12_isKind l E hx2_1) gs_X12_87 hd_X12_isKind rfl rfl (Nat.le_of_ble_eq_true rfl) dX12_stocking_2 ⟨Nat.le_of_ble_eq_true rfl, Nat.le_of_ble_eq_true rfl⟩ ⟨Nat.le_of_ble_eq_true rfl, Nat.le_of_ble_eq_true rfl⟩ (fun H locs hW => ?_)
  refine lv_if_eq (tgt := 33) C.x C.b dX12_stocking_5 rfl (fun c5 => ?_) (fun c5 => ?_)
  · replace hf := x_ip c5 hf
    refine lv_iconst (v := (-1)) C.x C.b dX12_stocking_33 (by decide) ?_
    rw [x_e1 hf, x_e2 hf]
    exact x_iret C hr hW dX12_stocking_34
  · replace hf := x_in c5 hf
    refine lv_iload_n C.x C.b dX12_stocking_8 rfl (lv_at hl 3 rfl) ?_
    refine lv_i2l (v := p3.toInt64) C.x C.b dX12_stocking_9 rfl ?_
    refine lv_lconst (v := 0) C.x C.b dX12_stocking_10 (by decide) ?_
    refine x_ldc2 (v := 3) C T_6_152 dX12_stocking_11 ?_
    replace hf := x_b1 hf; obtain ⟨x14_2, hx14_2, hf⟩ := hf
    refine x_callS (As := [.long (p3.toInt64), .long 0, .long 3]) (rest := []) C hW hl (qX12_in l E hx14_2) gs_X12_61 hd_X12_in rfl rfl (Nat.le_of_ble_eq_true rfl) dX12_stocking_14 ⟨Nat.le_of_ble_eq_true rfl, Nat.le_of_ble_eq_true rfl⟩ ⟨Nat.le_of_ble_eq_true rfl, Nat.le_of_ble_eq_true rfl⟩ (fun H locs hW => ?_)
    refine lv_if_eq (tgt := 33) C.x C.b dX12_stocking_17 rfl (fun c17 => ?_) (fun c17 => ?_)
    · replace hf := x_ip c17 hf
      refine lv_iconst (v := (-1)) C.x C.b dX12_stocking_33 (by decide) ?_
      rw [x_e1 hf, x_e2 hf]
      exact x_iret C hr hW dX12_stocking_34
    · replace hf := x_in c17 hf
      refine lv_iload C.x C.b dX12_stocking_20 (lv_at hl 4 rfl) ?_
      refine lv_i2l (v := p4.toInt64) C.x C.b dX12_stocking_22 rfl ?_
      refine lv_lconst (v := 1) C.x C.b dX12_stocking_23 (by decide) ?_
      refine x_ldc2 (v := 30) C T_6_153 dX12_stocking_24 ?_
      replace hf := x_b1 hf; obtain ⟨x27_3, hx27_3, hf⟩ := hf
      refine x_callS (As := [.long (p4.toInt64), .long 1, .long 30]) (rest := []) C hW hl (qX12_in l E hx27_3) gs_X12_61 hd_X12_in rfl rfl (Nat.le_of_ble_eq_true rfl) dX12_stocking_27 ⟨Nat.le_of_ble_eq_true rfl, Nat.le_of_ble_eq_true rfl⟩ ⟨Nat.le_of_ble_eq_true rfl, Nat.le_of_ble_eq_true rfl⟩ (fun H locs hW => ?_)
      refine lv_if_ne (tgt := 35) C.x C.b dX12_stocking_30 rfl (fun c30 => ?_) (fun c30 => ?_)
      · replace hf := x_in c30 hf
        refine lv_aload_n C.x C.b dX12_stocking_35 rfl (lv_at hl 0 rfl) ?_
        replace hf := x_b1 hf; obtain ⟨a36_4, ha36_4, hf⟩ := hf
        refine x_getn C hW fg_X12_9_15 ha36_4 dX12_stocking_36 ?_
        refine lv_iconst (v := 0) C.x C.b dX12_stocking_39 (by decide) ?_
        replace hf := x_b1 hf; obtain ⟨x40_5, hx40_5, hf⟩ := hf
        refine x_iald C hW hx40_5 dX12_stocking_40 ?_
        refine lv_bipush (v := 8) C.x C.b dX12_stocking_41 (by decide) ?_
        refine lv_icmp_ne (tgt := 51) C.x C.b dX12_stocking_43 rfl (fun c43 => ?_) (fun c43 => ?_)
        · replace hf := x_in c43 hf
          refine lv_aload_n C.x C.b dX12_stocking_51 rfl (lv_at hl 0 rfl) ?_
          replace hf := x_b1 hf; obtain ⟨a52_6, ha52_6, hf⟩ := hf
          refine x_getn C hW fg_X12_9_15 ha52_6 dX12_stocking_52 ?_
          refine lv_iload_n C.x C.b dX12_stocking_55 rfl (lv_at hl 1 rfl) ?_
          refine lv_iload_n C.x C.b dX12_stocking_56 rfl (lv_at hl 2 rfl) ?_
          refine lv_iload_n C.x C.b dX12_stocking_57 rfl (lv_at hl 3 rfl) ?_
          refine lv_iload C.x C.b dX12_stocking_58 (lv_at hl 4 rfl) ?_
          replace hf := x_b2 hf; obtain ⟨x60_7, M60_8, hx60_7, hf⟩ := hf
          refine x_callS (As := [.ref (E.b + a52_6), .int p1, .int p2, .int p3, .int p4]) (rest := []) C hW hl (qX12_comes l E hx60_7) gs_X12_95 hd_X12_comes rfl rfl (Nat.le_of_ble_eq_true rfl) dX12_stocking_60 ⟨Nat.le_of_ble_eq_true rfl, Nat.le_of_ble_eq_true rfl⟩ ⟨Nat.le_of_ble_eq_true rfl, Nat.le_of_ble_eq_true rfl⟩ (fun H locs hW => ?_)
          rw [x_e1 hf, x_e2 hf]
          exact x_iret C hr hW dX12_stocking_63
        · replace hf := x_ip c43 hf
          refine lv_bipush (v := (-2)) C.x C.b dX12_stocking_46 (by decide) ?_
          refine lv_goto (tgt := 63) C.x C.b dX12_stocking_48 rfl ?_
          rw [x_e1 hf, x_e2 hf]
          exact x_iret C hr hW dX12_stocking_63
      · replace hf := x_ip c30 hf
        refine lv_iconst (v := (-1)) C.x C.b dX12_stocking_33 (by decide) ?_
        rw [x_e1 hf, x_e2 hf]
        exact x_iret C hr hW dX12_stocking_34

theorem dX12_told_0 : decode cX12_told 0 = .ok (.iload_n 0, 1) := by decide +kernel
theorem dX12_told_1 : decode cX12_told 1 = .ok (.ifCond .ge 8, 3) := by decide +kernel
theorem dX12_told_4 : decode cX12_told 4 = .ok (.bipush (-9), 2) := by decide +kernel
theorem dX12_told_6 : decode cX12_told 6 = .ok (.goto 4, 3) := by decide +kernel
theorem dX12_told_9 : decode cX12_told 9 = .ok (.iload_n 0, 1) := by decide +kernel
theorem dX12_told_10 : decode cX12_told 10 = .ok (.ireturn, 1) := by decide +kernel
def fX12_told (M : Mm) (p1 : Int32) : Option Int32 :=
  if 0 ≤ p1 then
    some p1
  else
    some (-9)
set_option maxRecDepth 100000 in
set_option maxHeartbeats 4000000 in
theorem qX12_told (l : Launch) (E : Ev) {M : Mm} {p1 : Int32} {rz : Int32} (hf : fX12_told M p1 = some rz) : Ct l E yX12_told cX12_told 1 (some .int) 0 0 0 0 [.int p1] M (some (.int rz)) M := by
  refine ct_of (by decide +kernel) (Nat.le_of_ble_eq_true rfl) fun p e s m args below meth c C hr hin hW ls hl => ?_
  have hl : lv_has ls 1 [(0, .int p1)] := hl
  unfold fX12_told at hf
  refine lv_iload_n C.x C.b dX12_told_0 rfl (lv_at hl 0 rfl) ?_
  refine lv_if_ge (tgt := 9) C.x C.b dX12_told_1 rfl (fun c1 => ?_) (fun c1 => ?_)
  · replace hf := x_ip c1 hf
    refine lv_iload_n C.x C.b dX12_told_9 rfl (lv_at hl 0 rfl) ?_
    rw [x_e0 hf]
    exact x_iret C hr hW dX12_told_10
  · replace hf := x_in c1 hf
    refine lv_bipush (v := (-9)) C.x C.b dX12_told_4 (by decide) ?_
    refine lv_goto (tgt := 10) C.x C.b dX12_told_6 rfl ?_
    rw [x_e0 hf]
    exact x_iret C hr hW dX12_told_10

theorem dX12_of_0 : decode cX12_of 0 = .ok (.aload_n 0, 1) := by decide +kernel
theorem dX12_of_1 : decode cX12_of 1 = .ok (.iload_n 1, 1) := by decide +kernel
theorem dX12_of_2 : decode cX12_of 2 = .ok (.invokevirtual 99, 3) := by decide +kernel
theorem dX12_of_5 : decode cX12_of 5 = .ok (.ifCond .eq 15, 3) := by decide +kernel
theorem dX12_of_8 : decode cX12_of 8 = .ok (.iload_n 2, 1) := by decide +kernel
theorem dX12_of_9 : decode cX12_of 9 = .ok (.i2l, 1) := by decide +kernel
theorem dX12_of_10 : decode cX12_of 10 = .ok (.lconst 0, 1) := by decide +kernel
theorem dX12_of_11 : decode cX12_of 11 = .ok (.ldc2_w 85, 3) := by decide +kernel
theorem dX12_of_14 : decode cX12_of 14 = .ok (.invokestatic 61, 3) := by decide +kernel
theorem dX12_of_17 : decode cX12_of 17 = .ok (.ifCond .ne 5, 3) := by decide +kernel
theorem dX12_of_20 : decode cX12_of 20 = .ok (.iconst (-1), 1) := by decide +kernel
theorem dX12_of_21 : decode cX12_of 21 = .ok (.ireturn, 1) := by decide +kernel
theorem dX12_of_22 : decode cX12_of 22 = .ok (.iload_n 2, 1) := by decide +kernel
theorem dX12_of_23 : decode cX12_of 23 = .ok (.bipush 8, 2) := by decide +kernel
theorem dX12_of_25 : decode cX12_of 25 = .ok (.if_icmp .ne 12, 3) := by decide +kernel
theorem dX12_of_28 : decode cX12_of 28 = .ok (.aload_n 0, 1) := by decide +kernel
theorem dX12_of_29 : decode cX12_of 29 = .ok (.iload_n 1, 1) := by decide +kernel
theorem dX12_of_30 : decode cX12_of 30 = .ok (.invokevirtual 102, 3) := by decide +kernel
theorem dX12_of_33 : decode cX12_of 33 = .ok (.invokestatic 105, 3) := by decide +kernel
theorem dX12_of_36 : decode cX12_of 36 = .ok (.ireturn, 1) := by decide +kernel
theorem dX12_of_37 : decode cX12_of 37 = .ok (.iload_n 2, 1) := by decide +kernel
theorem dX12_of_38 : decode cX12_of 38 = .ok (.bipush 9, 2) := by decide +kernel
theorem dX12_of_40 : decode cX12_of 40 = .ok (.if_icmp .ne 11, 3) := by decide +kernel
theorem dX12_of_43 : decode cX12_of 43 = .ok (.aload_n 0, 1) := by decide +kernel
theorem dX12_of_44 : decode cX12_of 44 = .ok (.iload_n 1, 1) := by decide +kernel
theorem dX12_of_45 : decode cX12_of 45 = .ok (.invokevirtual 108, 3) := by decide +kernel
theorem dX12_of_48 : decode cX12_of 48 = .ok (.goto 12, 3) := by decide +kernel
theorem dX12_of_51 : decode cX12_of 51 = .ok (.aload_n 0, 1) := by decide +kernel
theorem dX12_of_52 : decode cX12_of 52 = .ok (.iload_n 1, 1) := by decide +kernel
theorem dX12_of_53 : decode cX12_of 53 = .ok (.iload_n 2, 1) := by decide +kernel
theorem dX12_of_54 : decode cX12_of 54 = .ok (.invokevirtual 67, 3) := by decide +kernel
theorem dX12_of_57 : decode cX12_of 57 = .ok (.invokestatic 105, 3) := by decide +kernel
theorem dX12_of_60 : decode cX12_of 60 = .ok (.ireturn, 1) := by decide +kernel
theorem hd_X12_isOne : yX12_isOne.cls ≠ "java/lang/invoke/MethodHandle" ∧ yX12_isOne.cls ≠ "java/lang/invoke/VarHandle" ∧ (parseMethodDescriptor yX12_isOne.desc).map (fun d => d.parameters.length) = some 1 := by decide +kernel
theorem gv_X12_99 : GoodIn gT (wsV "NylonLadderModel" 99 "NylonLadderModel" yX12_isOne (Cond.code yX12_isOne cX12_isOne 2 (some .boolean) :: gT)) := good_V T_6_161 T_6_163 TS_32 T_1_10 T_6_164
theorem hd_X12_told : yX12_told.cls ≠ "java/lang/invoke/MethodHandle" ∧ yX12_told.cls ≠ "java/lang/invoke/VarHandle" ∧ (parseMethodDescriptor yX12_told.desc).map (fun d => d.parameters.length) = some 1 := by decide +kernel
theorem gs_X12_105 : GoodIn gT (va_wsS "NylonLadderModel" 105 yX12_told (Cond.code yX12_told cX12_told 1 (some .int) :: gT)) := good_S T_6_169 T_6_170 T_1_10 T_6_171
theorem hd_X12_openOf : yX12_openOf.cls ≠ "java/lang/invoke/MethodHandle" ∧ yX12_openOf.cls ≠ "java/lang/invoke/VarHandle" ∧ (parseMethodDescriptor yX12_openOf.desc).map (fun d => d.parameters.length) = some 1 := by decide +kernel
theorem gv_X12_108 : GoodIn gT (wsV "NylonLadderModel" 108 "NylonLadderModel" yX12_openOf (Cond.code yX12_openOf cX12_openOf 2 (some .int) :: gT)) := good_V T_6_172 T_6_174 TS_34 T_1_10 T_6_175
theorem hd_X12_footOf : yX12_footOf.cls ≠ "java/lang/invoke/MethodHandle" ∧ yX12_footOf.cls ≠ "java/lang/invoke/VarHandle" ∧ (parseMethodDescriptor yX12_footOf.desc).map (fun d => d.parameters.length) = some 1 := by decide +kernel
theorem gv_X12_102 : GoodIn gT (wsV "NylonLadderModel" 102 "NylonLadderModel" yX12_footOf (Cond.code yX12_footOf cX12_footOf 2 (some .int) :: gT)) := good_V T_6_165 T_6_167 TS_33 T_1_10 T_6_168
def fX12_of (M : Mm) (o : Nat) (p1 : Int32) (p2 : Int32) : Option Int32 :=
  B1 (gk M o 15) fun _ =>
  B1 (fX12_isOne M o p1) fun x2_2 =>
  if x2_2 = 0 then
    some (-1)
  else
    B1 (fX12_in M (p2.toInt64) 0 9) fun x14_3 =>
    if x14_3 = 0 then
      some (-1)
    else
      if p2 = 8 then
        B1 (gk M o 15) fun _ =>
        B1 (fX12_footOf M o p1) fun x30_10 =>
        B1 (fX12_told M x30_10) fun x33_11 =>
        some x33_11
      else
        if p2 = 9 then
          B1 (gk M o 15) fun _ =>
          B1 (fX12_openOf M o p1) fun x45_8 =>
          some x45_8
        else
          B1 (gk M o 15) fun _ =>
          B1 (fX12_its M o p1 p2) fun x54_5 =>
          B1 (fX12_told M x54_5) fun x57_6 =>
          some x57_6
set_option maxRecDepth 100000 in
set_option maxHeartbeats 4000000 in
theorem qX12_of (l : Launch) (E : Ev) {M : Mm} {o : Nat} {p1 : Int32} {p2 : Int32} {rz : Int32} (hf : fX12_of M o p1 p2 = some rz) : Ct l E yX12_of cX12_of 3 (some .int) 3 64 0 0 [.ref (E.b + o), .int p1, .int p2] M (some (.int rz)) M := by
  refine ct_of (by decide +kernel) (Nat.le_of_ble_eq_true rfl) fun p e s m args below meth c C hr hin hW ls hl => ?_
  have hl : lv_has ls 3 [(0, .ref (E.b + o)), (1, .int p1), (2, .int p2)] := hl
  unfold fX12_of at hf
  refine lv_aload_n C.x C.b dX12_of_0 rfl (lv_at hl 0 rfl) ?_
  refine lv_iload_n C.x C.b dX12_of_1 rfl (lv_at hl 1 rfl) ?_
  replace hf := x_b1 hf; obtain ⟨_, hk2_1, hf⟩ := hf
  replace hf := x_b1 hf; obtain ⟨x2_2, hx2_2, hf⟩ := hf
  refine x_callV (As := [.int p1]) (a := o) (rest := []) C hW hl (qX12_isOne l E hx2_2) (x_gk hk2_1) (by decide) (by decide) rfl gv_X12_99 ⟨rfl, hd_X12_isOne⟩ rfl rfl (Nat.le_of_ble_eq_true rfl) dX12_of_2 ⟨Nat.le_of_ble_eq_true rfl, Nat.le_of_ble_eq_true rfl⟩ ⟨Nat.le_of_ble_eq_true rfl, Nat.le_of_ble_eq_true rfl⟩ (fun H locs hW => ?_)
  refine lv_if_eq (tgt := 20) C.x C.b dX12_of_5 rfl (fun c5 => ?_) (fun c5 => ?_)
  · replace hf := x_ip c5 hf
    refine lv_iconst (v := (-1)) C.x C.b dX12_of_20 (by decide) ?_
    rw [x_e0 hf]
    exact x_iret C hr hW dX12_of_21
  · replace hf := x_in c5 hf
    refine lv_iload_n C.x C.b dX12_of_8 rfl (lv_at hl 2 rfl) ?_
    refine lv_i2l (v := p2.toInt64) C.x C.b dX12_of_9 rfl ?_
    refine lv_lconst (v := 0) C.x C.b dX12_of_10 (by decide) ?_
    refine x_ldc2 (v := 9) C T_6_151 dX12_of_11 ?_
    replace hf := x_b1 hf; obtain ⟨x14_3, hx14_3, hf⟩ := hf
    refine x_callS (As := [.long (p2.toInt64), .long 0, .long 9]) (rest := []) C hW hl (qX12_in l E hx14_3) gs_X12_61 hd_X12_in rfl rfl (Nat.le_of_ble_eq_true rfl) dX12_of_14 ⟨Nat.le_of_ble_eq_true rfl, Nat.le_of_ble_eq_true rfl⟩ ⟨Nat.le_of_ble_eq_true rfl, Nat.le_of_ble_eq_true rfl⟩ (fun H locs hW => ?_)
    refine lv_if_ne (tgt := 22) C.x C.b dX12_of_17 rfl (fun c17 => ?_) (fun c17 => ?_)
    · replace hf := x_in c17 hf
      refine lv_iload_n C.x C.b dX12_of_22 rfl (lv_at hl 2 rfl) ?_
      refine lv_bipush (v := 8) C.x C.b dX12_of_23 (by decide) ?_
      refine lv_icmp_ne (tgt := 37) C.x C.b dX12_of_25 rfl (fun c25 => ?_) (fun c25 => ?_)
      · replace hf := x_in c25 hf
        refine lv_iload_n C.x C.b dX12_of_37 rfl (lv_at hl 2 rfl) ?_
        refine lv_bipush (v := 9) C.x C.b dX12_of_38 (by decide) ?_
        refine lv_icmp_ne (tgt := 51) C.x C.b dX12_of_40 rfl (fun c40 => ?_) (fun c40 => ?_)
        · replace hf := x_in c40 hf
          refine lv_aload_n C.x C.b dX12_of_51 rfl (lv_at hl 0 rfl) ?_
          refine lv_iload_n C.x C.b dX12_of_52 rfl (lv_at hl 1 rfl) ?_
          refine lv_iload_n C.x C.b dX12_of_53 rfl (lv_at hl 2 rfl) ?_
          replace hf := x_b1 hf; obtain ⟨_, hk54_4, hf⟩ := hf
          replace hf := x_b1 hf; obtain ⟨x54_5, hx54_5, hf⟩ := hf
          refine x_callV (As := [.int p1, .int p2]) (a := o) (rest := []) C hW hl (qX12_its l E hx54_5) (x_gk hk54_4) (by decide) (by decide) rfl gv_X12_67 ⟨rfl, hd_X12_its⟩ rfl rfl (Nat.le_of_ble_eq_true rfl) dX12_of_54 ⟨Nat.le_of_ble_eq_true rfl, Nat.le_of_ble_eq_true rfl⟩ ⟨Nat.le_of_ble_eq_true rfl, Nat.le_of_ble_eq_true rfl⟩ (fun H locs hW => ?_)
          replace hf := x_b1 hf; obtain ⟨x57_6, hx57_6, hf⟩ := hf
          refine x_callS (As := [.int x54_5]) (rest := []) C hW hl (qX12_told l E hx57_6) gs_X12_105 hd_X12_told rfl rfl (Nat.le_of_ble_eq_true rfl) dX12_of_57 ⟨Nat.le_of_ble_eq_true rfl, Nat.le_of_ble_eq_true rfl⟩ ⟨Nat.le_of_ble_eq_true rfl, Nat.le_of_ble_eq_true rfl⟩ (fun H locs hW => ?_)
          rw [x_e0 hf]
          exact x_iret C hr hW dX12_of_60
        · replace hf := x_ip c40 hf
          refine lv_aload_n C.x C.b dX12_of_43 rfl (lv_at hl 0 rfl) ?_
          refine lv_iload_n C.x C.b dX12_of_44 rfl (lv_at hl 1 rfl) ?_
          replace hf := x_b1 hf; obtain ⟨_, hk45_7, hf⟩ := hf
          replace hf := x_b1 hf; obtain ⟨x45_8, hx45_8, hf⟩ := hf
          refine x_callV (As := [.int p1]) (a := o) (rest := []) C hW hl (qX12_openOf l E hx45_8) (x_gk hk45_7) (by decide) (by decide) rfl gv_X12_108 ⟨rfl, hd_X12_openOf⟩ rfl rfl (Nat.le_of_ble_eq_true rfl) dX12_of_45 ⟨Nat.le_of_ble_eq_true rfl, Nat.le_of_ble_eq_true rfl⟩ ⟨Nat.le_of_ble_eq_true rfl, Nat.le_of_ble_eq_true rfl⟩ (fun H locs hW => ?_)
          refine lv_goto (tgt := 60) C.x C.b dX12_of_48 rfl ?_
          rw [x_e0 hf]
          exact x_iret C hr hW dX12_of_60
      · replace hf := x_ip c25 hf
        refine lv_aload_n C.x C.b dX12_of_28 rfl (lv_at hl 0 rfl) ?_
        refine lv_iload_n C.x C.b dX12_of_29 rfl (lv_at hl 1 rfl) ?_
        replace hf := x_b1 hf; obtain ⟨_, hk30_9, hf⟩ := hf
        replace hf := x_b1 hf; obtain ⟨x30_10, hx30_10, hf⟩ := hf
        refine x_callV (As := [.int p1]) (a := o) (rest := []) C hW hl (qX12_footOf l E hx30_10) (x_gk hk30_9) (by decide) (by decide) rfl gv_X12_102 ⟨rfl, hd_X12_footOf⟩ rfl rfl (Nat.le_of_ble_eq_true rfl) dX12_of_30 ⟨Nat.le_of_ble_eq_true rfl, Nat.le_of_ble_eq_true rfl⟩ ⟨Nat.le_of_ble_eq_true rfl, Nat.le_of_ble_eq_true rfl⟩ (fun H locs hW => ?_)
        replace hf := x_b1 hf; obtain ⟨x33_11, hx33_11, hf⟩ := hf
        refine x_callS (As := [.int x30_10]) (rest := []) C hW hl (qX12_told l E hx33_11) gs_X12_105 hd_X12_told rfl rfl (Nat.le_of_ble_eq_true rfl) dX12_of_33 ⟨Nat.le_of_ble_eq_true rfl, Nat.le_of_ble_eq_true rfl⟩ ⟨Nat.le_of_ble_eq_true rfl, Nat.le_of_ble_eq_true rfl⟩ (fun H locs hW => ?_)
        rw [x_e0 hf]
        exact x_iret C hr hW dX12_of_36
    · replace hf := x_ip c17 hf
      refine lv_iconst (v := (-1)) C.x C.b dX12_of_20 (by decide) ?_
      rw [x_e0 hf]
      exact x_iret C hr hW dX12_of_21

theorem dX12_mind_0 : decode cX12_mind 0 = .ok (.aload_n 0, 1) := by decide +kernel
theorem dX12_mind_1 : decode cX12_mind 1 = .ok (.iload_n 1, 1) := by decide +kernel
theorem dX12_mind_2 : decode cX12_mind 2 = .ok (.invokevirtual 99, 3) := by decide +kernel
theorem dX12_mind_5 : decode cX12_mind 5 = .ok (.ifCond .eq 11, 3) := by decide +kernel
theorem dX12_mind_8 : decode cX12_mind 8 = .ok (.iload_n 2, 1) := by decide +kernel
theorem dX12_mind_9 : decode cX12_mind 9 = .ok (.iload_n 3, 1) := by decide +kernel
theorem dX12_mind_10 : decode cX12_mind 10 = .ok (.invokestatic 87, 3) := by decide +kernel
theorem dX12_mind_13 : decode cX12_mind 13 = .ok (.ifCond .ne 5, 3) := by decide +kernel
theorem dX12_mind_16 : decode cX12_mind 16 = .ok (.iconst (-1), 1) := by decide +kernel
theorem dX12_mind_17 : decode cX12_mind 17 = .ok (.ireturn, 1) := by decide +kernel
theorem dX12_mind_18 : decode cX12_mind 18 = .ok (.aload_n 0, 1) := by decide +kernel
theorem dX12_mind_19 : decode cX12_mind 19 = .ok (.iload_n 1, 1) := by decide +kernel
theorem dX12_mind_20 : decode cX12_mind 20 = .ok (.iconst 0, 1) := by decide +kernel
theorem dX12_mind_21 : decode cX12_mind 21 = .ok (.invokevirtual 67, 3) := by decide +kernel
theorem dX12_mind_24 : decode cX12_mind 24 = .ok (.istore 4, 2) := by decide +kernel
theorem dX12_mind_26 : decode cX12_mind 26 = .ok (.aload_n 0, 1) := by decide +kernel
theorem dX12_mind_27 : decode cX12_mind 27 = .ok (.iload_n 1, 1) := by decide +kernel
theorem dX12_mind_28 : decode cX12_mind 28 = .ok (.iconst 0, 1) := by decide +kernel
theorem dX12_mind_29 : decode cX12_mind 29 = .ok (.iload_n 2, 1) := by decide +kernel
theorem dX12_mind_30 : decode cX12_mind 30 = .ok (.invokevirtual 111, 3) := by decide +kernel
theorem dX12_mind_33 : decode cX12_mind 33 = .ok (.aload_n 0, 1) := by decide +kernel
theorem dX12_mind_34 : decode cX12_mind 34 = .ok (.iload_n 1, 1) := by decide +kernel
theorem dX12_mind_35 : decode cX12_mind 35 = .ok (.iconst 1, 1) := by decide +kernel
theorem dX12_mind_36 : decode cX12_mind 36 = .ok (.iload_n 3, 1) := by decide +kernel
theorem dX12_mind_37 : decode cX12_mind 37 = .ok (.invokevirtual 111, 3) := by decide +kernel
theorem dX12_mind_40 : decode cX12_mind 40 = .ok (.iload 4, 2) := by decide +kernel
theorem dX12_mind_42 : decode cX12_mind 42 = .ok (.ireturn, 1) := by decide +kernel
theorem hd_X12_sets : yX12_sets.cls ≠ "java/lang/invoke/MethodHandle" ∧ yX12_sets.cls ≠ "java/lang/invoke/VarHandle" ∧ (parseMethodDescriptor yX12_sets.desc).map (fun d => d.parameters.length) = some 3 := by decide +kernel
theorem gv_X12_111 : GoodIn gT (wsV "NylonLadderModel" 111 "NylonLadderModel" yX12_sets (Cond.code yX12_sets cX12_sets 4 none :: gT)) := good_V T_6_188 T_6_190 TS_37 T_1_10 T_6_191
def fX12_mind (M : Mm) (o : Nat) (p1 : Int32) (p2 : Int32) (p3 : Int32) : Option (Int32 × Mm) :=
  B1 (gk M o 15) fun _ =>
  B1 (fX12_isOne M o p1) fun x2_2 =>
  if x2_2 = 0 then
    some ((-1), M)
  else
    B1 (fX12_isKind M p2 p3) fun x10_3 =>
    if x10_3 = 0 then
      some ((-1), M)
    else
      B1 (gk M o 15) fun _ =>
      B1 (fX12_its M o p1 0) fun x21_5 =>
      B1 (gk M o 15) fun _ =>
      B1 (fX12_sets M o p1 0 p2) fun M30_7 =>
      B1 (gk M30_7 o 15) fun _ =>
      B1 (fX12_sets M30_7 o p1 1 p3) fun M37_9 =>
      some (x21_5, M37_9)
set_option maxRecDepth 100000 in
set_option maxHeartbeats 4000000 in
theorem qX12_mind (l : Launch) (E : Ev) {M : Mm} {o : Nat} {p1 : Int32} {p2 : Int32} {p3 : Int32} {rz : Int32} {Mz : Mm} (hf : fX12_mind M o p1 p2 p3 = some (rz, Mz)) : Ct l E yX12_mind cX12_mind 5 (some .int) 2 46 0 0 [.ref (E.b + o), .int p1, .int p2, .int p3] M (some (.int rz)) Mz := by
  refine ct_of (by decide +kernel) (Nat.le_of_ble_eq_true rfl) fun p e s m args below meth c C hr hin hW ls hl => ?_
  have hl : lv_has ls 5 [(0, .ref (E.b + o)), (1, .int p1), (2, .int p2), (3, .int p3)] := hl
  unfold fX12_mind at hf
  refine lv_aload_n C.x C.b dX12_mind_0 rfl (lv_at hl 0 rfl) ?_
  refine lv_iload_n C.x C.b dX12_mind_1 rfl (lv_at hl 1 rfl) ?_
  replace hf := x_b1 hf; obtain ⟨_, hk2_1, hf⟩ := hf
  replace hf := x_b1 hf; obtain ⟨x2_2, hx2_2, hf⟩ := hf
  refine x_callV (As := [.int p1]) (a := o) (rest := []) C hW hl (qX12_isOne l E hx2_2) (x_gk hk2_1) (by decide) (by decide) rfl gv_X12_99 ⟨rfl, hd_X12_isOne⟩ rfl rfl (Nat.le_of_ble_eq_true rfl) dX12_mind_2 ⟨Nat.le_of_ble_eq_true rfl, Nat.le_of_ble_eq_true rfl⟩ ⟨Nat.le_of_ble_eq_true rfl, Nat.le_of_ble_eq_true rfl⟩ (fun H locs hW => ?_)
  refine lv_if_eq (tgt := 16) C.x C.b dX12_mind_5 rfl (fun c5 => ?_) (fun c5 => ?_)
  · replace hf := x_ip c5 hf
    refine lv_iconst (v := (-1)) C.x C.b dX12_mind_16 (by decide) ?_
    rw [x_e1 hf, x_e2 hf]
    exact x_iret C hr hW dX12_mind_17
  · replace hf := x_in c5 hf
    refine lv_iload_n C.x C.b dX12_mind_8 rfl (lv_at hl 2 rfl) ?_
    refine lv_iload_n C.x C.b dX12_mind_9 rfl (lv_at hl 3 rfl) ?_
    replace hf := x_b1 hf; obtain ⟨x10_3, hx10_3, hf⟩ := hf
    refine x_callS (As := [.int p2, .int p3]) (rest := []) C hW hl (qX12_isKind l E hx10_3) gs_X12_87 hd_X12_isKind rfl rfl (Nat.le_of_ble_eq_true rfl) dX12_mind_10 ⟨Nat.le_of_ble_eq_true rfl, Nat.le_of_ble_eq_true rfl⟩ ⟨Nat.le_of_ble_eq_true rfl, Nat.le_of_ble_eq_true rfl⟩ (fun H locs hW => ?_)
    refine lv_if_ne (tgt := 18) C.x C.b dX12_mind_13 rfl (fun c13 => ?_) (fun c13 => ?_)
    · replace hf := x_in c13 hf
      refine lv_aload_n C.x C.b dX12_mind_18 rfl (lv_at hl 0 rfl) ?_
      refine lv_iload_n C.x C.b dX12_mind_19 rfl (lv_at hl 1 rfl) ?_
      refine lv_iconst (v := 0) C.x C.b dX12_mind_20 (by decide) ?_
      replace hf := x_b1 hf; obtain ⟨_, hk21_4, hf⟩ := hf
      replace hf := x_b1 hf; obtain ⟨x21_5, hx21_5, hf⟩ := hf
      refine x_callV (As := [.int p1, .int 0]) (a := o) (rest := []) C hW hl (qX12_its l E hx21_5) (x_gk hk21_4) (by decide) (by decide) rfl gv_X12_67 ⟨rfl, hd_X12_its⟩ rfl rfl (Nat.le_of_ble_eq_true rfl) dX12_mind_21 ⟨Nat.le_of_ble_eq_true rfl, Nat.le_of_ble_eq_true rfl⟩ ⟨Nat.le_of_ble_eq_true rfl, Nat.le_of_ble_eq_true rfl⟩ (fun H locs hW => ?_)
      refine lv_istore (lv' := [(4, .int _), (0, .ref (E.b + _)), (1, .int _), (2, .int _), (3, .int _)]) C.x C.b dX12_mind_24 hl (by decide) rfl (fun ls hl => ?_)
      refine lv_aload_n C.x C.b dX12_mind_26 rfl (lv_at hl 1 rfl) ?_
      refine lv_iload_n C.x C.b dX12_mind_27 rfl (lv_at hl 2 rfl) ?_
      refine lv_iconst (v := 0) C.x C.b dX12_mind_28 (by decide) ?_
      refine lv_iload_n C.x C.b dX12_mind_29 rfl (lv_at hl 3 rfl) ?_
      replace hf := x_b1 hf; obtain ⟨_, hk30_6, hf⟩ := hf
      replace hf := x_b1 hf; obtain ⟨M30_7, hM30_7, hf⟩ := hf
      refine x_callV (As := [.int p1, .int 0, .int p2]) (a := o) (rest := []) C hW hl (qX12_sets l E hM30_7) (x_gk hk30_6) (by decide) (by decide) rfl gv_X12_111 ⟨rfl, hd_X12_sets⟩ rfl rfl (Nat.le_of_ble_eq_true rfl) dX12_mind_30 ⟨Nat.le_of_ble_eq_true rfl, Nat.le_of_ble_eq_true rfl⟩ ⟨Nat.le_of_ble_eq_true rfl, Nat.le_of_ble_eq_true rfl⟩ (fun H locs hW => ?_)
      refine lv_aload_n C.x C.b dX12_mind_33 rfl (lv_at hl 1 rfl) ?_
      refine lv_iload_n C.x C.b dX12_mind_34 rfl (lv_at hl 2 rfl) ?_
      refine lv_iconst (v := 1) C.x C.b dX12_mind_35 (by decide) ?_
      refine lv_iload_n C.x C.b dX12_mind_36 rfl (lv_at hl 4 rfl) ?_
      replace hf := x_b1 hf; obtain ⟨_, hk37_8, hf⟩ := hf
      replace hf := x_b1 hf; obtain ⟨M37_9, hM37_9, hf⟩ := hf
      refine x_callV (As := [.int p1, .int 1, .int p3]) (a := o) (rest := []) C hW hl (qX12_sets l E hM37_9) (x_gk hk37_8) (by decide) (by decide) rfl gv_X12_111 ⟨rfl, hd_X12_sets⟩ rfl rfl (Nat.le_of_ble_eq_true rfl) dX12_mind_37 ⟨Nat.le_of_ble_eq_true rfl, Nat.le_of_ble_eq_true rfl⟩ ⟨Nat.le_of_ble_eq_true rfl, Nat.le_of_ble_eq_true rfl⟩ (fun H locs hW => ?_)
      refine lv_iload C.x C.b dX12_mind_40 (lv_at hl 0 rfl) ?_
      rw [x_e1 hf, x_e2 hf]
      exact x_iret C hr hW dX12_mind_42
    · replace hf := x_ip c13 hf
      refine lv_iconst (v := (-1)) C.x C.b dX12_mind_16 (by decide) ?_
      rw [x_e1 hf, x_e2 hf]
      exact x_iret C hr hW dX12_mind_17

theorem dX12_ladder_0 : decode cX12_ladder 0 = .ok (.aload_n 0, 1) := by decide +kernel
theorem dX12_ladder_1 : decode cX12_ladder 1 = .ok (.iload_n 1, 1) := by decide +kernel
theorem dX12_ladder_2 : decode cX12_ladder 2 = .ok (.bipush 6, 2) := by decide +kernel
theorem dX12_ladder_4 : decode cX12_ladder 4 = .ok (.iload_n 2, 1) := by decide +kernel
theorem dX12_ladder_5 : decode cX12_ladder 5 = .ok (.invokevirtual 111, 3) := by decide +kernel
theorem dX12_ladder_8 : decode cX12_ladder 8 = .ok (.aload_n 0, 1) := by decide +kernel
theorem dX12_ladder_9 : decode cX12_ladder 9 = .ok (.iload_n 1, 1) := by decide +kernel
theorem dX12_ladder_10 : decode cX12_ladder 10 = .ok (.bipush 7, 2) := by decide +kernel
theorem dX12_ladder_12 : decode cX12_ladder 12 = .ok (.iload_n 3, 1) := by decide +kernel
theorem dX12_ladder_13 : decode cX12_ladder 13 = .ok (.invokevirtual 111, 3) := by decide +kernel
theorem dX12_ladder_16 : decode cX12_ladder 16 = .ok (.return_, 1) := by decide +kernel
def fX12_ladder (M : Mm) (o : Nat) (p1 : Int32) (p2 : Int32) (p3 : Int32) : Option Mm :=
  B1 (gk M o 15) fun _ =>
  B1 (fX12_sets M o p1 6 p2) fun M5_2 =>
  B1 (gk M5_2 o 15) fun _ =>
  B1 (fX12_sets M5_2 o p1 7 p3) fun M13_4 =>
  some M13_4
set_option maxRecDepth 100000 in
set_option maxHeartbeats 4000000 in
theorem qX12_ladder (l : Launch) (E : Ev) {M : Mm} {o : Nat} {p1 : Int32} {p2 : Int32} {p3 : Int32} {Mz : Mm} (hf : fX12_ladder M o p1 p2 p3 = some Mz) : Ct l E yX12_ladder cX12_ladder 4 none 1 23 0 0 [.ref (E.b + o), .int p1, .int p2, .int p3] M none Mz := by
  refine ct_of (by decide +kernel) (Nat.le_of_ble_eq_true rfl) fun p e s m args below meth c C hr hin hW ls hl => ?_
  have hl : lv_has ls 4 [(0, .ref (E.b + o)), (1, .int p1), (2, .int p2), (3, .int p3)] := hl
  unfold fX12_ladder at hf
  refine lv_aload_n C.x C.b dX12_ladder_0 rfl (lv_at hl 0 rfl) ?_
  refine lv_iload_n C.x C.b dX12_ladder_1 rfl (lv_at hl 1 rfl) ?_
  refine lv_bipush (v := 6) C.x C.b dX12_ladder_2 (by decide) ?_
  refine lv_iload_n C.x C.b dX12_ladder_4 rfl (lv_at hl 2 rfl) ?_
  replace hf := x_b1 hf; obtain ⟨_, hk5_1, hf⟩ := hf
  replace hf := x_b1 hf; obtain ⟨M5_2, hM5_2, hf⟩ := hf
  refine x_callV (As := [.int p1, .int 6, .int p2]) (a := o) (rest := []) C hW hl (qX12_sets l E hM5_2) (x_gk hk5_1) (by decide) (by decide) rfl gv_X12_111 ⟨rfl, hd_X12_sets⟩ rfl rfl (Nat.le_of_ble_eq_true rfl) dX12_ladder_5 ⟨Nat.le_of_ble_eq_true rfl, Nat.le_of_ble_eq_true rfl⟩ ⟨Nat.le_of_ble_eq_true rfl, Nat.le_of_ble_eq_true rfl⟩ (fun H locs hW => ?_)
  refine lv_aload_n C.x C.b dX12_ladder_8 rfl (lv_at hl 0 rfl) ?_
  refine lv_iload_n C.x C.b dX12_ladder_9 rfl (lv_at hl 1 rfl) ?_
  refine lv_bipush (v := 7) C.x C.b dX12_ladder_10 (by decide) ?_
  refine lv_iload_n C.x C.b dX12_ladder_12 rfl (lv_at hl 3 rfl) ?_
  replace hf := x_b1 hf; obtain ⟨_, hk13_3, hf⟩ := hf
  replace hf := x_b1 hf; obtain ⟨M13_4, hM13_4, hf⟩ := hf
  refine x_callV (As := [.int p1, .int 7, .int p3]) (a := o) (rest := []) C hW hl (qX12_sets l E hM13_4) (x_gk hk13_3) (by decide) (by decide) rfl gv_X12_111 ⟨rfl, hd_X12_sets⟩ rfl rfl (Nat.le_of_ble_eq_true rfl) dX12_ladder_13 ⟨Nat.le_of_ble_eq_true rfl, Nat.le_of_ble_eq_true rfl⟩ ⟨Nat.le_of_ble_eq_true rfl, Nat.le_of_ble_eq_true rfl⟩ (fun H locs hW => ?_)
  rw [x_e0 hf]
  exact x_vret C hr hW dX12_ladder_16

theorem dX12_maySnag_0 : decode cX12_maySnag 0 = .ok (.aload_n 0, 1) := by decide +kernel
theorem dX12_maySnag_1 : decode cX12_maySnag 1 = .ok (.iload_n 1, 1) := by decide +kernel
theorem dX12_maySnag_2 : decode cX12_maySnag 2 = .ok (.invokevirtual 71, 3) := by decide +kernel
theorem dX12_maySnag_5 : decode cX12_maySnag 5 = .ok (.ifCond .ne 16, 3) := by decide +kernel
theorem dX12_maySnag_8 : decode cX12_maySnag 8 = .ok (.aload_n 0, 1) := by decide +kernel
theorem dX12_maySnag_9 : decode cX12_maySnag 9 = .ok (.iload_n 1, 1) := by decide +kernel
theorem dX12_maySnag_10 : decode cX12_maySnag 10 = .ok (.iload_n 2, 1) := by decide +kernel
theorem dX12_maySnag_11 : decode cX12_maySnag 11 = .ok (.invokevirtual 115, 3) := by decide +kernel
theorem dX12_maySnag_14 : decode cX12_maySnag 14 = .ok (.ifCond .ge 7, 3) := by decide +kernel
theorem dX12_maySnag_17 : decode cX12_maySnag 17 = .ok (.iconst 1, 1) := by decide +kernel
theorem dX12_maySnag_18 : decode cX12_maySnag 18 = .ok (.goto 4, 3) := by decide +kernel
theorem dX12_maySnag_21 : decode cX12_maySnag 21 = .ok (.iconst 0, 1) := by decide +kernel
theorem dX12_maySnag_22 : decode cX12_maySnag 22 = .ok (.ireturn, 1) := by decide +kernel
theorem hd_X12_dabAt : yX12_dabAt.cls ≠ "java/lang/invoke/MethodHandle" ∧ yX12_dabAt.cls ≠ "java/lang/invoke/VarHandle" ∧ (parseMethodDescriptor yX12_dabAt.desc).map (fun d => d.parameters.length) = some 2 := by decide +kernel
theorem gv_X12_115 : GoodIn gT (wsV "NylonLadderModel" 115 "NylonLadderModel" yX12_dabAt (Cond.code yX12_dabAt cX12_dabAt 4 (some .int) :: gT)) := good_V T_6_204 T_6_206 TS_39 T_1_10 T_6_207
def fX12_maySnag (M : Mm) (o : Nat) (p1 : Int32) (p2 : Int32) : Option Int32 :=
  B1 (gk M o 15) fun _ =>
  B1 (fX12_hasLadder M o p1) fun x2_2 =>
  if x2_2 = 0 then
    B1 (gk M o 15) fun _ =>
    B1 (fX12_dabAt M o p1 p2) fun x11_4 =>
    if 0 ≤ x11_4 then
      some 0
    else
      some 1
  else
    some 0
set_option maxRecDepth 100000 in
set_option maxHeartbeats 4000000 in
theorem qX12_maySnag (l : Launch) (E : Ev) {M : Mm} {o : Nat} {p1 : Int32} {p2 : Int32} {rz : Int32} (hf : fX12_maySnag M o p1 p2 = some rz) : Ct l E yX12_maySnag cX12_maySnag 3 (some .boolean) 2 45 0 0 [.ref (E.b + o), .int p1, .int p2] M (some (.int rz)) M := by
  refine ct_of (by decide +kernel) (Nat.le_of_ble_eq_true rfl) fun p e s m args below meth c C hr hin hW ls hl => ?_
  have hl : lv_has ls 3 [(0, .ref (E.b + o)), (1, .int p1), (2, .int p2)] := hl
  unfold fX12_maySnag at hf
  refine lv_aload_n C.x C.b dX12_maySnag_0 rfl (lv_at hl 0 rfl) ?_
  refine lv_iload_n C.x C.b dX12_maySnag_1 rfl (lv_at hl 1 rfl) ?_
  replace hf := x_b1 hf; obtain ⟨_, hk2_1, hf⟩ := hf
  replace hf := x_b1 hf; obtain ⟨x2_2, hx2_2, hf⟩ := hf
  refine x_callV (As := [.int p1]) (a := o) (rest := []) C hW hl (qX12_hasLadder l E hx2_2) (x_gk hk2_1) (by decide) (by decide) rfl gv_X12_71 ⟨rfl, hd_X12_hasLadder⟩ rfl rfl (Nat.le_of_ble_eq_true rfl) dX12_maySnag_2 ⟨Nat.le_of_ble_eq_true rfl, Nat.le_of_ble_eq_true rfl⟩ ⟨Nat.le_of_ble_eq_true rfl, Nat.le_of_ble_eq_true rfl⟩ (fun H locs hW => ?_)
  refine lv_if_ne (tgt := 21) C.x C.b dX12_maySnag_5 rfl (fun c5 => ?_) (fun c5 => ?_)
  · replace hf := x_in c5 hf
    refine lv_iconst (v := 0) C.x C.b dX12_maySnag_21 (by decide) ?_
    rw [x_e0 hf]
    exact x_zret C hr hW (v := 0) (w := 0) rfl dX12_maySnag_22
  · replace hf := x_ip c5 hf
    refine lv_aload_n C.x C.b dX12_maySnag_8 rfl (lv_at hl 0 rfl) ?_
    refine lv_iload_n C.x C.b dX12_maySnag_9 rfl (lv_at hl 1 rfl) ?_
    refine lv_iload_n C.x C.b dX12_maySnag_10 rfl (lv_at hl 2 rfl) ?_
    replace hf := x_b1 hf; obtain ⟨_, hk11_3, hf⟩ := hf
    replace hf := x_b1 hf; obtain ⟨x11_4, hx11_4, hf⟩ := hf
    refine x_callV (As := [.int p1, .int p2]) (a := o) (rest := []) C hW hl (qX12_dabAt l E hx11_4) (x_gk hk11_3) (by decide) (by decide) rfl gv_X12_115 ⟨rfl, hd_X12_dabAt⟩ rfl rfl (Nat.le_of_ble_eq_true rfl) dX12_maySnag_11 ⟨Nat.le_of_ble_eq_true rfl, Nat.le_of_ble_eq_true rfl⟩ ⟨Nat.le_of_ble_eq_true rfl, Nat.le_of_ble_eq_true rfl⟩ (fun H locs hW => ?_)
    refine lv_if_ge (tgt := 21) C.x C.b dX12_maySnag_14 rfl (fun c14 => ?_) (fun c14 => ?_)
    · replace hf := x_ip c14 hf
      refine lv_iconst (v := 0) C.x C.b dX12_maySnag_21 (by decide) ?_
      rw [x_e0 hf]
      exact x_zret C hr hW (v := 0) (w := 0) rfl dX12_maySnag_22
    · replace hf := x_in c14 hf
      refine lv_iconst (v := 1) C.x C.b dX12_maySnag_17 (by decide) ?_
      refine lv_goto (tgt := 22) C.x C.b dX12_maySnag_18 rfl ?_
      rw [x_e0 hf]
      exact x_zret C hr hW (v := 1) (w := 1) rfl dX12_maySnag_22

theorem dX12_snag_0 : decode cX12_snag 0 = .ok (.aload_n 0, 1) := by decide +kernel
theorem dX12_snag_1 : decode cX12_snag 1 = .ok (.iload_n 1, 1) := by decide +kernel
theorem dX12_snag_2 : decode cX12_snag 2 = .ok (.invokevirtual 99, 3) := by decide +kernel
theorem dX12_snag_5 : decode cX12_snag 5 = .ok (.ifCond .eq 10, 3) := by decide +kernel
theorem dX12_snag_8 : decode cX12_snag 8 = .ok (.iload_n 2, 1) := by decide +kernel
theorem dX12_snag_9 : decode cX12_snag 9 = .ok (.invokestatic 118, 3) := by decide +kernel
theorem dX12_snag_12 : decode cX12_snag 12 = .ok (.ifCond .ne 5, 3) := by decide +kernel
theorem dX12_snag_15 : decode cX12_snag 15 = .ok (.iconst (-1), 1) := by decide +kernel
theorem dX12_snag_16 : decode cX12_snag 16 = .ok (.ireturn, 1) := by decide +kernel
theorem dX12_snag_17 : decode cX12_snag 17 = .ok (.aload_n 0, 1) := by decide +kernel
theorem dX12_snag_18 : decode cX12_snag 18 = .ok (.iload_n 1, 1) := by decide +kernel
theorem dX12_snag_19 : decode cX12_snag 19 = .ok (.iload_n 2, 1) := by decide +kernel
theorem dX12_snag_20 : decode cX12_snag 20 = .ok (.invokevirtual 121, 3) := by decide +kernel
theorem dX12_snag_23 : decode cX12_snag 23 = .ok (.ifCond .ne 6, 3) := by decide +kernel
theorem dX12_snag_26 : decode cX12_snag 26 = .ok (.bipush (-4), 2) := by decide +kernel
theorem dX12_snag_28 : decode cX12_snag 28 = .ok (.ireturn, 1) := by decide +kernel
theorem dX12_snag_29 : decode cX12_snag 29 = .ok (.aload_n 0, 1) := by decide +kernel
theorem dX12_snag_30 : decode cX12_snag 30 = .ok (.iload_n 1, 1) := by decide +kernel
theorem dX12_snag_31 : decode cX12_snag 31 = .ok (.iload_n 2, 1) := by decide +kernel
theorem dX12_snag_32 : decode cX12_snag 32 = .ok (.iload_n 2, 1) := by decide +kernel
theorem dX12_snag_33 : decode cX12_snag 33 = .ok (.invokevirtual 124, 3) := by decide +kernel
theorem dX12_snag_36 : decode cX12_snag 36 = .ok (.iconst 1, 1) := by decide +kernel
theorem dX12_snag_37 : decode cX12_snag 37 = .ok (.ireturn, 1) := by decide +kernel
theorem hd_X12_isRung : yX12_isRung.cls ≠ "java/lang/invoke/MethodHandle" ∧ yX12_isRung.cls ≠ "java/lang/invoke/VarHandle" ∧ (parseMethodDescriptor yX12_isRung.desc).map (fun d => d.parameters.length) = some 1 := by decide +kernel
theorem gs_X12_118 : GoodIn gT (va_wsS "NylonLadderModel" 118 yX12_isRung (Cond.code yX12_isRung cX12_isRung 1 (some .boolean) :: gT)) := good_S T_6_196 T_6_197 T_1_10 T_6_198
theorem hd_X12_maySnag : yX12_maySnag.cls ≠ "java/lang/invoke/MethodHandle" ∧ yX12_maySnag.cls ≠ "java/lang/invoke/VarHandle" ∧ (parseMethodDescriptor yX12_maySnag.desc).map (fun d => d.parameters.length) = some 2 := by decide +kernel
theorem gv_X12_121 : GoodIn gT (wsV "NylonLadderModel" 121 "NylonLadderModel" yX12_maySnag (Cond.code yX12_maySnag cX12_maySnag 3 (some .boolean) :: gT)) := good_V T_6_200 T_6_202 TS_38 T_1_10 T_6_203
theorem hd_X12_ladder : yX12_ladder.cls ≠ "java/lang/invoke/MethodHandle" ∧ yX12_ladder.cls ≠ "java/lang/invoke/VarHandle" ∧ (parseMethodDescriptor yX12_ladder.desc).map (fun d => d.parameters.length) = some 3 := by decide +kernel
theorem gv_X12_124 : GoodIn gT (wsV "NylonLadderModel" 124 "NylonLadderModel" yX12_ladder (Cond.code yX12_ladder cX12_ladder 4 none :: gT)) := good_V T_6_208 T_6_210 TS_40 T_1_10 T_6_211
def fX12_snag (M : Mm) (o : Nat) (p1 : Int32) (p2 : Int32) : Option (Int32 × Mm) :=
  B1 (gk M o 15) fun _ =>
  B1 (fX12_isOne M o p1) fun x2_2 =>
  if x2_2 = 0 then
    some ((-1), M)
  else
    B1 (fX12_isRung M p2) fun x9_3 =>
    if x9_3 = 0 then
      some ((-1), M)
    else
      B1 (gk M o 15) fun _ =>
      B1 (fX12_maySnag M o p1 p2) fun x20_5 =>
      if x20_5 = 0 then
        some ((-4), M)
      else
        B1 (gk M o 15) fun _ =>
        B1 (fX12_ladder M o p1 p2 p2) fun M33_7 =>
        some (1, M33_7)
set_option maxRecDepth 100000 in
set_option maxHeartbeats 4000000 in
theorem qX12_snag (l : Launch) (E : Ev) {M : Mm} {o : Nat} {p1 : Int32} {p2 : Int32} {rz : Int32} {Mz : Mm} (hf : fX12_snag M o p1 p2 = some (rz, Mz)) : Ct l E yX12_snag cX12_snag 3 (some .int) 3 67 0 0 [.ref (E.b + o), .int p1, .int p2] M (some (.int rz)) Mz := by
  refine ct_of (by decide +kernel) (Nat.le_of_ble_eq_true rfl) fun p e s m args below meth c C hr hin hW ls hl => ?_
  have hl : lv_has ls 3 [(0, .ref (E.b + o)), (1, .int p1), (2, .int p2)] := hl
  unfold fX12_snag at hf
  refine lv_aload_n C.x C.b dX12_snag_0 rfl (lv_at hl 0 rfl) ?_
  refine lv_iload_n C.x C.b dX12_snag_1 rfl (lv_at hl 1 rfl) ?_
  replace hf := x_b1 hf; obtain ⟨_, hk2_1, hf⟩ := hf
  replace hf := x_b1 hf; obtain ⟨x2_2, hx2_2, hf⟩ := hf
  refine x_callV (As := [.int p1]) (a := o) (rest := []) C hW hl (qX12_isOne l E hx2_2) (x_gk hk2_1) (by decide) (by decide) rfl gv_X12_99 ⟨rfl, hd_X12_isOne⟩ rfl rfl (Nat.le_of_ble_eq_true rfl) dX12_snag_2 ⟨Nat.le_of_ble_eq_true rfl, Nat.le_of_ble_eq_true rfl⟩ ⟨Nat.le_of_ble_eq_true rfl, Nat.le_of_ble_eq_true rfl⟩ (fun H locs hW => ?_)
  refine lv_if_eq (tgt := 15) C.x C.b dX12_snag_5 rfl (fun c5 => ?_) (fun c5 => ?_)
  · replace hf := x_ip c5 hf
    refine lv_iconst (v := (-1)) C.x C.b dX12_snag_15 (by decide) ?_
    rw [x_e1 hf, x_e2 hf]
    exact x_iret C hr hW dX12_snag_16
  · replace hf := x_in c5 hf
    refine lv_iload_n C.x C.b dX12_snag_8 rfl (lv_at hl 2 rfl) ?_
    replace hf := x_b1 hf; obtain ⟨x9_3, hx9_3, hf⟩ := hf
    refine x_callS (As := [.int p2]) (rest := []) C hW hl (qX12_isRung l E hx9_3) gs_X12_118 hd_X12_isRung rfl rfl (Nat.le_of_ble_eq_true rfl) dX12_snag_9 ⟨Nat.le_of_ble_eq_true rfl, Nat.le_of_ble_eq_true rfl⟩ ⟨Nat.le_of_ble_eq_true rfl, Nat.le_of_ble_eq_true rfl⟩ (fun H locs hW => ?_)
    refine lv_if_ne (tgt := 17) C.x C.b dX12_snag_12 rfl (fun c12 => ?_) (fun c12 => ?_)
    · replace hf := x_in c12 hf
      refine lv_aload_n C.x C.b dX12_snag_17 rfl (lv_at hl 0 rfl) ?_
      refine lv_iload_n C.x C.b dX12_snag_18 rfl (lv_at hl 1 rfl) ?_
      refine lv_iload_n C.x C.b dX12_snag_19 rfl (lv_at hl 2 rfl) ?_
      replace hf := x_b1 hf; obtain ⟨_, hk20_4, hf⟩ := hf
      replace hf := x_b1 hf; obtain ⟨x20_5, hx20_5, hf⟩ := hf
      refine x_callV (As := [.int p1, .int p2]) (a := o) (rest := []) C hW hl (qX12_maySnag l E hx20_5) (x_gk hk20_4) (by decide) (by decide) rfl gv_X12_121 ⟨rfl, hd_X12_maySnag⟩ rfl rfl (Nat.le_of_ble_eq_true rfl) dX12_snag_20 ⟨Nat.le_of_ble_eq_true rfl, Nat.le_of_ble_eq_true rfl⟩ ⟨Nat.le_of_ble_eq_true rfl, Nat.le_of_ble_eq_true rfl⟩ (fun H locs hW => ?_)
      refine lv_if_ne (tgt := 29) C.x C.b dX12_snag_23 rfl (fun c23 => ?_) (fun c23 => ?_)
      · replace hf := x_in c23 hf
        refine lv_aload_n C.x C.b dX12_snag_29 rfl (lv_at hl 0 rfl) ?_
        refine lv_iload_n C.x C.b dX12_snag_30 rfl (lv_at hl 1 rfl) ?_
        refine lv_iload_n C.x C.b dX12_snag_31 rfl (lv_at hl 2 rfl) ?_
        refine lv_iload_n C.x C.b dX12_snag_32 rfl (lv_at hl 2 rfl) ?_
        replace hf := x_b1 hf; obtain ⟨_, hk33_6, hf⟩ := hf
        replace hf := x_b1 hf; obtain ⟨M33_7, hM33_7, hf⟩ := hf
        refine x_callV (As := [.int p1, .int p2, .int p2]) (a := o) (rest := []) C hW hl (qX12_ladder l E hM33_7) (x_gk hk33_6) (by decide) (by decide) rfl gv_X12_124 ⟨rfl, hd_X12_ladder⟩ rfl rfl (Nat.le_of_ble_eq_true rfl) dX12_snag_33 ⟨Nat.le_of_ble_eq_true rfl, Nat.le_of_ble_eq_true rfl⟩ ⟨Nat.le_of_ble_eq_true rfl, Nat.le_of_ble_eq_true rfl⟩ (fun H locs hW => ?_)
        refine lv_iconst (v := 1) C.x C.b dX12_snag_36 (by decide) ?_
        rw [x_e1 hf, x_e2 hf]
        exact x_iret C hr hW dX12_snag_37
      · replace hf := x_ip c23 hf
        refine lv_bipush (v := (-4)) C.x C.b dX12_snag_26 (by decide) ?_
        rw [x_e1 hf, x_e2 hf]
        exact x_iret C hr hW dX12_snag_28
    · replace hf := x_ip c12 hf
      refine lv_iconst (v := (-1)) C.x C.b dX12_snag_15 (by decide) ?_
      rw [x_e1 hf, x_e2 hf]
      exact x_iret C hr hW dX12_snag_16

theorem dX12_turn_0 : decode cX12_turn 0 = .ok (.aload_n 0, 1) := by decide +kernel
theorem dX12_turn_1 : decode cX12_turn 1 = .ok (.iload_n 1, 1) := by decide +kernel
theorem dX12_turn_2 : decode cX12_turn 2 = .ok (.invokevirtual 99, 3) := by decide +kernel
theorem dX12_turn_5 : decode cX12_turn 5 = .ok (.ifCond .eq 15, 3) := by decide +kernel
theorem dX12_turn_8 : decode cX12_turn 8 = .ok (.iload_n 2, 1) := by decide +kernel
theorem dX12_turn_9 : decode cX12_turn 9 = .ok (.i2l, 1) := by decide +kernel
theorem dX12_turn_10 : decode cX12_turn 10 = .ok (.lconst 0, 1) := by decide +kernel
theorem dX12_turn_11 : decode cX12_turn 11 = .ok (.ldc2_w 91, 3) := by decide +kernel
theorem dX12_turn_14 : decode cX12_turn 14 = .ok (.invokestatic 61, 3) := by decide +kernel
theorem dX12_turn_17 : decode cX12_turn 17 = .ok (.ifCond .ne 5, 3) := by decide +kernel
theorem dX12_turn_20 : decode cX12_turn 20 = .ok (.iconst (-1), 1) := by decide +kernel
theorem dX12_turn_21 : decode cX12_turn 21 = .ok (.ireturn, 1) := by decide +kernel
theorem dX12_turn_22 : decode cX12_turn 22 = .ok (.aload_n 0, 1) := by decide +kernel
theorem dX12_turn_23 : decode cX12_turn 23 = .ok (.iload_n 1, 1) := by decide +kernel
theorem dX12_turn_24 : decode cX12_turn 24 = .ok (.iconst 5, 1) := by decide +kernel
theorem dX12_turn_25 : decode cX12_turn 25 = .ok (.invokevirtual 67, 3) := by decide +kernel
theorem dX12_turn_28 : decode cX12_turn 28 = .ok (.istore_n 3, 1) := by decide +kernel
theorem dX12_turn_29 : decode cX12_turn 29 = .ok (.aload_n 0, 1) := by decide +kernel
theorem dX12_turn_30 : decode cX12_turn 30 = .ok (.iload_n 1, 1) := by decide +kernel
theorem dX12_turn_31 : decode cX12_turn 31 = .ok (.iconst 5, 1) := by decide +kernel
theorem dX12_turn_32 : decode cX12_turn 32 = .ok (.iload_n 2, 1) := by decide +kernel
theorem dX12_turn_33 : decode cX12_turn 33 = .ok (.invokevirtual 111, 3) := by decide +kernel
theorem dX12_turn_36 : decode cX12_turn 36 = .ok (.iload_n 3, 1) := by decide +kernel
theorem dX12_turn_37 : decode cX12_turn 37 = .ok (.ireturn, 1) := by decide +kernel
def fX12_turn (M : Mm) (o : Nat) (p1 : Int32) (p2 : Int32) : Option (Int32 × Mm) :=
  B1 (gk M o 15) fun _ =>
  B1 (fX12_isOne M o p1) fun x2_2 =>
  if x2_2 = 0 then
    some ((-1), M)
  else
    B1 (fX12_in M (p2.toInt64) 0 3) fun x14_3 =>
    if x14_3 = 0 then
      some ((-1), M)
    else
      B1 (gk M o 15) fun _ =>
      B1 (fX12_its M o p1 5) fun x25_5 =>
      B1 (gk M o 15) fun _ =>
      B1 (fX12_sets M o p1 5 p2) fun M33_7 =>
      some (x25_5, M33_7)
set_option maxRecDepth 100000 in
set_option maxHeartbeats 4000000 in
theorem qX12_turn (l : Launch) (E : Ev) {M : Mm} {o : Nat} {p1 : Int32} {p2 : Int32} {rz : Int32} {Mz : Mm} (hf : fX12_turn M o p1 p2 = some (rz, Mz)) : Ct l E yX12_turn cX12_turn 4 (some .int) 2 46 0 0 [.ref (E.b + o), .int p1, .int p2] M (some (.int rz)) Mz := by
  refine ct_of (by decide +kernel) (Nat.le_of_ble_eq_true rfl) fun p e s m args below meth c C hr hin hW ls hl => ?_
  have hl : lv_has ls 4 [(0, .ref (E.b + o)), (1, .int p1), (2, .int p2)] := hl
  unfold fX12_turn at hf
  refine lv_aload_n C.x C.b dX12_turn_0 rfl (lv_at hl 0 rfl) ?_
  refine lv_iload_n C.x C.b dX12_turn_1 rfl (lv_at hl 1 rfl) ?_
  replace hf := x_b1 hf; obtain ⟨_, hk2_1, hf⟩ := hf
  replace hf := x_b1 hf; obtain ⟨x2_2, hx2_2, hf⟩ := hf
  refine x_callV (As := [.int p1]) (a := o) (rest := []) C hW hl (qX12_isOne l E hx2_2) (x_gk hk2_1) (by decide) (by decide) rfl gv_X12_99 ⟨rfl, hd_X12_isOne⟩ rfl rfl (Nat.le_of_ble_eq_true rfl) dX12_turn_2 ⟨Nat.le_of_ble_eq_true rfl, Nat.le_of_ble_eq_true rfl⟩ ⟨Nat.le_of_ble_eq_true rfl, Nat.le_of_ble_eq_true rfl⟩ (fun H locs hW => ?_)
  refine lv_if_eq (tgt := 20) C.x C.b dX12_turn_5 rfl (fun c5 => ?_) (fun c5 => ?_)
  · replace hf := x_ip c5 hf
    refine lv_iconst (v := (-1)) C.x C.b dX12_turn_20 (by decide) ?_
    rw [x_e1 hf, x_e2 hf]
    exact x_iret C hr hW dX12_turn_21
  · replace hf := x_in c5 hf
    refine lv_iload_n C.x C.b dX12_turn_8 rfl (lv_at hl 2 rfl) ?_
    refine lv_i2l (v := p2.toInt64) C.x C.b dX12_turn_9 rfl ?_
    refine lv_lconst (v := 0) C.x C.b dX12_turn_10 (by decide) ?_
    refine x_ldc2 (v := 3) C T_6_152 dX12_turn_11 ?_
    replace hf := x_b1 hf; obtain ⟨x14_3, hx14_3, hf⟩ := hf
    refine x_callS (As := [.long (p2.toInt64), .long 0, .long 3]) (rest := []) C hW hl (qX12_in l E hx14_3) gs_X12_61 hd_X12_in rfl rfl (Nat.le_of_ble_eq_true rfl) dX12_turn_14 ⟨Nat.le_of_ble_eq_true rfl, Nat.le_of_ble_eq_true rfl⟩ ⟨Nat.le_of_ble_eq_true rfl, Nat.le_of_ble_eq_true rfl⟩ (fun H locs hW => ?_)
    refine lv_if_ne (tgt := 22) C.x C.b dX12_turn_17 rfl (fun c17 => ?_) (fun c17 => ?_)
    · replace hf := x_in c17 hf
      refine lv_aload_n C.x C.b dX12_turn_22 rfl (lv_at hl 0 rfl) ?_
      refine lv_iload_n C.x C.b dX12_turn_23 rfl (lv_at hl 1 rfl) ?_
      refine lv_iconst (v := 5) C.x C.b dX12_turn_24 (by decide) ?_
      replace hf := x_b1 hf; obtain ⟨_, hk25_4, hf⟩ := hf
      replace hf := x_b1 hf; obtain ⟨x25_5, hx25_5, hf⟩ := hf
      refine x_callV (As := [.int p1, .int 5]) (a := o) (rest := []) C hW hl (qX12_its l E hx25_5) (x_gk hk25_4) (by decide) (by decide) rfl gv_X12_67 ⟨rfl, hd_X12_its⟩ rfl rfl (Nat.le_of_ble_eq_true rfl) dX12_turn_25 ⟨Nat.le_of_ble_eq_true rfl, Nat.le_of_ble_eq_true rfl⟩ ⟨Nat.le_of_ble_eq_true rfl, Nat.le_of_ble_eq_true rfl⟩ (fun H locs hW => ?_)
      refine lv_istore_n (lv' := [(3, .int _), (0, .ref (E.b + _)), (1, .int _), (2, .int _)]) C.x C.b dX12_turn_28 rfl hl (by decide) rfl (fun ls hl => ?_)
      refine lv_aload_n C.x C.b dX12_turn_29 rfl (lv_at hl 1 rfl) ?_
      refine lv_iload_n C.x C.b dX12_turn_30 rfl (lv_at hl 2 rfl) ?_
      refine lv_iconst (v := 5) C.x C.b dX12_turn_31 (by decide) ?_
      refine lv_iload_n C.x C.b dX12_turn_32 rfl (lv_at hl 3 rfl) ?_
      replace hf := x_b1 hf; obtain ⟨_, hk33_6, hf⟩ := hf
      replace hf := x_b1 hf; obtain ⟨M33_7, hM33_7, hf⟩ := hf
      refine x_callV (As := [.int p1, .int 5, .int p2]) (a := o) (rest := []) C hW hl (qX12_sets l E hM33_7) (x_gk hk33_6) (by decide) (by decide) rfl gv_X12_111 ⟨rfl, hd_X12_sets⟩ rfl rfl (Nat.le_of_ble_eq_true rfl) dX12_turn_33 ⟨Nat.le_of_ble_eq_true rfl, Nat.le_of_ble_eq_true rfl⟩ ⟨Nat.le_of_ble_eq_true rfl, Nat.le_of_ble_eq_true rfl⟩ (fun H locs hW => ?_)
      refine lv_iload_n C.x C.b dX12_turn_36 rfl (lv_at hl 0 rfl) ?_
      rw [x_e1 hf, x_e2 hf]
      exact x_iret C hr hW dX12_turn_37
    · replace hf := x_ip c17 hf
      refine lv_iconst (v := (-1)) C.x C.b dX12_turn_20 (by decide) ?_
      rw [x_e1 hf, x_e2 hf]
      exact x_iret C hr hW dX12_turn_21

theorem dX12_dabs_0 : decode cX12_dabs 0 = .ok (.iload_n 2, 1) := by decide +kernel
theorem dX12_dabs_1 : decode cX12_dabs 1 = .ok (.invokestatic 118, 3) := by decide +kernel
theorem dX12_dabs_4 : decode cX12_dabs 4 = .ok (.ifCond .ne 5, 3) := by decide +kernel
theorem dX12_dabs_7 : decode cX12_dabs 7 = .ok (.iconst (-1), 1) := by decide +kernel
theorem dX12_dabs_8 : decode cX12_dabs 8 = .ok (.ireturn, 1) := by decide +kernel
theorem dX12_dabs_9 : decode cX12_dabs 9 = .ok (.aload_n 0, 1) := by decide +kernel
theorem dX12_dabs_10 : decode cX12_dabs 10 = .ok (.iload_n 1, 1) := by decide +kernel
theorem dX12_dabs_11 : decode cX12_dabs 11 = .ok (.iload_n 2, 1) := by decide +kernel
theorem dX12_dabs_12 : decode cX12_dabs 12 = .ok (.invokevirtual 127, 3) := by decide +kernel
theorem dX12_dabs_15 : decode cX12_dabs 15 = .ok (.ifCond .ne 12, 3) := by decide +kernel
theorem dX12_dabs_18 : decode cX12_dabs 18 = .ok (.aload_n 0, 1) := by decide +kernel
theorem dX12_dabs_19 : decode cX12_dabs 19 = .ok (.iload_n 1, 1) := by decide +kernel
theorem dX12_dabs_20 : decode cX12_dabs 20 = .ok (.iload_n 2, 1) := by decide +kernel
theorem dX12_dabs_21 : decode cX12_dabs 21 = .ok (.invokevirtual 115, 3) := by decide +kernel
theorem dX12_dabs_24 : decode cX12_dabs 24 = .ok (.ifCond .lt 6, 3) := by decide +kernel
theorem dX12_dabs_27 : decode cX12_dabs 27 = .ok (.bipush (-4), 2) := by decide +kernel
theorem dX12_dabs_29 : decode cX12_dabs 29 = .ok (.ireturn, 1) := by decide +kernel
theorem dX12_dabs_30 : decode cX12_dabs 30 = .ok (.aload_n 0, 1) := by decide +kernel
theorem dX12_dabs_31 : decode cX12_dabs 31 = .ok (.iload_n 1, 1) := by decide +kernel
theorem dX12_dabs_32 : decode cX12_dabs 32 = .ok (.bipush 8, 2) := by decide +kernel
theorem dX12_dabs_34 : decode cX12_dabs 34 = .ok (.invokevirtual 67, 3) := by decide +kernel
theorem dX12_dabs_37 : decode cX12_dabs 37 = .ok (.istore_n 3, 1) := by decide +kernel
theorem dX12_dabs_38 : decode cX12_dabs 38 = .ok (.iload_n 3, 1) := by decide +kernel
theorem dX12_dabs_39 : decode cX12_dabs 39 = .ok (.iconst 2, 1) := by decide +kernel
theorem dX12_dabs_40 : decode cX12_dabs 40 = .ok (.if_icmp .ne 6, 3) := by decide +kernel
theorem dX12_dabs_43 : decode cX12_dabs 43 = .ok (.bipush (-2), 2) := by decide +kernel
theorem dX12_dabs_45 : decode cX12_dabs 45 = .ok (.ireturn, 1) := by decide +kernel
theorem dX12_dabs_46 : decode cX12_dabs 46 = .ok (.aload_n 0, 1) := by decide +kernel
theorem dX12_dabs_47 : decode cX12_dabs 47 = .ok (.iload_n 1, 1) := by decide +kernel
theorem dX12_dabs_48 : decode cX12_dabs 48 = .ok (.bipush 9, 2) := by decide +kernel
theorem dX12_dabs_50 : decode cX12_dabs 50 = .ok (.iload_n 3, 1) := by decide +kernel
theorem dX12_dabs_51 : decode cX12_dabs 51 = .ok (.iadd, 1) := by decide +kernel
theorem dX12_dabs_52 : decode cX12_dabs 52 = .ok (.iload_n 2, 1) := by decide +kernel
theorem dX12_dabs_53 : decode cX12_dabs 53 = .ok (.invokevirtual 111, 3) := by decide +kernel
theorem dX12_dabs_56 : decode cX12_dabs 56 = .ok (.aload_n 0, 1) := by decide +kernel
theorem dX12_dabs_57 : decode cX12_dabs 57 = .ok (.iload_n 1, 1) := by decide +kernel
theorem dX12_dabs_58 : decode cX12_dabs 58 = .ok (.bipush 11, 2) := by decide +kernel
theorem dX12_dabs_60 : decode cX12_dabs 60 = .ok (.iload_n 3, 1) := by decide +kernel
theorem dX12_dabs_61 : decode cX12_dabs 61 = .ok (.iadd, 1) := by decide +kernel
theorem dX12_dabs_62 : decode cX12_dabs 62 = .ok (.aload_n 0, 1) := by decide +kernel
theorem dX12_dabs_63 : decode cX12_dabs 63 = .ok (.getfield 9, 3) := by decide +kernel
theorem dX12_dabs_66 : decode cX12_dabs 66 = .ok (.bipush 6, 2) := by decide +kernel
theorem dX12_dabs_68 : decode cX12_dabs 68 = .ok (.iaload, 1) := by decide +kernel
theorem dX12_dabs_69 : decode cX12_dabs 69 = .ok (.invokevirtual 111, 3) := by decide +kernel
theorem dX12_dabs_72 : decode cX12_dabs 72 = .ok (.aload_n 0, 1) := by decide +kernel
theorem dX12_dabs_73 : decode cX12_dabs 73 = .ok (.iload_n 1, 1) := by decide +kernel
theorem dX12_dabs_74 : decode cX12_dabs 74 = .ok (.bipush 8, 2) := by decide +kernel
theorem dX12_dabs_76 : decode cX12_dabs 76 = .ok (.iload_n 3, 1) := by decide +kernel
theorem dX12_dabs_77 : decode cX12_dabs 77 = .ok (.iconst 1, 1) := by decide +kernel
theorem dX12_dabs_78 : decode cX12_dabs 78 = .ok (.iadd, 1) := by decide +kernel
theorem dX12_dabs_79 : decode cX12_dabs 79 = .ok (.invokevirtual 111, 3) := by decide +kernel
theorem dX12_dabs_82 : decode cX12_dabs 82 = .ok (.iload_n 3, 1) := by decide +kernel
theorem dX12_dabs_83 : decode cX12_dabs 83 = .ok (.iconst 1, 1) := by decide +kernel
theorem dX12_dabs_84 : decode cX12_dabs 84 = .ok (.iadd, 1) := by decide +kernel
theorem dX12_dabs_85 : decode cX12_dabs 85 = .ok (.ireturn, 1) := by decide +kernel
theorem hd_X12_isOpen : yX12_isOpen.cls ≠ "java/lang/invoke/MethodHandle" ∧ yX12_isOpen.cls ≠ "java/lang/invoke/VarHandle" ∧ (parseMethodDescriptor yX12_isOpen.desc).map (fun d => d.parameters.length) = some 2 := by decide +kernel
theorem gv_X12_127 : GoodIn gT (wsV "NylonLadderModel" 127 "NylonLadderModel" yX12_isOpen (Cond.code yX12_isOpen cX12_isOpen 3 (some .boolean) :: gT)) := good_V T_6_224 T_6_226 TS_42 T_1_10 T_6_227
def fX12_dabs (M : Mm) (o : Nat) (p1 : Int32) (p2 : Int32) : Option (Int32 × Mm) :=
  B1 (fX12_isRung M p2) fun x1_1 =>
  if x1_1 = 0 then
    some ((-1), M)
  else
    B1 (gk M o 15) fun _ =>
    B1 (fX12_isOpen M o p1 p2) fun x12_3 =>
    if x12_3 = 0 then
      B1 (gk M o 15) fun _ =>
      B1 (fX12_dabAt M o p1 p2) fun x21_5 =>
      if x21_5 < 0 then
        B1 (gk M o 15) fun _ =>
        B1 (fX12_its M o p1 8) fun x34_7 =>
        if x34_7 = 2 then
          some ((-2), M)
        else
          B1 (gk M o 15) fun _ =>
          B1 (fX12_sets M o p1 (9 + x34_7) p2) fun M53_9 =>
          B1 (rdN M53_9 o 15 0) fun a63_10 =>
          B1 (alI M53_9 a63_10 6) fun x68_11 =>
          B1 (gk M53_9 o 15) fun _ =>
          B1 (fX12_sets M53_9 o p1 (11 + x34_7) x68_11) fun M69_13 =>
          B1 (gk M69_13 o 15) fun _ =>
          B1 (fX12_sets M69_13 o p1 8 (x34_7 + 1)) fun M79_15 =>
          some ((x34_7 + 1), M79_15)
      else
        some ((-4), M)
    else
      some ((-4), M)
set_option maxRecDepth 100000 in
set_option maxHeartbeats 4000000 in
theorem qX12_dabs (l : Launch) (E : Ev) {M : Mm} {o : Nat} {p1 : Int32} {p2 : Int32} {rz : Int32} {Mz : Mm} (hf : fX12_dabs M o p1 p2 = some (rz, Mz)) : Ct l E yX12_dabs cX12_dabs 4 (some .int) 3 65 0 0 [.ref (E.b + o), .int p1, .int p2] M (some (.int rz)) Mz := by
  refine ct_of (by decide +kernel) (Nat.le_of_ble_eq_true rfl) fun p e s m args below meth c C hr hin hW ls hl => ?_
  have hl : lv_has ls 4 [(0, .ref (E.b + o)), (1, .int p1), (2, .int p2)] := hl
  unfold fX12_dabs at hf
  refine lv_iload_n C.x C.b dX12_dabs_0 rfl (lv_at hl 2 rfl) ?_
  replace hf := x_b1 hf; obtain ⟨x1_1, hx1_1, hf⟩ := hf
  refine x_callS (As := [.int p2]) (rest := []) C hW hl (qX12_isRung l E hx1_1) gs_X12_118 hd_X12_isRung rfl rfl (Nat.le_of_ble_eq_true rfl) dX12_dabs_1 ⟨Nat.le_of_ble_eq_true rfl, Nat.le_of_ble_eq_true rfl⟩ ⟨Nat.le_of_ble_eq_true rfl, Nat.le_of_ble_eq_true rfl⟩ (fun H locs hW => ?_)
  refine lv_if_ne (tgt := 9) C.x C.b dX12_dabs_4 rfl (fun c4 => ?_) (fun c4 => ?_)
  · replace hf := x_in c4 hf
    refine lv_aload_n C.x C.b dX12_dabs_9 rfl (lv_at hl 0 rfl) ?_
    refine lv_iload_n C.x C.b dX12_dabs_10 rfl (lv_at hl 1 rfl) ?_
    refine lv_iload_n C.x C.b dX12_dabs_11 rfl (lv_at hl 2 rfl) ?_
    replace hf := x_b1 hf; obtain ⟨_, hk12_2, hf⟩ := hf
    replace hf := x_b1 hf; obtain ⟨x12_3, hx12_3, hf⟩ := hf
    refine x_callV (As := [.int p1, .int p2]) (a := o) (rest := []) C hW hl (qX12_isOpen l E hx12_3) (x_gk hk12_2) (by decide) (by decide) rfl gv_X12_127 ⟨rfl, hd_X12_isOpen⟩ rfl rfl (Nat.le_of_ble_eq_true rfl) dX12_dabs_12 ⟨Nat.le_of_ble_eq_true rfl, Nat.le_of_ble_eq_true rfl⟩ ⟨Nat.le_of_ble_eq_true rfl, Nat.le_of_ble_eq_true rfl⟩ (fun H locs hW => ?_)
    refine lv_if_ne (tgt := 27) C.x C.b dX12_dabs_15 rfl (fun c15 => ?_) (fun c15 => ?_)
    · replace hf := x_in c15 hf
      refine lv_bipush (v := (-4)) C.x C.b dX12_dabs_27 (by decide) ?_
      rw [x_e1 hf, x_e2 hf]
      exact x_iret C hr hW dX12_dabs_29
    · replace hf := x_ip c15 hf
      refine lv_aload_n C.x C.b dX12_dabs_18 rfl (lv_at hl 0 rfl) ?_
      refine lv_iload_n C.x C.b dX12_dabs_19 rfl (lv_at hl 1 rfl) ?_
      refine lv_iload_n C.x C.b dX12_dabs_20 rfl (lv_at hl 2 rfl) ?_
      replace hf := x_b1 hf; obtain ⟨_, hk21_4, hf⟩ := hf
      replace hf := x_b1 hf; obtain ⟨x21_5, hx21_5, hf⟩ := hf
      refine x_callV (As := [.int p1, .int p2]) (a := o) (rest := []) C hW hl (qX12_dabAt l E hx21_5) (x_gk hk21_4) (by decide) (by decide) rfl gv_X12_115 ⟨rfl, hd_X12_dabAt⟩ rfl rfl (Nat.le_of_ble_eq_true rfl) dX12_dabs_21 ⟨Nat.le_of_ble_eq_true rfl, Nat.le_of_ble_eq_true rfl⟩ ⟨Nat.le_of_ble_eq_true rfl, Nat.le_of_ble_eq_true rfl⟩ (fun H locs hW => ?_)
      refine lv_if_lt (tgt := 30) C.x C.b dX12_dabs_24 rfl (fun c24 => ?_) (fun c24 => ?_)
      · replace hf := x_ip c24 hf
        refine lv_aload_n C.x C.b dX12_dabs_30 rfl (lv_at hl 0 rfl) ?_
        refine lv_iload_n C.x C.b dX12_dabs_31 rfl (lv_at hl 1 rfl) ?_
        refine lv_bipush (v := 8) C.x C.b dX12_dabs_32 (by decide) ?_
        replace hf := x_b1 hf; obtain ⟨_, hk34_6, hf⟩ := hf
        replace hf := x_b1 hf; obtain ⟨x34_7, hx34_7, hf⟩ := hf
        refine x_callV (As := [.int p1, .int 8]) (a := o) (rest := []) C hW hl (qX12_its l E hx34_7) (x_gk hk34_6) (by decide) (by decide) rfl gv_X12_67 ⟨rfl, hd_X12_its⟩ rfl rfl (Nat.le_of_ble_eq_true rfl) dX12_dabs_34 ⟨Nat.le_of_ble_eq_true rfl, Nat.le_of_ble_eq_true rfl⟩ ⟨Nat.le_of_ble_eq_true rfl, Nat.le_of_ble_eq_true rfl⟩ (fun H locs hW => ?_)
        refine lv_istore_n (lv' := [(3, .int _), (0, .ref (E.b + _)), (1, .int _), (2, .int _)]) C.x C.b dX12_dabs_37 rfl hl (by decide) rfl (fun ls hl => ?_)
        refine lv_iload_n C.x C.b dX12_dabs_38 rfl (lv_at hl 0 rfl) ?_
        refine lv_iconst (v := 2) C.x C.b dX12_dabs_39 (by decide) ?_
        refine lv_icmp_ne (tgt := 46) C.x C.b dX12_dabs_40 rfl (fun c40 => ?_) (fun c40 => ?_)
        · replace hf := x_in c40 hf
          refine lv_aload_n C.x C.b dX12_dabs_46 rfl (lv_at hl 1 rfl) ?_
          refine lv_iload_n C.x C.b dX12_dabs_47 rfl (lv_at hl 2 rfl) ?_
          refine lv_bipush (v := 9) C.x C.b dX12_dabs_48 (by decide) ?_
          refine lv_iload_n C.x C.b dX12_dabs_50 rfl (lv_at hl 0 rfl) ?_
          refine lv_iadd C.x C.b dX12_dabs_51 ?_
          refine lv_iload_n C.x C.b dX12_dabs_52 rfl (lv_at hl 3 rfl) ?_
          replace hf := x_b1 hf; obtain ⟨_, hk53_8, hf⟩ := hf
          replace hf := x_b1 hf; obtain ⟨M53_9, hM53_9, hf⟩ := hf
          refine x_callV (As := [.int p1, .int (9 + x34_7), .int p2]) (a := o) (rest := []) C hW hl (qX12_sets l E hM53_9) (x_gk hk53_8) (by decide) (by decide) rfl gv_X12_111 ⟨rfl, hd_X12_sets⟩ rfl rfl (Nat.le_of_ble_eq_true rfl) dX12_dabs_53 ⟨Nat.le_of_ble_eq_true rfl, Nat.le_of_ble_eq_true rfl⟩ ⟨Nat.le_of_ble_eq_true rfl, Nat.le_of_ble_eq_true rfl⟩ (fun H locs hW => ?_)
          refine lv_aload_n C.x C.b dX12_dabs_56 rfl (lv_at hl 1 rfl) ?_
          refine lv_iload_n C.x C.b dX12_dabs_57 rfl (lv_at hl 2 rfl) ?_
          refine lv_bipush (v := 11) C.x C.b dX12_dabs_58 (by decide) ?_
          refine lv_iload_n C.x C.b dX12_dabs_60 rfl (lv_at hl 0 rfl) ?_
          refine lv_iadd C.x C.b dX12_dabs_61 ?_
          refine lv_aload_n C.x C.b dX12_dabs_62 rfl (lv_at hl 1 rfl) ?_
          replace hf := x_b1 hf; obtain ⟨a63_10, ha63_10, hf⟩ := hf
          refine x_getn C hW fg_X12_9_15 ha63_10 dX12_dabs_63 ?_
          refine lv_bipush (v := 6) C.x C.b dX12_dabs_66 (by decide) ?_
          replace hf := x_b1 hf; obtain ⟨x68_11, hx68_11, hf⟩ := hf
          refine x_iald C hW hx68_11 dX12_dabs_68 ?_
          replace hf := x_b1 hf; obtain ⟨_, hk69_12, hf⟩ := hf
          replace hf := x_b1 hf; obtain ⟨M69_13, hM69_13, hf⟩ := hf
          refine x_callV (As := [.int p1, .int (11 + x34_7), .int x68_11]) (a := o) (rest := []) C hW hl (qX12_sets l E hM69_13) (x_gk hk69_12) (by decide) (by decide) rfl gv_X12_111 ⟨rfl, hd_X12_sets⟩ rfl rfl (Nat.le_of_ble_eq_true rfl) dX12_dabs_69 ⟨Nat.le_of_ble_eq_true rfl, Nat.le_of_ble_eq_true rfl⟩ ⟨Nat.le_of_ble_eq_true rfl, Nat.le_of_ble_eq_true rfl⟩ (fun H locs hW => ?_)
          refine lv_aload_n C.x C.b dX12_dabs_72 rfl (lv_at hl 1 rfl) ?_
          refine lv_iload_n C.x C.b dX12_dabs_73 rfl (lv_at hl 2 rfl) ?_
          refine lv_bipush (v := 8) C.x C.b dX12_dabs_74 (by decide) ?_
          refine lv_iload_n C.x C.b dX12_dabs_76 rfl (lv_at hl 0 rfl) ?_
          refine lv_iconst (v := 1) C.x C.b dX12_dabs_77 (by decide) ?_
          refine lv_iadd C.x C.b dX12_dabs_78 ?_
          replace hf := x_b1 hf; obtain ⟨_, hk79_14, hf⟩ := hf
          replace hf := x_b1 hf; obtain ⟨M79_15, hM79_15, hf⟩ := hf
          refine x_callV (As := [.int p1, .int 8, .int (x34_7 + 1)]) (a := o) (rest := []) C hW hl (qX12_sets l E hM79_15) (x_gk hk79_14) (by decide) (by decide) rfl gv_X12_111 ⟨rfl, hd_X12_sets⟩ rfl rfl (Nat.le_of_ble_eq_true rfl) dX12_dabs_79 ⟨Nat.le_of_ble_eq_true rfl, Nat.le_of_ble_eq_true rfl⟩ ⟨Nat.le_of_ble_eq_true rfl, Nat.le_of_ble_eq_true rfl⟩ (fun H locs hW => ?_)
          refine lv_iload_n C.x C.b dX12_dabs_82 rfl (lv_at hl 0 rfl) ?_
          refine lv_iconst (v := 1) C.x C.b dX12_dabs_83 (by decide) ?_
          refine lv_iadd C.x C.b dX12_dabs_84 ?_
          rw [x_e1 hf, x_e2 hf]
          exact x_iret C hr hW dX12_dabs_85
        · replace hf := x_ip c40 hf
          refine lv_bipush (v := (-2)) C.x C.b dX12_dabs_43 (by decide) ?_
          rw [x_e1 hf, x_e2 hf]
          exact x_iret C hr hW dX12_dabs_45
      · replace hf := x_in c24 hf
        refine lv_bipush (v := (-4)) C.x C.b dX12_dabs_27 (by decide) ?_
        rw [x_e1 hf, x_e2 hf]
        exact x_iret C hr hW dX12_dabs_29
  · replace hf := x_ip c4 hf
    refine lv_iconst (v := (-1)) C.x C.b dX12_dabs_7 (by decide) ?_
    rw [x_e1 hf, x_e2 hf]
    exact x_iret C hr hW dX12_dabs_8

theorem dX12_dab_0 : decode cX12_dab 0 = .ok (.aload_n 0, 1) := by decide +kernel
theorem dX12_dab_1 : decode cX12_dab 1 = .ok (.iload_n 1, 1) := by decide +kernel
theorem dX12_dab_2 : decode cX12_dab 2 = .ok (.invokevirtual 99, 3) := by decide +kernel
theorem dX12_dab_5 : decode cX12_dab 5 = .ok (.ifCond .eq 12, 3) := by decide +kernel
theorem dX12_dab_8 : decode cX12_dab 8 = .ok (.aload_n 0, 1) := by decide +kernel
theorem dX12_dab_9 : decode cX12_dab 9 = .ok (.iload_n 1, 1) := by decide +kernel
theorem dX12_dab_10 : decode cX12_dab 10 = .ok (.iload_n 2, 1) := by decide +kernel
theorem dX12_dab_11 : decode cX12_dab 11 = .ok (.invokevirtual 130, 3) := by decide +kernel
theorem dX12_dab_14 : decode cX12_dab 14 = .ok (.goto 4, 3) := by decide +kernel
theorem dX12_dab_17 : decode cX12_dab 17 = .ok (.iconst (-1), 1) := by decide +kernel
theorem dX12_dab_18 : decode cX12_dab 18 = .ok (.ireturn, 1) := by decide +kernel
theorem hd_X12_dabs : yX12_dabs.cls ≠ "java/lang/invoke/MethodHandle" ∧ yX12_dabs.cls ≠ "java/lang/invoke/VarHandle" ∧ (parseMethodDescriptor yX12_dabs.desc).map (fun d => d.parameters.length) = some 2 := by decide +kernel
theorem gv_X12_130 : GoodIn gT (wsV "NylonLadderModel" 130 "NylonLadderModel" yX12_dabs (Cond.code yX12_dabs cX12_dabs 4 (some .int) :: gT)) := good_V T_6_220 T_6_222 TS_41 T_1_10 T_6_223
def fX12_dab (M : Mm) (o : Nat) (p1 : Int32) (p2 : Int32) : Option (Int32 × Mm) :=
  B1 (gk M o 15) fun _ =>
  B1 (fX12_isOne M o p1) fun x2_2 =>
  if x2_2 = 0 then
    some ((-1), M)
  else
    B1 (gk M o 15) fun _ =>
    B2 (fX12_dabs M o p1 p2) fun x11_4 M11_5 =>
    some (x11_4, M11_5)
set_option maxRecDepth 100000 in
set_option maxHeartbeats 4000000 in
theorem qX12_dab (l : Launch) (E : Ev) {M : Mm} {o : Nat} {p1 : Int32} {p2 : Int32} {rz : Int32} {Mz : Mm} (hf : fX12_dab M o p1 p2 = some (rz, Mz)) : Ct l E yX12_dab cX12_dab 3 (some .int) 4 88 0 0 [.ref (E.b + o), .int p1, .int p2] M (some (.int rz)) Mz := by
  refine ct_of (by decide +kernel) (Nat.le_of_ble_eq_true rfl) fun p e s m args below meth c C hr hin hW ls hl => ?_
  have hl : lv_has ls 3 [(0, .ref (E.b + o)), (1, .int p1), (2, .int p2)] := hl
  unfold fX12_dab at hf
  refine lv_aload_n C.x C.b dX12_dab_0 rfl (lv_at hl 0 rfl) ?_
  refine lv_iload_n C.x C.b dX12_dab_1 rfl (lv_at hl 1 rfl) ?_
  replace hf := x_b1 hf; obtain ⟨_, hk2_1, hf⟩ := hf
  replace hf := x_b1 hf; obtain ⟨x2_2, hx2_2, hf⟩ := hf
  refine x_callV (As := [.int p1]) (a := o) (rest := []) C hW hl (qX12_isOne l E hx2_2) (x_gk hk2_1) (by decide) (by decide) rfl gv_X12_99 ⟨rfl, hd_X12_isOne⟩ rfl rfl (Nat.le_of_ble_eq_true rfl) dX12_dab_2 ⟨Nat.le_of_ble_eq_true rfl, Nat.le_of_ble_eq_true rfl⟩ ⟨Nat.le_of_ble_eq_true rfl, Nat.le_of_ble_eq_true rfl⟩ (fun H locs hW => ?_)
  refine lv_if_eq (tgt := 17) C.x C.b dX12_dab_5 rfl (fun c5 => ?_) (fun c5 => ?_)
  · replace hf := x_ip c5 hf
    refine lv_iconst (v := (-1)) C.x C.b dX12_dab_17 (by decide) ?_
    rw [x_e1 hf, x_e2 hf]
    exact x_iret C hr hW dX12_dab_18
  · replace hf := x_in c5 hf
    refine lv_aload_n C.x C.b dX12_dab_8 rfl (lv_at hl 0 rfl) ?_
    refine lv_iload_n C.x C.b dX12_dab_9 rfl (lv_at hl 1 rfl) ?_
    refine lv_iload_n C.x C.b dX12_dab_10 rfl (lv_at hl 2 rfl) ?_
    replace hf := x_b1 hf; obtain ⟨_, hk11_3, hf⟩ := hf
    replace hf := x_b2 hf; obtain ⟨x11_4, M11_5, hx11_4, hf⟩ := hf
    refine x_callV (As := [.int p1, .int p2]) (a := o) (rest := []) C hW hl (qX12_dabs l E hx11_4) (x_gk hk11_3) (by decide) (by decide) rfl gv_X12_130 ⟨rfl, hd_X12_dabs⟩ rfl rfl (Nat.le_of_ble_eq_true rfl) dX12_dab_11 ⟨Nat.le_of_ble_eq_true rfl, Nat.le_of_ble_eq_true rfl⟩ ⟨Nat.le_of_ble_eq_true rfl, Nat.le_of_ble_eq_true rfl⟩ (fun H locs hW => ?_)
    refine lv_goto (tgt := 18) C.x C.b dX12_dab_14 rfl ?_
    rw [x_e1 hf, x_e2 hf]
    exact x_iret C hr hW dX12_dab_18

theorem dX12_dabOf_0 : decode cX12_dabOf 0 = .ok (.aload_n 0, 1) := by decide +kernel
theorem dX12_dabOf_1 : decode cX12_dabOf 1 = .ok (.iload_n 1, 1) := by decide +kernel
theorem dX12_dabOf_2 : decode cX12_dabOf 2 = .ok (.invokevirtual 99, 3) := by decide +kernel
theorem dX12_dabOf_5 : decode cX12_dabOf 5 = .ok (.ifCond .eq 10, 3) := by decide +kernel
theorem dX12_dabOf_8 : decode cX12_dabOf 8 = .ok (.iload_n 2, 1) := by decide +kernel
theorem dX12_dabOf_9 : decode cX12_dabOf 9 = .ok (.invokestatic 118, 3) := by decide +kernel
theorem dX12_dabOf_12 : decode cX12_dabOf 12 = .ok (.ifCond .ne 5, 3) := by decide +kernel
theorem dX12_dabOf_15 : decode cX12_dabOf 15 = .ok (.iconst (-1), 1) := by decide +kernel
theorem dX12_dabOf_16 : decode cX12_dabOf 16 = .ok (.ireturn, 1) := by decide +kernel
theorem dX12_dabOf_17 : decode cX12_dabOf 17 = .ok (.aload_n 0, 1) := by decide +kernel
theorem dX12_dabOf_18 : decode cX12_dabOf 18 = .ok (.iload_n 1, 1) := by decide +kernel
theorem dX12_dabOf_19 : decode cX12_dabOf 19 = .ok (.iload_n 2, 1) := by decide +kernel
theorem dX12_dabOf_20 : decode cX12_dabOf 20 = .ok (.invokevirtual 115, 3) := by decide +kernel
theorem dX12_dabOf_23 : decode cX12_dabOf 23 = .ok (.istore_n 3, 1) := by decide +kernel
theorem dX12_dabOf_24 : decode cX12_dabOf 24 = .ok (.iload_n 3, 1) := by decide +kernel
theorem dX12_dabOf_25 : decode cX12_dabOf 25 = .ok (.ifCond .ge 8, 3) := by decide +kernel
theorem dX12_dabOf_28 : decode cX12_dabOf 28 = .ok (.bipush (-3), 2) := by decide +kernel
theorem dX12_dabOf_30 : decode cX12_dabOf 30 = .ok (.goto 12, 3) := by decide +kernel
theorem dX12_dabOf_33 : decode cX12_dabOf 33 = .ok (.aload_n 0, 1) := by decide +kernel
theorem dX12_dabOf_34 : decode cX12_dabOf 34 = .ok (.iload_n 1, 1) := by decide +kernel
theorem dX12_dabOf_35 : decode cX12_dabOf 35 = .ok (.bipush 11, 2) := by decide +kernel
theorem dX12_dabOf_37 : decode cX12_dabOf 37 = .ok (.iload_n 3, 1) := by decide +kernel
theorem dX12_dabOf_38 : decode cX12_dabOf 38 = .ok (.iadd, 1) := by decide +kernel
theorem dX12_dabOf_39 : decode cX12_dabOf 39 = .ok (.invokevirtual 67, 3) := by decide +kernel
theorem dX12_dabOf_42 : decode cX12_dabOf 42 = .ok (.ireturn, 1) := by decide +kernel
def fX12_dabOf (M : Mm) (o : Nat) (p1 : Int32) (p2 : Int32) : Option Int32 :=
  B1 (gk M o 15) fun _ =>
  B1 (fX12_isOne M o p1) fun x2_2 =>
  if x2_2 = 0 then
    some (-1)
  else
    B1 (fX12_isRung M p2) fun x9_3 =>
    if x9_3 = 0 then
      some (-1)
    else
      B1 (gk M o 15) fun _ =>
      B1 (fX12_dabAt M o p1 p2) fun x20_5 =>
      if 0 ≤ x20_5 then
        B1 (gk M o 15) fun _ =>
        B1 (fX12_its M o p1 (11 + x20_5)) fun x39_7 =>
        some x39_7
      else
        some (-3)
set_option maxRecDepth 100000 in
set_option maxHeartbeats 4000000 in
theorem qX12_dabOf (l : Launch) (E : Ev) {M : Mm} {o : Nat} {p1 : Int32} {p2 : Int32} {rz : Int32} (hf : fX12_dabOf M o p1 p2 = some rz) : Ct l E yX12_dabOf cX12_dabOf 4 (some .int) 2 46 0 0 [.ref (E.b + o), .int p1, .int p2] M (some (.int rz)) M := by
  refine ct_of (by decide +kernel) (Nat.le_of_ble_eq_true rfl) fun p e s m args below meth c C hr hin hW ls hl => ?_
  have hl : lv_has ls 4 [(0, .ref (E.b + o)), (1, .int p1), (2, .int p2)] := hl
  unfold fX12_dabOf at hf
  refine lv_aload_n C.x C.b dX12_dabOf_0 rfl (lv_at hl 0 rfl) ?_
  refine lv_iload_n C.x C.b dX12_dabOf_1 rfl (lv_at hl 1 rfl) ?_
  replace hf := x_b1 hf; obtain ⟨_, hk2_1, hf⟩ := hf
  replace hf := x_b1 hf; obtain ⟨x2_2, hx2_2, hf⟩ := hf
  refine x_callV (As := [.int p1]) (a := o) (rest := []) C hW hl (qX12_isOne l E hx2_2) (x_gk hk2_1) (by decide) (by decide) rfl gv_X12_99 ⟨rfl, hd_X12_isOne⟩ rfl rfl (Nat.le_of_ble_eq_true rfl) dX12_dabOf_2 ⟨Nat.le_of_ble_eq_true rfl, Nat.le_of_ble_eq_true rfl⟩ ⟨Nat.le_of_ble_eq_true rfl, Nat.le_of_ble_eq_true rfl⟩ (fun H locs hW => ?_)
  refine lv_if_eq (tgt := 15) C.x C.b dX12_dabOf_5 rfl (fun c5 => ?_) (fun c5 => ?_)
  · replace hf := x_ip c5 hf
    refine lv_iconst (v := (-1)) C.x C.b dX12_dabOf_15 (by decide) ?_
    rw [x_e0 hf]
    exact x_iret C hr hW dX12_dabOf_16
  · replace hf := x_in c5 hf
    refine lv_iload_n C.x C.b dX12_dabOf_8 rfl (lv_at hl 2 rfl) ?_
    replace hf := x_b1 hf; obtain ⟨x9_3, hx9_3, hf⟩ := hf
    refine x_callS (As := [.int p2]) (rest := []) C hW hl (qX12_isRung l E hx9_3) gs_X12_118 hd_X12_isRung rfl rfl (Nat.le_of_ble_eq_true rfl) dX12_dabOf_9 ⟨Nat.le_of_ble_eq_true rfl, Nat.le_of_ble_eq_true rfl⟩ ⟨Nat.le_of_ble_eq_true rfl, Nat.le_of_ble_eq_true rfl⟩ (fun H locs hW => ?_)
    refine lv_if_ne (tgt := 17) C.x C.b dX12_dabOf_12 rfl (fun c12 => ?_) (fun c12 => ?_)
    · replace hf := x_in c12 hf
      refine lv_aload_n C.x C.b dX12_dabOf_17 rfl (lv_at hl 0 rfl) ?_
      refine lv_iload_n C.x C.b dX12_dabOf_18 rfl (lv_at hl 1 rfl) ?_
      refine lv_iload_n C.x C.b dX12_dabOf_19 rfl (lv_at hl 2 rfl) ?_
      replace hf := x_b1 hf; obtain ⟨_, hk20_4, hf⟩ := hf
      replace hf := x_b1 hf; obtain ⟨x20_5, hx20_5, hf⟩ := hf
      refine x_callV (As := [.int p1, .int p2]) (a := o) (rest := []) C hW hl (qX12_dabAt l E hx20_5) (x_gk hk20_4) (by decide) (by decide) rfl gv_X12_115 ⟨rfl, hd_X12_dabAt⟩ rfl rfl (Nat.le_of_ble_eq_true rfl) dX12_dabOf_20 ⟨Nat.le_of_ble_eq_true rfl, Nat.le_of_ble_eq_true rfl⟩ ⟨Nat.le_of_ble_eq_true rfl, Nat.le_of_ble_eq_true rfl⟩ (fun H locs hW => ?_)
      refine lv_istore_n (lv' := [(3, .int _), (0, .ref (E.b + _)), (1, .int _), (2, .int _)]) C.x C.b dX12_dabOf_23 rfl hl (by decide) rfl (fun ls hl => ?_)
      refine lv_iload_n C.x C.b dX12_dabOf_24 rfl (lv_at hl 0 rfl) ?_
      refine lv_if_ge (tgt := 33) C.x C.b dX12_dabOf_25 rfl (fun c25 => ?_) (fun c25 => ?_)
      · replace hf := x_ip c25 hf
        refine lv_aload_n C.x C.b dX12_dabOf_33 rfl (lv_at hl 1 rfl) ?_
        refine lv_iload_n C.x C.b dX12_dabOf_34 rfl (lv_at hl 2 rfl) ?_
        refine lv_bipush (v := 11) C.x C.b dX12_dabOf_35 (by decide) ?_
        refine lv_iload_n C.x C.b dX12_dabOf_37 rfl (lv_at hl 0 rfl) ?_
        refine lv_iadd C.x C.b dX12_dabOf_38 ?_
        replace hf := x_b1 hf; obtain ⟨_, hk39_6, hf⟩ := hf
        replace hf := x_b1 hf; obtain ⟨x39_7, hx39_7, hf⟩ := hf
        refine x_callV (As := [.int p1, .int (11 + x20_5)]) (a := o) (rest := []) C hW hl (qX12_its l E hx39_7) (x_gk hk39_6) (by decide) (by decide) rfl gv_X12_67 ⟨rfl, hd_X12_its⟩ rfl rfl (Nat.le_of_ble_eq_true rfl) dX12_dabOf_39 ⟨Nat.le_of_ble_eq_true rfl, Nat.le_of_ble_eq_true rfl⟩ ⟨Nat.le_of_ble_eq_true rfl, Nat.le_of_ble_eq_true rfl⟩ (fun H locs hW => ?_)
        rw [x_e0 hf]
        exact x_iret C hr hW dX12_dabOf_42
      · replace hf := x_in c25 hf
        refine lv_bipush (v := (-3)) C.x C.b dX12_dabOf_28 (by decide) ?_
        refine lv_goto (tgt := 42) C.x C.b dX12_dabOf_30 rfl ?_
        rw [x_e0 hf]
        exact x_iret C hr hW dX12_dabOf_42
    · replace hf := x_ip c12 hf
      refine lv_iconst (v := (-1)) C.x C.b dX12_dabOf_15 (by decide) ?_
      rw [x_e0 hf]
      exact x_iret C hr hW dX12_dabOf_16

theorem dX12_wash_0 : decode cX12_wash 0 = .ok (.aload_n 0, 1) := by decide +kernel
theorem dX12_wash_1 : decode cX12_wash 1 = .ok (.iload_n 1, 1) := by decide +kernel
theorem dX12_wash_2 : decode cX12_wash 2 = .ok (.invokevirtual 99, 3) := by decide +kernel
theorem dX12_wash_5 : decode cX12_wash 5 = .ok (.ifCond .ne 5, 3) := by decide +kernel
theorem dX12_wash_8 : decode cX12_wash 8 = .ok (.iconst (-1), 1) := by decide +kernel
theorem dX12_wash_9 : decode cX12_wash 9 = .ok (.ireturn, 1) := by decide +kernel
theorem dX12_wash_10 : decode cX12_wash 10 = .ok (.aload_n 0, 1) := by decide +kernel
theorem dX12_wash_11 : decode cX12_wash 11 = .ok (.iload_n 1, 1) := by decide +kernel
theorem dX12_wash_12 : decode cX12_wash 12 = .ok (.invokevirtual 102, 3) := by decide +kernel
theorem dX12_wash_15 : decode cX12_wash 15 = .ok (.ifCond .lt 6, 3) := by decide +kernel
theorem dX12_wash_18 : decode cX12_wash 18 = .ok (.bipush (-4), 2) := by decide +kernel
theorem dX12_wash_20 : decode cX12_wash 20 = .ok (.ireturn, 1) := by decide +kernel
theorem dX12_wash_21 : decode cX12_wash 21 = .ok (.aload_n 0, 1) := by decide +kernel
theorem dX12_wash_22 : decode cX12_wash 22 = .ok (.iload_n 1, 1) := by decide +kernel
theorem dX12_wash_23 : decode cX12_wash 23 = .ok (.bipush 8, 2) := by decide +kernel
theorem dX12_wash_25 : decode cX12_wash 25 = .ok (.invokevirtual 67, 3) := by decide +kernel
theorem dX12_wash_28 : decode cX12_wash 28 = .ok (.istore_n 2, 1) := by decide +kernel
theorem dX12_wash_29 : decode cX12_wash 29 = .ok (.aload_n 0, 1) := by decide +kernel
theorem dX12_wash_30 : decode cX12_wash 30 = .ok (.iload_n 1, 1) := by decide +kernel
theorem dX12_wash_31 : decode cX12_wash 31 = .ok (.bipush 8, 2) := by decide +kernel
theorem dX12_wash_33 : decode cX12_wash 33 = .ok (.iconst 0, 1) := by decide +kernel
theorem dX12_wash_34 : decode cX12_wash 34 = .ok (.invokevirtual 111, 3) := by decide +kernel
theorem dX12_wash_37 : decode cX12_wash 37 = .ok (.iload_n 2, 1) := by decide +kernel
theorem dX12_wash_38 : decode cX12_wash 38 = .ok (.ireturn, 1) := by decide +kernel
def fX12_wash (M : Mm) (o : Nat) (p1 : Int32) : Option (Int32 × Mm) :=
  B1 (gk M o 15) fun _ =>
  B1 (fX12_isOne M o p1) fun x2_2 =>
  if x2_2 = 0 then
    some ((-1), M)
  else
    B1 (gk M o 15) fun _ =>
    B1 (fX12_footOf M o p1) fun x12_4 =>
    if x12_4 < 0 then
      B1 (gk M o 15) fun _ =>
      B1 (fX12_its M o p1 8) fun x25_6 =>
      B1 (gk M o 15) fun _ =>
      B1 (fX12_sets M o p1 8 0) fun M34_8 =>
      some (x25_6, M34_8)
    else
      some ((-4), M)
set_option maxRecDepth 100000 in
set_option maxHeartbeats 4000000 in
theorem qX12_wash (l : Launch) (E : Ev) {M : Mm} {o : Nat} {p1 : Int32} {rz : Int32} {Mz : Mm} (hf : fX12_wash M o p1 = some (rz, Mz)) : Ct l E yX12_wash cX12_wash 3 (some .int) 2 46 0 0 [.ref (E.b + o), .int p1] M (some (.int rz)) Mz := by
  refine ct_of (by decide +kernel) (Nat.le_of_ble_eq_true rfl) fun p e s m args below meth c C hr hin hW ls hl => ?_
  have hl : lv_has ls 3 [(0, .ref (E.b + o)), (1, .int p1)] := hl
  unfold fX12_wash at hf
  refine lv_aload_n C.x C.b dX12_wash_0 rfl (lv_at hl 0 rfl) ?_
  refine lv_iload_n C.x C.b dX12_wash_1 rfl (lv_at hl 1 rfl) ?_
  replace hf := x_b1 hf; obtain ⟨_, hk2_1, hf⟩ := hf
  replace hf := x_b1 hf; obtain ⟨x2_2, hx2_2, hf⟩ := hf
  refine x_callV (As := [.int p1]) (a := o) (rest := []) C hW hl (qX12_isOne l E hx2_2) (x_gk hk2_1) (by decide) (by decide) rfl gv_X12_99 ⟨rfl, hd_X12_isOne⟩ rfl rfl (Nat.le_of_ble_eq_true rfl) dX12_wash_2 ⟨Nat.le_of_ble_eq_true rfl, Nat.le_of_ble_eq_true rfl⟩ ⟨Nat.le_of_ble_eq_true rfl, Nat.le_of_ble_eq_true rfl⟩ (fun H locs hW => ?_)
  refine lv_if_ne (tgt := 10) C.x C.b dX12_wash_5 rfl (fun c5 => ?_) (fun c5 => ?_)
  · replace hf := x_in c5 hf
    refine lv_aload_n C.x C.b dX12_wash_10 rfl (lv_at hl 0 rfl) ?_
    refine lv_iload_n C.x C.b dX12_wash_11 rfl (lv_at hl 1 rfl) ?_
    replace hf := x_b1 hf; obtain ⟨_, hk12_3, hf⟩ := hf
    replace hf := x_b1 hf; obtain ⟨x12_4, hx12_4, hf⟩ := hf
    refine x_callV (As := [.int p1]) (a := o) (rest := []) C hW hl (qX12_footOf l E hx12_4) (x_gk hk12_3) (by decide) (by decide) rfl gv_X12_102 ⟨rfl, hd_X12_footOf⟩ rfl rfl (Nat.le_of_ble_eq_true rfl) dX12_wash_12 ⟨Nat.le_of_ble_eq_true rfl, Nat.le_of_ble_eq_true rfl⟩ ⟨Nat.le_of_ble_eq_true rfl, Nat.le_of_ble_eq_true rfl⟩ (fun H locs hW => ?_)
    refine lv_if_lt (tgt := 21) C.x C.b dX12_wash_15 rfl (fun c15 => ?_) (fun c15 => ?_)
    · replace hf := x_ip c15 hf
      refine lv_aload_n C.x C.b dX12_wash_21 rfl (lv_at hl 0 rfl) ?_
      refine lv_iload_n C.x C.b dX12_wash_22 rfl (lv_at hl 1 rfl) ?_
      refine lv_bipush (v := 8) C.x C.b dX12_wash_23 (by decide) ?_
      replace hf := x_b1 hf; obtain ⟨_, hk25_5, hf⟩ := hf
      replace hf := x_b1 hf; obtain ⟨x25_6, hx25_6, hf⟩ := hf
      refine x_callV (As := [.int p1, .int 8]) (a := o) (rest := []) C hW hl (qX12_its l E hx25_6) (x_gk hk25_5) (by decide) (by decide) rfl gv_X12_67 ⟨rfl, hd_X12_its⟩ rfl rfl (Nat.le_of_ble_eq_true rfl) dX12_wash_25 ⟨Nat.le_of_ble_eq_true rfl, Nat.le_of_ble_eq_true rfl⟩ ⟨Nat.le_of_ble_eq_true rfl, Nat.le_of_ble_eq_true rfl⟩ (fun H locs hW => ?_)
      refine lv_istore_n (lv' := [(2, .int _), (0, .ref (E.b + _)), (1, .int _)]) C.x C.b dX12_wash_28 rfl hl (by decide) rfl (fun ls hl => ?_)
      refine lv_aload_n C.x C.b dX12_wash_29 rfl (lv_at hl 1 rfl) ?_
      refine lv_iload_n C.x C.b dX12_wash_30 rfl (lv_at hl 2 rfl) ?_
      refine lv_bipush (v := 8) C.x C.b dX12_wash_31 (by decide) ?_
      refine lv_iconst (v := 0) C.x C.b dX12_wash_33 (by decide) ?_
      replace hf := x_b1 hf; obtain ⟨_, hk34_7, hf⟩ := hf
      replace hf := x_b1 hf; obtain ⟨M34_8, hM34_8, hf⟩ := hf
      refine x_callV (As := [.int p1, .int 8, .int 0]) (a := o) (rest := []) C hW hl (qX12_sets l E hM34_8) (x_gk hk34_7) (by decide) (by decide) rfl gv_X12_111 ⟨rfl, hd_X12_sets⟩ rfl rfl (Nat.le_of_ble_eq_true rfl) dX12_wash_34 ⟨Nat.le_of_ble_eq_true rfl, Nat.le_of_ble_eq_true rfl⟩ ⟨Nat.le_of_ble_eq_true rfl, Nat.le_of_ble_eq_true rfl⟩ (fun H locs hW => ?_)
      refine lv_iload_n C.x C.b dX12_wash_37 rfl (lv_at hl 0 rfl) ?_
      rw [x_e1 hf, x_e2 hf]
      exact x_iret C hr hW dX12_wash_38
    · replace hf := x_in c15 hf
      refine lv_bipush (v := (-4)) C.x C.b dX12_wash_18 (by decide) ?_
      rw [x_e1 hf, x_e2 hf]
      exact x_iret C hr hW dX12_wash_20
  · replace hf := x_ip c5 hf
    refine lv_iconst (v := (-1)) C.x C.b dX12_wash_8 (by decide) ?_
    rw [x_e1 hf, x_e2 hf]
    exact x_iret C hr hW dX12_wash_9

theorem dX12_mend_0 : decode cX12_mend 0 = .ok (.aload_n 0, 1) := by decide +kernel
theorem dX12_mend_1 : decode cX12_mend 1 = .ok (.iload_n 1, 1) := by decide +kernel
theorem dX12_mend_2 : decode cX12_mend 2 = .ok (.invokevirtual 99, 3) := by decide +kernel
theorem dX12_mend_5 : decode cX12_mend 5 = .ok (.ifCond .ne 5, 3) := by decide +kernel
theorem dX12_mend_8 : decode cX12_mend 8 = .ok (.iconst (-1), 1) := by decide +kernel
theorem dX12_mend_9 : decode cX12_mend 9 = .ok (.ireturn, 1) := by decide +kernel
theorem dX12_mend_10 : decode cX12_mend 10 = .ok (.aload_n 0, 1) := by decide +kernel
theorem dX12_mend_11 : decode cX12_mend 11 = .ok (.iload_n 1, 1) := by decide +kernel
theorem dX12_mend_12 : decode cX12_mend 12 = .ok (.invokevirtual 102, 3) := by decide +kernel
theorem dX12_mend_15 : decode cX12_mend 15 = .ok (.ifCond .lt 6, 3) := by decide +kernel
theorem dX12_mend_18 : decode cX12_mend 18 = .ok (.bipush (-4), 2) := by decide +kernel
theorem dX12_mend_20 : decode cX12_mend 20 = .ok (.ireturn, 1) := by decide +kernel
theorem dX12_mend_21 : decode cX12_mend 21 = .ok (.aload_n 0, 1) := by decide +kernel
theorem dX12_mend_22 : decode cX12_mend 22 = .ok (.iload_n 1, 1) := by decide +kernel
theorem dX12_mend_23 : decode cX12_mend 23 = .ok (.invokevirtual 71, 3) := by decide +kernel
theorem dX12_mend_26 : decode cX12_mend 26 = .ok (.ifCond .ne 6, 3) := by decide +kernel
theorem dX12_mend_29 : decode cX12_mend 29 = .ok (.bipush (-3), 2) := by decide +kernel
theorem dX12_mend_31 : decode cX12_mend 31 = .ok (.ireturn, 1) := by decide +kernel
theorem dX12_mend_32 : decode cX12_mend 32 = .ok (.aload_n 0, 1) := by decide +kernel
theorem dX12_mend_33 : decode cX12_mend 33 = .ok (.getfield 9, 3) := by decide +kernel
theorem dX12_mend_36 : decode cX12_mend 36 = .ok (.bipush 9, 2) := by decide +kernel
theorem dX12_mend_38 : decode cX12_mend 38 = .ok (.iaload, 1) := by decide +kernel
theorem dX12_mend_39 : decode cX12_mend 39 = .ok (.aload_n 0, 1) := by decide +kernel
theorem dX12_mend_40 : decode cX12_mend 40 = .ok (.iload_n 1, 1) := by decide +kernel
theorem dX12_mend_41 : decode cX12_mend 41 = .ok (.invokevirtual 108, 3) := by decide +kernel
theorem dX12_mend_44 : decode cX12_mend 44 = .ok (.imul, 1) := by decide +kernel
theorem dX12_mend_45 : decode cX12_mend 45 = .ok (.istore_n 2, 1) := by decide +kernel
theorem dX12_mend_46 : decode cX12_mend 46 = .ok (.aload_n 0, 1) := by decide +kernel
theorem dX12_mend_47 : decode cX12_mend 47 = .ok (.iload_n 1, 1) := by decide +kernel
theorem dX12_mend_48 : decode cX12_mend 48 = .ok (.iconst (-1), 1) := by decide +kernel
theorem dX12_mend_49 : decode cX12_mend 49 = .ok (.iconst (-1), 1) := by decide +kernel
theorem dX12_mend_50 : decode cX12_mend 50 = .ok (.invokevirtual 124, 3) := by decide +kernel
theorem dX12_mend_53 : decode cX12_mend 53 = .ok (.iload_n 2, 1) := by decide +kernel
theorem dX12_mend_54 : decode cX12_mend 54 = .ok (.ireturn, 1) := by decide +kernel
def fX12_mend (M : Mm) (o : Nat) (p1 : Int32) : Option (Int32 × Mm) :=
  B1 (gk M o 15) fun _ =>
  B1 (fX12_isOne M o p1) fun x2_2 =>
  if x2_2 = 0 then
    some ((-1), M)
  else
    B1 (gk M o 15) fun _ =>
    B1 (fX12_footOf M o p1) fun x12_4 =>
    if x12_4 < 0 then
      B1 (gk M o 15) fun _ =>
      B1 (fX12_hasLadder M o p1) fun x23_6 =>
      if x23_6 = 0 then
        some ((-3), M)
      else
        B1 (rdN M o 15 0) fun a33_7 =>
        B1 (alI M a33_7 9) fun x38_8 =>
        B1 (gk M o 15) fun _ =>
        B1 (fX12_openOf M o p1) fun x41_10 =>
        B1 (gk M o 15) fun _ =>
        B1 (fX12_ladder M o p1 (-1) (-1)) fun M50_12 =>
        some ((x38_8 * x41_10), M50_12)
    else
      some ((-4), M)
set_option maxRecDepth 100000 in
set_option maxHeartbeats 4000000 in
theorem qX12_mend (l : Launch) (E : Ev) {M : Mm} {o : Nat} {p1 : Int32} {rz : Int32} {Mz : Mm} (hf : fX12_mend M o p1 = some (rz, Mz)) : Ct l E yX12_mend cX12_mend 3 (some .int) 3 64 0 0 [.ref (E.b + o), .int p1] M (some (.int rz)) Mz := by
  refine ct_of (by decide +kernel) (Nat.le_of_ble_eq_true rfl) fun p e s m args below meth c C hr hin hW ls hl => ?_
  have hl : lv_has ls 3 [(0, .ref (E.b + o)), (1, .int p1)] := hl
  unfold fX12_mend at hf
  refine lv_aload_n C.x C.b dX12_mend_0 rfl (lv_at hl 0 rfl) ?_
  refine lv_iload_n C.x C.b dX12_mend_1 rfl (lv_at hl 1 rfl) ?_
  replace hf := x_b1 hf; obtain ⟨_, hk2_1, hf⟩ := hf
  replace hf := x_b1 hf; obtain ⟨x2_2, hx2_2, hf⟩ := hf
  refine x_callV (As := [.int p1]) (a := o) (rest := []) C hW hl (qX12_isOne l E hx2_2) (x_gk hk2_1) (by decide) (by decide) rfl gv_X12_99 ⟨rfl, hd_X12_isOne⟩ rfl rfl (Nat.le_of_ble_eq_true rfl) dX12_mend_2 ⟨Nat.le_of_ble_eq_true rfl, Nat.le_of_ble_eq_true rfl⟩ ⟨Nat.le_of_ble_eq_true rfl, Nat.le_of_ble_eq_true rfl⟩ (fun H locs hW => ?_)
  refine lv_if_ne (tgt := 10) C.x C.b dX12_mend_5 rfl (fun c5 => ?_) (fun c5 => ?_)
  · replace hf := x_in c5 hf
    refine lv_aload_n C.x C.b dX12_mend_10 rfl (lv_at hl 0 rfl) ?_
    refine lv_iload_n C.x C.b dX12_mend_11 rfl (lv_at hl 1 rfl) ?_
    replace hf := x_b1 hf; obtain ⟨_, hk12_3, hf⟩ := hf
    replace hf := x_b1 hf; obtain ⟨x12_4, hx12_4, hf⟩ := hf
    refine x_callV (As := [.int p1]) (a := o) (rest := []) C hW hl (qX12_footOf l E hx12_4) (x_gk hk12_3) (by decide) (by decide) rfl gv_X12_102 ⟨rfl, hd_X12_footOf⟩ rfl rfl (Nat.le_of_ble_eq_true rfl) dX12_mend_12 ⟨Nat.le_of_ble_eq_true rfl, Nat.le_of_ble_eq_true rfl⟩ ⟨Nat.le_of_ble_eq_true rfl, Nat.le_of_ble_eq_true rfl⟩ (fun H locs hW => ?_)
    refine lv_if_lt (tgt := 21) C.x C.b dX12_mend_15 rfl (fun c15 => ?_) (fun c15 => ?_)
    · replace hf := x_ip c15 hf
      refine lv_aload_n C.x C.b dX12_mend_21 rfl (lv_at hl 0 rfl) ?_
      refine lv_iload_n C.x C.b dX12_mend_22 rfl (lv_at hl 1 rfl) ?_
      replace hf := x_b1 hf; obtain ⟨_, hk23_5, hf⟩ := hf
      replace hf := x_b1 hf; obtain ⟨x23_6, hx23_6, hf⟩ := hf
      refine x_callV (As := [.int p1]) (a := o) (rest := []) C hW hl (qX12_hasLadder l E hx23_6) (x_gk hk23_5) (by decide) (by decide) rfl gv_X12_71 ⟨rfl, hd_X12_hasLadder⟩ rfl rfl (Nat.le_of_ble_eq_true rfl) dX12_mend_23 ⟨Nat.le_of_ble_eq_true rfl, Nat.le_of_ble_eq_true rfl⟩ ⟨Nat.le_of_ble_eq_true rfl, Nat.le_of_ble_eq_true rfl⟩ (fun H locs hW => ?_)
      refine lv_if_ne (tgt := 32) C.x C.b dX12_mend_26 rfl (fun c26 => ?_) (fun c26 => ?_)
      · replace hf := x_in c26 hf
        refine lv_aload_n C.x C.b dX12_mend_32 rfl (lv_at hl 0 rfl) ?_
        replace hf := x_b1 hf; obtain ⟨a33_7, ha33_7, hf⟩ := hf
        refine x_getn C hW fg_X12_9_15 ha33_7 dX12_mend_33 ?_
        refine lv_bipush (v := 9) C.x C.b dX12_mend_36 (by decide) ?_
        replace hf := x_b1 hf; obtain ⟨x38_8, hx38_8, hf⟩ := hf
        refine x_iald C hW hx38_8 dX12_mend_38 ?_
        refine lv_aload_n C.x C.b dX12_mend_39 rfl (lv_at hl 0 rfl) ?_
        refine lv_iload_n C.x C.b dX12_mend_40 rfl (lv_at hl 1 rfl) ?_
        replace hf := x_b1 hf; obtain ⟨_, hk41_9, hf⟩ := hf
        replace hf := x_b1 hf; obtain ⟨x41_10, hx41_10, hf⟩ := hf
        refine x_callV (As := [.int p1]) (a := o) (rest := [.int x38_8]) C hW hl (qX12_openOf l E hx41_10) (x_gk hk41_9) (by decide) (by decide) rfl gv_X12_108 ⟨rfl, hd_X12_openOf⟩ rfl rfl (Nat.le_of_ble_eq_true rfl) dX12_mend_41 ⟨Nat.le_of_ble_eq_true rfl, Nat.le_of_ble_eq_true rfl⟩ ⟨Nat.le_of_ble_eq_true rfl, Nat.le_of_ble_eq_true rfl⟩ (fun H locs hW => ?_)
        refine lv_imul C.x C.b dX12_mend_44 ?_
        refine lv_istore_n (lv' := [(2, .int _), (0, .ref (E.b + _)), (1, .int _)]) C.x C.b dX12_mend_45 rfl hl (by decide) rfl (fun ls hl => ?_)
        refine lv_aload_n C.x C.b dX12_mend_46 rfl (lv_at hl 1 rfl) ?_
        refine lv_iload_n C.x C.b dX12_mend_47 rfl (lv_at hl 2 rfl) ?_
        refine lv_iconst (v := (-1)) C.x C.b dX12_mend_48 (by decide) ?_
        refine lv_iconst (v := (-1)) C.x C.b dX12_mend_49 (by decide) ?_
        replace hf := x_b1 hf; obtain ⟨_, hk50_11, hf⟩ := hf
        replace hf := x_b1 hf; obtain ⟨M50_12, hM50_12, hf⟩ := hf
        refine x_callV (As := [.int p1, .int (-1), .int (-1)]) (a := o) (rest := []) C hW hl (qX12_ladder l E hM50_12) (x_gk hk50_11) (by decide) (by decide) rfl gv_X12_124 ⟨rfl, hd_X12_ladder⟩ rfl rfl (Nat.le_of_ble_eq_true rfl) dX12_mend_50 ⟨Nat.le_of_ble_eq_true rfl, Nat.le_of_ble_eq_true rfl⟩ ⟨Nat.le_of_ble_eq_true rfl, Nat.le_of_ble_eq_true rfl⟩ (fun H locs hW => ?_)
        refine lv_iload_n C.x C.b dX12_mend_53 rfl (lv_at hl 0 rfl) ?_
        rw [x_e1 hf, x_e2 hf]
        exact x_iret C hr hW dX12_mend_54
      · replace hf := x_ip c26 hf
        refine lv_bipush (v := (-3)) C.x C.b dX12_mend_29 (by decide) ?_
        rw [x_e1 hf, x_e2 hf]
        exact x_iret C hr hW dX12_mend_31
    · replace hf := x_in c15 hf
      refine lv_bipush (v := (-4)) C.x C.b dX12_mend_18 (by decide) ?_
      rw [x_e1 hf, x_e2 hf]
      exact x_iret C hr hW dX12_mend_20
  · replace hf := x_ip c5 hf
    refine lv_iconst (v := (-1)) C.x C.b dX12_mend_8 (by decide) ?_
    rw [x_e1 hf, x_e2 hf]
    exact x_iret C hr hW dX12_mend_9
