theorem dX11_prove_0 : decode cX11_prove 0 = .ok (.aload_n 0, 1) := by decide +kernel
theorem dX11_prove_1 : decode cX11_prove 1 = .ok (.getfield 10, 3) := by decide +kernel
theorem dX11_prove_4 : decode cX11_prove 4 = .ok (.iload_n 2, 1) := by decide +kernel
theorem dX11_prove_5 : decode cX11_prove 5 = .ok (.invokevirtual 194, 3) := by decide +kernel
theorem dX11_prove_8 : decode cX11_prove 8 = .ok (.astore_n 3, 1) := by decide +kernel
theorem dX11_prove_9 : decode cX11_prove 9 = .ok (.iload_n 1, 1) := by decide +kernel
theorem dX11_prove_10 : decode cX11_prove 10 = .ok (.invokestatic 188, 3) := by decide +kernel
theorem dX11_prove_13 : decode cX11_prove 13 = .ok (.ifCond .eq 7, 3) := by decide +kernel
theorem dX11_prove_16 : decode cX11_prove 16 = .ok (.aload_n 3, 1) := by decide +kernel
theorem dX11_prove_17 : decode cX11_prove 17 = .ok (.ifnonnull 5, 3) := by decide +kernel
theorem dX11_prove_20 : decode cX11_prove 20 = .ok (.iconst (-1), 1) := by decide +kernel
theorem dX11_prove_21 : decode cX11_prove 21 = .ok (.ireturn, 1) := by decide +kernel
theorem dX11_prove_22 : decode cX11_prove 22 = .ok (.aload_n 0, 1) := by decide +kernel
theorem dX11_prove_23 : decode cX11_prove 23 = .ok (.iload_n 1, 1) := by decide +kernel
theorem dX11_prove_24 : decode cX11_prove 24 = .ok (.invokevirtual 234, 3) := by decide +kernel
theorem dX11_prove_27 : decode cX11_prove 27 = .ok (.astore 4, 2) := by decide +kernel
theorem dX11_prove_29 : decode cX11_prove 29 = .ok (.aload 4, 2) := by decide +kernel
theorem dX11_prove_31 : decode cX11_prove 31 = .ok (.ifnonnull 6, 3) := by decide +kernel
theorem dX11_prove_34 : decode cX11_prove 34 = .ok (.bipush (-3), 2) := by decide +kernel
theorem dX11_prove_36 : decode cX11_prove 36 = .ok (.ireturn, 1) := by decide +kernel
theorem dX11_prove_37 : decode cX11_prove 37 = .ok (.iconst 0, 1) := by decide +kernel
theorem dX11_prove_38 : decode cX11_prove 38 = .ok (.istore 5, 2) := by decide +kernel
theorem dX11_prove_40 : decode cX11_prove 40 = .ok (.iload 5, 2) := by decide +kernel
theorem dX11_prove_42 : decode cX11_prove 42 = .ok (.aload_n 3, 1) := by decide +kernel
theorem dX11_prove_43 : decode cX11_prove 43 = .ok (.getfield 204, 3) := by decide +kernel
theorem dX11_prove_46 : decode cX11_prove 46 = .ok (.if_icmp .ge 67, 3) := by decide +kernel
theorem dX11_prove_49 : decode cX11_prove 49 = .ok (.aload 4, 2) := by decide +kernel
theorem dX11_prove_51 : decode cX11_prove 51 = .ok (.aload_n 3, 1) := by decide +kernel
theorem dX11_prove_52 : decode cX11_prove 52 = .ok (.iload 5, 2) := by decide +kernel
theorem dX11_prove_54 : decode cX11_prove 54 = .ok (.iload 5, 2) := by decide +kernel
theorem dX11_prove_56 : decode cX11_prove 56 = .ok (.iconst 1, 1) := by decide +kernel
theorem dX11_prove_57 : decode cX11_prove 57 = .ok (.iadd, 1) := by decide +kernel
theorem dX11_prove_58 : decode cX11_prove 58 = .ok (.aload_n 0, 1) := by decide +kernel
theorem dX11_prove_59 : decode cX11_prove 59 = .ok (.getfield 10, 3) := by decide +kernel
theorem dX11_prove_62 : decode cX11_prove 62 = .ok (.getfield 107, 3) := by decide +kernel
theorem dX11_prove_65 : decode cX11_prove 65 = .ok (.invokevirtual 240, 3) := by decide +kernel
theorem dX11_prove_68 : decode cX11_prove 68 = .ok (.aload_n 0, 1) := by decide +kernel
theorem dX11_prove_69 : decode cX11_prove 69 = .ok (.getfield 42, 3) := by decide +kernel
theorem dX11_prove_72 : decode cX11_prove 72 = .ok (.iload 5, 2) := by decide +kernel
theorem dX11_prove_74 : decode cX11_prove 74 = .ok (.aaload, 1) := by decide +kernel
theorem dX11_prove_75 : decode cX11_prove 75 = .ok (.iconst 0, 1) := by decide +kernel
theorem dX11_prove_76 : decode cX11_prove 76 = .ok (.iload 5, 2) := by decide +kernel
theorem dX11_prove_78 : decode cX11_prove 78 = .ok (.iastore, 1) := by decide +kernel
theorem dX11_prove_79 : decode cX11_prove 79 = .ok (.aload_n 0, 1) := by decide +kernel
theorem dX11_prove_80 : decode cX11_prove 80 = .ok (.getfield 42, 3) := by decide +kernel
theorem dX11_prove_83 : decode cX11_prove 83 = .ok (.iload 5, 2) := by decide +kernel
theorem dX11_prove_85 : decode cX11_prove 85 = .ok (.aaload, 1) := by decide +kernel
theorem dX11_prove_86 : decode cX11_prove 86 = .ok (.iconst 1, 1) := by decide +kernel
theorem dX11_prove_87 : decode cX11_prove 87 = .ok (.aload 4, 2) := by decide +kernel
theorem dX11_prove_89 : decode cX11_prove 89 = .ok (.getfield 142, 3) := by decide +kernel
theorem dX11_prove_92 : decode cX11_prove 92 = .ok (.iastore, 1) := by decide +kernel
theorem dX11_prove_93 : decode cX11_prove 93 = .ok (.aload_n 0, 1) := by decide +kernel
theorem dX11_prove_94 : decode cX11_prove 94 = .ok (.getfield 42, 3) := by decide +kernel
theorem dX11_prove_97 : decode cX11_prove 97 = .ok (.iload 5, 2) := by decide +kernel
theorem dX11_prove_99 : decode cX11_prove 99 = .ok (.aaload, 1) := by decide +kernel
theorem dX11_prove_100 : decode cX11_prove 100 = .ok (.iconst 2, 1) := by decide +kernel
theorem dX11_prove_101 : decode cX11_prove 101 = .ok (.aload 4, 2) := by decide +kernel
theorem dX11_prove_103 : decode cX11_prove 103 = .ok (.getfield 145, 3) := by decide +kernel
theorem dX11_prove_106 : decode cX11_prove 106 = .ok (.iastore, 1) := by decide +kernel
theorem dX11_prove_107 : decode cX11_prove 107 = .ok (.iinc 5 1, 3) := by decide +kernel
theorem dX11_prove_110 : decode cX11_prove 110 = .ok (.goto (-70), 3) := by decide +kernel
theorem dX11_prove_113 : decode cX11_prove 113 = .ok (.aload_n 0, 1) := by decide +kernel
theorem dX11_prove_114 : decode cX11_prove 114 = .ok (.aload_n 3, 1) := by decide +kernel
theorem dX11_prove_115 : decode cX11_prove 115 = .ok (.getfield 204, 3) := by decide +kernel
theorem dX11_prove_118 : decode cX11_prove 118 = .ok (.putfield 45, 3) := by decide +kernel
theorem dX11_prove_121 : decode cX11_prove 121 = .ok (.aload_n 0, 1) := by decide +kernel
theorem dX11_prove_122 : decode cX11_prove 122 = .ok (.getfield 45, 3) := by decide +kernel
theorem dX11_prove_125 : decode cX11_prove 125 = .ok (.ireturn, 1) := by decide +kernel
theorem fg_X11_45_14 : FdG "NylonLadder" 45 14 7 false := ⟨_, _, _, _, rfl, by decide, by decide, by decide, gxX11, by decide, T_1_237, Or.inl rfl, rfl⟩
theorem fg_X11_42_14 : FdG "NylonLadder" 42 14 6 true := ⟨_, _, _, _, rfl, by decide, by decide, by decide, gxX11, by decide, T_1_236, Or.inl rfl, rfl⟩
def fX11_prove_L40 (o : Nat) (v3 : Nat) (v4 : Nat) : Nat → Int32 → Mm → Option (Int32 × Mm)
  | 0, _, _ => none
  | n + 1, v5, M =>
    B1 (rdI M v3 13 0) fun x43_10 =>
    if x43_10 ≤ v5 then
      B1 (rdI M v3 13 0) fun x115_11 =>
      B1 (wrI M o 14 7 x115_11) fun M118_12 =>
      B1 (rdI M118_12 o 14 7) fun x122_13 =>
      some (x122_13, M118_12)
    else
      B1 (rdN M o 14 0) fun a59_14 =>
      B1 (rdN M a59_14 3 0) fun a62_15 =>
      B1 (gk M v4 10) fun _ =>
      B1 (fX7_passWay M v4 v3 v5 (v5 + 1) a62_15) fun M65_17 =>
      B1 (rdN M65_17 o 14 6) fun a69_18 =>
      B1 (alN M65_17 a69_18 26 v5) fun a74_19 =>
      B1 (asI M65_17 a74_19 0 v5) fun M78_20 =>
      B1 (rdN M78_20 o 14 6) fun a80_21 =>
      B1 (alN M78_20 a80_21 26 v5) fun a85_22 =>
      B1 (rdI M78_20 v4 10 6) fun x89_23 =>
      B1 (asI M78_20 a85_22 1 x89_23) fun M92_24 =>
      B1 (rdN M92_24 o 14 6) fun a94_25 =>
      B1 (alN M92_24 a94_25 26 v5) fun a99_26 =>
      B1 (rdI M92_24 v4 10 7) fun x103_27 =>
      B1 (asI M92_24 a99_26 2 x103_27) fun M106_28 =>
      fX11_prove_L40 o v3 v4 n (v5 + 1) M106_28
def fX11_prove (M : Mm) (o : Nat) (p1 : Int32) (p2 : Int32) : Option (Int32 × Mm) :=
  B1 (rdN M o 14 0) fun a1_1 =>
  B1 (gk M a1_1 3) fun _ =>
  B1 (fX0_wayAt M a1_1 p2) fun x5_3 =>
  B1 (fX11_isFoot M p1) fun x10_4 =>
  if x10_4 = 0 then
    some ((-1), M)
  else
    NL x5_3 (
      some ((-1), M)) (fun a17_5 =>
      B1 (gk M o 14) fun _ =>
      B2 (fX11_beginTrial M o p1) fun x24_7 M24_8 =>
      NL x24_7 (
        some ((-3), M24_8)) (fun a31_9 =>
        fX11_prove_L40 o a17_5 a31_9 FL 0 M24_8))
set_option maxRecDepth 100000 in
set_option maxHeartbeats 4000000 in
theorem kX11_prove_L40 {l : Launch} {E : Ev} {p : Program} {e : Env} {s : State} {m : MethodId} {args : Array Value} {below : List Frame} {meth : Method} {c : Code} (C : Cx E p s m args meth c cX11_prove yX11_prove.cls 6) (hr : meth.sig.returnType = (some .int)) (hin : yX11_prove.name = "<init>" → meth.name = "<init>")  {o : Nat} {v3 : Nat} {v4 : Nat} {rz : Int32} {Mz : Mm} : ∀ (n : Nat) (v5 : Int32) (M : Mm), fX11_prove_L40 o v3 v4 n v5 M = some (rz, Mz) → ∀ (H : Heap) (locs : List Loc) (ls : Array Slot), Wx E s H locs M → lv_has ls 6 [(0, .ref (E.b + o)), (3, .ref (E.b + v3)), (4, .ref (E.b + v4)), (5, .int v5)] → W p l e (rM 5 113 0 0) s m args below meth c H locs 0 0 (MQ below (Qp E (some (.int rz)) Mz) args s 0 0 E.A) (F0 m 40 ls []) := by
  intro n
  induction n with
  | zero =>
    intro v5 M hf
    unfold fX11_prove_L40 at hf
    cases hf
  | succ n ih =>
    intro v5 M hf H locs ls hW hl
    unfold fX11_prove_L40 at hf
    refine lv_iload C.x C.b dX11_prove_40 (lv_at hl 3 rfl) ?_
    refine lv_aload_n C.x C.b dX11_prove_42 rfl (lv_at hl 1 rfl) ?_
    replace hf := x_b1 hf; obtain ⟨x43_10, hx43_10, hf⟩ := hf
    refine x_geti C hW fg_X11_204_13 hx43_10 dX11_prove_43 ?_
    refine lv_icmp_ge (tgt := 113) C.x C.b dX11_prove_46 rfl (fun c46 => ?_) (fun c46 => ?_)
    · replace hf := x_ip c46 hf
      refine lv_aload_n C.x C.b dX11_prove_113 rfl (lv_at hl 0 rfl) ?_
      refine lv_aload_n C.x C.b dX11_prove_114 rfl (lv_at hl 1 rfl) ?_
      replace hf := x_b1 hf; obtain ⟨x115_11, hx115_11, hf⟩ := hf
      refine x_geti C hW fg_X11_204_13 hx115_11 dX11_prove_115 ?_
      replace hf := x_b1 hf; obtain ⟨M118_12, hM118_12, hf⟩ := hf
      refine x_puti C hW fp_X11_45_14 hM118_12 (fun h => by cases h) dX11_prove_118 (fun H locs hW => ?_)
      refine lv_aload_n C.x C.b dX11_prove_121 rfl (lv_at hl 0 rfl) ?_
      replace hf := x_b1 hf; obtain ⟨x122_13, hx122_13, hf⟩ := hf
      refine x_geti C hW fg_X11_45_14 hx122_13 dX11_prove_122 ?_
      rw [x_e1 hf, x_e2 hf]
      exact x_iret C hr hW dX11_prove_125
    · replace hf := x_in c46 hf
      refine lv_aload C.x C.b dX11_prove_49 (lv_at hl 2 rfl) ?_
      refine lv_aload_n C.x C.b dX11_prove_51 rfl (lv_at hl 1 rfl) ?_
      refine lv_iload C.x C.b dX11_prove_52 (lv_at hl 3 rfl) ?_
      refine lv_iload C.x C.b dX11_prove_54 (lv_at hl 3 rfl) ?_
      refine lv_iconst (v := 1) C.x C.b dX11_prove_56 (by decide) ?_
      refine lv_iadd C.x C.b dX11_prove_57 ?_
      refine lv_aload_n C.x C.b dX11_prove_58 rfl (lv_at hl 0 rfl) ?_
      replace hf := x_b1 hf; obtain ⟨a59_14, ha59_14, hf⟩ := hf
      refine x_getn C hW fg_X11_10_14 ha59_14 dX11_prove_59 ?_
      replace hf := x_b1 hf; obtain ⟨a62_15, ha62_15, hf⟩ := hf
      refine x_getn C hW fg_X11_107_3 ha62_15 dX11_prove_62 ?_
      replace hf := x_b1 hf; obtain ⟨_, hk65_16, hf⟩ := hf
      replace hf := x_b1 hf; obtain ⟨M65_17, hM65_17, hf⟩ := hf
      refine x_callV (As := [.ref (E.b + v3), .int v5, .int (v5 + 1), .ref (E.b + a62_15)]) (a := v4) (rest := []) C hW hl (qX7_passWay l E hM65_17) (x_gk hk65_16) (by decide) (by decide) rfl gv_X11_240 ⟨rfl, hd_X7_passWay⟩ rfl rfl (Nat.le_of_ble_eq_true rfl) dX11_prove_65 ⟨Nat.le_of_ble_eq_true rfl, Nat.le_of_ble_eq_true rfl⟩ ⟨Nat.le_of_ble_eq_true rfl, Nat.le_of_ble_eq_true rfl⟩ (fun H locs hW => ?_)
      refine lv_aload_n C.x C.b dX11_prove_68 rfl (lv_at hl 0 rfl) ?_
      replace hf := x_b1 hf; obtain ⟨a69_18, ha69_18, hf⟩ := hf
      refine x_getn C hW fg_X11_42_14 ha69_18 dX11_prove_69 ?_
      refine lv_iload C.x C.b dX11_prove_72 (lv_at hl 3 rfl) ?_
      replace hf := x_b1 hf; obtain ⟨a74_19, ha74_19, hf⟩ := hf
      refine x_aldn C hW (kd := 26) (by decide) (by decide) ha74_19 dX11_prove_74 ?_
      refine lv_iconst (v := 0) C.x C.b dX11_prove_75 (by decide) ?_
      refine lv_iload C.x C.b dX11_prove_76 (lv_at hl 3 rfl) ?_
      replace hf := x_b1 hf; obtain ⟨M78_20, hM78_20, hf⟩ := hf
      refine x_iast C hW hM78_20 dX11_prove_78 (fun H locs hW => ?_)
      refine lv_aload_n C.x C.b dX11_prove_79 rfl (lv_at hl 0 rfl) ?_
      replace hf := x_b1 hf; obtain ⟨a80_21, ha80_21, hf⟩ := hf
      refine x_getn C hW fg_X11_42_14 ha80_21 dX11_prove_80 ?_
      refine lv_iload C.x C.b dX11_prove_83 (lv_at hl 3 rfl) ?_
      replace hf := x_b1 hf; obtain ⟨a85_22, ha85_22, hf⟩ := hf
      refine x_aldn C hW (kd := 26) (by decide) (by decide) ha85_22 dX11_prove_85 ?_
      refine lv_iconst (v := 1) C.x C.b dX11_prove_86 (by decide) ?_
      refine lv_aload C.x C.b dX11_prove_87 (lv_at hl 2 rfl) ?_
      replace hf := x_b1 hf; obtain ⟨x89_23, hx89_23, hf⟩ := hf
      refine x_geti C hW fg_X11_142_10 hx89_23 dX11_prove_89 ?_
      replace hf := x_b1 hf; obtain ⟨M92_24, hM92_24, hf⟩ := hf
      refine x_iast C hW hM92_24 dX11_prove_92 (fun H locs hW => ?_)
      refine lv_aload_n C.x C.b dX11_prove_93 rfl (lv_at hl 0 rfl) ?_
      replace hf := x_b1 hf; obtain ⟨a94_25, ha94_25, hf⟩ := hf
      refine x_getn C hW fg_X11_42_14 ha94_25 dX11_prove_94 ?_
      refine lv_iload C.x C.b dX11_prove_97 (lv_at hl 3 rfl) ?_
      replace hf := x_b1 hf; obtain ⟨a99_26, ha99_26, hf⟩ := hf
      refine x_aldn C hW (kd := 26) (by decide) (by decide) ha99_26 dX11_prove_99 ?_
      refine lv_iconst (v := 2) C.x C.b dX11_prove_100 (by decide) ?_
      refine lv_aload C.x C.b dX11_prove_101 (lv_at hl 2 rfl) ?_
      replace hf := x_b1 hf; obtain ⟨x103_27, hx103_27, hf⟩ := hf
      refine x_geti C hW fg_X11_145_10 hx103_27 dX11_prove_103 ?_
      replace hf := x_b1 hf; obtain ⟨M106_28, hM106_28, hf⟩ := hf
      refine x_iast C hW hM106_28 dX11_prove_106 (fun H locs hW => ?_)
      refine lv_iinc (v := (v5 + 1)) (lv' := [(5, .int (v5 + 1)), (0, .ref (E.b + _)), (3, .ref (E.b + _)), (4, .ref (E.b + _))]) C.x C.b dX11_prove_107 hl (k := 3) rfl (by first | rfl | decide) (by decide) rfl (fun ls hl => ?_)
      refine lv_goto (tgt := 40) C.x C.b dX11_prove_110 rfl ?_
      exact ih (v5 + 1) M106_28 hf _ _ _ hW (lv_sub hl [1, 2, 3, 0] rfl)
set_option maxRecDepth 100000 in
set_option maxHeartbeats 4000000 in
theorem qX11_prove (l : Launch) (E : Ev) {M : Mm} {o : Nat} {p1 : Int32} {p2 : Int32} {rz : Int32} {Mz : Mm} (hf : fX11_prove M o p1 p2 = some (rz, Mz)) : Ct l E yX11_prove cX11_prove 6 (some .int) 5 113 0 0 [.ref (E.b + o), .int p1, .int p2] M (some (.int rz)) Mz := by
  refine ct_of (by decide +kernel) (Nat.le_of_ble_eq_true rfl) fun p e s m args below meth c C hr hin hW ls hl => ?_
  have hl : lv_has ls 6 [(0, .ref (E.b + o)), (1, .int p1), (2, .int p2)] := hl
  unfold fX11_prove at hf
  refine lv_aload_n C.x C.b dX11_prove_0 rfl (lv_at hl 0 rfl) ?_
  replace hf := x_b1 hf; obtain ⟨a1_1, ha1_1, hf⟩ := hf
  refine x_getn C hW fg_X11_10_14 ha1_1 dX11_prove_1 ?_
  refine lv_iload_n C.x C.b dX11_prove_4 rfl (lv_at hl 2 rfl) ?_
  replace hf := x_b1 hf; obtain ⟨_, hk5_2, hf⟩ := hf
  replace hf := x_b1 hf; obtain ⟨x5_3, hx5_3, hf⟩ := hf
  refine x_callV (As := [.int p2]) (a := a1_1) (rest := []) C hW hl (qX0_wayAt l E hx5_3) (x_gk hk5_2) (by decide) (by decide) rfl gv_X11_194 ⟨rfl, hd_X0_wayAt⟩ rfl rfl (Nat.le_of_ble_eq_true rfl) dX11_prove_5 ⟨Nat.le_of_ble_eq_true rfl, Nat.le_of_ble_eq_true rfl⟩ ⟨Nat.le_of_ble_eq_true rfl, Nat.le_of_ble_eq_true rfl⟩ (fun H locs hW => ?_)
  refine x_astore_n (lv' := [(3, rv E.b _), (0, .ref (E.b + _)), (1, .int _), (2, .int _)]) C dX11_prove_8 rfl hl (by decide) rfl (fun ls hl => ?_)
  refine lv_iload_n C.x C.b dX11_prove_9 rfl (lv_at hl 2 rfl) ?_
  replace hf := x_b1 hf; obtain ⟨x10_4, hx10_4, hf⟩ := hf
  refine x_callS (As := [.int p1]) (rest := []) C hW hl (qX11_isFoot l E hx10_4) gs_X11_188 hd_X11_isFoot rfl rfl (Nat.le_of_ble_eq_true rfl) dX11_prove_10 ⟨Nat.le_of_ble_eq_true rfl, Nat.le_of_ble_eq_true rfl⟩ ⟨Nat.le_of_ble_eq_true rfl, Nat.le_of_ble_eq_true rfl⟩ (fun H locs hW => ?_)
  refine lv_if_eq (tgt := 20) C.x C.b dX11_prove_13 rfl (fun c13 => ?_) (fun c13 => ?_)
  · replace hf := x_ip c13 hf
    refine lv_iconst (v := (-1)) C.x C.b dX11_prove_20 (by decide) ?_
    rw [x_e1 hf, x_e2 hf]
    exact x_iret C hr hW dX11_prove_21
  · replace hf := x_in c13 hf
    refine x_aload_n C dX11_prove_16 rfl (lv_at hl 0 rfl) ?_
    replace hf := x_nl hf; rcases hf with ⟨rfl, hf⟩ | ⟨a17_5, rfl, hf⟩
    · refine lv_ifnonnullN C.x C.b dX11_prove_17 ?_
      refine lv_iconst (v := (-1)) C.x C.b dX11_prove_20 (by decide) ?_
      rw [x_e1 hf, x_e2 hf]
      exact x_iret C hr hW dX11_prove_21
    · refine lv_ifnonnull (tgt := 22) C.x C.b dX11_prove_17 rfl ?_
      refine lv_aload_n C.x C.b dX11_prove_22 rfl (lv_at hl 1 rfl) ?_
      refine lv_iload_n C.x C.b dX11_prove_23 rfl (lv_at hl 2 rfl) ?_
      replace hf := x_b1 hf; obtain ⟨_, hk24_6, hf⟩ := hf
      replace hf := x_b2 hf; obtain ⟨x24_7, M24_8, hx24_7, hf⟩ := hf
      refine x_callV (As := [.int p1]) (a := o) (rest := []) C hW hl (qX11_beginTrial l E hx24_7) (x_gk hk24_6) (by decide) (by decide) rfl gv_X11_234 ⟨rfl, hd_X11_beginTrial⟩ rfl rfl (Nat.le_of_ble_eq_true rfl) dX11_prove_24 ⟨Nat.le_of_ble_eq_true rfl, Nat.le_of_ble_eq_true rfl⟩ ⟨Nat.le_of_ble_eq_true rfl, Nat.le_of_ble_eq_true rfl⟩ (fun H locs hW => ?_)
      refine x_astore (lv' := [(4, rv E.b _), (3, .ref (E.b + _)), (0, .ref (E.b + _)), (1, .int _), (2, .int _)]) C dX11_prove_27 hl (by decide) rfl (fun ls hl => ?_)
      refine x_aload C dX11_prove_29 (lv_at hl 0 rfl) ?_
      replace hf := x_nl hf; rcases hf with ⟨rfl, hf⟩ | ⟨a31_9, rfl, hf⟩
      · refine lv_ifnonnullN C.x C.b dX11_prove_31 ?_
        refine lv_bipush (v := (-3)) C.x C.b dX11_prove_34 (by decide) ?_
        rw [x_e1 hf, x_e2 hf]
        exact x_iret C hr hW dX11_prove_36
      · refine lv_ifnonnull (tgt := 37) C.x C.b dX11_prove_31 rfl ?_
        refine lv_iconst (v := 0) C.x C.b dX11_prove_37 (by decide) ?_
        refine lv_istore (lv' := [(5, .int _), (4, .ref (E.b + _)), (3, .ref (E.b + _)), (0, .ref (E.b + _)), (1, .int _), (2, .int _)]) C.x C.b dX11_prove_38 hl (by decide) rfl (fun ls hl => ?_)
        exact kX11_prove_L40 C hr hin FL 0 M24_8 hf _ _ _ hW (lv_sub hl [3, 2, 1, 0] rfl)

theorem dX11_isInRows_0 : decode cX11_isInRows 0 = .ok (.iload_n 1, 1) := by decide +kernel
theorem dX11_isInRows_1 : decode cX11_isInRows 1 = .ok (.iconst 0, 1) := by decide +kernel
theorem dX11_isInRows_2 : decode cX11_isInRows 2 = .ok (.aload_n 0, 1) := by decide +kernel
theorem dX11_isInRows_3 : decode cX11_isInRows 3 = .ok (.getfield 45, 3) := by decide +kernel
theorem dX11_isInRows_6 : decode cX11_isInRows 6 = .ok (.iconst 1, 1) := by decide +kernel
theorem dX11_isInRows_7 : decode cX11_isInRows 7 = .ok (.isub, 1) := by decide +kernel
theorem dX11_isInRows_8 : decode cX11_isInRows 8 = .ok (.invokestatic 69, 3) := by decide +kernel
theorem dX11_isInRows_11 : decode cX11_isInRows 11 = .ok (.ifCond .eq 16, 3) := by decide +kernel
theorem dX11_isInRows_14 : decode cX11_isInRows 14 = .ok (.iload_n 2, 1) := by decide +kernel
theorem dX11_isInRows_15 : decode cX11_isInRows 15 = .ok (.iconst 0, 1) := by decide +kernel
theorem dX11_isInRows_16 : decode cX11_isInRows 16 = .ok (.iconst 2, 1) := by decide +kernel
theorem dX11_isInRows_17 : decode cX11_isInRows 17 = .ok (.invokestatic 69, 3) := by decide +kernel
theorem dX11_isInRows_20 : decode cX11_isInRows 20 = .ok (.ifCond .eq 7, 3) := by decide +kernel
theorem dX11_isInRows_23 : decode cX11_isInRows 23 = .ok (.iconst 1, 1) := by decide +kernel
theorem dX11_isInRows_24 : decode cX11_isInRows 24 = .ok (.goto 4, 3) := by decide +kernel
theorem dX11_isInRows_27 : decode cX11_isInRows 27 = .ok (.iconst 0, 1) := by decide +kernel
theorem dX11_isInRows_28 : decode cX11_isInRows 28 = .ok (.ireturn, 1) := by decide +kernel
def fX11_isInRows (M : Mm) (o : Nat) (p1 : Int32) (p2 : Int32) : Option Int32 :=
  B1 (rdI M o 14 7) fun x3_1 =>
  B1 (fX11_isWithin M p1 0 (x3_1 - 1)) fun x8_2 =>
  if x8_2 = 0 then
    some 0
  else
    B1 (fX11_isWithin M p2 0 2) fun x17_3 =>
    if x17_3 = 0 then
      some 0
    else
      some 1
set_option maxRecDepth 100000 in
set_option maxHeartbeats 4000000 in
theorem qX11_isInRows (l : Launch) (E : Ev) {M : Mm} {o : Nat} {p1 : Int32} {p2 : Int32} {rz : Int32} (hf : fX11_isInRows M o p1 p2 = some rz) : Ct l E yX11_isInRows cX11_isInRows 3 (some .boolean) 1 22 0 0 [.ref (E.b + o), .int p1, .int p2] M (some (.int rz)) M := by
  refine ct_of (by decide +kernel) (Nat.le_of_ble_eq_true rfl) fun p e s m args below meth c C hr hin hW ls hl => ?_
  have hl : lv_has ls 3 [(0, .ref (E.b + o)), (1, .int p1), (2, .int p2)] := hl
  unfold fX11_isInRows at hf
  refine lv_iload_n C.x C.b dX11_isInRows_0 rfl (lv_at hl 1 rfl) ?_
  refine lv_iconst (v := 0) C.x C.b dX11_isInRows_1 (by decide) ?_
  refine lv_aload_n C.x C.b dX11_isInRows_2 rfl (lv_at hl 0 rfl) ?_
  replace hf := x_b1 hf; obtain ⟨x3_1, hx3_1, hf⟩ := hf
  refine x_geti C hW fg_X11_45_14 hx3_1 dX11_isInRows_3 ?_
  refine lv_iconst (v := 1) C.x C.b dX11_isInRows_6 (by decide) ?_
  refine lv_isub C.x C.b dX11_isInRows_7 ?_
  replace hf := x_b1 hf; obtain ⟨x8_2, hx8_2, hf⟩ := hf
  refine x_callS (As := [.int p1, .int 0, .int (x3_1 - 1)]) (rest := []) C hW hl (qX11_isWithin l E hx8_2) gs_X11_69 hd_X11_isWithin rfl rfl (Nat.le_of_ble_eq_true rfl) dX11_isInRows_8 ⟨Nat.le_of_ble_eq_true rfl, Nat.le_of_ble_eq_true rfl⟩ ⟨Nat.le_of_ble_eq_true rfl, Nat.le_of_ble_eq_true rfl⟩ (fun H locs hW => ?_)
  refine lv_if_eq (tgt := 27) C.x C.b dX11_isInRows_11 rfl (fun c11 => ?_) (fun c11 => ?_)
  · replace hf := x_ip c11 hf
    refine lv_iconst (v := 0) C.x C.b dX11_isInRows_27 (by decide) ?_
    rw [x_e0 hf]
    exact x_zret C hr hW (v := 0) (w := 0) rfl dX11_isInRows_28
  · replace hf := x_in c11 hf
    refine lv_iload_n C.x C.b dX11_isInRows_14 rfl (lv_at hl 2 rfl) ?_
    refine lv_iconst (v := 0) C.x C.b dX11_isInRows_15 (by decide) ?_
    refine lv_iconst (v := 2) C.x C.b dX11_isInRows_16 (by decide) ?_
    replace hf := x_b1 hf; obtain ⟨x17_3, hx17_3, hf⟩ := hf
    refine x_callS (As := [.int p2, .int 0, .int 2]) (rest := []) C hW hl (qX11_isWithin l E hx17_3) gs_X11_69 hd_X11_isWithin rfl rfl (Nat.le_of_ble_eq_true rfl) dX11_isInRows_17 ⟨Nat.le_of_ble_eq_true rfl, Nat.le_of_ble_eq_true rfl⟩ ⟨Nat.le_of_ble_eq_true rfl, Nat.le_of_ble_eq_true rfl⟩ (fun H locs hW => ?_)
    refine lv_if_eq (tgt := 27) C.x C.b dX11_isInRows_20 rfl (fun c20 => ?_) (fun c20 => ?_)
    · replace hf := x_ip c20 hf
      refine lv_iconst (v := 0) C.x C.b dX11_isInRows_27 (by decide) ?_
      rw [x_e0 hf]
      exact x_zret C hr hW (v := 0) (w := 0) rfl dX11_isInRows_28
    · replace hf := x_in c20 hf
      refine lv_iconst (v := 1) C.x C.b dX11_isInRows_23 (by decide) ?_
      refine lv_goto (tgt := 28) C.x C.b dX11_isInRows_24 rfl ?_
      rw [x_e0 hf]
      exact x_zret C hr hW (v := 1) (w := 1) rfl dX11_isInRows_28

theorem dX11_row_0 : decode cX11_row 0 = .ok (.aload_n 0, 1) := by decide +kernel
theorem dX11_row_1 : decode cX11_row 1 = .ok (.iload_n 1, 1) := by decide +kernel
theorem dX11_row_2 : decode cX11_row 2 = .ok (.iload_n 2, 1) := by decide +kernel
theorem dX11_row_3 : decode cX11_row 3 = .ok (.invokevirtual 287, 3) := by decide +kernel
theorem dX11_row_6 : decode cX11_row 6 = .ok (.ifCond .eq 14, 3) := by decide +kernel
theorem dX11_row_9 : decode cX11_row 9 = .ok (.aload_n 0, 1) := by decide +kernel
theorem dX11_row_10 : decode cX11_row 10 = .ok (.getfield 42, 3) := by decide +kernel
theorem dX11_row_13 : decode cX11_row 13 = .ok (.iload_n 1, 1) := by decide +kernel
theorem dX11_row_14 : decode cX11_row 14 = .ok (.aaload, 1) := by decide +kernel
theorem dX11_row_15 : decode cX11_row 15 = .ok (.iload_n 2, 1) := by decide +kernel
theorem dX11_row_16 : decode cX11_row 16 = .ok (.iaload, 1) := by decide +kernel
theorem dX11_row_17 : decode cX11_row 17 = .ok (.goto 5, 3) := by decide +kernel
theorem dX11_row_20 : decode cX11_row 20 = .ok (.bipush (-9), 2) := by decide +kernel
theorem dX11_row_22 : decode cX11_row 22 = .ok (.ireturn, 1) := by decide +kernel
theorem hd_X11_isInRows : yX11_isInRows.cls ≠ "java/lang/invoke/MethodHandle" ∧ yX11_isInRows.cls ≠ "java/lang/invoke/VarHandle" ∧ (parseMethodDescriptor yX11_isInRows.desc).map (fun d => d.parameters.length) = some 2 := by decide +kernel
theorem gv_X11_287 : GoodIn gT (wsV "NylonLadder" 287 "NylonLadder" yX11_isInRows (Cond.code yX11_isInRows cX11_isInRows 3 (some .boolean) :: gT)) := good_V T_4_116 T_4_118 TS_26 T_1_1 T_4_119
def fX11_row (M : Mm) (o : Nat) (p1 : Int32) (p2 : Int32) : Option Int32 :=
  B1 (gk M o 14) fun _ =>
  B1 (fX11_isInRows M o p1 p2) fun x3_2 =>
  if x3_2 = 0 then
    some (-9)
  else
    B1 (rdN M o 14 6) fun a10_3 =>
    B1 (alN M a10_3 26 p1) fun a14_4 =>
    B1 (alI M a14_4 p2) fun x16_5 =>
    some x16_5
set_option maxRecDepth 100000 in
set_option maxHeartbeats 4000000 in
theorem qX11_row (l : Launch) (E : Ev) {M : Mm} {o : Nat} {p1 : Int32} {p2 : Int32} {rz : Int32} (hf : fX11_row M o p1 p2 = some rz) : Ct l E yX11_row cX11_row 3 (some .int) 2 44 0 0 [.ref (E.b + o), .int p1, .int p2] M (some (.int rz)) M := by
  refine ct_of (by decide +kernel) (Nat.le_of_ble_eq_true rfl) fun p e s m args below meth c C hr hin hW ls hl => ?_
  have hl : lv_has ls 3 [(0, .ref (E.b + o)), (1, .int p1), (2, .int p2)] := hl
  unfold fX11_row at hf
  refine lv_aload_n C.x C.b dX11_row_0 rfl (lv_at hl 0 rfl) ?_
  refine lv_iload_n C.x C.b dX11_row_1 rfl (lv_at hl 1 rfl) ?_
  refine lv_iload_n C.x C.b dX11_row_2 rfl (lv_at hl 2 rfl) ?_
  replace hf := x_b1 hf; obtain ⟨_, hk3_1, hf⟩ := hf
  replace hf := x_b1 hf; obtain ⟨x3_2, hx3_2, hf⟩ := hf
  refine x_callV (As := [.int p1, .int p2]) (a := o) (rest := []) C hW hl (qX11_isInRows l E hx3_2) (x_gk hk3_1) (by decide) (by decide) rfl gv_X11_287 ⟨rfl, hd_X11_isInRows⟩ rfl rfl (Nat.le_of_ble_eq_true rfl) dX11_row_3 ⟨Nat.le_of_ble_eq_true rfl, Nat.le_of_ble_eq_true rfl⟩ ⟨Nat.le_of_ble_eq_true rfl, Nat.le_of_ble_eq_true rfl⟩ (fun H locs hW => ?_)
  refine lv_if_eq (tgt := 20) C.x C.b dX11_row_6 rfl (fun c6 => ?_) (fun c6 => ?_)
  · replace hf := x_ip c6 hf
    refine lv_bipush (v := (-9)) C.x C.b dX11_row_20 (by decide) ?_
    rw [x_e0 hf]
    exact x_iret C hr hW dX11_row_22
  · replace hf := x_in c6 hf
    refine lv_aload_n C.x C.b dX11_row_9 rfl (lv_at hl 0 rfl) ?_
    replace hf := x_b1 hf; obtain ⟨a10_3, ha10_3, hf⟩ := hf
    refine x_getn C hW fg_X11_42_14 ha10_3 dX11_row_10 ?_
    refine lv_iload_n C.x C.b dX11_row_13 rfl (lv_at hl 1 rfl) ?_
    replace hf := x_b1 hf; obtain ⟨a14_4, ha14_4, hf⟩ := hf
    refine x_aldn C hW (kd := 26) (by decide) (by decide) ha14_4 dX11_row_14 ?_
    refine lv_iload_n C.x C.b dX11_row_15 rfl (lv_at hl 2 rfl) ?_
    replace hf := x_b1 hf; obtain ⟨x16_5, hx16_5, hf⟩ := hf
    refine x_iald C hW hx16_5 dX11_row_16 ?_
    refine lv_goto (tgt := 22) C.x C.b dX11_row_17 rfl ?_
    rw [x_e0 hf]
    exact x_iret C hr hW dX11_row_22

theorem dX11_alterRow_0 : decode cX11_alterRow 0 = .ok (.aload_n 0, 1) := by decide +kernel
theorem dX11_alterRow_1 : decode cX11_alterRow 1 = .ok (.iload_n 1, 1) := by decide +kernel
theorem dX11_alterRow_2 : decode cX11_alterRow 2 = .ok (.iload_n 2, 1) := by decide +kernel
theorem dX11_alterRow_3 : decode cX11_alterRow 3 = .ok (.invokevirtual 287, 3) := by decide +kernel
theorem dX11_alterRow_6 : decode cX11_alterRow 6 = .ok (.ifCond .ne 6, 3) := by decide +kernel
theorem dX11_alterRow_9 : decode cX11_alterRow 9 = .ok (.bipush (-9), 2) := by decide +kernel
theorem dX11_alterRow_11 : decode cX11_alterRow 11 = .ok (.ireturn, 1) := by decide +kernel
theorem dX11_alterRow_12 : decode cX11_alterRow 12 = .ok (.aload_n 0, 1) := by decide +kernel
theorem dX11_alterRow_13 : decode cX11_alterRow 13 = .ok (.getfield 42, 3) := by decide +kernel
theorem dX11_alterRow_16 : decode cX11_alterRow 16 = .ok (.iload_n 1, 1) := by decide +kernel
theorem dX11_alterRow_17 : decode cX11_alterRow 17 = .ok (.aaload, 1) := by decide +kernel
theorem dX11_alterRow_18 : decode cX11_alterRow 18 = .ok (.iload_n 2, 1) := by decide +kernel
theorem dX11_alterRow_19 : decode cX11_alterRow 19 = .ok (.iaload, 1) := by decide +kernel
theorem dX11_alterRow_20 : decode cX11_alterRow 20 = .ok (.istore 4, 2) := by decide +kernel
theorem dX11_alterRow_22 : decode cX11_alterRow 22 = .ok (.aload_n 0, 1) := by decide +kernel
theorem dX11_alterRow_23 : decode cX11_alterRow 23 = .ok (.getfield 42, 3) := by decide +kernel
theorem dX11_alterRow_26 : decode cX11_alterRow 26 = .ok (.iload_n 1, 1) := by decide +kernel
theorem dX11_alterRow_27 : decode cX11_alterRow 27 = .ok (.aaload, 1) := by decide +kernel
theorem dX11_alterRow_28 : decode cX11_alterRow 28 = .ok (.iload_n 2, 1) := by decide +kernel
theorem dX11_alterRow_29 : decode cX11_alterRow 29 = .ok (.iload_n 3, 1) := by decide +kernel
theorem dX11_alterRow_30 : decode cX11_alterRow 30 = .ok (.iastore, 1) := by decide +kernel
theorem dX11_alterRow_31 : decode cX11_alterRow 31 = .ok (.iload 4, 2) := by decide +kernel
theorem dX11_alterRow_33 : decode cX11_alterRow 33 = .ok (.ireturn, 1) := by decide +kernel
def fX11_alterRow (M : Mm) (o : Nat) (p1 : Int32) (p2 : Int32) (p3 : Int32) : Option (Int32 × Mm) :=
  B1 (gk M o 14) fun _ =>
  B1 (fX11_isInRows M o p1 p2) fun x3_2 =>
  if x3_2 = 0 then
    some ((-9), M)
  else
    B1 (rdN M o 14 6) fun a13_3 =>
    B1 (alN M a13_3 26 p1) fun a17_4 =>
    B1 (alI M a17_4 p2) fun x19_5 =>
    B1 (rdN M o 14 6) fun a23_6 =>
    B1 (alN M a23_6 26 p1) fun a27_7 =>
    B1 (asI M a27_7 p2 p3) fun M30_8 =>
    some (x19_5, M30_8)
set_option maxRecDepth 100000 in
set_option maxHeartbeats 4000000 in
theorem qX11_alterRow (l : Launch) (E : Ev) {M : Mm} {o : Nat} {p1 : Int32} {p2 : Int32} {p3 : Int32} {rz : Int32} {Mz : Mm} (hf : fX11_alterRow M o p1 p2 p3 = some (rz, Mz)) : Ct l E yX11_alterRow cX11_alterRow 5 (some .int) 2 44 0 0 [.ref (E.b + o), .int p1, .int p2, .int p3] M (some (.int rz)) Mz := by
  refine ct_of (by decide +kernel) (Nat.le_of_ble_eq_true rfl) fun p e s m args below meth c C hr hin hW ls hl => ?_
  have hl : lv_has ls 5 [(0, .ref (E.b + o)), (1, .int p1), (2, .int p2), (3, .int p3)] := hl
  unfold fX11_alterRow at hf
  refine lv_aload_n C.x C.b dX11_alterRow_0 rfl (lv_at hl 0 rfl) ?_
  refine lv_iload_n C.x C.b dX11_alterRow_1 rfl (lv_at hl 1 rfl) ?_
  refine lv_iload_n C.x C.b dX11_alterRow_2 rfl (lv_at hl 2 rfl) ?_
  replace hf := x_b1 hf; obtain ⟨_, hk3_1, hf⟩ := hf
  replace hf := x_b1 hf; obtain ⟨x3_2, hx3_2, hf⟩ := hf
  refine x_callV (As := [.int p1, .int p2]) (a := o) (rest := []) C hW hl (qX11_isInRows l E hx3_2) (x_gk hk3_1) (by decide) (by decide) rfl gv_X11_287 ⟨rfl, hd_X11_isInRows⟩ rfl rfl (Nat.le_of_ble_eq_true rfl) dX11_alterRow_3 ⟨Nat.le_of_ble_eq_true rfl, Nat.le_of_ble_eq_true rfl⟩ ⟨Nat.le_of_ble_eq_true rfl, Nat.le_of_ble_eq_true rfl⟩ (fun H locs hW => ?_)
  refine lv_if_ne (tgt := 12) C.x C.b dX11_alterRow_6 rfl (fun c6 => ?_) (fun c6 => ?_)
  · replace hf := x_in c6 hf
    refine lv_aload_n C.x C.b dX11_alterRow_12 rfl (lv_at hl 0 rfl) ?_
    replace hf := x_b1 hf; obtain ⟨a13_3, ha13_3, hf⟩ := hf
    refine x_getn C hW fg_X11_42_14 ha13_3 dX11_alterRow_13 ?_
    refine lv_iload_n C.x C.b dX11_alterRow_16 rfl (lv_at hl 1 rfl) ?_
    replace hf := x_b1 hf; obtain ⟨a17_4, ha17_4, hf⟩ := hf
    refine x_aldn C hW (kd := 26) (by decide) (by decide) ha17_4 dX11_alterRow_17 ?_
    refine lv_iload_n C.x C.b dX11_alterRow_18 rfl (lv_at hl 2 rfl) ?_
    replace hf := x_b1 hf; obtain ⟨x19_5, hx19_5, hf⟩ := hf
    refine x_iald C hW hx19_5 dX11_alterRow_19 ?_
    refine lv_istore (lv' := [(4, .int _), (0, .ref (E.b + _)), (1, .int _), (2, .int _), (3, .int _)]) C.x C.b dX11_alterRow_20 hl (by decide) rfl (fun ls hl => ?_)
    refine lv_aload_n C.x C.b dX11_alterRow_22 rfl (lv_at hl 1 rfl) ?_
    replace hf := x_b1 hf; obtain ⟨a23_6, ha23_6, hf⟩ := hf
    refine x_getn C hW fg_X11_42_14 ha23_6 dX11_alterRow_23 ?_
    refine lv_iload_n C.x C.b dX11_alterRow_26 rfl (lv_at hl 2 rfl) ?_
    replace hf := x_b1 hf; obtain ⟨a27_7, ha27_7, hf⟩ := hf
    refine x_aldn C hW (kd := 26) (by decide) (by decide) ha27_7 dX11_alterRow_27 ?_
    refine lv_iload_n C.x C.b dX11_alterRow_28 rfl (lv_at hl 3 rfl) ?_
    refine lv_iload_n C.x C.b dX11_alterRow_29 rfl (lv_at hl 4 rfl) ?_
    replace hf := x_b1 hf; obtain ⟨M30_8, hM30_8, hf⟩ := hf
    refine x_iast C hW hM30_8 dX11_alterRow_30 (fun H locs hW => ?_)
    refine lv_iload C.x C.b dX11_alterRow_31 (lv_at hl 0 rfl) ?_
    rw [x_e1 hf, x_e2 hf]
    exact x_iret C hr hW dX11_alterRow_33
  · replace hf := x_ip c6 hf
    refine lv_bipush (v := (-9)) C.x C.b dX11_alterRow_9 (by decide) ?_
    rw [x_e1 hf, x_e2 hf]
    exact x_iret C hr hW dX11_alterRow_11

theorem dX11_judge_0 : decode cX11_judge 0 = .ok (.aload_n 0, 1) := by decide +kernel
theorem dX11_judge_1 : decode cX11_judge 1 = .ok (.getfield 10, 3) := by decide +kernel
theorem dX11_judge_4 : decode cX11_judge 4 = .ok (.iload_n 2, 1) := by decide +kernel
theorem dX11_judge_5 : decode cX11_judge 5 = .ok (.invokevirtual 194, 3) := by decide +kernel
theorem dX11_judge_8 : decode cX11_judge 8 = .ok (.astore_n 3, 1) := by decide +kernel
theorem dX11_judge_9 : decode cX11_judge 9 = .ok (.iload_n 1, 1) := by decide +kernel
theorem dX11_judge_10 : decode cX11_judge 10 = .ok (.invokestatic 188, 3) := by decide +kernel
theorem dX11_judge_13 : decode cX11_judge 13 = .ok (.ifCond .eq 7, 3) := by decide +kernel
theorem dX11_judge_16 : decode cX11_judge 16 = .ok (.aload_n 3, 1) := by decide +kernel
theorem dX11_judge_17 : decode cX11_judge 17 = .ok (.ifnonnull 5, 3) := by decide +kernel
theorem dX11_judge_20 : decode cX11_judge 20 = .ok (.iconst (-1), 1) := by decide +kernel
theorem dX11_judge_21 : decode cX11_judge 21 = .ok (.ireturn, 1) := by decide +kernel
theorem dX11_judge_22 : decode cX11_judge 22 = .ok (.aload_n 0, 1) := by decide +kernel
theorem dX11_judge_23 : decode cX11_judge 23 = .ok (.iload_n 1, 1) := by decide +kernel
theorem dX11_judge_24 : decode cX11_judge 24 = .ok (.invokevirtual 234, 3) := by decide +kernel
theorem dX11_judge_27 : decode cX11_judge 27 = .ok (.astore 4, 2) := by decide +kernel
theorem dX11_judge_29 : decode cX11_judge 29 = .ok (.aload 4, 2) := by decide +kernel
theorem dX11_judge_31 : decode cX11_judge 31 = .ok (.ifnonnull 6, 3) := by decide +kernel
theorem dX11_judge_34 : decode cX11_judge 34 = .ok (.bipush (-3), 2) := by decide +kernel
theorem dX11_judge_36 : decode cX11_judge 36 = .ok (.ireturn, 1) := by decide +kernel
theorem dX11_judge_37 : decode cX11_judge 37 = .ok (.iconst 0, 1) := by decide +kernel
theorem dX11_judge_38 : decode cX11_judge 38 = .ok (.istore 5, 2) := by decide +kernel
theorem dX11_judge_40 : decode cX11_judge 40 = .ok (.iload 5, 2) := by decide +kernel
theorem dX11_judge_42 : decode cX11_judge 42 = .ok (.aload_n 0, 1) := by decide +kernel
theorem dX11_judge_43 : decode cX11_judge 43 = .ok (.getfield 45, 3) := by decide +kernel
theorem dX11_judge_46 : decode cX11_judge 46 = .ok (.if_icmp .ge 102, 3) := by decide +kernel
theorem dX11_judge_49 : decode cX11_judge 49 = .ok (.aload 4, 2) := by decide +kernel
theorem dX11_judge_51 : decode cX11_judge 51 = .ok (.aload_n 3, 1) := by decide +kernel
theorem dX11_judge_52 : decode cX11_judge 52 = .ok (.iload 5, 2) := by decide +kernel
theorem dX11_judge_54 : decode cX11_judge 54 = .ok (.iload 5, 2) := by decide +kernel
theorem dX11_judge_56 : decode cX11_judge 56 = .ok (.iconst 1, 1) := by decide +kernel
theorem dX11_judge_57 : decode cX11_judge 57 = .ok (.iadd, 1) := by decide +kernel
theorem dX11_judge_58 : decode cX11_judge 58 = .ok (.aload_n 0, 1) := by decide +kernel
theorem dX11_judge_59 : decode cX11_judge 59 = .ok (.getfield 10, 3) := by decide +kernel
theorem dX11_judge_62 : decode cX11_judge 62 = .ok (.getfield 107, 3) := by decide +kernel
theorem dX11_judge_65 : decode cX11_judge 65 = .ok (.invokevirtual 240, 3) := by decide +kernel
theorem dX11_judge_68 : decode cX11_judge 68 = .ok (.aload_n 0, 1) := by decide +kernel
theorem dX11_judge_69 : decode cX11_judge 69 = .ok (.getfield 42, 3) := by decide +kernel
theorem dX11_judge_72 : decode cX11_judge 72 = .ok (.iload 5, 2) := by decide +kernel
theorem dX11_judge_74 : decode cX11_judge 74 = .ok (.aaload, 1) := by decide +kernel
theorem dX11_judge_75 : decode cX11_judge 75 = .ok (.iconst 0, 1) := by decide +kernel
theorem dX11_judge_76 : decode cX11_judge 76 = .ok (.iaload, 1) := by decide +kernel
theorem dX11_judge_77 : decode cX11_judge 77 = .ok (.iload 5, 2) := by decide +kernel
theorem dX11_judge_79 : decode cX11_judge 79 = .ok (.if_icmp .ne 41, 3) := by decide +kernel
theorem dX11_judge_82 : decode cX11_judge 82 = .ok (.aload_n 0, 1) := by decide +kernel
theorem dX11_judge_83 : decode cX11_judge 83 = .ok (.getfield 42, 3) := by decide +kernel
theorem dX11_judge_86 : decode cX11_judge 86 = .ok (.iload 5, 2) := by decide +kernel
theorem dX11_judge_88 : decode cX11_judge 88 = .ok (.aaload, 1) := by decide +kernel
theorem dX11_judge_89 : decode cX11_judge 89 = .ok (.iconst 1, 1) := by decide +kernel
theorem dX11_judge_90 : decode cX11_judge 90 = .ok (.iaload, 1) := by decide +kernel
theorem dX11_judge_91 : decode cX11_judge 91 = .ok (.aload 4, 2) := by decide +kernel
theorem dX11_judge_93 : decode cX11_judge 93 = .ok (.getfield 142, 3) := by decide +kernel
theorem dX11_judge_96 : decode cX11_judge 96 = .ok (.if_icmp .ne 24, 3) := by decide +kernel
theorem dX11_judge_99 : decode cX11_judge 99 = .ok (.aload_n 0, 1) := by decide +kernel
theorem dX11_judge_100 : decode cX11_judge 100 = .ok (.getfield 42, 3) := by decide +kernel
theorem dX11_judge_103 : decode cX11_judge 103 = .ok (.iload 5, 2) := by decide +kernel
theorem dX11_judge_105 : decode cX11_judge 105 = .ok (.aaload, 1) := by decide +kernel
theorem dX11_judge_106 : decode cX11_judge 106 = .ok (.iconst 2, 1) := by decide +kernel
theorem dX11_judge_107 : decode cX11_judge 107 = .ok (.iaload, 1) := by decide +kernel
theorem dX11_judge_108 : decode cX11_judge 108 = .ok (.aload 4, 2) := by decide +kernel
theorem dX11_judge_110 : decode cX11_judge 110 = .ok (.getfield 145, 3) := by decide +kernel
theorem dX11_judge_113 : decode cX11_judge 113 = .ok (.if_icmp .ne 7, 3) := by decide +kernel
theorem dX11_judge_116 : decode cX11_judge 116 = .ok (.iconst 1, 1) := by decide +kernel
theorem dX11_judge_117 : decode cX11_judge 117 = .ok (.goto 4, 3) := by decide +kernel
theorem dX11_judge_120 : decode cX11_judge 120 = .ok (.iconst 0, 1) := by decide +kernel
theorem dX11_judge_121 : decode cX11_judge 121 = .ok (.istore 6, 2) := by decide +kernel
theorem dX11_judge_123 : decode cX11_judge 123 = .ok (.aload_n 3, 1) := by decide +kernel
theorem dX11_judge_124 : decode cX11_judge 124 = .ok (.iload 5, 2) := by decide +kernel
theorem dX11_judge_126 : decode cX11_judge 126 = .ok (.invokevirtual 205, 3) := by decide +kernel
theorem dX11_judge_129 : decode cX11_judge 129 = .ok (.ifCond .eq 8, 3) := by decide +kernel
theorem dX11_judge_132 : decode cX11_judge 132 = .ok (.iload 6, 2) := by decide +kernel
theorem dX11_judge_134 : decode cX11_judge 134 = .ok (.ifCond .ne 8, 3) := by decide +kernel
theorem dX11_judge_137 : decode cX11_judge 137 = .ok (.iload 5, 2) := by decide +kernel
theorem dX11_judge_139 : decode cX11_judge 139 = .ok (.iconst 1, 1) := by decide +kernel
theorem dX11_judge_140 : decode cX11_judge 140 = .ok (.iadd, 1) := by decide +kernel
theorem dX11_judge_141 : decode cX11_judge 141 = .ok (.ireturn, 1) := by decide +kernel
theorem dX11_judge_142 : decode cX11_judge 142 = .ok (.iinc 5 1, 3) := by decide +kernel
theorem dX11_judge_145 : decode cX11_judge 145 = .ok (.goto (-105), 3) := by decide +kernel
theorem dX11_judge_148 : decode cX11_judge 148 = .ok (.iconst 0, 1) := by decide +kernel
theorem dX11_judge_149 : decode cX11_judge 149 = .ok (.ireturn, 1) := by decide +kernel
def fX11_judge_L40 (o : Nat) (v3 : Nat) (v4 : Nat) : Nat → Int32 → Mm → Option (Int32 × Mm)
  | 0, _, _ => none
  | n + 1, v5, M =>
    B1 (rdI M o 14 7) fun x43_10 =>
    if x43_10 ≤ v5 then
      some (0, M)
    else
      B1 (rdN M o 14 0) fun a59_11 =>
      B1 (rdN M a59_11 3 0) fun a62_12 =>
      B1 (gk M v4 10) fun _ =>
      B1 (fX7_passWay M v4 v3 v5 (v5 + 1) a62_12) fun M65_14 =>
      B1 (rdN M65_14 o 14 6) fun a69_15 =>
      B1 (alN M65_14 a69_15 26 v5) fun a74_16 =>
      B1 (alI M65_14 a74_16 0) fun x76_17 =>
      if x76_17 = v5 then
        B1 (rdN M65_14 o 14 6) fun a83_20 =>
        B1 (alN M65_14 a83_20 26 v5) fun a88_21 =>
        B1 (alI M65_14 a88_21 1) fun x90_22 =>
        B1 (rdI M65_14 v4 10 6) fun x93_23 =>
        if x90_22 = x93_23 then
          B1 (rdN M65_14 o 14 6) fun a100_26 =>
          B1 (alN M65_14 a100_26 26 v5) fun a105_27 =>
          B1 (alI M65_14 a105_27 2) fun x107_28 =>
          B1 (rdI M65_14 v4 10 7) fun x110_29 =>
          if x107_28 = x110_29 then
            B1 (gk M65_14 v3 13) fun _ =>
            B1 (fX10_hasLeg M65_14 v3 v5) fun x126_33 =>
            if x126_33 = 0 then
              some ((v5 + 1), M65_14)
            else
              fX11_judge_L40 o v3 v4 n (v5 + 1) M65_14
          else
            B1 (gk M65_14 v3 13) fun _ =>
            B1 (fX10_hasLeg M65_14 v3 v5) fun x126_31 =>
            if x126_31 = 0 then
              some ((v5 + 1), M65_14)
            else
              some ((v5 + 1), M65_14)
        else
          B1 (gk M65_14 v3 13) fun _ =>
          B1 (fX10_hasLeg M65_14 v3 v5) fun x126_25 =>
          if x126_25 = 0 then
            some ((v5 + 1), M65_14)
          else
            some ((v5 + 1), M65_14)
      else
        B1 (gk M65_14 v3 13) fun _ =>
        B1 (fX10_hasLeg M65_14 v3 v5) fun x126_19 =>
        if x126_19 = 0 then
          some ((v5 + 1), M65_14)
        else
          some ((v5 + 1), M65_14)
def fX11_judge (M : Mm) (o : Nat) (p1 : Int32) (p2 : Int32) : Option (Int32 × Mm) :=
  B1 (rdN M o 14 0) fun a1_1 =>
  B1 (gk M a1_1 3) fun _ =>
  B1 (fX0_wayAt M a1_1 p2) fun x5_3 =>
  B1 (fX11_isFoot M p1) fun x10_4 =>
  if x10_4 = 0 then
    some ((-1), M)
  else
    NL x5_3 (
      some ((-1), M)) (fun a17_5 =>
      B1 (gk M o 14) fun _ =>
      B2 (fX11_beginTrial M o p1) fun x24_7 M24_8 =>
      NL x24_7 (
        some ((-3), M24_8)) (fun a31_9 =>
        fX11_judge_L40 o a17_5 a31_9 FL 0 M24_8))
set_option maxRecDepth 100000 in
set_option maxHeartbeats 4000000 in
theorem kX11_judge_L40 {l : Launch} {E : Ev} {p : Program} {e : Env} {s : State} {m : MethodId} {args : Array Value} {below : List Frame} {meth : Method} {c : Code} (C : Cx E p s m args meth c cX11_judge yX11_judge.cls 7) (hr : meth.sig.returnType = (some .int)) (hin : yX11_judge.name = "<init>" → meth.name = "<init>")  {o : Nat} {v3 : Nat} {v4 : Nat} {rz : Int32} {Mz : Mm} : ∀ (n : Nat) (v5 : Int32) (M : Mm), fX11_judge_L40 o v3 v4 n v5 M = some (rz, Mz) → ∀ (H : Heap) (locs : List Loc) (ls : Array Slot), Wx E s H locs M → lv_has ls 7 [(0, .ref (E.b + o)), (3, .ref (E.b + v3)), (4, .ref (E.b + v4)), (5, .int v5)] → W p l e (rM 5 113 0 0) s m args below meth c H locs 0 0 (MQ below (Qp E (some (.int rz)) Mz) args s 0 0 E.A) (F0 m 40 ls []) := by
  intro n
  induction n with
  | zero =>
    intro v5 M hf
    unfold fX11_judge_L40 at hf
    cases hf
  | succ n ih =>
    intro v5 M hf H locs ls hW hl
    unfold fX11_judge_L40 at hf
    refine lv_iload C.x C.b dX11_judge_40 (lv_at hl 3 rfl) ?_
    refine lv_aload_n C.x C.b dX11_judge_42 rfl (lv_at hl 0 rfl) ?_
    replace hf := x_b1 hf; obtain ⟨x43_10, hx43_10, hf⟩ := hf
    refine x_geti C hW fg_X11_45_14 hx43_10 dX11_judge_43 ?_
    refine lv_icmp_ge (tgt := 148) C.x C.b dX11_judge_46 rfl (fun c46 => ?_) (fun c46 => ?_)
    · replace hf := x_ip c46 hf
      refine lv_iconst (v := 0) C.x C.b dX11_judge_148 (by decide) ?_
      rw [x_e1 hf, x_e2 hf]
      exact x_iret C hr hW dX11_judge_149
    · replace hf := x_in c46 hf
      refine lv_aload C.x C.b dX11_judge_49 (lv_at hl 2 rfl) ?_
      refine lv_aload_n C.x C.b dX11_judge_51 rfl (lv_at hl 1 rfl) ?_
      refine lv_iload C.x C.b dX11_judge_52 (lv_at hl 3 rfl) ?_
      refine lv_iload C.x C.b dX11_judge_54 (lv_at hl 3 rfl) ?_
      refine lv_iconst (v := 1) C.x C.b dX11_judge_56 (by decide) ?_
      refine lv_iadd C.x C.b dX11_judge_57 ?_
      refine lv_aload_n C.x C.b dX11_judge_58 rfl (lv_at hl 0 rfl) ?_
      replace hf := x_b1 hf; obtain ⟨a59_11, ha59_11, hf⟩ := hf
      refine x_getn C hW fg_X11_10_14 ha59_11 dX11_judge_59 ?_
      replace hf := x_b1 hf; obtain ⟨a62_12, ha62_12, hf⟩ := hf
      refine x_getn C hW fg_X11_107_3 ha62_12 dX11_judge_62 ?_
      replace hf := x_b1 hf; obtain ⟨_, hk65_13, hf⟩ := hf
      replace hf := x_b1 hf; obtain ⟨M65_14, hM65_14, hf⟩ := hf
      refine x_callV (As := [.ref (E.b + v3), .int v5, .int (v5 + 1), .ref (E.b + a62_12)]) (a := v4) (rest := []) C hW hl (qX7_passWay l E hM65_14) (x_gk hk65_13) (by decide) (by decide) rfl gv_X11_240 ⟨rfl, hd_X7_passWay⟩ rfl rfl (Nat.le_of_ble_eq_true rfl) dX11_judge_65 ⟨Nat.le_of_ble_eq_true rfl, Nat.le_of_ble_eq_true rfl⟩ ⟨Nat.le_of_ble_eq_true rfl, Nat.le_of_ble_eq_true rfl⟩ (fun H locs hW => ?_)
      refine lv_aload_n C.x C.b dX11_judge_68 rfl (lv_at hl 0 rfl) ?_
      replace hf := x_b1 hf; obtain ⟨a69_15, ha69_15, hf⟩ := hf
      refine x_getn C hW fg_X11_42_14 ha69_15 dX11_judge_69 ?_
      refine lv_iload C.x C.b dX11_judge_72 (lv_at hl 3 rfl) ?_
      replace hf := x_b1 hf; obtain ⟨a74_16, ha74_16, hf⟩ := hf
      refine x_aldn C hW (kd := 26) (by decide) (by decide) ha74_16 dX11_judge_74 ?_
      refine lv_iconst (v := 0) C.x C.b dX11_judge_75 (by decide) ?_
      replace hf := x_b1 hf; obtain ⟨x76_17, hx76_17, hf⟩ := hf
      refine x_iald C hW hx76_17 dX11_judge_76 ?_
      refine lv_iload C.x C.b dX11_judge_77 (lv_at hl 3 rfl) ?_
      refine lv_icmp_ne (tgt := 120) C.x C.b dX11_judge_79 rfl (fun c79 => ?_) (fun c79 => ?_)
      · replace hf := x_in c79 hf
        refine lv_iconst (v := 0) C.x C.b dX11_judge_120 (by decide) ?_
        refine lv_istore (lv' := [(6, .int _), (0, .ref (E.b + _)), (3, .ref (E.b + _)), (4, .ref (E.b + _)), (5, .int _)]) C.x C.b dX11_judge_121 hl (by decide) rfl (fun ls hl => ?_)
        refine lv_aload_n C.x C.b dX11_judge_123 rfl (lv_at hl 2 rfl) ?_
        refine lv_iload C.x C.b dX11_judge_124 (lv_at hl 4 rfl) ?_
        replace hf := x_b1 hf; obtain ⟨_, hk126_18, hf⟩ := hf
        replace hf := x_b1 hf; obtain ⟨x126_19, hx126_19, hf⟩ := hf
        refine x_callV (As := [.int v5]) (a := v3) (rest := []) C hW hl (qX10_hasLeg l E hx126_19) (x_gk hk126_18) (by decide) (by decide) rfl gv_X11_205 ⟨rfl, hd_X10_hasLeg⟩ rfl rfl (Nat.le_of_ble_eq_true rfl) dX11_judge_126 ⟨Nat.le_of_ble_eq_true rfl, Nat.le_of_ble_eq_true rfl⟩ ⟨Nat.le_of_ble_eq_true rfl, Nat.le_of_ble_eq_true rfl⟩ (fun H locs hW => ?_)
        refine lv_if_eq (tgt := 137) C.x C.b dX11_judge_129 rfl (fun c129 => ?_) (fun c129 => ?_)
        · replace hf := x_ip c129 hf
          refine lv_iload C.x C.b dX11_judge_137 (lv_at hl 4 rfl) ?_
          refine lv_iconst (v := 1) C.x C.b dX11_judge_139 (by decide) ?_
          refine lv_iadd C.x C.b dX11_judge_140 ?_
          rw [x_e1 hf, x_e2 hf]
          exact x_iret C hr hW dX11_judge_141
        · replace hf := x_in c129 hf
          refine lv_iload C.x C.b dX11_judge_132 (lv_at hl 0 rfl) ?_
          refine lv_if_ne (tgt := 142) C.x C.b dX11_judge_134 rfl (fun c_ => absurd (by decide) c_) (fun _ => ?_)
          refine lv_iload C.x C.b dX11_judge_137 (lv_at hl 4 rfl) ?_
          refine lv_iconst (v := 1) C.x C.b dX11_judge_139 (by decide) ?_
          refine lv_iadd C.x C.b dX11_judge_140 ?_
          rw [x_e1 hf, x_e2 hf]
          exact x_iret C hr hW dX11_judge_141
      · replace hf := x_ip c79 hf
        refine lv_aload_n C.x C.b dX11_judge_82 rfl (lv_at hl 0 rfl) ?_
        replace hf := x_b1 hf; obtain ⟨a83_20, ha83_20, hf⟩ := hf
        refine x_getn C hW fg_X11_42_14 ha83_20 dX11_judge_83 ?_
        refine lv_iload C.x C.b dX11_judge_86 (lv_at hl 3 rfl) ?_
        replace hf := x_b1 hf; obtain ⟨a88_21, ha88_21, hf⟩ := hf
        refine x_aldn C hW (kd := 26) (by decide) (by decide) ha88_21 dX11_judge_88 ?_
        refine lv_iconst (v := 1) C.x C.b dX11_judge_89 (by decide) ?_
        replace hf := x_b1 hf; obtain ⟨x90_22, hx90_22, hf⟩ := hf
        refine x_iald C hW hx90_22 dX11_judge_90 ?_
        refine lv_aload C.x C.b dX11_judge_91 (lv_at hl 2 rfl) ?_
        replace hf := x_b1 hf; obtain ⟨x93_23, hx93_23, hf⟩ := hf
        refine x_geti C hW fg_X11_142_10 hx93_23 dX11_judge_93 ?_
        refine lv_icmp_ne (tgt := 120) C.x C.b dX11_judge_96 rfl (fun c96 => ?_) (fun c96 => ?_)
        · replace hf := x_in c96 hf
          refine lv_iconst (v := 0) C.x C.b dX11_judge_120 (by decide) ?_
          refine lv_istore (lv' := [(6, .int _), (0, .ref (E.b + _)), (3, .ref (E.b + _)), (4, .ref (E.b + _)), (5, .int _)]) C.x C.b dX11_judge_121 hl (by decide) rfl (fun ls hl => ?_)
          refine lv_aload_n C.x C.b dX11_judge_123 rfl (lv_at hl 2 rfl) ?_
          refine lv_iload C.x C.b dX11_judge_124 (lv_at hl 4 rfl) ?_
          replace hf := x_b1 hf; obtain ⟨_, hk126_24, hf⟩ := hf
          replace hf := x_b1 hf; obtain ⟨x126_25, hx126_25, hf⟩ := hf
          refine x_callV (As := [.int v5]) (a := v3) (rest := []) C hW hl (qX10_hasLeg l E hx126_25) (x_gk hk126_24) (by decide) (by decide) rfl gv_X11_205 ⟨rfl, hd_X10_hasLeg⟩ rfl rfl (Nat.le_of_ble_eq_true rfl) dX11_judge_126 ⟨Nat.le_of_ble_eq_true rfl, Nat.le_of_ble_eq_true rfl⟩ ⟨Nat.le_of_ble_eq_true rfl, Nat.le_of_ble_eq_true rfl⟩ (fun H locs hW => ?_)
          refine lv_if_eq (tgt := 137) C.x C.b dX11_judge_129 rfl (fun c129 => ?_) (fun c129 => ?_)
          · replace hf := x_ip c129 hf
            refine lv_iload C.x C.b dX11_judge_137 (lv_at hl 4 rfl) ?_
            refine lv_iconst (v := 1) C.x C.b dX11_judge_139 (by decide) ?_
            refine lv_iadd C.x C.b dX11_judge_140 ?_
            rw [x_e1 hf, x_e2 hf]
            exact x_iret C hr hW dX11_judge_141
          · replace hf := x_in c129 hf
            refine lv_iload C.x C.b dX11_judge_132 (lv_at hl 0 rfl) ?_
            refine lv_if_ne (tgt := 142) C.x C.b dX11_judge_134 rfl (fun c_ => absurd (by decide) c_) (fun _ => ?_)
            refine lv_iload C.x C.b dX11_judge_137 (lv_at hl 4 rfl) ?_
            refine lv_iconst (v := 1) C.x C.b dX11_judge_139 (by decide) ?_
            refine lv_iadd C.x C.b dX11_judge_140 ?_
            rw [x_e1 hf, x_e2 hf]
            exact x_iret C hr hW dX11_judge_141
        · replace hf := x_ip c96 hf
          refine lv_aload_n C.x C.b dX11_judge_99 rfl (lv_at hl 0 rfl) ?_
          replace hf := x_b1 hf; obtain ⟨a100_26, ha100_26, hf⟩ := hf
          refine x_getn C hW fg_X11_42_14 ha100_26 dX11_judge_100 ?_
          refine lv_iload C.x C.b dX11_judge_103 (lv_at hl 3 rfl) ?_
          replace hf := x_b1 hf; obtain ⟨a105_27, ha105_27, hf⟩ := hf
          refine x_aldn C hW (kd := 26) (by decide) (by decide) ha105_27 dX11_judge_105 ?_
          refine lv_iconst (v := 2) C.x C.b dX11_judge_106 (by decide) ?_
          replace hf := x_b1 hf; obtain ⟨x107_28, hx107_28, hf⟩ := hf
          refine x_iald C hW hx107_28 dX11_judge_107 ?_
          refine lv_aload C.x C.b dX11_judge_108 (lv_at hl 2 rfl) ?_
          replace hf := x_b1 hf; obtain ⟨x110_29, hx110_29, hf⟩ := hf
          refine x_geti C hW fg_X11_145_10 hx110_29 dX11_judge_110 ?_
          refine lv_icmp_ne (tgt := 120) C.x C.b dX11_judge_113 rfl (fun c113 => ?_) (fun c113 => ?_)
          · replace hf := x_in c113 hf
            refine lv_iconst (v := 0) C.x C.b dX11_judge_120 (by decide) ?_
            refine lv_istore (lv' := [(6, .int _), (0, .ref (E.b + _)), (3, .ref (E.b + _)), (4, .ref (E.b + _)), (5, .int _)]) C.x C.b dX11_judge_121 hl (by decide) rfl (fun ls hl => ?_)
            refine lv_aload_n C.x C.b dX11_judge_123 rfl (lv_at hl 2 rfl) ?_
            refine lv_iload C.x C.b dX11_judge_124 (lv_at hl 4 rfl) ?_
            replace hf := x_b1 hf; obtain ⟨_, hk126_30, hf⟩ := hf
            replace hf := x_b1 hf; obtain ⟨x126_31, hx126_31, hf⟩ := hf
            refine x_callV (As := [.int v5]) (a := v3) (rest := []) C hW hl (qX10_hasLeg l E hx126_31) (x_gk hk126_30) (by decide) (by decide) rfl gv_X11_205 ⟨rfl, hd_X10_hasLeg⟩ rfl rfl (Nat.le_of_ble_eq_true rfl) dX11_judge_126 ⟨Nat.le_of_ble_eq_true rfl, Nat.le_of_ble_eq_true rfl⟩ ⟨Nat.le_of_ble_eq_true rfl, Nat.le_of_ble_eq_true rfl⟩ (fun H locs hW => ?_)
            refine lv_if_eq (tgt := 137) C.x C.b dX11_judge_129 rfl (fun c129 => ?_) (fun c129 => ?_)
            · replace hf := x_ip c129 hf
              refine lv_iload C.x C.b dX11_judge_137 (lv_at hl 4 rfl) ?_
              refine lv_iconst (v := 1) C.x C.b dX11_judge_139 (by decide) ?_
              refine lv_iadd C.x C.b dX11_judge_140 ?_
              rw [x_e1 hf, x_e2 hf]
              exact x_iret C hr hW dX11_judge_141
            · replace hf := x_in c129 hf
              refine lv_iload C.x C.b dX11_judge_132 (lv_at hl 0 rfl) ?_
              refine lv_if_ne (tgt := 142) C.x C.b dX11_judge_134 rfl (fun c_ => absurd (by decide) c_) (fun _ => ?_)
              refine lv_iload C.x C.b dX11_judge_137 (lv_at hl 4 rfl) ?_
              refine lv_iconst (v := 1) C.x C.b dX11_judge_139 (by decide) ?_
              refine lv_iadd C.x C.b dX11_judge_140 ?_
              rw [x_e1 hf, x_e2 hf]
              exact x_iret C hr hW dX11_judge_141
          · replace hf := x_ip c113 hf
            refine lv_iconst (v := 1) C.x C.b dX11_judge_116 (by decide) ?_
            refine lv_goto (tgt := 121) C.x C.b dX11_judge_117 rfl ?_
            refine lv_istore (lv' := [(6, .int _), (0, .ref (E.b + _)), (3, .ref (E.b + _)), (4, .ref (E.b + _)), (5, .int _)]) C.x C.b dX11_judge_121 hl (by decide) rfl (fun ls hl => ?_)
            refine lv_aload_n C.x C.b dX11_judge_123 rfl (lv_at hl 2 rfl) ?_
            refine lv_iload C.x C.b dX11_judge_124 (lv_at hl 4 rfl) ?_
            replace hf := x_b1 hf; obtain ⟨_, hk126_32, hf⟩ := hf
            replace hf := x_b1 hf; obtain ⟨x126_33, hx126_33, hf⟩ := hf
            refine x_callV (As := [.int v5]) (a := v3) (rest := []) C hW hl (qX10_hasLeg l E hx126_33) (x_gk hk126_32) (by decide) (by decide) rfl gv_X11_205 ⟨rfl, hd_X10_hasLeg⟩ rfl rfl (Nat.le_of_ble_eq_true rfl) dX11_judge_126 ⟨Nat.le_of_ble_eq_true rfl, Nat.le_of_ble_eq_true rfl⟩ ⟨Nat.le_of_ble_eq_true rfl, Nat.le_of_ble_eq_true rfl⟩ (fun H locs hW => ?_)
            refine lv_if_eq (tgt := 137) C.x C.b dX11_judge_129 rfl (fun c129 => ?_) (fun c129 => ?_)
            · replace hf := x_ip c129 hf
              refine lv_iload C.x C.b dX11_judge_137 (lv_at hl 4 rfl) ?_
              refine lv_iconst (v := 1) C.x C.b dX11_judge_139 (by decide) ?_
              refine lv_iadd C.x C.b dX11_judge_140 ?_
              rw [x_e1 hf, x_e2 hf]
              exact x_iret C hr hW dX11_judge_141
            · replace hf := x_in c129 hf
              refine lv_iload C.x C.b dX11_judge_132 (lv_at hl 0 rfl) ?_
              refine lv_if_ne (tgt := 142) C.x C.b dX11_judge_134 rfl (fun _ => ?_) (fun c_ => absurd c_ (by decide))
              refine lv_iinc (v := (v5 + 1)) (lv' := [(5, .int (v5 + 1)), (6, .int _), (0, .ref (E.b + _)), (3, .ref (E.b + _)), (4, .ref (E.b + _))]) C.x C.b dX11_judge_142 hl (k := 4) rfl (by first | rfl | decide) (by decide) rfl (fun ls hl => ?_)
              refine lv_goto (tgt := 40) C.x C.b dX11_judge_145 rfl ?_
              exact ih (v5 + 1) M65_14 hf _ _ _ hW (lv_sub hl [2, 3, 4, 0] rfl)
set_option maxRecDepth 100000 in
set_option maxHeartbeats 4000000 in
theorem qX11_judge (l : Launch) (E : Ev) {M : Mm} {o : Nat} {p1 : Int32} {p2 : Int32} {rz : Int32} {Mz : Mm} (hf : fX11_judge M o p1 p2 = some (rz, Mz)) : Ct l E yX11_judge cX11_judge 7 (some .int) 5 113 0 0 [.ref (E.b + o), .int p1, .int p2] M (some (.int rz)) Mz := by
  refine ct_of (by decide +kernel) (Nat.le_of_ble_eq_true rfl) fun p e s m args below meth c C hr hin hW ls hl => ?_
  have hl : lv_has ls 7 [(0, .ref (E.b + o)), (1, .int p1), (2, .int p2)] := hl
  unfold fX11_judge at hf
  refine lv_aload_n C.x C.b dX11_judge_0 rfl (lv_at hl 0 rfl) ?_
  replace hf := x_b1 hf; obtain ⟨a1_1, ha1_1, hf⟩ := hf
  refine x_getn C hW fg_X11_10_14 ha1_1 dX11_judge_1 ?_
  refine lv_iload_n C.x C.b dX11_judge_4 rfl (lv_at hl 2 rfl) ?_
  replace hf := x_b1 hf; obtain ⟨_, hk5_2, hf⟩ := hf
  replace hf := x_b1 hf; obtain ⟨x5_3, hx5_3, hf⟩ := hf
  refine x_callV (As := [.int p2]) (a := a1_1) (rest := []) C hW hl (qX0_wayAt l E hx5_3) (x_gk hk5_2) (by decide) (by decide) rfl gv_X11_194 ⟨rfl, hd_X0_wayAt⟩ rfl rfl (Nat.le_of_ble_eq_true rfl) dX11_judge_5 ⟨Nat.le_of_ble_eq_true rfl, Nat.le_of_ble_eq_true rfl⟩ ⟨Nat.le_of_ble_eq_true rfl, Nat.le_of_ble_eq_true rfl⟩ (fun H locs hW => ?_)
  refine x_astore_n (lv' := [(3, rv E.b _), (0, .ref (E.b + _)), (1, .int _), (2, .int _)]) C dX11_judge_8 rfl hl (by decide) rfl (fun ls hl => ?_)
  refine lv_iload_n C.x C.b dX11_judge_9 rfl (lv_at hl 2 rfl) ?_
  replace hf := x_b1 hf; obtain ⟨x10_4, hx10_4, hf⟩ := hf
  refine x_callS (As := [.int p1]) (rest := []) C hW hl (qX11_isFoot l E hx10_4) gs_X11_188 hd_X11_isFoot rfl rfl (Nat.le_of_ble_eq_true rfl) dX11_judge_10 ⟨Nat.le_of_ble_eq_true rfl, Nat.le_of_ble_eq_true rfl⟩ ⟨Nat.le_of_ble_eq_true rfl, Nat.le_of_ble_eq_true rfl⟩ (fun H locs hW => ?_)
  refine lv_if_eq (tgt := 20) C.x C.b dX11_judge_13 rfl (fun c13 => ?_) (fun c13 => ?_)
  · replace hf := x_ip c13 hf
    refine lv_iconst (v := (-1)) C.x C.b dX11_judge_20 (by decide) ?_
    rw [x_e1 hf, x_e2 hf]
    exact x_iret C hr hW dX11_judge_21
  · replace hf := x_in c13 hf
    refine x_aload_n C dX11_judge_16 rfl (lv_at hl 0 rfl) ?_
    replace hf := x_nl hf; rcases hf with ⟨rfl, hf⟩ | ⟨a17_5, rfl, hf⟩
    · refine lv_ifnonnullN C.x C.b dX11_judge_17 ?_
      refine lv_iconst (v := (-1)) C.x C.b dX11_judge_20 (by decide) ?_
      rw [x_e1 hf, x_e2 hf]
      exact x_iret C hr hW dX11_judge_21
    · refine lv_ifnonnull (tgt := 22) C.x C.b dX11_judge_17 rfl ?_
      refine lv_aload_n C.x C.b dX11_judge_22 rfl (lv_at hl 1 rfl) ?_
      refine lv_iload_n C.x C.b dX11_judge_23 rfl (lv_at hl 2 rfl) ?_
      replace hf := x_b1 hf; obtain ⟨_, hk24_6, hf⟩ := hf
      replace hf := x_b2 hf; obtain ⟨x24_7, M24_8, hx24_7, hf⟩ := hf
      refine x_callV (As := [.int p1]) (a := o) (rest := []) C hW hl (qX11_beginTrial l E hx24_7) (x_gk hk24_6) (by decide) (by decide) rfl gv_X11_234 ⟨rfl, hd_X11_beginTrial⟩ rfl rfl (Nat.le_of_ble_eq_true rfl) dX11_judge_24 ⟨Nat.le_of_ble_eq_true rfl, Nat.le_of_ble_eq_true rfl⟩ ⟨Nat.le_of_ble_eq_true rfl, Nat.le_of_ble_eq_true rfl⟩ (fun H locs hW => ?_)
      refine x_astore (lv' := [(4, rv E.b _), (3, .ref (E.b + _)), (0, .ref (E.b + _)), (1, .int _), (2, .int _)]) C dX11_judge_27 hl (by decide) rfl (fun ls hl => ?_)
      refine x_aload C dX11_judge_29 (lv_at hl 0 rfl) ?_
      replace hf := x_nl hf; rcases hf with ⟨rfl, hf⟩ | ⟨a31_9, rfl, hf⟩
      · refine lv_ifnonnullN C.x C.b dX11_judge_31 ?_
        refine lv_bipush (v := (-3)) C.x C.b dX11_judge_34 (by decide) ?_
        rw [x_e1 hf, x_e2 hf]
        exact x_iret C hr hW dX11_judge_36
      · refine lv_ifnonnull (tgt := 37) C.x C.b dX11_judge_31 rfl ?_
        refine lv_iconst (v := 0) C.x C.b dX11_judge_37 (by decide) ?_
        refine lv_istore (lv' := [(5, .int _), (4, .ref (E.b + _)), (3, .ref (E.b + _)), (0, .ref (E.b + _)), (1, .int _), (2, .int _)]) C.x C.b dX11_judge_38 hl (by decide) rfl (fun ls hl => ?_)
        exact kX11_judge_L40 C hr hin FL 0 M24_8 hf _ _ _ hW (lv_sub hl [3, 2, 1, 0] rfl)

theorem dX11_isSheet_0 : decode cX11_isSheet 0 = .ok (.iload_n 0, 1) := by decide +kernel
theorem dX11_isSheet_1 : decode cX11_isSheet 1 = .ok (.iconst 0, 1) := by decide +kernel
theorem dX11_isSheet_2 : decode cX11_isSheet 2 = .ok (.iconst 3, 1) := by decide +kernel
theorem dX11_isSheet_3 : decode cX11_isSheet 3 = .ok (.invokestatic 69, 3) := by decide +kernel
theorem dX11_isSheet_6 : decode cX11_isSheet 6 = .ok (.ireturn, 1) := by decide +kernel
def fX11_isSheet (M : Mm) (p1 : Int32) : Option Int32 :=
  B1 (fX11_isWithin M p1 0 3) fun x3_1 =>
  bz x3_1
set_option maxRecDepth 100000 in
set_option maxHeartbeats 4000000 in
theorem qX11_isSheet (l : Launch) (E : Ev) {M : Mm} {p1 : Int32} {rz : Int32} (hf : fX11_isSheet M p1 = some rz) : Ct l E yX11_isSheet cX11_isSheet 1 (some .boolean) 1 22 0 0 [.int p1] M (some (.int rz)) M := by
  refine ct_of (by decide +kernel) (Nat.le_of_ble_eq_true rfl) fun p e s m args below meth c C hr hin hW ls hl => ?_
  have hl : lv_has ls 1 [(0, .int p1)] := hl
  unfold fX11_isSheet at hf
  refine lv_iload_n C.x C.b dX11_isSheet_0 rfl (lv_at hl 0 rfl) ?_
  refine lv_iconst (v := 0) C.x C.b dX11_isSheet_1 (by decide) ?_
  refine lv_iconst (v := 3) C.x C.b dX11_isSheet_2 (by decide) ?_
  replace hf := x_b1 hf; obtain ⟨x3_1, hx3_1, hf⟩ := hf
  refine x_callS (As := [.int p1, .int 0, .int 3]) (rest := []) C hW hl (qX11_isWithin l E hx3_1) gs_X11_69 hd_X11_isWithin rfl rfl (Nat.le_of_ble_eq_true rfl) dX11_isSheet_3 ⟨Nat.le_of_ble_eq_true rfl, Nat.le_of_ble_eq_true rfl⟩ ⟨Nat.le_of_ble_eq_true rfl, Nat.le_of_ble_eq_true rfl⟩ (fun H locs hW => ?_)
  exact x_zret C hr hW hf dX11_isSheet_6

theorem dX11_minds_0 : decode cX11_minds 0 = .ok (.iload_n 1, 1) := by decide +kernel
theorem dX11_minds_1 : decode cX11_minds 1 = .ok (.invokestatic 290, 3) := by decide +kernel
theorem dX11_minds_4 : decode cX11_minds 4 = .ok (.ifCond .eq 39, 3) := by decide +kernel
theorem dX11_minds_7 : decode cX11_minds 7 = .ok (.aload_n 0, 1) := by decide +kernel
theorem dX11_minds_8 : decode cX11_minds 8 = .ok (.getfield 10, 3) := by decide +kernel
theorem dX11_minds_11 : decode cX11_minds 11 = .ok (.iload_n 3, 1) := by decide +kernel
theorem dX11_minds_12 : decode cX11_minds 12 = .ok (.invokevirtual 120, 3) := by decide +kernel
theorem dX11_minds_15 : decode cX11_minds 15 = .ok (.ifnull 28, 3) := by decide +kernel
theorem dX11_minds_18 : decode cX11_minds 18 = .ok (.iload 4, 2) := by decide +kernel
theorem dX11_minds_20 : decode cX11_minds 20 = .ok (.iconst 0, 1) := by decide +kernel
theorem dX11_minds_21 : decode cX11_minds 21 = .ok (.bipush 8, 2) := by decide +kernel
theorem dX11_minds_23 : decode cX11_minds 23 = .ok (.invokestatic 69, 3) := by decide +kernel
theorem dX11_minds_26 : decode cX11_minds 26 = .ok (.ifCond .eq 17, 3) := by decide +kernel
theorem dX11_minds_29 : decode cX11_minds 29 = .ok (.iload_n 3, 1) := by decide +kernel
theorem dX11_minds_30 : decode cX11_minds 30 = .ok (.iload 4, 2) := by decide +kernel
theorem dX11_minds_32 : decode cX11_minds 32 = .ok (.iadd, 1) := by decide +kernel
theorem dX11_minds_33 : decode cX11_minds 33 = .ok (.aload_n 0, 1) := by decide +kernel
theorem dX11_minds_34 : decode cX11_minds 34 = .ok (.getfield 10, 3) := by decide +kernel
theorem dX11_minds_37 : decode cX11_minds 37 = .ok (.getfield 94, 3) := by decide +kernel
theorem dX11_minds_40 : decode cX11_minds 40 = .ok (.if_icmp .le 5, 3) := by decide +kernel
theorem dX11_minds_43 : decode cX11_minds 43 = .ok (.iconst (-1), 1) := by decide +kernel
theorem dX11_minds_44 : decode cX11_minds 44 = .ok (.ireturn, 1) := by decide +kernel
theorem dX11_minds_45 : decode cX11_minds 45 = .ok (.aload_n 0, 1) := by decide +kernel
theorem dX11_minds_46 : decode cX11_minds 46 = .ok (.getfield 51, 3) := by decide +kernel
theorem dX11_minds_49 : decode cX11_minds 49 = .ok (.iload_n 1, 1) := by decide +kernel
theorem dX11_minds_50 : decode cX11_minds 50 = .ok (.aaload, 1) := by decide +kernel
theorem dX11_minds_51 : decode cX11_minds 51 = .ok (.astore 5, 2) := by decide +kernel
theorem dX11_minds_53 : decode cX11_minds 53 = .ok (.aload 5, 2) := by decide +kernel
theorem dX11_minds_55 : decode cX11_minds 55 = .ok (.ifnonnull 6, 3) := by decide +kernel
theorem dX11_minds_58 : decode cX11_minds 58 = .ok (.bipush (-11), 2) := by decide +kernel
theorem dX11_minds_60 : decode cX11_minds 60 = .ok (.ireturn, 1) := by decide +kernel
theorem dX11_minds_61 : decode cX11_minds 61 = .ok (.aload 5, 2) := by decide +kernel
theorem dX11_minds_63 : decode cX11_minds 63 = .ok (.getfield 293, 3) := by decide +kernel
theorem dX11_minds_66 : decode cX11_minds 66 = .ok (.ifCond .eq 6, 3) := by decide +kernel
theorem dX11_minds_69 : decode cX11_minds 69 = .ok (.bipush (-13), 2) := by decide +kernel
theorem dX11_minds_71 : decode cX11_minds 71 = .ok (.ireturn, 1) := by decide +kernel
theorem dX11_minds_72 : decode cX11_minds 72 = .ok (.iload_n 2, 1) := by decide +kernel
theorem dX11_minds_73 : decode cX11_minds 73 = .ok (.iconst 0, 1) := by decide +kernel
theorem dX11_minds_74 : decode cX11_minds 74 = .ok (.aload 5, 2) := by decide +kernel
theorem dX11_minds_76 : decode cX11_minds 76 = .ok (.getfield 296, 3) := by decide +kernel
theorem dX11_minds_79 : decode cX11_minds 79 = .ok (.arraylength, 1) := by decide +kernel
theorem dX11_minds_80 : decode cX11_minds 80 = .ok (.invokestatic 69, 3) := by decide +kernel
theorem dX11_minds_83 : decode cX11_minds 83 = .ok (.ifCond .eq 16, 3) := by decide +kernel
theorem dX11_minds_86 : decode cX11_minds 86 = .ok (.iload_n 2, 1) := by decide +kernel
theorem dX11_minds_87 : decode cX11_minds 87 = .ok (.iload 4, 2) := by decide +kernel
theorem dX11_minds_89 : decode cX11_minds 89 = .ok (.iadd, 1) := by decide +kernel
theorem dX11_minds_90 : decode cX11_minds 90 = .ok (.aload 5, 2) := by decide +kernel
theorem dX11_minds_92 : decode cX11_minds 92 = .ok (.getfield 296, 3) := by decide +kernel
theorem dX11_minds_95 : decode cX11_minds 95 = .ok (.arraylength, 1) := by decide +kernel
theorem dX11_minds_96 : decode cX11_minds 96 = .ok (.if_icmp .le 6, 3) := by decide +kernel
theorem dX11_minds_99 : decode cX11_minds 99 = .ok (.bipush (-12), 2) := by decide +kernel
theorem dX11_minds_101 : decode cX11_minds 101 = .ok (.ireturn, 1) := by decide +kernel
theorem dX11_minds_102 : decode cX11_minds 102 = .ok (.iconst 0, 1) := by decide +kernel
theorem dX11_minds_103 : decode cX11_minds 103 = .ok (.istore 6, 2) := by decide +kernel
theorem dX11_minds_105 : decode cX11_minds 105 = .ok (.iload 6, 2) := by decide +kernel
theorem dX11_minds_107 : decode cX11_minds 107 = .ok (.iload 4, 2) := by decide +kernel
theorem dX11_minds_109 : decode cX11_minds 109 = .ok (.if_icmp .ge 44, 3) := by decide +kernel
theorem dX11_minds_112 : decode cX11_minds 112 = .ok (.aload_n 0, 1) := by decide +kernel
theorem dX11_minds_113 : decode cX11_minds 113 = .ok (.getfield 10, 3) := by decide +kernel
theorem dX11_minds_116 : decode cX11_minds 116 = .ok (.getfield 300, 3) := by decide +kernel
theorem dX11_minds_119 : decode cX11_minds 119 = .ok (.iload_n 3, 1) := by decide +kernel
theorem dX11_minds_120 : decode cX11_minds 120 = .ok (.iload 6, 2) := by decide +kernel
theorem dX11_minds_122 : decode cX11_minds 122 = .ok (.iadd, 1) := by decide +kernel
theorem dX11_minds_123 : decode cX11_minds 123 = .ok (.aaload, 1) := by decide +kernel
theorem dX11_minds_124 : decode cX11_minds 124 = .ok (.iconst 0, 1) := by decide +kernel
theorem dX11_minds_125 : decode cX11_minds 125 = .ok (.bipush 9, 2) := by decide +kernel
theorem dX11_minds_127 : decode cX11_minds 127 = .ok (.aload 5, 2) := by decide +kernel
theorem dX11_minds_129 : decode cX11_minds 129 = .ok (.getfield 296, 3) := by decide +kernel
theorem dX11_minds_132 : decode cX11_minds 132 = .ok (.iload_n 2, 1) := by decide +kernel
theorem dX11_minds_133 : decode cX11_minds 133 = .ok (.iload 6, 2) := by decide +kernel
theorem dX11_minds_135 : decode cX11_minds 135 = .ok (.iadd, 1) := by decide +kernel
theorem dX11_minds_136 : decode cX11_minds 136 = .ok (.laload, 1) := by decide +kernel
theorem dX11_minds_137 : decode cX11_minds 137 = .ok (.l2i, 1) := by decide +kernel
theorem dX11_minds_138 : decode cX11_minds 138 = .ok (.invokestatic 304, 3) := by decide +kernel
theorem dX11_minds_141 : decode cX11_minds 141 = .ok (.invokestatic 309, 3) := by decide +kernel
theorem dX11_minds_144 : decode cX11_minds 144 = .ok (.putfield 127, 3) := by decide +kernel
theorem dX11_minds_147 : decode cX11_minds 147 = .ok (.iinc 6 1, 3) := by decide +kernel
theorem dX11_minds_150 : decode cX11_minds 150 = .ok (.goto (-45), 3) := by decide +kernel
theorem dX11_minds_153 : decode cX11_minds 153 = .ok (.iload 4, 2) := by decide +kernel
theorem dX11_minds_155 : decode cX11_minds 155 = .ok (.ireturn, 1) := by decide +kernel
theorem hd_X11_isSheet : yX11_isSheet.cls ≠ "java/lang/invoke/MethodHandle" ∧ yX11_isSheet.cls ≠ "java/lang/invoke/VarHandle" ∧ (parseMethodDescriptor yX11_isSheet.desc).map (fun d => d.parameters.length) = some 1 := by decide +kernel
theorem gs_X11_290 : GoodIn gT (va_wsS "NylonLadder" 290 yX11_isSheet (Cond.code yX11_isSheet cX11_isSheet 1 (some .boolean) :: gT)) := good_S T_4_132 T_4_133 T_1_1 T_4_134
theorem fg_X11_51_14 : FdG "NylonLadder" 51 14 8 true := ⟨_, _, _, _, rfl, by decide, by decide, by decide, gxX11, by decide, T_1_238, Or.inl rfl, rfl⟩
theorem fg_X11_293_9 : FdG "NylonLadder" 293 9 0 false := ⟨_, _, _, _, rfl, by decide, by decide, by decide, gxX6, by decide, T_4_147, Or.inl rfl, rfl⟩
theorem fg_X11_296_9 : FdG "NylonLadder" 296 9 1 true := ⟨_, _, _, _, rfl, by decide, by decide, by decide, gxX6, by decide, T_4_149, Or.inl rfl, rfl⟩
theorem fg_X11_300_3 : FdG "NylonLadder" 300 3 1 true := ⟨_, _, _, _, rfl, by decide, by decide, by decide, gxX0, by decide, T_1_135, Or.inl rfl, rfl⟩
def fX11_minds_L105 (o : Nat) (v2 : Int32) (v3 : Int32) (v4 : Int32) (v5 : Nat) : Nat → Int32 → Mm → Option (Int32 × Mm)
  | 0, _, _ => none
  | n + 1, v6, M =>
    if v4 ≤ v6 then
      some (v4, M)
    else
      B1 (rdN M o 14 0) fun a113_18 =>
      B1 (rdN M a113_18 3 1) fun a116_19 =>
      B1 (alN M a116_19 23 (v3 + v6)) fun a123_20 =>
      B1 (rdN M v5 9 1) fun a129_21 =>
      B1 (alL M a129_21 (v2 + v6)) fun x136_22 =>
      B1 (wrI M a123_20 10 1 (mxI 0 (mnI 9 (x136_22.toInt32)))) fun M144_23 =>
      fX11_minds_L105 o v2 v3 v4 v5 n (v6 + 1) M144_23
def fX11_minds (M : Mm) (o : Nat) (p1 : Int32) (p2 : Int32) (p3 : Int32) (p4 : Int32) : Option (Int32 × Mm) :=
  B1 (fX11_isSheet M p1) fun x1_1 =>
  if x1_1 = 0 then
    some ((-1), M)
  else
    B1 (rdN M o 14 0) fun a8_2 =>
    B1 (gk M a8_2 3) fun _ =>
    B1 (fX0_stockingAt M a8_2 p3) fun x12_4 =>
    NL x12_4 (
      some ((-1), M)) (fun a15_5 =>
      B1 (fX11_isWithin M p4 0 8) fun x23_6 =>
      if x23_6 = 0 then
        some ((-1), M)
      else
        B1 (rdN M o 14 0) fun a34_7 =>
        B1 (rdI M a34_7 3 2) fun x37_8 =>
        if (p3 + p4) ≤ x37_8 then
          B1 (rdN M o 14 8) fun a46_9 =>
          B1 (alQ M a46_9 25 p1) fun r50_10 =>
          NL r50_10 (
            some ((-11), M)) (fun a55_11 =>
            B1 (rdI M a55_11 9 0) fun x63_12 =>
            if x63_12 = 0 then
              B1 (rdN M a55_11 9 1) fun a76_13 =>
              B1 (alN_ M a76_13) fun x79_14 =>
              B1 (fX11_isWithin M p2 0 x79_14) fun x80_15 =>
              if x80_15 = 0 then
                some ((-12), M)
              else
                B1 (rdN M a55_11 9 1) fun a92_16 =>
                B1 (alN_ M a92_16) fun x95_17 =>
                if (p2 + p4) ≤ x95_17 then
                  fX11_minds_L105 o p2 p3 p4 a55_11 FL 0 M
                else
                  some ((-12), M)
            else
              some ((-13), M))
        else
          some ((-1), M))
set_option maxRecDepth 100000 in
set_option maxHeartbeats 4000000 in
theorem kX11_minds_L105 {l : Launch} {E : Ev} {p : Program} {e : Env} {s : State} {m : MethodId} {args : Array Value} {below : List Frame} {meth : Method} {c : Code} (C : Cx E p s m args meth c cX11_minds yX11_minds.cls 7) (hr : meth.sig.returnType = (some .int)) (hin : yX11_minds.name = "<init>" → meth.name = "<init>")  {o : Nat} {v2 : Int32} {v3 : Int32} {v4 : Int32} {v5 : Nat} {rz : Int32} {Mz : Mm} : ∀ (n : Nat) (v6 : Int32) (M : Mm), fX11_minds_L105 o v2 v3 v4 v5 n v6 M = some (rz, Mz) → ∀ (H : Heap) (locs : List Loc) (ls : Array Slot), Wx E s H locs M → lv_has ls 7 [(0, .ref (E.b + o)), (2, .int v2), (3, .int v3), (4, .int v4), (5, .ref (E.b + v5)), (6, .int v6)] → W p l e (rM 2 43 0 0) s m args below meth c H locs 0 0 (MQ below (Qp E (some (.int rz)) Mz) args s 0 0 E.A) (F0 m 105 ls []) := by
  intro n
  induction n with
  | zero =>
    intro v6 M hf
    unfold fX11_minds_L105 at hf
    cases hf
  | succ n ih =>
    intro v6 M hf H locs ls hW hl
    unfold fX11_minds_L105 at hf
    refine lv_iload C.x C.b dX11_minds_105 (lv_at hl 5 rfl) ?_
    refine lv_iload C.x C.b dX11_minds_107 (lv_at hl 3 rfl) ?_
    refine lv_icmp_ge (tgt := 153) C.x C.b dX11_minds_109 rfl (fun c109 => ?_) (fun c109 => ?_)
    · replace hf := x_ip c109 hf
      refine lv_iload C.x C.b dX11_minds_153 (lv_at hl 3 rfl) ?_
      rw [x_e1 hf, x_e2 hf]
      exact x_iret C hr hW dX11_minds_155
    · replace hf := x_in c109 hf
      refine lv_aload_n C.x C.b dX11_minds_112 rfl (lv_at hl 0 rfl) ?_
      replace hf := x_b1 hf; obtain ⟨a113_18, ha113_18, hf⟩ := hf
      refine x_getn C hW fg_X11_10_14 ha113_18 dX11_minds_113 ?_
      replace hf := x_b1 hf; obtain ⟨a116_19, ha116_19, hf⟩ := hf
      refine x_getn C hW fg_X11_300_3 ha116_19 dX11_minds_116 ?_
      refine lv_iload_n C.x C.b dX11_minds_119 rfl (lv_at hl 2 rfl) ?_
      refine lv_iload C.x C.b dX11_minds_120 (lv_at hl 5 rfl) ?_
      refine lv_iadd C.x C.b dX11_minds_122 ?_
      replace hf := x_b1 hf; obtain ⟨a123_20, ha123_20, hf⟩ := hf
      refine x_aldn C hW (kd := 23) (by decide) (by decide) ha123_20 dX11_minds_123 ?_
      refine lv_iconst (v := 0) C.x C.b dX11_minds_124 (by decide) ?_
      refine lv_bipush (v := 9) C.x C.b dX11_minds_125 (by decide) ?_
      refine lv_aload C.x C.b dX11_minds_127 (lv_at hl 4 rfl) ?_
      replace hf := x_b1 hf; obtain ⟨a129_21, ha129_21, hf⟩ := hf
      refine x_getn C hW fg_X11_296_9 ha129_21 dX11_minds_129 ?_
      refine lv_iload_n C.x C.b dX11_minds_132 rfl (lv_at hl 1 rfl) ?_
      refine lv_iload C.x C.b dX11_minds_133 (lv_at hl 5 rfl) ?_
      refine lv_iadd C.x C.b dX11_minds_135 ?_
      replace hf := x_b1 hf; obtain ⟨x136_22, hx136_22, hf⟩ := hf
      refine x_lald C hW hx136_22 dX11_minds_136 ?_
      refine lv_l2i (v := x136_22.toInt32) C.x C.b dX11_minds_137 rfl ?_
      refine x_mmin C hl T_4_135 T_3_160 T_1_15 T_3_161 (Nat.le_of_ble_eq_true rfl) (Nat.le_of_ble_eq_true rfl) ⟨Nat.le_of_ble_eq_true rfl, Nat.le_of_ble_eq_true rfl⟩ dX11_minds_138 ?_
      refine x_mmax C hl T_4_62 T_3_145 T_1_15 T_3_146 (Nat.le_of_ble_eq_true rfl) (Nat.le_of_ble_eq_true rfl) ⟨Nat.le_of_ble_eq_true rfl, Nat.le_of_ble_eq_true rfl⟩ dX11_minds_141 ?_
      replace hf := x_b1 hf; obtain ⟨M144_23, hM144_23, hf⟩ := hf
      refine x_puti C hW fp_X11_127_10 hM144_23 (fun h => by cases h) dX11_minds_144 (fun H locs hW => ?_)
      refine lv_iinc (v := (v6 + 1)) (lv' := [(6, .int (v6 + 1)), (0, .ref (E.b + _)), (2, .int _), (3, .int _), (4, .int _), (5, .ref (E.b + _))]) C.x C.b dX11_minds_147 hl (k := 5) rfl (by first | rfl | decide) (by decide) rfl (fun ls hl => ?_)
      refine lv_goto (tgt := 105) C.x C.b dX11_minds_150 rfl ?_
      exact ih (v6 + 1) M144_23 hf _ _ _ hW (lv_sub hl [1, 2, 3, 4, 5, 0] rfl)
set_option maxRecDepth 100000 in
set_option maxHeartbeats 4000000 in
theorem qX11_minds (l : Launch) (E : Ev) {M : Mm} {o : Nat} {p1 : Int32} {p2 : Int32} {p3 : Int32} {p4 : Int32} {rz : Int32} {Mz : Mm} (hf : fX11_minds M o p1 p2 p3 p4 = some (rz, Mz)) : Ct l E yX11_minds cX11_minds 7 (some .int) 2 43 0 0 [.ref (E.b + o), .int p1, .int p2, .int p3, .int p4] M (some (.int rz)) Mz := by
  refine ct_of (by decide +kernel) (Nat.le_of_ble_eq_true rfl) fun p e s m args below meth c C hr hin hW ls hl => ?_
  have hl : lv_has ls 7 [(0, .ref (E.b + o)), (1, .int p1), (2, .int p2), (3, .int p3), (4, .int p4)] := hl
  unfold fX11_minds at hf
  refine lv_iload_n C.x C.b dX11_minds_0 rfl (lv_at hl 1 rfl) ?_
  replace hf := x_b1 hf; obtain ⟨x1_1, hx1_1, hf⟩ := hf
  refine x_callS (As := [.int p1]) (rest := []) C hW hl (qX11_isSheet l E hx1_1) gs_X11_290 hd_X11_isSheet rfl rfl (Nat.le_of_ble_eq_true rfl) dX11_minds_1 ⟨Nat.le_of_ble_eq_true rfl, Nat.le_of_ble_eq_true rfl⟩ ⟨Nat.le_of_ble_eq_true rfl, Nat.le_of_ble_eq_true rfl⟩ (fun H locs hW => ?_)
  refine lv_if_eq (tgt := 43) C.x C.b dX11_minds_4 rfl (fun c4 => ?_) (fun c4 => ?_)
  · replace hf := x_ip c4 hf
    refine lv_iconst (v := (-1)) C.x C.b dX11_minds_43 (by decide) ?_
    rw [x_e1 hf, x_e2 hf]
    exact x_iret C hr hW dX11_minds_44
  · replace hf := x_in c4 hf
    refine lv_aload_n C.x C.b dX11_minds_7 rfl (lv_at hl 0 rfl) ?_
    replace hf := x_b1 hf; obtain ⟨a8_2, ha8_2, hf⟩ := hf
    refine x_getn C hW fg_X11_10_14 ha8_2 dX11_minds_8 ?_
    refine lv_iload_n C.x C.b dX11_minds_11 rfl (lv_at hl 3 rfl) ?_
    replace hf := x_b1 hf; obtain ⟨_, hk12_3, hf⟩ := hf
    replace hf := x_b1 hf; obtain ⟨x12_4, hx12_4, hf⟩ := hf
    refine x_callV (As := [.int p3]) (a := a8_2) (rest := []) C hW hl (qX0_stockingAt l E hx12_4) (x_gk hk12_3) (by decide) (by decide) rfl gv_X11_120 ⟨rfl, hd_X0_stockingAt⟩ rfl rfl (Nat.le_of_ble_eq_true rfl) dX11_minds_12 ⟨Nat.le_of_ble_eq_true rfl, Nat.le_of_ble_eq_true rfl⟩ ⟨Nat.le_of_ble_eq_true rfl, Nat.le_of_ble_eq_true rfl⟩ (fun H locs hW => ?_)
    replace hf := x_nl hf; rcases hf with ⟨rfl, hf⟩ | ⟨a15_5, rfl, hf⟩
    · refine lv_ifnullN (tgt := 43) C.x C.b dX11_minds_15 rfl ?_
      refine lv_iconst (v := (-1)) C.x C.b dX11_minds_43 (by decide) ?_
      rw [x_e1 hf, x_e2 hf]
      exact x_iret C hr hW dX11_minds_44
    · refine lv_ifnull C.x C.b dX11_minds_15 ?_
      refine lv_iload C.x C.b dX11_minds_18 (lv_at hl 4 rfl) ?_
      refine lv_iconst (v := 0) C.x C.b dX11_minds_20 (by decide) ?_
      refine lv_bipush (v := 8) C.x C.b dX11_minds_21 (by decide) ?_
      replace hf := x_b1 hf; obtain ⟨x23_6, hx23_6, hf⟩ := hf
      refine x_callS (As := [.int p4, .int 0, .int 8]) (rest := []) C hW hl (qX11_isWithin l E hx23_6) gs_X11_69 hd_X11_isWithin rfl rfl (Nat.le_of_ble_eq_true rfl) dX11_minds_23 ⟨Nat.le_of_ble_eq_true rfl, Nat.le_of_ble_eq_true rfl⟩ ⟨Nat.le_of_ble_eq_true rfl, Nat.le_of_ble_eq_true rfl⟩ (fun H locs hW => ?_)
      refine lv_if_eq (tgt := 43) C.x C.b dX11_minds_26 rfl (fun c26 => ?_) (fun c26 => ?_)
      · replace hf := x_ip c26 hf
        refine lv_iconst (v := (-1)) C.x C.b dX11_minds_43 (by decide) ?_
        rw [x_e1 hf, x_e2 hf]
        exact x_iret C hr hW dX11_minds_44
      · replace hf := x_in c26 hf
        refine lv_iload_n C.x C.b dX11_minds_29 rfl (lv_at hl 3 rfl) ?_
        refine lv_iload C.x C.b dX11_minds_30 (lv_at hl 4 rfl) ?_
        refine lv_iadd C.x C.b dX11_minds_32 ?_
        refine lv_aload_n C.x C.b dX11_minds_33 rfl (lv_at hl 0 rfl) ?_
        replace hf := x_b1 hf; obtain ⟨a34_7, ha34_7, hf⟩ := hf
        refine x_getn C hW fg_X11_10_14 ha34_7 dX11_minds_34 ?_
        replace hf := x_b1 hf; obtain ⟨x37_8, hx37_8, hf⟩ := hf
        refine x_geti C hW fg_X11_94_3 hx37_8 dX11_minds_37 ?_
        refine lv_icmp_le (tgt := 45) C.x C.b dX11_minds_40 rfl (fun c40 => ?_) (fun c40 => ?_)
        · replace hf := x_ip c40 hf
          refine lv_aload_n C.x C.b dX11_minds_45 rfl (lv_at hl 0 rfl) ?_
          replace hf := x_b1 hf; obtain ⟨a46_9, ha46_9, hf⟩ := hf
          refine x_getn C hW fg_X11_51_14 ha46_9 dX11_minds_46 ?_
          refine lv_iload_n C.x C.b dX11_minds_49 rfl (lv_at hl 1 rfl) ?_
          replace hf := x_b1 hf; obtain ⟨r50_10, hr50_10, hf⟩ := hf
          refine x_aldq C hW (kd := 25) (by decide) (by decide) hr50_10 dX11_minds_50 ?_
          refine x_astore (lv' := [(5, rv E.b _), (0, .ref (E.b + _)), (1, .int _), (2, .int _), (3, .int _), (4, .int _)]) C dX11_minds_51 hl (by decide) rfl (fun ls hl => ?_)
          refine x_aload C dX11_minds_53 (lv_at hl 0 rfl) ?_
          replace hf := x_nl hf; rcases hf with ⟨rfl, hf⟩ | ⟨a55_11, rfl, hf⟩
          · refine lv_ifnonnullN C.x C.b dX11_minds_55 ?_
            refine lv_bipush (v := (-11)) C.x C.b dX11_minds_58 (by decide) ?_
            rw [x_e1 hf, x_e2 hf]
            exact x_iret C hr hW dX11_minds_60
          · refine lv_ifnonnull (tgt := 61) C.x C.b dX11_minds_55 rfl ?_
            refine lv_aload C.x C.b dX11_minds_61 (lv_at hl 0 rfl) ?_
            replace hf := x_b1 hf; obtain ⟨x63_12, hx63_12, hf⟩ := hf
            refine x_geti C hW fg_X11_293_9 hx63_12 dX11_minds_63 ?_
            refine lv_if_eq (tgt := 72) C.x C.b dX11_minds_66 rfl (fun c66 => ?_) (fun c66 => ?_)
            · replace hf := x_ip c66 hf
              refine lv_iload_n C.x C.b dX11_minds_72 rfl (lv_at hl 3 rfl) ?_
              refine lv_iconst (v := 0) C.x C.b dX11_minds_73 (by decide) ?_
              refine lv_aload C.x C.b dX11_minds_74 (lv_at hl 0 rfl) ?_
              replace hf := x_b1 hf; obtain ⟨a76_13, ha76_13, hf⟩ := hf
              refine x_getn C hW fg_X11_296_9 ha76_13 dX11_minds_76 ?_
              replace hf := x_b1 hf; obtain ⟨x79_14, hx79_14, hf⟩ := hf
              refine x_alen C hW hx79_14 dX11_minds_79 ?_
              replace hf := x_b1 hf; obtain ⟨x80_15, hx80_15, hf⟩ := hf
              refine x_callS (As := [.int p2, .int 0, .int x79_14]) (rest := []) C hW hl (qX11_isWithin l E hx80_15) gs_X11_69 hd_X11_isWithin rfl rfl (Nat.le_of_ble_eq_true rfl) dX11_minds_80 ⟨Nat.le_of_ble_eq_true rfl, Nat.le_of_ble_eq_true rfl⟩ ⟨Nat.le_of_ble_eq_true rfl, Nat.le_of_ble_eq_true rfl⟩ (fun H locs hW => ?_)
              refine lv_if_eq (tgt := 99) C.x C.b dX11_minds_83 rfl (fun c83 => ?_) (fun c83 => ?_)
              · replace hf := x_ip c83 hf
                refine lv_bipush (v := (-12)) C.x C.b dX11_minds_99 (by decide) ?_
                rw [x_e1 hf, x_e2 hf]
                exact x_iret C hr hW dX11_minds_101
              · replace hf := x_in c83 hf
                refine lv_iload_n C.x C.b dX11_minds_86 rfl (lv_at hl 3 rfl) ?_
                refine lv_iload C.x C.b dX11_minds_87 (lv_at hl 5 rfl) ?_
                refine lv_iadd C.x C.b dX11_minds_89 ?_
                refine lv_aload C.x C.b dX11_minds_90 (lv_at hl 0 rfl) ?_
                replace hf := x_b1 hf; obtain ⟨a92_16, ha92_16, hf⟩ := hf
                refine x_getn C hW fg_X11_296_9 ha92_16 dX11_minds_92 ?_
                replace hf := x_b1 hf; obtain ⟨x95_17, hx95_17, hf⟩ := hf
                refine x_alen C hW hx95_17 dX11_minds_95 ?_
                refine lv_icmp_le (tgt := 102) C.x C.b dX11_minds_96 rfl (fun c96 => ?_) (fun c96 => ?_)
                · replace hf := x_ip c96 hf
                  refine lv_iconst (v := 0) C.x C.b dX11_minds_102 (by decide) ?_
                  refine lv_istore (lv' := [(6, .int _), (5, .ref (E.b + _)), (0, .ref (E.b + _)), (1, .int _), (2, .int _), (3, .int _), (4, .int _)]) C.x C.b dX11_minds_103 hl (by decide) rfl (fun ls hl => ?_)
                  exact kX11_minds_L105 C hr hin FL 0 M hf _ _ _ hW (lv_sub hl [2, 4, 5, 6, 1, 0] rfl)
                · replace hf := x_in c96 hf
                  refine lv_bipush (v := (-12)) C.x C.b dX11_minds_99 (by decide) ?_
                  rw [x_e1 hf, x_e2 hf]
                  exact x_iret C hr hW dX11_minds_101
            · replace hf := x_in c66 hf
              refine lv_bipush (v := (-13)) C.x C.b dX11_minds_69 (by decide) ?_
              rw [x_e1 hf, x_e2 hf]
              exact x_iret C hr hW dX11_minds_71
        · replace hf := x_in c40 hf
          refine lv_iconst (v := (-1)) C.x C.b dX11_minds_43 (by decide) ?_
          rw [x_e1 hf, x_e2 hf]
          exact x_iret C hr hW dX11_minds_44

theorem dX11_sheet_0 : decode cX11_sheet 0 = .ok (.iload_n 1, 1) := by decide +kernel
theorem dX11_sheet_1 : decode cX11_sheet 1 = .ok (.invokestatic 290, 3) := by decide +kernel
theorem dX11_sheet_4 : decode cX11_sheet 4 = .ok (.ifCond .eq 12, 3) := by decide +kernel
theorem dX11_sheet_7 : decode cX11_sheet 7 = .ok (.iload_n 2, 1) := by decide +kernel
theorem dX11_sheet_8 : decode cX11_sheet 8 = .ok (.iconst (-1), 1) := by decide +kernel
theorem dX11_sheet_9 : decode cX11_sheet 9 = .ok (.iconst 3, 1) := by decide +kernel
theorem dX11_sheet_10 : decode cX11_sheet 10 = .ok (.invokestatic 69, 3) := by decide +kernel
theorem dX11_sheet_13 : decode cX11_sheet 13 = .ok (.ifCond .ne 5, 3) := by decide +kernel
theorem dX11_sheet_16 : decode cX11_sheet 16 = .ok (.iconst (-1), 1) := by decide +kernel
theorem dX11_sheet_17 : decode cX11_sheet 17 = .ok (.ireturn, 1) := by decide +kernel
theorem dX11_sheet_18 : decode cX11_sheet 18 = .ok (.iload_n 2, 1) := by decide +kernel
theorem dX11_sheet_19 : decode cX11_sheet 19 = .ok (.iconst (-1), 1) := by decide +kernel
theorem dX11_sheet_20 : decode cX11_sheet 20 = .ok (.if_icmp .ne 12, 3) := by decide +kernel
theorem dX11_sheet_23 : decode cX11_sheet 23 = .ok (.aload_n 0, 1) := by decide +kernel
theorem dX11_sheet_24 : decode cX11_sheet 24 = .ok (.getfield 51, 3) := by decide +kernel
theorem dX11_sheet_27 : decode cX11_sheet 27 = .ok (.iload_n 1, 1) := by decide +kernel
theorem dX11_sheet_28 : decode cX11_sheet 28 = .ok (.aconst_null, 1) := by decide +kernel
theorem dX11_sheet_29 : decode cX11_sheet 29 = .ok (.aastore, 1) := by decide +kernel
theorem dX11_sheet_30 : decode cX11_sheet 30 = .ok (.iconst 1, 1) := by decide +kernel
theorem dX11_sheet_31 : decode cX11_sheet 31 = .ok (.ireturn, 1) := by decide +kernel
theorem dX11_sheet_32 : decode cX11_sheet 32 = .ok (.iload_n 3, 1) := by decide +kernel
theorem dX11_sheet_33 : decode cX11_sheet 33 = .ok (.bipush 40, 2) := by decide +kernel
theorem dX11_sheet_35 : decode cX11_sheet 35 = .ok (.if_icmp .le 5, 3) := by decide +kernel
theorem dX11_sheet_38 : decode cX11_sheet 38 = .ok (.iconst (-1), 1) := by decide +kernel
theorem dX11_sheet_39 : decode cX11_sheet 39 = .ok (.ireturn, 1) := by decide +kernel
theorem dX11_sheet_40 : decode cX11_sheet 40 = .ok (.iload_n 3, 1) := by decide +kernel
theorem dX11_sheet_41 : decode cX11_sheet 41 = .ok (.ifCond .ge 6, 3) := by decide +kernel
theorem dX11_sheet_44 : decode cX11_sheet 44 = .ok (.bipush (-14), 2) := by decide +kernel
theorem dX11_sheet_46 : decode cX11_sheet 46 = .ok (.ireturn, 1) := by decide +kernel
theorem dX11_sheet_47 : decode cX11_sheet 47 = .ok (.aload_n 0, 1) := by decide +kernel
theorem dX11_sheet_48 : decode cX11_sheet 48 = .ok (.getfield 51, 3) := by decide +kernel
theorem dX11_sheet_51 : decode cX11_sheet 51 = .ok (.iload_n 1, 1) := by decide +kernel
theorem dX11_sheet_52 : decode cX11_sheet 52 = .ok (.new 49, 3) := by decide +kernel
theorem dX11_sheet_55 : decode cX11_sheet 55 = .ok (.dup, 1) := by decide +kernel
theorem dX11_sheet_56 : decode cX11_sheet 56 = .ok (.iload_n 2, 1) := by decide +kernel
theorem dX11_sheet_57 : decode cX11_sheet 57 = .ok (.iload_n 3, 1) := by decide +kernel
theorem dX11_sheet_58 : decode cX11_sheet 58 = .ok (.invokespecial 312, 3) := by decide +kernel
theorem dX11_sheet_61 : decode cX11_sheet 61 = .ok (.aastore, 1) := by decide +kernel
theorem dX11_sheet_62 : decode cX11_sheet 62 = .ok (.iconst 1, 1) := by decide +kernel
theorem dX11_sheet_63 : decode cX11_sheet 63 = .ok (.ireturn, 1) := by decide +kernel
theorem nw_X11_49 : NwO "NylonLadder" 49 9 2 := ⟨_, _, _, rfl, by decide, by decide, gxX6, tyX6_ok, T_1_202, T_4_140, T_1_16, fun _ => rfl, by decide +kernel⟩
theorem hd_X6_init : yX6_init.cls ≠ "java/lang/invoke/MethodHandle" ∧ yX6_init.cls ≠ "java/lang/invoke/VarHandle" ∧ (parseMethodDescriptor yX6_init.desc).map (fun d => d.parameters.length) = some 2 := by decide +kernel
def fX11_sheet (M : Mm) (o : Nat) (p1 : Int32) (p2 : Int32) (p3 : Int32) : Option (Int32 × Mm) :=
  B1 (fX11_isSheet M p1) fun x1_1 =>
  if x1_1 = 0 then
    some ((-1), M)
  else
    B1 (fX11_isWithin M p2 (-1) 3) fun x10_2 =>
    if x10_2 = 0 then
      some ((-1), M)
    else
      if p2 = (-1) then
        B1 (rdN M o 14 8) fun a24_7 =>
        B1 (asR M a24_7 25 p1 9 none) fun M29_8 =>
        some (1, M29_8)
      else
        if p3 ≤ 40 then
          if 0 ≤ p3 then
            B1 (rdN M o 14 8) fun a48_3 =>
            B1 (nwO M 9) fun M52_4 =>
            B1 (fX6_init M52_4 M.n p2 p3) fun M58_5 =>
            B1 (asR M58_5 a48_3 25 p1 9 (some M.n)) fun M61_6 =>
            some (1, M61_6)
          else
            some ((-14), M)
        else
          some ((-1), M)
set_option maxRecDepth 100000 in
set_option maxHeartbeats 4000000 in
theorem qX11_sheet (l : Launch) (E : Ev) {M : Mm} {o : Nat} {p1 : Int32} {p2 : Int32} {p3 : Int32} {rz : Int32} {Mz : Mm} (hf : fX11_sheet M o p1 p2 p3 = some (rz, Mz)) : Ct l E yX11_sheet cX11_sheet 4 (some .int) 2 42 2 42 [.ref (E.b + o), .int p1, .int p2, .int p3] M (some (.int rz)) Mz := by
  refine ct_of (by decide +kernel) (Nat.le_of_ble_eq_true rfl) fun p e s m args below meth c C hr hin hW ls hl => ?_
  have hl : lv_has ls 4 [(0, .ref (E.b + o)), (1, .int p1), (2, .int p2), (3, .int p3)] := hl
  unfold fX11_sheet at hf
  refine lv_iload_n C.x C.b dX11_sheet_0 rfl (lv_at hl 1 rfl) ?_
  replace hf := x_b1 hf; obtain ⟨x1_1, hx1_1, hf⟩ := hf
  refine x_callS (As := [.int p1]) (rest := []) C hW hl (qX11_isSheet l E hx1_1) gs_X11_290 hd_X11_isSheet rfl rfl (Nat.le_of_ble_eq_true rfl) dX11_sheet_1 ⟨Nat.le_of_ble_eq_true rfl, Nat.le_of_ble_eq_true rfl⟩ ⟨Nat.le_of_ble_eq_true rfl, Nat.le_of_ble_eq_true rfl⟩ (fun H locs hW => ?_)
  refine lv_if_eq (tgt := 16) C.x C.b dX11_sheet_4 rfl (fun c4 => ?_) (fun c4 => ?_)
  · replace hf := x_ip c4 hf
    refine lv_iconst (v := (-1)) C.x C.b dX11_sheet_16 (by decide) ?_
    refine W.widen (k := 2) (n := 42) (Nat.le_of_ble_eq_true rfl) (Nat.le_of_ble_eq_true rfl) ?_
    rw [x_e1 hf, x_e2 hf]
    exact x_iret C hr hW dX11_sheet_17
  · replace hf := x_in c4 hf
    refine lv_iload_n C.x C.b dX11_sheet_7 rfl (lv_at hl 2 rfl) ?_
    refine lv_iconst (v := (-1)) C.x C.b dX11_sheet_8 (by decide) ?_
    refine lv_iconst (v := 3) C.x C.b dX11_sheet_9 (by decide) ?_
    replace hf := x_b1 hf; obtain ⟨x10_2, hx10_2, hf⟩ := hf
    refine x_callS (As := [.int p2, .int (-1), .int 3]) (rest := []) C hW hl (qX11_isWithin l E hx10_2) gs_X11_69 hd_X11_isWithin rfl rfl (Nat.le_of_ble_eq_true rfl) dX11_sheet_10 ⟨Nat.le_of_ble_eq_true rfl, Nat.le_of_ble_eq_true rfl⟩ ⟨Nat.le_of_ble_eq_true rfl, Nat.le_of_ble_eq_true rfl⟩ (fun H locs hW => ?_)
    refine lv_if_ne (tgt := 18) C.x C.b dX11_sheet_13 rfl (fun c13 => ?_) (fun c13 => ?_)
    · replace hf := x_in c13 hf
      refine lv_iload_n C.x C.b dX11_sheet_18 rfl (lv_at hl 2 rfl) ?_
      refine lv_iconst (v := (-1)) C.x C.b dX11_sheet_19 (by decide) ?_
      refine lv_icmp_ne (tgt := 32) C.x C.b dX11_sheet_20 rfl (fun c20 => ?_) (fun c20 => ?_)
      · replace hf := x_in c20 hf
        refine lv_iload_n C.x C.b dX11_sheet_32 rfl (lv_at hl 3 rfl) ?_
        refine lv_bipush (v := 40) C.x C.b dX11_sheet_33 (by decide) ?_
        refine lv_icmp_le (tgt := 40) C.x C.b dX11_sheet_35 rfl (fun c35 => ?_) (fun c35 => ?_)
        · replace hf := x_ip c35 hf
          refine lv_iload_n C.x C.b dX11_sheet_40 rfl (lv_at hl 3 rfl) ?_
          refine lv_if_ge (tgt := 47) C.x C.b dX11_sheet_41 rfl (fun c41 => ?_) (fun c41 => ?_)
          · replace hf := x_ip c41 hf
            refine lv_aload_n C.x C.b dX11_sheet_47 rfl (lv_at hl 0 rfl) ?_
            replace hf := x_b1 hf; obtain ⟨a48_3, ha48_3, hf⟩ := hf
            refine x_getn C hW fg_X11_51_14 ha48_3 dX11_sheet_48 ?_
            refine lv_iload_n C.x C.b dX11_sheet_51 rfl (lv_at hl 1 rfl) ?_
            replace hf := x_b1 hf; obtain ⟨M52_4, hM52_4, hf⟩ := hf
            refine x_newo C hW hM52_4 nw_X11_49 dX11_sheet_52 ⟨Nat.le_of_ble_eq_true rfl, Nat.le_of_ble_eq_true rfl⟩ (fun H hW => ?_)
            refine lv_dup C.x C.b dX11_sheet_55 rfl ?_
            refine lv_iload_n C.x C.b dX11_sheet_56 rfl (lv_at hl 2 rfl) ?_
            refine lv_iload_n C.x C.b dX11_sheet_57 rfl (lv_at hl 3 rfl) ?_
            replace hf := x_b1 hf; obtain ⟨M58_5, hM58_5, hf⟩ := hf
            refine x_callI (As := [.int p2, .int p3]) (a := M.n) (rest := [.ref (E.b + M.n), .int p1, .ref (E.b + a48_3)]) C hW hl (qX6_init l E hM58_5) T_4_141 T_4_142 T_1_16 T_4_143 rfl hd_X6_init rfl rfl (Nat.le_of_ble_eq_true rfl) dX11_sheet_58 ⟨Nat.le_of_ble_eq_true rfl, Nat.le_of_ble_eq_true rfl⟩ ⟨Nat.le_of_ble_eq_true rfl, Nat.le_of_ble_eq_true rfl⟩ (fun H locs hW => ?_)
            replace hf := x_b1 hf; obtain ⟨M61_6, hM61_6, hf⟩ := hf
            refine x_aast (v := (some M.n)) C hW (kd := 25) (ko := 9) (by decide) rfl rfl hM61_6 dX11_sheet_61 (fun H locs hW => ?_)
            refine lv_iconst (v := 1) C.x C.b dX11_sheet_62 (by decide) ?_
            rw [x_e1 hf, x_e2 hf]
            exact x_iret C hr hW dX11_sheet_63
          · replace hf := x_in c41 hf
            refine lv_bipush (v := (-14)) C.x C.b dX11_sheet_44 (by decide) ?_
            refine W.widen (k := 2) (n := 42) (Nat.le_of_ble_eq_true rfl) (Nat.le_of_ble_eq_true rfl) ?_
            rw [x_e1 hf, x_e2 hf]
            exact x_iret C hr hW dX11_sheet_46
        · replace hf := x_in c35 hf
          refine lv_iconst (v := (-1)) C.x C.b dX11_sheet_38 (by decide) ?_
          refine W.widen (k := 2) (n := 42) (Nat.le_of_ble_eq_true rfl) (Nat.le_of_ble_eq_true rfl) ?_
          rw [x_e1 hf, x_e2 hf]
          exact x_iret C hr hW dX11_sheet_39
      · replace hf := x_ip c20 hf
        refine lv_aload_n C.x C.b dX11_sheet_23 rfl (lv_at hl 0 rfl) ?_
        replace hf := x_b1 hf; obtain ⟨a24_7, ha24_7, hf⟩ := hf
        refine x_getn C hW fg_X11_51_14 ha24_7 dX11_sheet_24 ?_
        refine lv_iload_n C.x C.b dX11_sheet_27 rfl (lv_at hl 1 rfl) ?_
        refine lv_null C.x C.b dX11_sheet_28 ?_
        replace hf := x_b1 hf; obtain ⟨M29_8, hM29_8, hf⟩ := hf
        refine x_aast (v := none) C hW (kd := 25) (ko := 9) (by decide) rfl rfl hM29_8 dX11_sheet_29 (fun H locs hW => ?_)
        refine lv_iconst (v := 1) C.x C.b dX11_sheet_30 (by decide) ?_
        refine W.widen (k := 2) (n := 42) (Nat.le_of_ble_eq_true rfl) (Nat.le_of_ble_eq_true rfl) ?_
        rw [x_e1 hf, x_e2 hf]
        exact x_iret C hr hW dX11_sheet_31
    · replace hf := x_ip c13 hf
      refine lv_iconst (v := (-1)) C.x C.b dX11_sheet_16 (by decide) ?_
      refine W.widen (k := 2) (n := 42) (Nat.le_of_ble_eq_true rfl) (Nat.le_of_ble_eq_true rfl) ?_
      rw [x_e1 hf, x_e2 hf]
      exact x_iret C hr hW dX11_sheet_17

theorem dX11_put_0 : decode cX11_put 0 = .ok (.iload_n 1, 1) := by decide +kernel
theorem dX11_put_1 : decode cX11_put 1 = .ok (.invokestatic 290, 3) := by decide +kernel
theorem dX11_put_4 : decode cX11_put 4 = .ok (.ifCond .ne 5, 3) := by decide +kernel
theorem dX11_put_7 : decode cX11_put 7 = .ok (.iconst (-1), 1) := by decide +kernel
theorem dX11_put_8 : decode cX11_put 8 = .ok (.ireturn, 1) := by decide +kernel
theorem dX11_put_9 : decode cX11_put 9 = .ok (.aload_n 0, 1) := by decide +kernel
theorem dX11_put_10 : decode cX11_put 10 = .ok (.getfield 51, 3) := by decide +kernel
theorem dX11_put_13 : decode cX11_put 13 = .ok (.iload_n 1, 1) := by decide +kernel
theorem dX11_put_14 : decode cX11_put 14 = .ok (.aaload, 1) := by decide +kernel
theorem dX11_put_15 : decode cX11_put 15 = .ok (.astore 4, 2) := by decide +kernel
theorem dX11_put_17 : decode cX11_put 17 = .ok (.aload 4, 2) := by decide +kernel
theorem dX11_put_19 : decode cX11_put 19 = .ok (.ifnonnull 6, 3) := by decide +kernel
theorem dX11_put_22 : decode cX11_put 22 = .ok (.bipush (-11), 2) := by decide +kernel
theorem dX11_put_24 : decode cX11_put 24 = .ok (.ireturn, 1) := by decide +kernel
theorem dX11_put_25 : decode cX11_put 25 = .ok (.aload 4, 2) := by decide +kernel
theorem dX11_put_27 : decode cX11_put 27 = .ok (.iload_n 2, 1) := by decide +kernel
theorem dX11_put_28 : decode cX11_put 28 = .ok (.invokevirtual 315, 3) := by decide +kernel
theorem dX11_put_31 : decode cX11_put 31 = .ok (.ifCond .ne 6, 3) := by decide +kernel
theorem dX11_put_34 : decode cX11_put 34 = .ok (.bipush (-12), 2) := by decide +kernel
theorem dX11_put_36 : decode cX11_put 36 = .ok (.ireturn, 1) := by decide +kernel
theorem dX11_put_37 : decode cX11_put 37 = .ok (.aload 4, 2) := by decide +kernel
theorem dX11_put_39 : decode cX11_put 39 = .ok (.getfield 296, 3) := by decide +kernel
theorem dX11_put_42 : decode cX11_put 42 = .ok (.iload_n 2, 1) := by decide +kernel
theorem dX11_put_43 : decode cX11_put 43 = .ok (.aload 4, 2) := by decide +kernel
theorem dX11_put_45 : decode cX11_put 45 = .ok (.iload_n 3, 1) := by decide +kernel
theorem dX11_put_46 : decode cX11_put 46 = .ok (.invokevirtual 318, 3) := by decide +kernel
theorem dX11_put_49 : decode cX11_put 49 = .ok (.lastore, 1) := by decide +kernel
theorem dX11_put_50 : decode cX11_put 50 = .ok (.iconst 1, 1) := by decide +kernel
theorem dX11_put_51 : decode cX11_put 51 = .ok (.ireturn, 1) := by decide +kernel
theorem hd_X6_hasItem : yX6_hasItem.cls ≠ "java/lang/invoke/MethodHandle" ∧ yX6_hasItem.cls ≠ "java/lang/invoke/VarHandle" ∧ (parseMethodDescriptor yX6_hasItem.desc).map (fun d => d.parameters.length) = some 1 := by decide +kernel
theorem gv_X11_315 : GoodIn gT (wsV "NylonLadder" 315 "NylonLadder$Sheet" yX6_hasItem (Cond.code yX6_hasItem cX6_hasItem 2 (some .boolean) :: gT)) := good_V T_4_160 T_4_161 T_4_162 T_1_16 T_4_163
theorem hd_X6_narrowed : yX6_narrowed.cls ≠ "java/lang/invoke/MethodHandle" ∧ yX6_narrowed.cls ≠ "java/lang/invoke/VarHandle" ∧ (parseMethodDescriptor yX6_narrowed.desc).map (fun d => d.parameters.length) = some 1 := by decide +kernel
theorem gv_X11_318 : GoodIn gT (wsV "NylonLadder" 318 "NylonLadder$Sheet" yX6_narrowed (Cond.code yX6_narrowed cX6_narrowed 2 (some .long) :: gT)) := good_V T_4_165 T_4_166 T_4_167 T_1_16 T_4_168
def fX11_put (M : Mm) (o : Nat) (p1 : Int32) (p2 : Int32) (p3 : Int32) : Option (Int32 × Mm) :=
  B1 (fX11_isSheet M p1) fun x1_1 =>
  if x1_1 = 0 then
    some ((-1), M)
  else
    B1 (rdN M o 14 8) fun a10_2 =>
    B1 (alQ M a10_2 25 p1) fun r14_3 =>
    NL r14_3 (
      some ((-11), M)) (fun a19_4 =>
      B1 (gk M a19_4 9) fun _ =>
      B1 (fX6_hasItem M a19_4 p2) fun x28_6 =>
      if x28_6 = 0 then
        some ((-12), M)
      else
        B1 (rdN M a19_4 9 1) fun a39_7 =>
        B1 (gk M a19_4 9) fun _ =>
        B1 (fX6_narrowed M a19_4 p3) fun x46_9 =>
        B1 (asL M a39_7 p2 x46_9) fun M49_10 =>
        some (1, M49_10))
set_option maxRecDepth 100000 in
set_option maxHeartbeats 4000000 in
theorem qX11_put (l : Launch) (E : Ev) {M : Mm} {o : Nat} {p1 : Int32} {p2 : Int32} {p3 : Int32} {rz : Int32} {Mz : Mm} (hf : fX11_put M o p1 p2 p3 = some (rz, Mz)) : Ct l E yX11_put cX11_put 5 (some .int) 2 43 0 0 [.ref (E.b + o), .int p1, .int p2, .int p3] M (some (.int rz)) Mz := by
  refine ct_of (by decide +kernel) (Nat.le_of_ble_eq_true rfl) fun p e s m args below meth c C hr hin hW ls hl => ?_
  have hl : lv_has ls 5 [(0, .ref (E.b + o)), (1, .int p1), (2, .int p2), (3, .int p3)] := hl
  unfold fX11_put at hf
  refine lv_iload_n C.x C.b dX11_put_0 rfl (lv_at hl 1 rfl) ?_
  replace hf := x_b1 hf; obtain ⟨x1_1, hx1_1, hf⟩ := hf
  refine x_callS (As := [.int p1]) (rest := []) C hW hl (qX11_isSheet l E hx1_1) gs_X11_290 hd_X11_isSheet rfl rfl (Nat.le_of_ble_eq_true rfl) dX11_put_1 ⟨Nat.le_of_ble_eq_true rfl, Nat.le_of_ble_eq_true rfl⟩ ⟨Nat.le_of_ble_eq_true rfl, Nat.le_of_ble_eq_true rfl⟩ (fun H locs hW => ?_)
  refine lv_if_ne (tgt := 9) C.x C.b dX11_put_4 rfl (fun c4 => ?_) (fun c4 => ?_)
  · replace hf := x_in c4 hf
    refine lv_aload_n C.x C.b dX11_put_9 rfl (lv_at hl 0 rfl) ?_
    replace hf := x_b1 hf; obtain ⟨a10_2, ha10_2, hf⟩ := hf
    refine x_getn C hW fg_X11_51_14 ha10_2 dX11_put_10 ?_
    refine lv_iload_n C.x C.b dX11_put_13 rfl (lv_at hl 1 rfl) ?_
    replace hf := x_b1 hf; obtain ⟨r14_3, hr14_3, hf⟩ := hf
    refine x_aldq C hW (kd := 25) (by decide) (by decide) hr14_3 dX11_put_14 ?_
    refine x_astore (lv' := [(4, rv E.b _), (0, .ref (E.b + _)), (1, .int _), (2, .int _), (3, .int _)]) C dX11_put_15 hl (by decide) rfl (fun ls hl => ?_)
    refine x_aload C dX11_put_17 (lv_at hl 0 rfl) ?_
    replace hf := x_nl hf; rcases hf with ⟨rfl, hf⟩ | ⟨a19_4, rfl, hf⟩
    · refine lv_ifnonnullN C.x C.b dX11_put_19 ?_
      refine lv_bipush (v := (-11)) C.x C.b dX11_put_22 (by decide) ?_
      rw [x_e1 hf, x_e2 hf]
      exact x_iret C hr hW dX11_put_24
    · refine lv_ifnonnull (tgt := 25) C.x C.b dX11_put_19 rfl ?_
      refine lv_aload C.x C.b dX11_put_25 (lv_at hl 0 rfl) ?_
      refine lv_iload_n C.x C.b dX11_put_27 rfl (lv_at hl 3 rfl) ?_
      replace hf := x_b1 hf; obtain ⟨_, hk28_5, hf⟩ := hf
      replace hf := x_b1 hf; obtain ⟨x28_6, hx28_6, hf⟩ := hf
      refine x_callV (As := [.int p2]) (a := a19_4) (rest := []) C hW hl (qX6_hasItem l E hx28_6) (x_gk hk28_5) (by decide) (by decide) rfl gv_X11_315 ⟨rfl, hd_X6_hasItem⟩ rfl rfl (Nat.le_of_ble_eq_true rfl) dX11_put_28 ⟨Nat.le_of_ble_eq_true rfl, Nat.le_of_ble_eq_true rfl⟩ ⟨Nat.le_of_ble_eq_true rfl, Nat.le_of_ble_eq_true rfl⟩ (fun H locs hW => ?_)
      refine lv_if_ne (tgt := 37) C.x C.b dX11_put_31 rfl (fun c31 => ?_) (fun c31 => ?_)
      · replace hf := x_in c31 hf
        refine lv_aload C.x C.b dX11_put_37 (lv_at hl 0 rfl) ?_
        replace hf := x_b1 hf; obtain ⟨a39_7, ha39_7, hf⟩ := hf
        refine x_getn C hW fg_X11_296_9 ha39_7 dX11_put_39 ?_
        refine lv_iload_n C.x C.b dX11_put_42 rfl (lv_at hl 3 rfl) ?_
        refine lv_aload C.x C.b dX11_put_43 (lv_at hl 0 rfl) ?_
        refine lv_iload_n C.x C.b dX11_put_45 rfl (lv_at hl 4 rfl) ?_
        replace hf := x_b1 hf; obtain ⟨_, hk46_8, hf⟩ := hf
        replace hf := x_b1 hf; obtain ⟨x46_9, hx46_9, hf⟩ := hf
        refine x_callV (As := [.int p3]) (a := a19_4) (rest := [.int p2, .ref (E.b + a39_7)]) C hW hl (qX6_narrowed l E hx46_9) (x_gk hk46_8) (by decide) (by decide) rfl gv_X11_318 ⟨rfl, hd_X6_narrowed⟩ rfl rfl (Nat.le_of_ble_eq_true rfl) dX11_put_46 ⟨Nat.le_of_ble_eq_true rfl, Nat.le_of_ble_eq_true rfl⟩ ⟨Nat.le_of_ble_eq_true rfl, Nat.le_of_ble_eq_true rfl⟩ (fun H locs hW => ?_)
        replace hf := x_b1 hf; obtain ⟨M49_10, hM49_10, hf⟩ := hf
        refine x_last C hW hM49_10 dX11_put_49 (fun H locs hW => ?_)
        refine lv_iconst (v := 1) C.x C.b dX11_put_50 (by decide) ?_
        rw [x_e1 hf, x_e2 hf]
        exact x_iret C hr hW dX11_put_51
      · replace hf := x_ip c31 hf
        refine lv_bipush (v := (-12)) C.x C.b dX11_put_34 (by decide) ?_
        rw [x_e1 hf, x_e2 hf]
        exact x_iret C hr hW dX11_put_36
  · replace hf := x_ip c4 hf
    refine lv_iconst (v := (-1)) C.x C.b dX11_put_7 (by decide) ?_
    rw [x_e1 hf, x_e2 hf]
    exact x_iret C hr hW dX11_put_8

theorem dX11_item_0 : decode cX11_item 0 = .ok (.iload_n 1, 1) := by decide +kernel
theorem dX11_item_1 : decode cX11_item 1 = .ok (.invokestatic 290, 3) := by decide +kernel
theorem dX11_item_4 : decode cX11_item 4 = .ok (.ifCond .eq 12, 3) := by decide +kernel
theorem dX11_item_7 : decode cX11_item 7 = .ok (.iload_n 2, 1) := by decide +kernel
theorem dX11_item_8 : decode cX11_item 8 = .ok (.iconst 0, 1) := by decide +kernel
theorem dX11_item_9 : decode cX11_item 9 = .ok (.iconst 3, 1) := by decide +kernel
theorem dX11_item_10 : decode cX11_item 10 = .ok (.invokestatic 69, 3) := by decide +kernel
theorem dX11_item_13 : decode cX11_item 13 = .ok (.ifCond .ne 5, 3) := by decide +kernel
theorem dX11_item_16 : decode cX11_item 16 = .ok (.iconst (-1), 1) := by decide +kernel
theorem dX11_item_17 : decode cX11_item 17 = .ok (.ireturn, 1) := by decide +kernel
theorem dX11_item_18 : decode cX11_item 18 = .ok (.aload_n 0, 1) := by decide +kernel
theorem dX11_item_19 : decode cX11_item 19 = .ok (.getfield 51, 3) := by decide +kernel
theorem dX11_item_22 : decode cX11_item 22 = .ok (.iload_n 1, 1) := by decide +kernel
theorem dX11_item_23 : decode cX11_item 23 = .ok (.aaload, 1) := by decide +kernel
theorem dX11_item_24 : decode cX11_item 24 = .ok (.astore 4, 2) := by decide +kernel
theorem dX11_item_26 : decode cX11_item 26 = .ok (.aload 4, 2) := by decide +kernel
theorem dX11_item_28 : decode cX11_item 28 = .ok (.ifnonnull 6, 3) := by decide +kernel
theorem dX11_item_31 : decode cX11_item 31 = .ok (.bipush (-11), 2) := by decide +kernel
theorem dX11_item_33 : decode cX11_item 33 = .ok (.ireturn, 1) := by decide +kernel
theorem dX11_item_34 : decode cX11_item 34 = .ok (.aload 4, 2) := by decide +kernel
theorem dX11_item_36 : decode cX11_item 36 = .ok (.getfield 293, 3) := by decide +kernel
theorem dX11_item_39 : decode cX11_item 39 = .ok (.iload_n 2, 1) := by decide +kernel
theorem dX11_item_40 : decode cX11_item 40 = .ok (.if_icmp .eq 6, 3) := by decide +kernel
theorem dX11_item_43 : decode cX11_item 43 = .ok (.bipush (-13), 2) := by decide +kernel
theorem dX11_item_45 : decode cX11_item 45 = .ok (.ireturn, 1) := by decide +kernel
theorem dX11_item_46 : decode cX11_item 46 = .ok (.aload 4, 2) := by decide +kernel
theorem dX11_item_48 : decode cX11_item 48 = .ok (.iload_n 3, 1) := by decide +kernel
theorem dX11_item_49 : decode cX11_item 49 = .ok (.invokevirtual 315, 3) := by decide +kernel
theorem dX11_item_52 : decode cX11_item 52 = .ok (.ifCond .eq 14, 3) := by decide +kernel
theorem dX11_item_55 : decode cX11_item 55 = .ok (.aload 4, 2) := by decide +kernel
theorem dX11_item_57 : decode cX11_item 57 = .ok (.getfield 296, 3) := by decide +kernel
theorem dX11_item_60 : decode cX11_item 60 = .ok (.iload_n 3, 1) := by decide +kernel
theorem dX11_item_61 : decode cX11_item 61 = .ok (.laload, 1) := by decide +kernel
theorem dX11_item_62 : decode cX11_item 62 = .ok (.l2i, 1) := by decide +kernel
theorem dX11_item_63 : decode cX11_item 63 = .ok (.goto 5, 3) := by decide +kernel
theorem dX11_item_66 : decode cX11_item 66 = .ok (.bipush (-12), 2) := by decide +kernel
theorem dX11_item_68 : decode cX11_item 68 = .ok (.ireturn, 1) := by decide +kernel
def fX11_item (M : Mm) (o : Nat) (p1 : Int32) (p2 : Int32) (p3 : Int32) : Option Int32 :=
  B1 (fX11_isSheet M p1) fun x1_1 =>
  if x1_1 = 0 then
    some (-1)
  else
    B1 (fX11_isWithin M p2 0 3) fun x10_2 =>
    if x10_2 = 0 then
      some (-1)
    else
      B1 (rdN M o 14 8) fun a19_3 =>
      B1 (alQ M a19_3 25 p1) fun r23_4 =>
      NL r23_4 (
        some (-11)) (fun a28_5 =>
        B1 (rdI M a28_5 9 0) fun x36_6 =>
        if x36_6 = p2 then
          B1 (gk M a28_5 9) fun _ =>
          B1 (fX6_hasItem M a28_5 p3) fun x49_8 =>
          if x49_8 = 0 then
            some (-12)
          else
            B1 (rdN M a28_5 9 1) fun a57_9 =>
            B1 (alL M a57_9 p3) fun x61_10 =>
            some (x61_10.toInt32)
        else
          some (-13))
set_option maxRecDepth 100000 in
set_option maxHeartbeats 4000000 in
theorem qX11_item (l : Launch) (E : Ev) {M : Mm} {o : Nat} {p1 : Int32} {p2 : Int32} {p3 : Int32} {rz : Int32} (hf : fX11_item M o p1 p2 p3 = some rz) : Ct l E yX11_item cX11_item 5 (some .int) 2 43 0 0 [.ref (E.b + o), .int p1, .int p2, .int p3] M (some (.int rz)) M := by
  refine ct_of (by decide +kernel) (Nat.le_of_ble_eq_true rfl) fun p e s m args below meth c C hr hin hW ls hl => ?_
  have hl : lv_has ls 5 [(0, .ref (E.b + o)), (1, .int p1), (2, .int p2), (3, .int p3)] := hl
  unfold fX11_item at hf
  refine lv_iload_n C.x C.b dX11_item_0 rfl (lv_at hl 1 rfl) ?_
  replace hf := x_b1 hf; obtain ⟨x1_1, hx1_1, hf⟩ := hf
  refine x_callS (As := [.int p1]) (rest := []) C hW hl (qX11_isSheet l E hx1_1) gs_X11_290 hd_X11_isSheet rfl rfl (Nat.le_of_ble_eq_true rfl) dX11_item_1 ⟨Nat.le_of_ble_eq_true rfl, Nat.le_of_ble_eq_true rfl⟩ ⟨Nat.le_of_ble_eq_true rfl, Nat.le_of_ble_eq_true rfl⟩ (fun H locs hW => ?_)
  refine lv_if_eq (tgt := 16) C.x C.b dX11_item_4 rfl (fun c4 => ?_) (fun c4 => ?_)
  · replace hf := x_ip c4 hf
    refine lv_iconst (v := (-1)) C.x C.b dX11_item_16 (by decide) ?_
    rw [x_e0 hf]
    exact x_iret C hr hW dX11_item_17
  · replace hf := x_in c4 hf
    refine lv_iload_n C.x C.b dX11_item_7 rfl (lv_at hl 2 rfl) ?_
    refine lv_iconst (v := 0) C.x C.b dX11_item_8 (by decide) ?_
    refine lv_iconst (v := 3) C.x C.b dX11_item_9 (by decide) ?_
    replace hf := x_b1 hf; obtain ⟨x10_2, hx10_2, hf⟩ := hf
    refine x_callS (As := [.int p2, .int 0, .int 3]) (rest := []) C hW hl (qX11_isWithin l E hx10_2) gs_X11_69 hd_X11_isWithin rfl rfl (Nat.le_of_ble_eq_true rfl) dX11_item_10 ⟨Nat.le_of_ble_eq_true rfl, Nat.le_of_ble_eq_true rfl⟩ ⟨Nat.le_of_ble_eq_true rfl, Nat.le_of_ble_eq_true rfl⟩ (fun H locs hW => ?_)
    refine lv_if_ne (tgt := 18) C.x C.b dX11_item_13 rfl (fun c13 => ?_) (fun c13 => ?_)
    · replace hf := x_in c13 hf
      refine lv_aload_n C.x C.b dX11_item_18 rfl (lv_at hl 0 rfl) ?_
      replace hf := x_b1 hf; obtain ⟨a19_3, ha19_3, hf⟩ := hf
      refine x_getn C hW fg_X11_51_14 ha19_3 dX11_item_19 ?_
      refine lv_iload_n C.x C.b dX11_item_22 rfl (lv_at hl 1 rfl) ?_
      replace hf := x_b1 hf; obtain ⟨r23_4, hr23_4, hf⟩ := hf
      refine x_aldq C hW (kd := 25) (by decide) (by decide) hr23_4 dX11_item_23 ?_
      refine x_astore (lv' := [(4, rv E.b _), (0, .ref (E.b + _)), (1, .int _), (2, .int _), (3, .int _)]) C dX11_item_24 hl (by decide) rfl (fun ls hl => ?_)
      refine x_aload C dX11_item_26 (lv_at hl 0 rfl) ?_
      replace hf := x_nl hf; rcases hf with ⟨rfl, hf⟩ | ⟨a28_5, rfl, hf⟩
      · refine lv_ifnonnullN C.x C.b dX11_item_28 ?_
        refine lv_bipush (v := (-11)) C.x C.b dX11_item_31 (by decide) ?_
        rw [x_e0 hf]
        exact x_iret C hr hW dX11_item_33
      · refine lv_ifnonnull (tgt := 34) C.x C.b dX11_item_28 rfl ?_
        refine lv_aload C.x C.b dX11_item_34 (lv_at hl 0 rfl) ?_
        replace hf := x_b1 hf; obtain ⟨x36_6, hx36_6, hf⟩ := hf
        refine x_geti C hW fg_X11_293_9 hx36_6 dX11_item_36 ?_
        refine lv_iload_n C.x C.b dX11_item_39 rfl (lv_at hl 3 rfl) ?_
        refine lv_icmp_eq (tgt := 46) C.x C.b dX11_item_40 rfl (fun c40 => ?_) (fun c40 => ?_)
        · replace hf := x_ip c40 hf
          refine lv_aload C.x C.b dX11_item_46 (lv_at hl 0 rfl) ?_
          refine lv_iload_n C.x C.b dX11_item_48 rfl (lv_at hl 4 rfl) ?_
          replace hf := x_b1 hf; obtain ⟨_, hk49_7, hf⟩ := hf
          replace hf := x_b1 hf; obtain ⟨x49_8, hx49_8, hf⟩ := hf
          refine x_callV (As := [.int p3]) (a := a28_5) (rest := []) C hW hl (qX6_hasItem l E hx49_8) (x_gk hk49_7) (by decide) (by decide) rfl gv_X11_315 ⟨rfl, hd_X6_hasItem⟩ rfl rfl (Nat.le_of_ble_eq_true rfl) dX11_item_49 ⟨Nat.le_of_ble_eq_true rfl, Nat.le_of_ble_eq_true rfl⟩ ⟨Nat.le_of_ble_eq_true rfl, Nat.le_of_ble_eq_true rfl⟩ (fun H locs hW => ?_)
          refine lv_if_eq (tgt := 66) C.x C.b dX11_item_52 rfl (fun c52 => ?_) (fun c52 => ?_)
          · replace hf := x_ip c52 hf
            refine lv_bipush (v := (-12)) C.x C.b dX11_item_66 (by decide) ?_
            rw [x_e0 hf]
            exact x_iret C hr hW dX11_item_68
          · replace hf := x_in c52 hf
            refine lv_aload C.x C.b dX11_item_55 (lv_at hl 0 rfl) ?_
            replace hf := x_b1 hf; obtain ⟨a57_9, ha57_9, hf⟩ := hf
            refine x_getn C hW fg_X11_296_9 ha57_9 dX11_item_57 ?_
            refine lv_iload_n C.x C.b dX11_item_60 rfl (lv_at hl 4 rfl) ?_
            replace hf := x_b1 hf; obtain ⟨x61_10, hx61_10, hf⟩ := hf
            refine x_lald C hW hx61_10 dX11_item_61 ?_
            refine lv_l2i (v := x61_10.toInt32) C.x C.b dX11_item_62 rfl ?_
            refine lv_goto (tgt := 68) C.x C.b dX11_item_63 rfl ?_
            rw [x_e0 hf]
            exact x_iret C hr hW dX11_item_68
        · replace hf := x_in c40 hf
          refine lv_bipush (v := (-13)) C.x C.b dX11_item_43 (by decide) ?_
          rw [x_e0 hf]
          exact x_iret C hr hW dX11_item_45
    · replace hf := x_ip c13 hf
      refine lv_iconst (v := (-1)) C.x C.b dX11_item_16 (by decide) ?_
      rw [x_e0 hf]
      exact x_iret C hr hW dX11_item_17

theorem dX11_isShelf_0 : decode cX11_isShelf 0 = .ok (.iload_n 0, 1) := by decide +kernel
theorem dX11_isShelf_1 : decode cX11_isShelf 1 = .ok (.iconst 0, 1) := by decide +kernel
theorem dX11_isShelf_2 : decode cX11_isShelf 2 = .ok (.iconst 3, 1) := by decide +kernel
theorem dX11_isShelf_3 : decode cX11_isShelf 3 = .ok (.invokestatic 69, 3) := by decide +kernel
theorem dX11_isShelf_6 : decode cX11_isShelf 6 = .ok (.ireturn, 1) := by decide +kernel
def fX11_isShelf (M : Mm) (p1 : Int32) : Option Int32 :=
  B1 (fX11_isWithin M p1 0 3) fun x3_1 =>
  bz x3_1
set_option maxRecDepth 100000 in
set_option maxHeartbeats 4000000 in
theorem qX11_isShelf (l : Launch) (E : Ev) {M : Mm} {p1 : Int32} {rz : Int32} (hf : fX11_isShelf M p1 = some rz) : Ct l E yX11_isShelf cX11_isShelf 1 (some .boolean) 1 22 0 0 [.int p1] M (some (.int rz)) M := by
  refine ct_of (by decide +kernel) (Nat.le_of_ble_eq_true rfl) fun p e s m args below meth c C hr hin hW ls hl => ?_
  have hl : lv_has ls 1 [(0, .int p1)] := hl
  unfold fX11_isShelf at hf
  refine lv_iload_n C.x C.b dX11_isShelf_0 rfl (lv_at hl 0 rfl) ?_
  refine lv_iconst (v := 0) C.x C.b dX11_isShelf_1 (by decide) ?_
  refine lv_iconst (v := 3) C.x C.b dX11_isShelf_2 (by decide) ?_
  replace hf := x_b1 hf; obtain ⟨x3_1, hx3_1, hf⟩ := hf
  refine x_callS (As := [.int p1, .int 0, .int 3]) (rest := []) C hW hl (qX11_isWithin l E hx3_1) gs_X11_69 hd_X11_isWithin rfl rfl (Nat.le_of_ble_eq_true rfl) dX11_isShelf_3 ⟨Nat.le_of_ble_eq_true rfl, Nat.le_of_ble_eq_true rfl⟩ ⟨Nat.le_of_ble_eq_true rfl, Nat.le_of_ble_eq_true rfl⟩ (fun H locs hW => ?_)
  exact x_zret C hr hW hf dX11_isShelf_6

theorem dX11_shelf_0 : decode cX11_shelf 0 = .ok (.iload_n 1, 1) := by decide +kernel
theorem dX11_shelf_1 : decode cX11_shelf 1 = .ok (.invokestatic 322, 3) := by decide +kernel
theorem dX11_shelf_4 : decode cX11_shelf 4 = .ok (.ifCond .eq 39, 3) := by decide +kernel
theorem dX11_shelf_7 : decode cX11_shelf 7 = .ok (.iload_n 2, 1) := by decide +kernel
theorem dX11_shelf_8 : decode cX11_shelf 8 = .ok (.iconst 0, 1) := by decide +kernel
theorem dX11_shelf_9 : decode cX11_shelf 9 = .ok (.iconst 2, 1) := by decide +kernel
theorem dX11_shelf_10 : decode cX11_shelf 10 = .ok (.invokestatic 69, 3) := by decide +kernel
theorem dX11_shelf_13 : decode cX11_shelf 13 = .ok (.ifCond .eq 30, 3) := by decide +kernel
theorem dX11_shelf_16 : decode cX11_shelf 16 = .ok (.iload_n 2, 1) := by decide +kernel
theorem dX11_shelf_17 : decode cX11_shelf 17 = .ok (.ifCond .ne 14, 3) := by decide +kernel
theorem dX11_shelf_20 : decode cX11_shelf 20 = .ok (.aload_n 0, 1) := by decide +kernel
theorem dX11_shelf_21 : decode cX11_shelf 21 = .ok (.getfield 10, 3) := by decide +kernel
theorem dX11_shelf_24 : decode cX11_shelf 24 = .ok (.iload_n 3, 1) := by decide +kernel
theorem dX11_shelf_25 : decode cX11_shelf 25 = .ok (.invokevirtual 120, 3) := by decide +kernel
theorem dX11_shelf_28 : decode cX11_shelf 28 = .ok (.ifnull 15, 3) := by decide +kernel
theorem dX11_shelf_31 : decode cX11_shelf 31 = .ok (.iload_n 2, 1) := by decide +kernel
theorem dX11_shelf_32 : decode cX11_shelf 32 = .ok (.iconst 1, 1) := by decide +kernel
theorem dX11_shelf_33 : decode cX11_shelf 33 = .ok (.if_icmp .ne 12, 3) := by decide +kernel
theorem dX11_shelf_36 : decode cX11_shelf 36 = .ok (.iload_n 3, 1) := by decide +kernel
theorem dX11_shelf_37 : decode cX11_shelf 37 = .ok (.invokestatic 290, 3) := by decide +kernel
theorem dX11_shelf_40 : decode cX11_shelf 40 = .ok (.ifCond .ne 5, 3) := by decide +kernel
theorem dX11_shelf_43 : decode cX11_shelf 43 = .ok (.iconst (-1), 1) := by decide +kernel
theorem dX11_shelf_44 : decode cX11_shelf 44 = .ok (.ireturn, 1) := by decide +kernel
theorem dX11_shelf_45 : decode cX11_shelf 45 = .ok (.aload_n 0, 1) := by decide +kernel
theorem dX11_shelf_46 : decode cX11_shelf 46 = .ok (.getfield 55, 3) := by decide +kernel
theorem dX11_shelf_49 : decode cX11_shelf 49 = .ok (.iload_n 1, 1) := by decide +kernel
theorem dX11_shelf_50 : decode cX11_shelf 50 = .ok (.iload_n 2, 1) := by decide +kernel
theorem dX11_shelf_51 : decode cX11_shelf 51 = .ok (.ifCond .ne 7, 3) := by decide +kernel
theorem dX11_shelf_54 : decode cX11_shelf 54 = .ok (.iload_n 3, 1) := by decide +kernel
theorem dX11_shelf_55 : decode cX11_shelf 55 = .ok (.goto 4, 3) := by decide +kernel
theorem dX11_shelf_58 : decode cX11_shelf 58 = .ok (.iconst (-1), 1) := by decide +kernel
theorem dX11_shelf_59 : decode cX11_shelf 59 = .ok (.iastore, 1) := by decide +kernel
theorem dX11_shelf_60 : decode cX11_shelf 60 = .ok (.aload_n 0, 1) := by decide +kernel
theorem dX11_shelf_61 : decode cX11_shelf 61 = .ok (.getfield 59, 3) := by decide +kernel
theorem dX11_shelf_64 : decode cX11_shelf 64 = .ok (.iload_n 1, 1) := by decide +kernel
theorem dX11_shelf_65 : decode cX11_shelf 65 = .ok (.iload_n 2, 1) := by decide +kernel
theorem dX11_shelf_66 : decode cX11_shelf 66 = .ok (.iconst 1, 1) := by decide +kernel
theorem dX11_shelf_67 : decode cX11_shelf 67 = .ok (.if_icmp .ne 12, 3) := by decide +kernel
theorem dX11_shelf_70 : decode cX11_shelf 70 = .ok (.aload_n 0, 1) := by decide +kernel
theorem dX11_shelf_71 : decode cX11_shelf 71 = .ok (.getfield 51, 3) := by decide +kernel
theorem dX11_shelf_74 : decode cX11_shelf 74 = .ok (.iload_n 3, 1) := by decide +kernel
theorem dX11_shelf_75 : decode cX11_shelf 75 = .ok (.aaload, 1) := by decide +kernel
theorem dX11_shelf_76 : decode cX11_shelf 76 = .ok (.goto 4, 3) := by decide +kernel
theorem dX11_shelf_79 : decode cX11_shelf 79 = .ok (.aconst_null, 1) := by decide +kernel
theorem dX11_shelf_80 : decode cX11_shelf 80 = .ok (.aastore, 1) := by decide +kernel
theorem dX11_shelf_81 : decode cX11_shelf 81 = .ok (.iconst 1, 1) := by decide +kernel
theorem dX11_shelf_82 : decode cX11_shelf 82 = .ok (.ireturn, 1) := by decide +kernel
theorem hd_X11_isShelf : yX11_isShelf.cls ≠ "java/lang/invoke/MethodHandle" ∧ yX11_isShelf.cls ≠ "java/lang/invoke/VarHandle" ∧ (parseMethodDescriptor yX11_isShelf.desc).map (fun d => d.parameters.length) = some 1 := by decide +kernel
theorem gs_X11_322 : GoodIn gT (va_wsS "NylonLadder" 322 yX11_isShelf (Cond.code yX11_isShelf cX11_isShelf 1 (some .boolean) :: gT)) := good_S T_4_177 T_4_178 T_1_1 T_4_179
theorem fg_X11_55_14 : FdG "NylonLadder" 55 14 9 true := ⟨_, _, _, _, rfl, by decide, by decide, by decide, gxX11, by decide, T_1_239, Or.inl rfl, rfl⟩
theorem fg_X11_59_14 : FdG "NylonLadder" 59 14 10 true := ⟨_, _, _, _, rfl, by decide, by decide, by decide, gxX11, by decide, T_2_0, Or.inl rfl, rfl⟩
def fX11_shelf (M : Mm) (o : Nat) (p1 : Int32) (p2 : Int32) (p3 : Int32) : Option (Int32 × Mm) :=
  B1 (fX11_isShelf M p1) fun x1_1 =>
  if x1_1 = 0 then
    some ((-1), M)
  else
    B1 (fX11_isWithin M p2 0 2) fun x10_2 =>
    if x10_2 = 0 then
      some ((-1), M)
    else
      if p2 = 0 then
        B1 (rdN M o 14 0) fun a21_30 =>
        B1 (gk M a21_30 3) fun _ =>
        B1 (fX0_stockingAt M a21_30 p3) fun x25_32 =>
        NL x25_32 (
          some ((-1), M)) (fun a28_33 =>
          if p2 = 1 then
            B1 (fX11_isSheet M p3) fun x37_47 =>
            if x37_47 = 0 then
              some ((-1), M)
            else
              B1 (rdN M o 14 9) fun a46_48 =>
              if p2 = 0 then
                B1 (asI M a46_48 p1 p3) fun M59_55 =>
                B1 (rdN M59_55 o 14 10) fun a61_56 =>
                if p2 = 1 then
                  B1 (rdN M59_55 o 14 8) fun a71_58 =>
                  B1 (alQ M59_55 a71_58 25 p3) fun r75_59 =>
                  B1 (asR M59_55 a61_56 25 p1 9 r75_59) fun M80_60 =>
                  some (1, M80_60)
                else
                  B1 (asR M59_55 a61_56 25 p1 9 none) fun M80_57 =>
                  some (1, M80_57)
              else
                B1 (asI M a46_48 p1 (-1)) fun M59_49 =>
                B1 (rdN M59_49 o 14 10) fun a61_50 =>
                if p2 = 1 then
                  B1 (rdN M59_49 o 14 8) fun a71_52 =>
                  B1 (alQ M59_49 a71_52 25 p3) fun r75_53 =>
                  B1 (asR M59_49 a61_50 25 p1 9 r75_53) fun M80_54 =>
                  some (1, M80_54)
                else
                  B1 (asR M59_49 a61_50 25 p1 9 none) fun M80_51 =>
                  some (1, M80_51)
          else
            B1 (rdN M o 14 9) fun a46_34 =>
            if p2 = 0 then
              B1 (asI M a46_34 p1 p3) fun M59_41 =>
              B1 (rdN M59_41 o 14 10) fun a61_42 =>
              if p2 = 1 then
                B1 (rdN M59_41 o 14 8) fun a71_44 =>
                B1 (alQ M59_41 a71_44 25 p3) fun r75_45 =>
                B1 (asR M59_41 a61_42 25 p1 9 r75_45) fun M80_46 =>
                some (1, M80_46)
              else
                B1 (asR M59_41 a61_42 25 p1 9 none) fun M80_43 =>
                some (1, M80_43)
            else
              B1 (asI M a46_34 p1 (-1)) fun M59_35 =>
              B1 (rdN M59_35 o 14 10) fun a61_36 =>
              if p2 = 1 then
                B1 (rdN M59_35 o 14 8) fun a71_38 =>
                B1 (alQ M59_35 a71_38 25 p3) fun r75_39 =>
                B1 (asR M59_35 a61_36 25 p1 9 r75_39) fun M80_40 =>
                some (1, M80_40)
              else
                B1 (asR M59_35 a61_36 25 p1 9 none) fun M80_37 =>
                some (1, M80_37))
      else
        if p2 = 1 then
          B1 (fX11_isSheet M p3) fun x37_16 =>
          if x37_16 = 0 then
            some ((-1), M)
          else
            B1 (rdN M o 14 9) fun a46_17 =>
            if p2 = 0 then
              B1 (asI M a46_17 p1 p3) fun M59_24 =>
              B1 (rdN M59_24 o 14 10) fun a61_25 =>
              if p2 = 1 then
                B1 (rdN M59_24 o 14 8) fun a71_27 =>
                B1 (alQ M59_24 a71_27 25 p3) fun r75_28 =>
                B1 (asR M59_24 a61_25 25 p1 9 r75_28) fun M80_29 =>
                some (1, M80_29)
              else
                B1 (asR M59_24 a61_25 25 p1 9 none) fun M80_26 =>
                some (1, M80_26)
            else
              B1 (asI M a46_17 p1 (-1)) fun M59_18 =>
              B1 (rdN M59_18 o 14 10) fun a61_19 =>
              if p2 = 1 then
                B1 (rdN M59_18 o 14 8) fun a71_21 =>
                B1 (alQ M59_18 a71_21 25 p3) fun r75_22 =>
                B1 (asR M59_18 a61_19 25 p1 9 r75_22) fun M80_23 =>
                some (1, M80_23)
              else
                B1 (asR M59_18 a61_19 25 p1 9 none) fun M80_20 =>
                some (1, M80_20)
        else
          B1 (rdN M o 14 9) fun a46_3 =>
          if p2 = 0 then
            B1 (asI M a46_3 p1 p3) fun M59_10 =>
            B1 (rdN M59_10 o 14 10) fun a61_11 =>
            if p2 = 1 then
              B1 (rdN M59_10 o 14 8) fun a71_13 =>
              B1 (alQ M59_10 a71_13 25 p3) fun r75_14 =>
              B1 (asR M59_10 a61_11 25 p1 9 r75_14) fun M80_15 =>
              some (1, M80_15)
            else
              B1 (asR M59_10 a61_11 25 p1 9 none) fun M80_12 =>
              some (1, M80_12)
          else
            B1 (asI M a46_3 p1 (-1)) fun M59_4 =>
            B1 (rdN M59_4 o 14 10) fun a61_5 =>
            if p2 = 1 then
              B1 (rdN M59_4 o 14 8) fun a71_7 =>
              B1 (alQ M59_4 a71_7 25 p3) fun r75_8 =>
              B1 (asR M59_4 a61_5 25 p1 9 r75_8) fun M80_9 =>
              some (1, M80_9)
            else
              B1 (asR M59_4 a61_5 25 p1 9 none) fun M80_6 =>
              some (1, M80_6)
set_option maxRecDepth 100000 in
set_option maxHeartbeats 4000000 in
theorem qX11_shelf (l : Launch) (E : Ev) {M : Mm} {o : Nat} {p1 : Int32} {p2 : Int32} {p3 : Int32} {rz : Int32} {Mz : Mm} (hf : fX11_shelf M o p1 p2 p3 = some (rz, Mz)) : Ct l E yX11_shelf cX11_shelf 4 (some .int) 2 43 0 0 [.ref (E.b + o), .int p1, .int p2, .int p3] M (some (.int rz)) Mz := by
  refine ct_of (by decide +kernel) (Nat.le_of_ble_eq_true rfl) fun p e s m args below meth c C hr hin hW ls hl => ?_
  have hl : lv_has ls 4 [(0, .ref (E.b + o)), (1, .int p1), (2, .int p2), (3, .int p3)] := hl
  unfold fX11_shelf at hf
  refine lv_iload_n C.x C.b dX11_shelf_0 rfl (lv_at hl 1 rfl) ?_
  replace hf := x_b1 hf; obtain ⟨x1_1, hx1_1, hf⟩ := hf
  refine x_callS (As := [.int p1]) (rest := []) C hW hl (qX11_isShelf l E hx1_1) gs_X11_322 hd_X11_isShelf rfl rfl (Nat.le_of_ble_eq_true rfl) dX11_shelf_1 ⟨Nat.le_of_ble_eq_true rfl, Nat.le_of_ble_eq_true rfl⟩ ⟨Nat.le_of_ble_eq_true rfl, Nat.le_of_ble_eq_true rfl⟩ (fun H locs hW => ?_)
  refine lv_if_eq (tgt := 43) C.x C.b dX11_shelf_4 rfl (fun c4 => ?_) (fun c4 => ?_)
  · replace hf := x_ip c4 hf
    refine lv_iconst (v := (-1)) C.x C.b dX11_shelf_43 (by decide) ?_
    rw [x_e1 hf, x_e2 hf]
    exact x_iret C hr hW dX11_shelf_44
  · replace hf := x_in c4 hf
    refine lv_iload_n C.x C.b dX11_shelf_7 rfl (lv_at hl 2 rfl) ?_
    refine lv_iconst (v := 0) C.x C.b dX11_shelf_8 (by decide) ?_
    refine lv_iconst (v := 2) C.x C.b dX11_shelf_9 (by decide) ?_
    replace hf := x_b1 hf; obtain ⟨x10_2, hx10_2, hf⟩ := hf
    refine x_callS (As := [.int p2, .int 0, .int 2]) (rest := []) C hW hl (qX11_isWithin l E hx10_2) gs_X11_69 hd_X11_isWithin rfl rfl (Nat.le_of_ble_eq_true rfl) dX11_shelf_10 ⟨Nat.le_of_ble_eq_true rfl, Nat.le_of_ble_eq_true rfl⟩ ⟨Nat.le_of_ble_eq_true rfl, Nat.le_of_ble_eq_true rfl⟩ (fun H locs hW => ?_)
    refine lv_if_eq (tgt := 43) C.x C.b dX11_shelf_13 rfl (fun c13 => ?_) (fun c13 => ?_)
    · replace hf := x_ip c13 hf
      refine lv_iconst (v := (-1)) C.x C.b dX11_shelf_43 (by decide) ?_
      rw [x_e1 hf, x_e2 hf]
      exact x_iret C hr hW dX11_shelf_44
    · replace hf := x_in c13 hf
      refine lv_iload_n C.x C.b dX11_shelf_16 rfl (lv_at hl 2 rfl) ?_
      refine lv_if_ne (tgt := 31) C.x C.b dX11_shelf_17 rfl (fun c17 => ?_) (fun c17 => ?_)
      · replace hf := x_in c17 hf
        refine lv_iload_n C.x C.b dX11_shelf_31 rfl (lv_at hl 2 rfl) ?_
        refine lv_iconst (v := 1) C.x C.b dX11_shelf_32 (by decide) ?_
        refine lv_icmp_ne (tgt := 45) C.x C.b dX11_shelf_33 rfl (fun c33 => ?_) (fun c33 => ?_)
        · replace hf := x_in c33 hf
          refine lv_aload_n C.x C.b dX11_shelf_45 rfl (lv_at hl 0 rfl) ?_
          replace hf := x_b1 hf; obtain ⟨a46_3, ha46_3, hf⟩ := hf
          refine x_getn C hW fg_X11_55_14 ha46_3 dX11_shelf_46 ?_
          refine lv_iload_n C.x C.b dX11_shelf_49 rfl (lv_at hl 1 rfl) ?_
          refine lv_iload_n C.x C.b dX11_shelf_50 rfl (lv_at hl 2 rfl) ?_
          refine lv_if_ne (tgt := 58) C.x C.b dX11_shelf_51 rfl (fun c51 => ?_) (fun c51 => ?_)
          · replace hf := x_in c51 hf
            refine lv_iconst (v := (-1)) C.x C.b dX11_shelf_58 (by decide) ?_
            replace hf := x_b1 hf; obtain ⟨M59_4, hM59_4, hf⟩ := hf
            refine x_iast C hW hM59_4 dX11_shelf_59 (fun H locs hW => ?_)
            refine lv_aload_n C.x C.b dX11_shelf_60 rfl (lv_at hl 0 rfl) ?_
            replace hf := x_b1 hf; obtain ⟨a61_5, ha61_5, hf⟩ := hf
            refine x_getn C hW fg_X11_59_14 ha61_5 dX11_shelf_61 ?_
            refine lv_iload_n C.x C.b dX11_shelf_64 rfl (lv_at hl 1 rfl) ?_
            refine lv_iload_n C.x C.b dX11_shelf_65 rfl (lv_at hl 2 rfl) ?_
            refine lv_iconst (v := 1) C.x C.b dX11_shelf_66 (by decide) ?_
            refine lv_icmp_ne (tgt := 79) C.x C.b dX11_shelf_67 rfl (fun c67 => ?_) (fun c67 => ?_)
            · replace hf := x_in c67 hf
              refine lv_null C.x C.b dX11_shelf_79 ?_
              replace hf := x_b1 hf; obtain ⟨M80_6, hM80_6, hf⟩ := hf
              refine x_aast (v := none) C hW (kd := 25) (ko := 9) (by decide) rfl rfl hM80_6 dX11_shelf_80 (fun H locs hW => ?_)
              refine lv_iconst (v := 1) C.x C.b dX11_shelf_81 (by decide) ?_
              rw [x_e1 hf, x_e2 hf]
              exact x_iret C hr hW dX11_shelf_82
            · replace hf := x_ip c67 hf
              refine lv_aload_n C.x C.b dX11_shelf_70 rfl (lv_at hl 0 rfl) ?_
              replace hf := x_b1 hf; obtain ⟨a71_7, ha71_7, hf⟩ := hf
              refine x_getn C hW fg_X11_51_14 ha71_7 dX11_shelf_71 ?_
              refine lv_iload_n C.x C.b dX11_shelf_74 rfl (lv_at hl 3 rfl) ?_
              replace hf := x_b1 hf; obtain ⟨r75_8, hr75_8, hf⟩ := hf
              refine x_aldq C hW (kd := 25) (by decide) (by decide) hr75_8 dX11_shelf_75 ?_
              refine lv_goto (tgt := 80) C.x C.b dX11_shelf_76 rfl ?_
              replace hf := x_b1 hf; obtain ⟨M80_9, hM80_9, hf⟩ := hf
              refine x_aast (v := r75_8) C hW (kd := 25) (ko := 9) (by decide) rfl rfl hM80_9 dX11_shelf_80 (fun H locs hW => ?_)
              refine lv_iconst (v := 1) C.x C.b dX11_shelf_81 (by decide) ?_
              rw [x_e1 hf, x_e2 hf]
              exact x_iret C hr hW dX11_shelf_82
          · replace hf := x_ip c51 hf
            refine lv_iload_n C.x C.b dX11_shelf_54 rfl (lv_at hl 3 rfl) ?_
            refine lv_goto (tgt := 59) C.x C.b dX11_shelf_55 rfl ?_
            replace hf := x_b1 hf; obtain ⟨M59_10, hM59_10, hf⟩ := hf
            refine x_iast C hW hM59_10 dX11_shelf_59 (fun H locs hW => ?_)
            refine lv_aload_n C.x C.b dX11_shelf_60 rfl (lv_at hl 0 rfl) ?_
            replace hf := x_b1 hf; obtain ⟨a61_11, ha61_11, hf⟩ := hf
            refine x_getn C hW fg_X11_59_14 ha61_11 dX11_shelf_61 ?_
            refine lv_iload_n C.x C.b dX11_shelf_64 rfl (lv_at hl 1 rfl) ?_
            refine lv_iload_n C.x C.b dX11_shelf_65 rfl (lv_at hl 2 rfl) ?_
            refine lv_iconst (v := 1) C.x C.b dX11_shelf_66 (by decide) ?_
            refine lv_icmp_ne (tgt := 79) C.x C.b dX11_shelf_67 rfl (fun c67 => ?_) (fun c67 => ?_)
            · replace hf := x_in c67 hf
              refine lv_null C.x C.b dX11_shelf_79 ?_
              replace hf := x_b1 hf; obtain ⟨M80_12, hM80_12, hf⟩ := hf
              refine x_aast (v := none) C hW (kd := 25) (ko := 9) (by decide) rfl rfl hM80_12 dX11_shelf_80 (fun H locs hW => ?_)
              refine lv_iconst (v := 1) C.x C.b dX11_shelf_81 (by decide) ?_
              rw [x_e1 hf, x_e2 hf]
              exact x_iret C hr hW dX11_shelf_82
            · replace hf := x_ip c67 hf
              refine lv_aload_n C.x C.b dX11_shelf_70 rfl (lv_at hl 0 rfl) ?_
              replace hf := x_b1 hf; obtain ⟨a71_13, ha71_13, hf⟩ := hf
              refine x_getn C hW fg_X11_51_14 ha71_13 dX11_shelf_71 ?_
              refine lv_iload_n C.x C.b dX11_shelf_74 rfl (lv_at hl 3 rfl) ?_
              replace hf := x_b1 hf; obtain ⟨r75_14, hr75_14, hf⟩ := hf
              refine x_aldq C hW (kd := 25) (by decide) (by decide) hr75_14 dX11_shelf_75 ?_
              refine lv_goto (tgt := 80) C.x C.b dX11_shelf_76 rfl ?_
              replace hf := x_b1 hf; obtain ⟨M80_15, hM80_15, hf⟩ := hf
              refine x_aast (v := r75_14) C hW (kd := 25) (ko := 9) (by decide) rfl rfl hM80_15 dX11_shelf_80 (fun H locs hW => ?_)
              refine lv_iconst (v := 1) C.x C.b dX11_shelf_81 (by decide) ?_
              rw [x_e1 hf, x_e2 hf]
              exact x_iret C hr hW dX11_shelf_82
        · replace hf := x_ip c33 hf
          refine lv_iload_n C.x C.b dX11_shelf_36 rfl (lv_at hl 3 rfl) ?_
          replace hf := x_b1 hf; obtain ⟨x37_16, hx37_16, hf⟩ := hf
          refine x_callS (As := [.int p3]) (rest := []) C hW hl (qX11_isSheet l E hx37_16) gs_X11_290 hd_X11_isSheet rfl rfl (Nat.le_of_ble_eq_true rfl) dX11_shelf_37 ⟨Nat.le_of_ble_eq_true rfl, Nat.le_of_ble_eq_true rfl⟩ ⟨Nat.le_of_ble_eq_true rfl, Nat.le_of_ble_eq_true rfl⟩ (fun H locs hW => ?_)
          refine lv_if_ne (tgt := 45) C.x C.b dX11_shelf_40 rfl (fun c40 => ?_) (fun c40 => ?_)
          · replace hf := x_in c40 hf
            refine lv_aload_n C.x C.b dX11_shelf_45 rfl (lv_at hl 0 rfl) ?_
            replace hf := x_b1 hf; obtain ⟨a46_17, ha46_17, hf⟩ := hf
            refine x_getn C hW fg_X11_55_14 ha46_17 dX11_shelf_46 ?_
            refine lv_iload_n C.x C.b dX11_shelf_49 rfl (lv_at hl 1 rfl) ?_
            refine lv_iload_n C.x C.b dX11_shelf_50 rfl (lv_at hl 2 rfl) ?_
            refine lv_if_ne (tgt := 58) C.x C.b dX11_shelf_51 rfl (fun c51 => ?_) (fun c51 => ?_)
            · replace hf := x_in c51 hf
              refine lv_iconst (v := (-1)) C.x C.b dX11_shelf_58 (by decide) ?_
              replace hf := x_b1 hf; obtain ⟨M59_18, hM59_18, hf⟩ := hf
              refine x_iast C hW hM59_18 dX11_shelf_59 (fun H locs hW => ?_)
              refine lv_aload_n C.x C.b dX11_shelf_60 rfl (lv_at hl 0 rfl) ?_
              replace hf := x_b1 hf; obtain ⟨a61_19, ha61_19, hf⟩ := hf
              refine x_getn C hW fg_X11_59_14 ha61_19 dX11_shelf_61 ?_
              refine lv_iload_n C.x C.b dX11_shelf_64 rfl (lv_at hl 1 rfl) ?_
              refine lv_iload_n C.x C.b dX11_shelf_65 rfl (lv_at hl 2 rfl) ?_
              refine lv_iconst (v := 1) C.x C.b dX11_shelf_66 (by decide) ?_
              refine lv_icmp_ne (tgt := 79) C.x C.b dX11_shelf_67 rfl (fun c67 => ?_) (fun c67 => ?_)
              · replace hf := x_in c67 hf
                refine lv_null C.x C.b dX11_shelf_79 ?_
                replace hf := x_b1 hf; obtain ⟨M80_20, hM80_20, hf⟩ := hf
                refine x_aast (v := none) C hW (kd := 25) (ko := 9) (by decide) rfl rfl hM80_20 dX11_shelf_80 (fun H locs hW => ?_)
                refine lv_iconst (v := 1) C.x C.b dX11_shelf_81 (by decide) ?_
                rw [x_e1 hf, x_e2 hf]
                exact x_iret C hr hW dX11_shelf_82
              · replace hf := x_ip c67 hf
                refine lv_aload_n C.x C.b dX11_shelf_70 rfl (lv_at hl 0 rfl) ?_
                replace hf := x_b1 hf; obtain ⟨a71_21, ha71_21, hf⟩ := hf
                refine x_getn C hW fg_X11_51_14 ha71_21 dX11_shelf_71 ?_
                refine lv_iload_n C.x C.b dX11_shelf_74 rfl (lv_at hl 3 rfl) ?_
                replace hf := x_b1 hf; obtain ⟨r75_22, hr75_22, hf⟩ := hf
                refine x_aldq C hW (kd := 25) (by decide) (by decide) hr75_22 dX11_shelf_75 ?_
                refine lv_goto (tgt := 80) C.x C.b dX11_shelf_76 rfl ?_
                replace hf := x_b1 hf; obtain ⟨M80_23, hM80_23, hf⟩ := hf
                refine x_aast (v := r75_22) C hW (kd := 25) (ko := 9) (by decide) rfl rfl hM80_23 dX11_shelf_80 (fun H locs hW => ?_)
                refine lv_iconst (v := 1) C.x C.b dX11_shelf_81 (by decide) ?_
                rw [x_e1 hf, x_e2 hf]
                exact x_iret C hr hW dX11_shelf_82
            · replace hf := x_ip c51 hf
              refine lv_iload_n C.x C.b dX11_shelf_54 rfl (lv_at hl 3 rfl) ?_
              refine lv_goto (tgt := 59) C.x C.b dX11_shelf_55 rfl ?_
              replace hf := x_b1 hf; obtain ⟨M59_24, hM59_24, hf⟩ := hf
              refine x_iast C hW hM59_24 dX11_shelf_59 (fun H locs hW => ?_)
              refine lv_aload_n C.x C.b dX11_shelf_60 rfl (lv_at hl 0 rfl) ?_
              replace hf := x_b1 hf; obtain ⟨a61_25, ha61_25, hf⟩ := hf
              refine x_getn C hW fg_X11_59_14 ha61_25 dX11_shelf_61 ?_
              refine lv_iload_n C.x C.b dX11_shelf_64 rfl (lv_at hl 1 rfl) ?_
              refine lv_iload_n C.x C.b dX11_shelf_65 rfl (lv_at hl 2 rfl) ?_
              refine lv_iconst (v := 1) C.x C.b dX11_shelf_66 (by decide) ?_
              refine lv_icmp_ne (tgt := 79) C.x C.b dX11_shelf_67 rfl (fun c67 => ?_) (fun c67 => ?_)
              · replace hf := x_in c67 hf
                refine lv_null C.x C.b dX11_shelf_79 ?_
                replace hf := x_b1 hf; obtain ⟨M80_26, hM80_26, hf⟩ := hf
                refine x_aast (v := none) C hW (kd := 25) (ko := 9) (by decide) rfl rfl hM80_26 dX11_shelf_80 (fun H locs hW => ?_)
                refine lv_iconst (v := 1) C.x C.b dX11_shelf_81 (by decide) ?_
                rw [x_e1 hf, x_e2 hf]
                exact x_iret C hr hW dX11_shelf_82
              · replace hf := x_ip c67 hf
                refine lv_aload_n C.x C.b dX11_shelf_70 rfl (lv_at hl 0 rfl) ?_
                replace hf := x_b1 hf; obtain ⟨a71_27, ha71_27, hf⟩ := hf
                refine x_getn C hW fg_X11_51_14 ha71_27 dX11_shelf_71 ?_
                refine lv_iload_n C.x C.b dX11_shelf_74 rfl (lv_at hl 3 rfl) ?_
                replace hf := x_b1 hf; obtain ⟨r75_28, hr75_28, hf⟩ := hf
                refine x_aldq C hW (kd := 25) (by decide) (by decide) hr75_28 dX11_shelf_75 ?_
                refine lv_goto (tgt := 80) C.x C.b dX11_shelf_76 rfl ?_
                replace hf := x_b1 hf; obtain ⟨M80_29, hM80_29, hf⟩ := hf
                refine x_aast (v := r75_28) C hW (kd := 25) (ko := 9) (by decide) rfl rfl hM80_29 dX11_shelf_80 (fun H locs hW => ?_)
                refine lv_iconst (v := 1) C.x C.b dX11_shelf_81 (by decide) ?_
                rw [x_e1 hf, x_e2 hf]
                exact x_iret C hr hW dX11_shelf_82
          · replace hf := x_ip c40 hf
            refine lv_iconst (v := (-1)) C.x C.b dX11_shelf_43 (by decide) ?_
            rw [x_e1 hf, x_e2 hf]
            exact x_iret C hr hW dX11_shelf_44
      · replace hf := x_ip c17 hf
        refine lv_aload_n C.x C.b dX11_shelf_20 rfl (lv_at hl 0 rfl) ?_
        replace hf := x_b1 hf; obtain ⟨a21_30, ha21_30, hf⟩ := hf
        refine x_getn C hW fg_X11_10_14 ha21_30 dX11_shelf_21 ?_
        refine lv_iload_n C.x C.b dX11_shelf_24 rfl (lv_at hl 3 rfl) ?_
        replace hf := x_b1 hf; obtain ⟨_, hk25_31, hf⟩ := hf
        replace hf := x_b1 hf; obtain ⟨x25_32, hx25_32, hf⟩ := hf
        refine x_callV (As := [.int p3]) (a := a21_30) (rest := []) C hW hl (qX0_stockingAt l E hx25_32) (x_gk hk25_31) (by decide) (by decide) rfl gv_X11_120 ⟨rfl, hd_X0_stockingAt⟩ rfl rfl (Nat.le_of_ble_eq_true rfl) dX11_shelf_25 ⟨Nat.le_of_ble_eq_true rfl, Nat.le_of_ble_eq_true rfl⟩ ⟨Nat.le_of_ble_eq_true rfl, Nat.le_of_ble_eq_true rfl⟩ (fun H locs hW => ?_)
        replace hf := x_nl hf; rcases hf with ⟨rfl, hf⟩ | ⟨a28_33, rfl, hf⟩
        · refine lv_ifnullN (tgt := 43) C.x C.b dX11_shelf_28 rfl ?_
          refine lv_iconst (v := (-1)) C.x C.b dX11_shelf_43 (by decide) ?_
          rw [x_e1 hf, x_e2 hf]
          exact x_iret C hr hW dX11_shelf_44
        · refine lv_ifnull C.x C.b dX11_shelf_28 ?_
          refine lv_iload_n C.x C.b dX11_shelf_31 rfl (lv_at hl 2 rfl) ?_
          refine lv_iconst (v := 1) C.x C.b dX11_shelf_32 (by decide) ?_
          refine lv_icmp_ne (tgt := 45) C.x C.b dX11_shelf_33 rfl (fun c33 => ?_) (fun c33 => ?_)
          · replace hf := x_in c33 hf
            refine lv_aload_n C.x C.b dX11_shelf_45 rfl (lv_at hl 0 rfl) ?_
            replace hf := x_b1 hf; obtain ⟨a46_34, ha46_34, hf⟩ := hf
            refine x_getn C hW fg_X11_55_14 ha46_34 dX11_shelf_46 ?_
            refine lv_iload_n C.x C.b dX11_shelf_49 rfl (lv_at hl 1 rfl) ?_
            refine lv_iload_n C.x C.b dX11_shelf_50 rfl (lv_at hl 2 rfl) ?_
            refine lv_if_ne (tgt := 58) C.x C.b dX11_shelf_51 rfl (fun c51 => ?_) (fun c51 => ?_)
            · replace hf := x_in c51 hf
              refine lv_iconst (v := (-1)) C.x C.b dX11_shelf_58 (by decide) ?_
              replace hf := x_b1 hf; obtain ⟨M59_35, hM59_35, hf⟩ := hf
              refine x_iast C hW hM59_35 dX11_shelf_59 (fun H locs hW => ?_)
              refine lv_aload_n C.x C.b dX11_shelf_60 rfl (lv_at hl 0 rfl) ?_
              replace hf := x_b1 hf; obtain ⟨a61_36, ha61_36, hf⟩ := hf
              refine x_getn C hW fg_X11_59_14 ha61_36 dX11_shelf_61 ?_
              refine lv_iload_n C.x C.b dX11_shelf_64 rfl (lv_at hl 1 rfl) ?_
              refine lv_iload_n C.x C.b dX11_shelf_65 rfl (lv_at hl 2 rfl) ?_
              refine lv_iconst (v := 1) C.x C.b dX11_shelf_66 (by decide) ?_
              refine lv_icmp_ne (tgt := 79) C.x C.b dX11_shelf_67 rfl (fun c67 => ?_) (fun c67 => ?_)
              · replace hf := x_in c67 hf
                refine lv_null C.x C.b dX11_shelf_79 ?_
                replace hf := x_b1 hf; obtain ⟨M80_37, hM80_37, hf⟩ := hf
                refine x_aast (v := none) C hW (kd := 25) (ko := 9) (by decide) rfl rfl hM80_37 dX11_shelf_80 (fun H locs hW => ?_)
                refine lv_iconst (v := 1) C.x C.b dX11_shelf_81 (by decide) ?_
                rw [x_e1 hf, x_e2 hf]
                exact x_iret C hr hW dX11_shelf_82
              · replace hf := x_ip c67 hf
                refine lv_aload_n C.x C.b dX11_shelf_70 rfl (lv_at hl 0 rfl) ?_
                replace hf := x_b1 hf; obtain ⟨a71_38, ha71_38, hf⟩ := hf
                refine x_getn C hW fg_X11_51_14 ha71_38 dX11_shelf_71 ?_
                refine lv_iload_n C.x C.b dX11_shelf_74 rfl (lv_at hl 3 rfl) ?_
                replace hf := x_b1 hf; obtain ⟨r75_39, hr75_39, hf⟩ := hf
                refine x_aldq C hW (kd := 25) (by decide) (by decide) hr75_39 dX11_shelf_75 ?_
                refine lv_goto (tgt := 80) C.x C.b dX11_shelf_76 rfl ?_
                replace hf := x_b1 hf; obtain ⟨M80_40, hM80_40, hf⟩ := hf
                refine x_aast (v := r75_39) C hW (kd := 25) (ko := 9) (by decide) rfl rfl hM80_40 dX11_shelf_80 (fun H locs hW => ?_)
                refine lv_iconst (v := 1) C.x C.b dX11_shelf_81 (by decide) ?_
                rw [x_e1 hf, x_e2 hf]
                exact x_iret C hr hW dX11_shelf_82
            · replace hf := x_ip c51 hf
              refine lv_iload_n C.x C.b dX11_shelf_54 rfl (lv_at hl 3 rfl) ?_
              refine lv_goto (tgt := 59) C.x C.b dX11_shelf_55 rfl ?_
              replace hf := x_b1 hf; obtain ⟨M59_41, hM59_41, hf⟩ := hf
              refine x_iast C hW hM59_41 dX11_shelf_59 (fun H locs hW => ?_)
              refine lv_aload_n C.x C.b dX11_shelf_60 rfl (lv_at hl 0 rfl) ?_
              replace hf := x_b1 hf; obtain ⟨a61_42, ha61_42, hf⟩ := hf
              refine x_getn C hW fg_X11_59_14 ha61_42 dX11_shelf_61 ?_
              refine lv_iload_n C.x C.b dX11_shelf_64 rfl (lv_at hl 1 rfl) ?_
              refine lv_iload_n C.x C.b dX11_shelf_65 rfl (lv_at hl 2 rfl) ?_
              refine lv_iconst (v := 1) C.x C.b dX11_shelf_66 (by decide) ?_
              refine lv_icmp_ne (tgt := 79) C.x C.b dX11_shelf_67 rfl (fun c67 => ?_) (fun c67 => ?_)
              · replace hf := x_in c67 hf
                refine lv_null C.x C.b dX11_shelf_79 ?_
                replace hf := x_b1 hf; obtain ⟨M80_43, hM80_43, hf⟩ := hf
                refine x_aast (v := none) C hW (kd := 25) (ko := 9) (by decide) rfl rfl hM80_43 dX11_shelf_80 (fun H locs hW => ?_)
                refine lv_iconst (v := 1) C.x C.b dX11_shelf_81 (by decide) ?_
                rw [x_e1 hf, x_e2 hf]
                exact x_iret C hr hW dX11_shelf_82
              · replace hf := x_ip c67 hf
                refine lv_aload_n C.x C.b dX11_shelf_70 rfl (lv_at hl 0 rfl) ?_
                replace hf := x_b1 hf; obtain ⟨a71_44, ha71_44, hf⟩ := hf
                refine x_getn C hW fg_X11_51_14 ha71_44 dX11_shelf_71 ?_
                refine lv_iload_n C.x C.b dX11_shelf_74 rfl (lv_at hl 3 rfl) ?_
                replace hf := x_b1 hf; obtain ⟨r75_45, hr75_45, hf⟩ := hf
                refine x_aldq C hW (kd := 25) (by decide) (by decide) hr75_45 dX11_shelf_75 ?_
                refine lv_goto (tgt := 80) C.x C.b dX11_shelf_76 rfl ?_
                replace hf := x_b1 hf; obtain ⟨M80_46, hM80_46, hf⟩ := hf
                refine x_aast (v := r75_45) C hW (kd := 25) (ko := 9) (by decide) rfl rfl hM80_46 dX11_shelf_80 (fun H locs hW => ?_)
                refine lv_iconst (v := 1) C.x C.b dX11_shelf_81 (by decide) ?_
                rw [x_e1 hf, x_e2 hf]
                exact x_iret C hr hW dX11_shelf_82
          · replace hf := x_ip c33 hf
            refine lv_iload_n C.x C.b dX11_shelf_36 rfl (lv_at hl 3 rfl) ?_
            replace hf := x_b1 hf; obtain ⟨x37_47, hx37_47, hf⟩ := hf
            refine x_callS (As := [.int p3]) (rest := []) C hW hl (qX11_isSheet l E hx37_47) gs_X11_290 hd_X11_isSheet rfl rfl (Nat.le_of_ble_eq_true rfl) dX11_shelf_37 ⟨Nat.le_of_ble_eq_true rfl, Nat.le_of_ble_eq_true rfl⟩ ⟨Nat.le_of_ble_eq_true rfl, Nat.le_of_ble_eq_true rfl⟩ (fun H locs hW => ?_)
            refine lv_if_ne (tgt := 45) C.x C.b dX11_shelf_40 rfl (fun c40 => ?_) (fun c40 => ?_)
            · replace hf := x_in c40 hf
              refine lv_aload_n C.x C.b dX11_shelf_45 rfl (lv_at hl 0 rfl) ?_
              replace hf := x_b1 hf; obtain ⟨a46_48, ha46_48, hf⟩ := hf
              refine x_getn C hW fg_X11_55_14 ha46_48 dX11_shelf_46 ?_
              refine lv_iload_n C.x C.b dX11_shelf_49 rfl (lv_at hl 1 rfl) ?_
              refine lv_iload_n C.x C.b dX11_shelf_50 rfl (lv_at hl 2 rfl) ?_
              refine lv_if_ne (tgt := 58) C.x C.b dX11_shelf_51 rfl (fun c51 => ?_) (fun c51 => ?_)
              · replace hf := x_in c51 hf
                refine lv_iconst (v := (-1)) C.x C.b dX11_shelf_58 (by decide) ?_
                replace hf := x_b1 hf; obtain ⟨M59_49, hM59_49, hf⟩ := hf
                refine x_iast C hW hM59_49 dX11_shelf_59 (fun H locs hW => ?_)
                refine lv_aload_n C.x C.b dX11_shelf_60 rfl (lv_at hl 0 rfl) ?_
                replace hf := x_b1 hf; obtain ⟨a61_50, ha61_50, hf⟩ := hf
                refine x_getn C hW fg_X11_59_14 ha61_50 dX11_shelf_61 ?_
                refine lv_iload_n C.x C.b dX11_shelf_64 rfl (lv_at hl 1 rfl) ?_
                refine lv_iload_n C.x C.b dX11_shelf_65 rfl (lv_at hl 2 rfl) ?_
                refine lv_iconst (v := 1) C.x C.b dX11_shelf_66 (by decide) ?_
                refine lv_icmp_ne (tgt := 79) C.x C.b dX11_shelf_67 rfl (fun c67 => ?_) (fun c67 => ?_)
                · replace hf := x_in c67 hf
                  refine lv_null C.x C.b dX11_shelf_79 ?_
                  replace hf := x_b1 hf; obtain ⟨M80_51, hM80_51, hf⟩ := hf
                  refine x_aast (v := none) C hW (kd := 25) (ko := 9) (by decide) rfl rfl hM80_51 dX11_shelf_80 (fun H locs hW => ?_)
                  refine lv_iconst (v := 1) C.x C.b dX11_shelf_81 (by decide) ?_
                  rw [x_e1 hf, x_e2 hf]
                  exact x_iret C hr hW dX11_shelf_82
                · replace hf := x_ip c67 hf
                  refine lv_aload_n C.x C.b dX11_shelf_70 rfl (lv_at hl 0 rfl) ?_
                  replace hf := x_b1 hf; obtain ⟨a71_52, ha71_52, hf⟩ := hf
                  refine x_getn C hW fg_X11_51_14 ha71_52 dX11_shelf_71 ?_
                  refine lv_iload_n C.x C.b dX11_shelf_74 rfl (lv_at hl 3 rfl) ?_
                  replace hf := x_b1 hf; obtain ⟨r75_53, hr75_53, hf⟩ := hf
                  refine x_aldq C hW (kd := 25) (by decide) (by decide) hr75_53 dX11_shelf_75 ?_
                  refine lv_goto (tgt := 80) C.x C.b dX11_shelf_76 rfl ?_
                  replace hf := x_b1 hf; obtain ⟨M80_54, hM80_54, hf⟩ := hf
                  refine x_aast (v := r75_53) C hW (kd := 25) (ko := 9) (by decide) rfl rfl hM80_54 dX11_shelf_80 (fun H locs hW => ?_)
                  refine lv_iconst (v := 1) C.x C.b dX11_shelf_81 (by decide) ?_
                  rw [x_e1 hf, x_e2 hf]
                  exact x_iret C hr hW dX11_shelf_82
              · replace hf := x_ip c51 hf
                refine lv_iload_n C.x C.b dX11_shelf_54 rfl (lv_at hl 3 rfl) ?_
                refine lv_goto (tgt := 59) C.x C.b dX11_shelf_55 rfl ?_
                replace hf := x_b1 hf; obtain ⟨M59_55, hM59_55, hf⟩ := hf
                refine x_iast C hW hM59_55 dX11_shelf_59 (fun H locs hW => ?_)
                refine lv_aload_n C.x C.b dX11_shelf_60 rfl (lv_at hl 0 rfl) ?_
                replace hf := x_b1 hf; obtain ⟨a61_56, ha61_56, hf⟩ := hf
                refine x_getn C hW fg_X11_59_14 ha61_56 dX11_shelf_61 ?_
                refine lv_iload_n C.x C.b dX11_shelf_64 rfl (lv_at hl 1 rfl) ?_
                refine lv_iload_n C.x C.b dX11_shelf_65 rfl (lv_at hl 2 rfl) ?_
                refine lv_iconst (v := 1) C.x C.b dX11_shelf_66 (by decide) ?_
                refine lv_icmp_ne (tgt := 79) C.x C.b dX11_shelf_67 rfl (fun c67 => ?_) (fun c67 => ?_)
                · replace hf := x_in c67 hf
                  refine lv_null C.x C.b dX11_shelf_79 ?_
                  replace hf := x_b1 hf; obtain ⟨M80_57, hM80_57, hf⟩ := hf
                  refine x_aast (v := none) C hW (kd := 25) (ko := 9) (by decide) rfl rfl hM80_57 dX11_shelf_80 (fun H locs hW => ?_)
                  refine lv_iconst (v := 1) C.x C.b dX11_shelf_81 (by decide) ?_
                  rw [x_e1 hf, x_e2 hf]
                  exact x_iret C hr hW dX11_shelf_82
                · replace hf := x_ip c67 hf
                  refine lv_aload_n C.x C.b dX11_shelf_70 rfl (lv_at hl 0 rfl) ?_
                  replace hf := x_b1 hf; obtain ⟨a71_58, ha71_58, hf⟩ := hf
                  refine x_getn C hW fg_X11_51_14 ha71_58 dX11_shelf_71 ?_
                  refine lv_iload_n C.x C.b dX11_shelf_74 rfl (lv_at hl 3 rfl) ?_
                  replace hf := x_b1 hf; obtain ⟨r75_59, hr75_59, hf⟩ := hf
                  refine x_aldq C hW (kd := 25) (by decide) (by decide) hr75_59 dX11_shelf_75 ?_
                  refine lv_goto (tgt := 80) C.x C.b dX11_shelf_76 rfl ?_
                  replace hf := x_b1 hf; obtain ⟨M80_60, hM80_60, hf⟩ := hf
                  refine x_aast (v := r75_59) C hW (kd := 25) (ko := 9) (by decide) rfl rfl hM80_60 dX11_shelf_80 (fun H locs hW => ?_)
                  refine lv_iconst (v := 1) C.x C.b dX11_shelf_81 (by decide) ?_
                  rw [x_e1 hf, x_e2 hf]
                  exact x_iret C hr hW dX11_shelf_82
            · replace hf := x_ip c40 hf
              refine lv_iconst (v := (-1)) C.x C.b dX11_shelf_43 (by decide) ?_
              rw [x_e1 hf, x_e2 hf]
              exact x_iret C hr hW dX11_shelf_44

theorem dX11_isKindUnder_0 : decode cX11_isKindUnder 0 = .ok (.iload_n 1, 1) := by decide +kernel
theorem dX11_isKindUnder_1 : decode cX11_isKindUnder 1 = .ok (.ifCond .eq 24, 3) := by decide +kernel
theorem dX11_isKindUnder_4 : decode cX11_isKindUnder 4 = .ok (.iload_n 1, 1) := by decide +kernel
theorem dX11_isKindUnder_5 : decode cX11_isKindUnder 5 = .ok (.iload_n 0, 1) := by decide +kernel
theorem dX11_isKindUnder_6 : decode cX11_isKindUnder 6 = .ok (.if_icmp .eq 19, 3) := by decide +kernel
theorem dX11_isKindUnder_9 : decode cX11_isKindUnder 9 = .ok (.iload_n 0, 1) := by decide +kernel
theorem dX11_isKindUnder_10 : decode cX11_isKindUnder 10 = .ok (.invokestatic 110, 3) := by decide +kernel
theorem dX11_isKindUnder_13 : decode cX11_isKindUnder 13 = .ok (.ifCond .eq 16, 3) := by decide +kernel
theorem dX11_isKindUnder_16 : decode cX11_isKindUnder 16 = .ok (.iload_n 1, 1) := by decide +kernel
theorem dX11_isKindUnder_17 : decode cX11_isKindUnder 17 = .ok (.getstatic 370, 3) := by decide +kernel
theorem dX11_isKindUnder_20 : decode cX11_isKindUnder 20 = .ok (.iload_n 0, 1) := by decide +kernel
theorem dX11_isKindUnder_21 : decode cX11_isKindUnder 21 = .ok (.iaload, 1) := by decide +kernel
theorem dX11_isKindUnder_22 : decode cX11_isKindUnder 22 = .ok (.if_icmp .ne 7, 3) := by decide +kernel
theorem dX11_isKindUnder_25 : decode cX11_isKindUnder 25 = .ok (.iconst 1, 1) := by decide +kernel
theorem dX11_isKindUnder_26 : decode cX11_isKindUnder 26 = .ok (.goto 4, 3) := by decide +kernel
theorem dX11_isKindUnder_29 : decode cX11_isKindUnder 29 = .ok (.iconst 0, 1) := by decide +kernel
theorem dX11_isKindUnder_30 : decode cX11_isKindUnder 30 = .ok (.ireturn, 1) := by decide +kernel
def fX11_isKindUnder (M : Mm) (p1 : Int32) (p2 : Int32) : Option Int32 :=
  if p2 = 0 then
    some 1
  else
    if p2 = p1 then
      some 1
    else
      B1 (fX11_isKind M p1) fun x10_1 =>
      if x10_1 = 0 then
        some 0
      else
        B1 (sld 4 p1) fun x21_2 =>
        if p2 = x21_2 then
          some 1
        else
          some 0
set_option maxRecDepth 100000 in
set_option maxHeartbeats 4000000 in
theorem qX11_isKindUnder (l : Launch) (E : Ev) {M : Mm} {p1 : Int32} {p2 : Int32} {rz : Int32} (hf : fX11_isKindUnder M p1 p2 = some rz) : Ct l E yX11_isKindUnder cX11_isKindUnder 2 (some .boolean) 2 42 0 0 [.int p1, .int p2] M (some (.int rz)) M := by
  refine ct_of (by decide +kernel) (Nat.le_of_ble_eq_true rfl) fun p e s m args below meth c C hr hin hW ls hl => ?_
  have hl : lv_has ls 2 [(0, .int p1), (1, .int p2)] := hl
  unfold fX11_isKindUnder at hf
  refine lv_iload_n C.x C.b dX11_isKindUnder_0 rfl (lv_at hl 1 rfl) ?_
  refine lv_if_eq (tgt := 25) C.x C.b dX11_isKindUnder_1 rfl (fun c1 => ?_) (fun c1 => ?_)
  · replace hf := x_ip c1 hf
    refine lv_iconst (v := 1) C.x C.b dX11_isKindUnder_25 (by decide) ?_
    refine lv_goto (tgt := 30) C.x C.b dX11_isKindUnder_26 rfl ?_
    rw [x_e0 hf]
    exact x_zret C hr hW (v := 1) (w := 1) rfl dX11_isKindUnder_30
  · replace hf := x_in c1 hf
    refine lv_iload_n C.x C.b dX11_isKindUnder_4 rfl (lv_at hl 1 rfl) ?_
    refine lv_iload_n C.x C.b dX11_isKindUnder_5 rfl (lv_at hl 0 rfl) ?_
    refine lv_icmp_eq (tgt := 25) C.x C.b dX11_isKindUnder_6 rfl (fun c6 => ?_) (fun c6 => ?_)
    · replace hf := x_ip c6 hf
      refine lv_iconst (v := 1) C.x C.b dX11_isKindUnder_25 (by decide) ?_
      refine lv_goto (tgt := 30) C.x C.b dX11_isKindUnder_26 rfl ?_
      rw [x_e0 hf]
      exact x_zret C hr hW (v := 1) (w := 1) rfl dX11_isKindUnder_30
    · replace hf := x_in c6 hf
      refine lv_iload_n C.x C.b dX11_isKindUnder_9 rfl (lv_at hl 0 rfl) ?_
      replace hf := x_b1 hf; obtain ⟨x10_1, hx10_1, hf⟩ := hf
      refine x_callS (As := [.int p1]) (rest := []) C hW hl (qX11_isKind l E hx10_1) gs_X11_110 hd_X11_isKind rfl rfl (Nat.le_of_ble_eq_true rfl) dX11_isKindUnder_10 ⟨Nat.le_of_ble_eq_true rfl, Nat.le_of_ble_eq_true rfl⟩ ⟨Nat.le_of_ble_eq_true rfl, Nat.le_of_ble_eq_true rfl⟩ (fun H locs hW => ?_)
      refine lv_if_eq (tgt := 29) C.x C.b dX11_isKindUnder_13 rfl (fun c13 => ?_) (fun c13 => ?_)
      · replace hf := x_ip c13 hf
        refine lv_iconst (v := 0) C.x C.b dX11_isKindUnder_29 (by decide) ?_
        rw [x_e0 hf]
        exact x_zret C hr hW (v := 0) (w := 0) rfl dX11_isKindUnder_30
      · replace hf := x_in c13 hf
        refine lv_iload_n C.x C.b dX11_isKindUnder_16 rfl (lv_at hl 1 rfl) ?_
        refine x_gets (k := 4) C hW (by decide) (by decide) T_4_187 dX11_isKindUnder_17 ?_
        refine lv_iload_n C.x C.b dX11_isKindUnder_20 rfl (lv_at hl 0 rfl) ?_
        replace hf := x_b1 hf; obtain ⟨x21_2, hx21_2, hf⟩ := hf
        refine x_sald (k := 4) C hW (by decide) (by decide) hx21_2 dX11_isKindUnder_21 ?_
        refine lv_icmp_ne (tgt := 29) C.x C.b dX11_isKindUnder_22 rfl (fun c22 => ?_) (fun c22 => ?_)
        · replace hf := x_in c22 hf
          refine lv_iconst (v := 0) C.x C.b dX11_isKindUnder_29 (by decide) ?_
          rw [x_e0 hf]
          exact x_zret C hr hW (v := 0) (w := 0) rfl dX11_isKindUnder_30
        · replace hf := x_ip c22 hf
          refine lv_iconst (v := 1) C.x C.b dX11_isKindUnder_25 (by decide) ?_
          refine lv_goto (tgt := 30) C.x C.b dX11_isKindUnder_26 rfl ?_
          rw [x_e0 hf]
          exact x_zret C hr hW (v := 1) (w := 1) rfl dX11_isKindUnder_30

theorem dX11_taken_0 : decode cX11_taken 0 = .ok (.iload_n 1, 1) := by decide +kernel
theorem dX11_taken_1 : decode cX11_taken 1 = .ok (.invokestatic 322, 3) := by decide +kernel
theorem dX11_taken_4 : decode cX11_taken 4 = .ok (.ifCond .eq 21, 3) := by decide +kernel
theorem dX11_taken_7 : decode cX11_taken 7 = .ok (.iload_n 2, 1) := by decide +kernel
theorem dX11_taken_8 : decode cX11_taken 8 = .ok (.invokestatic 110, 3) := by decide +kernel
theorem dX11_taken_11 : decode cX11_taken 11 = .ok (.ifCond .ne 16, 3) := by decide +kernel
theorem dX11_taken_14 : decode cX11_taken 14 = .ok (.iload_n 2, 1) := by decide +kernel
theorem dX11_taken_15 : decode cX11_taken 15 = .ok (.bipush 10, 2) := by decide +kernel
theorem dX11_taken_17 : decode cX11_taken 17 = .ok (.bipush 13, 2) := by decide +kernel
theorem dX11_taken_19 : decode cX11_taken 19 = .ok (.invokestatic 69, 3) := by decide +kernel
theorem dX11_taken_22 : decode cX11_taken 22 = .ok (.ifCond .ne 5, 3) := by decide +kernel
theorem dX11_taken_25 : decode cX11_taken 25 = .ok (.iconst (-1), 1) := by decide +kernel
theorem dX11_taken_26 : decode cX11_taken 26 = .ok (.ireturn, 1) := by decide +kernel
theorem dX11_taken_27 : decode cX11_taken 27 = .ok (.aload_n 0, 1) := by decide +kernel
theorem dX11_taken_28 : decode cX11_taken 28 = .ok (.getfield 59, 3) := by decide +kernel
theorem dX11_taken_31 : decode cX11_taken 31 = .ok (.iload_n 1, 1) := by decide +kernel
theorem dX11_taken_32 : decode cX11_taken 32 = .ok (.aaload, 1) := by decide +kernel
theorem dX11_taken_33 : decode cX11_taken 33 = .ok (.astore_n 3, 1) := by decide +kernel
theorem dX11_taken_34 : decode cX11_taken 34 = .ok (.aload_n 3, 1) := by decide +kernel
theorem dX11_taken_35 : decode cX11_taken 35 = .ok (.ifnull 25, 3) := by decide +kernel
theorem dX11_taken_38 : decode cX11_taken 38 = .ok (.aload_n 3, 1) := by decide +kernel
theorem dX11_taken_39 : decode cX11_taken 39 = .ok (.getfield 293, 3) := by decide +kernel
theorem dX11_taken_42 : decode cX11_taken 42 = .ok (.iload_n 2, 1) := by decide +kernel
theorem dX11_taken_43 : decode cX11_taken 43 = .ok (.bipush 10, 2) := by decide +kernel
theorem dX11_taken_45 : decode cX11_taken 45 = .ok (.isub, 1) := by decide +kernel
theorem dX11_taken_46 : decode cX11_taken 46 = .ok (.if_icmp .ne 11, 3) := by decide +kernel
theorem dX11_taken_49 : decode cX11_taken 49 = .ok (.aload_n 3, 1) := by decide +kernel
theorem dX11_taken_50 : decode cX11_taken 50 = .ok (.getfield 296, 3) := by decide +kernel
theorem dX11_taken_53 : decode cX11_taken 53 = .ok (.arraylength, 1) := by decide +kernel
theorem dX11_taken_54 : decode cX11_taken 54 = .ok (.goto 5, 3) := by decide +kernel
theorem dX11_taken_57 : decode cX11_taken 57 = .ok (.bipush (-13), 2) := by decide +kernel
theorem dX11_taken_59 : decode cX11_taken 59 = .ok (.ireturn, 1) := by decide +kernel
theorem dX11_taken_60 : decode cX11_taken 60 = .ok (.aload_n 0, 1) := by decide +kernel
theorem dX11_taken_61 : decode cX11_taken 61 = .ok (.getfield 10, 3) := by decide +kernel
theorem dX11_taken_64 : decode cX11_taken 64 = .ok (.aload_n 0, 1) := by decide +kernel
theorem dX11_taken_65 : decode cX11_taken 65 = .ok (.getfield 55, 3) := by decide +kernel
theorem dX11_taken_68 : decode cX11_taken 68 = .ok (.iload_n 1, 1) := by decide +kernel
theorem dX11_taken_69 : decode cX11_taken 69 = .ok (.iaload, 1) := by decide +kernel
theorem dX11_taken_70 : decode cX11_taken 70 = .ok (.invokevirtual 120, 3) := by decide +kernel
theorem dX11_taken_73 : decode cX11_taken 73 = .ok (.astore 4, 2) := by decide +kernel
theorem dX11_taken_75 : decode cX11_taken 75 = .ok (.aload 4, 2) := by decide +kernel
theorem dX11_taken_77 : decode cX11_taken 77 = .ok (.ifnonnull 6, 3) := by decide +kernel
theorem dX11_taken_80 : decode cX11_taken 80 = .ok (.bipush (-11), 2) := by decide +kernel
theorem dX11_taken_82 : decode cX11_taken 82 = .ok (.ireturn, 1) := by decide +kernel
theorem dX11_taken_83 : decode cX11_taken 83 = .ok (.aload 4, 2) := by decide +kernel
theorem dX11_taken_85 : decode cX11_taken 85 = .ok (.getfield 124, 3) := by decide +kernel
theorem dX11_taken_88 : decode cX11_taken 88 = .ok (.iload_n 2, 1) := by decide +kernel
theorem dX11_taken_89 : decode cX11_taken 89 = .ok (.invokestatic 325, 3) := by decide +kernel
theorem dX11_taken_92 : decode cX11_taken 92 = .ok (.ifCond .eq 12, 3) := by decide +kernel
theorem dX11_taken_95 : decode cX11_taken 95 = .ok (.aload_n 0, 1) := by decide +kernel
theorem dX11_taken_96 : decode cX11_taken 96 = .ok (.getfield 55, 3) := by decide +kernel
theorem dX11_taken_99 : decode cX11_taken 99 = .ok (.iload_n 1, 1) := by decide +kernel
theorem dX11_taken_100 : decode cX11_taken 100 = .ok (.iaload, 1) := by decide +kernel
theorem dX11_taken_101 : decode cX11_taken 101 = .ok (.goto 5, 3) := by decide +kernel
theorem dX11_taken_104 : decode cX11_taken 104 = .ok (.bipush (-13), 2) := by decide +kernel
theorem dX11_taken_106 : decode cX11_taken 106 = .ok (.ireturn, 1) := by decide +kernel
theorem hd_X11_isKindUnder : yX11_isKindUnder.cls ≠ "java/lang/invoke/MethodHandle" ∧ yX11_isKindUnder.cls ≠ "java/lang/invoke/VarHandle" ∧ (parseMethodDescriptor yX11_isKindUnder.desc).map (fun d => d.parameters.length) = some 2 := by decide +kernel
theorem gs_X11_325 : GoodIn gT (va_wsS "NylonLadder" 325 yX11_isKindUnder (Cond.code yX11_isKindUnder cX11_isKindUnder 2 (some .boolean) :: gT)) := good_S T_4_184 T_4_185 T_1_1 T_4_186
def fX11_taken (M : Mm) (o : Nat) (p1 : Int32) (p2 : Int32) : Option Int32 :=
  B1 (fX11_isShelf M p1) fun x1_1 =>
  if x1_1 = 0 then
    some (-1)
  else
    B1 (fX11_isKind M p2) fun x8_2 =>
    if x8_2 = 0 then
      B1 (fX11_isWithin M p2 10 13) fun x19_19 =>
      if x19_19 = 0 then
        some (-1)
      else
        B1 (rdN M o 14 10) fun a28_20 =>
        B1 (alQ M a28_20 25 p1) fun r32_21 =>
        NL r32_21 (
          B1 (rdN M o 14 0) fun a61_23 =>
          B1 (rdN M o 14 9) fun a65_24 =>
          B1 (alI M a65_24 p1) fun x69_25 =>
          B1 (gk M a61_23 3) fun _ =>
          B1 (fX0_stockingAt M a61_23 x69_25) fun x70_27 =>
          NL x70_27 (
            some (-11)) (fun a77_28 =>
            B1 (rdI M a77_28 10 0) fun x85_29 =>
            B1 (fX11_isKindUnder M x85_29 p2) fun x89_30 =>
            if x89_30 = 0 then
              some (-13)
            else
              B1 (rdN M o 14 9) fun a96_31 =>
              B1 (alI M a96_31 p1) fun x100_32 =>
              some x100_32)) (fun a35_22 =>
          B1 (rdI M a35_22 9 0) fun x39_33 =>
          if x39_33 = (p2 - 10) then
            B1 (rdN M a35_22 9 1) fun a50_34 =>
            B1 (alN_ M a50_34) fun x53_35 =>
            some x53_35
          else
            some (-13))
    else
      B1 (rdN M o 14 10) fun a28_3 =>
      B1 (alQ M a28_3 25 p1) fun r32_4 =>
      NL r32_4 (
        B1 (rdN M o 14 0) fun a61_6 =>
        B1 (rdN M o 14 9) fun a65_7 =>
        B1 (alI M a65_7 p1) fun x69_8 =>
        B1 (gk M a61_6 3) fun _ =>
        B1 (fX0_stockingAt M a61_6 x69_8) fun x70_10 =>
        NL x70_10 (
          some (-11)) (fun a77_11 =>
          B1 (rdI M a77_11 10 0) fun x85_12 =>
          B1 (fX11_isKindUnder M x85_12 p2) fun x89_13 =>
          if x89_13 = 0 then
            some (-13)
          else
            B1 (rdN M o 14 9) fun a96_14 =>
            B1 (alI M a96_14 p1) fun x100_15 =>
            some x100_15)) (fun a35_5 =>
        B1 (rdI M a35_5 9 0) fun x39_16 =>
        if x39_16 = (p2 - 10) then
          B1 (rdN M a35_5 9 1) fun a50_17 =>
          B1 (alN_ M a50_17) fun x53_18 =>
          some x53_18
        else
          some (-13))
set_option maxRecDepth 100000 in
set_option maxHeartbeats 4000000 in
theorem qX11_taken (l : Launch) (E : Ev) {M : Mm} {o : Nat} {p1 : Int32} {p2 : Int32} {rz : Int32} (hf : fX11_taken M o p1 p2 = some rz) : Ct l E yX11_taken cX11_taken 5 (some .int) 3 63 0 0 [.ref (E.b + o), .int p1, .int p2] M (some (.int rz)) M := by
  refine ct_of (by decide +kernel) (Nat.le_of_ble_eq_true rfl) fun p e s m args below meth c C hr hin hW ls hl => ?_
  have hl : lv_has ls 5 [(0, .ref (E.b + o)), (1, .int p1), (2, .int p2)] := hl
  unfold fX11_taken at hf
  refine lv_iload_n C.x C.b dX11_taken_0 rfl (lv_at hl 1 rfl) ?_
  replace hf := x_b1 hf; obtain ⟨x1_1, hx1_1, hf⟩ := hf
  refine x_callS (As := [.int p1]) (rest := []) C hW hl (qX11_isShelf l E hx1_1) gs_X11_322 hd_X11_isShelf rfl rfl (Nat.le_of_ble_eq_true rfl) dX11_taken_1 ⟨Nat.le_of_ble_eq_true rfl, Nat.le_of_ble_eq_true rfl⟩ ⟨Nat.le_of_ble_eq_true rfl, Nat.le_of_ble_eq_true rfl⟩ (fun H locs hW => ?_)
  refine lv_if_eq (tgt := 25) C.x C.b dX11_taken_4 rfl (fun c4 => ?_) (fun c4 => ?_)
  · replace hf := x_ip c4 hf
    refine lv_iconst (v := (-1)) C.x C.b dX11_taken_25 (by decide) ?_
    rw [x_e0 hf]
    exact x_iret C hr hW dX11_taken_26
  · replace hf := x_in c4 hf
    refine lv_iload_n C.x C.b dX11_taken_7 rfl (lv_at hl 2 rfl) ?_
    replace hf := x_b1 hf; obtain ⟨x8_2, hx8_2, hf⟩ := hf
    refine x_callS (As := [.int p2]) (rest := []) C hW hl (qX11_isKind l E hx8_2) gs_X11_110 hd_X11_isKind rfl rfl (Nat.le_of_ble_eq_true rfl) dX11_taken_8 ⟨Nat.le_of_ble_eq_true rfl, Nat.le_of_ble_eq_true rfl⟩ ⟨Nat.le_of_ble_eq_true rfl, Nat.le_of_ble_eq_true rfl⟩ (fun H locs hW => ?_)
    refine lv_if_ne (tgt := 27) C.x C.b dX11_taken_11 rfl (fun c11 => ?_) (fun c11 => ?_)
    · replace hf := x_in c11 hf
      refine lv_aload_n C.x C.b dX11_taken_27 rfl (lv_at hl 0 rfl) ?_
      replace hf := x_b1 hf; obtain ⟨a28_3, ha28_3, hf⟩ := hf
      refine x_getn C hW fg_X11_59_14 ha28_3 dX11_taken_28 ?_
      refine lv_iload_n C.x C.b dX11_taken_31 rfl (lv_at hl 1 rfl) ?_
      replace hf := x_b1 hf; obtain ⟨r32_4, hr32_4, hf⟩ := hf
      refine x_aldq C hW (kd := 25) (by decide) (by decide) hr32_4 dX11_taken_32 ?_
      refine x_astore_n (lv' := [(3, rv E.b _), (0, .ref (E.b + _)), (1, .int _), (2, .int _)]) C dX11_taken_33 rfl hl (by decide) rfl (fun ls hl => ?_)
      refine x_aload_n C dX11_taken_34 rfl (lv_at hl 0 rfl) ?_
      replace hf := x_nl hf; rcases hf with ⟨rfl, hf⟩ | ⟨a35_5, rfl, hf⟩
      · refine lv_ifnullN (tgt := 60) C.x C.b dX11_taken_35 rfl ?_
        refine lv_aload_n C.x C.b dX11_taken_60 rfl (lv_at hl 1 rfl) ?_
        replace hf := x_b1 hf; obtain ⟨a61_6, ha61_6, hf⟩ := hf
        refine x_getn C hW fg_X11_10_14 ha61_6 dX11_taken_61 ?_
        refine lv_aload_n C.x C.b dX11_taken_64 rfl (lv_at hl 1 rfl) ?_
        replace hf := x_b1 hf; obtain ⟨a65_7, ha65_7, hf⟩ := hf
        refine x_getn C hW fg_X11_55_14 ha65_7 dX11_taken_65 ?_
        refine lv_iload_n C.x C.b dX11_taken_68 rfl (lv_at hl 2 rfl) ?_
        replace hf := x_b1 hf; obtain ⟨x69_8, hx69_8, hf⟩ := hf
        refine x_iald C hW hx69_8 dX11_taken_69 ?_
        replace hf := x_b1 hf; obtain ⟨_, hk70_9, hf⟩ := hf
        replace hf := x_b1 hf; obtain ⟨x70_10, hx70_10, hf⟩ := hf
        refine x_callV (As := [.int x69_8]) (a := a61_6) (rest := []) C hW hl (qX0_stockingAt l E hx70_10) (x_gk hk70_9) (by decide) (by decide) rfl gv_X11_120 ⟨rfl, hd_X0_stockingAt⟩ rfl rfl (Nat.le_of_ble_eq_true rfl) dX11_taken_70 ⟨Nat.le_of_ble_eq_true rfl, Nat.le_of_ble_eq_true rfl⟩ ⟨Nat.le_of_ble_eq_true rfl, Nat.le_of_ble_eq_true rfl⟩ (fun H locs hW => ?_)
        refine x_astore (lv' := [(4, rv E.b _), (3, .null), (0, .ref (E.b + _)), (1, .int _), (2, .int _)]) C dX11_taken_73 hl (by decide) rfl (fun ls hl => ?_)
        refine x_aload C dX11_taken_75 (lv_at hl 0 rfl) ?_
        replace hf := x_nl hf; rcases hf with ⟨rfl, hf⟩ | ⟨a77_11, rfl, hf⟩
        · refine lv_ifnonnullN C.x C.b dX11_taken_77 ?_
          refine lv_bipush (v := (-11)) C.x C.b dX11_taken_80 (by decide) ?_
          rw [x_e0 hf]
          exact x_iret C hr hW dX11_taken_82
        · refine lv_ifnonnull (tgt := 83) C.x C.b dX11_taken_77 rfl ?_
          refine lv_aload C.x C.b dX11_taken_83 (lv_at hl 0 rfl) ?_
          replace hf := x_b1 hf; obtain ⟨x85_12, hx85_12, hf⟩ := hf
          refine x_geti C hW fg_X11_124_10 hx85_12 dX11_taken_85 ?_
          refine lv_iload_n C.x C.b dX11_taken_88 rfl (lv_at hl 4 rfl) ?_
          replace hf := x_b1 hf; obtain ⟨x89_13, hx89_13, hf⟩ := hf
          refine x_callS (As := [.int x85_12, .int p2]) (rest := []) C hW hl (qX11_isKindUnder l E hx89_13) gs_X11_325 hd_X11_isKindUnder rfl rfl (Nat.le_of_ble_eq_true rfl) dX11_taken_89 ⟨Nat.le_of_ble_eq_true rfl, Nat.le_of_ble_eq_true rfl⟩ ⟨Nat.le_of_ble_eq_true rfl, Nat.le_of_ble_eq_true rfl⟩ (fun H locs hW => ?_)
          refine lv_if_eq (tgt := 104) C.x C.b dX11_taken_92 rfl (fun c92 => ?_) (fun c92 => ?_)
          · replace hf := x_ip c92 hf
            refine lv_bipush (v := (-13)) C.x C.b dX11_taken_104 (by decide) ?_
            rw [x_e0 hf]
            exact x_iret C hr hW dX11_taken_106
          · replace hf := x_in c92 hf
            refine lv_aload_n C.x C.b dX11_taken_95 rfl (lv_at hl 2 rfl) ?_
            replace hf := x_b1 hf; obtain ⟨a96_14, ha96_14, hf⟩ := hf
            refine x_getn C hW fg_X11_55_14 ha96_14 dX11_taken_96 ?_
            refine lv_iload_n C.x C.b dX11_taken_99 rfl (lv_at hl 3 rfl) ?_
            replace hf := x_b1 hf; obtain ⟨x100_15, hx100_15, hf⟩ := hf
            refine x_iald C hW hx100_15 dX11_taken_100 ?_
            refine lv_goto (tgt := 106) C.x C.b dX11_taken_101 rfl ?_
            rw [x_e0 hf]
            exact x_iret C hr hW dX11_taken_106
      · refine lv_ifnull C.x C.b dX11_taken_35 ?_
        refine lv_aload_n C.x C.b dX11_taken_38 rfl (lv_at hl 0 rfl) ?_
        replace hf := x_b1 hf; obtain ⟨x39_16, hx39_16, hf⟩ := hf
        refine x_geti C hW fg_X11_293_9 hx39_16 dX11_taken_39 ?_
        refine lv_iload_n C.x C.b dX11_taken_42 rfl (lv_at hl 3 rfl) ?_
        refine lv_bipush (v := 10) C.x C.b dX11_taken_43 (by decide) ?_
        refine lv_isub C.x C.b dX11_taken_45 ?_
        refine lv_icmp_ne (tgt := 57) C.x C.b dX11_taken_46 rfl (fun c46 => ?_) (fun c46 => ?_)
        · replace hf := x_in c46 hf
          refine lv_bipush (v := (-13)) C.x C.b dX11_taken_57 (by decide) ?_
          rw [x_e0 hf]
          exact x_iret C hr hW dX11_taken_59
        · replace hf := x_ip c46 hf
          refine lv_aload_n C.x C.b dX11_taken_49 rfl (lv_at hl 0 rfl) ?_
          replace hf := x_b1 hf; obtain ⟨a50_17, ha50_17, hf⟩ := hf
          refine x_getn C hW fg_X11_296_9 ha50_17 dX11_taken_50 ?_
          replace hf := x_b1 hf; obtain ⟨x53_18, hx53_18, hf⟩ := hf
          refine x_alen C hW hx53_18 dX11_taken_53 ?_
          refine lv_goto (tgt := 59) C.x C.b dX11_taken_54 rfl ?_
          rw [x_e0 hf]
          exact x_iret C hr hW dX11_taken_59
    · replace hf := x_ip c11 hf
      refine lv_iload_n C.x C.b dX11_taken_14 rfl (lv_at hl 2 rfl) ?_
      refine lv_bipush (v := 10) C.x C.b dX11_taken_15 (by decide) ?_
      refine lv_bipush (v := 13) C.x C.b dX11_taken_17 (by decide) ?_
      replace hf := x_b1 hf; obtain ⟨x19_19, hx19_19, hf⟩ := hf
      refine x_callS (As := [.int p2, .int 10, .int 13]) (rest := []) C hW hl (qX11_isWithin l E hx19_19) gs_X11_69 hd_X11_isWithin rfl rfl (Nat.le_of_ble_eq_true rfl) dX11_taken_19 ⟨Nat.le_of_ble_eq_true rfl, Nat.le_of_ble_eq_true rfl⟩ ⟨Nat.le_of_ble_eq_true rfl, Nat.le_of_ble_eq_true rfl⟩ (fun H locs hW => ?_)
      refine lv_if_ne (tgt := 27) C.x C.b dX11_taken_22 rfl (fun c22 => ?_) (fun c22 => ?_)
      · replace hf := x_in c22 hf
        refine lv_aload_n C.x C.b dX11_taken_27 rfl (lv_at hl 0 rfl) ?_
        replace hf := x_b1 hf; obtain ⟨a28_20, ha28_20, hf⟩ := hf
        refine x_getn C hW fg_X11_59_14 ha28_20 dX11_taken_28 ?_
        refine lv_iload_n C.x C.b dX11_taken_31 rfl (lv_at hl 1 rfl) ?_
        replace hf := x_b1 hf; obtain ⟨r32_21, hr32_21, hf⟩ := hf
        refine x_aldq C hW (kd := 25) (by decide) (by decide) hr32_21 dX11_taken_32 ?_
        refine x_astore_n (lv' := [(3, rv E.b _), (0, .ref (E.b + _)), (1, .int _), (2, .int _)]) C dX11_taken_33 rfl hl (by decide) rfl (fun ls hl => ?_)
        refine x_aload_n C dX11_taken_34 rfl (lv_at hl 0 rfl) ?_
        replace hf := x_nl hf; rcases hf with ⟨rfl, hf⟩ | ⟨a35_22, rfl, hf⟩
        · refine lv_ifnullN (tgt := 60) C.x C.b dX11_taken_35 rfl ?_
          refine lv_aload_n C.x C.b dX11_taken_60 rfl (lv_at hl 1 rfl) ?_
          replace hf := x_b1 hf; obtain ⟨a61_23, ha61_23, hf⟩ := hf
          refine x_getn C hW fg_X11_10_14 ha61_23 dX11_taken_61 ?_
          refine lv_aload_n C.x C.b dX11_taken_64 rfl (lv_at hl 1 rfl) ?_
          replace hf := x_b1 hf; obtain ⟨a65_24, ha65_24, hf⟩ := hf
          refine x_getn C hW fg_X11_55_14 ha65_24 dX11_taken_65 ?_
          refine lv_iload_n C.x C.b dX11_taken_68 rfl (lv_at hl 2 rfl) ?_
          replace hf := x_b1 hf; obtain ⟨x69_25, hx69_25, hf⟩ := hf
          refine x_iald C hW hx69_25 dX11_taken_69 ?_
          replace hf := x_b1 hf; obtain ⟨_, hk70_26, hf⟩ := hf
          replace hf := x_b1 hf; obtain ⟨x70_27, hx70_27, hf⟩ := hf
          refine x_callV (As := [.int x69_25]) (a := a61_23) (rest := []) C hW hl (qX0_stockingAt l E hx70_27) (x_gk hk70_26) (by decide) (by decide) rfl gv_X11_120 ⟨rfl, hd_X0_stockingAt⟩ rfl rfl (Nat.le_of_ble_eq_true rfl) dX11_taken_70 ⟨Nat.le_of_ble_eq_true rfl, Nat.le_of_ble_eq_true rfl⟩ ⟨Nat.le_of_ble_eq_true rfl, Nat.le_of_ble_eq_true rfl⟩ (fun H locs hW => ?_)
          refine x_astore (lv' := [(4, rv E.b _), (3, .null), (0, .ref (E.b + _)), (1, .int _), (2, .int _)]) C dX11_taken_73 hl (by decide) rfl (fun ls hl => ?_)
          refine x_aload C dX11_taken_75 (lv_at hl 0 rfl) ?_
          replace hf := x_nl hf; rcases hf with ⟨rfl, hf⟩ | ⟨a77_28, rfl, hf⟩
          · refine lv_ifnonnullN C.x C.b dX11_taken_77 ?_
            refine lv_bipush (v := (-11)) C.x C.b dX11_taken_80 (by decide) ?_
            rw [x_e0 hf]
            exact x_iret C hr hW dX11_taken_82
          · refine lv_ifnonnull (tgt := 83) C.x C.b dX11_taken_77 rfl ?_
            refine lv_aload C.x C.b dX11_taken_83 (lv_at hl 0 rfl) ?_
            replace hf := x_b1 hf; obtain ⟨x85_29, hx85_29, hf⟩ := hf
            refine x_geti C hW fg_X11_124_10 hx85_29 dX11_taken_85 ?_
            refine lv_iload_n C.x C.b dX11_taken_88 rfl (lv_at hl 4 rfl) ?_
            replace hf := x_b1 hf; obtain ⟨x89_30, hx89_30, hf⟩ := hf
            refine x_callS (As := [.int x85_29, .int p2]) (rest := []) C hW hl (qX11_isKindUnder l E hx89_30) gs_X11_325 hd_X11_isKindUnder rfl rfl (Nat.le_of_ble_eq_true rfl) dX11_taken_89 ⟨Nat.le_of_ble_eq_true rfl, Nat.le_of_ble_eq_true rfl⟩ ⟨Nat.le_of_ble_eq_true rfl, Nat.le_of_ble_eq_true rfl⟩ (fun H locs hW => ?_)
            refine lv_if_eq (tgt := 104) C.x C.b dX11_taken_92 rfl (fun c92 => ?_) (fun c92 => ?_)
            · replace hf := x_ip c92 hf
              refine lv_bipush (v := (-13)) C.x C.b dX11_taken_104 (by decide) ?_
              rw [x_e0 hf]
              exact x_iret C hr hW dX11_taken_106
            · replace hf := x_in c92 hf
              refine lv_aload_n C.x C.b dX11_taken_95 rfl (lv_at hl 2 rfl) ?_
              replace hf := x_b1 hf; obtain ⟨a96_31, ha96_31, hf⟩ := hf
              refine x_getn C hW fg_X11_55_14 ha96_31 dX11_taken_96 ?_
              refine lv_iload_n C.x C.b dX11_taken_99 rfl (lv_at hl 3 rfl) ?_
              replace hf := x_b1 hf; obtain ⟨x100_32, hx100_32, hf⟩ := hf
              refine x_iald C hW hx100_32 dX11_taken_100 ?_
              refine lv_goto (tgt := 106) C.x C.b dX11_taken_101 rfl ?_
              rw [x_e0 hf]
              exact x_iret C hr hW dX11_taken_106
        · refine lv_ifnull C.x C.b dX11_taken_35 ?_
          refine lv_aload_n C.x C.b dX11_taken_38 rfl (lv_at hl 0 rfl) ?_
          replace hf := x_b1 hf; obtain ⟨x39_33, hx39_33, hf⟩ := hf
          refine x_geti C hW fg_X11_293_9 hx39_33 dX11_taken_39 ?_
          refine lv_iload_n C.x C.b dX11_taken_42 rfl (lv_at hl 3 rfl) ?_
          refine lv_bipush (v := 10) C.x C.b dX11_taken_43 (by decide) ?_
          refine lv_isub C.x C.b dX11_taken_45 ?_
          refine lv_icmp_ne (tgt := 57) C.x C.b dX11_taken_46 rfl (fun c46 => ?_) (fun c46 => ?_)
          · replace hf := x_in c46 hf
            refine lv_bipush (v := (-13)) C.x C.b dX11_taken_57 (by decide) ?_
            rw [x_e0 hf]
            exact x_iret C hr hW dX11_taken_59
          · replace hf := x_ip c46 hf
            refine lv_aload_n C.x C.b dX11_taken_49 rfl (lv_at hl 0 rfl) ?_
            replace hf := x_b1 hf; obtain ⟨a50_34, ha50_34, hf⟩ := hf
            refine x_getn C hW fg_X11_296_9 ha50_34 dX11_taken_50 ?_
            replace hf := x_b1 hf; obtain ⟨x53_35, hx53_35, hf⟩ := hf
            refine x_alen C hW hx53_35 dX11_taken_53 ?_
            refine lv_goto (tgt := 59) C.x C.b dX11_taken_54 rfl ?_
            rw [x_e0 hf]
            exact x_iret C hr hW dX11_taken_59
      · replace hf := x_ip c22 hf
        refine lv_iconst (v := (-1)) C.x C.b dX11_taken_25 (by decide) ?_
        rw [x_e0 hf]
        exact x_iret C hr hW dX11_taken_26

theorem dJx4a65c_clear_da8c8_0 : decode cJx4a65c_clear_da8c8 0 = .ok (.aload_n 0, 1) := by decide +kernel
theorem dJx4a65c_clear_da8c8_1 : decode cJx4a65c_clear_da8c8 1 = .ok (.dup, 1) := by decide +kernel
theorem dJx4a65c_clear_da8c8_2 : decode cJx4a65c_clear_da8c8 2 = .ok (.getfield 63, 3) := by decide +kernel
theorem dJx4a65c_clear_da8c8_5 : decode cJx4a65c_clear_da8c8 5 = .ok (.iconst 1, 1) := by decide +kernel
theorem dJx4a65c_clear_da8c8_6 : decode cJx4a65c_clear_da8c8 6 = .ok (.iadd, 1) := by decide +kernel
theorem dJx4a65c_clear_da8c8_7 : decode cJx4a65c_clear_da8c8 7 = .ok (.putfield 63, 3) := by decide +kernel
theorem dJx4a65c_clear_da8c8_10 : decode cJx4a65c_clear_da8c8 10 = .ok (.aload_n 0, 1) := by decide +kernel
theorem dJx4a65c_clear_da8c8_11 : decode cJx4a65c_clear_da8c8 11 = .ok (.getfield 9, 3) := by decide +kernel
theorem dJx4a65c_clear_da8c8_14 : decode cJx4a65c_clear_da8c8 14 = .ok (.astore_n 1, 1) := by decide +kernel
theorem dJx4a65c_clear_da8c8_15 : decode cJx4a65c_clear_da8c8 15 = .ok (.aload_n 0, 1) := by decide +kernel
theorem dJx4a65c_clear_da8c8_16 : decode cJx4a65c_clear_da8c8 16 = .ok (.getfield 48, 3) := by decide +kernel
theorem dJx4a65c_clear_da8c8_19 : decode cJx4a65c_clear_da8c8 19 = .ok (.istore_n 2, 1) := by decide +kernel
theorem dJx4a65c_clear_da8c8_20 : decode cJx4a65c_clear_da8c8 20 = .ok (.aload_n 0, 1) := by decide +kernel
theorem dJx4a65c_clear_da8c8_21 : decode cJx4a65c_clear_da8c8 21 = .ok (.iconst 0, 1) := by decide +kernel
theorem dJx4a65c_clear_da8c8_22 : decode cJx4a65c_clear_da8c8 22 = .ok (.dup_x1, 1) := by decide +kernel
theorem dJx4a65c_clear_da8c8_23 : decode cJx4a65c_clear_da8c8 23 = .ok (.putfield 48, 3) := by decide +kernel
theorem dJx4a65c_clear_da8c8_26 : decode cJx4a65c_clear_da8c8 26 = .ok (.istore_n 3, 1) := by decide +kernel
theorem dJx4a65c_clear_da8c8_27 : decode cJx4a65c_clear_da8c8 27 = .ok (.iload_n 3, 1) := by decide +kernel
theorem dJx4a65c_clear_da8c8_28 : decode cJx4a65c_clear_da8c8 28 = .ok (.iload_n 2, 1) := by decide +kernel
theorem dJx4a65c_clear_da8c8_29 : decode cJx4a65c_clear_da8c8 29 = .ok (.if_icmp .ge 13, 3) := by decide +kernel
theorem dJx4a65c_clear_da8c8_32 : decode cJx4a65c_clear_da8c8 32 = .ok (.aload_n 1, 1) := by decide +kernel
theorem dJx4a65c_clear_da8c8_33 : decode cJx4a65c_clear_da8c8 33 = .ok (.iload_n 3, 1) := by decide +kernel
theorem dJx4a65c_clear_da8c8_34 : decode cJx4a65c_clear_da8c8 34 = .ok (.aconst_null, 1) := by decide +kernel
theorem dJx4a65c_clear_da8c8_35 : decode cJx4a65c_clear_da8c8 35 = .ok (.aastore, 1) := by decide +kernel
theorem dJx4a65c_clear_da8c8_36 : decode cJx4a65c_clear_da8c8 36 = .ok (.iinc 3 1, 3) := by decide +kernel
theorem dJx4a65c_clear_da8c8_39 : decode cJx4a65c_clear_da8c8 39 = .ok (.goto (-12), 3) := by decide +kernel
theorem dJx4a65c_clear_da8c8_42 : decode cJx4a65c_clear_da8c8 42 = .ok (.return_, 1) := by decide +kernel
def fJx4a65c_clear_da8c8_L27 (v1 : Nat) (v2 : Int32) : Nat → Int32 → Mm → Option Mm
  | 0, _, _ => none
  | n + 1, v3, M =>
    if v2 ≤ v3 then
      some M
    else
      B1 (dsn M v1 v3) fun M35_6 =>
      fJx4a65c_clear_da8c8_L27 v1 v2 n (v3 + 1) M35_6
def fJx4a65c_clear_da8c8 (M : Mm) (o : Nat) : Option Mm :=
  B1 (rdI M o 2 0) fun x2_1 =>
  B1 (wrI M o 2 0 (x2_1 + 1)) fun M7_2 =>
  B1 (rdN M7_2 o 2 1) fun d11_3 =>
  B1 (rdI M7_2 o 2 2) fun x16_4 =>
  B1 (wrI M7_2 o 2 2 0) fun M23_5 =>
  fJx4a65c_clear_da8c8_L27 d11_3 x16_4 FL 0 M23_5
set_option maxRecDepth 100000 in
set_option maxHeartbeats 4000000 in
theorem kJx4a65c_clear_da8c8_L27 {l : Launch} {E : Ev} {p : Program} {e : Env} {s : State} {m : MethodId} {args : Array Value} {below : List Frame} {meth : Method} {c : Code} (C : Cx E p s m args meth c cJx4a65c_clear_da8c8 yJx4a65c_clear_da8c8.cls 4) (hr : meth.sig.returnType = none) (hin : yJx4a65c_clear_da8c8.name = "<init>" → meth.name = "<init>")  {v1 : Nat} {v2 : Int32} {Mz : Mm} : ∀ (n : Nat) (v3 : Int32) (M : Mm), fJx4a65c_clear_da8c8_L27 v1 v2 n v3 M = some Mz → ∀ (H : Heap) (locs : List Loc) (ls : Array Slot), Wx E s H locs M → lv_has ls 4 [(1, .ref (alA E v1)), (2, .int v2), (3, .int v3)] → W p l e (rM 0 0 0 0) s m args below meth c H locs 0 0 (MQ below (Qp E none Mz) args s 0 0 E.A) (F0 m 27 ls []) := by
  intro n
  induction n with
  | zero =>
    intro v3 M hf
    unfold fJx4a65c_clear_da8c8_L27 at hf
    cases hf
  | succ n ih =>
    intro v3 M hf H locs ls hW hl
    unfold fJx4a65c_clear_da8c8_L27 at hf
    refine lv_iload_n C.x C.b dJx4a65c_clear_da8c8_27 rfl (lv_at hl 2 rfl) ?_
    refine lv_iload_n C.x C.b dJx4a65c_clear_da8c8_28 rfl (lv_at hl 1 rfl) ?_
    refine lv_icmp_ge (tgt := 42) C.x C.b dJx4a65c_clear_da8c8_29 rfl (fun c29 => ?_) (fun c29 => ?_)
    · replace hf := x_ip c29 hf
      rw [x_e0 hf]
      exact x_vret C hr hW dJx4a65c_clear_da8c8_42
    · replace hf := x_in c29 hf
      refine lv_aload_n C.x C.b dJx4a65c_clear_da8c8_32 rfl (lv_at hl 0 rfl) ?_
      refine lv_iload_n C.x C.b dJx4a65c_clear_da8c8_33 rfl (lv_at hl 2 rfl) ?_
      refine lv_null C.x C.b dJx4a65c_clear_da8c8_34 ?_
      replace hf := x_b1 hf; obtain ⟨M35_6, hM35_6, hf⟩ := hf
      refine x_dsn C hW hM35_6 dJx4a65c_clear_da8c8_35 (fun H locs hW => ?_)
      refine lv_iinc (v := (v3 + 1)) (lv' := [(3, .int (v3 + 1)), (1, .ref (alA E _)), (2, .int _)]) C.x C.b dJx4a65c_clear_da8c8_36 hl (k := 2) rfl (by first | rfl | decide) (by decide) rfl (fun ls hl => ?_)
      refine lv_goto (tgt := 27) C.x C.b dJx4a65c_clear_da8c8_39 rfl ?_
      exact ih (v3 + 1) M35_6 hf _ _ _ hW (lv_sub hl [1, 2, 0] rfl)
set_option maxRecDepth 100000 in
set_option maxHeartbeats 4000000 in
theorem qJx4a65c_clear_da8c8 (l : Launch) (E : Ev) {M : Mm} {o : Nat} {Mz : Mm} (hf : fJx4a65c_clear_da8c8 M o = some Mz) : Ct l E yJx4a65c_clear_da8c8 cJx4a65c_clear_da8c8 4 none 0 0 0 0 [.ref (E.b + o)] M none Mz := by
  refine ct_of (by decide +kernel) (Nat.le_of_ble_eq_true rfl) fun p e s m args below meth c C hr hin hW ls hl => ?_
  have hl : lv_has ls 4 [(0, .ref (E.b + o))] := hl
  unfold fJx4a65c_clear_da8c8 at hf
  refine lv_aload_n C.x C.b dJx4a65c_clear_da8c8_0 rfl (lv_at hl 0 rfl) ?_
  refine lv_dup C.x C.b dJx4a65c_clear_da8c8_1 rfl ?_
  replace hf := x_b1 hf; obtain ⟨x2_1, hx2_1, hf⟩ := hf
  refine x_lgeti C hW hx2_1 (by decide) T_1_221 (Or.inr T_1_222) dJx4a65c_clear_da8c8_2 ?_
  refine lv_iconst (v := 1) C.x C.b dJx4a65c_clear_da8c8_5 (by decide) ?_
  refine lv_iadd C.x C.b dJx4a65c_clear_da8c8_6 ?_
  replace hf := x_b1 hf; obtain ⟨M7_2, hM7_2, hf⟩ := hf
  refine x_lputi C hW hM7_2 (by decide) T_1_221 (Or.inr T_1_222) dJx4a65c_clear_da8c8_7 (fun H locs hW => ?_)
  refine lv_aload_n C.x C.b dJx4a65c_clear_da8c8_10 rfl (lv_at hl 0 rfl) ?_
  replace hf := x_b1 hf; obtain ⟨d11_3, hd11_3, hf⟩ := hf
  refine x_lgetd C hW hd11_3 T_1_218 dJx4a65c_clear_da8c8_11 ?_
  refine lv_astore_n (lv' := [(1, .ref (alA E _)), (0, .ref (E.b + _))]) C.x C.b dJx4a65c_clear_da8c8_14 rfl hl (by decide) rfl (fun ls hl => ?_)
  refine lv_aload_n C.x C.b dJx4a65c_clear_da8c8_15 rfl (lv_at hl 1 rfl) ?_
  replace hf := x_b1 hf; obtain ⟨x16_4, hx16_4, hf⟩ := hf
  refine x_lgeti C hW hx16_4 (by decide) T_1_219 (Or.inl rfl) dJx4a65c_clear_da8c8_16 ?_
  refine lv_istore_n (lv' := [(2, .int _), (1, .ref (alA E _)), (0, .ref (E.b + _))]) C.x C.b dJx4a65c_clear_da8c8_19 rfl hl (by decide) rfl (fun ls hl => ?_)
  refine lv_aload_n C.x C.b dJx4a65c_clear_da8c8_20 rfl (lv_at hl 2 rfl) ?_
  refine lv_iconst (v := 0) C.x C.b dJx4a65c_clear_da8c8_21 (by decide) ?_
  refine lv_dup_x1 C.x C.b dJx4a65c_clear_da8c8_22 rfl rfl ?_
  replace hf := x_b1 hf; obtain ⟨M23_5, hM23_5, hf⟩ := hf
  refine x_lputi C hW hM23_5 (by decide) T_1_219 (Or.inl rfl) dJx4a65c_clear_da8c8_23 (fun H locs hW => ?_)
  refine lv_istore_n (lv' := [(3, .int _), (2, .int _), (1, .ref (alA E _)), (0, .ref (E.b + _))]) C.x C.b dJx4a65c_clear_da8c8_26 rfl hl (by decide) rfl (fun ls hl => ?_)
  exact kJx4a65c_clear_da8c8_L27 C hr hin FL 0 M23_5 hf _ _ _ hW (lv_sub hl [2, 1, 0] rfl)

theorem dX4_init_0 : decode cX4_init 0 = .ok (.aload_n 0, 1) := by decide +kernel
theorem dX4_init_1 : decode cX4_init 1 = .ok (.invokespecial 1, 3) := by decide +kernel
theorem dX4_init_4 : decode cX4_init 4 = .ok (.aload_n 0, 1) := by decide +kernel
theorem dX4_init_5 : decode cX4_init 5 = .ok (.iconst 0, 1) := by decide +kernel
theorem dX4_init_6 : decode cX4_init 6 = .ok (.putfield 7, 3) := by decide +kernel
theorem dX4_init_9 : decode cX4_init 9 = .ok (.aload_n 0, 1) := by decide +kernel
theorem dX4_init_10 : decode cX4_init 10 = .ok (.iload_n 1, 1) := by decide +kernel
theorem dX4_init_11 : decode cX4_init 11 = .ok (.putfield 13, 3) := by decide +kernel
theorem dX4_init_14 : decode cX4_init 14 = .ok (.aload_n 0, 1) := by decide +kernel
theorem dX4_init_15 : decode cX4_init 15 = .ok (.iload_n 2, 1) := by decide +kernel
theorem dX4_init_16 : decode cX4_init 16 = .ok (.putfield 17, 3) := by decide +kernel
theorem dX4_init_19 : decode cX4_init 19 = .ok (.aload_n 0, 1) := by decide +kernel
theorem dX4_init_20 : decode cX4_init 20 = .ok (.aload_n 3, 1) := by decide +kernel
theorem dX4_init_21 : decode cX4_init 21 = .ok (.putfield 20, 3) := by decide +kernel
theorem dX4_init_24 : decode cX4_init 24 = .ok (.return_, 1) := by decide +kernel
theorem fp_X4_7_8 : FdP "NylonLadder$Plain" 7 8 3 false .boolean false := ⟨_, _, _, _, _, rfl, by decide, by decide, by decide, gxX5, by decide, T_4_233, Or.inl rfl, rfl, tyX5_ok, nmX5, by decide +kernel, rfl, fun h => by cases h⟩
theorem fp_X4_13_8 : FdP "NylonLadder$Plain" 13 8 0 false .int true := ⟨_, _, _, _, _, rfl, by decide, by decide, by decide, gxX5, by decide, T_4_210, Or.inl rfl, rfl, tyX5_ok, nmX5, by decide +kernel, rfl, fun _ => rfl⟩
theorem fp_X4_17_8 : FdP "NylonLadder$Plain" 17 8 1 false .int true := ⟨_, _, _, _, _, rfl, by decide, by decide, by decide, gxX5, by decide, T_4_217, Or.inl rfl, rfl, tyX5_ok, nmX5, by decide +kernel, rfl, fun _ => rfl⟩
theorem fp_X4_20_8 : FdP "NylonLadder$Plain" 20 8 2 true (.object "java/util/ArrayList") true := ⟨_, _, _, _, _, rfl, by decide, by decide, by decide, gxX5, by decide, T_4_222, Or.inl rfl, rfl, tyX5_ok, nmX5, by decide +kernel, rfl, fun _ => rfl⟩
def fX4_init_k8 (M : Mm) (o : Nat) (p1 : Int32) (p2 : Int32) (p3 : Nat) : Option Mm :=
  B1 (wrZ M o 8 3 0) fun M6_1 =>
  B1 (wrI M6_1 o 8 0 p1) fun M11_2 =>
  B1 (wrI M11_2 o 8 1 p2) fun M16_3 =>
  B1 (wrR M16_3 o 8 2 (some p3)) fun M21_4 =>
  some M21_4
set_option maxRecDepth 100000 in
set_option maxHeartbeats 4000000 in
theorem qX4_init_k8 (l : Launch) (E : Ev) {M : Mm} {o : Nat} {p1 : Int32} {p2 : Int32} {p3 : Nat} {Mz : Mm} (hf : fX4_init_k8 M o p1 p2 p3 = some Mz) : Ct l E yX4_init cX4_init 4 none 1 12 0 0 [.ref (E.b + o), .int p1, .int p2, .ref (E.b + p3)] M none Mz := by
  refine ct_of (by decide +kernel) (Nat.le_of_ble_eq_true rfl) fun p e s m args below meth c C hr hin hW ls hl => ?_
  have hl : lv_has ls 4 [(0, .ref (E.b + o)), (1, .int p1), (2, .int p2), (3, .ref (E.b + p3))] := hl
  unfold fX4_init_k8 at hf
  refine lv_aload_n C.x C.b dX4_init_0 rfl (lv_at hl 0 rfl) ?_
  refine x_objInit C hl T_4_209 T_1_35 T_1_36 dX4_init_1 (Nat.le_of_ble_eq_true rfl) (Nat.le_of_ble_eq_true rfl) ?_
  refine lv_aload_n C.x C.b dX4_init_4 rfl (lv_at hl 0 rfl) ?_
  refine lv_iconst (v := 0) C.x C.b dX4_init_5 (by decide) ?_
  replace hf := x_b1 hf; obtain ⟨M6_1, hM6_1, hf⟩ := hf
  refine x_putz C hW fp_X4_7_8 hM6_1 (fun h => by cases h) dX4_init_6 (fun H locs hW => ?_)
  refine lv_aload_n C.x C.b dX4_init_9 rfl (lv_at hl 0 rfl) ?_
  refine lv_iload_n C.x C.b dX4_init_10 rfl (lv_at hl 1 rfl) ?_
  replace hf := x_b1 hf; obtain ⟨M11_2, hM11_2, hf⟩ := hf
  refine x_puti C hW fp_X4_13_8 hM11_2 (fun _ => hin rfl) dX4_init_11 (fun H locs hW => ?_)
  refine lv_aload_n C.x C.b dX4_init_14 rfl (lv_at hl 0 rfl) ?_
  refine lv_iload_n C.x C.b dX4_init_15 rfl (lv_at hl 2 rfl) ?_
  replace hf := x_b1 hf; obtain ⟨M16_3, hM16_3, hf⟩ := hf
  refine x_puti C hW fp_X4_17_8 hM16_3 (fun _ => hin rfl) dX4_init_16 (fun H locs hW => ?_)
  refine lv_aload_n C.x C.b dX4_init_19 rfl (lv_at hl 0 rfl) ?_
  refine lv_aload_n C.x C.b dX4_init_20 rfl (lv_at hl 3 rfl) ?_
  replace hf := x_b1 hf; obtain ⟨M21_4, hM21_4, hf⟩ := hf
  refine x_putr (v := (some p3)) C hW fp_X4_20_8 hM21_4 (fun _ => hin rfl) rfl rfl dX4_init_21 (fun H locs hW => ?_)
  rw [x_e0 hf]
  exact x_vret C hr hW dX4_init_24

theorem dX5_init_0 : decode cX5_init 0 = .ok (.aload_n 0, 1) := by decide +kernel
theorem dX5_init_1 : decode cX5_init 1 = .ok (.iload_n 1, 1) := by decide +kernel
theorem dX5_init_2 : decode cX5_init 2 = .ok (.iload_n 2, 1) := by decide +kernel
theorem dX5_init_3 : decode cX5_init 3 = .ok (.aload_n 3, 1) := by decide +kernel
theorem dX5_init_4 : decode cX5_init 4 = .ok (.invokespecial 1, 3) := by decide +kernel
theorem dX5_init_7 : decode cX5_init 7 = .ok (.return_, 1) := by decide +kernel
theorem hd_X4_init : yX4_init.cls ≠ "java/lang/invoke/MethodHandle" ∧ yX4_init.cls ≠ "java/lang/invoke/VarHandle" ∧ (parseMethodDescriptor yX4_init.desc).map (fun d => d.parameters.length) = some 3 := by decide +kernel
def fX5_init_k8 (M : Mm) (o : Nat) (p1 : Int32) (p2 : Int32) (p3 : Nat) : Option Mm :=
  B1 (fX4_init_k8 M o p1 p2 p3) fun M4_1 =>
  some M4_1
set_option maxRecDepth 100000 in
set_option maxHeartbeats 4000000 in
theorem qX5_init_k8 (l : Launch) (E : Ev) {M : Mm} {o : Nat} {p1 : Int32} {p2 : Int32} {p3 : Nat} {Mz : Mm} (hf : fX5_init_k8 M o p1 p2 p3 = some Mz) : Ct l E yX5_init cX5_init 4 none 2 35 0 0 [.ref (E.b + o), .int p1, .int p2, .ref (E.b + p3)] M none Mz := by
  refine ct_of (by decide +kernel) (Nat.le_of_ble_eq_true rfl) fun p e s m args below meth c C hr hin hW ls hl => ?_
  have hl : lv_has ls 4 [(0, .ref (E.b + o)), (1, .int p1), (2, .int p2), (3, .ref (E.b + p3))] := hl
  unfold fX5_init_k8 at hf
  refine lv_aload_n C.x C.b dX5_init_0 rfl (lv_at hl 0 rfl) ?_
  refine lv_iload_n C.x C.b dX5_init_1 rfl (lv_at hl 1 rfl) ?_
  refine lv_iload_n C.x C.b dX5_init_2 rfl (lv_at hl 2 rfl) ?_
  refine lv_aload_n C.x C.b dX5_init_3 rfl (lv_at hl 3 rfl) ?_
  replace hf := x_b1 hf; obtain ⟨M4_1, hM4_1, hf⟩ := hf
  refine x_callI (As := [.int p1, .int p2, .ref (E.b + p3)]) (a := o) (rest := []) C hW hl (qX4_init_k8 l E hM4_1) T_4_206 T_4_207 T_1_17 T_4_208 rfl hd_X4_init rfl rfl (Nat.le_of_ble_eq_true rfl) dX5_init_4 ⟨Nat.le_of_ble_eq_true rfl, Nat.le_of_ble_eq_true rfl⟩ ⟨Nat.le_of_ble_eq_true rfl, Nat.le_of_ble_eq_true rfl⟩ (fun H locs hW => ?_)
  rw [x_e0 hf]
  exact x_vret C hr hW dX5_init_7

theorem fp_X4_7_12 : FdP "NylonLadder$Plain" 7 12 3 false .boolean false := ⟨_, _, _, _, _, rfl, by decide, by decide, by decide, gxX9, by decide, T_4_233, Or.inl rfl, rfl, tyX9_ok, nmX9, by decide +kernel, rfl, fun h => by cases h⟩
theorem fp_X4_13_12 : FdP "NylonLadder$Plain" 13 12 0 false .int true := ⟨_, _, _, _, _, rfl, by decide, by decide, by decide, gxX9, by decide, T_4_210, Or.inl rfl, rfl, tyX9_ok, nmX9, by decide +kernel, rfl, fun _ => rfl⟩
theorem fp_X4_17_12 : FdP "NylonLadder$Plain" 17 12 1 false .int true := ⟨_, _, _, _, _, rfl, by decide, by decide, by decide, gxX9, by decide, T_4_217, Or.inl rfl, rfl, tyX9_ok, nmX9, by decide +kernel, rfl, fun _ => rfl⟩
theorem fp_X4_20_12 : FdP "NylonLadder$Plain" 20 12 2 true (.object "java/util/ArrayList") true := ⟨_, _, _, _, _, rfl, by decide, by decide, by decide, gxX9, by decide, T_4_222, Or.inl rfl, rfl, tyX9_ok, nmX9, by decide +kernel, rfl, fun _ => rfl⟩
def fX4_init_k12 (M : Mm) (o : Nat) (p1 : Int32) (p2 : Int32) (p3 : Nat) : Option Mm :=
  B1 (wrZ M o 12 3 0) fun M6_1 =>
  B1 (wrI M6_1 o 12 0 p1) fun M11_2 =>
  B1 (wrI M11_2 o 12 1 p2) fun M16_3 =>
  B1 (wrR M16_3 o 12 2 (some p3)) fun M21_4 =>
  some M21_4
set_option maxRecDepth 100000 in
set_option maxHeartbeats 4000000 in
theorem qX4_init_k12 (l : Launch) (E : Ev) {M : Mm} {o : Nat} {p1 : Int32} {p2 : Int32} {p3 : Nat} {Mz : Mm} (hf : fX4_init_k12 M o p1 p2 p3 = some Mz) : Ct l E yX4_init cX4_init 4 none 1 12 0 0 [.ref (E.b + o), .int p1, .int p2, .ref (E.b + p3)] M none Mz := by
  refine ct_of (by decide +kernel) (Nat.le_of_ble_eq_true rfl) fun p e s m args below meth c C hr hin hW ls hl => ?_
  have hl : lv_has ls 4 [(0, .ref (E.b + o)), (1, .int p1), (2, .int p2), (3, .ref (E.b + p3))] := hl
  unfold fX4_init_k12 at hf
  refine lv_aload_n C.x C.b dX4_init_0 rfl (lv_at hl 0 rfl) ?_
  refine x_objInit C hl T_4_209 T_1_35 T_1_36 dX4_init_1 (Nat.le_of_ble_eq_true rfl) (Nat.le_of_ble_eq_true rfl) ?_
  refine lv_aload_n C.x C.b dX4_init_4 rfl (lv_at hl 0 rfl) ?_
  refine lv_iconst (v := 0) C.x C.b dX4_init_5 (by decide) ?_
  replace hf := x_b1 hf; obtain ⟨M6_1, hM6_1, hf⟩ := hf
  refine x_putz C hW fp_X4_7_12 hM6_1 (fun h => by cases h) dX4_init_6 (fun H locs hW => ?_)
  refine lv_aload_n C.x C.b dX4_init_9 rfl (lv_at hl 0 rfl) ?_
  refine lv_iload_n C.x C.b dX4_init_10 rfl (lv_at hl 1 rfl) ?_
  replace hf := x_b1 hf; obtain ⟨M11_2, hM11_2, hf⟩ := hf
  refine x_puti C hW fp_X4_13_12 hM11_2 (fun _ => hin rfl) dX4_init_11 (fun H locs hW => ?_)
  refine lv_aload_n C.x C.b dX4_init_14 rfl (lv_at hl 0 rfl) ?_
  refine lv_iload_n C.x C.b dX4_init_15 rfl (lv_at hl 2 rfl) ?_
  replace hf := x_b1 hf; obtain ⟨M16_3, hM16_3, hf⟩ := hf
  refine x_puti C hW fp_X4_17_12 hM16_3 (fun _ => hin rfl) dX4_init_16 (fun H locs hW => ?_)
  refine lv_aload_n C.x C.b dX4_init_19 rfl (lv_at hl 0 rfl) ?_
  refine lv_aload_n C.x C.b dX4_init_20 rfl (lv_at hl 3 rfl) ?_
  replace hf := x_b1 hf; obtain ⟨M21_4, hM21_4, hf⟩ := hf
  refine x_putr (v := (some p3)) C hW fp_X4_20_12 hM21_4 (fun _ => hin rfl) rfl rfl dX4_init_21 (fun H locs hW => ?_)
  rw [x_e0 hf]
  exact x_vret C hr hW dX4_init_24

theorem dX9_init_0 : decode cX9_init 0 = .ok (.aload_n 0, 1) := by decide +kernel
theorem dX9_init_1 : decode cX9_init 1 = .ok (.iload_n 1, 1) := by decide +kernel
theorem dX9_init_2 : decode cX9_init 2 = .ok (.iload_n 2, 1) := by decide +kernel
theorem dX9_init_3 : decode cX9_init 3 = .ok (.aload_n 3, 1) := by decide +kernel
theorem dX9_init_4 : decode cX9_init 4 = .ok (.invokespecial 1, 3) := by decide +kernel
theorem dX9_init_7 : decode cX9_init 7 = .ok (.return_, 1) := by decide +kernel
def fX9_init_k12 (M : Mm) (o : Nat) (p1 : Int32) (p2 : Int32) (p3 : Nat) : Option Mm :=
  B1 (fX4_init_k12 M o p1 p2 p3) fun M4_1 =>
  some M4_1
set_option maxRecDepth 100000 in
set_option maxHeartbeats 4000000 in
theorem qX9_init_k12 (l : Launch) (E : Ev) {M : Mm} {o : Nat} {p1 : Int32} {p2 : Int32} {p3 : Nat} {Mz : Mm} (hf : fX9_init_k12 M o p1 p2 p3 = some Mz) : Ct l E yX9_init cX9_init 4 none 2 35 0 0 [.ref (E.b + o), .int p1, .int p2, .ref (E.b + p3)] M none Mz := by
  refine ct_of (by decide +kernel) (Nat.le_of_ble_eq_true rfl) fun p e s m args below meth c C hr hin hW ls hl => ?_
  have hl : lv_has ls 4 [(0, .ref (E.b + o)), (1, .int p1), (2, .int p2), (3, .ref (E.b + p3))] := hl
  unfold fX9_init_k12 at hf
  refine lv_aload_n C.x C.b dX9_init_0 rfl (lv_at hl 0 rfl) ?_
  refine lv_iload_n C.x C.b dX9_init_1 rfl (lv_at hl 1 rfl) ?_
  refine lv_iload_n C.x C.b dX9_init_2 rfl (lv_at hl 2 rfl) ?_
  refine lv_aload_n C.x C.b dX9_init_3 rfl (lv_at hl 3 rfl) ?_
  replace hf := x_b1 hf; obtain ⟨M4_1, hM4_1, hf⟩ := hf
  refine x_callI (As := [.int p1, .int p2, .ref (E.b + p3)]) (a := o) (rest := []) C hW hl (qX4_init_k12 l E hM4_1) T_5_11 T_4_207 T_1_17 T_4_208 rfl hd_X4_init rfl rfl (Nat.le_of_ble_eq_true rfl) dX9_init_4 ⟨Nat.le_of_ble_eq_true rfl, Nat.le_of_ble_eq_true rfl⟩ ⟨Nat.le_of_ble_eq_true rfl, Nat.le_of_ble_eq_true rfl⟩ (fun H locs hW => ?_)
  rw [x_e0 hf]
  exact x_vret C hr hW dX9_init_7

theorem fp_X4_7_5 : FdP "NylonLadder$Plain" 7 5 3 false .boolean false := ⟨_, _, _, _, _, rfl, by decide, by decide, by decide, gxX2, by decide, T_4_233, Or.inl rfl, rfl, tyX2_ok, nmX2, by decide +kernel, rfl, fun h => by cases h⟩
theorem fp_X4_13_5 : FdP "NylonLadder$Plain" 13 5 0 false .int true := ⟨_, _, _, _, _, rfl, by decide, by decide, by decide, gxX2, by decide, T_4_210, Or.inl rfl, rfl, tyX2_ok, nmX2, by decide +kernel, rfl, fun _ => rfl⟩
theorem fp_X4_17_5 : FdP "NylonLadder$Plain" 17 5 1 false .int true := ⟨_, _, _, _, _, rfl, by decide, by decide, by decide, gxX2, by decide, T_4_217, Or.inl rfl, rfl, tyX2_ok, nmX2, by decide +kernel, rfl, fun _ => rfl⟩
theorem fp_X4_20_5 : FdP "NylonLadder$Plain" 20 5 2 true (.object "java/util/ArrayList") true := ⟨_, _, _, _, _, rfl, by decide, by decide, by decide, gxX2, by decide, T_4_222, Or.inl rfl, rfl, tyX2_ok, nmX2, by decide +kernel, rfl, fun _ => rfl⟩
def fX4_init_k5 (M : Mm) (o : Nat) (p1 : Int32) (p2 : Int32) (p3 : Nat) : Option Mm :=
  B1 (wrZ M o 5 3 0) fun M6_1 =>
  B1 (wrI M6_1 o 5 0 p1) fun M11_2 =>
  B1 (wrI M11_2 o 5 1 p2) fun M16_3 =>
  B1 (wrR M16_3 o 5 2 (some p3)) fun M21_4 =>
  some M21_4
set_option maxRecDepth 100000 in
set_option maxHeartbeats 4000000 in
theorem qX4_init_k5 (l : Launch) (E : Ev) {M : Mm} {o : Nat} {p1 : Int32} {p2 : Int32} {p3 : Nat} {Mz : Mm} (hf : fX4_init_k5 M o p1 p2 p3 = some Mz) : Ct l E yX4_init cX4_init 4 none 1 12 0 0 [.ref (E.b + o), .int p1, .int p2, .ref (E.b + p3)] M none Mz := by
  refine ct_of (by decide +kernel) (Nat.le_of_ble_eq_true rfl) fun p e s m args below meth c C hr hin hW ls hl => ?_
  have hl : lv_has ls 4 [(0, .ref (E.b + o)), (1, .int p1), (2, .int p2), (3, .ref (E.b + p3))] := hl
  unfold fX4_init_k5 at hf
  refine lv_aload_n C.x C.b dX4_init_0 rfl (lv_at hl 0 rfl) ?_
  refine x_objInit C hl T_4_209 T_1_35 T_1_36 dX4_init_1 (Nat.le_of_ble_eq_true rfl) (Nat.le_of_ble_eq_true rfl) ?_
  refine lv_aload_n C.x C.b dX4_init_4 rfl (lv_at hl 0 rfl) ?_
  refine lv_iconst (v := 0) C.x C.b dX4_init_5 (by decide) ?_
  replace hf := x_b1 hf; obtain ⟨M6_1, hM6_1, hf⟩ := hf
  refine x_putz C hW fp_X4_7_5 hM6_1 (fun h => by cases h) dX4_init_6 (fun H locs hW => ?_)
  refine lv_aload_n C.x C.b dX4_init_9 rfl (lv_at hl 0 rfl) ?_
  refine lv_iload_n C.x C.b dX4_init_10 rfl (lv_at hl 1 rfl) ?_
  replace hf := x_b1 hf; obtain ⟨M11_2, hM11_2, hf⟩ := hf
  refine x_puti C hW fp_X4_13_5 hM11_2 (fun _ => hin rfl) dX4_init_11 (fun H locs hW => ?_)
  refine lv_aload_n C.x C.b dX4_init_14 rfl (lv_at hl 0 rfl) ?_
  refine lv_iload_n C.x C.b dX4_init_15 rfl (lv_at hl 2 rfl) ?_
  replace hf := x_b1 hf; obtain ⟨M16_3, hM16_3, hf⟩ := hf
  refine x_puti C hW fp_X4_17_5 hM16_3 (fun _ => hin rfl) dX4_init_16 (fun H locs hW => ?_)
  refine lv_aload_n C.x C.b dX4_init_19 rfl (lv_at hl 0 rfl) ?_
  refine lv_aload_n C.x C.b dX4_init_20 rfl (lv_at hl 3 rfl) ?_
  replace hf := x_b1 hf; obtain ⟨M21_4, hM21_4, hf⟩ := hf
  refine x_putr (v := (some p3)) C hW fp_X4_20_5 hM21_4 (fun _ => hin rfl) rfl rfl dX4_init_21 (fun H locs hW => ?_)
  rw [x_e0 hf]
  exact x_vret C hr hW dX4_init_24

def fX5_init_k5 (M : Mm) (o : Nat) (p1 : Int32) (p2 : Int32) (p3 : Nat) : Option Mm :=
  B1 (fX4_init_k5 M o p1 p2 p3) fun M4_1 =>
  some M4_1
set_option maxRecDepth 100000 in
set_option maxHeartbeats 4000000 in
theorem qX5_init_k5 (l : Launch) (E : Ev) {M : Mm} {o : Nat} {p1 : Int32} {p2 : Int32} {p3 : Nat} {Mz : Mm} (hf : fX5_init_k5 M o p1 p2 p3 = some Mz) : Ct l E yX5_init cX5_init 4 none 2 35 0 0 [.ref (E.b + o), .int p1, .int p2, .ref (E.b + p3)] M none Mz := by
  refine ct_of (by decide +kernel) (Nat.le_of_ble_eq_true rfl) fun p e s m args below meth c C hr hin hW ls hl => ?_
  have hl : lv_has ls 4 [(0, .ref (E.b + o)), (1, .int p1), (2, .int p2), (3, .ref (E.b + p3))] := hl
  unfold fX5_init_k5 at hf
  refine lv_aload_n C.x C.b dX5_init_0 rfl (lv_at hl 0 rfl) ?_
  refine lv_iload_n C.x C.b dX5_init_1 rfl (lv_at hl 1 rfl) ?_
  refine lv_iload_n C.x C.b dX5_init_2 rfl (lv_at hl 2 rfl) ?_
  refine lv_aload_n C.x C.b dX5_init_3 rfl (lv_at hl 3 rfl) ?_
  replace hf := x_b1 hf; obtain ⟨M4_1, hM4_1, hf⟩ := hf
  refine x_callI (As := [.int p1, .int p2, .ref (E.b + p3)]) (a := o) (rest := []) C hW hl (qX4_init_k5 l E hM4_1) T_4_206 T_4_207 T_1_17 T_4_208 rfl hd_X4_init rfl rfl (Nat.le_of_ble_eq_true rfl) dX5_init_4 ⟨Nat.le_of_ble_eq_true rfl, Nat.le_of_ble_eq_true rfl⟩ ⟨Nat.le_of_ble_eq_true rfl, Nat.le_of_ble_eq_true rfl⟩ (fun H locs hW => ?_)
  rw [x_e0 hf]
  exact x_vret C hr hW dX5_init_7

theorem dX2_init_0 : decode cX2_init 0 = .ok (.aload_n 0, 1) := by decide +kernel
theorem dX2_init_1 : decode cX2_init 1 = .ok (.iload_n 1, 1) := by decide +kernel
theorem dX2_init_2 : decode cX2_init 2 = .ok (.iload_n 2, 1) := by decide +kernel
theorem dX2_init_3 : decode cX2_init 3 = .ok (.aload_n 3, 1) := by decide +kernel
theorem dX2_init_4 : decode cX2_init 4 = .ok (.invokespecial 1, 3) := by decide +kernel
theorem dX2_init_7 : decode cX2_init 7 = .ok (.return_, 1) := by decide +kernel
theorem hd_X5_init : yX5_init.cls ≠ "java/lang/invoke/MethodHandle" ∧ yX5_init.cls ≠ "java/lang/invoke/VarHandle" ∧ (parseMethodDescriptor yX5_init.desc).map (fun d => d.parameters.length) = some 3 := by decide +kernel
def fX2_init_k5 (M : Mm) (o : Nat) (p1 : Int32) (p2 : Int32) (p3 : Nat) : Option Mm :=
  B1 (fX5_init_k5 M o p1 p2 p3) fun M4_1 =>
  some M4_1
set_option maxRecDepth 100000 in
set_option maxHeartbeats 4000000 in
theorem qX2_init_k5 (l : Launch) (E : Ev) {M : Mm} {o : Nat} {p1 : Int32} {p2 : Int32} {p3 : Nat} {Mz : Mm} (hf : fX2_init_k5 M o p1 p2 p3 = some Mz) : Ct l E yX2_init cX2_init 4 none 3 58 0 0 [.ref (E.b + o), .int p1, .int p2, .ref (E.b + p3)] M none Mz := by
  refine ct_of (by decide +kernel) (Nat.le_of_ble_eq_true rfl) fun p e s m args below meth c C hr hin hW ls hl => ?_
  have hl : lv_has ls 4 [(0, .ref (E.b + o)), (1, .int p1), (2, .int p2), (3, .ref (E.b + p3))] := hl
  unfold fX2_init_k5 at hf
  refine lv_aload_n C.x C.b dX2_init_0 rfl (lv_at hl 0 rfl) ?_
  refine lv_iload_n C.x C.b dX2_init_1 rfl (lv_at hl 1 rfl) ?_
  refine lv_iload_n C.x C.b dX2_init_2 rfl (lv_at hl 2 rfl) ?_
  refine lv_aload_n C.x C.b dX2_init_3 rfl (lv_at hl 3 rfl) ?_
  replace hf := x_b1 hf; obtain ⟨M4_1, hM4_1, hf⟩ := hf
  refine x_callI (As := [.int p1, .int p2, .ref (E.b + p3)]) (a := o) (rest := []) C hW hl (qX5_init_k5 l E hM4_1) T_5_22 T_4_204 T_1_18 T_4_205 rfl hd_X5_init rfl rfl (Nat.le_of_ble_eq_true rfl) dX2_init_4 ⟨Nat.le_of_ble_eq_true rfl, Nat.le_of_ble_eq_true rfl⟩ ⟨Nat.le_of_ble_eq_true rfl, Nat.le_of_ble_eq_true rfl⟩ (fun H locs hW => ?_)
  rw [x_e0 hf]
  exact x_vret C hr hW dX2_init_7

theorem fp_X4_7_4 : FdP "NylonLadder$Plain" 7 4 3 false .boolean false := ⟨_, _, _, _, _, rfl, by decide, by decide, by decide, gxX1, by decide, T_4_233, Or.inl rfl, rfl, tyX1_ok, nmX1, by decide +kernel, rfl, fun h => by cases h⟩
theorem fp_X4_13_4 : FdP "NylonLadder$Plain" 13 4 0 false .int true := ⟨_, _, _, _, _, rfl, by decide, by decide, by decide, gxX1, by decide, T_4_210, Or.inl rfl, rfl, tyX1_ok, nmX1, by decide +kernel, rfl, fun _ => rfl⟩
theorem fp_X4_17_4 : FdP "NylonLadder$Plain" 17 4 1 false .int true := ⟨_, _, _, _, _, rfl, by decide, by decide, by decide, gxX1, by decide, T_4_217, Or.inl rfl, rfl, tyX1_ok, nmX1, by decide +kernel, rfl, fun _ => rfl⟩
theorem fp_X4_20_4 : FdP "NylonLadder$Plain" 20 4 2 true (.object "java/util/ArrayList") true := ⟨_, _, _, _, _, rfl, by decide, by decide, by decide, gxX1, by decide, T_4_222, Or.inl rfl, rfl, tyX1_ok, nmX1, by decide +kernel, rfl, fun _ => rfl⟩
def fX4_init_k4 (M : Mm) (o : Nat) (p1 : Int32) (p2 : Int32) (p3 : Nat) : Option Mm :=
  B1 (wrZ M o 4 3 0) fun M6_1 =>
  B1 (wrI M6_1 o 4 0 p1) fun M11_2 =>
  B1 (wrI M11_2 o 4 1 p2) fun M16_3 =>
  B1 (wrR M16_3 o 4 2 (some p3)) fun M21_4 =>
  some M21_4
set_option maxRecDepth 100000 in
set_option maxHeartbeats 4000000 in
theorem qX4_init_k4 (l : Launch) (E : Ev) {M : Mm} {o : Nat} {p1 : Int32} {p2 : Int32} {p3 : Nat} {Mz : Mm} (hf : fX4_init_k4 M o p1 p2 p3 = some Mz) : Ct l E yX4_init cX4_init 4 none 1 12 0 0 [.ref (E.b + o), .int p1, .int p2, .ref (E.b + p3)] M none Mz := by
  refine ct_of (by decide +kernel) (Nat.le_of_ble_eq_true rfl) fun p e s m args below meth c C hr hin hW ls hl => ?_
  have hl : lv_has ls 4 [(0, .ref (E.b + o)), (1, .int p1), (2, .int p2), (3, .ref (E.b + p3))] := hl
  unfold fX4_init_k4 at hf
  refine lv_aload_n C.x C.b dX4_init_0 rfl (lv_at hl 0 rfl) ?_
  refine x_objInit C hl T_4_209 T_1_35 T_1_36 dX4_init_1 (Nat.le_of_ble_eq_true rfl) (Nat.le_of_ble_eq_true rfl) ?_
  refine lv_aload_n C.x C.b dX4_init_4 rfl (lv_at hl 0 rfl) ?_
  refine lv_iconst (v := 0) C.x C.b dX4_init_5 (by decide) ?_
  replace hf := x_b1 hf; obtain ⟨M6_1, hM6_1, hf⟩ := hf
  refine x_putz C hW fp_X4_7_4 hM6_1 (fun h => by cases h) dX4_init_6 (fun H locs hW => ?_)
  refine lv_aload_n C.x C.b dX4_init_9 rfl (lv_at hl 0 rfl) ?_
  refine lv_iload_n C.x C.b dX4_init_10 rfl (lv_at hl 1 rfl) ?_
  replace hf := x_b1 hf; obtain ⟨M11_2, hM11_2, hf⟩ := hf
  refine x_puti C hW fp_X4_13_4 hM11_2 (fun _ => hin rfl) dX4_init_11 (fun H locs hW => ?_)
  refine lv_aload_n C.x C.b dX4_init_14 rfl (lv_at hl 0 rfl) ?_
  refine lv_iload_n C.x C.b dX4_init_15 rfl (lv_at hl 2 rfl) ?_
  replace hf := x_b1 hf; obtain ⟨M16_3, hM16_3, hf⟩ := hf
  refine x_puti C hW fp_X4_17_4 hM16_3 (fun _ => hin rfl) dX4_init_16 (fun H locs hW => ?_)
  refine lv_aload_n C.x C.b dX4_init_19 rfl (lv_at hl 0 rfl) ?_
  refine lv_aload_n C.x C.b dX4_init_20 rfl (lv_at hl 3 rfl) ?_
  replace hf := x_b1 hf; obtain ⟨M21_4, hM21_4, hf⟩ := hf
  refine x_putr (v := (some p3)) C hW fp_X4_20_4 hM21_4 (fun _ => hin rfl) rfl rfl dX4_init_21 (fun H locs hW => ?_)
  rw [x_e0 hf]
  exact x_vret C hr hW dX4_init_24

def fX9_init_k4 (M : Mm) (o : Nat) (p1 : Int32) (p2 : Int32) (p3 : Nat) : Option Mm :=
  B1 (fX4_init_k4 M o p1 p2 p3) fun M4_1 =>
  some M4_1
set_option maxRecDepth 100000 in
set_option maxHeartbeats 4000000 in
theorem qX9_init_k4 (l : Launch) (E : Ev) {M : Mm} {o : Nat} {p1 : Int32} {p2 : Int32} {p3 : Nat} {Mz : Mm} (hf : fX9_init_k4 M o p1 p2 p3 = some Mz) : Ct l E yX9_init cX9_init 4 none 2 35 0 0 [.ref (E.b + o), .int p1, .int p2, .ref (E.b + p3)] M none Mz := by
  refine ct_of (by decide +kernel) (Nat.le_of_ble_eq_true rfl) fun p e s m args below meth c C hr hin hW ls hl => ?_
  have hl : lv_has ls 4 [(0, .ref (E.b + o)), (1, .int p1), (2, .int p2), (3, .ref (E.b + p3))] := hl
  unfold fX9_init_k4 at hf
  refine lv_aload_n C.x C.b dX9_init_0 rfl (lv_at hl 0 rfl) ?_
  refine lv_iload_n C.x C.b dX9_init_1 rfl (lv_at hl 1 rfl) ?_
  refine lv_iload_n C.x C.b dX9_init_2 rfl (lv_at hl 2 rfl) ?_
  refine lv_aload_n C.x C.b dX9_init_3 rfl (lv_at hl 3 rfl) ?_
  replace hf := x_b1 hf; obtain ⟨M4_1, hM4_1, hf⟩ := hf
  refine x_callI (As := [.int p1, .int p2, .ref (E.b + p3)]) (a := o) (rest := []) C hW hl (qX4_init_k4 l E hM4_1) T_5_11 T_4_207 T_1_17 T_4_208 rfl hd_X4_init rfl rfl (Nat.le_of_ble_eq_true rfl) dX9_init_4 ⟨Nat.le_of_ble_eq_true rfl, Nat.le_of_ble_eq_true rfl⟩ ⟨Nat.le_of_ble_eq_true rfl, Nat.le_of_ble_eq_true rfl⟩ (fun H locs hW => ?_)
  rw [x_e0 hf]
  exact x_vret C hr hW dX9_init_7

theorem dX1_init_0 : decode cX1_init 0 = .ok (.aload_n 0, 1) := by decide +kernel
theorem dX1_init_1 : decode cX1_init 1 = .ok (.iload_n 1, 1) := by decide +kernel
theorem dX1_init_2 : decode cX1_init 2 = .ok (.iload_n 2, 1) := by decide +kernel
theorem dX1_init_3 : decode cX1_init 3 = .ok (.aload_n 3, 1) := by decide +kernel
theorem dX1_init_4 : decode cX1_init 4 = .ok (.invokespecial 1, 3) := by decide +kernel
theorem dX1_init_7 : decode cX1_init 7 = .ok (.return_, 1) := by decide +kernel
theorem hd_X9_init : yX9_init.cls ≠ "java/lang/invoke/MethodHandle" ∧ yX9_init.cls ≠ "java/lang/invoke/VarHandle" ∧ (parseMethodDescriptor yX9_init.desc).map (fun d => d.parameters.length) = some 3 := by decide +kernel
def fX1_init_k4 (M : Mm) (o : Nat) (p1 : Int32) (p2 : Int32) (p3 : Nat) : Option Mm :=
  B1 (fX9_init_k4 M o p1 p2 p3) fun M4_1 =>
  some M4_1
set_option maxRecDepth 100000 in
set_option maxHeartbeats 4000000 in
theorem qX1_init_k4 (l : Launch) (E : Ev) {M : Mm} {o : Nat} {p1 : Int32} {p2 : Int32} {p3 : Nat} {Mz : Mm} (hf : fX1_init_k4 M o p1 p2 p3 = some Mz) : Ct l E yX1_init cX1_init 4 none 3 58 0 0 [.ref (E.b + o), .int p1, .int p2, .ref (E.b + p3)] M none Mz := by
  refine ct_of (by decide +kernel) (Nat.le_of_ble_eq_true rfl) fun p e s m args below meth c C hr hin hW ls hl => ?_
  have hl : lv_has ls 4 [(0, .ref (E.b + o)), (1, .int p1), (2, .int p2), (3, .ref (E.b + p3))] := hl
  unfold fX1_init_k4 at hf
  refine lv_aload_n C.x C.b dX1_init_0 rfl (lv_at hl 0 rfl) ?_
  refine lv_iload_n C.x C.b dX1_init_1 rfl (lv_at hl 1 rfl) ?_
  refine lv_iload_n C.x C.b dX1_init_2 rfl (lv_at hl 2 rfl) ?_
  refine lv_aload_n C.x C.b dX1_init_3 rfl (lv_at hl 3 rfl) ?_
  replace hf := x_b1 hf; obtain ⟨M4_1, hM4_1, hf⟩ := hf
  refine x_callI (As := [.int p1, .int p2, .ref (E.b + p3)]) (a := o) (rest := []) C hW hl (qX9_init_k4 l E hM4_1) T_5_33 T_5_9 T_1_19 T_5_10 rfl hd_X9_init rfl rfl (Nat.le_of_ble_eq_true rfl) dX1_init_4 ⟨Nat.le_of_ble_eq_true rfl, Nat.le_of_ble_eq_true rfl⟩ ⟨Nat.le_of_ble_eq_true rfl, Nat.le_of_ble_eq_true rfl⟩ (fun H locs hW => ?_)
  rw [x_e0 hf]
  exact x_vret C hr hW dX1_init_7

theorem fp_X4_7_6 : FdP "NylonLadder$Plain" 7 6 3 false .boolean false := ⟨_, _, _, _, _, rfl, by decide, by decide, by decide, gxX3, by decide, T_4_233, Or.inl rfl, rfl, tyX3_ok, nmX3, by decide +kernel, rfl, fun h => by cases h⟩
theorem fp_X4_13_6 : FdP "NylonLadder$Plain" 13 6 0 false .int true := ⟨_, _, _, _, _, rfl, by decide, by decide, by decide, gxX3, by decide, T_4_210, Or.inl rfl, rfl, tyX3_ok, nmX3, by decide +kernel, rfl, fun _ => rfl⟩
theorem fp_X4_17_6 : FdP "NylonLadder$Plain" 17 6 1 false .int true := ⟨_, _, _, _, _, rfl, by decide, by decide, by decide, gxX3, by decide, T_4_217, Or.inl rfl, rfl, tyX3_ok, nmX3, by decide +kernel, rfl, fun _ => rfl⟩
theorem fp_X4_20_6 : FdP "NylonLadder$Plain" 20 6 2 true (.object "java/util/ArrayList") true := ⟨_, _, _, _, _, rfl, by decide, by decide, by decide, gxX3, by decide, T_4_222, Or.inl rfl, rfl, tyX3_ok, nmX3, by decide +kernel, rfl, fun _ => rfl⟩
def fX4_init_k6 (M : Mm) (o : Nat) (p1 : Int32) (p2 : Int32) (p3 : Nat) : Option Mm :=
  B1 (wrZ M o 6 3 0) fun M6_1 =>
  B1 (wrI M6_1 o 6 0 p1) fun M11_2 =>
  B1 (wrI M11_2 o 6 1 p2) fun M16_3 =>
  B1 (wrR M16_3 o 6 2 (some p3)) fun M21_4 =>
  some M21_4
set_option maxRecDepth 100000 in
set_option maxHeartbeats 4000000 in
theorem qX4_init_k6 (l : Launch) (E : Ev) {M : Mm} {o : Nat} {p1 : Int32} {p2 : Int32} {p3 : Nat} {Mz : Mm} (hf : fX4_init_k6 M o p1 p2 p3 = some Mz) : Ct l E yX4_init cX4_init 4 none 1 12 0 0 [.ref (E.b + o), .int p1, .int p2, .ref (E.b + p3)] M none Mz := by
  refine ct_of (by decide +kernel) (Nat.le_of_ble_eq_true rfl) fun p e s m args below meth c C hr hin hW ls hl => ?_
  have hl : lv_has ls 4 [(0, .ref (E.b + o)), (1, .int p1), (2, .int p2), (3, .ref (E.b + p3))] := hl
  unfold fX4_init_k6 at hf
  refine lv_aload_n C.x C.b dX4_init_0 rfl (lv_at hl 0 rfl) ?_
  refine x_objInit C hl T_4_209 T_1_35 T_1_36 dX4_init_1 (Nat.le_of_ble_eq_true rfl) (Nat.le_of_ble_eq_true rfl) ?_
  refine lv_aload_n C.x C.b dX4_init_4 rfl (lv_at hl 0 rfl) ?_
  refine lv_iconst (v := 0) C.x C.b dX4_init_5 (by decide) ?_
  replace hf := x_b1 hf; obtain ⟨M6_1, hM6_1, hf⟩ := hf
  refine x_putz C hW fp_X4_7_6 hM6_1 (fun h => by cases h) dX4_init_6 (fun H locs hW => ?_)
  refine lv_aload_n C.x C.b dX4_init_9 rfl (lv_at hl 0 rfl) ?_
  refine lv_iload_n C.x C.b dX4_init_10 rfl (lv_at hl 1 rfl) ?_
  replace hf := x_b1 hf; obtain ⟨M11_2, hM11_2, hf⟩ := hf
  refine x_puti C hW fp_X4_13_6 hM11_2 (fun _ => hin rfl) dX4_init_11 (fun H locs hW => ?_)
  refine lv_aload_n C.x C.b dX4_init_14 rfl (lv_at hl 0 rfl) ?_
  refine lv_iload_n C.x C.b dX4_init_15 rfl (lv_at hl 2 rfl) ?_
  replace hf := x_b1 hf; obtain ⟨M16_3, hM16_3, hf⟩ := hf
  refine x_puti C hW fp_X4_17_6 hM16_3 (fun _ => hin rfl) dX4_init_16 (fun H locs hW => ?_)
  refine lv_aload_n C.x C.b dX4_init_19 rfl (lv_at hl 0 rfl) ?_
  refine lv_aload_n C.x C.b dX4_init_20 rfl (lv_at hl 3 rfl) ?_
  replace hf := x_b1 hf; obtain ⟨M21_4, hM21_4, hf⟩ := hf
  refine x_putr (v := (some p3)) C hW fp_X4_20_6 hM21_4 (fun _ => hin rfl) rfl rfl dX4_init_21 (fun H locs hW => ?_)
  rw [x_e0 hf]
  exact x_vret C hr hW dX4_init_24

theorem dX3_init_0 : decode cX3_init 0 = .ok (.aload_n 0, 1) := by decide +kernel
theorem dX3_init_1 : decode cX3_init 1 = .ok (.iload_n 1, 1) := by decide +kernel
theorem dX3_init_2 : decode cX3_init 2 = .ok (.iload_n 2, 1) := by decide +kernel
theorem dX3_init_3 : decode cX3_init 3 = .ok (.aload_n 3, 1) := by decide +kernel
theorem dX3_init_4 : decode cX3_init 4 = .ok (.invokespecial 1, 3) := by decide +kernel
theorem dX3_init_7 : decode cX3_init 7 = .ok (.return_, 1) := by decide +kernel
def fX3_init_k6 (M : Mm) (o : Nat) (p1 : Int32) (p2 : Int32) (p3 : Nat) : Option Mm :=
  B1 (fX4_init_k6 M o p1 p2 p3) fun M4_1 =>
  some M4_1
set_option maxRecDepth 100000 in
set_option maxHeartbeats 4000000 in
theorem qX3_init_k6 (l : Launch) (E : Ev) {M : Mm} {o : Nat} {p1 : Int32} {p2 : Int32} {p3 : Nat} {Mz : Mm} (hf : fX3_init_k6 M o p1 p2 p3 = some Mz) : Ct l E yX3_init cX3_init 4 none 2 35 0 0 [.ref (E.b + o), .int p1, .int p2, .ref (E.b + p3)] M none Mz := by
  refine ct_of (by decide +kernel) (Nat.le_of_ble_eq_true rfl) fun p e s m args below meth c C hr hin hW ls hl => ?_
  have hl : lv_has ls 4 [(0, .ref (E.b + o)), (1, .int p1), (2, .int p2), (3, .ref (E.b + p3))] := hl
  unfold fX3_init_k6 at hf
  refine lv_aload_n C.x C.b dX3_init_0 rfl (lv_at hl 0 rfl) ?_
  refine lv_iload_n C.x C.b dX3_init_1 rfl (lv_at hl 1 rfl) ?_
  refine lv_iload_n C.x C.b dX3_init_2 rfl (lv_at hl 2 rfl) ?_
  refine lv_aload_n C.x C.b dX3_init_3 rfl (lv_at hl 3 rfl) ?_
  replace hf := x_b1 hf; obtain ⟨M4_1, hM4_1, hf⟩ := hf
  refine x_callI (As := [.int p1, .int p2, .ref (E.b + p3)]) (a := o) (rest := []) C hW hl (qX4_init_k6 l E hM4_1) T_5_44 T_4_207 T_1_17 T_4_208 rfl hd_X4_init rfl rfl (Nat.le_of_ble_eq_true rfl) dX3_init_4 ⟨Nat.le_of_ble_eq_true rfl, Nat.le_of_ble_eq_true rfl⟩ ⟨Nat.le_of_ble_eq_true rfl, Nat.le_of_ble_eq_true rfl⟩ (fun H locs hW => ?_)
  rw [x_e0 hf]
  exact x_vret C hr hW dX3_init_7

theorem fp_X4_7_7 : FdP "NylonLadder$Plain" 7 7 3 false .boolean false := ⟨_, _, _, _, _, rfl, by decide, by decide, by decide, gxX4, by decide, T_4_233, Or.inl rfl, rfl, tyX4_ok, nmX4, by decide +kernel, rfl, fun h => by cases h⟩
theorem fp_X4_13_7 : FdP "NylonLadder$Plain" 13 7 0 false .int true := ⟨_, _, _, _, _, rfl, by decide, by decide, by decide, gxX4, by decide, T_4_210, Or.inl rfl, rfl, tyX4_ok, nmX4, by decide +kernel, rfl, fun _ => rfl⟩
theorem fp_X4_17_7 : FdP "NylonLadder$Plain" 17 7 1 false .int true := ⟨_, _, _, _, _, rfl, by decide, by decide, by decide, gxX4, by decide, T_4_217, Or.inl rfl, rfl, tyX4_ok, nmX4, by decide +kernel, rfl, fun _ => rfl⟩
theorem fp_X4_20_7 : FdP "NylonLadder$Plain" 20 7 2 true (.object "java/util/ArrayList") true := ⟨_, _, _, _, _, rfl, by decide, by decide, by decide, gxX4, by decide, T_4_222, Or.inl rfl, rfl, tyX4_ok, nmX4, by decide +kernel, rfl, fun _ => rfl⟩
def fX4_init_k7 (M : Mm) (o : Nat) (p1 : Int32) (p2 : Int32) (p3 : Nat) : Option Mm :=
  B1 (wrZ M o 7 3 0) fun M6_1 =>
  B1 (wrI M6_1 o 7 0 p1) fun M11_2 =>
  B1 (wrI M11_2 o 7 1 p2) fun M16_3 =>
  B1 (wrR M16_3 o 7 2 (some p3)) fun M21_4 =>
  some M21_4
set_option maxRecDepth 100000 in
set_option maxHeartbeats 4000000 in
theorem qX4_init_k7 (l : Launch) (E : Ev) {M : Mm} {o : Nat} {p1 : Int32} {p2 : Int32} {p3 : Nat} {Mz : Mm} (hf : fX4_init_k7 M o p1 p2 p3 = some Mz) : Ct l E yX4_init cX4_init 4 none 1 12 0 0 [.ref (E.b + o), .int p1, .int p2, .ref (E.b + p3)] M none Mz := by
  refine ct_of (by decide +kernel) (Nat.le_of_ble_eq_true rfl) fun p e s m args below meth c C hr hin hW ls hl => ?_
  have hl : lv_has ls 4 [(0, .ref (E.b + o)), (1, .int p1), (2, .int p2), (3, .ref (E.b + p3))] := hl
  unfold fX4_init_k7 at hf
  refine lv_aload_n C.x C.b dX4_init_0 rfl (lv_at hl 0 rfl) ?_
  refine x_objInit C hl T_4_209 T_1_35 T_1_36 dX4_init_1 (Nat.le_of_ble_eq_true rfl) (Nat.le_of_ble_eq_true rfl) ?_
  refine lv_aload_n C.x C.b dX4_init_4 rfl (lv_at hl 0 rfl) ?_
  refine lv_iconst (v := 0) C.x C.b dX4_init_5 (by decide) ?_
  replace hf := x_b1 hf; obtain ⟨M6_1, hM6_1, hf⟩ := hf
  refine x_putz C hW fp_X4_7_7 hM6_1 (fun h => by cases h) dX4_init_6 (fun H locs hW => ?_)
  refine lv_aload_n C.x C.b dX4_init_9 rfl (lv_at hl 0 rfl) ?_
  refine lv_iload_n C.x C.b dX4_init_10 rfl (lv_at hl 1 rfl) ?_
  replace hf := x_b1 hf; obtain ⟨M11_2, hM11_2, hf⟩ := hf
  refine x_puti C hW fp_X4_13_7 hM11_2 (fun _ => hin rfl) dX4_init_11 (fun H locs hW => ?_)
  refine lv_aload_n C.x C.b dX4_init_14 rfl (lv_at hl 0 rfl) ?_
  refine lv_iload_n C.x C.b dX4_init_15 rfl (lv_at hl 2 rfl) ?_
  replace hf := x_b1 hf; obtain ⟨M16_3, hM16_3, hf⟩ := hf
  refine x_puti C hW fp_X4_17_7 hM16_3 (fun _ => hin rfl) dX4_init_16 (fun H locs hW => ?_)
  refine lv_aload_n C.x C.b dX4_init_19 rfl (lv_at hl 0 rfl) ?_
  refine lv_aload_n C.x C.b dX4_init_20 rfl (lv_at hl 3 rfl) ?_
  replace hf := x_b1 hf; obtain ⟨M21_4, hM21_4, hf⟩ := hf
  refine x_putr (v := (some p3)) C hW fp_X4_20_7 hM21_4 (fun _ => hin rfl) rfl rfl dX4_init_21 (fun H locs hW => ?_)
  rw [x_e0 hf]
  exact x_vret C hr hW dX4_init_24
