theorem dX11_openDabbed_0 : decode cX11_openDabbed 0 = .ok (.aload_n 0, 1) := by decide +kernel
theorem dX11_openDabbed_1 : decode cX11_openDabbed 1 = .ok (.iload_n 1, 1) := by decide +kernel
theorem dX11_openDabbed_2 : decode cX11_openDabbed 2 = .ok (.invokevirtual 234, 3) := by decide +kernel
theorem dX11_openDabbed_5 : decode cX11_openDabbed 5 = .ok (.astore 4, 2) := by decide +kernel
theorem dX11_openDabbed_7 : decode cX11_openDabbed 7 = .ok (.aload 4, 2) := by decide +kernel
theorem dX11_openDabbed_9 : decode cX11_openDabbed 9 = .ok (.ifnonnull 5, 3) := by decide +kernel
theorem dX11_openDabbed_12 : decode cX11_openDabbed 12 = .ok (.iconst 0, 1) := by decide +kernel
theorem dX11_openDabbed_13 : decode cX11_openDabbed 13 = .ok (.ireturn, 1) := by decide +kernel
theorem dX11_openDabbed_14 : decode cX11_openDabbed 14 = .ok (.aload_n 0, 1) := by decide +kernel
theorem dX11_openDabbed_15 : decode cX11_openDabbed 15 = .ok (.getfield 10, 3) := by decide +kernel
theorem dX11_openDabbed_18 : decode cX11_openDabbed 18 = .ok (.getfield 107, 3) := by decide +kernel
theorem dX11_openDabbed_21 : decode cX11_openDabbed 21 = .ok (.iconst 2, 1) := by decide +kernel
theorem dX11_openDabbed_22 : decode cX11_openDabbed 22 = .ok (.iaload, 1) := by decide +kernel
theorem dX11_openDabbed_23 : decode cX11_openDabbed 23 = .ok (.istore 5, 2) := by decide +kernel
theorem dX11_openDabbed_25 : decode cX11_openDabbed 25 = .ok (.aload 4, 2) := by decide +kernel
theorem dX11_openDabbed_27 : decode cX11_openDabbed 27 = .ok (.aload_n 2, 1) := by decide +kernel
theorem dX11_openDabbed_28 : decode cX11_openDabbed 28 = .ok (.iconst 0, 1) := by decide +kernel
theorem dX11_openDabbed_29 : decode cX11_openDabbed 29 = .ok (.iload_n 3, 1) := by decide +kernel
theorem dX11_openDabbed_30 : decode cX11_openDabbed 30 = .ok (.aload_n 0, 1) := by decide +kernel
theorem dX11_openDabbed_31 : decode cX11_openDabbed 31 = .ok (.getfield 10, 3) := by decide +kernel
theorem dX11_openDabbed_34 : decode cX11_openDabbed 34 = .ok (.getfield 107, 3) := by decide +kernel
theorem dX11_openDabbed_37 : decode cX11_openDabbed 37 = .ok (.invokevirtual 240, 3) := by decide +kernel
theorem dX11_openDabbed_40 : decode cX11_openDabbed 40 = .ok (.aload 4, 2) := by decide +kernel
theorem dX11_openDabbed_42 : decode cX11_openDabbed 42 = .ok (.aload 4, 2) := by decide +kernel
theorem dX11_openDabbed_44 : decode cX11_openDabbed 44 = .ok (.getfield 142, 3) := by decide +kernel
theorem dX11_openDabbed_47 : decode cX11_openDabbed 47 = .ok (.iconst 1, 1) := by decide +kernel
theorem dX11_openDabbed_48 : decode cX11_openDabbed 48 = .ok (.isub, 1) := by decide +kernel
theorem dX11_openDabbed_49 : decode cX11_openDabbed 49 = .ok (.iload 5, 2) := by decide +kernel
theorem dX11_openDabbed_51 : decode cX11_openDabbed 51 = .ok (.invokevirtual 161, 3) := by decide +kernel
theorem dX11_openDabbed_54 : decode cX11_openDabbed 54 = .ok (.pop, 1) := by decide +kernel
theorem dX11_openDabbed_55 : decode cX11_openDabbed 55 = .ok (.aload 4, 2) := by decide +kernel
theorem dX11_openDabbed_57 : decode cX11_openDabbed 57 = .ok (.aload 4, 2) := by decide +kernel
theorem dX11_openDabbed_59 : decode cX11_openDabbed 59 = .ok (.getfield 145, 3) := by decide +kernel
theorem dX11_openDabbed_62 : decode cX11_openDabbed 62 = .ok (.iconst 1, 1) := by decide +kernel
theorem dX11_openDabbed_63 : decode cX11_openDabbed 63 = .ok (.iadd, 1) := by decide +kernel
theorem dX11_openDabbed_64 : decode cX11_openDabbed 64 = .ok (.iload 5, 2) := by decide +kernel
theorem dX11_openDabbed_66 : decode cX11_openDabbed 66 = .ok (.invokevirtual 161, 3) := by decide +kernel
theorem dX11_openDabbed_69 : decode cX11_openDabbed 69 = .ok (.pop, 1) := by decide +kernel
theorem dX11_openDabbed_70 : decode cX11_openDabbed 70 = .ok (.aload 4, 2) := by decide +kernel
theorem dX11_openDabbed_72 : decode cX11_openDabbed 72 = .ok (.iload 5, 2) := by decide +kernel
theorem dX11_openDabbed_74 : decode cX11_openDabbed 74 = .ok (.invokevirtual 376, 3) := by decide +kernel
theorem dX11_openDabbed_77 : decode cX11_openDabbed 77 = .ok (.aload 4, 2) := by decide +kernel
theorem dX11_openDabbed_79 : decode cX11_openDabbed 79 = .ok (.aload_n 2, 1) := by decide +kernel
theorem dX11_openDabbed_80 : decode cX11_openDabbed 80 = .ok (.iload_n 3, 1) := by decide +kernel
theorem dX11_openDabbed_81 : decode cX11_openDabbed 81 = .ok (.aload_n 2, 1) := by decide +kernel
theorem dX11_openDabbed_82 : decode cX11_openDabbed 82 = .ok (.getfield 204, 3) := by decide +kernel
theorem dX11_openDabbed_85 : decode cX11_openDabbed 85 = .ok (.aload_n 0, 1) := by decide +kernel
theorem dX11_openDabbed_86 : decode cX11_openDabbed 86 = .ok (.getfield 10, 3) := by decide +kernel
theorem dX11_openDabbed_89 : decode cX11_openDabbed 89 = .ok (.getfield 107, 3) := by decide +kernel
theorem dX11_openDabbed_92 : decode cX11_openDabbed 92 = .ok (.invokevirtual 240, 3) := by decide +kernel
theorem dX11_openDabbed_95 : decode cX11_openDabbed 95 = .ok (.aload 4, 2) := by decide +kernel
theorem dX11_openDabbed_97 : decode cX11_openDabbed 97 = .ok (.invokevirtual 152, 3) := by decide +kernel
theorem dX11_openDabbed_100 : decode cX11_openDabbed 100 = .ok (.ireturn, 1) := by decide +kernel
theorem gv_X11_376 : GoodIn gT (wsV "NylonLadder" 376 "NylonLadder$Stocking" yX7_stand (Cond.code yX7_stand cX7_stand 3 none :: gT)) := good_V T_4_0 T_3_141 T_3_142 T_1_4 T_3_143
def fX11_openDabbed (M : Mm) (o : Nat) (p1 : Int32) (p2 : Nat) (p3 : Int32) : Option (Int32 × Mm) :=
  B1 (gk M o 14) fun _ =>
  B2 (fX11_beginTrial M o p1) fun x2_2 M2_3 =>
  NL x2_2 (
    some (0, M2_3)) (fun a9_4 =>
    B1 (rdN M2_3 o 14 0) fun a15_5 =>
    B1 (rdN M2_3 a15_5 3 0) fun a18_6 =>
    B1 (alI M2_3 a18_6 2) fun x22_7 =>
    B1 (rdN M2_3 o 14 0) fun a31_8 =>
    B1 (rdN M2_3 a31_8 3 0) fun a34_9 =>
    B1 (gk M2_3 a9_4 10) fun _ =>
    B1 (fX7_passWay M2_3 a9_4 p2 0 p3 a34_9) fun M37_11 =>
    B1 (rdI M37_11 a9_4 10 6) fun x44_12 =>
    B1 (gk M37_11 a9_4 10) fun _ =>
    B2 (fX7_addDab M37_11 a9_4 (x44_12 - 1) x22_7) fun x51_14 M51_15 =>
    B1 (rdI M51_15 a9_4 10 7) fun x59_16 =>
    B1 (gk M51_15 a9_4 10) fun _ =>
    B2 (fX7_addDab M51_15 a9_4 (x59_16 + 1) x22_7) fun x66_18 M66_19 =>
    B1 (gk M66_19 a9_4 10) fun _ =>
    B1 (fX7_stand M66_19 a9_4 x22_7) fun M74_21 =>
    B1 (rdI M74_21 p2 13 0) fun x82_22 =>
    B1 (rdN M74_21 o 14 0) fun a86_23 =>
    B1 (rdN M74_21 a86_23 3 0) fun a89_24 =>
    B1 (gk M74_21 a9_4 10) fun _ =>
    B1 (fX7_passWay M74_21 a9_4 p2 p3 x82_22 a89_24) fun M92_26 =>
    B1 (gk M92_26 a9_4 10) fun _ =>
    B1 (fX7_openRungs M92_26 a9_4) fun x97_28 =>
    some (x97_28, M92_26))
set_option maxRecDepth 100000 in
set_option maxHeartbeats 4000000 in
theorem qX11_openDabbed (l : Launch) (E : Ev) {M : Mm} {o : Nat} {p1 : Int32} {p2 : Nat} {p3 : Int32} {rz : Int32} {Mz : Mm} (hf : fX11_openDabbed M o p1 p2 p3 = some (rz, Mz)) : Ct l E yX11_openDabbed cX11_openDabbed 6 (some .int) 5 113 0 0 [.ref (E.b + o), .int p1, .ref (E.b + p2), .int p3] M (some (.int rz)) Mz := by
  refine ct_of (by decide +kernel) (Nat.le_of_ble_eq_true rfl) fun p e s m args below meth c C hr hin hW ls hl => ?_
  have hl : lv_has ls 6 [(0, .ref (E.b + o)), (1, .int p1), (2, .ref (E.b + p2)), (3, .int p3)] := hl
  unfold fX11_openDabbed at hf
  refine lv_aload_n C.x C.b dX11_openDabbed_0 rfl (lv_at hl 0 rfl) ?_
  refine lv_iload_n C.x C.b dX11_openDabbed_1 rfl (lv_at hl 1 rfl) ?_
  replace hf := x_b1 hf; obtain ⟨_, hk2_1, hf⟩ := hf
  replace hf := x_b2 hf; obtain ⟨x2_2, M2_3, hx2_2, hf⟩ := hf
  refine x_callV (As := [.int p1]) (a := o) (rest := []) C hW hl (qX11_beginTrial l E hx2_2) (x_gk hk2_1) (by decide) (by decide) rfl gv_X11_234 ⟨rfl, hd_X11_beginTrial⟩ rfl rfl (Nat.le_of_ble_eq_true rfl) dX11_openDabbed_2 ⟨Nat.le_of_ble_eq_true rfl, Nat.le_of_ble_eq_true rfl⟩ ⟨Nat.le_of_ble_eq_true rfl, Nat.le_of_ble_eq_true rfl⟩ (fun H locs hW => ?_)
  refine x_astore (lv' := [(4, rv E.b _), (0, .ref (E.b + _)), (1, .int _), (2, .ref (E.b + _)), (3, .int _)]) C dX11_openDabbed_5 hl (by decide) rfl (fun ls hl => ?_)
  refine x_aload C dX11_openDabbed_7 (lv_at hl 0 rfl) ?_
  replace hf := x_nl hf; rcases hf with ⟨rfl, hf⟩ | ⟨a9_4, rfl, hf⟩
  · refine lv_ifnonnullN C.x C.b dX11_openDabbed_9 ?_
    refine lv_iconst (v := 0) C.x C.b dX11_openDabbed_12 (by decide) ?_
    rw [x_e1 hf, x_e2 hf]
    exact x_iret C hr hW dX11_openDabbed_13
  · refine lv_ifnonnull (tgt := 14) C.x C.b dX11_openDabbed_9 rfl ?_
    refine lv_aload_n C.x C.b dX11_openDabbed_14 rfl (lv_at hl 1 rfl) ?_
    replace hf := x_b1 hf; obtain ⟨a15_5, ha15_5, hf⟩ := hf
    refine x_getn C hW fg_X11_10_14 ha15_5 dX11_openDabbed_15 ?_
    replace hf := x_b1 hf; obtain ⟨a18_6, ha18_6, hf⟩ := hf
    refine x_getn C hW fg_X11_107_3 ha18_6 dX11_openDabbed_18 ?_
    refine lv_iconst (v := 2) C.x C.b dX11_openDabbed_21 (by decide) ?_
    replace hf := x_b1 hf; obtain ⟨x22_7, hx22_7, hf⟩ := hf
    refine x_iald C hW hx22_7 dX11_openDabbed_22 ?_
    refine lv_istore (lv' := [(5, .int _), (4, .ref (E.b + _)), (0, .ref (E.b + _)), (1, .int _), (2, .ref (E.b + _)), (3, .int _)]) C.x C.b dX11_openDabbed_23 hl (by decide) rfl (fun ls hl => ?_)
    refine lv_aload C.x C.b dX11_openDabbed_25 (lv_at hl 1 rfl) ?_
    refine lv_aload_n C.x C.b dX11_openDabbed_27 rfl (lv_at hl 4 rfl) ?_
    refine lv_iconst (v := 0) C.x C.b dX11_openDabbed_28 (by decide) ?_
    refine lv_iload_n C.x C.b dX11_openDabbed_29 rfl (lv_at hl 5 rfl) ?_
    refine lv_aload_n C.x C.b dX11_openDabbed_30 rfl (lv_at hl 2 rfl) ?_
    replace hf := x_b1 hf; obtain ⟨a31_8, ha31_8, hf⟩ := hf
    refine x_getn C hW fg_X11_10_14 ha31_8 dX11_openDabbed_31 ?_
    replace hf := x_b1 hf; obtain ⟨a34_9, ha34_9, hf⟩ := hf
    refine x_getn C hW fg_X11_107_3 ha34_9 dX11_openDabbed_34 ?_
    replace hf := x_b1 hf; obtain ⟨_, hk37_10, hf⟩ := hf
    replace hf := x_b1 hf; obtain ⟨M37_11, hM37_11, hf⟩ := hf
    refine x_callV (As := [.ref (E.b + p2), .int 0, .int p3, .ref (E.b + a34_9)]) (a := a9_4) (rest := []) C hW hl (qX7_passWay l E hM37_11) (x_gk hk37_10) (by decide) (by decide) rfl gv_X11_240 ⟨rfl, hd_X7_passWay⟩ rfl rfl (Nat.le_of_ble_eq_true rfl) dX11_openDabbed_37 ⟨Nat.le_of_ble_eq_true rfl, Nat.le_of_ble_eq_true rfl⟩ ⟨Nat.le_of_ble_eq_true rfl, Nat.le_of_ble_eq_true rfl⟩ (fun H locs hW => ?_)
    refine lv_aload C.x C.b dX11_openDabbed_40 (lv_at hl 1 rfl) ?_
    refine lv_aload C.x C.b dX11_openDabbed_42 (lv_at hl 1 rfl) ?_
    replace hf := x_b1 hf; obtain ⟨x44_12, hx44_12, hf⟩ := hf
    refine x_geti C hW fg_X11_142_10 hx44_12 dX11_openDabbed_44 ?_
    refine lv_iconst (v := 1) C.x C.b dX11_openDabbed_47 (by decide) ?_
    refine lv_isub C.x C.b dX11_openDabbed_48 ?_
    refine lv_iload C.x C.b dX11_openDabbed_49 (lv_at hl 0 rfl) ?_
    replace hf := x_b1 hf; obtain ⟨_, hk51_13, hf⟩ := hf
    replace hf := x_b2 hf; obtain ⟨x51_14, M51_15, hx51_14, hf⟩ := hf
    refine x_callV (As := [.int (x44_12 - 1), .int x22_7]) (a := a9_4) (rest := []) C hW hl (qX7_addDab l E hx51_14) (x_gk hk51_13) (by decide) (by decide) rfl gv_X11_161 ⟨rfl, hd_X7_addDab⟩ rfl rfl (Nat.le_of_ble_eq_true rfl) dX11_openDabbed_51 ⟨Nat.le_of_ble_eq_true rfl, Nat.le_of_ble_eq_true rfl⟩ ⟨Nat.le_of_ble_eq_true rfl, Nat.le_of_ble_eq_true rfl⟩ (fun H locs hW => ?_)
    refine lv_pop C.x C.b dX11_openDabbed_54 rfl ?_
    refine lv_aload C.x C.b dX11_openDabbed_55 (lv_at hl 1 rfl) ?_
    refine lv_aload C.x C.b dX11_openDabbed_57 (lv_at hl 1 rfl) ?_
    replace hf := x_b1 hf; obtain ⟨x59_16, hx59_16, hf⟩ := hf
    refine x_geti C hW fg_X11_145_10 hx59_16 dX11_openDabbed_59 ?_
    refine lv_iconst (v := 1) C.x C.b dX11_openDabbed_62 (by decide) ?_
    refine lv_iadd C.x C.b dX11_openDabbed_63 ?_
    refine lv_iload C.x C.b dX11_openDabbed_64 (lv_at hl 0 rfl) ?_
    replace hf := x_b1 hf; obtain ⟨_, hk66_17, hf⟩ := hf
    replace hf := x_b2 hf; obtain ⟨x66_18, M66_19, hx66_18, hf⟩ := hf
    refine x_callV (As := [.int (x59_16 + 1), .int x22_7]) (a := a9_4) (rest := []) C hW hl (qX7_addDab l E hx66_18) (x_gk hk66_17) (by decide) (by decide) rfl gv_X11_161 ⟨rfl, hd_X7_addDab⟩ rfl rfl (Nat.le_of_ble_eq_true rfl) dX11_openDabbed_66 ⟨Nat.le_of_ble_eq_true rfl, Nat.le_of_ble_eq_true rfl⟩ ⟨Nat.le_of_ble_eq_true rfl, Nat.le_of_ble_eq_true rfl⟩ (fun H locs hW => ?_)
    refine lv_pop C.x C.b dX11_openDabbed_69 rfl ?_
    refine lv_aload C.x C.b dX11_openDabbed_70 (lv_at hl 1 rfl) ?_
    refine lv_iload C.x C.b dX11_openDabbed_72 (lv_at hl 0 rfl) ?_
    replace hf := x_b1 hf; obtain ⟨_, hk74_20, hf⟩ := hf
    replace hf := x_b1 hf; obtain ⟨M74_21, hM74_21, hf⟩ := hf
    refine x_callV (As := [.int x22_7]) (a := a9_4) (rest := []) C hW hl (qX7_stand l E hM74_21) (x_gk hk74_20) (by decide) (by decide) rfl gv_X11_376 ⟨rfl, hd_X7_stand⟩ rfl rfl (Nat.le_of_ble_eq_true rfl) dX11_openDabbed_74 ⟨Nat.le_of_ble_eq_true rfl, Nat.le_of_ble_eq_true rfl⟩ ⟨Nat.le_of_ble_eq_true rfl, Nat.le_of_ble_eq_true rfl⟩ (fun H locs hW => ?_)
    refine lv_aload C.x C.b dX11_openDabbed_77 (lv_at hl 1 rfl) ?_
    refine lv_aload_n C.x C.b dX11_openDabbed_79 rfl (lv_at hl 4 rfl) ?_
    refine lv_iload_n C.x C.b dX11_openDabbed_80 rfl (lv_at hl 5 rfl) ?_
    refine lv_aload_n C.x C.b dX11_openDabbed_81 rfl (lv_at hl 4 rfl) ?_
    replace hf := x_b1 hf; obtain ⟨x82_22, hx82_22, hf⟩ := hf
    refine x_geti C hW fg_X11_204_13 hx82_22 dX11_openDabbed_82 ?_
    refine lv_aload_n C.x C.b dX11_openDabbed_85 rfl (lv_at hl 2 rfl) ?_
    replace hf := x_b1 hf; obtain ⟨a86_23, ha86_23, hf⟩ := hf
    refine x_getn C hW fg_X11_10_14 ha86_23 dX11_openDabbed_86 ?_
    replace hf := x_b1 hf; obtain ⟨a89_24, ha89_24, hf⟩ := hf
    refine x_getn C hW fg_X11_107_3 ha89_24 dX11_openDabbed_89 ?_
    replace hf := x_b1 hf; obtain ⟨_, hk92_25, hf⟩ := hf
    replace hf := x_b1 hf; obtain ⟨M92_26, hM92_26, hf⟩ := hf
    refine x_callV (As := [.ref (E.b + p2), .int p3, .int x82_22, .ref (E.b + a89_24)]) (a := a9_4) (rest := []) C hW hl (qX7_passWay l E hM92_26) (x_gk hk92_25) (by decide) (by decide) rfl gv_X11_240 ⟨rfl, hd_X7_passWay⟩ rfl rfl (Nat.le_of_ble_eq_true rfl) dX11_openDabbed_92 ⟨Nat.le_of_ble_eq_true rfl, Nat.le_of_ble_eq_true rfl⟩ ⟨Nat.le_of_ble_eq_true rfl, Nat.le_of_ble_eq_true rfl⟩ (fun H locs hW => ?_)
    refine lv_aload C.x C.b dX11_openDabbed_95 (lv_at hl 1 rfl) ?_
    replace hf := x_b1 hf; obtain ⟨_, hk97_27, hf⟩ := hf
    replace hf := x_b1 hf; obtain ⟨x97_28, hx97_28, hf⟩ := hf
    refine x_callV (As := []) (a := a9_4) (rest := []) C hW hl (qX7_openRungs l E hx97_28) (x_gk hk97_27) (by decide) (by decide) rfl gv_X11_152 ⟨rfl, hd_X7_openRungs⟩ rfl rfl (Nat.le_of_ble_eq_true rfl) dX11_openDabbed_97 ⟨Nat.le_of_ble_eq_true rfl, Nat.le_of_ble_eq_true rfl⟩ ⟨Nat.le_of_ble_eq_true rfl, Nat.le_of_ble_eq_true rfl⟩ (fun H locs hW => ?_)
    rw [x_e1 hf, x_e2 hf]
    exact x_iret C hr hW dX11_openDabbed_100

theorem dX11_dabbed_0 : decode cX11_dabbed 0 = .ok (.aload_n 0, 1) := by decide +kernel
theorem dX11_dabbed_1 : decode cX11_dabbed 1 = .ok (.getfield 10, 3) := by decide +kernel
theorem dX11_dabbed_4 : decode cX11_dabbed 4 = .ok (.iload_n 2, 1) := by decide +kernel
theorem dX11_dabbed_5 : decode cX11_dabbed 5 = .ok (.invokevirtual 194, 3) := by decide +kernel
theorem dX11_dabbed_8 : decode cX11_dabbed 8 = .ok (.astore 4, 2) := by decide +kernel
theorem dX11_dabbed_10 : decode cX11_dabbed 10 = .ok (.iload_n 1, 1) := by decide +kernel
theorem dX11_dabbed_11 : decode cX11_dabbed 11 = .ok (.invokestatic 188, 3) := by decide +kernel
theorem dX11_dabbed_14 : decode cX11_dabbed 14 = .ok (.ifCond .eq 21, 3) := by decide +kernel
theorem dX11_dabbed_17 : decode cX11_dabbed 17 = .ok (.aload 4, 2) := by decide +kernel
theorem dX11_dabbed_19 : decode cX11_dabbed 19 = .ok (.ifnull 16, 3) := by decide +kernel
theorem dX11_dabbed_22 : decode cX11_dabbed 22 = .ok (.iload_n 3, 1) := by decide +kernel
theorem dX11_dabbed_23 : decode cX11_dabbed 23 = .ok (.iconst 0, 1) := by decide +kernel
theorem dX11_dabbed_24 : decode cX11_dabbed 24 = .ok (.aload 4, 2) := by decide +kernel
theorem dX11_dabbed_26 : decode cX11_dabbed 26 = .ok (.getfield 204, 3) := by decide +kernel
theorem dX11_dabbed_29 : decode cX11_dabbed 29 = .ok (.invokestatic 69, 3) := by decide +kernel
theorem dX11_dabbed_32 : decode cX11_dabbed 32 = .ok (.ifCond .ne 5, 3) := by decide +kernel
theorem dX11_dabbed_35 : decode cX11_dabbed 35 = .ok (.iconst (-1), 1) := by decide +kernel
theorem dX11_dabbed_36 : decode cX11_dabbed 36 = .ok (.ireturn, 1) := by decide +kernel
theorem dX11_dabbed_37 : decode cX11_dabbed 37 = .ok (.aload_n 0, 1) := by decide +kernel
theorem dX11_dabbed_38 : decode cX11_dabbed 38 = .ok (.iload_n 1, 1) := by decide +kernel
theorem dX11_dabbed_39 : decode cX11_dabbed 39 = .ok (.invokevirtual 243, 3) := by decide +kernel
theorem dX11_dabbed_42 : decode cX11_dabbed 42 = .ok (.ifCond .eq 14, 3) := by decide +kernel
theorem dX11_dabbed_45 : decode cX11_dabbed 45 = .ok (.aload_n 0, 1) := by decide +kernel
theorem dX11_dabbed_46 : decode cX11_dabbed 46 = .ok (.iload_n 1, 1) := by decide +kernel
theorem dX11_dabbed_47 : decode cX11_dabbed 47 = .ok (.aload 4, 2) := by decide +kernel
theorem dX11_dabbed_49 : decode cX11_dabbed 49 = .ok (.iload_n 3, 1) := by decide +kernel
theorem dX11_dabbed_50 : decode cX11_dabbed 50 = .ok (.invokevirtual 246, 3) := by decide +kernel
theorem dX11_dabbed_53 : decode cX11_dabbed 53 = .ok (.goto 5, 3) := by decide +kernel
theorem dX11_dabbed_56 : decode cX11_dabbed 56 = .ok (.bipush (-3), 2) := by decide +kernel
theorem dX11_dabbed_58 : decode cX11_dabbed 58 = .ok (.ireturn, 1) := by decide +kernel
theorem hd_X11_hasLadderOn : yX11_hasLadderOn.cls ≠ "java/lang/invoke/MethodHandle" ∧ yX11_hasLadderOn.cls ≠ "java/lang/invoke/VarHandle" ∧ (parseMethodDescriptor yX11_hasLadderOn.desc).map (fun d => d.parameters.length) = some 1 := by decide +kernel
theorem gv_X11_243 : GoodIn gT (wsV "NylonLadder" 243 "NylonLadder" yX11_hasLadderOn (Cond.code yX11_hasLadderOn cX11_hasLadderOn 3 (some .boolean) :: gT)) := good_V T_3_232 T_3_234 TS_21 T_1_1 T_3_235
theorem hd_X11_openDabbed : yX11_openDabbed.cls ≠ "java/lang/invoke/MethodHandle" ∧ yX11_openDabbed.cls ≠ "java/lang/invoke/VarHandle" ∧ (parseMethodDescriptor yX11_openDabbed.desc).map (fun d => d.parameters.length) = some 3 := by decide +kernel
theorem gv_X11_246 : GoodIn gT (wsV "NylonLadder" 246 "NylonLadder" yX11_openDabbed (Cond.code yX11_openDabbed cX11_openDabbed 6 (some .int) :: gT)) := good_V T_3_236 T_3_238 TS_22 T_1_1 T_3_239
def fX11_dabbed (M : Mm) (o : Nat) (p1 : Int32) (p2 : Int32) (p3 : Int32) : Option (Int32 × Mm) :=
  B1 (rdN M o 14 0) fun a1_1 =>
  B1 (gk M a1_1 3) fun _ =>
  B1 (fX0_wayAt M a1_1 p2) fun x5_3 =>
  B1 (fX11_isFoot M p1) fun x11_4 =>
  if x11_4 = 0 then
    some ((-1), M)
  else
    NL x5_3 (
      some ((-1), M)) (fun a19_5 =>
      B1 (rdI M a19_5 13 0) fun x26_6 =>
      B1 (fX11_isWithin M p3 0 x26_6) fun x29_7 =>
      if x29_7 = 0 then
        some ((-1), M)
      else
        B1 (gk M o 14) fun _ =>
        B1 (fX11_hasLadderOn M o p1) fun x39_9 =>
        if x39_9 = 0 then
          some ((-3), M)
        else
          B1 (gk M o 14) fun _ =>
          B2 (fX11_openDabbed M o p1 a19_5 p3) fun x50_11 M50_12 =>
          some (x50_11, M50_12))
set_option maxRecDepth 100000 in
set_option maxHeartbeats 4000000 in
theorem qX11_dabbed (l : Launch) (E : Ev) {M : Mm} {o : Nat} {p1 : Int32} {p2 : Int32} {p3 : Int32} {rz : Int32} {Mz : Mm} (hf : fX11_dabbed M o p1 p2 p3 = some (rz, Mz)) : Ct l E yX11_dabbed cX11_dabbed 5 (some .int) 6 138 0 0 [.ref (E.b + o), .int p1, .int p2, .int p3] M (some (.int rz)) Mz := by
  refine ct_of (by decide +kernel) (Nat.le_of_ble_eq_true rfl) fun p e s m args below meth c C hr hin hW ls hl => ?_
  have hl : lv_has ls 5 [(0, .ref (E.b + o)), (1, .int p1), (2, .int p2), (3, .int p3)] := hl
  unfold fX11_dabbed at hf
  refine lv_aload_n C.x C.b dX11_dabbed_0 rfl (lv_at hl 0 rfl) ?_
  replace hf := x_b1 hf; obtain ⟨a1_1, ha1_1, hf⟩ := hf
  refine x_getn C hW fg_X11_10_14 ha1_1 dX11_dabbed_1 ?_
  refine lv_iload_n C.x C.b dX11_dabbed_4 rfl (lv_at hl 2 rfl) ?_
  replace hf := x_b1 hf; obtain ⟨_, hk5_2, hf⟩ := hf
  replace hf := x_b1 hf; obtain ⟨x5_3, hx5_3, hf⟩ := hf
  refine x_callV (As := [.int p2]) (a := a1_1) (rest := []) C hW hl (qX0_wayAt l E hx5_3) (x_gk hk5_2) (by decide) (by decide) rfl gv_X11_194 ⟨rfl, hd_X0_wayAt⟩ rfl rfl (Nat.le_of_ble_eq_true rfl) dX11_dabbed_5 ⟨Nat.le_of_ble_eq_true rfl, Nat.le_of_ble_eq_true rfl⟩ ⟨Nat.le_of_ble_eq_true rfl, Nat.le_of_ble_eq_true rfl⟩ (fun H locs hW => ?_)
  refine x_astore (lv' := [(4, rv E.b _), (0, .ref (E.b + _)), (1, .int _), (2, .int _), (3, .int _)]) C dX11_dabbed_8 hl (by decide) rfl (fun ls hl => ?_)
  refine lv_iload_n C.x C.b dX11_dabbed_10 rfl (lv_at hl 2 rfl) ?_
  replace hf := x_b1 hf; obtain ⟨x11_4, hx11_4, hf⟩ := hf
  refine x_callS (As := [.int p1]) (rest := []) C hW hl (qX11_isFoot l E hx11_4) gs_X11_188 hd_X11_isFoot rfl rfl (Nat.le_of_ble_eq_true rfl) dX11_dabbed_11 ⟨Nat.le_of_ble_eq_true rfl, Nat.le_of_ble_eq_true rfl⟩ ⟨Nat.le_of_ble_eq_true rfl, Nat.le_of_ble_eq_true rfl⟩ (fun H locs hW => ?_)
  refine lv_if_eq (tgt := 35) C.x C.b dX11_dabbed_14 rfl (fun c14 => ?_) (fun c14 => ?_)
  · replace hf := x_ip c14 hf
    refine lv_iconst (v := (-1)) C.x C.b dX11_dabbed_35 (by decide) ?_
    rw [x_e1 hf, x_e2 hf]
    exact x_iret C hr hW dX11_dabbed_36
  · replace hf := x_in c14 hf
    refine x_aload C dX11_dabbed_17 (lv_at hl 0 rfl) ?_
    replace hf := x_nl hf; rcases hf with ⟨rfl, hf⟩ | ⟨a19_5, rfl, hf⟩
    · refine lv_ifnullN (tgt := 35) C.x C.b dX11_dabbed_19 rfl ?_
      refine lv_iconst (v := (-1)) C.x C.b dX11_dabbed_35 (by decide) ?_
      rw [x_e1 hf, x_e2 hf]
      exact x_iret C hr hW dX11_dabbed_36
    · refine lv_ifnull C.x C.b dX11_dabbed_19 ?_
      refine lv_iload_n C.x C.b dX11_dabbed_22 rfl (lv_at hl 4 rfl) ?_
      refine lv_iconst (v := 0) C.x C.b dX11_dabbed_23 (by decide) ?_
      refine lv_aload C.x C.b dX11_dabbed_24 (lv_at hl 0 rfl) ?_
      replace hf := x_b1 hf; obtain ⟨x26_6, hx26_6, hf⟩ := hf
      refine x_geti C hW fg_X11_204_13 hx26_6 dX11_dabbed_26 ?_
      replace hf := x_b1 hf; obtain ⟨x29_7, hx29_7, hf⟩ := hf
      refine x_callS (As := [.int p3, .int 0, .int x26_6]) (rest := []) C hW hl (qX11_isWithin l E hx29_7) gs_X11_69 hd_X11_isWithin rfl rfl (Nat.le_of_ble_eq_true rfl) dX11_dabbed_29 ⟨Nat.le_of_ble_eq_true rfl, Nat.le_of_ble_eq_true rfl⟩ ⟨Nat.le_of_ble_eq_true rfl, Nat.le_of_ble_eq_true rfl⟩ (fun H locs hW => ?_)
      refine lv_if_ne (tgt := 37) C.x C.b dX11_dabbed_32 rfl (fun c32 => ?_) (fun c32 => ?_)
      · replace hf := x_in c32 hf
        refine lv_aload_n C.x C.b dX11_dabbed_37 rfl (lv_at hl 1 rfl) ?_
        refine lv_iload_n C.x C.b dX11_dabbed_38 rfl (lv_at hl 2 rfl) ?_
        replace hf := x_b1 hf; obtain ⟨_, hk39_8, hf⟩ := hf
        replace hf := x_b1 hf; obtain ⟨x39_9, hx39_9, hf⟩ := hf
        refine x_callV (As := [.int p1]) (a := o) (rest := []) C hW hl (qX11_hasLadderOn l E hx39_9) (x_gk hk39_8) (by decide) (by decide) rfl gv_X11_243 ⟨rfl, hd_X11_hasLadderOn⟩ rfl rfl (Nat.le_of_ble_eq_true rfl) dX11_dabbed_39 ⟨Nat.le_of_ble_eq_true rfl, Nat.le_of_ble_eq_true rfl⟩ ⟨Nat.le_of_ble_eq_true rfl, Nat.le_of_ble_eq_true rfl⟩ (fun H locs hW => ?_)
        refine lv_if_eq (tgt := 56) C.x C.b dX11_dabbed_42 rfl (fun c42 => ?_) (fun c42 => ?_)
        · replace hf := x_ip c42 hf
          refine lv_bipush (v := (-3)) C.x C.b dX11_dabbed_56 (by decide) ?_
          rw [x_e1 hf, x_e2 hf]
          exact x_iret C hr hW dX11_dabbed_58
        · replace hf := x_in c42 hf
          refine lv_aload_n C.x C.b dX11_dabbed_45 rfl (lv_at hl 1 rfl) ?_
          refine lv_iload_n C.x C.b dX11_dabbed_46 rfl (lv_at hl 2 rfl) ?_
          refine lv_aload C.x C.b dX11_dabbed_47 (lv_at hl 0 rfl) ?_
          refine lv_iload_n C.x C.b dX11_dabbed_49 rfl (lv_at hl 4 rfl) ?_
          replace hf := x_b1 hf; obtain ⟨_, hk50_10, hf⟩ := hf
          replace hf := x_b2 hf; obtain ⟨x50_11, M50_12, hx50_11, hf⟩ := hf
          refine x_callV (As := [.int p1, .ref (E.b + a19_5), .int p3]) (a := o) (rest := []) C hW hl (qX11_openDabbed l E hx50_11) (x_gk hk50_10) (by decide) (by decide) rfl gv_X11_246 ⟨rfl, hd_X11_openDabbed⟩ rfl rfl (Nat.le_of_ble_eq_true rfl) dX11_dabbed_50 ⟨Nat.le_of_ble_eq_true rfl, Nat.le_of_ble_eq_true rfl⟩ ⟨Nat.le_of_ble_eq_true rfl, Nat.le_of_ble_eq_true rfl⟩ (fun H locs hW => ?_)
          refine lv_goto (tgt := 58) C.x C.b dX11_dabbed_53 rfl ?_
          rw [x_e1 hf, x_e2 hf]
          exact x_iret C hr hW dX11_dabbed_58
      · replace hf := x_ip c32 hf
        refine lv_iconst (v := (-1)) C.x C.b dX11_dabbed_35 (by decide) ?_
        rw [x_e1 hf, x_e2 hf]
        exact x_iret C hr hW dX11_dabbed_36

theorem dX11_bestLeg_0 : decode cX11_bestLeg 0 = .ok (.aload_n 0, 1) := by decide +kernel
theorem dX11_bestLeg_1 : decode cX11_bestLeg 1 = .ok (.getfield 10, 3) := by decide +kernel
theorem dX11_bestLeg_4 : decode cX11_bestLeg 4 = .ok (.iload_n 2, 1) := by decide +kernel
theorem dX11_bestLeg_5 : decode cX11_bestLeg 5 = .ok (.invokevirtual 194, 3) := by decide +kernel
theorem dX11_bestLeg_8 : decode cX11_bestLeg 8 = .ok (.astore 4, 2) := by decide +kernel
theorem dX11_bestLeg_10 : decode cX11_bestLeg 10 = .ok (.iload_n 1, 1) := by decide +kernel
theorem dX11_bestLeg_11 : decode cX11_bestLeg 11 = .ok (.invokestatic 188, 3) := by decide +kernel
theorem dX11_bestLeg_14 : decode cX11_bestLeg 14 = .ok (.ifCond .eq 19, 3) := by decide +kernel
theorem dX11_bestLeg_17 : decode cX11_bestLeg 17 = .ok (.aload 4, 2) := by decide +kernel
theorem dX11_bestLeg_19 : decode cX11_bestLeg 19 = .ok (.ifnull 14, 3) := by decide +kernel
theorem dX11_bestLeg_22 : decode cX11_bestLeg 22 = .ok (.iload_n 3, 1) := by decide +kernel
theorem dX11_bestLeg_23 : decode cX11_bestLeg 23 = .ok (.iconst 0, 1) := by decide +kernel
theorem dX11_bestLeg_24 : decode cX11_bestLeg 24 = .ok (.sipush 999, 3) := by decide +kernel
theorem dX11_bestLeg_27 : decode cX11_bestLeg 27 = .ok (.invokestatic 69, 3) := by decide +kernel
theorem dX11_bestLeg_30 : decode cX11_bestLeg 30 = .ok (.ifCond .ne 5, 3) := by decide +kernel
theorem dX11_bestLeg_33 : decode cX11_bestLeg 33 = .ok (.iconst (-1), 1) := by decide +kernel
theorem dX11_bestLeg_34 : decode cX11_bestLeg 34 = .ok (.ireturn, 1) := by decide +kernel
theorem dX11_bestLeg_35 : decode cX11_bestLeg 35 = .ok (.aload_n 0, 1) := by decide +kernel
theorem dX11_bestLeg_36 : decode cX11_bestLeg 36 = .ok (.iload_n 1, 1) := by decide +kernel
theorem dX11_bestLeg_37 : decode cX11_bestLeg 37 = .ok (.invokevirtual 243, 3) := by decide +kernel
theorem dX11_bestLeg_40 : decode cX11_bestLeg 40 = .ok (.ifCond .eq 22, 3) := by decide +kernel
theorem dX11_bestLeg_43 : decode cX11_bestLeg 43 = .ok (.aload 4, 2) := by decide +kernel
theorem dX11_bestLeg_45 : decode cX11_bestLeg 45 = .ok (.invokevirtual 231, 3) := by decide +kernel
theorem dX11_bestLeg_48 : decode cX11_bestLeg 48 = .ok (.aload_n 0, 1) := by decide +kernel
theorem dX11_bestLeg_49 : decode cX11_bestLeg 49 = .ok (.getfield 10, 3) := by decide +kernel
theorem dX11_bestLeg_52 : decode cX11_bestLeg 52 = .ok (.getfield 107, 3) := by decide +kernel
theorem dX11_bestLeg_55 : decode cX11_bestLeg 55 = .ok (.iconst 2, 1) := by decide +kernel
theorem dX11_bestLeg_56 : decode cX11_bestLeg 56 = .ok (.iaload, 1) := by decide +kernel
theorem dX11_bestLeg_57 : decode cX11_bestLeg 57 = .ok (.iadd, 1) := by decide +kernel
theorem dX11_bestLeg_58 : decode cX11_bestLeg 58 = .ok (.iload_n 3, 1) := by decide +kernel
theorem dX11_bestLeg_59 : decode cX11_bestLeg 59 = .ok (.if_icmp .le 6, 3) := by decide +kernel
theorem dX11_bestLeg_62 : decode cX11_bestLeg 62 = .ok (.bipush (-3), 2) := by decide +kernel
theorem dX11_bestLeg_64 : decode cX11_bestLeg 64 = .ok (.ireturn, 1) := by decide +kernel
theorem dX11_bestLeg_65 : decode cX11_bestLeg 65 = .ok (.iconst 0, 1) := by decide +kernel
theorem dX11_bestLeg_66 : decode cX11_bestLeg 66 = .ok (.istore 5, 2) := by decide +kernel
theorem dX11_bestLeg_68 : decode cX11_bestLeg 68 = .ok (.aload_n 0, 1) := by decide +kernel
theorem dX11_bestLeg_69 : decode cX11_bestLeg 69 = .ok (.iload_n 1, 1) := by decide +kernel
theorem dX11_bestLeg_70 : decode cX11_bestLeg 70 = .ok (.aload 4, 2) := by decide +kernel
theorem dX11_bestLeg_72 : decode cX11_bestLeg 72 = .ok (.iconst 0, 1) := by decide +kernel
theorem dX11_bestLeg_73 : decode cX11_bestLeg 73 = .ok (.invokevirtual 246, 3) := by decide +kernel
theorem dX11_bestLeg_76 : decode cX11_bestLeg 76 = .ok (.istore 6, 2) := by decide +kernel
theorem dX11_bestLeg_78 : decode cX11_bestLeg 78 = .ok (.iconst 1, 1) := by decide +kernel
theorem dX11_bestLeg_79 : decode cX11_bestLeg 79 = .ok (.istore 7, 2) := by decide +kernel
theorem dX11_bestLeg_81 : decode cX11_bestLeg 81 = .ok (.iload 7, 2) := by decide +kernel
theorem dX11_bestLeg_83 : decode cX11_bestLeg 83 = .ok (.aload 4, 2) := by decide +kernel
theorem dX11_bestLeg_85 : decode cX11_bestLeg 85 = .ok (.getfield 204, 3) := by decide +kernel
theorem dX11_bestLeg_88 : decode cX11_bestLeg 88 = .ok (.if_icmp .gt 35, 3) := by decide +kernel
theorem dX11_bestLeg_91 : decode cX11_bestLeg 91 = .ok (.aload_n 0, 1) := by decide +kernel
theorem dX11_bestLeg_92 : decode cX11_bestLeg 92 = .ok (.iload_n 1, 1) := by decide +kernel
theorem dX11_bestLeg_93 : decode cX11_bestLeg 93 = .ok (.aload 4, 2) := by decide +kernel
theorem dX11_bestLeg_95 : decode cX11_bestLeg 95 = .ok (.iload 7, 2) := by decide +kernel
theorem dX11_bestLeg_97 : decode cX11_bestLeg 97 = .ok (.invokevirtual 246, 3) := by decide +kernel
theorem dX11_bestLeg_100 : decode cX11_bestLeg 100 = .ok (.istore 8, 2) := by decide +kernel
theorem dX11_bestLeg_102 : decode cX11_bestLeg 102 = .ok (.iload 8, 2) := by decide +kernel
theorem dX11_bestLeg_104 : decode cX11_bestLeg 104 = .ok (.iload 6, 2) := by decide +kernel
theorem dX11_bestLeg_106 : decode cX11_bestLeg 106 = .ok (.if_icmp .ge 11, 3) := by decide +kernel
theorem dX11_bestLeg_109 : decode cX11_bestLeg 109 = .ok (.iload 7, 2) := by decide +kernel
theorem dX11_bestLeg_111 : decode cX11_bestLeg 111 = .ok (.istore 5, 2) := by decide +kernel
theorem dX11_bestLeg_113 : decode cX11_bestLeg 113 = .ok (.iload 8, 2) := by decide +kernel
theorem dX11_bestLeg_115 : decode cX11_bestLeg 115 = .ok (.istore 6, 2) := by decide +kernel
theorem dX11_bestLeg_117 : decode cX11_bestLeg 117 = .ok (.iinc 7 1, 3) := by decide +kernel
theorem dX11_bestLeg_120 : decode cX11_bestLeg 120 = .ok (.goto (-39), 3) := by decide +kernel
theorem dX11_bestLeg_123 : decode cX11_bestLeg 123 = .ok (.iload 5, 2) := by decide +kernel
theorem dX11_bestLeg_125 : decode cX11_bestLeg 125 = .ok (.ireturn, 1) := by decide +kernel
def fX11_bestLeg_L81 (o : Nat) (v1 : Int32) (v4 : Nat) : Nat → Int32 → Int32 → Int32 → Mm → Option (Int32 × Mm)
  | 0, _, _, _, _ => none
  | n + 1, v5, v6, v7, M =>
    B1 (rdI M v4 13 0) fun x85_17 =>
    if x85_17 < v7 then
      some (v5, M)
    else
      B1 (gk M o 14) fun _ =>
      B2 (fX11_openDabbed M o v1 v4 v7) fun x97_19 M97_20 =>
      if v6 ≤ x97_19 then
        fX11_bestLeg_L81 o v1 v4 n v5 v6 (v7 + 1) M97_20
      else
        fX11_bestLeg_L81 o v1 v4 n v7 x97_19 (v7 + 1) M97_20
def fX11_bestLeg (M : Mm) (o : Nat) (p1 : Int32) (p2 : Int32) (p3 : Int32) : Option (Int32 × Mm) :=
  B1 (rdN M o 14 0) fun a1_1 =>
  B1 (gk M a1_1 3) fun _ =>
  B1 (fX0_wayAt M a1_1 p2) fun x5_3 =>
  B1 (fX11_isFoot M p1) fun x11_4 =>
  if x11_4 = 0 then
    some ((-1), M)
  else
    NL x5_3 (
      some ((-1), M)) (fun a19_5 =>
      B1 (fX11_isWithin M p3 0 999) fun x27_6 =>
      if x27_6 = 0 then
        some ((-1), M)
      else
        B1 (gk M o 14) fun _ =>
        B1 (fX11_hasLadderOn M o p1) fun x37_8 =>
        if x37_8 = 0 then
          some ((-3), M)
        else
          B1 (gk M a19_5 13) fun _ =>
          B1 (fX10_minutesOfAll M a19_5) fun x45_10 =>
          B1 (rdN M o 14 0) fun a49_11 =>
          B1 (rdN M a49_11 3 0) fun a52_12 =>
          B1 (alI M a52_12 2) fun x56_13 =>
          if (x45_10 + x56_13) ≤ p3 then
            B1 (gk M o 14) fun _ =>
            B2 (fX11_openDabbed M o p1 a19_5 0) fun x73_15 M73_16 =>
            fX11_bestLeg_L81 o p1 a19_5 FL 0 x73_15 1 M73_16
          else
            some ((-3), M))
set_option maxRecDepth 100000 in
set_option maxHeartbeats 4000000 in
theorem kX11_bestLeg_L81 {l : Launch} {E : Ev} {p : Program} {e : Env} {s : State} {m : MethodId} {args : Array Value} {below : List Frame} {meth : Method} {c : Code} (C : Cx E p s m args meth c cX11_bestLeg yX11_bestLeg.cls 9) (hr : meth.sig.returnType = (some .int)) (hin : yX11_bestLeg.name = "<init>" → meth.name = "<init>")  {o : Nat} {v1 : Int32} {v4 : Nat} {rz : Int32} {Mz : Mm} : ∀ (n : Nat) (v5 : Int32) (v6 : Int32) (v7 : Int32) (M : Mm), fX11_bestLeg_L81 o v1 v4 n v5 v6 v7 M = some (rz, Mz) → ∀ (H : Heap) (locs : List Loc) (ls : Array Slot), Wx E s H locs M → lv_has ls 9 [(0, .ref (E.b + o)), (1, .int v1), (4, .ref (E.b + v4)), (5, .int v5), (6, .int v6), (7, .int v7)] → W p l e (rM 6 138 0 0) s m args below meth c H locs 0 0 (MQ below (Qp E (some (.int rz)) Mz) args s 0 0 E.A) (F0 m 81 ls []) := by
  intro n
  induction n with
  | zero =>
    intro v5 v6 v7 M hf
    unfold fX11_bestLeg_L81 at hf
    cases hf
  | succ n ih =>
    intro v5 v6 v7 M hf H locs ls hW hl
    unfold fX11_bestLeg_L81 at hf
    refine lv_iload C.x C.b dX11_bestLeg_81 (lv_at hl 5 rfl) ?_
    refine lv_aload C.x C.b dX11_bestLeg_83 (lv_at hl 2 rfl) ?_
    replace hf := x_b1 hf; obtain ⟨x85_17, hx85_17, hf⟩ := hf
    refine x_geti C hW fg_X11_204_13 hx85_17 dX11_bestLeg_85 ?_
    refine lv_icmp_gt (tgt := 123) C.x C.b dX11_bestLeg_88 rfl (fun c88 => ?_) (fun c88 => ?_)
    · replace hf := x_ip c88 hf
      refine lv_iload C.x C.b dX11_bestLeg_123 (lv_at hl 3 rfl) ?_
      rw [x_e1 hf, x_e2 hf]
      exact x_iret C hr hW dX11_bestLeg_125
    · replace hf := x_in c88 hf
      refine lv_aload_n C.x C.b dX11_bestLeg_91 rfl (lv_at hl 0 rfl) ?_
      refine lv_iload_n C.x C.b dX11_bestLeg_92 rfl (lv_at hl 1 rfl) ?_
      refine lv_aload C.x C.b dX11_bestLeg_93 (lv_at hl 2 rfl) ?_
      refine lv_iload C.x C.b dX11_bestLeg_95 (lv_at hl 5 rfl) ?_
      replace hf := x_b1 hf; obtain ⟨_, hk97_18, hf⟩ := hf
      replace hf := x_b2 hf; obtain ⟨x97_19, M97_20, hx97_19, hf⟩ := hf
      refine x_callV (As := [.int v1, .ref (E.b + v4), .int v7]) (a := o) (rest := []) C hW hl (qX11_openDabbed l E hx97_19) (x_gk hk97_18) (by decide) (by decide) rfl gv_X11_246 ⟨rfl, hd_X11_openDabbed⟩ rfl rfl (Nat.le_of_ble_eq_true rfl) dX11_bestLeg_97 ⟨Nat.le_of_ble_eq_true rfl, Nat.le_of_ble_eq_true rfl⟩ ⟨Nat.le_of_ble_eq_true rfl, Nat.le_of_ble_eq_true rfl⟩ (fun H locs hW => ?_)
      refine lv_istore (lv' := [(8, .int _), (0, .ref (E.b + _)), (1, .int _), (4, .ref (E.b + _)), (5, .int _), (6, .int _), (7, .int _)]) C.x C.b dX11_bestLeg_100 hl (by decide) rfl (fun ls hl => ?_)
      refine lv_iload C.x C.b dX11_bestLeg_102 (lv_at hl 0 rfl) ?_
      refine lv_iload C.x C.b dX11_bestLeg_104 (lv_at hl 5 rfl) ?_
      refine lv_icmp_ge (tgt := 117) C.x C.b dX11_bestLeg_106 rfl (fun c106 => ?_) (fun c106 => ?_)
      · replace hf := x_ip c106 hf
        refine lv_iinc (v := (v7 + 1)) (lv' := [(7, .int (v7 + 1)), (8, .int _), (0, .ref (E.b + _)), (1, .int _), (4, .ref (E.b + _)), (5, .int _), (6, .int _)]) C.x C.b dX11_bestLeg_117 hl (k := 6) rfl (by first | rfl | decide) (by decide) rfl (fun ls hl => ?_)
        refine lv_goto (tgt := 81) C.x C.b dX11_bestLeg_120 rfl ?_
        exact ih v5 v6 (v7 + 1) M97_20 hf _ _ _ hW (lv_sub hl [2, 3, 4, 5, 6, 0] rfl)
      · replace hf := x_in c106 hf
        refine lv_iload C.x C.b dX11_bestLeg_109 (lv_at hl 6 rfl) ?_
        refine lv_istore (lv' := [(5, .int _), (8, .int _), (0, .ref (E.b + _)), (1, .int _), (4, .ref (E.b + _)), (6, .int _), (7, .int _)]) C.x C.b dX11_bestLeg_111 hl (by decide) rfl (fun ls hl => ?_)
        refine lv_iload C.x C.b dX11_bestLeg_113 (lv_at hl 1 rfl) ?_
        refine lv_istore (lv' := [(6, .int _), (5, .int _), (8, .int _), (0, .ref (E.b + _)), (1, .int _), (4, .ref (E.b + _)), (7, .int _)]) C.x C.b dX11_bestLeg_115 hl (by decide) rfl (fun ls hl => ?_)
        refine lv_iinc (v := (v7 + 1)) (lv' := [(7, .int (v7 + 1)), (6, .int _), (5, .int _), (8, .int _), (0, .ref (E.b + _)), (1, .int _), (4, .ref (E.b + _))]) C.x C.b dX11_bestLeg_117 hl (k := 6) rfl (by first | rfl | decide) (by decide) rfl (fun ls hl => ?_)
        refine lv_goto (tgt := 81) C.x C.b dX11_bestLeg_120 rfl ?_
        exact ih v7 x97_19 (v7 + 1) M97_20 hf _ _ _ hW (lv_sub hl [4, 5, 6, 2, 1, 0] rfl)
set_option maxRecDepth 100000 in
set_option maxHeartbeats 4000000 in
theorem qX11_bestLeg (l : Launch) (E : Ev) {M : Mm} {o : Nat} {p1 : Int32} {p2 : Int32} {p3 : Int32} {rz : Int32} {Mz : Mm} (hf : fX11_bestLeg M o p1 p2 p3 = some (rz, Mz)) : Ct l E yX11_bestLeg cX11_bestLeg 9 (some .int) 6 138 0 0 [.ref (E.b + o), .int p1, .int p2, .int p3] M (some (.int rz)) Mz := by
  refine ct_of (by decide +kernel) (Nat.le_of_ble_eq_true rfl) fun p e s m args below meth c C hr hin hW ls hl => ?_
  have hl : lv_has ls 9 [(0, .ref (E.b + o)), (1, .int p1), (2, .int p2), (3, .int p3)] := hl
  unfold fX11_bestLeg at hf
  refine lv_aload_n C.x C.b dX11_bestLeg_0 rfl (lv_at hl 0 rfl) ?_
  replace hf := x_b1 hf; obtain ⟨a1_1, ha1_1, hf⟩ := hf
  refine x_getn C hW fg_X11_10_14 ha1_1 dX11_bestLeg_1 ?_
  refine lv_iload_n C.x C.b dX11_bestLeg_4 rfl (lv_at hl 2 rfl) ?_
  replace hf := x_b1 hf; obtain ⟨_, hk5_2, hf⟩ := hf
  replace hf := x_b1 hf; obtain ⟨x5_3, hx5_3, hf⟩ := hf
  refine x_callV (As := [.int p2]) (a := a1_1) (rest := []) C hW hl (qX0_wayAt l E hx5_3) (x_gk hk5_2) (by decide) (by decide) rfl gv_X11_194 ⟨rfl, hd_X0_wayAt⟩ rfl rfl (Nat.le_of_ble_eq_true rfl) dX11_bestLeg_5 ⟨Nat.le_of_ble_eq_true rfl, Nat.le_of_ble_eq_true rfl⟩ ⟨Nat.le_of_ble_eq_true rfl, Nat.le_of_ble_eq_true rfl⟩ (fun H locs hW => ?_)
  refine x_astore (lv' := [(4, rv E.b _), (0, .ref (E.b + _)), (1, .int _), (2, .int _), (3, .int _)]) C dX11_bestLeg_8 hl (by decide) rfl (fun ls hl => ?_)
  refine lv_iload_n C.x C.b dX11_bestLeg_10 rfl (lv_at hl 2 rfl) ?_
  replace hf := x_b1 hf; obtain ⟨x11_4, hx11_4, hf⟩ := hf
  refine x_callS (As := [.int p1]) (rest := []) C hW hl (qX11_isFoot l E hx11_4) gs_X11_188 hd_X11_isFoot rfl rfl (Nat.le_of_ble_eq_true rfl) dX11_bestLeg_11 ⟨Nat.le_of_ble_eq_true rfl, Nat.le_of_ble_eq_true rfl⟩ ⟨Nat.le_of_ble_eq_true rfl, Nat.le_of_ble_eq_true rfl⟩ (fun H locs hW => ?_)
  refine lv_if_eq (tgt := 33) C.x C.b dX11_bestLeg_14 rfl (fun c14 => ?_) (fun c14 => ?_)
  · replace hf := x_ip c14 hf
    refine lv_iconst (v := (-1)) C.x C.b dX11_bestLeg_33 (by decide) ?_
    rw [x_e1 hf, x_e2 hf]
    exact x_iret C hr hW dX11_bestLeg_34
  · replace hf := x_in c14 hf
    refine x_aload C dX11_bestLeg_17 (lv_at hl 0 rfl) ?_
    replace hf := x_nl hf; rcases hf with ⟨rfl, hf⟩ | ⟨a19_5, rfl, hf⟩
    · refine lv_ifnullN (tgt := 33) C.x C.b dX11_bestLeg_19 rfl ?_
      refine lv_iconst (v := (-1)) C.x C.b dX11_bestLeg_33 (by decide) ?_
      rw [x_e1 hf, x_e2 hf]
      exact x_iret C hr hW dX11_bestLeg_34
    · refine lv_ifnull C.x C.b dX11_bestLeg_19 ?_
      refine lv_iload_n C.x C.b dX11_bestLeg_22 rfl (lv_at hl 4 rfl) ?_
      refine lv_iconst (v := 0) C.x C.b dX11_bestLeg_23 (by decide) ?_
      refine lv_sipush (v := 999) C.x C.b dX11_bestLeg_24 (by decide) ?_
      replace hf := x_b1 hf; obtain ⟨x27_6, hx27_6, hf⟩ := hf
      refine x_callS (As := [.int p3, .int 0, .int 999]) (rest := []) C hW hl (qX11_isWithin l E hx27_6) gs_X11_69 hd_X11_isWithin rfl rfl (Nat.le_of_ble_eq_true rfl) dX11_bestLeg_27 ⟨Nat.le_of_ble_eq_true rfl, Nat.le_of_ble_eq_true rfl⟩ ⟨Nat.le_of_ble_eq_true rfl, Nat.le_of_ble_eq_true rfl⟩ (fun H locs hW => ?_)
      refine lv_if_ne (tgt := 35) C.x C.b dX11_bestLeg_30 rfl (fun c30 => ?_) (fun c30 => ?_)
      · replace hf := x_in c30 hf
        refine lv_aload_n C.x C.b dX11_bestLeg_35 rfl (lv_at hl 1 rfl) ?_
        refine lv_iload_n C.x C.b dX11_bestLeg_36 rfl (lv_at hl 2 rfl) ?_
        replace hf := x_b1 hf; obtain ⟨_, hk37_7, hf⟩ := hf
        replace hf := x_b1 hf; obtain ⟨x37_8, hx37_8, hf⟩ := hf
        refine x_callV (As := [.int p1]) (a := o) (rest := []) C hW hl (qX11_hasLadderOn l E hx37_8) (x_gk hk37_7) (by decide) (by decide) rfl gv_X11_243 ⟨rfl, hd_X11_hasLadderOn⟩ rfl rfl (Nat.le_of_ble_eq_true rfl) dX11_bestLeg_37 ⟨Nat.le_of_ble_eq_true rfl, Nat.le_of_ble_eq_true rfl⟩ ⟨Nat.le_of_ble_eq_true rfl, Nat.le_of_ble_eq_true rfl⟩ (fun H locs hW => ?_)
        refine lv_if_eq (tgt := 62) C.x C.b dX11_bestLeg_40 rfl (fun c40 => ?_) (fun c40 => ?_)
        · replace hf := x_ip c40 hf
          refine lv_bipush (v := (-3)) C.x C.b dX11_bestLeg_62 (by decide) ?_
          rw [x_e1 hf, x_e2 hf]
          exact x_iret C hr hW dX11_bestLeg_64
        · replace hf := x_in c40 hf
          refine lv_aload C.x C.b dX11_bestLeg_43 (lv_at hl 0 rfl) ?_
          replace hf := x_b1 hf; obtain ⟨_, hk45_9, hf⟩ := hf
          replace hf := x_b1 hf; obtain ⟨x45_10, hx45_10, hf⟩ := hf
          refine x_callV (As := []) (a := a19_5) (rest := []) C hW hl (qX10_minutesOfAll l E hx45_10) (x_gk hk45_9) (by decide) (by decide) rfl gv_X11_231 ⟨rfl, hd_X10_minutesOfAll⟩ rfl rfl (Nat.le_of_ble_eq_true rfl) dX11_bestLeg_45 ⟨Nat.le_of_ble_eq_true rfl, Nat.le_of_ble_eq_true rfl⟩ ⟨Nat.le_of_ble_eq_true rfl, Nat.le_of_ble_eq_true rfl⟩ (fun H locs hW => ?_)
          refine lv_aload_n C.x C.b dX11_bestLeg_48 rfl (lv_at hl 1 rfl) ?_
          replace hf := x_b1 hf; obtain ⟨a49_11, ha49_11, hf⟩ := hf
          refine x_getn C hW fg_X11_10_14 ha49_11 dX11_bestLeg_49 ?_
          replace hf := x_b1 hf; obtain ⟨a52_12, ha52_12, hf⟩ := hf
          refine x_getn C hW fg_X11_107_3 ha52_12 dX11_bestLeg_52 ?_
          refine lv_iconst (v := 2) C.x C.b dX11_bestLeg_55 (by decide) ?_
          replace hf := x_b1 hf; obtain ⟨x56_13, hx56_13, hf⟩ := hf
          refine x_iald C hW hx56_13 dX11_bestLeg_56 ?_
          refine lv_iadd C.x C.b dX11_bestLeg_57 ?_
          refine lv_iload_n C.x C.b dX11_bestLeg_58 rfl (lv_at hl 4 rfl) ?_
          refine lv_icmp_le (tgt := 65) C.x C.b dX11_bestLeg_59 rfl (fun c59 => ?_) (fun c59 => ?_)
          · replace hf := x_ip c59 hf
            refine lv_iconst (v := 0) C.x C.b dX11_bestLeg_65 (by decide) ?_
            refine lv_istore (lv' := [(5, .int _), (4, .ref (E.b + _)), (0, .ref (E.b + _)), (1, .int _), (2, .int _), (3, .int _)]) C.x C.b dX11_bestLeg_66 hl (by decide) rfl (fun ls hl => ?_)
            refine lv_aload_n C.x C.b dX11_bestLeg_68 rfl (lv_at hl 2 rfl) ?_
            refine lv_iload_n C.x C.b dX11_bestLeg_69 rfl (lv_at hl 3 rfl) ?_
            refine lv_aload C.x C.b dX11_bestLeg_70 (lv_at hl 1 rfl) ?_
            refine lv_iconst (v := 0) C.x C.b dX11_bestLeg_72 (by decide) ?_
            replace hf := x_b1 hf; obtain ⟨_, hk73_14, hf⟩ := hf
            replace hf := x_b2 hf; obtain ⟨x73_15, M73_16, hx73_15, hf⟩ := hf
            refine x_callV (As := [.int p1, .ref (E.b + a19_5), .int 0]) (a := o) (rest := []) C hW hl (qX11_openDabbed l E hx73_15) (x_gk hk73_14) (by decide) (by decide) rfl gv_X11_246 ⟨rfl, hd_X11_openDabbed⟩ rfl rfl (Nat.le_of_ble_eq_true rfl) dX11_bestLeg_73 ⟨Nat.le_of_ble_eq_true rfl, Nat.le_of_ble_eq_true rfl⟩ ⟨Nat.le_of_ble_eq_true rfl, Nat.le_of_ble_eq_true rfl⟩ (fun H locs hW => ?_)
            refine lv_istore (lv' := [(6, .int _), (5, .int _), (4, .ref (E.b + _)), (0, .ref (E.b + _)), (1, .int _), (2, .int _), (3, .int _)]) C.x C.b dX11_bestLeg_76 hl (by decide) rfl (fun ls hl => ?_)
            refine lv_iconst (v := 1) C.x C.b dX11_bestLeg_78 (by decide) ?_
            refine lv_istore (lv' := [(7, .int _), (6, .int _), (5, .int _), (4, .ref (E.b + _)), (0, .ref (E.b + _)), (1, .int _), (2, .int _), (3, .int _)]) C.x C.b dX11_bestLeg_79 hl (by decide) rfl (fun ls hl => ?_)
            exact kX11_bestLeg_L81 C hr hin FL 0 x73_15 1 M73_16 hf _ _ _ hW (lv_sub hl [4, 5, 3, 2, 1, 0] rfl)
          · replace hf := x_in c59 hf
            refine lv_bipush (v := (-3)) C.x C.b dX11_bestLeg_62 (by decide) ?_
            rw [x_e1 hf, x_e2 hf]
            exact x_iret C hr hW dX11_bestLeg_64
      · replace hf := x_ip c30 hf
        refine lv_iconst (v := (-1)) C.x C.b dX11_bestLeg_33 (by decide) ?_
        rw [x_e1 hf, x_e2 hf]
        exact x_iret C hr hW dX11_bestLeg_34

theorem dX11_turned_0 : decode cX11_turned 0 = .ok (.aload_n 0, 1) := by decide +kernel
theorem dX11_turned_1 : decode cX11_turned 1 = .ok (.getfield 10, 3) := by decide +kernel
theorem dX11_turned_4 : decode cX11_turned 4 = .ok (.iload_n 2, 1) := by decide +kernel
theorem dX11_turned_5 : decode cX11_turned 5 = .ok (.invokevirtual 194, 3) := by decide +kernel
theorem dX11_turned_8 : decode cX11_turned 8 = .ok (.astore 4, 2) := by decide +kernel
theorem dX11_turned_10 : decode cX11_turned 10 = .ok (.iload_n 1, 1) := by decide +kernel
theorem dX11_turned_11 : decode cX11_turned 11 = .ok (.invokestatic 188, 3) := by decide +kernel
theorem dX11_turned_14 : decode cX11_turned 14 = .ok (.ifCond .eq 18, 3) := by decide +kernel
theorem dX11_turned_17 : decode cX11_turned 17 = .ok (.aload 4, 2) := by decide +kernel
theorem dX11_turned_19 : decode cX11_turned 19 = .ok (.ifnull 13, 3) := by decide +kernel
theorem dX11_turned_22 : decode cX11_turned 22 = .ok (.iload_n 3, 1) := by decide +kernel
theorem dX11_turned_23 : decode cX11_turned 23 = .ok (.iconst 1, 1) := by decide +kernel
theorem dX11_turned_24 : decode cX11_turned 24 = .ok (.bipush 15, 2) := by decide +kernel
theorem dX11_turned_26 : decode cX11_turned 26 = .ok (.invokestatic 69, 3) := by decide +kernel
theorem dX11_turned_29 : decode cX11_turned 29 = .ok (.ifCond .ne 5, 3) := by decide +kernel
theorem dX11_turned_32 : decode cX11_turned 32 = .ok (.iconst (-1), 1) := by decide +kernel
theorem dX11_turned_33 : decode cX11_turned 33 = .ok (.ireturn, 1) := by decide +kernel
theorem dX11_turned_34 : decode cX11_turned 34 = .ok (.aload_n 0, 1) := by decide +kernel
theorem dX11_turned_35 : decode cX11_turned 35 = .ok (.iload_n 1, 1) := by decide +kernel
theorem dX11_turned_36 : decode cX11_turned 36 = .ok (.invokevirtual 234, 3) := by decide +kernel
theorem dX11_turned_39 : decode cX11_turned 39 = .ok (.astore 5, 2) := by decide +kernel
theorem dX11_turned_41 : decode cX11_turned 41 = .ok (.aload 5, 2) := by decide +kernel
theorem dX11_turned_43 : decode cX11_turned 43 = .ok (.ifnonnull 6, 3) := by decide +kernel
theorem dX11_turned_46 : decode cX11_turned 46 = .ok (.bipush (-3), 2) := by decide +kernel
theorem dX11_turned_48 : decode cX11_turned 48 = .ok (.ireturn, 1) := by decide +kernel
theorem dX11_turned_49 : decode cX11_turned 49 = .ok (.aload_n 0, 1) := by decide +kernel
theorem dX11_turned_50 : decode cX11_turned 50 = .ok (.getfield 23, 3) := by decide +kernel
theorem dX11_turned_53 : decode cX11_turned 53 = .ok (.aload 4, 2) := by decide +kernel
theorem dX11_turned_55 : decode cX11_turned 55 = .ok (.iconst 0, 1) := by decide +kernel
theorem dX11_turned_56 : decode cX11_turned 56 = .ok (.aload 4, 2) := by decide +kernel
theorem dX11_turned_58 : decode cX11_turned 58 = .ok (.getfield 204, 3) := by decide +kernel
theorem dX11_turned_61 : decode cX11_turned 61 = .ok (.invokevirtual 227, 3) := by decide +kernel
theorem dX11_turned_64 : decode cX11_turned 64 = .ok (.iconst 0, 1) := by decide +kernel
theorem dX11_turned_65 : decode cX11_turned 65 = .ok (.istore 6, 2) := by decide +kernel
theorem dX11_turned_67 : decode cX11_turned 67 = .ok (.aload 5, 2) := by decide +kernel
theorem dX11_turned_69 : decode cX11_turned 69 = .ok (.iconst 0, 1) := by decide +kernel
theorem dX11_turned_70 : decode cX11_turned 70 = .ok (.putfield 139, 3) := by decide +kernel
theorem dX11_turned_73 : decode cX11_turned 73 = .ok (.aload_n 0, 1) := by decide +kernel
theorem dX11_turned_74 : decode cX11_turned 74 = .ok (.getfield 23, 3) := by decide +kernel
theorem dX11_turned_77 : decode cX11_turned 77 = .ok (.iload_n 3, 1) := by decide +kernel
theorem dX11_turned_78 : decode cX11_turned 78 = .ok (.invokevirtual 250, 3) := by decide +kernel
theorem dX11_turned_81 : decode cX11_turned 81 = .ok (.istore 7, 2) := by decide +kernel
theorem dX11_turned_83 : decode cX11_turned 83 = .ok (.iconst 1, 1) := by decide +kernel
theorem dX11_turned_84 : decode cX11_turned 84 = .ok (.istore 8, 2) := by decide +kernel
theorem dX11_turned_86 : decode cX11_turned 86 = .ok (.iload 8, 2) := by decide +kernel
theorem dX11_turned_88 : decode cX11_turned 88 = .ok (.iconst 4, 1) := by decide +kernel
theorem dX11_turned_89 : decode cX11_turned 89 = .ok (.if_icmp .ge 41, 3) := by decide +kernel
theorem dX11_turned_92 : decode cX11_turned 92 = .ok (.aload 5, 2) := by decide +kernel
theorem dX11_turned_94 : decode cX11_turned 94 = .ok (.iload 8, 2) := by decide +kernel
theorem dX11_turned_96 : decode cX11_turned 96 = .ok (.putfield 139, 3) := by decide +kernel
theorem dX11_turned_99 : decode cX11_turned 99 = .ok (.aload_n 0, 1) := by decide +kernel
theorem dX11_turned_100 : decode cX11_turned 100 = .ok (.getfield 23, 3) := by decide +kernel
theorem dX11_turned_103 : decode cX11_turned 103 = .ok (.iload_n 3, 1) := by decide +kernel
theorem dX11_turned_104 : decode cX11_turned 104 = .ok (.invokevirtual 250, 3) := by decide +kernel
theorem dX11_turned_107 : decode cX11_turned 107 = .ok (.istore 9, 2) := by decide +kernel
theorem dX11_turned_109 : decode cX11_turned 109 = .ok (.iload 9, 2) := by decide +kernel
theorem dX11_turned_111 : decode cX11_turned 111 = .ok (.iload 7, 2) := by decide +kernel
theorem dX11_turned_113 : decode cX11_turned 113 = .ok (.if_icmp .ge 11, 3) := by decide +kernel
theorem dX11_turned_116 : decode cX11_turned 116 = .ok (.iload 8, 2) := by decide +kernel
theorem dX11_turned_118 : decode cX11_turned 118 = .ok (.istore 6, 2) := by decide +kernel
theorem dX11_turned_120 : decode cX11_turned 120 = .ok (.iload 9, 2) := by decide +kernel
theorem dX11_turned_122 : decode cX11_turned 122 = .ok (.istore 7, 2) := by decide +kernel
theorem dX11_turned_124 : decode cX11_turned 124 = .ok (.iinc 8 1, 3) := by decide +kernel
theorem dX11_turned_127 : decode cX11_turned 127 = .ok (.goto (-41), 3) := by decide +kernel
theorem dX11_turned_130 : decode cX11_turned 130 = .ok (.iload 6, 2) := by decide +kernel
theorem dX11_turned_132 : decode cX11_turned 132 = .ok (.ireturn, 1) := by decide +kernel
theorem hd_X0_seenFromAll : yX0_seenFromAll.cls ≠ "java/lang/invoke/MethodHandle" ∧ yX0_seenFromAll.cls ≠ "java/lang/invoke/VarHandle" ∧ (parseMethodDescriptor yX0_seenFromAll.desc).map (fun d => d.parameters.length) = some 1 := by decide +kernel
theorem gv_X11_250 : GoodIn gT (wsV "NylonLadder" 250 "NylonLadder$Drawer" yX0_seenFromAll (Cond.code yX0_seenFromAll cX0_seenFromAll 4 (some .int) :: gT)) := good_V T_4_9 T_4_10 T_4_11 T_1_2 T_4_12
def fX11_turned_L86 (o : Nat) (v3 : Int32) (v5 : Nat) : Nat → Int32 → Int32 → Int32 → Mm → Option (Int32 × Mm)
  | 0, _, _, _, _ => none
  | n + 1, v6, v7, v8, M =>
    if 4 ≤ v8 then
      some (v6, M)
    else
      B1 (wrI M v5 10 5 v8) fun M96_19 =>
      B1 (rdN M96_19 o 14 3) fun a100_20 =>
      B1 (gk M96_19 a100_20 3) fun _ =>
      B1 (fX0_seenFromAll M96_19 a100_20 v3) fun x104_22 =>
      if v7 ≤ x104_22 then
        fX11_turned_L86 o v3 v5 n v6 v7 (v8 + 1) M96_19
      else
        fX11_turned_L86 o v3 v5 n v8 x104_22 (v8 + 1) M96_19
def fX11_turned (M : Mm) (o : Nat) (p1 : Int32) (p2 : Int32) (p3 : Int32) : Option (Int32 × Mm) :=
  B1 (rdN M o 14 0) fun a1_1 =>
  B1 (gk M a1_1 3) fun _ =>
  B1 (fX0_wayAt M a1_1 p2) fun x5_3 =>
  B1 (fX11_isFoot M p1) fun x11_4 =>
  if x11_4 = 0 then
    some ((-1), M)
  else
    NL x5_3 (
      some ((-1), M)) (fun a19_5 =>
      B1 (fX11_isWithin M p3 1 15) fun x26_6 =>
      if x26_6 = 0 then
        some ((-1), M)
      else
        B1 (gk M o 14) fun _ =>
        B2 (fX11_beginTrial M o p1) fun x36_8 M36_9 =>
        NL x36_8 (
          some ((-3), M36_9)) (fun a43_10 =>
          B1 (rdN M36_9 o 14 3) fun a50_11 =>
          B1 (rdI M36_9 a19_5 13 0) fun x58_12 =>
          B1 (gk M36_9 a50_11 3) fun _ =>
          B1 (fX0_passWay M36_9 a50_11 a19_5 0 x58_12) fun M61_14 =>
          B1 (wrI M61_14 a43_10 10 5 0) fun M70_15 =>
          B1 (rdN M70_15 o 14 3) fun a74_16 =>
          B1 (gk M70_15 a74_16 3) fun _ =>
          B1 (fX0_seenFromAll M70_15 a74_16 p3) fun x78_18 =>
          fX11_turned_L86 o p3 a43_10 FL 0 x78_18 1 M70_15))
set_option maxRecDepth 100000 in
set_option maxHeartbeats 4000000 in
theorem kX11_turned_L86 {l : Launch} {E : Ev} {p : Program} {e : Env} {s : State} {m : MethodId} {args : Array Value} {below : List Frame} {meth : Method} {c : Code} (C : Cx E p s m args meth c cX11_turned yX11_turned.cls 10) (hr : meth.sig.returnType = (some .int)) (hin : yX11_turned.name = "<init>" → meth.name = "<init>")  {o : Nat} {v3 : Int32} {v5 : Nat} {rz : Int32} {Mz : Mm} : ∀ (n : Nat) (v6 : Int32) (v7 : Int32) (v8 : Int32) (M : Mm), fX11_turned_L86 o v3 v5 n v6 v7 v8 M = some (rz, Mz) → ∀ (H : Heap) (locs : List Loc) (ls : Array Slot), Wx E s H locs M → lv_has ls 10 [(0, .ref (E.b + o)), (3, .int v3), (5, .ref (E.b + v5)), (6, .int v6), (7, .int v7), (8, .int v8)] → W p l e (rM 6 138 0 0) s m args below meth c H locs 0 0 (MQ below (Qp E (some (.int rz)) Mz) args s 0 0 E.A) (F0 m 86 ls []) := by
  intro n
  induction n with
  | zero =>
    intro v6 v7 v8 M hf
    unfold fX11_turned_L86 at hf
    cases hf
  | succ n ih =>
    intro v6 v7 v8 M hf H locs ls hW hl
    unfold fX11_turned_L86 at hf
    refine lv_iload C.x C.b dX11_turned_86 (lv_at hl 5 rfl) ?_
    refine lv_iconst (v := 4) C.x C.b dX11_turned_88 (by decide) ?_
    refine lv_icmp_ge (tgt := 130) C.x C.b dX11_turned_89 rfl (fun c89 => ?_) (fun c89 => ?_)
    · replace hf := x_ip c89 hf
      refine lv_iload C.x C.b dX11_turned_130 (lv_at hl 3 rfl) ?_
      rw [x_e1 hf, x_e2 hf]
      exact x_iret C hr hW dX11_turned_132
    · replace hf := x_in c89 hf
      refine lv_aload C.x C.b dX11_turned_92 (lv_at hl 2 rfl) ?_
      refine lv_iload C.x C.b dX11_turned_94 (lv_at hl 5 rfl) ?_
      replace hf := x_b1 hf; obtain ⟨M96_19, hM96_19, hf⟩ := hf
      refine x_puti C hW fp_X11_139_10 hM96_19 (fun h => by cases h) dX11_turned_96 (fun H locs hW => ?_)
      refine lv_aload_n C.x C.b dX11_turned_99 rfl (lv_at hl 0 rfl) ?_
      replace hf := x_b1 hf; obtain ⟨a100_20, ha100_20, hf⟩ := hf
      refine x_getn C hW fg_X11_23_14 ha100_20 dX11_turned_100 ?_
      refine lv_iload_n C.x C.b dX11_turned_103 rfl (lv_at hl 1 rfl) ?_
      replace hf := x_b1 hf; obtain ⟨_, hk104_21, hf⟩ := hf
      replace hf := x_b1 hf; obtain ⟨x104_22, hx104_22, hf⟩ := hf
      refine x_callV (As := [.int v3]) (a := a100_20) (rest := []) C hW hl (qX0_seenFromAll l E hx104_22) (x_gk hk104_21) (by decide) (by decide) rfl gv_X11_250 ⟨rfl, hd_X0_seenFromAll⟩ rfl rfl (Nat.le_of_ble_eq_true rfl) dX11_turned_104 ⟨Nat.le_of_ble_eq_true rfl, Nat.le_of_ble_eq_true rfl⟩ ⟨Nat.le_of_ble_eq_true rfl, Nat.le_of_ble_eq_true rfl⟩ (fun H locs hW => ?_)
      refine lv_istore (lv' := [(9, .int _), (0, .ref (E.b + _)), (3, .int _), (5, .ref (E.b + _)), (6, .int _), (7, .int _), (8, .int _)]) C.x C.b dX11_turned_107 hl (by decide) rfl (fun ls hl => ?_)
      refine lv_iload C.x C.b dX11_turned_109 (lv_at hl 0 rfl) ?_
      refine lv_iload C.x C.b dX11_turned_111 (lv_at hl 5 rfl) ?_
      refine lv_icmp_ge (tgt := 124) C.x C.b dX11_turned_113 rfl (fun c113 => ?_) (fun c113 => ?_)
      · replace hf := x_ip c113 hf
        refine lv_iinc (v := (v8 + 1)) (lv' := [(8, .int (v8 + 1)), (9, .int _), (0, .ref (E.b + _)), (3, .int _), (5, .ref (E.b + _)), (6, .int _), (7, .int _)]) C.x C.b dX11_turned_124 hl (k := 6) rfl (by first | rfl | decide) (by decide) rfl (fun ls hl => ?_)
        refine lv_goto (tgt := 86) C.x C.b dX11_turned_127 rfl ?_
        exact ih v6 v7 (v8 + 1) M96_19 hf _ _ _ hW (lv_sub hl [2, 3, 4, 5, 6, 0] rfl)
      · replace hf := x_in c113 hf
        refine lv_iload C.x C.b dX11_turned_116 (lv_at hl 6 rfl) ?_
        refine lv_istore (lv' := [(6, .int _), (9, .int _), (0, .ref (E.b + _)), (3, .int _), (5, .ref (E.b + _)), (7, .int _), (8, .int _)]) C.x C.b dX11_turned_118 hl (by decide) rfl (fun ls hl => ?_)
        refine lv_iload C.x C.b dX11_turned_120 (lv_at hl 1 rfl) ?_
        refine lv_istore (lv' := [(7, .int _), (6, .int _), (9, .int _), (0, .ref (E.b + _)), (3, .int _), (5, .ref (E.b + _)), (8, .int _)]) C.x C.b dX11_turned_122 hl (by decide) rfl (fun ls hl => ?_)
        refine lv_iinc (v := (v8 + 1)) (lv' := [(8, .int (v8 + 1)), (7, .int _), (6, .int _), (9, .int _), (0, .ref (E.b + _)), (3, .int _), (5, .ref (E.b + _))]) C.x C.b dX11_turned_124 hl (k := 6) rfl (by first | rfl | decide) (by decide) rfl (fun ls hl => ?_)
        refine lv_goto (tgt := 86) C.x C.b dX11_turned_127 rfl ?_
        exact ih v8 x104_22 (v8 + 1) M96_19 hf _ _ _ hW (lv_sub hl [4, 5, 6, 2, 1, 0] rfl)
set_option maxRecDepth 100000 in
set_option maxHeartbeats 4000000 in
theorem qX11_turned (l : Launch) (E : Ev) {M : Mm} {o : Nat} {p1 : Int32} {p2 : Int32} {p3 : Int32} {rz : Int32} {Mz : Mm} (hf : fX11_turned M o p1 p2 p3 = some (rz, Mz)) : Ct l E yX11_turned cX11_turned 10 (some .int) 6 138 0 0 [.ref (E.b + o), .int p1, .int p2, .int p3] M (some (.int rz)) Mz := by
  refine ct_of (by decide +kernel) (Nat.le_of_ble_eq_true rfl) fun p e s m args below meth c C hr hin hW ls hl => ?_
  have hl : lv_has ls 10 [(0, .ref (E.b + o)), (1, .int p1), (2, .int p2), (3, .int p3)] := hl
  unfold fX11_turned at hf
  refine lv_aload_n C.x C.b dX11_turned_0 rfl (lv_at hl 0 rfl) ?_
  replace hf := x_b1 hf; obtain ⟨a1_1, ha1_1, hf⟩ := hf
  refine x_getn C hW fg_X11_10_14 ha1_1 dX11_turned_1 ?_
  refine lv_iload_n C.x C.b dX11_turned_4 rfl (lv_at hl 2 rfl) ?_
  replace hf := x_b1 hf; obtain ⟨_, hk5_2, hf⟩ := hf
  replace hf := x_b1 hf; obtain ⟨x5_3, hx5_3, hf⟩ := hf
  refine x_callV (As := [.int p2]) (a := a1_1) (rest := []) C hW hl (qX0_wayAt l E hx5_3) (x_gk hk5_2) (by decide) (by decide) rfl gv_X11_194 ⟨rfl, hd_X0_wayAt⟩ rfl rfl (Nat.le_of_ble_eq_true rfl) dX11_turned_5 ⟨Nat.le_of_ble_eq_true rfl, Nat.le_of_ble_eq_true rfl⟩ ⟨Nat.le_of_ble_eq_true rfl, Nat.le_of_ble_eq_true rfl⟩ (fun H locs hW => ?_)
  refine x_astore (lv' := [(4, rv E.b _), (0, .ref (E.b + _)), (1, .int _), (2, .int _), (3, .int _)]) C dX11_turned_8 hl (by decide) rfl (fun ls hl => ?_)
  refine lv_iload_n C.x C.b dX11_turned_10 rfl (lv_at hl 2 rfl) ?_
  replace hf := x_b1 hf; obtain ⟨x11_4, hx11_4, hf⟩ := hf
  refine x_callS (As := [.int p1]) (rest := []) C hW hl (qX11_isFoot l E hx11_4) gs_X11_188 hd_X11_isFoot rfl rfl (Nat.le_of_ble_eq_true rfl) dX11_turned_11 ⟨Nat.le_of_ble_eq_true rfl, Nat.le_of_ble_eq_true rfl⟩ ⟨Nat.le_of_ble_eq_true rfl, Nat.le_of_ble_eq_true rfl⟩ (fun H locs hW => ?_)
  refine lv_if_eq (tgt := 32) C.x C.b dX11_turned_14 rfl (fun c14 => ?_) (fun c14 => ?_)
  · replace hf := x_ip c14 hf
    refine lv_iconst (v := (-1)) C.x C.b dX11_turned_32 (by decide) ?_
    rw [x_e1 hf, x_e2 hf]
    exact x_iret C hr hW dX11_turned_33
  · replace hf := x_in c14 hf
    refine x_aload C dX11_turned_17 (lv_at hl 0 rfl) ?_
    replace hf := x_nl hf; rcases hf with ⟨rfl, hf⟩ | ⟨a19_5, rfl, hf⟩
    · refine lv_ifnullN (tgt := 32) C.x C.b dX11_turned_19 rfl ?_
      refine lv_iconst (v := (-1)) C.x C.b dX11_turned_32 (by decide) ?_
      rw [x_e1 hf, x_e2 hf]
      exact x_iret C hr hW dX11_turned_33
    · refine lv_ifnull C.x C.b dX11_turned_19 ?_
      refine lv_iload_n C.x C.b dX11_turned_22 rfl (lv_at hl 4 rfl) ?_
      refine lv_iconst (v := 1) C.x C.b dX11_turned_23 (by decide) ?_
      refine lv_bipush (v := 15) C.x C.b dX11_turned_24 (by decide) ?_
      replace hf := x_b1 hf; obtain ⟨x26_6, hx26_6, hf⟩ := hf
      refine x_callS (As := [.int p3, .int 1, .int 15]) (rest := []) C hW hl (qX11_isWithin l E hx26_6) gs_X11_69 hd_X11_isWithin rfl rfl (Nat.le_of_ble_eq_true rfl) dX11_turned_26 ⟨Nat.le_of_ble_eq_true rfl, Nat.le_of_ble_eq_true rfl⟩ ⟨Nat.le_of_ble_eq_true rfl, Nat.le_of_ble_eq_true rfl⟩ (fun H locs hW => ?_)
      refine lv_if_ne (tgt := 34) C.x C.b dX11_turned_29 rfl (fun c29 => ?_) (fun c29 => ?_)
      · replace hf := x_in c29 hf
        refine lv_aload_n C.x C.b dX11_turned_34 rfl (lv_at hl 1 rfl) ?_
        refine lv_iload_n C.x C.b dX11_turned_35 rfl (lv_at hl 2 rfl) ?_
        replace hf := x_b1 hf; obtain ⟨_, hk36_7, hf⟩ := hf
        replace hf := x_b2 hf; obtain ⟨x36_8, M36_9, hx36_8, hf⟩ := hf
        refine x_callV (As := [.int p1]) (a := o) (rest := []) C hW hl (qX11_beginTrial l E hx36_8) (x_gk hk36_7) (by decide) (by decide) rfl gv_X11_234 ⟨rfl, hd_X11_beginTrial⟩ rfl rfl (Nat.le_of_ble_eq_true rfl) dX11_turned_36 ⟨Nat.le_of_ble_eq_true rfl, Nat.le_of_ble_eq_true rfl⟩ ⟨Nat.le_of_ble_eq_true rfl, Nat.le_of_ble_eq_true rfl⟩ (fun H locs hW => ?_)
        refine x_astore (lv' := [(5, rv E.b _), (4, .ref (E.b + _)), (0, .ref (E.b + _)), (1, .int _), (2, .int _), (3, .int _)]) C dX11_turned_39 hl (by decide) rfl (fun ls hl => ?_)
        refine x_aload C dX11_turned_41 (lv_at hl 0 rfl) ?_
        replace hf := x_nl hf; rcases hf with ⟨rfl, hf⟩ | ⟨a43_10, rfl, hf⟩
        · refine lv_ifnonnullN C.x C.b dX11_turned_43 ?_
          refine lv_bipush (v := (-3)) C.x C.b dX11_turned_46 (by decide) ?_
          rw [x_e1 hf, x_e2 hf]
          exact x_iret C hr hW dX11_turned_48
        · refine lv_ifnonnull (tgt := 49) C.x C.b dX11_turned_43 rfl ?_
          refine lv_aload_n C.x C.b dX11_turned_49 rfl (lv_at hl 2 rfl) ?_
          replace hf := x_b1 hf; obtain ⟨a50_11, ha50_11, hf⟩ := hf
          refine x_getn C hW fg_X11_23_14 ha50_11 dX11_turned_50 ?_
          refine lv_aload C.x C.b dX11_turned_53 (lv_at hl 1 rfl) ?_
          refine lv_iconst (v := 0) C.x C.b dX11_turned_55 (by decide) ?_
          refine lv_aload C.x C.b dX11_turned_56 (lv_at hl 1 rfl) ?_
          replace hf := x_b1 hf; obtain ⟨x58_12, hx58_12, hf⟩ := hf
          refine x_geti C hW fg_X11_204_13 hx58_12 dX11_turned_58 ?_
          replace hf := x_b1 hf; obtain ⟨_, hk61_13, hf⟩ := hf
          replace hf := x_b1 hf; obtain ⟨M61_14, hM61_14, hf⟩ := hf
          refine x_callV (As := [.ref (E.b + a19_5), .int 0, .int x58_12]) (a := a50_11) (rest := []) C hW hl (qX0_passWay l E hM61_14) (x_gk hk61_13) (by decide) (by decide) rfl gv_X11_227 ⟨rfl, hd_X0_passWay⟩ rfl rfl (Nat.le_of_ble_eq_true rfl) dX11_turned_61 ⟨Nat.le_of_ble_eq_true rfl, Nat.le_of_ble_eq_true rfl⟩ ⟨Nat.le_of_ble_eq_true rfl, Nat.le_of_ble_eq_true rfl⟩ (fun H locs hW => ?_)
          refine lv_iconst (v := 0) C.x C.b dX11_turned_64 (by decide) ?_
          refine lv_istore (lv' := [(6, .int _), (5, .ref (E.b + _)), (4, .ref (E.b + _)), (0, .ref (E.b + _)), (1, .int _), (2, .int _), (3, .int _)]) C.x C.b dX11_turned_65 hl (by decide) rfl (fun ls hl => ?_)
          refine lv_aload C.x C.b dX11_turned_67 (lv_at hl 1 rfl) ?_
          refine lv_iconst (v := 0) C.x C.b dX11_turned_69 (by decide) ?_
          replace hf := x_b1 hf; obtain ⟨M70_15, hM70_15, hf⟩ := hf
          refine x_puti C hW fp_X11_139_10 hM70_15 (fun h => by cases h) dX11_turned_70 (fun H locs hW => ?_)
          refine lv_aload_n C.x C.b dX11_turned_73 rfl (lv_at hl 3 rfl) ?_
          replace hf := x_b1 hf; obtain ⟨a74_16, ha74_16, hf⟩ := hf
          refine x_getn C hW fg_X11_23_14 ha74_16 dX11_turned_74 ?_
          refine lv_iload_n C.x C.b dX11_turned_77 rfl (lv_at hl 6 rfl) ?_
          replace hf := x_b1 hf; obtain ⟨_, hk78_17, hf⟩ := hf
          replace hf := x_b1 hf; obtain ⟨x78_18, hx78_18, hf⟩ := hf
          refine x_callV (As := [.int p3]) (a := a74_16) (rest := []) C hW hl (qX0_seenFromAll l E hx78_18) (x_gk hk78_17) (by decide) (by decide) rfl gv_X11_250 ⟨rfl, hd_X0_seenFromAll⟩ rfl rfl (Nat.le_of_ble_eq_true rfl) dX11_turned_78 ⟨Nat.le_of_ble_eq_true rfl, Nat.le_of_ble_eq_true rfl⟩ ⟨Nat.le_of_ble_eq_true rfl, Nat.le_of_ble_eq_true rfl⟩ (fun H locs hW => ?_)
          refine lv_istore (lv' := [(7, .int _), (6, .int _), (5, .ref (E.b + _)), (4, .ref (E.b + _)), (0, .ref (E.b + _)), (1, .int _), (2, .int _), (3, .int _)]) C.x C.b dX11_turned_81 hl (by decide) rfl (fun ls hl => ?_)
          refine lv_iconst (v := 1) C.x C.b dX11_turned_83 (by decide) ?_
          refine lv_istore (lv' := [(8, .int _), (7, .int _), (6, .int _), (5, .ref (E.b + _)), (4, .ref (E.b + _)), (0, .ref (E.b + _)), (1, .int _), (2, .int _), (3, .int _)]) C.x C.b dX11_turned_84 hl (by decide) rfl (fun ls hl => ?_)
          exact kX11_turned_L86 C hr hin FL 0 x78_18 1 M70_15 hf _ _ _ hW (lv_sub hl [5, 8, 3, 2, 1, 0] rfl)
      · replace hf := x_ip c29 hf
        refine lv_iconst (v := (-1)) C.x C.b dX11_turned_32 (by decide) ?_
        rw [x_e1 hf, x_e2 hf]
        exact x_iret C hr hW dX11_turned_33

theorem dX11_openBehind_0 : decode cX11_openBehind 0 = .ok (.aload_n 0, 1) := by decide +kernel
theorem dX11_openBehind_1 : decode cX11_openBehind 1 = .ok (.getfield 23, 3) := by decide +kernel
theorem dX11_openBehind_4 : decode cX11_openBehind 4 = .ok (.aload_n 0, 1) := by decide +kernel
theorem dX11_openBehind_5 : decode cX11_openBehind 5 = .ok (.getfield 10, 3) := by decide +kernel
theorem dX11_openBehind_8 : decode cX11_openBehind 8 = .ok (.invokevirtual 90, 3) := by decide +kernel
theorem dX11_openBehind_11 : decode cX11_openBehind 11 = .ok (.aload_n 0, 1) := by decide +kernel
theorem dX11_openBehind_12 : decode cX11_openBehind 12 = .ok (.getfield 23, 3) := by decide +kernel
theorem dX11_openBehind_15 : decode cX11_openBehind 15 = .ok (.aload_n 1, 1) := by decide +kernel
theorem dX11_openBehind_16 : decode cX11_openBehind 16 = .ok (.iconst 0, 1) := by decide +kernel
theorem dX11_openBehind_17 : decode cX11_openBehind 17 = .ok (.aload_n 1, 1) := by decide +kernel
theorem dX11_openBehind_18 : decode cX11_openBehind 18 = .ok (.getfield 204, 3) := by decide +kernel
theorem dX11_openBehind_21 : decode cX11_openBehind 21 = .ok (.invokevirtual 227, 3) := by decide +kernel
theorem dX11_openBehind_24 : decode cX11_openBehind 24 = .ok (.aload_n 0, 1) := by decide +kernel
theorem dX11_openBehind_25 : decode cX11_openBehind 25 = .ok (.getfield 23, 3) := by decide +kernel
theorem dX11_openBehind_28 : decode cX11_openBehind 28 = .ok (.invokevirtual 224, 3) := by decide +kernel
theorem dX11_openBehind_31 : decode cX11_openBehind 31 = .ok (.ireturn, 1) := by decide +kernel
def fX11_openBehind (M : Mm) (o : Nat) (p1 : Nat) : Option (Int32 × Mm) :=
  B1 (rdN M o 14 3) fun a1_1 =>
  B1 (rdN M o 14 0) fun a5_2 =>
  B1 (gk M a1_1 3) fun _ =>
  B1 (fX0_become M a1_1 a5_2) fun M8_4 =>
  B1 (rdN M8_4 o 14 3) fun a12_5 =>
  B1 (rdI M8_4 p1 13 0) fun x18_6 =>
  B1 (gk M8_4 a12_5 3) fun _ =>
  B1 (fX0_passWay M8_4 a12_5 p1 0 x18_6) fun M21_8 =>
  B1 (rdN M21_8 o 14 3) fun a25_9 =>
  B1 (gk M21_8 a25_9 3) fun _ =>
  B1 (fX0_openTogether M21_8 a25_9) fun x28_11 =>
  some (x28_11, M21_8)
set_option maxRecDepth 100000 in
set_option maxHeartbeats 4000000 in
theorem qX11_openBehind (l : Launch) (E : Ev) {M : Mm} {o : Nat} {p1 : Nat} {rz : Int32} {Mz : Mm} (hf : fX11_openBehind M o p1 = some (rz, Mz)) : Ct l E yX11_openBehind cX11_openBehind 2 (some .int) 6 138 0 0 [.ref (E.b + o), .ref (E.b + p1)] M (some (.int rz)) Mz := by
  refine ct_of (by decide +kernel) (Nat.le_of_ble_eq_true rfl) fun p e s m args below meth c C hr hin hW ls hl => ?_
  have hl : lv_has ls 2 [(0, .ref (E.b + o)), (1, .ref (E.b + p1))] := hl
  unfold fX11_openBehind at hf
  refine lv_aload_n C.x C.b dX11_openBehind_0 rfl (lv_at hl 0 rfl) ?_
  replace hf := x_b1 hf; obtain ⟨a1_1, ha1_1, hf⟩ := hf
  refine x_getn C hW fg_X11_23_14 ha1_1 dX11_openBehind_1 ?_
  refine lv_aload_n C.x C.b dX11_openBehind_4 rfl (lv_at hl 0 rfl) ?_
  replace hf := x_b1 hf; obtain ⟨a5_2, ha5_2, hf⟩ := hf
  refine x_getn C hW fg_X11_10_14 ha5_2 dX11_openBehind_5 ?_
  replace hf := x_b1 hf; obtain ⟨_, hk8_3, hf⟩ := hf
  replace hf := x_b1 hf; obtain ⟨M8_4, hM8_4, hf⟩ := hf
  refine x_callV (As := [.ref (E.b + a5_2)]) (a := a1_1) (rest := []) C hW hl (qX0_become l E hM8_4) (x_gk hk8_3) (by decide) (by decide) rfl gv_X11_90 ⟨rfl, hd_X0_become⟩ rfl rfl (Nat.le_of_ble_eq_true rfl) dX11_openBehind_8 ⟨Nat.le_of_ble_eq_true rfl, Nat.le_of_ble_eq_true rfl⟩ ⟨Nat.le_of_ble_eq_true rfl, Nat.le_of_ble_eq_true rfl⟩ (fun H locs hW => ?_)
  refine lv_aload_n C.x C.b dX11_openBehind_11 rfl (lv_at hl 0 rfl) ?_
  replace hf := x_b1 hf; obtain ⟨a12_5, ha12_5, hf⟩ := hf
  refine x_getn C hW fg_X11_23_14 ha12_5 dX11_openBehind_12 ?_
  refine lv_aload_n C.x C.b dX11_openBehind_15 rfl (lv_at hl 1 rfl) ?_
  refine lv_iconst (v := 0) C.x C.b dX11_openBehind_16 (by decide) ?_
  refine lv_aload_n C.x C.b dX11_openBehind_17 rfl (lv_at hl 1 rfl) ?_
  replace hf := x_b1 hf; obtain ⟨x18_6, hx18_6, hf⟩ := hf
  refine x_geti C hW fg_X11_204_13 hx18_6 dX11_openBehind_18 ?_
  replace hf := x_b1 hf; obtain ⟨_, hk21_7, hf⟩ := hf
  replace hf := x_b1 hf; obtain ⟨M21_8, hM21_8, hf⟩ := hf
  refine x_callV (As := [.ref (E.b + p1), .int 0, .int x18_6]) (a := a12_5) (rest := []) C hW hl (qX0_passWay l E hM21_8) (x_gk hk21_7) (by decide) (by decide) rfl gv_X11_227 ⟨rfl, hd_X0_passWay⟩ rfl rfl (Nat.le_of_ble_eq_true rfl) dX11_openBehind_21 ⟨Nat.le_of_ble_eq_true rfl, Nat.le_of_ble_eq_true rfl⟩ ⟨Nat.le_of_ble_eq_true rfl, Nat.le_of_ble_eq_true rfl⟩ (fun H locs hW => ?_)
  refine lv_aload_n C.x C.b dX11_openBehind_24 rfl (lv_at hl 0 rfl) ?_
  replace hf := x_b1 hf; obtain ⟨a25_9, ha25_9, hf⟩ := hf
  refine x_getn C hW fg_X11_23_14 ha25_9 dX11_openBehind_25 ?_
  replace hf := x_b1 hf; obtain ⟨_, hk28_10, hf⟩ := hf
  replace hf := x_b1 hf; obtain ⟨x28_11, hx28_11, hf⟩ := hf
  refine x_callV (As := []) (a := a25_9) (rest := []) C hW hl (qX0_openTogether l E hx28_11) (x_gk hk28_10) (by decide) (by decide) rfl gv_X11_224 ⟨rfl, hd_X0_openTogether⟩ rfl rfl (Nat.le_of_ble_eq_true rfl) dX11_openBehind_28 ⟨Nat.le_of_ble_eq_true rfl, Nat.le_of_ble_eq_true rfl⟩ ⟨Nat.le_of_ble_eq_true rfl, Nat.le_of_ble_eq_true rfl⟩ (fun H locs hW => ?_)
  rw [x_e1 hf, x_e2 hf]
  exact x_iret C hr hW dX11_openBehind_31

theorem dX11_better_0 : decode cX11_better 0 = .ok (.aload_n 0, 1) := by decide +kernel
theorem dX11_better_1 : decode cX11_better 1 = .ok (.aload_n 0, 1) := by decide +kernel
theorem dX11_better_2 : decode cX11_better 2 = .ok (.getfield 10, 3) := by decide +kernel
theorem dX11_better_5 : decode cX11_better 5 = .ok (.getfield 253, 3) := by decide +kernel
theorem dX11_better_8 : decode cX11_better 8 = .ok (.iconst 0, 1) := by decide +kernel
theorem dX11_better_9 : decode cX11_better 9 = .ok (.aaload, 1) := by decide +kernel
theorem dX11_better_10 : decode cX11_better 10 = .ok (.invokevirtual 257, 3) := by decide +kernel
theorem dX11_better_13 : decode cX11_better 13 = .ok (.istore_n 1, 1) := by decide +kernel
theorem dX11_better_14 : decode cX11_better 14 = .ok (.aload_n 0, 1) := by decide +kernel
theorem dX11_better_15 : decode cX11_better 15 = .ok (.aload_n 0, 1) := by decide +kernel
theorem dX11_better_16 : decode cX11_better 16 = .ok (.getfield 10, 3) := by decide +kernel
theorem dX11_better_19 : decode cX11_better 19 = .ok (.getfield 253, 3) := by decide +kernel
theorem dX11_better_22 : decode cX11_better 22 = .ok (.iconst 1, 1) := by decide +kernel
theorem dX11_better_23 : decode cX11_better 23 = .ok (.aaload, 1) := by decide +kernel
theorem dX11_better_24 : decode cX11_better 24 = .ok (.invokevirtual 257, 3) := by decide +kernel
theorem dX11_better_27 : decode cX11_better 27 = .ok (.istore_n 2, 1) := by decide +kernel
theorem dX11_better_28 : decode cX11_better 28 = .ok (.iload_n 1, 1) := by decide +kernel
theorem dX11_better_29 : decode cX11_better 29 = .ok (.iload_n 2, 1) := by decide +kernel
theorem dX11_better_30 : decode cX11_better 30 = .ok (.if_icmp .eq 14, 3) := by decide +kernel
theorem dX11_better_33 : decode cX11_better 33 = .ok (.iload_n 2, 1) := by decide +kernel
theorem dX11_better_34 : decode cX11_better 34 = .ok (.iload_n 1, 1) := by decide +kernel
theorem dX11_better_35 : decode cX11_better 35 = .ok (.if_icmp .ge 7, 3) := by decide +kernel
theorem dX11_better_38 : decode cX11_better 38 = .ok (.iconst 1, 1) := by decide +kernel
theorem dX11_better_39 : decode cX11_better 39 = .ok (.goto 4, 3) := by decide +kernel
theorem dX11_better_42 : decode cX11_better 42 = .ok (.iconst 0, 1) := by decide +kernel
theorem dX11_better_43 : decode cX11_better 43 = .ok (.ireturn, 1) := by decide +kernel
theorem dX11_better_44 : decode cX11_better 44 = .ok (.aload_n 0, 1) := by decide +kernel
theorem dX11_better_45 : decode cX11_better 45 = .ok (.getfield 10, 3) := by decide +kernel
theorem dX11_better_48 : decode cX11_better 48 = .ok (.getfield 253, 3) := by decide +kernel
theorem dX11_better_51 : decode cX11_better 51 = .ok (.iconst 1, 1) := by decide +kernel
theorem dX11_better_52 : decode cX11_better 52 = .ok (.aaload, 1) := by decide +kernel
theorem dX11_better_53 : decode cX11_better 53 = .ok (.invokevirtual 231, 3) := by decide +kernel
theorem dX11_better_56 : decode cX11_better 56 = .ok (.aload_n 0, 1) := by decide +kernel
theorem dX11_better_57 : decode cX11_better 57 = .ok (.getfield 10, 3) := by decide +kernel
theorem dX11_better_60 : decode cX11_better 60 = .ok (.getfield 253, 3) := by decide +kernel
theorem dX11_better_63 : decode cX11_better 63 = .ok (.iconst 0, 1) := by decide +kernel
theorem dX11_better_64 : decode cX11_better 64 = .ok (.aaload, 1) := by decide +kernel
theorem dX11_better_65 : decode cX11_better 65 = .ok (.invokevirtual 231, 3) := by decide +kernel
theorem dX11_better_68 : decode cX11_better 68 = .ok (.if_icmp .ge 7, 3) := by decide +kernel
theorem dX11_better_71 : decode cX11_better 71 = .ok (.iconst 1, 1) := by decide +kernel
theorem dX11_better_72 : decode cX11_better 72 = .ok (.goto 4, 3) := by decide +kernel
theorem dX11_better_75 : decode cX11_better 75 = .ok (.iconst 0, 1) := by decide +kernel
theorem dX11_better_76 : decode cX11_better 76 = .ok (.ireturn, 1) := by decide +kernel
theorem fg_X11_253_3 : FdG "NylonLadder" 253 3 4 true := ⟨_, _, _, _, rfl, by decide, by decide, by decide, gxX0, by decide, T_1_144, Or.inl rfl, rfl⟩
theorem hd_X11_openBehind : yX11_openBehind.cls ≠ "java/lang/invoke/MethodHandle" ∧ yX11_openBehind.cls ≠ "java/lang/invoke/VarHandle" ∧ (parseMethodDescriptor yX11_openBehind.desc).map (fun d => d.parameters.length) = some 1 := by decide +kernel
theorem gv_X11_257 : GoodIn gT (wsV "NylonLadder" 257 "NylonLadder" yX11_openBehind (Cond.code yX11_openBehind cX11_openBehind 2 (some .int) :: gT)) := good_V T_4_18 T_4_20 TS_23 T_1_1 T_4_21
def fX11_better (M : Mm) (o : Nat) : Option (Int32 × Mm) :=
  B1 (rdN M o 14 0) fun a2_1 =>
  B1 (rdN M a2_1 3 4) fun a5_2 =>
  B1 (alN M a5_2 24 0) fun a9_3 =>
  B1 (gk M o 14) fun _ =>
  B2 (fX11_openBehind M o a9_3) fun x10_5 M10_6 =>
  B1 (rdN M10_6 o 14 0) fun a16_7 =>
  B1 (rdN M10_6 a16_7 3 4) fun a19_8 =>
  B1 (alN M10_6 a19_8 24 1) fun a23_9 =>
  B1 (gk M10_6 o 14) fun _ =>
  B2 (fX11_openBehind M10_6 o a23_9) fun x24_11 M24_12 =>
  if x10_5 = x24_11 then
    B1 (rdN M24_12 o 14 0) fun a45_13 =>
    B1 (rdN M24_12 a45_13 3 4) fun a48_14 =>
    B1 (alN M24_12 a48_14 24 1) fun a52_15 =>
    B1 (gk M24_12 a52_15 13) fun _ =>
    B1 (fX10_minutesOfAll M24_12 a52_15) fun x53_17 =>
    B1 (rdN M24_12 o 14 0) fun a57_18 =>
    B1 (rdN M24_12 a57_18 3 4) fun a60_19 =>
    B1 (alN M24_12 a60_19 24 0) fun a64_20 =>
    B1 (gk M24_12 a64_20 13) fun _ =>
    B1 (fX10_minutesOfAll M24_12 a64_20) fun x65_22 =>
    if x65_22 ≤ x53_17 then
      some (0, M24_12)
    else
      some (1, M24_12)
  else
    if x10_5 ≤ x24_11 then
      some (0, M24_12)
    else
      some (1, M24_12)
set_option maxRecDepth 100000 in
set_option maxHeartbeats 4000000 in
theorem qX11_better (l : Launch) (E : Ev) {M : Mm} {o : Nat} {rz : Int32} {Mz : Mm} (hf : fX11_better M o = some (rz, Mz)) : Ct l E yX11_better cX11_better 3 (some .int) 7 159 0 0 [.ref (E.b + o)] M (some (.int rz)) Mz := by
  refine ct_of (by decide +kernel) (Nat.le_of_ble_eq_true rfl) fun p e s m args below meth c C hr hin hW ls hl => ?_
  have hl : lv_has ls 3 [(0, .ref (E.b + o))] := hl
  unfold fX11_better at hf
  refine lv_aload_n C.x C.b dX11_better_0 rfl (lv_at hl 0 rfl) ?_
  refine lv_aload_n C.x C.b dX11_better_1 rfl (lv_at hl 0 rfl) ?_
  replace hf := x_b1 hf; obtain ⟨a2_1, ha2_1, hf⟩ := hf
  refine x_getn C hW fg_X11_10_14 ha2_1 dX11_better_2 ?_
  replace hf := x_b1 hf; obtain ⟨a5_2, ha5_2, hf⟩ := hf
  refine x_getn C hW fg_X11_253_3 ha5_2 dX11_better_5 ?_
  refine lv_iconst (v := 0) C.x C.b dX11_better_8 (by decide) ?_
  replace hf := x_b1 hf; obtain ⟨a9_3, ha9_3, hf⟩ := hf
  refine x_aldn C hW (kd := 24) (by decide) (by decide) ha9_3 dX11_better_9 ?_
  replace hf := x_b1 hf; obtain ⟨_, hk10_4, hf⟩ := hf
  replace hf := x_b2 hf; obtain ⟨x10_5, M10_6, hx10_5, hf⟩ := hf
  refine x_callV (As := [.ref (E.b + a9_3)]) (a := o) (rest := []) C hW hl (qX11_openBehind l E hx10_5) (x_gk hk10_4) (by decide) (by decide) rfl gv_X11_257 ⟨rfl, hd_X11_openBehind⟩ rfl rfl (Nat.le_of_ble_eq_true rfl) dX11_better_10 ⟨Nat.le_of_ble_eq_true rfl, Nat.le_of_ble_eq_true rfl⟩ ⟨Nat.le_of_ble_eq_true rfl, Nat.le_of_ble_eq_true rfl⟩ (fun H locs hW => ?_)
  refine lv_istore_n (lv' := [(1, .int _), (0, .ref (E.b + _))]) C.x C.b dX11_better_13 rfl hl (by decide) rfl (fun ls hl => ?_)
  refine lv_aload_n C.x C.b dX11_better_14 rfl (lv_at hl 1 rfl) ?_
  refine lv_aload_n C.x C.b dX11_better_15 rfl (lv_at hl 1 rfl) ?_
  replace hf := x_b1 hf; obtain ⟨a16_7, ha16_7, hf⟩ := hf
  refine x_getn C hW fg_X11_10_14 ha16_7 dX11_better_16 ?_
  replace hf := x_b1 hf; obtain ⟨a19_8, ha19_8, hf⟩ := hf
  refine x_getn C hW fg_X11_253_3 ha19_8 dX11_better_19 ?_
  refine lv_iconst (v := 1) C.x C.b dX11_better_22 (by decide) ?_
  replace hf := x_b1 hf; obtain ⟨a23_9, ha23_9, hf⟩ := hf
  refine x_aldn C hW (kd := 24) (by decide) (by decide) ha23_9 dX11_better_23 ?_
  replace hf := x_b1 hf; obtain ⟨_, hk24_10, hf⟩ := hf
  replace hf := x_b2 hf; obtain ⟨x24_11, M24_12, hx24_11, hf⟩ := hf
  refine x_callV (As := [.ref (E.b + a23_9)]) (a := o) (rest := []) C hW hl (qX11_openBehind l E hx24_11) (x_gk hk24_10) (by decide) (by decide) rfl gv_X11_257 ⟨rfl, hd_X11_openBehind⟩ rfl rfl (Nat.le_of_ble_eq_true rfl) dX11_better_24 ⟨Nat.le_of_ble_eq_true rfl, Nat.le_of_ble_eq_true rfl⟩ ⟨Nat.le_of_ble_eq_true rfl, Nat.le_of_ble_eq_true rfl⟩ (fun H locs hW => ?_)
  refine lv_istore_n (lv' := [(2, .int _), (1, .int _), (0, .ref (E.b + _))]) C.x C.b dX11_better_27 rfl hl (by decide) rfl (fun ls hl => ?_)
  refine lv_iload_n C.x C.b dX11_better_28 rfl (lv_at hl 1 rfl) ?_
  refine lv_iload_n C.x C.b dX11_better_29 rfl (lv_at hl 0 rfl) ?_
  refine lv_icmp_eq (tgt := 44) C.x C.b dX11_better_30 rfl (fun c30 => ?_) (fun c30 => ?_)
  · replace hf := x_ip c30 hf
    refine lv_aload_n C.x C.b dX11_better_44 rfl (lv_at hl 2 rfl) ?_
    replace hf := x_b1 hf; obtain ⟨a45_13, ha45_13, hf⟩ := hf
    refine x_getn C hW fg_X11_10_14 ha45_13 dX11_better_45 ?_
    replace hf := x_b1 hf; obtain ⟨a48_14, ha48_14, hf⟩ := hf
    refine x_getn C hW fg_X11_253_3 ha48_14 dX11_better_48 ?_
    refine lv_iconst (v := 1) C.x C.b dX11_better_51 (by decide) ?_
    replace hf := x_b1 hf; obtain ⟨a52_15, ha52_15, hf⟩ := hf
    refine x_aldn C hW (kd := 24) (by decide) (by decide) ha52_15 dX11_better_52 ?_
    replace hf := x_b1 hf; obtain ⟨_, hk53_16, hf⟩ := hf
    replace hf := x_b1 hf; obtain ⟨x53_17, hx53_17, hf⟩ := hf
    refine x_callV (As := []) (a := a52_15) (rest := []) C hW hl (qX10_minutesOfAll l E hx53_17) (x_gk hk53_16) (by decide) (by decide) rfl gv_X11_231 ⟨rfl, hd_X10_minutesOfAll⟩ rfl rfl (Nat.le_of_ble_eq_true rfl) dX11_better_53 ⟨Nat.le_of_ble_eq_true rfl, Nat.le_of_ble_eq_true rfl⟩ ⟨Nat.le_of_ble_eq_true rfl, Nat.le_of_ble_eq_true rfl⟩ (fun H locs hW => ?_)
    refine lv_aload_n C.x C.b dX11_better_56 rfl (lv_at hl 2 rfl) ?_
    replace hf := x_b1 hf; obtain ⟨a57_18, ha57_18, hf⟩ := hf
    refine x_getn C hW fg_X11_10_14 ha57_18 dX11_better_57 ?_
    replace hf := x_b1 hf; obtain ⟨a60_19, ha60_19, hf⟩ := hf
    refine x_getn C hW fg_X11_253_3 ha60_19 dX11_better_60 ?_
    refine lv_iconst (v := 0) C.x C.b dX11_better_63 (by decide) ?_
    replace hf := x_b1 hf; obtain ⟨a64_20, ha64_20, hf⟩ := hf
    refine x_aldn C hW (kd := 24) (by decide) (by decide) ha64_20 dX11_better_64 ?_
    replace hf := x_b1 hf; obtain ⟨_, hk65_21, hf⟩ := hf
    replace hf := x_b1 hf; obtain ⟨x65_22, hx65_22, hf⟩ := hf
    refine x_callV (As := []) (a := a64_20) (rest := [.int x53_17]) C hW hl (qX10_minutesOfAll l E hx65_22) (x_gk hk65_21) (by decide) (by decide) rfl gv_X11_231 ⟨rfl, hd_X10_minutesOfAll⟩ rfl rfl (Nat.le_of_ble_eq_true rfl) dX11_better_65 ⟨Nat.le_of_ble_eq_true rfl, Nat.le_of_ble_eq_true rfl⟩ ⟨Nat.le_of_ble_eq_true rfl, Nat.le_of_ble_eq_true rfl⟩ (fun H locs hW => ?_)
    refine lv_icmp_ge (tgt := 75) C.x C.b dX11_better_68 rfl (fun c68 => ?_) (fun c68 => ?_)
    · replace hf := x_ip c68 hf
      refine lv_iconst (v := 0) C.x C.b dX11_better_75 (by decide) ?_
      rw [x_e1 hf, x_e2 hf]
      exact x_iret C hr hW dX11_better_76
    · replace hf := x_in c68 hf
      refine lv_iconst (v := 1) C.x C.b dX11_better_71 (by decide) ?_
      refine lv_goto (tgt := 76) C.x C.b dX11_better_72 rfl ?_
      rw [x_e1 hf, x_e2 hf]
      exact x_iret C hr hW dX11_better_76
  · replace hf := x_in c30 hf
    refine lv_iload_n C.x C.b dX11_better_33 rfl (lv_at hl 0 rfl) ?_
    refine lv_iload_n C.x C.b dX11_better_34 rfl (lv_at hl 1 rfl) ?_
    refine lv_icmp_ge (tgt := 42) C.x C.b dX11_better_35 rfl (fun c35 => ?_) (fun c35 => ?_)
    · replace hf := x_ip c35 hf
      refine lv_iconst (v := 0) C.x C.b dX11_better_42 (by decide) ?_
      rw [x_e1 hf, x_e2 hf]
      exact x_iret C hr hW dX11_better_43
    · replace hf := x_in c35 hf
      refine lv_iconst (v := 1) C.x C.b dX11_better_38 (by decide) ?_
      refine lv_goto (tgt := 43) C.x C.b dX11_better_39 rfl ?_
      rw [x_e1 hf, x_e2 hf]
      exact x_iret C hr hW dX11_better_43

theorem dX11_good_0 : decode cX11_good 0 = .ok (.iconst 0, 1) := by decide +kernel
theorem dX11_good_1 : decode cX11_good 1 = .ok (.istore_n 1, 1) := by decide +kernel
theorem dX11_good_2 : decode cX11_good 2 = .ok (.iconst 0, 1) := by decide +kernel
theorem dX11_good_3 : decode cX11_good 3 = .ok (.istore_n 2, 1) := by decide +kernel
theorem dX11_good_4 : decode cX11_good 4 = .ok (.iload_n 2, 1) := by decide +kernel
theorem dX11_good_5 : decode cX11_good 5 = .ok (.aload_n 0, 1) := by decide +kernel
theorem dX11_good_6 : decode cX11_good 6 = .ok (.getfield 10, 3) := by decide +kernel
theorem dX11_good_9 : decode cX11_good 9 = .ok (.getfield 94, 3) := by decide +kernel
theorem dX11_good_12 : decode cX11_good 12 = .ok (.if_icmp .ge 26, 3) := by decide +kernel
theorem dX11_good_15 : decode cX11_good 15 = .ok (.aload_n 0, 1) := by decide +kernel
theorem dX11_good_16 : decode cX11_good 16 = .ok (.getfield 10, 3) := by decide +kernel
theorem dX11_good_19 : decode cX11_good 19 = .ok (.iload_n 2, 1) := by decide +kernel
theorem dX11_good_20 : decode cX11_good 20 = .ok (.invokevirtual 261, 3) := by decide +kernel
theorem dX11_good_23 : decode cX11_good 23 = .ok (.ifCond .eq 9, 3) := by decide +kernel
theorem dX11_good_26 : decode cX11_good 26 = .ok (.iload_n 1, 1) := by decide +kernel
theorem dX11_good_27 : decode cX11_good 27 = .ok (.iconst 1, 1) := by decide +kernel
theorem dX11_good_28 : decode cX11_good 28 = .ok (.iload_n 2, 1) := by decide +kernel
theorem dX11_good_29 : decode cX11_good 29 = .ok (.ishl, 1) := by decide +kernel
theorem dX11_good_30 : decode cX11_good 30 = .ok (.ior, 1) := by decide +kernel
theorem dX11_good_31 : decode cX11_good 31 = .ok (.istore_n 1, 1) := by decide +kernel
theorem dX11_good_32 : decode cX11_good 32 = .ok (.iinc 2 1, 3) := by decide +kernel
theorem dX11_good_35 : decode cX11_good 35 = .ok (.goto (-31), 3) := by decide +kernel
theorem dX11_good_38 : decode cX11_good 38 = .ok (.iload_n 1, 1) := by decide +kernel
theorem dX11_good_39 : decode cX11_good 39 = .ok (.ireturn, 1) := by decide +kernel
theorem gv_X11_261 : GoodIn gT (wsV "NylonLadder" 261 "NylonLadder$Drawer" yX0_isGood (Cond.code yX0_isGood cX0_isGood 3 (some .boolean) :: gT)) := good_V T_4_26 T_4_27 T_4_28 T_1_2 T_4_29
def fX11_good_L4 (M : Mm) (o : Nat) : Nat → Int32 → Int32 → Option Int32
  | 0, _, _ => none
  | n + 1, v1, v2 =>
    B1 (rdN M o 14 0) fun a6_1 =>
    B1 (rdI M a6_1 3 2) fun x9_2 =>
    if x9_2 ≤ v2 then
      some v1
    else
      B1 (rdN M o 14 0) fun a16_3 =>
      B1 (gk M a16_3 3) fun _ =>
      B1 (fX0_isGood M a16_3 v2) fun x20_5 =>
      if x20_5 = 0 then
        fX11_good_L4 M o n v1 (v2 + 1)
      else
        fX11_good_L4 M o n (v1 ||| (1 <<< (v2 &&& 31))) (v2 + 1)
def fX11_good (M : Mm) (o : Nat) : Option Int32 :=
  fX11_good_L4 M o FL 0 0
set_option maxRecDepth 100000 in
set_option maxHeartbeats 4000000 in
theorem kX11_good_L4 {l : Launch} {E : Ev} {p : Program} {e : Env} {s : State} {m : MethodId} {args : Array Value} {below : List Frame} {meth : Method} {c : Code} (C : Cx E p s m args meth c cX11_good yX11_good.cls 3) (hr : meth.sig.returnType = (some .int)) (hin : yX11_good.name = "<init>" → meth.name = "<init>") {M : Mm}  {o : Nat} {rz : Int32} : ∀ (n : Nat) (v1 : Int32) (v2 : Int32), fX11_good_L4 M o n v1 v2 = some rz → ∀ (H : Heap) (locs : List Loc) (ls : Array Slot), Wx E s H locs M → lv_has ls 3 [(0, .ref (E.b + o)), (1, .int v1), (2, .int v2)] → W p l e (rM 3 65 0 0) s m args below meth c H locs 0 0 (MQ below (Qp E (some (.int rz)) M) args s 0 0 E.A) (F0 m 4 ls []) := by
  intro n
  induction n with
  | zero =>
    intro v1 v2 hf
    unfold fX11_good_L4 at hf
    cases hf
  | succ n ih =>
    intro v1 v2 hf H locs ls hW hl
    unfold fX11_good_L4 at hf
    refine lv_iload_n C.x C.b dX11_good_4 rfl (lv_at hl 2 rfl) ?_
    refine lv_aload_n C.x C.b dX11_good_5 rfl (lv_at hl 0 rfl) ?_
    replace hf := x_b1 hf; obtain ⟨a6_1, ha6_1, hf⟩ := hf
    refine x_getn C hW fg_X11_10_14 ha6_1 dX11_good_6 ?_
    replace hf := x_b1 hf; obtain ⟨x9_2, hx9_2, hf⟩ := hf
    refine x_geti C hW fg_X11_94_3 hx9_2 dX11_good_9 ?_
    refine lv_icmp_ge (tgt := 38) C.x C.b dX11_good_12 rfl (fun c12 => ?_) (fun c12 => ?_)
    · replace hf := x_ip c12 hf
      refine lv_iload_n C.x C.b dX11_good_38 rfl (lv_at hl 1 rfl) ?_
      rw [x_e0 hf]
      exact x_iret C hr hW dX11_good_39
    · replace hf := x_in c12 hf
      refine lv_aload_n C.x C.b dX11_good_15 rfl (lv_at hl 0 rfl) ?_
      replace hf := x_b1 hf; obtain ⟨a16_3, ha16_3, hf⟩ := hf
      refine x_getn C hW fg_X11_10_14 ha16_3 dX11_good_16 ?_
      refine lv_iload_n C.x C.b dX11_good_19 rfl (lv_at hl 2 rfl) ?_
      replace hf := x_b1 hf; obtain ⟨_, hk20_4, hf⟩ := hf
      replace hf := x_b1 hf; obtain ⟨x20_5, hx20_5, hf⟩ := hf
      refine x_callV (As := [.int v2]) (a := a16_3) (rest := []) C hW hl (qX0_isGood l E hx20_5) (x_gk hk20_4) (by decide) (by decide) rfl gv_X11_261 ⟨rfl, hd_X0_isGood⟩ rfl rfl (Nat.le_of_ble_eq_true rfl) dX11_good_20 ⟨Nat.le_of_ble_eq_true rfl, Nat.le_of_ble_eq_true rfl⟩ ⟨Nat.le_of_ble_eq_true rfl, Nat.le_of_ble_eq_true rfl⟩ (fun H locs hW => ?_)
      refine lv_if_eq (tgt := 32) C.x C.b dX11_good_23 rfl (fun c23 => ?_) (fun c23 => ?_)
      · replace hf := x_ip c23 hf
        refine lv_iinc (v := (v2 + 1)) (lv' := [(2, .int (v2 + 1)), (0, .ref (E.b + _)), (1, .int _)]) C.x C.b dX11_good_32 hl (k := 2) rfl (by first | rfl | decide) (by decide) rfl (fun ls hl => ?_)
        refine lv_goto (tgt := 4) C.x C.b dX11_good_35 rfl ?_
        exact ih v1 (v2 + 1) hf _ _ _ hW (lv_sub hl [1, 2, 0] rfl)
      · replace hf := x_in c23 hf
        refine lv_iload_n C.x C.b dX11_good_26 rfl (lv_at hl 1 rfl) ?_
        refine lv_iconst (v := 1) C.x C.b dX11_good_27 (by decide) ?_
        refine lv_iload_n C.x C.b dX11_good_28 rfl (lv_at hl 2 rfl) ?_
        refine lv_ishl C.x C.b dX11_good_29 ?_
        refine lv_ior C.x C.b dX11_good_30 ?_
        refine lv_istore_n (lv' := [(1, .int _), (0, .ref (E.b + _)), (2, .int _)]) C.x C.b dX11_good_31 rfl hl (by decide) rfl (fun ls hl => ?_)
        refine lv_iinc (v := (v2 + 1)) (lv' := [(2, .int (v2 + 1)), (1, .int _), (0, .ref (E.b + _))]) C.x C.b dX11_good_32 hl (k := 2) rfl (by first | rfl | decide) (by decide) rfl (fun ls hl => ?_)
        refine lv_goto (tgt := 4) C.x C.b dX11_good_35 rfl ?_
        exact ih (v1 ||| (1 <<< (v2 &&& 31))) (v2 + 1) hf _ _ _ hW (lv_sub hl [2, 1, 0] rfl)
set_option maxRecDepth 100000 in
set_option maxHeartbeats 4000000 in
theorem qX11_good (l : Launch) (E : Ev) {M : Mm} {o : Nat} {rz : Int32} (hf : fX11_good M o = some rz) : Ct l E yX11_good cX11_good 3 (some .int) 3 65 0 0 [.ref (E.b + o)] M (some (.int rz)) M := by
  refine ct_of (by decide +kernel) (Nat.le_of_ble_eq_true rfl) fun p e s m args below meth c C hr hin hW ls hl => ?_
  have hl : lv_has ls 3 [(0, .ref (E.b + o))] := hl
  unfold fX11_good at hf
  refine lv_iconst (v := 0) C.x C.b dX11_good_0 (by decide) ?_
  refine lv_istore_n (lv' := [(1, .int _), (0, .ref (E.b + _))]) C.x C.b dX11_good_1 rfl hl (by decide) rfl (fun ls hl => ?_)
  refine lv_iconst (v := 0) C.x C.b dX11_good_2 (by decide) ?_
  refine lv_istore_n (lv' := [(2, .int _), (1, .int _), (0, .ref (E.b + _))]) C.x C.b dX11_good_3 rfl hl (by decide) rfl (fun ls hl => ?_)
  exact kX11_good_L4 C hr hin FL 0 0 hf _ _ _ hW (lv_sub hl [2, 1, 0] rfl)

theorem dX11_pairs_0 : decode cX11_pairs 0 = .ok (.iconst 0, 1) := by decide +kernel
theorem dX11_pairs_1 : decode cX11_pairs 1 = .ok (.istore_n 1, 1) := by decide +kernel
theorem dX11_pairs_2 : decode cX11_pairs 2 = .ok (.iconst 0, 1) := by decide +kernel
theorem dX11_pairs_3 : decode cX11_pairs 3 = .ok (.istore_n 2, 1) := by decide +kernel
theorem dX11_pairs_4 : decode cX11_pairs 4 = .ok (.iload_n 2, 1) := by decide +kernel
theorem dX11_pairs_5 : decode cX11_pairs 5 = .ok (.aload_n 0, 1) := by decide +kernel
theorem dX11_pairs_6 : decode cX11_pairs 6 = .ok (.getfield 10, 3) := by decide +kernel
theorem dX11_pairs_9 : decode cX11_pairs 9 = .ok (.getfield 94, 3) := by decide +kernel
theorem dX11_pairs_12 : decode cX11_pairs 12 = .ok (.if_icmp .ge 53, 3) := by decide +kernel
theorem dX11_pairs_15 : decode cX11_pairs 15 = .ok (.iconst 0, 1) := by decide +kernel
theorem dX11_pairs_16 : decode cX11_pairs 16 = .ok (.istore_n 3, 1) := by decide +kernel
theorem dX11_pairs_17 : decode cX11_pairs 17 = .ok (.iconst 0, 1) := by decide +kernel
theorem dX11_pairs_18 : decode cX11_pairs 18 = .ok (.istore 4, 2) := by decide +kernel
theorem dX11_pairs_20 : decode cX11_pairs 20 = .ok (.iload 4, 2) := by decide +kernel
theorem dX11_pairs_22 : decode cX11_pairs 22 = .ok (.iload_n 2, 1) := by decide +kernel
theorem dX11_pairs_23 : decode cX11_pairs 23 = .ok (.if_icmp .ge 30, 3) := by decide +kernel
theorem dX11_pairs_26 : decode cX11_pairs 26 = .ok (.iload_n 3, 1) := by decide +kernel
theorem dX11_pairs_27 : decode cX11_pairs 27 = .ok (.aload_n 0, 1) := by decide +kernel
theorem dX11_pairs_28 : decode cX11_pairs 28 = .ok (.getfield 10, 3) := by decide +kernel
theorem dX11_pairs_31 : decode cX11_pairs 31 = .ok (.iload 4, 2) := by decide +kernel
theorem dX11_pairs_33 : decode cX11_pairs 33 = .ok (.iload_n 2, 1) := by decide +kernel
theorem dX11_pairs_34 : decode cX11_pairs 34 = .ok (.invokevirtual 264, 3) := by decide +kernel
theorem dX11_pairs_37 : decode cX11_pairs 37 = .ok (.ifCond .eq 7, 3) := by decide +kernel
theorem dX11_pairs_40 : decode cX11_pairs 40 = .ok (.iconst 1, 1) := by decide +kernel
theorem dX11_pairs_41 : decode cX11_pairs 41 = .ok (.goto 4, 3) := by decide +kernel
theorem dX11_pairs_44 : decode cX11_pairs 44 = .ok (.iconst 0, 1) := by decide +kernel
theorem dX11_pairs_45 : decode cX11_pairs 45 = .ok (.iadd, 1) := by decide +kernel
theorem dX11_pairs_46 : decode cX11_pairs 46 = .ok (.istore_n 3, 1) := by decide +kernel
theorem dX11_pairs_47 : decode cX11_pairs 47 = .ok (.iinc 4 1, 3) := by decide +kernel
theorem dX11_pairs_50 : decode cX11_pairs 50 = .ok (.goto (-30), 3) := by decide +kernel
theorem dX11_pairs_53 : decode cX11_pairs 53 = .ok (.iload_n 1, 1) := by decide +kernel
theorem dX11_pairs_54 : decode cX11_pairs 54 = .ok (.iload_n 3, 1) := by decide +kernel
theorem dX11_pairs_55 : decode cX11_pairs 55 = .ok (.iconst 2, 1) := by decide +kernel
theorem dX11_pairs_56 : decode cX11_pairs 56 = .ok (.irem, 1) := by decide +kernel
theorem dX11_pairs_57 : decode cX11_pairs 57 = .ok (.iadd, 1) := by decide +kernel
theorem dX11_pairs_58 : decode cX11_pairs 58 = .ok (.istore_n 1, 1) := by decide +kernel
theorem dX11_pairs_59 : decode cX11_pairs 59 = .ok (.iinc 2 1, 3) := by decide +kernel
theorem dX11_pairs_62 : decode cX11_pairs 62 = .ok (.goto (-58), 3) := by decide +kernel
theorem dX11_pairs_65 : decode cX11_pairs 65 = .ok (.iload_n 1, 1) := by decide +kernel
theorem dX11_pairs_66 : decode cX11_pairs 66 = .ok (.ireturn, 1) := by decide +kernel
theorem gv_X11_264 : GoodIn gT (wsV "NylonLadder" 264 "NylonLadder$Drawer" yX0_isPair (Cond.code yX0_isPair cX0_isPair 3 (some .boolean) :: gT)) := good_V T_4_38 T_4_39 T_4_40 T_1_2 T_4_41
def fX11_pairs_L20 (kk : Int32 → Option Int32) (M : Mm) (o : Nat) (v1 : Int32) (v2 : Int32) : Nat → Int32 → Int32 → Option Int32
  | 0, _, _ => none
  | n + 1, v3, v4 =>
    if v2 ≤ v4 then
      kk v3
    else
      B1 (rdN M o 14 0) fun a28_3 =>
      B1 (gk M a28_3 3) fun _ =>
      B1 (fX0_isPair M a28_3 v4 v2) fun x34_5 =>
      if x34_5 = 0 then
        fX11_pairs_L20 kk M o v1 v2 n (v3 + 0) (v4 + 1)
      else
        fX11_pairs_L20 kk M o v1 v2 n (v3 + 1) (v4 + 1)
def fX11_pairs_L4 (M : Mm) (o : Nat) : Nat → Int32 → Int32 → Option Int32
  | 0, _, _ => none
  | n + 1, v1, v2 =>
    B1 (rdN M o 14 0) fun a6_1 =>
    B1 (rdI M a6_1 3 2) fun x9_2 =>
    if x9_2 ≤ v2 then
      some v1
    else
      fX11_pairs_L20 (fun w53_6 =>
        fX11_pairs_L4 M o n (v1 + (w53_6 - w53_6 / 2 * 2)) (v2 + 1)) M o v1 v2 FL 0 0
def fX11_pairs (M : Mm) (o : Nat) : Option Int32 :=
  fX11_pairs_L4 M o FL 0 0
set_option maxRecDepth 100000 in
set_option maxHeartbeats 4000000 in
theorem kX11_pairs_L20 {l : Launch} {E : Ev} {p : Program} {e : Env} {s : State} {m : MethodId} {args : Array Value} {below : List Frame} {meth : Method} {c : Code} (C : Cx E p s m args meth c cX11_pairs yX11_pairs.cls 5) (hr : meth.sig.returnType = (some .int)) (hin : yX11_pairs.name = "<init>" → meth.name = "<init>") {M : Mm}  {o : Nat} {v1 : Int32} {v2 : Int32} {rz : Int32} {kk : Int32 → Option Int32} (hkk : ∀ (v3 : Int32), kk v3 = some rz → ∀ (H : Heap) (locs : List Loc) (ls : Array Slot), Wx E s H locs M → lv_has ls 5 [(0, .ref (E.b + o)), (1, .int v1), (2, .int v2), (3, .int v3)] → W p l e (rM 4 87 0 0) s m args below meth c H locs 0 0 (MQ below (Qp E (some (.int rz)) M) args s 0 0 E.A) (F0 m 53 ls [])) : ∀ (n : Nat) (v3 : Int32) (v4 : Int32), fX11_pairs_L20 kk M o v1 v2 n v3 v4 = some rz → ∀ (H : Heap) (locs : List Loc) (ls : Array Slot), Wx E s H locs M → lv_has ls 5 [(0, .ref (E.b + o)), (1, .int v1), (2, .int v2), (3, .int v3), (4, .int v4)] → W p l e (rM 4 87 0 0) s m args below meth c H locs 0 0 (MQ below (Qp E (some (.int rz)) M) args s 0 0 E.A) (F0 m 20 ls []) := by
  intro n
  induction n with
  | zero =>
    intro v3 v4 hf
    unfold fX11_pairs_L20 at hf
    cases hf
  | succ n ih =>
    intro v3 v4 hf H locs ls hW hl
    unfold fX11_pairs_L20 at hf
    refine lv_iload C.x C.b dX11_pairs_20 (lv_at hl 4 rfl) ?_
    refine lv_iload_n C.x C.b dX11_pairs_22 rfl (lv_at hl 2 rfl) ?_
    refine lv_icmp_ge (tgt := 53) C.x C.b dX11_pairs_23 rfl (fun c23 => ?_) (fun c23 => ?_)
    · replace hf := x_ip c23 hf
      exact hkk v3 hf _ _ _ hW (lv_sub hl [0, 1, 2, 3] rfl)
    · replace hf := x_in c23 hf
      refine lv_iload_n C.x C.b dX11_pairs_26 rfl (lv_at hl 3 rfl) ?_
      refine lv_aload_n C.x C.b dX11_pairs_27 rfl (lv_at hl 0 rfl) ?_
      replace hf := x_b1 hf; obtain ⟨a28_3, ha28_3, hf⟩ := hf
      refine x_getn C hW fg_X11_10_14 ha28_3 dX11_pairs_28 ?_
      refine lv_iload C.x C.b dX11_pairs_31 (lv_at hl 4 rfl) ?_
      refine lv_iload_n C.x C.b dX11_pairs_33 rfl (lv_at hl 2 rfl) ?_
      replace hf := x_b1 hf; obtain ⟨_, hk34_4, hf⟩ := hf
      replace hf := x_b1 hf; obtain ⟨x34_5, hx34_5, hf⟩ := hf
      refine x_callV (As := [.int v4, .int v2]) (a := a28_3) (rest := [.int v3]) C hW hl (qX0_isPair l E hx34_5) (x_gk hk34_4) (by decide) (by decide) rfl gv_X11_264 ⟨rfl, hd_X0_isPair⟩ rfl rfl (Nat.le_of_ble_eq_true rfl) dX11_pairs_34 ⟨Nat.le_of_ble_eq_true rfl, Nat.le_of_ble_eq_true rfl⟩ ⟨Nat.le_of_ble_eq_true rfl, Nat.le_of_ble_eq_true rfl⟩ (fun H locs hW => ?_)
      refine lv_if_eq (tgt := 44) C.x C.b dX11_pairs_37 rfl (fun c37 => ?_) (fun c37 => ?_)
      · replace hf := x_ip c37 hf
        refine lv_iconst (v := 0) C.x C.b dX11_pairs_44 (by decide) ?_
        refine lv_iadd C.x C.b dX11_pairs_45 ?_
        refine lv_istore_n (lv' := [(3, .int _), (0, .ref (E.b + _)), (1, .int _), (2, .int _), (4, .int _)]) C.x C.b dX11_pairs_46 rfl hl (by decide) rfl (fun ls hl => ?_)
        refine lv_iinc (v := (v4 + 1)) (lv' := [(4, .int (v4 + 1)), (3, .int _), (0, .ref (E.b + _)), (1, .int _), (2, .int _)]) C.x C.b dX11_pairs_47 hl (k := 4) rfl (by first | rfl | decide) (by decide) rfl (fun ls hl => ?_)
        refine lv_goto (tgt := 20) C.x C.b dX11_pairs_50 rfl ?_
        exact ih (v3 + 0) (v4 + 1) hf _ _ _ hW (lv_sub hl [2, 3, 4, 1, 0] rfl)
      · replace hf := x_in c37 hf
        refine lv_iconst (v := 1) C.x C.b dX11_pairs_40 (by decide) ?_
        refine lv_goto (tgt := 45) C.x C.b dX11_pairs_41 rfl ?_
        refine lv_iadd C.x C.b dX11_pairs_45 ?_
        refine lv_istore_n (lv' := [(3, .int _), (0, .ref (E.b + _)), (1, .int _), (2, .int _), (4, .int _)]) C.x C.b dX11_pairs_46 rfl hl (by decide) rfl (fun ls hl => ?_)
        refine lv_iinc (v := (v4 + 1)) (lv' := [(4, .int (v4 + 1)), (3, .int _), (0, .ref (E.b + _)), (1, .int _), (2, .int _)]) C.x C.b dX11_pairs_47 hl (k := 4) rfl (by first | rfl | decide) (by decide) rfl (fun ls hl => ?_)
        refine lv_goto (tgt := 20) C.x C.b dX11_pairs_50 rfl ?_
        exact ih (v3 + 1) (v4 + 1) hf _ _ _ hW (lv_sub hl [2, 3, 4, 1, 0] rfl)
set_option maxRecDepth 100000 in
set_option maxHeartbeats 4000000 in
theorem kX11_pairs_L4 {l : Launch} {E : Ev} {p : Program} {e : Env} {s : State} {m : MethodId} {args : Array Value} {below : List Frame} {meth : Method} {c : Code} (C : Cx E p s m args meth c cX11_pairs yX11_pairs.cls 5) (hr : meth.sig.returnType = (some .int)) (hin : yX11_pairs.name = "<init>" → meth.name = "<init>") {M : Mm}  {o : Nat} {rz : Int32} : ∀ (n : Nat) (v1 : Int32) (v2 : Int32), fX11_pairs_L4 M o n v1 v2 = some rz → ∀ (H : Heap) (locs : List Loc) (ls : Array Slot), Wx E s H locs M → lv_has ls 5 [(0, .ref (E.b + o)), (1, .int v1), (2, .int v2)] → W p l e (rM 4 87 0 0) s m args below meth c H locs 0 0 (MQ below (Qp E (some (.int rz)) M) args s 0 0 E.A) (F0 m 4 ls []) := by
  intro n
  induction n with
  | zero =>
    intro v1 v2 hf
    unfold fX11_pairs_L4 at hf
    cases hf
  | succ n ih =>
    intro v1 v2 hf H locs ls hW hl
    unfold fX11_pairs_L4 at hf
    refine lv_iload_n C.x C.b dX11_pairs_4 rfl (lv_at hl 2 rfl) ?_
    refine lv_aload_n C.x C.b dX11_pairs_5 rfl (lv_at hl 0 rfl) ?_
    replace hf := x_b1 hf; obtain ⟨a6_1, ha6_1, hf⟩ := hf
    refine x_getn C hW fg_X11_10_14 ha6_1 dX11_pairs_6 ?_
    replace hf := x_b1 hf; obtain ⟨x9_2, hx9_2, hf⟩ := hf
    refine x_geti C hW fg_X11_94_3 hx9_2 dX11_pairs_9 ?_
    refine lv_icmp_ge (tgt := 65) C.x C.b dX11_pairs_12 rfl (fun c12 => ?_) (fun c12 => ?_)
    · replace hf := x_ip c12 hf
      refine lv_iload_n C.x C.b dX11_pairs_65 rfl (lv_at hl 1 rfl) ?_
      rw [x_e0 hf]
      exact x_iret C hr hW dX11_pairs_66
    · replace hf := x_in c12 hf
      refine lv_iconst (v := 0) C.x C.b dX11_pairs_15 (by decide) ?_
      refine lv_istore_n (lv' := [(3, .int _), (0, .ref (E.b + _)), (1, .int _), (2, .int _)]) C.x C.b dX11_pairs_16 rfl hl (by decide) rfl (fun ls hl => ?_)
      refine lv_iconst (v := 0) C.x C.b dX11_pairs_17 (by decide) ?_
      refine lv_istore (lv' := [(4, .int _), (3, .int _), (0, .ref (E.b + _)), (1, .int _), (2, .int _)]) C.x C.b dX11_pairs_18 hl (by decide) rfl (fun ls hl => ?_)
      refine kX11_pairs_L20 C hr hin ?_ FL 0 0 hf _ _ _ hW (lv_sub hl [2, 3, 4, 1, 0] rfl)
      intro w53_6 hf H locs ls hW hl
      refine lv_iload_n C.x C.b dX11_pairs_53 rfl (lv_at hl 1 rfl) ?_
      refine lv_iload_n C.x C.b dX11_pairs_54 rfl (lv_at hl 3 rfl) ?_
      refine lv_iconst (v := 2) C.x C.b dX11_pairs_55 (by decide) ?_
      refine lv_irem C.x C.b dX11_pairs_56 (by decide) ?_
      refine lv_iadd C.x C.b dX11_pairs_57 ?_
      refine lv_istore_n (lv' := [(1, .int _), (0, .ref (E.b + _)), (2, .int _), (3, .int _)]) C.x C.b dX11_pairs_58 rfl hl (by decide) rfl (fun ls hl => ?_)
      refine lv_iinc (v := (v2 + 1)) (lv' := [(2, .int (v2 + 1)), (1, .int _), (0, .ref (E.b + _)), (3, .int _)]) C.x C.b dX11_pairs_59 hl (k := 2) rfl (by first | rfl | decide) (by decide) rfl (fun ls hl => ?_)
      refine lv_goto (tgt := 4) C.x C.b dX11_pairs_62 rfl ?_
      exact ih (v1 + (w53_6 - w53_6 / 2 * 2)) (v2 + 1) hf _ _ _ hW (lv_sub hl [2, 1, 0] rfl)
set_option maxRecDepth 100000 in
set_option maxHeartbeats 4000000 in
theorem qX11_pairs (l : Launch) (E : Ev) {M : Mm} {o : Nat} {rz : Int32} (hf : fX11_pairs M o = some rz) : Ct l E yX11_pairs cX11_pairs 5 (some .int) 4 87 0 0 [.ref (E.b + o)] M (some (.int rz)) M := by
  refine ct_of (by decide +kernel) (Nat.le_of_ble_eq_true rfl) fun p e s m args below meth c C hr hin hW ls hl => ?_
  have hl : lv_has ls 5 [(0, .ref (E.b + o))] := hl
  unfold fX11_pairs at hf
  refine lv_iconst (v := 0) C.x C.b dX11_pairs_0 (by decide) ?_
  refine lv_istore_n (lv' := [(1, .int _), (0, .ref (E.b + _))]) C.x C.b dX11_pairs_1 rfl hl (by decide) rfl (fun ls hl => ?_)
  refine lv_iconst (v := 0) C.x C.b dX11_pairs_2 (by decide) ?_
  refine lv_istore_n (lv' := [(2, .int _), (1, .int _), (0, .ref (E.b + _))]) C.x C.b dX11_pairs_3 rfl hl (by decide) rfl (fun ls hl => ?_)
  exact kX11_pairs_L4 C hr hin FL 0 0 hf _ _ _ hW (lv_sub hl [2, 1, 0] rfl)

theorem dX11_mate_0 : decode cX11_mate 0 = .ok (.aload_n 0, 1) := by decide +kernel
theorem dX11_mate_1 : decode cX11_mate 1 = .ok (.getfield 10, 3) := by decide +kernel
theorem dX11_mate_4 : decode cX11_mate 4 = .ok (.iload_n 1, 1) := by decide +kernel
theorem dX11_mate_5 : decode cX11_mate 5 = .ok (.invokevirtual 120, 3) := by decide +kernel
theorem dX11_mate_8 : decode cX11_mate 8 = .ok (.ifnonnull 5, 3) := by decide +kernel
theorem dX11_mate_11 : decode cX11_mate 11 = .ok (.iconst (-1), 1) := by decide +kernel
theorem dX11_mate_12 : decode cX11_mate 12 = .ok (.ireturn, 1) := by decide +kernel
theorem dX11_mate_13 : decode cX11_mate 13 = .ok (.aload_n 0, 1) := by decide +kernel
theorem dX11_mate_14 : decode cX11_mate 14 = .ok (.getfield 10, 3) := by decide +kernel
theorem dX11_mate_17 : decode cX11_mate 17 = .ok (.iload_n 1, 1) := by decide +kernel
theorem dX11_mate_18 : decode cX11_mate 18 = .ok (.invokevirtual 267, 3) := by decide +kernel
theorem dX11_mate_21 : decode cX11_mate 21 = .ok (.istore_n 2, 1) := by decide +kernel
theorem dX11_mate_22 : decode cX11_mate 22 = .ok (.iload_n 2, 1) := by decide +kernel
theorem dX11_mate_23 : decode cX11_mate 23 = .ok (.ifCond .ge 8, 3) := by decide +kernel
theorem dX11_mate_26 : decode cX11_mate 26 = .ok (.bipush (-3), 2) := by decide +kernel
theorem dX11_mate_28 : decode cX11_mate 28 = .ok (.goto 4, 3) := by decide +kernel
theorem dX11_mate_31 : decode cX11_mate 31 = .ok (.iload_n 2, 1) := by decide +kernel
theorem dX11_mate_32 : decode cX11_mate 32 = .ok (.ireturn, 1) := by decide +kernel
theorem gv_X11_267 : GoodIn gT (wsV "NylonLadder" 267 "NylonLadder$Drawer" yX0_mateOf (Cond.code yX0_mateOf cX0_mateOf 3 (some .int) :: gT)) := good_V T_4_47 T_4_48 T_4_49 T_1_2 T_4_50
def fX11_mate (M : Mm) (o : Nat) (p1 : Int32) : Option Int32 :=
  B1 (rdN M o 14 0) fun a1_1 =>
  B1 (gk M a1_1 3) fun _ =>
  B1 (fX0_stockingAt M a1_1 p1) fun x5_3 =>
  NL x5_3 (
    some (-1)) (fun a8_4 =>
    B1 (rdN M o 14 0) fun a14_5 =>
    B1 (gk M a14_5 3) fun _ =>
    B1 (fX0_mateOf M a14_5 p1) fun x18_7 =>
    if 0 ≤ x18_7 then
      some x18_7
    else
      some (-3))
set_option maxRecDepth 100000 in
set_option maxHeartbeats 4000000 in
theorem qX11_mate (l : Launch) (E : Ev) {M : Mm} {o : Nat} {p1 : Int32} {rz : Int32} (hf : fX11_mate M o p1 = some rz) : Ct l E yX11_mate cX11_mate 3 (some .int) 5 109 0 0 [.ref (E.b + o), .int p1] M (some (.int rz)) M := by
  refine ct_of (by decide +kernel) (Nat.le_of_ble_eq_true rfl) fun p e s m args below meth c C hr hin hW ls hl => ?_
  have hl : lv_has ls 3 [(0, .ref (E.b + o)), (1, .int p1)] := hl
  unfold fX11_mate at hf
  refine lv_aload_n C.x C.b dX11_mate_0 rfl (lv_at hl 0 rfl) ?_
  replace hf := x_b1 hf; obtain ⟨a1_1, ha1_1, hf⟩ := hf
  refine x_getn C hW fg_X11_10_14 ha1_1 dX11_mate_1 ?_
  refine lv_iload_n C.x C.b dX11_mate_4 rfl (lv_at hl 1 rfl) ?_
  replace hf := x_b1 hf; obtain ⟨_, hk5_2, hf⟩ := hf
  replace hf := x_b1 hf; obtain ⟨x5_3, hx5_3, hf⟩ := hf
  refine x_callV (As := [.int p1]) (a := a1_1) (rest := []) C hW hl (qX0_stockingAt l E hx5_3) (x_gk hk5_2) (by decide) (by decide) rfl gv_X11_120 ⟨rfl, hd_X0_stockingAt⟩ rfl rfl (Nat.le_of_ble_eq_true rfl) dX11_mate_5 ⟨Nat.le_of_ble_eq_true rfl, Nat.le_of_ble_eq_true rfl⟩ ⟨Nat.le_of_ble_eq_true rfl, Nat.le_of_ble_eq_true rfl⟩ (fun H locs hW => ?_)
  replace hf := x_nl hf; rcases hf with ⟨rfl, hf⟩ | ⟨a8_4, rfl, hf⟩
  · refine lv_ifnonnullN C.x C.b dX11_mate_8 ?_
    refine lv_iconst (v := (-1)) C.x C.b dX11_mate_11 (by decide) ?_
    rw [x_e0 hf]
    exact x_iret C hr hW dX11_mate_12
  · refine lv_ifnonnull (tgt := 13) C.x C.b dX11_mate_8 rfl ?_
    refine lv_aload_n C.x C.b dX11_mate_13 rfl (lv_at hl 0 rfl) ?_
    replace hf := x_b1 hf; obtain ⟨a14_5, ha14_5, hf⟩ := hf
    refine x_getn C hW fg_X11_10_14 ha14_5 dX11_mate_14 ?_
    refine lv_iload_n C.x C.b dX11_mate_17 rfl (lv_at hl 1 rfl) ?_
    replace hf := x_b1 hf; obtain ⟨_, hk18_6, hf⟩ := hf
    replace hf := x_b1 hf; obtain ⟨x18_7, hx18_7, hf⟩ := hf
    refine x_callV (As := [.int p1]) (a := a14_5) (rest := []) C hW hl (qX0_mateOf l E hx18_7) (x_gk hk18_6) (by decide) (by decide) rfl gv_X11_267 ⟨rfl, hd_X0_mateOf⟩ rfl rfl (Nat.le_of_ble_eq_true rfl) dX11_mate_18 ⟨Nat.le_of_ble_eq_true rfl, Nat.le_of_ble_eq_true rfl⟩ ⟨Nat.le_of_ble_eq_true rfl, Nat.le_of_ble_eq_true rfl⟩ (fun H locs hW => ?_)
    refine lv_istore_n (lv' := [(2, .int _), (0, .ref (E.b + _)), (1, .int _)]) C.x C.b dX11_mate_21 rfl hl (by decide) rfl (fun ls hl => ?_)
    refine lv_iload_n C.x C.b dX11_mate_22 rfl (lv_at hl 0 rfl) ?_
    refine lv_if_ge (tgt := 31) C.x C.b dX11_mate_23 rfl (fun c23 => ?_) (fun c23 => ?_)
    · replace hf := x_ip c23 hf
      refine lv_iload_n C.x C.b dX11_mate_31 rfl (lv_at hl 0 rfl) ?_
      rw [x_e0 hf]
      exact x_iret C hr hW dX11_mate_32
    · replace hf := x_in c23 hf
      refine lv_bipush (v := (-3)) C.x C.b dX11_mate_26 (by decide) ?_
      refine lv_goto (tgt := 32) C.x C.b dX11_mate_28 rfl ?_
      rw [x_e0 hf]
      exact x_iret C hr hW dX11_mate_32

theorem dX11_greatestDivisor_0 : decode cX11_greatestDivisor 0 = .ok (.iload_n 1, 1) := by decide +kernel
theorem dX11_greatestDivisor_1 : decode cX11_greatestDivisor 1 = .ok (.istore_n 2, 1) := by decide +kernel
theorem dX11_greatestDivisor_2 : decode cX11_greatestDivisor 2 = .ok (.iload_n 0, 1) := by decide +kernel
theorem dX11_greatestDivisor_3 : decode cX11_greatestDivisor 3 = .ok (.istore_n 3, 1) := by decide +kernel
theorem dX11_greatestDivisor_4 : decode cX11_greatestDivisor 4 = .ok (.iconst 0, 1) := by decide +kernel
theorem dX11_greatestDivisor_5 : decode cX11_greatestDivisor 5 = .ok (.istore 4, 2) := by decide +kernel
theorem dX11_greatestDivisor_7 : decode cX11_greatestDivisor 7 = .ok (.iload 4, 2) := by decide +kernel
theorem dX11_greatestDivisor_9 : decode cX11_greatestDivisor 9 = .ok (.bipush 100, 2) := by decide +kernel
theorem dX11_greatestDivisor_11 : decode cX11_greatestDivisor 11 = .ok (.if_icmp .ge 23, 3) := by decide +kernel
theorem dX11_greatestDivisor_14 : decode cX11_greatestDivisor 14 = .ok (.iload_n 3, 1) := by decide +kernel
theorem dX11_greatestDivisor_15 : decode cX11_greatestDivisor 15 = .ok (.ifCond .eq 19, 3) := by decide +kernel
theorem dX11_greatestDivisor_18 : decode cX11_greatestDivisor 18 = .ok (.iload_n 2, 1) := by decide +kernel
theorem dX11_greatestDivisor_19 : decode cX11_greatestDivisor 19 = .ok (.iload_n 3, 1) := by decide +kernel
theorem dX11_greatestDivisor_20 : decode cX11_greatestDivisor 20 = .ok (.irem, 1) := by decide +kernel
theorem dX11_greatestDivisor_21 : decode cX11_greatestDivisor 21 = .ok (.istore 5, 2) := by decide +kernel
theorem dX11_greatestDivisor_23 : decode cX11_greatestDivisor 23 = .ok (.iload_n 3, 1) := by decide +kernel
theorem dX11_greatestDivisor_24 : decode cX11_greatestDivisor 24 = .ok (.istore_n 2, 1) := by decide +kernel
theorem dX11_greatestDivisor_25 : decode cX11_greatestDivisor 25 = .ok (.iload 5, 2) := by decide +kernel
theorem dX11_greatestDivisor_27 : decode cX11_greatestDivisor 27 = .ok (.istore_n 3, 1) := by decide +kernel
theorem dX11_greatestDivisor_28 : decode cX11_greatestDivisor 28 = .ok (.iinc 4 1, 3) := by decide +kernel
theorem dX11_greatestDivisor_31 : decode cX11_greatestDivisor 31 = .ok (.goto (-24), 3) := by decide +kernel
theorem dX11_greatestDivisor_34 : decode cX11_greatestDivisor 34 = .ok (.iconst 1, 1) := by decide +kernel
theorem dX11_greatestDivisor_35 : decode cX11_greatestDivisor 35 = .ok (.iload_n 2, 1) := by decide +kernel
theorem dX11_greatestDivisor_36 : decode cX11_greatestDivisor 36 = .ok (.invokestatic 309, 3) := by decide +kernel
theorem dX11_greatestDivisor_39 : decode cX11_greatestDivisor 39 = .ok (.ireturn, 1) := by decide +kernel
def fX11_greatestDivisor_L7 (M : Mm) : Nat → Int32 → Int32 → Int32 → Option Int32
  | 0, _, _, _ => none
  | n + 1, v2, v3, v4 =>
    if 100 ≤ v4 then
      some (mxI 1 v2)
    else
      if v3 = 0 then
        some (mxI 1 v2)
      else
        B1 (nzI v3) fun _ =>
        fX11_greatestDivisor_L7 M n v3 (v2 - v2 / v3 * v3) (v4 + 1)
def fX11_greatestDivisor (M : Mm) (p1 : Int32) (p2 : Int32) : Option Int32 :=
  fX11_greatestDivisor_L7 M FL p2 p1 0
set_option maxRecDepth 100000 in
set_option maxHeartbeats 4000000 in
theorem kX11_greatestDivisor_L7 {l : Launch} {E : Ev} {p : Program} {e : Env} {s : State} {m : MethodId} {args : Array Value} {below : List Frame} {meth : Method} {c : Code} (C : Cx E p s m args meth c cX11_greatestDivisor yX11_greatestDivisor.cls 6) (hr : meth.sig.returnType = (some .int)) (hin : yX11_greatestDivisor.name = "<init>" → meth.name = "<init>") {M : Mm}  {rz : Int32} : ∀ (n : Nat) (v2 : Int32) (v3 : Int32) (v4 : Int32), fX11_greatestDivisor_L7 M n v2 v3 v4 = some rz → ∀ (H : Heap) (locs : List Loc) (ls : Array Slot), Wx E s H locs M → lv_has ls 6 [(2, .int v2), (3, .int v3), (4, .int v4)] → W p l e (rM 1 13 0 0) s m args below meth c H locs 0 0 (MQ below (Qp E (some (.int rz)) M) args s 0 0 E.A) (F0 m 7 ls []) := by
  intro n
  induction n with
  | zero =>
    intro v2 v3 v4 hf
    unfold fX11_greatestDivisor_L7 at hf
    cases hf
  | succ n ih =>
    intro v2 v3 v4 hf H locs ls hW hl
    unfold fX11_greatestDivisor_L7 at hf
    refine lv_iload C.x C.b dX11_greatestDivisor_7 (lv_at hl 2 rfl) ?_
    refine lv_bipush (v := 100) C.x C.b dX11_greatestDivisor_9 (by decide) ?_
    refine lv_icmp_ge (tgt := 34) C.x C.b dX11_greatestDivisor_11 rfl (fun c11 => ?_) (fun c11 => ?_)
    · replace hf := x_ip c11 hf
      refine lv_iconst (v := 1) C.x C.b dX11_greatestDivisor_34 (by decide) ?_
      refine lv_iload_n C.x C.b dX11_greatestDivisor_35 rfl (lv_at hl 0 rfl) ?_
      refine x_mmax C hl T_4_62 T_3_145 T_1_15 T_3_146 (Nat.le_of_ble_eq_true rfl) (Nat.le_of_ble_eq_true rfl) ⟨Nat.le_of_ble_eq_true rfl, Nat.le_of_ble_eq_true rfl⟩ dX11_greatestDivisor_36 ?_
      rw [x_e0 hf]
      exact x_iret C hr hW dX11_greatestDivisor_39
    · replace hf := x_in c11 hf
      refine lv_iload_n C.x C.b dX11_greatestDivisor_14 rfl (lv_at hl 1 rfl) ?_
      refine lv_if_eq (tgt := 34) C.x C.b dX11_greatestDivisor_15 rfl (fun c15 => ?_) (fun c15 => ?_)
      · replace hf := x_ip c15 hf
        refine lv_iconst (v := 1) C.x C.b dX11_greatestDivisor_34 (by decide) ?_
        refine lv_iload_n C.x C.b dX11_greatestDivisor_35 rfl (lv_at hl 0 rfl) ?_
        refine x_mmax C hl T_4_62 T_3_145 T_1_15 T_3_146 (Nat.le_of_ble_eq_true rfl) (Nat.le_of_ble_eq_true rfl) ⟨Nat.le_of_ble_eq_true rfl, Nat.le_of_ble_eq_true rfl⟩ dX11_greatestDivisor_36 ?_
        rw [x_e0 hf]
        exact x_iret C hr hW dX11_greatestDivisor_39
      · replace hf := x_in c15 hf
        refine lv_iload_n C.x C.b dX11_greatestDivisor_18 rfl (lv_at hl 0 rfl) ?_
        refine lv_iload_n C.x C.b dX11_greatestDivisor_19 rfl (lv_at hl 1 rfl) ?_
        replace hf := x_b1 hf; obtain ⟨_, hz20_1, hf⟩ := hf
        refine lv_irem C.x C.b dX11_greatestDivisor_20 (x_nzI hz20_1) ?_
        refine lv_istore (lv' := [(5, .int _), (2, .int _), (3, .int _), (4, .int _)]) C.x C.b dX11_greatestDivisor_21 hl (by decide) rfl (fun ls hl => ?_)
        refine lv_iload_n C.x C.b dX11_greatestDivisor_23 rfl (lv_at hl 2 rfl) ?_
        refine lv_istore_n (lv' := [(2, .int _), (5, .int _), (3, .int _), (4, .int _)]) C.x C.b dX11_greatestDivisor_24 rfl hl (by decide) rfl (fun ls hl => ?_)
        refine lv_iload C.x C.b dX11_greatestDivisor_25 (lv_at hl 1 rfl) ?_
        refine lv_istore_n (lv' := [(3, .int _), (2, .int _), (5, .int _), (4, .int _)]) C.x C.b dX11_greatestDivisor_27 rfl hl (by decide) rfl (fun ls hl => ?_)
        refine lv_iinc (v := (v4 + 1)) (lv' := [(4, .int (v4 + 1)), (3, .int _), (2, .int _), (5, .int _)]) C.x C.b dX11_greatestDivisor_28 hl (k := 3) rfl (by first | rfl | decide) (by decide) rfl (fun ls hl => ?_)
        refine lv_goto (tgt := 7) C.x C.b dX11_greatestDivisor_31 rfl ?_
        exact ih v3 (v2 - v2 / v3 * v3) (v4 + 1) hf _ _ _ hW (lv_sub hl [2, 1, 0] rfl)
set_option maxRecDepth 100000 in
set_option maxHeartbeats 4000000 in
theorem qX11_greatestDivisor (l : Launch) (E : Ev) {M : Mm} {p1 : Int32} {p2 : Int32} {rz : Int32} (hf : fX11_greatestDivisor M p1 p2 = some rz) : Ct l E yX11_greatestDivisor cX11_greatestDivisor 6 (some .int) 1 13 0 0 [.int p1, .int p2] M (some (.int rz)) M := by
  refine ct_of (by decide +kernel) (Nat.le_of_ble_eq_true rfl) fun p e s m args below meth c C hr hin hW ls hl => ?_
  have hl : lv_has ls 6 [(0, .int p1), (1, .int p2)] := hl
  unfold fX11_greatestDivisor at hf
  refine lv_iload_n C.x C.b dX11_greatestDivisor_0 rfl (lv_at hl 1 rfl) ?_
  refine lv_istore_n (lv' := [(2, .int _), (0, .int _), (1, .int _)]) C.x C.b dX11_greatestDivisor_1 rfl hl (by decide) rfl (fun ls hl => ?_)
  refine lv_iload_n C.x C.b dX11_greatestDivisor_2 rfl (lv_at hl 1 rfl) ?_
  refine lv_istore_n (lv' := [(3, .int _), (2, .int _), (0, .int _), (1, .int _)]) C.x C.b dX11_greatestDivisor_3 rfl hl (by decide) rfl (fun ls hl => ?_)
  refine lv_iconst (v := 0) C.x C.b dX11_greatestDivisor_4 (by decide) ?_
  refine lv_istore (lv' := [(4, .int _), (3, .int _), (2, .int _), (0, .int _), (1, .int _)]) C.x C.b dX11_greatestDivisor_5 hl (by decide) rfl (fun ls hl => ?_)
  exact kX11_greatestDivisor_L7 C hr hin FL p2 p1 0 hf _ _ _ hW (lv_sub hl [2, 1, 0] rfl)

theorem dX11_costs_0 : decode cX11_costs 0 = .ok (.aload_n 0, 1) := by decide +kernel
theorem dX11_costs_1 : decode cX11_costs 1 = .ok (.getfield 10, 3) := by decide +kernel
theorem dX11_costs_4 : decode cX11_costs 4 = .ok (.iload_n 1, 1) := by decide +kernel
theorem dX11_costs_5 : decode cX11_costs 5 = .ok (.invokevirtual 120, 3) := by decide +kernel
theorem dX11_costs_8 : decode cX11_costs 8 = .ok (.astore 4, 2) := by decide +kernel
theorem dX11_costs_10 : decode cX11_costs 10 = .ok (.aload 4, 2) := by decide +kernel
theorem dX11_costs_12 : decode cX11_costs 12 = .ok (.ifnull 21, 3) := by decide +kernel
theorem dX11_costs_15 : decode cX11_costs 15 = .ok (.iload_n 2, 1) := by decide +kernel
theorem dX11_costs_16 : decode cX11_costs 16 = .ok (.iconst 0, 1) := by decide +kernel
theorem dX11_costs_17 : decode cX11_costs 17 = .ok (.iconst 1, 1) := by decide +kernel
theorem dX11_costs_18 : decode cX11_costs 18 = .ok (.invokestatic 69, 3) := by decide +kernel
theorem dX11_costs_21 : decode cX11_costs 21 = .ok (.ifCond .eq 12, 3) := by decide +kernel
theorem dX11_costs_24 : decode cX11_costs 24 = .ok (.iload_n 3, 1) := by decide +kernel
theorem dX11_costs_25 : decode cX11_costs 25 = .ok (.iconst 0, 1) := by decide +kernel
theorem dX11_costs_26 : decode cX11_costs 26 = .ok (.iconst 1, 1) := by decide +kernel
theorem dX11_costs_27 : decode cX11_costs 27 = .ok (.invokestatic 69, 3) := by decide +kernel
theorem dX11_costs_30 : decode cX11_costs 30 = .ok (.ifCond .ne 7, 3) := by decide +kernel
theorem dX11_costs_33 : decode cX11_costs 33 = .ok (.ldc2_w 270, 3) := by decide +kernel
theorem dX11_costs_36 : decode cX11_costs 36 = .ok (.lreturn, 1) := by decide +kernel
theorem dX11_costs_37 : decode cX11_costs 37 = .ok (.iload_n 2, 1) := by decide +kernel
theorem dX11_costs_38 : decode cX11_costs 38 = .ok (.iconst 1, 1) := by decide +kernel
theorem dX11_costs_39 : decode cX11_costs 39 = .ok (.if_icmp .ne 15, 3) := by decide +kernel
theorem dX11_costs_42 : decode cX11_costs 42 = .ok (.aload 4, 2) := by decide +kernel
theorem dX11_costs_44 : decode cX11_costs 44 = .ok (.invokevirtual 272, 3) := by decide +kernel
theorem dX11_costs_47 : decode cX11_costs 47 = .ok (.ifCond .ne 7, 3) := by decide +kernel
theorem dX11_costs_50 : decode cX11_costs 50 = .ok (.ldc2_w 275, 3) := by decide +kernel
theorem dX11_costs_53 : decode cX11_costs 53 = .ok (.lreturn, 1) := by decide +kernel
theorem dX11_costs_54 : decode cX11_costs 54 = .ok (.iload_n 2, 1) := by decide +kernel
theorem dX11_costs_55 : decode cX11_costs 55 = .ok (.iconst 1, 1) := by decide +kernel
theorem dX11_costs_56 : decode cX11_costs 56 = .ok (.if_icmp .ne 18, 3) := by decide +kernel
theorem dX11_costs_59 : decode cX11_costs 59 = .ok (.aload 4, 2) := by decide +kernel
theorem dX11_costs_61 : decode cX11_costs 61 = .ok (.aload_n 0, 1) := by decide +kernel
theorem dX11_costs_62 : decode cX11_costs 62 = .ok (.getfield 10, 3) := by decide +kernel
theorem dX11_costs_65 : decode cX11_costs 65 = .ok (.getfield 107, 3) := by decide +kernel
theorem dX11_costs_68 : decode cX11_costs 68 = .ok (.invokevirtual 181, 3) := by decide +kernel
theorem dX11_costs_71 : decode cX11_costs 71 = .ok (.goto 13, 3) := by decide +kernel
theorem dX11_costs_74 : decode cX11_costs 74 = .ok (.aload_n 0, 1) := by decide +kernel
theorem dX11_costs_75 : decode cX11_costs 75 = .ok (.getfield 10, 3) := by decide +kernel
theorem dX11_costs_78 : decode cX11_costs 78 = .ok (.getfield 107, 3) := by decide +kernel
theorem dX11_costs_81 : decode cX11_costs 81 = .ok (.bipush 6, 2) := by decide +kernel
theorem dX11_costs_83 : decode cX11_costs 83 = .ok (.iaload, 1) := by decide +kernel
theorem dX11_costs_84 : decode cX11_costs 84 = .ok (.istore 5, 2) := by decide +kernel
theorem dX11_costs_86 : decode cX11_costs 86 = .ok (.iload_n 2, 1) := by decide +kernel
theorem dX11_costs_87 : decode cX11_costs 87 = .ok (.iconst 1, 1) := by decide +kernel
theorem dX11_costs_88 : decode cX11_costs 88 = .ok (.if_icmp .ne 17, 3) := by decide +kernel
theorem dX11_costs_91 : decode cX11_costs 91 = .ok (.aload 4, 2) := by decide +kernel
theorem dX11_costs_93 : decode cX11_costs 93 = .ok (.getfield 133, 3) := by decide +kernel
theorem dX11_costs_96 : decode cX11_costs 96 = .ok (.aload 4, 2) := by decide +kernel
theorem dX11_costs_98 : decode cX11_costs 98 = .ok (.getfield 136, 3) := by decide +kernel
theorem dX11_costs_101 : decode cX11_costs 101 = .ok (.isub, 1) := by decide +kernel
theorem dX11_costs_102 : decode cX11_costs 102 = .ok (.goto 8, 3) := by decide +kernel
theorem dX11_costs_105 : decode cX11_costs 105 = .ok (.aload 4, 2) := by decide +kernel
theorem dX11_costs_107 : decode cX11_costs 107 = .ok (.getfield 133, 3) := by decide +kernel
theorem dX11_costs_110 : decode cX11_costs 110 = .ok (.istore 6, 2) := by decide +kernel
theorem dX11_costs_112 : decode cX11_costs 112 = .ok (.iload 5, 2) := by decide +kernel
theorem dX11_costs_114 : decode cX11_costs 114 = .ok (.iload 6, 2) := by decide +kernel
theorem dX11_costs_116 : decode cX11_costs 116 = .ok (.invokestatic 277, 3) := by decide +kernel
theorem dX11_costs_119 : decode cX11_costs 119 = .ok (.istore 7, 2) := by decide +kernel
theorem dX11_costs_121 : decode cX11_costs 121 = .ok (.iload_n 3, 1) := by decide +kernel
theorem dX11_costs_122 : decode cX11_costs 122 = .ok (.ifCond .ne 8, 3) := by decide +kernel
theorem dX11_costs_125 : decode cX11_costs 125 = .ok (.iload 5, 2) := by decide +kernel
theorem dX11_costs_127 : decode cX11_costs 127 = .ok (.goto 5, 3) := by decide +kernel
theorem dX11_costs_130 : decode cX11_costs 130 = .ok (.iload 6, 2) := by decide +kernel
theorem dX11_costs_132 : decode cX11_costs 132 = .ok (.iload 7, 2) := by decide +kernel
theorem dX11_costs_134 : decode cX11_costs 134 = .ok (.idiv, 1) := by decide +kernel
theorem dX11_costs_135 : decode cX11_costs 135 = .ok (.i2l, 1) := by decide +kernel
theorem dX11_costs_136 : decode cX11_costs 136 = .ok (.lreturn, 1) := by decide +kernel
theorem hd_X11_greatestDivisor : yX11_greatestDivisor.cls ≠ "java/lang/invoke/MethodHandle" ∧ yX11_greatestDivisor.cls ≠ "java/lang/invoke/VarHandle" ∧ (parseMethodDescriptor yX11_greatestDivisor.desc).map (fun d => d.parameters.length) = some 2 := by decide +kernel
theorem gs_X11_277 : GoodIn gT (va_wsS "NylonLadder" 277 yX11_greatestDivisor (Cond.code yX11_greatestDivisor cX11_greatestDivisor 6 (some .int) :: gT)) := good_S T_4_59 T_4_60 T_1_1 T_4_61
theorem gv_X11_272 : GoodIn gT (wsV "NylonLadder" 272 "NylonLadder$Stocking" yX7_isLasting (Cond.code yX7_isLasting cX7_isLasting 1 (some .boolean) :: gT)) := good_V T_4_57 T_4_31 T_4_32 T_1_4 T_4_33
def fX11_costs (M : Mm) (o : Nat) (p1 : Int32) (p2 : Int32) (p3 : Int32) : Option Int64 :=
  B1 (rdN M o 14 0) fun a1_1 =>
  B1 (gk M a1_1 3) fun _ =>
  B1 (fX0_stockingAt M a1_1 p1) fun x5_3 =>
  NL x5_3 (
    some (-1)) (fun a12_4 =>
    B1 (fX11_isWithin M p2 0 1) fun x18_5 =>
    if x18_5 = 0 then
      some (-1)
    else
      B1 (fX11_isWithin M p3 0 1) fun x27_6 =>
      if x27_6 = 0 then
        some (-1)
      else
        if p2 = 1 then
          B1 (gk M a12_4 10) fun _ =>
          B1 (fX7_isLasting M a12_4) fun x44_33 =>
          if x44_33 = 0 then
            some (-3)
          else
            if p2 = 1 then
              B1 (rdN M o 14 0) fun a62_46 =>
              B1 (rdN M a62_46 3 0) fun a65_47 =>
              B1 (gk M a12_4 10) fun _ =>
              B1 (fX7_mendingCosts M a12_4 a65_47) fun x68_49 =>
              if p2 = 1 then
                B1 (rdI M a12_4 10 3) fun x93_54 =>
                B1 (rdI M a12_4 10 4) fun x98_55 =>
                B1 (fX11_greatestDivisor M x68_49 (x93_54 - x98_55)) fun x116_56 =>
                if p3 = 0 then
                  B1 (nzI x116_56) fun _ =>
                  some ((x68_49 / x116_56).toInt64)
                else
                  B1 (nzI x116_56) fun _ =>
                  some (((x93_54 - x98_55) / x116_56).toInt64)
              else
                B1 (rdI M a12_4 10 3) fun x107_50 =>
                B1 (fX11_greatestDivisor M x68_49 x107_50) fun x116_51 =>
                if p3 = 0 then
                  B1 (nzI x116_51) fun _ =>
                  some ((x68_49 / x116_51).toInt64)
                else
                  B1 (nzI x116_51) fun _ =>
                  some ((x107_50 / x116_51).toInt64)
            else
              B1 (rdN M o 14 0) fun a75_34 =>
              B1 (rdN M a75_34 3 0) fun a78_35 =>
              B1 (alI M a78_35 6) fun x83_36 =>
              if p2 = 1 then
                B1 (rdI M a12_4 10 3) fun x93_41 =>
                B1 (rdI M a12_4 10 4) fun x98_42 =>
                B1 (fX11_greatestDivisor M x83_36 (x93_41 - x98_42)) fun x116_43 =>
                if p3 = 0 then
                  B1 (nzI x116_43) fun _ =>
                  some ((x83_36 / x116_43).toInt64)
                else
                  B1 (nzI x116_43) fun _ =>
                  some (((x93_41 - x98_42) / x116_43).toInt64)
              else
                B1 (rdI M a12_4 10 3) fun x107_37 =>
                B1 (fX11_greatestDivisor M x83_36 x107_37) fun x116_38 =>
                if p3 = 0 then
                  B1 (nzI x116_38) fun _ =>
                  some ((x83_36 / x116_38).toInt64)
                else
                  B1 (nzI x116_38) fun _ =>
                  some ((x107_37 / x116_38).toInt64)
        else
          if p2 = 1 then
            B1 (rdN M o 14 0) fun a62_19 =>
            B1 (rdN M a62_19 3 0) fun a65_20 =>
            B1 (gk M a12_4 10) fun _ =>
            B1 (fX7_mendingCosts M a12_4 a65_20) fun x68_22 =>
            if p2 = 1 then
              B1 (rdI M a12_4 10 3) fun x93_27 =>
              B1 (rdI M a12_4 10 4) fun x98_28 =>
              B1 (fX11_greatestDivisor M x68_22 (x93_27 - x98_28)) fun x116_29 =>
              if p3 = 0 then
                B1 (nzI x116_29) fun _ =>
                some ((x68_22 / x116_29).toInt64)
              else
                B1 (nzI x116_29) fun _ =>
                some (((x93_27 - x98_28) / x116_29).toInt64)
            else
              B1 (rdI M a12_4 10 3) fun x107_23 =>
              B1 (fX11_greatestDivisor M x68_22 x107_23) fun x116_24 =>
              if p3 = 0 then
                B1 (nzI x116_24) fun _ =>
                some ((x68_22 / x116_24).toInt64)
              else
                B1 (nzI x116_24) fun _ =>
                some ((x107_23 / x116_24).toInt64)
          else
            B1 (rdN M o 14 0) fun a75_7 =>
            B1 (rdN M a75_7 3 0) fun a78_8 =>
            B1 (alI M a78_8 6) fun x83_9 =>
            if p2 = 1 then
              B1 (rdI M a12_4 10 3) fun x93_14 =>
              B1 (rdI M a12_4 10 4) fun x98_15 =>
              B1 (fX11_greatestDivisor M x83_9 (x93_14 - x98_15)) fun x116_16 =>
              if p3 = 0 then
                B1 (nzI x116_16) fun _ =>
                some ((x83_9 / x116_16).toInt64)
              else
                B1 (nzI x116_16) fun _ =>
                some (((x93_14 - x98_15) / x116_16).toInt64)
            else
              B1 (rdI M a12_4 10 3) fun x107_10 =>
              B1 (fX11_greatestDivisor M x83_9 x107_10) fun x116_11 =>
              if p3 = 0 then
                B1 (nzI x116_11) fun _ =>
                some ((x83_9 / x116_11).toInt64)
              else
                B1 (nzI x116_11) fun _ =>
                some ((x107_10 / x116_11).toInt64))
set_option maxRecDepth 100000 in
set_option maxHeartbeats 4000000 in
theorem qX11_costs (l : Launch) (E : Ev) {M : Mm} {o : Nat} {p1 : Int32} {p2 : Int32} {p3 : Int32} {rz : Int64} (hf : fX11_costs M o p1 p2 p3 = some rz) : Ct l E yX11_costs cX11_costs 8 (some .long) 3 61 0 0 [.ref (E.b + o), .int p1, .int p2, .int p3] M (some (.long rz)) M := by
  refine ct_of (by decide +kernel) (Nat.le_of_ble_eq_true rfl) fun p e s m args below meth c C hr hin hW ls hl => ?_
  have hl : lv_has ls 8 [(0, .ref (E.b + o)), (1, .int p1), (2, .int p2), (3, .int p3)] := hl
  unfold fX11_costs at hf
  refine lv_aload_n C.x C.b dX11_costs_0 rfl (lv_at hl 0 rfl) ?_
  replace hf := x_b1 hf; obtain ⟨a1_1, ha1_1, hf⟩ := hf
  refine x_getn C hW fg_X11_10_14 ha1_1 dX11_costs_1 ?_
  refine lv_iload_n C.x C.b dX11_costs_4 rfl (lv_at hl 1 rfl) ?_
  replace hf := x_b1 hf; obtain ⟨_, hk5_2, hf⟩ := hf
  replace hf := x_b1 hf; obtain ⟨x5_3, hx5_3, hf⟩ := hf
  refine x_callV (As := [.int p1]) (a := a1_1) (rest := []) C hW hl (qX0_stockingAt l E hx5_3) (x_gk hk5_2) (by decide) (by decide) rfl gv_X11_120 ⟨rfl, hd_X0_stockingAt⟩ rfl rfl (Nat.le_of_ble_eq_true rfl) dX11_costs_5 ⟨Nat.le_of_ble_eq_true rfl, Nat.le_of_ble_eq_true rfl⟩ ⟨Nat.le_of_ble_eq_true rfl, Nat.le_of_ble_eq_true rfl⟩ (fun H locs hW => ?_)
  refine x_astore (lv' := [(4, rv E.b _), (0, .ref (E.b + _)), (1, .int _), (2, .int _), (3, .int _)]) C dX11_costs_8 hl (by decide) rfl (fun ls hl => ?_)
  refine x_aload C dX11_costs_10 (lv_at hl 0 rfl) ?_
  replace hf := x_nl hf; rcases hf with ⟨rfl, hf⟩ | ⟨a12_4, rfl, hf⟩
  · refine lv_ifnullN (tgt := 33) C.x C.b dX11_costs_12 rfl ?_
    refine x_ldc2 (v := (-1)) C T_4_56 dX11_costs_33 ?_
    rw [x_e0 hf]
    exact x_lret C hr hW dX11_costs_36
  · refine lv_ifnull C.x C.b dX11_costs_12 ?_
    refine lv_iload_n C.x C.b dX11_costs_15 rfl (lv_at hl 3 rfl) ?_
    refine lv_iconst (v := 0) C.x C.b dX11_costs_16 (by decide) ?_
    refine lv_iconst (v := 1) C.x C.b dX11_costs_17 (by decide) ?_
    replace hf := x_b1 hf; obtain ⟨x18_5, hx18_5, hf⟩ := hf
    refine x_callS (As := [.int p2, .int 0, .int 1]) (rest := []) C hW hl (qX11_isWithin l E hx18_5) gs_X11_69 hd_X11_isWithin rfl rfl (Nat.le_of_ble_eq_true rfl) dX11_costs_18 ⟨Nat.le_of_ble_eq_true rfl, Nat.le_of_ble_eq_true rfl⟩ ⟨Nat.le_of_ble_eq_true rfl, Nat.le_of_ble_eq_true rfl⟩ (fun H locs hW => ?_)
    refine lv_if_eq (tgt := 33) C.x C.b dX11_costs_21 rfl (fun c21 => ?_) (fun c21 => ?_)
    · replace hf := x_ip c21 hf
      refine x_ldc2 (v := (-1)) C T_4_56 dX11_costs_33 ?_
      rw [x_e0 hf]
      exact x_lret C hr hW dX11_costs_36
    · replace hf := x_in c21 hf
      refine lv_iload_n C.x C.b dX11_costs_24 rfl (lv_at hl 4 rfl) ?_
      refine lv_iconst (v := 0) C.x C.b dX11_costs_25 (by decide) ?_
      refine lv_iconst (v := 1) C.x C.b dX11_costs_26 (by decide) ?_
      replace hf := x_b1 hf; obtain ⟨x27_6, hx27_6, hf⟩ := hf
      refine x_callS (As := [.int p3, .int 0, .int 1]) (rest := []) C hW hl (qX11_isWithin l E hx27_6) gs_X11_69 hd_X11_isWithin rfl rfl (Nat.le_of_ble_eq_true rfl) dX11_costs_27 ⟨Nat.le_of_ble_eq_true rfl, Nat.le_of_ble_eq_true rfl⟩ ⟨Nat.le_of_ble_eq_true rfl, Nat.le_of_ble_eq_true rfl⟩ (fun H locs hW => ?_)
      refine lv_if_ne (tgt := 37) C.x C.b dX11_costs_30 rfl (fun c30 => ?_) (fun c30 => ?_)
      · replace hf := x_in c30 hf
        refine lv_iload_n C.x C.b dX11_costs_37 rfl (lv_at hl 3 rfl) ?_
        refine lv_iconst (v := 1) C.x C.b dX11_costs_38 (by decide) ?_
        refine lv_icmp_ne (tgt := 54) C.x C.b dX11_costs_39 rfl (fun c39 => ?_) (fun c39 => ?_)
        · replace hf := x_in c39 hf
          refine lv_iload_n C.x C.b dX11_costs_54 rfl (lv_at hl 3 rfl) ?_
          refine lv_iconst (v := 1) C.x C.b dX11_costs_55 (by decide) ?_
          refine lv_icmp_ne (tgt := 74) C.x C.b dX11_costs_56 rfl (fun c56 => ?_) (fun c56 => ?_)
          · replace hf := x_in c56 hf
            refine lv_aload_n C.x C.b dX11_costs_74 rfl (lv_at hl 1 rfl) ?_
            replace hf := x_b1 hf; obtain ⟨a75_7, ha75_7, hf⟩ := hf
            refine x_getn C hW fg_X11_10_14 ha75_7 dX11_costs_75 ?_
            replace hf := x_b1 hf; obtain ⟨a78_8, ha78_8, hf⟩ := hf
            refine x_getn C hW fg_X11_107_3 ha78_8 dX11_costs_78 ?_
            refine lv_bipush (v := 6) C.x C.b dX11_costs_81 (by decide) ?_
            replace hf := x_b1 hf; obtain ⟨x83_9, hx83_9, hf⟩ := hf
            refine x_iald C hW hx83_9 dX11_costs_83 ?_
            refine lv_istore (lv' := [(5, .int _), (4, .ref (E.b + _)), (0, .ref (E.b + _)), (1, .int _), (2, .int _), (3, .int _)]) C.x C.b dX11_costs_84 hl (by decide) rfl (fun ls hl => ?_)
            refine lv_iload_n C.x C.b dX11_costs_86 rfl (lv_at hl 4 rfl) ?_
            refine lv_iconst (v := 1) C.x C.b dX11_costs_87 (by decide) ?_
            refine lv_icmp_ne (tgt := 105) C.x C.b dX11_costs_88 rfl (fun c88 => ?_) (fun c88 => ?_)
            · replace hf := x_in c88 hf
              refine lv_aload C.x C.b dX11_costs_105 (lv_at hl 1 rfl) ?_
              replace hf := x_b1 hf; obtain ⟨x107_10, hx107_10, hf⟩ := hf
              refine x_geti C hW fg_X11_133_10 hx107_10 dX11_costs_107 ?_
              refine lv_istore (lv' := [(6, .int _), (5, .int _), (4, .ref (E.b + _)), (0, .ref (E.b + _)), (1, .int _), (2, .int _), (3, .int _)]) C.x C.b dX11_costs_110 hl (by decide) rfl (fun ls hl => ?_)
              refine lv_iload C.x C.b dX11_costs_112 (lv_at hl 1 rfl) ?_
              refine lv_iload C.x C.b dX11_costs_114 (lv_at hl 0 rfl) ?_
              replace hf := x_b1 hf; obtain ⟨x116_11, hx116_11, hf⟩ := hf
              refine x_callS (As := [.int x83_9, .int x107_10]) (rest := []) C hW hl (qX11_greatestDivisor l E hx116_11) gs_X11_277 hd_X11_greatestDivisor rfl rfl (Nat.le_of_ble_eq_true rfl) dX11_costs_116 ⟨Nat.le_of_ble_eq_true rfl, Nat.le_of_ble_eq_true rfl⟩ ⟨Nat.le_of_ble_eq_true rfl, Nat.le_of_ble_eq_true rfl⟩ (fun H locs hW => ?_)
              refine lv_istore (lv' := [(7, .int _), (6, .int _), (5, .int _), (4, .ref (E.b + _)), (0, .ref (E.b + _)), (1, .int _), (2, .int _), (3, .int _)]) C.x C.b dX11_costs_119 hl (by decide) rfl (fun ls hl => ?_)
              refine lv_iload_n C.x C.b dX11_costs_121 rfl (lv_at hl 7 rfl) ?_
              refine lv_if_ne (tgt := 130) C.x C.b dX11_costs_122 rfl (fun c122 => ?_) (fun c122 => ?_)
              · replace hf := x_in c122 hf
                refine lv_iload C.x C.b dX11_costs_130 (lv_at hl 1 rfl) ?_
                refine lv_iload C.x C.b dX11_costs_132 (lv_at hl 0 rfl) ?_
                replace hf := x_b1 hf; obtain ⟨_, hz134_12, hf⟩ := hf
                refine lv_idiv C.x C.b dX11_costs_134 (x_nzI hz134_12) ?_
                refine lv_i2l (v := (x107_10 / x116_11).toInt64) C.x C.b dX11_costs_135 rfl ?_
                rw [x_e0 hf]
                exact x_lret C hr hW dX11_costs_136
              · replace hf := x_ip c122 hf
                refine lv_iload C.x C.b dX11_costs_125 (lv_at hl 2 rfl) ?_
                refine lv_goto (tgt := 132) C.x C.b dX11_costs_127 rfl ?_
                refine lv_iload C.x C.b dX11_costs_132 (lv_at hl 0 rfl) ?_
                replace hf := x_b1 hf; obtain ⟨_, hz134_13, hf⟩ := hf
                refine lv_idiv C.x C.b dX11_costs_134 (x_nzI hz134_13) ?_
                refine lv_i2l (v := (x83_9 / x116_11).toInt64) C.x C.b dX11_costs_135 rfl ?_
                rw [x_e0 hf]
                exact x_lret C hr hW dX11_costs_136
            · replace hf := x_ip c88 hf
              refine lv_aload C.x C.b dX11_costs_91 (lv_at hl 1 rfl) ?_
              replace hf := x_b1 hf; obtain ⟨x93_14, hx93_14, hf⟩ := hf
              refine x_geti C hW fg_X11_133_10 hx93_14 dX11_costs_93 ?_
              refine lv_aload C.x C.b dX11_costs_96 (lv_at hl 1 rfl) ?_
              replace hf := x_b1 hf; obtain ⟨x98_15, hx98_15, hf⟩ := hf
              refine x_geti C hW fg_X11_136_10 hx98_15 dX11_costs_98 ?_
              refine lv_isub C.x C.b dX11_costs_101 ?_
              refine lv_goto (tgt := 110) C.x C.b dX11_costs_102 rfl ?_
              refine lv_istore (lv' := [(6, .int _), (5, .int _), (4, .ref (E.b + _)), (0, .ref (E.b + _)), (1, .int _), (2, .int _), (3, .int _)]) C.x C.b dX11_costs_110 hl (by decide) rfl (fun ls hl => ?_)
              refine lv_iload C.x C.b dX11_costs_112 (lv_at hl 1 rfl) ?_
              refine lv_iload C.x C.b dX11_costs_114 (lv_at hl 0 rfl) ?_
              replace hf := x_b1 hf; obtain ⟨x116_16, hx116_16, hf⟩ := hf
              refine x_callS (As := [.int x83_9, .int (x93_14 - x98_15)]) (rest := []) C hW hl (qX11_greatestDivisor l E hx116_16) gs_X11_277 hd_X11_greatestDivisor rfl rfl (Nat.le_of_ble_eq_true rfl) dX11_costs_116 ⟨Nat.le_of_ble_eq_true rfl, Nat.le_of_ble_eq_true rfl⟩ ⟨Nat.le_of_ble_eq_true rfl, Nat.le_of_ble_eq_true rfl⟩ (fun H locs hW => ?_)
              refine lv_istore (lv' := [(7, .int _), (6, .int _), (5, .int _), (4, .ref (E.b + _)), (0, .ref (E.b + _)), (1, .int _), (2, .int _), (3, .int _)]) C.x C.b dX11_costs_119 hl (by decide) rfl (fun ls hl => ?_)
              refine lv_iload_n C.x C.b dX11_costs_121 rfl (lv_at hl 7 rfl) ?_
              refine lv_if_ne (tgt := 130) C.x C.b dX11_costs_122 rfl (fun c122 => ?_) (fun c122 => ?_)
              · replace hf := x_in c122 hf
                refine lv_iload C.x C.b dX11_costs_130 (lv_at hl 1 rfl) ?_
                refine lv_iload C.x C.b dX11_costs_132 (lv_at hl 0 rfl) ?_
                replace hf := x_b1 hf; obtain ⟨_, hz134_17, hf⟩ := hf
                refine lv_idiv C.x C.b dX11_costs_134 (x_nzI hz134_17) ?_
                refine lv_i2l (v := ((x93_14 - x98_15) / x116_16).toInt64) C.x C.b dX11_costs_135 rfl ?_
                rw [x_e0 hf]
                exact x_lret C hr hW dX11_costs_136
              · replace hf := x_ip c122 hf
                refine lv_iload C.x C.b dX11_costs_125 (lv_at hl 2 rfl) ?_
                refine lv_goto (tgt := 132) C.x C.b dX11_costs_127 rfl ?_
                refine lv_iload C.x C.b dX11_costs_132 (lv_at hl 0 rfl) ?_
                replace hf := x_b1 hf; obtain ⟨_, hz134_18, hf⟩ := hf
                refine lv_idiv C.x C.b dX11_costs_134 (x_nzI hz134_18) ?_
                refine lv_i2l (v := (x83_9 / x116_16).toInt64) C.x C.b dX11_costs_135 rfl ?_
                rw [x_e0 hf]
                exact x_lret C hr hW dX11_costs_136
          · replace hf := x_ip c56 hf
            refine lv_aload C.x C.b dX11_costs_59 (lv_at hl 0 rfl) ?_
            refine lv_aload_n C.x C.b dX11_costs_61 rfl (lv_at hl 1 rfl) ?_
            replace hf := x_b1 hf; obtain ⟨a62_19, ha62_19, hf⟩ := hf
            refine x_getn C hW fg_X11_10_14 ha62_19 dX11_costs_62 ?_
            replace hf := x_b1 hf; obtain ⟨a65_20, ha65_20, hf⟩ := hf
            refine x_getn C hW fg_X11_107_3 ha65_20 dX11_costs_65 ?_
            replace hf := x_b1 hf; obtain ⟨_, hk68_21, hf⟩ := hf
            replace hf := x_b1 hf; obtain ⟨x68_22, hx68_22, hf⟩ := hf
            refine x_callV (As := [.ref (E.b + a65_20)]) (a := a12_4) (rest := []) C hW hl (qX7_mendingCosts l E hx68_22) (x_gk hk68_21) (by decide) (by decide) rfl gv_X11_181 ⟨rfl, hd_X7_mendingCosts⟩ rfl rfl (Nat.le_of_ble_eq_true rfl) dX11_costs_68 ⟨Nat.le_of_ble_eq_true rfl, Nat.le_of_ble_eq_true rfl⟩ ⟨Nat.le_of_ble_eq_true rfl, Nat.le_of_ble_eq_true rfl⟩ (fun H locs hW => ?_)
            refine lv_goto (tgt := 84) C.x C.b dX11_costs_71 rfl ?_
            refine lv_istore (lv' := [(5, .int _), (4, .ref (E.b + _)), (0, .ref (E.b + _)), (1, .int _), (2, .int _), (3, .int _)]) C.x C.b dX11_costs_84 hl (by decide) rfl (fun ls hl => ?_)
            refine lv_iload_n C.x C.b dX11_costs_86 rfl (lv_at hl 4 rfl) ?_
            refine lv_iconst (v := 1) C.x C.b dX11_costs_87 (by decide) ?_
            refine lv_icmp_ne (tgt := 105) C.x C.b dX11_costs_88 rfl (fun c88 => ?_) (fun c88 => ?_)
            · replace hf := x_in c88 hf
              refine lv_aload C.x C.b dX11_costs_105 (lv_at hl 1 rfl) ?_
              replace hf := x_b1 hf; obtain ⟨x107_23, hx107_23, hf⟩ := hf
              refine x_geti C hW fg_X11_133_10 hx107_23 dX11_costs_107 ?_
              refine lv_istore (lv' := [(6, .int _), (5, .int _), (4, .ref (E.b + _)), (0, .ref (E.b + _)), (1, .int _), (2, .int _), (3, .int _)]) C.x C.b dX11_costs_110 hl (by decide) rfl (fun ls hl => ?_)
              refine lv_iload C.x C.b dX11_costs_112 (lv_at hl 1 rfl) ?_
              refine lv_iload C.x C.b dX11_costs_114 (lv_at hl 0 rfl) ?_
              replace hf := x_b1 hf; obtain ⟨x116_24, hx116_24, hf⟩ := hf
              refine x_callS (As := [.int x68_22, .int x107_23]) (rest := []) C hW hl (qX11_greatestDivisor l E hx116_24) gs_X11_277 hd_X11_greatestDivisor rfl rfl (Nat.le_of_ble_eq_true rfl) dX11_costs_116 ⟨Nat.le_of_ble_eq_true rfl, Nat.le_of_ble_eq_true rfl⟩ ⟨Nat.le_of_ble_eq_true rfl, Nat.le_of_ble_eq_true rfl⟩ (fun H locs hW => ?_)
              refine lv_istore (lv' := [(7, .int _), (6, .int _), (5, .int _), (4, .ref (E.b + _)), (0, .ref (E.b + _)), (1, .int _), (2, .int _), (3, .int _)]) C.x C.b dX11_costs_119 hl (by decide) rfl (fun ls hl => ?_)
              refine lv_iload_n C.x C.b dX11_costs_121 rfl (lv_at hl 7 rfl) ?_
              refine lv_if_ne (tgt := 130) C.x C.b dX11_costs_122 rfl (fun c122 => ?_) (fun c122 => ?_)
              · replace hf := x_in c122 hf
                refine lv_iload C.x C.b dX11_costs_130 (lv_at hl 1 rfl) ?_
                refine lv_iload C.x C.b dX11_costs_132 (lv_at hl 0 rfl) ?_
                replace hf := x_b1 hf; obtain ⟨_, hz134_25, hf⟩ := hf
                refine lv_idiv C.x C.b dX11_costs_134 (x_nzI hz134_25) ?_
                refine lv_i2l (v := (x107_23 / x116_24).toInt64) C.x C.b dX11_costs_135 rfl ?_
                rw [x_e0 hf]
                exact x_lret C hr hW dX11_costs_136
              · replace hf := x_ip c122 hf
                refine lv_iload C.x C.b dX11_costs_125 (lv_at hl 2 rfl) ?_
                refine lv_goto (tgt := 132) C.x C.b dX11_costs_127 rfl ?_
                refine lv_iload C.x C.b dX11_costs_132 (lv_at hl 0 rfl) ?_
                replace hf := x_b1 hf; obtain ⟨_, hz134_26, hf⟩ := hf
                refine lv_idiv C.x C.b dX11_costs_134 (x_nzI hz134_26) ?_
                refine lv_i2l (v := (x68_22 / x116_24).toInt64) C.x C.b dX11_costs_135 rfl ?_
                rw [x_e0 hf]
                exact x_lret C hr hW dX11_costs_136
            · replace hf := x_ip c88 hf
              refine lv_aload C.x C.b dX11_costs_91 (lv_at hl 1 rfl) ?_
              replace hf := x_b1 hf; obtain ⟨x93_27, hx93_27, hf⟩ := hf
              refine x_geti C hW fg_X11_133_10 hx93_27 dX11_costs_93 ?_
              refine lv_aload C.x C.b dX11_costs_96 (lv_at hl 1 rfl) ?_
              replace hf := x_b1 hf; obtain ⟨x98_28, hx98_28, hf⟩ := hf
              refine x_geti C hW fg_X11_136_10 hx98_28 dX11_costs_98 ?_
              refine lv_isub C.x C.b dX11_costs_101 ?_
              refine lv_goto (tgt := 110) C.x C.b dX11_costs_102 rfl ?_
              refine lv_istore (lv' := [(6, .int _), (5, .int _), (4, .ref (E.b + _)), (0, .ref (E.b + _)), (1, .int _), (2, .int _), (3, .int _)]) C.x C.b dX11_costs_110 hl (by decide) rfl (fun ls hl => ?_)
              refine lv_iload C.x C.b dX11_costs_112 (lv_at hl 1 rfl) ?_
              refine lv_iload C.x C.b dX11_costs_114 (lv_at hl 0 rfl) ?_
              replace hf := x_b1 hf; obtain ⟨x116_29, hx116_29, hf⟩ := hf
              refine x_callS (As := [.int x68_22, .int (x93_27 - x98_28)]) (rest := []) C hW hl (qX11_greatestDivisor l E hx116_29) gs_X11_277 hd_X11_greatestDivisor rfl rfl (Nat.le_of_ble_eq_true rfl) dX11_costs_116 ⟨Nat.le_of_ble_eq_true rfl, Nat.le_of_ble_eq_true rfl⟩ ⟨Nat.le_of_ble_eq_true rfl, Nat.le_of_ble_eq_true rfl⟩ (fun H locs hW => ?_)
              refine lv_istore (lv' := [(7, .int _), (6, .int _), (5, .int _), (4, .ref (E.b + _)), (0, .ref (E.b + _)), (1, .int _), (2, .int _), (3, .int _)]) C.x C.b dX11_costs_119 hl (by decide) rfl (fun ls hl => ?_)
              refine lv_iload_n C.x C.b dX11_costs_121 rfl (lv_at hl 7 rfl) ?_
              refine lv_if_ne (tgt := 130) C.x C.b dX11_costs_122 rfl (fun c122 => ?_) (fun c122 => ?_)
              · replace hf := x_in c122 hf
                refine lv_iload C.x C.b dX11_costs_130 (lv_at hl 1 rfl) ?_
                refine lv_iload C.x C.b dX11_costs_132 (lv_at hl 0 rfl) ?_
                replace hf := x_b1 hf; obtain ⟨_, hz134_30, hf⟩ := hf
                refine lv_idiv C.x C.b dX11_costs_134 (x_nzI hz134_30) ?_
                refine lv_i2l (v := ((x93_27 - x98_28) / x116_29).toInt64) C.x C.b dX11_costs_135 rfl ?_
                rw [x_e0 hf]
                exact x_lret C hr hW dX11_costs_136
              · replace hf := x_ip c122 hf
                refine lv_iload C.x C.b dX11_costs_125 (lv_at hl 2 rfl) ?_
                refine lv_goto (tgt := 132) C.x C.b dX11_costs_127 rfl ?_
                refine lv_iload C.x C.b dX11_costs_132 (lv_at hl 0 rfl) ?_
                replace hf := x_b1 hf; obtain ⟨_, hz134_31, hf⟩ := hf
                refine lv_idiv C.x C.b dX11_costs_134 (x_nzI hz134_31) ?_
                refine lv_i2l (v := (x68_22 / x116_29).toInt64) C.x C.b dX11_costs_135 rfl ?_
                rw [x_e0 hf]
                exact x_lret C hr hW dX11_costs_136
        · replace hf := x_ip c39 hf
          refine lv_aload C.x C.b dX11_costs_42 (lv_at hl 0 rfl) ?_
          replace hf := x_b1 hf; obtain ⟨_, hk44_32, hf⟩ := hf
          replace hf := x_b1 hf; obtain ⟨x44_33, hx44_33, hf⟩ := hf
          refine x_callV (As := []) (a := a12_4) (rest := []) C hW hl (qX7_isLasting l E hx44_33) (x_gk hk44_32) (by decide) (by decide) rfl gv_X11_272 ⟨rfl, hd_X7_isLasting⟩ rfl rfl (Nat.le_of_ble_eq_true rfl) dX11_costs_44 ⟨Nat.le_of_ble_eq_true rfl, Nat.le_of_ble_eq_true rfl⟩ ⟨Nat.le_of_ble_eq_true rfl, Nat.le_of_ble_eq_true rfl⟩ (fun H locs hW => ?_)
          refine lv_if_ne (tgt := 54) C.x C.b dX11_costs_47 rfl (fun c47 => ?_) (fun c47 => ?_)
          · replace hf := x_in c47 hf
            refine lv_iload_n C.x C.b dX11_costs_54 rfl (lv_at hl 3 rfl) ?_
            refine lv_iconst (v := 1) C.x C.b dX11_costs_55 (by decide) ?_
            refine lv_icmp_ne (tgt := 74) C.x C.b dX11_costs_56 rfl (fun c56 => ?_) (fun c56 => ?_)
            · replace hf := x_in c56 hf
              refine lv_aload_n C.x C.b dX11_costs_74 rfl (lv_at hl 1 rfl) ?_
              replace hf := x_b1 hf; obtain ⟨a75_34, ha75_34, hf⟩ := hf
              refine x_getn C hW fg_X11_10_14 ha75_34 dX11_costs_75 ?_
              replace hf := x_b1 hf; obtain ⟨a78_35, ha78_35, hf⟩ := hf
              refine x_getn C hW fg_X11_107_3 ha78_35 dX11_costs_78 ?_
              refine lv_bipush (v := 6) C.x C.b dX11_costs_81 (by decide) ?_
              replace hf := x_b1 hf; obtain ⟨x83_36, hx83_36, hf⟩ := hf
              refine x_iald C hW hx83_36 dX11_costs_83 ?_
              refine lv_istore (lv' := [(5, .int _), (4, .ref (E.b + _)), (0, .ref (E.b + _)), (1, .int _), (2, .int _), (3, .int _)]) C.x C.b dX11_costs_84 hl (by decide) rfl (fun ls hl => ?_)
              refine lv_iload_n C.x C.b dX11_costs_86 rfl (lv_at hl 4 rfl) ?_
              refine lv_iconst (v := 1) C.x C.b dX11_costs_87 (by decide) ?_
              refine lv_icmp_ne (tgt := 105) C.x C.b dX11_costs_88 rfl (fun c88 => ?_) (fun c88 => ?_)
              · replace hf := x_in c88 hf
                refine lv_aload C.x C.b dX11_costs_105 (lv_at hl 1 rfl) ?_
                replace hf := x_b1 hf; obtain ⟨x107_37, hx107_37, hf⟩ := hf
                refine x_geti C hW fg_X11_133_10 hx107_37 dX11_costs_107 ?_
                refine lv_istore (lv' := [(6, .int _), (5, .int _), (4, .ref (E.b + _)), (0, .ref (E.b + _)), (1, .int _), (2, .int _), (3, .int _)]) C.x C.b dX11_costs_110 hl (by decide) rfl (fun ls hl => ?_)
                refine lv_iload C.x C.b dX11_costs_112 (lv_at hl 1 rfl) ?_
                refine lv_iload C.x C.b dX11_costs_114 (lv_at hl 0 rfl) ?_
                replace hf := x_b1 hf; obtain ⟨x116_38, hx116_38, hf⟩ := hf
                refine x_callS (As := [.int x83_36, .int x107_37]) (rest := []) C hW hl (qX11_greatestDivisor l E hx116_38) gs_X11_277 hd_X11_greatestDivisor rfl rfl (Nat.le_of_ble_eq_true rfl) dX11_costs_116 ⟨Nat.le_of_ble_eq_true rfl, Nat.le_of_ble_eq_true rfl⟩ ⟨Nat.le_of_ble_eq_true rfl, Nat.le_of_ble_eq_true rfl⟩ (fun H locs hW => ?_)
                refine lv_istore (lv' := [(7, .int _), (6, .int _), (5, .int _), (4, .ref (E.b + _)), (0, .ref (E.b + _)), (1, .int _), (2, .int _), (3, .int _)]) C.x C.b dX11_costs_119 hl (by decide) rfl (fun ls hl => ?_)
                refine lv_iload_n C.x C.b dX11_costs_121 rfl (lv_at hl 7 rfl) ?_
                refine lv_if_ne (tgt := 130) C.x C.b dX11_costs_122 rfl (fun c122 => ?_) (fun c122 => ?_)
                · replace hf := x_in c122 hf
                  refine lv_iload C.x C.b dX11_costs_130 (lv_at hl 1 rfl) ?_
                  refine lv_iload C.x C.b dX11_costs_132 (lv_at hl 0 rfl) ?_
                  replace hf := x_b1 hf; obtain ⟨_, hz134_39, hf⟩ := hf
                  refine lv_idiv C.x C.b dX11_costs_134 (x_nzI hz134_39) ?_
                  refine lv_i2l (v := (x107_37 / x116_38).toInt64) C.x C.b dX11_costs_135 rfl ?_
                  rw [x_e0 hf]
                  exact x_lret C hr hW dX11_costs_136
                · replace hf := x_ip c122 hf
                  refine lv_iload C.x C.b dX11_costs_125 (lv_at hl 2 rfl) ?_
                  refine lv_goto (tgt := 132) C.x C.b dX11_costs_127 rfl ?_
                  refine lv_iload C.x C.b dX11_costs_132 (lv_at hl 0 rfl) ?_
                  replace hf := x_b1 hf; obtain ⟨_, hz134_40, hf⟩ := hf
                  refine lv_idiv C.x C.b dX11_costs_134 (x_nzI hz134_40) ?_
                  refine lv_i2l (v := (x83_36 / x116_38).toInt64) C.x C.b dX11_costs_135 rfl ?_
                  rw [x_e0 hf]
                  exact x_lret C hr hW dX11_costs_136
              · replace hf := x_ip c88 hf
                refine lv_aload C.x C.b dX11_costs_91 (lv_at hl 1 rfl) ?_
                replace hf := x_b1 hf; obtain ⟨x93_41, hx93_41, hf⟩ := hf
                refine x_geti C hW fg_X11_133_10 hx93_41 dX11_costs_93 ?_
                refine lv_aload C.x C.b dX11_costs_96 (lv_at hl 1 rfl) ?_
                replace hf := x_b1 hf; obtain ⟨x98_42, hx98_42, hf⟩ := hf
                refine x_geti C hW fg_X11_136_10 hx98_42 dX11_costs_98 ?_
                refine lv_isub C.x C.b dX11_costs_101 ?_
                refine lv_goto (tgt := 110) C.x C.b dX11_costs_102 rfl ?_
                refine lv_istore (lv' := [(6, .int _), (5, .int _), (4, .ref (E.b + _)), (0, .ref (E.b + _)), (1, .int _), (2, .int _), (3, .int _)]) C.x C.b dX11_costs_110 hl (by decide) rfl (fun ls hl => ?_)
                refine lv_iload C.x C.b dX11_costs_112 (lv_at hl 1 rfl) ?_
                refine lv_iload C.x C.b dX11_costs_114 (lv_at hl 0 rfl) ?_
                replace hf := x_b1 hf; obtain ⟨x116_43, hx116_43, hf⟩ := hf
                refine x_callS (As := [.int x83_36, .int (x93_41 - x98_42)]) (rest := []) C hW hl (qX11_greatestDivisor l E hx116_43) gs_X11_277 hd_X11_greatestDivisor rfl rfl (Nat.le_of_ble_eq_true rfl) dX11_costs_116 ⟨Nat.le_of_ble_eq_true rfl, Nat.le_of_ble_eq_true rfl⟩ ⟨Nat.le_of_ble_eq_true rfl, Nat.le_of_ble_eq_true rfl⟩ (fun H locs hW => ?_)
                refine lv_istore (lv' := [(7, .int _), (6, .int _), (5, .int _), (4, .ref (E.b + _)), (0, .ref (E.b + _)), (1, .int _), (2, .int _), (3, .int _)]) C.x C.b dX11_costs_119 hl (by decide) rfl (fun ls hl => ?_)
                refine lv_iload_n C.x C.b dX11_costs_121 rfl (lv_at hl 7 rfl) ?_
                refine lv_if_ne (tgt := 130) C.x C.b dX11_costs_122 rfl (fun c122 => ?_) (fun c122 => ?_)
                · replace hf := x_in c122 hf
                  refine lv_iload C.x C.b dX11_costs_130 (lv_at hl 1 rfl) ?_
                  refine lv_iload C.x C.b dX11_costs_132 (lv_at hl 0 rfl) ?_
                  replace hf := x_b1 hf; obtain ⟨_, hz134_44, hf⟩ := hf
                  refine lv_idiv C.x C.b dX11_costs_134 (x_nzI hz134_44) ?_
                  refine lv_i2l (v := ((x93_41 - x98_42) / x116_43).toInt64) C.x C.b dX11_costs_135 rfl ?_
                  rw [x_e0 hf]
                  exact x_lret C hr hW dX11_costs_136
                · replace hf := x_ip c122 hf
                  refine lv_iload C.x C.b dX11_costs_125 (lv_at hl 2 rfl) ?_
                  refine lv_goto (tgt := 132) C.x C.b dX11_costs_127 rfl ?_
                  refine lv_iload C.x C.b dX11_costs_132 (lv_at hl 0 rfl) ?_
                  replace hf := x_b1 hf; obtain ⟨_, hz134_45, hf⟩ := hf
                  refine lv_idiv C.x C.b dX11_costs_134 (x_nzI hz134_45) ?_
                  refine lv_i2l (v := (x83_36 / x116_43).toInt64) C.x C.b dX11_costs_135 rfl ?_
                  rw [x_e0 hf]
                  exact x_lret C hr hW dX11_costs_136
            · replace hf := x_ip c56 hf
              refine lv_aload C.x C.b dX11_costs_59 (lv_at hl 0 rfl) ?_
              refine lv_aload_n C.x C.b dX11_costs_61 rfl (lv_at hl 1 rfl) ?_
              replace hf := x_b1 hf; obtain ⟨a62_46, ha62_46, hf⟩ := hf
              refine x_getn C hW fg_X11_10_14 ha62_46 dX11_costs_62 ?_
              replace hf := x_b1 hf; obtain ⟨a65_47, ha65_47, hf⟩ := hf
              refine x_getn C hW fg_X11_107_3 ha65_47 dX11_costs_65 ?_
              replace hf := x_b1 hf; obtain ⟨_, hk68_48, hf⟩ := hf
              replace hf := x_b1 hf; obtain ⟨x68_49, hx68_49, hf⟩ := hf
              refine x_callV (As := [.ref (E.b + a65_47)]) (a := a12_4) (rest := []) C hW hl (qX7_mendingCosts l E hx68_49) (x_gk hk68_48) (by decide) (by decide) rfl gv_X11_181 ⟨rfl, hd_X7_mendingCosts⟩ rfl rfl (Nat.le_of_ble_eq_true rfl) dX11_costs_68 ⟨Nat.le_of_ble_eq_true rfl, Nat.le_of_ble_eq_true rfl⟩ ⟨Nat.le_of_ble_eq_true rfl, Nat.le_of_ble_eq_true rfl⟩ (fun H locs hW => ?_)
              refine lv_goto (tgt := 84) C.x C.b dX11_costs_71 rfl ?_
              refine lv_istore (lv' := [(5, .int _), (4, .ref (E.b + _)), (0, .ref (E.b + _)), (1, .int _), (2, .int _), (3, .int _)]) C.x C.b dX11_costs_84 hl (by decide) rfl (fun ls hl => ?_)
              refine lv_iload_n C.x C.b dX11_costs_86 rfl (lv_at hl 4 rfl) ?_
              refine lv_iconst (v := 1) C.x C.b dX11_costs_87 (by decide) ?_
              refine lv_icmp_ne (tgt := 105) C.x C.b dX11_costs_88 rfl (fun c88 => ?_) (fun c88 => ?_)
              · replace hf := x_in c88 hf
                refine lv_aload C.x C.b dX11_costs_105 (lv_at hl 1 rfl) ?_
                replace hf := x_b1 hf; obtain ⟨x107_50, hx107_50, hf⟩ := hf
                refine x_geti C hW fg_X11_133_10 hx107_50 dX11_costs_107 ?_
                refine lv_istore (lv' := [(6, .int _), (5, .int _), (4, .ref (E.b + _)), (0, .ref (E.b + _)), (1, .int _), (2, .int _), (3, .int _)]) C.x C.b dX11_costs_110 hl (by decide) rfl (fun ls hl => ?_)
                refine lv_iload C.x C.b dX11_costs_112 (lv_at hl 1 rfl) ?_
                refine lv_iload C.x C.b dX11_costs_114 (lv_at hl 0 rfl) ?_
                replace hf := x_b1 hf; obtain ⟨x116_51, hx116_51, hf⟩ := hf
                refine x_callS (As := [.int x68_49, .int x107_50]) (rest := []) C hW hl (qX11_greatestDivisor l E hx116_51) gs_X11_277 hd_X11_greatestDivisor rfl rfl (Nat.le_of_ble_eq_true rfl) dX11_costs_116 ⟨Nat.le_of_ble_eq_true rfl, Nat.le_of_ble_eq_true rfl⟩ ⟨Nat.le_of_ble_eq_true rfl, Nat.le_of_ble_eq_true rfl⟩ (fun H locs hW => ?_)
                refine lv_istore (lv' := [(7, .int _), (6, .int _), (5, .int _), (4, .ref (E.b + _)), (0, .ref (E.b + _)), (1, .int _), (2, .int _), (3, .int _)]) C.x C.b dX11_costs_119 hl (by decide) rfl (fun ls hl => ?_)
                refine lv_iload_n C.x C.b dX11_costs_121 rfl (lv_at hl 7 rfl) ?_
                refine lv_if_ne (tgt := 130) C.x C.b dX11_costs_122 rfl (fun c122 => ?_) (fun c122 => ?_)
                · replace hf := x_in c122 hf
                  refine lv_iload C.x C.b dX11_costs_130 (lv_at hl 1 rfl) ?_
                  refine lv_iload C.x C.b dX11_costs_132 (lv_at hl 0 rfl) ?_
                  replace hf := x_b1 hf; obtain ⟨_, hz134_52, hf⟩ := hf
                  refine lv_idiv C.x C.b dX11_costs_134 (x_nzI hz134_52) ?_
                  refine lv_i2l (v := (x107_50 / x116_51).toInt64) C.x C.b dX11_costs_135 rfl ?_
                  rw [x_e0 hf]
                  exact x_lret C hr hW dX11_costs_136
                · replace hf := x_ip c122 hf
                  refine lv_iload C.x C.b dX11_costs_125 (lv_at hl 2 rfl) ?_
                  refine lv_goto (tgt := 132) C.x C.b dX11_costs_127 rfl ?_
                  refine lv_iload C.x C.b dX11_costs_132 (lv_at hl 0 rfl) ?_
                  replace hf := x_b1 hf; obtain ⟨_, hz134_53, hf⟩ := hf
                  refine lv_idiv C.x C.b dX11_costs_134 (x_nzI hz134_53) ?_
                  refine lv_i2l (v := (x68_49 / x116_51).toInt64) C.x C.b dX11_costs_135 rfl ?_
                  rw [x_e0 hf]
                  exact x_lret C hr hW dX11_costs_136
              · replace hf := x_ip c88 hf
                refine lv_aload C.x C.b dX11_costs_91 (lv_at hl 1 rfl) ?_
                replace hf := x_b1 hf; obtain ⟨x93_54, hx93_54, hf⟩ := hf
                refine x_geti C hW fg_X11_133_10 hx93_54 dX11_costs_93 ?_
                refine lv_aload C.x C.b dX11_costs_96 (lv_at hl 1 rfl) ?_
                replace hf := x_b1 hf; obtain ⟨x98_55, hx98_55, hf⟩ := hf
                refine x_geti C hW fg_X11_136_10 hx98_55 dX11_costs_98 ?_
                refine lv_isub C.x C.b dX11_costs_101 ?_
                refine lv_goto (tgt := 110) C.x C.b dX11_costs_102 rfl ?_
                refine lv_istore (lv' := [(6, .int _), (5, .int _), (4, .ref (E.b + _)), (0, .ref (E.b + _)), (1, .int _), (2, .int _), (3, .int _)]) C.x C.b dX11_costs_110 hl (by decide) rfl (fun ls hl => ?_)
                refine lv_iload C.x C.b dX11_costs_112 (lv_at hl 1 rfl) ?_
                refine lv_iload C.x C.b dX11_costs_114 (lv_at hl 0 rfl) ?_
                replace hf := x_b1 hf; obtain ⟨x116_56, hx116_56, hf⟩ := hf
                refine x_callS (As := [.int x68_49, .int (x93_54 - x98_55)]) (rest := []) C hW hl (qX11_greatestDivisor l E hx116_56) gs_X11_277 hd_X11_greatestDivisor rfl rfl (Nat.le_of_ble_eq_true rfl) dX11_costs_116 ⟨Nat.le_of_ble_eq_true rfl, Nat.le_of_ble_eq_true rfl⟩ ⟨Nat.le_of_ble_eq_true rfl, Nat.le_of_ble_eq_true rfl⟩ (fun H locs hW => ?_)
                refine lv_istore (lv' := [(7, .int _), (6, .int _), (5, .int _), (4, .ref (E.b + _)), (0, .ref (E.b + _)), (1, .int _), (2, .int _), (3, .int _)]) C.x C.b dX11_costs_119 hl (by decide) rfl (fun ls hl => ?_)
                refine lv_iload_n C.x C.b dX11_costs_121 rfl (lv_at hl 7 rfl) ?_
                refine lv_if_ne (tgt := 130) C.x C.b dX11_costs_122 rfl (fun c122 => ?_) (fun c122 => ?_)
                · replace hf := x_in c122 hf
                  refine lv_iload C.x C.b dX11_costs_130 (lv_at hl 1 rfl) ?_
                  refine lv_iload C.x C.b dX11_costs_132 (lv_at hl 0 rfl) ?_
                  replace hf := x_b1 hf; obtain ⟨_, hz134_57, hf⟩ := hf
                  refine lv_idiv C.x C.b dX11_costs_134 (x_nzI hz134_57) ?_
                  refine lv_i2l (v := ((x93_54 - x98_55) / x116_56).toInt64) C.x C.b dX11_costs_135 rfl ?_
                  rw [x_e0 hf]
                  exact x_lret C hr hW dX11_costs_136
                · replace hf := x_ip c122 hf
                  refine lv_iload C.x C.b dX11_costs_125 (lv_at hl 2 rfl) ?_
                  refine lv_goto (tgt := 132) C.x C.b dX11_costs_127 rfl ?_
                  refine lv_iload C.x C.b dX11_costs_132 (lv_at hl 0 rfl) ?_
                  replace hf := x_b1 hf; obtain ⟨_, hz134_58, hf⟩ := hf
                  refine lv_idiv C.x C.b dX11_costs_134 (x_nzI hz134_58) ?_
                  refine lv_i2l (v := (x68_49 / x116_56).toInt64) C.x C.b dX11_costs_135 rfl ?_
                  rw [x_e0 hf]
                  exact x_lret C hr hW dX11_costs_136
          · replace hf := x_ip c47 hf
            refine x_ldc2 (v := (-3)) C T_4_58 dX11_costs_50 ?_
            rw [x_e0 hf]
            exact x_lret C hr hW dX11_costs_53
      · replace hf := x_ip c30 hf
        refine x_ldc2 (v := (-1)) C T_4_56 dX11_costs_33 ?_
        rw [x_e0 hf]
        exact x_lret C hr hW dX11_costs_36

theorem dX11_worth_0 : decode cX11_worth 0 = .ok (.aload_n 0, 1) := by decide +kernel
theorem dX11_worth_1 : decode cX11_worth 1 = .ok (.getfield 10, 3) := by decide +kernel
theorem dX11_worth_4 : decode cX11_worth 4 = .ok (.iload_n 1, 1) := by decide +kernel
theorem dX11_worth_5 : decode cX11_worth 5 = .ok (.invokevirtual 120, 3) := by decide +kernel
theorem dX11_worth_8 : decode cX11_worth 8 = .ok (.astore_n 2, 1) := by decide +kernel
theorem dX11_worth_9 : decode cX11_worth 9 = .ok (.aload_n 2, 1) := by decide +kernel
theorem dX11_worth_10 : decode cX11_worth 10 = .ok (.ifnonnull 5, 3) := by decide +kernel
theorem dX11_worth_13 : decode cX11_worth 13 = .ok (.iconst (-1), 1) := by decide +kernel
theorem dX11_worth_14 : decode cX11_worth 14 = .ok (.ireturn, 1) := by decide +kernel
theorem dX11_worth_15 : decode cX11_worth 15 = .ok (.aload_n 2, 1) := by decide +kernel
theorem dX11_worth_16 : decode cX11_worth 16 = .ok (.invokevirtual 272, 3) := by decide +kernel
theorem dX11_worth_19 : decode cX11_worth 19 = .ok (.ifCond .ne 6, 3) := by decide +kernel
theorem dX11_worth_22 : decode cX11_worth 22 = .ok (.bipush (-3), 2) := by decide +kernel
theorem dX11_worth_24 : decode cX11_worth 24 = .ok (.ireturn, 1) := by decide +kernel
theorem dX11_worth_25 : decode cX11_worth 25 = .ok (.aload_n 2, 1) := by decide +kernel
theorem dX11_worth_26 : decode cX11_worth 26 = .ok (.aload_n 0, 1) := by decide +kernel
theorem dX11_worth_27 : decode cX11_worth 27 = .ok (.getfield 10, 3) := by decide +kernel
theorem dX11_worth_30 : decode cX11_worth 30 = .ok (.getfield 107, 3) := by decide +kernel
theorem dX11_worth_33 : decode cX11_worth 33 = .ok (.invokevirtual 181, 3) := by decide +kernel
theorem dX11_worth_36 : decode cX11_worth 36 = .ok (.aload_n 2, 1) := by decide +kernel
theorem dX11_worth_37 : decode cX11_worth 37 = .ok (.getfield 133, 3) := by decide +kernel
theorem dX11_worth_40 : decode cX11_worth 40 = .ok (.imul, 1) := by decide +kernel
theorem dX11_worth_41 : decode cX11_worth 41 = .ok (.istore_n 3, 1) := by decide +kernel
theorem dX11_worth_42 : decode cX11_worth 42 = .ok (.iload_n 3, 1) := by decide +kernel
theorem dX11_worth_43 : decode cX11_worth 43 = .ok (.aload_n 0, 1) := by decide +kernel
theorem dX11_worth_44 : decode cX11_worth 44 = .ok (.getfield 10, 3) := by decide +kernel
theorem dX11_worth_47 : decode cX11_worth 47 = .ok (.getfield 107, 3) := by decide +kernel
theorem dX11_worth_50 : decode cX11_worth 50 = .ok (.bipush 6, 2) := by decide +kernel
theorem dX11_worth_52 : decode cX11_worth 52 = .ok (.iaload, 1) := by decide +kernel
theorem dX11_worth_53 : decode cX11_worth 53 = .ok (.aload_n 2, 1) := by decide +kernel
theorem dX11_worth_54 : decode cX11_worth 54 = .ok (.getfield 133, 3) := by decide +kernel
theorem dX11_worth_57 : decode cX11_worth 57 = .ok (.aload_n 2, 1) := by decide +kernel
theorem dX11_worth_58 : decode cX11_worth 58 = .ok (.getfield 136, 3) := by decide +kernel
theorem dX11_worth_61 : decode cX11_worth 61 = .ok (.isub, 1) := by decide +kernel
theorem dX11_worth_62 : decode cX11_worth 62 = .ok (.imul, 1) := by decide +kernel
theorem dX11_worth_63 : decode cX11_worth 63 = .ok (.if_icmp .ge 7, 3) := by decide +kernel
theorem dX11_worth_66 : decode cX11_worth 66 = .ok (.iconst 1, 1) := by decide +kernel
theorem dX11_worth_67 : decode cX11_worth 67 = .ok (.goto 4, 3) := by decide +kernel
theorem dX11_worth_70 : decode cX11_worth 70 = .ok (.iconst 0, 1) := by decide +kernel
theorem dX11_worth_71 : decode cX11_worth 71 = .ok (.ireturn, 1) := by decide +kernel
def fX11_worth (M : Mm) (o : Nat) (p1 : Int32) : Option Int32 :=
  B1 (rdN M o 14 0) fun a1_1 =>
  B1 (gk M a1_1 3) fun _ =>
  B1 (fX0_stockingAt M a1_1 p1) fun x5_3 =>
  NL x5_3 (
    some (-1)) (fun a10_4 =>
    B1 (gk M a10_4 10) fun _ =>
    B1 (fX7_isLasting M a10_4) fun x16_6 =>
    if x16_6 = 0 then
      some (-3)
    else
      B1 (rdN M o 14 0) fun a27_7 =>
      B1 (rdN M a27_7 3 0) fun a30_8 =>
      B1 (gk M a10_4 10) fun _ =>
      B1 (fX7_mendingCosts M a10_4 a30_8) fun x33_10 =>
      B1 (rdI M a10_4 10 3) fun x37_11 =>
      B1 (rdN M o 14 0) fun a44_12 =>
      B1 (rdN M a44_12 3 0) fun a47_13 =>
      B1 (alI M a47_13 6) fun x52_14 =>
      B1 (rdI M a10_4 10 3) fun x54_15 =>
      B1 (rdI M a10_4 10 4) fun x58_16 =>
      if (x52_14 * (x54_15 - x58_16)) ≤ (x33_10 * x37_11) then
        some 0
      else
        some 1)
set_option maxRecDepth 100000 in
set_option maxHeartbeats 4000000 in
theorem qX11_worth (l : Launch) (E : Ev) {M : Mm} {o : Nat} {p1 : Int32} {rz : Int32} (hf : fX11_worth M o p1 = some rz) : Ct l E yX11_worth cX11_worth 4 (some .int) 3 61 0 0 [.ref (E.b + o), .int p1] M (some (.int rz)) M := by
  refine ct_of (by decide +kernel) (Nat.le_of_ble_eq_true rfl) fun p e s m args below meth c C hr hin hW ls hl => ?_
  have hl : lv_has ls 4 [(0, .ref (E.b + o)), (1, .int p1)] := hl
  unfold fX11_worth at hf
  refine lv_aload_n C.x C.b dX11_worth_0 rfl (lv_at hl 0 rfl) ?_
  replace hf := x_b1 hf; obtain ⟨a1_1, ha1_1, hf⟩ := hf
  refine x_getn C hW fg_X11_10_14 ha1_1 dX11_worth_1 ?_
  refine lv_iload_n C.x C.b dX11_worth_4 rfl (lv_at hl 1 rfl) ?_
  replace hf := x_b1 hf; obtain ⟨_, hk5_2, hf⟩ := hf
  replace hf := x_b1 hf; obtain ⟨x5_3, hx5_3, hf⟩ := hf
  refine x_callV (As := [.int p1]) (a := a1_1) (rest := []) C hW hl (qX0_stockingAt l E hx5_3) (x_gk hk5_2) (by decide) (by decide) rfl gv_X11_120 ⟨rfl, hd_X0_stockingAt⟩ rfl rfl (Nat.le_of_ble_eq_true rfl) dX11_worth_5 ⟨Nat.le_of_ble_eq_true rfl, Nat.le_of_ble_eq_true rfl⟩ ⟨Nat.le_of_ble_eq_true rfl, Nat.le_of_ble_eq_true rfl⟩ (fun H locs hW => ?_)
  refine x_astore_n (lv' := [(2, rv E.b _), (0, .ref (E.b + _)), (1, .int _)]) C dX11_worth_8 rfl hl (by decide) rfl (fun ls hl => ?_)
  refine x_aload_n C dX11_worth_9 rfl (lv_at hl 0 rfl) ?_
  replace hf := x_nl hf; rcases hf with ⟨rfl, hf⟩ | ⟨a10_4, rfl, hf⟩
  · refine lv_ifnonnullN C.x C.b dX11_worth_10 ?_
    refine lv_iconst (v := (-1)) C.x C.b dX11_worth_13 (by decide) ?_
    rw [x_e0 hf]
    exact x_iret C hr hW dX11_worth_14
  · refine lv_ifnonnull (tgt := 15) C.x C.b dX11_worth_10 rfl ?_
    refine lv_aload_n C.x C.b dX11_worth_15 rfl (lv_at hl 0 rfl) ?_
    replace hf := x_b1 hf; obtain ⟨_, hk16_5, hf⟩ := hf
    replace hf := x_b1 hf; obtain ⟨x16_6, hx16_6, hf⟩ := hf
    refine x_callV (As := []) (a := a10_4) (rest := []) C hW hl (qX7_isLasting l E hx16_6) (x_gk hk16_5) (by decide) (by decide) rfl gv_X11_272 ⟨rfl, hd_X7_isLasting⟩ rfl rfl (Nat.le_of_ble_eq_true rfl) dX11_worth_16 ⟨Nat.le_of_ble_eq_true rfl, Nat.le_of_ble_eq_true rfl⟩ ⟨Nat.le_of_ble_eq_true rfl, Nat.le_of_ble_eq_true rfl⟩ (fun H locs hW => ?_)
    refine lv_if_ne (tgt := 25) C.x C.b dX11_worth_19 rfl (fun c19 => ?_) (fun c19 => ?_)
    · replace hf := x_in c19 hf
      refine lv_aload_n C.x C.b dX11_worth_25 rfl (lv_at hl 0 rfl) ?_
      refine lv_aload_n C.x C.b dX11_worth_26 rfl (lv_at hl 1 rfl) ?_
      replace hf := x_b1 hf; obtain ⟨a27_7, ha27_7, hf⟩ := hf
      refine x_getn C hW fg_X11_10_14 ha27_7 dX11_worth_27 ?_
      replace hf := x_b1 hf; obtain ⟨a30_8, ha30_8, hf⟩ := hf
      refine x_getn C hW fg_X11_107_3 ha30_8 dX11_worth_30 ?_
      replace hf := x_b1 hf; obtain ⟨_, hk33_9, hf⟩ := hf
      replace hf := x_b1 hf; obtain ⟨x33_10, hx33_10, hf⟩ := hf
      refine x_callV (As := [.ref (E.b + a30_8)]) (a := a10_4) (rest := []) C hW hl (qX7_mendingCosts l E hx33_10) (x_gk hk33_9) (by decide) (by decide) rfl gv_X11_181 ⟨rfl, hd_X7_mendingCosts⟩ rfl rfl (Nat.le_of_ble_eq_true rfl) dX11_worth_33 ⟨Nat.le_of_ble_eq_true rfl, Nat.le_of_ble_eq_true rfl⟩ ⟨Nat.le_of_ble_eq_true rfl, Nat.le_of_ble_eq_true rfl⟩ (fun H locs hW => ?_)
      refine lv_aload_n C.x C.b dX11_worth_36 rfl (lv_at hl 0 rfl) ?_
      replace hf := x_b1 hf; obtain ⟨x37_11, hx37_11, hf⟩ := hf
      refine x_geti C hW fg_X11_133_10 hx37_11 dX11_worth_37 ?_
      refine lv_imul C.x C.b dX11_worth_40 ?_
      refine lv_istore_n (lv' := [(3, .int _), (2, .ref (E.b + _)), (0, .ref (E.b + _)), (1, .int _)]) C.x C.b dX11_worth_41 rfl hl (by decide) rfl (fun ls hl => ?_)
      refine lv_iload_n C.x C.b dX11_worth_42 rfl (lv_at hl 0 rfl) ?_
      refine lv_aload_n C.x C.b dX11_worth_43 rfl (lv_at hl 2 rfl) ?_
      replace hf := x_b1 hf; obtain ⟨a44_12, ha44_12, hf⟩ := hf
      refine x_getn C hW fg_X11_10_14 ha44_12 dX11_worth_44 ?_
      replace hf := x_b1 hf; obtain ⟨a47_13, ha47_13, hf⟩ := hf
      refine x_getn C hW fg_X11_107_3 ha47_13 dX11_worth_47 ?_
      refine lv_bipush (v := 6) C.x C.b dX11_worth_50 (by decide) ?_
      replace hf := x_b1 hf; obtain ⟨x52_14, hx52_14, hf⟩ := hf
      refine x_iald C hW hx52_14 dX11_worth_52 ?_
      refine lv_aload_n C.x C.b dX11_worth_53 rfl (lv_at hl 1 rfl) ?_
      replace hf := x_b1 hf; obtain ⟨x54_15, hx54_15, hf⟩ := hf
      refine x_geti C hW fg_X11_133_10 hx54_15 dX11_worth_54 ?_
      refine lv_aload_n C.x C.b dX11_worth_57 rfl (lv_at hl 1 rfl) ?_
      replace hf := x_b1 hf; obtain ⟨x58_16, hx58_16, hf⟩ := hf
      refine x_geti C hW fg_X11_136_10 hx58_16 dX11_worth_58 ?_
      refine lv_isub C.x C.b dX11_worth_61 ?_
      refine lv_imul C.x C.b dX11_worth_62 ?_
      refine lv_icmp_ge (tgt := 70) C.x C.b dX11_worth_63 rfl (fun c63 => ?_) (fun c63 => ?_)
      · replace hf := x_ip c63 hf
        refine lv_iconst (v := 0) C.x C.b dX11_worth_70 (by decide) ?_
        rw [x_e0 hf]
        exact x_iret C hr hW dX11_worth_71
      · replace hf := x_in c63 hf
        refine lv_iconst (v := 1) C.x C.b dX11_worth_66 (by decide) ?_
        refine lv_goto (tgt := 71) C.x C.b dX11_worth_67 rfl ?_
        rw [x_e0 hf]
        exact x_iret C hr hW dX11_worth_71
    · replace hf := x_ip c19 hf
      refine lv_bipush (v := (-3)) C.x C.b dX11_worth_22 (by decide) ?_
      rw [x_e0 hf]
      exact x_iret C hr hW dX11_worth_24

theorem dX11_hasBegun_0 : decode cX11_hasBegun 0 = .ok (.aload_n 0, 1) := by decide +kernel
theorem dX11_hasBegun_1 : decode cX11_hasBegun 1 = .ok (.getfield 29, 3) := by decide +kernel
theorem dX11_hasBegun_4 : decode cX11_hasBegun 4 = .ok (.aload_n 1, 1) := by decide +kernel
theorem dX11_hasBegun_5 : decode cX11_hasBegun 5 = .ok (.getfield 124, 3) := by decide +kernel
theorem dX11_hasBegun_8 : decode cX11_hasBegun 8 = .ok (.aload_n 1, 1) := by decide +kernel
theorem dX11_hasBegun_9 : decode cX11_hasBegun 9 = .ok (.getfield 127, 3) := by decide +kernel
theorem dX11_hasBegun_12 : decode cX11_hasBegun 12 = .ok (.iconst 0, 1) := by decide +kernel
theorem dX11_hasBegun_13 : decode cX11_hasBegun 13 = .ok (.iconst 1, 1) := by decide +kernel
theorem dX11_hasBegun_14 : decode cX11_hasBegun 14 = .ok (.invokevirtual 379, 3) := by decide +kernel
theorem dX11_hasBegun_17 : decode cX11_hasBegun 17 = .ok (.aload_n 0, 1) := by decide +kernel
theorem dX11_hasBegun_18 : decode cX11_hasBegun 18 = .ok (.getfield 29, 3) := by decide +kernel
theorem dX11_hasBegun_21 : decode cX11_hasBegun 21 = .ok (.iload 4, 2) := by decide +kernel
theorem dX11_hasBegun_23 : decode cX11_hasBegun 23 = .ok (.invokevirtual 158, 3) := by decide +kernel
theorem dX11_hasBegun_26 : decode cX11_hasBegun 26 = .ok (.pop, 1) := by decide +kernel
theorem dX11_hasBegun_27 : decode cX11_hasBegun 27 = .ok (.aload_n 0, 1) := by decide +kernel
theorem dX11_hasBegun_28 : decode cX11_hasBegun 28 = .ok (.getfield 29, 3) := by decide +kernel
theorem dX11_hasBegun_31 : decode cX11_hasBegun 31 = .ok (.aload_n 2, 1) := by decide +kernel
theorem dX11_hasBegun_32 : decode cX11_hasBegun 32 = .ok (.iload_n 3, 1) := by decide +kernel
theorem dX11_hasBegun_33 : decode cX11_hasBegun 33 = .ok (.aload_n 2, 1) := by decide +kernel
theorem dX11_hasBegun_34 : decode cX11_hasBegun 34 = .ok (.getfield 204, 3) := by decide +kernel
theorem dX11_hasBegun_37 : decode cX11_hasBegun 37 = .ok (.aload_n 0, 1) := by decide +kernel
theorem dX11_hasBegun_38 : decode cX11_hasBegun 38 = .ok (.getfield 10, 3) := by decide +kernel
theorem dX11_hasBegun_41 : decode cX11_hasBegun 41 = .ok (.getfield 107, 3) := by decide +kernel
theorem dX11_hasBegun_44 : decode cX11_hasBegun 44 = .ok (.invokevirtual 240, 3) := by decide +kernel
theorem dX11_hasBegun_47 : decode cX11_hasBegun 47 = .ok (.aload_n 0, 1) := by decide +kernel
theorem dX11_hasBegun_48 : decode cX11_hasBegun 48 = .ok (.getfield 29, 3) := by decide +kernel
theorem dX11_hasBegun_51 : decode cX11_hasBegun 51 = .ok (.getfield 142, 3) := by decide +kernel
theorem dX11_hasBegun_54 : decode cX11_hasBegun 54 = .ok (.aload_n 1, 1) := by decide +kernel
theorem dX11_hasBegun_55 : decode cX11_hasBegun 55 = .ok (.getfield 142, 3) := by decide +kernel
theorem dX11_hasBegun_58 : decode cX11_hasBegun 58 = .ok (.if_icmp .ne 21, 3) := by decide +kernel
theorem dX11_hasBegun_61 : decode cX11_hasBegun 61 = .ok (.aload_n 0, 1) := by decide +kernel
theorem dX11_hasBegun_62 : decode cX11_hasBegun 62 = .ok (.getfield 29, 3) := by decide +kernel
theorem dX11_hasBegun_65 : decode cX11_hasBegun 65 = .ok (.getfield 145, 3) := by decide +kernel
theorem dX11_hasBegun_68 : decode cX11_hasBegun 68 = .ok (.aload_n 1, 1) := by decide +kernel
theorem dX11_hasBegun_69 : decode cX11_hasBegun 69 = .ok (.getfield 145, 3) := by decide +kernel
theorem dX11_hasBegun_72 : decode cX11_hasBegun 72 = .ok (.if_icmp .ne 7, 3) := by decide +kernel
theorem dX11_hasBegun_75 : decode cX11_hasBegun 75 = .ok (.iconst 1, 1) := by decide +kernel
theorem dX11_hasBegun_76 : decode cX11_hasBegun 76 = .ok (.goto 4, 3) := by decide +kernel
theorem dX11_hasBegun_79 : decode cX11_hasBegun 79 = .ok (.iconst 0, 1) := by decide +kernel
theorem dX11_hasBegun_80 : decode cX11_hasBegun 80 = .ok (.ireturn, 1) := by decide +kernel
theorem fg_X11_29_14 : FdG "NylonLadder" 29 14 4 true := ⟨_, _, _, _, rfl, by decide, by decide, by decide, gxX11, by decide, T_1_234, Or.inl rfl, rfl⟩
theorem gv_X11_379 : GoodIn gT (wsV "NylonLadder" 379 "NylonLadder$Stocking" yX7_begin (Cond.code yX7_begin cX7_begin 5 none :: gT)) := good_V T_4_75 T_2_218 T_2_219 T_1_4 T_2_220
def fX11_hasBegun (M : Mm) (o : Nat) (p1 : Nat) (p2 : Nat) (p3 : Int32) (p4 : Int32) : Option (Int32 × Mm) :=
  B1 (rdN M o 14 4) fun a1_1 =>
  B1 (rdI M p1 10 0) fun x5_2 =>
  B1 (rdI M p1 10 1) fun x9_3 =>
  B1 (gk M a1_1 10) fun _ =>
  B1 (fX7_begin M a1_1 x5_2 x9_3 0 1) fun M14_5 =>
  B1 (rdN M14_5 o 14 4) fun a18_6 =>
  B1 (gk M14_5 a18_6 10) fun _ =>
  B2 (fX7_beginLadder M14_5 a18_6 p4) fun x23_8 M23_9 =>
  B1 (rdN M23_9 o 14 4) fun a28_10 =>
  B1 (rdI M23_9 p2 13 0) fun x34_11 =>
  B1 (rdN M23_9 o 14 0) fun a38_12 =>
  B1 (rdN M23_9 a38_12 3 0) fun a41_13 =>
  B1 (gk M23_9 a28_10 10) fun _ =>
  B1 (fX7_passWay M23_9 a28_10 p2 p3 x34_11 a41_13) fun M44_15 =>
  B1 (rdN M44_15 o 14 4) fun a48_16 =>
  B1 (rdI M44_15 a48_16 10 6) fun x51_17 =>
  B1 (rdI M44_15 p1 10 6) fun x55_18 =>
  if x51_17 = x55_18 then
    B1 (rdN M44_15 o 14 4) fun a62_19 =>
    B1 (rdI M44_15 a62_19 10 7) fun x65_20 =>
    B1 (rdI M44_15 p1 10 7) fun x69_21 =>
    if x65_20 = x69_21 then
      some (1, M44_15)
    else
      some (0, M44_15)
  else
    some (0, M44_15)
set_option maxRecDepth 100000 in
set_option maxHeartbeats 4000000 in
theorem qX11_hasBegun (l : Launch) (E : Ev) {M : Mm} {o : Nat} {p1 : Nat} {p2 : Nat} {p3 : Int32} {p4 : Int32} {rz : Int32} {Mz : Mm} (hf : fX11_hasBegun M o p1 p2 p3 p4 = some (rz, Mz)) : Ct l E yX11_hasBegun cX11_hasBegun 5 (some .boolean) 5 113 0 0 [.ref (E.b + o), .ref (E.b + p1), .ref (E.b + p2), .int p3, .int p4] M (some (.int rz)) Mz := by
  refine ct_of (by decide +kernel) (Nat.le_of_ble_eq_true rfl) fun p e s m args below meth c C hr hin hW ls hl => ?_
  have hl : lv_has ls 5 [(0, .ref (E.b + o)), (1, .ref (E.b + p1)), (2, .ref (E.b + p2)), (3, .int p3), (4, .int p4)] := hl
  unfold fX11_hasBegun at hf
  refine lv_aload_n C.x C.b dX11_hasBegun_0 rfl (lv_at hl 0 rfl) ?_
  replace hf := x_b1 hf; obtain ⟨a1_1, ha1_1, hf⟩ := hf
  refine x_getn C hW fg_X11_29_14 ha1_1 dX11_hasBegun_1 ?_
  refine lv_aload_n C.x C.b dX11_hasBegun_4 rfl (lv_at hl 1 rfl) ?_
  replace hf := x_b1 hf; obtain ⟨x5_2, hx5_2, hf⟩ := hf
  refine x_geti C hW fg_X11_124_10 hx5_2 dX11_hasBegun_5 ?_
  refine lv_aload_n C.x C.b dX11_hasBegun_8 rfl (lv_at hl 1 rfl) ?_
  replace hf := x_b1 hf; obtain ⟨x9_3, hx9_3, hf⟩ := hf
  refine x_geti C hW fg_X11_127_10 hx9_3 dX11_hasBegun_9 ?_
  refine lv_iconst (v := 0) C.x C.b dX11_hasBegun_12 (by decide) ?_
  refine lv_iconst (v := 1) C.x C.b dX11_hasBegun_13 (by decide) ?_
  replace hf := x_b1 hf; obtain ⟨_, hk14_4, hf⟩ := hf
  replace hf := x_b1 hf; obtain ⟨M14_5, hM14_5, hf⟩ := hf
  refine x_callV (As := [.int x5_2, .int x9_3, .int 0, .int 1]) (a := a1_1) (rest := []) C hW hl (qX7_begin l E hM14_5) (x_gk hk14_4) (by decide) (by decide) rfl gv_X11_379 ⟨rfl, hd_X7_begin⟩ rfl rfl (Nat.le_of_ble_eq_true rfl) dX11_hasBegun_14 ⟨Nat.le_of_ble_eq_true rfl, Nat.le_of_ble_eq_true rfl⟩ ⟨Nat.le_of_ble_eq_true rfl, Nat.le_of_ble_eq_true rfl⟩ (fun H locs hW => ?_)
  refine lv_aload_n C.x C.b dX11_hasBegun_17 rfl (lv_at hl 0 rfl) ?_
  replace hf := x_b1 hf; obtain ⟨a18_6, ha18_6, hf⟩ := hf
  refine x_getn C hW fg_X11_29_14 ha18_6 dX11_hasBegun_18 ?_
  refine lv_iload C.x C.b dX11_hasBegun_21 (lv_at hl 4 rfl) ?_
  replace hf := x_b1 hf; obtain ⟨_, hk23_7, hf⟩ := hf
  replace hf := x_b2 hf; obtain ⟨x23_8, M23_9, hx23_8, hf⟩ := hf
  refine x_callV (As := [.int p4]) (a := a18_6) (rest := []) C hW hl (qX7_beginLadder l E hx23_8) (x_gk hk23_7) (by decide) (by decide) rfl gv_X11_158 ⟨rfl, hd_X7_beginLadder⟩ rfl rfl (Nat.le_of_ble_eq_true rfl) dX11_hasBegun_23 ⟨Nat.le_of_ble_eq_true rfl, Nat.le_of_ble_eq_true rfl⟩ ⟨Nat.le_of_ble_eq_true rfl, Nat.le_of_ble_eq_true rfl⟩ (fun H locs hW => ?_)
  refine lv_pop C.x C.b dX11_hasBegun_26 rfl ?_
  refine lv_aload_n C.x C.b dX11_hasBegun_27 rfl (lv_at hl 0 rfl) ?_
  replace hf := x_b1 hf; obtain ⟨a28_10, ha28_10, hf⟩ := hf
  refine x_getn C hW fg_X11_29_14 ha28_10 dX11_hasBegun_28 ?_
  refine lv_aload_n C.x C.b dX11_hasBegun_31 rfl (lv_at hl 2 rfl) ?_
  refine lv_iload_n C.x C.b dX11_hasBegun_32 rfl (lv_at hl 3 rfl) ?_
  refine lv_aload_n C.x C.b dX11_hasBegun_33 rfl (lv_at hl 2 rfl) ?_
  replace hf := x_b1 hf; obtain ⟨x34_11, hx34_11, hf⟩ := hf
  refine x_geti C hW fg_X11_204_13 hx34_11 dX11_hasBegun_34 ?_
  refine lv_aload_n C.x C.b dX11_hasBegun_37 rfl (lv_at hl 0 rfl) ?_
  replace hf := x_b1 hf; obtain ⟨a38_12, ha38_12, hf⟩ := hf
  refine x_getn C hW fg_X11_10_14 ha38_12 dX11_hasBegun_38 ?_
  replace hf := x_b1 hf; obtain ⟨a41_13, ha41_13, hf⟩ := hf
  refine x_getn C hW fg_X11_107_3 ha41_13 dX11_hasBegun_41 ?_
  replace hf := x_b1 hf; obtain ⟨_, hk44_14, hf⟩ := hf
  replace hf := x_b1 hf; obtain ⟨M44_15, hM44_15, hf⟩ := hf
  refine x_callV (As := [.ref (E.b + p2), .int p3, .int x34_11, .ref (E.b + a41_13)]) (a := a28_10) (rest := []) C hW hl (qX7_passWay l E hM44_15) (x_gk hk44_14) (by decide) (by decide) rfl gv_X11_240 ⟨rfl, hd_X7_passWay⟩ rfl rfl (Nat.le_of_ble_eq_true rfl) dX11_hasBegun_44 ⟨Nat.le_of_ble_eq_true rfl, Nat.le_of_ble_eq_true rfl⟩ ⟨Nat.le_of_ble_eq_true rfl, Nat.le_of_ble_eq_true rfl⟩ (fun H locs hW => ?_)
  refine lv_aload_n C.x C.b dX11_hasBegun_47 rfl (lv_at hl 0 rfl) ?_
  replace hf := x_b1 hf; obtain ⟨a48_16, ha48_16, hf⟩ := hf
  refine x_getn C hW fg_X11_29_14 ha48_16 dX11_hasBegun_48 ?_
  replace hf := x_b1 hf; obtain ⟨x51_17, hx51_17, hf⟩ := hf
  refine x_geti C hW fg_X11_142_10 hx51_17 dX11_hasBegun_51 ?_
  refine lv_aload_n C.x C.b dX11_hasBegun_54 rfl (lv_at hl 1 rfl) ?_
  replace hf := x_b1 hf; obtain ⟨x55_18, hx55_18, hf⟩ := hf
  refine x_geti C hW fg_X11_142_10 hx55_18 dX11_hasBegun_55 ?_
  refine lv_icmp_ne (tgt := 79) C.x C.b dX11_hasBegun_58 rfl (fun c58 => ?_) (fun c58 => ?_)
  · replace hf := x_in c58 hf
    refine lv_iconst (v := 0) C.x C.b dX11_hasBegun_79 (by decide) ?_
    rw [x_e1 hf, x_e2 hf]
    exact x_zret C hr hW (v := 0) (w := 0) rfl dX11_hasBegun_80
  · replace hf := x_ip c58 hf
    refine lv_aload_n C.x C.b dX11_hasBegun_61 rfl (lv_at hl 0 rfl) ?_
    replace hf := x_b1 hf; obtain ⟨a62_19, ha62_19, hf⟩ := hf
    refine x_getn C hW fg_X11_29_14 ha62_19 dX11_hasBegun_62 ?_
    replace hf := x_b1 hf; obtain ⟨x65_20, hx65_20, hf⟩ := hf
    refine x_geti C hW fg_X11_145_10 hx65_20 dX11_hasBegun_65 ?_
    refine lv_aload_n C.x C.b dX11_hasBegun_68 rfl (lv_at hl 1 rfl) ?_
    replace hf := x_b1 hf; obtain ⟨x69_21, hx69_21, hf⟩ := hf
    refine x_geti C hW fg_X11_145_10 hx69_21 dX11_hasBegun_69 ?_
    refine lv_icmp_ne (tgt := 79) C.x C.b dX11_hasBegun_72 rfl (fun c72 => ?_) (fun c72 => ?_)
    · replace hf := x_in c72 hf
      refine lv_iconst (v := 0) C.x C.b dX11_hasBegun_79 (by decide) ?_
      rw [x_e1 hf, x_e2 hf]
      exact x_zret C hr hW (v := 0) (w := 0) rfl dX11_hasBegun_80
    · replace hf := x_ip c72 hf
      refine lv_iconst (v := 1) C.x C.b dX11_hasBegun_75 (by decide) ?_
      refine lv_goto (tgt := 80) C.x C.b dX11_hasBegun_76 rfl ?_
      rw [x_e1 hf, x_e2 hf]
      exact x_zret C hr hW (v := 1) (w := 1) rfl dX11_hasBegun_80

theorem dX11_since_0 : decode cX11_since 0 = .ok (.aload_n 0, 1) := by decide +kernel
theorem dX11_since_1 : decode cX11_since 1 = .ok (.getfield 10, 3) := by decide +kernel
theorem dX11_since_4 : decode cX11_since 4 = .ok (.iload_n 1, 1) := by decide +kernel
theorem dX11_since_5 : decode cX11_since 5 = .ok (.invokevirtual 120, 3) := by decide +kernel
theorem dX11_since_8 : decode cX11_since 8 = .ok (.astore 4, 2) := by decide +kernel
theorem dX11_since_10 : decode cX11_since 10 = .ok (.aload_n 0, 1) := by decide +kernel
theorem dX11_since_11 : decode cX11_since 11 = .ok (.getfield 10, 3) := by decide +kernel
theorem dX11_since_14 : decode cX11_since 14 = .ok (.iload_n 2, 1) := by decide +kernel
theorem dX11_since_15 : decode cX11_since 15 = .ok (.invokevirtual 194, 3) := by decide +kernel
theorem dX11_since_18 : decode cX11_since 18 = .ok (.astore 5, 2) := by decide +kernel
theorem dX11_since_20 : decode cX11_since 20 = .ok (.aload 4, 2) := by decide +kernel
theorem dX11_since_22 : decode cX11_since 22 = .ok (.ifnull 15, 3) := by decide +kernel
theorem dX11_since_25 : decode cX11_since 25 = .ok (.aload 5, 2) := by decide +kernel
theorem dX11_since_27 : decode cX11_since 27 = .ok (.ifnull 10, 3) := by decide +kernel
theorem dX11_since_30 : decode cX11_since 30 = .ok (.iload_n 3, 1) := by decide +kernel
theorem dX11_since_31 : decode cX11_since 31 = .ok (.invokestatic 155, 3) := by decide +kernel
theorem dX11_since_34 : decode cX11_since 34 = .ok (.ifCond .ne 5, 3) := by decide +kernel
theorem dX11_since_37 : decode cX11_since 37 = .ok (.iconst (-1), 1) := by decide +kernel
theorem dX11_since_38 : decode cX11_since 38 = .ok (.ireturn, 1) := by decide +kernel
theorem dX11_since_39 : decode cX11_since 39 = .ok (.aload 4, 2) := by decide +kernel
theorem dX11_since_41 : decode cX11_since 41 = .ok (.invokevirtual 177, 3) := by decide +kernel
theorem dX11_since_44 : decode cX11_since 44 = .ok (.ifCond .ne 6, 3) := by decide +kernel
theorem dX11_since_47 : decode cX11_since 47 = .ok (.bipush (-3), 2) := by decide +kernel
theorem dX11_since_49 : decode cX11_since 49 = .ok (.ireturn, 1) := by decide +kernel
theorem dX11_since_50 : decode cX11_since 50 = .ok (.aload 5, 2) := by decide +kernel
theorem dX11_since_52 : decode cX11_since 52 = .ok (.getfield 204, 3) := by decide +kernel
theorem dX11_since_55 : decode cX11_since 55 = .ok (.istore 6, 2) := by decide +kernel
theorem dX11_since_57 : decode cX11_since 57 = .ok (.iload 6, 2) := by decide +kernel
theorem dX11_since_59 : decode cX11_since 59 = .ok (.ifCond .lt 26, 3) := by decide +kernel
theorem dX11_since_62 : decode cX11_since 62 = .ok (.aload_n 0, 1) := by decide +kernel
theorem dX11_since_63 : decode cX11_since 63 = .ok (.aload 4, 2) := by decide +kernel
theorem dX11_since_65 : decode cX11_since 65 = .ok (.aload 5, 2) := by decide +kernel
theorem dX11_since_67 : decode cX11_since 67 = .ok (.iload 6, 2) := by decide +kernel
theorem dX11_since_69 : decode cX11_since 69 = .ok (.iload_n 3, 1) := by decide +kernel
theorem dX11_since_70 : decode cX11_since 70 = .ok (.invokevirtual 280, 3) := by decide +kernel
theorem dX11_since_73 : decode cX11_since 73 = .ok (.ifCond .eq 6, 3) := by decide +kernel
theorem dX11_since_76 : decode cX11_since 76 = .ok (.iload 6, 2) := by decide +kernel
theorem dX11_since_78 : decode cX11_since 78 = .ok (.ireturn, 1) := by decide +kernel
theorem dX11_since_79 : decode cX11_since 79 = .ok (.iinc 6 (-1), 3) := by decide +kernel
theorem dX11_since_82 : decode cX11_since 82 = .ok (.goto (-25), 3) := by decide +kernel
theorem dX11_since_85 : decode cX11_since 85 = .ok (.bipush (-3), 2) := by decide +kernel
theorem dX11_since_87 : decode cX11_since 87 = .ok (.ireturn, 1) := by decide +kernel
theorem hd_X11_hasBegun : yX11_hasBegun.cls ≠ "java/lang/invoke/MethodHandle" ∧ yX11_hasBegun.cls ≠ "java/lang/invoke/VarHandle" ∧ (parseMethodDescriptor yX11_hasBegun.desc).map (fun d => d.parameters.length) = some 4 := by decide +kernel
theorem gv_X11_280 : GoodIn gT (wsV "NylonLadder" 280 "NylonLadder" yX11_hasBegun (Cond.code yX11_hasBegun cX11_hasBegun 5 (some .boolean) :: gT)) := good_V T_4_71 T_4_73 TS_24 T_1_1 T_4_74
def fX11_since_L57 (o : Nat) (v3 : Int32) (v4 : Nat) (v5 : Nat) : Nat → Int32 → Mm → Option (Int32 × Mm)
  | 0, _, _ => none
  | n + 1, v6, M =>
    if v6 < 0 then
      some ((-3), M)
    else
      B1 (gk M o 14) fun _ =>
      B2 (fX11_hasBegun M o v4 v5 v6 v3) fun x70_14 M70_15 =>
      if x70_14 = 0 then
        fX11_since_L57 o v3 v4 v5 n (v6 + (-1)) M70_15
      else
        some (v6, M70_15)
def fX11_since (M : Mm) (o : Nat) (p1 : Int32) (p2 : Int32) (p3 : Int32) : Option (Int32 × Mm) :=
  B1 (rdN M o 14 0) fun a1_1 =>
  B1 (gk M a1_1 3) fun _ =>
  B1 (fX0_stockingAt M a1_1 p1) fun x5_3 =>
  B1 (rdN M o 14 0) fun a11_4 =>
  B1 (gk M a11_4 3) fun _ =>
  B1 (fX0_wayAt M a11_4 p2) fun x15_6 =>
  NL x5_3 (
    some ((-1), M)) (fun a22_7 =>
    NL x15_6 (
      some ((-1), M)) (fun a27_8 =>
      B1 (fX11_isRung M p3) fun x31_9 =>
      if x31_9 = 0 then
        some ((-1), M)
      else
        B1 (gk M a22_7 10) fun _ =>
        B1 (fX7_hasLadder M a22_7) fun x41_11 =>
        if x41_11 = 0 then
          some ((-3), M)
        else
          B1 (rdI M a27_8 13 0) fun x52_12 =>
          fX11_since_L57 o p3 a22_7 a27_8 FL x52_12 M))
set_option maxRecDepth 100000 in
set_option maxHeartbeats 4000000 in
theorem kX11_since_L57 {l : Launch} {E : Ev} {p : Program} {e : Env} {s : State} {m : MethodId} {args : Array Value} {below : List Frame} {meth : Method} {c : Code} (C : Cx E p s m args meth c cX11_since yX11_since.cls 7) (hr : meth.sig.returnType = (some .int)) (hin : yX11_since.name = "<init>" → meth.name = "<init>")  {o : Nat} {v3 : Int32} {v4 : Nat} {v5 : Nat} {rz : Int32} {Mz : Mm} : ∀ (n : Nat) (v6 : Int32) (M : Mm), fX11_since_L57 o v3 v4 v5 n v6 M = some (rz, Mz) → ∀ (H : Heap) (locs : List Loc) (ls : Array Slot), Wx E s H locs M → lv_has ls 7 [(0, .ref (E.b + o)), (3, .int v3), (4, .ref (E.b + v4)), (5, .ref (E.b + v5)), (6, .int v6)] → W p l e (rM 6 137 0 0) s m args below meth c H locs 0 0 (MQ below (Qp E (some (.int rz)) Mz) args s 0 0 E.A) (F0 m 57 ls []) := by
  intro n
  induction n with
  | zero =>
    intro v6 M hf
    unfold fX11_since_L57 at hf
    cases hf
  | succ n ih =>
    intro v6 M hf H locs ls hW hl
    unfold fX11_since_L57 at hf
    refine lv_iload C.x C.b dX11_since_57 (lv_at hl 4 rfl) ?_
    refine lv_if_lt (tgt := 85) C.x C.b dX11_since_59 rfl (fun c59 => ?_) (fun c59 => ?_)
    · replace hf := x_ip c59 hf
      refine lv_bipush (v := (-3)) C.x C.b dX11_since_85 (by decide) ?_
      rw [x_e1 hf, x_e2 hf]
      exact x_iret C hr hW dX11_since_87
    · replace hf := x_in c59 hf
      refine lv_aload_n C.x C.b dX11_since_62 rfl (lv_at hl 0 rfl) ?_
      refine lv_aload C.x C.b dX11_since_63 (lv_at hl 2 rfl) ?_
      refine lv_aload C.x C.b dX11_since_65 (lv_at hl 3 rfl) ?_
      refine lv_iload C.x C.b dX11_since_67 (lv_at hl 4 rfl) ?_
      refine lv_iload_n C.x C.b dX11_since_69 rfl (lv_at hl 1 rfl) ?_
      replace hf := x_b1 hf; obtain ⟨_, hk70_13, hf⟩ := hf
      replace hf := x_b2 hf; obtain ⟨x70_14, M70_15, hx70_14, hf⟩ := hf
      refine x_callV (As := [.ref (E.b + v4), .ref (E.b + v5), .int v6, .int v3]) (a := o) (rest := []) C hW hl (qX11_hasBegun l E hx70_14) (x_gk hk70_13) (by decide) (by decide) rfl gv_X11_280 ⟨rfl, hd_X11_hasBegun⟩ rfl rfl (Nat.le_of_ble_eq_true rfl) dX11_since_70 ⟨Nat.le_of_ble_eq_true rfl, Nat.le_of_ble_eq_true rfl⟩ ⟨Nat.le_of_ble_eq_true rfl, Nat.le_of_ble_eq_true rfl⟩ (fun H locs hW => ?_)
      refine lv_if_eq (tgt := 79) C.x C.b dX11_since_73 rfl (fun c73 => ?_) (fun c73 => ?_)
      · replace hf := x_ip c73 hf
        refine lv_iinc (v := (v6 + (-1))) (lv' := [(6, .int (v6 + (-1))), (0, .ref (E.b + _)), (3, .int _), (4, .ref (E.b + _)), (5, .ref (E.b + _))]) C.x C.b dX11_since_79 hl (k := 4) rfl (by first | rfl | decide) (by decide) rfl (fun ls hl => ?_)
        refine lv_goto (tgt := 57) C.x C.b dX11_since_82 rfl ?_
        exact ih (v6 + (-1)) M70_15 hf _ _ _ hW (lv_sub hl [1, 2, 3, 4, 0] rfl)
      · replace hf := x_in c73 hf
        refine lv_iload C.x C.b dX11_since_76 (lv_at hl 4 rfl) ?_
        rw [x_e1 hf, x_e2 hf]
        exact x_iret C hr hW dX11_since_78
set_option maxRecDepth 100000 in
set_option maxHeartbeats 4000000 in
theorem qX11_since (l : Launch) (E : Ev) {M : Mm} {o : Nat} {p1 : Int32} {p2 : Int32} {p3 : Int32} {rz : Int32} {Mz : Mm} (hf : fX11_since M o p1 p2 p3 = some (rz, Mz)) : Ct l E yX11_since cX11_since 7 (some .int) 6 137 0 0 [.ref (E.b + o), .int p1, .int p2, .int p3] M (some (.int rz)) Mz := by
  refine ct_of (by decide +kernel) (Nat.le_of_ble_eq_true rfl) fun p e s m args below meth c C hr hin hW ls hl => ?_
  have hl : lv_has ls 7 [(0, .ref (E.b + o)), (1, .int p1), (2, .int p2), (3, .int p3)] := hl
  unfold fX11_since at hf
  refine lv_aload_n C.x C.b dX11_since_0 rfl (lv_at hl 0 rfl) ?_
  replace hf := x_b1 hf; obtain ⟨a1_1, ha1_1, hf⟩ := hf
  refine x_getn C hW fg_X11_10_14 ha1_1 dX11_since_1 ?_
  refine lv_iload_n C.x C.b dX11_since_4 rfl (lv_at hl 1 rfl) ?_
  replace hf := x_b1 hf; obtain ⟨_, hk5_2, hf⟩ := hf
  replace hf := x_b1 hf; obtain ⟨x5_3, hx5_3, hf⟩ := hf
  refine x_callV (As := [.int p1]) (a := a1_1) (rest := []) C hW hl (qX0_stockingAt l E hx5_3) (x_gk hk5_2) (by decide) (by decide) rfl gv_X11_120 ⟨rfl, hd_X0_stockingAt⟩ rfl rfl (Nat.le_of_ble_eq_true rfl) dX11_since_5 ⟨Nat.le_of_ble_eq_true rfl, Nat.le_of_ble_eq_true rfl⟩ ⟨Nat.le_of_ble_eq_true rfl, Nat.le_of_ble_eq_true rfl⟩ (fun H locs hW => ?_)
  refine x_astore (lv' := [(4, rv E.b _), (0, .ref (E.b + _)), (1, .int _), (2, .int _), (3, .int _)]) C dX11_since_8 hl (by decide) rfl (fun ls hl => ?_)
  refine lv_aload_n C.x C.b dX11_since_10 rfl (lv_at hl 1 rfl) ?_
  replace hf := x_b1 hf; obtain ⟨a11_4, ha11_4, hf⟩ := hf
  refine x_getn C hW fg_X11_10_14 ha11_4 dX11_since_11 ?_
  refine lv_iload_n C.x C.b dX11_since_14 rfl (lv_at hl 3 rfl) ?_
  replace hf := x_b1 hf; obtain ⟨_, hk15_5, hf⟩ := hf
  replace hf := x_b1 hf; obtain ⟨x15_6, hx15_6, hf⟩ := hf
  refine x_callV (As := [.int p2]) (a := a11_4) (rest := []) C hW hl (qX0_wayAt l E hx15_6) (x_gk hk15_5) (by decide) (by decide) rfl gv_X11_194 ⟨rfl, hd_X0_wayAt⟩ rfl rfl (Nat.le_of_ble_eq_true rfl) dX11_since_15 ⟨Nat.le_of_ble_eq_true rfl, Nat.le_of_ble_eq_true rfl⟩ ⟨Nat.le_of_ble_eq_true rfl, Nat.le_of_ble_eq_true rfl⟩ (fun H locs hW => ?_)
  refine x_astore (lv' := [(5, rv E.b x15_6), (4, rv E.b x5_3), (0, .ref (E.b + o)), (1, .int p1), (2, .int p2), (3, .int p3)]) C dX11_since_18 hl (by decide) (by simp [List.filter, rv_cat]) (fun ls hl => ?_)
  refine x_aload C dX11_since_20 (lv_at hl 1 rfl) ?_
  replace hf := x_nl hf; rcases hf with ⟨rfl, hf⟩ | ⟨a22_7, rfl, hf⟩
  · refine lv_ifnullN (tgt := 37) C.x C.b dX11_since_22 rfl ?_
    refine lv_iconst (v := (-1)) C.x C.b dX11_since_37 (by decide) ?_
    rw [x_e1 hf, x_e2 hf]
    exact x_iret C hr hW dX11_since_38
  · refine lv_ifnull C.x C.b dX11_since_22 ?_
    refine x_aload C dX11_since_25 (lv_at hl 0 rfl) ?_
    replace hf := x_nl hf; rcases hf with ⟨rfl, hf⟩ | ⟨a27_8, rfl, hf⟩
    · refine lv_ifnullN (tgt := 37) C.x C.b dX11_since_27 rfl ?_
      refine lv_iconst (v := (-1)) C.x C.b dX11_since_37 (by decide) ?_
      rw [x_e1 hf, x_e2 hf]
      exact x_iret C hr hW dX11_since_38
    · refine lv_ifnull C.x C.b dX11_since_27 ?_
      refine lv_iload_n C.x C.b dX11_since_30 rfl (lv_at hl 5 rfl) ?_
      replace hf := x_b1 hf; obtain ⟨x31_9, hx31_9, hf⟩ := hf
      refine x_callS (As := [.int p3]) (rest := []) C hW hl (qX11_isRung l E hx31_9) gs_X11_155 hd_X11_isRung rfl rfl (Nat.le_of_ble_eq_true rfl) dX11_since_31 ⟨Nat.le_of_ble_eq_true rfl, Nat.le_of_ble_eq_true rfl⟩ ⟨Nat.le_of_ble_eq_true rfl, Nat.le_of_ble_eq_true rfl⟩ (fun H locs hW => ?_)
      refine lv_if_ne (tgt := 39) C.x C.b dX11_since_34 rfl (fun c34 => ?_) (fun c34 => ?_)
      · replace hf := x_in c34 hf
        refine lv_aload C.x C.b dX11_since_39 (lv_at hl 1 rfl) ?_
        replace hf := x_b1 hf; obtain ⟨_, hk41_10, hf⟩ := hf
        replace hf := x_b1 hf; obtain ⟨x41_11, hx41_11, hf⟩ := hf
        refine x_callV (As := []) (a := a22_7) (rest := []) C hW hl (qX7_hasLadder l E hx41_11) (x_gk hk41_10) (by decide) (by decide) rfl gv_X11_177 ⟨rfl, hd_X7_hasLadder⟩ rfl rfl (Nat.le_of_ble_eq_true rfl) dX11_since_41 ⟨Nat.le_of_ble_eq_true rfl, Nat.le_of_ble_eq_true rfl⟩ ⟨Nat.le_of_ble_eq_true rfl, Nat.le_of_ble_eq_true rfl⟩ (fun H locs hW => ?_)
        refine lv_if_ne (tgt := 50) C.x C.b dX11_since_44 rfl (fun c44 => ?_) (fun c44 => ?_)
        · replace hf := x_in c44 hf
          refine lv_aload C.x C.b dX11_since_50 (lv_at hl 0 rfl) ?_
          replace hf := x_b1 hf; obtain ⟨x52_12, hx52_12, hf⟩ := hf
          refine x_geti C hW fg_X11_204_13 hx52_12 dX11_since_52 ?_
          refine lv_istore (lv' := [(6, .int _), (5, .ref (E.b + _)), (4, .ref (E.b + _)), (0, .ref (E.b + _)), (1, .int _), (2, .int _), (3, .int _)]) C.x C.b dX11_since_55 hl (by decide) rfl (fun ls hl => ?_)
          exact kX11_since_L57 C hr hin FL x52_12 M hf _ _ _ hW (lv_sub hl [3, 6, 2, 1, 0] rfl)
        · replace hf := x_ip c44 hf
          refine lv_bipush (v := (-3)) C.x C.b dX11_since_47 (by decide) ?_
          rw [x_e1 hf, x_e2 hf]
          exact x_iret C hr hW dX11_since_49
      · replace hf := x_ip c34 hf
        refine lv_iconst (v := (-1)) C.x C.b dX11_since_37 (by decide) ?_
        rw [x_e1 hf, x_e2 hf]
        exact x_iret C hr hW dX11_since_38

theorem dX11_from_0 : decode cX11_from 0 = .ok (.aload_n 0, 1) := by decide +kernel
theorem dX11_from_1 : decode cX11_from 1 = .ok (.getfield 10, 3) := by decide +kernel
theorem dX11_from_4 : decode cX11_from 4 = .ok (.iload_n 1, 1) := by decide +kernel
theorem dX11_from_5 : decode cX11_from 5 = .ok (.invokevirtual 120, 3) := by decide +kernel
theorem dX11_from_8 : decode cX11_from 8 = .ok (.astore 4, 2) := by decide +kernel
theorem dX11_from_10 : decode cX11_from 10 = .ok (.aload_n 0, 1) := by decide +kernel
theorem dX11_from_11 : decode cX11_from 11 = .ok (.getfield 10, 3) := by decide +kernel
theorem dX11_from_14 : decode cX11_from 14 = .ok (.iload_n 2, 1) := by decide +kernel
theorem dX11_from_15 : decode cX11_from 15 = .ok (.invokevirtual 194, 3) := by decide +kernel
theorem dX11_from_18 : decode cX11_from 18 = .ok (.astore 5, 2) := by decide +kernel
theorem dX11_from_20 : decode cX11_from 20 = .ok (.aload 4, 2) := by decide +kernel
theorem dX11_from_22 : decode cX11_from 22 = .ok (.ifnull 21, 3) := by decide +kernel
theorem dX11_from_25 : decode cX11_from 25 = .ok (.aload 5, 2) := by decide +kernel
theorem dX11_from_27 : decode cX11_from 27 = .ok (.ifnull 16, 3) := by decide +kernel
theorem dX11_from_30 : decode cX11_from 30 = .ok (.iload_n 3, 1) := by decide +kernel
theorem dX11_from_31 : decode cX11_from 31 = .ok (.iconst 0, 1) := by decide +kernel
theorem dX11_from_32 : decode cX11_from 32 = .ok (.aload 5, 2) := by decide +kernel
theorem dX11_from_34 : decode cX11_from 34 = .ok (.getfield 204, 3) := by decide +kernel
theorem dX11_from_37 : decode cX11_from 37 = .ok (.invokestatic 69, 3) := by decide +kernel
theorem dX11_from_40 : decode cX11_from 40 = .ok (.ifCond .ne 5, 3) := by decide +kernel
theorem dX11_from_43 : decode cX11_from 43 = .ok (.iconst (-1), 1) := by decide +kernel
theorem dX11_from_44 : decode cX11_from 44 = .ok (.ireturn, 1) := by decide +kernel
theorem dX11_from_45 : decode cX11_from 45 = .ok (.aload 4, 2) := by decide +kernel
theorem dX11_from_47 : decode cX11_from 47 = .ok (.invokevirtual 177, 3) := by decide +kernel
theorem dX11_from_50 : decode cX11_from 50 = .ok (.ifCond .ne 6, 3) := by decide +kernel
theorem dX11_from_53 : decode cX11_from 53 = .ok (.bipush (-3), 2) := by decide +kernel
theorem dX11_from_55 : decode cX11_from 55 = .ok (.ireturn, 1) := by decide +kernel
theorem dX11_from_56 : decode cX11_from 56 = .ok (.aload 4, 2) := by decide +kernel
theorem dX11_from_58 : decode cX11_from 58 = .ok (.getfield 142, 3) := by decide +kernel
theorem dX11_from_61 : decode cX11_from 61 = .ok (.istore 6, 2) := by decide +kernel
theorem dX11_from_63 : decode cX11_from 63 = .ok (.iload 6, 2) := by decide +kernel
theorem dX11_from_65 : decode cX11_from 65 = .ok (.aload 4, 2) := by decide +kernel
theorem dX11_from_67 : decode cX11_from 67 = .ok (.getfield 145, 3) := by decide +kernel
theorem dX11_from_70 : decode cX11_from 70 = .ok (.if_icmp .gt 26, 3) := by decide +kernel
theorem dX11_from_73 : decode cX11_from 73 = .ok (.aload_n 0, 1) := by decide +kernel
theorem dX11_from_74 : decode cX11_from 74 = .ok (.aload 4, 2) := by decide +kernel
theorem dX11_from_76 : decode cX11_from 76 = .ok (.aload 5, 2) := by decide +kernel
theorem dX11_from_78 : decode cX11_from 78 = .ok (.iload_n 3, 1) := by decide +kernel
theorem dX11_from_79 : decode cX11_from 79 = .ok (.iload 6, 2) := by decide +kernel
theorem dX11_from_81 : decode cX11_from 81 = .ok (.invokevirtual 280, 3) := by decide +kernel
theorem dX11_from_84 : decode cX11_from 84 = .ok (.ifCond .eq 6, 3) := by decide +kernel
theorem dX11_from_87 : decode cX11_from 87 = .ok (.iload 6, 2) := by decide +kernel
theorem dX11_from_89 : decode cX11_from 89 = .ok (.ireturn, 1) := by decide +kernel
theorem dX11_from_90 : decode cX11_from 90 = .ok (.iinc 6 1, 3) := by decide +kernel
theorem dX11_from_93 : decode cX11_from 93 = .ok (.goto (-30), 3) := by decide +kernel
theorem dX11_from_96 : decode cX11_from 96 = .ok (.bipush (-3), 2) := by decide +kernel
theorem dX11_from_98 : decode cX11_from 98 = .ok (.ireturn, 1) := by decide +kernel
def fX11_from_L63 (o : Nat) (v3 : Int32) (v4 : Nat) (v5 : Nat) : Nat → Int32 → Mm → Option (Int32 × Mm)
  | 0, _, _ => none
  | n + 1, v6, M =>
    B1 (rdI M v4 10 7) fun x67_14 =>
    if x67_14 < v6 then
      some ((-3), M)
    else
      B1 (gk M o 14) fun _ =>
      B2 (fX11_hasBegun M o v4 v5 v3 v6) fun x81_16 M81_17 =>
      if x81_16 = 0 then
        fX11_from_L63 o v3 v4 v5 n (v6 + 1) M81_17
      else
        some (v6, M81_17)
def fX11_from (M : Mm) (o : Nat) (p1 : Int32) (p2 : Int32) (p3 : Int32) : Option (Int32 × Mm) :=
  B1 (rdN M o 14 0) fun a1_1 =>
  B1 (gk M a1_1 3) fun _ =>
  B1 (fX0_stockingAt M a1_1 p1) fun x5_3 =>
  B1 (rdN M o 14 0) fun a11_4 =>
  B1 (gk M a11_4 3) fun _ =>
  B1 (fX0_wayAt M a11_4 p2) fun x15_6 =>
  NL x5_3 (
    some ((-1), M)) (fun a22_7 =>
    NL x15_6 (
      some ((-1), M)) (fun a27_8 =>
      B1 (rdI M a27_8 13 0) fun x34_9 =>
      B1 (fX11_isWithin M p3 0 x34_9) fun x37_10 =>
      if x37_10 = 0 then
        some ((-1), M)
      else
        B1 (gk M a22_7 10) fun _ =>
        B1 (fX7_hasLadder M a22_7) fun x47_12 =>
        if x47_12 = 0 then
          some ((-3), M)
        else
          B1 (rdI M a22_7 10 6) fun x58_13 =>
          fX11_from_L63 o p3 a22_7 a27_8 FL x58_13 M))
set_option maxRecDepth 100000 in
set_option maxHeartbeats 4000000 in
theorem kX11_from_L63 {l : Launch} {E : Ev} {p : Program} {e : Env} {s : State} {m : MethodId} {args : Array Value} {below : List Frame} {meth : Method} {c : Code} (C : Cx E p s m args meth c cX11_from yX11_from.cls 7) (hr : meth.sig.returnType = (some .int)) (hin : yX11_from.name = "<init>" → meth.name = "<init>")  {o : Nat} {v3 : Int32} {v4 : Nat} {v5 : Nat} {rz : Int32} {Mz : Mm} : ∀ (n : Nat) (v6 : Int32) (M : Mm), fX11_from_L63 o v3 v4 v5 n v6 M = some (rz, Mz) → ∀ (H : Heap) (locs : List Loc) (ls : Array Slot), Wx E s H locs M → lv_has ls 7 [(0, .ref (E.b + o)), (3, .int v3), (4, .ref (E.b + v4)), (5, .ref (E.b + v5)), (6, .int v6)] → W p l e (rM 6 137 0 0) s m args below meth c H locs 0 0 (MQ below (Qp E (some (.int rz)) Mz) args s 0 0 E.A) (F0 m 63 ls []) := by
  intro n
  induction n with
  | zero =>
    intro v6 M hf
    unfold fX11_from_L63 at hf
    cases hf
  | succ n ih =>
    intro v6 M hf H locs ls hW hl
    unfold fX11_from_L63 at hf
    refine lv_iload C.x C.b dX11_from_63 (lv_at hl 4 rfl) ?_
    refine lv_aload C.x C.b dX11_from_65 (lv_at hl 2 rfl) ?_
    replace hf := x_b1 hf; obtain ⟨x67_14, hx67_14, hf⟩ := hf
    refine x_geti C hW fg_X11_145_10 hx67_14 dX11_from_67 ?_
    refine lv_icmp_gt (tgt := 96) C.x C.b dX11_from_70 rfl (fun c70 => ?_) (fun c70 => ?_)
    · replace hf := x_ip c70 hf
      refine lv_bipush (v := (-3)) C.x C.b dX11_from_96 (by decide) ?_
      rw [x_e1 hf, x_e2 hf]
      exact x_iret C hr hW dX11_from_98
    · replace hf := x_in c70 hf
      refine lv_aload_n C.x C.b dX11_from_73 rfl (lv_at hl 0 rfl) ?_
      refine lv_aload C.x C.b dX11_from_74 (lv_at hl 2 rfl) ?_
      refine lv_aload C.x C.b dX11_from_76 (lv_at hl 3 rfl) ?_
      refine lv_iload_n C.x C.b dX11_from_78 rfl (lv_at hl 1 rfl) ?_
      refine lv_iload C.x C.b dX11_from_79 (lv_at hl 4 rfl) ?_
      replace hf := x_b1 hf; obtain ⟨_, hk81_15, hf⟩ := hf
      replace hf := x_b2 hf; obtain ⟨x81_16, M81_17, hx81_16, hf⟩ := hf
      refine x_callV (As := [.ref (E.b + v4), .ref (E.b + v5), .int v3, .int v6]) (a := o) (rest := []) C hW hl (qX11_hasBegun l E hx81_16) (x_gk hk81_15) (by decide) (by decide) rfl gv_X11_280 ⟨rfl, hd_X11_hasBegun⟩ rfl rfl (Nat.le_of_ble_eq_true rfl) dX11_from_81 ⟨Nat.le_of_ble_eq_true rfl, Nat.le_of_ble_eq_true rfl⟩ ⟨Nat.le_of_ble_eq_true rfl, Nat.le_of_ble_eq_true rfl⟩ (fun H locs hW => ?_)
      refine lv_if_eq (tgt := 90) C.x C.b dX11_from_84 rfl (fun c84 => ?_) (fun c84 => ?_)
      · replace hf := x_ip c84 hf
        refine lv_iinc (v := (v6 + 1)) (lv' := [(6, .int (v6 + 1)), (0, .ref (E.b + _)), (3, .int _), (4, .ref (E.b + _)), (5, .ref (E.b + _))]) C.x C.b dX11_from_90 hl (k := 4) rfl (by first | rfl | decide) (by decide) rfl (fun ls hl => ?_)
        refine lv_goto (tgt := 63) C.x C.b dX11_from_93 rfl ?_
        exact ih (v6 + 1) M81_17 hf _ _ _ hW (lv_sub hl [1, 2, 3, 4, 0] rfl)
      · replace hf := x_in c84 hf
        refine lv_iload C.x C.b dX11_from_87 (lv_at hl 4 rfl) ?_
        rw [x_e1 hf, x_e2 hf]
        exact x_iret C hr hW dX11_from_89
set_option maxRecDepth 100000 in
set_option maxHeartbeats 4000000 in
theorem qX11_from (l : Launch) (E : Ev) {M : Mm} {o : Nat} {p1 : Int32} {p2 : Int32} {p3 : Int32} {rz : Int32} {Mz : Mm} (hf : fX11_from M o p1 p2 p3 = some (rz, Mz)) : Ct l E yX11_from cX11_from 7 (some .int) 6 137 0 0 [.ref (E.b + o), .int p1, .int p2, .int p3] M (some (.int rz)) Mz := by
  refine ct_of (by decide +kernel) (Nat.le_of_ble_eq_true rfl) fun p e s m args below meth c C hr hin hW ls hl => ?_
  have hl : lv_has ls 7 [(0, .ref (E.b + o)), (1, .int p1), (2, .int p2), (3, .int p3)] := hl
  unfold fX11_from at hf
  refine lv_aload_n C.x C.b dX11_from_0 rfl (lv_at hl 0 rfl) ?_
  replace hf := x_b1 hf; obtain ⟨a1_1, ha1_1, hf⟩ := hf
  refine x_getn C hW fg_X11_10_14 ha1_1 dX11_from_1 ?_
  refine lv_iload_n C.x C.b dX11_from_4 rfl (lv_at hl 1 rfl) ?_
  replace hf := x_b1 hf; obtain ⟨_, hk5_2, hf⟩ := hf
  replace hf := x_b1 hf; obtain ⟨x5_3, hx5_3, hf⟩ := hf
  refine x_callV (As := [.int p1]) (a := a1_1) (rest := []) C hW hl (qX0_stockingAt l E hx5_3) (x_gk hk5_2) (by decide) (by decide) rfl gv_X11_120 ⟨rfl, hd_X0_stockingAt⟩ rfl rfl (Nat.le_of_ble_eq_true rfl) dX11_from_5 ⟨Nat.le_of_ble_eq_true rfl, Nat.le_of_ble_eq_true rfl⟩ ⟨Nat.le_of_ble_eq_true rfl, Nat.le_of_ble_eq_true rfl⟩ (fun H locs hW => ?_)
  refine x_astore (lv' := [(4, rv E.b _), (0, .ref (E.b + _)), (1, .int _), (2, .int _), (3, .int _)]) C dX11_from_8 hl (by decide) rfl (fun ls hl => ?_)
  refine lv_aload_n C.x C.b dX11_from_10 rfl (lv_at hl 1 rfl) ?_
  replace hf := x_b1 hf; obtain ⟨a11_4, ha11_4, hf⟩ := hf
  refine x_getn C hW fg_X11_10_14 ha11_4 dX11_from_11 ?_
  refine lv_iload_n C.x C.b dX11_from_14 rfl (lv_at hl 3 rfl) ?_
  replace hf := x_b1 hf; obtain ⟨_, hk15_5, hf⟩ := hf
  replace hf := x_b1 hf; obtain ⟨x15_6, hx15_6, hf⟩ := hf
  refine x_callV (As := [.int p2]) (a := a11_4) (rest := []) C hW hl (qX0_wayAt l E hx15_6) (x_gk hk15_5) (by decide) (by decide) rfl gv_X11_194 ⟨rfl, hd_X0_wayAt⟩ rfl rfl (Nat.le_of_ble_eq_true rfl) dX11_from_15 ⟨Nat.le_of_ble_eq_true rfl, Nat.le_of_ble_eq_true rfl⟩ ⟨Nat.le_of_ble_eq_true rfl, Nat.le_of_ble_eq_true rfl⟩ (fun H locs hW => ?_)
  refine x_astore (lv' := [(5, rv E.b x15_6), (4, rv E.b x5_3), (0, .ref (E.b + o)), (1, .int p1), (2, .int p2), (3, .int p3)]) C dX11_from_18 hl (by decide) (by simp [List.filter, rv_cat]) (fun ls hl => ?_)
  refine x_aload C dX11_from_20 (lv_at hl 1 rfl) ?_
  replace hf := x_nl hf; rcases hf with ⟨rfl, hf⟩ | ⟨a22_7, rfl, hf⟩
  · refine lv_ifnullN (tgt := 43) C.x C.b dX11_from_22 rfl ?_
    refine lv_iconst (v := (-1)) C.x C.b dX11_from_43 (by decide) ?_
    rw [x_e1 hf, x_e2 hf]
    exact x_iret C hr hW dX11_from_44
  · refine lv_ifnull C.x C.b dX11_from_22 ?_
    refine x_aload C dX11_from_25 (lv_at hl 0 rfl) ?_
    replace hf := x_nl hf; rcases hf with ⟨rfl, hf⟩ | ⟨a27_8, rfl, hf⟩
    · refine lv_ifnullN (tgt := 43) C.x C.b dX11_from_27 rfl ?_
      refine lv_iconst (v := (-1)) C.x C.b dX11_from_43 (by decide) ?_
      rw [x_e1 hf, x_e2 hf]
      exact x_iret C hr hW dX11_from_44
    · refine lv_ifnull C.x C.b dX11_from_27 ?_
      refine lv_iload_n C.x C.b dX11_from_30 rfl (lv_at hl 5 rfl) ?_
      refine lv_iconst (v := 0) C.x C.b dX11_from_31 (by decide) ?_
      refine lv_aload C.x C.b dX11_from_32 (lv_at hl 0 rfl) ?_
      replace hf := x_b1 hf; obtain ⟨x34_9, hx34_9, hf⟩ := hf
      refine x_geti C hW fg_X11_204_13 hx34_9 dX11_from_34 ?_
      replace hf := x_b1 hf; obtain ⟨x37_10, hx37_10, hf⟩ := hf
      refine x_callS (As := [.int p3, .int 0, .int x34_9]) (rest := []) C hW hl (qX11_isWithin l E hx37_10) gs_X11_69 hd_X11_isWithin rfl rfl (Nat.le_of_ble_eq_true rfl) dX11_from_37 ⟨Nat.le_of_ble_eq_true rfl, Nat.le_of_ble_eq_true rfl⟩ ⟨Nat.le_of_ble_eq_true rfl, Nat.le_of_ble_eq_true rfl⟩ (fun H locs hW => ?_)
      refine lv_if_ne (tgt := 45) C.x C.b dX11_from_40 rfl (fun c40 => ?_) (fun c40 => ?_)
      · replace hf := x_in c40 hf
        refine lv_aload C.x C.b dX11_from_45 (lv_at hl 1 rfl) ?_
        replace hf := x_b1 hf; obtain ⟨_, hk47_11, hf⟩ := hf
        replace hf := x_b1 hf; obtain ⟨x47_12, hx47_12, hf⟩ := hf
        refine x_callV (As := []) (a := a22_7) (rest := []) C hW hl (qX7_hasLadder l E hx47_12) (x_gk hk47_11) (by decide) (by decide) rfl gv_X11_177 ⟨rfl, hd_X7_hasLadder⟩ rfl rfl (Nat.le_of_ble_eq_true rfl) dX11_from_47 ⟨Nat.le_of_ble_eq_true rfl, Nat.le_of_ble_eq_true rfl⟩ ⟨Nat.le_of_ble_eq_true rfl, Nat.le_of_ble_eq_true rfl⟩ (fun H locs hW => ?_)
        refine lv_if_ne (tgt := 56) C.x C.b dX11_from_50 rfl (fun c50 => ?_) (fun c50 => ?_)
        · replace hf := x_in c50 hf
          refine lv_aload C.x C.b dX11_from_56 (lv_at hl 1 rfl) ?_
          replace hf := x_b1 hf; obtain ⟨x58_13, hx58_13, hf⟩ := hf
          refine x_geti C hW fg_X11_142_10 hx58_13 dX11_from_58 ?_
          refine lv_istore (lv' := [(6, .int _), (5, .ref (E.b + _)), (4, .ref (E.b + _)), (0, .ref (E.b + _)), (1, .int _), (2, .int _), (3, .int _)]) C.x C.b dX11_from_61 hl (by decide) rfl (fun ls hl => ?_)
          exact kX11_from_L63 C hr hin FL x58_13 M hf _ _ _ hW (lv_sub hl [3, 6, 2, 1, 0] rfl)
        · replace hf := x_ip c50 hf
          refine lv_bipush (v := (-3)) C.x C.b dX11_from_53 (by decide) ?_
          rw [x_e1 hf, x_e2 hf]
          exact x_iret C hr hW dX11_from_55
      · replace hf := x_ip c40 hf
        refine lv_iconst (v := (-1)) C.x C.b dX11_from_43 (by decide) ?_
        rw [x_e1 hf, x_e2 hf]
        exact x_iret C hr hW dX11_from_44

theorem dX11_seed_0 : decode cX11_seed 0 = .ok (.aload_n 0, 1) := by decide +kernel
theorem dX11_seed_1 : decode cX11_seed 1 = .ok (.getfield 10, 3) := by decide +kernel
theorem dX11_seed_4 : decode cX11_seed 4 = .ok (.getfield 87, 3) := by decide +kernel
theorem dX11_seed_7 : decode cX11_seed 7 = .ok (.istore_n 2, 1) := by decide +kernel
theorem dX11_seed_8 : decode cX11_seed 8 = .ok (.aload_n 0, 1) := by decide +kernel
theorem dX11_seed_9 : decode cX11_seed 9 = .ok (.getfield 10, 3) := by decide +kernel
theorem dX11_seed_12 : decode cX11_seed 12 = .ok (.iload_n 1, 1) := by decide +kernel
theorem dX11_seed_13 : decode cX11_seed 13 = .ok (.putfield 87, 3) := by decide +kernel
theorem dX11_seed_16 : decode cX11_seed 16 = .ok (.iload_n 2, 1) := by decide +kernel
theorem dX11_seed_17 : decode cX11_seed 17 = .ok (.ireturn, 1) := by decide +kernel
def fX11_seed (M : Mm) (o : Nat) (p1 : Int32) : Option (Int32 × Mm) :=
  B1 (rdN M o 14 0) fun a1_1 =>
  B1 (rdI M a1_1 3 5) fun x4_2 =>
  B1 (rdN M o 14 0) fun a9_3 =>
  B1 (wrI M a9_3 3 5 p1) fun M13_4 =>
  some (x4_2, M13_4)
set_option maxRecDepth 100000 in
set_option maxHeartbeats 4000000 in
theorem qX11_seed (l : Launch) (E : Ev) {M : Mm} {o : Nat} {p1 : Int32} {rz : Int32} {Mz : Mm} (hf : fX11_seed M o p1 = some (rz, Mz)) : Ct l E yX11_seed cX11_seed 3 (some .int) 0 0 0 0 [.ref (E.b + o), .int p1] M (some (.int rz)) Mz := by
  refine ct_of (by decide +kernel) (Nat.le_of_ble_eq_true rfl) fun p e s m args below meth c C hr hin hW ls hl => ?_
  have hl : lv_has ls 3 [(0, .ref (E.b + o)), (1, .int p1)] := hl
  unfold fX11_seed at hf
  refine lv_aload_n C.x C.b dX11_seed_0 rfl (lv_at hl 0 rfl) ?_
  replace hf := x_b1 hf; obtain ⟨a1_1, ha1_1, hf⟩ := hf
  refine x_getn C hW fg_X11_10_14 ha1_1 dX11_seed_1 ?_
  replace hf := x_b1 hf; obtain ⟨x4_2, hx4_2, hf⟩ := hf
  refine x_geti C hW fg_X11_87_3 hx4_2 dX11_seed_4 ?_
  refine lv_istore_n (lv' := [(2, .int _), (0, .ref (E.b + _)), (1, .int _)]) C.x C.b dX11_seed_7 rfl hl (by decide) rfl (fun ls hl => ?_)
  refine lv_aload_n C.x C.b dX11_seed_8 rfl (lv_at hl 1 rfl) ?_
  replace hf := x_b1 hf; obtain ⟨a9_3, ha9_3, hf⟩ := hf
  refine x_getn C hW fg_X11_10_14 ha9_3 dX11_seed_9 ?_
  refine lv_iload_n C.x C.b dX11_seed_12 rfl (lv_at hl 2 rfl) ?_
  replace hf := x_b1 hf; obtain ⟨M13_4, hM13_4, hf⟩ := hf
  refine x_puti C hW fp_X11_87_3 hM13_4 (fun h => by cases h) dX11_seed_13 (fun H locs hW => ?_)
  refine lv_iload_n C.x C.b dX11_seed_16 rfl (lv_at hl 0 rfl) ?_
  rw [x_e1 hf, x_e2 hf]
  exact x_iret C hr hW dX11_seed_17

theorem dX11_day_0 : decode cX11_day 0 = .ok (.aload_n 0, 1) := by decide +kernel
theorem dX11_day_1 : decode cX11_day 1 = .ok (.getfield 10, 3) := by decide +kernel
theorem dX11_day_4 : decode cX11_day 4 = .ok (.invokevirtual 284, 3) := by decide +kernel
theorem dX11_day_7 : decode cX11_day 7 = .ok (.ifCond .eq 7, 3) := by decide +kernel
theorem dX11_day_10 : decode cX11_day 10 = .ok (.iconst 1, 1) := by decide +kernel
theorem dX11_day_11 : decode cX11_day 11 = .ok (.goto 4, 3) := by decide +kernel
theorem dX11_day_14 : decode cX11_day 14 = .ok (.iconst 0, 1) := by decide +kernel
theorem dX11_day_15 : decode cX11_day 15 = .ok (.ireturn, 1) := by decide +kernel
theorem hd_X0_liveADay : yX0_liveADay.cls ≠ "java/lang/invoke/MethodHandle" ∧ yX0_liveADay.cls ≠ "java/lang/invoke/VarHandle" ∧ (parseMethodDescriptor yX0_liveADay.desc).map (fun d => d.parameters.length) = some 0 := by decide +kernel
theorem gv_X11_284 : GoodIn gT (wsV "NylonLadder" 284 "NylonLadder$Drawer" yX0_liveADay (Cond.code yX0_liveADay cX0_liveADay 3 (some .boolean) :: gT)) := good_V T_4_88 T_4_89 T_4_90 T_1_2 T_4_91
def fX11_day (M : Mm) (o : Nat) : Option (Int32 × Mm) :=
  B1 (rdN M o 14 0) fun a1_1 =>
  B1 (gk M a1_1 3) fun _ =>
  B2 (fX0_liveADay M a1_1) fun x4_3 M4_4 =>
  if x4_3 = 0 then
    some (0, M4_4)
  else
    some (1, M4_4)
set_option maxRecDepth 100000 in
set_option maxHeartbeats 4000000 in
theorem qX11_day (l : Launch) (E : Ev) {M : Mm} {o : Nat} {rz : Int32} {Mz : Mm} (hf : fX11_day M o = some (rz, Mz)) : Ct l E yX11_day cX11_day 1 (some .int) 7 160 0 0 [.ref (E.b + o)] M (some (.int rz)) Mz := by
  refine ct_of (by decide +kernel) (Nat.le_of_ble_eq_true rfl) fun p e s m args below meth c C hr hin hW ls hl => ?_
  have hl : lv_has ls 1 [(0, .ref (E.b + o))] := hl
  unfold fX11_day at hf
  refine lv_aload_n C.x C.b dX11_day_0 rfl (lv_at hl 0 rfl) ?_
  replace hf := x_b1 hf; obtain ⟨a1_1, ha1_1, hf⟩ := hf
  refine x_getn C hW fg_X11_10_14 ha1_1 dX11_day_1 ?_
  replace hf := x_b1 hf; obtain ⟨_, hk4_2, hf⟩ := hf
  replace hf := x_b2 hf; obtain ⟨x4_3, M4_4, hx4_3, hf⟩ := hf
  refine x_callV (As := []) (a := a1_1) (rest := []) C hW hl (qX0_liveADay l E hx4_3) (x_gk hk4_2) (by decide) (by decide) rfl gv_X11_284 ⟨rfl, hd_X0_liveADay⟩ rfl rfl (Nat.le_of_ble_eq_true rfl) dX11_day_4 ⟨Nat.le_of_ble_eq_true rfl, Nat.le_of_ble_eq_true rfl⟩ ⟨Nat.le_of_ble_eq_true rfl, Nat.le_of_ble_eq_true rfl⟩ (fun H locs hW => ?_)
  refine lv_if_eq (tgt := 14) C.x C.b dX11_day_7 rfl (fun c7 => ?_) (fun c7 => ?_)
  · replace hf := x_ip c7 hf
    refine lv_iconst (v := 0) C.x C.b dX11_day_14 (by decide) ?_
    rw [x_e1 hf, x_e2 hf]
    exact x_iret C hr hW dX11_day_15
  · replace hf := x_in c7 hf
    refine lv_iconst (v := 1) C.x C.b dX11_day_10 (by decide) ?_
    refine lv_goto (tgt := 15) C.x C.b dX11_day_11 rfl ?_
    rw [x_e1 hf, x_e2 hf]
    exact x_iret C hr hW dX11_day_15

theorem dX11_month_0 : decode cX11_month 0 = .ok (.iload_n 1, 1) := by decide +kernel
theorem dX11_month_1 : decode cX11_month 1 = .ok (.iconst 1, 1) := by decide +kernel
theorem dX11_month_2 : decode cX11_month 2 = .ok (.bipush 30, 2) := by decide +kernel
theorem dX11_month_4 : decode cX11_month 4 = .ok (.invokestatic 69, 3) := by decide +kernel
theorem dX11_month_7 : decode cX11_month 7 = .ok (.ifCond .ne 5, 3) := by decide +kernel
theorem dX11_month_10 : decode cX11_month 10 = .ok (.iconst (-1), 1) := by decide +kernel
theorem dX11_month_11 : decode cX11_month 11 = .ok (.ireturn, 1) := by decide +kernel
theorem dX11_month_12 : decode cX11_month 12 = .ok (.aload_n 0, 1) := by decide +kernel
theorem dX11_month_13 : decode cX11_month 13 = .ok (.getfield 23, 3) := by decide +kernel
theorem dX11_month_16 : decode cX11_month 16 = .ok (.aload_n 0, 1) := by decide +kernel
theorem dX11_month_17 : decode cX11_month 17 = .ok (.getfield 10, 3) := by decide +kernel
theorem dX11_month_20 : decode cX11_month 20 = .ok (.invokevirtual 90, 3) := by decide +kernel
theorem dX11_month_23 : decode cX11_month 23 = .ok (.iconst 0, 1) := by decide +kernel
theorem dX11_month_24 : decode cX11_month 24 = .ok (.istore_n 2, 1) := by decide +kernel
theorem dX11_month_25 : decode cX11_month 25 = .ok (.iconst 0, 1) := by decide +kernel
theorem dX11_month_26 : decode cX11_month 26 = .ok (.istore_n 3, 1) := by decide +kernel
theorem dX11_month_27 : decode cX11_month 27 = .ok (.iload_n 3, 1) := by decide +kernel
theorem dX11_month_28 : decode cX11_month 28 = .ok (.iload_n 1, 1) := by decide +kernel
theorem dX11_month_29 : decode cX11_month 29 = .ok (.if_icmp .ge 27, 3) := by decide +kernel
theorem dX11_month_32 : decode cX11_month 32 = .ok (.iload_n 2, 1) := by decide +kernel
theorem dX11_month_33 : decode cX11_month 33 = .ok (.aload_n 0, 1) := by decide +kernel
theorem dX11_month_34 : decode cX11_month 34 = .ok (.getfield 23, 3) := by decide +kernel
theorem dX11_month_37 : decode cX11_month 37 = .ok (.invokevirtual 284, 3) := by decide +kernel
theorem dX11_month_40 : decode cX11_month 40 = .ok (.ifCond .eq 7, 3) := by decide +kernel
theorem dX11_month_43 : decode cX11_month 43 = .ok (.iconst 1, 1) := by decide +kernel
theorem dX11_month_44 : decode cX11_month 44 = .ok (.goto 4, 3) := by decide +kernel
theorem dX11_month_47 : decode cX11_month 47 = .ok (.iconst 0, 1) := by decide +kernel
theorem dX11_month_48 : decode cX11_month 48 = .ok (.iadd, 1) := by decide +kernel
theorem dX11_month_49 : decode cX11_month 49 = .ok (.istore_n 2, 1) := by decide +kernel
theorem dX11_month_50 : decode cX11_month 50 = .ok (.iinc 3 1, 3) := by decide +kernel
theorem dX11_month_53 : decode cX11_month 53 = .ok (.goto (-26), 3) := by decide +kernel
theorem dX11_month_56 : decode cX11_month 56 = .ok (.iload_n 2, 1) := by decide +kernel
theorem dX11_month_57 : decode cX11_month 57 = .ok (.ireturn, 1) := by decide +kernel
def fX11_month_L27 (o : Nat) (v1 : Int32) : Nat → Int32 → Int32 → Mm → Option (Int32 × Mm)
  | 0, _, _, _ => none
  | n + 1, v2, v3, M =>
    if v1 ≤ v3 then
      some (v2, M)
    else
      B1 (rdN M o 14 3) fun a34_6 =>
      B1 (gk M a34_6 3) fun _ =>
      B2 (fX0_liveADay M a34_6) fun x37_8 M37_9 =>
      if x37_8 = 0 then
        fX11_month_L27 o v1 n (v2 + 0) (v3 + 1) M37_9
      else
        fX11_month_L27 o v1 n (v2 + 1) (v3 + 1) M37_9
def fX11_month (M : Mm) (o : Nat) (p1 : Int32) : Option (Int32 × Mm) :=
  B1 (fX11_isWithin M p1 1 30) fun x4_1 =>
  if x4_1 = 0 then
    some ((-1), M)
  else
    B1 (rdN M o 14 3) fun a13_2 =>
    B1 (rdN M o 14 0) fun a17_3 =>
    B1 (gk M a13_2 3) fun _ =>
    B1 (fX0_become M a13_2 a17_3) fun M20_5 =>
    fX11_month_L27 o p1 FL 0 0 M20_5
set_option maxRecDepth 100000 in
set_option maxHeartbeats 4000000 in
theorem kX11_month_L27 {l : Launch} {E : Ev} {p : Program} {e : Env} {s : State} {m : MethodId} {args : Array Value} {below : List Frame} {meth : Method} {c : Code} (C : Cx E p s m args meth c cX11_month yX11_month.cls 4) (hr : meth.sig.returnType = (some .int)) (hin : yX11_month.name = "<init>" → meth.name = "<init>")  {o : Nat} {v1 : Int32} {rz : Int32} {Mz : Mm} : ∀ (n : Nat) (v2 : Int32) (v3 : Int32) (M : Mm), fX11_month_L27 o v1 n v2 v3 M = some (rz, Mz) → ∀ (H : Heap) (locs : List Loc) (ls : Array Slot), Wx E s H locs M → lv_has ls 4 [(0, .ref (E.b + o)), (1, .int v1), (2, .int v2), (3, .int v3)] → W p l e (rM 7 160 0 0) s m args below meth c H locs 0 0 (MQ below (Qp E (some (.int rz)) Mz) args s 0 0 E.A) (F0 m 27 ls []) := by
  intro n
  induction n with
  | zero =>
    intro v2 v3 M hf
    unfold fX11_month_L27 at hf
    cases hf
  | succ n ih =>
    intro v2 v3 M hf H locs ls hW hl
    unfold fX11_month_L27 at hf
    refine lv_iload_n C.x C.b dX11_month_27 rfl (lv_at hl 3 rfl) ?_
    refine lv_iload_n C.x C.b dX11_month_28 rfl (lv_at hl 1 rfl) ?_
    refine lv_icmp_ge (tgt := 56) C.x C.b dX11_month_29 rfl (fun c29 => ?_) (fun c29 => ?_)
    · replace hf := x_ip c29 hf
      refine lv_iload_n C.x C.b dX11_month_56 rfl (lv_at hl 2 rfl) ?_
      rw [x_e1 hf, x_e2 hf]
      exact x_iret C hr hW dX11_month_57
    · replace hf := x_in c29 hf
      refine lv_iload_n C.x C.b dX11_month_32 rfl (lv_at hl 2 rfl) ?_
      refine lv_aload_n C.x C.b dX11_month_33 rfl (lv_at hl 0 rfl) ?_
      replace hf := x_b1 hf; obtain ⟨a34_6, ha34_6, hf⟩ := hf
      refine x_getn C hW fg_X11_23_14 ha34_6 dX11_month_34 ?_
      replace hf := x_b1 hf; obtain ⟨_, hk37_7, hf⟩ := hf
      replace hf := x_b2 hf; obtain ⟨x37_8, M37_9, hx37_8, hf⟩ := hf
      refine x_callV (As := []) (a := a34_6) (rest := [.int v2]) C hW hl (qX0_liveADay l E hx37_8) (x_gk hk37_7) (by decide) (by decide) rfl gv_X11_284 ⟨rfl, hd_X0_liveADay⟩ rfl rfl (Nat.le_of_ble_eq_true rfl) dX11_month_37 ⟨Nat.le_of_ble_eq_true rfl, Nat.le_of_ble_eq_true rfl⟩ ⟨Nat.le_of_ble_eq_true rfl, Nat.le_of_ble_eq_true rfl⟩ (fun H locs hW => ?_)
      refine lv_if_eq (tgt := 47) C.x C.b dX11_month_40 rfl (fun c40 => ?_) (fun c40 => ?_)
      · replace hf := x_ip c40 hf
        refine lv_iconst (v := 0) C.x C.b dX11_month_47 (by decide) ?_
        refine lv_iadd C.x C.b dX11_month_48 ?_
        refine lv_istore_n (lv' := [(2, .int _), (0, .ref (E.b + _)), (1, .int _), (3, .int _)]) C.x C.b dX11_month_49 rfl hl (by decide) rfl (fun ls hl => ?_)
        refine lv_iinc (v := (v3 + 1)) (lv' := [(3, .int (v3 + 1)), (2, .int _), (0, .ref (E.b + _)), (1, .int _)]) C.x C.b dX11_month_50 hl (k := 3) rfl (by first | rfl | decide) (by decide) rfl (fun ls hl => ?_)
        refine lv_goto (tgt := 27) C.x C.b dX11_month_53 rfl ?_
        exact ih (v2 + 0) (v3 + 1) M37_9 hf _ _ _ hW (lv_sub hl [2, 3, 1, 0] rfl)
      · replace hf := x_in c40 hf
        refine lv_iconst (v := 1) C.x C.b dX11_month_43 (by decide) ?_
        refine lv_goto (tgt := 48) C.x C.b dX11_month_44 rfl ?_
        refine lv_iadd C.x C.b dX11_month_48 ?_
        refine lv_istore_n (lv' := [(2, .int _), (0, .ref (E.b + _)), (1, .int _), (3, .int _)]) C.x C.b dX11_month_49 rfl hl (by decide) rfl (fun ls hl => ?_)
        refine lv_iinc (v := (v3 + 1)) (lv' := [(3, .int (v3 + 1)), (2, .int _), (0, .ref (E.b + _)), (1, .int _)]) C.x C.b dX11_month_50 hl (k := 3) rfl (by first | rfl | decide) (by decide) rfl (fun ls hl => ?_)
        refine lv_goto (tgt := 27) C.x C.b dX11_month_53 rfl ?_
        exact ih (v2 + 1) (v3 + 1) M37_9 hf _ _ _ hW (lv_sub hl [2, 3, 1, 0] rfl)
set_option maxRecDepth 100000 in
set_option maxHeartbeats 4000000 in
theorem qX11_month (l : Launch) (E : Ev) {M : Mm} {o : Nat} {p1 : Int32} {rz : Int32} {Mz : Mm} (hf : fX11_month M o p1 = some (rz, Mz)) : Ct l E yX11_month cX11_month 4 (some .int) 7 160 0 0 [.ref (E.b + o), .int p1] M (some (.int rz)) Mz := by
  refine ct_of (by decide +kernel) (Nat.le_of_ble_eq_true rfl) fun p e s m args below meth c C hr hin hW ls hl => ?_
  have hl : lv_has ls 4 [(0, .ref (E.b + o)), (1, .int p1)] := hl
  unfold fX11_month at hf
  refine lv_iload_n C.x C.b dX11_month_0 rfl (lv_at hl 1 rfl) ?_
  refine lv_iconst (v := 1) C.x C.b dX11_month_1 (by decide) ?_
  refine lv_bipush (v := 30) C.x C.b dX11_month_2 (by decide) ?_
  replace hf := x_b1 hf; obtain ⟨x4_1, hx4_1, hf⟩ := hf
  refine x_callS (As := [.int p1, .int 1, .int 30]) (rest := []) C hW hl (qX11_isWithin l E hx4_1) gs_X11_69 hd_X11_isWithin rfl rfl (Nat.le_of_ble_eq_true rfl) dX11_month_4 ⟨Nat.le_of_ble_eq_true rfl, Nat.le_of_ble_eq_true rfl⟩ ⟨Nat.le_of_ble_eq_true rfl, Nat.le_of_ble_eq_true rfl⟩ (fun H locs hW => ?_)
  refine lv_if_ne (tgt := 12) C.x C.b dX11_month_7 rfl (fun c7 => ?_) (fun c7 => ?_)
  · replace hf := x_in c7 hf
    refine lv_aload_n C.x C.b dX11_month_12 rfl (lv_at hl 0 rfl) ?_
    replace hf := x_b1 hf; obtain ⟨a13_2, ha13_2, hf⟩ := hf
    refine x_getn C hW fg_X11_23_14 ha13_2 dX11_month_13 ?_
    refine lv_aload_n C.x C.b dX11_month_16 rfl (lv_at hl 0 rfl) ?_
    replace hf := x_b1 hf; obtain ⟨a17_3, ha17_3, hf⟩ := hf
    refine x_getn C hW fg_X11_10_14 ha17_3 dX11_month_17 ?_
    replace hf := x_b1 hf; obtain ⟨_, hk20_4, hf⟩ := hf
    replace hf := x_b1 hf; obtain ⟨M20_5, hM20_5, hf⟩ := hf
    refine x_callV (As := [.ref (E.b + a17_3)]) (a := a13_2) (rest := []) C hW hl (qX0_become l E hM20_5) (x_gk hk20_4) (by decide) (by decide) rfl gv_X11_90 ⟨rfl, hd_X0_become⟩ rfl rfl (Nat.le_of_ble_eq_true rfl) dX11_month_20 ⟨Nat.le_of_ble_eq_true rfl, Nat.le_of_ble_eq_true rfl⟩ ⟨Nat.le_of_ble_eq_true rfl, Nat.le_of_ble_eq_true rfl⟩ (fun H locs hW => ?_)
    refine lv_iconst (v := 0) C.x C.b dX11_month_23 (by decide) ?_
    refine lv_istore_n (lv' := [(2, .int _), (0, .ref (E.b + _)), (1, .int _)]) C.x C.b dX11_month_24 rfl hl (by decide) rfl (fun ls hl => ?_)
    refine lv_iconst (v := 0) C.x C.b dX11_month_25 (by decide) ?_
    refine lv_istore_n (lv' := [(3, .int _), (2, .int _), (0, .ref (E.b + _)), (1, .int _)]) C.x C.b dX11_month_26 rfl hl (by decide) rfl (fun ls hl => ?_)
    exact kX11_month_L27 C hr hin FL 0 0 M20_5 hf _ _ _ hW (lv_sub hl [2, 3, 1, 0] rfl)
  · replace hf := x_ip c7 hf
    refine lv_iconst (v := (-1)) C.x C.b dX11_month_10 (by decide) ?_
    rw [x_e1 hf, x_e2 hf]
    exact x_iret C hr hW dX11_month_11
