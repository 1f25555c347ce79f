section LAWCASES
theorem gvL_61 : GoodIn gT (wsV RL 61 "NylonLadder" yX11_dabOf (Cond.code yX11_dabOf cX11_dabOf 5 (some .int) :: gT)) := good_V T_3_71 T_3_72 T_3_73 T_1_1 T_3_74
theorem hdL_61 : yX11_dabOf.cls ≠ "java/lang/invoke/MethodHandle" ∧ yX11_dabOf.cls ≠ "java/lang/invoke/VarHandle" ∧ (parseMethodDescriptor yX11_dabOf.desc).map (fun d => d.parameters.length) = some 2 := by decide +kernel
theorem gvL_64 : GoodIn gT (wsV RL 64 "NylonLadderModel" yX12_dabOf (Cond.code yX12_dabOf cX12_dabOf 4 (some .int) :: gT)) := good_V T_6_228 T_6_229 T_6_230 T_1_10 T_6_231
theorem hdL_64 : yX12_dabOf.cls ≠ "java/lang/invoke/MethodHandle" ∧ yX12_dabOf.cls ≠ "java/lang/invoke/VarHandle" ∧ (parseMethodDescriptor yX12_dabOf.desc).map (fun d => d.parameters.length) = some 2 := by decide +kernel
theorem dL_616 : decode code 616 = .ok (.aload_n 1, 1) := by decide +kernel
theorem dL_617 : decode code 617 = .ok (.aload_n 0, 1) := by decide +kernel
theorem dL_618 : decode code 618 = .ok (.iload_n 3, 1) := by decide +kernel
theorem dL_619 : decode code 619 = .ok (.iconst 1, 1) := by decide +kernel
theorem dL_620 : decode code 620 = .ok (.iadd, 1) := by decide +kernel
theorem dL_621 : decode code 621 = .ok (.iaload, 1) := by decide +kernel
theorem dL_622 : decode code 622 = .ok (.aload_n 0, 1) := by decide +kernel
theorem dL_623 : decode code 623 = .ok (.iload_n 3, 1) := by decide +kernel
theorem dL_624 : decode code 624 = .ok (.iconst 2, 1) := by decide +kernel
theorem dL_625 : decode code 625 = .ok (.iadd, 1) := by decide +kernel
theorem dL_626 : decode code 626 = .ok (.iaload, 1) := by decide +kernel
theorem dL_627 : decode code 627 = .ok (.invokevirtual 61, 3) := by decide +kernel
theorem dL_630 : decode code 630 = .ok (.aload_n 2, 1) := by decide +kernel
theorem dL_631 : decode code 631 = .ok (.aload_n 0, 1) := by decide +kernel
theorem dL_632 : decode code 632 = .ok (.iload_n 3, 1) := by decide +kernel
theorem dL_633 : decode code 633 = .ok (.iconst 1, 1) := by decide +kernel
theorem dL_634 : decode code 634 = .ok (.iadd, 1) := by decide +kernel
theorem dL_635 : decode code 635 = .ok (.iaload, 1) := by decide +kernel
theorem dL_636 : decode code 636 = .ok (.aload_n 0, 1) := by decide +kernel
theorem dL_637 : decode code 637 = .ok (.iload_n 3, 1) := by decide +kernel
theorem dL_638 : decode code 638 = .ok (.iconst 2, 1) := by decide +kernel
theorem dL_639 : decode code 639 = .ok (.iadd, 1) := by decide +kernel
theorem dL_640 : decode code 640 = .ok (.iaload, 1) := by decide +kernel
theorem dL_641 : decode code 641 = .ok (.invokevirtual 64, 3) := by decide +kernel
theorem dL_644 : decode code 644 = .ok (.if_icmp .eq 1309, 3) := by decide +kernel
set_option maxRecDepth 100000 in
set_option maxHeartbeats 4000000 in
theorem lc_10 {E : Ev} {p : Program} {l : Launch} {e : Env} {s : State} {m : MethodId} {below : List Frame} {meth : Method} {c : Code} {b L : Nat} {xs : Nat → Int32} {H : Heap} {locs : List Loc} {cells slots : Nat} {Q : State → Prop} {M : Mm} {ls : Array Slot} (Z : LwS E p s m meth c b L xs) (hW : Wx E s H locs M) (hi : Inv M) (L9 : L ≤ 2560) {i : Nat} (hl : lv_has ls 4 (LwL E b i)) (i4 : i + 4 < L) (hc : cells + 15 ≤ 600000) (hs : slots + 200 ≤ 7302250) (kk : ∀ (H : Heap) (locs : List Loc) (M : Mm), Wx E s H locs M → Inv M → W p l e room_1 s m #[Value.ref b] below meth c H locs (cells + 15) (slots + 200) Q (F0 m 1953 ls [])) : W p l e room_1 s m #[Value.ref b] below meth c H locs cells slots Q (F0 m 616 ls []) := by
  have C := Z.1
  obtain ⟨r, h1, h2⟩ := iv_dabOf hi (xs (i + 1)) (xs (i + 2))
  refine lv_aload_n C.x C.b dL_616 rfl (lv_at hl 1 rfl) ?_
  refine la_arg (j := 1) Z hW L9 hl (by omega) rfl dL_617 dL_618 dL_619 dL_620 dL_621 ?_
  refine la_arg (j := 2) Z hW L9 hl (by omega) rfl dL_622 dL_623 dL_624 dL_625 dL_626 ?_
  refine x_callV (As := [.int (xs (i + 1)), .int (xs (i + 2))]) (a := 0) (rest := []) C hW hl (qX11_dabOf l E h1) hi.k0 (by decide) (by decide) rfl gvL_61 ⟨rfl, hdL_61⟩ rfl rfl (Nat.le_of_ble_eq_true rfl) dL_627 ⟨Nat.le_of_ble_eq_true rfl, Nat.le_of_ble_eq_true rfl⟩ ⟨by show cells + _ ≤ 600000; omega, by show slots + _ ≤ 7302250; omega⟩ (fun H locs hW => ?_)
  refine lv_aload_n C.x C.b dL_630 rfl (lv_at hl 2 rfl) ?_
  refine la_arg (j := 1) Z hW L9 hl (by omega) rfl dL_631 dL_632 dL_633 dL_634 dL_635 ?_
  refine la_arg (j := 2) Z hW L9 hl (by omega) rfl dL_636 dL_637 dL_638 dL_639 dL_640 ?_
  refine x_callV (As := [.int (xs (i + 1)), .int (xs (i + 2))]) (a := 164) (rest := [.int r]) C hW hl (qX12_dabOf l E h2) hi.k164 (by decide) (by decide) rfl gvL_64 ⟨rfl, hdL_64⟩ rfl rfl (Nat.le_of_ble_eq_true rfl) dL_641 ⟨Nat.le_of_ble_eq_true rfl, Nat.le_of_ble_eq_true rfl⟩ ⟨by show cells + _ + _ ≤ 600000; omega, by show slots + _ + _ ≤ 7302250; omega⟩ (fun H locs hW => ?_)
  refine lv_icmp_eq (tgt := 1953) C.x C.b dL_644 rfl (fun _ => ?_) (fun c_ => absurd rfl c_)
  refine W.widen (k := cells + 15) (n := slots + 200) (by omega) (by omega) ?_
  exact kk _ _ _ hW hi
theorem gvL_65 : GoodIn gT (wsV RL 65 "NylonLadder" yX11_wash (Cond.code yX11_wash cX11_wash 4 (some .int) :: gT)) := good_V T_3_76 T_3_77 T_3_78 T_1_1 T_3_79
theorem hdL_65 : yX11_wash.cls ≠ "java/lang/invoke/MethodHandle" ∧ yX11_wash.cls ≠ "java/lang/invoke/VarHandle" ∧ (parseMethodDescriptor yX11_wash.desc).map (fun d => d.parameters.length) = some 1 := by decide +kernel
theorem gvL_68 : GoodIn gT (wsV RL 68 "NylonLadderModel" yX12_wash (Cond.code yX12_wash cX12_wash 3 (some .int) :: gT)) := good_V T_6_232 T_6_233 T_6_234 T_1_10 T_6_235
theorem hdL_68 : yX12_wash.cls ≠ "java/lang/invoke/MethodHandle" ∧ yX12_wash.cls ≠ "java/lang/invoke/VarHandle" ∧ (parseMethodDescriptor yX12_wash.desc).map (fun d => d.parameters.length) = some 1 := by decide +kernel
theorem dL_649 : decode code 649 = .ok (.aload_n 1, 1) := by decide +kernel
theorem dL_650 : decode code 650 = .ok (.aload_n 0, 1) := by decide +kernel
theorem dL_651 : decode code 651 = .ok (.iload_n 3, 1) := by decide +kernel
theorem dL_652 : decode code 652 = .ok (.iconst 1, 1) := by decide +kernel
theorem dL_653 : decode code 653 = .ok (.iadd, 1) := by decide +kernel
theorem dL_654 : decode code 654 = .ok (.iaload, 1) := by decide +kernel
theorem dL_655 : decode code 655 = .ok (.invokevirtual 65, 3) := by decide +kernel
theorem dL_658 : decode code 658 = .ok (.aload_n 2, 1) := by decide +kernel
theorem dL_659 : decode code 659 = .ok (.aload_n 0, 1) := by decide +kernel
theorem dL_660 : decode code 660 = .ok (.iload_n 3, 1) := by decide +kernel
theorem dL_661 : decode code 661 = .ok (.iconst 1, 1) := by decide +kernel
theorem dL_662 : decode code 662 = .ok (.iadd, 1) := by decide +kernel
theorem dL_663 : decode code 663 = .ok (.iaload, 1) := by decide +kernel
theorem dL_664 : decode code 664 = .ok (.invokevirtual 68, 3) := by decide +kernel
theorem dL_667 : decode code 667 = .ok (.if_icmp .eq 1286, 3) := by decide +kernel
set_option maxRecDepth 100000 in
set_option maxHeartbeats 4000000 in
theorem lc_11 {E : Ev} {p : Program} {l : Launch} {e : Env} {s : State} {m : MethodId} {below : List Frame} {meth : Method} {c : Code} {b L : Nat} {xs : Nat → Int32} {H : Heap} {locs : List Loc} {cells slots : Nat} {Q : State → Prop} {M : Mm} {ls : Array Slot} (Z : LwS E p s m meth c b L xs) (hW : Wx E s H locs M) (hi : Inv M) (L9 : L ≤ 2560) {i : Nat} (hl : lv_has ls 4 (LwL E b i)) (i4 : i + 4 < L) (hc : cells + 15 ≤ 600000) (hs : slots + 200 ≤ 7302250) (kk : ∀ (H : Heap) (locs : List Loc) (M : Mm), Wx E s H locs M → Inv M → W p l e room_1 s m #[Value.ref b] below meth c H locs (cells + 15) (slots + 200) Q (F0 m 1953 ls [])) : W p l e room_1 s m #[Value.ref b] below meth c H locs cells slots Q (F0 m 649 ls []) := by
  have C := Z.1
  obtain ⟨r, M1, M2, h1, h2, k1, v2⟩ := iv_wash hi (xs (i + 1))
  refine lv_aload_n C.x C.b dL_649 rfl (lv_at hl 1 rfl) ?_
  refine la_arg (j := 1) Z hW L9 hl (by omega) rfl dL_650 dL_651 dL_652 dL_653 dL_654 ?_
  refine x_callV (As := [.int (xs (i + 1))]) (a := 0) (rest := []) C hW hl (qX11_wash l E h1) hi.k0 (by decide) (by decide) rfl gvL_65 ⟨rfl, hdL_65⟩ rfl rfl (Nat.le_of_ble_eq_true rfl) dL_655 ⟨Nat.le_of_ble_eq_true rfl, Nat.le_of_ble_eq_true rfl⟩ ⟨by show cells + _ ≤ 600000; omega, by show slots + _ ≤ 7302250; omega⟩ (fun H locs hW => ?_)
  refine lv_aload_n C.x C.b dL_658 rfl (lv_at hl 2 rfl) ?_
  refine la_arg (j := 1) Z hW L9 hl (by omega) rfl dL_659 dL_660 dL_661 dL_662 dL_663 ?_
  refine x_callV (As := [.int (xs (i + 1))]) (a := 164) (rest := [.int r]) C hW hl (qX12_wash l E h2) k1 (by decide) (by decide) rfl gvL_68 ⟨rfl, hdL_68⟩ rfl rfl (Nat.le_of_ble_eq_true rfl) dL_664 ⟨Nat.le_of_ble_eq_true rfl, Nat.le_of_ble_eq_true rfl⟩ ⟨by show cells + _ + _ ≤ 600000; omega, by show slots + _ + _ ≤ 7302250; omega⟩ (fun H locs hW => ?_)
  refine lv_icmp_eq (tgt := 1953) C.x C.b dL_667 rfl (fun _ => ?_) (fun c_ => absurd rfl c_)
  refine W.widen (k := cells + 15) (n := slots + 200) (by omega) (by omega) ?_
  exact kk _ _ _ hW v2
theorem gvL_69 : GoodIn gT (wsV RL 69 "NylonLadder" yX11_mend (Cond.code yX11_mend cX11_mend 4 (some .int) :: gT)) := good_V T_3_81 T_3_82 T_3_83 T_1_1 T_3_84
theorem hdL_69 : yX11_mend.cls ≠ "java/lang/invoke/MethodHandle" ∧ yX11_mend.cls ≠ "java/lang/invoke/VarHandle" ∧ (parseMethodDescriptor yX11_mend.desc).map (fun d => d.parameters.length) = some 1 := by decide +kernel
theorem gvL_72 : GoodIn gT (wsV RL 72 "NylonLadderModel" yX12_mend (Cond.code yX12_mend cX12_mend 3 (some .int) :: gT)) := good_V T_6_236 T_6_237 T_6_238 T_1_10 T_6_239
theorem hdL_72 : yX12_mend.cls ≠ "java/lang/invoke/MethodHandle" ∧ yX12_mend.cls ≠ "java/lang/invoke/VarHandle" ∧ (parseMethodDescriptor yX12_mend.desc).map (fun d => d.parameters.length) = some 1 := by decide +kernel
theorem dL_672 : decode code 672 = .ok (.aload_n 1, 1) := by decide +kernel
theorem dL_673 : decode code 673 = .ok (.aload_n 0, 1) := by decide +kernel
theorem dL_674 : decode code 674 = .ok (.iload_n 3, 1) := by decide +kernel
theorem dL_675 : decode code 675 = .ok (.iconst 1, 1) := by decide +kernel
theorem dL_676 : decode code 676 = .ok (.iadd, 1) := by decide +kernel
theorem dL_677 : decode code 677 = .ok (.iaload, 1) := by decide +kernel
theorem dL_678 : decode code 678 = .ok (.invokevirtual 69, 3) := by decide +kernel
theorem dL_681 : decode code 681 = .ok (.aload_n 2, 1) := by decide +kernel
theorem dL_682 : decode code 682 = .ok (.aload_n 0, 1) := by decide +kernel
theorem dL_683 : decode code 683 = .ok (.iload_n 3, 1) := by decide +kernel
theorem dL_684 : decode code 684 = .ok (.iconst 1, 1) := by decide +kernel
theorem dL_685 : decode code 685 = .ok (.iadd, 1) := by decide +kernel
theorem dL_686 : decode code 686 = .ok (.iaload, 1) := by decide +kernel
theorem dL_687 : decode code 687 = .ok (.invokevirtual 72, 3) := by decide +kernel
theorem dL_690 : decode code 690 = .ok (.if_icmp .eq 1263, 3) := by decide +kernel
set_option maxRecDepth 100000 in
set_option maxHeartbeats 4000000 in
theorem lc_12 {E : Ev} {p : Program} {l : Launch} {e : Env} {s : State} {m : MethodId} {below : List Frame} {meth : Method} {c : Code} {b L : Nat} {xs : Nat → Int32} {H : Heap} {locs : List Loc} {cells slots : Nat} {Q : State → Prop} {M : Mm} {ls : Array Slot} (Z : LwS E p s m meth c b L xs) (hW : Wx E s H locs M) (hi : Inv M) (L9 : L ≤ 2560) {i : Nat} (hl : lv_has ls 4 (LwL E b i)) (i4 : i + 4 < L) (hc : cells + 15 ≤ 600000) (hs : slots + 200 ≤ 7302250) (kk : ∀ (H : Heap) (locs : List Loc) (M : Mm), Wx E s H locs M → Inv M → W p l e room_1 s m #[Value.ref b] below meth c H locs (cells + 15) (slots + 200) Q (F0 m 1953 ls [])) : W p l e room_1 s m #[Value.ref b] below meth c H locs cells slots Q (F0 m 672 ls []) := by
  have C := Z.1
  obtain ⟨r, M1, M2, h1, h2, k1, v2⟩ := iv_mend hi (xs (i + 1))
  refine lv_aload_n C.x C.b dL_672 rfl (lv_at hl 1 rfl) ?_
  refine la_arg (j := 1) Z hW L9 hl (by omega) rfl dL_673 dL_674 dL_675 dL_676 dL_677 ?_
  refine x_callV (As := [.int (xs (i + 1))]) (a := 0) (rest := []) C hW hl (qX11_mend l E h1) hi.k0 (by decide) (by decide) rfl gvL_69 ⟨rfl, hdL_69⟩ rfl rfl (Nat.le_of_ble_eq_true rfl) dL_678 ⟨Nat.le_of_ble_eq_true rfl, Nat.le_of_ble_eq_true rfl⟩ ⟨by show cells + _ ≤ 600000; omega, by show slots + _ ≤ 7302250; omega⟩ (fun H locs hW => ?_)
  refine lv_aload_n C.x C.b dL_681 rfl (lv_at hl 2 rfl) ?_
  refine la_arg (j := 1) Z hW L9 hl (by omega) rfl dL_682 dL_683 dL_684 dL_685 dL_686 ?_
  refine x_callV (As := [.int (xs (i + 1))]) (a := 164) (rest := [.int r]) C hW hl (qX12_mend l E h2) k1 (by decide) (by decide) rfl gvL_72 ⟨rfl, hdL_72⟩ rfl rfl (Nat.le_of_ble_eq_true rfl) dL_687 ⟨Nat.le_of_ble_eq_true rfl, Nat.le_of_ble_eq_true rfl⟩ ⟨by show cells + _ + _ ≤ 600000; omega, by show slots + _ + _ ≤ 7302250; omega⟩ (fun H locs hW => ?_)
  refine lv_icmp_eq (tgt := 1953) C.x C.b dL_690 rfl (fun _ => ?_) (fun c_ => absurd rfl c_)
  refine W.widen (k := cells + 15) (n := slots + 200) (by omega) (by omega) ?_
  exact kk _ _ _ hW v2
theorem gvL_73 : GoodIn gT (wsV RL 73 "NylonLadder" yX11_wear (Cond.code yX11_wear cX11_wear 4 (some .int) :: gT)) := good_V T_3_92 T_3_93 T_3_94 T_1_1 T_3_95
theorem hdL_73 : yX11_wear.cls ≠ "java/lang/invoke/MethodHandle" ∧ yX11_wear.cls ≠ "java/lang/invoke/VarHandle" ∧ (parseMethodDescriptor yX11_wear.desc).map (fun d => d.parameters.length) = some 2 := by decide +kernel
theorem gvL_76 : GoodIn gT (wsV RL 76 "NylonLadderModel" yX12_wear (Cond.code yX12_wear cX12_wear 4 (some .int) :: gT)) := good_V T_7_0 T_7_1 T_7_2 T_1_10 T_7_3
theorem hdL_76 : yX12_wear.cls ≠ "java/lang/invoke/MethodHandle" ∧ yX12_wear.cls ≠ "java/lang/invoke/VarHandle" ∧ (parseMethodDescriptor yX12_wear.desc).map (fun d => d.parameters.length) = some 2 := by decide +kernel
theorem dL_695 : decode code 695 = .ok (.aload_n 1, 1) := by decide +kernel
theorem dL_696 : decode code 696 = .ok (.aload_n 0, 1) := by decide +kernel
theorem dL_697 : decode code 697 = .ok (.iload_n 3, 1) := by decide +kernel
theorem dL_698 : decode code 698 = .ok (.iconst 1, 1) := by decide +kernel
theorem dL_699 : decode code 699 = .ok (.iadd, 1) := by decide +kernel
theorem dL_700 : decode code 700 = .ok (.iaload, 1) := by decide +kernel
theorem dL_701 : decode code 701 = .ok (.aload_n 0, 1) := by decide +kernel
theorem dL_702 : decode code 702 = .ok (.iload_n 3, 1) := by decide +kernel
theorem dL_703 : decode code 703 = .ok (.iconst 2, 1) := by decide +kernel
theorem dL_704 : decode code 704 = .ok (.iadd, 1) := by decide +kernel
theorem dL_705 : decode code 705 = .ok (.iaload, 1) := by decide +kernel
theorem dL_706 : decode code 706 = .ok (.invokevirtual 73, 3) := by decide +kernel
theorem dL_709 : decode code 709 = .ok (.aload_n 2, 1) := by decide +kernel
theorem dL_710 : decode code 710 = .ok (.aload_n 0, 1) := by decide +kernel
theorem dL_711 : decode code 711 = .ok (.iload_n 3, 1) := by decide +kernel
theorem dL_712 : decode code 712 = .ok (.iconst 1, 1) := by decide +kernel
theorem dL_713 : decode code 713 = .ok (.iadd, 1) := by decide +kernel
theorem dL_714 : decode code 714 = .ok (.iaload, 1) := by decide +kernel
theorem dL_715 : decode code 715 = .ok (.aload_n 0, 1) := by decide +kernel
theorem dL_716 : decode code 716 = .ok (.iload_n 3, 1) := by decide +kernel
theorem dL_717 : decode code 717 = .ok (.iconst 2, 1) := by decide +kernel
theorem dL_718 : decode code 718 = .ok (.iadd, 1) := by decide +kernel
theorem dL_719 : decode code 719 = .ok (.iaload, 1) := by decide +kernel
theorem dL_720 : decode code 720 = .ok (.invokevirtual 76, 3) := by decide +kernel
theorem dL_723 : decode code 723 = .ok (.if_icmp .eq 1230, 3) := by decide +kernel
set_option maxRecDepth 100000 in
set_option maxHeartbeats 4000000 in
theorem lc_13 {E : Ev} {p : Program} {l : Launch} {e : Env} {s : State} {m : MethodId} {below : List Frame} {meth : Method} {c : Code} {b L : Nat} {xs : Nat → Int32} {H : Heap} {locs : List Loc} {cells slots : Nat} {Q : State → Prop} {M : Mm} {ls : Array Slot} (Z : LwS E p s m meth c b L xs) (hW : Wx E s H locs M) (hi : Inv M) (L9 : L ≤ 2560) {i : Nat} (hl : lv_has ls 4 (LwL E b i)) (i4 : i + 4 < L) (hc : cells + 15 ≤ 600000) (hs : slots + 200 ≤ 7302250) (kk : ∀ (H : Heap) (locs : List Loc) (M : Mm), Wx E s H locs M → Inv M → W p l e room_1 s m #[Value.ref b] below meth c H locs (cells + 15) (slots + 200) Q (F0 m 1953 ls [])) : W p l e room_1 s m #[Value.ref b] below meth c H locs cells slots Q (F0 m 695 ls []) := by
  have C := Z.1
  obtain ⟨r, M1, M2, h1, h2, k1, v2⟩ := iv_wear hi (xs (i + 1)) (xs (i + 2))
  refine lv_aload_n C.x C.b dL_695 rfl (lv_at hl 1 rfl) ?_
  refine la_arg (j := 1) Z hW L9 hl (by omega) rfl dL_696 dL_697 dL_698 dL_699 dL_700 ?_
  refine la_arg (j := 2) Z hW L9 hl (by omega) rfl dL_701 dL_702 dL_703 dL_704 dL_705 ?_
  refine x_callV (As := [.int (xs (i + 1)), .int (xs (i + 2))]) (a := 0) (rest := []) C hW hl (qX11_wear l E h1) hi.k0 (by decide) (by decide) rfl gvL_73 ⟨rfl, hdL_73⟩ rfl rfl (Nat.le_of_ble_eq_true rfl) dL_706 ⟨Nat.le_of_ble_eq_true rfl, Nat.le_of_ble_eq_true rfl⟩ ⟨by show cells + _ ≤ 600000; omega, by show slots + _ ≤ 7302250; omega⟩ (fun H locs hW => ?_)
  refine lv_aload_n C.x C.b dL_709 rfl (lv_at hl 2 rfl) ?_
  refine la_arg (j := 1) Z hW L9 hl (by omega) rfl dL_710 dL_711 dL_712 dL_713 dL_714 ?_
  refine la_arg (j := 2) Z hW L9 hl (by omega) rfl dL_715 dL_716 dL_717 dL_718 dL_719 ?_
  refine x_callV (As := [.int (xs (i + 1)), .int (xs (i + 2))]) (a := 164) (rest := [.int r]) C hW hl (qX12_wear l E h2) k1 (by decide) (by decide) rfl gvL_76 ⟨rfl, hdL_76⟩ rfl rfl (Nat.le_of_ble_eq_true rfl) dL_720 ⟨Nat.le_of_ble_eq_true rfl, Nat.le_of_ble_eq_true rfl⟩ ⟨by show cells + _ + _ ≤ 600000; omega, by show slots + _ + _ ≤ 7302250; omega⟩ (fun H locs hW => ?_)
  refine lv_icmp_eq (tgt := 1953) C.x C.b dL_723 rfl (fun _ => ?_) (fun c_ => absurd rfl c_)
  refine W.widen (k := cells + 15) (n := slots + 200) (by omega) (by omega) ?_
  exact kk _ _ _ hW v2
theorem gvL_77 : GoodIn gT (wsV RL 77 "NylonLadder" yX11_leg (Cond.code yX11_leg cX11_leg 5 (some .int) :: gT)) := good_V T_3_99 T_3_100 T_3_101 T_1_1 T_3_102
theorem hdL_77 : yX11_leg.cls ≠ "java/lang/invoke/MethodHandle" ∧ yX11_leg.cls ≠ "java/lang/invoke/VarHandle" ∧ (parseMethodDescriptor yX11_leg.desc).map (fun d => d.parameters.length) = some 3 := by decide +kernel
theorem gvL_80 : GoodIn gT (wsV RL 80 "NylonLadderModel" yX12_leg (Cond.code yX12_leg cX12_leg 4 (some .int) :: gT)) := good_V T_7_7 T_7_8 T_7_9 T_1_10 T_7_10
theorem hdL_80 : yX12_leg.cls ≠ "java/lang/invoke/MethodHandle" ∧ yX12_leg.cls ≠ "java/lang/invoke/VarHandle" ∧ (parseMethodDescriptor yX12_leg.desc).map (fun d => d.parameters.length) = some 3 := by decide +kernel
theorem dL_728 : decode code 728 = .ok (.aload_n 1, 1) := by decide +kernel
theorem dL_729 : decode code 729 = .ok (.aload_n 0, 1) := by decide +kernel
theorem dL_730 : decode code 730 = .ok (.iload_n 3, 1) := by decide +kernel
theorem dL_731 : decode code 731 = .ok (.iconst 1, 1) := by decide +kernel
theorem dL_732 : decode code 732 = .ok (.iadd, 1) := by decide +kernel
theorem dL_733 : decode code 733 = .ok (.iaload, 1) := by decide +kernel
theorem dL_734 : decode code 734 = .ok (.aload_n 0, 1) := by decide +kernel
theorem dL_735 : decode code 735 = .ok (.iload_n 3, 1) := by decide +kernel
theorem dL_736 : decode code 736 = .ok (.iconst 2, 1) := by decide +kernel
theorem dL_737 : decode code 737 = .ok (.iadd, 1) := by decide +kernel
theorem dL_738 : decode code 738 = .ok (.iaload, 1) := by decide +kernel
theorem dL_739 : decode code 739 = .ok (.aload_n 0, 1) := by decide +kernel
theorem dL_740 : decode code 740 = .ok (.iload_n 3, 1) := by decide +kernel
theorem dL_741 : decode code 741 = .ok (.iconst 3, 1) := by decide +kernel
theorem dL_742 : decode code 742 = .ok (.iadd, 1) := by decide +kernel
theorem dL_743 : decode code 743 = .ok (.iaload, 1) := by decide +kernel
theorem dL_744 : decode code 744 = .ok (.invokevirtual 77, 3) := by decide +kernel
theorem dL_747 : decode code 747 = .ok (.aload_n 2, 1) := by decide +kernel
theorem dL_748 : decode code 748 = .ok (.aload_n 0, 1) := by decide +kernel
theorem dL_749 : decode code 749 = .ok (.iload_n 3, 1) := by decide +kernel
theorem dL_750 : decode code 750 = .ok (.iconst 1, 1) := by decide +kernel
theorem dL_751 : decode code 751 = .ok (.iadd, 1) := by decide +kernel
theorem dL_752 : decode code 752 = .ok (.iaload, 1) := by decide +kernel
theorem dL_753 : decode code 753 = .ok (.aload_n 0, 1) := by decide +kernel
theorem dL_754 : decode code 754 = .ok (.iload_n 3, 1) := by decide +kernel
theorem dL_755 : decode code 755 = .ok (.iconst 2, 1) := by decide +kernel
theorem dL_756 : decode code 756 = .ok (.iadd, 1) := by decide +kernel
theorem dL_757 : decode code 757 = .ok (.iaload, 1) := by decide +kernel
theorem dL_758 : decode code 758 = .ok (.aload_n 0, 1) := by decide +kernel
theorem dL_759 : decode code 759 = .ok (.iload_n 3, 1) := by decide +kernel
theorem dL_760 : decode code 760 = .ok (.iconst 3, 1) := by decide +kernel
theorem dL_761 : decode code 761 = .ok (.iadd, 1) := by decide +kernel
theorem dL_762 : decode code 762 = .ok (.iaload, 1) := by decide +kernel
theorem dL_763 : decode code 763 = .ok (.invokevirtual 80, 3) := by decide +kernel
theorem dL_766 : decode code 766 = .ok (.if_icmp .eq 1187, 3) := by decide +kernel
set_option maxRecDepth 100000 in
set_option maxHeartbeats 4000000 in
theorem lc_14 {E : Ev} {p : Program} {l : Launch} {e : Env} {s : State} {m : MethodId} {below : List Frame} {meth : Method} {c : Code} {b L : Nat} {xs : Nat → Int32} {H : Heap} {locs : List Loc} {cells slots : Nat} {Q : State → Prop} {M : Mm} {ls : Array Slot} (Z : LwS E p s m meth c b L xs) (hW : Wx E s H locs M) (hi : Inv M) (L9 : L ≤ 2560) {i : Nat} (hl : lv_has ls 4 (LwL E b i)) (i4 : i + 4 < L) (hc : cells + 15 ≤ 600000) (hs : slots + 200 ≤ 7302250) (kk : ∀ (H : Heap) (locs : List Loc) (M : Mm), Wx E s H locs M → Inv M → W p l e room_1 s m #[Value.ref b] below meth c H locs (cells + 15) (slots + 200) Q (F0 m 1953 ls [])) : W p l e room_1 s m #[Value.ref b] below meth c H locs cells slots Q (F0 m 728 ls []) := by
  have C := Z.1
  obtain ⟨r, M1, M2, h1, h2, k1, v2⟩ := iv_leg hi (xs (i + 1)) (xs (i + 2)) (xs (i + 3))
  refine lv_aload_n C.x C.b dL_728 rfl (lv_at hl 1 rfl) ?_
  refine la_arg (j := 1) Z hW L9 hl (by omega) rfl dL_729 dL_730 dL_731 dL_732 dL_733 ?_
  refine la_arg (j := 2) Z hW L9 hl (by omega) rfl dL_734 dL_735 dL_736 dL_737 dL_738 ?_
  refine la_arg (j := 3) Z hW L9 hl (by omega) rfl dL_739 dL_740 dL_741 dL_742 dL_743 ?_
  refine x_callV (As := [.int (xs (i + 1)), .int (xs (i + 2)), .int (xs (i + 3))]) (a := 0) (rest := []) C hW hl (qX11_leg l E h1) hi.k0 (by decide) (by decide) rfl gvL_77 ⟨rfl, hdL_77⟩ rfl rfl (Nat.le_of_ble_eq_true rfl) dL_744 ⟨Nat.le_of_ble_eq_true rfl, Nat.le_of_ble_eq_true rfl⟩ ⟨by show cells + _ ≤ 600000; omega, by show slots + _ ≤ 7302250; omega⟩ (fun H locs hW => ?_)
  refine lv_aload_n C.x C.b dL_747 rfl (lv_at hl 2 rfl) ?_
  refine la_arg (j := 1) Z hW L9 hl (by omega) rfl dL_748 dL_749 dL_750 dL_751 dL_752 ?_
  refine la_arg (j := 2) Z hW L9 hl (by omega) rfl dL_753 dL_754 dL_755 dL_756 dL_757 ?_
  refine la_arg (j := 3) Z hW L9 hl (by omega) rfl dL_758 dL_759 dL_760 dL_761 dL_762 ?_
  refine x_callV (As := [.int (xs (i + 1)), .int (xs (i + 2)), .int (xs (i + 3))]) (a := 164) (rest := [.int r]) C hW hl (qX12_leg l E h2) k1 (by decide) (by decide) rfl gvL_80 ⟨rfl, hdL_80⟩ rfl rfl (Nat.le_of_ble_eq_true rfl) dL_763 ⟨Nat.le_of_ble_eq_true rfl, Nat.le_of_ble_eq_true rfl⟩ ⟨by show cells + _ + _ ≤ 600000; omega, by show slots + _ + _ ≤ 7302250; omega⟩ (fun H locs hW => ?_)
  refine lv_icmp_eq (tgt := 1953) C.x C.b dL_766 rfl (fun _ => ?_) (fun c_ => absurd rfl c_)
  refine W.widen (k := cells + 15) (n := slots + 200) (by omega) (by omega) ?_
  exact kk _ _ _ hW v2
end LAWCASES
