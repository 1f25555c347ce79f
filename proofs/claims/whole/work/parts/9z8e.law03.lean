section LAWCASES
theorem gvL_81 : GoodIn gT (wsV RL 81 "NylonLadder" yX11_legOf (Cond.code yX11_legOf cX11_legOf 5 (some .int) :: gT)) := good_V T_3_108 T_3_109 T_3_110 T_1_1 T_3_111
theorem hdL_81 : yX11_legOf.cls ≠ "java/lang/invoke/MethodHandle" ∧ yX11_legOf.cls ≠ "java/lang/invoke/VarHandle" ∧ (parseMethodDescriptor yX11_legOf.desc).map (fun d => d.parameters.length) = some 3 := by decide +kernel
theorem gvL_84 : GoodIn gT (wsV RL 84 "NylonLadderModel" yX12_legOf (Cond.code yX12_legOf cX12_legOf 4 (some .int) :: gT)) := good_V T_7_15 T_7_16 T_7_17 T_1_10 T_7_18
theorem hdL_84 : yX12_legOf.cls ≠ "java/lang/invoke/MethodHandle" ∧ yX12_legOf.cls ≠ "java/lang/invoke/VarHandle" ∧ (parseMethodDescriptor yX12_legOf.desc).map (fun d => d.parameters.length) = some 3 := by decide +kernel
theorem dL_771 : decode code 771 = .ok (.aload_n 1, 1) := by decide +kernel
theorem dL_772 : decode code 772 = .ok (.aload_n 0, 1) := by decide +kernel
theorem dL_773 : decode code 773 = .ok (.iload_n 3, 1) := by decide +kernel
theorem dL_774 : decode code 774 = .ok (.iconst 1, 1) := by decide +kernel
theorem dL_775 : decode code 775 = .ok (.iadd, 1) := by decide +kernel
theorem dL_776 : decode code 776 = .ok (.iaload, 1) := by decide +kernel
theorem dL_777 : decode code 777 = .ok (.aload_n 0, 1) := by decide +kernel
theorem dL_778 : decode code 778 = .ok (.iload_n 3, 1) := by decide +kernel
theorem dL_779 : decode code 779 = .ok (.iconst 2, 1) := by decide +kernel
theorem dL_780 : decode code 780 = .ok (.iadd, 1) := by decide +kernel
theorem dL_781 : decode code 781 = .ok (.iaload, 1) := by decide +kernel
theorem dL_782 : decode code 782 = .ok (.aload_n 0, 1) := by decide +kernel
theorem dL_783 : decode code 783 = .ok (.iload_n 3, 1) := by decide +kernel
theorem dL_784 : decode code 784 = .ok (.iconst 3, 1) := by decide +kernel
theorem dL_785 : decode code 785 = .ok (.iadd, 1) := by decide +kernel
theorem dL_786 : decode code 786 = .ok (.iaload, 1) := by decide +kernel
theorem dL_787 : decode code 787 = .ok (.invokevirtual 81, 3) := by decide +kernel
theorem dL_790 : decode code 790 = .ok (.aload_n 2, 1) := by decide +kernel
theorem dL_791 : decode code 791 = .ok (.aload_n 0, 1) := by decide +kernel
theorem dL_792 : decode code 792 = .ok (.iload_n 3, 1) := by decide +kernel
theorem dL_793 : decode code 793 = .ok (.iconst 1, 1) := by decide +kernel
theorem dL_794 : decode code 794 = .ok (.iadd, 1) := by decide +kernel
theorem dL_795 : decode code 795 = .ok (.iaload, 1) := by decide +kernel
theorem dL_796 : decode code 796 = .ok (.aload_n 0, 1) := by decide +kernel
theorem dL_797 : decode code 797 = .ok (.iload_n 3, 1) := by decide +kernel
theorem dL_798 : decode code 798 = .ok (.iconst 2, 1) := by decide +kernel
theorem dL_799 : decode code 799 = .ok (.iadd, 1) := by decide +kernel
theorem dL_800 : decode code 800 = .ok (.iaload, 1) := by decide +kernel
theorem dL_801 : decode code 801 = .ok (.aload_n 0, 1) := by decide +kernel
theorem dL_802 : decode code 802 = .ok (.iload_n 3, 1) := by decide +kernel
theorem dL_803 : decode code 803 = .ok (.iconst 3, 1) := by decide +kernel
theorem dL_804 : decode code 804 = .ok (.iadd, 1) := by decide +kernel
theorem dL_805 : decode code 805 = .ok (.iaload, 1) := by decide +kernel
theorem dL_806 : decode code 806 = .ok (.invokevirtual 84, 3) := by decide +kernel
theorem dL_809 : decode code 809 = .ok (.if_icmp .eq 1144, 3) := by decide +kernel
set_option maxRecDepth 100000 in
set_option maxHeartbeats 4000000 in
theorem lc_15 {E : Ev} {p : Program} {l : Launch} {e : Env} {s : State} {m : MethodId} {below : List Frame} {meth : Method} {c : Code} {b L : Nat} {xs : Nat → Int32} {H : Heap} {locs : List Loc} {cells slots : Nat} {Q : State → Prop} {M : Mm} {ls : Array Slot} (Z : LwS E p s m meth c b L xs) (hW : Wx E s H locs M) (hi : Inv M) (L9 : L ≤ 2560) {i : Nat} (hl : lv_has ls 4 (LwL E b i)) (i4 : i + 4 < L) (hc : cells + 15 ≤ 600000) (hs : slots + 200 ≤ 7302250) (kk : ∀ (H : Heap) (locs : List Loc) (M : Mm), Wx E s H locs M → Inv M → W p l e room_1 s m #[Value.ref b] below meth c H locs (cells + 15) (slots + 200) Q (F0 m 1953 ls [])) : W p l e room_1 s m #[Value.ref b] below meth c H locs cells slots Q (F0 m 771 ls []) := by
  have C := Z.1
  obtain ⟨r, h1, h2⟩ := iv_legOf hi (xs (i + 1)) (xs (i + 2)) (xs (i + 3))
  refine lv_aload_n C.x C.b dL_771 rfl (lv_at hl 1 rfl) ?_
  refine la_arg (j := 1) Z hW L9 hl (by omega) rfl dL_772 dL_773 dL_774 dL_775 dL_776 ?_
  refine la_arg (j := 2) Z hW L9 hl (by omega) rfl dL_777 dL_778 dL_779 dL_780 dL_781 ?_
  refine la_arg (j := 3) Z hW L9 hl (by omega) rfl dL_782 dL_783 dL_784 dL_785 dL_786 ?_
  refine x_callV (As := [.int (xs (i + 1)), .int (xs (i + 2)), .int (xs (i + 3))]) (a := 0) (rest := []) C hW hl (qX11_legOf l E h1) hi.k0 (by decide) (by decide) rfl gvL_81 ⟨rfl, hdL_81⟩ rfl rfl (Nat.le_of_ble_eq_true rfl) dL_787 ⟨Nat.le_of_ble_eq_true rfl, Nat.le_of_ble_eq_true rfl⟩ ⟨by show cells + _ ≤ 600000; omega, by show slots + _ ≤ 7302250; omega⟩ (fun H locs hW => ?_)
  refine lv_aload_n C.x C.b dL_790 rfl (lv_at hl 2 rfl) ?_
  refine la_arg (j := 1) Z hW L9 hl (by omega) rfl dL_791 dL_792 dL_793 dL_794 dL_795 ?_
  refine la_arg (j := 2) Z hW L9 hl (by omega) rfl dL_796 dL_797 dL_798 dL_799 dL_800 ?_
  refine la_arg (j := 3) Z hW L9 hl (by omega) rfl dL_801 dL_802 dL_803 dL_804 dL_805 ?_
  refine x_callV (As := [.int (xs (i + 1)), .int (xs (i + 2)), .int (xs (i + 3))]) (a := 164) (rest := [.int r]) C hW hl (qX12_legOf l E h2) hi.k164 (by decide) (by decide) rfl gvL_84 ⟨rfl, hdL_84⟩ rfl rfl (Nat.le_of_ble_eq_true rfl) dL_806 ⟨Nat.le_of_ble_eq_true rfl, Nat.le_of_ble_eq_true rfl⟩ ⟨by show cells + _ + _ ≤ 600000; omega, by show slots + _ + _ ≤ 7302250; omega⟩ (fun H locs hW => ?_)
  refine lv_icmp_eq (tgt := 1953) C.x C.b dL_809 rfl (fun _ => ?_) (fun c_ => absurd rfl c_)
  refine W.widen (k := cells + 15) (n := slots + 200) (by omega) (by omega) ?_
  exact kk _ _ _ hW hi
theorem gvL_85 : GoodIn gT (wsV RL 85 "NylonLadder" yX11_clear (Cond.code yX11_clear cX11_clear 4 (some .int) :: gT)) := good_V T_3_122 T_3_123 T_3_124 T_1_1 T_3_125
theorem hdL_85 : yX11_clear.cls ≠ "java/lang/invoke/MethodHandle" ∧ yX11_clear.cls ≠ "java/lang/invoke/VarHandle" ∧ (parseMethodDescriptor yX11_clear.desc).map (fun d => d.parameters.length) = some 1 := by decide +kernel
theorem gvL_88 : GoodIn gT (wsV RL 88 "NylonLadderModel" yX12_clear (Cond.code yX12_clear cX12_clear 3 (some .int) :: gT)) := good_V T_7_32 T_7_33 T_7_34 T_1_10 T_7_35
theorem hdL_88 : yX12_clear.cls ≠ "java/lang/invoke/MethodHandle" ∧ yX12_clear.cls ≠ "java/lang/invoke/VarHandle" ∧ (parseMethodDescriptor yX12_clear.desc).map (fun d => d.parameters.length) = some 1 := by decide +kernel
theorem dL_814 : decode code 814 = .ok (.aload_n 1, 1) := by decide +kernel
theorem dL_815 : decode code 815 = .ok (.aload_n 0, 1) := by decide +kernel
theorem dL_816 : decode code 816 = .ok (.iload_n 3, 1) := by decide +kernel
theorem dL_817 : decode code 817 = .ok (.iconst 1, 1) := by decide +kernel
theorem dL_818 : decode code 818 = .ok (.iadd, 1) := by decide +kernel
theorem dL_819 : decode code 819 = .ok (.iaload, 1) := by decide +kernel
theorem dL_820 : decode code 820 = .ok (.invokevirtual 85, 3) := by decide +kernel
theorem dL_823 : decode code 823 = .ok (.aload_n 2, 1) := by decide +kernel
theorem dL_824 : decode code 824 = .ok (.aload_n 0, 1) := by decide +kernel
theorem dL_825 : decode code 825 = .ok (.iload_n 3, 1) := by decide +kernel
theorem dL_826 : decode code 826 = .ok (.iconst 1, 1) := by decide +kernel
theorem dL_827 : decode code 827 = .ok (.iadd, 1) := by decide +kernel
theorem dL_828 : decode code 828 = .ok (.iaload, 1) := by decide +kernel
theorem dL_829 : decode code 829 = .ok (.invokevirtual 88, 3) := by decide +kernel
theorem dL_832 : decode code 832 = .ok (.if_icmp .eq 1121, 3) := by decide +kernel
set_option maxRecDepth 100000 in
set_option maxHeartbeats 4000000 in
theorem lc_16 {E : Ev} {p : Program} {l : Launch} {e : Env} {s : State} {m : MethodId} {below : List Frame} {meth : Method} {c : Code} {b L : Nat} {xs : Nat → Int32} {H : Heap} {locs : List Loc} {cells slots : Nat} {Q : State → Prop} {M : Mm} {ls : Array Slot} (Z : LwS E p s m meth c b L xs) (hW : Wx E s H locs M) (hi : Inv M) (L9 : L ≤ 2560) {i : Nat} (hl : lv_has ls 4 (LwL E b i)) (i4 : i + 4 < L) (hc : cells + 15 ≤ 600000) (hs : slots + 200 ≤ 7302250) (kk : ∀ (H : Heap) (locs : List Loc) (M : Mm), Wx E s H locs M → Inv M → W p l e room_1 s m #[Value.ref b] below meth c H locs (cells + 15) (slots + 200) Q (F0 m 1953 ls [])) : W p l e room_1 s m #[Value.ref b] below meth c H locs cells slots Q (F0 m 814 ls []) := by
  have C := Z.1
  obtain ⟨r, M1, M2, h1, h2, k1, v2⟩ := iv_clear hi (xs (i + 1))
  refine lv_aload_n C.x C.b dL_814 rfl (lv_at hl 1 rfl) ?_
  refine la_arg (j := 1) Z hW L9 hl (by omega) rfl dL_815 dL_816 dL_817 dL_818 dL_819 ?_
  refine x_callV (As := [.int (xs (i + 1))]) (a := 0) (rest := []) C hW hl (qX11_clear l E h1) hi.k0 (by decide) (by decide) rfl gvL_85 ⟨rfl, hdL_85⟩ rfl rfl (Nat.le_of_ble_eq_true rfl) dL_820 ⟨Nat.le_of_ble_eq_true rfl, Nat.le_of_ble_eq_true rfl⟩ ⟨by show cells + _ ≤ 600000; omega, by show slots + _ ≤ 7302250; omega⟩ (fun H locs hW => ?_)
  refine lv_aload_n C.x C.b dL_823 rfl (lv_at hl 2 rfl) ?_
  refine la_arg (j := 1) Z hW L9 hl (by omega) rfl dL_824 dL_825 dL_826 dL_827 dL_828 ?_
  refine x_callV (As := [.int (xs (i + 1))]) (a := 164) (rest := [.int r]) C hW hl (qX12_clear l E h2) k1 (by decide) (by decide) rfl gvL_88 ⟨rfl, hdL_88⟩ rfl rfl (Nat.le_of_ble_eq_true rfl) dL_829 ⟨Nat.le_of_ble_eq_true rfl, Nat.le_of_ble_eq_true rfl⟩ ⟨by show cells + _ + _ ≤ 600000; omega, by show slots + _ + _ ≤ 7302250; omega⟩ (fun H locs hW => ?_)
  refine lv_icmp_eq (tgt := 1953) C.x C.b dL_832 rfl (fun _ => ?_) (fun c_ => absurd rfl c_)
  refine W.widen (k := cells + 15) (n := slots + 200) (by omega) (by omega) ?_
  exact kk _ _ _ hW v2
theorem gvL_89 : GoodIn gT (wsV RL 89 "NylonLadder" yX11_move (Cond.code yX11_move cX11_move 4 (some .int) :: gT)) := good_V T_3_126 T_3_127 T_3_128 T_1_1 T_3_129
theorem hdL_89 : yX11_move.cls ≠ "java/lang/invoke/MethodHandle" ∧ yX11_move.cls ≠ "java/lang/invoke/VarHandle" ∧ (parseMethodDescriptor yX11_move.desc).map (fun d => d.parameters.length) = some 1 := by decide +kernel
theorem gvL_92 : GoodIn gT (wsV RL 92 "NylonLadderModel" yX12_move (Cond.code yX12_move cX12_move 2 (some .int) :: gT)) := good_V T_7_36 T_7_37 T_7_38 T_1_10 T_7_39
theorem hdL_92 : yX12_move.cls ≠ "java/lang/invoke/MethodHandle" ∧ yX12_move.cls ≠ "java/lang/invoke/VarHandle" ∧ (parseMethodDescriptor yX12_move.desc).map (fun d => d.parameters.length) = some 1 := by decide +kernel
theorem dL_837 : decode code 837 = .ok (.aload_n 1, 1) := by decide +kernel
theorem dL_838 : decode code 838 = .ok (.aload_n 0, 1) := by decide +kernel
theorem dL_839 : decode code 839 = .ok (.iload_n 3, 1) := by decide +kernel
theorem dL_840 : decode code 840 = .ok (.iconst 1, 1) := by decide +kernel
theorem dL_841 : decode code 841 = .ok (.iadd, 1) := by decide +kernel
theorem dL_842 : decode code 842 = .ok (.iaload, 1) := by decide +kernel
theorem dL_843 : decode code 843 = .ok (.invokevirtual 89, 3) := by decide +kernel
theorem dL_846 : decode code 846 = .ok (.aload_n 2, 1) := by decide +kernel
theorem dL_847 : decode code 847 = .ok (.aload_n 0, 1) := by decide +kernel
theorem dL_848 : decode code 848 = .ok (.iload_n 3, 1) := by decide +kernel
theorem dL_849 : decode code 849 = .ok (.iconst 1, 1) := by decide +kernel
theorem dL_850 : decode code 850 = .ok (.iadd, 1) := by decide +kernel
theorem dL_851 : decode code 851 = .ok (.iaload, 1) := by decide +kernel
theorem dL_852 : decode code 852 = .ok (.invokevirtual 92, 3) := by decide +kernel
theorem dL_855 : decode code 855 = .ok (.if_icmp .eq 1098, 3) := by decide +kernel
set_option maxRecDepth 100000 in
set_option maxHeartbeats 4000000 in
theorem lc_17 {E : Ev} {p : Program} {l : Launch} {e : Env} {s : State} {m : MethodId} {below : List Frame} {meth : Method} {c : Code} {b L : Nat} {xs : Nat → Int32} {H : Heap} {locs : List Loc} {cells slots : Nat} {Q : State → Prop} {M : Mm} {ls : Array Slot} (Z : LwS E p s m meth c b L xs) (hW : Wx E s H locs M) (hi : Inv M) (L9 : L ≤ 2560) {i : Nat} (hl : lv_has ls 4 (LwL E b i)) (i4 : i + 4 < L) (hc : cells + 15 ≤ 600000) (hs : slots + 200 ≤ 7302250) (kk : ∀ (H : Heap) (locs : List Loc) (M : Mm), Wx E s H locs M → Inv M → W p l e room_1 s m #[Value.ref b] below meth c H locs (cells + 15) (slots + 200) Q (F0 m 1953 ls [])) : W p l e room_1 s m #[Value.ref b] below meth c H locs cells slots Q (F0 m 837 ls []) := by
  have C := Z.1
  obtain ⟨r, M1, M2, h1, h2, k1, v2⟩ := iv_move hi (xs (i + 1))
  refine lv_aload_n C.x C.b dL_837 rfl (lv_at hl 1 rfl) ?_
  refine la_arg (j := 1) Z hW L9 hl (by omega) rfl dL_838 dL_839 dL_840 dL_841 dL_842 ?_
  refine x_callV (As := [.int (xs (i + 1))]) (a := 0) (rest := []) C hW hl (qX11_move l E h1) hi.k0 (by decide) (by decide) rfl gvL_89 ⟨rfl, hdL_89⟩ rfl rfl (Nat.le_of_ble_eq_true rfl) dL_843 ⟨Nat.le_of_ble_eq_true rfl, Nat.le_of_ble_eq_true rfl⟩ ⟨by show cells + _ ≤ 600000; omega, by show slots + _ ≤ 7302250; omega⟩ (fun H locs hW => ?_)
  refine lv_aload_n C.x C.b dL_846 rfl (lv_at hl 2 rfl) ?_
  refine la_arg (j := 1) Z hW L9 hl (by omega) rfl dL_847 dL_848 dL_849 dL_850 dL_851 ?_
  refine x_callV (As := [.int (xs (i + 1))]) (a := 164) (rest := [.int r]) C hW hl (qX12_move l E h2) k1 (by decide) (by decide) rfl gvL_92 ⟨rfl, hdL_92⟩ rfl rfl (Nat.le_of_ble_eq_true rfl) dL_852 ⟨Nat.le_of_ble_eq_true rfl, Nat.le_of_ble_eq_true rfl⟩ ⟨by show cells + _ + _ ≤ 600000; omega, by show slots + _ + _ ≤ 7302250; omega⟩ (fun H locs hW => ?_)
  refine lv_icmp_eq (tgt := 1953) C.x C.b dL_855 rfl (fun _ => ?_) (fun c_ => absurd rfl c_)
  refine W.widen (k := cells + 15) (n := slots + 200) (by omega) (by omega) ?_
  exact kk _ _ _ hW v2
theorem gvL_93 : GoodIn gT (wsV RL 93 "NylonLadder" yX11_go (Cond.code yX11_go cX11_go 3 (some .int) :: gT)) := good_V T_3_176 T_3_177 T_3_178 T_1_1 T_3_179
theorem hdL_93 : yX11_go.cls ≠ "java/lang/invoke/MethodHandle" ∧ yX11_go.cls ≠ "java/lang/invoke/VarHandle" ∧ (parseMethodDescriptor yX11_go.desc).map (fun d => d.parameters.length) = some 1 := by decide +kernel
theorem gvL_96 : GoodIn gT (wsV RL 96 "NylonLadderModel" yX12_go (Cond.code yX12_go cX12_go 2 (some .int) :: gT)) := good_V T_7_82 T_7_83 T_7_84 T_1_10 T_7_85
theorem hdL_96 : yX12_go.cls ≠ "java/lang/invoke/MethodHandle" ∧ yX12_go.cls ≠ "java/lang/invoke/VarHandle" ∧ (parseMethodDescriptor yX12_go.desc).map (fun d => d.parameters.length) = some 1 := by decide +kernel
theorem dL_860 : decode code 860 = .ok (.aload_n 1, 1) := by decide +kernel
theorem dL_861 : decode code 861 = .ok (.aload_n 0, 1) := by decide +kernel
theorem dL_862 : decode code 862 = .ok (.iload_n 3, 1) := by decide +kernel
theorem dL_863 : decode code 863 = .ok (.iconst 1, 1) := by decide +kernel
theorem dL_864 : decode code 864 = .ok (.iadd, 1) := by decide +kernel
theorem dL_865 : decode code 865 = .ok (.iaload, 1) := by decide +kernel
theorem dL_866 : decode code 866 = .ok (.invokevirtual 93, 3) := by decide +kernel
theorem dL_869 : decode code 869 = .ok (.aload_n 2, 1) := by decide +kernel
theorem dL_870 : decode code 870 = .ok (.aload_n 0, 1) := by decide +kernel
theorem dL_871 : decode code 871 = .ok (.iload_n 3, 1) := by decide +kernel
theorem dL_872 : decode code 872 = .ok (.iconst 1, 1) := by decide +kernel
theorem dL_873 : decode code 873 = .ok (.iadd, 1) := by decide +kernel
theorem dL_874 : decode code 874 = .ok (.iaload, 1) := by decide +kernel
theorem dL_875 : decode code 875 = .ok (.invokevirtual 96, 3) := by decide +kernel
theorem dL_878 : decode code 878 = .ok (.if_icmp .eq 1075, 3) := by decide +kernel
set_option maxRecDepth 100000 in
set_option maxHeartbeats 4000000 in
theorem lc_18 {E : Ev} {p : Program} {l : Launch} {e : Env} {s : State} {m : MethodId} {below : List Frame} {meth : Method} {c : Code} {b L : Nat} {xs : Nat → Int32} {H : Heap} {locs : List Loc} {cells slots : Nat} {Q : State → Prop} {M : Mm} {ls : Array Slot} (Z : LwS E p s m meth c b L xs) (hW : Wx E s H locs M) (hi : Inv M) (L9 : L ≤ 2560) {i : Nat} (hl : lv_has ls 4 (LwL E b i)) (i4 : i + 4 < L) (hc : cells + 15 ≤ 600000) (hs : slots + 200 ≤ 7302250) (kk : ∀ (H : Heap) (locs : List Loc) (M : Mm), Wx E s H locs M → Inv M → W p l e room_1 s m #[Value.ref b] below meth c H locs (cells + 15) (slots + 200) Q (F0 m 1953 ls [])) : W p l e room_1 s m #[Value.ref b] below meth c H locs cells slots Q (F0 m 860 ls []) := by
  have C := Z.1
  obtain ⟨r, M1, M2, h1, h2, k1, v2⟩ := iv_go hi (xs (i + 1))
  refine lv_aload_n C.x C.b dL_860 rfl (lv_at hl 1 rfl) ?_
  refine la_arg (j := 1) Z hW L9 hl (by omega) rfl dL_861 dL_862 dL_863 dL_864 dL_865 ?_
  refine x_callV (As := [.int (xs (i + 1))]) (a := 0) (rest := []) C hW hl (qX11_go l E h1) hi.k0 (by decide) (by decide) rfl gvL_93 ⟨rfl, hdL_93⟩ rfl rfl (Nat.le_of_ble_eq_true rfl) dL_866 ⟨Nat.le_of_ble_eq_true rfl, Nat.le_of_ble_eq_true rfl⟩ ⟨by show cells + _ ≤ 600000; omega, by show slots + _ ≤ 7302250; omega⟩ (fun H locs hW => ?_)
  refine lv_aload_n C.x C.b dL_869 rfl (lv_at hl 2 rfl) ?_
  refine la_arg (j := 1) Z hW L9 hl (by omega) rfl dL_870 dL_871 dL_872 dL_873 dL_874 ?_
  refine x_callV (As := [.int (xs (i + 1))]) (a := 164) (rest := [.int r]) C hW hl (qX12_go l E h2) k1 (by decide) (by decide) rfl gvL_96 ⟨rfl, hdL_96⟩ rfl rfl (Nat.le_of_ble_eq_true rfl) dL_875 ⟨Nat.le_of_ble_eq_true rfl, Nat.le_of_ble_eq_true rfl⟩ ⟨by show cells + _ + _ ≤ 600000; omega, by show slots + _ + _ ≤ 7302250; omega⟩ (fun H locs hW => ?_)
  refine lv_icmp_eq (tgt := 1953) C.x C.b dL_878 rfl (fun _ => ?_) (fun c_ => absurd rfl c_)
  refine W.widen (k := cells + 15) (n := slots + 200) (by omega) (by omega) ?_
  exact kk _ _ _ hW v2
theorem gvL_97 : GoodIn gT (wsV RL 97 "NylonLadder" yX11_minutes (Cond.code yX11_minutes cX11_minutes 3 (some .int) :: gT)) := good_V T_3_195 T_3_196 T_3_197 T_1_1 T_3_198
theorem hdL_97 : yX11_minutes.cls ≠ "java/lang/invoke/MethodHandle" ∧ yX11_minutes.cls ≠ "java/lang/invoke/VarHandle" ∧ (parseMethodDescriptor yX11_minutes.desc).map (fun d => d.parameters.length) = some 1 := by decide +kernel
theorem gvL_100 : GoodIn gT (wsV RL 100 "NylonLadderModel" yX12_minutes (Cond.code yX12_minutes cX12_minutes 2 (some .int) :: gT)) := good_V T_7_98 T_7_99 T_7_100 T_1_10 T_7_101
theorem hdL_100 : yX12_minutes.cls ≠ "java/lang/invoke/MethodHandle" ∧ yX12_minutes.cls ≠ "java/lang/invoke/VarHandle" ∧ (parseMethodDescriptor yX12_minutes.desc).map (fun d => d.parameters.length) = some 1 := by decide +kernel
theorem dL_883 : decode code 883 = .ok (.aload_n 1, 1) := by decide +kernel
theorem dL_884 : decode code 884 = .ok (.aload_n 0, 1) := by decide +kernel
theorem dL_885 : decode code 885 = .ok (.iload_n 3, 1) := by decide +kernel
theorem dL_886 : decode code 886 = .ok (.iconst 1, 1) := by decide +kernel
theorem dL_887 : decode code 887 = .ok (.iadd, 1) := by decide +kernel
theorem dL_888 : decode code 888 = .ok (.iaload, 1) := by decide +kernel
theorem dL_889 : decode code 889 = .ok (.invokevirtual 97, 3) := by decide +kernel
theorem dL_892 : decode code 892 = .ok (.aload_n 2, 1) := by decide +kernel
theorem dL_893 : decode code 893 = .ok (.aload_n 0, 1) := by decide +kernel
theorem dL_894 : decode code 894 = .ok (.iload_n 3, 1) := by decide +kernel
theorem dL_895 : decode code 895 = .ok (.iconst 1, 1) := by decide +kernel
theorem dL_896 : decode code 896 = .ok (.iadd, 1) := by decide +kernel
theorem dL_897 : decode code 897 = .ok (.iaload, 1) := by decide +kernel
theorem dL_898 : decode code 898 = .ok (.invokevirtual 100, 3) := by decide +kernel
theorem dL_901 : decode code 901 = .ok (.if_icmp .eq 1052, 3) := by decide +kernel
set_option maxRecDepth 100000 in
set_option maxHeartbeats 4000000 in
theorem lc_19 {E : Ev} {p : Program} {l : Launch} {e : Env} {s : State} {m : MethodId} {below : List Frame} {meth : Method} {c : Code} {b L : Nat} {xs : Nat → Int32} {H : Heap} {locs : List Loc} {cells slots : Nat} {Q : State → Prop} {M : Mm} {ls : Array Slot} (Z : LwS E p s m meth c b L xs) (hW : Wx E s H locs M) (hi : Inv M) (L9 : L ≤ 2560) {i : Nat} (hl : lv_has ls 4 (LwL E b i)) (i4 : i + 4 < L) (hc : cells + 15 ≤ 600000) (hs : slots + 200 ≤ 7302250) (kk : ∀ (H : Heap) (locs : List Loc) (M : Mm), Wx E s H locs M → Inv M → W p l e room_1 s m #[Value.ref b] below meth c H locs (cells + 15) (slots + 200) Q (F0 m 1953 ls [])) : W p l e room_1 s m #[Value.ref b] below meth c H locs cells slots Q (F0 m 883 ls []) := by
  have C := Z.1
  obtain ⟨r, h1, h2⟩ := iv_minutes hi (xs (i + 1))
  refine lv_aload_n C.x C.b dL_883 rfl (lv_at hl 1 rfl) ?_
  refine la_arg (j := 1) Z hW L9 hl (by omega) rfl dL_884 dL_885 dL_886 dL_887 dL_888 ?_
  refine x_callV (As := [.int (xs (i + 1))]) (a := 0) (rest := []) C hW hl (qX11_minutes l E h1) hi.k0 (by decide) (by decide) rfl gvL_97 ⟨rfl, hdL_97⟩ rfl rfl (Nat.le_of_ble_eq_true rfl) dL_889 ⟨Nat.le_of_ble_eq_true rfl, Nat.le_of_ble_eq_true rfl⟩ ⟨by show cells + _ ≤ 600000; omega, by show slots + _ ≤ 7302250; omega⟩ (fun H locs hW => ?_)
  refine lv_aload_n C.x C.b dL_892 rfl (lv_at hl 2 rfl) ?_
  refine la_arg (j := 1) Z hW L9 hl (by omega) rfl dL_893 dL_894 dL_895 dL_896 dL_897 ?_
  refine x_callV (As := [.int (xs (i + 1))]) (a := 164) (rest := [.int r]) C hW hl (qX12_minutes l E h2) hi.k164 (by decide) (by decide) rfl gvL_100 ⟨rfl, hdL_100⟩ rfl rfl (Nat.le_of_ble_eq_true rfl) dL_898 ⟨Nat.le_of_ble_eq_true rfl, Nat.le_of_ble_eq_true rfl⟩ ⟨by show cells + _ + _ ≤ 600000; omega, by show slots + _ + _ ≤ 7302250; omega⟩ (fun H locs hW => ?_)
  refine lv_icmp_eq (tgt := 1953) C.x C.b dL_901 rfl (fun _ => ?_) (fun c_ => absurd rfl c_)
  refine W.widen (k := cells + 15) (n := slots + 200) (by omega) (by omega) ?_
  exact kk _ _ _ hW hi
end LAWCASES
