section LOOPP
/-! THE LAW: its loop, and its start (written in part by /wip/gen/loopgen.py) -/
theorem dL_0 : decode code 0 = .ok (.new 7, 3) := by decide +kernel
theorem dL_3 : decode code 3 = .ok (.dup, 1) := by decide +kernel
theorem dL_4 : decode code 4 = .ok (.invokespecial 9, 3) := by decide +kernel
theorem dL_7 : decode code 7 = .ok (.astore_n 1, 1) := by decide +kernel
theorem dL_8 : decode code 8 = .ok (.new 10, 3) := by decide +kernel
theorem dL_11 : decode code 11 = .ok (.dup, 1) := by decide +kernel
theorem dL_12 : decode code 12 = .ok (.invokespecial 12, 3) := by decide +kernel
theorem dL_15 : decode code 15 = .ok (.astore_n 2, 1) := by decide +kernel
theorem dL_16 : decode code 16 = .ok (.iconst 0, 1) := by decide +kernel
theorem dL_17 : decode code 17 = .ok (.istore_n 3, 1) := by decide +kernel
theorem dL_18 : decode code 18 = .ok (.iload_n 3, 1) := by decide +kernel
theorem dL_19 : decode code 19 = .ok (.aload_n 0, 1) := by decide +kernel
theorem dL_20 : decode code 20 = .ok (.arraylength, 1) := by decide +kernel
theorem dL_21 : decode code 21 = .ok (.iconst 5, 1) := by decide +kernel
theorem dL_22 : decode code 22 = .ok (.isub, 1) := by decide +kernel
theorem dL_23 : decode code 23 = .ok (.if_icmp .gt 1936, 3) := by decide +kernel
theorem dL_26 : decode code 26 = .ok (.aload_n 0, 1) := by decide +kernel
theorem dL_27 : decode code 27 = .ok (.iload_n 3, 1) := by decide +kernel
theorem dL_28 : decode code 28 = .ok (.iaload, 1) := by decide +kernel
theorem dL_29 : decode code 29 = .ok (.bipush 63, 2) := by decide +kernel
theorem dL_31 : decode code 31 = .ok (.iand, 1) := by decide +kernel
theorem dL_32 : decode code 32 = .ok (.tableswitch 1921 0 51 #[224, 287, 300, 333, 356, 409, 442, 485, 518, 551, 584, 617, 640, 663, 696, 739, 782, 805, 828, 851, 874, 917, 960, 1003, 1046, 1089, 1132, 1145, 1158, 1171, 1194, 1238, 1261, 1304, 1347, 1370, 1383, 1406, 1439, 1472, 1515, 1548, 1601, 1644, 1687, 1730, 1773, 1806, 1849, 1872, 1895, 1908], 224) := by decide +kernel
theorem dL_1953 : decode code 1953 = .ok (.iinc 3 5, 3) := by decide +kernel
theorem dL_1956 : decode code 1956 = .ok (.goto (-1938), 3) := by decide +kernel
theorem dL_1959 : decode code 1959 = .ok (.iconst 1, 1) := by decide +kernel
theorem dL_1960 : decode code 1960 = .ok (.ireturn, 1) := by decide +kernel
theorem oN {n : Nat} (h : n < 2147483648) : Int32.ofNat n = i2 n := by
  apply Int32.toInt_inj.mp
  rw [i2_toInt (by omega) (by omega), Int32.toInt_ofNat_of_lt h]
theorem lw_head {E : Ev} {p : Program} {l : Launch} {e : Env} {s : State} {m : MethodId} {below : List Frame} {meth : Method} {c : Code} {b L : Nat} {xs : Nat → Int32} {H : Heap} {locs : List Loc} {cells slots : Nat} {Q : State → Prop} {M : Mm} {ls : Array Slot} (Z : LwS E p s m meth c b L xs) (hW : Wx E s H locs M) (L9 : L ≤ 2560) {i : Nat} (hl : lv_has ls 4 (LwL E b i)) (i9 : i ≤ 2600) (k1 : ¬ i + 5 ≤ L → W p l e room_1 s m #[Value.ref b] below meth c H locs cells slots Q (F0 m 1959 ls [])) (k2 : i + 5 ≤ L → W p l e room_1 s m #[Value.ref b] below meth c H locs cells slots Q (F0 m 32 ls [.int (xs i &&& 63)])) : W p l e room_1 s m #[Value.ref b] below meth c H locs cells slots Q (F0 m 18 ls []) := by
  have C := Z.1
  obtain ⟨-, hX, hbl, hE⟩ := id Z
  refine lv_iload_n C.x C.b dL_18 rfl (lv_at hl 3 rfl) ?_
  refine lv_aload_n C.x C.b dL_19 rfl (lv_at hl 0 rfl) ?_
  refine va_slen C.x C.b hX hbl (by show ¬ E.b ≤ b; omega) hW.2 dL_20 ?_
  refine lv_iconst (v := i2 5) C.x C.b dL_21 rfl ?_
  refine lv_isub C.x C.b dL_22 ?_
  rw [oN (by omega), i2_sub]
  refine lv_icmp_gt (tgt := 1959) C.x C.b dL_23 rfl (fun c_ => k1 ?_) (fun c_ => ?_)
  · rw [i2_lt (by omega) (by omega) (by omega) (by omega)] at c_
    omega
  · rw [i2_lt (by omega) (by omega) (by omega) (by omega)] at c_
    refine lv_aload_n C.x C.b dL_26 rfl (lv_at hl 0 rfl) ?_
    refine lv_iload_n C.x C.b dL_27 rfl (lv_at hl 3 rfl) ?_
    refine la_cell Z hW L9 (by omega) dL_28 ?_
    refine lv_bipush (v := 63) C.x C.b dL_29 (by decide) ?_
    refine lv_iand C.x C.b dL_31 ?_
    exact k2 (by omega)
theorem lw_case {E : Ev} {p : Program} {l : Launch} {e : Env} {s : State} {m : MethodId} {below : List Frame} {meth : Method} {c : Code} {b L : Nat} {xs : Nat → Int32} {H : Heap} {locs : List Loc} {cells slots : Nat} {Q : State → Prop} {M : Mm} {ls : Array Slot} (Z : LwS E p s m meth c b L xs) (hW : Wx E s H locs M) (hi : Inv M) (L9 : L ≤ 2560) {i : Nat} (hl : lv_has ls 4 (LwL E b i)) (i4 : i + 4 < L) (hc : cells + 15 ≤ 600000) (hs : slots + 200 ≤ 7302250) (kk : ∀ (H : Heap) (locs : List Loc) (M : Mm), Wx E s H locs M → Inv M → W p l e room_1 s m #[Value.ref b] below meth c H locs (cells + 15) (slots + 200) Q (F0 m 1953 ls [])) {x : Int32} : W p l e room_1 s m #[Value.ref b] below meth c H locs cells slots Q (F0 m 32 ls [.int x]) := by
  have C := Z.1
  by_cases g : 0 ≤ x.toInt ∧ x.toInt ≤ 51
  · obtain ⟨k, hk, ek⟩ : ∃ k : Nat, k ≤ 51 ∧ x = i2 k := ⟨x.toInt.toNat, by omega, by rw [show ((x.toInt.toNat : Nat) : Int) = x.toInt by omega, i2_self]⟩
    subst ek
    clear g
    match k, hk with
    | 0, _ =>
      refine lv_tableIn (off := 224) (tgt := 256) C.x C.b dL_32 (by decide +kernel) (by decide +kernel) (by decide +kernel) rfl ?_
      exact lc_0 Z hW hi L9 hl i4 hc hs kk
    | 1, _ =>
      refine lv_tableIn (off := 287) (tgt := 319) C.x C.b dL_32 (by decide +kernel) (by decide +kernel) (by decide +kernel) rfl ?_
      exact lc_1 Z hW hi L9 hl i4 hc hs kk
    | 2, _ =>
      refine lv_tableIn (off := 300) (tgt := 332) C.x C.b dL_32 (by decide +kernel) (by decide +kernel) (by decide +kernel) rfl ?_
      exact lc_2 Z hW hi L9 hl i4 hc hs kk
    | 3, _ =>
      refine lv_tableIn (off := 333) (tgt := 365) C.x C.b dL_32 (by decide +kernel) (by decide +kernel) (by decide +kernel) rfl ?_
      exact lc_3 Z hW hi L9 hl i4 hc hs kk
    | 4, _ =>
      refine lv_tableIn (off := 356) (tgt := 388) C.x C.b dL_32 (by decide +kernel) (by decide +kernel) (by decide +kernel) rfl ?_
      exact lc_4 Z hW hi L9 hl i4 hc hs kk
    | 5, _ =>
      refine lv_tableIn (off := 409) (tgt := 441) C.x C.b dL_32 (by decide +kernel) (by decide +kernel) (by decide +kernel) rfl ?_
      exact lc_5 Z hW hi L9 hl i4 hc hs kk
    | 6, _ =>
      refine lv_tableIn (off := 442) (tgt := 474) C.x C.b dL_32 (by decide +kernel) (by decide +kernel) (by decide +kernel) rfl ?_
      exact lc_6 Z hW hi L9 hl i4 hc hs kk
    | 7, _ =>
      refine lv_tableIn (off := 485) (tgt := 517) C.x C.b dL_32 (by decide +kernel) (by decide +kernel) (by decide +kernel) rfl ?_
      exact lc_7 Z hW hi L9 hl i4 hc hs kk
    | 8, _ =>
      refine lv_tableIn (off := 518) (tgt := 550) C.x C.b dL_32 (by decide +kernel) (by decide +kernel) (by decide +kernel) rfl ?_
      exact lc_8 Z hW hi L9 hl i4 hc hs kk
    | 9, _ =>
      refine lv_tableIn (off := 551) (tgt := 583) C.x C.b dL_32 (by decide +kernel) (by decide +kernel) (by decide +kernel) rfl ?_
      exact lc_9 Z hW hi L9 hl i4 hc hs kk
    | 10, _ =>
      refine lv_tableIn (off := 584) (tgt := 616) C.x C.b dL_32 (by decide +kernel) (by decide +kernel) (by decide +kernel) rfl ?_
      exact lc_10 Z hW hi L9 hl i4 hc hs kk
    | 11, _ =>
      refine lv_tableIn (off := 617) (tgt := 649) C.x C.b dL_32 (by decide +kernel) (by decide +kernel) (by decide +kernel) rfl ?_
      exact lc_11 Z hW hi L9 hl i4 hc hs kk
    | 12, _ =>
      refine lv_tableIn (off := 640) (tgt := 672) C.x C.b dL_32 (by decide +kernel) (by decide +kernel) (by decide +kernel) rfl ?_
      exact lc_12 Z hW hi L9 hl i4 hc hs kk
    | 13, _ =>
      refine lv_tableIn (off := 663) (tgt := 695) C.x C.b dL_32 (by decide +kernel) (by decide +kernel) (by decide +kernel) rfl ?_
      exact lc_13 Z hW hi L9 hl i4 hc hs kk
    | 14, _ =>
      refine lv_tableIn (off := 696) (tgt := 728) C.x C.b dL_32 (by decide +kernel) (by decide +kernel) (by decide +kernel) rfl ?_
      exact lc_14 Z hW hi L9 hl i4 hc hs kk
    | 15, _ =>
      refine lv_tableIn (off := 739) (tgt := 771) C.x C.b dL_32 (by decide +kernel) (by decide +kernel) (by decide +kernel) rfl ?_
      exact lc_15 Z hW hi L9 hl i4 hc hs kk
    | 16, _ =>
      refine lv_tableIn (off := 782) (tgt := 814) C.x C.b dL_32 (by decide +kernel) (by decide +kernel) (by decide +kernel) rfl ?_
      exact lc_16 Z hW hi L9 hl i4 hc hs kk
    | 17, _ =>
      refine lv_tableIn (off := 805) (tgt := 837) C.x C.b dL_32 (by decide +kernel) (by decide +kernel) (by decide +kernel) rfl ?_
      exact lc_17 Z hW hi L9 hl i4 hc hs kk
    | 18, _ =>
      refine lv_tableIn (off := 828) (tgt := 860) C.x C.b dL_32 (by decide +kernel) (by decide +kernel) (by decide +kernel) rfl ?_
      exact lc_18 Z hW hi L9 hl i4 hc hs kk
    | 19, _ =>
      refine lv_tableIn (off := 851) (tgt := 883) C.x C.b dL_32 (by decide +kernel) (by decide +kernel) (by decide +kernel) rfl ?_
      exact lc_19 Z hW hi L9 hl i4 hc hs kk
    | 20, _ =>
      refine lv_tableIn (off := 874) (tgt := 906) C.x C.b dL_32 (by decide +kernel) (by decide +kernel) (by decide +kernel) rfl ?_
      exact lc_20 Z hW hi L9 hl i4 hc hs kk
    | 21, _ =>
      refine lv_tableIn (off := 917) (tgt := 949) C.x C.b dL_32 (by decide +kernel) (by decide +kernel) (by decide +kernel) rfl ?_
      exact lc_21 Z hW hi L9 hl i4 hc hs kk
    | 22, _ =>
      refine lv_tableIn (off := 960) (tgt := 992) C.x C.b dL_32 (by decide +kernel) (by decide +kernel) (by decide +kernel) rfl ?_
      exact lc_22 Z hW hi L9 hl i4 hc hs kk
    | 23, _ =>
      refine lv_tableIn (off := 1003) (tgt := 1035) C.x C.b dL_32 (by decide +kernel) (by decide +kernel) (by decide +kernel) rfl ?_
      exact lc_23 Z hW hi L9 hl i4 hc hs kk
    | 24, _ =>
      refine lv_tableIn (off := 1046) (tgt := 1078) C.x C.b dL_32 (by decide +kernel) (by decide +kernel) (by decide +kernel) rfl ?_
      exact lc_24 Z hW hi L9 hl i4 hc hs kk
    | 25, _ =>
      refine lv_tableIn (off := 1089) (tgt := 1121) C.x C.b dL_32 (by decide +kernel) (by decide +kernel) (by decide +kernel) rfl ?_
      exact lc_25 Z hW hi L9 hl i4 hc hs kk
    | 26, _ =>
      refine lv_tableIn (off := 1132) (tgt := 1164) C.x C.b dL_32 (by decide +kernel) (by decide +kernel) (by decide +kernel) rfl ?_
      exact lc_26 Z hW hi L9 hl i4 hc hs kk
    | 27, _ =>
      refine lv_tableIn (off := 1145) (tgt := 1177) C.x C.b dL_32 (by decide +kernel) (by decide +kernel) (by decide +kernel) rfl ?_
      exact lc_27 Z hW hi L9 hl i4 hc hs kk
    | 28, _ =>
      refine lv_tableIn (off := 1158) (tgt := 1190) C.x C.b dL_32 (by decide +kernel) (by decide +kernel) (by decide +kernel) rfl ?_
      exact lc_28 Z hW hi L9 hl i4 hc hs kk
    | 29, _ =>
      refine lv_tableIn (off := 1171) (tgt := 1203) C.x C.b dL_32 (by decide +kernel) (by decide +kernel) (by decide +kernel) rfl ?_
      exact lc_29 Z hW hi L9 hl i4 hc hs kk
    | 30, _ =>
      refine lv_tableIn (off := 1194) (tgt := 1226) C.x C.b dL_32 (by decide +kernel) (by decide +kernel) (by decide +kernel) rfl ?_
      exact lc_30 Z hW hi L9 hl i4 hc hs kk
    | 31, _ =>
      refine lv_tableIn (off := 1238) (tgt := 1270) C.x C.b dL_32 (by decide +kernel) (by decide +kernel) (by decide +kernel) rfl ?_
      exact lc_31 Z hW hi L9 hl i4 hc hs kk
    | 32, _ =>
      refine lv_tableIn (off := 1261) (tgt := 1293) C.x C.b dL_32 (by decide +kernel) (by decide +kernel) (by decide +kernel) rfl ?_
      exact lc_32 Z hW hi L9 hl i4 hc hs kk
    | 33, _ =>
      refine lv_tableIn (off := 1304) (tgt := 1336) C.x C.b dL_32 (by decide +kernel) (by decide +kernel) (by decide +kernel) rfl ?_
      exact lc_33 Z hW hi L9 hl i4 hc hs kk
    | 34, _ =>
      refine lv_tableIn (off := 1347) (tgt := 1379) C.x C.b dL_32 (by decide +kernel) (by decide +kernel) (by decide +kernel) rfl ?_
      exact lc_34 Z hW hi L9 hl i4 hc hs kk
    | 35, _ =>
      refine lv_tableIn (off := 1370) (tgt := 1402) C.x C.b dL_32 (by decide +kernel) (by decide +kernel) (by decide +kernel) rfl ?_
      exact lc_35 Z hW hi L9 hl i4 hc hs kk
    | 36, _ =>
      refine lv_tableIn (off := 1383) (tgt := 1415) C.x C.b dL_32 (by decide +kernel) (by decide +kernel) (by decide +kernel) rfl ?_
      exact lc_36 Z hW hi L9 hl i4 hc hs kk
    | 37, _ =>
      refine lv_tableIn (off := 1406) (tgt := 1438) C.x C.b dL_32 (by decide +kernel) (by decide +kernel) (by decide +kernel) rfl ?_
      exact lc_37 Z hW hi L9 hl i4 hc hs kk
    | 38, _ =>
      refine lv_tableIn (off := 1439) (tgt := 1471) C.x C.b dL_32 (by decide +kernel) (by decide +kernel) (by decide +kernel) rfl ?_
      exact lc_38 Z hW hi L9 hl i4 hc hs kk
    | 39, _ =>
      refine lv_tableIn (off := 1472) (tgt := 1504) C.x C.b dL_32 (by decide +kernel) (by decide +kernel) (by decide +kernel) rfl ?_
      exact lc_39 Z hW hi L9 hl i4 hc hs kk
    | 40, _ =>
      refine lv_tableIn (off := 1515) (tgt := 1547) C.x C.b dL_32 (by decide +kernel) (by decide +kernel) (by decide +kernel) rfl ?_
      exact lc_40 Z hW hi L9 hl i4 hc hs kk
    | 41, _ =>
      refine lv_tableIn (off := 1548) (tgt := 1580) C.x C.b dL_32 (by decide +kernel) (by decide +kernel) (by decide +kernel) rfl ?_
      exact lc_41 Z hW hi L9 hl i4 hc hs kk
    | 42, _ =>
      refine lv_tableIn (off := 1601) (tgt := 1633) C.x C.b dL_32 (by decide +kernel) (by decide +kernel) (by decide +kernel) rfl ?_
      exact lc_42 Z hW hi L9 hl i4 hc hs kk
    | 43, _ =>
      refine lv_tableIn (off := 1644) (tgt := 1676) C.x C.b dL_32 (by decide +kernel) (by decide +kernel) (by decide +kernel) rfl ?_
      exact lc_43 Z hW hi L9 hl i4 hc hs kk
    | 44, _ =>
      refine lv_tableIn (off := 1687) (tgt := 1719) C.x C.b dL_32 (by decide +kernel) (by decide +kernel) (by decide +kernel) rfl ?_
      exact lc_44 Z hW hi L9 hl i4 hc hs kk
    | 45, _ =>
      refine lv_tableIn (off := 1730) (tgt := 1762) C.x C.b dL_32 (by decide +kernel) (by decide +kernel) (by decide +kernel) rfl ?_
      exact lc_45 Z hW hi L9 hl i4 hc hs kk
    | 46, _ =>
      refine lv_tableIn (off := 1773) (tgt := 1805) C.x C.b dL_32 (by decide +kernel) (by decide +kernel) (by decide +kernel) rfl ?_
      exact lc_46 Z hW hi L9 hl i4 hc hs kk
    | 47, _ =>
      refine lv_tableIn (off := 1806) (tgt := 1838) C.x C.b dL_32 (by decide +kernel) (by decide +kernel) (by decide +kernel) rfl ?_
      exact lc_47 Z hW hi L9 hl i4 hc hs kk
    | 48, _ =>
      refine lv_tableIn (off := 1849) (tgt := 1881) C.x C.b dL_32 (by decide +kernel) (by decide +kernel) (by decide +kernel) rfl ?_
      exact lc_48 Z hW hi L9 hl i4 hc hs kk
    | 49, _ =>
      refine lv_tableIn (off := 1872) (tgt := 1904) C.x C.b dL_32 (by decide +kernel) (by decide +kernel) (by decide +kernel) rfl ?_
      exact lc_49 Z hW hi L9 hl i4 hc hs kk
    | 50, _ =>
      refine lv_tableIn (off := 1895) (tgt := 1927) C.x C.b dL_32 (by decide +kernel) (by decide +kernel) (by decide +kernel) rfl ?_
      exact lc_50 Z hW hi L9 hl i4 hc hs kk
    | 51, _ =>
      refine lv_tableIn (off := 1908) (tgt := 1940) C.x C.b dL_32 (by decide +kernel) (by decide +kernel) (by decide +kernel) rfl ?_
      exact lc_51 Z hW hi L9 hl i4 hc hs kk
    | n + 52, h => exact absurd h (by omega)
  · refine lv_tableOut (tgt := 1953) C.x C.b dL_32 (by omega) rfl ?_
    refine W.widen (k := cells + 15) (n := slots + 200) (by omega) (by omega) ?_
    exact kk _ _ _ hW hi
theorem law_loop {E : Ev} {p : Program} {l : Launch} {e : Env} {s : State} {m : MethodId} {below : List Frame} {meth : Method} {c : Code} {b L : Nat} {xs : Nat → Int32} (Z : LwS E p s m meth c b L xs) (hr : meth.sig.returnType = ret) (L9 : L ≤ 2560) : ∀ (n t : Nat) (H : Heap) (locs : List Loc) (M : Mm) (ls : Array Slot), L < 5 * t + n → 5 * t ≤ L + 4 → Wx E s H locs M → Inv M → lv_has ls 4 (LwL E b ((5 * t : Nat) : Int)) → W p l e room_1 s m #[Value.ref b] below meth c H locs (200 + 15 * t) (4000 + 200 * t) (lw_Z below #[Value.ref b] s) (F0 m 18 ls []) := by
  have C := Z.1
  have hE := Z.2.2.2
  intro n
  induction n with
  | zero =>
    intro t H locs M ls hn ht hW hi hl
    refine lw_head Z hW L9 hl (by omega) (fun _ => ?_) (fun q => absurd q (by omega))
    refine lv_iconst (v := 1) C.x C.b dL_1959 (by decide) ?_
    refine va_forget (fun q hq => by have := hW.2.2.2 q hq; show s.heap.size ≤ q.base; rw [← hE]; exact this) ?_
    refine W.widen (k := 600000) (n := 7302250) (by omega) (by omega) ?_
    exact lw_ret C.x C.b hr C.lk dL_1960
  | succ n ih =>
    intro t H locs M ls hn ht hW hi hl
    refine lw_head Z hW L9 hl (by omega) (fun _ => ?_) (fun q => ?_)
    · refine lv_iconst (v := 1) C.x C.b dL_1959 (by decide) ?_
      refine va_forget (fun q hq => by have := hW.2.2.2 q hq; show s.heap.size ≤ q.base; rw [← hE]; exact this) ?_
      refine W.widen (k := 600000) (n := 7302250) (by omega) (by omega) ?_
      exact lw_ret C.x C.b hr C.lk dL_1960
    · refine lw_case Z hW hi L9 hl (by omega) (by omega) (by omega) (fun H1 locs1 M1 hW1 hi1 => ?_)
      refine lv_iinc (v := i2 ((5 * (t + 1) : Nat) : Int)) (lv' := [(3, .int (i2 ((5 * (t + 1) : Nat) : Int))), (0, .ref b), (1, .ref (E.b + 0)), (2, .ref (E.b + 164))]) C.x C.b dL_1953 hl (k := 3) rfl (by rw [show Int32.ofInt 5 = i2 5 from rfl, i2_add]; congr 1) (by decide) rfl (fun ls hl => ?_)
      refine lv_goto (tgt := 18) C.x C.b dL_1956 rfl ?_
      rw [show 200 + 15 * t + 15 = 200 + 15 * (t + 1) by omega, show 4000 + 200 * t + 200 = 4000 + 200 * (t + 1) by omega]
      exact ih (t + 1) H1 locs1 M1 ls (by omega) (by omega) hW1 hi1 (lv_sub hl [1, 2, 3, 0] rfl)
theorem nwL_7 : NwO RL 7 14 12 := ⟨_, _, _, rfl, by decide, by decide, gxX11, tyX11_ok, T_1_29, T_1_30, T_1_1, fun _ => rfl, by decide +kernel⟩
theorem nwL_10 : NwO RL 10 15 25 := ⟨_, _, _, rfl, by decide, by decide, gxX12, tyX12_ok, T_6_37, T_6_38, T_1_10, fun _ => rfl, by decide +kernel⟩
theorem hdL_i11 : yX11_init.cls ≠ "java/lang/invoke/MethodHandle" ∧ yX11_init.cls ≠ "java/lang/invoke/VarHandle" ∧ (parseMethodDescriptor yX11_init.desc).map (fun d => d.parameters.length) = some 0 := by decide +kernel
theorem hdL_i12 : yX12_init.cls ≠ "java/lang/invoke/MethodHandle" ∧ yX12_init.cls ≠ "java/lang/invoke/VarHandle" ∧ (parseMethodDescriptor yX12_init.desc).map (fun d => d.parameters.length) = some 0 := by decide +kernel
set_option maxHeartbeats 4000000 in
set_option maxRecDepth 100000 in
theorem whole_start {p : Program} {e : Env} {s : State} {m : MethodId} {below : List Frame} {meth : Method} {c : Code} (l : Launch) (hflags : l.flags = flags0) {b L : Nat} {xs : Nat → Int32} (hL : L ≤ 2560) (C0 : lw_At p s m meth c b L xs) : W p l e room_1 s m #[Value.ref b] below meth c s.heap [] 0 0 (lw_Z below #[Value.ref b] s) (entryFrame m ([Value.ref b] : List Value).toArray 4) := by
  obtain ⟨E, Z, hW⟩ := wld_start C0
  have hr : meth.sig.returnType = ret := C0.2.2.1
  have C := Z.1
  obtain ⟨M1, M3, i1, n1, i2', ck⟩ := init_ex
  have hl := lv_entry ([.ref b]) (n := 4) (Nat.le_of_ble_eq_true rfl)
  rw [lg_entry_eq]
  generalize (lg_sl ([.ref b]) ++ List.replicate (4 - (lg_sl ([.ref b])).length) Slot.unset).toArray = ls at hl ⊢
  have hl : lv_has ls 4 [(0, .ref b)] := hl
  refine x_newo (M1 := M00.nw 14 0) C hW rfl nwL_7 dL_0 ⟨Nat.le_of_ble_eq_true rfl, Nat.le_of_ble_eq_true rfl⟩ (fun H hW => ?_)
  refine lv_dup C.x C.b dL_3 rfl ?_
  refine x_callI (As := []) (a := 0) (rest := [.ref (E.b + 0)]) C hW hl (qX11_init l E i1) T_1_31 T_1_32 T_1_1 T_1_33 rfl hdL_i11 rfl rfl (Nat.le_of_ble_eq_true rfl) dL_4 ⟨Nat.le_of_ble_eq_true rfl, Nat.le_of_ble_eq_true rfl⟩ ⟨Nat.le_of_ble_eq_true rfl, Nat.le_of_ble_eq_true rfl⟩ (fun H locs hW => ?_)
  refine lv_astore_n (lv' := [(1, .ref (E.b + 0)), (0, .ref b)]) C.x C.b dL_7 rfl hl (by decide) rfl (fun ls hl => ?_)
  refine x_newo (M1 := M1.nw 15 0) C hW rfl nwL_10 dL_8 ⟨Nat.le_of_ble_eq_true rfl, Nat.le_of_ble_eq_true rfl⟩ (fun H hW => ?_)
  rw [n1]
  refine lv_dup C.x C.b dL_11 rfl ?_
  refine x_callI (As := []) (a := 164) (rest := [.ref (E.b + 164)]) C hW hl (qX12_init l E i2') T_6_39 T_6_40 T_1_10 T_6_41 rfl hdL_i12 rfl rfl (Nat.le_of_ble_eq_true rfl) dL_12 ⟨Nat.le_of_ble_eq_true rfl, Nat.le_of_ble_eq_true rfl⟩ ⟨Nat.le_of_ble_eq_true rfl, Nat.le_of_ble_eq_true rfl⟩ (fun H locs hW => ?_)
  refine lv_astore_n (lv' := [(2, .ref (E.b + 164)), (1, .ref (E.b + 0)), (0, .ref b)]) C.x C.b dL_15 rfl hl (by decide) rfl (fun ls hl => ?_)
  refine lv_iconst (v := i2 0) C.x C.b dL_16 rfl ?_
  refine lv_istore_n (lv' := [(3, .int (i2 0)), (2, .ref (E.b + 164)), (1, .ref (E.b + 0)), (0, .ref b)]) C.x C.b dL_17 rfl hl (by decide) rfl (fun ls hl => ?_)
  refine W.widen (k := 200) (n := 4000) (Nat.le_of_ble_eq_true rfl) (Nat.le_of_ble_eq_true rfl) ?_
  exact law_loop Z hr hL (L + 1) 0 _ _ M3 ls (by omega) (by omega) hW (chk_inv ck) (lv_sub hl [3, 2, 1, 0] rfl)
end LOOPP
