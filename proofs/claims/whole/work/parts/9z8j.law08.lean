section LAWCASES
theorem gvL_182 : GoodIn gT (wsV RL 182 "NylonLadder" yX11_judge (Cond.code yX11_judge cX11_judge 7 (some .int) :: gT)) := good_V T_4_124 T_4_125 T_4_126 T_1_1 T_4_127
theorem hdL_182 : yX11_judge.cls ≠ "java/lang/invoke/MethodHandle" ∧ yX11_judge.cls ≠ "java/lang/invoke/VarHandle" ∧ (parseMethodDescriptor yX11_judge.desc).map (fun d => d.parameters.length) = some 2 := by decide +kernel
theorem gvL_185 : GoodIn gT (wsV RL 185 "NylonLadderModel" yX12_judge (Cond.code yX12_judge cX12_judge 6 (some .int) :: gT)) := good_V T_8_118 T_8_119 T_8_120 T_1_10 T_8_121
theorem hdL_185 : yX12_judge.cls ≠ "java/lang/invoke/MethodHandle" ∧ yX12_judge.cls ≠ "java/lang/invoke/VarHandle" ∧ (parseMethodDescriptor yX12_judge.desc).map (fun d => d.parameters.length) = some 2 := by decide +kernel
theorem dL_1547 : decode code 1547 = .ok (.aload_n 1, 1) := by decide +kernel
theorem dL_1548 : decode code 1548 = .ok (.aload_n 0, 1) := by decide +kernel
theorem dL_1549 : decode code 1549 = .ok (.iload_n 3, 1) := by decide +kernel
theorem dL_1550 : decode code 1550 = .ok (.iconst 1, 1) := by decide +kernel
theorem dL_1551 : decode code 1551 = .ok (.iadd, 1) := by decide +kernel
theorem dL_1552 : decode code 1552 = .ok (.iaload, 1) := by decide +kernel
theorem dL_1553 : decode code 1553 = .ok (.aload_n 0, 1) := by decide +kernel
theorem dL_1554 : decode code 1554 = .ok (.iload_n 3, 1) := by decide +kernel
theorem dL_1555 : decode code 1555 = .ok (.iconst 2, 1) := by decide +kernel
theorem dL_1556 : decode code 1556 = .ok (.iadd, 1) := by decide +kernel
theorem dL_1557 : decode code 1557 = .ok (.iaload, 1) := by decide +kernel
theorem dL_1558 : decode code 1558 = .ok (.invokevirtual 182, 3) := by decide +kernel
theorem dL_1561 : decode code 1561 = .ok (.aload_n 2, 1) := by decide +kernel
theorem dL_1562 : decode code 1562 = .ok (.aload_n 0, 1) := by decide +kernel
theorem dL_1563 : decode code 1563 = .ok (.iload_n 3, 1) := by decide +kernel
theorem dL_1564 : decode code 1564 = .ok (.iconst 1, 1) := by decide +kernel
theorem dL_1565 : decode code 1565 = .ok (.iadd, 1) := by decide +kernel
theorem dL_1566 : decode code 1566 = .ok (.iaload, 1) := by decide +kernel
theorem dL_1567 : decode code 1567 = .ok (.aload_n 0, 1) := by decide +kernel
theorem dL_1568 : decode code 1568 = .ok (.iload_n 3, 1) := by decide +kernel
theorem dL_1569 : decode code 1569 = .ok (.iconst 2, 1) := by decide +kernel
theorem dL_1570 : decode code 1570 = .ok (.iadd, 1) := by decide +kernel
theorem dL_1571 : decode code 1571 = .ok (.iaload, 1) := by decide +kernel
theorem dL_1572 : decode code 1572 = .ok (.invokevirtual 185, 3) := by decide +kernel
theorem dL_1575 : decode code 1575 = .ok (.if_icmp .eq 378, 3) := by decide +kernel
set_option maxRecDepth 100000 in
set_option maxHeartbeats 4000000 in
theorem lc_40 {E : Ev} {p : Program} {l : Launch} {e : Env} {s : State} {m : MethodId} {below : List Frame} {meth : Method} {c : Code} {b L : Nat} {xs : Nat → Int32} {H : Heap} {locs : List Loc} {cells slots : Nat} {Q : State → Prop} {M : Mm} {ls : Array Slot} (Z : LwS E p s m meth c b L xs) (hW : Wx E s H locs M) (hi : Inv M) (L9 : L ≤ 2560) {i : Nat} (hl : lv_has ls 4 (LwL E b i)) (i4 : i + 4 < L) (hc : cells + 15 ≤ 600000) (hs : slots + 200 ≤ 7302250) (kk : ∀ (H : Heap) (locs : List Loc) (M : Mm), Wx E s H locs M → Inv M → W p l e room_1 s m #[Value.ref b] below meth c H locs (cells + 15) (slots + 200) Q (F0 m 1953 ls [])) : W p l e room_1 s m #[Value.ref b] below meth c H locs cells slots Q (F0 m 1547 ls []) := by
  have C := Z.1
  obtain ⟨r, M1, M2, h1, h2, k1, v2⟩ := iv_judge hi (xs (i + 1)) (xs (i + 2))
  refine lv_aload_n C.x C.b dL_1547 rfl (lv_at hl 1 rfl) ?_
  refine la_arg (j := 1) Z hW L9 hl (by omega) rfl dL_1548 dL_1549 dL_1550 dL_1551 dL_1552 ?_
  refine la_arg (j := 2) Z hW L9 hl (by omega) rfl dL_1553 dL_1554 dL_1555 dL_1556 dL_1557 ?_
  refine x_callV (As := [.int (xs (i + 1)), .int (xs (i + 2))]) (a := 0) (rest := []) C hW hl (qX11_judge l E h1) hi.k0 (by decide) (by decide) rfl gvL_182 ⟨rfl, hdL_182⟩ rfl rfl (Nat.le_of_ble_eq_true rfl) dL_1558 ⟨Nat.le_of_ble_eq_true rfl, Nat.le_of_ble_eq_true rfl⟩ ⟨by show cells + _ ≤ 600000; omega, by show slots + _ ≤ 7302250; omega⟩ (fun H locs hW => ?_)
  refine lv_aload_n C.x C.b dL_1561 rfl (lv_at hl 2 rfl) ?_
  refine la_arg (j := 1) Z hW L9 hl (by omega) rfl dL_1562 dL_1563 dL_1564 dL_1565 dL_1566 ?_
  refine la_arg (j := 2) Z hW L9 hl (by omega) rfl dL_1567 dL_1568 dL_1569 dL_1570 dL_1571 ?_
  refine x_callV (As := [.int (xs (i + 1)), .int (xs (i + 2))]) (a := 164) (rest := [.int r]) C hW hl (qX12_judge l E h2) k1 (by decide) (by decide) rfl gvL_185 ⟨rfl, hdL_185⟩ rfl rfl (Nat.le_of_ble_eq_true rfl) dL_1572 ⟨Nat.le_of_ble_eq_true rfl, Nat.le_of_ble_eq_true rfl⟩ ⟨by show cells + _ + _ ≤ 600000; omega, by show slots + _ + _ ≤ 7302250; omega⟩ (fun H locs hW => ?_)
  refine lv_icmp_eq (tgt := 1953) C.x C.b dL_1575 rfl (fun _ => ?_) (fun c_ => absurd rfl c_)
  refine W.widen (k := cells + 15) (n := slots + 200) (by omega) (by omega) ?_
  exact kk _ _ _ hW v2
theorem gvL_186 : GoodIn gT (wsV RL 186 "NylonLadder" yX11_minds (Cond.code yX11_minds cX11_minds 7 (some .int) :: gT)) := good_V T_4_128 T_4_129 T_4_130 T_1_1 T_4_131
theorem hdL_186 : yX11_minds.cls ≠ "java/lang/invoke/MethodHandle" ∧ yX11_minds.cls ≠ "java/lang/invoke/VarHandle" ∧ (parseMethodDescriptor yX11_minds.desc).map (fun d => d.parameters.length) = some 4 := by decide +kernel
theorem gvL_189 : GoodIn gT (wsV RL 189 "NylonLadderModel" yX12_minds (Cond.code yX12_minds cX12_minds 9 (some .int) :: gT)) := good_V T_8_141 T_8_142 T_8_143 T_1_10 T_8_144
theorem hdL_189 : yX12_minds.cls ≠ "java/lang/invoke/MethodHandle" ∧ yX12_minds.cls ≠ "java/lang/invoke/VarHandle" ∧ (parseMethodDescriptor yX12_minds.desc).map (fun d => d.parameters.length) = some 4 := by decide +kernel
theorem dL_1580 : decode code 1580 = .ok (.aload_n 1, 1) := by decide +kernel
theorem dL_1581 : decode code 1581 = .ok (.aload_n 0, 1) := by decide +kernel
theorem dL_1582 : decode code 1582 = .ok (.iload_n 3, 1) := by decide +kernel
theorem dL_1583 : decode code 1583 = .ok (.iconst 1, 1) := by decide +kernel
theorem dL_1584 : decode code 1584 = .ok (.iadd, 1) := by decide +kernel
theorem dL_1585 : decode code 1585 = .ok (.iaload, 1) := by decide +kernel
theorem dL_1586 : decode code 1586 = .ok (.aload_n 0, 1) := by decide +kernel
theorem dL_1587 : decode code 1587 = .ok (.iload_n 3, 1) := by decide +kernel
theorem dL_1588 : decode code 1588 = .ok (.iconst 2, 1) := by decide +kernel
theorem dL_1589 : decode code 1589 = .ok (.iadd, 1) := by decide +kernel
theorem dL_1590 : decode code 1590 = .ok (.iaload, 1) := by decide +kernel
theorem dL_1591 : decode code 1591 = .ok (.aload_n 0, 1) := by decide +kernel
theorem dL_1592 : decode code 1592 = .ok (.iload_n 3, 1) := by decide +kernel
theorem dL_1593 : decode code 1593 = .ok (.iconst 3, 1) := by decide +kernel
theorem dL_1594 : decode code 1594 = .ok (.iadd, 1) := by decide +kernel
theorem dL_1595 : decode code 1595 = .ok (.iaload, 1) := by decide +kernel
theorem dL_1596 : decode code 1596 = .ok (.aload_n 0, 1) := by decide +kernel
theorem dL_1597 : decode code 1597 = .ok (.iload_n 3, 1) := by decide +kernel
theorem dL_1598 : decode code 1598 = .ok (.iconst 4, 1) := by decide +kernel
theorem dL_1599 : decode code 1599 = .ok (.iadd, 1) := by decide +kernel
theorem dL_1600 : decode code 1600 = .ok (.iaload, 1) := by decide +kernel
theorem dL_1601 : decode code 1601 = .ok (.invokevirtual 186, 3) := by decide +kernel
theorem dL_1604 : decode code 1604 = .ok (.aload_n 2, 1) := by decide +kernel
theorem dL_1605 : decode code 1605 = .ok (.aload_n 0, 1) := by decide +kernel
theorem dL_1606 : decode code 1606 = .ok (.iload_n 3, 1) := by decide +kernel
theorem dL_1607 : decode code 1607 = .ok (.iconst 1, 1) := by decide +kernel
theorem dL_1608 : decode code 1608 = .ok (.iadd, 1) := by decide +kernel
theorem dL_1609 : decode code 1609 = .ok (.iaload, 1) := by decide +kernel
theorem dL_1610 : decode code 1610 = .ok (.aload_n 0, 1) := by decide +kernel
theorem dL_1611 : decode code 1611 = .ok (.iload_n 3, 1) := by decide +kernel
theorem dL_1612 : decode code 1612 = .ok (.iconst 2, 1) := by decide +kernel
theorem dL_1613 : decode code 1613 = .ok (.iadd, 1) := by decide +kernel
theorem dL_1614 : decode code 1614 = .ok (.iaload, 1) := by decide +kernel
theorem dL_1615 : decode code 1615 = .ok (.aload_n 0, 1) := by decide +kernel
theorem dL_1616 : decode code 1616 = .ok (.iload_n 3, 1) := by decide +kernel
theorem dL_1617 : decode code 1617 = .ok (.iconst 3, 1) := by decide +kernel
theorem dL_1618 : decode code 1618 = .ok (.iadd, 1) := by decide +kernel
theorem dL_1619 : decode code 1619 = .ok (.iaload, 1) := by decide +kernel
theorem dL_1620 : decode code 1620 = .ok (.aload_n 0, 1) := by decide +kernel
theorem dL_1621 : decode code 1621 = .ok (.iload_n 3, 1) := by decide +kernel
theorem dL_1622 : decode code 1622 = .ok (.iconst 4, 1) := by decide +kernel
theorem dL_1623 : decode code 1623 = .ok (.iadd, 1) := by decide +kernel
theorem dL_1624 : decode code 1624 = .ok (.iaload, 1) := by decide +kernel
theorem dL_1625 : decode code 1625 = .ok (.invokevirtual 189, 3) := by decide +kernel
theorem dL_1628 : decode code 1628 = .ok (.if_icmp .eq 325, 3) := by decide +kernel
set_option maxRecDepth 100000 in
set_option maxHeartbeats 4000000 in
theorem lc_41 {E : Ev} {p : Program} {l : Launch} {e : Env} {s : State} {m : MethodId} {below : List Frame} {meth : Method} {c : Code} {b L : Nat} {xs : Nat → Int32} {H : Heap} {locs : List Loc} {cells slots : Nat} {Q : State → Prop} {M : Mm} {ls : Array Slot} (Z : LwS E p s m meth c b L xs) (hW : Wx E s H locs M) (hi : Inv M) (L9 : L ≤ 2560) {i : Nat} (hl : lv_has ls 4 (LwL E b i)) (i4 : i + 4 < L) (hc : cells + 15 ≤ 600000) (hs : slots + 200 ≤ 7302250) (kk : ∀ (H : Heap) (locs : List Loc) (M : Mm), Wx E s H locs M → Inv M → W p l e room_1 s m #[Value.ref b] below meth c H locs (cells + 15) (slots + 200) Q (F0 m 1953 ls [])) : W p l e room_1 s m #[Value.ref b] below meth c H locs cells slots Q (F0 m 1580 ls []) := by
  have C := Z.1
  obtain ⟨r, M1, M2, h1, h2, k1, v2⟩ := iv_minds hi (xs (i + 1)) (xs (i + 2)) (xs (i + 3)) (xs (i + 4))
  refine lv_aload_n C.x C.b dL_1580 rfl (lv_at hl 1 rfl) ?_
  refine la_arg (j := 1) Z hW L9 hl (by omega) rfl dL_1581 dL_1582 dL_1583 dL_1584 dL_1585 ?_
  refine la_arg (j := 2) Z hW L9 hl (by omega) rfl dL_1586 dL_1587 dL_1588 dL_1589 dL_1590 ?_
  refine la_arg (j := 3) Z hW L9 hl (by omega) rfl dL_1591 dL_1592 dL_1593 dL_1594 dL_1595 ?_
  refine la_arg (j := 4) Z hW L9 hl (by omega) rfl dL_1596 dL_1597 dL_1598 dL_1599 dL_1600 ?_
  refine x_callV (As := [.int (xs (i + 1)), .int (xs (i + 2)), .int (xs (i + 3)), .int (xs (i + 4))]) (a := 0) (rest := []) C hW hl (qX11_minds l E h1) hi.k0 (by decide) (by decide) rfl gvL_186 ⟨rfl, hdL_186⟩ rfl rfl (Nat.le_of_ble_eq_true rfl) dL_1601 ⟨Nat.le_of_ble_eq_true rfl, Nat.le_of_ble_eq_true rfl⟩ ⟨by show cells + _ ≤ 600000; omega, by show slots + _ ≤ 7302250; omega⟩ (fun H locs hW => ?_)
  refine lv_aload_n C.x C.b dL_1604 rfl (lv_at hl 2 rfl) ?_
  refine la_arg (j := 1) Z hW L9 hl (by omega) rfl dL_1605 dL_1606 dL_1607 dL_1608 dL_1609 ?_
  refine la_arg (j := 2) Z hW L9 hl (by omega) rfl dL_1610 dL_1611 dL_1612 dL_1613 dL_1614 ?_
  refine la_arg (j := 3) Z hW L9 hl (by omega) rfl dL_1615 dL_1616 dL_1617 dL_1618 dL_1619 ?_
  refine la_arg (j := 4) Z hW L9 hl (by omega) rfl dL_1620 dL_1621 dL_1622 dL_1623 dL_1624 ?_
  refine x_callV (As := [.int (xs (i + 1)), .int (xs (i + 2)), .int (xs (i + 3)), .int (xs (i + 4))]) (a := 164) (rest := [.int r]) C hW hl (qX12_minds l E h2) k1 (by decide) (by decide) rfl gvL_189 ⟨rfl, hdL_189⟩ rfl rfl (Nat.le_of_ble_eq_true rfl) dL_1625 ⟨Nat.le_of_ble_eq_true rfl, Nat.le_of_ble_eq_true rfl⟩ ⟨by show cells + _ + _ ≤ 600000; omega, by show slots + _ + _ ≤ 7302250; omega⟩ (fun H locs hW => ?_)
  refine lv_icmp_eq (tgt := 1953) C.x C.b dL_1628 rfl (fun _ => ?_) (fun c_ => absurd rfl c_)
  refine W.widen (k := cells + 15) (n := slots + 200) (by omega) (by omega) ?_
  exact kk _ _ _ hW v2
theorem gvL_190 : GoodIn gT (wsV RL 190 "NylonLadder" yX11_sheet (Cond.code yX11_sheet cX11_sheet 4 (some .int) :: gT)) := good_V T_4_136 T_4_137 T_4_138 T_1_1 T_4_139
theorem hdL_190 : yX11_sheet.cls ≠ "java/lang/invoke/MethodHandle" ∧ yX11_sheet.cls ≠ "java/lang/invoke/VarHandle" ∧ (parseMethodDescriptor yX11_sheet.desc).map (fun d => d.parameters.length) = some 3 := by decide +kernel
theorem gvL_193 : GoodIn gT (wsV RL 193 "NylonLadderModel" yX12_sheet (Cond.code yX12_sheet cX12_sheet 5 (some .int) :: gT)) := good_V T_8_122 T_8_123 T_8_124 T_1_10 T_8_125
theorem hdL_193 : yX12_sheet.cls ≠ "java/lang/invoke/MethodHandle" ∧ yX12_sheet.cls ≠ "java/lang/invoke/VarHandle" ∧ (parseMethodDescriptor yX12_sheet.desc).map (fun d => d.parameters.length) = some 3 := by decide +kernel
theorem dL_1633 : decode code 1633 = .ok (.aload_n 1, 1) := by decide +kernel
theorem dL_1634 : decode code 1634 = .ok (.aload_n 0, 1) := by decide +kernel
theorem dL_1635 : decode code 1635 = .ok (.iload_n 3, 1) := by decide +kernel
theorem dL_1636 : decode code 1636 = .ok (.iconst 1, 1) := by decide +kernel
theorem dL_1637 : decode code 1637 = .ok (.iadd, 1) := by decide +kernel
theorem dL_1638 : decode code 1638 = .ok (.iaload, 1) := by decide +kernel
theorem dL_1639 : decode code 1639 = .ok (.aload_n 0, 1) := by decide +kernel
theorem dL_1640 : decode code 1640 = .ok (.iload_n 3, 1) := by decide +kernel
theorem dL_1641 : decode code 1641 = .ok (.iconst 2, 1) := by decide +kernel
theorem dL_1642 : decode code 1642 = .ok (.iadd, 1) := by decide +kernel
theorem dL_1643 : decode code 1643 = .ok (.iaload, 1) := by decide +kernel
theorem dL_1644 : decode code 1644 = .ok (.aload_n 0, 1) := by decide +kernel
theorem dL_1645 : decode code 1645 = .ok (.iload_n 3, 1) := by decide +kernel
theorem dL_1646 : decode code 1646 = .ok (.iconst 3, 1) := by decide +kernel
theorem dL_1647 : decode code 1647 = .ok (.iadd, 1) := by decide +kernel
theorem dL_1648 : decode code 1648 = .ok (.iaload, 1) := by decide +kernel
theorem dL_1649 : decode code 1649 = .ok (.invokevirtual 190, 3) := by decide +kernel
theorem dL_1652 : decode code 1652 = .ok (.aload_n 2, 1) := by decide +kernel
theorem dL_1653 : decode code 1653 = .ok (.aload_n 0, 1) := by decide +kernel
theorem dL_1654 : decode code 1654 = .ok (.iload_n 3, 1) := by decide +kernel
theorem dL_1655 : decode code 1655 = .ok (.iconst 1, 1) := by decide +kernel
theorem dL_1656 : decode code 1656 = .ok (.iadd, 1) := by decide +kernel
theorem dL_1657 : decode code 1657 = .ok (.iaload, 1) := by decide +kernel
theorem dL_1658 : decode code 1658 = .ok (.aload_n 0, 1) := by decide +kernel
theorem dL_1659 : decode code 1659 = .ok (.iload_n 3, 1) := by decide +kernel
theorem dL_1660 : decode code 1660 = .ok (.iconst 2, 1) := by decide +kernel
theorem dL_1661 : decode code 1661 = .ok (.iadd, 1) := by decide +kernel
theorem dL_1662 : decode code 1662 = .ok (.iaload, 1) := by decide +kernel
theorem dL_1663 : decode code 1663 = .ok (.aload_n 0, 1) := by decide +kernel
theorem dL_1664 : decode code 1664 = .ok (.iload_n 3, 1) := by decide +kernel
theorem dL_1665 : decode code 1665 = .ok (.iconst 3, 1) := by decide +kernel
theorem dL_1666 : decode code 1666 = .ok (.iadd, 1) := by decide +kernel
theorem dL_1667 : decode code 1667 = .ok (.iaload, 1) := by decide +kernel
theorem dL_1668 : decode code 1668 = .ok (.invokevirtual 193, 3) := by decide +kernel
theorem dL_1671 : decode code 1671 = .ok (.if_icmp .eq 282, 3) := by decide +kernel
set_option maxRecDepth 100000 in
set_option maxHeartbeats 4000000 in
theorem lc_42 {E : Ev} {p : Program} {l : Launch} {e : Env} {s : State} {m : MethodId} {below : List Frame} {meth : Method} {c : Code} {b L : Nat} {xs : Nat → Int32} {H : Heap} {locs : List Loc} {cells slots : Nat} {Q : State → Prop} {M : Mm} {ls : Array Slot} (Z : LwS E p s m meth c b L xs) (hW : Wx E s H locs M) (hi : Inv M) (L9 : L ≤ 2560) {i : Nat} (hl : lv_has ls 4 (LwL E b i)) (i4 : i + 4 < L) (hc : cells + 15 ≤ 600000) (hs : slots + 200 ≤ 7302250) (kk : ∀ (H : Heap) (locs : List Loc) (M : Mm), Wx E s H locs M → Inv M → W p l e room_1 s m #[Value.ref b] below meth c H locs (cells + 15) (slots + 200) Q (F0 m 1953 ls [])) : W p l e room_1 s m #[Value.ref b] below meth c H locs cells slots Q (F0 m 1633 ls []) := by
  have C := Z.1
  obtain ⟨r, M1, M2, h1, h2, k1, v2⟩ := iv_sheet hi (xs (i + 1)) (xs (i + 2)) (xs (i + 3))
  refine lv_aload_n C.x C.b dL_1633 rfl (lv_at hl 1 rfl) ?_
  refine la_arg (j := 1) Z hW L9 hl (by omega) rfl dL_1634 dL_1635 dL_1636 dL_1637 dL_1638 ?_
  refine la_arg (j := 2) Z hW L9 hl (by omega) rfl dL_1639 dL_1640 dL_1641 dL_1642 dL_1643 ?_
  refine la_arg (j := 3) Z hW L9 hl (by omega) rfl dL_1644 dL_1645 dL_1646 dL_1647 dL_1648 ?_
  refine x_callV (As := [.int (xs (i + 1)), .int (xs (i + 2)), .int (xs (i + 3))]) (a := 0) (rest := []) C hW hl (qX11_sheet l E h1) hi.k0 (by decide) (by decide) rfl gvL_190 ⟨rfl, hdL_190⟩ rfl rfl (Nat.le_of_ble_eq_true rfl) dL_1649 ⟨Nat.le_of_ble_eq_true rfl, Nat.le_of_ble_eq_true rfl⟩ ⟨by show cells + _ ≤ 600000; omega, by show slots + _ ≤ 7302250; omega⟩ (fun H locs hW => ?_)
  refine lv_aload_n C.x C.b dL_1652 rfl (lv_at hl 2 rfl) ?_
  refine la_arg (j := 1) Z hW L9 hl (by omega) rfl dL_1653 dL_1654 dL_1655 dL_1656 dL_1657 ?_
  refine la_arg (j := 2) Z hW L9 hl (by omega) rfl dL_1658 dL_1659 dL_1660 dL_1661 dL_1662 ?_
  refine la_arg (j := 3) Z hW L9 hl (by omega) rfl dL_1663 dL_1664 dL_1665 dL_1666 dL_1667 ?_
  refine x_callV (As := [.int (xs (i + 1)), .int (xs (i + 2)), .int (xs (i + 3))]) (a := 164) (rest := [.int r]) C hW hl (qX12_sheet l E h2) k1 (by decide) (by decide) rfl gvL_193 ⟨rfl, hdL_193⟩ rfl rfl (Nat.le_of_ble_eq_true rfl) dL_1668 ⟨Nat.le_of_ble_eq_true rfl, Nat.le_of_ble_eq_true rfl⟩ ⟨by show cells + _ + _ ≤ 600000; omega, by show slots + _ + _ ≤ 7302250; omega⟩ (fun H locs hW => ?_)
  refine lv_icmp_eq (tgt := 1953) C.x C.b dL_1671 rfl (fun _ => ?_) (fun c_ => absurd rfl c_)
  refine W.widen (k := cells + 15) (n := slots + 200) (by omega) (by omega) ?_
  exact kk _ _ _ hW v2
theorem gvL_194 : GoodIn gT (wsV RL 194 "NylonLadder" yX11_put (Cond.code yX11_put cX11_put 5 (some .int) :: gT)) := good_V T_4_156 T_4_157 T_4_158 T_1_1 T_4_159
theorem hdL_194 : yX11_put.cls ≠ "java/lang/invoke/MethodHandle" ∧ yX11_put.cls ≠ "java/lang/invoke/VarHandle" ∧ (parseMethodDescriptor yX11_put.desc).map (fun d => d.parameters.length) = some 3 := by decide +kernel
theorem gvL_197 : GoodIn gT (wsV RL 197 "NylonLadderModel" yX12_put (Cond.code yX12_put cX12_put 6 (some .int) :: gT)) := good_V T_8_129 T_8_130 T_8_131 T_1_10 T_8_132
theorem hdL_197 : yX12_put.cls ≠ "java/lang/invoke/MethodHandle" ∧ yX12_put.cls ≠ "java/lang/invoke/VarHandle" ∧ (parseMethodDescriptor yX12_put.desc).map (fun d => d.parameters.length) = some 3 := by decide +kernel
theorem dL_1676 : decode code 1676 = .ok (.aload_n 1, 1) := by decide +kernel
theorem dL_1677 : decode code 1677 = .ok (.aload_n 0, 1) := by decide +kernel
theorem dL_1678 : decode code 1678 = .ok (.iload_n 3, 1) := by decide +kernel
theorem dL_1679 : decode code 1679 = .ok (.iconst 1, 1) := by decide +kernel
theorem dL_1680 : decode code 1680 = .ok (.iadd, 1) := by decide +kernel
theorem dL_1681 : decode code 1681 = .ok (.iaload, 1) := by decide +kernel
theorem dL_1682 : decode code 1682 = .ok (.aload_n 0, 1) := by decide +kernel
theorem dL_1683 : decode code 1683 = .ok (.iload_n 3, 1) := by decide +kernel
theorem dL_1684 : decode code 1684 = .ok (.iconst 2, 1) := by decide +kernel
theorem dL_1685 : decode code 1685 = .ok (.iadd, 1) := by decide +kernel
theorem dL_1686 : decode code 1686 = .ok (.iaload, 1) := by decide +kernel
theorem dL_1687 : decode code 1687 = .ok (.aload_n 0, 1) := by decide +kernel
theorem dL_1688 : decode code 1688 = .ok (.iload_n 3, 1) := by decide +kernel
theorem dL_1689 : decode code 1689 = .ok (.iconst 3, 1) := by decide +kernel
theorem dL_1690 : decode code 1690 = .ok (.iadd, 1) := by decide +kernel
theorem dL_1691 : decode code 1691 = .ok (.iaload, 1) := by decide +kernel
theorem dL_1692 : decode code 1692 = .ok (.invokevirtual 194, 3) := by decide +kernel
theorem dL_1695 : decode code 1695 = .ok (.aload_n 2, 1) := by decide +kernel
theorem dL_1696 : decode code 1696 = .ok (.aload_n 0, 1) := by decide +kernel
theorem dL_1697 : decode code 1697 = .ok (.iload_n 3, 1) := by decide +kernel
theorem dL_1698 : decode code 1698 = .ok (.iconst 1, 1) := by decide +kernel
theorem dL_1699 : decode code 1699 = .ok (.iadd, 1) := by decide +kernel
theorem dL_1700 : decode code 1700 = .ok (.iaload, 1) := by decide +kernel
theorem dL_1701 : decode code 1701 = .ok (.aload_n 0, 1) := by decide +kernel
theorem dL_1702 : decode code 1702 = .ok (.iload_n 3, 1) := by decide +kernel
theorem dL_1703 : decode code 1703 = .ok (.iconst 2, 1) := by decide +kernel
theorem dL_1704 : decode code 1704 = .ok (.iadd, 1) := by decide +kernel
theorem dL_1705 : decode code 1705 = .ok (.iaload, 1) := by decide +kernel
theorem dL_1706 : decode code 1706 = .ok (.aload_n 0, 1) := by decide +kernel
theorem dL_1707 : decode code 1707 = .ok (.iload_n 3, 1) := by decide +kernel
theorem dL_1708 : decode code 1708 = .ok (.iconst 3, 1) := by decide +kernel
theorem dL_1709 : decode code 1709 = .ok (.iadd, 1) := by decide +kernel
theorem dL_1710 : decode code 1710 = .ok (.iaload, 1) := by decide +kernel
theorem dL_1711 : decode code 1711 = .ok (.invokevirtual 197, 3) := by decide +kernel
theorem dL_1714 : decode code 1714 = .ok (.if_icmp .eq 239, 3) := by decide +kernel
set_option maxRecDepth 100000 in
set_option maxHeartbeats 4000000 in
theorem lc_43 {E : Ev} {p : Program} {l : Launch} {e : Env} {s : State} {m : MethodId} {below : List Frame} {meth : Method} {c : Code} {b L : Nat} {xs : Nat → Int32} {H : Heap} {locs : List Loc} {cells slots : Nat} {Q : State → Prop} {M : Mm} {ls : Array Slot} (Z : LwS E p s m meth c b L xs) (hW : Wx E s H locs M) (hi : Inv M) (L9 : L ≤ 2560) {i : Nat} (hl : lv_has ls 4 (LwL E b i)) (i4 : i + 4 < L) (hc : cells + 15 ≤ 600000) (hs : slots + 200 ≤ 7302250) (kk : ∀ (H : Heap) (locs : List Loc) (M : Mm), Wx E s H locs M → Inv M → W p l e room_1 s m #[Value.ref b] below meth c H locs (cells + 15) (slots + 200) Q (F0 m 1953 ls [])) : W p l e room_1 s m #[Value.ref b] below meth c H locs cells slots Q (F0 m 1676 ls []) := by
  have C := Z.1
  obtain ⟨r, M1, M2, h1, h2, k1, v2⟩ := iv_put hi (xs (i + 1)) (xs (i + 2)) (xs (i + 3))
  refine lv_aload_n C.x C.b dL_1676 rfl (lv_at hl 1 rfl) ?_
  refine la_arg (j := 1) Z hW L9 hl (by omega) rfl dL_1677 dL_1678 dL_1679 dL_1680 dL_1681 ?_
  refine la_arg (j := 2) Z hW L9 hl (by omega) rfl dL_1682 dL_1683 dL_1684 dL_1685 dL_1686 ?_
  refine la_arg (j := 3) Z hW L9 hl (by omega) rfl dL_1687 dL_1688 dL_1689 dL_1690 dL_1691 ?_
  refine x_callV (As := [.int (xs (i + 1)), .int (xs (i + 2)), .int (xs (i + 3))]) (a := 0) (rest := []) C hW hl (qX11_put l E h1) hi.k0 (by decide) (by decide) rfl gvL_194 ⟨rfl, hdL_194⟩ rfl rfl (Nat.le_of_ble_eq_true rfl) dL_1692 ⟨Nat.le_of_ble_eq_true rfl, Nat.le_of_ble_eq_true rfl⟩ ⟨by show cells + _ ≤ 600000; omega, by show slots + _ ≤ 7302250; omega⟩ (fun H locs hW => ?_)
  refine lv_aload_n C.x C.b dL_1695 rfl (lv_at hl 2 rfl) ?_
  refine la_arg (j := 1) Z hW L9 hl (by omega) rfl dL_1696 dL_1697 dL_1698 dL_1699 dL_1700 ?_
  refine la_arg (j := 2) Z hW L9 hl (by omega) rfl dL_1701 dL_1702 dL_1703 dL_1704 dL_1705 ?_
  refine la_arg (j := 3) Z hW L9 hl (by omega) rfl dL_1706 dL_1707 dL_1708 dL_1709 dL_1710 ?_
  refine x_callV (As := [.int (xs (i + 1)), .int (xs (i + 2)), .int (xs (i + 3))]) (a := 164) (rest := [.int r]) C hW hl (qX12_put l E h2) k1 (by decide) (by decide) rfl gvL_197 ⟨rfl, hdL_197⟩ rfl rfl (Nat.le_of_ble_eq_true rfl) dL_1711 ⟨Nat.le_of_ble_eq_true rfl, Nat.le_of_ble_eq_true rfl⟩ ⟨by show cells + _ + _ ≤ 600000; omega, by show slots + _ + _ ≤ 7302250; omega⟩ (fun H locs hW => ?_)
  refine lv_icmp_eq (tgt := 1953) C.x C.b dL_1714 rfl (fun _ => ?_) (fun c_ => absurd rfl c_)
  refine W.widen (k := cells + 15) (n := slots + 200) (by omega) (by omega) ?_
  exact kk _ _ _ hW v2
theorem gvL_198 : GoodIn gT (wsV RL 198 "NylonLadder" yX11_item (Cond.code yX11_item cX11_item 5 (some .int) :: gT)) := good_V T_4_169 T_4_170 T_4_171 T_1_1 T_4_172
theorem hdL_198 : yX11_item.cls ≠ "java/lang/invoke/MethodHandle" ∧ yX11_item.cls ≠ "java/lang/invoke/VarHandle" ∧ (parseMethodDescriptor yX11_item.desc).map (fun d => d.parameters.length) = some 3 := by decide +kernel
theorem gvL_201 : GoodIn gT (wsV RL 201 "NylonLadderModel" yX12_item_ (Cond.code yX12_item_ cX12_item_ 5 (some .int) :: gT)) := good_V T_8_137 T_8_138 T_8_139 T_1_10 T_8_140
theorem hdL_201 : yX12_item_.cls ≠ "java/lang/invoke/MethodHandle" ∧ yX12_item_.cls ≠ "java/lang/invoke/VarHandle" ∧ (parseMethodDescriptor yX12_item_.desc).map (fun d => d.parameters.length) = some 3 := by decide +kernel
theorem dL_1719 : decode code 1719 = .ok (.aload_n 1, 1) := by decide +kernel
theorem dL_1720 : decode code 1720 = .ok (.aload_n 0, 1) := by decide +kernel
theorem dL_1721 : decode code 1721 = .ok (.iload_n 3, 1) := by decide +kernel
theorem dL_1722 : decode code 1722 = .ok (.iconst 1, 1) := by decide +kernel
theorem dL_1723 : decode code 1723 = .ok (.iadd, 1) := by decide +kernel
theorem dL_1724 : decode code 1724 = .ok (.iaload, 1) := by decide +kernel
theorem dL_1725 : decode code 1725 = .ok (.aload_n 0, 1) := by decide +kernel
theorem dL_1726 : decode code 1726 = .ok (.iload_n 3, 1) := by decide +kernel
theorem dL_1727 : decode code 1727 = .ok (.iconst 2, 1) := by decide +kernel
theorem dL_1728 : decode code 1728 = .ok (.iadd, 1) := by decide +kernel
theorem dL_1729 : decode code 1729 = .ok (.iaload, 1) := by decide +kernel
theorem dL_1730 : decode code 1730 = .ok (.aload_n 0, 1) := by decide +kernel
theorem dL_1731 : decode code 1731 = .ok (.iload_n 3, 1) := by decide +kernel
theorem dL_1732 : decode code 1732 = .ok (.iconst 3, 1) := by decide +kernel
theorem dL_1733 : decode code 1733 = .ok (.iadd, 1) := by decide +kernel
theorem dL_1734 : decode code 1734 = .ok (.iaload, 1) := by decide +kernel
theorem dL_1735 : decode code 1735 = .ok (.invokevirtual 198, 3) := by decide +kernel
theorem dL_1738 : decode code 1738 = .ok (.aload_n 2, 1) := by decide +kernel
theorem dL_1739 : decode code 1739 = .ok (.aload_n 0, 1) := by decide +kernel
theorem dL_1740 : decode code 1740 = .ok (.iload_n 3, 1) := by decide +kernel
theorem dL_1741 : decode code 1741 = .ok (.iconst 1, 1) := by decide +kernel
theorem dL_1742 : decode code 1742 = .ok (.iadd, 1) := by decide +kernel
theorem dL_1743 : decode code 1743 = .ok (.iaload, 1) := by decide +kernel
theorem dL_1744 : decode code 1744 = .ok (.aload_n 0, 1) := by decide +kernel
theorem dL_1745 : decode code 1745 = .ok (.iload_n 3, 1) := by decide +kernel
theorem dL_1746 : decode code 1746 = .ok (.iconst 2, 1) := by decide +kernel
theorem dL_1747 : decode code 1747 = .ok (.iadd, 1) := by decide +kernel
theorem dL_1748 : decode code 1748 = .ok (.iaload, 1) := by decide +kernel
theorem dL_1749 : decode code 1749 = .ok (.aload_n 0, 1) := by decide +kernel
theorem dL_1750 : decode code 1750 = .ok (.iload_n 3, 1) := by decide +kernel
theorem dL_1751 : decode code 1751 = .ok (.iconst 3, 1) := by decide +kernel
theorem dL_1752 : decode code 1752 = .ok (.iadd, 1) := by decide +kernel
theorem dL_1753 : decode code 1753 = .ok (.iaload, 1) := by decide +kernel
theorem dL_1754 : decode code 1754 = .ok (.invokevirtual 201, 3) := by decide +kernel
theorem dL_1757 : decode code 1757 = .ok (.if_icmp .eq 196, 3) := by decide +kernel
set_option maxRecDepth 100000 in
set_option maxHeartbeats 4000000 in
theorem lc_44 {E : Ev} {p : Program} {l : Launch} {e : Env} {s : State} {m : MethodId} {below : List Frame} {meth : Method} {c : Code} {b L : Nat} {xs : Nat → Int32} {H : Heap} {locs : List Loc} {cells slots : Nat} {Q : State → Prop} {M : Mm} {ls : Array Slot} (Z : LwS E p s m meth c b L xs) (hW : Wx E s H locs M) (hi : Inv M) (L9 : L ≤ 2560) {i : Nat} (hl : lv_has ls 4 (LwL E b i)) (i4 : i + 4 < L) (hc : cells + 15 ≤ 600000) (hs : slots + 200 ≤ 7302250) (kk : ∀ (H : Heap) (locs : List Loc) (M : Mm), Wx E s H locs M → Inv M → W p l e room_1 s m #[Value.ref b] below meth c H locs (cells + 15) (slots + 200) Q (F0 m 1953 ls [])) : W p l e room_1 s m #[Value.ref b] below meth c H locs cells slots Q (F0 m 1719 ls []) := by
  have C := Z.1
  obtain ⟨r, h1, h2⟩ := iv_item hi (xs (i + 1)) (xs (i + 2)) (xs (i + 3))
  refine lv_aload_n C.x C.b dL_1719 rfl (lv_at hl 1 rfl) ?_
  refine la_arg (j := 1) Z hW L9 hl (by omega) rfl dL_1720 dL_1721 dL_1722 dL_1723 dL_1724 ?_
  refine la_arg (j := 2) Z hW L9 hl (by omega) rfl dL_1725 dL_1726 dL_1727 dL_1728 dL_1729 ?_
  refine la_arg (j := 3) Z hW L9 hl (by omega) rfl dL_1730 dL_1731 dL_1732 dL_1733 dL_1734 ?_
  refine x_callV (As := [.int (xs (i + 1)), .int (xs (i + 2)), .int (xs (i + 3))]) (a := 0) (rest := []) C hW hl (qX11_item l E h1) hi.k0 (by decide) (by decide) rfl gvL_198 ⟨rfl, hdL_198⟩ rfl rfl (Nat.le_of_ble_eq_true rfl) dL_1735 ⟨Nat.le_of_ble_eq_true rfl, Nat.le_of_ble_eq_true rfl⟩ ⟨by show cells + _ ≤ 600000; omega, by show slots + _ ≤ 7302250; omega⟩ (fun H locs hW => ?_)
  refine lv_aload_n C.x C.b dL_1738 rfl (lv_at hl 2 rfl) ?_
  refine la_arg (j := 1) Z hW L9 hl (by omega) rfl dL_1739 dL_1740 dL_1741 dL_1742 dL_1743 ?_
  refine la_arg (j := 2) Z hW L9 hl (by omega) rfl dL_1744 dL_1745 dL_1746 dL_1747 dL_1748 ?_
  refine la_arg (j := 3) Z hW L9 hl (by omega) rfl dL_1749 dL_1750 dL_1751 dL_1752 dL_1753 ?_
  refine x_callV (As := [.int (xs (i + 1)), .int (xs (i + 2)), .int (xs (i + 3))]) (a := 164) (rest := [.int r]) C hW hl (qX12_item_ l E h2) hi.k164 (by decide) (by decide) rfl gvL_201 ⟨rfl, hdL_201⟩ rfl rfl (Nat.le_of_ble_eq_true rfl) dL_1754 ⟨Nat.le_of_ble_eq_true rfl, Nat.le_of_ble_eq_true rfl⟩ ⟨by show cells + _ + _ ≤ 600000; omega, by show slots + _ + _ ≤ 7302250; omega⟩ (fun H locs hW => ?_)
  refine lv_icmp_eq (tgt := 1953) C.x C.b dL_1757 rfl (fun _ => ?_) (fun c_ => absurd rfl c_)
  refine W.widen (k := cells + 15) (n := slots + 200) (by omega) (by omega) ?_
  exact kk _ _ _ hW hi
end LAWCASES
