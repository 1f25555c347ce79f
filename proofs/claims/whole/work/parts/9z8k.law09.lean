section LAWCASES
theorem gvL_202 : GoodIn gT (wsV RL 202 "NylonLadder" yX11_shelf (Cond.code yX11_shelf cX11_shelf 4 (some .int) :: gT)) := good_V T_4_173 T_4_174 T_4_175 T_1_1 T_4_176
theorem hdL_202 : yX11_shelf.cls ≠ "java/lang/invoke/MethodHandle" ∧ yX11_shelf.cls ≠ "java/lang/invoke/VarHandle" ∧ (parseMethodDescriptor yX11_shelf.desc).map (fun d => d.parameters.length) = some 3 := by decide +kernel
theorem gvL_205 : GoodIn gT (wsV RL 205 "NylonLadderModel" yX12_shelf (Cond.code yX12_shelf cX12_shelf 6 (some .int) :: gT)) := good_V T_8_151 T_8_152 T_8_153 T_1_10 T_8_154
theorem hdL_205 : yX12_shelf.cls ≠ "java/lang/invoke/MethodHandle" ∧ yX12_shelf.cls ≠ "java/lang/invoke/VarHandle" ∧ (parseMethodDescriptor yX12_shelf.desc).map (fun d => d.parameters.length) = some 3 := by decide +kernel
theorem dL_1762 : decode code 1762 = .ok (.aload_n 1, 1) := by decide +kernel
theorem dL_1763 : decode code 1763 = .ok (.aload_n 0, 1) := by decide +kernel
theorem dL_1764 : decode code 1764 = .ok (.iload_n 3, 1) := by decide +kernel
theorem dL_1765 : decode code 1765 = .ok (.iconst 1, 1) := by decide +kernel
theorem dL_1766 : decode code 1766 = .ok (.iadd, 1) := by decide +kernel
theorem dL_1767 : decode code 1767 = .ok (.iaload, 1) := by decide +kernel
theorem dL_1768 : decode code 1768 = .ok (.aload_n 0, 1) := by decide +kernel
theorem dL_1769 : decode code 1769 = .ok (.iload_n 3, 1) := by decide +kernel
theorem dL_1770 : decode code 1770 = .ok (.iconst 2, 1) := by decide +kernel
theorem dL_1771 : decode code 1771 = .ok (.iadd, 1) := by decide +kernel
theorem dL_1772 : decode code 1772 = .ok (.iaload, 1) := by decide +kernel
theorem dL_1773 : decode code 1773 = .ok (.aload_n 0, 1) := by decide +kernel
theorem dL_1774 : decode code 1774 = .ok (.iload_n 3, 1) := by decide +kernel
theorem dL_1775 : decode code 1775 = .ok (.iconst 3, 1) := by decide +kernel
theorem dL_1776 : decode code 1776 = .ok (.iadd, 1) := by decide +kernel
theorem dL_1777 : decode code 1777 = .ok (.iaload, 1) := by decide +kernel
theorem dL_1778 : decode code 1778 = .ok (.invokevirtual 202, 3) := by decide +kernel
theorem dL_1781 : decode code 1781 = .ok (.aload_n 2, 1) := by decide +kernel
theorem dL_1782 : decode code 1782 = .ok (.aload_n 0, 1) := by decide +kernel
theorem dL_1783 : decode code 1783 = .ok (.iload_n 3, 1) := by decide +kernel
theorem dL_1784 : decode code 1784 = .ok (.iconst 1, 1) := by decide +kernel
theorem dL_1785 : decode code 1785 = .ok (.iadd, 1) := by decide +kernel
theorem dL_1786 : decode code 1786 = .ok (.iaload, 1) := by decide +kernel
theorem dL_1787 : decode code 1787 = .ok (.aload_n 0, 1) := by decide +kernel
theorem dL_1788 : decode code 1788 = .ok (.iload_n 3, 1) := by decide +kernel
theorem dL_1789 : decode code 1789 = .ok (.iconst 2, 1) := by decide +kernel
theorem dL_1790 : decode code 1790 = .ok (.iadd, 1) := by decide +kernel
theorem dL_1791 : decode code 1791 = .ok (.iaload, 1) := by decide +kernel
theorem dL_1792 : decode code 1792 = .ok (.aload_n 0, 1) := by decide +kernel
theorem dL_1793 : decode code 1793 = .ok (.iload_n 3, 1) := by decide +kernel
theorem dL_1794 : decode code 1794 = .ok (.iconst 3, 1) := by decide +kernel
theorem dL_1795 : decode code 1795 = .ok (.iadd, 1) := by decide +kernel
theorem dL_1796 : decode code 1796 = .ok (.iaload, 1) := by decide +kernel
theorem dL_1797 : decode code 1797 = .ok (.invokevirtual 205, 3) := by decide +kernel
theorem dL_1800 : decode code 1800 = .ok (.if_icmp .eq 153, 3) := by decide +kernel
set_option maxRecDepth 100000 in
set_option maxHeartbeats 4000000 in
theorem lc_45 {E : Ev} {p : Program} {l : Launch} {e : Env} {s : State} {m : MethodId} {below : List Frame} {meth : Method} {c : Code} {b L : Nat} {xs : Nat → Int32} {H : Heap} {locs : List Loc} {cells slots : Nat} {Q : State → Prop} {M : Mm} {ls : Array Slot} (Z : LwS E p s m meth c b L xs) (hW : Wx E s H locs M) (hi : Inv M) (L9 : L ≤ 2560) {i : Nat} (hl : lv_has ls 4 (LwL E b i)) (i4 : i + 4 < L) (hc : cells + 15 ≤ 600000) (hs : slots + 200 ≤ 7302250) (kk : ∀ (H : Heap) (locs : List Loc) (M : Mm), Wx E s H locs M → Inv M → W p l e room_1 s m #[Value.ref b] below meth c H locs (cells + 15) (slots + 200) Q (F0 m 1953 ls [])) : W p l e room_1 s m #[Value.ref b] below meth c H locs cells slots Q (F0 m 1762 ls []) := by
  have C := Z.1
  obtain ⟨r, M1, M2, h1, h2, k1, v2⟩ := iv_shelf hi (xs (i + 1)) (xs (i + 2)) (xs (i + 3))
  refine lv_aload_n C.x C.b dL_1762 rfl (lv_at hl 1 rfl) ?_
  refine la_arg (j := 1) Z hW L9 hl (by omega) rfl dL_1763 dL_1764 dL_1765 dL_1766 dL_1767 ?_
  refine la_arg (j := 2) Z hW L9 hl (by omega) rfl dL_1768 dL_1769 dL_1770 dL_1771 dL_1772 ?_
  refine la_arg (j := 3) Z hW L9 hl (by omega) rfl dL_1773 dL_1774 dL_1775 dL_1776 dL_1777 ?_
  refine x_callV (As := [.int (xs (i + 1)), .int (xs (i + 2)), .int (xs (i + 3))]) (a := 0) (rest := []) C hW hl (qX11_shelf l E h1) hi.k0 (by decide) (by decide) rfl gvL_202 ⟨rfl, hdL_202⟩ rfl rfl (Nat.le_of_ble_eq_true rfl) dL_1778 ⟨Nat.le_of_ble_eq_true rfl, Nat.le_of_ble_eq_true rfl⟩ ⟨by show cells + _ ≤ 600000; omega, by show slots + _ ≤ 7302250; omega⟩ (fun H locs hW => ?_)
  refine lv_aload_n C.x C.b dL_1781 rfl (lv_at hl 2 rfl) ?_
  refine la_arg (j := 1) Z hW L9 hl (by omega) rfl dL_1782 dL_1783 dL_1784 dL_1785 dL_1786 ?_
  refine la_arg (j := 2) Z hW L9 hl (by omega) rfl dL_1787 dL_1788 dL_1789 dL_1790 dL_1791 ?_
  refine la_arg (j := 3) Z hW L9 hl (by omega) rfl dL_1792 dL_1793 dL_1794 dL_1795 dL_1796 ?_
  refine x_callV (As := [.int (xs (i + 1)), .int (xs (i + 2)), .int (xs (i + 3))]) (a := 164) (rest := [.int r]) C hW hl (qX12_shelf l E h2) k1 (by decide) (by decide) rfl gvL_205 ⟨rfl, hdL_205⟩ rfl rfl (Nat.le_of_ble_eq_true rfl) dL_1797 ⟨Nat.le_of_ble_eq_true rfl, Nat.le_of_ble_eq_true rfl⟩ ⟨by show cells + _ + _ ≤ 600000; omega, by show slots + _ + _ ≤ 7302250; omega⟩ (fun H locs hW => ?_)
  refine lv_icmp_eq (tgt := 1953) C.x C.b dL_1800 rfl (fun _ => ?_) (fun c_ => absurd rfl c_)
  refine W.widen (k := cells + 15) (n := slots + 200) (by omega) (by omega) ?_
  exact kk _ _ _ hW v2
theorem gvL_206 : GoodIn gT (wsV RL 206 "NylonLadder" yX11_taken (Cond.code yX11_taken cX11_taken 5 (some .int) :: gT)) := good_V T_4_180 T_4_181 T_4_182 T_1_1 T_4_183
theorem hdL_206 : yX11_taken.cls ≠ "java/lang/invoke/MethodHandle" ∧ yX11_taken.cls ≠ "java/lang/invoke/VarHandle" ∧ (parseMethodDescriptor yX11_taken.desc).map (fun d => d.parameters.length) = some 2 := by decide +kernel
theorem gvL_209 : GoodIn gT (wsV RL 209 "NylonLadderModel" yX12_taken (Cond.code yX12_taken cX12_taken 3 (some .int) :: gT)) := good_V T_8_155 T_8_156 T_8_157 T_1_10 T_8_158
theorem hdL_209 : yX12_taken.cls ≠ "java/lang/invoke/MethodHandle" ∧ yX12_taken.cls ≠ "java/lang/invoke/VarHandle" ∧ (parseMethodDescriptor yX12_taken.desc).map (fun d => d.parameters.length) = some 2 := by decide +kernel
theorem dL_1805 : decode code 1805 = .ok (.aload_n 1, 1) := by decide +kernel
theorem dL_1806 : decode code 1806 = .ok (.aload_n 0, 1) := by decide +kernel
theorem dL_1807 : decode code 1807 = .ok (.iload_n 3, 1) := by decide +kernel
theorem dL_1808 : decode code 1808 = .ok (.iconst 1, 1) := by decide +kernel
theorem dL_1809 : decode code 1809 = .ok (.iadd, 1) := by decide +kernel
theorem dL_1810 : decode code 1810 = .ok (.iaload, 1) := by decide +kernel
theorem dL_1811 : decode code 1811 = .ok (.aload_n 0, 1) := by decide +kernel
theorem dL_1812 : decode code 1812 = .ok (.iload_n 3, 1) := by decide +kernel
theorem dL_1813 : decode code 1813 = .ok (.iconst 2, 1) := by decide +kernel
theorem dL_1814 : decode code 1814 = .ok (.iadd, 1) := by decide +kernel
theorem dL_1815 : decode code 1815 = .ok (.iaload, 1) := by decide +kernel
theorem dL_1816 : decode code 1816 = .ok (.invokevirtual 206, 3) := by decide +kernel
theorem dL_1819 : decode code 1819 = .ok (.aload_n 2, 1) := by decide +kernel
theorem dL_1820 : decode code 1820 = .ok (.aload_n 0, 1) := by decide +kernel
theorem dL_1821 : decode code 1821 = .ok (.iload_n 3, 1) := by decide +kernel
theorem dL_1822 : decode code 1822 = .ok (.iconst 1, 1) := by decide +kernel
theorem dL_1823 : decode code 1823 = .ok (.iadd, 1) := by decide +kernel
theorem dL_1824 : decode code 1824 = .ok (.iaload, 1) := by decide +kernel
theorem dL_1825 : decode code 1825 = .ok (.aload_n 0, 1) := by decide +kernel
theorem dL_1826 : decode code 1826 = .ok (.iload_n 3, 1) := by decide +kernel
theorem dL_1827 : decode code 1827 = .ok (.iconst 2, 1) := by decide +kernel
theorem dL_1828 : decode code 1828 = .ok (.iadd, 1) := by decide +kernel
theorem dL_1829 : decode code 1829 = .ok (.iaload, 1) := by decide +kernel
theorem dL_1830 : decode code 1830 = .ok (.invokevirtual 209, 3) := by decide +kernel
theorem dL_1833 : decode code 1833 = .ok (.if_icmp .eq 120, 3) := by decide +kernel
set_option maxRecDepth 100000 in
set_option maxHeartbeats 4000000 in
theorem lc_46 {E : Ev} {p : Program} {l : Launch} {e : Env} {s : State} {m : MethodId} {below : List Frame} {meth : Method} {c : Code} {b L : Nat} {xs : Nat → Int32} {H : Heap} {locs : List Loc} {cells slots : Nat} {Q : State → Prop} {M : Mm} {ls : Array Slot} (Z : LwS E p s m meth c b L xs) (hW : Wx E s H locs M) (hi : Inv M) (L9 : L ≤ 2560) {i : Nat} (hl : lv_has ls 4 (LwL E b i)) (i4 : i + 4 < L) (hc : cells + 15 ≤ 600000) (hs : slots + 200 ≤ 7302250) (kk : ∀ (H : Heap) (locs : List Loc) (M : Mm), Wx E s H locs M → Inv M → W p l e room_1 s m #[Value.ref b] below meth c H locs (cells + 15) (slots + 200) Q (F0 m 1953 ls [])) : W p l e room_1 s m #[Value.ref b] below meth c H locs cells slots Q (F0 m 1805 ls []) := by
  have C := Z.1
  obtain ⟨r, h1, h2⟩ := iv_taken hi (xs (i + 1)) (xs (i + 2))
  refine lv_aload_n C.x C.b dL_1805 rfl (lv_at hl 1 rfl) ?_
  refine la_arg (j := 1) Z hW L9 hl (by omega) rfl dL_1806 dL_1807 dL_1808 dL_1809 dL_1810 ?_
  refine la_arg (j := 2) Z hW L9 hl (by omega) rfl dL_1811 dL_1812 dL_1813 dL_1814 dL_1815 ?_
  refine x_callV (As := [.int (xs (i + 1)), .int (xs (i + 2))]) (a := 0) (rest := []) C hW hl (qX11_taken l E h1) hi.k0 (by decide) (by decide) rfl gvL_206 ⟨rfl, hdL_206⟩ rfl rfl (Nat.le_of_ble_eq_true rfl) dL_1816 ⟨Nat.le_of_ble_eq_true rfl, Nat.le_of_ble_eq_true rfl⟩ ⟨by show cells + _ ≤ 600000; omega, by show slots + _ ≤ 7302250; omega⟩ (fun H locs hW => ?_)
  refine lv_aload_n C.x C.b dL_1819 rfl (lv_at hl 2 rfl) ?_
  refine la_arg (j := 1) Z hW L9 hl (by omega) rfl dL_1820 dL_1821 dL_1822 dL_1823 dL_1824 ?_
  refine la_arg (j := 2) Z hW L9 hl (by omega) rfl dL_1825 dL_1826 dL_1827 dL_1828 dL_1829 ?_
  refine x_callV (As := [.int (xs (i + 1)), .int (xs (i + 2))]) (a := 164) (rest := [.int r]) C hW hl (qX12_taken l E h2) hi.k164 (by decide) (by decide) rfl gvL_209 ⟨rfl, hdL_209⟩ rfl rfl (Nat.le_of_ble_eq_true rfl) dL_1830 ⟨Nat.le_of_ble_eq_true rfl, Nat.le_of_ble_eq_true rfl⟩ ⟨by show cells + _ + _ ≤ 600000; omega, by show slots + _ + _ ≤ 7302250; omega⟩ (fun H locs hW => ?_)
  refine lv_icmp_eq (tgt := 1953) C.x C.b dL_1833 rfl (fun _ => ?_) (fun c_ => absurd rfl c_)
  refine W.widen (k := cells + 15) (n := slots + 200) (by omega) (by omega) ?_
  exact kk _ _ _ hW hi
theorem gvL_210 : GoodIn gT (wsV RL 210 "NylonLadder" yX11_act (Cond.code yX11_act cX11_act 7 (some .int) :: gT)) := good_V T_4_189 T_4_190 T_4_191 T_1_1 T_4_192
theorem hdL_210 : yX11_act.cls ≠ "java/lang/invoke/MethodHandle" ∧ yX11_act.cls ≠ "java/lang/invoke/VarHandle" ∧ (parseMethodDescriptor yX11_act.desc).map (fun d => d.parameters.length) = some 3 := by decide +kernel
theorem gvL_213 : GoodIn gT (wsV RL 213 "NylonLadderModel" yX12_act (Cond.code yX12_act cX12_act 5 (some .int) :: gT)) := good_V T_8_168 T_8_169 T_8_170 T_1_10 T_8_171
theorem hdL_213 : yX12_act.cls ≠ "java/lang/invoke/MethodHandle" ∧ yX12_act.cls ≠ "java/lang/invoke/VarHandle" ∧ (parseMethodDescriptor yX12_act.desc).map (fun d => d.parameters.length) = some 3 := by decide +kernel
theorem dL_1838 : decode code 1838 = .ok (.aload_n 1, 1) := by decide +kernel
theorem dL_1839 : decode code 1839 = .ok (.aload_n 0, 1) := by decide +kernel
theorem dL_1840 : decode code 1840 = .ok (.iload_n 3, 1) := by decide +kernel
theorem dL_1841 : decode code 1841 = .ok (.iconst 1, 1) := by decide +kernel
theorem dL_1842 : decode code 1842 = .ok (.iadd, 1) := by decide +kernel
theorem dL_1843 : decode code 1843 = .ok (.iaload, 1) := by decide +kernel
theorem dL_1844 : decode code 1844 = .ok (.aload_n 0, 1) := by decide +kernel
theorem dL_1845 : decode code 1845 = .ok (.iload_n 3, 1) := by decide +kernel
theorem dL_1846 : decode code 1846 = .ok (.iconst 2, 1) := by decide +kernel
theorem dL_1847 : decode code 1847 = .ok (.iadd, 1) := by decide +kernel
theorem dL_1848 : decode code 1848 = .ok (.iaload, 1) := by decide +kernel
theorem dL_1849 : decode code 1849 = .ok (.aload_n 0, 1) := by decide +kernel
theorem dL_1850 : decode code 1850 = .ok (.iload_n 3, 1) := by decide +kernel
theorem dL_1851 : decode code 1851 = .ok (.iconst 3, 1) := by decide +kernel
theorem dL_1852 : decode code 1852 = .ok (.iadd, 1) := by decide +kernel
theorem dL_1853 : decode code 1853 = .ok (.iaload, 1) := by decide +kernel
theorem dL_1854 : decode code 1854 = .ok (.invokevirtual 210, 3) := by decide +kernel
theorem dL_1857 : decode code 1857 = .ok (.aload_n 2, 1) := by decide +kernel
theorem dL_1858 : decode code 1858 = .ok (.aload_n 0, 1) := by decide +kernel
theorem dL_1859 : decode code 1859 = .ok (.iload_n 3, 1) := by decide +kernel
theorem dL_1860 : decode code 1860 = .ok (.iconst 1, 1) := by decide +kernel
theorem dL_1861 : decode code 1861 = .ok (.iadd, 1) := by decide +kernel
theorem dL_1862 : decode code 1862 = .ok (.iaload, 1) := by decide +kernel
theorem dL_1863 : decode code 1863 = .ok (.aload_n 0, 1) := by decide +kernel
theorem dL_1864 : decode code 1864 = .ok (.iload_n 3, 1) := by decide +kernel
theorem dL_1865 : decode code 1865 = .ok (.iconst 2, 1) := by decide +kernel
theorem dL_1866 : decode code 1866 = .ok (.iadd, 1) := by decide +kernel
theorem dL_1867 : decode code 1867 = .ok (.iaload, 1) := by decide +kernel
theorem dL_1868 : decode code 1868 = .ok (.aload_n 0, 1) := by decide +kernel
theorem dL_1869 : decode code 1869 = .ok (.iload_n 3, 1) := by decide +kernel
theorem dL_1870 : decode code 1870 = .ok (.iconst 3, 1) := by decide +kernel
theorem dL_1871 : decode code 1871 = .ok (.iadd, 1) := by decide +kernel
theorem dL_1872 : decode code 1872 = .ok (.iaload, 1) := by decide +kernel
theorem dL_1873 : decode code 1873 = .ok (.invokevirtual 213, 3) := by decide +kernel
theorem dL_1876 : decode code 1876 = .ok (.if_icmp .eq 77, 3) := by decide +kernel
set_option maxRecDepth 100000 in
set_option maxHeartbeats 4000000 in
theorem lc_47 {E : Ev} {p : Program} {l : Launch} {e : Env} {s : State} {m : MethodId} {below : List Frame} {meth : Method} {c : Code} {b L : Nat} {xs : Nat → Int32} {H : Heap} {locs : List Loc} {cells slots : Nat} {Q : State → Prop} {M : Mm} {ls : Array Slot} (Z : LwS E p s m meth c b L xs) (hW : Wx E s H locs M) (hi : Inv M) (L9 : L ≤ 2560) {i : Nat} (hl : lv_has ls 4 (LwL E b i)) (i4 : i + 4 < L) (hc : cells + 15 ≤ 600000) (hs : slots + 200 ≤ 7302250) (kk : ∀ (H : Heap) (locs : List Loc) (M : Mm), Wx E s H locs M → Inv M → W p l e room_1 s m #[Value.ref b] below meth c H locs (cells + 15) (slots + 200) Q (F0 m 1953 ls [])) : W p l e room_1 s m #[Value.ref b] below meth c H locs cells slots Q (F0 m 1838 ls []) := by
  have C := Z.1
  obtain ⟨r, M1, M2, h1, h2, k1, v2⟩ := iv_act hi (xs (i + 1)) (xs (i + 2)) (xs (i + 3))
  refine lv_aload_n C.x C.b dL_1838 rfl (lv_at hl 1 rfl) ?_
  refine la_arg (j := 1) Z hW L9 hl (by omega) rfl dL_1839 dL_1840 dL_1841 dL_1842 dL_1843 ?_
  refine la_arg (j := 2) Z hW L9 hl (by omega) rfl dL_1844 dL_1845 dL_1846 dL_1847 dL_1848 ?_
  refine la_arg (j := 3) Z hW L9 hl (by omega) rfl dL_1849 dL_1850 dL_1851 dL_1852 dL_1853 ?_
  refine x_callV (As := [.int (xs (i + 1)), .int (xs (i + 2)), .int (xs (i + 3))]) (a := 0) (rest := []) C hW hl (qX11_act l E h1) hi.k0 (by decide) (by decide) rfl gvL_210 ⟨rfl, hdL_210⟩ rfl rfl (Nat.le_of_ble_eq_true rfl) dL_1854 ⟨Nat.le_of_ble_eq_true rfl, Nat.le_of_ble_eq_true rfl⟩ ⟨by show cells + _ ≤ 600000; omega, by show slots + _ ≤ 7302250; omega⟩ (fun H locs hW => ?_)
  refine lv_aload_n C.x C.b dL_1857 rfl (lv_at hl 2 rfl) ?_
  refine la_arg (j := 1) Z hW L9 hl (by omega) rfl dL_1858 dL_1859 dL_1860 dL_1861 dL_1862 ?_
  refine la_arg (j := 2) Z hW L9 hl (by omega) rfl dL_1863 dL_1864 dL_1865 dL_1866 dL_1867 ?_
  refine la_arg (j := 3) Z hW L9 hl (by omega) rfl dL_1868 dL_1869 dL_1870 dL_1871 dL_1872 ?_
  refine x_callV (As := [.int (xs (i + 1)), .int (xs (i + 2)), .int (xs (i + 3))]) (a := 164) (rest := [.int r]) C hW hl (qX12_act l E h2) k1 (by decide) (by decide) rfl gvL_213 ⟨rfl, hdL_213⟩ rfl rfl (Nat.le_of_ble_eq_true rfl) dL_1873 ⟨Nat.le_of_ble_eq_true rfl, Nat.le_of_ble_eq_true rfl⟩ ⟨by show cells + _ + _ ≤ 600000; omega, by show slots + _ + _ ≤ 7302250; omega⟩ (fun H locs hW => ?_)
  refine lv_icmp_eq (tgt := 1953) C.x C.b dL_1876 rfl (fun _ => ?_) (fun c_ => absurd rfl c_)
  refine W.widen (k := cells + 15) (n := slots + 200) (by omega) (by omega) ?_
  exact kk _ _ _ hW v2
theorem gvL_214 : GoodIn gT (wsV RL 214 "NylonLadder" yX11_trace (Cond.code yX11_trace cX11_trace 2 (some .int) :: gT)) := good_V T_5_227 T_5_228 T_5_229 T_1_1 T_5_230
theorem hdL_214 : yX11_trace.cls ≠ "java/lang/invoke/MethodHandle" ∧ yX11_trace.cls ≠ "java/lang/invoke/VarHandle" ∧ (parseMethodDescriptor yX11_trace.desc).map (fun d => d.parameters.length) = some 1 := by decide +kernel
theorem gvL_217 : GoodIn gT (wsV RL 217 "NylonLadderModel" yX12_trace (Cond.code yX12_trace cX12_trace 2 (some .int) :: gT)) := good_V T_8_212 T_8_213 T_8_214 T_1_10 T_8_215
theorem hdL_217 : yX12_trace.cls ≠ "java/lang/invoke/MethodHandle" ∧ yX12_trace.cls ≠ "java/lang/invoke/VarHandle" ∧ (parseMethodDescriptor yX12_trace.desc).map (fun d => d.parameters.length) = some 1 := by decide +kernel
theorem dL_1881 : decode code 1881 = .ok (.aload_n 1, 1) := by decide +kernel
theorem dL_1882 : decode code 1882 = .ok (.aload_n 0, 1) := by decide +kernel
theorem dL_1883 : decode code 1883 = .ok (.iload_n 3, 1) := by decide +kernel
theorem dL_1884 : decode code 1884 = .ok (.iconst 1, 1) := by decide +kernel
theorem dL_1885 : decode code 1885 = .ok (.iadd, 1) := by decide +kernel
theorem dL_1886 : decode code 1886 = .ok (.iaload, 1) := by decide +kernel
theorem dL_1887 : decode code 1887 = .ok (.invokevirtual 214, 3) := by decide +kernel
theorem dL_1890 : decode code 1890 = .ok (.aload_n 2, 1) := by decide +kernel
theorem dL_1891 : decode code 1891 = .ok (.aload_n 0, 1) := by decide +kernel
theorem dL_1892 : decode code 1892 = .ok (.iload_n 3, 1) := by decide +kernel
theorem dL_1893 : decode code 1893 = .ok (.iconst 1, 1) := by decide +kernel
theorem dL_1894 : decode code 1894 = .ok (.iadd, 1) := by decide +kernel
theorem dL_1895 : decode code 1895 = .ok (.iaload, 1) := by decide +kernel
theorem dL_1896 : decode code 1896 = .ok (.invokevirtual 217, 3) := by decide +kernel
theorem dL_1899 : decode code 1899 = .ok (.if_icmp .eq 54, 3) := by decide +kernel
set_option maxRecDepth 100000 in
set_option maxHeartbeats 4000000 in
theorem lc_48 {E : Ev} {p : Program} {l : Launch} {e : Env} {s : State} {m : MethodId} {below : List Frame} {meth : Method} {c : Code} {b L : Nat} {xs : Nat → Int32} {H : Heap} {locs : List Loc} {cells slots : Nat} {Q : State → Prop} {M : Mm} {ls : Array Slot} (Z : LwS E p s m meth c b L xs) (hW : Wx E s H locs M) (hi : Inv M) (L9 : L ≤ 2560) {i : Nat} (hl : lv_has ls 4 (LwL E b i)) (i4 : i + 4 < L) (hc : cells + 15 ≤ 600000) (hs : slots + 200 ≤ 7302250) (kk : ∀ (H : Heap) (locs : List Loc) (M : Mm), Wx E s H locs M → Inv M → W p l e room_1 s m #[Value.ref b] below meth c H locs (cells + 15) (slots + 200) Q (F0 m 1953 ls [])) : W p l e room_1 s m #[Value.ref b] below meth c H locs cells slots Q (F0 m 1881 ls []) := by
  have C := Z.1
  obtain ⟨r, h1, h2⟩ := iv_trace hi (xs (i + 1))
  refine lv_aload_n C.x C.b dL_1881 rfl (lv_at hl 1 rfl) ?_
  refine la_arg (j := 1) Z hW L9 hl (by omega) rfl dL_1882 dL_1883 dL_1884 dL_1885 dL_1886 ?_
  refine x_callV (As := [.int (xs (i + 1))]) (a := 0) (rest := []) C hW hl (qX11_trace l E h1) hi.k0 (by decide) (by decide) rfl gvL_214 ⟨rfl, hdL_214⟩ rfl rfl (Nat.le_of_ble_eq_true rfl) dL_1887 ⟨Nat.le_of_ble_eq_true rfl, Nat.le_of_ble_eq_true rfl⟩ ⟨by show cells + _ ≤ 600000; omega, by show slots + _ ≤ 7302250; omega⟩ (fun H locs hW => ?_)
  refine lv_aload_n C.x C.b dL_1890 rfl (lv_at hl 2 rfl) ?_
  refine la_arg (j := 1) Z hW L9 hl (by omega) rfl dL_1891 dL_1892 dL_1893 dL_1894 dL_1895 ?_
  refine x_callV (As := [.int (xs (i + 1))]) (a := 164) (rest := [.int r]) C hW hl (qX12_trace l E h2) hi.k164 (by decide) (by decide) rfl gvL_217 ⟨rfl, hdL_217⟩ rfl rfl (Nat.le_of_ble_eq_true rfl) dL_1896 ⟨Nat.le_of_ble_eq_true rfl, Nat.le_of_ble_eq_true rfl⟩ ⟨by show cells + _ + _ ≤ 600000; omega, by show slots + _ + _ ≤ 7302250; omega⟩ (fun H locs hW => ?_)
  refine lv_icmp_eq (tgt := 1953) C.x C.b dL_1899 rfl (fun _ => ?_) (fun c_ => absurd rfl c_)
  refine W.widen (k := cells + 15) (n := slots + 200) (by omega) (by omega) ?_
  exact kk _ _ _ hW hi
theorem gvL_218 : GoodIn gT (wsV RL 218 "NylonLadder" yX11_many (Cond.code yX11_many cX11_many 2 (some .int) :: gT)) := good_V T_6_16 T_6_17 T_6_18 T_1_1 T_6_19
theorem hdL_218 : yX11_many.cls ≠ "java/lang/invoke/MethodHandle" ∧ yX11_many.cls ≠ "java/lang/invoke/VarHandle" ∧ (parseMethodDescriptor yX11_many.desc).map (fun d => d.parameters.length) = some 1 := by decide +kernel
theorem gvL_221 : GoodIn gT (wsV RL 221 "NylonLadderModel" yX12_many (Cond.code yX12_many cX12_many 2 (some .int) :: gT)) := good_V T_8_216 T_8_217 T_8_218 T_1_10 T_8_219
theorem hdL_221 : yX12_many.cls ≠ "java/lang/invoke/MethodHandle" ∧ yX12_many.cls ≠ "java/lang/invoke/VarHandle" ∧ (parseMethodDescriptor yX12_many.desc).map (fun d => d.parameters.length) = some 1 := by decide +kernel
theorem dL_1904 : decode code 1904 = .ok (.aload_n 1, 1) := by decide +kernel
theorem dL_1905 : decode code 1905 = .ok (.aload_n 0, 1) := by decide +kernel
theorem dL_1906 : decode code 1906 = .ok (.iload_n 3, 1) := by decide +kernel
theorem dL_1907 : decode code 1907 = .ok (.iconst 1, 1) := by decide +kernel
theorem dL_1908 : decode code 1908 = .ok (.iadd, 1) := by decide +kernel
theorem dL_1909 : decode code 1909 = .ok (.iaload, 1) := by decide +kernel
theorem dL_1910 : decode code 1910 = .ok (.invokevirtual 218, 3) := by decide +kernel
theorem dL_1913 : decode code 1913 = .ok (.aload_n 2, 1) := by decide +kernel
theorem dL_1914 : decode code 1914 = .ok (.aload_n 0, 1) := by decide +kernel
theorem dL_1915 : decode code 1915 = .ok (.iload_n 3, 1) := by decide +kernel
theorem dL_1916 : decode code 1916 = .ok (.iconst 1, 1) := by decide +kernel
theorem dL_1917 : decode code 1917 = .ok (.iadd, 1) := by decide +kernel
theorem dL_1918 : decode code 1918 = .ok (.iaload, 1) := by decide +kernel
theorem dL_1919 : decode code 1919 = .ok (.invokevirtual 221, 3) := by decide +kernel
theorem dL_1922 : decode code 1922 = .ok (.if_icmp .eq 31, 3) := by decide +kernel
set_option maxRecDepth 100000 in
set_option maxHeartbeats 4000000 in
theorem lc_49 {E : Ev} {p : Program} {l : Launch} {e : Env} {s : State} {m : MethodId} {below : List Frame} {meth : Method} {c : Code} {b L : Nat} {xs : Nat → Int32} {H : Heap} {locs : List Loc} {cells slots : Nat} {Q : State → Prop} {M : Mm} {ls : Array Slot} (Z : LwS E p s m meth c b L xs) (hW : Wx E s H locs M) (hi : Inv M) (L9 : L ≤ 2560) {i : Nat} (hl : lv_has ls 4 (LwL E b i)) (i4 : i + 4 < L) (hc : cells + 15 ≤ 600000) (hs : slots + 200 ≤ 7302250) (kk : ∀ (H : Heap) (locs : List Loc) (M : Mm), Wx E s H locs M → Inv M → W p l e room_1 s m #[Value.ref b] below meth c H locs (cells + 15) (slots + 200) Q (F0 m 1953 ls [])) : W p l e room_1 s m #[Value.ref b] below meth c H locs cells slots Q (F0 m 1904 ls []) := by
  have C := Z.1
  obtain ⟨r, h1, h2⟩ := iv_many hi (xs (i + 1))
  refine lv_aload_n C.x C.b dL_1904 rfl (lv_at hl 1 rfl) ?_
  refine la_arg (j := 1) Z hW L9 hl (by omega) rfl dL_1905 dL_1906 dL_1907 dL_1908 dL_1909 ?_
  refine x_callV (As := [.int (xs (i + 1))]) (a := 0) (rest := []) C hW hl (qX11_many l E h1) hi.k0 (by decide) (by decide) rfl gvL_218 ⟨rfl, hdL_218⟩ rfl rfl (Nat.le_of_ble_eq_true rfl) dL_1910 ⟨Nat.le_of_ble_eq_true rfl, Nat.le_of_ble_eq_true rfl⟩ ⟨by show cells + _ ≤ 600000; omega, by show slots + _ ≤ 7302250; omega⟩ (fun H locs hW => ?_)
  refine lv_aload_n C.x C.b dL_1913 rfl (lv_at hl 2 rfl) ?_
  refine la_arg (j := 1) Z hW L9 hl (by omega) rfl dL_1914 dL_1915 dL_1916 dL_1917 dL_1918 ?_
  refine x_callV (As := [.int (xs (i + 1))]) (a := 164) (rest := [.int r]) C hW hl (qX12_many l E h2) hi.k164 (by decide) (by decide) rfl gvL_221 ⟨rfl, hdL_221⟩ rfl rfl (Nat.le_of_ble_eq_true rfl) dL_1919 ⟨Nat.le_of_ble_eq_true rfl, Nat.le_of_ble_eq_true rfl⟩ ⟨by show cells + _ + _ ≤ 600000; omega, by show slots + _ + _ ≤ 7302250; omega⟩ (fun H locs hW => ?_)
  refine lv_icmp_eq (tgt := 1953) C.x C.b dL_1922 rfl (fun _ => ?_) (fun c_ => absurd rfl c_)
  refine W.widen (k := cells + 15) (n := slots + 200) (by omega) (by omega) ?_
  exact kk _ _ _ hW hi
end LAWCASES
