section NUMH
variable {M X Y : Mm} {T : Int → Int} {L : Int}
theorem nmv_no {s e : Int} (te : TkE T L s e) (h : ¬ (s < L ∧ cls (T s) = 3 ∧ e - s ≤ 2)) : nmv T s e = -1 := by
  unfold nmv
  rcases te with z | ⟨z, ⟨w1, w2⟩, w3, w4⟩
  · rw [if_neg (by omega), if_neg (by omega)]
  · rw [if_neg, if_neg]
    · rintro ⟨y1, y2, y3⟩
      exact h ⟨z, cls_3.mpr y2, by omega⟩
    · rintro ⟨y1, y2⟩
      exact h ⟨z, cls_3.mpr y2, by omega⟩
theorem nmv_1 {s e : Int} (hs : cls (T s) = 3) (h : e = s + 1) : nmv T s e = T s - 48 := if_pos ⟨h, cls_3.mp hs⟩
theorem nmv_2 {s e : Int} (te : TkE T L s e) (sl : s < L) (hs : cls (T s) = 3) (h : e = s + 2) : nmv T s e = 10 * (T s - 48) + (T (s + 1) - 48) ∧ 48 ≤ T (s + 1) ∧ T (s + 1) ≤ 57 := by
  have k : cls (T (s + 1)) = 3 := by
    rcases te with z | ⟨z, ⟨w1, w2⟩, w3, w4⟩
    · omega
    · rw [(w4 (by omega)).1 (s + 1) (by omega) (by omega), hs]
  refine ⟨?_, cls_3.mp k⟩
  unfold nmv
  rw [if_neg (by omega), if_pos ⟨h, cls_3.mp hs, cls_3.mp k⟩]
theorem c_numberHere (h : LayC X) (tp : Tp X T L) {c i : Nat} (k : TkF T L X c) (hi : i ≤ c) (g7 : gI X 109 7 = i) : fX8_numberHere X 109 = some (i2 (nmv T (gI X 147 i) (gI X 148 i))) := by
  obtain ⟨r7, a6, a7, a8⟩ := c_tok h hi k.2.1 g7
  obtain ⟨⟨te, sk⟩, so⟩ := tk_at k hi
  have tl := tp.2.1
  have tb := te.b
  have s0 := sk.1
  generalize gI X 147 i = s at *
  generalize gI X 148 i = e at *
  have b6 : 0 ≤ gI X 146 i ∧ gI X 146 i ≤ 4 := by
    have := cls_b (T s)
    rcases so with z | z <;> omega
  have e2 : (i2 (gI X 146 i) = 3) = (gI X 146 i = 3) := i2_eq (b := 3) (by omega) (by omega) (by decide) (by decide)
  have u : ∀ (N : Nat) (v w : Int32), fX8_numberHere_L50 X 109 (N + 1) v w = B1 (rdN X 109 11 5) fun a => B1 (rdI X 109 11 7) fun b => B1 (alI X a b) fun x59 => if x59 ≤ w then some v else B1 (rdN X 109 11 0) fun a => B1 (alI X a w) fun x72 => fX8_numberHere_L50 X 109 N (((10 * v) + x72) - 48) (w + 1) := fun _ _ _ => rfl
  unfold fX8_numberHere
  rw [tp_r3 h, B1_some, r7, B1_some, a6, B1_some]
  by_cases y : gI X 146 i = 3
  · rw [if_pos (e2.mpr y), tp_r5 h, B1_some, B1_some, a8, B1_some, tp_r4 h, B1_some, B1_some, a7, B1_some, i2_sub]
    have sl : s < L ∧ cls (T s) = 3 := by
      rcases so with w | w
      · exact ⟨w.2.1, by omega⟩
      · omega
    have se : s < e := by
      rcases te with w | w
      · omega
      · exact w.2.1.1
    have al := tp_al h tp (i := s) (by omega) sl.1
    have t3 := cls_3.mp sl.2
    by_cases w : e - s ≤ 2
    · rw [if_pos (show i2 (e - s) ≤ 2 by rw [L_2, i2_le (by omega) (by omega) (by omega) (by omega)]; exact w), B1_some, B1_some, a7, B1_some, show FL = 4093 + 1 + 1 + 1 from rfl, u, tp_r5 h, B1_some, r7, B1_some, a8, B1_some, if_neg (by rw [i2_le (by omega) (by omega) (by omega) (by omega)]; omega), tp_r0 h, B1_some, al, B1_some, L_10, L_0, L_48, L_1, i2_mul, i2_add, i2_sub, i2_add]
      by_cases z : e = s + 1
      · rw [u, tp_r5 h, B1_some, r7, B1_some, a8, B1_some, if_pos (by rw [i2_le (by omega) (by omega) (by omega) (by omega)]; omega), nmv_1 sl.2 z]
        congr 2
        omega
      · have z2 : e = s + 2 := by omega
        have al1 := tp_al h tp (i := s + 1) (by omega) (by omega)
        obtain ⟨n1, n2⟩ := nmv_2 te sl.1 sl.2 z2
        rw [u, tp_r5 h, B1_some, r7, B1_some, a8, B1_some, if_neg (by rw [i2_le (by omega) (by omega) (by omega) (by omega)]; omega), tp_r0 h, B1_some, al1, B1_some, L_10, L_48, L_1, i2_mul, i2_add, i2_sub, i2_add, u, tp_r5 h, B1_some, r7, B1_some, a8, B1_some, if_pos (by rw [i2_le (by omega) (by omega) (by omega) (by omega)]; omega), n1]
        congr 2
        omega
    · rw [if_neg (show ¬ i2 (e - s) ≤ 2 by rw [L_2, i2_le (by omega) (by omega) (by omega) (by omega)]; exact w), nmv_no te (fun z => w z.2.2)]
      rfl
  · rw [if_neg (fun z => y (e2.mp z)), nmv_no te (fun z => by rcases so with w | w <;> omega)]
    rfl
theorem m_numberHere (hm : LayM Y) (t : Mt Y T L) {s e : Int} (g7 : gI Y 164 7 = s) (g8 : gI Y 164 8 = e) (s0 : 0 ≤ s) (te : TkE T L s e) : fX12_numberHere Y 164 = some (i2 (nmv T s e)) := by
  have tl := t.2.1
  have tb := te.b
  have r7 : rdI Y 164 15 7 = some (i2 s) := by rw [m_rd hm 7, ← g7]; rfl
  have r8 : rdI Y 164 15 8 = some (i2 e) := by rw [m_rd hm 8, ← g8]; rfl
  have ib := m_isByte hm t (p := s) (a := 48) (b := 57) s0 (by omega) (by decide) (by decide) (by decide) (by decide)
  have u : ∀ (N : Nat) (v w : Int32), fX12_numberHere_L39 Y 164 (N + 1) v w = B1 (rdI Y 164 15 8) fun x41 => if x41 ≤ w then some v else if v < 0 then some v else B1 (rdN Y 164 15 5) fun a => B1 (alI Y a w) fun x60 => fX12_numberHere_L39 Y 164 N (((10 * v) + x60) - 48) (w + 1) := fun _ _ _ => rfl
  have no : ∀ w : Int32, fX12_numberHere_L39 Y 164 FL (-1) w = some (i2 (-1)) := fun w => by
    rw [show FL = 4095 + 1 from rfl, u, r8, B1_some, if_pos (show (-1 : Int32) < 0 by decide)]
    split <;> rfl
  unfold fX12_numberHere
  rw [r7, B1_some, gk_m hm, B1_some, L_48, L_57, ib, B1_some]
  by_cases y : s < L ∧ 48 ≤ T s ∧ T s ≤ 57
  · rw [tf_t y, if_neg (by decide), r8, B1_some, B1_some, i2_sub, B1_some, B1_some]
    have c3 : cls (T s) = 3 := cls_3.mpr y.2
    have se : s < e := by
      rcases te with w | w
      · omega
      · exact w.2.1.1
    have k1 := (t.2.2 s s0 y.1).1
    have al : alI Y 169 (i2 s) = some (i2 (T s)) := by rw [g_alI (ar_69 hm) s0 (by omega) (by omega), k1]
    by_cases w : e - s ≤ 2
    · rw [if_neg (show ¬ 2 < i2 (e - s) by rw [L_2, i2_lt (by omega) (by omega) (by omega) (by omega)]; omega), show FL = 4093 + 1 + 1 + 1 from rfl, u, r8, B1_some, if_neg (by rw [i2_le (by omega) (by omega) (by omega) (by omega)]; omega), if_neg (by decide), m_r5 hm, B1_some, al, B1_some, L_10, L_0, L_48, L_1, i2_mul, i2_add, i2_sub, i2_add]
      by_cases z : e = s + 1
      · rw [u, r8, B1_some, if_pos (by rw [i2_le (by omega) (by omega) (by omega) (by omega)]; omega), nmv_1 c3 z]
        congr 2
        omega
      · have z2 : e = s + 2 := by omega
        have k2 := (t.2.2 (s + 1) (by omega) (by omega)).1
        have al1 : alI Y 169 (i2 (s + 1)) = some (i2 (T (s + 1))) := by rw [g_alI (ar_69 hm) (by omega) (by omega) (by omega), k2]
        obtain ⟨n1, n2⟩ := nmv_2 te y.1 c3 z2
        rw [u, r8, B1_some, if_neg (by rw [i2_le (by omega) (by omega) (by omega) (by omega)]; omega), if_neg (by rw [L_0, i2_lt (by omega) (by omega) (by decide) (by decide)]; omega), m_r5 hm, B1_some, al1, B1_some, L_10, L_48, L_1, i2_mul, i2_add, i2_sub, i2_add, u, r8, B1_some, if_pos (by rw [i2_le (by omega) (by omega) (by omega) (by omega)]; omega), n1]
        congr 2
        omega
    · rw [if_pos (show 2 < i2 (e - s) by rw [L_2, i2_lt (by omega) (by omega) (by omega) (by omega)]; omega), nmv_no te (fun z => w z.2.2), no]
  · rw [tf_f y, if_pos (by decide), B1_some, nmv_no te (fun z => y ⟨z.1, cls_3.mp z.2.1⟩), no]
end NUMH
