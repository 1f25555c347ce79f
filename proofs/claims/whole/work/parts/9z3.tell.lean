section TELL
variable {M X0 Y0 : Mm} {T A : Int → Int} {L : Int} {c : Nat}
theorem m_firstV (M : Mm) {j : Int} (j0 : 0 ≤ j) (j8 : j < 8) : fX12_first M (i2 j) = some (i2 (lw0 j)) := by
  have q : j = 0 ∨ j = 1 ∨ j = 2 ∨ j = 3 ∨ j = 4 ∨ j = 5 ∨ j = 6 ∨ j = 7 := by omega
  obtain ⟨l0, l1, l2, l3, l4, l5, l6, l7⟩ := lw0_v
  rcases q with rfl | rfl | rfl | rfl | rfl | rfl | rfl | rfl
  · rw [l0]; rfl
  · rw [l1]; rfl
  · rw [l2]; rfl
  · rw [l3]; rfl
  · rw [l4]; rfl
  · rw [l5]; rfl
  · rw [l6]; rfl
  · rw [l7]; rfl
theorem m_bgU (K : Nat) (v : Int32) (M : Mm) : fX12_begins_L24 168 (K + 1) v M = if i2 8 ≤ v then some M else B1 (fX12_first M v) fun x => B1 (asI M 168 (i2 4 + v) x) fun M => fX12_begins_L24 168 K (v + i2 1) M := rfl
theorem m_bgL (hm : LayM M) : ∀ (d N : Nat) (i : Int) (Q : Int → Int), d < N → 0 ≤ i → i + d = 8 → ∃ Q' : Int → Int, fX12_begins_L24 168 N (i2 i) (M.row 168 Q) = some (M.row 168 Q') ∧ (∀ j : Int, i ≤ j → j < 8 → Q' (4 + j) = lw0 j) ∧ ∀ y : Int, (y < 4 + i ∨ 12 ≤ y) → Q' y = Q y := by
  intro d
  induction d with
  | zero =>
    intro N i Q hN i0 hi
    obtain ⟨N, rfl⟩ : ∃ k, N = k + 1 := ⟨N - 1, by omega⟩
    refine ⟨Q, ?_, fun j a b => by omega, fun y _ => rfl⟩
    rw [m_bgU, if_pos (by rw [i2_le (by decide) (by decide) (by omega) (by omega)]; omega)]
  | succ d ih =>
    intro N i Q hN i0 hi
    obtain ⟨N, rfl⟩ : ∃ k, N = k + 1 := ⟨N - 1, by omega⟩
    obtain ⟨Q', q1, q2, q3⟩ := ih N (i + 1) (uA Q (4 + i) (lw0 i)) (by omega) (by omega) (by omega)
    refine ⟨Q', ?_, fun j a b => ?_, fun y hy => ?_⟩
    · rw [m_bgU, if_neg (by rw [i2_le (by decide) (by decide) (by omega) (by omega)]; omega), m_firstV _ i0 (by omega), B1_some, i2_add, asI_row (ar_f hm) (by omega) (by omega) (by omega), B1_some, i2_add]
      exact q1
    · by_cases e : j = i
      · rw [q3 (4 + j) (by omega), e, uA_self]
      · exact q2 j (by omega) b
    · rw [q3 y (by omega), uA_ne (by omega)]
theorem m_begins (hm : LayM M) (Q : Int → Int) : ∃ R, fX12_begins (M.row 168 Q) 168 = some (M.row 168 R) ∧ BgR R (Q 1) := by
  obtain ⟨R, r1, r2, r3⟩ := m_bgL hm 8 FL 0 (uA (uA (uA (uA (uA Q 0 0) 2 (-1)) 3 (-1)) 12 0) 13 0) (by decide) (by decide) (by decide)
  refine ⟨R, ?_, ?_, ?_, ?_, ?_, fun j j0 j8 => r2 j j0 j8, ?_, ?_⟩
  · unfold fX12_begins
    rw [show (0 : Int32) = i2 0 from L_0, show (2 : Int32) = i2 2 from L_2, show (3 : Int32) = i2 3 from L_3, show (12 : Int32) = i2 12 from L_12, show (13 : Int32) = i2 13 from L_13, show (-1 : Int32) = i2 (-1) by decide, asI_row (ar_f hm) (by decide) (by decide) (by decide), B1_some, asI_row (ar_f hm) (by decide) (by decide) (by decide), B1_some, asI_row (ar_f hm) (by decide) (by decide) (by decide), B1_some, asI_row (ar_f hm) (by decide) (by decide) (by decide), B1_some, asI_row (ar_f hm) (by decide) (by decide) (by decide), B1_some]
    exact r1
  · rw [r3 0 (by decide)]; rfl
  · rw [r3 1 (by decide)]; rfl
  · rw [r3 2 (by decide)]; rfl
  · rw [r3 3 (by decide)]; rfl
  · rw [r3 12 (by decide)]; rfl
  · rw [r3 13 (by decide)]; rfl
/-- the component begins to tell -/
theorem c_tell (h : LayC M) (tp : Tp M T L) : ∃ (X0 X : Mm) (c : Nat) (zz : Int), LayC X0 ∧ SmP TkP M X0 ∧ (∀ j : Int, 0 ≤ j → j ≠ 6 → gI X0 109 j = gI M 109 j) ∧ TkF T L X0 c ∧ fX8_faultOf M 109 = fX8_faultOf_L23 109 FL (i2 0) X ∧ (-2147483648 ≤ zz ∧ zz < 2147483648) ∧ ∀ R, BgR R zz → CS X0 X T L c 0 0 R := by
  obtain ⟨X0, c, p1, s1, o1, k⟩ := c_part h tp
  have h1 := h.sm s1
  have tp1 := tp.tk s1 (o1 1 (by decide) (by decide))
  obtain ⟨X1, p2, s2, r2⟩ := c_empty (t_d111 h1)
  have h2 := h1.same s2
  obtain ⟨X2, p3, s3, r3, o3⟩ := w_put (M := X1) (p := 109) (kd := 11) (j := 7) (v := 0) (tp_k h2) (by decide) (by decide) (by decide)
  have h3 := h2.same s3
  obtain ⟨X3, p4, s4, r4, o4⟩ := w_put (M := X2) (p := 109) (kd := 11) (j := 8) (v := -1) (tp_k h3) (by decide) (by decide) (by decide)
  have h4 := h3.same s4
  have zb := gI_b X0 111 5
  have s12 : SmP CpP X0 X1 := SmP.of s2 (by unfold CpP; omega)
  have s23 : SmP CpP X1 X2 := SmP.of s3 (by unfold CpP; omega)
  have s34 : SmP CpP X2 X3 := SmP.of s4 (by unfold CpP; omega)
  have sx := (s12.tr s23).tr s34
  have e109 : ∀ j : Int, 0 ≤ j → j ≠ 7 → j ≠ 8 → gI X3 109 j = gI X0 109 j := fun j j0 j7 j8 => by
    rw [o4 j j0 j8, o3 j j0 j7, gI_of (s2.2 109 (by decide))]
  refine ⟨X0, X3, c, gI X0 111 5, h1, s1, o1, k, ?_, zb, fun R b => ⟨h4, sx, ⟨(e109 1 (by decide) (by decide) (by decide)).trans tp1.1, tp1.2.1, fun i i0 i1 => ?_⟩, k.sm sx (fun p a b => by unfold CpP; omega) (e109 6 (by decide) (by decide) (by decide)), ⟨Nat.zero_le _, ?_⟩, Or.inl ⟨rfl, r4, b.ga zb.1 zb.2, ?_⟩⟩⟩
  · unfold fX8_faultOf
    rw [tp_gk h, B1_some, p1, B1_some, tp_r2 h1, B1_some, d_gk (t_d111 h1), B1_some, p2, B1_some, L_0, p3, B1_some, show (-1 : Int32) = i2 (-1) by decide, p4, B1_some]
  · rw [sx.at (by unfold CpP; omega)]
    exact tp1.2.2 i i0 i1
  · rw [o4 7 (by decide) (by decide)]
    exact r3
  · exact ((r2 R b).same s3 (by decide) (by have := b.1; omega)).same s4 (by decide) (by have := b.1; omega)
/-- the reference begins to tell -/
theorem m_tell (hm : LayM Y0) (t : Mt Y0 T L) (k : TkF T L X0 c) (ha : Y0.g 165 = rI A) : ∃ (R : Int → Int) (Y : Mm), fX12_drawer Y0 164 = fX12_drawer_L32 164 FL Y ∧ BgR R (A 1) ∧ ∀ zz, MS X0 Y0 Y T L (A 1) 0 0 (uA R 1 zz) := by
  have hp : ∀ i : Int, 0 ≤ i → i < 158 → alI Y0 165 (i2 i) = some (i2 (A i)) := fun i i0 i1 => by
    have q := m_al (A := A) hm i0 i1
    rwa [← row_of ha] at q
  have b1 := m_become (M := Y0) (p := 165) (q := 168) (P := A) (Q := gI Y0 168) (ar_f hm) hp (by decide)
  rw [row_gI] at b1
  obtain ⟨R, p2, bg⟩ := m_begins hm (mx A (gI Y0 168) 158)
  rw [mx_at (show (0 : Int) ≤ 1 by decide) (by decide)] at bg
  have s1 : SmP MtP Y0 (Y0.row 168 R) := SmP.row Y0 R (by unfold MtP; omega)
  have h1 := hm.sm s1
  have g1 : (Y0.row 168 R).g 168 = rI R := row_g _ _ _
  have e1 : gI (Y0.row 168 R) 164 = gI Y0 164 := gI_ne _ (by decide)
  have t1 := t.sm s1 (by rw [e1])
  have p3 : wrZ (Y0.row 168 R) 164 15 9 (i2 0) = some _ := wrZ_0 (M := Y0.row 168 R) (p := 164) (kd := 15) (j := 9) h1.1.1 (by decide)
  have s2 : SmP (fun q => q = 164) (Y0.row 168 R) ((Y0.row 168 R).row 164 (uA (gI (Y0.row 168 R) 164) 9 0)) := SmP.row _ _ rfl
  have r2 : gI ((Y0.row 168 R).row 164 (uA (gI (Y0.row 168 R) 164) 9 0)) 164 9 = 0 := gI_u (by decide) (by decide) (by decide)
  have o2 : ∀ j : Int, 0 ≤ j → j ≠ 9 → gI ((Y0.row 168 R).row 164 (uA (gI (Y0.row 168 R) 164) 9 0)) 164 j = gI (Y0.row 168 R) 164 j := fun j j0 ne => gI_u_ne j0 ne
  have p1 : fX12_drawer Y0 164 = B1 (wrZ (Y0.row 168 R) 164 15 9 (i2 0)) fun M20 => B1 (wrI M20 164 15 8 (i2 0)) fun M25 => B1 (gk M25 164 15) fun _ => B1 (fX12_next M25 164) fun M29 => fX12_drawer_L32 164 FL M29 := by
    unfold fX12_drawer
    rw [rdm0 hm, B1_some, m_r3 hm, B1_some, b1, B1_some, rdN_row, m_r3 hm, B1_some, p2, B1_some]
    rfl
  rw [p3] at p1
  generalize (Y0.row 168 R).row 164 (uA (gI (Y0.row 168 R) 164) 9 0) = Y2 at p1 s2 r2 o2
  generalize Y0.row 168 R = Y1 at *
  have h2 := h1.sm s2
  obtain ⟨Y3, p4, n4, r8, r7⟩ := m_w8 h2 (v := 0) (by decide) (by decide)
  have t3 : Mt Y3 T L := n4.mt (t1.sm s2.mt (o2 6 (by decide) (by decide)))
  obtain ⟨⟨te, sk⟩, -⟩ := tk_at k (Nat.zero_le c)
  obtain ⟨Y4, p5, n5, z7, z8⟩ := m_next n4.2.1 t3 (p := 0) r8 sk te
  refine ⟨R, Y4, ?_, bg, fun zz => ⟨n5.2.1, (s1.tr s2.mt).tr (n4.1.tr n5.1).mt, n5.mt t3, ⟨z7, z8⟩, ?_, fun j j0 j7 j8 j9 => ?_, fun _ => ?_⟩⟩
  · rw [p1, B1_some, p4, B1_some, gk_m n4.2.1, B1_some, p5, B1_some]
  · rw [n5.2.2 9 (by decide) (by decide) (by decide), n4.2.2 9 (by decide) (by decide) (by decide), r2]
  · rw [n5.2.2 j j0 j7 j8, n4.2.2 j j0 j7 j8, o2 j j0 j9, e1]
  · rw [n5.1.2 168 (by decide), n4.1.2 168 (by decide), s2.2 168 (by decide), g1]
    have e : uA (uA R 1 zz) 1 (A 1) = R := by
      funext y
      unfold uA
      by_cases q : y = 1
      · rw [if_pos q, q]; exact bg.2.1.symm
      · rw [if_neg q, if_neg q]
    rw [e]
end TELL
