section ENDS
variable {M X0 Y0 X Y : Mm} {T A A' : Int → Int} {L z : Int} {c i : Nat} {f : Int}
/-- the component behind the telling -/
def dcT (X : Mm) (x : Int32) : Option (Int32 × Mm) := B1 (rdN X 0 14 5) fun a9 => B1 (wrI X a9 11 1 (i2 0)) fun M13 => if x < i2 0 then B1 (rdN M13 0 14 5) fun a26 => B1 (rdN M13 a26 11 2) fun a29 => B1 (rdN M13 0 14 0) fun a33 => B1 (rdI M13 a33 3 5) fun x36 => B1 (wrI M13 a29 3 5 x36) fun M39 => B1 (rdN M39 0 14 0) fun a43 => B1 (rdN M39 0 14 5) fun a47 => B1 (rdN M39 a47 11 2) fun a50 => B1 (gk M39 a43 3) fun _ => B1 (fX0_become M39 a43 a50) fun M53 => B1 (wrI M53 0 14 7 (i2 0)) fun M58 => B1 (rdN M58 0 14 0) fun a62 => B1 (rdI M58 a62 3 2) fun x65 => some (x65, M58) else some (i2 (-100) - x, M13)
theorem c_drawerU (M : Mm) : fX11_drawer M 0 = B1 (rdN M 0 14 5) fun a => B1 (gk M a 11) fun _ => B2 (fX8_faultOf M a) fun x M4 => dcT M4 x := rfl
/-- the cells that the component's drawer changes behind the tokens -/
def DrP (p : Nat) : Prop := p < 36 ∨ p = 109 ∨ (111 ≤ p ∧ p < 146)
theorem c_end (cD : CR X 1 A) (g : GA A) (s : CS X0 X T L c i f A') : ∃ r Z, dcT X (i2 (gI X 109 8)) = some (r, Z) ∧ SmP DrP X Z ∧ gI Z 109 1 = 0 ∧ (∀ j : Int, 0 ≤ j → j ≠ 7 → gI Z 0 j = gI X 0 j) ∧ ((f = 0 ∧ r = i2 (A' 0) ∧ GA (uA A' 1 (A 1)) ∧ CR Z 1 (uA A' 1 (A 1)) ∧ gI Z 0 7 = 0) ∨ (f = 1 ∧ r = i2 (-100 - gI X0 147 i) ∧ CR Z 1 A ∧ gI Z 0 7 = gI X 0 7)) := by
  have h := s.1
  obtain ⟨X1, p1, s1, r1, o1⟩ := w_put (M := X) (p := 109) (kd := 11) (j := 1) (v := 0) (tp_k h) (by decide) (by decide) (by decide)
  have h1 := h.same s1
  have w1 : SmP DrP X X1 := SmP.of s1 (by unfold DrP; omega)
  have g0 := g.1
  have gz := g.2.1
  have c1 := cD.same s1 (by decide) (by omega)
  rcases s.2.2.2.2.2 with ⟨rfl, e8, gA, cA⟩ | ⟨rfl, e8⟩
  · have a0 := gA.1
    have ca1 := cA.same s1 (by decide) (by omega)
    have z1 := d_z (t_d1 h1) c1
    have p2 := g_wrI (M := X1) (p := 111) (kd := 3) (j := 5) (v := A 1) (t_d111 h1).1.1 (by decide)
    have c2 := CR.seed gA ca1 gz.1 gz.2
    have g2 := gA.seed gz.1 gz.2
    have s2 := Same.row X1 111 (uA (gI X1 111) 5 (A 1))
    rw [show ((5 : Nat) : Int) = 5 from rfl] at p2
    generalize X1.row 111 (uA (gI X1 111) 5 (A 1)) = X2 at p2 c2 s2
    have h2 := h1.same s2
    obtain ⟨X3, p3, c3, s3⟩ := c_dbecome (B := 1) (B' := 111) (by decide) g2 (t_d1 h2) (t_d111 h2) c2
    have h3 := h2.same s3
    obtain ⟨X4, p4, s4, r4, o4⟩ := w_put (M := X3) (p := 0) (kd := 14) (j := 7) (v := 0) h3.1.1 (by decide) (by decide) (by decide)
    have h4 := h3.same s4
    have c4 := c3.same s4 (by decide) g2.1.2
    have w2 : SmP DrP X1 X2 := SmP.of s2 (by unfold DrP; omega)
    have w3 : SmP DrP X2 X3 := SmP.of s3 (by unfold DrP; omega)
    have w4 : SmP DrP X3 X4 := SmP.of s4 (by unfold DrP; omega)
    have cn := d_cnt (t_d1 h4) c4
    refine ⟨i2 (A' 0), X4, ?_, ((w1.tr w2).tr w3).tr w4, ?_, fun j j0 ne => ?_, Or.inl ⟨rfl, rfl, g2, c4, r4⟩⟩
    · unfold dcT
      rw [t_tape h, B1_some, p1, B1_some, e8, if_pos (by decide), t_tape h1, B1_some, tp_r2 h1, B1_some, t_now h1, B1_some, z1, B1_some, p2, B1_some, t_now h2, B1_some, t_tape h2, B1_some, tp_r2 h2, B1_some, d_gk (t_d1 h2), B1_some, p3, B1_some, p4, B1_some, t_now h4, B1_some, cn, B1_some]
      rfl
    · rw [gI_of (s4.2 109 (by decide)), gI_of (s3.2 109 (by decide)), gI_of (s2.2 109 (by decide))]
      exact r1
    · rw [o4 j j0 ne, gI_of (s3.2 0 (by decide)), gI_of (s2.2 0 (by decide)), gI_of (s1.2 0 (by decide))]
  · obtain ⟨te, sk⟩ := (tk_at s.2.2.2.1 s.2.2.2.2.1.1).1
    rw [s.e47] at sk te
    have t0 := sk.1
    have b := gI_b X0 147 i
    have tl := s.2.2.1.2.1
    refine ⟨i2 (-100 - gI X0 147 i), X1, ?_, w1, r1, fun j j0 ne => ?_, Or.inr ⟨rfl, rfl, c1, ?_⟩⟩
    · unfold dcT
      rw [t_tape h, B1_some, p1, B1_some, e8, if_neg (by rw [i2_lt (by omega) (by omega) (by decide) (by decide)]; omega), i2_sub]
    · rw [gI_of (s1.2 0 (by decide))]
    · rw [gI_of (s1.2 0 (by decide))]
/-- the cells that the reference's drawer changes -/
def DmP (p : Nat) : Prop := p = 164 ∨ p = 165
theorem m_end (G : f = 0 → GA (uA A' 1 z)) (m : MS X0 Y0 Y T L z i f A') (hf : f = 0 ∨ f = 1) : ∃ r Z, drT Y = some (r, Z) ∧ SmP DmP Y Z ∧ gI Z 164 6 = 0 ∧ (∀ j : Int, 0 ≤ j → j ≠ 6 → j ≠ 11 → gI Z 164 j = gI Y 164 j) ∧ ((f = 0 ∧ r = i2 (A' 0) ∧ (∃ D, Z.g 165 = rI D ∧ E158 D (uA A' 1 z)) ∧ gI Z 164 11 = 0) ∨ (f = 1 ∧ r = i2 (-100 - gI X0 147 i) ∧ Z.g 165 = Y.g 165 ∧ gI Z 164 11 = gI Y 164 11)) := by
  have h := m.1
  obtain ⟨Y1, p1, s1, r1, o1⟩ := w_put (M := Y) (p := 164) (kd := 15) (j := 6) (v := 0) h.1.1 (by decide) (by decide) (by decide)
  have h1 := h.same s1
  have w1 : SmP DmP Y Y1 := SmP.of s1 (by unfold DmP; omega)
  have r9 : rdI Y1 164 15 9 = some (i2 f) := by rw [m_rd h1 9, ← m.2.2.2.2.1, ← o1 9 (by decide) (by decide)]; rfl
  rcases hf with rfl | rfl
  · have gB := G rfl
    have g1 : Y1.g 168 = rI (uA A' 1 z) := (s1.2 168 (by decide)).trans (m.2.2.2.2.2.2 rfl)
    have hp : ∀ i : Int, 0 ≤ i → i < 158 → alI Y1 168 (i2 i) = some (i2 (uA A' 1 z i)) := fun i i0 i1 => by
      have q := alI_row (M := Y1) (p := 168) (N := 158) (A := uA A' 1 z) (ar_f h1) i0 (by omega) (by omega)
      rwa [← row_of g1] at q
    have b1 := m_become (M := Y1) (p := 168) (q := 165) (P := uA A' 1 z) (Q := gI Y1 165) (ar_s h1) hp (by decide)
    rw [row_gI] at b1
    have eK : E158 (mx (uA A' 1 z) (gI Y1 165) 158) (uA A' 1 z) := fun y a b => mx_at a b
    have s2 := Same.row Y1 165 (mx (uA A' 1 z) (gI Y1 165) 158)
    have e2 : (Y1.row 165 (mx (uA A' 1 z) (gI Y1 165) 158)).g 165 = rI (mx (uA A' 1 z) (gI Y1 165) 158) := row_g _ _ _
    generalize mx (uA A' 1 z) (gI Y1 165) 158 = D at b1 eK s2 e2
    generalize Y1.row 165 D = Y2 at b1 s2 e2
    have h2 := h1.same s2
    obtain ⟨Y3, p3, s3, r3, o3⟩ := w_put (M := Y2) (p := 164) (kd := 15) (j := 11) (v := 0) h2.1.1 (by decide) (by decide) (by decide)
    have h3 := h2.same s3
    have e3 : Y3.g 165 = rI D := (s3.2 165 (by decide)).trans e2
    have cn : alI Y3 165 (i2 0) = some (i2 (A' 0)) := by
      have q := m_al (A := D) h3 (show (0 : Int) ≤ 0 by decide) (show (0 : Int) < 158 by decide)
      rw [← row_of e3, eK 0 (by decide) (by decide)] at q
      exact q
    refine ⟨i2 (A' 0), Y3, ?_, (w1.tr (SmP.of s2 (by unfold DmP; omega))).tr (SmP.of s3 (by unfold DmP; omega)), ?_, fun j j0 j6 j11 => ?_, Or.inl ⟨rfl, rfl, ⟨D, e3, eK⟩, r3⟩⟩
    · unfold drT
      rw [p1, B1_some, r9, B1_some, if_pos rfl, m_r3 h1, B1_some, rdm0 h1, B1_some, b1, B1_some, p3, B1_some, rdm0 h3, B1_some, cn, B1_some]
    · rw [o3 6 (by decide) (by decide), gI_of (s2.2 164 (by decide))]
      exact r1
    · rw [o3 j j0 j11, gI_of (s2.2 164 (by decide)), o1 j j0 j6]
  · have q7 : rdI Y1 164 15 7 = some (i2 (gI X0 147 i)) := by rw [m_rd h1 7, ← m.2.2.2.1.1, ← o1 7 (by decide) (by decide)]; rfl
    refine ⟨i2 (-100 - gI X0 147 i), Y1, ?_, w1, r1, fun j j0 j6 j11 => o1 j j0 j6, Or.inr ⟨rfl, rfl, s1.2 165 (by decide), o1 11 (by decide) (by decide)⟩⟩
    unfold drT
    rw [p1, B1_some, r9, B1_some, if_neg (by decide), q7, B1_some, i2_sub]
end ENDS
