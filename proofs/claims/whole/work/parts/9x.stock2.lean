section STOCKU
variable {X0 Y0 X Y : Mm} {T : Int → Int} {L z : Int} {c i : Nat} {f : Int} {A : Int → Int}
/-- the ladder of a stocking told -/
def stT3 (M : Mm) (kd a sh la : Int32) : Option Mm := B1 (rdI M 109 11 8) fun x83 => if i2 0 ≤ x83 then stT4 M kd a sh la (i2 (-9)) (i2 (-9)) else B1 (gk M 109 11) fun _ => B1 (fX8_isName M 109 18) fun x92 => if x92 = i2 0 then stT4 M kd a sh la (i2 (-9)) (i2 (-9)) else B1 (gk M 109 11) fun _ => B1 (fX8_take M 109 (i2 1)) fun M100 => B1 (gk M100 109 11) fun _ => B2 (fX8_takeNumber M100 109 (i2 0) (i2 99)) fun x107 M107 => B1 (gk M107 109 11) fun _ => B1 (fX8_isName M107 109 19) fun x116 => B1 (gk M107 109 11) fun _ => B1 (fX8_take M107 109 x116) fun M119 => B1 (gk M119 109 11) fun _ => B2 (fX8_takeNumber M119 109 x107 (i2 99)) fun x127 M127 => stT4 M127 kd a sh la x107 x127
def smT3 (M : Mm) (p1 x36 x50 x65 : Int32) : Option Mm := B1 (rdI M 164 15 9) fun x71 => if x71 = i2 0 then B1 (rdN M 164 15 3) fun a83 => B2 (fX12_comes M a83 p1 x36 x50 x65) fun x91 M91 => B1 (gk M91 164 15) fun _ => B2 (fX12_takes M91 164 18) fun x102 M102 => if x102 = i2 0 then some M102 else B1 (gk M102 164 15) fun _ => B2 (fX12_number M102 164 (i2 0) (i2 99)) fun x112 M112 => B1 (gk M112 164 15) fun _ => B1 (fX12_wants M112 164 19) fun M121 => B1 (rdN M121 164 15 3) fun a125 => B1 (asI M121 a125 ((i2 54 + (i2 13 * x91)) + i2 6) x112) fun M135 => B1 (rdN M135 164 15 3) fun a137 => B1 (gk M135 164 15) fun _ => B2 (fX12_number M135 164 x112 (i2 99)) fun x150 M150 => B1 (asI M150 a137 ((i2 54 + (i2 13 * x91)) + i2 7) x150) fun M153 => some M153 else some M
/-- what follows an item -/
def semi (o : Option Mm) : Option Mm := B1 o fun M => B1 (gk M 164 15) fun _ => B1 (fX12_wants M 164 21) fun M => some M
theorem semi_some (M : Mm) : semi (some M) = B1 (gk M 164 15) fun _ => B1 (fX12_wants M 164 21) fun M => some M := rfl
theorem semi_F (m : MS X0 Y0 Y T L z i 1 A) : semi (some Y) = some Y := by rw [semi_some, m.gkk, B1_some, m_wantsF m, B1_some]
theorem c_T3F (s : CS X0 X T L c i 1 A) (kd a sh la : Int32) : stT3 X kd a sh la = some X := by
  obtain ⟨v, v1, v2⟩ := s.le
  unfold stT3
  rw [v1, B1_some, if_pos v2, c_T4F s]
theorem m_T3F (m : MS X0 Y0 Y T L z i 1 A) (kd a sh la : Int32) : smT3 Y kd a sh la = some Y := by
  unfold smT3
  rw [m.r9, B1_some, if_neg (by decide)]
theorem cl_T3 (k : TkF T L X0 c) (s : CS X0 X T L c i 0 A) (n : A 0 < 8) {kd a sh la : Int} (h0 : 0 ≤ kd ∧ kd ≤ 5) (h1 : 0 ≤ a ∧ a ≤ 9) (h2 : 0 ≤ sh ∧ sh ≤ 3) (h3 : 1 ≤ la ∧ la ≤ 30) (m : MS X0 Y0 Y T L z i 0 A) : Cl X0 Y0 T L z c i (stT3 X (i2 kd) (i2 a) (i2 sh) (i2 la)) (semi (smT3 Y (i2 kd) (i2 a) (i2 sh) (i2 la))) := by
  obtain ⟨ok, g, cr⟩ := s.ok
  have g0 := g.1
  have ic := s.2.2.2.2.1.1
  have ad : (i2 54 + i2 13 * i2 (A 0)) + i2 6 = i2 (54 + 13 * A 0 + 6) ∧ (i2 54 + i2 13 * i2 (A 0)) + i2 7 = i2 (54 + 13 * A 0 + 7) := by
    rw [i2_mul, i2_add, i2_add, i2_add]
    exact ⟨rfl, rfl⟩
  have co := m_comes (M := Y) (A := uA A 1 z) (p := 168) (ar_f m.1) (kd := kd) (a := a) (sh := sh) (la := la) (by rw [uA_ne (by decide)]; exact g0.1) (by rw [uA_ne (by decide)]; exact n)
  rw [← row_of (m.2.2.2.2.2.2 rfl), morA_1 g0.1, uA_ne (by decide)] at co
  have m1 : MS X0 Y0 (Y.row 168 (uA (morA A (newS kd a sh la)) 1 z)) T L z i 0 (morA A (newS kd a sh la)) := m.row fun _ => rfl
  generalize Y.row 168 (uA (morA A (newS kd a sh la)) 1 z) = Y1 at co m1
  have pre : smT3 Y (i2 kd) (i2 a) (i2 sh) (i2 la) = B2 (fX12_takes Y1 164 18) fun x102 M102 => if x102 = i2 0 then some M102 else B1 (gk M102 164 15) fun _ => B2 (fX12_number M102 164 (i2 0) (i2 99)) fun x112 M112 => B1 (gk M112 164 15) fun _ => B1 (fX12_wants M112 164 19) fun M121 => B1 (rdN M121 164 15 3) fun a125 => B1 (asI M121 a125 (i2 (54 + 13 * A 0 + 6)) x112) fun M135 => B1 (rdN M135 164 15 3) fun a137 => B1 (gk M135 164 15) fun _ => B2 (fX12_number M135 164 x112 (i2 99)) fun x150 M150 => B1 (asI M150 a137 (i2 (54 + 13 * A 0 + 7)) x150) fun M153 => some M153 := by
    unfold smT3
    rw [m.r9, B1_some, if_pos rfl, m_r3 m.1, B1_some, co, B2_some, m1.gkk, B1_some, ad.1, ad.2]
  have preC : stT3 X (i2 kd) (i2 a) (i2 sh) (i2 la) = if wdt X0 T i 18 = 1 then (B1 (fX8_take X 109 (i2 1)) fun M100 => B1 (gk M100 109 11) fun _ => B2 (fX8_takeNumber M100 109 (i2 0) (i2 99)) fun x107 M107 => B1 (gk M107 109 11) fun _ => B1 (fX8_isName M107 109 19) fun x116 => B1 (gk M107 109 11) fun _ => B1 (fX8_take M107 109 x116) fun M119 => B1 (gk M119 109 11) fun _ => B2 (fX8_takeNumber M119 109 x107 (i2 99)) fun x127 M127 => stT4 M127 (i2 kd) (i2 a) (i2 sh) (i2 la) x107 x127) else stT4 X (i2 kd) (i2 a) (i2 sh) (i2 la) (i2 (-9)) (i2 (-9)) := by
    unfold stT3
    rw [ok, B1_some, if_neg (by decide), s.gkk, B1_some, s.name (by decide), B1_some, show ∀ a b : Option Mm, (if i2 (wdt X0 T i 18) = i2 0 then a else b) = if wdt X0 T i 18 = 1 then b else a from fun a b => if_w (wdt_01 _ _ _ _) a b]
    rfl
  rw [pre, preC]
  rcases wdt_01 X0 T i 18 with e | e
  · rw [m_takes0 k ic m1 (by decide) e, B2_some, if_pos rfl, semi_some, if_neg (by omega)]
    have m2 := m1
    rw [← ladA_no g0.1] at m2
    have fin := cl_T4 k s n h0 h1 h2 h3 (lo := -1) (hi := -1) (Or.inl ⟨rfl, rfl⟩) m2
    rw [show cl (-1) = -9 from rfl] at fin
    exact fin
  · have i0 := wdt_lt k ic (by decide) e
    obtain ⟨X1, a1, a2⟩ := c_take1 s i0
    obtain ⟨Y2, b1, b2⟩ := m_takes1 k ic m1 (q := 18) (by decide) e
    rw [if_pos e, a1, B1_some, a2.gkk, B1_some, b1, B2_some, if_neg (by decide), b2.gkk, B1_some]
    have nb := nmt_b X0 T (i + 1)
    have nb3 := nmt_b X0 T (i + 1 + 1 + 1)
    by_cases q : 0 ≤ nmt X0 T (i + 1) ∧ nmt X0 T (i + 1) ≤ 99
    · have i1 := nmt_lt k a2.2.2.2.2.1.1 q.1
      obtain ⟨X2, d1, d2⟩ := c_tn1 a2 (a := 0) (b := 99) (by decide) q.1 q.2 (by decide) i1
      obtain ⟨Y3, p1, p2⟩ := m_num1 k a2.2.2.2.2.1.1 b2 (a := 0) (b := 99) (by decide) q.1 q.2 (by decide)
      rw [d1, B2_some, p1, B2_some, p2.gkk, B1_some]
      rcases wdt_01 X0 T (i + 1 + 1) 19 with w | w
      · obtain ⟨X3, e1, e2⟩ := c_take0 d2
        obtain ⟨Y4, r1, r2⟩ := m_wants0 k d2.2.2.2.2.1.1 p2 (q := 19) (by decide) w
        obtain ⟨Y5, t1, t2⟩ := r2.as (x := 54 + 13 * A 0 + 6) (v := nmt X0 T (i + 1)) (by omega) (by omega) (by omega)
        obtain ⟨Y6, u1, u2⟩ := t2.as (x := 54 + 13 * A 0 + 7) (v := nmt X0 T (i + 1 + 1)) (by omega) (by omega) (by omega)
        refine Cl.up (j := i + 1 + 1) (by omega) (Cl.no (X := X3) ?_ e2 (Y := Y6) ?_ u2)
        · rw [d2.gkk, B1_some, d2.name (by decide), B1_some, B1_some, w, e1, B1_some, e2.gkk, B1_some, c_tnF e2, B2_some, c_T4F e2]
        · rw [r1, B1_some, m_r3 r2.1, B1_some, t1, B1_some, m_r3 t2.1, B1_some, t2.gkk, B1_some, m_numF k d2.2.2.2.2.1.1 t2, B2_some, u1, B1_some, semi_F u2]
      · have i2' := wdt_lt k d2.2.2.2.2.1.1 (by decide) w
        obtain ⟨X3, e1, e2⟩ := c_take1 d2 i2'
        obtain ⟨Y4, r1, r2⟩ := m_wants1 k d2.2.2.2.2.1.1 p2 (q := 19) (by decide) w
        obtain ⟨Y5, t1, t2⟩ := r2.as (x := 54 + 13 * A 0 + 6) (v := nmt X0 T (i + 1)) (by omega) (by omega) (by omega)
        rw [d2.gkk, B1_some, d2.name (by decide), B1_some, B1_some, w, e1, B1_some, e2.gkk, B1_some, r1, B1_some, m_r3 r2.1, B1_some, t1, B1_some, m_r3 t2.1, B1_some, t2.gkk, B1_some]
        by_cases y : nmt X0 T (i + 1) ≤ nmt X0 T (i + 1 + 1 + 1) ∧ nmt X0 T (i + 1 + 1 + 1) ≤ 99
        · have i3 := nmt_lt k e2.2.2.2.2.1.1 (by omega)
          obtain ⟨X4, f1, f2⟩ := c_tn1 e2 (a := nmt X0 T (i + 1)) (b := 99) q.1 y.1 y.2 (by decide) i3
          obtain ⟨Y6, g1, g2⟩ := m_num1 k e2.2.2.2.2.1.1 t2 (a := nmt X0 T (i + 1)) (b := 99) q.1 y.1 y.2 (by decide)
          obtain ⟨Y7, l1, l2⟩ := g2.as (x := 54 + 13 * A 0 + 7) (v := nmt X0 T (i + 1 + 1 + 1)) (by omega) (by omega) (by omega)
          rw [f1, B2_some, g1, B2_some, l1, B1_some, semi_some]
          rw [ladA_yes g0.1] at l2
          have fin := cl_T4 k f2 n h0 h1 h2 h3 (Or.inr ⟨q.1, y.1, y.2⟩) l2
          rw [show cl (nmt X0 T (i + 1)) = nmt X0 T (i + 1) from if_neg (by omega), show cl (nmt X0 T (i + 1 + 1 + 1)) = nmt X0 T (i + 1 + 1 + 1) from if_neg (by omega)] at fin
          exact fin.up (by omega)
        · obtain ⟨X4, f1, f2⟩ := c_tn0 e2 (a := nmt X0 T (i + 1)) (b := 99) (by omega) (by omega) (by decide) (by decide) (Or.inr y)
          obtain ⟨Y6, g1, g2⟩ := m_num0 k e2.2.2.2.2.1.1 t2 (a := nmt X0 T (i + 1)) (b := 99) (by omega) (by omega) (by decide) (by decide) y
          obtain ⟨Y7, l1, l2⟩ := g2.as (x := 54 + 13 * A 0 + 7) (v := nmt X0 T (i + 1 + 1 + 1)) (by omega) (by omega) (by omega)
          refine Cl.up (j := i + 1 + 1 + 1) (by omega) (Cl.no (X := X4) ?_ f2 (Y := Y7) ?_ l2)
          · rw [f1, B2_some, c_T4F f2]
          · rw [g1, B2_some, l1, B1_some, semi_F l2]
    · obtain ⟨X2, d1, d2⟩ := c_tn0 a2 (a := 0) (b := 99) (by decide) (by decide) (by decide) (by decide) (Or.inr q)
      obtain ⟨Y3, p1, p2⟩ := m_num0 k a2.2.2.2.2.1.1 b2 (a := 0) (b := 99) (by decide) (by decide) (by decide) (by decide) q
      obtain ⟨Y5, t1, t2⟩ := p2.as (x := 54 + 13 * A 0 + 6) (v := nmt X0 T (i + 1)) (by omega) (by omega) (by omega)
      obtain ⟨Y6, u1, u2⟩ := t2.as (x := 54 + 13 * A 0 + 7) (v := nmt X0 T (i + 1)) (by omega) (by omega) (by omega)
      refine Cl.up (j := i + 1) (by omega) (Cl.no (X := X2) ?_ d2 (Y := Y6) ?_ u2)
      · rw [d1, B2_some, d2.gkk, B1_some, d2.name (by decide), B1_some, B1_some, c_takeF d2, B1_some, d2.gkk, B1_some, c_tnF d2, B2_some, c_T4F d2]
      · rw [p1, B2_some, p2.gkk, B1_some, m_wantsF p2, B1_some, m_r3 p2.1, B1_some, t1, B1_some, m_r3 t2.1, B1_some, t2.gkk, B1_some, m_numF k a2.2.2.2.2.1.1 t2, B2_some, u1, B1_some, semi_F u2]
end STOCKU
