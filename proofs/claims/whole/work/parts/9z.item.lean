section ITEM
variable {X0 Y0 X Y : Mm} {T : Int → Int} {L z : Int} {c i : Nat} {f : Int} {A : Int → Int}
/-- a law told: the reference -/
def lawM (j hi : Int32) (M : Mm) : Option Mm := B1 (rdN M 164 15 3) fun a => B1 (gk M 164 15) fun _ => B2 (fX12_number M 164 (i2 0) hi) fun x M => B1 (asI M a j x) fun M => B1 (gk M 164 15) fun _ => B1 (fX12_wants M 164 21) fun M => some M
theorem c_clU (M : Mm) : fX8_takeClause M 109 = B1 (gk M 109 11) fun _ => B1 (fX8_isName M 109 0) fun x3 => if x3 = i2 0 then B1 (gk M 109 11) fun _ => B1 (fX8_isName M 109 1) fun x20 => if x20 = i2 0 then B1 (gk M 109 11) fun _ => B1 (fX8_isName M 109 2) fun x37 => if x37 = i2 0 then B1 (gk M 109 11) fun _ => B1 (fX8_isName M 109 3) fun x54 => if x54 = i2 0 then B1 (gk M 109 11) fun _ => B1 (fX8_isName M 109 4) fun x71 => if x71 = i2 0 then B1 (gk M 109 11) fun _ => B1 (fX8_isName M 109 9) fun x96 => if x96 = i2 0 then (B1 (gk M 109 11) fun _ => B1 (fX8_takeStocking M 109) fun M119 => some M119) else B1 (rdN M 109 11 2) fun a104 => B1 (rdN M a104 3 4) fun a107 => B1 (alN M a107 24 (i2 1)) fun a111 => B1 (gk M 109 11) fun _ => B1 (fX8_takeWay M 109 a111) fun M112 => some M112 else B1 (rdN M 109 11 2) fun a79 => B1 (rdN M a79 3 4) fun a82 => B1 (alN M a82 24 (i2 0)) fun a86 => B1 (gk M 109 11) fun _ => B1 (fX8_takeWay M 109 a86) fun M87 => some M87 else (B1 (gk M 109 11) fun _ => B1 (fX8_takeLaw M 109 (i2 1)) fun M62 => some M62) else (B1 (gk M 109 11) fun _ => B1 (fX8_takeLaw M 109 (i2 0)) fun M45 => some M45) else (B1 (gk M 109 11) fun _ => B1 (fX8_takeFoot M 109 (i2 1)) fun M28 => some M28) else (B1 (gk M 109 11) fun _ => B1 (fX8_takeFoot M 109 (i2 0)) fun M11 => some M11) := rfl
theorem m_itU (M : Mm) : fX12_item M 164 = B1 (gk M 164 15) fun _ => B1 (fX12_kindHere M 164) fun x1 => if x1 < i2 0 then (B1 (gk M 164 15) fun _ => B2 (fX12_takes M 164 0) fun x21 M21 => if x21 = i2 0 then (B1 (gk M21 164 15) fun _ => B2 (fX12_takes M21 164 1) fun x39 M39 => if x39 = i2 0 then (B1 (gk M39 164 15) fun _ => B2 (fX12_takes M39 164 2) fun x57 M57 => if x57 = i2 0 then (B1 (gk M57 164 15) fun _ => B2 (fX12_takes M57 164 3) fun x83 M83 => if x83 = i2 0 then (B1 (gk M83 164 15) fun _ => B2 (fX12_takes M83 164 4) fun x109 M109 => if x109 = i2 0 then (B1 (gk M109 164 15) fun _ => B1 (fX12_wants M109 164 9) fun M127 => B1 (rdI M127 164 15 9) fun x131 => if x131 = i2 0 then (B1 (gk M127 164 15) fun _ => semi (fX12_wayTold M127 164 (i2 1))) else B1 (gk M127 164 15) fun _ => B1 (fX12_wants M127 164 21) fun M => some M) else B1 (gk M109 164 15) fun _ => semi (fX12_wayTold M109 164 (i2 0))) else lawM (i2 5) (i2 20) M83) else lawM (i2 4) (i2 9) M57) else B1 (gk M39 164 15) fun _ => semi (fX12_footTold M39 164 (i2 1))) else B1 (gk M21 164 15) fun _ => semi (fX12_footTold M21 164 (i2 0))) else B1 (gk M 164 15) fun _ => semi (fX12_stockingTold M 164 x1) := rfl
theorem B1_id {α : Type} (o : Option α) : B1 o (fun x => some x) = o := by cases o <;> rfl
theorem kdt_w (h : 0 ≤ kdt X0 T i) : ∃ q, 10 ≤ q ∧ q ≤ 15 ∧ wdt X0 T i q = 1 := by
  unfold kdt at h
  split at h
  · next w => exact ⟨15, by decide, by decide, w⟩
  · split at h
    · next w => exact ⟨10, by decide, by decide, w⟩
    · split at h
      · next w => exact ⟨11, by decide, by decide, w⟩
      · split at h
        · next w => exact ⟨12, by decide, by decide, w⟩
        · split at h
          · next w => exact ⟨13, by decide, by decide, w⟩
          · split at h
            · next w => exact ⟨14, by decide, by decide, w⟩
            · omega
theorem cl_clause (k : TkF T L X0 c) (s : CS X0 X T L c i 0 A) (m : MS X0 Y0 Y T L z i 0 A) : Cl X0 Y0 T L z c i (fX8_takeClause X 109) (fX12_item Y 164) := by
  have ic := s.2.2.2.2.1.1
  have kb := kdt_b X0 T i
  have hD := t_d111 s.1
  have n10 : ¬ i2 1 = i2 0 := by decide
  have way : ∀ w : Nat, w < 2 → alN X (111 + 4) 24 (i2 w) = some (111 + 5 + 3 * w) := fun w hw => by
    rw [d_way hD (by omega) (by omega)]
    rfl
  have n0 := s.name (q := 0) (by decide)
  have n1 := s.name (q := 1) (by decide)
  have n2 := s.name (q := 2) (by decide)
  have n3 := s.name (q := 3) (by decide)
  have n4 := s.name (q := 4) (by decide)
  have n9 := s.name (q := 9) (by decide)
  by_cases h : 0 ≤ kdt X0 T i
  · obtain ⟨q, q0, q1, qw⟩ := kdt_w h
    have z := fun (q' : Nat) (h' : q' < 10) => wdt_one (X0 := X0) (T := T) (i := i) (q := q) (q' := q') (by omega) (by omega) (by omega) qw
    rw [z 0 (by decide)] at n0
    rw [z 1 (by decide)] at n1
    rw [z 2 (by decide)] at n2
    rw [z 3 (by decide)] at n3
    rw [z 4 (by decide)] at n4
    rw [z 9 (by decide)] at n9
    have fc : fX8_takeClause X 109 = fX8_takeStocking X 109 := by
      rw [c_clU, n0, s.gkk, B1_some, B1_some, if_pos rfl, B1_some, n1, B1_some, if_pos rfl, B1_some, n2, B1_some, if_pos rfl, B1_some, n3, B1_some, if_pos rfl, B1_some, n4, B1_some, if_pos rfl, B1_some, n9, B1_some, if_pos rfl, B1_some, B1_id]
    have fm : fX12_item Y 164 = semi (fX12_stockingTold Y 164 (i2 (kdt X0 T i))) := by
      rw [m_itU, m.gkk, B1_some, m.kind k ic, B1_some, if_neg (by rw [i2_lt (by omega) (by omega) (by decide) (by decide)]; omega), B1_some]
    rw [fc, fm]
    exact cl_stock k s h m
  · have mk : ∀ R : Option Mm, (B1 (gk Y 164 15) fun _ => B2 (fX12_takes Y 164 0) fun x21 M21 => if x21 = i2 0 then (B1 (gk M21 164 15) fun _ => B2 (fX12_takes M21 164 1) fun x39 M39 => if x39 = i2 0 then (B1 (gk M39 164 15) fun _ => B2 (fX12_takes M39 164 2) fun x57 M57 => if x57 = i2 0 then (B1 (gk M57 164 15) fun _ => B2 (fX12_takes M57 164 3) fun x83 M83 => if x83 = i2 0 then (B1 (gk M83 164 15) fun _ => B2 (fX12_takes M83 164 4) fun x109 M109 => if x109 = i2 0 then (B1 (gk M109 164 15) fun _ => B1 (fX12_wants M109 164 9) fun M127 => B1 (rdI M127 164 15 9) fun x131 => if x131 = i2 0 then (B1 (gk M127 164 15) fun _ => semi (fX12_wayTold M127 164 (i2 1))) else B1 (gk M127 164 15) fun _ => B1 (fX12_wants M127 164 21) fun M => some M) else B1 (gk M109 164 15) fun _ => semi (fX12_wayTold M109 164 (i2 0))) else lawM (i2 5) (i2 20) M83) else lawM (i2 4) (i2 9) M57) else B1 (gk M39 164 15) fun _ => semi (fX12_footTold M39 164 (i2 1))) else B1 (gk M21 164 15) fun _ => semi (fX12_footTold M21 164 (i2 0))) = R → fX12_item Y 164 = R := fun R hR => by
      rw [m_itU, m.gkk, B1_some, m.kind k ic, B1_some, if_pos (by rw [i2_lt (by omega) (by omega) (by decide) (by decide)]; omega)]
      rw [m.gkk] at hR
      exact hR
    rcases wdt_01 X0 T i 0 with e0 | e0
    · rw [e0] at n0
      have t0 := m_takes0 k ic m (q := 0) (by decide) e0
      rcases wdt_01 X0 T i 1 with e1 | e1
      · rw [e1] at n1
        have t1 := m_takes0 k ic m (q := 1) (by decide) e1
        rcases wdt_01 X0 T i 2 with e2 | e2
        · rw [e2] at n2
          have t2 := m_takes0 k ic m (q := 2) (by decide) e2
          rcases wdt_01 X0 T i 3 with e3 | e3
          · rw [e3] at n3
            have t3 := m_takes0 k ic m (q := 3) (by decide) e3
            rcases wdt_01 X0 T i 4 with e4 | e4
            · rw [e4] at n4
              have t4 := m_takes0 k ic m (q := 4) (by decide) e4
              rcases wdt_01 X0 T i 9 with e9 | e9
              · rw [e9] at n9
                obtain ⟨Y1, b1, b2⟩ := m_wants0 k ic m (q := 9) (by decide) e9
                obtain ⟨X1, a1, a2⟩ := c_stNo s (by omega)
                refine Cl.no (X := X1) ?_ a2 (Y := Y1) (mk _ ?_) b2
                · rw [c_clU, n0, s.gkk, B1_some, B1_some, if_pos rfl, B1_some, n1, B1_some, if_pos rfl, B1_some, n2, B1_some, if_pos rfl, B1_some, n3, B1_some, if_pos rfl, B1_some, n4, B1_some, if_pos rfl, B1_some, n9, B1_some, if_pos rfl, B1_some, B1_id, a1]
                · rw [m.gkk, B1_some, t0, B2_some, if_pos rfl, m.gkk, B1_some, t1, B2_some, if_pos rfl, m.gkk, B1_some, t2, B2_some, if_pos rfl, m.gkk, B1_some, t3, B2_some, if_pos rfl, m.gkk, B1_some, t4, B2_some, if_pos rfl, m.gkk, B1_some, b1, B1_some, b2.r9, B1_some, if_neg n10, b2.gkk, B1_some, m_wantsF b2, B1_some]
              · rw [e9] at n9
                obtain ⟨Y1, b1, b2⟩ := m_wants1 k ic m (q := 9) (by decide) e9
                have fc : fX8_takeClause X 109 = fX8_takeWay X 109 (111 + 5 + 3 * 1) := by
                  rw [c_clU, n0, s.gkk, B1_some, B1_some, if_pos rfl, B1_some, n1, B1_some, if_pos rfl, B1_some, n2, B1_some, if_pos rfl, B1_some, n3, B1_some, if_pos rfl, B1_some, n4, B1_some, if_pos rfl, B1_some, n9, B1_some, if_neg n10, tp_r2 s.1, B1_some, d_ways hD, B1_some, show alN X (111 + 4) 24 (i2 1) = some (111 + 5 + 3 * 1) from way 1 (by decide), B1_some, B1_some, B1_id]
                rw [fc, mk (semi (fX12_wayTold Y1 164 (i2 1))) (by rw [m.gkk, B1_some, t0, B2_some, if_pos rfl, m.gkk, B1_some, t1, B2_some, if_pos rfl, m.gkk, B1_some, t2, B2_some, if_pos rfl, m.gkk, B1_some, t3, B2_some, if_pos rfl, m.gkk, B1_some, t4, B2_some, if_pos rfl, m.gkk, B1_some, b1, B1_some, b2.r9, B1_some, if_pos rfl, b2.gkk, B1_some])]
                exact cl_way (w := 1) (by decide) k (q := 9) (by decide) s e9 b2
            · rw [e4] at n4
              obtain ⟨Y1, b1, b2⟩ := m_takes1 k ic m (q := 4) (by decide) e4
              have fc : fX8_takeClause X 109 = fX8_takeWay X 109 (111 + 5 + 3 * 0) := by
                rw [c_clU, n0, s.gkk, B1_some, B1_some, if_pos rfl, B1_some, n1, B1_some, if_pos rfl, B1_some, n2, B1_some, if_pos rfl, B1_some, n3, B1_some, if_pos rfl, B1_some, n4, B1_some, if_neg n10, tp_r2 s.1, B1_some, d_ways hD, B1_some, show alN X (111 + 4) 24 (i2 0) = some (111 + 5 + 3 * 0) from way 0 (by decide), B1_some, B1_some, B1_id]
              rw [fc, mk (semi (fX12_wayTold Y1 164 (i2 0))) (by rw [m.gkk, B1_some, t0, B2_some, if_pos rfl, m.gkk, B1_some, t1, B2_some, if_pos rfl, m.gkk, B1_some, t2, B2_some, if_pos rfl, m.gkk, B1_some, t3, B2_some, if_pos rfl, m.gkk, B1_some, b1, B2_some, if_neg n10, b2.gkk, B1_some])]
              exact cl_way (w := 0) (by decide) k (q := 4) (by decide) s e4 b2
          · rw [e3] at n3
            obtain ⟨Y1, b1, b2⟩ := m_takes1 k ic m (q := 3) (by decide) e3
            have fc : fX8_takeClause X 109 = fX8_takeLaw X 109 (i2 1) := by
              rw [c_clU, n0, s.gkk, B1_some, B1_some, if_pos rfl, B1_some, n1, B1_some, if_pos rfl, B1_some, n2, B1_some, if_pos rfl, B1_some, n3, B1_some, if_neg n10, B1_some, B1_id]
            rw [fc, mk (lawM (i2 5) (i2 20) Y1) (by rw [m.gkk, B1_some, t0, B2_some, if_pos rfl, m.gkk, B1_some, t1, B2_some, if_pos rfl, m.gkk, B1_some, t2, B2_some, if_pos rfl, m.gkk, B1_some, b1, B2_some, if_neg n10])]
            exact cl_law (w := 1) (hi := 20) k (Or.inr ⟨rfl, rfl⟩) (q := 3) (by decide) s e3 b2
        · rw [e2] at n2
          obtain ⟨Y1, b1, b2⟩ := m_takes1 k ic m (q := 2) (by decide) e2
          have fc : fX8_takeClause X 109 = fX8_takeLaw X 109 (i2 0) := by
            rw [c_clU, n0, s.gkk, B1_some, B1_some, if_pos rfl, B1_some, n1, B1_some, if_pos rfl, B1_some, n2, B1_some, if_neg n10, B1_some, B1_id]
          rw [fc, mk (lawM (i2 4) (i2 9) Y1) (by rw [m.gkk, B1_some, t0, B2_some, if_pos rfl, m.gkk, B1_some, t1, B2_some, if_pos rfl, m.gkk, B1_some, b1, B2_some, if_neg n10])]
          exact cl_law (w := 0) (hi := 9) k (Or.inl ⟨rfl, rfl⟩) (q := 2) (by decide) s e2 b2
      · rw [e1] at n1
        obtain ⟨Y1, b1, b2⟩ := m_takes1 k ic m (q := 1) (by decide) e1
        have fc : fX8_takeClause X 109 = fX8_takeFoot X 109 (i2 1) := by
          rw [c_clU, n0, s.gkk, B1_some, B1_some, if_pos rfl, B1_some, n1, B1_some, if_neg n10, B1_some, B1_id]
        rw [fc, mk (semi (fX12_footTold Y1 164 (i2 1))) (by rw [m.gkk, B1_some, t0, B2_some, if_pos rfl, m.gkk, B1_some, b1, B2_some, if_neg n10, b2.gkk, B1_some])]
        exact cl_foot (w := 1) k (Or.inr rfl) (q := 1) (by decide) s e1 b2
    · rw [e0] at n0
      obtain ⟨Y1, b1, b2⟩ := m_takes1 k ic m (q := 0) (by decide) e0
      have fc : fX8_takeClause X 109 = fX8_takeFoot X 109 (i2 0) := by
        rw [c_clU, n0, s.gkk, B1_some, B1_some, if_neg n10, B1_some, B1_id]
      rw [fc, mk (semi (fX12_footTold Y1 164 (i2 0))) (by rw [m.gkk, B1_some, b1, B2_some, if_neg n10, b2.gkk, B1_some])]
      exact cl_foot (w := 0) k (Or.inl rfl) (q := 0) (by decide) s e0 b2
end ITEM
