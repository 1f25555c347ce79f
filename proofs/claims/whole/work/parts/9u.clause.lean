section CLAUSE
variable {X0 Y0 X Y : Mm} {T : Int → Int} {L z : Int} {c i : Nat} {f : Int} {A : Int → Int}
/-- a clause, on both sides -/
def Cl (X0 Y0 : Mm) (T : Int → Int) (L z : Int) (c i : Nat) (fc fm : Option Mm) : Prop := ∃ (i' : Nat) (f' : Int) (A' : Int → Int) (X' Y' : Mm), (i ≤ i' ∧ i' ≤ c) ∧ (f' = 0 → i < i') ∧ fc = some X' ∧ CS X0 X' T L c i' f' A' ∧ fm = some Y' ∧ MS X0 Y0 Y' T L z i' f' A'
theorem if_d {α : Type} {w : Int} (h : w = 0 ∨ w = 1) : (∀ a b : α, (if i2 w = 0 then a else b) = b) ∨ (∀ a b : α, (if i2 w = 0 then a else b) = a) := by
  rcases h with rfl | rfl
  · exact Or.inr fun _ _ => rfl
  · exact Or.inl fun _ _ => rfl
theorem CS.any (s : CS X0 X T L c i 1 A) (A' : Int → Int) : CS X0 X T L c i 1 A' := ⟨s.1, s.2.1, s.2.2.1, s.2.2.2.1, s.2.2.2.2.1, Or.inr (s.2.2.2.2.2.elim (fun w => absurd w.1 (by decide)) id)⟩
theorem t_o2 (h : LayC X) : LayD X 111 := t_d111 h
theorem cl_law {w hi : Int} (k : TkF T L X0 c) (hw : (w = 0 ∧ hi = 9) ∨ (w = 1 ∧ hi = 20)) {q : Nat} (hq : q < 20) (s : CS X0 X T L c i 0 A) (wd : wdt X0 T i q = 1) (m : MS X0 Y0 Y T L z (i + 1) 0 A) : Cl X0 Y0 T L z c i (fX8_takeLaw X 109 (i2 w)) (B1 (rdN Y 164 15 3) fun a => B1 (gk Y 164 15) fun _ => B2 (fX12_number Y 164 (i2 0) (i2 hi)) fun x M => B1 (asI M a (i2 (4 + w)) x) fun M => B1 (gk M 164 15) fun _ => B1 (fX12_wants M 164 21) fun M => some M) := by
  have i0 := wdt_lt k s.2.2.2.2.1.1 (by omega) wd
  obtain ⟨X1, a1, a2⟩ := c_take1 s i0
  have sl : sld 2 (i2 w) = some (i2 0) ∧ sld 3 (i2 w) = some (i2 hi) := by rcases hw with ⟨rfl, rfl⟩ | ⟨rfl, rfl⟩ <;> exact ⟨rfl, rfl⟩
  have w0 : 0 ≤ w ∧ w ≤ 1 := by omega
  have h9 : 0 ≤ hi ∧ hi ≤ 99 := by omega
  have nb := nmt_b X0 T (i + 1)
  have pre : ∀ (V : Int32) (X2 : Mm), fX8_takeNumber X1 109 (i2 0) (i2 hi) = some (V, X2) → fX8_takeLaw X 109 (i2 w) = B1 (gk X2 109 11) fun _ => B1 (fX8_isSign X2 109 (i2 59)) fun x24 => B1 (gk X2 109 11) fun _ => B1 (fX8_take X2 109 x24) fun M27 => B1 (rdI M27 109 11 8) fun x31 => if 0 ≤ x31 then some M27 else B1 (rdN M27 109 11 2) fun a38 => B1 (rdN M27 a38 3 0) fun a41 => B1 (asI M27 a41 (i2 w) V) fun M46 => some M46 := fun V X2 h => by
    unfold fX8_takeLaw
    rw [s.gkk, B1_some, L_1, a1, B1_some, sl.1, B1_some, sl.2, B1_some, a2.gkk, B1_some, h, B2_some]
    rfl
  by_cases e : 0 ≤ nmt X0 T (i + 1) ∧ nmt X0 T (i + 1) ≤ hi
  · have i1 := nmt_lt k a2.2.2.2.2.1.1 e.1
    obtain ⟨X2, b1, b2⟩ := c_tn1 a2 (a := 0) (b := hi) (by decide) e.1 e.2 (by omega) i1
    obtain ⟨Y2, p1, p2⟩ := m_num1 k (by omega) m (a := 0) (b := hi) (by decide) e.1 e.2 (by omega)
    obtain ⟨Y3, q1, q2⟩ := p2.as (x := 4 + w) (v := nmt X0 T (i + 1)) (by omega) (by omega) (by omega)
    rw [pre _ X2 b1, b2.gkk, B1_some, b2.sign.1, B1_some, B1_some, m_r3 m.1, B1_some, m.gkk, B1_some, p1, B2_some, q1, B1_some, q2.gkk, B1_some]
    rcases wdt_01 X0 T (i + 1 + 1) 21 with v | v
    · obtain ⟨X3, c1, c2⟩ := c_take0 b2
      obtain ⟨Y4, d1, d2⟩ := m_wants0 k b2.2.2.2.2.1.1 q2 (q := 21) (by decide) v
      obtain ⟨ft, f0, f1, f2⟩ := c2.flt
      refine ⟨i + 1 + 1, 1, _, X3, Y4, ⟨by omega, b2.2.2.2.2.1.1⟩, fun w => absurd w (by decide), ?_, c2.any _, by rw [d1, B1_some], d2⟩
      rw [v, c1, B1_some, f2, B1_some, if_pos (by rw [L_0, i2_le (by decide) (by decide) (by omega) (by omega)]; exact f0)]
    · have i2' := wdt_lt k b2.2.2.2.2.1.1 (by decide) v
      obtain ⟨X3, c1, c2⟩ := c_take1 b2 i2'
      obtain ⟨Y4, d1, d2⟩ := m_wants1 k b2.2.2.2.2.1.1 q2 (q := 21) (by decide) v
      obtain ⟨ok, g, cr⟩ := c2.ok
      have hD := t_d111 c2.1
      have as := g_asI (M := X3) (N := 8) hD.2.1 (x := w) (v := nmt X0 T (i + 1)) w0.1 (by omega) (by omega)
      have gl : GL (uA (lwA A) w (nmt X0 T (i + 1))) := by
        obtain ⟨l0, l1, l⟩ := g.2.2.2.2.2.1
        rcases hw with ⟨rfl, rfl⟩ | ⟨rfl, rfl⟩
        · exact ⟨e, l1, l⟩
        · exact ⟨l0, e, l⟩
      have cr' := cr.law g w0.1 (show w < 8 by omega) (v := nmt X0 T (i + 1)) (by omega) (by omega)
      have st := c2.told (SmP.row X3 (uA (gI X3 (111 + 1)) w (nmt X0 T (i + 1))) (p := 111 + 1) (by omega)) (g.law w0.1 (by omega) gl) cr'
      refine ⟨i + 1 + 1 + 1, 0, _, _, Y4, ⟨by omega, by omega⟩, fun _ => by omega, ?_, st, by rw [d1, B1_some], d2⟩
      rw [v, c1, B1_some, ok, B1_some, if_neg (by decide), tp_r2 c2.1, B1_some, d_laws hD, B1_some, as, B1_some]
  · obtain ⟨X2, b1, b2⟩ := c_tn0 a2 (a := 0) (b := hi) (by decide) (by decide) (by omega) (by omega) (Or.inr e)
    obtain ⟨Y2, p1, p2⟩ := m_num0 k a2.2.2.2.2.1.1 m (a := 0) (b := hi) (by decide) (by decide) (by omega) (by omega) e
    obtain ⟨Y3, q1, q2⟩ := p2.as (x := 4 + w) (v := nmt X0 T (i + 1)) (by omega) (by omega) (by omega)
    obtain ⟨ft, f0, f1, f2⟩ := b2.flt
    refine ⟨i + 1, 1, _, X2, Y3, ⟨by omega, a2.2.2.2.2.1.1⟩, fun w => absurd w (by decide), ?_, b2.any _, ?_, q2⟩
    · rw [pre _ X2 b1, b2.gkk, B1_some, b2.sign.1, B1_some, B1_some, c_takeF b2, B1_some, f2, B1_some, if_pos (by rw [L_0, i2_le (by decide) (by decide) (by omega) (by omega)]; exact f0)]
    · rw [m_r3 m.1, B1_some, m.gkk, B1_some, p1, B2_some, q1, B1_some, q2.gkk, B1_some, m_wantsF q2, B1_some]
theorem cl_foot {w : Int} (k : TkF T L X0 c) (hw : w = 0 ∨ w = 1) {q : Nat} (hq : q < 20) (s : CS X0 X T L c i 0 A) (wd : wdt X0 T i q = 1) (m : MS X0 Y0 Y T L z (i + 1) 0 A) : Cl X0 Y0 T L z c i (fX8_takeFoot X 109 (i2 w)) (B1 (fX12_footTold Y 164 (i2 w)) fun M => B1 (gk M 164 15) fun _ => B1 (fX12_wants M 164 21) fun M => some M) := by
  have i0 := wdt_lt k s.2.2.2.2.1.1 (by omega) wd
  obtain ⟨X1, a1, a2⟩ := c_take1 s i0
  have w0 : 0 ≤ w ∧ w ≤ 1 := by omega
  have nb := nmt_b X0 T (i + 1)
  obtain ⟨ok1, g, cr⟩ := a2.ok
  have hD1 := t_d111 a2.1
  have st := c_stockingAt hD1 cr g (x := nmt X0 T (i + 1)) (by omega) (by omega)
  have fo := c_isOnAFoot hD1 cr g (x := nmt X0 T (i + 1)) (by omega) (by omega)
  have g0 := g.1
  have nu := m.num k a2.2.2.2.2.1.1
  have r0 := m.at (x := 0) (by decide) (by decide) (by decide)
  have r2 := m.at (x := 2) (by decide) (by decide) (by decide)
  have r3 := m.at (x := 3) (by decide) (by decide) (by decide)
  have inn := m_inn Y (x := nmt X0 T (i + 1)) (a := 0) (b := A 0 - 1) (by omega) (by omega) (by decide) (by decide) (by omega) (by omega)
  have e2 : (i2 (A 2) = i2 (nmt X0 T (i + 1))) = (A 2 = nmt X0 T (i + 1)) := i2_eq (by have := g.2.2.1; omega) (by have := g.2.2.1; omega) (by omega) (by omega)
  have e3 : (i2 (A 3) = i2 (nmt X0 T (i + 1))) = (A 3 = nmt X0 T (i + 1)) := i2_eq (by have := g.2.2.2.1; omega) (by have := g.2.2.2.1; omega) (by omega) (by omega)
  -- the component, once it has taken the number or not
  have tl : ∀ X2 : Mm, (B1 (gk X1 109 11) fun _ => B1 (fX8_take X1 109 (i2 0)) fun M38 => B1 (gk M38 109 11) fun _ => B1 (fX8_isSign M38 109 (i2 59)) fun x45 => B1 (gk M38 109 11) fun _ => B1 (fX8_take M38 109 x45) fun M48 => B1 (rdI M48 109 11 8) fun x52 => if i2 0 ≤ x52 then some M48 else B1 (rdN M48 109 11 2) fun a59 => B1 (rdN M48 a59 3 3) fun a62 => B1 (asI M48 a62 (i2 w) (i2 (nmt X0 T (i + 1)))) fun M67 => some M67) = some X2 → ¬ ((0 ≤ nmt X0 T (i + 1) ∧ nmt X0 T (i + 1) < A 0) ∧ ¬ (A 2 = nmt X0 T (i + 1) ∨ A 3 = nmt X0 T (i + 1))) → fX8_takeFoot X 109 (i2 w) = some X2 := fun X2 h no => by
    unfold fX8_takeFoot
    rw [L_0, L_1, L_59, s.gkk, B1_some, a1, B1_some, a2.gkk, B1_some, a2.num, B1_some, tp_r2 a2.1, B1_some, d_gk hD1, B1_some, st, B1_some]
    rw [a2.gkk] at h
    unfold stAt
    by_cases y : 0 ≤ nmt X0 T (i + 1) ∧ nmt X0 T (i + 1) < A 0
    · rw [if_pos y, NL_sm, B1_some, d_gk hD1, B1_some, fo, if_pos (Classical.byContradiction fun z => no ⟨y, z⟩), B1_some, if_neg (by decide)]
      exact h
    · rw [if_neg y]
      exact h
  by_cases e : (0 ≤ nmt X0 T (i + 1) ∧ nmt X0 T (i + 1) < A 0) ∧ ¬ (A 2 = nmt X0 T (i + 1) ∨ A 3 = nmt X0 T (i + 1))
  · have i1 := nmt_lt k a2.2.2.2.2.1.1 e.1.1
    obtain ⟨X2, b1, b2⟩ := c_take1 a2 i1
    obtain ⟨Y1, m1, m2⟩ := m.set (v := 0) (Or.inl rfl)
    obtain ⟨Y2, p1, p2⟩ := m2.nx k i1
    obtain ⟨Y3, q1, q2⟩ := p2.as (x := 2 + w) (v := nmt X0 T (i + 1)) (by omega) (by omega) (by omega)
    have ft : fX12_footTold Y 164 (i2 w) = some Y3 := by
      unfold fX12_footTold
      rw [m.gkk, B1_some, nu, B1_some, m_r3 m.1, B1_some, L_0, r0, B1_some, L_1, i2_sub, show (0 : Int64) = (i2 0).toInt64 from rfl, inn, tf_t ⟨e.1.1, by omega⟩, B1_some, if_neg (by decide), B1_some, L_2, r2, B1_some, if_neg (fun z => e.2 (Or.inl (e2.mp z))), B1_some, L_3, r3, B1_some, if_neg (fun z => e.2 (Or.inr (e3.mp z))), m1, B1_some, m2.r9, B1_some, if_pos rfl, m2.gkk, B1_some, p1, B1_some, m_r3 p2.1, B1_some, i2_add, q1, B1_some]
    have fc : fX8_takeFoot X 109 (i2 w) = B1 (fX8_take X2 109 (i2 (wdt X0 T (i + 1 + 1) 21))) fun M48 => B1 (rdI M48 109 11 8) fun x52 => if i2 0 ≤ x52 then some M48 else B1 (rdN M48 109 11 2) fun a59 => B1 (rdN M48 a59 3 3) fun a62 => B1 (asI M48 a62 (i2 w) (i2 (nmt X0 T (i + 1)))) fun M67 => some M67 := by
      unfold fX8_takeFoot
      rw [L_0, L_1, L_59, s.gkk, B1_some, a1, B1_some, a2.gkk, B1_some, a2.num, B1_some, tp_r2 a2.1, B1_some, d_gk hD1, B1_some, st, B1_some, show stAt A 111 (nmt X0 T (i + 1)) = some (111 + 11 + 3 * (nmt X0 T (i + 1)).toNat) from if_pos e.1, NL_sm, B1_some, d_gk hD1, B1_some, fo, if_neg e.2, B1_some, if_pos rfl, B1_some, b1, B1_some, b2.gkk, B1_some, b2.sign.1, B1_some, B1_some]
    rw [fc, ft, B1_some, q2.gkk, B1_some]
    rcases wdt_01 X0 T (i + 1 + 1) 21 with v | v
    · obtain ⟨X3, c1, c2⟩ := c_take0 b2
      obtain ⟨Y4, d1, d2⟩ := m_wants0 k b2.2.2.2.2.1.1 q2 (q := 21) (by decide) v
      obtain ⟨ft, f0, f1, f2⟩ := c2.flt
      refine ⟨i + 1 + 1, 1, _, X3, Y4, ⟨by omega, b2.2.2.2.2.1.1⟩, fun w => absurd w (by decide), ?_, c2.any _, by rw [d1, B1_some], d2⟩
      rw [v, c1, B1_some, f2, B1_some, if_pos (by rw [i2_le (by decide) (by decide) (by omega) (by omega)]; exact f0)]
    · have i2' := wdt_lt k b2.2.2.2.2.1.1 (by decide) v
      obtain ⟨X3, c1, c2⟩ := c_take1 b2 i2'
      obtain ⟨Y4, d1, d2⟩ := m_wants1 k b2.2.2.2.2.1.1 q2 (q := 21) (by decide) v
      obtain ⟨ok, g, cr⟩ := c2.ok
      have hD := t_d111 c2.1
      have as := g_asI (M := X3) (N := 2) hD.2.2.2.1 (x := w) (v := nmt X0 T (i + 1)) w0.1 (by omega) (by omega)
      have cr' := cr.foot w0.1 (show w < 2 by omega) (v := nmt X0 T (i + 1)) (by omega) (by omega)
      have g' := g.foot w0.1 (show w < 2 by omega) (v := nmt X0 T (i + 1)) (by omega) e.1.2 (Or.inr fun h => e.2 (by
        rcases hw with rfl | rfl
        · exact Or.inr h
        · exact Or.inl h))
      have st := c2.told (SmP.row X3 (uA (gI X3 (111 + 3)) w (nmt X0 T (i + 1))) (p := 111 + 3) (by omega)) g' cr'
      refine ⟨i + 1 + 1 + 1, 0, _, _, Y4, ⟨by omega, by omega⟩, fun _ => by omega, ?_, st, by rw [d1, B1_some], d2⟩
      rw [v, c1, B1_some, ok, B1_some, if_neg (by decide), tp_r2 c2.1, B1_some, d_feet hD, B1_some, as, B1_some]
  · obtain ⟨X2, b1, b2⟩ := c_take0 a2
    obtain ⟨Y1, m1, m2⟩ := m.set (v := 1) (Or.inr rfl)
    obtain ⟨ft, f0, f1, f2⟩ := b2.flt
    have ft : fX12_footTold Y 164 (i2 w) = some Y1 := by
      unfold fX12_footTold
      rw [m.gkk, B1_some, nu, B1_some, m_r3 m.1, B1_some, L_0, r0, B1_some, L_1, i2_sub, show (0 : Int64) = (i2 0).toInt64 from rfl, inn]
      by_cases y : 0 ≤ nmt X0 T (i + 1) ∧ nmt X0 T (i + 1) < A 0
      · rw [tf_t ⟨y.1, by omega⟩, B1_some, if_neg (by decide), B1_some, L_2, r2, B1_some]
        by_cases y2 : A 2 = nmt X0 T (i + 1)
        · rw [if_pos (e2.mpr y2), m1, B1_some, m2.r9, B1_some, if_neg (by decide)]
        · have y3 : A 3 = nmt X0 T (i + 1) := Classical.byContradiction fun z => e ⟨y, fun w => w.elim y2 z⟩
          rw [if_neg (fun z => y2 (e2.mp z)), B1_some, L_3, r3, B1_some, if_pos (e3.mpr y3), m1, B1_some, m2.r9, B1_some, if_neg (by decide)]
      · rw [tf_f (fun z => y ⟨z.1, by omega⟩), B1_some, if_pos rfl, m1, B1_some, m2.r9, B1_some, if_neg (by decide)]
    refine ⟨i + 1, 1, _, X2, Y1, ⟨by omega, a2.2.2.2.2.1.1⟩, fun w => absurd w (by decide), tl X2 ?_ e, b2, ?_, m2⟩
    · rw [a2.gkk, B1_some, b1, B1_some, b2.gkk, B1_some, b2.sign.1, B1_some, B1_some, c_takeF b2, B1_some, f2, B1_some, if_pos (by rw [i2_le (by decide) (by decide) (by omega) (by omega)]; exact f0)]
    · rw [ft, B1_some, m2.gkk, B1_some, m_wantsF m2, B1_some]
end CLAUSE
