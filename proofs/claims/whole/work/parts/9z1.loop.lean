section LOOP
variable {X0 Y0 X Y : Mm} {T : Int → Int} {L z : Int} {c i : Nat} {f : Int} {A : Int → Int}
/-- the reference behind the last clause -/
def drT (M : Mm) : Option (Int32 × Mm) := B1 (wrI M 164 15 6 (i2 0)) fun M59 => B1 (rdI M59 164 15 9) fun x63 => if x63 = i2 0 then B1 (rdN M59 164 15 3) fun a78 => B1 (rdN M59 164 15 0) fun a82 => B1 (fX12_become M59 a78 a82) fun M85 => B1 (wrI M85 164 15 11 (i2 0)) fun M90 => B1 (rdN M90 164 15 0) fun a94 => B1 (alI M90 a94 (i2 0)) fun x98 => some (x98, M90) else B1 (rdI M59 164 15 7) fun x72 => some (i2 (-100) - x72, M59)
theorem c_allU (N : Nat) (v : Int32) (M : Mm) : fX8_faultOf_L23 109 (N + 1) v M = B1 (rdI M 109 11 6) fun x25 => if x25 ≤ v then (B1 (rdI M 109 11 8) fun x => some (x, M)) else B1 (rdI M 109 11 8) fun x32 => if i2 0 ≤ x32 then (B1 (rdI M 109 11 8) fun x => some (x, M)) else B1 (rdN M 109 11 3) fun a39 => B1 (rdI M 109 11 7) fun x43 => B1 (alI M a39 x43) fun x46 => if x46 = i2 0 then (B1 (rdI M 109 11 8) fun x => some (x, M)) else B1 (gk M 109 11) fun _ => B1 (fX8_takeClause M 109) fun M51 => fX8_faultOf_L23 109 N (v + i2 1) M51 := rfl
theorem m_allU (N : Nat) (M : Mm) : fX12_drawer_L32 164 (N + 1) M = B1 (rdI M 164 15 9) fun x33 => if x33 = i2 0 then B1 (rdI M 164 15 7) fun x40 => B1 (rdI M 164 15 6) fun x44 => if x44 ≤ x40 then drT M else B1 (gk M 164 15) fun _ => B1 (fX12_item M 164) fun M51 => fX12_drawer_L32 164 N M51 else drT M := rfl
theorem cl_one (k : TkF T L X0 c) (N N' : Nat) {v : Int} (s : CS X0 X T L c i 1 A) (m : MS X0 Y0 Y T L z i 1 A) (v0 : 0 ≤ v) (vc : v ≤ c) : fX8_faultOf_L23 109 (N + 1) (i2 v) X = some (i2 (gI X 109 8), X) ∧ fX12_drawer_L32 164 (N' + 1) Y = drT Y := by
  have c9 := k.2.1
  have tk := MS.tok k s.2.2.2.2.1.1
  have r6 : rdI X 109 11 6 = some (i2 (c + 1)) := by rw [tp_rd s.1 6, ← s.2.2.2.1.1]; rfl
  have r8 : rdI X 109 11 8 = some (i2 (gI X 109 8)) := tp_rd s.1 8
  have g6 : ¬ i2 (c + 1) ≤ i2 v := by rw [i2_le (by omega) (by omega) (by omega) (by omega)]; omega
  have w1 := gI_b X0 147 i
  have e8 : gI X 109 8 = gI X0 147 i := by
    rcases s.2.2.2.2.2 with w | w
    · omega
    · exact w.2
  refine ⟨?_, ?_⟩
  · rw [c_allU, r6, B1_some, if_neg g6, r8, B1_some, if_pos (by rw [i2_le (by decide) (by decide) (by omega) (by omega)]; omega), B1_some]
  · rw [m_allU, m.r9, B1_some, if_neg (by decide)]
theorem cl_all (k : TkF T L X0 c) : ∀ (n N N' : Nat) (X Y : Mm) (i : Nat) (f v : Int) (A : Int → Int), n + i = c → CS X0 X T L c i f A → MS X0 Y0 Y T L z i f A → 0 ≤ v → v ≤ i → n < N → n < N' → ∃ (i' : Nat) (f' : Int) (A' : Int → Int) (X' Y' : Mm), i' ≤ c ∧ fX8_faultOf_L23 109 N (i2 v) X = some (i2 (gI X' 109 8), X') ∧ CS X0 X' T L c i' f' A' ∧ fX12_drawer_L32 164 N' Y = drT Y' ∧ MS X0 Y0 Y' T L z i' f' A' := by
  have c9 := k.2.1
  intro n
  induction n using Nat.strongRecOn with
  | _ n ih =>
    intro N N' X Y i f v A hn s m v0 vi hN hN'
    obtain ⟨N, rfl⟩ : ∃ k, N = k + 1 := ⟨N - 1, by omega⟩
    obtain ⟨N', rfl⟩ : ∃ k, N' = k + 1 := ⟨N' - 1, by omega⟩
    have ic := s.2.2.2.2.1.1
    have tk := MS.tok k ic
    have r6 : rdI X 109 11 6 = some (i2 (c + 1)) := by rw [tp_rd s.1 6, ← s.2.2.2.1.1]; rfl
    have r8 : rdI X 109 11 8 = some (i2 (gI X 109 8)) := tp_rd s.1 8
    have g6 : ¬ i2 (c + 1) ≤ i2 v := by rw [i2_le (by omega) (by omega) (by omega) (by omega)]; omega
    have q7 : rdI Y 164 15 7 = some (i2 (gI X0 147 i)) := by rw [m_rd m.1 7, ← m.2.2.2.1.1]; rfl
    have q6 : rdI Y 164 15 6 = some (i2 L) := by rw [m_rd m.1 6, ← m.2.2.1.1]; rfl
    have L9 := m.2.2.1.2.1
    have w1 := gI_b X0 147 i
    rcases s.2.2.2.2.2 with ⟨rfl, e8, -⟩ | ⟨rfl, e8⟩
    · obtain ⟨ok, g, cr⟩ := s.ok
      obtain ⟨r7, a6, a7, a8⟩ := c_tok s.1 ic c9 s.2.2.2.2.1.2
      obtain ⟨-, so⟩ := tk_at s.2.2.2.1 ic
      rw [s.e47] at so
      rcases so with ⟨i0, l0, sg⟩ | ⟨i0, l0, sg⟩
      · have cb := cls_b (T (gI X0 147 i))
        rw [sg] at a6
        obtain ⟨j, f', A', X1, Y1, ⟨j0, j1⟩, j2, j3, j4, j5, j6⟩ := cl_clause k s m
        by_cases fz : f' = 0
        · have j7 := j2 fz
          obtain ⟨i', f'', A'', X', Y', k1, k3, k4, k5, k6⟩ := ih (c - j) (by omega) N N' X1 Y1 j f' (v + 1) A' (by omega) j4 j6 (by omega) (by omega) (by omega) (by omega)
          refine ⟨i', f'', A'', X', Y', k1, ?_, k4, ?_, k6⟩
          · rw [c_allU, r6, B1_some, if_neg g6, ok, B1_some, if_neg (by decide), tp_r3 s.1, B1_some, r7, B1_some, a6, B1_some, if_neg (by rw [i2_eq (by omega) (by omega) (by decide) (by decide)]; omega), s.gkk, B1_some, j3, B1_some, i2_add]
            exact k3
          · rw [m_allU, m.r9, B1_some, if_pos rfl, q7, B1_some, q6, B1_some, if_neg (by rw [i2_le (by omega) (by omega) (by omega) (by omega)]; omega), m.gkk, B1_some, j5, B1_some]
            exact k5
        · have f1 : f' = 1 := by rcases j4.2.2.2.2.2 with w | w <;> omega
          subst f1
          obtain ⟨N, rfl⟩ : ∃ k, N = k + 1 := ⟨N - 1, by omega⟩
          obtain ⟨N', rfl⟩ : ∃ k, N' = k + 1 := ⟨N' - 1, by omega⟩
          obtain ⟨o1, o2⟩ := cl_one k N N' (v := v + 1) j4 j6 (by omega) (by omega)
          refine ⟨j, 1, A', X1, Y1, j1, ?_, j4, ?_, j6⟩
          · rw [c_allU, r6, B1_some, if_neg g6, ok, B1_some, if_neg (by decide), tp_r3 s.1, B1_some, r7, B1_some, a6, B1_some, if_neg (by rw [i2_eq (by omega) (by omega) (by decide) (by decide)]; omega), s.gkk, B1_some, j3, B1_some, i2_add]
            exact o1
          · rw [m_allU, m.r9, B1_some, if_pos rfl, q7, B1_some, q6, B1_some, if_neg (by rw [i2_le (by omega) (by omega) (by omega) (by omega)]; omega), m.gkk, B1_some, j5, B1_some]
            exact o2
      · rw [sg] at a6
        refine ⟨i, 0, A, X, Y, ic, ?_, s, ?_, m⟩
        · rw [c_allU, r6, B1_some, if_neg g6, ok, B1_some, if_neg (by decide), tp_r3 s.1, B1_some, r7, B1_some, a6, B1_some, if_pos rfl, B1_some, e8]
        · rw [m_allU, m.r9, B1_some, if_pos rfl, q7, B1_some, q6, B1_some, if_pos (by rw [i2_le (by omega) (by omega) (by omega) (by omega)]; omega)]
    · obtain ⟨o1, o2⟩ := cl_one k N N' (v := v) s m v0 (by omega)
      exact ⟨i, 1, A, X, Y, ic, o1, s, o2, m⟩
end LOOP
