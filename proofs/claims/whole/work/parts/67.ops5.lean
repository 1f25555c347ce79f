section OPS5
variable {M : Mm} {A : Int → Int}
/-- many, but for what it asks of rows, tape and trace -/
theorem c_ladders {B : Nat} (h : LayD M B) (c : CR M B A) (g : GA A) : fX0_ladders M B = some (i2 (laF A (A 0).toNat 0)) := by
  have g0 := g.1
  have k := c_ladders_L h c g (A 0).toNat FL 0 0 (by show _ < 4096; omega) (by decide) (by omega)
  rw [Int.zero_add] at k
  exact k
theorem m_ladders (h : LayM M) (g : GA A) : fX12_ladders (M.row 165 A) 164 = some (i2 (laF A (A 0).toNat 0)) := by
  have g0 := g.1
  have k := m_ladders_L (A := A) h g (A 0).toNat FL 0 0 (by show _ < 4096; omega) (by decide) (by omega)
  rw [Int.zero_add] at k
  exact k
theorem c_dabs {B : Nat} (h : LayD M B) (c : CR M B A) (g : GA A) : fX0_dabsOfAll M B = some (i2 (dbF A (A 0).toNat 0)) := by
  have g0 := g.1
  have k := c_dabs_L h c g (A 0).toNat FL 0 0 (by show _ < 4096; omega) (by decide) (by omega)
  rw [Int.zero_add] at k
  exact k
theorem m_dabs (h : LayM M) (g : GA A) : fX12_allDabs (M.row 165 A) 164 = some (i2 (dbF A (A 0).toNat 0)) := by
  have g0 := g.1
  have k := m_dabs_L (A := A) h g (A 0).toNat FL 0 0 (by show _ < 4096; omega) (by decide) (by omega)
  rw [Int.zero_add] at k
  exact k
/-- a step of the law on a row of its own: only the drawer now and the reference's rows change -/
theorem c_putI {B : Nat} {k : Nat} (h : LayD M B) (c : CR M B A) (g : GA A) (hk : (k : Int) < A 0) {j : Nat} {v : Int} {S : Int → Int} (hS : SR (uA (gI M (B + 11 + 3 * k)) j v) (gI M (B + 11 + 3 * k + 1)) (gI M (B + 11 + 3 * k + 2)) S) (gs : GS S) : ∃ M', wrI M (B + 11 + 3 * k) 10 j (i2 v) = some M' ∧ CR M' B (putA A k S) ∧ Same M M' (B + 11) (B + 35) := by
  have hl := d_lay h (k := k) (by have := g.1; omega)
  have e := st_wr (C := gI M (B + 11 + 3 * k)) (R := gI M (B + 11 + 3 * k + 1)) (W := gI M (B + 11 + 3 * k + 2)) hl j v
  rw [st_self] at e
  exact ⟨_, e, c.put g hk hS gs, (Same.st M _ _ _ _).wide (by omega) (by have := g.1; omega)⟩
end OPS5
