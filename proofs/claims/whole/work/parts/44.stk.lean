/-! A STOCKING OF THE COMPONENT: its fields C at o, its rungs R at o + 1, its wets W at o + 2 -/
def stM (M : Mm) (o : Nat) (C R W : Int → Int) : Mm := ((M.row o C).row (o + 1) R).row (o + 2) W
section STK
variable {M : Mm} {o : Nat} {C R W : Int → Int}
theorem gk_st (h : LayS M o) : gk (stM M o C R W) o 10 = some () := if_pos h.1
theorem st_rd (h : LayS M o) (j : Nat) : rdI (stM M o C R W) o 10 j = some (i2 (C j)) := by
  unfold stM
  rw [rdI_row (by omega), rdI_row (by omega)]
  unfold rdI
  rw [if_pos (show (M.row o C).k o = 10 from h.1), row_g]
  rfl
theorem st_wr (h : LayS M o) (j : Nat) (v : Int) : wrI (stM M o C R W) o 10 j (i2 v) = some (stM M o (uA C j v) R W) := by
  unfold wrI
  rw [if_pos (show (stM M o C R W).k o = 10 from h.1)]
  have e : (stM M o C R W).g = va_up (va_up (va_up M.g o (rI C)) (o + 1) (rI R)) (o + 2) (rI W) := rfl
  show some ((stM M o C R W).wg (up2 (stM M o C R W).g o j (i2 v))) = some ((stM M o C R W).wg (va_up (va_up (va_up M.g o (rI (uA C j v))) (o + 1) (rI R)) (o + 2) (rI W)))
  rw [e]
  congr 2
  funext a i
  unfold up2 va_up rI uA
  by_cases h1 : a = o + 2
  · rw [if_neg (by omega), if_pos h1, if_pos h1]
  · by_cases h2 : a = o + 1
    · rw [if_neg (by omega), if_neg h1, if_pos h2, if_neg h1, if_pos h2]
    · rw [if_neg h1, if_neg h2, if_neg h1, if_neg h2]
      by_cases h3 : a = o
      · rw [if_pos h3, if_pos h3]
        by_cases h4 : i = j
        · rw [if_pos ⟨h3, h4⟩, if_pos (by omega)]
        · rw [if_neg (by omega), if_neg (by omega)]
      · rw [if_neg (by omega), if_neg h3, if_neg h3]
theorem st_nR (h : LayS M o) : rdN (stM M o C R W) o 10 9 = some (o + 1) := by
  show rdN M o 10 9 = _
  unfold rdN
  rw [if_pos h.1]
  exact h.2.1
theorem st_nW (h : LayS M o) : rdN (stM M o C R W) o 10 10 = some (o + 2) := by
  show rdN M o 10 10 = _
  unfold rdN
  rw [if_pos h.1]
  exact h.2.2.1
theorem st_alR (h : LayS M o) {x : Int} (h0 : 0 ≤ x) (h1 : x < 2) : alI (stM M o C R W) (o + 1) (i2 x) = some (i2 (R x)) := by
  unfold stM
  rw [alI_ne (by omega)]
  exact alI_row (N := 2) ⟨h.2.2.2.1, h.2.2.2.2.1⟩ h0 (by omega) (by omega)
theorem st_alW (h : LayS M o) {x : Int} (h0 : 0 ≤ x) (h1 : x < 2) : alI (stM M o C R W) (o + 2) (i2 x) = some (i2 (W x)) :=
  alI_row (N := 2) ⟨h.2.2.2.2.2.1, h.2.2.2.2.2.2⟩ h0 (by omega) (by omega)
theorem st_asW (h : LayS M o) {x v : Int} (h0 : 0 ≤ x) (h1 : x < 2) : asI (stM M o C R W) (o + 2) (i2 x) (i2 v) = some (stM M o C R (uA W x v)) :=
  asI_row (N := 2) ⟨h.2.2.2.2.2.1, h.2.2.2.2.2.2⟩ h0 (by omega) (by omega)
theorem st_asR (h : LayS M o) {x v : Int} (h0 : 0 ≤ x) (h1 : x < 2) : asI (stM M o C R W) (o + 1) (i2 x) (i2 v) = some (stM M o C (uA R x v) W) := by
  have e : stM M o C R W = (((M.row o C).row (o + 2) W).row (o + 1) R) := row_comm _ _ (by omega)
  rw [e, asI_row (M := (M.row o C).row (o + 2) W) (N := 2) ⟨h.2.2.2.1, h.2.2.2.2.1⟩ h0 (by omega) (by omega)]
  exact congrArg some (row_comm _ _ (by omega))
theorem st_al (q : Nat) (i : Int32) (h0 : q ≠ o) (h1 : q ≠ o + 1) (h2 : q ≠ o + 2) : alI (stM M o C R W) q i = alI M q i := by
  unfold stM
  rw [alI_ne h2, alI_ne h1, alI_ne h0]
def cl (x : Int) : Int := if x < 0 then -9 else x
/-- the component's numbers stand for S -/
def SR (C R W S : Int → Int) : Prop := (C 0 = S 0 ∧ C 1 = S 1 ∧ C 2 = S 2 ∧ C 3 = S 3 ∧ C 4 = S 4 ∧ C 5 = S 5) ∧ (C 6 = cl (S 6) ∧ C 7 = cl (S 7)) ∧ C 8 = S 8 ∧ (1 ≤ S 8 → R 0 = S 9 ∧ W 0 = S 11) ∧ (2 ≤ S 8 → R 1 = S 10 ∧ W 1 = S 12)
theorem st_rd0 (h : LayS M o) : rdI (stM M o C R W) o 10 0 = some (i2 (C 0)) := st_rd h 0
theorem st_wr0 (h : LayS M o) (v : Int) : wrI (stM M o C R W) o 10 0 (i2 v) = some (stM M o (uA C 0 v) R W) := st_wr h 0 v
theorem st_rd1 (h : LayS M o) : rdI (stM M o C R W) o 10 1 = some (i2 (C 1)) := st_rd h 1
theorem st_wr1 (h : LayS M o) (v : Int) : wrI (stM M o C R W) o 10 1 (i2 v) = some (stM M o (uA C 1 v) R W) := st_wr h 1 v
theorem st_rd2 (h : LayS M o) : rdI (stM M o C R W) o 10 2 = some (i2 (C 2)) := st_rd h 2
theorem st_wr2 (h : LayS M o) (v : Int) : wrI (stM M o C R W) o 10 2 (i2 v) = some (stM M o (uA C 2 v) R W) := st_wr h 2 v
theorem st_rd3 (h : LayS M o) : rdI (stM M o C R W) o 10 3 = some (i2 (C 3)) := st_rd h 3
theorem st_wr3 (h : LayS M o) (v : Int) : wrI (stM M o C R W) o 10 3 (i2 v) = some (stM M o (uA C 3 v) R W) := st_wr h 3 v
theorem st_rd4 (h : LayS M o) : rdI (stM M o C R W) o 10 4 = some (i2 (C 4)) := st_rd h 4
theorem st_wr4 (h : LayS M o) (v : Int) : wrI (stM M o C R W) o 10 4 (i2 v) = some (stM M o (uA C 4 v) R W) := st_wr h 4 v
theorem st_rd5 (h : LayS M o) : rdI (stM M o C R W) o 10 5 = some (i2 (C 5)) := st_rd h 5
theorem st_wr5 (h : LayS M o) (v : Int) : wrI (stM M o C R W) o 10 5 (i2 v) = some (stM M o (uA C 5 v) R W) := st_wr h 5 v
theorem st_rd6 (h : LayS M o) : rdI (stM M o C R W) o 10 6 = some (i2 (C 6)) := st_rd h 6
theorem st_wr6 (h : LayS M o) (v : Int) : wrI (stM M o C R W) o 10 6 (i2 v) = some (stM M o (uA C 6 v) R W) := st_wr h 6 v
theorem st_rd7 (h : LayS M o) : rdI (stM M o C R W) o 10 7 = some (i2 (C 7)) := st_rd h 7
theorem st_wr7 (h : LayS M o) (v : Int) : wrI (stM M o C R W) o 10 7 (i2 v) = some (stM M o (uA C 7 v) R W) := st_wr h 7 v
theorem st_rd8 (h : LayS M o) : rdI (stM M o C R W) o 10 8 = some (i2 (C 8)) := st_rd h 8
theorem st_wr8 (h : LayS M o) (v : Int) : wrI (stM M o C R W) o 10 8 (i2 v) = some (stM M o (uA C 8 v) R W) := st_wr h 8 v
end STK
