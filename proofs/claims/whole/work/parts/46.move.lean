section STF
variable {M : Mm} {o : Nat} {C R W S L : Int → Int}
theorem lwS_idem {S : Int → Int} (g : 0 ≤ S 8 ∧ S 8 ≤ 2) : lwS (lwS S) = lwS S := by
  have k : (1 ≤ lwS S 8 → lwS S 11 = 0) ∧ (2 ≤ lwS S 8 → lwS S 12 = 0) ∧ 0 ≤ lwS S 8 ∧ lwS S 8 ≤ 2 := by
    have e8 : lwS S 8 = tf (1 ≤ S 8 ∧ S 11 = 0) + tf (2 ≤ S 8 ∧ S 12 = 0) := rfl
    have e11 : lwS S 11 = if ¬ (1 ≤ S 8 ∧ S 11 = 0) ∧ (2 ≤ S 8 ∧ S 12 = 0) then 0 else S 11 := rfl
    have e12 : lwS S 12 = S 12 := rfl
    rw [e8, e11, e12]
    unfold tf
    (repeat' split) <;> refine ⟨?_, ?_, ?_, ?_⟩ <;> omega
  generalize lwS S = T at k
  obtain ⟨k1, k2, k3, k4⟩ := k
  funext j
  unfold lwS tf
  by_cases j8 : j = 8
  · rw [if_pos j8, j8]
    (repeat' split) <;> omega
  · rw [if_neg j8]
    by_cases j9 : j = 9
    · rw [if_pos j9, if_neg (by omega), j9]
    · rw [if_neg j9]
      by_cases j11 : j = 11
      · rw [if_pos j11, if_neg (by omega), j11]
      · rw [if_neg j11]
/-- one more of the same move, where nothing ran, changes nothing -/
theorem mvS_stop {L S : Int → Int} {mv : Int} (g : GS S) (h3 : mv ≠ 3) (e : ¬ 0 ≤ lwS S 6 ∨ (lowS L mv (lwS S) = lwS S 6 ∧ higS L mv (lwS S) = lwS S 7)) : mvS L mv (mvS L mv S) = mvS L mv S := by
  have e1 : mvS L mv S = lwS S := by
    unfold mvS
    rw [if_neg h3]
    split
    · rename_i q
      rcases e with e | ⟨e, e'⟩
      · exact absurd q e
      · unfold ladS
        rw [e, e']
        funext j
        unfold uA
        split
        · rename_i q; rw [q]
        · split
          · rename_i q; rw [q]
          · rfl
    · rfl
  rw [e1]
  have e2 : mvS L mv (lwS S) = mvS L mv S := by
    unfold mvS
    rw [lwS_idem g.2.2.2.2.2.2.2.1, if_neg h3, if_neg h3]
  rw [e2, e1]
end STF
