/-! what the component's cells become -/
section CBEC
variable {M : Mm} {A : Int → Int}
theorem gI_ne {M : Mm} {p q : Nat} (A : Int → Int) (h : q ≠ p) : gI (M.row p A) q = gI M q := gI_of (row_g_ne A h)
theorem g_wrI {M : Mm} {p kd j : Nat} {v : Int} (h : M.k p = kd) (hj : j < 100) : wrI M p kd j (i2 v) = some (M.row p (uA (gI M p) j v)) := by
  have e := row_sg (M := M) (p := p) (A := gI M p) (x := j) (v := v) (by omega) (by omega)
  rw [row_gI, i2_nat (by omega) (by omega), Int.toNat_natCast] at e
  unfold wrI
  rw [if_pos h, e]
theorem g_asI {M : Mm} {p N : Nat} {x v : Int} (h : Ar M p N) (h0 : 0 ≤ x) (h1 : x < N) (h2 : x < 2147483648) : asI M p (i2 x) (i2 v) = some (M.row p (uA (gI M p) x v)) := by
  have e := asI_row (A := gI M p) (v := v) h h0 h1 h2
  rwa [row_gI] at e
theorem g_cpI {M : Mm} {a0 a N0 N : Nat} {n : Int} (h0 : Ar M a0 N0) (h : Ar M a N) (n0 : 0 ≤ n) (n1 : n ≤ N0) (n2 : n ≤ N) (n3 : n < 2147483648) : cpI M a0 (i2 0) a (i2 0) (i2 n) = some (M.row a (mx (gI M a0) (gI M a) n)) := by
  have z : (i2 0).toNatClampNeg = 0 := i2_nat (by decide) (by decide)
  have z2 : (i2 n).toNatClampNeg = n.toNat := i2_nat (by omega) n3
  have z3 : (i2 0).toInt = 0 := i2_toInt (by decide) (by decide)
  have z4 : (i2 n).toInt = n := i2_toInt (by omega) n3
  unfold cpI
  rw [z, z2, z3, z4, if_pos ⟨h0.1, h.1, Int.le_refl _, Int.le_refl _, n0, by rw [h0.2]; omega, by rw [h.2]; omega⟩]
  have e : va_cpy (M.g a0) (M.g a) 0 0 n.toNat = rI (mx (gI M a0) (gI M a) n) := by
    funext j
    unfold va_cpy rI mx gI
    by_cases q : j < n.toNat
    · rw [if_pos (by omega), if_pos (by omega), i2_self, Int.toNat_natCast]
      congr 1
      omega
    · rw [if_neg (by omega), if_neg (by omega), i2_self, Int.toNat_natCast]
  rw [e]
  rfl
theorem st_row1 {M : Mm} {o : Nat} {C R W X : Int → Int} : (stM M o C R W).row (o + 1) X = stM M o C X W := by
  unfold stM
  rw [row_comm _ _ (by omega), row_row, row_comm _ _ (by omega)]
theorem st_row2 {M : Mm} {o : Nat} {C R W X : Int → Int} : (stM M o C R W).row (o + 2) X = stM M o C R X := by
  unfold stM
  rw [row_row]
theorem st_gIo {M : Mm} {o p : Nat} {C R W : Int → Int} (h : Off p o) : gI (stM M o C R W) p = gI M p := by
  unfold stM
  rw [gI_ne _ h.2.2, gI_ne _ h.2.1, gI_ne _ h.1]
theorem c_become {o o' : Nat} {S : Int → Int} (h : LayS M o) (h' : LayS M o') (hd : o + 3 ≤ o' ∨ o' + 3 ≤ o) (r : SRm M o' S) (g : GS S) : ∃ C' R' W', fX7_become M o o' = some (stM M o C' R' W') ∧ SR C' R' W' S := by
  have k0 : ∀ (C R W : Int → Int) (j : Nat), rdI (stM M o C R W) o' 10 j = some (i2 (gI M o' j)) := fun C R W j => by
    rw [st_rdo (by unfold Off; omega), g_rdI h'.1]
  have kb : ∀ C R W : Int → Int, ∃ C', fX7_begin (stM M o C R W) o (i2 (gI M o' 0)) (i2 (gI M o' 1)) (i2 (gI M o' 2)) (i2 (gI M o' 3)) = some (stM M o C' R W) ∧ SR C' R W (newS (gI M o' 0) (gI M o' 1) (gI M o' 2) (gI M o' 3)) ∧ (∀ j : Int, 9 ≤ j → C' j = C j) := fun C R W => c_begin h
  obtain ⟨C1, e1, r1, -⟩ := kb (gI M o) (gI M (o + 1)) (gI M (o + 2))
  have n1 : ∀ C R W : Int → Int, rdN (stM M o C R W) o' 10 9 = some (o' + 1) := fun C R W => by show rdN M o' 10 9 = _; unfold rdN; rw [if_pos h'.1]; exact h'.2.1
  have n2 : ∀ C R W : Int → Int, rdN (stM M o C R W) o' 10 10 = some (o' + 2) := fun C R W => by show rdN M o' 10 10 = _; unfold rdN; rw [if_pos h'.1]; exact h'.2.2.1
  have p1 : ∀ C R W : Int → Int, cpI (stM M o C R W) (o' + 1) (i2 0) (o + 1) (i2 0) (i2 2) = some (stM M o C (mx (gI M (o' + 1)) (gI (stM M o C R W) (o + 1)) 2) W) := fun C R W => by
    rw [g_cpI (M := stM M o C R W) (N0 := 2) (N := 2) ⟨h'.2.2.2.1, h'.2.2.2.2.1⟩ ⟨h.2.2.2.1, h.2.2.2.2.1⟩ (by decide) (by decide) (by decide) (by decide), st_row1, st_gIo (by unfold Off; omega)]
  have p2 : ∀ C R W : Int → Int, cpI (stM M o C R W) (o' + 2) (i2 0) (o + 2) (i2 0) (i2 2) = some (stM M o C R (mx (gI M (o' + 2)) (gI (stM M o C R W) (o + 2)) 2)) := fun C R W => by
    rw [g_cpI (M := stM M o C R W) (N0 := 2) (N := 2) ⟨h'.2.2.2.2.2.1, h'.2.2.2.2.2.2⟩ ⟨h.2.2.2.2.2.1, h.2.2.2.2.2.2⟩ (by decide) (by decide) (by decide) (by decide), st_row2, st_gIo (by unfold Off; omega)]
  have kk := k0 (gI M o) (gI M (o + 1)) (gI M (o + 2))
  rw [st_self] at kk
  have e1' := e1
  rw [st_self] at e1'
  have gk1 : gk M o 10 = some () := if_pos h.1
  obtain ⟨⟨a0, a1, a2, a3, a4, a5⟩, ⟨a6, a7⟩, a8, aA, aB⟩ := r
  obtain ⟨⟨b0, b1, b2, b3, b4, b5⟩, ⟨b6, b7⟩, b8, bA, bB⟩ := r1
  unfold fX7_become
  have K0 : rdI M o' 10 0 = some (i2 (gI M o' 0)) := kk 0
  have K1 : rdI M o' 10 1 = some (i2 (gI M o' 1)) := kk 1
  have K2 : rdI M o' 10 2 = some (i2 (gI M o' 2)) := kk 2
  have K3 : rdI M o' 10 3 = some (i2 (gI M o' 3)) := kk 3
  have K4 : ∀ C R W, rdI (stM M o C R W) o' 10 4 = some (i2 (gI M o' 4)) := fun C R W => k0 C R W 4
  have K5 : ∀ C R W, rdI (stM M o C R W) o' 10 5 = some (i2 (gI M o' 5)) := fun C R W => k0 C R W 5
  have K6 : ∀ C R W, rdI (stM M o C R W) o' 10 6 = some (i2 (gI M o' 6)) := fun C R W => k0 C R W 6
  have K7 : ∀ C R W, rdI (stM M o C R W) o' 10 7 = some (i2 (gI M o' 7)) := fun C R W => k0 C R W 7
  have K8 : ∀ C R W, rdI (stM M o C R W) o' 10 8 = some (i2 (gI M o' 8)) := fun C R W => k0 C R W 8
  simp -dsimp only [↓B1_bp, BP_some, K0, K1, K2, K3, gk1, e1', K4, K5, K6, K7, K8, st_wr4 h, st_wr5 h, st_wr6 h, st_wr7 h, st_wr8 h, n1, n2, st_nR h, st_nW h, L_0, L_2, p1, p2]
  refine ⟨_, _, _, rfl, ⟨?_, ?_, ?_, ?_, ?_, ?_⟩, ⟨?_, ?_⟩, ?_, fun q => ⟨?_, ?_⟩, fun q => ⟨?_, ?_⟩⟩
  all_goals simp -dsimp (disch := omega) only [uA_self, uA_ne, mx_at]
  · exact b0.trans a0
  · exact b1.trans a1
  · exact b2.trans a2
  · exact b3.trans a3
  · exact a4
  · exact a5
  · exact a6
  · exact a7
  · exact a8
  · exact (aA q).1
  · exact (aA q).2
  · exact (aB q).1
  · exact (aB q).2
end CBEC
