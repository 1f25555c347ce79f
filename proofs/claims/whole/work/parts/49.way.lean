/-! a way of the component, as it may be read -/
def WR (M : Mm) (p : Nat) (c : Int) (wt nt : Int → Int) : Prop := gk M p 13 = some () ∧ rdI M p 13 0 = some (i2 c) ∧ rdN M p 13 1 = some (p + 1) ∧ rdN M p 13 2 = some (p + 2) ∧ (0 ≤ c ∧ c ≤ 10) ∧ ∀ i : Int, 0 ≤ i → i < c → alI M (p + 1) (i2 i) = some (i2 (wt i)) ∧ alI M (p + 2) (i2 i) = some (i2 (nt i)) ∧ (0 ≤ wt i ∧ wt i ≤ 3) ∧ (1 ≤ nt i ∧ nt i ≤ 60)
def LR (M : Mm) (q : Nat) (L : Int → Int) : Prop := ∀ j : Int, 0 ≤ j → j < 8 → alI M q (i2 j) = some (i2 (L j))
/-- apart from a stocking's three cells -/
def Off (p o : Nat) : Prop := p ≠ o ∧ p ≠ o + 1 ∧ p ≠ o + 2
theorem st_rdo {M : Mm} {o p kd j : Nat} {C R W : Int → Int} (h : Off p o) : rdI (stM M o C R W) p kd j = rdI M p kd j := by
  unfold stM
  rw [rdI_row h.2.2, rdI_row h.2.1, rdI_row h.1]
theorem st_alo {M : Mm} {o p : Nat} {i : Int32} {C R W : Int → Int} (h : Off p o) : alI (stM M o C R W) p i = alI M p i := st_al p i h.1 h.2.1 h.2.2
theorem WR.st {M : Mm} {p o : Nat} {c : Int} {wt nt C R W : Int → Int} (h : WR M p c wt nt) (h0 : Off p o) (h1 : Off (p + 1) o) (h2 : Off (p + 2) o) : WR (stM M o C R W) p c wt nt := by
  obtain ⟨a, b, c1, d, e, f⟩ := h
  refine ⟨a, by rw [st_rdo h0]; exact b, c1, d, e, fun i i0 i1 => ?_⟩
  rw [st_alo h1, st_alo h2]
  exact f i i0 i1
theorem c_hasLeg {M : Mm} {p : Nat} {c : Int} {wt nt : Int → Int} (h : WR M p c wt nt) {i : Int} (h1 : -2147483648 ≤ i) (h2 : i < 2147483648) : fX10_hasLeg M p (i2 i) = some (i2 (tf (0 ≤ i ∧ i ≤ c - 1))) := by
  obtain ⟨a, b, c1, d, e, f⟩ := h
  unfold fX10_hasLeg
  simp -dsimp (disch := omega) only [↓B1_bp, ↓B2_bp, BP_some, BQ_some, ↓reduceIte, L_0, L_1, L_2, L_3, L_4, L_5, L_6, L_7, L_8, L_9, L_10, L_11, L_12, L_13, L_54, L_14, L_99, L_20, L_30, L_31, L_60, L_19, i2_add, i2_sub, i2_mul, i2_neg, Int.reduceAdd, Int.reduceSub, Int.reduceMul, Int.reduceNeg, Int.reduceLT, Int.reduceLE, Int.reduceEq, i2_le, i2_lt, i2_eq, uA_self, uA_ne, tf_0, not_true_eq_false, not_false_eq_true, b, c_isWithin, tf_bz]
section STF
variable {M : Mm} {o : Nat} {L : Int → Int}
theorem c_passWay_L (h : LayS M o) (gl : GL L) {q p : Nat} (hq : Off q o) (hL : LR M q L) {c to : Int} {wt nt : Int → Int} (hw : WR M p c wt nt) (h0 : Off p o) (h1 : Off (p + 1) o) (h2 : Off (p + 2) o) (t9 : -2147483648 ≤ to ∧ to < 2147483648) : ∀ (d N : Nat) (i : Int) (C R W S : Int → Int), d < N → 0 ≤ i → i < 2147483648 → d = (min to c - i).toNat → SR C R W S → GS S → ∃ C' R' W', fX7_passWay_L3 o p (i2 to) q N (i2 i) (stM M o C R W) = some (stM M o C' R' W') ∧ SR C' R' W' (wayS L wt nt i d S) := by
  intro d
  induction d with
  | zero =>
    intro N i C R W S hN i0 i9 hd r g
    obtain ⟨N, rfl⟩ : ∃ k, N = k + 1 := ⟨N - 1, by omega⟩
    have hl := c_hasLeg (hw.st (C := C) (R := R) (W := W) h0 h1 h2) (i := i) (by omega) i9
    simp -dsimp (disch := omega) only [fX7_passWay_L3, ↓B1_bp, ↓B2_bp, BP_some, BQ_some, ↓reduceIte, L_0, L_1, L_2, L_3, L_4, L_5, L_6, L_7, L_8, L_9, L_10, L_11, L_12, L_13, L_54, L_14, L_99, L_20, L_30, L_31, L_60, L_19, i2_add, i2_sub, i2_mul, i2_neg, Int.reduceAdd, Int.reduceSub, Int.reduceMul, Int.reduceNeg, Int.reduceLT, Int.reduceLE, Int.reduceEq, i2_le, i2_lt, i2_eq, uA_self, uA_ne, tf_0, not_true_eq_false, not_false_eq_true, gk_row, (hw.st (C := C) (R := R) (W := W) h0 h1 h2).1, hl]
    refine ⟨C, R, W, ?_, r⟩
    by_cases e1 : to ≤ i
    · rw [if_pos e1]
    · rw [if_neg e1, if_pos (by omega)]
  | succ d ih =>
    intro N i C R W S hN i0 i9 hd r g
    obtain ⟨N, rfl⟩ : ∃ k, N = k + 1 := ⟨N - 1, by omega⟩
    have hw' := hw.st (C := C) (R := R) (W := W) h0 h1 h2
    have hc := hw.2.2.2.2.1
    have hl := c_hasLeg hw' (i := i) (by omega) i9
    obtain ⟨a, b, c1, d1, e, f⟩ := hw'
    obtain ⟨f1, f2, f3, f4⟩ := f i i0 (by omega)
    obtain ⟨C1, R1, W1, e1, r1⟩ := c_passLeg h r g gl hq.1 hq.2.1 hq.2.2 hL f3.1 f3.2 f4.1 f4.2
    have k := ih N (i + 1) C1 R1 W1 _ (by omega) (by omega) (by omega) (by omega) r1 (g.leg gl)
    simp -dsimp (disch := omega) only [fX7_passWay_L3, ↓B1_bp, ↓B2_bp, BP_some, BQ_some, ↓reduceIte, L_0, L_1, L_2, L_3, L_4, L_5, L_6, L_7, L_8, L_9, L_10, L_11, L_12, L_13, L_54, L_14, L_99, L_20, L_30, L_31, L_60, L_19, i2_add, i2_sub, i2_mul, i2_neg, Int.reduceAdd, Int.reduceSub, Int.reduceMul, Int.reduceNeg, Int.reduceLT, Int.reduceLE, Int.reduceEq, i2_le, i2_lt, i2_eq, uA_self, uA_ne, tf_0, not_true_eq_false, not_false_eq_true, a, c1, d1, hl, f1, f2, gk_st h, e1]
    rw [if_neg (by omega), if_neg (by omega)]
    exact k
theorem c_passWay (h : LayS M o) (gl : GL L) {q p : Nat} (hq : Off q o) (hL : LR M q L) {c fr to : Int} {wt nt C R W S : Int → Int} (hw : WR M p c wt nt) (h0 : Off p o) (h1 : Off (p + 1) o) (h2 : Off (p + 2) o) (t9 : -2147483648 ≤ to ∧ to < 2147483648) (f0 : 0 ≤ fr) (f9 : fr < 2147483648) (r : SR C R W S) (g : GS S) : ∃ C' R' W', fX7_passWay (stM M o C R W) o p (i2 fr) (i2 to) q = some (stM M o C' R' W') ∧ SR C' R' W' (wayS L wt nt fr (min to c - fr).toNat S) := by
  unfold fX7_passWay
  exact c_passWay_L h gl hq hL hw h0 h1 h2 t9 _ FL fr C R W S (by have := hw.2.2.2.2.1; show _ < 4096; omega) f0 f9 rfl r g
end STF
