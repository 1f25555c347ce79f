/-! what is seen from sides: b s is 1 if the side s counts -/
def snO (A : Int → Int) (b : Int → Int) (x f : Int) : Int := if 0 ≤ x ∧ x < A 0 ∧ b (sdS f (stA A x)) = 1 then baS (lwA A) (stA A x) else 0
def snB (A : Int → Int) (b : Int → Int) : Int := snO A b (A 2) 0 + snO A b (A 3) 1
def bt (m s : Int) : Int := m / (if s = 0 then 1 else if s = 1 then 2 else if s = 2 then 4 else 8) % 2
theorem bt_and : ∀ a : Fin 16, ∀ s : Fin 4, (((i2 (a.val : Int)) >>> ((i2 (s.val : Int)) &&& (31 : Int32))) &&& (1 : Int32)) = i2 (bt (a.val : Int) (s.val : Int)) := by decide +kernel
theorem bt_at {m s : Int} (m0 : 0 ≤ m) (m9 : m < 16) (s0 : 0 ≤ s) (s3 : s < 4) : ((i2 m >>> (i2 s &&& (31 : Int32))) &&& (1 : Int32)) = i2 (bt m s) := by
  have k := bt_and ⟨m.toNat, by omega⟩ ⟨s.toNat, by omega⟩
  rw [show ((m.toNat : Nat) : Int) = m by omega, show ((s.toNat : Nat) : Int) = s by omega] at k
  exact k
theorem bt_01 (m s : Int) : bt m s = 0 ∨ bt m s = 1 := by
  unfold bt
  omega
theorem sdS_b {S : Int → Int} (g : GS S) {f : Int} (hf : f = 0 ∨ f = 1) : 0 ≤ sdS f S ∧ sdS f S < 4 := by
  have g5 := g.2.2.2.2.2.1
  unfold sdS
  repeat' split
  all_goals omega
theorem snO_b {A : Int → Int} (g : GA A) (b : Int → Int) (x f : Int) : 0 ≤ snO A b x f ∧ snO A b x f ≤ 100 := by
  unfold snO
  split
  · rename_i h
    exact baS_b (g.2.2.2.2.2.2.2 x h.1 h.2.1)
  · omega
section SNM
variable {M : Mm} {A : Int → Int}
theorem m_sideOf (M : Mm) {S : Int → Int} (g : GS S) {f : Int} (hf : f = 0 ∨ f = 1) : fX12_sideOf M (i2 (S 5)) (i2 f) = some (i2 (sdS f S)) := by
  have g5 := g.2.2.2.2.2.1
  unfold fX12_sideOf sdS
  rcases hf with rfl | rfl
  · simp -dsimp (disch := omega) only [L_0, L_1, L_2, L_3, L_4, L_5, L_6, L_7, L_8, L_9, L_10, L_11, L_12, L_13, L_54, L_14, L_99, L_20, L_30, L_31, L_60, L_19, i2_add, i2_sub, i2_mul, i2_neg, Int.reduceAdd, Int.reduceSub, Int.reduceMul, Int.reduceNeg, Int.reduceLT, Int.reduceLE, Int.reduceEq, ↓reduceIte, i2_eq, i2_div, Int.tdiv_eq_ediv_of_nonneg]
    (repeat' split) <;> first | rfl | omega
  · simp -dsimp (disch := omega) only [L_0, L_1, L_2, L_3, L_4, L_5, L_6, L_7, L_8, L_9, L_10, L_11, L_12, L_13, L_54, L_14, L_99, L_20, L_30, L_31, L_60, L_19, i2_add, i2_sub, i2_mul, i2_neg, Int.reduceAdd, Int.reduceSub, Int.reduceMul, Int.reduceNeg, Int.reduceLT, Int.reduceLE, Int.reduceEq, ↓reduceIte, i2_eq, i2_div, Int.tdiv_eq_ediv_of_nonneg]
    (repeat' split) <;> first | rfl | omega
theorem m_seenFrom (h : LayM M) (g : GA A) {m : Int} (m0 : 0 ≤ m) (m9 : m < 16) : fX12_seenFrom (M.row 165 A) 164 (i2 m) = some (i2 (snB A (bt m))) := by
  obtain ⟨N, hN⟩ := FL3
  have g2 := g.2.2.1
  have g3 := g.2.2.2.1
  have g0 := g.1
  have step : ∀ (K : Nat) (s f : Int), (f = 0 ∨ f = 1) → fX12_seenFrom_L4 (M.row 165 A) 164 (i2 m) (K + 1) (i2 s) (i2 f) = fX12_seenFrom_L4 (M.row 165 A) 164 (i2 m) K (i2 (s + snO A (bt m) (A (2 + f)) f)) (i2 (f + 1)) := fun K s f hf => by
    have ga : -1 ≤ A (2 + f) ∧ A (2 + f) < A 0 := by
      rcases hf with rfl | rfl
      · exact g2
      · exact g3
    have hn : ¬ (2 : Int32) ≤ i2 f := by rcases hf with rfl | rfl <;> decide +kernel
    have u : fX12_seenFrom_L4 (M.row 165 A) 164 (i2 m) (K + 1) (i2 s) (i2 f) = if 2 ≤ i2 f then some (i2 s) else B1 (rdN (M.row 165 A) 164 15 0) fun a => B1 (alI (M.row 165 A) a (2 + i2 f)) fun x => if x < 0 then fX12_seenFrom_L4 (M.row 165 A) 164 (i2 m) K (i2 s + 0) (i2 f + 1) else B1 (gk (M.row 165 A) 164 15) fun _ => B1 (fX12_its (M.row 165 A) 164 x 5) fun y => B1 (fX12_sideOf (M.row 165 A) y (i2 f)) fun z => if ((i2 m >>> (z &&& 31)) &&& 1) = 1 then B1 (gk (M.row 165 A) 164 15) fun _ => B1 (fX12_bareOf (M.row 165 A) 164 x) fun q => fX12_seenFrom_L4 (M.row 165 A) 164 (i2 m) K (i2 s + q) (i2 f + 1) else fX12_seenFrom_L4 (M.row 165 A) 164 (i2 m) K (i2 s + 0) (i2 f + 1) := rfl
    rw [u, if_neg hn]
    by_cases e : A (2 + f) < 0
    · have e2 : snO A (bt m) (A (2 + f)) f = 0 := by unfold snO; rw [if_neg (by omega)]
      rw [e2]
      simp -dsimp (disch := omega) only [↓B1_bp, ↓B2_bp, BP_some, BQ_some, ↓reduceIte, gk_row, rdN_row, alN_row, alN__row, gk_m h, rdm0 h, rdm1 h, rdm2 h, rdm3 h, L_0, L_1, L_2, L_3, L_4, L_5, L_6, L_7, L_8, L_9, L_10, L_11, L_12, L_13, L_54, L_14, L_99, L_20, L_30, L_31, L_60, L_19, i2_add, i2_sub, i2_mul, i2_neg, Int.reduceAdd, Int.reduceSub, Int.reduceMul, Int.reduceNeg, Int.reduceLT, Int.reduceLE, Int.reduceEq, m_al h, i2_le, i2_lt, i2_eq, e, if_true]
    · have hg := g.2.2.2.2.2.2.2 (A (2 + f)) (by omega) ga.2
      have hs := m_sideOf (M.row 165 A) hg hf
      have hb := m_bareOf (A := A) h g (k := A (2 + f)) (by omega) ga.2
      have sb := sdS_b hg hf
      have hi := m_st (A := A) h (k := A (2 + f)) (w := 5) (by omega) (by omega) (by decide) (by decide)
      have hbt := bt_at m0 m9 sb.1 sb.2
      unfold snO
      rcases bt_01 m (sdS f (stA A (A (2 + f)))) with q | q
      · rw [q] at hbt ⊢
        rw [if_neg (fun w => absurd w.2.2 (by decide))]
        simp -dsimp (disch := omega) only [↓B1_bp, ↓B2_bp, BP_some, BQ_some, ↓reduceIte, gk_row, rdN_row, alN_row, alN__row, gk_m h, rdm0 h, rdm1 h, rdm2 h, rdm3 h, L_0, L_2, L_5, i2_add, i2_sub, i2_mul, i2_neg, Int.reduceAdd, Int.reduceSub, Int.reduceMul, Int.reduceNeg, Int.reduceLT, Int.reduceLE, Int.reduceEq, m_al h, i2_lt, e, if_false, hi, hs]
        rw [hbt, if_neg (by decide +kernel), show (1 : Int32) = i2 1 from L_1, i2_add]
      · rw [q] at hbt ⊢
        rw [if_pos ⟨by omega, ga.2, rfl⟩]
        simp -dsimp (disch := omega) only [↓B1_bp, ↓B2_bp, BP_some, BQ_some, ↓reduceIte, gk_row, rdN_row, alN_row, alN__row, gk_m h, rdm0 h, rdm1 h, rdm2 h, rdm3 h, L_0, L_2, L_5, i2_add, i2_sub, i2_mul, i2_neg, Int.reduceAdd, Int.reduceSub, Int.reduceMul, Int.reduceNeg, Int.reduceLT, Int.reduceLE, Int.reduceEq, m_al h, i2_lt, e, if_false, hi, hs]
        rw [hbt, if_pos (by decide +kernel)]
        simp -dsimp (disch := omega) only [↓B1_bp, ↓B2_bp, BP_some, BQ_some, ↓reduceIte, gk_row, rdN_row, alN_row, alN__row, gk_m h, rdm0 h, rdm1 h, rdm2 h, rdm3 h, L_0, L_1, L_2, L_3, L_4, L_5, L_6, L_7, L_8, L_9, L_10, L_11, L_12, L_13, L_54, L_14, L_99, L_20, L_30, L_31, L_60, L_19, i2_add, i2_sub, i2_mul, i2_neg, Int.reduceAdd, Int.reduceSub, Int.reduceMul, Int.reduceNeg, Int.reduceLT, Int.reduceLE, Int.reduceEq, hb]
  unfold fX12_seenFrom snB
  rw [hN, show (0 : Int32) = i2 0 from L_0, step _ 0 0 (Or.inl rfl), show (0 : Int) + 1 = 1 from rfl, step _ _ 1 (Or.inr rfl)]
  show (if (2 : Int32) ≤ i2 (1 + 1) then _ else _) = _
  rw [if_pos (by decide +kernel)]
  congr 2
  show 0 + snO A (bt m) (A 2) 0 + snO A (bt m) (A 3) 1 = _
  omega
end SNM
section SNC
variable {M : Mm} {B : Nat} {A : Int → Int}
theorem c_seenFrom (h : LayD M B) (c : CR M B A) (g : GA A) {sd : Int} (s0 : 0 ≤ sd) (s3 : sd < 4) : fX0_seenFrom M B (i2 sd) = some (i2 (snB A (fun s => if s = sd then 1 else 0))) := by
  obtain ⟨N, hN⟩ := FL3
  have g0 := g.1
  have u : ∀ (K : Nat) (s v : Int32), fX0_seenFrom_L4 M B (i2 sd) (K + 1) s v = if 2 ≤ v then some s else B1 (gk M B 3) fun _ => B1 (fX0_wornOn M B v) fun x => NL x (fX0_seenFrom_L4 M B (i2 sd) K s (v + 1)) (fun a => B1 (gk M a 10) fun _ => B1 (fX7_sideShown M a v) fun y => if y = i2 sd then B1 (rdN M B 3 0) fun q => B1 (gk M a 10) fun _ => B1 (fX7_openAboveShoe M a q) fun z => fX0_seenFrom_L4 M B (i2 sd) K (s + z) (v + 1) else fX0_seenFrom_L4 M B (i2 sd) K s (v + 1)) := fun _ _ _ => rfl
  have step : ∀ (K : Nat) (s f : Int), (f = 0 ∨ f = 1) → fX0_seenFrom_L4 M B (i2 sd) (K + 1) (i2 s) (i2 f) = fX0_seenFrom_L4 M B (i2 sd) K (i2 (s + snO A (fun s => if s = sd then 1 else 0) (A (2 + f)) f)) (i2 (f + 1)) := fun K s f hf => by
    have hn : ¬ (2 : Int32) ≤ i2 f := by rcases hf with rfl | rfl <;> decide +kernel
    have hf1 : i2 f + 1 = i2 (f + 1) := by rw [show (1 : Int32) = i2 1 from L_1, i2_add]
    rw [u, if_neg hn, d_gk h, B1_some, c_wornOn h c g hf, B1_some, hf1]
    unfold stAt snO
    by_cases e : 0 ≤ A (2 + f) ∧ A (2 + f) < A 0
    · have hk : (((A (2 + f)).toNat : Nat) : Int) = A (2 + f) := by omega
      have ho := d_openAboveShoe h c g (k := (A (2 + f)).toNat) (by omega)
      have hs := d_sideShown h c g (k := (A (2 + f)).toNat) (by omega) hf
      have gk1 := d_gk10 h (k := (A (2 + f)).toNat) (by omega)
      rw [hk] at ho hs
      have sb := sdS_b (g.2.2.2.2.2.2.2 (A (2 + f)) e.1 e.2) hf
      rw [if_pos e]
      show B1 (gk M (B + 11 + 3 * (A (2 + f)).toNat) 10) _ = _
      rw [gk1, B1_some, hs, B1_some]
      by_cases q : sdS f (stA A (A (2 + f))) = sd
      · rw [if_pos (congrArg i2 q), d_laws h, B1_some, B1_some, ho, B1_some, i2_add, if_pos ⟨e.1, e.2, if_pos q⟩]
      · have q2 : ¬ i2 (sdS f (stA A (A (2 + f)))) = i2 sd := by
          rw [i2_eq (by omega) (by omega) (by omega) (by omega)]
          exact q
        rw [if_neg q2, if_neg (fun w => absurd ((if_neg q).symm.trans w.2.2) (by decide)), Int.add_zero]
    · rw [if_neg e, if_neg (fun w => e ⟨w.1, w.2.1⟩), Int.add_zero]
      rfl
  unfold fX0_seenFrom snB
  rw [hN, show (0 : Int32) = i2 0 from L_0, step _ 0 0 (Or.inl rfl), show (0 : Int) + 1 = 1 from rfl, step _ _ 1 (Or.inr rfl), u, if_pos (by decide +kernel)]
  congr 2
  show 0 + snO A _ (A 2) 0 + snO A _ (A 3) 1 = _
  omega
end SNC
