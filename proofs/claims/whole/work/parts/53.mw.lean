/-! the reference walks -/
def E13 (S S' : Int → Int) : Prop := ∀ j : Int, 0 ≤ j → j < 13 → S j = S' j
def Ex (f : (Int → Int) → Int → Int) : Prop := ∀ S S', E13 S S' → E13 (f S) (f S')
theorem Ex.comp {f g : (Int → Int) → Int → Int} (hf : Ex f) (hg : Ex g) : Ex (fun S => g (f S)) := fun S S' h => hg _ _ (hf _ _ h)
theorem Ex.it {f : (Int → Int) → Int → Int} (hf : Ex f) : ∀ n : Nat, Ex (it f n)
  | 0 => fun _ _ h => h
  | n + 1 => fun S S' h => Ex.it hf n (f S) (f S') (hf S S' h)
theorem Ex.lw : Ex lwS := fun S S' h j a b => by
  unfold lwS
  rw [h 8 (by decide) (by decide), h 9 (by decide) (by decide), h 10 (by decide) (by decide), h 11 (by decide) (by decide), h 12 (by decide) (by decide), h j a b]
theorem Ex.dry (m : Int) : Ex (dryS m) := fun S S' h j a b => by
  unfold dryS
  rw [h 8 (by decide) (by decide), h j a b]
theorem Ex.lad (L : Int → Int) (mv : Int) : Ex (ladS L mv) := fun S S' h j a b => by
  unfold ladS uA lowS higS lo1 hi1 lo0 hi0
  rw [h 0 (by decide) (by decide), h 1 (by decide) (by decide), h 6 (by decide) (by decide), h 7 (by decide) (by decide), h 8 (by decide) (by decide), h 9 (by decide) (by decide), h 10 (by decide) (by decide), h j a b]
theorem Ex.mv (L : Int → Int) (mv : Int) : Ex (mvS L mv) := fun S S' h => by
  have hl := Ex.lw S S' h
  unfold mvS
  rw [hl 6 (by decide) (by decide)]
  split
  · exact Ex.dry 1 S S' h
  · split
    · exact Ex.lad L mv _ _ hl
    · exact hl
theorem Ex.leg (L : Int → Int) (a b : Int) : Ex (legS L a b) := (Ex.mv L a).it _
theorem Ex.way (L wt nt : Int → Int) : ∀ (d : Nat) (i : Int), Ex (wayS L wt nt i d)
  | 0, _ => fun _ _ h => h
  | d + 1, i => fun S S' h => Ex.way L wt nt d (i + 1) _ _ (Ex.leg L (wt i) (nt i) S S' h)
theorem put_cg {A S S' : Int → Int} {k : Int} (h : E13 S S') : putA A k S = putA A k S' := by
  funext y
  unfold putA
  split
  · exact h _ (by omega) (by omega)
  · rfl
theorem put_comm {A S S' : Int → Int} {k q : Int} (h : k ≠ q) : putA (putA A k S) q S' = putA (putA A q S') k S := by
  funext y
  unfold putA
  by_cases h1 : 54 + 13 * q ≤ y ∧ y < 54 + 13 * q + 13
  · rw [if_pos h1, if_neg (by omega), if_pos h1]
  · rw [if_neg h1]
    split
    · rfl
    · rfl
theorem E13.tr {S S' S'' : Int → Int} (h : E13 S S') (h' : E13 S' S'') : E13 S S'' := fun j a b => (h j a b).trans (h' j a b)
theorem pw_pw {A : Int → Int} {f g : (Int → Int) → Int → Int} (ga : GA A) (hf : Ex f) (hg : Ex g) : pwA (pwA A f) g = pwA A (fun S => g (f S)) := by
  have g2 := ga.2.2.1
  have g3 := ga.2.2.2.1
  have g4 := ga.2.2.2.2.1
  have same : ∀ (A' S : Int → Int) (k : Int), E13 (stA (putA A' k S) k) S := fun A' S k j a b => st_put a b
  have other : ∀ (A' S : Int → Int) (k q : Int), q ≠ k → E13 (stA (putA A' k S) q) (stA A' q) := fun A' S k q e j a b => st_put_ne e a b
  unfold pwA
  rw [show onA (onA A f (A 2)) f (A 3) 2 = A 2 from (onA_lo (by decide)).trans (onA_lo (by decide)), show onA (onA A f (A 2)) f (A 3) 3 = A 3 from (onA_lo (by decide)).trans (onA_lo (by decide))]
  have lo : ∀ (h : (Int → Int) → Int → Int) (A' : Int → Int) (x : Int), onA A' h x 0 = A' 0 := fun h A' x => onA_lo (by decide)
  by_cases e2 : 0 ≤ A 2 ∧ A 2 < A 0 <;> by_cases e3 : 0 ≤ A 3 ∧ A 3 < A 0
  · have ne : A 2 ≠ A 3 := by omega
    have q2 : ∀ (h : (Int → Int) → Int → Int) (A' : Int → Int), A' 0 = A 0 → onA A' h (A 2) = putA A' (A 2) (h (stA A' (A 2))) := fun h A' q => by unfold onA; rw [q, if_pos e2]
    have q3 : ∀ (h : (Int → Int) → Int → Int) (A' : Int → Int), A' 0 = A 0 → onA A' h (A 3) = putA A' (A 3) (h (stA A' (A 3))) := fun h A' q => by unfold onA; rw [q, if_pos e3]
    have p0 : ∀ (A' S : Int → Int) (k : Int), 0 ≤ k → putA A' k S 0 = A' 0 := fun A' S k k0 => put_lo k0 (by decide)
    rw [q2 f A rfl, q3 f _ (p0 _ _ _ e2.1), q2 g _ ((p0 _ _ _ e3.1).trans (p0 _ _ _ e2.1)), q3 g _ ((p0 _ _ _ e2.1).trans ((p0 _ _ _ e3.1).trans (p0 _ _ _ e2.1))), q2 _ A rfl, q3 _ _ (p0 _ _ _ e2.1)]
    rw [put_comm (A := putA A (A 2) _) (Ne.symm ne), put_put, put_put]
    have x1 : E13 (stA (putA (putA A (A 2) (f (stA A (A 2)))) (A 3) (f (stA (putA A (A 2) (f (stA A (A 2)))) (A 3)))) (A 2)) (f (stA A (A 2))) := (other _ _ _ _ ne).tr (same _ _ _)
    rw [put_cg (A := A) (hg _ _ x1)]
    refine put_cg (hg _ _ ?_)
    refine (same _ _ _).tr (hf _ _ ?_)
    exact (other _ _ _ _ (Ne.symm ne)).tr (fun j a b => (other _ _ _ _ (Ne.symm ne) j a b).symm)
  · have q2 : ∀ (h : (Int → Int) → Int → Int) (A' : Int → Int), A' 0 = A 0 → onA A' h (A 2) = putA A' (A 2) (h (stA A' (A 2))) := fun h A' q => by unfold onA; rw [q, if_pos e2]
    have q3 : ∀ (h : (Int → Int) → Int → Int) (A' : Int → Int), A' 0 = A 0 → onA A' h (A 3) = A' := fun h A' q => by unfold onA; rw [q, if_neg e3]
    have p0 : ∀ (A' S : Int → Int) (k : Int), 0 ≤ k → putA A' k S 0 = A' 0 := fun A' S k k0 => put_lo k0 (by decide)
    rw [q2 f A rfl, q3 f _ (p0 _ _ _ e2.1), q2 g _ (p0 _ _ _ e2.1), q3 g _ ((p0 _ _ _ e2.1).trans (p0 _ _ _ e2.1)), q2 _ A rfl, q3 _ _ (p0 _ _ _ e2.1), put_put]
    exact put_cg (hg _ _ (same _ _ _))
  · have q2 : ∀ (h : (Int → Int) → Int → Int) (A' : Int → Int), A' 0 = A 0 → onA A' h (A 2) = A' := fun h A' q => by unfold onA; rw [q, if_neg e2]
    have q3 : ∀ (h : (Int → Int) → Int → Int) (A' : Int → Int), A' 0 = A 0 → onA A' h (A 3) = putA A' (A 3) (h (stA A' (A 3))) := fun h A' q => by unfold onA; rw [q, if_pos e3]
    have p0 : ∀ (A' S : Int → Int) (k : Int), 0 ≤ k → putA A' k S 0 = A' 0 := fun A' S k k0 => put_lo k0 (by decide)
    rw [q2 f A rfl, q3 f _ rfl, q2 g _ (p0 _ _ _ e3.1), q3 g _ (p0 _ _ _ e3.1), q2 _ A rfl, q3 _ _ rfl, put_put]
    exact put_cg (hg _ _ (same _ _ _))
  · have q2 : ∀ (h : (Int → Int) → Int → Int), onA A h (A 2) = A := fun h => by unfold onA; rw [if_neg e2]
    have q3 : ∀ (h : (Int → Int) → Int → Int), onA A h (A 3) = A := fun h => by unfold onA; rw [if_neg e3]
    rw [q2, q3, q2, q3, q2, q3]
section MOD
variable {M : Mm} {A : Int → Int}
theorem m_onMove (h : LayM M) (g : GA A) {k mv : Int} (k0 : 0 ≤ k) (k1 : k < A 0) (h0 : 0 ≤ mv) (h3 : mv ≤ 3) : fX12_moves (M.row 165 A) 164 (i2 k) (i2 mv) = some (M.row 165 (onA A (mvS (lwA A) mv) k)) := by
  have e := m_moves (A := A) h g.2.2.2.2.2.1 (g.2.2.2.2.2.2.2 k k0 k1) k0 (by have := g.1; omega) h0 h3
  rw [put_st] at e
  unfold onA
  rw [if_pos ⟨k0, k1⟩]
  exact e
theorem m_al (h : LayM M) {x : Int} (x0 : 0 ≤ x) (x8 : x < 158) : alI (M.row 165 A) 165 (i2 x) = some (i2 (A x)) := alI_row (ar_s h) x0 (by omega) (by omega)
theorem mvS_cg {L L' : Int → Int} (h : ∀ j, 0 ≤ j → j < 8 → L' j = L j) (mv : Int) : mvS L' mv = mvS L mv := funext fun S => by
  unfold mvS ladS lowS higS lo1 hi1 lo0 hi0 dnP upP
  rw [h 0 (by decide) (by decide), h 1 (by decide) (by decide)]
theorem m_allMove (h : LayM M) (g : GA A) {mv : Int} (h0 : 0 ≤ mv) (h3 : mv ≤ 3) : fX12_allMove (M.row 165 A) 164 (i2 mv) = some (M.row 165 (pwA A (mvS (lwA A) mv))) := by
  obtain ⟨N, hN⟩ := FL3
  have g0 := g.1
  have g2 := g.2.2.1
  have g3 := g.2.2.2.1
  have gl := g.2.2.2.2.2.1
  have u : ∀ (K : Nat) (v : Int32) (M : Mm), fX12_allMove_L2 164 (i2 mv) (K + 1) v M = if 2 ≤ v then some M else B1 (rdN M 164 15 0) fun a => B1 (alI M a (2 + v)) fun x => if x < 0 then fX12_allMove_L2 164 (i2 mv) K (v + 1) M else B1 (rdN M 164 15 0) fun a => B1 (alI M a (2 + v)) fun x => B1 (gk M 164 15) fun _ => B1 (fX12_moves M 164 x (i2 mv)) fun M' => fX12_allMove_L2 164 (i2 mv) K (v + 1) M' := fun _ _ _ => rfl
  have step : ∀ (A' : Int → Int) (K : Nat) (v : Int), GA A' → (v = 0 ∨ v = 1) → fX12_allMove_L2 164 (i2 mv) (K + 1) (i2 v) (M.row 165 A') = fX12_allMove_L2 164 (i2 mv) K (i2 (v + 1)) (M.row 165 (onA A' (mvS (lwA A') mv) (A' (2 + v)))) := fun A' K v g' hv => by
    have g0 := g'.1
    have g2 := g'.2.2.1
    have g3 := g'.2.2.2.1
    have ga : -1 ≤ A' (2 + v) ∧ A' (2 + v) < A' 0 := by
      rcases hv with rfl | rfl
      · exact g2
      · exact g3
    rw [u]
    by_cases e : A' (2 + v) < 0
    · have ee : onA A' (mvS (lwA A') mv) (A' (2 + v)) = A' := by unfold onA; rw [if_neg (by omega)]
      rw [ee]
      simp -dsimp (disch := omega) only [↓B1_bp, ↓B2_bp, BP_some, BQ_some, ↓reduceIte, gk_row, rdN_row, alN_row, alN__row, gk_m h, rdm0 h, rdm1 h, rdm2 h, rdm3 h, L_0, L_1, L_2, L_3, L_4, L_5, L_6, L_7, L_8, L_9, L_10, L_11, L_12, L_13, L_54, L_14, L_99, L_20, L_30, L_31, L_60, L_19, i2_add, i2_sub, i2_mul, i2_neg, Int.reduceAdd, Int.reduceSub, Int.reduceMul, Int.reduceNeg, Int.reduceLT, Int.reduceLE, Int.reduceEq, m_al h, i2_le, i2_lt, e, if_true]
      rw [if_neg (by omega)]
    · have hm := m_onMove h g' (k := A' (2 + v)) (by omega) ga.2 h0 h3
      simp -dsimp (disch := omega) only [↓B1_bp, ↓B2_bp, BP_some, BQ_some, ↓reduceIte, gk_row, rdN_row, alN_row, alN__row, gk_m h, rdm0 h, rdm1 h, rdm2 h, rdm3 h, L_0, L_1, L_2, L_3, L_4, L_5, L_6, L_7, L_8, L_9, L_10, L_11, L_12, L_13, L_54, L_14, L_99, L_20, L_30, L_31, L_60, L_19, i2_add, i2_sub, i2_mul, i2_neg, Int.reduceAdd, Int.reduceSub, Int.reduceMul, Int.reduceNeg, Int.reduceLT, Int.reduceLE, Int.reduceEq, m_al h, i2_le, i2_lt, e, if_false, hm]
      rw [if_neg (by omega)]
  have gA1 : GA (onA A (mvS (lwA A) mv) (A 2)) := g.on fun S q => q.mv gl
  unfold fX12_allMove pwA
  rw [hN, show (0 : Int32) = i2 0 from L_0, step A (N + 1 + 1) 0 g (Or.inl rfl), show (0 : Int) + 1 = 1 from rfl, show (2 : Int) + 0 = 2 from rfl, step _ (N + 1) 1 gA1 (Or.inr rfl), u, if_pos (by decide +kernel)]
  rw [show onA A (mvS (lwA A) mv) (A 2) (2 + 1) = A 3 from onA_lo (by decide), mvS_cg (L := lwA A) (L' := lwA (onA A (mvS (lwA A) mv) (A 2))) fun j _ hj => lwA_on (by omega)]
end MOD
