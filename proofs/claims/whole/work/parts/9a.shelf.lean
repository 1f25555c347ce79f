section SHELF
variable {M : Mm} {A : Int → Int}
theorem gI_sr (M : Mm) (a j : Nat) (v : Option Nat) (p : Nat) : gI (M.sr a j v) p = gI M p := rfl
theorem alQ_row (M : Mm) (p : Nat) (A : Int → Int) (a kd : Nat) (i : Int32) : alQ (M.row p A) a kd i = alQ M a kd i := rfl
def ShP (p : Nat) : Prop := p = 161 ∨ p = 175 ∨ p = 176 ∨ p = 177
def ShQ (p : Nat) : Prop := p = 162
def NoP (_ : Nat) : Prop := False
/-- one shelf is laid anew, on both sides -/
def shC (M : Mm) (x : Nat) (a : Int) (v : Option Nat) : Mm := (M.row 161 (uA (gI M 161) x a)).sr 162 x v
def shM (N : Mm) (x : Nat) (w m z : Int) : Mm := ((N.row 175 (uA (gI N 175) x w)).row 176 (uA (gI N 176) x m)).row 177 (uA (gI N 177) x z)
theorem shelf_inv {x : Nat} {a w m z : Int} {v : Option Nat} (hi : Inv M) (hx : x < 4) (ab : -2147483648 ≤ a ∧ a < 2147483648) (wb : -2147483648 ≤ w ∧ w < 2147483648) (mb : -2147483648 ≤ m ∧ m < 2147483648) (zb : -2147483648 ≤ z ∧ z < 2147483648) (cond : (w = 0 ∧ v = none ∧ a = m) ∨ (w = 1 ∧ a = -1 ∧ ∃ o, v = some o ∧ SO M o m z) ∨ (w = 2 ∧ v = none ∧ a = -1)) : Inv (shM (shC M x a v) x w m z) := by
  have rw1 : ∀ (N : Mm) (p : Nat) (U : Int → Int), ShP p → Nx ShP ShQ NoP N (N.row p U) := fun N p U hp => Nx.of (SmP.row N U hp)
  have nx1 : Nx ShP ShQ NoP M (shC M x a v) := (rw1 M 161 _ (Or.inl rfl)).tr (Nx.sr _ v (show ShQ 162 from rfl))
  have nx2 : Nx ShP ShQ NoP (shC M x a v) (shM (shC M x a v) x w m z) := ((rw1 _ 175 _ (Or.inr (Or.inl rfl))).tr (rw1 _ 176 _ (Or.inr (Or.inr (Or.inl rfl))))).tr (rw1 _ 177 _ (Or.inr (Or.inr (Or.inr rfl))))
  have nx := nx1.tr nx2
  have e : ∀ p, p ≠ 161 → p ≠ 175 → p ≠ 176 → p ≠ 177 → gI (shM (shC M x a v) x w m z) p = gI M p := fun p h1 h2 h3 h4 => by
    unfold shM shC
    rw [gI_ne _ h4, gI_ne _ h3, gI_ne _ h2, gI_sr, gI_ne _ h1]
  have e161 : gI (shM (shC M x a v) x w m z) 161 = gI (M.row 161 (uA (gI M 161) x a)) 161 := by
    unfold shM shC
    rw [gI_ne _ (by decide), gI_ne _ (by decide), gI_ne _ (by decide), gI_sr]
  have q : ∀ p, p ≠ 161 → gI (shC M x a v) p = gI M p := fun p h1 => by
    unfold shC
    rw [gI_sr, gI_ne _ h1]
  have f161 : ∀ s : Nat, gI (shM (shC M x a v) x w m z) 161 s = if s = x then a else gI M 161 s := fun s => by
    rw [e161]
    by_cases h : s = x
    · subst h
      rw [if_pos rfl, gI_u (by omega) ab.1 ab.2]
    · rw [if_neg h, gI_u_ne (by omega) (by omega)]
  have f175 : ∀ s : Nat, gI (shM (shC M x a v) x w m z) 175 s = if s = x then w else gI M 175 s := fun s => by
    unfold shM
    rw [gI_ne _ (by decide), gI_ne _ (by decide)]
    by_cases h : s = x
    · subst h
      rw [if_pos rfl, gI_u (by omega) wb.1 wb.2]
    · rw [if_neg h, gI_u_ne (by omega) (by omega), q 175 (by decide)]
  have f176 : ∀ s : Nat, gI (shM (shC M x a v) x w m z) 176 s = if s = x then m else gI M 176 s := fun s => by
    have nb := gI_b (shC M x a v) 176 s
    unfold shM
    rw [gI_ne _ (by decide)]
    by_cases h : s = x
    · subst h
      rw [if_pos rfl, gI_at (by omega) (by rw [uA_self]; exact mb.1) (by rw [uA_self]; exact mb.2), uA_self]
    · rw [if_neg h, gI_at (by omega) (by rw [uA_ne (by omega)]; exact nb.1) (by rw [uA_ne (by omega)]; exact nb.2), uA_ne (by omega), q 176 (by decide)]
  have f177 : ∀ s : Nat, gI (shM (shC M x a v) x w m z) 177 s = if s = x then z else gI M 177 s := fun s => by
    have nb := gI_b (shC M x a v) 177 s
    unfold shM
    by_cases h : s = x
    · subst h
      rw [if_pos rfl, gI_at (by omega) (by rw [uA_self]; exact zb.1) (by rw [uA_self]; exact zb.2), uA_self]
    · rw [if_neg h, gI_at (by omega) (by rw [uA_ne (by omega)]; exact nb.1) (by rw [uA_ne (by omega)]; exact nb.2), uA_ne (by omega), q 177 (by decide)]
  have r162 : ∀ s : Nat, (shM (shC M x a v) x w m z).r 162 s = if s = x then v else M.r 162 s := fun s => by
    show (if 162 = 162 ∧ s = x then v else M.r 162 s) = _
    by_cases h : s = x
    · rw [if_pos ⟨rfl, h⟩, if_pos h]
    · rw [if_neg (fun z => h z.2), if_neg h]
  obtain ⟨k1, k2, k3, k4, k5, k6⟩ := hi.2
  have so : ∀ {o : Nat} {s n : Int}, SO M o s n → SO (shM (shC M x a v) x w m z) o s n := fun {o s n} h => h.nx nx (by have := h.1.1; unfold ShP; omega) (by have := h.1.1; unfold ShQ; omega)
  refine Inv.nx hi (nx.mono (fun p hp => by unfold ShP at hp; unfold Sx; omega) (fun p hp => by unfold ShQ at hp; unfold Rq; omega) (fun _ z => trivial)) (by rw [e 164 (by decide) (by decide) (by decide) (by decide)]) (by rw [e 164 (by decide) (by decide) (by decide) (by decide)]) (by rw [e 164 (by decide) (by decide) (by decide) (by decide)]) ?_ ?_ ?_
  · intro s hs
    rw [e 172 (by decide) (by decide) (by decide) (by decide), e 173 (by decide) (by decide) (by decide) (by decide)]
    have r160 : (shM (shC M x a v) x w m z).r 160 = M.r 160 := nx.2.2.2.1 160 (by have := hi.1; obtain ⟨A, b1, b2, b3, -⟩ := this; omega) (by unfold ShQ; omega)
    rw [r160]
    exact (k4 s hs).imp id fun ⟨o, w1, w2, w3, w4, w5⟩ => ⟨o, w1, so w2, w3, w4, w5⟩
  · intro s hs
    rw [f161, f175, f176, f177, r162]
    by_cases h : s = x
    · rw [if_pos h, if_pos h, if_pos h, if_pos h, if_pos h]
      exact cond.imp id fun y => y.imp (fun ⟨u1, u2, o, u3, u4⟩ => ⟨u1, u2, o, u3, so u4⟩) id
    · rw [if_neg h, if_neg h, if_neg h, if_neg h, if_neg h]
      exact (k5 s hs).imp id fun y => y.imp (fun ⟨u1, u2, o, u3, u4⟩ => ⟨u1, u2, o, u3, so u4⟩) id
  · have n9 : 179 ≤ M.n := by obtain ⟨A, b1, b2, b3, -⟩ := hi.1; exact b3
    have r163 : (shM (shC M x a v) x w m z).r 163 = M.r 163 := nx.2.2.2.1 163 (by omega) (by unfold ShQ; omega)
    unfold NI at k6 ⊢
    rw [e 163 (by decide) (by decide) (by decide) (by decide), e 164 (by decide) (by decide) (by decide) (by decide), e 178 (by decide) (by decide) (by decide) (by decide), r163]
    refine ⟨k6.1, k6.2.1, k6.2.2.imp id fun ⟨o, u1, u2, u3, u4, u5, u6, u7⟩ => ⟨o, u1, u2, u3, u4, u5, u6, ?_⟩⟩
    rw [e o (by omega) (by omega) (by omega) (by omega)]
    intro i hi'
    have ro : (shM (shC M x a v) x w m z).r o = M.r o := nx.2.2.2.1 o u3 (by unfold ShQ; omega)
    rw [ro]
    exact u7 i hi'
theorem shC_c (h : LayC M) {x : Int} (x0 : 0 ≤ x) (x3 : x ≤ 3) (a : Int) {v : Option Nat} (hv : ∀ o, v = some o → M.k o = 9) : asI M 161 (i2 x) (i2 a) = some (M.row 161 (uA (gI M 161) x a)) ∧ asR (M.row 161 (uA (gI M 161) x a)) 162 25 (i2 x) 9 v = some (shC M x.toNat a v) := by
  have hx : ((x.toNat : Nat) : Int) = x := by omega
  refine ⟨g_asI (ar_61 h) x0 (by omega) (by omega), ?_⟩
  have q := w25 (M := M.row 161 (uA (gI M 161) x a)) (p := 162) h.2.2.2.2.2.2.2.2.2.2.2.2.2.1 x0 x3 (v := v) hv
  unfold shC
  rw [hx]
  exact q
theorem shM_m {N : Mm} (h : LayM N) {x : Int} (x0 : 0 ≤ x) (x3 : x ≤ 3) (w m z : Int) : asI N 175 (i2 x) (i2 w) = some (N.row 175 (uA (gI N 175) x w)) ∧ asI (N.row 175 (uA (gI N 175) x w)) 176 (i2 x) (i2 m) = some ((N.row 175 (uA (gI N 175) x w)).row 176 (uA (gI N 176) x m)) ∧ asI ((N.row 175 (uA (gI N 175) x w)).row 176 (uA (gI N 176) x m)) 177 (i2 x) (i2 z) = some (shM N x.toNat w m z) := by
  have hx : ((x.toNat : Nat) : Int) = x := by omega
  have h1 : LayM (N.row 175 (uA (gI N 175) x w)) := h.same (Same.row N 175 _)
  have h2 : LayM ((N.row 175 (uA (gI N 175) x w)).row 176 (uA (gI N 176) x m)) := h1.same (Same.row _ 176 _)
  refine ⟨g_asI (ar_75 h) x0 (by omega) (by omega), ?_, ?_⟩
  · rw [g_asI (ar_76 h1) x0 (by omega) (by omega), gI_ne _ (by decide)]
  · rw [g_asI (ar_77 h2) x0 (by omega) (by omega), gI_ne _ (by decide), gI_ne _ (by decide)]
    unfold shM
    rw [hx]
theorem shC_m (hm : LayM M) (n9 : 179 ≤ M.n) (x : Nat) (a : Int) (v : Option Nat) : LayM (shC M x a v) := by
  have n1 : Nx ShP ShQ NoP M (M.row 161 (uA (gI M 161) x a)) := Nx.of (SmP.row M _ (Or.inl rfl))
  have nx : Nx ShP ShQ NoP M (shC M x a v) := n1.tr (Nx.sr _ v (show ShQ 162 from rfl))
  exact hm.nx (fun p hp => nx.2.1 p (by omega)) fun p hp hq => nx.2.2.2.1 p (by omega) (by unfold Rq at hq; unfold ShQ; omega)
theorem shC_165 (n9 : 179 ≤ M.n) (x : Nat) (a : Int) (v : Option Nat) : (shC M x a v).g 165 = M.g 165 := by
  have n1 : Nx ShP ShQ NoP M (M.row 161 (uA (gI M 161) x a)) := Nx.of (SmP.row M _ (Or.inl rfl))
  have nx : Nx ShP ShQ NoP M (shC M x a v) := n1.tr (Nx.sr _ v (show ShQ 162 from rfl))
  exact nx.2.2.1 165 (by omega) (by unfold ShP; omega)
theorem m_shelf2 {N : Mm} (h : LayM N) {x z : Int} (e : 0 ≤ x ∧ x ≤ 3) : fX12_shelf N 164 (i2 x) (i2 2) (i2 z) = some (i2 1, shM N x.toNat 2 z 0) := by
  obtain ⟨m1, m2, m3⟩ := shM_m h e.1 e.2 2 z 0
  have q2' := m_isFour N (x := x) (by omega) (by omega)
  rw [tf_t e] at q2'
  have r16 := m_r16 h
  have r17 := m_r17 h
  have r18 := m_r18 h
  generalize shM N x.toNat 2 z 0 = K at m3 ⊢
  unfold fX12_shelf
  rw [if_neg (by decide +kernel), if_neg (by decide +kernel), if_pos (by decide +kernel), q2', B1_some, if_neg (by decide +kernel), if_neg (by decide +kernel), r16, B1_some, m1, B1_some, rdN_row, r17, B1_some, m2, B1_some, rdN_row, rdN_row, r18, B1_some, L_0, m3, B1_some, L_1]
theorem m_shelf0 {N : Mm} (h : LayM N) {x z : Int} (e : 0 ≤ x ∧ x ≤ 3) (a1 : fX12_isOne N 164 (i2 z) = some (i2 1)) : fX12_shelf N 164 (i2 x) (i2 0) (i2 z) = some (i2 1, shM N x.toNat 0 z 0) := by
  obtain ⟨m1, m2, m3⟩ := shM_m h e.1 e.2 0 z 0
  have q2' := m_isFour N (x := x) (by omega) (by omega)
  rw [tf_t e] at q2'
  have r16 := m_r16 h
  have r17 := m_r17 h
  have r18 := m_r18 h
  have gk0 := gk_m h
  generalize shM N x.toNat 0 z 0 = K at m3 ⊢
  unfold fX12_shelf
  rw [if_pos (by decide +kernel), gk0, B1_some, a1, B1_some, q2', B1_some, if_neg (by decide +kernel), if_neg (by decide +kernel), if_neg (by decide +kernel), r16, B1_some, m1, B1_some, rdN_row, r17, B1_some, m2, B1_some, rdN_row, rdN_row, r18, B1_some, show (0 : Int32) = i2 0 from L_0, m3, B1_some, L_1]
theorem m_shelf1 {N : Mm} (h : LayM N) {x z w s n : Int} (e : 0 ≤ x ∧ x ≤ 3) (e3 : 0 ≤ z ∧ z ≤ 3) (hs : gI N 172 z = s) (hn : gI N 173 z = n) (sb : -2147483648 ≤ s ∧ s < 2147483648) (hw : (w = 1 ∧ 0 ≤ s) ∨ (w = 2 ∧ ¬ 0 ≤ s)) : fX12_shelf N 164 (i2 x) (i2 1) (i2 z) = some (i2 1, shM N x.toNat w s n) := by
  obtain ⟨m1, m2, m3⟩ := shM_m h e.1 e.2 w s n
  have q2' := m_isFour N (x := x) (by omega) (by omega)
  rw [tf_t e] at q2'
  have a2' := m_isFour N (x := z) (by omega) (by omega)
  rw [tf_t e3] at a2'
  have r16 := m_r16 h
  have r17 := m_r17 h
  have r18 := m_r18 h
  have r13 := m_r13 h
  have r14 := m_r14 h
  have l72 := g_alI (ar_so h) (x := z) e3.1 (by omega) (by omega)
  have l73 := g_alI (ar_si h) (x := z) e3.1 (by omega) (by omega)
  rw [hs] at l72
  rw [hn] at l73
  have c0 := i2_le (a := 0) (b := s) (by decide) (by decide) sb.1 sb.2
  generalize shM N x.toNat w s n = K at m3 ⊢
  unfold fX12_shelf
  rcases hw with ⟨w1, p⟩ | ⟨w1, p⟩
  · rw [w1] at m1 m2 m3
    rw [if_neg (by decide +kernel), if_pos (by decide +kernel), a2', B1_some, q2', B1_some, if_neg (by decide +kernel), if_neg (by decide +kernel), if_pos (by decide +kernel), r16, B1_some, r13, B1_some, l72, B1_some, show (0 : Int32) = i2 0 from L_0, if_pos (by rw [c0]; exact p), m1, B1_some, rdN_row, r17, B1_some, rdN_row, r13, B1_some, alI_ne (by decide), l72, B1_some, m2, B1_some, rdN_row, rdN_row, r18, B1_some, rdN_row, rdN_row, r14, B1_some, alI_ne (by decide), alI_ne (by decide), l73, B1_some, m3, B1_some, L_1]
  · rw [w1] at m1 m2 m3
    rw [if_neg (by decide +kernel), if_pos (by decide +kernel), a2', B1_some, q2', B1_some, if_neg (by decide +kernel), if_neg (by decide +kernel), if_pos (by decide +kernel), r16, B1_some, r13, B1_some, l72, B1_some, show (0 : Int32) = i2 0 from L_0, if_neg (by rw [c0]; exact p), show (2 : Int32) = i2 2 from L_2, m1, B1_some, rdN_row, r17, B1_some, rdN_row, r13, B1_some, alI_ne (by decide), l72, B1_some, m2, B1_some, rdN_row, rdN_row, r18, B1_some, rdN_row, rdN_row, r14, B1_some, alI_ne (by decide), alI_ne (by decide), l73, B1_some, m3, B1_some, L_1]
theorem op_shelf (h : LayC M) (hm : LayM M) (c : CR M 1 A) (g : GA A) (ha : M.g 165 = rI A) {x y z : Int} (x0 : -2147483648 ≤ x) (x1 : x < 2147483648) (y0 : -2147483648 ≤ y) (y1 : y < 2147483648) (z0 : -2147483648 ≤ z) (z1 : z < 2147483648) (hi : Inv M) : Op M (fun M => fX11_shelf M 0 (i2 x) (i2 y) (i2 z)) (fun M => fX12_shelf M 164 (i2 x) (i2 y) (i2 z)) := by
  have g0 := g.1
  have n9 : 179 ≤ M.n := by obtain ⟨A, b1, b2, b3, -⟩ := hi.1; exact b3
  have si := hi.2.2.2.2.1
  have q1 := c_isShelf M x0 x1
  have q2 := m_isFour M x0 x1
  have a1 := m_isOne (A := A) hm g z0 z1
  rw [← row_of ha] at a1
  have a2 := m_isFour M z0 z1
  have nf : fX12_shelf M 164 (i2 x) (i2 y) (i2 z) = some (i2 (-1), M) ∨ (0 ≤ x ∧ x ≤ 3) := by
    by_cases e : 0 ≤ x ∧ x ≤ 3
    · exact Or.inr e
    · rw [tf_f e] at q2
      refine Or.inl ?_
      unfold fX12_shelf
      by_cases y0 : y = 0
      · subst y0
        simp -dsimp (disch := omega) only [↓B1_bp, ↓B2_bp, BP_some, BQ_some, ↓reduceIte, L_0, L_1, L_2, L_3, L_4, L_5, L_6, L_7, L_8, L_9, L_10, L_11, L_12, L_13, L_54, L_14, L_99, L_20, L_30, L_31, L_60, L_19, i2_add, i2_sub, i2_mul, i2_neg, Int.reduceAdd, Int.reduceSub, Int.reduceMul, Int.reduceNeg, Int.reduceLT, Int.reduceLE, Int.reduceEq, i2_le, i2_lt, i2_eq, uA_self, uA_ne, tf_0, not_true_eq_false, not_false_eq_true, gk_m hm, a1, q2]
      · by_cases y1 : y = 1
        · subst y1
          simp -dsimp (disch := omega) only [↓B1_bp, ↓B2_bp, BP_some, BQ_some, ↓reduceIte, L_0, L_1, L_2, L_3, L_4, L_5, L_6, L_7, L_8, L_9, L_10, L_11, L_12, L_13, L_54, L_14, L_99, L_20, L_30, L_31, L_60, L_19, i2_add, i2_sub, i2_mul, i2_neg, Int.reduceAdd, Int.reduceSub, Int.reduceMul, Int.reduceNeg, Int.reduceLT, Int.reduceLE, Int.reduceEq, i2_le, i2_lt, i2_eq, uA_self, uA_ne, tf_0, not_true_eq_false, not_false_eq_true, gk_m hm, a2, q2]
        · by_cases y2 : y = 2
          · subst y2
            simp -dsimp (disch := omega) only [↓B1_bp, ↓B2_bp, BP_some, BQ_some, ↓reduceIte, L_0, L_1, L_2, L_3, L_4, L_5, L_6, L_7, L_8, L_9, L_10, L_11, L_12, L_13, L_54, L_14, L_99, L_20, L_30, L_31, L_60, L_19, i2_add, i2_sub, i2_mul, i2_neg, Int.reduceAdd, Int.reduceSub, Int.reduceMul, Int.reduceNeg, Int.reduceLT, Int.reduceLE, Int.reduceEq, i2_le, i2_lt, i2_eq, uA_self, uA_ne, tf_0, not_true_eq_false, not_false_eq_true, q2]
          · simp -dsimp (disch := omega) only [↓B1_bp, ↓B2_bp, BP_some, BQ_some, ↓reduceIte, L_0, L_1, L_2, L_3, L_4, L_5, L_6, L_7, L_8, L_9, L_10, L_11, L_12, L_13, L_54, L_14, L_99, L_20, L_30, L_31, L_60, L_19, i2_add, i2_sub, i2_mul, i2_neg, Int.reduceAdd, Int.reduceSub, Int.reduceMul, Int.reduceNeg, Int.reduceLT, Int.reduceLE, Int.reduceEq, i2_le, i2_lt, i2_eq, uA_self, uA_ne, tf_0, not_true_eq_false, not_false_eq_true, y0, y1, y2, if_false, q2]
  by_cases e : 0 ≤ x ∧ x ≤ 3
  · have hx : x.toNat < 4 := by omega
    rw [tf_t e] at q1 q2
    by_cases e2 : 0 ≤ y ∧ y ≤ 2
    · have te2 : tf (0 ≤ y ∧ y ≤ 2) = 1 := tf_t e2
      have yy : y = 0 ∨ y = 1 ∨ y = 2 := by omega
      rcases yy with rfl | rfl | rfl
      · have q3 := c_stockingAt (t_d1 h) c g z0 z1
        by_cases e3 : 0 ≤ z ∧ z < A 0
        · have e4 : 0 ≤ z ∧ z ≤ A 0 - 1 := by omega
          rw [show stAt A 1 z = some (1 + 11 + 3 * z.toNat) from if_pos e3] at q3
          rw [tf_t e4] at a1
          obtain ⟨c1, c2⟩ := shC_c (M := M) h e.1 e.2 z (v := none) (fun o w => absurd w (by simp))
          have hmN := shC_m hm n9 x.toNat z none
          obtain ⟨m1, m2, m3⟩ := shM_m hmN e.1 e.2 0 z 0
          have a1' : fX12_isOne (shC M x.toNat z none) 164 (i2 z) = some (i2 1) := by
            have gE : (shC M x.toNat z none).g 165 = rI A := by
              exact (shC_165 n9 _ _ _).trans ha
            have k := m_isOne (A := A) hmN g z0 z1
            rw [← row_of gE, tf_t e4] at k
            exact k
          have q2' := m_isFour (shC M x.toNat z none) x0 x1
          rw [tf_t e] at q2'
          refine ⟨i2 1, shC M x.toNat z none, shM (shC M x.toNat z none) x.toNat 0 z 0, ?_, ?_, shelf_inv hi hx ⟨z0, z1⟩ (by decide) ⟨z0, z1⟩ (by decide) (Or.inl ⟨rfl, rfl, rfl⟩)⟩
          · show fX11_shelf M 0 (i2 x) (i2 0) (i2 z) = _
            unfold fX11_shelf
            simp -dsimp (disch := omega) only [↓B1_bp, ↓B2_bp, BP_some, BQ_some, ↓reduceIte, L_0, L_1, L_2, L_3, L_4, L_5, L_6, L_7, L_8, L_9, L_10, L_11, L_12, L_13, L_54, L_14, L_99, L_20, L_30, L_31, L_60, L_19, i2_add, i2_sub, i2_mul, i2_neg, Int.reduceAdd, Int.reduceSub, Int.reduceMul, Int.reduceNeg, Int.reduceLT, Int.reduceLE, Int.reduceEq, i2_le, i2_lt, i2_eq, uA_self, uA_ne, tf_0, not_true_eq_false, not_false_eq_true, L_15, L_40, L_100, L_101, L_200, L_999, ↓NL_bp, BNP_none, BNP_some, and_self, if_true, if_false, and_true, true_and, and_false, false_and, t_now h, d_gk (t_d1 h), q1, c_isWithin, te2, q3, t_ss h, c1, rdN_row, t_sr h, c2]
          · exact m_shelf0 hmN e a1'
        · have e4 : ¬ (0 ≤ z ∧ z ≤ A 0 - 1) := by omega
          rw [show stAt A 1 z = none from if_neg e3] at q3
          rw [tf_f e4] at a1
          refine ⟨i2 (-1), M, M, ?_, ?_, hi⟩
          · show fX11_shelf M 0 (i2 x) (i2 0) (i2 z) = _
            unfold fX11_shelf
            simp -dsimp (disch := omega) only [↓B1_bp, ↓B2_bp, BP_some, BQ_some, ↓reduceIte, L_0, L_1, L_2, L_3, L_4, L_5, L_6, L_7, L_8, L_9, L_10, L_11, L_12, L_13, L_54, L_14, L_99, L_20, L_30, L_31, L_60, L_19, i2_add, i2_sub, i2_mul, i2_neg, Int.reduceAdd, Int.reduceSub, Int.reduceMul, Int.reduceNeg, Int.reduceLT, Int.reduceLE, Int.reduceEq, i2_le, i2_lt, i2_eq, uA_self, uA_ne, tf_0, not_true_eq_false, not_false_eq_true, L_15, L_40, L_100, L_101, L_200, L_999, ↓NL_bp, BNP_none, BNP_some, and_self, if_true, if_false, and_true, true_and, and_false, false_and, t_now h, d_gk (t_d1 h), q1, c_isWithin, te2, q3]
          · show fX12_shelf M 164 (i2 x) (i2 0) (i2 z) = _
            unfold fX12_shelf
            simp -dsimp (disch := omega) only [↓B1_bp, ↓B2_bp, BP_some, BQ_some, ↓reduceIte, L_0, L_1, L_2, L_3, L_4, L_5, L_6, L_7, L_8, L_9, L_10, L_11, L_12, L_13, L_54, L_14, L_99, L_20, L_30, L_31, L_60, L_19, i2_add, i2_sub, i2_mul, i2_neg, Int.reduceAdd, Int.reduceSub, Int.reduceMul, Int.reduceNeg, Int.reduceLT, Int.reduceLE, Int.reduceEq, i2_le, i2_lt, i2_eq, uA_self, uA_ne, tf_0, not_true_eq_false, not_false_eq_true, gk_m hm, a1, q2]
      · have q3 := c_isSheet M z0 z1
        by_cases e3 : 0 ≤ z ∧ z ≤ 3
        · have hz : ((z.toNat : Nat) : Int) = z := by omega
          rw [tf_t e3] at q3 a2
          have q160' := q160 h e3.1 e3.2
          have b72 := gI_b M 172 z
          have b73 := gI_b M 173 z
          -- which way the shelf is laid
          have cs : ∃ w : Int, (w = 1 ∨ w = 2) ∧ (w = 1 ↔ 0 ≤ gI M 172 z) ∧ (∀ o, M.r 160 z.toNat = some o → M.k o = 9) ∧ ((w = 0 ∧ M.r 160 z.toNat = none ∧ (-1 : Int) = gI M 172 z) ∨ (w = 1 ∧ (-1 : Int) = -1 ∧ ∃ o, M.r 160 z.toNat = some o ∧ SO M o (gI M 172 z) (gI M 173 z)) ∨ (w = 2 ∧ M.r 160 z.toNat = none ∧ (-1 : Int) = -1)) := by
            rcases si z.toNat (by omega) with ⟨r1, r2⟩ | ⟨o, r1, r2, r3, r4, r5⟩
            · rw [hz] at r2
              exact ⟨2, Or.inr rfl, ⟨fun w => absurd w (by decide), fun w => by omega⟩, (fun o w => absurd (r1.symm.trans w) (by simp)), Or.inr (Or.inr ⟨rfl, r1, rfl⟩)⟩
            · rw [hz] at r2 r3
              refine ⟨1, Or.inl rfl, ⟨fun _ => r3.1, fun _ => rfl⟩, fun o' w => ?_, Or.inr (Or.inl ⟨rfl, rfl, o, r1, r2⟩)⟩
              rw [r1] at w
              cases w
              exact r2.2.1
          obtain ⟨w, w12, wi, hv, cond⟩ := cs
          obtain ⟨c1, c2⟩ := shC_c (M := M) h e.1 e.2 (-1) (v := M.r 160 z.toNat) hv
          have hmN := shC_m hm n9 x.toNat (-1) (M.r 160 z.toNat)
          obtain ⟨m1, m2, m3⟩ := shM_m hmN e.1 e.2 w (gI M 172 z) (gI M 173 z)
          have q2' := m_isFour (shC M x.toNat (-1) (M.r 160 z.toNat)) x0 x1
          rw [tf_t e] at q2'
          have a2' := m_isFour (shC M x.toNat (-1) (M.r 160 z.toNat)) z0 z1
          rw [tf_t e3] at a2'
          have g72 : gI (shC M x.toNat (-1) (M.r 160 z.toNat)) 172 = gI M 172 := by unfold shC; rw [gI_sr, gI_ne _ (by decide)]
          have g73 : gI (shC M x.toNat (-1) (M.r 160 z.toNat)) 173 = gI M 173 := by unfold shC; rw [gI_sr, gI_ne _ (by decide)]
          have l72 := g_alI (ar_so hmN) (x := z) e3.1 (by omega) (by omega)
          have l73 := g_alI (ar_si hmN) (x := z) e3.1 (by omega) (by omega)
          rw [g72] at l72
          rw [g73] at l73
          have l72' : ∀ U, alI ((shC M x.toNat (-1) (M.r 160 z.toNat)).row 175 U) 172 (i2 z) = some (i2 (gI M 172 z)) := fun U => by rw [alI_ne (by decide)]; exact l72
          have l73' : ∀ U V, alI (((shC M x.toNat (-1) (M.r 160 z.toNat)).row 175 U).row 176 V) 173 (i2 z) = some (i2 (gI M 173 z)) := fun U V => by rw [alI_ne (by decide), alI_ne (by decide)]; exact l73
          refine ⟨i2 1, shC M x.toNat (-1) (M.r 160 z.toNat), shM (shC M x.toNat (-1) (M.r 160 z.toNat)) x.toNat w (gI M 172 z) (gI M 173 z), ?_, ?_, shelf_inv hi hx (by decide) (by omega) b72 b73 cond⟩
          · show fX11_shelf M 0 (i2 x) (i2 1) (i2 z) = _
            unfold fX11_shelf
            simp -dsimp (disch := omega) only [↓B1_bp, ↓B2_bp, BP_some, BQ_some, ↓reduceIte, L_0, L_1, L_2, L_3, L_4, L_5, L_6, L_7, L_8, L_9, L_10, L_11, L_12, L_13, L_54, L_14, L_99, L_20, L_30, L_31, L_60, L_19, i2_add, i2_sub, i2_mul, i2_neg, Int.reduceAdd, Int.reduceSub, Int.reduceMul, Int.reduceNeg, Int.reduceLT, Int.reduceLE, Int.reduceEq, i2_le, i2_lt, i2_eq, uA_self, uA_ne, tf_0, not_true_eq_false, not_false_eq_true, L_15, L_40, L_100, L_101, L_200, L_999, ↓NL_bp, BNP_none, BNP_some, and_self, if_true, if_false, and_true, true_and, and_false, false_and, t_now h, d_gk (t_d1 h), q1, c_isWithin, te2, q3, t_ss h, c1, rdN_row, t_sr h, t_sh h, alQ_row, q160', c2]
          · exact m_shelf1 hmN e e3 (by rw [g72]) (by rw [g73]) b72 (w12.imp (fun v => ⟨v, wi.mp v⟩) (fun v => ⟨v, fun u => by have := wi.mpr u; omega⟩))
        · rw [tf_f e3] at q3 a2
          refine ⟨i2 (-1), M, M, ?_, ?_, hi⟩
          · show fX11_shelf M 0 (i2 x) (i2 1) (i2 z) = _
            unfold fX11_shelf
            simp -dsimp (disch := omega) only [↓B1_bp, ↓B2_bp, BP_some, BQ_some, ↓reduceIte, L_0, L_1, L_2, L_3, L_4, L_5, L_6, L_7, L_8, L_9, L_10, L_11, L_12, L_13, L_54, L_14, L_99, L_20, L_30, L_31, L_60, L_19, i2_add, i2_sub, i2_mul, i2_neg, Int.reduceAdd, Int.reduceSub, Int.reduceMul, Int.reduceNeg, Int.reduceLT, Int.reduceLE, Int.reduceEq, i2_le, i2_lt, i2_eq, uA_self, uA_ne, tf_0, not_true_eq_false, not_false_eq_true, L_15, L_40, L_100, L_101, L_200, L_999, ↓NL_bp, BNP_none, BNP_some, and_self, if_true, if_false, and_true, true_and, and_false, false_and, t_now h, d_gk (t_d1 h), q1, c_isWithin, te2, q3]
          · show fX12_shelf M 164 (i2 x) (i2 1) (i2 z) = _
            unfold fX12_shelf
            simp -dsimp (disch := omega) only [↓B1_bp, ↓B2_bp, BP_some, BQ_some, ↓reduceIte, L_0, L_1, L_2, L_3, L_4, L_5, L_6, L_7, L_8, L_9, L_10, L_11, L_12, L_13, L_54, L_14, L_99, L_20, L_30, L_31, L_60, L_19, i2_add, i2_sub, i2_mul, i2_neg, Int.reduceAdd, Int.reduceSub, Int.reduceMul, Int.reduceNeg, Int.reduceLT, Int.reduceLE, Int.reduceEq, i2_le, i2_lt, i2_eq, uA_self, uA_ne, tf_0, not_true_eq_false, not_false_eq_true, a2, q2]
      · obtain ⟨c1, c2⟩ := shC_c (M := M) h e.1 e.2 (-1) (v := none) (fun o w => absurd w (by simp))
        have hmN := shC_m hm n9 x.toNat (-1) none
        obtain ⟨m1, m2, m3⟩ := shM_m hmN e.1 e.2 2 z 0
        have q2' := m_isFour (shC M x.toNat (-1) none) x0 x1
        rw [tf_t e] at q2'
        refine ⟨i2 1, shC M x.toNat (-1) none, shM (shC M x.toNat (-1) none) x.toNat 2 z 0, ?_, ?_, shelf_inv hi hx (by decide) (by decide) ⟨z0, z1⟩ (by decide) (Or.inr (Or.inr ⟨rfl, rfl, rfl⟩))⟩
        · show fX11_shelf M 0 (i2 x) (i2 2) (i2 z) = _
          unfold fX11_shelf
          simp -dsimp (disch := omega) only [↓B1_bp, ↓B2_bp, BP_some, BQ_some, ↓reduceIte, L_0, L_1, L_2, L_3, L_4, L_5, L_6, L_7, L_8, L_9, L_10, L_11, L_12, L_13, L_54, L_14, L_99, L_20, L_30, L_31, L_60, L_19, i2_add, i2_sub, i2_mul, i2_neg, Int.reduceAdd, Int.reduceSub, Int.reduceMul, Int.reduceNeg, Int.reduceLT, Int.reduceLE, Int.reduceEq, i2_le, i2_lt, i2_eq, uA_self, uA_ne, tf_0, not_true_eq_false, not_false_eq_true, L_15, L_40, L_100, L_101, L_200, L_999, ↓NL_bp, BNP_none, BNP_some, and_self, if_true, if_false, and_true, true_and, and_false, false_and, t_now h, d_gk (t_d1 h), q1, c_isWithin, te2, t_ss h, c1, rdN_row, t_sr h, c2]
        · exact m_shelf2 hmN e
    · have te2 : tf (0 ≤ y ∧ y ≤ 2) = 0 := tf_f e2
      have n0 : ¬ y = 0 := by omega
      have n1 : ¬ y = 1 := by omega
      have n2 : ¬ y = 2 := by omega
      refine ⟨i2 (-1), M, M, ?_, ?_, hi⟩
      · show fX11_shelf M 0 (i2 x) (i2 y) (i2 z) = _
        unfold fX11_shelf
        simp -dsimp (disch := omega) only [↓B1_bp, ↓B2_bp, BP_some, BQ_some, ↓reduceIte, L_0, L_1, L_2, L_3, L_4, L_5, L_6, L_7, L_8, L_9, L_10, L_11, L_12, L_13, L_54, L_14, L_99, L_20, L_30, L_31, L_60, L_19, i2_add, i2_sub, i2_mul, i2_neg, Int.reduceAdd, Int.reduceSub, Int.reduceMul, Int.reduceNeg, Int.reduceLT, Int.reduceLE, Int.reduceEq, i2_le, i2_lt, i2_eq, uA_self, uA_ne, tf_0, not_true_eq_false, not_false_eq_true, L_15, L_40, L_100, L_101, L_200, L_999, ↓NL_bp, BNP_none, BNP_some, and_self, if_true, if_false, and_true, true_and, and_false, false_and, t_now h, d_gk (t_d1 h), q1, c_isWithin, te2]
      · show fX12_shelf M 164 (i2 x) (i2 y) (i2 z) = _
        unfold fX12_shelf
        simp -dsimp (disch := omega) only [↓B1_bp, ↓B2_bp, BP_some, BQ_some, ↓reduceIte, L_0, L_1, L_2, L_3, L_4, L_5, L_6, L_7, L_8, L_9, L_10, L_11, L_12, L_13, L_54, L_14, L_99, L_20, L_30, L_31, L_60, L_19, i2_add, i2_sub, i2_mul, i2_neg, Int.reduceAdd, Int.reduceSub, Int.reduceMul, Int.reduceNeg, Int.reduceLT, Int.reduceLE, Int.reduceEq, i2_le, i2_lt, i2_eq, uA_self, uA_ne, tf_0, not_true_eq_false, not_false_eq_true, n0, n1, n2, if_false, q2]
  · rw [tf_f e] at q1
    refine ⟨i2 (-1), M, M, ?_, ?_, hi⟩
    · show fX11_shelf M 0 (i2 x) (i2 y) (i2 z) = _
      unfold fX11_shelf
      simp -dsimp (disch := omega) only [↓B1_bp, ↓B2_bp, BP_some, BQ_some, ↓reduceIte, L_0, L_1, L_2, L_3, L_4, L_5, L_6, L_7, L_8, L_9, L_10, L_11, L_12, L_13, L_54, L_14, L_99, L_20, L_30, L_31, L_60, L_19, i2_add, i2_sub, i2_mul, i2_neg, Int.reduceAdd, Int.reduceSub, Int.reduceMul, Int.reduceNeg, Int.reduceLT, Int.reduceLE, Int.reduceEq, i2_le, i2_lt, i2_eq, uA_self, uA_ne, tf_0, not_true_eq_false, not_false_eq_true, L_15, L_40, L_100, L_101, L_200, L_999, ↓NL_bp, BNP_none, BNP_some, and_self, if_true, if_false, and_true, true_and, and_false, false_and, t_now h, d_gk (t_d1 h), q1]
    · rcases nf with z | z
      · exact z
      · exact absurd z e
end SHELF
