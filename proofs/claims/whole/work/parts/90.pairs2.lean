section PAIRF
variable {M : Mm} {A : Int → Int}
theorem tb_F : ∀ m : Fin 256, ∀ k : Fin 8, decide ((((i2 (m.val : Int)) >>> ((i2 (k.val : Int)) &&& (31 : Int32))) &&& (1 : Int32)) = 0) = !(m.val.testBit k.val) := by decide +kernel
theorem ob_F : ∀ m : Fin 256, ∀ k : Fin 8, ∀ o : Fin 8, ((i2 (m.val : Int)) ||| (((1 : Int32) <<< ((i2 (k.val : Int)) &&& (31 : Int32))) ||| ((1 : Int32) <<< ((i2 (o.val : Int)) &&& (31 : Int32))))) = i2 ((m.val ||| (2 ^ k.val ||| 2 ^ o.val) : Nat) : Int) := by decide +kernel
theorem tb_at {m k : Nat} (hm : m < 256) (hk : k < 8) : (((i2 (m : Int)) >>> ((i2 (k : Int)) &&& (31 : Int32))) &&& (1 : Int32)) = 0 ↔ m.testBit k = false := by
  have q := tb_F ⟨m, hm⟩ ⟨k, hk⟩
  constructor
  · intro z
    rw [decide_eq_true z] at q
    simpa using q
  · intro z
    change _ = !(m.testBit k) at q
    rw [z] at q
    exact of_decide_eq_true q
theorem ob_at {m k o : Nat} (hm : m < 256) (hk : k < 8) (ho : o < 8) : ((i2 (m : Int)) ||| (((1 : Int32) <<< ((i2 (k : Int)) &&& (31 : Int32))) ||| ((1 : Int32) <<< ((i2 (o : Int)) &&& (31 : Int32))))) = i2 ((m ||| (2 ^ k ||| 2 ^ o) : Nat) : Int) := ob_F ⟨m, hm⟩ ⟨k, hk⟩ ⟨o, ho⟩
theorem ob_lt {m k o : Nat} (hm : m < 256) (hk : k < 8) (ho : o < 8) : m ||| (2 ^ k ||| 2 ^ o) < 256 := by
  have h1 : 2 ^ k < 2 ^ 8 := Nat.pow_lt_pow_right (by decide) hk
  have h2 : 2 ^ o < 2 ^ 8 := Nat.pow_lt_pow_right (by decide) ho
  exact Nat.or_lt_two_pow (n := 8) hm (Nat.or_lt_two_pow (n := 8) h1 h2)
def prN (A : Int → Int) (a b : Nat) : Nat := (prI A a b).toNat
theorem prN_I (A : Int → Int) (a b : Nat) : prI A a b = (prN A a b : Int) := by
  unfold prN
  have q := prI_01 A a b
  omega
theorem prN_1 (A : Int → Int) (a b : Nat) : prN A a b = 1 ↔ (a ≠ b ∧ goI A a = 1 ∧ goI A b = 1 ∧ stA A a 0 = stA A b 0 ∧ stA A a 2 = stA A b 2) := by
  unfold prN prI
  split
  · rename_i h
    exact ⟨fun _ => ⟨fun z => h.1 (by omega), h.2⟩, fun _ => rfl⟩
  · rename_i h
    exact ⟨fun z => absurd z (by decide), fun z => absurd ⟨fun w => z.1 (by omega), z.2⟩ h⟩
theorem prN_ok (A : Int → Int) : PrOk (prN A) := by
  have le : ∀ a b, prN A a b ≤ 1 := fun a b => by
    unfold prN
    have q := prI_01 A a b
    omega
  have ex : ∀ a b c d, (prN A a b = 1 ↔ prN A c d = 1) → prN A a b = prN A c d := fun a b c d h => by
    have h1 := le a b
    have h2 := le c d
    by_cases q : prN A a b = 1
    · rw [q, h.mp q]
    · have q2 : ¬ prN A c d = 1 := fun z => q (h.mpr z)
      omega
  refine ⟨le, fun a b => ex _ _ _ _ ?_, fun a b m h ha hb => ex _ _ _ _ ?_⟩
  · rw [prN_1, prN_1]
    exact ⟨fun z => ⟨z.1.symm, z.2.2.1, z.2.1, z.2.2.2.1.symm, z.2.2.2.2.symm⟩, fun z => ⟨z.1.symm, z.2.2.1, z.2.1, z.2.2.2.1.symm, z.2.2.2.2.symm⟩⟩
  · rw [prN_1] at h
    rw [prN_1, prN_1]
    exact ⟨fun z => ⟨hb, z.2.1, h.2.2.1, z.2.2.2.1.trans h.2.2.2.1, z.2.2.2.2.trans h.2.2.2.2⟩, fun z => ⟨ha, z.2.1, h.2.1, z.2.2.2.1.trans h.2.2.2.1.symm, z.2.2.2.2.trans h.2.2.2.2.symm⟩⟩
theorem ah_b (i : Nat) : ∀ j : Nat, ah (prN A) i j ≤ j
  | 0 => Nat.le_refl _
  | j + 1 => Nat.add_le_add (ah_b i j) ((prN_ok A).1 j i)
theorem sP_b (k : Nat) : ∀ n : Nat, sP (prN A) k n ≤ n
  | 0 => Nat.le_refl _
  | n + 1 => Nat.add_le_add (sP_b k n) (bP_le k n)
theorem bP_n {pr : Nat → Nat → Nat} {n i : Nat} (h : i ≤ n) : bP pr n i = ah pr i i % 2 := by
  unfold bP
  rw [show min n i = i by omega]
  split <;> omega
theorem c_pairs20 (h : LayC M) (c : CR M 1 A) (g : GA A) {kk : Int32 → Option Int32} {v1 : Int32} {i : Nat} (hi : (i : Int) < A 0) : ∀ (d N j : Nat), d < N → j + d = i → fX11_pairs_L20 kk M 0 v1 (i2 i) N (i2 (ah (prN A) i j)) (i2 j) = kk (i2 (ah (prN A) i i)) := by
  have g0 := g.1
  intro d
  induction d with
  | zero =>
    intro N j hN hj
    obtain ⟨N, rfl⟩ : ∃ k, N = k + 1 := ⟨N - 1, by omega⟩
    rw [show j = i by omega]
    show (if i2 i ≤ i2 i then _ else _) = _
    rw [if_pos (by rw [i2_le (by omega) (by omega) (by omega) (by omega)]; exact Int.le_refl _)]
  | succ d ih =>
    intro N j hN hj
    obtain ⟨N, rfl⟩ : ∃ k, N = k + 1 := ⟨N - 1, by omega⟩
    have q : ¬ (i : Int) ≤ j := by omega
    have ip := c_isPair (t_d1 h) c g (k := j) (o := i) (by omega) (by omega) (by omega) hi
    have b := ah_b (A := A) i j
    have k := ih N (j + 1) (by omega) (by omega)
    rw [← k]
    show _ = fX11_pairs_L20 kk M 0 v1 (i2 i) N (i2 ((ah (prN A) i j + prN A j i : Nat) : Int)) (i2 ((j + 1 : Nat) : Int))
    rw [prN_I] at ip
    have le := (prN_ok A).1 j i
    clear ih k
    have e : prN A j i = 0 ∨ prN A j i = 1 := by omega
    rcases e with e | e
    · rw [e] at ip ⊢
      rw [show ((0 : Nat) : Int) = 0 from rfl] at ip
      simp -dsimp (disch := omega) only [fX11_pairs_L20, ↓B1_bp, ↓B2_bp, BP_some, BQ_some, ↓reduceIte, L_0, L_1, L_2, L_3, L_4, L_5, L_6, L_7, L_8, L_9, L_10, L_11, L_12, L_13, L_54, L_14, L_99, L_20, L_30, L_31, L_60, L_19, i2_add, i2_sub, i2_mul, i2_neg, Int.reduceAdd, Int.reduceSub, Int.reduceMul, Int.reduceNeg, Int.reduceLT, Int.reduceLE, Int.reduceEq, i2_le, i2_lt, i2_eq, uA_self, uA_ne, tf_0, not_true_eq_false, not_false_eq_true, q, if_false, t_now h, d_gk (t_d1 h), ip, Int.add_zero, Nat.add_zero]
      rfl
    · rw [e] at ip ⊢
      rw [show ((1 : Nat) : Int) = 1 from rfl] at ip
      simp -dsimp (disch := omega) only [fX11_pairs_L20, ↓B1_bp, ↓B2_bp, BP_some, BQ_some, ↓reduceIte, L_0, L_1, L_2, L_3, L_4, L_5, L_6, L_7, L_8, L_9, L_10, L_11, L_12, L_13, L_54, L_14, L_99, L_20, L_30, L_31, L_60, L_19, i2_add, i2_sub, i2_mul, i2_neg, Int.reduceAdd, Int.reduceSub, Int.reduceMul, Int.reduceNeg, Int.reduceLT, Int.reduceLE, Int.reduceEq, i2_le, i2_lt, i2_eq, uA_self, uA_ne, tf_0, not_true_eq_false, not_false_eq_true, q, if_false, t_now h, d_gk (t_d1 h), ip]
      rfl
theorem c_pairs_L (h : LayC M) (c : CR M 1 A) (g : GA A) {n : Nat} (hn : (n : Int) = A 0) : ∀ (d N i : Nat), d < N → i + d = n → fX11_pairs_L4 M 0 N (i2 (sP (prN A) n i)) (i2 i) = some (i2 (sP (prN A) n n)) := by
  have g0 := g.1
  intro d
  induction d with
  | zero =>
    intro N i hN hi
    obtain ⟨N, rfl⟩ : ∃ k, N = k + 1 := ⟨N - 1, by omega⟩
    have q : A 0 ≤ i := by omega
    rw [show i = n by omega] at q ⊢
    simp -dsimp (disch := omega) only [fX11_pairs_L4, ↓B1_bp, ↓B2_bp, BP_some, BQ_some, ↓reduceIte, L_0, L_1, L_2, L_3, L_4, L_5, L_6, L_7, L_8, L_9, L_10, L_11, L_12, L_13, L_54, L_14, L_99, L_20, L_30, L_31, L_60, L_19, i2_add, i2_sub, i2_mul, i2_neg, Int.reduceAdd, Int.reduceSub, Int.reduceMul, Int.reduceNeg, Int.reduceLT, Int.reduceLE, Int.reduceEq, i2_le, i2_lt, i2_eq, uA_self, uA_ne, tf_0, not_true_eq_false, not_false_eq_true, t_now h, d_cnt (t_d1 h) c, q, if_true]
  | succ d ih =>
    intro N i hN hi
    obtain ⟨N, rfl⟩ : ∃ k, N = k + 1 := ⟨N - 1, by omega⟩
    have q : ¬ A 0 ≤ i := by omega
    have k := ih N (i + 1) (by omega) (by omega)
    have inn := c_pairs20 h c g (kk := fun w => fX11_pairs_L4 M 0 N (i2 (sP (prN A) n i) + (w - w / 2 * 2)) (i2 i + 1)) (v1 := i2 (sP (prN A) n i)) (i := i) (by omega) i FL 0 (by show _ < 4096; omega) (by omega)
    have b := ah_b (A := A) i i
    have st : i2 (sP (prN A) n i) + (i2 (ah (prN A) i i) - i2 (ah (prN A) i i) / 2 * 2) = i2 ((sP (prN A) n (i + 1) : Nat) : Int) := by
      rw [L_2, i2_div (by omega) (by omega) (by decide) (by decide), i2_mul, i2_sub, show (2 : Int) = ((2 : Nat) : Int) from rfl, nmod, i2_add]
      congr 1
      show _ = ((sP (prN A) n i + bP (prN A) n i : Nat) : Int)
      rw [bP_n (by omega)]
      rfl
    have u : fX11_pairs_L4 M 0 (N + 1) (i2 (sP (prN A) n i)) (i2 i) = B1 (rdN M 0 14 0) fun a => B1 (rdI M a 3 2) fun x => if x ≤ i2 i then some (i2 (sP (prN A) n i)) else fX11_pairs_L20 (fun w => fX11_pairs_L4 M 0 N (i2 (sP (prN A) n i) + (w - w / 2 * 2)) (i2 i + 1)) M 0 (i2 (sP (prN A) n i)) (i2 i) FL 0 0 := rfl
    rw [u, t_now h, B1_some, d_cnt (t_d1 h) c, B1_some, if_neg (by rw [i2_le (by omega) (by omega) (by omega) (by omega)]; exact q), L_0]
    refine inn.trans ?_
    show fX11_pairs_L4 M 0 N (i2 (sP (prN A) n i) + (i2 (ah (prN A) i i) - i2 (ah (prN A) i i) / 2 * 2)) (i2 i + 1) = _
    rw [st, L_1, i2_add]
    exact k
theorem m_pairs21 (h : LayM M) (g : GA A) {kk : Int32 → Int32 → Option Int32} {n k : Nat} (hn : (n : Int) = A 0) (hk : k < n) : ∀ (d N m c o : Nat), d < N → o + d = n → m < 256 → c + d ≤ 1000 → fX12_pairs_L21 kk (M.row 165 A) 164 (i2 k) N (i2 m) (i2 c) (i2 o) = kk (i2 (gI2 (prN A) k d m c o).1) (i2 (gI2 (prN A) k d m c o).2) := by
  have g0 := g.1
  intro d
  induction d with
  | zero =>
    intro N m c o hN ho hm hc
    obtain ⟨N, rfl⟩ : ∃ k, N = k + 1 := ⟨N - 1, by omega⟩
    have q : A 0 ≤ o := by omega
    have u : fX12_pairs_L21 kk (M.row 165 A) 164 (i2 k) (N + 1) (i2 m) (i2 c) (i2 o) = B1 (rdN (M.row 165 A) 164 15 0) fun a => B1 (alI (M.row 165 A) a 0) fun x => if x ≤ i2 o then kk (i2 m) (i2 c) else if ((i2 m >>> (i2 k &&& 31)) &&& 1) = 0 then if ((i2 m >>> (i2 o &&& 31)) &&& 1) = 0 then B1 (gk (M.row 165 A) 164 15) fun _ => B1 (fX12_arePair (M.row 165 A) 164 (i2 k) (i2 o)) fun y => if y = 0 then fX12_pairs_L21 kk (M.row 165 A) 164 (i2 k) N (i2 m) (i2 c) (i2 o + 1) else fX12_pairs_L21 kk (M.row 165 A) 164 (i2 k) N (i2 m ||| ((1 <<< (i2 k &&& 31)) ||| (1 <<< (i2 o &&& 31)))) (i2 c + 1) (i2 o + 1) else fX12_pairs_L21 kk (M.row 165 A) 164 (i2 k) N (i2 m) (i2 c) (i2 o + 1) else fX12_pairs_L21 kk (M.row 165 A) 164 (i2 k) N (i2 m) (i2 c) (i2 o + 1) := rfl
    rw [u, rdN_row, rdm0 h, B1_some, L_0, m_al h (by decide) (by decide), B1_some, if_pos (by rw [i2_le (by omega) (by omega) (by omega) (by omega)]; exact q)]
    rfl
  | succ d ih =>
    intro N m c o hN ho hm hc
    obtain ⟨N, rfl⟩ : ∃ k, N = k + 1 := ⟨N - 1, by omega⟩
    have q : ¬ A 0 ≤ o := by omega
    have u : fX12_pairs_L21 kk (M.row 165 A) 164 (i2 k) (N + 1) (i2 m) (i2 c) (i2 o) = B1 (rdN (M.row 165 A) 164 15 0) fun a => B1 (alI (M.row 165 A) a 0) fun x => if x ≤ i2 o then kk (i2 m) (i2 c) else if ((i2 m >>> (i2 k &&& 31)) &&& 1) = 0 then if ((i2 m >>> (i2 o &&& 31)) &&& 1) = 0 then B1 (gk (M.row 165 A) 164 15) fun _ => B1 (fX12_arePair (M.row 165 A) 164 (i2 k) (i2 o)) fun y => if y = 0 then fX12_pairs_L21 kk (M.row 165 A) 164 (i2 k) N (i2 m) (i2 c) (i2 o + 1) else fX12_pairs_L21 kk (M.row 165 A) 164 (i2 k) N (i2 m ||| ((1 <<< (i2 k &&& 31)) ||| (1 <<< (i2 o &&& 31)))) (i2 c + 1) (i2 o + 1) else fX12_pairs_L21 kk (M.row 165 A) 164 (i2 k) N (i2 m) (i2 c) (i2 o + 1) else fX12_pairs_L21 kk (M.row 165 A) 164 (i2 k) N (i2 m) (i2 c) (i2 o + 1) := rfl
    have t1 := tb_at (m := m) (k := k) hm (by omega)
    have t2 := tb_at (m := m) (k := o) hm (by omega)
    have ap := m_arePair (A := A) h g (k := k) (o := o) (by omega) (by omega) (by omega) (by omega)
    rw [prN_I] at ap
    have le := (prN_ok A).1 k o
    have k0 := ih N m c (o + 1) (by omega) (by omega) hm (by omega)
    have k1 := ih N (m ||| (2 ^ k ||| 2 ^ o)) (c + 1) (o + 1) (by omega) (by omega) (ob_lt hm (by omega) (by omega)) (by omega)
    rw [show (((o + 1 : Nat)) : Int) = (o : Int) + 1 from rfl] at k0 k1
    rw [show (((c + 1 : Nat)) : Int) = (c : Int) + 1 from rfl] at k1
    have e : gI2 (prN A) k (d + 1) m c o = if m.testBit k = false ∧ m.testBit o = false ∧ prN A k o = 1 then gI2 (prN A) k d (m ||| (2 ^ k ||| 2 ^ o)) (c + 1) (o + 1) else gI2 (prN A) k d m c (o + 1) := rfl
    rw [u, e, rdN_row, rdm0 h, B1_some, show (0 : Int32) = i2 0 from L_0, m_al h (by decide) (by decide), B1_some, if_neg (by rw [i2_le (by omega) (by omega) (by omega) (by omega)]; exact q), ← L_0]
    have o1 : i2 (o : Int) + 1 = i2 ((o : Int) + 1) := by rw [L_1, i2_add]
    have c1 : i2 (c : Int) + 1 = i2 ((c : Int) + 1) := by rw [L_1, i2_add]
    by_cases b1 : m.testBit k = false
    · rw [if_pos (t1.mpr b1)]
      by_cases b2 : m.testBit o = false
      · rw [if_pos (t2.mpr b2), gk_row, gk_m h, B1_some, ap, B1_some]
        by_cases b3 : prN A k o = 1
        · rw [if_neg (show ¬ i2 (prN A k o : Int) = 0 by rw [b3]; decide +kernel), if_pos (show m.testBit k = false ∧ m.testBit o = false ∧ prN A k o = 1 from ⟨b1, b2, b3⟩), ob_at hm (by omega) (by omega), o1, c1]
          exact k1
        · have b4 : prN A k o = 0 := by omega
          rw [if_pos (show i2 (prN A k o : Int) = 0 by rw [b4]; rfl), if_neg (show ¬ (m.testBit k = false ∧ m.testBit o = false ∧ prN A k o = 1) from fun z => b3 z.2.2), o1]
          exact k0
      · rw [if_neg (fun z => b2 (t2.mp z)), if_neg (show ¬ (m.testBit k = false ∧ m.testBit o = false ∧ prN A k o = 1) from fun z => b2 z.2.1), o1]
        exact k0
    · rw [if_neg (fun z => b1 (t1.mp z)), if_neg (show ¬ (m.testBit k = false ∧ m.testBit o = false ∧ prN A k o = 1) from fun z => b1 z.1), o1]
      exact k0
theorem gI2_b {pr : Nat → Nat → Nat} {k n : Nat} (hk : k < 8) (hn : n ≤ 8) : ∀ (d m c o : Nat), o + d = n → m < 256 → (gI2 pr k d m c o).1 < 256 ∧ (gI2 pr k d m c o).2 ≤ c + d
  | 0, m, c, o, _, hm => ⟨hm, Nat.le_refl _⟩
  | d + 1, m, c, o, ho, hm => by
    have e : gI2 pr k (d + 1) m c o = if m.testBit k = false ∧ m.testBit o = false ∧ pr k o = 1 then gI2 pr k d (m ||| (2 ^ k ||| 2 ^ o)) (c + 1) (o + 1) else gI2 pr k d m c (o + 1) := rfl
    rw [e]
    split
    · have q := gI2_b (pr := pr) hk hn d (m ||| (2 ^ k ||| 2 ^ o)) (c + 1) (o + 1) (by omega) (ob_lt hm hk (by omega))
      exact ⟨q.1, by omega⟩
    · have q := gI2_b (pr := pr) hk hn d m c (o + 1) (by omega) hm
      exact ⟨q.1, by omega⟩
theorem m_pairs_L (h : LayM M) (g : GA A) {n : Nat} (hn : (n : Int) = A 0) : ∀ (d N m c k : Nat), d < N → k + d = n → m < 256 → c + 10 * d ≤ 100 → fX12_pairs_L6 (M.row 165 A) 164 N (i2 m) (i2 c) (i2 k) = some (i2 (gO (prN A) n d m c k)) := by
  have g0 := g.1
  intro d
  induction d with
  | zero =>
    intro N m c k hN hk hm hc
    obtain ⟨N, rfl⟩ : ∃ k, N = k + 1 := ⟨N - 1, by omega⟩
    have q : A 0 ≤ k := by omega
    simp -dsimp (disch := omega) only [fX12_pairs_L6, ↓B1_bp, ↓B2_bp, BP_some, BQ_some, ↓reduceIte, L_0, L_1, L_2, L_3, L_4, L_5, L_6, L_7, L_8, L_9, L_10, L_11, L_12, L_13, L_54, L_14, L_99, L_20, L_30, L_31, L_60, L_19, i2_add, i2_sub, i2_mul, i2_neg, Int.reduceAdd, Int.reduceSub, Int.reduceMul, Int.reduceNeg, Int.reduceLT, Int.reduceLE, Int.reduceEq, i2_le, i2_lt, i2_eq, uA_self, uA_ne, tf_0, not_true_eq_false, not_false_eq_true, rdN_row, rdm0 h, m_al h, q, if_true]
    rfl
  | succ d ih =>
    intro N m c k hN hk hm hc
    obtain ⟨N, rfl⟩ : ∃ k, N = k + 1 := ⟨N - 1, by omega⟩
    have q : ¬ A 0 ≤ k := by omega
    have bb := gI2_b (pr := prN A) (k := k) (n := n) (by omega) (by omega) (n - (k + 1)) m c (k + 1) (by omega) hm
    have j := ih N (gI2 (prN A) k (n - (k + 1)) m c (k + 1)).1 (gI2 (prN A) k (n - (k + 1)) m c (k + 1)).2 (k + 1) (by omega) (by omega) bb.1 (by omega)
    have inn := m_pairs21 h g (kk := fun w w2 => fX12_pairs_L6 (M.row 165 A) 164 N w w2 (i2 k + 1)) hn (show k < n by omega) (n - (k + 1)) FL m c (k + 1) (by show _ < 4096; omega) (by omega) hm (by omega)
    have u : fX12_pairs_L6 (M.row 165 A) 164 (N + 1) (i2 m) (i2 c) (i2 k) = B1 (rdN (M.row 165 A) 164 15 0) fun a => B1 (alI (M.row 165 A) a 0) fun x => if x ≤ i2 k then some (i2 c) else fX12_pairs_L21 (fun w w2 => fX12_pairs_L6 (M.row 165 A) 164 N w w2 (i2 k + 1)) (M.row 165 A) 164 (i2 k) FL (i2 m) (i2 c) (i2 k + 1) := rfl
    rw [u, rdN_row, rdm0 h, B1_some, L_0, m_al h (by decide) (by decide), B1_some, if_neg (by rw [i2_le (by omega) (by omega) (by omega) (by omega)]; exact q)]
    have k1 : i2 (k : Int) + 1 = i2 (((k + 1 : Nat)) : Int) := by rw [L_1, i2_add]; rfl
    rw [k1] at inn ⊢
    exact inn.trans j
theorem op_pairs (h : LayC M) (hm : LayM M) (c : CR M 1 A) (g : GA A) (ha : M.g 165 = rI A) : OpP (fX11_pairs M 0) (fX12_pairs M 164) := by
  have g0 := g.1
  obtain ⟨n, hn⟩ : ∃ n : Nat, (n : Int) = A 0 := ⟨(A 0).toNat, by omega⟩
  have k1 := c_pairs_L h c g hn n FL 0 (by show _ < 4096; omega) (by omega)
  have k2 := m_pairs_L (A := A) hm g hn n FL 0 0 0 (by show _ < 4096; omega) (by omega) (by decide) (by omega)
  rw [greedy (prN_ok A)] at k2
  refine ⟨i2 (sP (prN A) n n), k1, ?_⟩
  rw [row_of ha]
  exact k2
end PAIRF
