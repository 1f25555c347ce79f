/-! PAIRS: how many are full, told in order, and by pairing greedily -/
section PAIRN
variable {pr : Nat → Nat → Nat}
def ah (pr : Nat → Nat → Nat) (i : Nat) : Nat → Nat
  | 0 => 0
  | j + 1 => ah pr i j + pr j i
def PrOk (pr : Nat → Nat → Nat) : Prop := (∀ a b, pr a b ≤ 1) ∧ (∀ a b, pr a b = pr b a) ∧ ∀ a b m, pr a b = 1 → m ≠ a → m ≠ b → pr m a = pr m b
theorem ah_mono {i a : Nat} : ∀ d : Nat, ah pr i a ≤ ah pr i (a + d)
  | 0 => Nat.le_refl _
  | d + 1 => Nat.le_trans (ah_mono d) (Nat.le_add_right _ _)
theorem ah_le {i a b : Nat} (h : a ≤ b) : ah pr i a ≤ ah pr i b := by
  have k := ah_mono (pr := pr) (i := i) (a := a) (b - a)
  rwa [show a + (b - a) = b by omega] at k
theorem ah_same (ok : PrOk pr) {k i : Nat} (h : pr k i = 1) : ∀ j : Nat, j ≤ k → j ≤ i → ah pr i j = ah pr k j
  | 0, _, _ => rfl
  | j + 1, h1, h2 => by
    show ah pr i j + pr j i = ah pr k j + pr j k
    rw [ah_same ok h j (by omega) (by omega), ok.2.2 k i j h (by omega) (by omega)]
theorem ah_none {i a : Nat} : ∀ d : Nat, (∀ m, a ≤ m → m < a + d → pr m i = 0) → ah pr i (a + d) = ah pr i a
  | 0, _ => rfl
  | d + 1, h => by
    show ah pr i (a + d) + pr (a + d) i = _
    rw [ah_none d fun m x y => h m x (by omega), h (a + d) (by omega) (by omega), Nat.add_zero]
theorem ah_some {i a b m : Nat} (h1 : a ≤ m) (h2 : m < b) (h : pr m i = 1) : ah pr i a + 1 ≤ ah pr i b := by
  have k1 := ah_le (pr := pr) (i := i) h1
  have k2 : ah pr i (m + 1) = ah pr i m + pr m i := rfl
  have k3 := ah_le (pr := pr) (i := i) (show m + 1 ≤ b by omega)
  omega
def bP (pr : Nat → Nat → Nat) (k i : Nat) : Nat := if ah pr i i % 2 = 1 ∧ ah pr i (min k i) = ah pr i i then 1 else 0
def sP (pr : Nat → Nat → Nat) (k : Nat) : Nat → Nat
  | 0 => 0
  | i + 1 => sP pr k i + bP pr k i
theorem bP_1 {k i : Nat} : bP pr k i = 1 ↔ (ah pr i i % 2 = 1 ∧ ah pr i (min k i) = ah pr i i) := by
  unfold bP
  split
  · rename_i h
    exact ⟨fun _ => h, fun _ => rfl⟩
  · rename_i h
    exact ⟨fun z => absurd z (by decide), fun z => absurd z h⟩
theorem bP_le (k i : Nat) : bP pr k i ≤ 1 := by
  unfold bP
  split <;> omega
theorem bP_old {k i : Nat} (h : i ≤ k) : bP pr (k + 1) i = bP pr k i := by
  unfold bP
  rw [show min (k + 1) i = i by omega, show min k i = i by omega]
theorem bP_not {k i : Nat} (h : k < i) (hp : pr k i = 0) : bP pr (k + 1) i = bP pr k i := by
  have e : ah pr i (k + 1) = ah pr i k := by
    show ah pr i k + pr k i = _
    rw [hp, Nat.add_zero]
  unfold bP
  rw [show min (k + 1) i = k + 1 by omega, show min k i = k by omega, e]
/-- one that goes with k is not yet paired ahead of k -/
theorem bP_free {k i : Nat} (h : k < i) (hp : pr k i = 1) : bP pr k i = 0 := by
  have k1 := ah_some (pr := pr) (i := i) (Nat.le_refl k) h hp
  have q : ¬ bP pr k i = 1 := fun z => by
    have z2 := (bP_1.mp z).2
    rw [show min k i = k by omega] at z2
    omega
  have l := bP_le (pr := pr) k i
  omega
theorem bP_odd (ok : PrOk pr) {k i : Nat} (h : k < i) (hp : pr k i = 1) (o : ah pr k k % 2 = 1) : bP pr (k + 1) i = 0 := by
  have e : ah pr i (k + 1) = ah pr k k + 1 := by
    show ah pr i k + pr k i = _
    rw [hp, ah_same ok hp k (Nat.le_refl _) (by omega)]
  have q : ¬ bP pr (k + 1) i = 1 := fun z => by
    have z2 := bP_1.mp z
    rw [show min (k + 1) i = k + 1 by omega] at z2
    omega
  have l := bP_le (pr := pr) (k + 1) i
  omega
theorem bP_first (ok : PrOk pr) {k i : Nat} (h : k < i) (hp : pr k i = 1) (o : ah pr k k % 2 = 0) (f : ∀ m, k < m → m < i → pr k m = 0) : bP pr (k + 1) i = 1 := by
  have e : ah pr i (k + 1) = ah pr k k + 1 := by
    show ah pr i k + pr k i = _
    rw [hp, ah_same ok hp k (Nat.le_refl _) (by omega)]
  have n : ah pr i i = ah pr i (k + 1) := by
    have z := ah_none (pr := pr) (i := i) (a := k + 1) (i - (k + 1)) fun m x y => by
      have hm := f m (by omega) (by omega)
      rw [ok.2.1 k m] at hm
      rw [← ok.2.2 k i m hp (by omega) (by omega)]
      exact hm
    rwa [show k + 1 + (i - (k + 1)) = i by omega] at z
  rw [bP_1, show min (k + 1) i = k + 1 by omega]
  omega
theorem bP_later (ok : PrOk pr) {k i o : Nat} (h : k < o) (h2 : o < i) (hp : pr k i = 1) (hq : pr k o = 1) : bP pr (k + 1) i = 0 := by
  have e : pr o i = 1 := by
    rw [← ok.2.2 k i o hp (by omega) (by omega), ok.2.1 o k]
    exact hq
  have k1 := ah_some (pr := pr) (i := i) (show k + 1 ≤ o by omega) h2 e
  have q : ¬ bP pr (k + 1) i = 1 := fun z => by
    have z2 := (bP_1.mp z).2
    rw [show min (k + 1) i = k + 1 by omega] at z2
    omega
  have l := bP_le (pr := pr) (k + 1) i
  omega
theorem sP_eq {k k' : Nat} : ∀ n : Nat, (∀ i, i < n → bP pr k' i = bP pr k i) → sP pr k' n = sP pr k n
  | 0, _ => rfl
  | n + 1, h => by
    show sP pr k' n + bP pr k' n = sP pr k n + bP pr k n
    rw [sP_eq n fun i hi => h i (by omega), h n (by omega)]
theorem sP_one {k k' o : Nat} (h0 : bP pr k o = 0) (h1 : bP pr k' o = 1) : ∀ n : Nat, o < n → (∀ i, i < n → i ≠ o → bP pr k' i = bP pr k i) → sP pr k' n = sP pr k n + 1
  | 0, z, _ => absurd z (by omega)
  | n + 1, z, h => by
    show sP pr k' n + bP pr k' n = sP pr k n + bP pr k n + 1
    by_cases e : o = n
    · subst e
      rw [h0, h1, sP_eq o fun i hi => h i (by omega) (by omega)]
    · rw [sP_one h0 h1 n (by omega) fun i hi => h i (by omega), h n (by omega) (by omega)]
      omega
/-! greedily -/
def gI2 (pr : Nat → Nat → Nat) (k : Nat) : Nat → Nat → Nat → Nat → Nat × Nat
  | 0, m, c, _ => (m, c)
  | d + 1, m, c, o => if m.testBit k = false ∧ m.testBit o = false ∧ pr k o = 1 then gI2 pr k d (m ||| (2 ^ k ||| 2 ^ o)) (c + 1) (o + 1) else gI2 pr k d m c (o + 1)
def gO (pr : Nat → Nat → Nat) (n : Nat) : Nat → Nat → Nat → Nat → Nat
  | 0, _, c, _ => c
  | d + 1, m, c, k => gO pr n d (gI2 pr k (n - (k + 1)) m c (k + 1)).1 (gI2 pr k (n - (k + 1)) m c (k + 1)).2 (k + 1)
theorem or_bit (m k o i : Nat) : (m ||| (2 ^ k ||| 2 ^ o)).testBit i = (m.testBit i || (decide (k = i) || decide (o = i))) := by
  rw [Nat.testBit_or, Nat.testBit_or, Nat.testBit_two_pow, Nat.testBit_two_pow]
theorem gI2_set {k : Nat} : ∀ (d m c o : Nat), m.testBit k = true → gI2 pr k d m c o = (m, c)
  | 0, _, _, _, _ => rfl
  | d + 1, m, c, o, h => by
    show (if m.testBit k = false ∧ _ then _ else _) = _
    rw [if_neg (fun z => by rw [h] at z; exact absurd z.1 (by decide))]
    exact gI2_set d m c (o + 1) h
theorem gI2_find {k : Nat} : ∀ (d m c o : Nat), m.testBit k = false → (∀ i, o ≤ i → i < o + d → pr k i = 1 → m.testBit i = false) → (∀ a b, pr a b ≤ 1) → ((∀ i, o ≤ i → i < o + d → pr k i = 0) ∧ gI2 pr k d m c o = (m, c)) ∨ ∃ i, (o ≤ i ∧ i < o + d) ∧ pr k i = 1 ∧ (∀ j, o ≤ j → j < i → pr k j = 0) ∧ gI2 pr k d m c o = (m ||| (2 ^ k ||| 2 ^ i), c + 1)
  | 0, m, c, o, _, _, _ => Or.inl ⟨fun i a b => absurd b (by omega), rfl⟩
  | d + 1, m, c, o, h, hf, h1 => by
    by_cases q : pr k o = 1
    · refine Or.inr ⟨o, ⟨Nat.le_refl _, by omega⟩, q, fun j a b => absurd a (by omega), ?_⟩
      show (if m.testBit k = false ∧ m.testBit o = false ∧ pr k o = 1 then _ else _) = _
      rw [if_pos ⟨h, hf o (Nat.le_refl _) (by omega) q, q⟩]
      refine gI2_set d _ _ _ ?_
      rw [or_bit]
      simp
    · have q0 : pr k o = 0 := by have := h1 k o; omega
      have e : gI2 pr k (d + 1) m c o = gI2 pr k d m c (o + 1) := by
        show (if m.testBit k = false ∧ m.testBit o = false ∧ pr k o = 1 then _ else _) = _
        rw [if_neg (fun z => q z.2.2)]
      rw [e]
      rcases gI2_find d m c (o + 1) h (fun i a b => hf i (by omega) (by omega)) h1 with ⟨a, b⟩ | ⟨i, a, b, c', d'⟩
      · refine Or.inl ⟨fun i x y => ?_, b⟩
        by_cases e2 : i = o
        · rw [e2]; exact q0
        · exact a i (by omega) (by omega)
      · refine Or.inr ⟨i, ⟨by omega, by omega⟩, b, fun j x y => ?_, d'⟩
        by_cases e2 : j = o
        · rw [e2]; exact q0
        · exact c' j (by omega) y
theorem gO_eq (ok : PrOk pr) {n : Nat} : ∀ (d m c k : Nat), k + d = n → (∀ i, k ≤ i → i < n → m.testBit i = decide (bP pr k i = 1)) → c = sP pr k n → gO pr n d m c k = sP pr n n
  | 0, m, c, k, hk, _, hc => by
    rw [show k = n by omega] at hc
    exact hc
  | d + 1, m, c, k, hk, hm, hc => by
    show gO pr n d _ _ (k + 1) = _
    by_cases o : ah pr k k % 2 = 1
    · have bk : bP pr k k = 1 := bP_1.mpr ⟨o, by rw [show min k k = k by omega]⟩
      have tk : m.testBit k = true := by rw [hm k (Nat.le_refl _) (by omega), bk]; rfl
      have same : ∀ i, i < n → bP pr (k + 1) i = bP pr k i := fun i hi => by
        by_cases e : i ≤ k
        · exact bP_old e
        · by_cases q : pr k i = 1
          · rw [bP_odd ok (by omega) q o, bP_free (by omega) q]
          · exact bP_not (by omega) (by have := ok.1 k i; omega)
      rw [gI2_set _ _ _ _ tk]
      exact gO_eq ok d m c (k + 1) (by omega) (fun i a b => by rw [same i b]; exact hm i (by omega) b) (by rw [hc, sP_eq n same])
    · have o0 : ah pr k k % 2 = 0 := by omega
      have bk : ¬ bP pr k k = 1 := fun z => o (bP_1.mp z).1
      have tk : m.testBit k = false := by rw [hm k (Nat.le_refl _) (by omega)]; exact decide_eq_false bk
      rcases gI2_find (pr := pr) (k := k) (n - (k + 1)) m c (k + 1) tk (fun i a b q => by
        rw [hm i (by omega) (by omega), bP_free (by omega) q]
        rfl) ok.1 with ⟨a, b⟩ | ⟨i0, a, b, f, r⟩
      · have same : ∀ i, i < n → bP pr (k + 1) i = bP pr k i := fun i hi => by
          by_cases e : i ≤ k
          · exact bP_old e
          · exact bP_not (by omega) (a i (by omega) (by omega))
        rw [b]
        exact gO_eq ok d m c (k + 1) (by omega) (fun i a b => by rw [same i b]; exact hm i (by omega) b) (by rw [hc, sP_eq n same])
      · have h1 : bP pr (k + 1) i0 = 1 := bP_first ok (by omega) b o0 fun m x y => f m (by omega) y
        have h0 : bP pr k i0 = 0 := bP_free (by omega) b
        have same : ∀ i, i < n → i ≠ i0 → bP pr (k + 1) i = bP pr k i := fun i hi ne => by
          by_cases e : i ≤ k
          · exact bP_old e
          · by_cases q : pr k i = 1
            · have lt : i0 < i := by
                by_cases z : i < i0
                · have := f i (by omega) z
                  omega
                · omega
              rw [bP_later ok (by omega) lt q b, bP_free (by omega) q]
            · exact bP_not (by omega) (by have := ok.1 k i; omega)
        rw [r]
        refine gO_eq ok d _ _ (k + 1) (by omega) (fun i a' b' => ?_) (by rw [hc]; exact (sP_one h0 h1 n (by omega) same).symm)
        rw [or_bit]
        by_cases e : i = i0
        · subst e
          rw [h1]
          simp
        · rw [same i b' e, hm i (by omega) b']
          have x1 : ¬ k = i := by omega
          have x2 : ¬ i0 = i := by omega
          simp [x1, x2]
theorem greedy (ok : PrOk pr) (n : Nat) : gO pr n n 0 0 0 = sP pr n n := by
  have b0 : ∀ i, bP pr 0 i = 0 := fun i => by
    have q : ¬ bP pr 0 i = 1 := fun z => by
      have z2 := bP_1.mp z
      rw [show min 0 i = 0 by omega] at z2
      have z3 : (0 : Nat) = ah pr i i := z2.2
      omega
    have l := bP_le (pr := pr) 0 i
    omega
  have s0 : ∀ n, sP pr 0 n = 0 := fun n => by
    induction n with
    | zero => rfl
    | succ n ih => show sP pr 0 n + bP pr 0 n = 0; rw [ih, b0]
  refine gO_eq ok n 0 0 0 (by omega) (fun i a b => ?_) (s0 n).symm
  rw [b0, Nat.zero_testBit]
  rfl
end PAIRN
