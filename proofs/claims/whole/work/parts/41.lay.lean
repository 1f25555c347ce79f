/-! the layout of the world, and what the pure functions read and write -/
theorem B1_some {α γ : Type} (a : α) (f : α → Option γ) : B1 (some a) f = f a := rfl
theorem B2_some {α β γ : Type} (a : α) (b : β) (f : α → β → Option γ) : B2 (some (a, b)) f = f a b := rfl
/-! the same, so that what comes behind is not looked into ahead of its time -/
def TT1 {α γ : Type} (_ : α → Option γ) : Type := Unit
def TT2 {α β γ : Type} (_ : α → β → Option γ) : Type := Unit
def BP {α γ : Type} (f : α → Option γ) (_ : TT1 f) (o : Option α) : Option γ := B1 o f
def BQ {α β γ : Type} (f : α → β → Option γ) (_ : TT2 f) (o : Option (α × β)) : Option γ := B2 o f
theorem B1_bp {α γ : Type} (o : Option α) (f : α → Option γ) : B1 o f = BP f () o := rfl
theorem B2_bp {α β γ : Type} (o : Option (α × β)) (f : α → β → Option γ) : B2 o f = BQ f () o := rfl
theorem BP_some {α γ : Type} (f : α → Option γ) (a : α) : BP f () (some a) = f a := rfl
theorem BQ_some {α β γ : Type} (f : α → β → Option γ) (a : α) (b : β) : BQ f () (some (a, b)) = f a b := rfl
def TT3 {α : Type} (_ : Option α) (_ : Nat → Option α) : Type := Unit
def BNP {α : Type} (a : Option α) (b : Nat → Option α) (_ : TT3 a b) (r : Option Nat) : Option α := NL r a b
theorem NL_bp {α : Type} (r : Option Nat) (a : Option α) (b : Nat → Option α) : NL r a b = BNP a b () r := rfl
theorem BNP_none {α : Type} (a : Option α) (b : Nat → Option α) : BNP a b () none = a := rfl
theorem BNP_some {α : Type} (a : Option α) (b : Nat → Option α) (x : Nat) : BNP a b () (some x) = b x := rfl
def LayS (M : Mm) (o : Nat) : Prop := M.k o = 10 ∧ M.r o 9 = some (o + 1) ∧ M.r o 10 = some (o + 2) ∧ M.k (o + 1) = 21 ∧ M.len (o + 1) = 2 ∧ M.k (o + 2) = 21 ∧ M.len (o + 2) = 2
def LayW (M : Mm) (o : Nat) : Prop := M.k o = 13 ∧ M.r o 1 = some (o + 1) ∧ M.r o 2 = some (o + 2) ∧ M.k (o + 1) = 21 ∧ M.len (o + 1) = 10 ∧ M.k (o + 2) = 21 ∧ M.len (o + 2) = 10
def LayD (M : Mm) (B : Nat) : Prop := (M.k B = 3 ∧ M.r B 0 = some (B + 1) ∧ M.r B 1 = some (B + 2) ∧ M.r B 3 = some (B + 3) ∧ M.r B 4 = some (B + 4)) ∧ (M.k (B + 1) = 21 ∧ M.len (B + 1) = 8) ∧ (M.k (B + 2) = 23 ∧ M.len (B + 2) = 8) ∧ (M.k (B + 3) = 21 ∧ M.len (B + 3) = 2) ∧ (M.k (B + 4) = 24 ∧ M.len (B + 4) = 2) ∧ (∀ w : Nat, w < 2 → M.r (B + 4) w = some (B + 5 + 3 * w) ∧ LayW M (B + 5 + 3 * w)) ∧ (∀ i : Nat, i < 8 → M.r (B + 2) i = some (B + 11 + 3 * i) ∧ LayS M (B + 11 + 3 * i))
/-- the reference's cells -/
def LayM (M : Mm) : Prop := (M.k 164 = 15 ∧ M.r 164 0 = some 165 ∧ M.r 164 1 = some 166 ∧ M.r 164 2 = some 167 ∧ M.r 164 3 = some 168 ∧ M.r 164 5 = some 169 ∧ M.r 164 10 = some 170 ∧ M.r 164 12 = some 171 ∧ M.r 164 13 = some 172 ∧ M.r 164 14 = some 173 ∧ M.r 164 15 = some 174 ∧ M.r 164 16 = some 175 ∧ M.r 164 17 = some 176 ∧ M.r 164 18 = some 177 ∧ M.r 164 19 = some 178) ∧ (∀ p : Nat, 165 ≤ p → p ≤ 168 → M.k p = 21 ∧ M.len p = 158) ∧ (M.k 169 = 21 ∧ M.len 169 = 200) ∧ (M.k 170 = 21 ∧ M.len 170 = 30) ∧ (M.k 171 = 21 ∧ M.len 171 = 30) ∧ (M.k 172 = 21 ∧ M.len 172 = 4) ∧ (M.k 173 = 21 ∧ M.len 173 = 4) ∧ (M.k 174 = 22 ∧ M.len 174 = 160) ∧ (∀ p : Nat, 175 ≤ p → p ≤ 177 → M.k p = 21 ∧ M.len p = 4) ∧ (M.k 178 = 21 ∧ M.len 178 = 30)
/-- the component's cells -/
def LayC (M : Mm) : Prop := (M.k 0 = 14 ∧ M.r 0 0 = some 1 ∧ M.r 0 1 = some 36 ∧ M.r 0 3 = some 71 ∧ M.r 0 4 = some 106 ∧ M.r 0 5 = some 109 ∧ M.r 0 6 = some 149 ∧ M.r 0 8 = some 160 ∧ M.r 0 9 = some 161 ∧ M.r 0 10 = some 162 ∧ M.r 0 11 = some 163) ∧ LayD M 1 ∧ LayD M 36 ∧ LayD M 71 ∧ LayD M 111 ∧ LayS M 106 ∧ (M.k 109 = 11 ∧ M.r 109 0 = some 110 ∧ M.r 109 2 = some 111 ∧ M.r 109 3 = some 146 ∧ M.r 109 4 = some 147 ∧ M.r 109 5 = some 148) ∧ (M.k 110 = 21 ∧ M.len 110 = 200) ∧ (∀ p : Nat, 146 ≤ p → p ≤ 148 → M.k p = 21 ∧ M.len p = 201) ∧ (M.k 149 = 26 ∧ M.len 149 = 10 ∧ ∀ i : Nat, i < 10 → M.r 149 i = some (150 + i)) ∧ (∀ i : Nat, i < 10 → M.k (150 + i) = 21 ∧ M.len (150 + i) = 3) ∧ (M.k 160 = 25 ∧ M.len 160 = 4) ∧ (M.k 161 = 21 ∧ M.len 161 = 4) ∧ (M.k 162 = 25 ∧ M.len 162 = 4) ∧ M.k 163 = 2
/-! reading and writing, by Int -/
def rI (A : Int → Int) : Nat → Int32 := fun j => i2 (A j)
def uA (A : Int → Int) (x v : Int) : Int → Int := fun y => if y = x then v else A y
theorem uA_self (A : Int → Int) (x v : Int) : uA A x v x = v := if_pos rfl
theorem uA_ne {A : Int → Int} {x v y : Int} (h : ¬ y = x) : uA A x v y = A y := if_neg h
/-- another content of the cell p -/
def Mm.row (M : Mm) (p : Nat) (A : Int → Int) : Mm := M.wg (va_up M.g p (rI A))
theorem row_g (M : Mm) (p : Nat) (A : Int → Int) : (M.row p A).g p = rI A := va_up_self _ _ _
theorem row_g_ne {M : Mm} {p q : Nat} (A : Int → Int) (h : q ≠ p) : (M.row p A).g q = M.g q := va_up_ne _ _ h
theorem row_row (M : Mm) (p : Nat) (A A' : Int → Int) : (M.row p A).row p A' = M.row p A' := by
  have e : (va_up (va_up M.g p (rI A)) p (rI A')) = va_up M.g p (rI A') := by
    funext a
    unfold va_up
    split <;> rfl
  show M.wg _ = M.wg _
  exact congrArg M.wg e
theorem row_of {M : Mm} {p : Nat} {A : Int → Int} (h : M.g p = rI A) : M = M.row p A := by
  have e : va_up M.g p (rI A) = M.g := by
    funext a
    unfold va_up
    split
    · rename_i e; rw [e, h]
    · rfl
  show M = M.wg _
  rw [e]
  rfl
theorem row_comm {M : Mm} {p q : Nat} (A A' : Int → Int) (h : p ≠ q) : (M.row p A).row q A' = (M.row q A').row p A := by
  have e : va_up (va_up M.g p (rI A)) q (rI A') = va_up (va_up M.g q (rI A')) p (rI A) := by
    funext a
    unfold va_up
    by_cases h1 : a = q
    · rw [if_pos h1, if_neg (fun h2 => h (h2.symm.trans h1)), if_pos h1]
    · rw [if_neg h1]
      split
      · rfl
      · rfl
  exact congrArg M.wg e
theorem row_sg {M : Mm} {p : Nat} {A : Int → Int} {x v : Int} (h0 : 0 ≤ x) (h1 : x < 2147483648) : (M.row p A).sg p (i2 x).toNatClampNeg (i2 v) = M.row p (uA A x v) := by
  have e : up2 (va_up M.g p (rI A)) p (i2 x).toNatClampNeg (i2 v) = va_up M.g p (rI (uA A x v)) := by
    funext a i
    rw [i2_nat (by omega) h1]
    unfold up2 va_up rI uA
    by_cases h : a = p
    · by_cases h2 : (i : Int) = x
      · have h3 : i = x.toNat := by omega
        rw [if_pos ⟨h, h3⟩, if_pos h, if_pos h2]
      · have : ¬ i = x.toNat := by omega
        simp [h, h2, this]
    · simp [h]
  exact congrArg M.wg e
theorem rdN_row (M : Mm) (p : Nat) (A : Int → Int) (a kd j : Nat) : rdN (M.row p A) a kd j = rdN M a kd j := rfl
theorem gk_row (M : Mm) (p : Nat) (A : Int → Int) (a kd : Nat) : gk (M.row p A) a kd = gk M a kd := rfl
theorem alN_row (M : Mm) (p : Nat) (A : Int → Int) (a kd : Nat) (i : Int32) : alN (M.row p A) a kd i = alN M a kd i := rfl
theorem alN__row (M : Mm) (p : Nat) (A : Int → Int) (a : Nat) : alN_ (M.row p A) a = alN_ M a := rfl
theorem rdI_row {M : Mm} {p : Nat} {A : Int → Int} {a kd j : Nat} (h : a ≠ p) : rdI (M.row p A) a kd j = rdI M a kd j := by
  unfold rdI
  rw [show (M.row p A).g a = M.g a from row_g_ne A h]
  rfl
theorem alI_ne {M : Mm} {p : Nat} {A : Int → Int} {a : Nat} {i : Int32} (h : a ≠ p) : alI (M.row p A) a i = alI M a i := by
  unfold alI
  rw [show (M.row p A).g a = M.g a from row_g_ne A h]
  rfl
/-- an int array at p of N ints -/
def Ar (M : Mm) (p N : Nat) : Prop := M.k p = 21 ∧ M.len p = N
theorem alI_row {M : Mm} {p N : Nat} {A : Int → Int} {x : Int} (h : Ar M p N) (h0 : 0 ≤ x) (h1 : x < N) (h2 : x < 2147483648) : alI (M.row p A) p (i2 x) = some (i2 (A x)) := by
  unfold alI
  rw [if_pos, row_g]
  · show some (i2 (A (((i2 x).toNatClampNeg : Nat) : Int))) = _
    rw [i2_nat (by omega) h2, show ((x.toNat : Nat) : Int) = x by omega]
  · refine ⟨h.1, ?_⟩
    show inB _ (M.len p) = true
    rw [h.2, i2_inB (by omega) h2]
    simp [h0, h1]
theorem asI_row {M : Mm} {p N : Nat} {A : Int → Int} {x v : Int} (h : Ar M p N) (h0 : 0 ≤ x) (h1 : x < N) (h2 : x < 2147483648) : asI (M.row p A) p (i2 x) (i2 v) = some (M.row p (uA A x v)) := by
  unfold asI
  rw [if_pos, row_sg h0 h2]
  refine ⟨h.1, ?_⟩
  show inB _ (M.len p) = true
  rw [h.2, i2_inB (by omega) h2]
  simp [h0, h1]
theorem tf_t {p : Prop} [Decidable p] (h : p) : tf p = 1 := if_pos h
theorem tf_f {p : Prop} [Decidable p] (h : ¬ p) : tf p = 0 := if_neg h
theorem tf_0 {p : Prop} [Decidable p] : (i2 (tf p) = i2 0) = ¬ p := by
  by_cases h : p
  · rw [tf_t h]; simp [h]; decide +kernel
  · rw [tf_f h]; simp [h]
theorem tf_bz {p : Prop} [Decidable p] : bz (i2 (tf p)) = some (i2 (tf p)) := by
  by_cases h : p
  · rw [tf_t h]; rfl
  · rw [tf_f h]; rfl
theorem tf_if {p : Prop} [Decidable p] : (if p then some (i2 1) else some (i2 0)) = some (i2 (tf p)) := by
  by_cases h : p
  · rw [tf_t h, if_pos h]
  · rw [tf_f h, if_neg h]
theorem tf_ifn {p : Prop} [Decidable p] : (if p then some (i2 0) else some (i2 1)) = some (i2 (tf (¬ p))) := by
  by_cases h : p
  · rw [tf_f (fun q => q h), if_pos h]
  · rw [tf_t h, if_neg h]
/-! longs -/
def j2 (x : Int) : Int64 := Int64.ofInt x
theorem i2_j2 {a : Int} (h1 : -2147483648 ≤ a) (h2 : a < 2147483648) : (i2 a).toInt64 = j2 a := by
  apply Int64.toInt_inj.mp
  rw [Int32.toInt_toInt64, i2_toInt h1 h2]
  exact (Int64.toInt_ofInt_of_le (by omega) (by omega)).symm
theorem j2_toInt {a : Int} (h1 : -9223372036854775808 ≤ a) (h2 : a < 9223372036854775808) : (j2 a).toInt = a := Int64.toInt_ofInt_of_le h1 h2
theorem j2_lt {a b : Int} (h1 : -9223372036854775808 ≤ a) (h2 : a < 9223372036854775808) (h3 : -9223372036854775808 ≤ b) (h4 : b < 9223372036854775808) : (j2 a < j2 b) = (a < b) := by
  rw [Int64.lt_iff_toInt_lt, j2_toInt h1 h2, j2_toInt h3 h4]
theorem j2_eq {a b : Int} (h1 : -9223372036854775808 ≤ a) (h2 : a < 9223372036854775808) (h3 : -9223372036854775808 ≤ b) (h4 : b < 9223372036854775808) : (j2 a = j2 b) = (a = b) := by
  rw [← Int64.toInt_inj, j2_toInt h1 h2, j2_toInt h3 h4]
