section TOK
variable {M X : Mm}
/-- the sort of a byte -/
def cls (b : Int) : Int := if b = 32 then 1 else if 97 ≤ b ∧ b ≤ 122 then 2 else if 48 ≤ b ∧ b ≤ 57 then 3 else 4
theorem cls_b (b : Int) : 1 ≤ cls b ∧ cls b ≤ 4 := by
  unfold cls
  repeat' split
  all_goals omega
theorem cls_1 {b : Int} : (cls b = 1) = (b = 32) := by
  unfold cls
  repeat' split
  all_goals (apply propext; omega)
theorem cls_2 {b : Int} : (cls b = 2) = (97 ≤ b ∧ b ≤ 122) := by
  unfold cls
  repeat' split
  all_goals (apply propext; omega)
theorem cls_3 {b : Int} : (cls b = 3) = (48 ≤ b ∧ b ≤ 57) := by
  unfold cls
  repeat' split
  all_goals (apply propext; omega)
/-- behind p all is blank up to q -/
def Skp (T : Int → Int) (L p q : Int) : Prop := (0 ≤ p ∧ p ≤ q ∧ q ≤ L) ∧ (∀ r, p ≤ r → r < q → cls (T r) = 1) ∧ (q < L → cls (T q) ≠ 1)
/-- the token that begins at q ends at e -/
def Tke (T : Int → Int) (L q e : Int) : Prop := (q < e ∧ e ≤ L) ∧ (cls (T q) = 4 → e = q + 1) ∧ (cls (T q) ≠ 4 → (∀ r, q ≤ r → r < e → cls (T r) = cls (T q)) ∧ (e < L → cls (T e) ≠ cls (T q)))
def pe (E : Int → Int) : Nat → Int
  | 0 => 0
  | j + 1 => E j
/-- the tape of the component -/
def Tp (X : Mm) (T : Int → Int) (L : Int) : Prop := gI X 109 1 = L ∧ (0 ≤ L ∧ L ≤ 200) ∧ ∀ i : Int, 0 ≤ i → i < L → gI X 110 i = T i ∧ 0 ≤ T i ∧ T i ≤ 255
theorem c_sortOf (M : Mm) {b : Int} (b0 : 0 ≤ b) (b9 : b ≤ 255) : fX8_sortOf M (i2 b) = some (i2 (cls b)) := by
  have w1 := c_isWithin M (a := b) (b := 97) (c := 122) (by omega) (by omega) (by decide) (by decide) (by decide) (by decide)
  have w2 := c_isWithin M (a := b) (b := 48) (c := 57) (by omega) (by omega) (by decide) (by decide) (by decide) (by decide)
  have e1 : (i2 b = 32) = (b = 32) := i2_eq (b := 32) (by omega) (by omega) (by decide) (by decide)
  have n1 : ¬ i2 1 = i2 0 := by decide
  unfold fX8_sortOf cls
  by_cases h1 : b = 32
  · rw [if_pos (e1.mpr h1), if_pos h1]
    rfl
  · rw [if_neg (fun z => h1 (e1.mp z)), if_neg h1]
    rw [show fX11_isWithin M (i2 b) 97 122 = _ from w1, B1_some, show (0 : Int32) = i2 0 from rfl]
    by_cases h2 : 97 ≤ b ∧ b ≤ 122
    · rw [tf_t h2, if_neg n1, if_pos h2]
      rfl
    · rw [tf_f h2, if_pos rfl, if_neg h2]
      rw [show fX11_isWithin M (i2 b) 48 57 = _ from w2, B1_some]
      by_cases h3 : 48 ≤ b ∧ b ≤ 57
      · rw [tf_t h3, if_neg n1, if_pos h3]
        rfl
      · rw [tf_f h3, if_pos rfl, if_neg h3]
        rfl
theorem tp_k (h : LayC X) : X.k 109 = 11 := h.2.2.2.2.2.2.1.1
theorem tp_gk (h : LayC X) : gk X 109 11 = some () := if_pos (tp_k h)
theorem tp_rd (h : LayC X) (j : Nat) : rdI X 109 11 j = some (i2 (gI X 109 j)) := g_rdI (tp_k h) j
theorem tp_r0 (h : LayC X) : rdN X 109 11 0 = some 110 := by unfold rdN; rw [if_pos (tp_k h)]; exact h.2.2.2.2.2.2.1.2.1
theorem tp_r2 (h : LayC X) : rdN X 109 11 2 = some 111 := by unfold rdN; rw [if_pos (tp_k h)]; exact h.2.2.2.2.2.2.1.2.2.1
theorem tp_r3 (h : LayC X) : rdN X 109 11 3 = some 146 := by unfold rdN; rw [if_pos (tp_k h)]; exact h.2.2.2.2.2.2.1.2.2.2.1
theorem tp_r4 (h : LayC X) : rdN X 109 11 4 = some 147 := by unfold rdN; rw [if_pos (tp_k h)]; exact h.2.2.2.2.2.2.1.2.2.2.2.1
theorem tp_r5 (h : LayC X) : rdN X 109 11 5 = some 148 := by unfold rdN; rw [if_pos (tp_k h)]; exact h.2.2.2.2.2.2.1.2.2.2.2.2
theorem tp_ar (h : LayC X) : Ar X 110 200 := h.2.2.2.2.2.2.2.1
theorem tp_a3 (h : LayC X) : Ar X 146 201 := h.2.2.2.2.2.2.2.2.1 146 (by decide) (by decide)
theorem tp_a4 (h : LayC X) : Ar X 147 201 := h.2.2.2.2.2.2.2.2.1 147 (by decide) (by decide)
theorem tp_a5 (h : LayC X) : Ar X 148 201 := h.2.2.2.2.2.2.2.2.1 148 (by decide) (by decide)
theorem tp_al (h : LayC X) {T : Int → Int} {L : Int} (tp : Tp X T L) {i : Int} (i0 : 0 ≤ i) (i1 : i < L) : alI X 110 (i2 i) = some (i2 (T i)) := by
  rw [g_alI (tp_ar h) i0 (by have := tp.2.1; omega) (by have := tp.2.1; omega), (tp.2.2 i i0 i1).1]
theorem c_L30 (h : LayC X) {T : Int → Int} {L q : Int} (tp : Tp X T L) (q0 : 0 ≤ q) (q1 : q < L) : ∀ (d N : Nat) (v : Int), d < N → q < v → v + d = L → (∀ r, q ≤ r → r < v → cls (T r) = cls (T q)) → (cls (T q) = 4 → v = q + 1) → ∃ e, Tke T L q e ∧ ∀ kk, fX8_part_L30 kk 109 (i2 q) (i2 (cls (T q))) N (i2 v) X = kk (i2 e) X := by
  have u : ∀ (kk : Int32 → Mm → Option Mm) (a b : Int32) (N : Nat) (v : Int32), fX8_part_L30 kk 109 a b (N + 1) v X = if b = 4 then kk v X else B1 (rdI X 109 11 1) fun x => if x ≤ v then kk v X else B1 (rdN X 109 11 0) fun y => B1 (alI X y v) fun z => B1 (fX8_sortOf X z) fun w => if w = b then fX8_part_L30 kk 109 a b N (v + 1) X else kk v X := fun _ _ _ _ _ => rfl
  have t1 : rdI X 109 11 1 = some (i2 L) := by rw [tp_rd h 1, ← tp.1]; rfl
  have cb := cls_b (T q)
  have e4 : (i2 (cls (T q)) = 4) = (cls (T q) = 4) := i2_eq (b := 4) (by omega) (by omega) (by decide) (by decide)
  have tl := tp.2.1
  intro d
  induction d with
  | zero =>
    intro N v hN hq hv hr h4
    obtain ⟨N, rfl⟩ : ∃ k, N = k + 1 := ⟨N - 1, by omega⟩
    refine ⟨v, ⟨⟨hq, by omega⟩, h4, fun _ => ⟨hr, fun z => by omega⟩⟩, fun kk => ?_⟩
    rw [u, t1, B1_some, if_pos (show i2 L ≤ i2 v by rw [i2_le (by omega) (by omega) (by omega) (by omega)]; omega)]
    split <;> rfl
  | succ d ih =>
    intro N v hN hq hv hr h4
    obtain ⟨N, rfl⟩ : ∃ k, N = k + 1 := ⟨N - 1, by omega⟩
    by_cases c4 : cls (T q) = 4
    · refine ⟨v, ⟨⟨hq, by omega⟩, h4, fun z => absurd c4 z⟩, fun kk => ?_⟩
      rw [u, if_pos (e4.mpr c4)]
    · have al := tp_al h tp (i := v) (by omega) (by omega)
      have bb := (tp.2.2 v (by omega) (by omega)).2
      have so := c_sortOf X bb.1 bb.2
      have cv := cls_b (T v)
      have ee : (i2 (cls (T v)) = i2 (cls (T q))) = (cls (T v) = cls (T q)) := i2_eq (by omega) (by omega) (by omega) (by omega)
      have st : ∀ kk, fX8_part_L30 kk 109 (i2 q) (i2 (cls (T q))) (N + 1) (i2 v) X = if cls (T v) = cls (T q) then fX8_part_L30 kk 109 (i2 q) (i2 (cls (T q))) N (i2 (v + 1)) X else kk (i2 v) X := fun kk => by
        rw [u, if_neg (fun z => c4 (e4.mp z)), t1, B1_some, if_neg (show ¬ i2 L ≤ i2 v by rw [i2_le (by omega) (by omega) (by omega) (by omega)]; omega), tp_r0 h, B1_some, al, B1_some, so, B1_some, L_1, i2_add]
        by_cases w : cls (T v) = cls (T q)
        · rw [if_pos (ee.mpr w), if_pos w]
        · rw [if_neg (fun z => w (ee.mp z)), if_neg w]
      by_cases cq : cls (T v) = cls (T q)
      · obtain ⟨e, e1, e2⟩ := ih N (v + 1) (by omega) (by omega) (by omega) (fun r r0 r1 => by
          by_cases w : r = v
          · rw [w]; exact cq
          · exact hr r r0 (by omega)) fun z => absurd z c4
        exact ⟨e, e1, fun kk => by rw [st, if_pos cq, e2]⟩
      · exact ⟨v, ⟨⟨hq, by omega⟩, fun z => absurd z c4, fun _ => ⟨hr, fun _ => cq⟩⟩, fun kk => by rw [st, if_neg cq]⟩
/-- the cells of the tokens -/
def TkP (p : Nat) : Prop := p = 109 ∨ (146 ≤ p ∧ p ≤ 148)
theorem c_addTok (h : LayC X) {c : Nat} (hc : gI X 109 6 = c) (c9 : c < 201) {a b e : Int} (ab : -2147483648 ≤ a ∧ a < 2147483648) (bb : -2147483648 ≤ b ∧ b < 2147483648) (eb : -2147483648 ≤ e ∧ e < 2147483648) : ∃ Y, fX8_addToken X 109 (i2 a) (i2 b) (i2 e) = some Y ∧ SmP TkP X Y ∧ gI Y 109 6 = c + 1 ∧ (∀ j : Int, 0 ≤ j → j ≠ 6 → gI Y 109 j = gI X 109 j) ∧ (∀ j : Nat, gI Y 146 j = if j = c then a else gI X 146 j) ∧ (∀ j : Nat, gI Y 147 j = if j = c then b else gI X 147 j) ∧ ∀ j : Nat, gI Y 148 j = if j = c then e else gI X 148 j := by
  have r6 : rdI X 109 11 6 = some (i2 c) := by rw [tp_rd h 6, ← hc]; rfl
  have an : alN_ X 146 = some (i2 201) := by
    have k := tp_a3 h
    unfold alN_
    rw [k.2, if_pos (by rw [k.1]; decide)]
    rfl
  have w1 := g_asI (M := X) (tp_a3 h) (x := c) (v := a) (by omega) (by omega) (by omega)
  have s1 : SmP TkP X (X.row 146 (uA (gI X 146) c a)) := SmP.row X _ (by unfold TkP; omega)
  have f1 : ∀ j : Nat, gI (X.row 146 (uA (gI X 146) c a)) 146 j = if j = c then a else gI X 146 j := fun j => by
    by_cases w : j = c
    · rw [if_pos w, w]; exact gI_u (by omega) ab.1 ab.2
    · rw [if_neg w]; exact gI_u_ne (by omega) (by omega)
  have o1 : ∀ p, p ≠ 146 → gI (X.row 146 (uA (gI X 146) c a)) p = gI X p := fun p hp => gI_ne _ hp
  have h1 : LayC (X.row 146 (uA (gI X 146) c a)) := h.sm s1
  generalize X.row 146 (uA (gI X 146) c a) = X1 at w1 s1 f1 o1 h1
  have w2 := g_asI (M := X1) (tp_a4 h1) (x := c) (v := b) (by omega) (by omega) (by omega)
  have s2 : SmP TkP X1 (X1.row 147 (uA (gI X1 147) c b)) := SmP.row X1 _ (by unfold TkP; omega)
  have f2 : ∀ j : Nat, gI (X1.row 147 (uA (gI X1 147) c b)) 147 j = if j = c then b else gI X 147 j := fun j => by
    by_cases w : j = c
    · rw [if_pos w, w]; exact gI_u (by omega) bb.1 bb.2
    · rw [if_neg w, ← o1 147 (by decide)]; exact gI_u_ne (by omega) (by omega)
  have o2 : ∀ p, p ≠ 147 → gI (X1.row 147 (uA (gI X1 147) c b)) p = gI X1 p := fun p hp => gI_ne _ hp
  have h2 : LayC (X1.row 147 (uA (gI X1 147) c b)) := h1.sm s2
  generalize X1.row 147 (uA (gI X1 147) c b) = X2 at w2 s2 f2 o2 h2
  have w3 := g_asI (M := X2) (tp_a5 h2) (x := c) (v := e) (by omega) (by omega) (by omega)
  have s3 : SmP TkP X2 (X2.row 148 (uA (gI X2 148) c e)) := SmP.row X2 _ (by unfold TkP; omega)
  have f3 : ∀ j : Nat, gI (X2.row 148 (uA (gI X2 148) c e)) 148 j = if j = c then e else gI X 148 j := fun j => by
    by_cases w : j = c
    · rw [if_pos w, w]; exact gI_u (by omega) eb.1 eb.2
    · rw [if_neg w, ← o1 148 (by decide), ← o2 148 (by decide)]; exact gI_u_ne (by omega) (by omega)
  have o3 : ∀ p, p ≠ 148 → gI (X2.row 148 (uA (gI X2 148) c e)) p = gI X2 p := fun p hp => gI_ne _ hp
  have h3 : LayC (X2.row 148 (uA (gI X2 148) c e)) := h2.sm s3
  generalize X2.row 148 (uA (gI X2 148) c e) = X3 at w3 s3 f3 o3 h3
  have q1 : rdI X1 109 11 6 = some (i2 c) := by rw [tp_rd h1 6, o1 109 (by decide), ← hc]; rfl
  have q2 : rdI X2 109 11 6 = some (i2 c) := by rw [tp_rd h2 6, o2 109 (by decide), o1 109 (by decide), ← hc]; rfl
  have q3 : rdI X3 109 11 6 = some (i2 c) := by rw [tp_rd h3 6, o3 109 (by decide), o2 109 (by decide), o1 109 (by decide), ← hc]; rfl
  have w4 := g_wrI (M := X3) (p := 109) (kd := 11) (j := 6) (v := c + 1) (tp_k h3) (by decide)
  rw [show ((6 : Nat) : Int) = 6 from rfl] at w4
  have s4 : SmP TkP X3 (X3.row 109 (uA (gI X3 109) 6 (c + 1))) := SmP.row X3 _ (by unfold TkP; omega)
  refine ⟨_, ?_, ((s1.tr s2).tr s3).tr s4, gI_u (by decide) (by omega) (by omega), fun j j0 j1 => ?_, fun j => ?_, fun j => ?_, fun j => ?_⟩
  · unfold fX8_addToken
    rw [r6, B1_some, tp_r3 h, B1_some, an, B1_some, if_neg (by rw [i2_le (by decide) (by decide) (by omega) (by omega)]; omega), B1_some, B1_some, w1, B1_some, tp_r4 h1, B1_some, q1, B1_some, w2, B1_some, tp_r5 h2, B1_some, q2, B1_some, w3, B1_some, q3, B1_some, L_1, i2_add, w4, B1_some]
  · rw [gI_u_ne j0 j1, o3 109 (by decide), o2 109 (by decide), o1 109 (by decide)]
  · rw [gI_ne _ (by decide), o3 146 (by decide), o2 146 (by decide)]; exact f1 j
  · rw [gI_ne _ (by decide), o3 147 (by decide)]; exact f2 j
  · rw [gI_ne _ (by decide)]; exact f3 j
end TOK
