section MSTATE
variable {X0 Y0 X Y : Mm} {T : Int → Int} {L z : Int} {c i : Nat} {f : Int} {A : Int → Int}
theorem MS.tok (k : TkF T L X0 c) (hi : i ≤ c) : TkE T L (gI X0 147 i) (gI X0 148 i) ∧ 0 ≤ gI X0 147 i := by
  obtain ⟨⟨te, sk⟩, -⟩ := tk_at k hi
  exact ⟨te, by have := sk.1; omega⟩
theorem MS.word (k : TkF T L X0 c) (hi : i ≤ c) (s : MS X0 Y0 Y T L z i 0 A) {q : Nat} (hq : q < 22) : fX12_isWord Y 164 q = some (i2 (wdt X0 T i q)) := by
  obtain ⟨te, s0⟩ := MS.tok k hi
  exact m_isWord s.1 s.2.2.1 hq s.2.2.2.1.1 s.2.2.2.1.2 s.2.2.2.2.1 s0 te
theorem MS.wordF (s : MS X0 Y0 Y T L z i 1 A) (q : Nat) : fX12_isWord Y 164 q = some (i2 0) := m_isWord1 s.1 q s.2.2.2.2.1
theorem MS.num (k : TkF T L X0 c) (hi : i ≤ c) (s : MS X0 Y0 Y T L z i f A) : fX12_numberHere Y 164 = some (i2 (nmt X0 T i)) := by
  obtain ⟨te, s0⟩ := MS.tok k hi
  exact m_numberHere s.1 s.2.2.1 s.2.2.2.1.1 s.2.2.2.1.2 s0 te
theorem MS.gkk (s : MS X0 Y0 Y T L z i f A) : gk Y 164 15 = some () := gk_m s.1
theorem MS.r9 (s : MS X0 Y0 Y T L z i f A) : rdI Y 164 15 9 = some (i2 f) := by rw [m_rd s.1 9, ← s.2.2.2.2.1]; rfl
theorem MS.nx (k : TkF T L X0 c) (hi : i < c) (s : MS X0 Y0 Y T L z i f A) : ∃ Z, fX12_next Y 164 = some Z ∧ MS X0 Y0 Z T L z (i + 1) f A := by
  obtain ⟨⟨te, sk⟩, -⟩ := tk_at k (show i + 1 ≤ c by omega)
  obtain ⟨Z, z1, z2, z3, z4⟩ := m_next s.1 s.2.2.1 (p := gI X0 148 i) s.2.2.2.1.2 sk te
  refine ⟨Z, z1, z2.2.1, s.2.1.tr z2.1.mt, z2.mt s.2.2.1, ⟨z3, z4⟩, (z2.2.2 9 (by decide) (by decide) (by decide)).trans s.2.2.2.2.1, fun j j0 j7 j8 j9 => (z2.2.2 j j0 j7 j8).trans (s.2.2.2.2.2.1 j j0 j7 j8 j9), fun w => ?_⟩
  rw [z2.1.2 168 (by decide)]
  exact s.2.2.2.2.2.2 w
/-- the fault is set -/
theorem MS.set (s : MS X0 Y0 Y T L z i 0 A) {v : Int} (hv : v = 0 ∨ v = 1) : ∃ Z, wrZ Y 164 15 9 (i2 v) = some Z ∧ MS X0 Y0 Z T L z i v A := by
  obtain ⟨s1, s2, s3, s4, s5, s6, s7⟩ := s
  have w : wrZ Y 164 15 9 (i2 v) = some (Y.row 164 (uA (gI Y 164) 9 v)) := by
    rcases hv with rfl | rfl
    · exact wrZ_0 s1.1.1 (by decide)
    · exact wrZ_1 s1.1.1 (by decide)
  have sm : SmP (fun q => q = 164) Y (Y.row 164 (uA (gI Y 164) 9 v)) := SmP.row Y _ rfl
  have fo : ∀ j : Int, 0 ≤ j → j ≠ 9 → gI (Y.row 164 (uA (gI Y 164) 9 v)) 164 j = gI Y 164 j := fun j j0 ne => gI_u_ne j0 ne
  refine ⟨_, w, s1.sm sm, s2.tr sm.mt, s3.sm sm.mt (fo 6 (by decide) (by decide)), ⟨(fo 7 (by decide) (by decide)).trans s4.1, (fo 8 (by decide) (by decide)).trans s4.2⟩, gI_u (by decide) (by omega) (by omega), fun j j0 j7 j8 j9 => (fo j j0 j9).trans (s6 j j0 j7 j8 j9), fun _ => ?_⟩
  rw [sm.2 168 (by decide)]
  exact s7 rfl
theorem row_self (M : Mm) (p : Nat) : M.row p (gI M p) = M := by
  refine (row_of ?_).symm
  funext j
  show M.g p j = i2 (gI M p j)
  unfold gI
  rw [i2_self]
  rfl
theorem MS.setF (s : MS X0 Y0 Y T L z i 1 A) : wrZ Y 164 15 9 (i2 1) = some Y := by
  have w : wrZ Y 164 15 9 (i2 1) = some (Y.row 164 (uA (gI Y 164) 9 1)) := wrZ_1 s.1.1.1 (by decide)
  rw [w]
  have e : uA (gI Y 164) 9 1 = gI Y 164 := by
    funext j
    unfold uA
    split
    · next h => rw [h]; exact s.2.2.2.2.1.symm
    · rfl
  rw [e, row_self]
theorem m_wants1 (k : TkF T L X0 c) (hi : i ≤ c) (s : MS X0 Y0 Y T L z i 0 A) {q : Nat} (hq : q < 22) (w : wdt X0 T i q = 1) : ∃ Z, fX12_wants Y 164 q = some Z ∧ MS X0 Y0 Z T L z (i + 1) 0 A := by
  obtain ⟨Z, z1, z2⟩ := s.set (v := 0) (Or.inl rfl)
  obtain ⟨W, w1, w2⟩ := z2.nx k (wdt_lt k hi hq w)
  refine ⟨W, ?_, w2⟩
  unfold fX12_wants
  rw [s.r9, B1_some, if_pos (by decide), s.gkk, B1_some, s.word k hi hq, w, B1_some, if_neg (by decide), L_0, z1, B1_some, z2.r9, B1_some, if_pos (by decide), z2.gkk, B1_some, w1, B1_some]
theorem m_wants0 (k : TkF T L X0 c) (hi : i ≤ c) (s : MS X0 Y0 Y T L z i 0 A) {q : Nat} (hq : q < 22) (w : wdt X0 T i q = 0) : ∃ Z, fX12_wants Y 164 q = some Z ∧ MS X0 Y0 Z T L z i 1 A := by
  obtain ⟨Z, z1, z2⟩ := s.set (v := 1) (Or.inr rfl)
  refine ⟨Z, ?_, z2⟩
  unfold fX12_wants
  rw [s.r9, B1_some, if_pos (by decide), s.gkk, B1_some, s.word k hi hq, w, B1_some, if_pos (by decide), L_1, z1, B1_some, z2.r9, B1_some, if_neg (by decide)]
theorem m_wantsF (s : MS X0 Y0 Y T L z i 1 A) (q : Nat) : fX12_wants Y 164 q = some Y := by
  unfold fX12_wants
  rw [s.r9, B1_some, if_neg (by decide), L_1, s.setF, B1_some, s.r9, B1_some, if_neg (by decide)]
theorem m_takes1 (k : TkF T L X0 c) (hi : i ≤ c) (s : MS X0 Y0 Y T L z i 0 A) {q : Nat} (hq : q < 22) (w : wdt X0 T i q = 1) : ∃ Z, fX12_takes Y 164 q = some (i2 1, Z) ∧ MS X0 Y0 Z T L z (i + 1) 0 A := by
  obtain ⟨W, w1, w2⟩ := s.nx k (wdt_lt k hi hq w)
  refine ⟨W, ?_, w2⟩
  unfold fX12_takes
  rw [s.gkk, B1_some, s.word k hi hq, w, B1_some, if_neg (by decide), B1_some, w1, B1_some]
  rfl
theorem m_takes0 (k : TkF T L X0 c) (hi : i ≤ c) (s : MS X0 Y0 Y T L z i 0 A) {q : Nat} (hq : q < 22) (w : wdt X0 T i q = 0) : fX12_takes Y 164 q = some (i2 0, Y) := by
  unfold fX12_takes
  rw [s.gkk, B1_some, s.word k hi hq, w, B1_some, if_pos (by decide)]
  rfl
theorem m_takesF (s : MS X0 Y0 Y T L z i 1 A) (q : Nat) : fX12_takes Y 164 q = some (i2 0, Y) := by
  unfold fX12_takes
  rw [s.gkk, B1_some, s.wordF q, B1_some, if_pos (by decide)]
  rfl
theorem m_inn (M : Mm) {x a b : Int} (x0 : -1 ≤ x) (x9 : x ≤ 99) (a0 : -1 ≤ a) (a9 : a ≤ 99) (b0 : -1 ≤ b) (b9 : b ≤ 99) : fX12_in M (i2 x).toInt64 (i2 a).toInt64 (i2 b).toInt64 = some (i2 (tf (a ≤ x ∧ x ≤ b))) := by
  rw [i2_j2 (by omega) (by omega), i2_j2 (by omega) (by omega), i2_j2 (by omega) (by omega), m_in M (by omega) (by omega) (by omega) (by omega) (by omega) (by omega)]
theorem m_num1 (k : TkF T L X0 c) (hi : i ≤ c) (s : MS X0 Y0 Y T L z i 0 A) {a b : Int} (a0 : 0 ≤ a) (h1 : a ≤ nmt X0 T i) (h2 : nmt X0 T i ≤ b) (b9 : b ≤ 99) : ∃ Z, fX12_number Y 164 (i2 a) (i2 b) = some (i2 (nmt X0 T i), Z) ∧ MS X0 Y0 Z T L z (i + 1) 0 A := by
  obtain ⟨Z, z1, z2⟩ := s.set (v := 0) (Or.inl rfl)
  obtain ⟨W, w1, w2⟩ := z2.nx k (nmt_lt k hi (by omega))
  refine ⟨W, ?_, w2⟩
  unfold fX12_number
  rw [s.gkk, B1_some, s.num k hi, B1_some, s.r9, B1_some, if_pos (by decide), m_inn Y (by omega) (by omega) (by omega) (by omega) (by omega) (by omega), tf_t ⟨h1, h2⟩, B1_some, if_neg (by decide), L_0, z1, B1_some, z2.r9, B1_some, if_pos (by decide), z2.gkk, B1_some, w1, B1_some]
theorem m_num0 (k : TkF T L X0 c) (hi : i ≤ c) (s : MS X0 Y0 Y T L z i 0 A) {a b : Int} (a0 : -1 ≤ a) (a9 : a ≤ 99) (b0 : 0 ≤ b) (b9 : b ≤ 99) (h : ¬ (a ≤ nmt X0 T i ∧ nmt X0 T i ≤ b)) : ∃ Z, fX12_number Y 164 (i2 a) (i2 b) = some (i2 (nmt X0 T i), Z) ∧ MS X0 Y0 Z T L z i 1 A := by
  obtain ⟨Z, z1, z2⟩ := s.set (v := 1) (Or.inr rfl)
  have nb := nmt_b X0 T i
  refine ⟨Z, ?_, z2⟩
  unfold fX12_number
  rw [s.gkk, B1_some, s.num k hi, B1_some, s.r9, B1_some, if_pos (by decide), m_inn Y (by omega) (by omega) (by omega) (by omega) (by omega) (by omega), tf_f h, B1_some, if_pos (by decide), L_1, z1, B1_some, z2.r9, B1_some, if_neg (by decide)]
theorem m_numF (k : TkF T L X0 c) (hi : i ≤ c) (s : MS X0 Y0 Y T L z i 1 A) (a b : Int32) : fX12_number Y 164 a b = some (i2 (nmt X0 T i), Y) := by
  unfold fX12_number
  rw [s.gkk, B1_some, s.num k hi, B1_some, s.r9, B1_some, if_neg (by decide), L_1, s.setF, B1_some, s.r9, B1_some, if_neg (by decide)]
/-- the row that is told is written -/
theorem MS.row {B A' : Int → Int} (s : MS X0 Y0 Y T L z i f A) (h : f = 0 → rI B = rI (uA A' 1 z)) : MS X0 Y0 (Y.row 168 B) T L z i f A' := by
  obtain ⟨s1, s2, s3, s4, s5, s6, s7⟩ := s
  have sm : SmP (fun q => q = 168) Y (Y.row 168 B) := SmP.row Y _ rfl
  have e4 : gI (Y.row 168 B) 164 = gI Y 164 := gI_ne _ (by decide)
  refine ⟨s1.sm sm, s2.tr ⟨sm.1, fun p hp => sm.2 p fun q => hp (Or.inr q)⟩, s3.sm ⟨sm.1, fun p hp => sm.2 p fun q => hp (Or.inr q)⟩ (by rw [e4]), by rw [e4]; exact s4, by rw [e4]; exact s5, fun j => by rw [e4]; exact s6 j, fun w => ?_⟩
  rw [row_g]
  exact h w
theorem MS.as (s : MS X0 Y0 Y T L z i f A) {x v : Int} (x0 : 0 ≤ x) (x8 : x < 158) (x1 : x ≠ 1) : ∃ Z, asI Y 168 (i2 x) (i2 v) = some Z ∧ MS X0 Y0 Z T L z i f (uA A x v) := by
  refine ⟨_, g_asI (ar_f s.1) x0 x8 (by omega), s.row fun w => ?_⟩
  have e := s.2.2.2.2.2.2 w
  funext j
  show i2 (uA (gI Y 168) x v j) = i2 (uA (uA A x v) 1 z j)
  have ej : i2 (gI Y 168 j) = i2 (uA A 1 z j) := by
    unfold gI
    rw [i2_self, e]
    show i2 (uA A 1 z (((j : Int).toNat : Nat) : Int)) = _
    rw [Int.toNat_natCast]
  by_cases w : (j : Int) = x
  · rw [w, uA_self, uA_ne x1, uA_self]
  · rw [uA_ne w, ej]
    by_cases w1 : (j : Int) = 1
    · rw [w1, uA_self, uA_self]
    · rw [uA_ne w1, uA_ne w1, uA_ne w]
theorem m_r3 (h : LayM Y) : rdN Y 164 15 3 = some 168 := by unfold rdN; rw [if_pos h.1.1]; exact h.1.2.2.2.2.1
theorem MS.at (s : MS X0 Y0 Y T L z i 0 A) {x : Int} (x0 : 0 ≤ x) (x8 : x < 158) (x1 : x ≠ 1) : alI Y 168 (i2 x) = some (i2 (A x)) := by
  rw [row_of (s.2.2.2.2.2.2 rfl), alI_row (ar_f s.1) x0 x8 (by omega), uA_ne x1]
/-- the kind told; the move told -/
def kdt (X0 : Mm) (T : Int → Int) (i : Nat) : Int := if wdt X0 T i 15 = 1 then 0 else if wdt X0 T i 10 = 1 then 1 else if wdt X0 T i 11 = 1 then 2 else if wdt X0 T i 12 = 1 then 3 else if wdt X0 T i 13 = 1 then 4 else if wdt X0 T i 14 = 1 then 5 else -1
def mvt (X0 : Mm) (T : Int → Int) (i : Nat) : Int := if wdt X0 T i 8 = 1 then 0 else if wdt X0 T i 5 = 1 then 1 else if wdt X0 T i 6 = 1 then 2 else if wdt X0 T i 7 = 1 then 3 else -1
theorem kdt_b (X0 : Mm) (T : Int → Int) (i : Nat) : -1 ≤ kdt X0 T i ∧ kdt X0 T i ≤ 5 := by
  unfold kdt
  repeat' split
  all_goals omega
theorem mvt_b (X0 : Mm) (T : Int → Int) (i : Nat) : -1 ≤ mvt X0 T i ∧ mvt X0 T i ≤ 3 := by
  unfold mvt
  repeat' split
  all_goals omega
theorem if_w {α : Type} {w : Int} (h : w = 0 ∨ w = 1) (a b : α) : (if i2 w = 0 then a else b) = if w = 1 then b else a := by
  rcases h with rfl | rfl <;> rfl
theorem CS.kind (s : CS X0 X T L c i f A) : fX8_kindHere X 109 = some (i2 (kdt X0 T i)) := by
  have u : ∀ (N : Nat) (v : Int32), fX8_kindHere_L2 X 109 (N + 1) v = if 5 < v then some (-1) else B1 (fX8_nameOfKind X v) fun x9 => B1 (gk X 109 11) fun _ => B1 (fX8_isName X 109 x9) fun x12 => if x12 = 0 then fX8_kindHere_L2 X 109 N (v + 1) else some v := fun _ _ => rfl
  have st : ∀ (N : Nat) (v v' : Int) (q : Nat), v' = v + 1 → 0 ≤ v → v ≤ 5 → fX8_nameOfKind X (i2 v) = some q → q < 20 → fX8_kindHere_L2 X 109 (N + 1) (i2 v) = if wdt X0 T i q = 1 then some (i2 v) else fX8_kindHere_L2 X 109 N (i2 v') := fun N v v' q hv v0 v5 hn hq => by
    rw [hv, u, if_neg (show ¬ 5 < i2 v by rw [L_5, i2_lt (by omega) (by omega) (by omega) (by omega)]; omega), hn, B1_some, s.gkk, B1_some, s.name hq, B1_some, if_w (wdt_01 _ _ _ _), L_1, i2_add]
  have e : fX8_kindHere_L2 X 109 (4089 + 1) (i2 6) = some (i2 (-1)) := rfl
  unfold fX8_kindHere kdt
  rw [show FL = 4089 + 1 + 1 + 1 + 1 + 1 + 1 + 1 from rfl, L_0, st _ 0 1 15 rfl (by decide) (by decide) rfl (by decide), st _ 1 2 10 rfl (by decide) (by decide) rfl (by decide), st _ 2 3 11 rfl (by decide) (by decide) rfl (by decide), st _ 3 4 12 rfl (by decide) (by decide) rfl (by decide), st _ 4 5 13 rfl (by decide) (by decide) rfl (by decide), st _ 5 6 14 rfl (by decide) (by decide) rfl (by decide), e]
  repeat' split
  all_goals rfl
theorem CS.move (s : CS X0 X T L c i f A) : fX8_moveHere X 109 = some (i2 (mvt X0 T i)) := by
  have u : ∀ (N : Nat) (v : Int32), fX8_moveHere_L2 X 109 (N + 1) v = if 3 < v then some (-1) else B1 (fX8_nameOfMove X v) fun x9 => B1 (gk X 109 11) fun _ => B1 (fX8_isName X 109 x9) fun x12 => if x12 = 0 then fX8_moveHere_L2 X 109 N (v + 1) else some v := fun _ _ => rfl
  have st : ∀ (N : Nat) (v v' : Int) (q : Nat), v' = v + 1 → 0 ≤ v → v ≤ 3 → fX8_nameOfMove X (i2 v) = some q → q < 20 → fX8_moveHere_L2 X 109 (N + 1) (i2 v) = if wdt X0 T i q = 1 then some (i2 v) else fX8_moveHere_L2 X 109 N (i2 v') := fun N v v' q hv v0 v5 hn hq => by
    rw [hv, u, if_neg (show ¬ 3 < i2 v by rw [L_3, i2_lt (by omega) (by omega) (by omega) (by omega)]; omega), hn, B1_some, s.gkk, B1_some, s.name hq, B1_some, if_w (wdt_01 _ _ _ _), L_1, i2_add]
  have e : fX8_moveHere_L2 X 109 (4091 + 1) (i2 4) = some (i2 (-1)) := rfl
  unfold fX8_moveHere mvt
  rw [show FL = 4091 + 1 + 1 + 1 + 1 + 1 from rfl, L_0, st _ 0 1 8 rfl (by decide) (by decide) rfl (by decide), st _ 1 2 5 rfl (by decide) (by decide) rfl (by decide), st _ 2 3 6 rfl (by decide) (by decide) rfl (by decide), st _ 3 4 7 rfl (by decide) (by decide) rfl (by decide), e]
  repeat' split
  all_goals rfl
theorem MS.kind (k : TkF T L X0 c) (hi : i ≤ c) (s : MS X0 Y0 Y T L z i 0 A) : fX12_kindHere Y 164 = some (i2 (kdt X0 T i)) := by
  have u : ∀ (N : Nat) (v : Int32), fX12_kindHere_L2 Y 164 (N + 1) v = if v < 0 then some v else B1 (fX12_nameOf Y v) fun x9 => B1 (gk Y 164 15) fun _ => B1 (fX12_isWord Y 164 x9) fun x12 => if x12 = 0 then fX12_kindHere_L2 Y 164 N (v + (-1)) else some v := fun _ _ => rfl
  have st : ∀ (N : Nat) (v v' : Int) (q : Nat), v' = v + (-1) → 0 ≤ v → v ≤ 5 → fX12_nameOf Y (i2 v) = some q → q < 22 → fX12_kindHere_L2 Y 164 (N + 1) (i2 v) = if wdt X0 T i q = 1 then some (i2 v) else fX12_kindHere_L2 Y 164 N (i2 v') := fun N v v' q hv v0 v5 hn hq => by
    rw [hv, u, if_neg (show ¬ i2 v < 0 by rw [L_0, i2_lt (by omega) (by omega) (by omega) (by omega)]; omega), hn, B1_some, s.gkk, B1_some, s.word k hi hq, B1_some, if_w (wdt_01 _ _ _ _), show (-1 : Int32) = i2 (-1) from rfl, i2_add]
  have e : fX12_kindHere_L2 Y 164 (4089 + 1) (i2 (-1)) = some (i2 (-1)) := rfl
  have one := fun (q q' : Nat) (hq : q < 22) (hq' : q' < 22) (ne : q ≠ q') (w : wdt X0 T i q = 1) => wdt_one (X0 := X0) (T := T) (i := i) hq hq' ne w
  unfold fX12_kindHere kdt
  rw [show FL = 4089 + 1 + 1 + 1 + 1 + 1 + 1 + 1 from rfl, L_5, st _ 5 (4) 14 rfl (by decide) (by decide) rfl (by decide), st _ 4 (3) 13 rfl (by decide) (by decide) rfl (by decide), st _ 3 (2) 12 rfl (by decide) (by decide) rfl (by decide), st _ 2 (1) 11 rfl (by decide) (by decide) rfl (by decide), st _ 1 (0) 10 rfl (by decide) (by decide) rfl (by decide), st _ 0 (-1) 15 rfl (by decide) (by decide) rfl (by decide), e]
  have z01 : ((0 : Int) = 1) = False := by simp
  by_cases h15 : wdt X0 T i 15 = 1
  · simp only [h15, one 15 10 (by decide) (by decide) (by decide) h15, one 15 11 (by decide) (by decide) (by decide) h15, one 15 12 (by decide) (by decide) (by decide) h15, one 15 13 (by decide) (by decide) (by decide) h15, one 15 14 (by decide) (by decide) (by decide) h15, z01, if_true, if_false]
  · skip
    by_cases h10 : wdt X0 T i 10 = 1
    · simp only [h15, h10, one 10 11 (by decide) (by decide) (by decide) h10, one 10 12 (by decide) (by decide) (by decide) h10, one 10 13 (by decide) (by decide) (by decide) h10, one 10 14 (by decide) (by decide) (by decide) h10, z01, if_true, if_false]
    · skip
      by_cases h11 : wdt X0 T i 11 = 1
      · simp only [h15, h10, h11, one 11 12 (by decide) (by decide) (by decide) h11, one 11 13 (by decide) (by decide) (by decide) h11, one 11 14 (by decide) (by decide) (by decide) h11, z01, if_true, if_false]
      · skip
        by_cases h12 : wdt X0 T i 12 = 1
        · simp only [h15, h10, h11, h12, one 12 13 (by decide) (by decide) (by decide) h12, one 12 14 (by decide) (by decide) (by decide) h12, z01, if_true, if_false]
        · skip
          by_cases h13 : wdt X0 T i 13 = 1
          · simp only [h15, h10, h11, h12, h13, one 13 14 (by decide) (by decide) (by decide) h13, z01, if_true, if_false]
          · skip
            by_cases h14 : wdt X0 T i 14 = 1
            · simp only [h15, h10, h11, h12, h13, h14, z01, if_true, if_false]
            · simp only [h15, h10, h11, h12, h13, h14, if_true, if_false]
theorem MS.move (k : TkF T L X0 c) (hi : i ≤ c) (s : MS X0 Y0 Y T L z i 0 A) : fX12_moveHere Y 164 = some (i2 (mvt X0 T i)) := by
  unfold fX12_moveHere mvt
  rw [s.gkk, B1_some, s.word k hi (q := 8) (by decide), B1_some, if_w (wdt_01 _ _ _ _), B1_some, s.word k hi (q := 5) (by decide), B1_some, if_w (wdt_01 _ _ _ _), B1_some, s.word k hi (q := 6) (by decide), B1_some, if_w (wdt_01 _ _ _ _), B1_some, s.word k hi (q := 7) (by decide), B1_some, if_w (wdt_01 _ _ _ _)]
  repeat' split
  all_goals rfl
end MSTATE
