/-! THE REFERENCE, by Int: its row s is the cell 165, the rows kept, aside and fresh are 166, 167, 168 -/
theorem gk_m {M : Mm} (h : LayM M) : gk M 164 15 = some () := if_pos h.1.1
theorem rdm0 {M : Mm} (h : LayM M) : rdN M 164 15 0 = some 165 := by unfold rdN; rw [if_pos h.1.1]; exact h.1.2.1
theorem rdm1 {M : Mm} (h : LayM M) : rdN M 164 15 1 = some 166 := by unfold rdN; rw [if_pos h.1.1]; exact h.1.2.2.1
theorem rdm2 {M : Mm} (h : LayM M) : rdN M 164 15 2 = some 167 := by unfold rdN; rw [if_pos h.1.1]; exact h.1.2.2.2.1
theorem rdm3 {M : Mm} (h : LayM M) : rdN M 164 15 3 = some 168 := by unfold rdN; rw [if_pos h.1.1]; exact h.1.2.2.2.2.1
theorem ar_s {M : Mm} (h : LayM M) : Ar M 165 158 := h.2.1 165 (by decide) (by decide)
theorem ar_k {M : Mm} (h : LayM M) : Ar M 166 158 := h.2.1 166 (by decide) (by decide)
theorem ar_a {M : Mm} (h : LayM M) : Ar M 167 158 := h.2.1 167 (by decide) (by decide)
theorem ar_f {M : Mm} (h : LayM M) : Ar M 168 158 := h.2.1 168 (by decide) (by decide)
theorem m_in (M : Mm) {a b c : Int} (h1 : -9223372036854775808 ≤ a) (h2 : a < 9223372036854775808) (h3 : -9223372036854775808 ≤ b) (h4 : b < 9223372036854775808) (h5 : -9223372036854775808 ≤ c) (h6 : c < 9223372036854775808) : fX12_in M (j2 a) (j2 b) (j2 c) = some (i2 (tf (b ≤ a ∧ a ≤ c))) := by
  have e1 : (lg_cmp (j2 a) (j2 b) < 0) = (a < b) := by
    unfold lg_cmp
    simp only [GT.gt, j2_lt h3 h4 h1 h2, j2_eq h1 h2 h3 h4]
    by_cases q1 : b < a
    · rw [if_pos q1]; simp; omega
    · rw [if_neg q1]
      by_cases q2 : a = b
      · rw [if_pos q2]; simp; omega
      · rw [if_neg q2]; simp; omega
  have e2 : (0 < lg_cmp (j2 a) (j2 c)) = (c < a) := by
    unfold lg_cmp
    simp only [GT.gt, j2_lt h5 h6 h1 h2, j2_eq h1 h2 h5 h6]
    by_cases q1 : c < a
    · rw [if_pos q1]; simp [q1]
    · rw [if_neg q1]
      by_cases q2 : a = c
      · rw [if_pos q2]; simp; omega
      · rw [if_neg q2]; simp; omega
  unfold fX12_in
  simp only [e1, e2]
  by_cases q : b ≤ a ∧ a ≤ c
  · rw [tf_t q, if_neg (by omega), if_neg (by omega)]; rfl
  · rw [tf_f q]
    by_cases q1 : a < b
    · rw [if_pos q1]; rfl
    · rw [if_neg q1, if_pos (by omega)]; rfl
section MOD
variable {M : Mm} {A : Int → Int}
def its (A : Int → Int) (k j : Int) : Int := A (54 + 13 * k + j)
theorem m_its (h : LayM M) {k w : Int} (k0 : 0 ≤ k) (k8 : k < 8) (w0 : 0 ≤ w) (w13 : w < 13) : fX12_its (M.row 165 A) 164 (i2 k) (i2 w) = some (i2 (its A k w)) := by
  unfold fX12_its
  simp -dsimp (disch := omega) only [↓B1_bp, ↓B2_bp, BP_some, BQ_some, ↓reduceIte, gk_row, rdN_row, alN_row, alN__row, gk_m h, rdm0 h, rdm1 h, rdm2 h, rdm3 h, i2_add, i2_sub, i2_mul, i2_neg, Int.reduceAdd, Int.reduceSub, Int.reduceMul, Int.reduceNeg, Int.reduceLT, Int.reduceLE, Int.reduceEq, alI_row (ar_s h), asI_row (ar_s h), L_54, L_13, its]
theorem m_sets (h : LayM M) {k w v : Int} (k0 : 0 ≤ k) (k8 : k < 8) (w0 : 0 ≤ w) (w13 : w < 13) : fX12_sets (M.row 165 A) 164 (i2 k) (i2 w) (i2 v) = some (M.row 165 (uA A (54 + 13 * k + w) v)) := by
  unfold fX12_sets
  simp -dsimp (disch := omega) only [↓B1_bp, ↓B2_bp, BP_some, BQ_some, ↓reduceIte, gk_row, rdN_row, alN_row, alN__row, gk_m h, rdm0 h, rdm1 h, rdm2 h, rdm3 h, i2_add, i2_sub, i2_mul, i2_neg, Int.reduceAdd, Int.reduceSub, Int.reduceMul, Int.reduceNeg, Int.reduceLT, Int.reduceLE, Int.reduceEq, alI_row (ar_s h), asI_row (ar_s h), L_54, L_13]
theorem m_hasLadder (h : LayM M) {k : Int} (k0 : 0 ≤ k) (k8 : k < 8) (b : -2147483648 ≤ its A k 6 ∧ its A k 6 < 2147483648) : fX12_hasLadder (M.row 165 A) 164 (i2 k) = some (i2 (tf (0 ≤ its A k 6))) := by
  unfold fX12_hasLadder
  simp -dsimp (disch := omega) only [↓B1_bp, ↓B2_bp, BP_some, BQ_some, ↓reduceIte, gk_row, rdN_row, alN_row, alN__row, gk_m h, rdm0 h, rdm1 h, rdm2 h, rdm3 h, L_0, L_1, L_2, L_3, L_4, L_5, L_6, L_7, L_8, L_9, L_10, L_11, L_12, L_13, L_54, L_14, L_99, L_20, L_30, L_31, L_60, L_19, m_its h, i2_lt, tf_ifn, Int.not_lt]
/-- a stocking's thirteen numbers -/
def stA (A : Int → Int) (k : Int) : Int → Int := fun j => A (54 + 13 * k + j)
def putA (A : Int → Int) (k : Int) (S : Int → Int) : Int → Int := fun y => if 54 + 13 * k ≤ y ∧ y < 54 + 13 * k + 13 then S (y - 54 - 13 * k) else A y
theorem put_st (A : Int → Int) (k : Int) : putA A k (stA A k) = A := by
  funext y
  unfold putA stA
  split
  · congr 1; omega
  · rfl
theorem put_put (A : Int → Int) (k : Int) (S S' : Int → Int) : putA (putA A k S) k S' = putA A k S' := by
  funext y
  unfold putA
  split
  · rfl
  · rfl
theorem put_its {A S : Int → Int} {k w : Int} (w0 : 0 ≤ w) (w13 : w < 13) : its (putA A k S) k w = S w := by
  unfold its putA
  rw [if_pos (by omega)]
  congr 1
  omega
theorem put_lo {A S : Int → Int} {k x : Int} (k0 : 0 ≤ k) (h : x < 54) : putA A k S x = A x := if_neg (by omega)
theorem put_uA {A S : Int → Int} {k w v : Int} (w0 : 0 ≤ w) (w13 : w < 13) : uA (putA A k S) (54 + 13 * k + w) v = putA A k (uA S w v) := by
  funext y
  unfold uA putA
  by_cases e : y = 54 + 13 * k + w
  · rw [if_pos e, if_pos (by omega)]
    exact (if_pos (by omega)).symm
  · rw [if_neg e]
    split
    · exact (if_neg (by omega)).symm
    · rfl
theorem m_itsP {S : Int → Int} (h : LayM M) {k w : Int} (k0 : 0 ≤ k) (k8 : k < 8) (w0 : 0 ≤ w) (w13 : w < 13) : fX12_its (M.row 165 (putA A k S)) 164 (i2 k) (i2 w) = some (i2 (S w)) := by
  rw [m_its h k0 k8 w0 w13, put_its w0 w13]
theorem m_setsP {S : Int → Int} (h : LayM M) {k w v : Int} (k0 : 0 ≤ k) (k8 : k < 8) (w0 : 0 ≤ w) (w13 : w < 13) : fX12_sets (M.row 165 (putA A k S)) 164 (i2 k) (i2 w) (i2 v) = some (M.row 165 (putA A k (uA S w v))) := by
  rw [m_sets h k0 k8 w0 w13, put_uA w0 w13]
/-- what a stocking's numbers keep to -/
def GS (S : Int → Int) : Prop := (0 ≤ S 0 ∧ S 0 ≤ 5) ∧ (0 ≤ S 1 ∧ S 1 ≤ 9) ∧ (0 ≤ S 2 ∧ S 2 ≤ 3) ∧ (1 ≤ S 3 ∧ S 3 ≤ 30) ∧ (0 ≤ S 4 ∧ S 4 ≤ S 3) ∧ (0 ≤ S 5 ∧ S 5 ≤ 3) ∧ ((S 6 = -1 ∧ S 7 = -1) ∨ (0 ≤ S 6 ∧ S 6 ≤ S 7 ∧ S 7 ≤ 99)) ∧ (0 ≤ S 8 ∧ S 8 ≤ 2) ∧ (0 ≤ S 9 ∧ S 9 ≤ 99) ∧ (0 ≤ S 10 ∧ S 10 ≤ 99) ∧ (0 ≤ S 11 ∧ S 11 ≤ 5) ∧ (0 ≤ S 12 ∧ S 12 ≤ 5) ∧ (S 8 = 2 → S 9 ≠ S 10)
/-- what the laws keep to (law j stands at j) -/
def GL (L : Int → Int) : Prop := (0 ≤ L 0 ∧ L 0 ≤ 9) ∧ (0 ≤ L 1 ∧ L 1 ≤ 20) ∧ (1 ≤ L 2 ∧ L 2 ≤ 5) ∧ (0 ≤ L 3 ∧ L 3 ≤ 30) ∧ (31 ≤ L 4 ∧ L 4 ≤ 100) ∧ (0 ≤ L 5 ∧ L 5 ≤ 99) ∧ (1 ≤ L 6 ∧ L 6 ≤ 999) ∧ (0 ≤ L 7 ∧ L 7 ≤ 10)
def lwA (A : Int → Int) : Int → Int := fun j => A (4 + j)
/-- wet dabs are lost -/
def lwS (S : Int → Int) : Int → Int := fun j => if j = 8 then tf (1 ≤ S 8 ∧ S 11 = 0) + tf (2 ≤ S 8 ∧ S 12 = 0) else if j = 9 then (if ¬ (1 ≤ S 8 ∧ S 11 = 0) ∧ (2 ≤ S 8 ∧ S 12 = 0) then S 10 else S 9) else if j = 11 then (if ¬ (1 ≤ S 8 ∧ S 11 = 0) ∧ (2 ≤ S 8 ∧ S 12 = 0) then 0 else S 11) else S j
theorem FL3 : ∃ n, FL = n + 1 + 1 + 1 := ⟨4093, rfl⟩
theorem m_loses {S : Int → Int} (h : LayM M) {k : Int} (k0 : 0 ≤ k) (k8 : k < 8) (g : GS S) : fX12_losesWet (M.row 165 (putA A k S)) 164 (i2 k) = some (M.row 165 (putA A k (lwS S))) := by
  obtain ⟨-, -, -, -, -, -, -, ⟨g8, g8'⟩, g9, g10, ⟨g11, g11'⟩, ⟨g12, g12'⟩, gd⟩ := g
  obtain ⟨n, hn⟩ := FL3
  unfold fX12_losesWet
  rw [hn]
  have fin : ∀ T : Int → Int, T = lwS S → some (M.row 165 (putA A k T)) = some (M.row 165 (putA A k (lwS S))) := fun T e => by rw [e]
  rcases (by omega : S 8 = 0 ∨ S 8 = 1 ∨ S 8 = 2) with e | e | e <;>
  · simp -dsimp (disch := omega) only [fX12_losesWet_L4, e, ↓B1_bp, ↓B2_bp, BP_some, BQ_some, ↓reduceIte, gk_row, rdN_row, alN_row, alN__row, gk_m h, rdm0 h, rdm1 h, rdm2 h, rdm3 h, L_0, L_1, L_2, L_3, L_4, L_5, L_6, L_7, L_8, L_9, L_10, L_11, L_12, L_13, L_54, L_14, L_99, L_20, L_30, L_31, L_60, L_19, i2_add, i2_sub, i2_mul, i2_neg, Int.reduceAdd, Int.reduceSub, Int.reduceMul, Int.reduceNeg, Int.reduceLT, Int.reduceLE, Int.reduceEq, m_itsP h, m_setsP h, i2_le, i2_eq, uA_self, uA_ne]
    (repeat' split) <;> refine fin _ (funext fun j => ?_) <;> simp only [lwS, uA, tf] <;> (repeat' split) <;> first | omega | (subst_vars; first | rfl | omega) | (simp_all; done) | (simp_all; omega)
def dryS (m : Int) (S : Int → Int) : Int → Int := fun j => if (j = 11 ∧ 1 ≤ S 8) ∨ (j = 12 ∧ 2 ≤ S 8) then max 0 (S j - m) else S j
def byK (kd a p : Int) : Int := if kd = 1 then 2 * p else if kd = 2 then 0 else if kd = 3 then 2 * p else if kd = 4 then min p a else if kd = 5 then (if p = 0 then 0 else p + a) else p
def dnP (L : Int → Int) (mv : Int) : Int := if mv = 2 then L 1 else if mv = 1 then L 1 else L 0
def upP (L : Int → Int) (mv : Int) : Int := if mv = 2 then L 1 else 0
def lo0 (L : Int → Int) (mv : Int) (S : Int → Int) : Int := if S 0 = 3 then max (max 0 (S 6 - byK (S 0) (S 1) (dnP L mv))) (if S 6 = 0 then 0 else (S 6 - 1) / 10 * 10) else max 0 (S 6 - byK (S 0) (S 1) (dnP L mv))
def hi0 (L : Int → Int) (mv : Int) (S : Int → Int) : Int := if S 0 = 3 then min (min 99 (S 7 + byK (S 0) (S 1) (upP L mv))) ((S 7 / 10 + 1) * 10) else min 99 (S 7 + byK (S 0) (S 1) (upP L mv))
def lo1 (L : Int → Int) (mv : Int) (S : Int → Int) : Int := if 1 ≤ S 8 ∧ S 9 < S 6 then max (lo0 L mv S) (S 9 + 1) else lo0 L mv S
def hi1 (L : Int → Int) (mv : Int) (S : Int → Int) : Int := if 1 ≤ S 8 ∧ S 7 < S 9 then min (hi0 L mv S) (S 9 - 1) else hi0 L mv S
def lowS (L : Int → Int) (mv : Int) (S : Int → Int) : Int := if 2 ≤ S 8 ∧ S 10 < S 6 then max (lo1 L mv S) (S 10 + 1) else lo1 L mv S
def higS (L : Int → Int) (mv : Int) (S : Int → Int) : Int := if 2 ≤ S 8 ∧ S 7 < S 10 then min (hi1 L mv S) (S 10 - 1) else hi1 L mv S
def ladS (L : Int → Int) (mv : Int) (S : Int → Int) : Int → Int := uA (uA S 6 (lowS L mv S)) 7 (higS L mv S)
/-- a move of one stocking, or a minute that it stands -/
def mvS (L : Int → Int) (mv : Int) (S : Int → Int) : Int → Int := if mv = 3 then dryS 1 S else if 0 ≤ lwS S 6 then ladS L mv (lwS S) else lwS S
theorem lwS_at (S : Int → Int) {j : Int} (h8 : j ≠ 8) (h9 : j ≠ 9) (h11 : j ≠ 11) : lwS S j = S j := by
  unfold lwS
  rw [if_neg h8, if_neg h9, if_neg h11]
theorem GS.lw {S : Int → Int} (g : GS S) : GS (lwS S) := by
  obtain ⟨g0, g1, g2, g3, g4, g5, g6, g8, g9, g10, g11, g12, gd⟩ := g
  refine ⟨g0, g1, g2, g3, g4, g5, g6, ?_, ?_, g10, ?_, g12, ?_⟩
  · show 0 ≤ tf _ + tf _ ∧ tf _ + tf _ ≤ 2
    unfold tf
    repeat' split
    all_goals omega
  · show 0 ≤ (if _ then S 10 else S 9) ∧ (if _ then S 10 else S 9) ≤ 99
    split <;> assumption
  · show 0 ≤ (if _ then 0 else S 11) ∧ (if _ then 0 else S 11) ≤ 5
    split <;> omega
  · show tf _ + tf _ = 2 → (if _ then S 10 else S 9) ≠ S 10
    unfold tf
    repeat' split
    all_goals omega
theorem GS.dry {S : Int → Int} {m : Int} (g : GS S) (m0 : 0 ≤ m) : GS (dryS m S) := by
  obtain ⟨g0, g1, g2, g3, g4, g5, g6, g8, g9, g10, g11, g12, gd⟩ := g
  refine ⟨g0, g1, g2, g3, g4, g5, g6, g8, g9, g10, ?_, ?_, gd⟩ <;>
  · unfold dryS
    split <;> omega
theorem byK_b {kd a p : Int} (a0 : 0 ≤ a) (a9 : a ≤ 9) (p0 : 0 ≤ p) (p9 : p ≤ 20) : 0 ≤ byK kd a p ∧ byK kd a p ≤ 40 := by
  unfold byK
  repeat' split
  all_goals omega
theorem dnP_b {L : Int → Int} (g : GL L) (mv : Int) : 0 ≤ dnP L mv ∧ dnP L mv ≤ 20 := by
  obtain ⟨g0, g1, -⟩ := g
  unfold dnP
  repeat' split
  all_goals omega
theorem upP_b {L : Int → Int} (g : GL L) (mv : Int) : 0 ≤ upP L mv ∧ upP L mv ≤ 20 := by
  obtain ⟨g0, g1, -⟩ := g
  unfold upP
  repeat' split
  all_goals omega
theorem lowS_b {L S : Int → Int} (gl : GL L) (g : GS S) (h6 : 0 ≤ S 6) (mv : Int) : (0 ≤ lo0 L mv S ∧ lo0 L mv S ≤ S 6) ∧ (0 ≤ lo1 L mv S ∧ lo1 L mv S ≤ S 6) ∧ (0 ≤ lowS L mv S ∧ lowS L mv S ≤ S 6) := by
  obtain ⟨g0, g1, g2, g3, g4, g5, g6, g8, g9, g10, g11, g12, gd⟩ := g
  have hb := byK_b (kd := S 0) g1.1 g1.2 (dnP_b gl mv).1 (dnP_b gl mv).2
  have e0 : 0 ≤ lo0 L mv S ∧ lo0 L mv S ≤ S 6 := by
    unfold lo0
    repeat' split
    all_goals omega
  have e1 : 0 ≤ lo1 L mv S ∧ lo1 L mv S ≤ S 6 := by
    unfold lo1
    split <;> omega
  refine ⟨e0, e1, ?_⟩
  unfold lowS
  split <;> omega
theorem higS_b {L S : Int → Int} (gl : GL L) (g : GS S) (h6 : 0 ≤ S 6) (mv : Int) : (S 7 ≤ hi0 L mv S ∧ hi0 L mv S ≤ 99) ∧ (S 7 ≤ hi1 L mv S ∧ hi1 L mv S ≤ 99) ∧ (S 7 ≤ higS L mv S ∧ higS L mv S ≤ 99) := by
  obtain ⟨g0, g1, g2, g3, g4, g5, g6, g8, g9, g10, g11, g12, gd⟩ := g
  have hb := byK_b (kd := S 0) g1.1 g1.2 (upP_b gl mv).1 (upP_b gl mv).2
  have e0 : S 7 ≤ hi0 L mv S ∧ hi0 L mv S ≤ 99 := by
    unfold hi0
    repeat' split
    all_goals omega
  have e1 : S 7 ≤ hi1 L mv S ∧ hi1 L mv S ≤ 99 := by
    unfold hi1
    split <;> omega
  refine ⟨e0, e1, ?_⟩
  unfold higS
  split <;> omega
theorem GS.lad {L S : Int → Int} {mv : Int} (gl : GL L) (g : GS S) (h6 : 0 ≤ S 6) : GS (ladS L mv S) := by
  have hl := (lowS_b gl g h6 mv).2.2
  have hh := (higS_b gl g h6 mv).2.2
  obtain ⟨g0, g1, g2, g3, g4, g5, g6, g8, g9, g10, g11, g12, gd⟩ := g
  refine ⟨g0, g1, g2, g3, g4, g5, Or.inr ?_, g8, g9, g10, g11, g12, gd⟩
  show 0 ≤ lowS L mv S ∧ lowS L mv S ≤ higS L mv S ∧ higS L mv S ≤ 99
  omega
theorem GS.mv {L S : Int → Int} {mv : Int} (gl : GL L) (g : GS S) : GS (mvS L mv S) := by
  unfold mvS
  split
  · exact g.dry (by decide)
  · split
    · exact g.lw.lad gl (by assumption)
    · exact g.lw
theorem m_law {S : Int → Int} (h : LayM M) {k x : Int} (k0 : 0 ≤ k) (x0 : 0 ≤ x) (x8 : x < 54) : alI (M.row 165 (putA A k S)) 165 (i2 x) = some (i2 (A x)) := by
  rw [alI_row (ar_s h) x0 (by omega) (by omega), put_lo k0 x8]
theorem m_plainly {S : Int → Int} (h : LayM M) {k mv dn : Int} (k0 : 0 ≤ k) (h0 : 0 ≤ mv) (h3 : mv < 3) (d0 : 0 ≤ dn) (d1 : dn ≤ 1) : fX12_plainly (M.row 165 (putA A k S)) 164 (i2 mv) (i2 dn) = some (i2 (if dn = 0 then upP (lwA A) mv else dnP (lwA A) mv)) := by
  unfold fX12_plainly upP dnP lwA
  rcases (by omega : mv = 0 ∨ mv = 1 ∨ mv = 2) with e | e | e <;> rcases (by omega : dn = 0 ∨ dn = 1) with e2 | e2 <;> subst e e2 <;>
  · simp -dsimp (disch := omega) only [↓B1_bp, ↓B2_bp, BP_some, BQ_some, ↓reduceIte, gk_row, rdN_row, alN_row, alN__row, gk_m h, rdm0 h, rdm1 h, rdm2 h, rdm3 h, L_0, L_1, L_2, L_3, L_4, L_5, L_6, L_7, L_8, L_9, L_10, L_11, L_12, L_13, L_54, L_14, L_99, L_20, L_30, L_31, L_60, L_19, i2_add, i2_sub, i2_mul, i2_neg, Int.reduceAdd, Int.reduceSub, Int.reduceMul, Int.reduceNeg, Int.reduceLT, Int.reduceLE, Int.reduceEq, m_itsP h, m_setsP h, i2_le, i2_lt, i2_eq, uA_self, uA_ne, m_law h]
theorem m_runs {S : Int → Int} (h : LayM M) (gl : GL (lwA A)) (g : GS S) {k mv dn : Int} (k0 : 0 ≤ k) (k8 : k < 8) (h0 : 0 ≤ mv) (h3 : mv < 3) (d0 : 0 ≤ dn) (d1 : dn ≤ 1) : fX12_runs (M.row 165 (putA A k S)) 164 (i2 k) (i2 mv) (i2 dn) = some (i2 (byK (S 0) (S 1) (if dn = 0 then upP (lwA A) mv else dnP (lwA A) mv))) := by
  have hp : 0 ≤ (if dn = 0 then upP (lwA A) mv else dnP (lwA A) mv) ∧ (if dn = 0 then upP (lwA A) mv else dnP (lwA A) mv) ≤ 20 := by
    have := dnP_b gl mv
    have := upP_b gl mv
    split <;> omega
  generalize hP : (if dn = 0 then upP (lwA A) mv else dnP (lwA A) mv) = P at hp
  obtain ⟨g0, g1, -⟩ := g
  unfold fX12_runs byK
  simp -dsimp (disch := omega) only [↓B1_bp, ↓B2_bp, BP_some, BQ_some, ↓reduceIte, gk_row, rdN_row, alN_row, alN__row, gk_m h, rdm0 h, rdm1 h, rdm2 h, rdm3 h, L_0, L_1, L_2, L_3, L_4, L_5, L_6, L_7, L_8, L_9, L_10, L_11, L_12, L_13, L_54, L_14, L_99, L_20, L_30, L_31, L_60, L_19, i2_add, i2_sub, i2_mul, i2_neg, Int.reduceAdd, Int.reduceSub, Int.reduceMul, Int.reduceNeg, Int.reduceLT, Int.reduceLE, Int.reduceEq, m_itsP h, m_setsP h, i2_le, i2_lt, i2_eq, uA_self, uA_ne, m_plainly h, hP, i2_min]
  repeat' split
  all_goals first | rfl | omega
theorem m_lowestBy {S : Int → Int} (h : LayM M) (gl : GL (lwA A)) (g : GS S) {k mv : Int} (k0 : 0 ≤ k) (k8 : k < 8) (h0 : 0 ≤ mv) (h3 : mv < 3) (h6 : 0 ≤ S 6) : fX12_lowestBy (M.row 165 (putA A k S)) 164 (i2 k) (i2 mv) = some (i2 (lo0 (lwA A) mv S)) := by
  have hr := m_runs (A := A) h gl g (k := k) (mv := mv) (dn := 1) k0 k8 h0 h3 (by decide) (by decide)
  rw [if_neg (by decide)] at hr
  obtain ⟨g0, g1, g2, g3, g4, g5, g6, g8, g9, g10, g11, g12, gd⟩ := g
  have hb := byK_b (kd := S 0) g1.1 g1.2 (dnP_b gl mv).1 (dnP_b gl mv).2
  unfold fX12_lowestBy lo0
  simp -dsimp (disch := omega) only [↓B1_bp, ↓B2_bp, BP_some, BQ_some, ↓reduceIte, gk_row, rdN_row, alN_row, alN__row, gk_m h, rdm0 h, rdm1 h, rdm2 h, rdm3 h, L_0, L_1, L_2, L_3, L_4, L_5, L_6, L_7, L_8, L_9, L_10, L_11, L_12, L_13, L_54, L_14, L_99, L_20, L_30, L_31, L_60, L_19, i2_add, i2_sub, i2_mul, i2_neg, Int.reduceAdd, Int.reduceSub, Int.reduceMul, Int.reduceNeg, Int.reduceLT, Int.reduceLE, Int.reduceEq, m_itsP h, m_setsP h, i2_le, i2_lt, i2_eq, uA_self, uA_ne, hr, i2_max, i2_div, Int.tdiv_eq_ediv_of_nonneg]
  repeat' split
  all_goals first | rfl | (congr 2; omega) | omega
theorem m_highestBy {S : Int → Int} (h : LayM M) (gl : GL (lwA A)) (g : GS S) {k mv : Int} (k0 : 0 ≤ k) (k8 : k < 8) (h0 : 0 ≤ mv) (h3 : mv < 3) (h6 : 0 ≤ S 6) : fX12_highestBy (M.row 165 (putA A k S)) 164 (i2 k) (i2 mv) = some (i2 (hi0 (lwA A) mv S)) := by
  have hr := m_runs (A := A) h gl g (k := k) (mv := mv) (dn := 0) k0 k8 h0 h3 (by decide) (by decide)
  rw [if_pos rfl] at hr
  obtain ⟨g0, g1, g2, g3, g4, g5, g6, g8, g9, g10, g11, g12, gd⟩ := g
  have hb := byK_b (kd := S 0) g1.1 g1.2 (upP_b gl mv).1 (upP_b gl mv).2
  unfold fX12_highestBy hi0
  simp -dsimp (disch := omega) only [↓B1_bp, ↓B2_bp, BP_some, BQ_some, ↓reduceIte, gk_row, rdN_row, alN_row, alN__row, gk_m h, rdm0 h, rdm1 h, rdm2 h, rdm3 h, L_0, L_1, L_2, L_3, L_4, L_5, L_6, L_7, L_8, L_9, L_10, L_11, L_12, L_13, L_54, L_14, L_99, L_20, L_30, L_31, L_60, L_19, i2_add, i2_sub, i2_mul, i2_neg, Int.reduceAdd, Int.reduceSub, Int.reduceMul, Int.reduceNeg, Int.reduceLT, Int.reduceLE, Int.reduceEq, m_itsP h, m_setsP h, i2_le, i2_lt, i2_eq, uA_self, uA_ne, hr, i2_min, i2_div, Int.tdiv_eq_ediv_of_nonneg]
  repeat' split
  all_goals first | rfl | (congr 2; omega) | omega
theorem m_hasP {S : Int → Int} (h : LayM M) {k : Int} (k0 : 0 ≤ k) (k8 : k < 8) (g : GS S) : fX12_hasLadder (M.row 165 (putA A k S)) 164 (i2 k) = some (i2 (tf (0 ≤ S 6))) := by
  obtain ⟨g0, g1, g2, g3, g4, g5, g6, g8, g9, g10, g11, g12, gd⟩ := g
  rw [m_hasLadder h k0 k8 (by rw [put_its (by decide) (by decide)]; omega), put_its (by decide) (by decide)]
theorem m_ladder {S : Int → Int} (h : LayM M) {k a b : Int} (k0 : 0 ≤ k) (k8 : k < 8) : fX12_ladder (M.row 165 (putA A k S)) 164 (i2 k) (i2 a) (i2 b) = some (M.row 165 (putA A k (uA (uA S 6 a) 7 b))) := by
  unfold fX12_ladder
  simp -dsimp (disch := omega) only [↓B1_bp, ↓B2_bp, BP_some, BQ_some, ↓reduceIte, gk_row, rdN_row, alN_row, alN__row, gk_m h, rdm0 h, rdm1 h, rdm2 h, rdm3 h, L_0, L_1, L_2, L_3, L_4, L_5, L_6, L_7, L_8, L_9, L_10, L_11, L_12, L_13, L_54, L_14, L_99, L_20, L_30, L_31, L_60, L_19, i2_add, i2_sub, i2_mul, i2_neg, Int.reduceAdd, Int.reduceSub, Int.reduceMul, Int.reduceNeg, Int.reduceLT, Int.reduceLE, Int.reduceEq, m_itsP h, m_setsP h, i2_le, i2_lt, i2_eq, uA_self, uA_ne]
theorem m_ladderRuns {S : Int → Int} (h : LayM M) (gl : GL (lwA A)) (g : GS S) {k mv : Int} (k0 : 0 ≤ k) (k8 : k < 8) (h0 : 0 ≤ mv) (h3 : mv < 3) (h6 : 0 ≤ S 6) : fX12_ladderRuns (M.row 165 (putA A k S)) 164 (i2 k) (i2 mv) = some (M.row 165 (putA A k (ladS (lwA A) mv S))) := by
  obtain ⟨n, hn⟩ := FL3
  have hl := lowS_b gl g h6 mv
  have hh := higS_b gl g h6 mv
  have h1 := m_lowestBy (A := A) h gl g k0 k8 h0 h3 h6
  have h2 := m_highestBy (A := A) h gl g k0 k8 h0 h3 h6
  obtain ⟨g0, g1, g2, g3, g4, g5, g6, g8, g9, g10, g11, g12, gd⟩ := g
  have fin : ∀ a b : Int, a = lowS (lwA A) mv S → b = higS (lwA A) mv S → some (M.row 165 (putA A k (uA (uA S 6 a) 7 b))) = some (M.row 165 (putA A k (ladS (lwA A) mv S))) := fun a b e1 e2 => by rw [e1, e2]; rfl
  unfold fX12_ladderRuns
  rw [hn]
  rcases (by omega : S 8 = 0 ∨ S 8 = 1 ∨ S 8 = 2) with e | e | e <;>
  · simp -dsimp (disch := omega) only [fX12_ladderRuns_L18, e, ↓B1_bp, ↓B2_bp, BP_some, BQ_some, ↓reduceIte, gk_row, rdN_row, alN_row, alN__row, gk_m h, rdm0 h, rdm1 h, rdm2 h, rdm3 h, L_0, L_1, L_2, L_3, L_4, L_5, L_6, L_7, L_8, L_9, L_10, L_11, L_12, L_13, L_54, L_14, L_99, L_20, L_30, L_31, L_60, L_19, i2_add, i2_sub, i2_mul, i2_neg, Int.reduceAdd, Int.reduceSub, Int.reduceMul, Int.reduceNeg, Int.reduceLT, Int.reduceLE, Int.reduceEq, m_itsP h, m_setsP h, i2_le, i2_lt, i2_eq, uA_self, uA_ne, h1, h2, i2_max, i2_min, m_ladder h]
    (repeat' split) <;> refine fin _ _ ?_ ?_ <;> simp only [lowS, higS, lo1, hi1, e] <;> (repeat' split) <;> omega
theorem m_dries {S : Int → Int} (h : LayM M) (g : GS S) {k m : Int} (k0 : 0 ≤ k) (k8 : k < 8) (m0 : 0 ≤ m) (m9 : m ≤ 60) : fX12_dries (M.row 165 (putA A k S)) 164 (i2 k) (i2 m) = some (M.row 165 (putA A k (dryS m S))) := by
  obtain ⟨n, hn⟩ := FL3
  obtain ⟨g0, g1, g2, g3, g4, g5, g6, g8, g9, g10, g11, g12, gd⟩ := g
  have fin : ∀ T : Int → Int, T = dryS m S → some (M.row 165 (putA A k T)) = some (M.row 165 (putA A k (dryS m S))) := fun T e => by rw [e]
  unfold fX12_dries
  rw [hn]
  rcases (by omega : S 8 = 0 ∨ S 8 = 1 ∨ S 8 = 2) with e | e | e <;>
  · simp -dsimp (disch := omega) only [fX12_dries_L2, e, ↓B1_bp, ↓B2_bp, BP_some, BQ_some, ↓reduceIte, gk_row, rdN_row, alN_row, alN__row, gk_m h, rdm0 h, rdm1 h, rdm2 h, rdm3 h, L_0, L_1, L_2, L_3, L_4, L_5, L_6, L_7, L_8, L_9, L_10, L_11, L_12, L_13, L_54, L_14, L_99, L_20, L_30, L_31, L_60, L_19, i2_add, i2_sub, i2_mul, i2_neg, Int.reduceAdd, Int.reduceSub, Int.reduceMul, Int.reduceNeg, Int.reduceLT, Int.reduceLE, Int.reduceEq, m_itsP h, m_setsP h, i2_le, i2_lt, i2_eq, uA_self, uA_ne, i2_max]
    (repeat' split) <;> refine fin _ (funext fun j => ?_) <;> simp only [dryS, uA, e] <;> (repeat' split) <;> first | omega | (subst_vars; first | rfl | omega) | (simp_all; done) | (simp_all; omega)
theorem m_moves {S : Int → Int} (h : LayM M) (gl : GL (lwA A)) (g : GS S) {k mv : Int} (k0 : 0 ≤ k) (k8 : k < 8) (h0 : 0 ≤ mv) (h3 : mv ≤ 3) : fX12_moves (M.row 165 (putA A k S)) 164 (i2 k) (i2 mv) = some (M.row 165 (putA A k (mvS (lwA A) mv S))) := by
  unfold fX12_moves mvS
  by_cases e : mv = 3
  · subst e
    simp -dsimp (disch := omega) only [↓B1_bp, ↓B2_bp, BP_some, BQ_some, ↓reduceIte, gk_row, rdN_row, alN_row, alN__row, gk_m h, rdm0 h, rdm1 h, rdm2 h, rdm3 h, L_0, L_1, L_2, L_3, L_4, L_5, L_6, L_7, L_8, L_9, L_10, L_11, L_12, L_13, L_54, L_14, L_99, L_20, L_30, L_31, L_60, L_19, i2_add, i2_sub, i2_mul, i2_neg, Int.reduceAdd, Int.reduceSub, Int.reduceMul, Int.reduceNeg, Int.reduceLT, Int.reduceLE, Int.reduceEq, m_itsP h, m_setsP h, i2_le, i2_lt, i2_eq, uA_self, uA_ne, m_dries h g]
  · have e2 : lwS S 6 = S 6 := lwS_at S (by decide) (by decide) (by decide)
    have hh := m_hasP (A := A) h k0 k8 g.lw
    have hm := m_loses (A := A) h k0 k8 g
    by_cases e6 : 0 ≤ lwS S 6
    · have hr := m_ladderRuns (A := A) h gl g.lw (mv := mv) k0 k8 h0 (by omega) e6
      simp -dsimp (disch := omega) only [↓B1_bp, ↓B2_bp, BP_some, BQ_some, ↓reduceIte, gk_row, rdN_row, alN_row, alN__row, gk_m h, rdm0 h, rdm1 h, rdm2 h, rdm3 h, L_0, L_1, L_2, L_3, L_4, L_5, L_6, L_7, L_8, L_9, L_10, L_11, L_12, L_13, L_54, L_14, L_99, L_20, L_30, L_31, L_60, L_19, i2_add, i2_sub, i2_mul, i2_neg, Int.reduceAdd, Int.reduceSub, Int.reduceMul, Int.reduceNeg, Int.reduceLT, Int.reduceLE, Int.reduceEq, m_itsP h, m_setsP h, i2_le, i2_lt, i2_eq, uA_self, uA_ne, hm, hh, hr, tf_0, if_neg e, e6, not_true]
    · simp -dsimp (disch := omega) only [↓B1_bp, ↓B2_bp, BP_some, BQ_some, ↓reduceIte, gk_row, rdN_row, alN_row, alN__row, gk_m h, rdm0 h, rdm1 h, rdm2 h, rdm3 h, L_0, L_1, L_2, L_3, L_4, L_5, L_6, L_7, L_8, L_9, L_10, L_11, L_12, L_13, L_54, L_14, L_99, L_20, L_30, L_31, L_60, L_19, i2_add, i2_sub, i2_mul, i2_neg, Int.reduceAdd, Int.reduceSub, Int.reduceMul, Int.reduceNeg, Int.reduceLT, Int.reduceLE, Int.reduceEq, m_itsP h, m_setsP h, i2_le, i2_lt, i2_eq, uA_self, uA_ne, hm, hh, tf_0, if_neg e, e6, not_false_eq_true]
end MOD
