section READ
variable {M X Y : Mm} {T : Int → Int} {L : Int}
/-- the word q stands from s to e -/
def wdB (T : Int → Int) (s e : Int) (q : Nat) : Int := if e - s = wL q ∧ (∀ i : Nat, i < (wL q).toNat → T (s + i) = wC q i) then 1 else 0
theorem wdB_01 (T : Int → Int) (s e : Int) (q : Nat) : wdB T s e q = 0 ∨ wdB T s e q = 1 := by
  unfold wdB
  split
  · exact Or.inr rfl
  · exact Or.inl rfl
/-- the number from s to e -/
def nmv (T : Int → Int) (s e : Int) : Int := if e = s + 1 ∧ (48 ≤ T s ∧ T s ≤ 57) then T s - 48 else if e = s + 2 ∧ (48 ≤ T s ∧ T s ≤ 57) ∧ (48 ≤ T (s + 1) ∧ T (s + 1) ≤ 57) then 10 * (T s - 48) + (T (s + 1) - 48) else -1
theorem nmv_b (T : Int → Int) (s e : Int) : -1 ≤ nmv T s e ∧ nmv T s e ≤ 99 := by
  unfold nmv
  repeat' split
  all_goals omega
theorem TkE.b {s e : Int} (h : TkE T L s e) : s ≤ e ∧ e ≤ L := by
  rcases h with z | ⟨z, w, -⟩ <;> omega
theorem c_nmL (h : LayC X) (tp : Tp X T L) {q : Nat} (hq : q < 22) {s : Int} (s0 : 0 ≤ s) (s1 : s + wL q ≤ L) : ∀ (d N k : Nat), d < N → (k : Int) + d = wL q → (∀ i : Nat, i < k → T (s + i) = wC q i) → fX8_isName_L45 X 109 q (i2 s) N (i2 k) = some (i2 (if (∀ i : Nat, i < (wL q).toNat → T (s + i) = wC q i) then 1 else 0)) := by
  have u : ∀ (N : Nat) (v : Int32), fX8_isName_L45 X 109 q (i2 s) (N + 1) v = B1 (tq q) fun _ => B1 (fJ0_length_8abf5 X q) fun x => if x ≤ v then some 1 else B1 (rdN X 109 11 0) fun a => B1 (alI X a (i2 s + v)) fun x60 => B1 (tq q) fun _ => B1 (fJ0_charAt_5068e X q v) fun x63 => if x60 = x63 then fX8_isName_L45 X 109 q (i2 s) N (v + 1) else some 0 := fun _ _ => rfl
  have wb := wL_b hq
  have tl := tp.2.1
  intro d
  induction d with
  | zero =>
    intro N k hN hk hi
    obtain ⟨N, rfl⟩ : ∃ k, N = k + 1 := ⟨N - 1, by omega⟩
    rw [u, t_q hq, B1_some, t_len X hq, B1_some, if_pos (by rw [i2_le (by omega) (by omega) (by omega) (by omega)]; omega), if_pos (fun i h' => hi i (by omega))]
    rfl
  | succ d ih =>
    intro N k hN hk hi
    obtain ⟨N, rfl⟩ : ∃ k, N = k + 1 := ⟨N - 1, by omega⟩
    have al := tp_al h tp (i := s + k) (by omega) (by omega)
    have bb := (tp.2.2 (s + k) (by omega) (by omega)).2
    have cb := wC_b hq (i := k) (by omega)
    have ee : (i2 (T (s + k)) = i2 (wC q k)) = (T (s + k) = wC q k) := i2_eq (by omega) (by omega) (by omega) (by omega)
    rw [u, t_q hq, B1_some, t_len X hq, B1_some, if_neg (by rw [i2_le (by omega) (by omega) (by omega) (by omega)]; omega), tp_r0 h, B1_some, i2_add, al, B1_some, B1_some, t_chr X hq (by omega), B1_some]
    by_cases w : T (s + k) = wC q k
    · rw [if_pos (ee.mpr w), L_1, i2_add]
      exact ih N (k + 1) (by omega) (by omega) fun i h' => by
        by_cases z : i = k
        · rw [z]; exact w
        · exact hi i (by omega)
    · rw [if_neg (fun z => w (ee.mp z)), if_neg (fun z => w (z k (by omega)))]
      rfl
theorem m_wdL (hm : LayM Y) (t : Mt Y T L) {q : Nat} (hq : q < 22) {s : Int} (g7 : gI Y 164 7 = s) (s0 : 0 ≤ s) (s1 : s + wL q ≤ L) : ∀ (d N k : Nat), d + 1 < N → (k : Int) + d = wL q → (∀ i : Nat, i < k → T (s + i) = wC q i) → fX12_isWord_L31 Y 164 q N (i2 1) (i2 k) = some (i2 (if (∀ i : Nat, i < (wL q).toNat → T (s + i) = wC q i) then 1 else 0)) := by
  have u : ∀ (N : Nat) (v : Int32), fX12_isWord_L31 Y 164 q (N + 1) (i2 1) v = B1 (tq q) fun _ => B1 (fJ0_length_8abf5 Y q) fun x => if x ≤ v then some (i2 1) else B1 (rdN Y 164 15 5) fun a => B1 (rdI Y 164 15 7) fun x48 => B1 (alI Y a (x48 + v)) fun x53 => B1 (tq q) fun _ => B1 (fJ0_charAt_5068e Y q v) fun x56 => if x53 = x56 then fX12_isWord_L31 Y 164 q N (i2 1) (v + 1) else fX12_isWord_L31 Y 164 q N (i2 0) (v + 1) := fun _ _ => rfl
  have u0 : ∀ (N : Nat) (v : Int32), fX12_isWord_L31 Y 164 q (N + 1) (i2 0) v = some (i2 0) := fun _ _ => rfl
  have wb := wL_b hq
  have tl := t.2.1
  have r7 : rdI Y 164 15 7 = some (i2 s) := by rw [m_rd hm 7, ← g7]; rfl
  intro d
  induction d with
  | zero =>
    intro N k hN hk hi
    obtain ⟨N, rfl⟩ : ∃ k, N = k + 1 := ⟨N - 1, by omega⟩
    rw [u, t_q hq, B1_some, t_len Y hq, B1_some, if_pos (by rw [i2_le (by omega) (by omega) (by omega) (by omega)]; omega), if_pos (fun i h' => hi i (by omega))]
  | succ d ih =>
    intro N k hN hk hi
    obtain ⟨N, rfl⟩ : ∃ k, N = k + 1 := ⟨N - 1, by omega⟩
    obtain ⟨k1, bb⟩ := t.2.2 (s + k) (by omega) (by omega)
    have cb := wC_b hq (i := k) (by omega)
    have ee : (i2 (T (s + k)) = i2 (wC q k)) = (T (s + k) = wC q k) := i2_eq (by omega) (by omega) (by omega) (by omega)
    rw [u, t_q hq, B1_some, t_len Y hq, B1_some, if_neg (by rw [i2_le (by omega) (by omega) (by omega) (by omega)]; omega), m_r5 hm, B1_some, r7, B1_some, i2_add, g_alI (ar_69 hm) (by omega) (by omega) (by omega), k1, B1_some, B1_some, t_chr Y hq (by omega), B1_some]
    by_cases w : T (s + k) = wC q k
    · rw [if_pos (ee.mpr w), L_1, i2_add]
      exact ih N (k + 1) (by omega) (by omega) fun i h' => by
        by_cases z : i = k
        · rw [z]; exact w
        · exact hi i (by omega)
    · obtain ⟨N, rfl⟩ : ∃ k, N = k + 1 := ⟨N - 1, by omega⟩
      rw [if_neg (fun z => w (ee.mp z)), if_neg (fun z => w (z k (by omega))), u0]
theorem m_isWord (hm : LayM Y) (t : Mt Y T L) {q : Nat} (hq : q < 22) {s e : Int} (g7 : gI Y 164 7 = s) (g8 : gI Y 164 8 = e) (g9 : gI Y 164 9 = 0) (s0 : 0 ≤ s) (te : TkE T L s e) : fX12_isWord Y 164 q = some (i2 (wdB T s e q)) := by
  have tl := t.2.1
  have tb := te.b
  have wb := wL_b hq
  have r7 : rdI Y 164 15 7 = some (i2 s) := by rw [m_rd hm 7, ← g7]; rfl
  have r8 : rdI Y 164 15 8 = some (i2 e) := by rw [m_rd hm 8, ← g8]; rfl
  have r9 : rdI Y 164 15 9 = some (i2 0) := by rw [m_rd hm 9, ← g9]; rfl
  have u0 : ∀ (N : Nat) (v : Int32), fX12_isWord_L31 Y 164 q (N + 1) (i2 0) v = some (i2 0) := fun _ _ => rfl
  have ee : (i2 (e - s) = i2 (wL q)) = (e - s = wL q) := i2_eq (by omega) (by omega) (by omega) (by omega)
  unfold fX12_isWord wdB
  rw [r9, B1_some, if_pos (by decide), r8, B1_some, r7, B1_some, t_q hq, B1_some, t_len Y hq, B1_some, i2_sub]
  by_cases w : e - s = wL q
  · rw [if_pos (ee.mpr w), L_1, L_0, show (i2 0) = i2 ((0 : Nat) : Int) from rfl, m_wdL hm t hq g7 s0 (by omega) (wL q).toNat FL 0 (by show _ < 4096; omega) (by omega) (fun i h => absurd h (by omega))]
    by_cases z : ∀ i : Nat, i < (wL q).toNat → T (s + i) = wC q i
    · rw [if_pos z, if_pos ⟨w, z⟩]
    · rw [if_neg z, if_neg (fun y => z y.2)]
  · rw [if_neg (fun z => w (ee.mp z)), if_neg (fun z => w z.1)]
    exact u0 4095 _
theorem m_isWord1 (hm : LayM Y) (q : Nat) (g9 : gI Y 164 9 = 1) : fX12_isWord Y 164 q = some (i2 0) := by
  have r9 : rdI Y 164 15 9 = some (i2 1) := by rw [m_rd hm 9, ← g9]; rfl
  have u0 : ∀ (N : Nat) (v : Int32), fX12_isWord_L31 Y 164 q (N + 1) (i2 0) v = some (i2 0) := fun _ _ => rfl
  unfold fX12_isWord
  rw [r9, B1_some, if_neg (by decide)]
  exact u0 4095 _
/-- token i of the component -/
def CA_ (X : Mm) (c i : Nat) : Prop := i ≤ c ∧ gI X 109 7 = i
theorem tk_at {c i : Nat} (k : TkF T L X c) (hi : i ≤ c) : (TkE T L (gI X 147 i) (gI X 148 i) ∧ Skp T L (pe (gI X 148) i) (gI X 147 i)) ∧ ((i < c ∧ gI X 147 i < L ∧ gI X 146 i = cls (T (gI X 147 i))) ∨ (i = c ∧ gI X 147 i = L ∧ gI X 146 i = 0)) := by
  obtain ⟨k1, k2, k3, ⟨k4, k5, k6⟩, k7⟩ := k
  by_cases e : i < c
  · obtain ⟨j1, j2, j3, j4⟩ := k3 i e
    exact ⟨⟨Or.inr ⟨j1, j2⟩, j4⟩, Or.inl ⟨e, j1, j3⟩⟩
  · have ic : i = c := by omega
    rw [ic]
    exact ⟨⟨Or.inl ⟨k5, k6⟩, by rw [k5]; exact k7⟩, Or.inr ⟨rfl, k5, k4⟩⟩
theorem c_tok (h : LayC X) {c i : Nat} (hi : i ≤ c) (c9 : c ≤ 200) (g7 : gI X 109 7 = i) : rdI X 109 11 7 = some (i2 i) ∧ alI X 146 (i2 i) = some (i2 (gI X 146 i)) ∧ alI X 147 (i2 i) = some (i2 (gI X 147 i)) ∧ alI X 148 (i2 i) = some (i2 (gI X 148 i)) := by
  refine ⟨?_, g_alI (tp_a3 h) (by omega) (by omega) (by omega), g_alI (tp_a4 h) (by omega) (by omega) (by omega), g_alI (tp_a5 h) (by omega) (by omega) (by omega)⟩
  rw [tp_rd h 7, ← g7]
  rfl
theorem c_isName (h : LayC X) (tp : Tp X T L) {c i : Nat} (k : TkF T L X c) (hi : i ≤ c) (g7 : gI X 109 7 = i) {q : Nat} (hq : q < 20) : fX8_isName X 109 q = some (i2 (wdB T (gI X 147 i) (gI X 148 i) q)) := by
  obtain ⟨r7, a6, a7, a8⟩ := c_tok h hi k.2.1 g7
  obtain ⟨⟨te, sk⟩, so⟩ := tk_at k hi
  have tl := tp.2.1
  have tb := te.b
  have s0 := sk.1
  have wb := wL_b (q := q) (by omega)
  generalize gI X 147 i = s at *
  generalize gI X 148 i = e at *
  have b6 : 0 ≤ gI X 146 i ∧ gI X 146 i ≤ 4 := by
    have := cls_b (T s)
    rcases so with z | z <;> omega
  have e2 : (i2 (gI X 146 i) = 2) = (gI X 146 i = 2) := i2_eq (b := 2) (by omega) (by omega) (by decide) (by decide)
  have ee : (i2 (e - s) = i2 (wL q)) = (e - s = wL q) := i2_eq (by omega) (by omega) (by omega) (by omega)
  unfold fX8_isName
  rw [tp_r4 h, B1_some, r7, B1_some, a7, B1_some, tp_r3 h, B1_some, B1_some, a6, B1_some]
  by_cases y : gI X 146 i = 2
  · rw [if_pos (e2.mpr y), tp_r5 h, B1_some, B1_some, a8, B1_some, t_q (by omega), B1_some, t_len X (by omega), B1_some, i2_sub]
    unfold wdB
    by_cases w : e - s = wL q
    · rw [if_pos (ee.mpr w), L_0, show (i2 0) = i2 ((0 : Nat) : Int) from rfl, c_nmL h tp (q := q) (by omega) (by omega) (by omega) (wL q).toNat FL 0 (by show _ < 4096; omega) (by omega) (fun i h => absurd h (by omega))]
      by_cases z : ∀ i : Nat, i < (wL q).toNat → T (s + i) = wC q i
      · rw [if_pos z, if_pos ⟨w, z⟩]
      · rw [if_neg z, if_neg (fun y => z y.2)]
    · rw [if_neg (fun z => w (ee.mp z)), if_neg (fun z => w z.1)]
      rfl
  · rw [if_neg (fun z => y (e2.mp z))]
    unfold wdB
    rw [if_neg]
    · rfl
    · rintro ⟨z1, z2⟩
      have l := wC_l hq
      have z3 := z2 0 (by omega)
      rw [show s + ((0 : Nat) : Int) = s by omega] at z3
      have c2 : cls (T s) = 2 := cls_2.mpr (by omega)
      rcases so with w | w
      · exact y (by omega)
      · omega
theorem c_isSign (h : LayC X) (tp : Tp X T L) {c i : Nat} (k : TkF T L X c) (hi : i ≤ c) (g7 : gI X 109 7 = i) {q : Nat} {b : Int} (hq : (q = 20 ∧ b = 44) ∨ (q = 21 ∧ b = 59)) : fX8_isSign X 109 (i2 b) = some (i2 (wdB T (gI X 147 i) (gI X 148 i) q)) := by
  obtain ⟨r7, a6, a7, a8⟩ := c_tok h hi k.2.1 g7
  obtain ⟨⟨te, sk⟩, so⟩ := tk_at k hi
  have tl := tp.2.1
  have tb := te.b
  have s0 := sk.1
  have wl : wL q = 1 := by rcases hq with ⟨rfl, -⟩ | ⟨rfl, -⟩ <;> rfl
  have wc : wC q 0 = b := by rcases hq with ⟨rfl, rfl⟩ | ⟨rfl, rfl⟩ <;> rfl
  have bb : b = 44 ∨ b = 59 := by rcases hq with z | z <;> omega
  generalize gI X 147 i = s at *
  generalize gI X 148 i = e at *
  have b6 : 0 ≤ gI X 146 i ∧ gI X 146 i ≤ 4 := by
    have := cls_b (T s)
    rcases so with z | z <;> omega
  have e2 : (i2 (gI X 146 i) = 4) = (gI X 146 i = 4) := i2_eq (b := 4) (by omega) (by omega) (by decide) (by decide)
  unfold fX8_isSign
  rw [tp_r3 h, B1_some, r7, B1_some, a6, B1_some]
  by_cases y : gI X 146 i = 4
  · have sl : s < L ∧ cls (T s) = 4 := by
      rcases so with w | w
      · exact ⟨w.2.1, by omega⟩
      · omega
    have e1 : e = s + 1 := by
      rcases te with w | w
      · omega
      · exact w.2.2.1 sl.2
    have al := tp_al h tp (i := s) (by omega) sl.1
    have tb := (tp.2.2 s (by omega) sl.1).2
    have ee : (i2 (T s) = i2 b) = (T s = b) := i2_eq (by omega) (by omega) (by omega) (by omega)
    rw [if_pos (e2.mpr y), tp_r0 h, B1_some, tp_r4 h, B1_some, B1_some, a7, B1_some, al, B1_some]
    unfold wdB
    by_cases w : T s = b
    · rw [if_pos (ee.mpr w), if_pos]
      · rfl
      · refine ⟨by omega, fun i hi => ?_⟩
        rw [show i = 0 by omega, wc, show s + ((0 : Nat) : Int) = s by omega]
        exact w
    · rw [if_neg (fun z => w (ee.mp z)), if_neg]
      · rfl
      · rintro ⟨z1, z2⟩
        have z3 := z2 0 (by omega)
        rw [wc, show s + ((0 : Nat) : Int) = s by omega] at z3
        exact w z3
  · rw [if_neg (fun z => y (e2.mp z))]
    unfold wdB
    rw [if_neg]
    · rfl
    · rintro ⟨z1, z2⟩
      have z3 := z2 0 (by omega)
      rw [wc, show s + ((0 : Nat) : Int) = s by omega] at z3
      have c4 : cls (T s) = 4 := by
        unfold cls
        rw [z3]
        rcases bb with rfl | rfl <;> rfl
      rcases so with w | w
      · exact y (by omega)
      · omega
end READ
