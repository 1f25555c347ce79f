section OPSHEET
variable {M : Mm} {A : Int → Int}
theorem J_m1 : - j2 1 = j2 (-1) := by decide +kernel
/-- the component's new sheet -/
def ns1 (M : Mm) (so : Int) : Mm := (M.nw 9 0).row M.n (uA (gI (M.nw 9 0) M.n) 0 so)
def ns2 (M : Mm) (so n : Int) : Mm := (ns1 M so).nw 22 n.toNat
def ns3 (M : Mm) (so n : Int) : Mm := (ns2 M so n).sr M.n 1 (some (M.n + 1))
def ns4 (M : Mm) (x : Nat) (so n : Int) : Mm := (ns3 M so n).sr 160 x (some M.n)
theorem nw_k (M : Mm) (kd len : Nat) : (M.nw kd len).k M.n = kd := va_up_self _ _ _
theorem nw_len (M : Mm) (kd len : Nat) : (M.nw kd len).len M.n = len := va_up_self _ _ _
theorem nw_ko (M : Mm) (kd len p : Nat) (h : p ≠ M.n) : (M.nw kd len).k p = M.k p := va_up_ne _ _ h
theorem nw_lo (M : Mm) (kd len p : Nat) (h : p ≠ M.n) : (M.nw kd len).len p = M.len p := va_up_ne _ _ h
theorem nw_go (M : Mm) (kd len p : Nat) (h : p ≠ M.n) : (M.nw kd len).g p = M.g p := va_up_ne _ _ h
theorem nw_l (M : Mm) (kd len : Nat) : (M.nw kd len).l M.n = fun _ => 0 := va_up_self _ _ _
theorem ns_nx (M : Mm) (x : Nat) (so n : Int) (n9 : 179 ≤ M.n) : Nx (NsP M.n) (NsQ M.n) NsL M (ns4 M x so n) := by
  have h1 : Nx (NsP M.n) (NsQ M.n) NsL M (ns1 M so) := (Nx.nw M 9 0).tr (Nx.of (SmP.row _ _ (Or.inl rfl)))
  have h2 : Nx (NsP M.n) (NsQ M.n) NsL M (ns2 M so n) := h1.tr (Nx.nw _ 22 _)
  have h3 : Nx (NsP M.n) (NsQ M.n) NsL M (ns3 M so n) := h2.tr (Nx.sr _ _ (Or.inl rfl))
  exact h3.tr (Nx.sr _ _ (Or.inr rfl))
theorem ns1_k (M : Mm) (so : Int) : (ns1 M so).k M.n = 9 := nw_k M 9 0
theorem ns1_n (M : Mm) (so : Int) : (ns1 M so).n = M.n + 1 := rfl
theorem ns2_k (M : Mm) (so n : Int) : (ns2 M so n).k M.n = 9 ∧ (ns2 M so n).k (M.n + 1) = 22 ∧ (ns2 M so n).len (M.n + 1) = n.toNat ∧ (ns2 M so n).n = M.n + 2 := by
  refine ⟨?_, nw_k (ns1 M so) 22 _, nw_len (ns1 M so) 22 _, rfl⟩
  rw [show (ns2 M so n).k M.n = (ns1 M so).k M.n from nw_ko (ns1 M so) 22 n.toNat M.n (by rw [ns1_n]; omega)]
  exact ns1_k M so
theorem ns_so (M : Mm) (x : Nat) (so n : Int) (n9 : 179 ≤ M.n) (sb : -2147483648 ≤ so ∧ so < 2147483648) (n0 : 0 ≤ n) (n4 : n ≤ 40) : SO (ns4 M x so n) M.n so n ∧ ∀ i : Nat, (ns4 M x so n).l (M.n + 1) i = 0 := by
  obtain ⟨k1, k2, k3, k4⟩ := ns2_k M so n
  have g0 : (ns4 M x so n).g M.n = (ns1 M so).g M.n := nw_go (ns1 M so) 22 n.toNat M.n (by rw [ns1_n]; omega)
  have r1 : (ns4 M x so n).r M.n 1 = some (M.n + 1) := by
    show up2 (ns3 M so n).r 160 x (some M.n) M.n 1 = _
    rw [up2_nea _ _ (by omega)]
    exact up2_self _ _ _ _
  refine ⟨⟨⟨n9, ?_⟩, k1, ?_, r1, k2, ?_, n4⟩, fun i => ?_⟩
  · show M.n + 1 < M.n + 2
    omega
  · rw [gI_of g0]
    exact gI_u (by decide) sb.1 sb.2
  · show (((ns2 M so n).len (M.n + 1) : Nat) : Int) = n
    rw [k3]
    omega
  · have q : (ns4 M x so n).l (M.n + 1) = fun _ => 0 := nw_l (ns1 M so) 22 n.toNat
    rw [q]
theorem ns_eval (h : LayC M) (n9 : 179 ≤ M.n) {x so n : Int} (e : 0 ≤ x ∧ x ≤ 3) (n0 : 0 ≤ n) (n4 : n ≤ 40) : fX6_init (M.nw 9 0) M.n (i2 so) (i2 n) = some (ns3 M so n) ∧ asR (ns3 M so n) 160 25 (i2 x) 9 (some M.n) = some (ns4 M x.toNat so n) := by
  obtain ⟨k1, k2, k3, k4⟩ := ns2_k M so n
  have w1 : wrI (M.nw 9 0) M.n 9 0 (i2 so) = some (ns1 M so) := g_wrI (nw_k M 9 0) (by decide)
  have w2 : nwA (ns1 M so) 22 40 (i2 n) = some (ns2 M so n) := by
    unfold nwA
    rw [if_pos, i2_nat (by omega) (by omega)]
    · rfl
    · rw [i2_nat (by omega) (by omega), i2_toInt (by omega) (by omega)]
      omega
  have w3 : wrR (ns2 M so n) M.n 9 1 (some (M.n + 1)) = some (ns3 M so n) := by
    unfold wrR
    rw [if_pos k1]
    rfl
  have nx3 : Nx (NsP M.n) (NsQ M.n) NsL M (ns3 M so n) := (((Nx.nw M 9 0).tr (Nx.of (SmP.row _ _ (Or.inl rfl)))).tr (Nx.nw _ 22 _)).tr (Nx.sr _ _ (Or.inl rfl))
  have q : (ns3 M so n).k 160 = 25 ∧ (ns3 M so n).len 160 = 4 := by
    have a := nx3.2.1 160 (by omega)
    rw [a.1, a.2]
    exact h.2.2.2.2.2.2.2.2.2.2.2.1
  refine ⟨?_, w25 q e.1 e.2 fun o ho => ?_⟩
  · unfold fX6_init
    rw [w1, B1_some, L_0, i2_max (by decide) (by decide) (by omega) (by omega), show max 0 n = n by omega, w2, B1_some, ns1_n, w3, B1_some]
  · cases ho
    exact k1
theorem m_sheet {N Y' : Mm} (h : LayM N) {x y z : Int} (e : 0 ≤ x ∧ x ≤ 3) (e2 : 0 ≤ y ∧ y ≤ 3) (e3 : 0 ≤ z ∧ z ≤ 40) (a1 : asI N 172 (i2 x) (i2 y) = some (N.row 172 (uA (gI N 172) x y))) (a2 : asI (N.row 172 (uA (gI N 172) x y)) 173 (i2 x) (i2 z) = some ((N.row 172 (uA (gI N 172) x y)).row 173 (uA (gI N 173) x z))) (a3 : fX12_sheet_L69 164 (i2 x) FL (i2 0) ((N.row 172 (uA (gI N 172) x y)).row 173 (uA (gI N 173) x z)) = some (i2 1, Y')) : fX12_sheet N 164 (i2 x) (i2 y) (i2 z) = some (i2 1, Y') := by
  have q2 := m_isFour N (x := x) (by omega) (by omega)
  rw [tf_t e] at q2
  have i3 := m_in N (a := y) (b := -1) (c := 3) (by omega) (by omega) (by decide) (by decide) (by decide) (by decide)
  rw [← i2_j2 (by omega) (by omega), ← J_n1, ← J_3, tf_t (by omega)] at i3
  have c1 := i2_lt (a := y) (b := 0) (by omega) (by omega) (by decide) (by decide)
  have c2 := i2_le (a := z) (b := 40) (by omega) (by omega) (by decide) (by decide)
  have c3 := i2_le (a := 0) (b := z) (by decide) (by decide) (by omega) (by omega)
  have c4 := i2_le (a := 0) (b := y) (by decide) (by decide) (by omega) (by omega)
  have r13 := m_r13 h
  have r14 := m_r14 h
  unfold fX12_sheet
  rw [q2, B1_some, if_neg (show ¬ i2 1 = 0 by decide +kernel), i3, B1_some, if_neg (show ¬ i2 1 = 0 by decide +kernel), show (0 : Int32) = i2 0 from L_0, if_neg (by rw [c1]; omega), L_40, if_pos (by rw [c2]; omega), if_neg (by rw [c1]; omega), if_pos (by rw [c3]; omega), r13, B1_some, a1, B1_some, rdN_row, r14, B1_some, if_pos (by rw [c4]; omega), a2, B1_some]
  exact a3
theorem m_sheetN {N Y' : Mm} (h : LayM N) {x z : Int} (e : 0 ≤ x ∧ x ≤ 3) (a1 : asI N 172 (i2 x) (i2 (-1)) = some (N.row 172 (uA (gI N 172) x (-1)))) (a2 : asI (N.row 172 (uA (gI N 172) x (-1))) 173 (i2 x) (i2 0) = some ((N.row 172 (uA (gI N 172) x (-1))).row 173 (uA (gI N 173) x 0))) (a3 : fX12_sheet_L69 164 (i2 x) FL (i2 0) ((N.row 172 (uA (gI N 172) x (-1))).row 173 (uA (gI N 173) x 0)) = some (i2 1, Y')) : fX12_sheet N 164 (i2 x) (i2 (-1)) (i2 z) = some (i2 1, Y') := by
  have q2 := m_isFour N (x := x) (by omega) (by omega)
  rw [tf_t e] at q2
  have i3 : fX12_in N (i2 (-1)).toInt64 (-1) 3 = some (i2 1) := by
    rw [i2_j2 (by decide) (by decide), J_n1, J_3, m_in N (by decide) (by decide) (by decide) (by decide) (by decide) (by decide), tf_t (by decide)]
  have r13 := m_r13 h
  have r14 := m_r14 h
  unfold fX12_sheet
  rw [q2, B1_some, if_neg (show ¬ i2 1 = 0 by decide +kernel), i3, B1_some, if_neg (show ¬ i2 1 = 0 by decide +kernel), if_pos (by decide +kernel), if_pos (by decide +kernel), r13, B1_some, a1, B1_some, rdN_row, r14, B1_some, if_neg (by decide +kernel), L_0, a2, B1_some]
  exact a3
theorem op_sheet (h : LayC M) (hm : LayM M) (c : CR M 1 A) (g : GA A) (ha : M.g 165 = rI A) {x y z : Int} (x0 : -2147483648 ≤ x) (x1 : x < 2147483648) (y0 : -2147483648 ≤ y) (y1 : y < 2147483648) (z0 : -2147483648 ≤ z) (z1 : z < 2147483648) (hi : Inv M) : Op M (fun M => fX11_sheet M 0 (i2 x) (i2 y) (i2 z)) (fun M => fX12_sheet M 164 (i2 x) (i2 y) (i2 z)) := by
  have n9 : 179 ≤ M.n := by obtain ⟨A, b1, b2, b3, -⟩ := hi.1; exact b3
  have q1 := c_isSheet M x0 x1
  have q2 := m_isFour M x0 x1
  by_cases e : 0 ≤ x ∧ x ≤ 3
  · have hx : ((x.toNat : Nat) : Int) = x := by omega
    rw [tf_t e] at q1 q2
    by_cases e2 : -1 ≤ y ∧ y ≤ 3
    · have te2 : tf (-1 ≤ y ∧ y ≤ 3) = 1 := tf_t e2
      by_cases e3 : y = -1
      · subst e3
        have w := w25 (M := M) (p := 160) h.2.2.2.2.2.2.2.2.2.2.2.1 e.1 e.2 (v := none) (fun o w => absurd w (by simp))
        have nx1 : Nx (NsP M.n) (NsQ M.n) NsL M (M.sr 160 x.toNat none) := Nx.sr _ _ (Or.inr rfl)
        have hm1 : LayM (M.sr 160 x.toNat none) := hm.nx (fun p hp => nx1.2.1 p (by omega)) fun p hp hq => nx1.2.2.2.1 p (by omega) (by unfold Rq at hq; unfold NsQ; omega)
        obtain ⟨Y', a1, a2, a3, b1, b2, b3, b4, b5, b6⟩ := m_sheetRest hm1 e (-1) 0 (by decide) (by decide)
        have g2 : ∀ p, gI (M.sr 160 x.toNat none) p = gI M p := fun p => gI_sr _ _ _ _ _
        have r2 : ∀ s : Nat, (M.sr 160 x.toNat none).r 160 s = if s = x.toNat then none else M.r 160 s := fun s => by
          show (if 160 = 160 ∧ s = x.toNat then none else M.r 160 s) = _
          by_cases w : s = x.toNat
          · rw [if_pos ⟨rfl, w⟩, if_pos w]
          · rw [if_neg (fun z => w z.2), if_neg w]
        have l2 : (M.sr 160 x.toNat none).l = M.l := rfl
        have nx2 : Nx (NsP M.n) (NsQ M.n) NsL (M.sr 160 x.toNat none) Y' := ⟨by rw [b1.1]; exact Nat.le_refl _, fun p _ => ⟨by rw [b1.2.1], by rw [b1.2.2.1]⟩, fun p _ z => b2 p (by unfold NsP at z; omega) (by unfold NsP at z; omega), fun p _ _ => by rw [b1.2.2.2], fun p _ z => b3 p (by unfold NsL at z; omega)⟩
        refine ⟨i2 1, M.sr 160 x.toNat none, Y', ?_, m_sheetN hm1 e a1 a2 a3, sheet_inv (x := x.toNat) (so := -1) (n := 0) (v := none) hi (by omega) (nx1.tr nx2) (fun s _ => by rw [b5 s, g2]) (fun s _ => by rw [b6 s, g2]) (fun s _ => by rw [b1.2.2.2]; exact r2 s) (fun q hq => by rw [b4 q, if_neg hq, l2]) (Or.inl ⟨rfl, rfl⟩)⟩
        show fX11_sheet M 0 (i2 x) (i2 (-1)) (i2 z) = _
        unfold fX11_sheet
        simp -dsimp (disch := omega) only [↓B1_bp, ↓B2_bp, BP_some, BQ_some, ↓reduceIte, L_0, L_1, L_2, L_3, L_4, L_5, L_6, L_7, L_8, L_9, L_10, L_11, L_12, L_13, L_54, L_14, L_99, L_20, L_30, L_31, L_60, L_19, i2_add, i2_sub, i2_mul, i2_neg, Int.reduceAdd, Int.reduceSub, Int.reduceMul, Int.reduceNeg, Int.reduceLT, Int.reduceLE, Int.reduceEq, i2_le, i2_lt, i2_eq, uA_self, uA_ne, tf_0, not_true_eq_false, not_false_eq_true, L_15, L_40, L_100, L_101, L_200, L_999, ↓NL_bp, BNP_none, BNP_some, and_self, if_true, if_false, and_true, true_and, and_false, false_and, t_now h, d_gk (t_d1 h), q1, c_isWithin, te2, t_sh h, w]
      · have y0' : 0 ≤ y := by omega
        by_cases e4 : z ≤ 40
        · by_cases e5 : 0 ≤ z
          · obtain ⟨v1, v2⟩ := ns_eval h n9 (x := x) (so := y) (n := z) e e5 e4
            have nx1 := ns_nx M x.toNat y z n9
            have hm1 : LayM (ns4 M x.toNat y z) := hm.nx (fun p hp => nx1.2.1 p (by omega)) fun p hp hq => nx1.2.2.2.1 p (by omega) (by unfold Rq at hq; unfold NsQ; omega)
            obtain ⟨s1, s2⟩ := ns_so M x.toNat y z n9 ⟨y0, y1⟩ e5 e4
            obtain ⟨Y', a1, a2, a3, b1, b2, b3, b4, b5, b6⟩ := m_sheetRest hm1 e y z ⟨y0, y1⟩ ⟨z0, z1⟩
            have g2 : ∀ p, p < M.n → p ≠ 172 → p ≠ 173 → gI (ns4 M x.toNat y z) p = gI M p := fun p hp h1 h2 => gI_of (nx1.2.2.1 p hp (by unfold NsP; omega))
            have g172 : gI (ns4 M x.toNat y z) 172 = gI M 172 := by
              have q1 : (ns4 M x.toNat y z).g 172 = (ns1 M y).g 172 := nw_go (ns1 M y) 22 z.toNat 172 (by rw [ns1_n]; omega)
              have q2 : (ns1 M y).g 172 = (M.nw 9 0).g 172 := row_g_ne _ (by omega)
              exact gI_of (q1.trans (q2.trans (nw_go M 9 0 172 (by omega))))
            have g173 : gI (ns4 M x.toNat y z) 173 = gI M 173 := by
              have q1 : (ns4 M x.toNat y z).g 173 = (ns1 M y).g 173 := nw_go (ns1 M y) 22 z.toNat 173 (by rw [ns1_n]; omega)
              have q2 : (ns1 M y).g 173 = (M.nw 9 0).g 173 := row_g_ne _ (by omega)
              exact gI_of (q1.trans (q2.trans (nw_go M 9 0 173 (by omega))))
            have nx3 : Nx (NsP M.n) (fun p => p = M.n) NsL M (ns3 M y z) := (((Nx.nw M 9 0).tr (Nx.of (SmP.row _ _ (Or.inl rfl)))).tr (Nx.nw _ 22 _)).tr (Nx.sr _ _ rfl)
            have r2 : ∀ s : Nat, (ns4 M x.toNat y z).r 160 s = if s = x.toNat then some M.n else M.r 160 s := fun s => by
              show (if 160 = 160 ∧ s = x.toNat then some M.n else (ns3 M y z).r 160 s) = _
              by_cases w : s = x.toNat
              · rw [if_pos ⟨rfl, w⟩, if_pos w]
              · rw [if_neg (fun z => w z.2), if_neg w, nx3.2.2.2.1 160 (by omega) (by show ¬ 160 = M.n; omega)]
            have l2 : ∀ p, p < M.n → (ns4 M x.toNat y z).l p = M.l p := fun p hp => by
              have q1 : (ns4 M x.toNat y z).l p = (ns1 M y).l p := va_up_ne _ _ (by rw [ns1_n]; omega)
              have q2 : (ns1 M y).l p = M.l p := va_up_ne _ _ (by omega)
              exact q1.trans q2
            have nx2 : Nx (NsP M.n) (NsQ M.n) NsL (ns4 M x.toNat y z) Y' := ⟨by rw [b1.1]; exact Nat.le_refl _, fun p _ => ⟨by rw [b1.2.1], by rw [b1.2.2.1]⟩, fun p _ z => b2 p (by unfold NsP at z; omega) (by unfold NsP at z; omega), fun p _ _ => by rw [b1.2.2.2], fun p _ z => b3 p (by unfold NsL at z; omega)⟩
            have sY : SO Y' M.n y z := by
              obtain ⟨⟨c1, c2⟩, c3, c4, c5, c6, c7, c8⟩ := s1
              exact ⟨⟨c1, by rw [b1.1]; exact c2⟩, by rw [b1.2.1]; exact c3, by rw [gI_of (b2 M.n (by omega) (by omega))]; exact c4, by rw [b1.2.2.2]; exact c5, by rw [b1.2.1]; exact c6, by rw [b1.2.2.1]; exact c7, c8⟩
            refine ⟨i2 1, ns4 M x.toNat y z, Y', ?_, m_sheet hm1 e ⟨y0', e2.2⟩ ⟨e5, e4⟩ a1 a2 a3, sheet_inv (x := x.toNat) (so := y) (n := z) (v := some M.n) hi (by omega) (nx1.tr nx2) (fun s _ => by rw [b5 s, g172]) (fun s _ => by rw [b6 s, g173]) (fun s _ => by rw [b1.2.2.2]; exact r2 s) (fun q hq => by rw [b4 q, if_neg hq, l2 174 (by omega)]) (Or.inr ⟨rfl, sY, ⟨y0', e2.2⟩, fun i hi' => ⟨by rw [b3 (M.n + 1) (by omega)]; exact s2 i, by rw [b4, if_pos (by omega)]⟩⟩)⟩
            show fX11_sheet M 0 (i2 x) (i2 y) (i2 z) = _
            unfold fX11_sheet
            have nw9 : nwO M 9 = some (M.nw 9 0) := rfl
            generalize hK : ns3 M y z = K at v1 v2
            generalize M.nw 9 0 = W at v1 nw9
            clear nx1 hm1 s1 s2 b1 b2 b3 b4 b5 b6 g2 g172 g173 nx3 r2 l2 nx2 sY a1 a2 a3
            simp -dsimp (disch := omega) only [↓B1_bp, ↓B2_bp, BP_some, BQ_some, ↓reduceIte, L_0, L_1, L_2, L_3, L_4, L_5, L_6, L_7, L_8, L_9, L_10, L_11, L_12, L_13, L_54, L_14, L_99, L_20, L_30, L_31, L_60, L_19, i2_add, i2_sub, i2_mul, i2_neg, Int.reduceAdd, Int.reduceSub, Int.reduceMul, Int.reduceNeg, Int.reduceLT, Int.reduceLE, Int.reduceEq, i2_le, i2_lt, i2_eq, uA_self, uA_ne, tf_0, not_true_eq_false, not_false_eq_true, L_15, L_40, L_100, L_101, L_200, L_999, ↓NL_bp, BNP_none, BNP_some, and_self, if_true, if_false, and_true, true_and, and_false, false_and, t_now h, d_gk (t_d1 h), q1, c_isWithin, te2, e3, e4, e5, t_sh h, nw9, v1, v2]
          · refine ⟨i2 (-14), M, M, ?_, ?_, hi⟩
            · show fX11_sheet M 0 (i2 x) (i2 y) (i2 z) = _
              unfold fX11_sheet
              simp -dsimp (disch := omega) only [↓B1_bp, ↓B2_bp, BP_some, BQ_some, ↓reduceIte, L_0, L_1, L_2, L_3, L_4, L_5, L_6, L_7, L_8, L_9, L_10, L_11, L_12, L_13, L_54, L_14, L_99, L_20, L_30, L_31, L_60, L_19, i2_add, i2_sub, i2_mul, i2_neg, Int.reduceAdd, Int.reduceSub, Int.reduceMul, Int.reduceNeg, Int.reduceLT, Int.reduceLE, Int.reduceEq, i2_le, i2_lt, i2_eq, uA_self, uA_ne, tf_0, not_true_eq_false, not_false_eq_true, L_15, L_40, L_100, L_101, L_200, L_999, ↓NL_bp, BNP_none, BNP_some, and_self, if_true, if_false, and_true, true_and, and_false, false_and, t_now h, d_gk (t_d1 h), q1, c_isWithin, te2, e3, e4, e5]
            · show fX12_sheet M 164 (i2 x) (i2 y) (i2 z) = _
              have n1 : ¬ y < 0 := by omega
              unfold fX12_sheet
              simp -dsimp (disch := omega) only [↓B1_bp, ↓B2_bp, BP_some, BQ_some, ↓reduceIte, L_0, L_1, L_2, L_3, L_4, L_5, L_6, L_7, L_8, L_9, L_10, L_11, L_12, L_13, L_54, L_14, L_99, L_20, L_30, L_31, L_60, L_19, i2_add, i2_sub, i2_mul, i2_neg, Int.reduceAdd, Int.reduceSub, Int.reduceMul, Int.reduceNeg, Int.reduceLT, Int.reduceLE, Int.reduceEq, i2_le, i2_lt, i2_eq, uA_self, uA_ne, tf_0, not_true_eq_false, not_false_eq_true, L_40, J_0, J_1, J_2, J_3, J_5, J_7, J_8, J_9, J_10, J_13, J_15, J_30, J_60, J_99, J_100, J_999, J_n1, i2_j2, m_in, J_m1, q2, te2, n1, e4, e5, if_true, if_false]
        · refine ⟨i2 (-1), M, M, ?_, ?_, hi⟩
          · show fX11_sheet M 0 (i2 x) (i2 y) (i2 z) = _
            unfold fX11_sheet
            simp -dsimp (disch := omega) only [↓B1_bp, ↓B2_bp, BP_some, BQ_some, ↓reduceIte, L_0, L_1, L_2, L_3, L_4, L_5, L_6, L_7, L_8, L_9, L_10, L_11, L_12, L_13, L_54, L_14, L_99, L_20, L_30, L_31, L_60, L_19, i2_add, i2_sub, i2_mul, i2_neg, Int.reduceAdd, Int.reduceSub, Int.reduceMul, Int.reduceNeg, Int.reduceLT, Int.reduceLE, Int.reduceEq, i2_le, i2_lt, i2_eq, uA_self, uA_ne, tf_0, not_true_eq_false, not_false_eq_true, L_15, L_40, L_100, L_101, L_200, L_999, ↓NL_bp, BNP_none, BNP_some, and_self, if_true, if_false, and_true, true_and, and_false, false_and, t_now h, d_gk (t_d1 h), q1, c_isWithin, te2, e3, e4]
          · show fX12_sheet M 164 (i2 x) (i2 y) (i2 z) = _
            have n1 : ¬ y < 0 := by omega
            unfold fX12_sheet
            simp -dsimp (disch := omega) only [↓B1_bp, ↓B2_bp, BP_some, BQ_some, ↓reduceIte, L_0, L_1, L_2, L_3, L_4, L_5, L_6, L_7, L_8, L_9, L_10, L_11, L_12, L_13, L_54, L_14, L_99, L_20, L_30, L_31, L_60, L_19, i2_add, i2_sub, i2_mul, i2_neg, Int.reduceAdd, Int.reduceSub, Int.reduceMul, Int.reduceNeg, Int.reduceLT, Int.reduceLE, Int.reduceEq, i2_le, i2_lt, i2_eq, uA_self, uA_ne, tf_0, not_true_eq_false, not_false_eq_true, L_40, J_0, J_1, J_2, J_3, J_5, J_7, J_8, J_9, J_10, J_13, J_15, J_30, J_60, J_99, J_100, J_999, J_n1, i2_j2, m_in, J_m1, q2, te2, n1, e4, if_false]
    · have te2 : tf (-1 ≤ y ∧ y ≤ 3) = 0 := tf_f e2
      refine ⟨i2 (-1), M, M, ?_, ?_, hi⟩
      · show fX11_sheet M 0 (i2 x) (i2 y) (i2 z) = _
        unfold fX11_sheet
        simp -dsimp (disch := omega) only [↓B1_bp, ↓B2_bp, BP_some, BQ_some, ↓reduceIte, L_0, L_1, L_2, L_3, L_4, L_5, L_6, L_7, L_8, L_9, L_10, L_11, L_12, L_13, L_54, L_14, L_99, L_20, L_30, L_31, L_60, L_19, i2_add, i2_sub, i2_mul, i2_neg, Int.reduceAdd, Int.reduceSub, Int.reduceMul, Int.reduceNeg, Int.reduceLT, Int.reduceLE, Int.reduceEq, i2_le, i2_lt, i2_eq, uA_self, uA_ne, tf_0, not_true_eq_false, not_false_eq_true, L_15, L_40, L_100, L_101, L_200, L_999, ↓NL_bp, BNP_none, BNP_some, and_self, if_true, if_false, and_true, true_and, and_false, false_and, t_now h, d_gk (t_d1 h), q1, c_isWithin, te2]
      · show fX12_sheet M 164 (i2 x) (i2 y) (i2 z) = _
        unfold fX12_sheet
        simp -dsimp (disch := omega) only [↓B1_bp, ↓B2_bp, BP_some, BQ_some, ↓reduceIte, L_0, L_1, L_2, L_3, L_4, L_5, L_6, L_7, L_8, L_9, L_10, L_11, L_12, L_13, L_54, L_14, L_99, L_20, L_30, L_31, L_60, L_19, i2_add, i2_sub, i2_mul, i2_neg, Int.reduceAdd, Int.reduceSub, Int.reduceMul, Int.reduceNeg, Int.reduceLT, Int.reduceLE, Int.reduceEq, i2_le, i2_lt, i2_eq, uA_self, uA_ne, tf_0, not_true_eq_false, not_false_eq_true, J_0, J_1, J_2, J_3, J_5, J_7, J_8, J_9, J_10, J_13, J_15, J_30, J_60, J_99, J_100, J_999, J_n1, i2_j2, m_in, J_m1, q2, te2]
  · rw [tf_f e] at q1 q2
    refine ⟨i2 (-1), M, M, ?_, ?_, hi⟩
    · show fX11_sheet M 0 (i2 x) (i2 y) (i2 z) = _
      unfold fX11_sheet
      simp -dsimp (disch := omega) only [↓B1_bp, ↓B2_bp, BP_some, BQ_some, ↓reduceIte, L_0, L_1, L_2, L_3, L_4, L_5, L_6, L_7, L_8, L_9, L_10, L_11, L_12, L_13, L_54, L_14, L_99, L_20, L_30, L_31, L_60, L_19, i2_add, i2_sub, i2_mul, i2_neg, Int.reduceAdd, Int.reduceSub, Int.reduceMul, Int.reduceNeg, Int.reduceLT, Int.reduceLE, Int.reduceEq, i2_le, i2_lt, i2_eq, uA_self, uA_ne, tf_0, not_true_eq_false, not_false_eq_true, L_15, L_40, L_100, L_101, L_200, L_999, ↓NL_bp, BNP_none, BNP_some, and_self, if_true, if_false, and_true, true_and, and_false, false_and, t_now h, d_gk (t_d1 h), q1]
    · show fX12_sheet M 164 (i2 x) (i2 y) (i2 z) = _
      unfold fX12_sheet
      simp -dsimp (disch := omega) only [↓B1_bp, ↓B2_bp, BP_some, BQ_some, ↓reduceIte, L_0, L_1, L_2, L_3, L_4, L_5, L_6, L_7, L_8, L_9, L_10, L_11, L_12, L_13, L_54, L_14, L_99, L_20, L_30, L_31, L_60, L_19, i2_add, i2_sub, i2_mul, i2_neg, Int.reduceAdd, Int.reduceSub, Int.reduceMul, Int.reduceNeg, Int.reduceLT, Int.reduceLE, Int.reduceEq, i2_le, i2_lt, i2_eq, uA_self, uA_ne, tf_0, not_true_eq_false, not_false_eq_true, q2]
end OPSHEET
