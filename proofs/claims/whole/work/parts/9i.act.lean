section ACT
variable {M X : Mm} {A : Int → Int}
theorem act_inv {Z : Mm} {bl : List Int} (hi : Inv M) (nx : Nx (LiP M) (LiP M) NoP M X) (li : LiI X bl) (hl : bl.length ≤ 15) (s : SmP (fun q => q = 164 ∨ q = 178) X Z) (h20 : gI Z 164 20 = bl.length) (h178 : ∀ i : Nat, i < bl.length → gI Z 178 i = bl.getD i 0) (fo : ∀ j : Int, 0 ≤ j → j < 20 → gI Z 164 j = gI X 164 j) : Inv Z := by
  have n9 : 179 ≤ M.n := by obtain ⟨A, b1, b2, b3, -⟩ := hi.1; exact b3
  obtain ⟨k1, k2, k3, k4, k5, k6⟩ := hi.2
  obtain ⟨l1, l2, l3, l4⟩ := li
  have e164 : gI X 164 = gI M 164 := gI_of (nx.2.2.1 164 (by omega) (by unfold LiP; omega))
  have np : ∀ p, p < M.n → M.k p ≠ 27 → p ≠ 163 → ¬ LiP M p := fun p hp h h2 z => z.elim h2 fun w => h w.2
  have lo : ∀ p, p < 179 → p ≠ 163 → ¬ LiP M p := fun p hp h2 z => z.elim h2 fun w => by omega
  have zx : Z.n = X.n ∧ Z.k = X.k ∧ Z.len = X.len ∧ Z.l = X.l ∧ Z.r = X.r := s.1
  have gz : ∀ p, p ≠ 164 → p ≠ 178 → gI Z p = gI X p := fun p h1 h2 => gI_of (s.2 p (by omega))
  have g0 : ∀ p, p < M.n → ¬ LiP M p → p ≠ 164 → p ≠ 178 → gI Z p = gI M p := fun p hp h h1 h2 => (gz p h1 h2).trans (gI_of (nx.2.2.1 p hp h))
  have so : ∀ {o : Nat} {a b : Int}, SO M o a b → SO Z o a b := fun {o a b} h => by
    obtain ⟨⟨a1, a2⟩, a3, a4, a5, a6, a7, a8⟩ := h
    have no := np o (by omega) (by rw [a3]; decide) (by omega)
    exact ⟨⟨a1, by rw [zx.1]; have := nx.1; omega⟩, by rw [zx.2.1, (nx.2.1 o (by omega)).1]; exact a3, by rw [g0 o (by omega) no (by omega) (by omega)]; exact a4, by rw [zx.2.2.2.2, nx.2.2.2.1 o (by omega) no]; exact a5, by rw [zx.2.1, (nx.2.1 (o + 1) a2).1]; exact a6, by rw [zx.2.2.1, (nx.2.1 (o + 1) a2).2]; exact a7, a8⟩
  have r0 : ∀ p, p < 179 → p ≠ 163 → Z.r p = M.r p := fun p hp h => by rw [zx.2.2.2.2, nx.2.2.2.1 p (by omega) (lo p hp h)]
  have ll : ∀ p, p < M.n → Z.l p = M.l p := fun p hp => by rw [zx.2.2.2.1, nx.2.2.2.2 p hp (fun z => z)]
  refine Inv.nx hi ?_ (by rw [fo 4 (by decide) (by decide), e164]) (by rw [fo 6 (by decide) (by decide), e164]) (by rw [fo 11 (by decide) (by decide), e164]) ?_ ?_ ?_
  · refine ⟨by rw [zx.1]; exact nx.1, fun p hp => by rw [zx.2.1, zx.2.2.1]; exact nx.2.1 p hp, fun p hp q => ?_, fun p hp q => ?_, fun p hp q => absurd trivial q⟩
    · rw [s.2 p (fun z => q (by unfold Sx; omega))]
      exact nx.2.2.1 p hp fun z => q (by unfold LiP at z; unfold Sx; omega)
    · rw [zx.2.2.2.2]
      exact nx.2.2.2.1 p hp fun z => q (by unfold LiP at z; unfold Rq; omega)
  · intro q hq
    rw [g0 172 (by omega) (lo 172 (by decide) (by decide)) (by decide) (by decide), g0 173 (by omega) (lo 173 (by decide) (by decide)) (by decide) (by decide), r0 160 (by decide) (by decide)]
    refine (k4 q hq).imp id fun ⟨o, w1, w2, w3, w4, w5⟩ => ⟨o, w1, so w2, w3, fun i hi' => ?_, w5⟩
    rw [ll (o + 1) w2.1.2, ll 174 (by omega)]
    exact w4 i hi'
  · intro q hq
    rw [g0 161 (by omega) (lo 161 (by decide) (by decide)) (by decide) (by decide), g0 175 (by omega) (lo 175 (by decide) (by decide)) (by decide) (by decide), g0 176 (by omega) (lo 176 (by decide) (by decide)) (by decide) (by decide), g0 177 (by omega) (lo 177 (by decide) (by decide)) (by decide) (by decide), r0 162 (by decide) (by decide)]
    exact (k5 q hq).imp id fun y => y.imp (fun ⟨u1, u2, o, u3, u4⟩ => ⟨u1, u2, o, u3, so u4⟩) id
  · have e163 : gI Z 163 = gI X 163 := gz 163 (by decide) (by decide)
    refine ⟨by rw [e163, l2]; omega, by rw [e163, h20, l2], ?_⟩
    rw [e163, l2, zx.2.2.2.2]
    refine l4.imp (fun ⟨a, b⟩ => ⟨a, by rw [b]; rfl⟩) fun ⟨o, r, ⟨a1, a2⟩, a3, a4, a5, a6⟩ => ⟨o, r, a1, by rw [zx.1]; exact a2, by rw [zx.2.1]; exact a3, by rw [zx.2.2.1]; exact a4, by rw [zx.2.2.1]; omega, fun i hi' => ?_⟩
    have hi2 : i < bl.length := by omega
    obtain ⟨b1, b2⟩ := a6 i hi2
    have hb := l3 _ (gd_mem hi2)
    rw [gz o (by omega) (by omega), h178 i hi2, b2]
    exact ⟨b1, rfl, hb⟩
theorem sr_k (M : Mm) (a j : Nat) (v : Option Nat) : (M.sr a j v).k = M.k := rfl
theorem sr_n (M : Mm) (a j : Nat) (v : Option Nat) : (M.sr a j v).n = M.n := rfl
theorem sr_len (M : Mm) (a j : Nat) (v : Option Nat) : (M.sr a j v).len = M.len := rfl
theorem sr_l (M : Mm) (a j : Nat) (v : Option Nat) : (M.sr a j v).l = M.l := rfl
theorem sr_g (M : Mm) (a j : Nat) (v : Option Nat) : (M.sr a j v).g = M.g := rfl
theorem sr_r (M : Mm) (a j : Nat) (v : Option Nat) (p : Nat) (h : p ≠ a) : (M.sr a j v).r p = M.r p := funext fun i => up2_nea _ _ h
theorem nw_r (M : Mm) (kd len p : Nat) (h : p ≠ M.n) : (M.nw kd len).r p = M.r p := va_up_ne _ _ h
theorem nw_lq (M : Mm) (kd len p : Nat) (h : p ≠ M.n) : (M.nw kd len).l p = M.l p := va_up_ne _ _ h
theorem nw_n (M : Mm) (kd len : Nat) : (M.nw kd len).n = M.n + 1 := rfl
theorem ca_fin {bl : List Int} {W : Mm} {T kd : Nat} {n a : Int} (nx : Nx (LiP M) (LiP M) NoP M X) (n9 : 179 ≤ M.n) (li : LiI X bl) (hT : T = X.n) (n3 : W.n = T + 1) (kk : W.k T = kd) (hk : kd ≠ 27) (ko : ∀ p, p ≠ T → W.k p = X.k p) (lo : ∀ p, p ≠ T → W.len p = X.len p) (ro : ∀ p, p ≠ T → W.r p = X.r p) (llo : ∀ p, p ≠ T → W.l p = X.l p) (go : ∀ p, p ≠ T → W.g p = X.g p) (i0 : gI W T 0 = n) (i1 : gI W T 1 = a) (i3 : gI W T 3 = 0) : CA M (W.sr T 2 (some 163)) T kd n a bl 0 := by
  obtain ⟨x1, x2, x3, x4, x5⟩ := nx
  obtain ⟨l1, l2, l3, l4⟩ := li
  have ne : ∀ p, p < M.n → p ≠ T := fun p hp => by omega
  have gz : ∀ p, p ≠ T → gI (W.sr T 2 (some 163)) p = gI X p := fun p hp => by
    rw [gI_sr]
    exact gI_of (go p hp)
  have rr : ∀ p, p ≠ T → (W.sr T 2 (some 163)).r p = X.r p := fun p hp => by rw [sr_r _ _ _ _ _ hp, ro p hp]
  refine ⟨⟨?_, fun p hp => ⟨?_, ?_⟩, fun p hp q => ?_, fun p hp q => ?_, fun p hp q => ?_⟩, ⟨?_, ?_, n9⟩, ⟨?_, hk⟩, ⟨?_, ?_, ?_⟩, ?_, ?_, ?_, l3, ?_⟩
  · rw [sr_n]; omega
  · rw [sr_k, ko p (ne p hp)]; exact (x2 p hp).1
  · rw [sr_len, lo p (ne p hp)]; exact (x2 p hp).2
  · rw [sr_g, go p (ne p hp)]; exact x3 p hp q
  · rw [rr p (ne p hp)]; exact x4 p hp q
  · rw [sr_l, llo p (ne p hp)]; exact x5 p hp q
  · omega
  · rw [sr_n]; omega
  · rw [sr_k]; exact kk
  · rw [gI_sr]; exact i0
  · rw [gI_sr]; exact i1
  · rw [gI_sr]; exact i3
  · exact sr_self _ _ _ _
  · rw [sr_k, ko 163 (by omega)]; exact l1
  · rw [gz 163 (by omega)]; exact l2
  · rw [rr 163 (by omega)]
    refine l4.imp id fun ⟨o, r, ⟨a1, a2⟩, a3, a4, a5, a6⟩ => ⟨o, r, ⟨a1, ?_⟩, ?_, ?_, ?_, fun i hi => ?_⟩
    · rw [sr_n]; omega
    · rw [sr_k, ko o (by omega)]; exact a3
    · rw [sr_len, lo o (by omega)]; exact a4
    · rw [sr_len, lo o (by omega)]; exact a5
    · rw [rr o (by omega), gz o (by omega)]
      exact a6 i hi
theorem ca_w {W : Mm} {T kd : Nat} {n a : Int} (wk : W.k T = kd) (n0 : -2147483648 ≤ n) (n1 : n < 2147483648) (a0 : -2147483648 ≤ a) (a1 : a < 2147483648) : ∃ W3, (∀ {R : Type} (f : Mm → Option R), (B1 (wrZ W T kd 3 (i2 0)) fun M6 => B1 (wrI M6 T kd 0 (i2 n)) fun M11 => B1 (wrI M11 T kd 1 (i2 a)) f) = f W3) ∧ Same W W3 T (T + 1) ∧ gI W3 T 0 = n ∧ gI W3 T 1 = a ∧ gI W3 T 3 = 0 := by
  have w1 := wrZ_0 (M := W) (p := T) (kd := kd) (j := 3) wk (by decide)
  rw [show ((3 : Nat) : Int) = 3 from rfl] at w1
  have k1 : (W.row T (uA (gI W T) 3 0)).k T = kd := by rw [row_k]; exact wk
  have h3 : gI (W.row T (uA (gI W T) 3 0)) T 3 = 0 := gI_u (by decide) (by decide) (by decide)
  have s1 := Same.row W T (uA (gI W T) 3 0)
  generalize W.row T (uA (gI W T) 3 0) = W1 at w1 k1 h3 s1
  have w2 := g_wrI (M := W1) (p := T) (kd := kd) (j := 0) (v := n) k1 (by decide)
  rw [show ((0 : Nat) : Int) = 0 from rfl] at w2
  have k2 : (W1.row T (uA (gI W1 T) 0 n)).k T = kd := by rw [row_k]; exact k1
  have s2 := Same.row W1 T (uA (gI W1 T) 0 n)
  have h30 : gI (W1.row T (uA (gI W1 T) 0 n)) T 3 = 0 := by rw [gI_u_ne (by decide) (by decide)]; exact h3
  have h0 : gI (W1.row T (uA (gI W1 T) 0 n)) T 0 = n := gI_u (by decide) n0 n1
  generalize W1.row T (uA (gI W1 T) 0 n) = W2 at w2 k2 s2 h30 h0
  have w3 := g_wrI (M := W2) (p := T) (kd := kd) (j := 1) (v := a) k2 (by decide)
  rw [show ((1 : Nat) : Int) = 1 from rfl] at w3
  have s3 := Same.row W2 T (uA (gI W2 T) 1 a)
  have i3 : gI (W2.row T (uA (gI W2 T) 1 a)) T 3 = 0 := by rw [gI_u_ne (by decide) (by decide)]; exact h30
  have i0 : gI (W2.row T (uA (gI W2 T) 1 a)) T 0 = n := by rw [gI_u_ne (by decide) (by decide)]; exact h0
  have i1 : gI (W2.row T (uA (gI W2 T) 1 a)) T 1 = a := gI_u (by decide) a0 a1
  generalize W2.row T (uA (gI W2 T) 1 a) = W3 at w3 s3 i3 i0 i1
  exact ⟨W3, fun f => by rw [w1, B1_some, w2, B1_some, w3, B1_some], (s1.tr s2).tr s3, i0, i1, i3⟩
/-- a thing is made -/
theorem ca_init {bl : List Int} {kd : Nat} {n a : Int} (nx : Nx (LiP M) (LiP M) NoP M X) (n9 : 179 ≤ M.n) (li : LiI X bl) (hk : kd ≠ 27) (n0 : -2147483648 ≤ n) (n1 : n < 2147483648) (a0 : -2147483648 ≤ a) (a1 : a < 2147483648) : ∃ Y, (B1 (wrZ (X.nw kd 0) X.n kd 3 (i2 0)) fun M6 => B1 (wrI M6 X.n kd 0 (i2 n)) fun M11 => B1 (wrI M11 X.n kd 1 (i2 a)) fun M16 => B1 (wrR M16 X.n kd 2 (some 163)) fun M21 => some M21) = some Y ∧ CA M Y X.n kd n a bl 0 := by
  obtain ⟨W3, e, s, h0, h1, h3⟩ := ca_w (W := X.nw kd 0) (T := X.n) (kd := kd) (nw_k X kd 0) n0 n1 a0 a1
  obtain ⟨⟨s1, s2, s3, s4, s5⟩, s6⟩ := s
  refine ⟨W3.sr X.n 2 (some 163), ?_, ca_fin nx n9 li rfl (by rw [s1, nw_n]) (by rw [s2, nw_k]) hk (fun p hp => by rw [s2, nw_ko X kd 0 p hp]) (fun p hp => by rw [s3, nw_lo X kd 0 p hp]) (fun p hp => by rw [s5, nw_r X kd 0 p hp]) (fun p hp => by rw [s4, nw_lq X kd 0 p hp]) (fun p hp => by rw [s6 p (by omega), nw_go X kd 0 p hp]) h0 h1 h3⟩
  rw [e, wrR_e (by rw [s2, nw_k]), B1_some]
end ACT
