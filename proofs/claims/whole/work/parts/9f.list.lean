theorem gd_last (bl : List Int) (b : Int) : (bl ++ [b]).getD bl.length 0 = b := by simp [List.getD]
theorem gd_init {bl : List Int} (b : Int) {i : Nat} (h : i < bl.length) : (bl ++ [b]).getD i 0 = bl.getD i 0 := by simp [List.getD, List.getElem?_append_left h]
theorem gd_mem {bl : List Int} {i : Nat} (h : i < bl.length) : bl.getD i 0 ∈ bl := by
  have e : bl.getD i 0 = bl[i] := by simp [List.getD, h]
  rw [e]
  exact List.getElem_mem h
section LIST
variable {X : Mm}
theorem sr_self (X : Mm) (a j : Nat) (v : Option Nat) : (X.sr a j v).r a j = v := up2_self X.r a j v
/-- the list's row o holds the bodies bl -/
def LiA (X : Mm) (o : Nat) (bl : List Int) : Prop := (179 ≤ o ∧ o < X.n) ∧ X.k o = 27 ∧ (X.len o = 10 ∨ X.len o = 15) ∧ bl.length ≤ X.len o ∧ ∀ i : Nat, i < bl.length → X.r o i ≠ none ∧ gI X o i = bl.getD i 0
def LiI (X : Mm) (bl : List Int) : Prop := X.k 163 = 2 ∧ gI X 163 2 = bl.length ∧ (∀ b ∈ bl, 0 ≤ b ∧ b < 128) ∧ ((X.r 163 1 = some 0 ∧ bl = []) ∨ ∃ o, X.r 163 1 = some o ∧ LiA X o bl)
/-- the cells that an act's list may touch -/
def LiP (X : Mm) (p : Nat) : Prop := p = 163 ∨ (179 ≤ p ∧ X.k p = 27)
theorem dsb_e {o i : Nat} {b : Int} (h : X.k o = 27) (o0 : o ≠ 0) (hi : i < X.len o) (h15 : X.len o ≤ 15) (b0 : 0 ≤ b) (b9 : b < 128) : dsb X o (i2 i) (i2 b) = some ((X.row o (uA (gI X o) i b)).sr o i (some 0)) := by
  have hn : (i2 (i : Int)).toNatClampNeg = i := by rw [i2_nat (by omega) (by omega)]; omega
  have e := row_sg (M := X) (p := o) (A := gI X o) (x := (i : Int)) (v := b) (by omega) (by omega)
  rw [row_gI, hn] at e
  unfold dsb
  rw [if_pos, hn, e]
  refine ⟨o0, h, ?_, ?_⟩
  · rw [i2_inB (by omega) (by omega)]
    simp
    omega
  · rw [i2_inB (by omega) (by omega)]
    simp [b0]
    omega
/-- one body more in a row that has room -/
theorem la_put {o : Nat} {bl : List Int} {b : Int} (h : LiA X o bl) (hl : bl.length < X.len o) (h163 : X.k 163 = 2) (b0 : 0 ≤ b) (b9 : b < 128) : ∃ Y, dsb X o (i2 bl.length) (i2 b) = some Y ∧ LiA Y o (bl ++ [b]) ∧ Nx (LiP X) (LiP X) NoP X Y ∧ gI Y 163 = gI X 163 ∧ Y.r 163 = X.r 163 := by
  obtain ⟨⟨a1, a2⟩, a3, a4, a5, a6⟩ := h
  have l15 : X.len o ≤ 15 := by omega
  refine ⟨(X.row o (uA (gI X o) bl.length b)).sr o bl.length (some 0), dsb_e a3 (by omega) hl l15 b0 b9, ⟨⟨a1, a2⟩, a3, a4, ?_, fun i hi => ?_⟩, (Nx.of (SmP.row X _ (Or.inr ⟨a1, a3⟩))).tr (Nx.sr _ _ (Or.inr ⟨a1, a3⟩)), ?_, ?_⟩
  · rw [List.length_append]
    exact hl
  · rw [List.length_append] at hi
    have hi2 : i < bl.length + 1 := hi
    have r : ((X.row o (uA (gI X o) bl.length b)).sr o bl.length (some 0)).r o i = if o = o ∧ i = bl.length then some 0 else X.r o i := rfl
    rw [gI_sr, r]
    by_cases e : i = bl.length
    · rw [if_pos ⟨rfl, e⟩]
      refine ⟨by simp, ?_⟩
      rw [e, gI_u (by omega) (by omega) (by omega), gd_last]
    · rw [if_neg (fun z => e z.2), gI_u_ne (by omega) (by omega), gd_init _ (by omega)]
      exact a6 i (by omega)
  · rw [gI_sr, gI_ne _ (by omega)]
  · exact funext fun i => up2_nea _ _ (show 163 ≠ o by omega)
/-- a row of boxes is made new -/
theorem dnw_e {n : Nat} (h : 0 < X.n) (n9 : n ≤ 15) : dnw X 15 (i2 n) = some (X.nw 27 n) := by
  have hn : (i2 (n : Int)).toNatClampNeg = n := by rw [i2_nat (by omega) (by omega)]; omega
  unfold dnw
  rw [hn, i2_toInt (by omega) (by omega), if_pos ⟨by omega, n9, h⟩]
theorem dln_e {o : Nat} (h : X.k o = 27) (o0 : o ≠ 0) : dln X o = some (i2 (X.len o)) := by
  unfold dln
  rw [if_neg o0, if_pos h, i2_ofNat]
theorem k163_nx {P Q L : Nat → Prop} {Y : Mm} (x : Nx P Q L X Y) (n9 : 179 ≤ X.n) : Y.k 163 = X.k 163 := (x.2.1 163 (by omega)).1
theorem wrR_e {kd a j : Nat} {v : Option Nat} (h : X.k a = kd) : wrR X a kd j v = some (X.sr a j v) := if_pos h
theorem LiP.nw {kd len p : Nat} (h : ¬ LiP X p) (hp : p < X.n) : ¬ LiP (X.nw kd len) p := fun z => h (z.imp id fun w => ⟨w.1, by have w2 := w.2; rw [nw_ko X kd len p (by omega)] at w2; exact w2⟩)
/-- steps that keep kinds go on from one memory -/
theorem Nx.go {Y Z : Mm} (h : Nx (LiP X) (LiP X) NoP X Y) (h' : Nx (LiP Y) (LiP Y) NoP Y Z) : Nx (LiP X) (LiP X) NoP X Z := by
  obtain ⟨a1, a2, a3, a4, a5⟩ := h
  obtain ⟨b1, b2, b3, b4, b5⟩ := h'
  have k : ∀ p, p < X.n → ¬ LiP X p → ¬ LiP Y p := fun p hp n z => n (z.imp id fun w => ⟨w.1, by have w2 := w.2; rw [(a2 p hp).1] at w2; exact w2⟩)
  exact ⟨Nat.le_trans a1 b1, fun p hp => ⟨(b2 p (by omega)).1.trans (a2 p hp).1, (b2 p (by omega)).2.trans (a2 p hp).2⟩, fun p hp q => (b3 p (by omega) (k p hp q)).trans (a3 p hp q), fun p hp q => (b4 p (by omega) (k p hp q)).trans (a4 p hp q), fun p hp q => (b5 p (by omega) q).trans (a5 p hp q)⟩
def dacM (X : Mm) (d : Nat) : Mm := ((X.nw 27 15).n, (X.nw 27 15).k, (X.nw 27 15).len, va_up (X.nw 27 15).g X.n (va_cpy ((X.nw 27 15).g d) ((X.nw 27 15).g X.n) 0 0 10), (X.nw 27 15).l, va_up (X.nw 27 15).r X.n (va_cpy ((X.nw 27 15).r d) ((X.nw 27 15).r X.n) 0 0 10))
/-- the list's row gets longer, if it must: then there is room -/
theorem c_grow {bl : List Int} (n9 : 179 ≤ X.n) (h : LiI X bl) (hl : bl.length ≤ 12) {d : Nat} (hd : X.r 163 1 = some d) (full : (d = 0 ∧ bl = []) ∨ (d ≠ 0 ∧ LiA X d bl ∧ bl.length = X.len d)) : ∃ o Y, fJx4a65c_grow_d5877 X 163 = some (o, Y) ∧ LiA Y o bl ∧ bl.length < Y.len o ∧ Y.k 163 = 2 ∧ Nx (LiP X) (LiP X) NoP X Y ∧ gI Y 163 = gI X 163 ∧ Y.r 163 1 = some o := by
  obtain ⟨h1, h2, h3, -⟩ := h
  have r2 : rdI X 163 2 2 = some (i2 bl.length) := by
    rw [g_rdI h1, ← h2]
    rfl
  have gk1 : gk X 163 2 = some () := if_pos h1
  have rN : rdN X 163 2 1 = some d := by unfold rdN; rw [if_pos h1]; exact hd
  unfold fJx4a65c_grow_d5877
  rw [r2, B1_some, gk1, B1_some]
  rcases full with ⟨d0, b0⟩ | ⟨d0, la, eq⟩
  · subst d0
    subst b0
    have nx1 : Nx (LiP X) (LiP X) NoP X (X.nw 27 10) := Nx.nw X 27 10
    have k1 : (X.nw 27 10).k 163 = 2 := (k163_nx nx1 n9).trans h1
    have nx2 : Nx (LiP X) (LiP X) NoP X ((X.nw 27 10).sr 163 1 (some X.n)) := nx1.tr (Nx.sr _ _ (Or.inl rfl))
    refine ⟨X.n, (X.nw 27 10).sr 163 1 (some X.n), ?_, ⟨⟨n9, Nat.lt_succ_self _⟩, nw_k X 27 10, Or.inl (nw_len X 27 10), by show 0 ≤ _; omega, fun i hi => absurd hi (by simp)⟩, ?_, k1, nx2, ?_, sr_self _ _ _ _⟩
    · have dl : dln X 0 = some 0 := rfl
      have gz0 : gz 0 = some () := rfl
      have dn := dnw_e (X := X) (n := 10) (by omega) (by decide)
      have e1 : mxI 10 (i2 ((([] : List Int).length : Nat) : Int) + 1) = i2 ((10 : Nat) : Int) := by decide +kernel
      have e2 : fJx4a65c_grow_92f84 X 163 (i2 ((([] : List Int).length : Nat) : Int) + 1) = some (X.n, (X.nw 27 10).sr 163 1 (some X.n)) := by
        unfold fJx4a65c_grow_92f84
        rw [rN, B1_some, dl, B1_some, if_neg (by decide +kernel), B1_some, gz0, B1_some, e1, dn, B1_some, wrR_e k1, B1_some]
      rw [e2]
      rfl
    · show 0 < (X.nw 27 10).len X.n
      rw [nw_len]
      decide
    · rw [gI_sr]
      exact gI_of (nw_go X 27 10 163 (by omega))
  · obtain ⟨⟨a1, a2⟩, a3, a4, a5, a6⟩ := la
    have l10 : X.len d = 10 := by omega
    have b10 : bl.length = 10 := by omega
    have nx1 : Nx (LiP X) (LiP X) NoP X (X.nw 27 15) := Nx.nw X 27 15
    have k1 : (X.nw 27 15).k 163 = 2 := (k163_nx nx1 n9).trans h1
    have kd : (X.nw 27 15).k d = 27 := (nw_ko X 27 15 d (by omega)).trans a3
    have ld : (X.nw 27 15).len d = 10 := (nw_lo X 27 15 d (by omega)).trans l10
    have gd : (X.nw 27 15).g d = X.g d := nw_go X 27 15 d (by omega)
    have rd : (X.nw 27 15).r d = X.r d := va_up_ne _ _ (by omega)
    have dac1 : dac (X.nw 27 15) d 0 X.n 0 (i2 10) = some (dacM X d) := by
      have z0 : (0 : Int32).toNatClampNeg = 0 := by decide +kernel
      have z10 : (i2 10).toNatClampNeg = 10 := by decide +kernel
      unfold dac
      rw [z0, z10]
      refine (if_pos ?_).trans rfl
      refine ⟨⟨d0, kd⟩, ⟨by omega, nw_k X 27 15⟩, by decide +kernel, by decide +kernel, by decide +kernel, by rw [ld]; decide, by rw [nw_len]; decide, fun i hi => ?_⟩
      rw [gd, Nat.zero_add]
      obtain ⟨-, q2⟩ := a6 i (by omega)
      have hb := h3 _ (gd_mem (bl := bl) (i := i) (by omega))
      rw [show X.g d i = i2 (gI X d i) by unfold gI; rw [i2_self, Int.toNat_natCast], q2, i2_inB (by omega) (by omega), Bool.and_eq_true, decide_eq_true_eq, decide_eq_true_eq]
      exact ⟨hb.1, hb.2⟩
    have Zn : (dacM X d).n = X.n + 1 := rfl
    have Zk : (dacM X d).k = (X.nw 27 15).k := rfl
    have Zl : (dacM X d).len = (X.nw 27 15).len := rfl
    have Zg : (dacM X d).g = va_up (X.nw 27 15).g X.n (va_cpy ((X.nw 27 15).g d) ((X.nw 27 15).g X.n) 0 0 10) := rfl
    have Zll : (dacM X d).l = (X.nw 27 15).l := rfl
    have Zr : (dacM X d).r = va_up (X.nw 27 15).r X.n (va_cpy ((X.nw 27 15).r d) ((X.nw 27 15).r X.n) 0 0 10) := rfl
    generalize dacM X d = Z at dac1 Zn Zk Zl Zg Zll Zr
    have nxZ : Nx (LiP X) (LiP X) NoP X Z := by
      obtain ⟨x1, x2, x3, x4, x5⟩ := nx1
      exact ⟨by omega, fun p hp => by rw [Zk, Zl]; exact x2 p hp, fun p hp q => by rw [Zg, va_up_ne _ _ (by omega)]; exact x3 p hp q, fun p hp q => by rw [Zr, va_up_ne _ _ (by omega)]; exact x4 p hp q, fun p hp q => by rw [Zll]; exact x5 p hp q⟩
    have kZ : Z.k 163 = 2 := by rw [Zk]; exact k1
    refine ⟨X.n, Z.sr 163 1 (some X.n), ?_, ⟨⟨n9, by show X.n < Z.n; omega⟩, by show Z.k X.n = 27; rw [Zk]; exact nw_k X 27 15, Or.inr (by show Z.len X.n = 15; rw [Zl]; exact nw_len X 27 15), by show _ ≤ Z.len X.n; rw [Zl, nw_len]; omega, fun i hi => ?_⟩, by show _ < Z.len X.n; rw [Zl, nw_len]; omega, kZ, nxZ.tr (Nx.sr _ _ (Or.inl rfl)), ?_, sr_self _ _ _ _⟩
    · have dl : dln X d = some (i2 10) := by
        rw [dln_e a3 d0, l10]
        rfl
      have dl2 : dln (X.nw 27 15) d = some (i2 10) := by
        rw [dln_e kd d0, ld]
        rfl
      have nl : fJ8_newLength_cabcc X (i2 10) (i2 (bl.length : Int) + 1 - i2 10) (i2 10 >>> (1 &&& 31)) = some (i2 ((15 : Nat) : Int)) := by
        rw [b10]
        unfold fJ8_newLength_cabcc
        rw [if_neg (by decide +kernel), if_neg (by decide +kernel)]
        decide +kernel
      have gkd : gk X d 27 = some () := if_pos a3
      have gnzd : gnz d = some () := by unfold gnz; rw [if_neg d0]
      have dn := dnw_e (X := X) (n := 15) (by omega) (by decide)
      have mn : mnI (i2 10) (i2 ((15 : Nat) : Int)) = i2 10 := by decide +kernel
      have c1 : fJ7_copyOf_6403c X d (i2 ((15 : Nat) : Int)) = some (X.n, Z) := by
        unfold fJ7_copyOf_6403c
        rw [dn, B1_some, dl2, B1_some, mn, dac1, B1_some]
      have c2 : fJ7_copyOf_1904c X d (i2 ((15 : Nat) : Int)) = some (X.n, Z) := by
        unfold fJ7_copyOf_1904c
        rw [gkd, B1_some, gnzd, B1_some, c1]
        rfl
      have e2 : fJx4a65c_grow_92f84 X 163 (i2 (bl.length : Int) + 1) = some (X.n, Z.sr 163 1 (some X.n)) := by
        unfold fJx4a65c_grow_92f84
        rw [rN, B1_some, dl, B1_some, if_pos (by decide +kernel), nl, B1_some, B1_some, c2, B2_some, wrR_e kZ, B1_some]
      rw [e2]
      rfl
    · have hi2 : i < 10 := by omega
      have e1 : (Z.sr 163 1 (some X.n)).r X.n i = Z.r X.n i := up2_nea _ _ (by omega)
      have e2 : Z.r X.n i = X.r d i := by
        rw [Zr, va_up_self]
        unfold va_cpy
        rw [if_pos (by omega), rd]
        congr 1
        omega
      have e3 : gI (Z.sr 163 1 (some X.n)) X.n i = gI X d i := by
        rw [gI_sr]
        unfold gI
        rw [Zg, va_up_self]
        unfold va_cpy
        rw [if_pos (by omega), gd]
        congr 2
        omega
      rw [e1, e2, e3]
      exact a6 i hi
    · rw [gI_sr]
      refine gI_of ?_
      rw [Zg, va_up_ne _ _ (by omega)]
      exact nw_go X 27 15 163 (by omega)
/-- one body more -/
theorem c_add {bl : List Int} {b : Int} (n9 : 179 ≤ X.n) (h : LiI X bl) (hl : bl.length ≤ 12) (b0 : 0 ≤ b) (b9 : b < 128) : ∃ Y, fJx4a65c_add_9ea2d X 163 (i2 b) = some (i2 1, Y) ∧ LiI Y (bl ++ [b]) ∧ Nx (LiP X) (LiP X) NoP X Y := by
  obtain ⟨h1, h2, h3, h4⟩ := h
  have rd0 : rdI X 163 2 0 = some (i2 (gI X 163 0)) := g_rdI h1 0
  have w0 := g_wrI (M := X) (p := 163) (kd := 2) (j := 0) (v := gI X 163 0 + 1) h1 (by decide)
  rw [show ((0 : Nat) : Int) = 0 from rfl] at w0
  have nx0 : Nx (LiP X) (LiP X) NoP X (X.row 163 (uA (gI X 163) 0 (gI X 163 0 + 1))) := Nx.of (SmP.row X _ (Or.inl rfl))
  have k1 : (X.row 163 (uA (gI X 163) 0 (gI X 163 0 + 1))).k 163 = 2 := h1
  have sz : gI (X.row 163 (uA (gI X 163) 0 (gI X 163 0 + 1))) 163 2 = bl.length := by rw [gI_u_ne (by decide) (by decide), h2]
  have h4' : (((X.row 163 (uA (gI X 163) 0 (gI X 163 0 + 1))).r 163 1 = some 0 ∧ bl = []) ∨ ∃ o, (X.row 163 (uA (gI X 163) 0 (gI X 163 0 + 1))).r 163 1 = some o ∧ LiA (X.row 163 (uA (gI X 163) 0 (gI X 163 0 + 1))) o bl) := h4.imp id fun ⟨o, r, ⟨a1, a2⟩, a3, a4, a5, a6⟩ => ⟨o, r, ⟨a1, a2⟩, a3, a4, a5, fun i hi => by rw [gI_ne _ (by omega)]; exact a6 i hi⟩
  have n1 : 179 ≤ (X.row 163 (uA (gI X 163) 0 (gI X 163 0 + 1))).n := n9
  generalize X.row 163 (uA (gI X 163) 0 (gI X 163 0 + 1)) = X1 at w0 nx0 k1 sz h4' n1
  have rd2 : rdI X1 163 2 2 = some (i2 bl.length) := by
    rw [g_rdI k1, ← sz]
    rfl
  have gk1 : gk X1 163 2 = some () := if_pos k1
  -- what is left, once there is room
  have fin : ∀ (o : Nat) (Y : Mm), LiA Y o bl → bl.length < Y.len o → Y.k 163 = 2 → gI Y 163 = gI X1 163 → Y.r 163 1 = some o → ∃ Z, (B1 (dsb Y o (i2 bl.length) (i2 b)) fun M14 => B1 (wrI M14 163 2 2 (i2 bl.length + 1)) fun M19 => some M19) = some Z ∧ LiI Z (bl ++ [b]) ∧ Nx (LiP Y) (LiP Y) NoP Y Z := by
    intro o Y la room kY gY rY
    obtain ⟨W, w1, w2, w3, w4, w5⟩ := la_put la room kY b0 b9
    have n163 : 179 ≤ Y.n := by have := la.1; omega
    have kW : W.k 163 = 2 := (k163_nx w3 n163).trans kY
    have wr := g_wrI (M := W) (p := 163) (kd := 2) (j := 2) (v := bl.length + 1) kW (by decide)
    rw [show ((2 : Nat) : Int) = 2 from rfl] at wr
    have kl : LiP Y 163 := Or.inl rfl
    refine ⟨W.row 163 (uA (gI W 163) 2 (bl.length + 1)), ?_, ⟨kW, ?_, ?_, Or.inr ⟨o, ?_, ?_⟩⟩, w3.tr (Nx.of (SmP.row W _ kl))⟩
    · rw [w1, B1_some, L_1, i2_add, wr, B1_some]
    · rw [gI_u (by decide) (by omega) (by omega), List.length_append]
      rfl
    · intro q hq
      rcases List.mem_append.mp hq with z | z
      · exact h3 q z
      · rw [List.mem_singleton] at z
        rw [z]
        exact ⟨b0, b9⟩
    · show W.r 163 1 = some o
      rw [w5]
      exact rY
    · obtain ⟨⟨a1, a2⟩, a3, a4, a5, a6⟩ := w2
      exact ⟨⟨a1, a2⟩, a3, a4, a5, fun i hi => by rw [gI_ne _ (by omega)]; exact a6 i hi⟩
  have add : ∀ d, X1.r 163 1 = some d → (∃ Z, fJx4a65c_add_72be8 X1 163 (i2 b) d (i2 bl.length) = some Z ∧ LiI Z (bl ++ [b]) ∧ Nx (LiP X1) (LiP X1) NoP X1 Z) → ∃ Y, fJx4a65c_add_9ea2d X 163 (i2 b) = some (i2 1, Y) ∧ LiI Y (bl ++ [b]) ∧ Nx (LiP X) (LiP X) NoP X Y := by
    intro d hd ⟨Z, z1, z2, z3⟩
    have rN : rdN X1 163 2 1 = some d := by unfold rdN; rw [if_pos k1]; exact hd
    refine ⟨Z, ?_, z2, nx0.go z3⟩
    unfold fJx4a65c_add_9ea2d
    rw [rd0, B1_some, L_1, i2_add, w0, B1_some, rN, B1_some, rd2, B1_some, gk1, B1_some, z1, B1_some]
  have li1 : LiI X1 bl := ⟨k1, sz, h3, h4'⟩
  rcases h4' with ⟨r, e⟩ | ⟨o, r, la⟩
  · obtain ⟨o, Y, g1, g2, g3, g4, g5, g6, g7⟩ := c_grow n1 li1 hl r (Or.inl ⟨rfl, e⟩)
    obtain ⟨Z, z1, z2, z3⟩ := fin o Y g2 g3 g4 g6 g7
    refine add 0 r ⟨Z, ?_, z2, g5.go z3⟩
    unfold fJx4a65c_add_72be8
    rw [show dln X1 0 = some 0 from rfl, B1_some, if_pos (by rw [e]; decide +kernel), gk1, B1_some, g1, B2_some]
    exact z1
  · have ll : X1.len o ≤ 15 := by have := la.2.2.1; omega
    have o0 : o ≠ 0 := by have := la.1; omega
    have dl := dln_e (X := X1) la.2.1 o0
    by_cases full : bl.length = X1.len o
    · obtain ⟨o', Y, g1, g2, g3, g4, g5, g6, g7⟩ := c_grow n1 li1 hl r (Or.inr ⟨o0, la, full⟩)
      obtain ⟨Z, z1, z2, z3⟩ := fin o' Y g2 g3 g4 g6 g7
      refine add o r ⟨Z, ?_, z2, g5.go z3⟩
      unfold fJx4a65c_add_72be8
      rw [dl, B1_some, if_pos (by rw [full]), gk1, B1_some, g1, B2_some]
      exact z1
    · have room : bl.length < X1.len o := by have := la.2.2.2.1; omega
      obtain ⟨Z, z1, z2, z3⟩ := fin o X1 la room k1 rfl r
      refine add o r ⟨Z, ?_, z2, z3⟩
      unfold fJx4a65c_add_72be8
      rw [dl, B1_some, if_neg (by rw [i2_eq (by omega) (by omega) (by omega) (by omega)]; omega)]
      exact z1
end LIST
