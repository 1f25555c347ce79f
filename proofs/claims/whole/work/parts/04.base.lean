/-! THE WORLD OF THIS CLAIM: all cells that the law makes lie from E.b on, in the order in which they were made; a cell is named by its place o (its address is E.b + o). What they hold: M (how many there are; the kind of each; the length of each array; ints, longs, references by place and slot). -/
def up2 {α : Type} (f : Nat → Nat → α) (a j : Nat) (v : α) : Nat → Nat → α := fun b i => if b = a ∧ i = j then v else f b i
theorem up2_self {α : Type} (f : Nat → Nat → α) (a j : Nat) (v : α) : up2 f a j v a j = v := by simp [up2]
theorem up2_ne {α : Type} (f : Nat → Nat → α) {a j b i : Nat} (v : α) (h : ¬ (b = a ∧ i = j)) : up2 f a j v b i = f b i := by simp [up2, h]
theorem up2_nea {α : Type} (f : Nat → Nat → α) {a j b i : Nat} (v : α) (h : b ≠ a) : up2 f a j v b i = f b i := by simp [up2, h]
theorem up2_nej {α : Type} (f : Nat → Nat → α) {a j b i : Nat} (v : α) (h : i ≠ j) : up2 f a j v b i = f b i := by simp [up2, h]
def Mm : Type := Nat × (Nat → Nat) × (Nat → Nat) × (Nat → Nat → Int32) × (Nat → Nat → Int64) × (Nat → Nat → Option Nat)
def Mm.n (M : Mm) : Nat := M.1
def Mm.k (M : Mm) : Nat → Nat := M.2.1
def Mm.len (M : Mm) : Nat → Nat := M.2.2.1
def Mm.g (M : Mm) : Nat → Nat → Int32 := M.2.2.2.1
def Mm.l (M : Mm) : Nat → Nat → Int64 := M.2.2.2.2.1
def Mm.r (M : Mm) : Nat → Nat → Option Nat := M.2.2.2.2.2
/-- other ints -/
def Mm.wg (M : Mm) (g : Nat → Nat → Int32) : Mm := (M.n, M.k, M.len, g, M.l, M.r)
def Mm.sg (M : Mm) (a j : Nat) (v : Int32) : Mm := M.wg (up2 M.g a j v)
def Mm.sl (M : Mm) (a j : Nat) (v : Int64) : Mm := (M.n, M.k, M.len, M.g, up2 M.l a j v, M.r)
def Mm.sr (M : Mm) (a j : Nat) (v : Option Nat) : Mm := (M.n, M.k, M.len, M.g, M.l, up2 M.r a j v)
/-- one more cell, all zero or null -/
def Mm.nw (M : Mm) (k len : Nat) : Mm := (M.n + 1, va_up M.k M.n k, va_up M.len M.n len, va_up M.g M.n (fun _ => 0), va_up M.l M.n (fun _ => 0), va_up M.r M.n (fun _ => none))
def Ev : Type := Nat × va_G × (Nat → Nat) × (Nat → Nat)
def Ev.b (E : Ev) : Nat := E.1
def Ev.D (E : Ev) : va_G := E.2.1
def Ev.cy (E : Ev) : Nat → Nat := E.2.2.1
def Ev.x (E : Ev) : Nat → Nat := E.2.2.2
def rv (b : Nat) (r : Option Nat) : Value := va_rf (r.map fun o => b + o)
theorem rv_some (b o : Nat) : rv b (some o) = .ref (b + o) := rfl
theorem rv_none (b : Nat) : rv b none = .null := rfl
theorem rv_or (b : Nat) (r : Option Nat) : rv b r = .null ∨ ∃ a, rv b r = .ref a := va_rf_or _
/-- the fields of each kind of object: is it a reference? -/
def oSig : Nat → List Bool
  | 1 => [false]
  | 3 => [true, true, false, true, true, false]
  | 4 => [false, false, true, false]
  | 5 => [false, false, true, false]
  | 6 => [false, false, true, false]
  | 7 => [false, false, true, false]
  | 8 => [false, false, true, false]
  | 9 => [false, true]
  | 10 => [false, false, false, false, false, false, false, false, false, true, true]
  | 11 => [true, false, true, true, true, true, false, false, false]
  | 12 => [false, false, true, false]
  | 13 => [false, true, true]
  | 14 => [true, true, false, true, true, true, true, false, true, true, true, true]
  | 15 => [true, true, true, true, false, true, false, false, false, false, true, false, true, true, true, true, true, true, true, true, false, false, false, false, false]
  | _ => []
def fV (b : Nat) (M : Mm) (a j : Nat) (t : Bool) : Value := if t then rv b (M.r a j) else .int (M.g a j)
def oVals (b : Nat) (M : Mm) (a k : Nat) : List Value := (oSig k).mapIdx (fun j t => fV b M a j t)
/-- what an ArrayList holds as its row: place 0 stands for the JDK's own empty row -/
def alV (E : Ev) (r : Option Nat) : Value := match r with
  | none => .null
  | some o => .ref (if o = 0 then E.x 0 else E.b + o)
def cellE (E : Ev) (M : Mm) (a : Nat) : va_E :=
  if M.k a = 2 then .inr (1, [.int (M.g a 0), alV E (M.r a 1), .int (M.g a 2)])
  else if M.k a ≤ 20 then .inr (M.k a - 1, oVals E.b M a (M.k a))
  else if M.k a = 21 then .inl (E.cy 21, M.len a, .inl (M.g a))
  else if M.k a = 22 then .inl (E.cy 22, M.len a, .inr (.inl (M.l a)))
  else if M.k a = 27 then .inl (E.cy 27, M.len a, .inr (.inr (.inr (.inr fun j => (M.r a j).map fun _ => E.x (1128 + (M.g a j).toNatClampNeg)))))
  else .inl (E.cy (M.k a), M.len a, .inr (.inr (.inr (.inr fun j => (M.r a j).map fun o => E.b + o))))
def Wd (E : Ev) (M : Mm) (H : Heap) : Prop := H.size = E.b + M.n ∧ ∀ a, M.k a ≠ 0 → a < M.n ∧ va_at E.D vwCl (E.b + a, cellE E M a) H
def arTy : Nat → FieldType
  | 21 => .int
  | 22 => .long
  | 23 => .object "NylonLadder$Stocking"
  | 24 => .object "NylonLadder$Way"
  | 25 => .object "NylonLadder$Sheet"
  | 26 => .array .int
  | _ => .object "java/lang/Object"
def arTys (E : Ev) : List (ClassId × FieldType) := [(E.cy 21, arTy 21), (E.cy 22, arTy 22), (E.cy 23, arTy 23), (E.cy 24, arTy 24), (E.cy 25, arTy 25), (E.cy 26, arTy 26), (E.cy 27, arTy 27)]
/-- what a change of one cell does to the world -/
theorem Wd.step {E : Ev} {M M1 : Mm} {H H1 : Heap} {a : Nat} (hW : Wd E M H) (hn : M1.n = M.n) (hk : M1.k = M.k) (hc : ∀ b, b ≠ a → cellE E M1 b = cellE E M b) (hz : H1.size = H.size) (oq : ∀ q : Nat, q ≠ E.b + a → H1[q]? = H[q]?) (ha : M.k a ≠ 0 → va_at E.D vwCl (E.b + a, cellE E M1 a) H1) : Wd E M1 H1 := by
  refine ⟨by rw [hz, hW.1, hn], fun b hb => ?_⟩
  rw [hk] at hb
  have h1 := hW.2 b hb
  refine ⟨by rw [hn]; exact h1.1, ?_⟩
  by_cases e : b = a
  · subst e
    exact ha hb
  · rw [hc b e]
    exact h1.2.kept (oq _ (by show E.b + b ≠ E.b + a; omega))
theorem cellE_g {E : Ev} {M : Mm} {a j b : Nat} {v : Int32} (h : b ≠ a) : cellE E (M.sg a j v) b = cellE E M b := by
  have hg : ∀ i, (M.sg a j v).g b i = M.g b i := fun i => up2_nea _ _ h
  have e : (M.sg a j v).g b = M.g b := funext hg
  simp only [cellE, oVals, fV, hg, e]
  rfl
theorem cellE_l {E : Ev} {M : Mm} {a j b : Nat} {v : Int64} (h : b ≠ a) : cellE E (M.sl a j v) b = cellE E M b := by
  have hg : ∀ i, (M.sl a j v).l b i = M.l b i := fun i => up2_nea _ _ h
  have e : (M.sl a j v).l b = M.l b := funext hg
  simp only [cellE, oVals, fV, e]
  rfl
theorem cellE_r {E : Ev} {M : Mm} {a j b : Nat} {v : Option Nat} (h : b ≠ a) : cellE E (M.sr a j v) b = cellE E M b := by
  have hg : ∀ i, (M.sr a j v).r b i = M.r b i := fun i => up2_nea _ _ h
  simp only [cellE, oVals, fV, hg]
  rfl
theorem cellE_o {E : Ev} {M : Mm} {a kd : Nat} (h : M.k a = kd) (h2 : kd ≠ 2) (h20 : kd ≤ 20) : cellE E M a = .inr (kd - 1, oVals E.b M a kd) := by
  subst h
  simp only [cellE, if_neg h2, if_pos h20]
theorem oVals_len (b : Nat) (M : Mm) (a k : Nat) : (oVals b M a k).length = (oSig k).length := by simp [oVals]
theorem oVals_at {b : Nat} {M : Mm} {a k j : Nat} {t : Bool} (h : (oSig k)[j]? = some t) : (oVals b M a k)[j]? = some (fV b M a j t) := by
  simp [oVals, List.getElem?_mapIdx, h]
theorem oVals_sg {b : Nat} {M : Mm} {a k j : Nat} {v : Int32} (h : (oSig k)[j]? = some false) : (oVals b M a k).set j (.int v) = oVals b (M.sg a j v) a k := by
  apply List.ext_getElem?
  intro i
  by_cases e : i = j
  · subst e
    have hl : i < (oVals b M a k).length := by rw [oVals_len]; exact (List.getElem?_eq_some_iff.mp h).1
    rw [List.getElem?_set_self hl, oVals_at h]
    simp [fV, Mm.sg, Mm.wg, Mm.g, up2_self]
  · rw [List.getElem?_set_ne (Ne.symm e)]
    simp only [oVals, List.getElem?_mapIdx]
    cases (oSig k)[i]? with
    | none => rfl
    | some t =>
      have hg : (M.sg a j v).g a i = M.g a i := up2_nej _ _ e
      simp only [Option.map_some, fV, hg]
      rfl
theorem oVals_sr {b : Nat} {M : Mm} {a k j : Nat} {v : Option Nat} (h : (oSig k)[j]? = some true) : (oVals b M a k).set j (rv b v) = oVals b (M.sr a j v) a k := by
  apply List.ext_getElem?
  intro i
  by_cases e : i = j
  · subst e
    have hl : i < (oVals b M a k).length := by rw [oVals_len]; exact (List.getElem?_eq_some_iff.mp h).1
    rw [List.getElem?_set_self hl, oVals_at h]
    have hg : (M.sr a i v).r a i = v := up2_self _ _ _ _
    simp only [fV, hg, if_true]
  · rw [List.getElem?_set_ne (Ne.symm e)]
    simp only [oVals, List.getElem?_mapIdx]
    cases (oSig k)[i]? with
    | none => rfl
    | some t =>
      have hg : (M.sr a j v).r a i = M.r a i := up2_nej _ _ e
      simp only [Option.map_some, fV, hg]
      rfl
/-! what the program may ask of a world: each answers none where the machine would throw -/
def B1 {α γ : Type} (o : Option α) (f : α → Option γ) : Option γ := match o with
  | none => none
  | some a => f a
def B2 {α β γ : Type} (o : Option (α × β)) (f : α → β → Option γ) : Option γ := match o with
  | none => none
  | some (a, b) => f a b
theorem x_b1 {α γ : Type} {o : Option α} {f : α → Option γ} {r : γ} (h : B1 o f = some r) : ∃ a, o = some a ∧ f a = some r := by
  cases o with
  | none => cases h
  | some a => exact ⟨a, rfl, h⟩
theorem x_b2 {α β γ : Type} {o : Option (α × β)} {f : α → β → Option γ} {r : γ} (h : B2 o f = some r) : ∃ a b, o = some (a, b) ∧ f a b = some r := by
  cases o with
  | none => cases h
  | some q => exact ⟨q.1, q.2, rfl, h⟩
theorem B1_s {α γ : Type} (a : α) (f : α → Option γ) : B1 (some a) f = f a := rfl
theorem B2_s {α β γ : Type} (a : α) (b : β) (f : α → β → Option γ) : B2 (some (a, b)) f = f a b := rfl
theorem x_ip {α : Type} {c : Prop} {inst : Decidable c} {a b r : α} (hc : c) (h : (@ite α c inst a b) = r) : a = r := by rw [if_pos hc] at h; exact h
theorem x_in {α : Type} {c : Prop} {inst : Decidable c} {a b r : α} (hc : ¬ c) (h : (@ite α c inst a b) = r) : b = r := by rw [if_neg hc] at h; exact h
def rdI (M : Mm) (a kd j : Nat) : Option Int32 := if M.k a = kd then some (M.g a j) else none
/-- a field that holds a reference: null is none -/
def rdN (M : Mm) (a kd j : Nat) : Option Nat := if M.k a = kd then M.r a j else none
/-- a field that may hold null -/
def rdQ (M : Mm) (a kd j : Nat) : Option (Option Nat) := if M.k a = kd then some (M.r a j) else none
def wrI (M : Mm) (a kd j : Nat) (v : Int32) : Option Mm := if M.k a = kd then some (M.sg a j v) else none
/-- a boolean field -/
def wrZ (M : Mm) (a kd j : Nat) (v : Int32) : Option Mm := if M.k a = kd ∧ (v = 0 ∨ v = 1) then some (M.sg a j v) else none
def wrR (M : Mm) (a kd j : Nat) (v : Option Nat) : Option Mm := if M.k a = kd then some (M.sr a j v) else none
def inB (i : Int32) (n : Nat) : Bool := decide (0 ≤ i.toInt) && decide (i.toInt < n)
theorem inB_vp {i : Int32} {n : Nat} (h : inB i n = true) : vp_in i n := by
  simp only [inB, Bool.and_eq_true, decide_eq_true_eq] at h
  exact vp_in_iff.mpr h
def alI (M : Mm) (a : Nat) (i : Int32) : Option Int32 := if M.k a = 21 ∧ inB i (M.len a) = true then some (M.g a i.toNatClampNeg) else none
def asI (M : Mm) (a : Nat) (i v : Int32) : Option Mm := if M.k a = 21 ∧ inB i (M.len a) = true then some (M.sg a i.toNatClampNeg v) else none
def alL (M : Mm) (a : Nat) (i : Int32) : Option Int64 := if M.k a = 22 ∧ inB i (M.len a) = true then some (M.l a i.toNatClampNeg) else none
def asL (M : Mm) (a : Nat) (i : Int32) (v : Int64) : Option Mm := if M.k a = 22 ∧ inB i (M.len a) = true then some (M.sl a i.toNatClampNeg v) else none
/-- an array of references: kinds 23 to 26 -/
def alN (M : Mm) (a kd : Nat) (i : Int32) : Option Nat := if M.k a = kd ∧ inB i (M.len a) = true then M.r a i.toNatClampNeg else none
def alQ (M : Mm) (a kd : Nat) (i : Int32) : Option (Option Nat) := if M.k a = kd ∧ inB i (M.len a) = true then some (M.r a i.toNatClampNeg) else none
/-- v is an object of the kind that the array holds, or null -/
def asR (M : Mm) (a kd : Nat) (i : Int32) (ko : Nat) (v : Option Nat) : Option Mm := if M.k a = kd ∧ inB i (M.len a) = true ∧ (∀ o, v = some o → M.k o = ko) then some (M.sr a i.toNatClampNeg v) else none
def alN_ (M : Mm) (a : Nat) : Option Int32 := if 21 ≤ M.k a ∧ M.k a ≤ 27 then some (Int32.ofNat (M.len a)) else none
def dvI (x y : Int32) : Option Int32 := if y = 0 then none else some (x / y)
def rmI (x y : Int32) : Option Int32 := if y = 0 then none else some (x - x / y * y)
def dvL (x y : Int64) : Option Int64 := if y = 0 then none else some (x / y)
def rmL (x y : Int64) : Option Int64 := if y = 0 then none else some (x - x / y * y)
def bz (v : Int32) : Option Int32 := if v = 0 ∨ v = 1 then some v else none
