section KEEP
/-! NO METHOD OF THE COMPONENT CHANGES THE KIND OF A CELL THAT WAS THERE (written by wip/gen/keepgen.py) -/
def Kp (M M1 : Mm) : Prop := M.n ≤ M1.n ∧ ∀ p, p < M.n → M1.k p = M.k p
theorem Kp.rf (M : Mm) : Kp M M := ⟨Nat.le_refl _, fun _ _ => rfl⟩
theorem Kp.tr {M M1 M2 : Mm} (h : Kp M M1) (h' : Kp M1 M2) : Kp M M2 := ⟨Nat.le_trans h.1 h'.1, fun p hp => (h'.2 p (Nat.lt_of_lt_of_le hp h.1)).trans (h.2 p hp)⟩
def KO (M0 : Mm) (o : Option Mm) : Prop := ∀ M1, o = some M1 → Kp M0 M1
def KQ {α : Type} (M0 : Mm) (o : Option (α × Mm)) : Prop := ∀ x M1, o = some (x, M1) → Kp M0 M1
section KEEPR
variable {M0 M M1 : Mm} {α β γ : Type}
theorem KO.none : KO M0 none := fun _ h => by cases h
theorem KQ.none : KQ (α := α) M0 none := fun _ _ h => by cases h
theorem KO.some (h : Kp M0 M) : KO M0 (some M) := fun _ e => by cases e; exact h
theorem KQ.some (h : Kp M0 M) (x : α) : KQ M0 (some (x, M)) := fun _ _ e => by cases e; exact h
theorem KO.b1 {o : Option α} {f : α → Option Mm} (h : ∀ x, KO M0 (f x)) : KO M0 (B1 o f) := fun M1 e => by
  cases o with
  | none => cases e
  | some x => exact h x M1 e
theorem KO.b1m {o : Option Mm} {f : Mm → Option Mm} (h0 : KO M0 o) (h : ∀ M, Kp M0 M → KO M0 (f M)) : KO M0 (B1 o f) := fun M1 e => by
  cases o with
  | none => cases e
  | some x => exact h x (h0 x rfl) M1 e
theorem KO.b2 {o : Option (α × Mm)} {f : α → Mm → Option Mm} (h0 : KQ M0 o) (h : ∀ x M, Kp M0 M → KO M0 (f x M)) : KO M0 (B2 o f) := fun M1 e => by
  cases o with
  | none => cases e
  | some x => exact h x.1 x.2 (h0 x.1 x.2 rfl) M1 e
theorem KQ.b1 {o : Option α} {f : α → Option (β × Mm)} (h : ∀ x, KQ M0 (f x)) : KQ M0 (B1 o f) := fun y M1 e => by
  cases o with
  | none => cases e
  | some x => exact h x y M1 e
theorem KQ.b1m {o : Option Mm} {f : Mm → Option (β × Mm)} (h0 : KO M0 o) (h : ∀ M, Kp M0 M → KQ M0 (f M)) : KQ M0 (B1 o f) := fun y M1 e => by
  cases o with
  | none => cases e
  | some x => exact h x (h0 x rfl) y M1 e
theorem KQ.b2 {o : Option (α × Mm)} {f : α → Mm → Option (β × Mm)} (h0 : KQ M0 o) (h : ∀ x M, Kp M0 M → KQ M0 (f x M)) : KQ M0 (B2 o f) := fun y M1 e => by
  cases o with
  | none => cases e
  | some x => exact h x.1 x.2 (h0 x.1 x.2 rfl) y M1 e
theorem KO.ite {c : Prop} [Decidable c] {a b : Option Mm} (h1 : KO M0 a) (h2 : KO M0 b) : KO M0 (if c then a else b) := by
  split
  · exact h1
  · exact h2
theorem KQ.ite {c : Prop} [Decidable c] {a b : Option (α × Mm)} (h1 : KQ M0 a) (h2 : KQ M0 b) : KQ M0 (if c then a else b) := by
  split
  · exact h1
  · exact h2
theorem KO.nl {r : Option Nat} {a : Option Mm} {b : Nat → Option Mm} (h1 : KO M0 a) (h2 : ∀ x, KO M0 (b x)) : KO M0 (NL r a b) := by
  cases r with
  | none => exact h1
  | some x => exact h2 x
theorem KQ.nl {r : Option Nat} {a : Option (α × Mm)} {b : Nat → Option (α × Mm)} (h1 : KQ M0 a) (h2 : ∀ x, KQ M0 (b x)) : KQ M0 (NL r a b) := by
  cases r with
  | none => exact h1
  | some x => exact h2 x
theorem Kp.nw (h : Kp M0 M) (kd len : Nat) : Kp M0 (M.nw kd len) := h.tr ⟨Nat.le_succ _, fun p hp => va_up_ne _ _ (Nat.ne_of_lt hp)⟩

theorem k_wrI (h : Kp M0 M) {a kd j : Nat} {v : Int32} : KO M0 (wrI M a kd j v) := fun M1 e => by
  unfold wrI at e
  split at e
  · cases e
    exact h.tr ⟨Nat.le_refl _, fun _ _ => rfl⟩
  · cases e
theorem k_wrZ (h : Kp M0 M) {a kd j : Nat} {v : Int32} : KO M0 (wrZ M a kd j v) := fun M1 e => by
  unfold wrZ at e
  split at e
  · cases e
    exact h.tr ⟨Nat.le_refl _, fun _ _ => rfl⟩
  · cases e
theorem k_asI (h : Kp M0 M) {a : Nat} {i v : Int32} : KO M0 (asI M a i v) := fun M1 e => by
  unfold asI at e
  split at e
  · cases e
    exact h.tr ⟨Nat.le_refl _, fun _ _ => rfl⟩
  · cases e
theorem k_asL (h : Kp M0 M) {a : Nat} {i : Int32} {v : Int64} : KO M0 (asL M a i v) := fun M1 e => by
  unfold asL at e
  split at e
  · cases e
    exact h.tr ⟨Nat.le_refl _, fun _ _ => rfl⟩
  · cases e
theorem k_asR (h : Kp M0 M) {a kd : Nat} {i : Int32} {k2 : Nat} {v : Option Nat} : KO M0 (asR M a kd i k2 v) := fun M1 e => by
  unfold asR at e
  split at e
  · cases e
    exact h.tr ⟨Nat.le_refl _, fun _ _ => rfl⟩
  · cases e
theorem k_wrR (h : Kp M0 M) {a kd j : Nat} {v : Option Nat} : KO M0 (wrR M a kd j v) := fun M1 e => by
  unfold wrR at e
  split at e
  · cases e
    exact h.tr ⟨Nat.le_refl _, fun _ _ => rfl⟩
  · cases e
theorem k_cpI (h : Kp M0 M) {a0 : Nat} {sp : Int32} {a : Nat} {dp n : Int32} : KO M0 (cpI M a0 sp a dp n) := fun M1 e => by
  unfold cpI at e
  split at e
  · cases e
    exact h.tr ⟨Nat.le_refl _, fun _ _ => rfl⟩
  · cases e
theorem k_cpS (h : Kp M0 M) {k : Nat} {sp : Int32} {a : Nat} {dp n : Int32} : KO M0 (cpS M k sp a dp n) := fun M1 e => by
  unfold cpS at e
  split at e
  · cases e
    exact h.tr ⟨Nat.le_refl _, fun _ _ => rfl⟩
  · cases e
theorem k_nwA (h : Kp M0 M) {kd B : Nat} {n : Int32} : KO M0 (nwA M kd B n) := fun M1 e => by
  unfold nwA at e
  split at e
  · cases e
    exact h.nw _ _
  · cases e
theorem k_nwO (h : Kp M0 M) {kd : Nat} : KO M0 (nwO M kd) := fun M1 e => by
  unfold nwO at e
  cases e
  exact h.nw _ _
theorem k_dsb (h : Kp M0 M) {o : Nat} {i v : Int32} : KO M0 (dsb M o i v) := fun M1 e => by
  unfold dsb at e
  split at e
  · cases e
    exact h.tr ⟨Nat.le_refl _, fun _ _ => rfl⟩
  · cases e
theorem k_dsn (h : Kp M0 M) {o : Nat} {i : Int32} : KO M0 (dsn M o i) := fun M1 e => by
  unfold dsn at e
  split at e
  · cases e
    exact h.tr ⟨Nat.le_refl _, fun _ _ => rfl⟩
  · cases e
theorem k_dac (h : Kp M0 M) {a0 : Nat} {sp : Int32} {a : Nat} {dp n : Int32} : KO M0 (dac M a0 sp a dp n) := fun M1 e => by
  unfold dac at e
  split at e
  · cases e
    exact h.tr ⟨Nat.le_refl _, fun _ _ => rfl⟩
  · cases e
theorem k_dnw (h : Kp M0 M) {B : Nat} {n : Int32} : KO M0 (dnw M B n) := fun M1 e => by
  unfold dnw at e
  split at e
  · cases e
    exact h.nw _ _
  · cases e
end KEEPR
theorem k_X0_takeOff {M0 M : Mm} {o : Nat} (h : Kp M0 M) : KO M0 (fX0_takeOff M o) := by
  unfold fX0_takeOff
  repeat' (with_reducible first
    | exact KO.none
    | exact KQ.none
    | exact KO.some (by assumption)
    | exact KQ.some (by assumption) _
    | exact k_asI (by assumption)
    | refine KO.b1m ?_ ?_
    | refine KQ.b1m ?_ ?_
    | refine KO.b2 ?_ ?_
    | refine KQ.b2 ?_ ?_
    | refine KO.b1 (fun _ => ?_)
    | refine KQ.b1 (fun _ => ?_)
    | refine KO.ite ?_ ?_
    | refine KQ.ite ?_ ?_
    | refine KO.nl ?_ (fun _ => ?_)
    | refine KQ.nl ?_ (fun _ => ?_)
    | intro _)
theorem k_X0_empty {M0 M : Mm} {o : Nat} (h : Kp M0 M) : KO M0 (fX0_empty M o) := by
  unfold fX0_empty
  repeat' (with_reducible first
    | exact KO.none
    | exact KQ.none
    | exact KO.some (by assumption)
    | exact KQ.some (by assumption) _
    | exact k_wrI (by assumption)
    | exact k_cpS (by assumption)
    | exact k_X0_takeOff (by assumption)
    | refine KO.b1m ?_ ?_
    | refine KQ.b1m ?_ ?_
    | refine KO.b2 ?_ ?_
    | refine KQ.b2 ?_ ?_
    | refine KO.b1 (fun _ => ?_)
    | refine KQ.b1 (fun _ => ?_)
    | refine KO.ite ?_ ?_
    | refine KQ.ite ?_ ?_
    | refine KO.nl ?_ (fun _ => ?_)
    | refine KQ.nl ?_ (fun _ => ?_)
    | intro _)
theorem k_X7_loseLadder {M0 M : Mm} {o : Nat} (h : Kp M0 M) : KO M0 (fX7_loseLadder M o) := by
  unfold fX7_loseLadder
  repeat' (with_reducible first
    | exact KO.none
    | exact KQ.none
    | exact KO.some (by assumption)
    | exact KQ.some (by assumption) _
    | exact k_wrI (by assumption)
    | refine KO.b1m ?_ ?_
    | refine KQ.b1m ?_ ?_
    | refine KO.b2 ?_ ?_
    | refine KQ.b2 ?_ ?_
    | refine KO.b1 (fun _ => ?_)
    | refine KQ.b1 (fun _ => ?_)
    | refine KO.ite ?_ ?_
    | refine KQ.ite ?_ ?_
    | refine KO.nl ?_ (fun _ => ?_)
    | refine KQ.nl ?_ (fun _ => ?_)
    | intro _)
theorem k_X7_begin {M0 M : Mm} {o : Nat} {p1 : Int32} {p2 : Int32} {p3 : Int32} {p4 : Int32} (h : Kp M0 M) : KO M0 (fX7_begin M o p1 p2 p3 p4) := by
  unfold fX7_begin
  repeat' (with_reducible first
    | exact KO.none
    | exact KQ.none
    | exact KO.some (by assumption)
    | exact KQ.some (by assumption) _
    | exact k_wrI (by assumption)
    | exact k_X7_loseLadder (by assumption)
    | refine KO.b1m ?_ ?_
    | refine KQ.b1m ?_ ?_
    | refine KO.b2 ?_ ?_
    | refine KQ.b2 ?_ ?_
    | refine KO.b1 (fun _ => ?_)
    | refine KQ.b1 (fun _ => ?_)
    | refine KO.ite ?_ ?_
    | refine KQ.ite ?_ ?_
    | refine KO.nl ?_ (fun _ => ?_)
    | refine KQ.nl ?_ (fun _ => ?_)
    | intro _)
theorem k_X7_become {M0 M : Mm} {o : Nat} {p1 : Nat} (h : Kp M0 M) : KO M0 (fX7_become M o p1) := by
  unfold fX7_become
  repeat' (with_reducible first
    | exact KO.none
    | exact KQ.none
    | exact KO.some (by assumption)
    | exact KQ.some (by assumption) _
    | exact k_wrI (by assumption)
    | exact k_cpI (by assumption)
    | exact k_X7_begin (by assumption)
    | refine KO.b1m ?_ ?_
    | refine KQ.b1m ?_ ?_
    | refine KO.b2 ?_ ?_
    | refine KQ.b2 ?_ ?_
    | refine KO.b1 (fun _ => ?_)
    | refine KQ.b1 (fun _ => ?_)
    | refine KO.ite ?_ ?_
    | refine KQ.ite ?_ ?_
    | refine KO.nl ?_ (fun _ => ?_)
    | refine KQ.nl ?_ (fun _ => ?_)
    | intro _)
theorem k_X10_become {M0 M : Mm} {o : Nat} {p1 : Nat} (h : Kp M0 M) : KO M0 (fX10_become M o p1) := by
  unfold fX10_become
  repeat' (with_reducible first
    | exact KO.none
    | exact KQ.none
    | exact KO.some (by assumption)
    | exact KQ.some (by assumption) _
    | exact k_wrI (by assumption)
    | exact k_cpI (by assumption)
    | refine KO.b1m ?_ ?_
    | refine KQ.b1m ?_ ?_
    | refine KO.b2 ?_ ?_
    | refine KQ.b2 ?_ ?_
    | refine KO.b1 (fun _ => ?_)
    | refine KQ.b1 (fun _ => ?_)
    | refine KO.ite ?_ ?_
    | refine KQ.ite ?_ ?_
    | refine KO.nl ?_ (fun _ => ?_)
    | refine KQ.nl ?_ (fun _ => ?_)
    | intro _)
theorem k_X0_become_L20 {M0 : Mm} {o : Nat} {v1 : Nat} : ∀ (n : Nat) (w1 : Int32) (M : Mm), Kp M0 M → KO M0 (fX0_become_L20 o v1 n w1 M) := by
  intro n
  induction n with
  | zero => exact fun _ _ _ => KO.none
  | succ n ih =>
    intro w1 M h
    unfold fX0_become_L20
    repeat' (with_reducible first
      | exact KO.none
      | exact KQ.none
      | exact KO.some (by assumption)
      | exact KQ.some (by assumption) _
      | exact ih _ _ (by assumption)
      | exact k_wrI (by assumption)
      | exact k_asI (by assumption)
      | exact k_X10_become (by assumption)
      | exact k_X7_become (by assumption)
      | refine KO.b1m ?_ ?_
      | refine KQ.b1m ?_ ?_
      | refine KO.b2 ?_ ?_
      | refine KQ.b2 ?_ ?_
      | refine KO.b1 (fun _ => ?_)
      | refine KQ.b1 (fun _ => ?_)
      | refine KO.ite ?_ ?_
      | refine KQ.ite ?_ ?_
      | refine KO.nl ?_ (fun _ => ?_)
      | refine KQ.nl ?_ (fun _ => ?_)
      | intro _)
theorem k_X0_become {M0 M : Mm} {o : Nat} {p1 : Nat} (h : Kp M0 M) : KO M0 (fX0_become M o p1) := by
  unfold fX0_become
  repeat' (with_reducible first
    | exact KO.none
    | exact KQ.none
    | exact KO.some (by assumption)
    | exact KQ.some (by assumption) _
    | exact k_cpI (by assumption)
    | exact k_X0_become_L20 _ _ _ (by assumption)
    | refine KO.b1m ?_ ?_
    | refine KQ.b1m ?_ ?_
    | refine KO.b2 ?_ ?_
    | refine KQ.b2 ?_ ?_
    | refine KO.b1 (fun _ => ?_)
    | refine KQ.b1 (fun _ => ?_)
    | refine KO.ite ?_ ?_
    | refine KQ.ite ?_ ?_
    | refine KO.nl ?_ (fun _ => ?_)
    | refine KQ.nl ?_ (fun _ => ?_)
    | intro _)
theorem k_X0_addStocking {M0 M : Mm} {o : Nat} {p1 : Int32} {p2 : Int32} {p3 : Int32} {p4 : Int32} (h : Kp M0 M) : KQ M0 (fX0_addStocking M o p1 p2 p3 p4) := by
  unfold fX0_addStocking
  repeat' (with_reducible first
    | exact KO.none
    | exact KQ.none
    | exact KO.some (by assumption)
    | exact KQ.some (by assumption) _
    | exact k_wrI (by assumption)
    | exact k_X7_begin (by assumption)
    | refine KO.b1m ?_ ?_
    | refine KQ.b1m ?_ ?_
    | refine KO.b2 ?_ ?_
    | refine KQ.b2 ?_ ?_
    | refine KO.b1 (fun _ => ?_)
    | refine KQ.b1 (fun _ => ?_)
    | refine KO.ite ?_ ?_
    | refine KQ.ite ?_ ?_
    | refine KO.nl ?_ (fun _ => ?_)
    | refine KQ.nl ?_ (fun _ => ?_)
    | intro _)
theorem k_X7_stand_L2 {M0 : Mm} {o : Nat} {v1 : Int32} : ∀ (n : Nat) (w1 : Int32) (M : Mm), Kp M0 M → KO M0 (fX7_stand_L2 o v1 n w1 M) := by
  intro n
  induction n with
  | zero => exact fun _ _ _ => KO.none
  | succ n ih =>
    intro w1 M h
    unfold fX7_stand_L2
    repeat' (with_reducible first
      | exact KO.none
      | exact KQ.none
      | exact KO.some (by assumption)
      | exact KQ.some (by assumption) _
      | exact ih _ _ (by assumption)
      | exact k_asI (by assumption)
      | refine KO.b1m ?_ ?_
      | refine KQ.b1m ?_ ?_
      | refine KO.b2 ?_ ?_
      | refine KQ.b2 ?_ ?_
      | refine KO.b1 (fun _ => ?_)
      | refine KQ.b1 (fun _ => ?_)
      | refine KO.ite ?_ ?_
      | refine KQ.ite ?_ ?_
      | refine KO.nl ?_ (fun _ => ?_)
      | refine KQ.nl ?_ (fun _ => ?_)
      | intro _)
theorem k_X7_stand {M0 M : Mm} {o : Nat} {p1 : Int32} (h : Kp M0 M) : KO M0 (fX7_stand M o p1) := by
  unfold fX7_stand
  repeat' (with_reducible first
    | exact KO.none
    | exact KQ.none
    | exact KO.some (by assumption)
    | exact KQ.some (by assumption) _
    | exact k_X7_stand_L2 _ _ _ (by assumption)
    | refine KO.b1m ?_ ?_
    | refine KQ.b1m ?_ ?_
    | refine KO.b2 ?_ ?_
    | refine KQ.b2 ?_ ?_
    | refine KO.b1 (fun _ => ?_)
    | refine KQ.b1 (fun _ => ?_)
    | refine KO.ite ?_ ?_
    | refine KQ.ite ?_ ?_
    | refine KO.nl ?_ (fun _ => ?_)
    | refine KQ.nl ?_ (fun _ => ?_)
    | intro _)
theorem k_X7_loseWetDabs_L4 {M0 : Mm} {o : Nat} : ∀ (n : Nat) (w1 : Int32) (w2 : Int32) (M : Mm), Kp M0 M → KO M0 (fX7_loseWetDabs_L4 o n w1 w2 M) := by
  intro n
  induction n with
  | zero => exact fun _ _ _ _ => KO.none
  | succ n ih =>
    intro w1 w2 M h
    unfold fX7_loseWetDabs_L4
    repeat' (with_reducible first
      | exact KO.none
      | exact KQ.none
      | exact KO.some (by assumption)
      | exact KQ.some (by assumption) _
      | exact ih _ _ _ (by assumption)
      | exact k_wrI (by assumption)
      | exact k_asI (by assumption)
      | refine KO.b1m ?_ ?_
      | refine KQ.b1m ?_ ?_
      | refine KO.b2 ?_ ?_
      | refine KQ.b2 ?_ ?_
      | refine KO.b1 (fun _ => ?_)
      | refine KQ.b1 (fun _ => ?_)
      | refine KO.ite ?_ ?_
      | refine KQ.ite ?_ ?_
      | refine KO.nl ?_ (fun _ => ?_)
      | refine KQ.nl ?_ (fun _ => ?_)
      | intro _)
theorem k_X7_loseWetDabs {M0 M : Mm} {o : Nat} (h : Kp M0 M) : KO M0 (fX7_loseWetDabs M o) := by
  unfold fX7_loseWetDabs
  repeat' (with_reducible first
    | exact KO.none
    | exact KQ.none
    | exact KO.some (by assumption)
    | exact KQ.some (by assumption) _
    | exact k_X7_loseWetDabs_L4 _ _ _ _ (by assumption)
    | refine KO.b1m ?_ ?_
    | refine KQ.b1m ?_ ?_
    | refine KO.b2 ?_ ?_
    | refine KQ.b2 ?_ ?_
    | refine KO.b1 (fun _ => ?_)
    | refine KQ.b1 (fun _ => ?_)
    | refine KO.ite ?_ ?_
    | refine KQ.ite ?_ ?_
    | refine KO.nl ?_ (fun _ => ?_)
    | refine KQ.nl ?_ (fun _ => ?_)
    | intro _)
theorem k_X7_passMove {M0 M : Mm} {o : Nat} {p1 : Int32} {p2 : Nat} (h : Kp M0 M) : KQ M0 (fX7_passMove M o p1 p2) := by
  unfold fX7_passMove
  repeat' (with_reducible first
    | exact KO.none
    | exact KQ.none
    | exact KO.some (by assumption)
    | exact KQ.some (by assumption) _
    | exact k_wrI (by assumption)
    | exact k_X7_loseWetDabs (by assumption)
    | refine KO.b1m ?_ ?_
    | refine KQ.b1m ?_ ?_
    | refine KO.b2 ?_ ?_
    | refine KQ.b2 ?_ ?_
    | refine KO.b1 (fun _ => ?_)
    | refine KQ.b1 (fun _ => ?_)
    | refine KO.ite ?_ ?_
    | refine KQ.ite ?_ ?_
    | refine KO.nl ?_ (fun _ => ?_)
    | refine KQ.nl ?_ (fun _ => ?_)
    | intro _)
theorem k_X7_passLeg_L29 {M0 : Mm} {o : Nat} {v1 : Int32} {v3 : Nat} {v4 : Int32} : ∀ (n : Nat) (w1 : Int32) (w2 : Int32) (M : Mm), Kp M0 M → KO M0 (fX7_passLeg_L29 o v1 v3 v4 n w1 w2 M) := by
  intro n
  induction n with
  | zero => exact fun _ _ _ _ => KO.none
  | succ n ih =>
    intro w1 w2 M h
    unfold fX7_passLeg_L29
    repeat' (with_reducible first
      | exact KO.none
      | exact KQ.none
      | exact KO.some (by assumption)
      | exact KQ.some (by assumption) _
      | exact ih _ _ _ (by assumption)
      | exact k_X7_passMove (by assumption)
      | refine KO.b1m ?_ ?_
      | refine KQ.b1m ?_ ?_
      | refine KO.b2 ?_ ?_
      | refine KQ.b2 ?_ ?_
      | refine KO.b1 (fun _ => ?_)
      | refine KQ.b1 (fun _ => ?_)
      | refine KO.ite ?_ ?_
      | refine KQ.ite ?_ ?_
      | refine KO.nl ?_ (fun _ => ?_)
      | refine KQ.nl ?_ (fun _ => ?_)
      | intro _)
theorem k_X7_passLeg {M0 M : Mm} {o : Nat} {p1 : Int32} {p2 : Int32} {p3 : Nat} (h : Kp M0 M) : KO M0 (fX7_passLeg M o p1 p2 p3) := by
  unfold fX7_passLeg
  repeat' (with_reducible first
    | exact KO.none
    | exact KQ.none
    | exact KO.some (by assumption)
    | exact KQ.some (by assumption) _
    | exact k_X7_stand (by assumption)
    | exact k_X7_passLeg_L29 _ _ _ _ (by assumption)
    | refine KO.b1m ?_ ?_
    | refine KQ.b1m ?_ ?_
    | refine KO.b2 ?_ ?_
    | refine KQ.b2 ?_ ?_
    | refine KO.b1 (fun _ => ?_)
    | refine KQ.b1 (fun _ => ?_)
    | refine KO.ite ?_ ?_
    | refine KQ.ite ?_ ?_
    | refine KO.nl ?_ (fun _ => ?_)
    | refine KQ.nl ?_ (fun _ => ?_)
    | intro _)
theorem k_X7_passWay_L3 {M0 : Mm} {o : Nat} {v1 : Nat} {v3 : Int32} {v4 : Nat} : ∀ (n : Nat) (w1 : Int32) (M : Mm), Kp M0 M → KO M0 (fX7_passWay_L3 o v1 v3 v4 n w1 M) := by
  intro n
  induction n with
  | zero => exact fun _ _ _ => KO.none
  | succ n ih =>
    intro w1 M h
    unfold fX7_passWay_L3
    repeat' (with_reducible first
      | exact KO.none
      | exact KQ.none
      | exact KO.some (by assumption)
      | exact KQ.some (by assumption) _
      | exact ih _ _ (by assumption)
      | exact k_X7_passLeg (by assumption)
      | refine KO.b1m ?_ ?_
      | refine KQ.b1m ?_ ?_
      | refine KO.b2 ?_ ?_
      | refine KQ.b2 ?_ ?_
      | refine KO.b1 (fun _ => ?_)
      | refine KQ.b1 (fun _ => ?_)
      | refine KO.ite ?_ ?_
      | refine KQ.ite ?_ ?_
      | refine KO.nl ?_ (fun _ => ?_)
      | refine KQ.nl ?_ (fun _ => ?_)
      | intro _)
theorem k_X7_passWay {M0 M : Mm} {o : Nat} {p1 : Nat} {p2 : Int32} {p3 : Int32} {p4 : Nat} (h : Kp M0 M) : KO M0 (fX7_passWay M o p1 p2 p3 p4) := by
  unfold fX7_passWay
  repeat' (with_reducible first
    | exact KO.none
    | exact KQ.none
    | exact KO.some (by assumption)
    | exact KQ.some (by assumption) _
    | exact k_X7_passWay_L3 _ _ _ (by assumption)
    | refine KO.b1m ?_ ?_
    | refine KQ.b1m ?_ ?_
    | refine KO.b2 ?_ ?_
    | refine KQ.b2 ?_ ?_
    | refine KO.b1 (fun _ => ?_)
    | refine KQ.b1 (fun _ => ?_)
    | refine KO.ite ?_ ?_
    | refine KQ.ite ?_ ?_
    | refine KO.nl ?_ (fun _ => ?_)
    | refine KQ.nl ?_ (fun _ => ?_)
    | intro _)
theorem k_X0_passWay_L3 {M0 : Mm} {o : Nat} {v1 : Nat} {v2 : Int32} {v3 : Int32} : ∀ (n : Nat) (w1 : Int32) (M : Mm), Kp M0 M → KO M0 (fX0_passWay_L3 o v1 v2 v3 n w1 M) := by
  intro n
  induction n with
  | zero => exact fun _ _ _ => KO.none
  | succ n ih =>
    intro w1 M h
    unfold fX0_passWay_L3
    repeat' (with_reducible first
      | exact KO.none
      | exact KQ.none
      | exact KO.some (by assumption)
      | exact KQ.some (by assumption) _
      | exact ih _ _ (by assumption)
      | exact k_X7_passWay (by assumption)
      | refine KO.b1m ?_ ?_
      | refine KQ.b1m ?_ ?_
      | refine KO.b2 ?_ ?_
      | refine KQ.b2 ?_ ?_
      | refine KO.b1 (fun _ => ?_)
      | refine KQ.b1 (fun _ => ?_)
      | refine KO.ite ?_ ?_
      | refine KQ.ite ?_ ?_
      | refine KO.nl ?_ (fun _ => ?_)
      | refine KQ.nl ?_ (fun _ => ?_)
      | intro _)
theorem k_X0_passWay {M0 M : Mm} {o : Nat} {p1 : Nat} {p2 : Int32} {p3 : Int32} (h : Kp M0 M) : KO M0 (fX0_passWay M o p1 p2 p3) := by
  unfold fX0_passWay
  repeat' (with_reducible first
    | exact KO.none
    | exact KQ.none
    | exact KO.some (by assumption)
    | exact KQ.some (by assumption) _
    | exact k_X0_passWay_L3 _ _ _ (by assumption)
    | refine KO.b1m ?_ ?_
    | refine KQ.b1m ?_ ?_
    | refine KO.b2 ?_ ?_
    | refine KQ.b2 ?_ ?_
    | refine KO.b1 (fun _ => ?_)
    | refine KQ.b1 (fun _ => ?_)
    | refine KO.ite ?_ ?_
    | refine KQ.ite ?_ ?_
    | refine KO.nl ?_ (fun _ => ?_)
    | refine KQ.nl ?_ (fun _ => ?_)
    | intro _)
theorem k_X0_draw {M0 M : Mm} {o : Nat} (h : Kp M0 M) : KQ M0 (fX0_draw M o) := by
  unfold fX0_draw
  repeat' (with_reducible first
    | exact KO.none
    | exact KQ.none
    | exact KO.some (by assumption)
    | exact KQ.some (by assumption) _
    | exact k_wrI (by assumption)
    | refine KO.b1m ?_ ?_
    | refine KQ.b1m ?_ ?_
    | refine KO.b2 ?_ ?_
    | refine KQ.b2 ?_ ?_
    | refine KO.b1 (fun _ => ?_)
    | refine KQ.b1 (fun _ => ?_)
    | refine KO.ite ?_ ?_
    | refine KQ.ite ?_ ?_
    | refine KO.nl ?_ (fun _ => ?_)
    | refine KQ.nl ?_ (fun _ => ?_)
    | intro _)
theorem k_X7_beginLadder {M0 M : Mm} {o : Nat} {p1 : Int32} (h : Kp M0 M) : KQ M0 (fX7_beginLadder M o p1) := by
  unfold fX7_beginLadder
  repeat' (with_reducible first
    | exact KO.none
    | exact KQ.none
    | exact KO.some (by assumption)
    | exact KQ.some (by assumption) _
    | exact k_wrI (by assumption)
    | refine KO.b1m ?_ ?_
    | refine KQ.b1m ?_ ?_
    | refine KO.b2 ?_ ?_
    | refine KQ.b2 ?_ ?_
    | refine KO.b1 (fun _ => ?_)
    | refine KQ.b1 (fun _ => ?_)
    | refine KO.ite ?_ ?_
    | refine KQ.ite ?_ ?_
    | refine KO.nl ?_ (fun _ => ?_)
    | refine KQ.nl ?_ (fun _ => ?_)
    | intro _)
theorem k_X0_liveADay {M0 M : Mm} {o : Nat} (h : Kp M0 M) : KQ M0 (fX0_liveADay M o) := by
  unfold fX0_liveADay
  repeat' (with_reducible first
    | exact KO.none
    | exact KQ.none
    | exact KO.some (by assumption)
    | exact KQ.some (by assumption) _
    | exact k_wrI (by assumption)
    | exact k_asI (by assumption)
    | exact k_X0_draw (by assumption)
    | exact k_X0_passWay (by assumption)
    | exact k_X0_takeOff (by assumption)
    | exact k_X7_beginLadder (by assumption)
    | refine KO.b1m ?_ ?_
    | refine KQ.b1m ?_ ?_
    | refine KO.b2 ?_ ?_
    | refine KQ.b2 ?_ ?_
    | refine KO.b1 (fun _ => ?_)
    | refine KQ.b1 (fun _ => ?_)
    | refine KO.ite ?_ ?_
    | refine KQ.ite ?_ ?_
    | refine KO.nl ?_ (fun _ => ?_)
    | refine KQ.nl ?_ (fun _ => ?_)
    | intro _)
theorem k_X6_init {M0 M : Mm} {o : Nat} {p1 : Int32} {p2 : Int32} (h : Kp M0 M) : KO M0 (fX6_init M o p1 p2) := by
  unfold fX6_init
  repeat' (with_reducible first
    | exact KO.none
    | exact KQ.none
    | exact KO.some (by assumption)
    | exact KQ.some (by assumption) _
    | exact k_wrI (by assumption)
    | exact k_wrR (by assumption)
    | exact k_nwA (by assumption)
    | refine KO.b1m ?_ ?_
    | refine KQ.b1m ?_ ?_
    | refine KO.b2 ?_ ?_
    | refine KQ.b2 ?_ ?_
    | refine KO.b1 (fun _ => ?_)
    | refine KQ.b1 (fun _ => ?_)
    | refine KO.ite ?_ ?_
    | refine KQ.ite ?_ ?_
    | refine KO.nl ?_ (fun _ => ?_)
    | refine KQ.nl ?_ (fun _ => ?_)
    | intro _)
theorem k_X7_addDab {M0 M : Mm} {o : Nat} {p1 : Int32} {p2 : Int32} (h : Kp M0 M) : KQ M0 (fX7_addDab M o p1 p2) := by
  unfold fX7_addDab
  repeat' (with_reducible first
    | exact KO.none
    | exact KQ.none
    | exact KO.some (by assumption)
    | exact KQ.some (by assumption) _
    | exact k_wrI (by assumption)
    | exact k_asI (by assumption)
    | refine KO.b1m ?_ ?_
    | refine KQ.b1m ?_ ?_
    | refine KO.b2 ?_ ?_
    | refine KQ.b2 ?_ ?_
    | refine KO.b1 (fun _ => ?_)
    | refine KQ.b1 (fun _ => ?_)
    | refine KO.ite ?_ ?_
    | refine KQ.ite ?_ ?_
    | refine KO.nl ?_ (fun _ => ?_)
    | refine KQ.nl ?_ (fun _ => ?_)
    | intro _)
theorem k_X8_addByte {M0 M : Mm} {o : Nat} {p1 : Int32} (h : Kp M0 M) : KO M0 (fX8_addByte M o p1) := by
  unfold fX8_addByte
  repeat' (with_reducible first
    | exact KO.none
    | exact KQ.none
    | exact KO.some (by assumption)
    | exact KQ.some (by assumption) _
    | exact k_wrI (by assumption)
    | exact k_asI (by assumption)
    | refine KO.b1m ?_ ?_
    | refine KQ.b1m ?_ ?_
    | refine KO.b2 ?_ ?_
    | refine KQ.b2 ?_ ?_
    | refine KO.b1 (fun _ => ?_)
    | refine KQ.b1 (fun _ => ?_)
    | refine KO.ite ?_ ?_
    | refine KQ.ite ?_ ?_
    | refine KO.nl ?_ (fun _ => ?_)
    | refine KQ.nl ?_ (fun _ => ?_)
    | intro _)
theorem k_X8_addToken {M0 M : Mm} {o : Nat} {p1 : Int32} {p2 : Int32} {p3 : Int32} (h : Kp M0 M) : KO M0 (fX8_addToken M o p1 p2 p3) := by
  unfold fX8_addToken
  repeat' (with_reducible first
    | exact KO.none
    | exact KQ.none
    | exact KO.some (by assumption)
    | exact KQ.some (by assumption) _
    | exact k_wrI (by assumption)
    | exact k_asI (by assumption)
    | refine KO.b1m ?_ ?_
    | refine KQ.b1m ?_ ?_
    | refine KO.b2 ?_ ?_
    | refine KQ.b2 ?_ ?_
    | refine KO.b1 (fun _ => ?_)
    | refine KQ.b1 (fun _ => ?_)
    | refine KO.ite ?_ ?_
    | refine KQ.ite ?_ ?_
    | refine KO.nl ?_ (fun _ => ?_)
    | refine KQ.nl ?_ (fun _ => ?_)
    | intro _)
theorem k_X8_part_L30 {M0 : Mm} {kk : Int32 → Mm → Option Mm} {o : Nat} {v2 : Int32} {v3 : Int32} (hk : ∀ v M, Kp M0 M → KO M0 (kk v M)) : ∀ (n : Nat) (w1 : Int32) (M : Mm), Kp M0 M → KO M0 (fX8_part_L30 kk o v2 v3 n w1 M) := by
  intro n
  induction n with
  | zero => exact fun _ _ _ => KO.none
  | succ n ih =>
    intro w1 M h
    unfold fX8_part_L30
    repeat' (with_reducible first
      | exact KO.none
      | exact KQ.none
      | exact KO.some (by assumption)
      | exact KQ.some (by assumption) _
      | exact ih _ _ (by assumption)
      | exact hk _ _ (by assumption)
      | refine KO.b1m ?_ ?_
      | refine KQ.b1m ?_ ?_
      | refine KO.b2 ?_ ?_
      | refine KQ.b2 ?_ ?_
      | refine KO.b1 (fun _ => ?_)
      | refine KQ.b1 (fun _ => ?_)
      | refine KO.ite ?_ ?_
      | refine KQ.ite ?_ ?_
      | refine KO.nl ?_ (fun _ => ?_)
      | refine KQ.nl ?_ (fun _ => ?_)
      | intro _)
theorem k_X8_part_L7 {M0 : Mm} {o : Nat} : ∀ (n : Nat) (w1 : Int32) (M : Mm), Kp M0 M → KO M0 (fX8_part_L7 o n w1 M) := by
  intro n
  induction n with
  | zero => exact fun _ _ _ => KO.none
  | succ n ih =>
    intro w1 M h
    unfold fX8_part_L7
    repeat' (with_reducible first
      | exact KO.none
      | exact KQ.none
      | exact KO.some (by assumption)
      | exact KQ.some (by assumption) _
      | exact ih _ _ (by assumption)
      | exact k_X8_addToken (by assumption)
      | refine k_X8_part_L30 ?_ _ _ _ (by assumption)
      | refine KO.b1m ?_ ?_
      | refine KQ.b1m ?_ ?_
      | refine KO.b2 ?_ ?_
      | refine KQ.b2 ?_ ?_
      | refine KO.b1 (fun _ => ?_)
      | refine KQ.b1 (fun _ => ?_)
      | refine KO.ite ?_ ?_
      | refine KQ.ite ?_ ?_
      | refine KO.nl ?_ (fun _ => ?_)
      | refine KQ.nl ?_ (fun _ => ?_)
      | intro _)
theorem k_X8_part {M0 M : Mm} {o : Nat} (h : Kp M0 M) : KO M0 (fX8_part M o) := by
  unfold fX8_part
  repeat' (with_reducible first
    | exact KO.none
    | exact KQ.none
    | exact KO.some (by assumption)
    | exact KQ.some (by assumption) _
    | exact k_wrI (by assumption)
    | exact k_X8_part_L7 _ _ _ (by assumption)
    | refine KO.b1m ?_ ?_
    | refine KQ.b1m ?_ ?_
    | refine KO.b2 ?_ ?_
    | refine KQ.b2 ?_ ?_
    | refine KO.b1 (fun _ => ?_)
    | refine KQ.b1 (fun _ => ?_)
    | refine KO.ite ?_ ?_
    | refine KQ.ite ?_ ?_
    | refine KO.nl ?_ (fun _ => ?_)
    | refine KQ.nl ?_ (fun _ => ?_)
    | intro _)
theorem k_X8_take {M0 M : Mm} {o : Nat} {p1 : Int32} (h : Kp M0 M) : KO M0 (fX8_take M o p1) := by
  unfold fX8_take
  repeat' (with_reducible first
    | exact KO.none
    | exact KQ.none
    | exact KO.some (by assumption)
    | exact KQ.some (by assumption) _
    | exact k_wrI (by assumption)
    | refine KO.b1m ?_ ?_
    | refine KQ.b1m ?_ ?_
    | refine KO.b2 ?_ ?_
    | refine KQ.b2 ?_ ?_
    | refine KO.b1 (fun _ => ?_)
    | refine KQ.b1 (fun _ => ?_)
    | refine KO.ite ?_ ?_
    | refine KQ.ite ?_ ?_
    | refine KO.nl ?_ (fun _ => ?_)
    | refine KQ.nl ?_ (fun _ => ?_)
    | intro _)
theorem k_X8_takeFoot {M0 M : Mm} {o : Nat} {p1 : Int32} (h : Kp M0 M) : KO M0 (fX8_takeFoot M o p1) := by
  unfold fX8_takeFoot
  repeat' (with_reducible first
    | exact KO.none
    | exact KQ.none
    | exact KO.some (by assumption)
    | exact KQ.some (by assumption) _
    | exact k_asI (by assumption)
    | exact k_X8_take (by assumption)
    | refine KO.b1m ?_ ?_
    | refine KQ.b1m ?_ ?_
    | refine KO.b2 ?_ ?_
    | refine KQ.b2 ?_ ?_
    | refine KO.b1 (fun _ => ?_)
    | refine KQ.b1 (fun _ => ?_)
    | refine KO.ite ?_ ?_
    | refine KQ.ite ?_ ?_
    | refine KO.nl ?_ (fun _ => ?_)
    | refine KQ.nl ?_ (fun _ => ?_)
    | intro _)
theorem k_X8_takeNumber {M0 M : Mm} {o : Nat} {p1 : Int32} {p2 : Int32} (h : Kp M0 M) : KQ M0 (fX8_takeNumber M o p1 p2) := by
  unfold fX8_takeNumber
  repeat' (with_reducible first
    | exact KO.none
    | exact KQ.none
    | exact KO.some (by assumption)
    | exact KQ.some (by assumption) _
    | exact k_X8_take (by assumption)
    | refine KO.b1m ?_ ?_
    | refine KQ.b1m ?_ ?_
    | refine KO.b2 ?_ ?_
    | refine KQ.b2 ?_ ?_
    | refine KO.b1 (fun _ => ?_)
    | refine KQ.b1 (fun _ => ?_)
    | refine KO.ite ?_ ?_
    | refine KQ.ite ?_ ?_
    | refine KO.nl ?_ (fun _ => ?_)
    | refine KQ.nl ?_ (fun _ => ?_)
    | intro _)
theorem k_X8_takeLaw {M0 M : Mm} {o : Nat} {p1 : Int32} (h : Kp M0 M) : KO M0 (fX8_takeLaw M o p1) := by
  unfold fX8_takeLaw
  repeat' (with_reducible first
    | exact KO.none
    | exact KQ.none
    | exact KO.some (by assumption)
    | exact KQ.some (by assumption) _
    | exact k_asI (by assumption)
    | exact k_X8_take (by assumption)
    | exact k_X8_takeNumber (by assumption)
    | refine KO.b1m ?_ ?_
    | refine KQ.b1m ?_ ?_
    | refine KO.b2 ?_ ?_
    | refine KQ.b2 ?_ ?_
    | refine KO.b1 (fun _ => ?_)
    | refine KQ.b1 (fun _ => ?_)
    | refine KO.ite ?_ ?_
    | refine KQ.ite ?_ ?_
    | refine KO.nl ?_ (fun _ => ?_)
    | refine KQ.nl ?_ (fun _ => ?_)
    | intro _)
theorem k_X10_addLeg {M0 M : Mm} {o : Nat} {p1 : Int32} {p2 : Int32} (h : Kp M0 M) : KQ M0 (fX10_addLeg M o p1 p2) := by
  unfold fX10_addLeg
  repeat' (with_reducible first
    | exact KO.none
    | exact KQ.none
    | exact KO.some (by assumption)
    | exact KQ.some (by assumption) _
    | exact k_wrI (by assumption)
    | exact k_asI (by assumption)
    | refine KO.b1m ?_ ?_
    | refine KQ.b1m ?_ ?_
    | refine KO.b2 ?_ ?_
    | refine KQ.b2 ?_ ?_
    | refine KO.b1 (fun _ => ?_)
    | refine KQ.b1 (fun _ => ?_)
    | refine KO.ite ?_ ?_
    | refine KQ.ite ?_ ?_
    | refine KO.nl ?_ (fun _ => ?_)
    | refine KQ.nl ?_ (fun _ => ?_)
    | intro _)
theorem k_X8_takeLeg {M0 M : Mm} {o : Nat} {p1 : Nat} (h : Kp M0 M) : KO M0 (fX8_takeLeg M o p1) := by
  unfold fX8_takeLeg
  repeat' (with_reducible first
    | exact KO.none
    | exact KQ.none
    | exact KO.some (by assumption)
    | exact KQ.some (by assumption) _
    | exact k_X8_take (by assumption)
    | exact k_X8_takeNumber (by assumption)
    | exact k_X10_addLeg (by assumption)
    | refine KO.b1m ?_ ?_
    | refine KQ.b1m ?_ ?_
    | refine KO.b2 ?_ ?_
    | refine KQ.b2 ?_ ?_
    | refine KO.b1 (fun _ => ?_)
    | refine KQ.b1 (fun _ => ?_)
    | refine KO.ite ?_ ?_
    | refine KQ.ite ?_ ?_
    | refine KO.nl ?_ (fun _ => ?_)
    | refine KQ.nl ?_ (fun _ => ?_)
    | intro _)
theorem k_X8_takeWay_L17 {M0 : Mm} {o : Nat} {v1 : Nat} : ∀ (n : Nat) (w1 : Int32) (M : Mm), Kp M0 M → KO M0 (fX8_takeWay_L17 o v1 n w1 M) := by
  intro n
  induction n with
  | zero => exact fun _ _ _ => KO.none
  | succ n ih =>
    intro w1 M h
    unfold fX8_takeWay_L17
    repeat' (with_reducible first
      | exact KO.none
      | exact KQ.none
      | exact KO.some (by assumption)
      | exact KQ.some (by assumption) _
      | exact ih _ _ (by assumption)
      | exact k_X8_take (by assumption)
      | exact k_X8_takeLeg (by assumption)
      | refine KO.b1m ?_ ?_
      | refine KQ.b1m ?_ ?_
      | refine KO.b2 ?_ ?_
      | refine KQ.b2 ?_ ?_
      | refine KO.b1 (fun _ => ?_)
      | refine KQ.b1 (fun _ => ?_)
      | refine KO.ite ?_ ?_
      | refine KQ.ite ?_ ?_
      | refine KO.nl ?_ (fun _ => ?_)
      | refine KQ.nl ?_ (fun _ => ?_)
      | intro _)
theorem k_X8_takeWay {M0 M : Mm} {o : Nat} {p1 : Nat} (h : Kp M0 M) : KO M0 (fX8_takeWay M o p1) := by
  unfold fX8_takeWay
  repeat' (with_reducible first
    | exact KO.none
    | exact KQ.none
    | exact KO.some (by assumption)
    | exact KQ.some (by assumption) _
    | exact k_wrI (by assumption)
    | exact k_X8_take (by assumption)
    | exact k_X8_takeLeg (by assumption)
    | exact k_X8_takeWay_L17 _ _ _ (by assumption)
    | refine KO.b1m ?_ ?_
    | refine KQ.b1m ?_ ?_
    | refine KO.b2 ?_ ?_
    | refine KQ.b2 ?_ ?_
    | refine KO.b1 (fun _ => ?_)
    | refine KQ.b1 (fun _ => ?_)
    | refine KO.ite ?_ ?_
    | refine KQ.ite ?_ ?_
    | refine KO.nl ?_ (fun _ => ?_)
    | refine KQ.nl ?_ (fun _ => ?_)
    | intro _)
theorem k_X8_takeStocking {M0 M : Mm} {o : Nat} (h : Kp M0 M) : KO M0 (fX8_takeStocking M o) := by
  unfold fX8_takeStocking
  repeat' (with_reducible first
    | exact KO.none
    | exact KQ.none
    | exact KO.some (by assumption)
    | exact KQ.some (by assumption) _
    | exact k_wrI (by assumption)
    | exact k_X8_take (by assumption)
    | exact k_X8_takeNumber (by assumption)
    | exact k_X0_addStocking (by assumption)
    | refine KO.b1m ?_ ?_
    | refine KQ.b1m ?_ ?_
    | refine KO.b2 ?_ ?_
    | refine KQ.b2 ?_ ?_
    | refine KO.b1 (fun _ => ?_)
    | refine KQ.b1 (fun _ => ?_)
    | refine KO.ite ?_ ?_
    | refine KQ.ite ?_ ?_
    | refine KO.nl ?_ (fun _ => ?_)
    | refine KQ.nl ?_ (fun _ => ?_)
    | intro _)
theorem k_X8_takeClause {M0 M : Mm} {o : Nat} (h : Kp M0 M) : KO M0 (fX8_takeClause M o) := by
  unfold fX8_takeClause
  repeat' (with_reducible first
    | exact KO.none
    | exact KQ.none
    | exact KO.some (by assumption)
    | exact KQ.some (by assumption) _
    | exact k_X8_takeStocking (by assumption)
    | exact k_X8_takeWay (by assumption)
    | exact k_X8_takeLaw (by assumption)
    | exact k_X8_takeFoot (by assumption)
    | refine KO.b1m ?_ ?_
    | refine KQ.b1m ?_ ?_
    | refine KO.b2 ?_ ?_
    | refine KQ.b2 ?_ ?_
    | refine KO.b1 (fun _ => ?_)
    | refine KQ.b1 (fun _ => ?_)
    | refine KO.ite ?_ ?_
    | refine KQ.ite ?_ ?_
    | refine KO.nl ?_ (fun _ => ?_)
    | refine KQ.nl ?_ (fun _ => ?_)
    | intro _)
theorem k_X8_faultOf_L23 {M0 : Mm} {o : Nat} : ∀ (n : Nat) (w1 : Int32) (M : Mm), Kp M0 M → KQ M0 (fX8_faultOf_L23 o n w1 M) := by
  intro n
  induction n with
  | zero => exact fun _ _ _ => KQ.none
  | succ n ih =>
    intro w1 M h
    unfold fX8_faultOf_L23
    repeat' (with_reducible first
      | exact KO.none
      | exact KQ.none
      | exact KO.some (by assumption)
      | exact KQ.some (by assumption) _
      | exact ih _ _ (by assumption)
      | exact k_X8_takeClause (by assumption)
      | refine KO.b1m ?_ ?_
      | refine KQ.b1m ?_ ?_
      | refine KO.b2 ?_ ?_
      | refine KQ.b2 ?_ ?_
      | refine KO.b1 (fun _ => ?_)
      | refine KQ.b1 (fun _ => ?_)
      | refine KO.ite ?_ ?_
      | refine KQ.ite ?_ ?_
      | refine KO.nl ?_ (fun _ => ?_)
      | refine KQ.nl ?_ (fun _ => ?_)
      | intro _)
theorem k_X8_faultOf {M0 M : Mm} {o : Nat} (h : Kp M0 M) : KQ M0 (fX8_faultOf M o) := by
  unfold fX8_faultOf
  repeat' (with_reducible first
    | exact KO.none
    | exact KQ.none
    | exact KO.some (by assumption)
    | exact KQ.some (by assumption) _
    | exact k_wrI (by assumption)
    | exact k_X8_part (by assumption)
    | exact k_X0_empty (by assumption)
    | exact k_X8_faultOf_L23 _ _ _ (by assumption)
    | refine KO.b1m ?_ ?_
    | refine KQ.b1m ?_ ?_
    | refine KO.b2 ?_ ?_
    | refine KQ.b2 ?_ ?_
    | refine KO.b1 (fun _ => ?_)
    | refine KQ.b1 (fun _ => ?_)
    | refine KO.ite ?_ ?_
    | refine KQ.ite ?_ ?_
    | refine KO.nl ?_ (fun _ => ?_)
    | refine KQ.nl ?_ (fun _ => ?_)
    | intro _)
theorem k_X11_feed_L33 {M0 : Mm} {o : Nat} {v1 : Int64} {v3 : Int32} : ∀ (n : Nat) (w1 : Int32) (M : Mm), Kp M0 M → KQ M0 (fX11_feed_L33 o v1 v3 n w1 M) := by
  intro n
  induction n with
  | zero => exact fun _ _ _ => KQ.none
  | succ n ih =>
    intro w1 M h
    unfold fX11_feed_L33
    repeat' (with_reducible first
      | exact KO.none
      | exact KQ.none
      | exact KO.some (by assumption)
      | exact KQ.some (by assumption) _
      | exact ih _ _ (by assumption)
      | exact k_X8_addByte (by assumption)
      | refine KO.b1m ?_ ?_
      | refine KQ.b1m ?_ ?_
      | refine KO.b2 ?_ ?_
      | refine KQ.b2 ?_ ?_
      | refine KO.b1 (fun _ => ?_)
      | refine KQ.b1 (fun _ => ?_)
      | refine KO.ite ?_ ?_
      | refine KQ.ite ?_ ?_
      | refine KO.nl ?_ (fun _ => ?_)
      | refine KQ.nl ?_ (fun _ => ?_)
      | intro _)
theorem k_X11_feed {M0 M : Mm} {o : Nat} {p1 : Int64} {p2 : Int32} (h : Kp M0 M) : KQ M0 (fX11_feed M o p1 p2) := by
  unfold fX11_feed
  repeat' (with_reducible first
    | exact KO.none
    | exact KQ.none
    | exact KO.some (by assumption)
    | exact KQ.some (by assumption) _
    | exact k_X11_feed_L33 _ _ _ (by assumption)
    | refine KO.b1m ?_ ?_
    | refine KQ.b1m ?_ ?_
    | refine KO.b2 ?_ ?_
    | refine KQ.b2 ?_ ?_
    | refine KO.b1 (fun _ => ?_)
    | refine KQ.b1 (fun _ => ?_)
    | refine KO.ite ?_ ?_
    | refine KQ.ite ?_ ?_
    | refine KO.nl ?_ (fun _ => ?_)
    | refine KQ.nl ?_ (fun _ => ?_)
    | intro _)
theorem k_X11_drawer {M0 M : Mm} {o : Nat} (h : Kp M0 M) : KQ M0 (fX11_drawer M o) := by
  unfold fX11_drawer
  repeat' (with_reducible first
    | exact KO.none
    | exact KQ.none
    | exact KO.some (by assumption)
    | exact KQ.some (by assumption) _
    | exact k_wrI (by assumption)
    | exact k_X8_faultOf (by assumption)
    | exact k_X0_become (by assumption)
    | refine KO.b1m ?_ ?_
    | refine KQ.b1m ?_ ?_
    | refine KO.b2 ?_ ?_
    | refine KQ.b2 ?_ ?_
    | refine KO.b1 (fun _ => ?_)
    | refine KQ.b1 (fun _ => ?_)
    | refine KO.ite ?_ ?_
    | refine KQ.ite ?_ ?_
    | refine KO.nl ?_ (fun _ => ?_)
    | refine KQ.nl ?_ (fun _ => ?_)
    | intro _)
theorem k_X11_set {M0 M : Mm} {o : Nat} {p1 : Int32} {p2 : Int32} (h : Kp M0 M) : KQ M0 (fX11_set M o p1 p2) := by
  unfold fX11_set
  repeat' (with_reducible first
    | exact KO.none
    | exact KQ.none
    | exact KO.some (by assumption)
    | exact KQ.some (by assumption) _
    | exact k_asI (by assumption)
    | refine KO.b1m ?_ ?_
    | refine KQ.b1m ?_ ?_
    | refine KO.b2 ?_ ?_
    | refine KQ.b2 ?_ ?_
    | refine KO.b1 (fun _ => ?_)
    | refine KQ.b1 (fun _ => ?_)
    | refine KO.ite ?_ ?_
    | refine KQ.ite ?_ ?_
    | refine KO.nl ?_ (fun _ => ?_)
    | refine KQ.nl ?_ (fun _ => ?_)
    | intro _)
theorem k_X11_stocking {M0 M : Mm} {o : Nat} {p1 : Int32} {p2 : Int32} {p3 : Int32} {p4 : Int32} (h : Kp M0 M) : KQ M0 (fX11_stocking M o p1 p2 p3 p4) := by
  unfold fX11_stocking
  repeat' (with_reducible first
    | exact KO.none
    | exact KQ.none
    | exact KO.some (by assumption)
    | exact KQ.some (by assumption) _
    | exact k_X0_addStocking (by assumption)
    | refine KO.b1m ?_ ?_
    | refine KQ.b1m ?_ ?_
    | refine KO.b2 ?_ ?_
    | refine KQ.b2 ?_ ?_
    | refine KO.b1 (fun _ => ?_)
    | refine KQ.b1 (fun _ => ?_)
    | refine KO.ite ?_ ?_
    | refine KQ.ite ?_ ?_
    | refine KO.nl ?_ (fun _ => ?_)
    | refine KQ.nl ?_ (fun _ => ?_)
    | intro _)
theorem k_X11_mind {M0 M : Mm} {o : Nat} {p1 : Int32} {p2 : Int32} {p3 : Int32} (h : Kp M0 M) : KQ M0 (fX11_mind M o p1 p2 p3) := by
  unfold fX11_mind
  repeat' (with_reducible first
    | exact KO.none
    | exact KQ.none
    | exact KO.some (by assumption)
    | exact KQ.some (by assumption) _
    | exact k_wrI (by assumption)
    | refine KO.b1m ?_ ?_
    | refine KQ.b1m ?_ ?_
    | refine KO.b2 ?_ ?_
    | refine KQ.b2 ?_ ?_
    | refine KO.b1 (fun _ => ?_)
    | refine KQ.b1 (fun _ => ?_)
    | refine KO.ite ?_ ?_
    | refine KQ.ite ?_ ?_
    | refine KO.nl ?_ (fun _ => ?_)
    | refine KQ.nl ?_ (fun _ => ?_)
    | intro _)
theorem k_X11_snag {M0 M : Mm} {o : Nat} {p1 : Int32} {p2 : Int32} (h : Kp M0 M) : KQ M0 (fX11_snag M o p1 p2) := by
  unfold fX11_snag
  repeat' (with_reducible first
    | exact KO.none
    | exact KQ.none
    | exact KO.some (by assumption)
    | exact KQ.some (by assumption) _
    | exact k_X7_beginLadder (by assumption)
    | refine KO.b1m ?_ ?_
    | refine KQ.b1m ?_ ?_
    | refine KO.b2 ?_ ?_
    | refine KQ.b2 ?_ ?_
    | refine KO.b1 (fun _ => ?_)
    | refine KQ.b1 (fun _ => ?_)
    | refine KO.ite ?_ ?_
    | refine KQ.ite ?_ ?_
    | refine KO.nl ?_ (fun _ => ?_)
    | refine KQ.nl ?_ (fun _ => ?_)
    | intro _)
theorem k_X11_turn {M0 M : Mm} {o : Nat} {p1 : Int32} {p2 : Int32} (h : Kp M0 M) : KQ M0 (fX11_turn M o p1 p2) := by
  unfold fX11_turn
  repeat' (with_reducible first
    | exact KO.none
    | exact KQ.none
    | exact KO.some (by assumption)
    | exact KQ.some (by assumption) _
    | exact k_wrI (by assumption)
    | refine KO.b1m ?_ ?_
    | refine KQ.b1m ?_ ?_
    | refine KO.b2 ?_ ?_
    | refine KQ.b2 ?_ ?_
    | refine KO.b1 (fun _ => ?_)
    | refine KQ.b1 (fun _ => ?_)
    | refine KO.ite ?_ ?_
    | refine KQ.ite ?_ ?_
    | refine KO.nl ?_ (fun _ => ?_)
    | refine KQ.nl ?_ (fun _ => ?_)
    | intro _)
theorem k_X11_dab {M0 M : Mm} {o : Nat} {p1 : Int32} {p2 : Int32} (h : Kp M0 M) : KQ M0 (fX11_dab M o p1 p2) := by
  unfold fX11_dab
  repeat' (with_reducible first
    | exact KO.none
    | exact KQ.none
    | exact KO.some (by assumption)
    | exact KQ.some (by assumption) _
    | exact k_X7_addDab (by assumption)
    | refine KO.b1m ?_ ?_
    | refine KQ.b1m ?_ ?_
    | refine KO.b2 ?_ ?_
    | refine KQ.b2 ?_ ?_
    | refine KO.b1 (fun _ => ?_)
    | refine KQ.b1 (fun _ => ?_)
    | refine KO.ite ?_ ?_
    | refine KQ.ite ?_ ?_
    | refine KO.nl ?_ (fun _ => ?_)
    | refine KQ.nl ?_ (fun _ => ?_)
    | intro _)
theorem k_X11_wash {M0 M : Mm} {o : Nat} {p1 : Int32} (h : Kp M0 M) : KQ M0 (fX11_wash M o p1) := by
  unfold fX11_wash
  repeat' (with_reducible first
    | exact KO.none
    | exact KQ.none
    | exact KO.some (by assumption)
    | exact KQ.some (by assumption) _
    | exact k_wrI (by assumption)
    | refine KO.b1m ?_ ?_
    | refine KQ.b1m ?_ ?_
    | refine KO.b2 ?_ ?_
    | refine KQ.b2 ?_ ?_
    | refine KO.b1 (fun _ => ?_)
    | refine KQ.b1 (fun _ => ?_)
    | refine KO.ite ?_ ?_
    | refine KQ.ite ?_ ?_
    | refine KO.nl ?_ (fun _ => ?_)
    | refine KQ.nl ?_ (fun _ => ?_)
    | intro _)
theorem k_X11_mend {M0 M : Mm} {o : Nat} {p1 : Int32} (h : Kp M0 M) : KQ M0 (fX11_mend M o p1) := by
  unfold fX11_mend
  repeat' (with_reducible first
    | exact KO.none
    | exact KQ.none
    | exact KO.some (by assumption)
    | exact KQ.some (by assumption) _
    | exact k_X7_loseLadder (by assumption)
    | refine KO.b1m ?_ ?_
    | refine KQ.b1m ?_ ?_
    | refine KO.b2 ?_ ?_
    | refine KQ.b2 ?_ ?_
    | refine KO.b1 (fun _ => ?_)
    | refine KQ.b1 (fun _ => ?_)
    | refine KO.ite ?_ ?_
    | refine KQ.ite ?_ ?_
    | refine KO.nl ?_ (fun _ => ?_)
    | refine KQ.nl ?_ (fun _ => ?_)
    | intro _)
theorem k_X11_wear {M0 M : Mm} {o : Nat} {p1 : Int32} {p2 : Int32} (h : Kp M0 M) : KQ M0 (fX11_wear M o p1 p2) := by
  unfold fX11_wear
  repeat' (with_reducible first
    | exact KO.none
    | exact KQ.none
    | exact KO.some (by assumption)
    | exact KQ.some (by assumption) _
    | exact k_asI (by assumption)
    | refine KO.b1m ?_ ?_
    | refine KQ.b1m ?_ ?_
    | refine KO.b2 ?_ ?_
    | refine KQ.b2 ?_ ?_
    | refine KO.b1 (fun _ => ?_)
    | refine KQ.b1 (fun _ => ?_)
    | refine KO.ite ?_ ?_
    | refine KQ.ite ?_ ?_
    | refine KO.nl ?_ (fun _ => ?_)
    | refine KQ.nl ?_ (fun _ => ?_)
    | intro _)
theorem k_X11_leg {M0 M : Mm} {o : Nat} {p1 : Int32} {p2 : Int32} {p3 : Int32} (h : Kp M0 M) : KQ M0 (fX11_leg M o p1 p2 p3) := by
  unfold fX11_leg
  repeat' (with_reducible first
    | exact KO.none
    | exact KQ.none
    | exact KO.some (by assumption)
    | exact KQ.some (by assumption) _
    | exact k_X10_addLeg (by assumption)
    | refine KO.b1m ?_ ?_
    | refine KQ.b1m ?_ ?_
    | refine KO.b2 ?_ ?_
    | refine KQ.b2 ?_ ?_
    | refine KO.b1 (fun _ => ?_)
    | refine KQ.b1 (fun _ => ?_)
    | refine KO.ite ?_ ?_
    | refine KQ.ite ?_ ?_
    | refine KO.nl ?_ (fun _ => ?_)
    | refine KQ.nl ?_ (fun _ => ?_)
    | intro _)
theorem k_X11_clear {M0 M : Mm} {o : Nat} {p1 : Int32} (h : Kp M0 M) : KQ M0 (fX11_clear M o p1) := by
  unfold fX11_clear
  repeat' (with_reducible first
    | exact KO.none
    | exact KQ.none
    | exact KO.some (by assumption)
    | exact KQ.some (by assumption) _
    | exact k_wrI (by assumption)
    | refine KO.b1m ?_ ?_
    | refine KQ.b1m ?_ ?_
    | refine KO.b2 ?_ ?_
    | refine KQ.b2 ?_ ?_
    | refine KO.b1 (fun _ => ?_)
    | refine KQ.b1 (fun _ => ?_)
    | refine KO.ite ?_ ?_
    | refine KQ.ite ?_ ?_
    | refine KO.nl ?_ (fun _ => ?_)
    | refine KQ.nl ?_ (fun _ => ?_)
    | intro _)
theorem k_X11_move_L13 {M0 : Mm} {o : Nat} {v1 : Int32} : ∀ (n : Nat) (w1 : Int32) (M : Mm), Kp M0 M → KQ M0 (fX11_move_L13 o v1 n w1 M) := by
  intro n
  induction n with
  | zero => exact fun _ _ _ => KQ.none
  | succ n ih =>
    intro w1 M h
    unfold fX11_move_L13
    repeat' (with_reducible first
      | exact KO.none
      | exact KQ.none
      | exact KO.some (by assumption)
      | exact KQ.some (by assumption) _
      | exact ih _ _ (by assumption)
      | exact k_X7_passLeg (by assumption)
      | refine KO.b1m ?_ ?_
      | refine KQ.b1m ?_ ?_
      | refine KO.b2 ?_ ?_
      | refine KQ.b2 ?_ ?_
      | refine KO.b1 (fun _ => ?_)
      | refine KQ.b1 (fun _ => ?_)
      | refine KO.ite ?_ ?_
      | refine KQ.ite ?_ ?_
      | refine KO.nl ?_ (fun _ => ?_)
      | refine KQ.nl ?_ (fun _ => ?_)
      | intro _)
theorem k_X11_move {M0 M : Mm} {o : Nat} {p1 : Int32} (h : Kp M0 M) : KQ M0 (fX11_move M o p1) := by
  unfold fX11_move
  repeat' (with_reducible first
    | exact KO.none
    | exact KQ.none
    | exact KO.some (by assumption)
    | exact KQ.some (by assumption) _
    | exact k_X11_move_L13 _ _ _ (by assumption)
    | refine KO.b1m ?_ ?_
    | refine KQ.b1m ?_ ?_
    | refine KO.b2 ?_ ?_
    | refine KQ.b2 ?_ ?_
    | refine KO.b1 (fun _ => ?_)
    | refine KQ.b1 (fun _ => ?_)
    | refine KO.ite ?_ ?_
    | refine KQ.ite ?_ ?_
    | refine KO.nl ?_ (fun _ => ?_)
    | refine KQ.nl ?_ (fun _ => ?_)
    | intro _)
theorem k_X11_go {M0 M : Mm} {o : Nat} {p1 : Int32} (h : Kp M0 M) : KQ M0 (fX11_go M o p1) := by
  unfold fX11_go
  repeat' (with_reducible first
    | exact KO.none
    | exact KQ.none
    | exact KO.some (by assumption)
    | exact KQ.some (by assumption) _
    | exact k_X0_passWay (by assumption)
    | refine KO.b1m ?_ ?_
    | refine KQ.b1m ?_ ?_
    | refine KO.b2 ?_ ?_
    | refine KQ.b2 ?_ ?_
    | refine KO.b1 (fun _ => ?_)
    | refine KQ.b1 (fun _ => ?_)
    | refine KO.ite ?_ ?_
    | refine KQ.ite ?_ ?_
    | refine KO.nl ?_ (fun _ => ?_)
    | refine KQ.nl ?_ (fun _ => ?_)
    | intro _)
theorem k_X11_beginTrial {M0 M : Mm} {o : Nat} {p1 : Int32} (h : Kp M0 M) : KQ M0 (fX11_beginTrial M o p1) := by
  unfold fX11_beginTrial
  repeat' (with_reducible first
    | exact KO.none
    | exact KQ.none
    | exact KO.some (by assumption)
    | exact KQ.some (by assumption) _
    | exact k_X0_become (by assumption)
    | refine KO.b1m ?_ ?_
    | refine KQ.b1m ?_ ?_
    | refine KO.b2 ?_ ?_
    | refine KQ.b2 ?_ ?_
    | refine KO.b1 (fun _ => ?_)
    | refine KQ.b1 (fun _ => ?_)
    | refine KO.ite ?_ ?_
    | refine KQ.ite ?_ ?_
    | refine KO.nl ?_ (fun _ => ?_)
    | refine KQ.nl ?_ (fun _ => ?_)
    | intro _)
theorem k_X11_open {M0 M : Mm} {o : Nat} {p1 : Int32} {p2 : Int32} {p3 : Int32} (h : Kp M0 M) : KQ M0 (fX11_open M o p1 p2 p3) := by
  unfold fX11_open
  repeat' (with_reducible first
    | exact KO.none
    | exact KQ.none
    | exact KO.some (by assumption)
    | exact KQ.some (by assumption) _
    | exact k_X11_beginTrial (by assumption)
    | exact k_X0_passWay (by assumption)
    | refine KO.b1m ?_ ?_
    | refine KQ.b1m ?_ ?_
    | refine KO.b2 ?_ ?_
    | refine KQ.b2 ?_ ?_
    | refine KO.b1 (fun _ => ?_)
    | refine KQ.b1 (fun _ => ?_)
    | refine KO.ite ?_ ?_
    | refine KQ.ite ?_ ?_
    | refine KO.nl ?_ (fun _ => ?_)
    | refine KQ.nl ?_ (fun _ => ?_)
    | intro _)
theorem k_X11_seen {M0 M : Mm} {o : Nat} {p1 : Int32} {p2 : Int32} {p3 : Int32} (h : Kp M0 M) : KQ M0 (fX11_seen M o p1 p2 p3) := by
  unfold fX11_seen
  repeat' (with_reducible first
    | exact KO.none
    | exact KQ.none
    | exact KO.some (by assumption)
    | exact KQ.some (by assumption) _
    | exact k_X0_become (by assumption)
    | exact k_X0_passWay (by assumption)
    | refine KO.b1m ?_ ?_
    | refine KQ.b1m ?_ ?_
    | refine KO.b2 ?_ ?_
    | refine KQ.b2 ?_ ?_
    | refine KO.b1 (fun _ => ?_)
    | refine KQ.b1 (fun _ => ?_)
    | refine KO.ite ?_ ?_
    | refine KQ.ite ?_ ?_
    | refine KO.nl ?_ (fun _ => ?_)
    | refine KQ.nl ?_ (fun _ => ?_)
    | intro _)
theorem k_X11_when_L52 {M0 : Mm} {o : Nat} {v3 : Int32} {v4 : Nat} {v5 : Nat} : ∀ (n : Nat) (w1 : Int32) (M : Mm), Kp M0 M → KQ M0 (fX11_when_L52 o v3 v4 v5 n w1 M) := by
  intro n
  induction n with
  | zero => exact fun _ _ _ => KQ.none
  | succ n ih =>
    intro w1 M h
    unfold fX11_when_L52
    repeat' (with_reducible first
      | exact KO.none
      | exact KQ.none
      | exact KO.some (by assumption)
      | exact KQ.some (by assumption) _
      | exact ih _ _ (by assumption)
      | exact k_X7_passWay (by assumption)
      | refine KO.b1m ?_ ?_
      | refine KQ.b1m ?_ ?_
      | refine KO.b2 ?_ ?_
      | refine KQ.b2 ?_ ?_
      | refine KO.b1 (fun _ => ?_)
      | refine KQ.b1 (fun _ => ?_)
      | refine KO.ite ?_ ?_
      | refine KQ.ite ?_ ?_
      | refine KO.nl ?_ (fun _ => ?_)
      | refine KQ.nl ?_ (fun _ => ?_)
      | intro _)
theorem k_X11_when {M0 M : Mm} {o : Nat} {p1 : Int32} {p2 : Int32} {p3 : Int32} (h : Kp M0 M) : KQ M0 (fX11_when M o p1 p2 p3) := by
  unfold fX11_when
  repeat' (with_reducible first
    | exact KO.none
    | exact KQ.none
    | exact KO.some (by assumption)
    | exact KQ.some (by assumption) _
    | exact k_X11_beginTrial (by assumption)
    | exact k_X11_when_L52 _ _ _ (by assumption)
    | refine KO.b1m ?_ ?_
    | refine KQ.b1m ?_ ?_
    | refine KO.b2 ?_ ?_
    | refine KQ.b2 ?_ ?_
    | refine KO.b1 (fun _ => ?_)
    | refine KQ.b1 (fun _ => ?_)
    | refine KO.ite ?_ ?_
    | refine KQ.ite ?_ ?_
    | refine KO.nl ?_ (fun _ => ?_)
    | refine KQ.nl ?_ (fun _ => ?_)
    | intro _)
theorem k_X11_openDabbed {M0 M : Mm} {o : Nat} {p1 : Int32} {p2 : Nat} {p3 : Int32} (h : Kp M0 M) : KQ M0 (fX11_openDabbed M o p1 p2 p3) := by
  unfold fX11_openDabbed
  repeat' (with_reducible first
    | exact KO.none
    | exact KQ.none
    | exact KO.some (by assumption)
    | exact KQ.some (by assumption) _
    | exact k_X11_beginTrial (by assumption)
    | exact k_X7_passWay (by assumption)
    | exact k_X7_addDab (by assumption)
    | exact k_X7_stand (by assumption)
    | refine KO.b1m ?_ ?_
    | refine KQ.b1m ?_ ?_
    | refine KO.b2 ?_ ?_
    | refine KQ.b2 ?_ ?_
    | refine KO.b1 (fun _ => ?_)
    | refine KQ.b1 (fun _ => ?_)
    | refine KO.ite ?_ ?_
    | refine KQ.ite ?_ ?_
    | refine KO.nl ?_ (fun _ => ?_)
    | refine KQ.nl ?_ (fun _ => ?_)
    | intro _)
theorem k_X11_dabbed {M0 M : Mm} {o : Nat} {p1 : Int32} {p2 : Int32} {p3 : Int32} (h : Kp M0 M) : KQ M0 (fX11_dabbed M o p1 p2 p3) := by
  unfold fX11_dabbed
  repeat' (with_reducible first
    | exact KO.none
    | exact KQ.none
    | exact KO.some (by assumption)
    | exact KQ.some (by assumption) _
    | exact k_X11_openDabbed (by assumption)
    | refine KO.b1m ?_ ?_
    | refine KQ.b1m ?_ ?_
    | refine KO.b2 ?_ ?_
    | refine KQ.b2 ?_ ?_
    | refine KO.b1 (fun _ => ?_)
    | refine KQ.b1 (fun _ => ?_)
    | refine KO.ite ?_ ?_
    | refine KQ.ite ?_ ?_
    | refine KO.nl ?_ (fun _ => ?_)
    | refine KQ.nl ?_ (fun _ => ?_)
    | intro _)
theorem k_X11_bestLeg_L81 {M0 : Mm} {o : Nat} {v1 : Int32} {v4 : Nat} : ∀ (n : Nat) (w1 : Int32) (w2 : Int32) (w3 : Int32) (M : Mm), Kp M0 M → KQ M0 (fX11_bestLeg_L81 o v1 v4 n w1 w2 w3 M) := by
  intro n
  induction n with
  | zero => exact fun _ _ _ _ _ => KQ.none
  | succ n ih =>
    intro w1 w2 w3 M h
    unfold fX11_bestLeg_L81
    repeat' (with_reducible first
      | exact KO.none
      | exact KQ.none
      | exact KO.some (by assumption)
      | exact KQ.some (by assumption) _
      | exact ih _ _ _ _ (by assumption)
      | exact k_X11_openDabbed (by assumption)
      | refine KO.b1m ?_ ?_
      | refine KQ.b1m ?_ ?_
      | refine KO.b2 ?_ ?_
      | refine KQ.b2 ?_ ?_
      | refine KO.b1 (fun _ => ?_)
      | refine KQ.b1 (fun _ => ?_)
      | refine KO.ite ?_ ?_
      | refine KQ.ite ?_ ?_
      | refine KO.nl ?_ (fun _ => ?_)
      | refine KQ.nl ?_ (fun _ => ?_)
      | intro _)
theorem k_X11_bestLeg {M0 M : Mm} {o : Nat} {p1 : Int32} {p2 : Int32} {p3 : Int32} (h : Kp M0 M) : KQ M0 (fX11_bestLeg M o p1 p2 p3) := by
  unfold fX11_bestLeg
  repeat' (with_reducible first
    | exact KO.none
    | exact KQ.none
    | exact KO.some (by assumption)
    | exact KQ.some (by assumption) _
    | exact k_X11_openDabbed (by assumption)
    | exact k_X11_bestLeg_L81 _ _ _ _ _ (by assumption)
    | refine KO.b1m ?_ ?_
    | refine KQ.b1m ?_ ?_
    | refine KO.b2 ?_ ?_
    | refine KQ.b2 ?_ ?_
    | refine KO.b1 (fun _ => ?_)
    | refine KQ.b1 (fun _ => ?_)
    | refine KO.ite ?_ ?_
    | refine KQ.ite ?_ ?_
    | refine KO.nl ?_ (fun _ => ?_)
    | refine KQ.nl ?_ (fun _ => ?_)
    | intro _)
theorem k_X11_turned_L86 {M0 : Mm} {o : Nat} {v3 : Int32} {v5 : Nat} : ∀ (n : Nat) (w1 : Int32) (w2 : Int32) (w3 : Int32) (M : Mm), Kp M0 M → KQ M0 (fX11_turned_L86 o v3 v5 n w1 w2 w3 M) := by
  intro n
  induction n with
  | zero => exact fun _ _ _ _ _ => KQ.none
  | succ n ih =>
    intro w1 w2 w3 M h
    unfold fX11_turned_L86
    repeat' (with_reducible first
      | exact KO.none
      | exact KQ.none
      | exact KO.some (by assumption)
      | exact KQ.some (by assumption) _
      | exact ih _ _ _ _ (by assumption)
      | exact k_wrI (by assumption)
      | refine KO.b1m ?_ ?_
      | refine KQ.b1m ?_ ?_
      | refine KO.b2 ?_ ?_
      | refine KQ.b2 ?_ ?_
      | refine KO.b1 (fun _ => ?_)
      | refine KQ.b1 (fun _ => ?_)
      | refine KO.ite ?_ ?_
      | refine KQ.ite ?_ ?_
      | refine KO.nl ?_ (fun _ => ?_)
      | refine KQ.nl ?_ (fun _ => ?_)
      | intro _)
theorem k_X11_turned {M0 M : Mm} {o : Nat} {p1 : Int32} {p2 : Int32} {p3 : Int32} (h : Kp M0 M) : KQ M0 (fX11_turned M o p1 p2 p3) := by
  unfold fX11_turned
  repeat' (with_reducible first
    | exact KO.none
    | exact KQ.none
    | exact KO.some (by assumption)
    | exact KQ.some (by assumption) _
    | exact k_wrI (by assumption)
    | exact k_X11_beginTrial (by assumption)
    | exact k_X0_passWay (by assumption)
    | exact k_X11_turned_L86 _ _ _ _ _ (by assumption)
    | refine KO.b1m ?_ ?_
    | refine KQ.b1m ?_ ?_
    | refine KO.b2 ?_ ?_
    | refine KQ.b2 ?_ ?_
    | refine KO.b1 (fun _ => ?_)
    | refine KQ.b1 (fun _ => ?_)
    | refine KO.ite ?_ ?_
    | refine KQ.ite ?_ ?_
    | refine KO.nl ?_ (fun _ => ?_)
    | refine KQ.nl ?_ (fun _ => ?_)
    | intro _)
theorem k_X11_openBehind {M0 M : Mm} {o : Nat} {p1 : Nat} (h : Kp M0 M) : KQ M0 (fX11_openBehind M o p1) := by
  unfold fX11_openBehind
  repeat' (with_reducible first
    | exact KO.none
    | exact KQ.none
    | exact KO.some (by assumption)
    | exact KQ.some (by assumption) _
    | exact k_X0_become (by assumption)
    | exact k_X0_passWay (by assumption)
    | refine KO.b1m ?_ ?_
    | refine KQ.b1m ?_ ?_
    | refine KO.b2 ?_ ?_
    | refine KQ.b2 ?_ ?_
    | refine KO.b1 (fun _ => ?_)
    | refine KQ.b1 (fun _ => ?_)
    | refine KO.ite ?_ ?_
    | refine KQ.ite ?_ ?_
    | refine KO.nl ?_ (fun _ => ?_)
    | refine KQ.nl ?_ (fun _ => ?_)
    | intro _)
theorem k_X11_better {M0 M : Mm} {o : Nat} (h : Kp M0 M) : KQ M0 (fX11_better M o) := by
  unfold fX11_better
  repeat' (with_reducible first
    | exact KO.none
    | exact KQ.none
    | exact KO.some (by assumption)
    | exact KQ.some (by assumption) _
    | exact k_X11_openBehind (by assumption)
    | refine KO.b1m ?_ ?_
    | refine KQ.b1m ?_ ?_
    | refine KO.b2 ?_ ?_
    | refine KQ.b2 ?_ ?_
    | refine KO.b1 (fun _ => ?_)
    | refine KQ.b1 (fun _ => ?_)
    | refine KO.ite ?_ ?_
    | refine KQ.ite ?_ ?_
    | refine KO.nl ?_ (fun _ => ?_)
    | refine KQ.nl ?_ (fun _ => ?_)
    | intro _)
theorem k_X11_hasBegun {M0 M : Mm} {o : Nat} {p1 : Nat} {p2 : Nat} {p3 : Int32} {p4 : Int32} (h : Kp M0 M) : KQ M0 (fX11_hasBegun M o p1 p2 p3 p4) := by
  unfold fX11_hasBegun
  repeat' (with_reducible first
    | exact KO.none
    | exact KQ.none
    | exact KO.some (by assumption)
    | exact KQ.some (by assumption) _
    | exact k_X7_begin (by assumption)
    | exact k_X7_beginLadder (by assumption)
    | exact k_X7_passWay (by assumption)
    | refine KO.b1m ?_ ?_
    | refine KQ.b1m ?_ ?_
    | refine KO.b2 ?_ ?_
    | refine KQ.b2 ?_ ?_
    | refine KO.b1 (fun _ => ?_)
    | refine KQ.b1 (fun _ => ?_)
    | refine KO.ite ?_ ?_
    | refine KQ.ite ?_ ?_
    | refine KO.nl ?_ (fun _ => ?_)
    | refine KQ.nl ?_ (fun _ => ?_)
    | intro _)
theorem k_X11_since_L57 {M0 : Mm} {o : Nat} {v3 : Int32} {v4 : Nat} {v5 : Nat} : ∀ (n : Nat) (w1 : Int32) (M : Mm), Kp M0 M → KQ M0 (fX11_since_L57 o v3 v4 v5 n w1 M) := by
  intro n
  induction n with
  | zero => exact fun _ _ _ => KQ.none
  | succ n ih =>
    intro w1 M h
    unfold fX11_since_L57
    repeat' (with_reducible first
      | exact KO.none
      | exact KQ.none
      | exact KO.some (by assumption)
      | exact KQ.some (by assumption) _
      | exact ih _ _ (by assumption)
      | exact k_X11_hasBegun (by assumption)
      | refine KO.b1m ?_ ?_
      | refine KQ.b1m ?_ ?_
      | refine KO.b2 ?_ ?_
      | refine KQ.b2 ?_ ?_
      | refine KO.b1 (fun _ => ?_)
      | refine KQ.b1 (fun _ => ?_)
      | refine KO.ite ?_ ?_
      | refine KQ.ite ?_ ?_
      | refine KO.nl ?_ (fun _ => ?_)
      | refine KQ.nl ?_ (fun _ => ?_)
      | intro _)
theorem k_X11_since {M0 M : Mm} {o : Nat} {p1 : Int32} {p2 : Int32} {p3 : Int32} (h : Kp M0 M) : KQ M0 (fX11_since M o p1 p2 p3) := by
  unfold fX11_since
  repeat' (with_reducible first
    | exact KO.none
    | exact KQ.none
    | exact KO.some (by assumption)
    | exact KQ.some (by assumption) _
    | exact k_X11_since_L57 _ _ _ (by assumption)
    | refine KO.b1m ?_ ?_
    | refine KQ.b1m ?_ ?_
    | refine KO.b2 ?_ ?_
    | refine KQ.b2 ?_ ?_
    | refine KO.b1 (fun _ => ?_)
    | refine KQ.b1 (fun _ => ?_)
    | refine KO.ite ?_ ?_
    | refine KQ.ite ?_ ?_
    | refine KO.nl ?_ (fun _ => ?_)
    | refine KQ.nl ?_ (fun _ => ?_)
    | intro _)
theorem k_X11_from_L63 {M0 : Mm} {o : Nat} {v3 : Int32} {v4 : Nat} {v5 : Nat} : ∀ (n : Nat) (w1 : Int32) (M : Mm), Kp M0 M → KQ M0 (fX11_from_L63 o v3 v4 v5 n w1 M) := by
  intro n
  induction n with
  | zero => exact fun _ _ _ => KQ.none
  | succ n ih =>
    intro w1 M h
    unfold fX11_from_L63
    repeat' (with_reducible first
      | exact KO.none
      | exact KQ.none
      | exact KO.some (by assumption)
      | exact KQ.some (by assumption) _
      | exact ih _ _ (by assumption)
      | exact k_X11_hasBegun (by assumption)
      | refine KO.b1m ?_ ?_
      | refine KQ.b1m ?_ ?_
      | refine KO.b2 ?_ ?_
      | refine KQ.b2 ?_ ?_
      | refine KO.b1 (fun _ => ?_)
      | refine KQ.b1 (fun _ => ?_)
      | refine KO.ite ?_ ?_
      | refine KQ.ite ?_ ?_
      | refine KO.nl ?_ (fun _ => ?_)
      | refine KQ.nl ?_ (fun _ => ?_)
      | intro _)
theorem k_X11_from {M0 M : Mm} {o : Nat} {p1 : Int32} {p2 : Int32} {p3 : Int32} (h : Kp M0 M) : KQ M0 (fX11_from M o p1 p2 p3) := by
  unfold fX11_from
  repeat' (with_reducible first
    | exact KO.none
    | exact KQ.none
    | exact KO.some (by assumption)
    | exact KQ.some (by assumption) _
    | exact k_X11_from_L63 _ _ _ (by assumption)
    | refine KO.b1m ?_ ?_
    | refine KQ.b1m ?_ ?_
    | refine KO.b2 ?_ ?_
    | refine KQ.b2 ?_ ?_
    | refine KO.b1 (fun _ => ?_)
    | refine KQ.b1 (fun _ => ?_)
    | refine KO.ite ?_ ?_
    | refine KQ.ite ?_ ?_
    | refine KO.nl ?_ (fun _ => ?_)
    | refine KQ.nl ?_ (fun _ => ?_)
    | intro _)
theorem k_X11_seed {M0 M : Mm} {o : Nat} {p1 : Int32} (h : Kp M0 M) : KQ M0 (fX11_seed M o p1) := by
  unfold fX11_seed
  repeat' (with_reducible first
    | exact KO.none
    | exact KQ.none
    | exact KO.some (by assumption)
    | exact KQ.some (by assumption) _
    | exact k_wrI (by assumption)
    | refine KO.b1m ?_ ?_
    | refine KQ.b1m ?_ ?_
    | refine KO.b2 ?_ ?_
    | refine KQ.b2 ?_ ?_
    | refine KO.b1 (fun _ => ?_)
    | refine KQ.b1 (fun _ => ?_)
    | refine KO.ite ?_ ?_
    | refine KQ.ite ?_ ?_
    | refine KO.nl ?_ (fun _ => ?_)
    | refine KQ.nl ?_ (fun _ => ?_)
    | intro _)
theorem k_X11_day {M0 M : Mm} {o : Nat} (h : Kp M0 M) : KQ M0 (fX11_day M o) := by
  unfold fX11_day
  repeat' (with_reducible first
    | exact KO.none
    | exact KQ.none
    | exact KO.some (by assumption)
    | exact KQ.some (by assumption) _
    | exact k_X0_liveADay (by assumption)
    | refine KO.b1m ?_ ?_
    | refine KQ.b1m ?_ ?_
    | refine KO.b2 ?_ ?_
    | refine KQ.b2 ?_ ?_
    | refine KO.b1 (fun _ => ?_)
    | refine KQ.b1 (fun _ => ?_)
    | refine KO.ite ?_ ?_
    | refine KQ.ite ?_ ?_
    | refine KO.nl ?_ (fun _ => ?_)
    | refine KQ.nl ?_ (fun _ => ?_)
    | intro _)
theorem k_X11_month_L27 {M0 : Mm} {o : Nat} {v1 : Int32} : ∀ (n : Nat) (w1 : Int32) (w2 : Int32) (M : Mm), Kp M0 M → KQ M0 (fX11_month_L27 o v1 n w1 w2 M) := by
  intro n
  induction n with
  | zero => exact fun _ _ _ _ => KQ.none
  | succ n ih =>
    intro w1 w2 M h
    unfold fX11_month_L27
    repeat' (with_reducible first
      | exact KO.none
      | exact KQ.none
      | exact KO.some (by assumption)
      | exact KQ.some (by assumption) _
      | exact ih _ _ _ (by assumption)
      | exact k_X0_liveADay (by assumption)
      | refine KO.b1m ?_ ?_
      | refine KQ.b1m ?_ ?_
      | refine KO.b2 ?_ ?_
      | refine KQ.b2 ?_ ?_
      | refine KO.b1 (fun _ => ?_)
      | refine KQ.b1 (fun _ => ?_)
      | refine KO.ite ?_ ?_
      | refine KQ.ite ?_ ?_
      | refine KO.nl ?_ (fun _ => ?_)
      | refine KQ.nl ?_ (fun _ => ?_)
      | intro _)
theorem k_X11_month {M0 M : Mm} {o : Nat} {p1 : Int32} (h : Kp M0 M) : KQ M0 (fX11_month M o p1) := by
  unfold fX11_month
  repeat' (with_reducible first
    | exact KO.none
    | exact KQ.none
    | exact KO.some (by assumption)
    | exact KQ.some (by assumption) _
    | exact k_X0_become (by assumption)
    | exact k_X11_month_L27 _ _ _ _ (by assumption)
    | refine KO.b1m ?_ ?_
    | refine KQ.b1m ?_ ?_
    | refine KO.b2 ?_ ?_
    | refine KQ.b2 ?_ ?_
    | refine KO.b1 (fun _ => ?_)
    | refine KQ.b1 (fun _ => ?_)
    | refine KO.ite ?_ ?_
    | refine KQ.ite ?_ ?_
    | refine KO.nl ?_ (fun _ => ?_)
    | refine KQ.nl ?_ (fun _ => ?_)
    | intro _)
theorem k_X11_prove_L40 {M0 : Mm} {o : Nat} {v3 : Nat} {v4 : Nat} : ∀ (n : Nat) (w1 : Int32) (M : Mm), Kp M0 M → KQ M0 (fX11_prove_L40 o v3 v4 n w1 M) := by
  intro n
  induction n with
  | zero => exact fun _ _ _ => KQ.none
  | succ n ih =>
    intro w1 M h
    unfold fX11_prove_L40
    repeat' (with_reducible first
      | exact KO.none
      | exact KQ.none
      | exact KO.some (by assumption)
      | exact KQ.some (by assumption) _
      | exact ih _ _ (by assumption)
      | exact k_wrI (by assumption)
      | exact k_asI (by assumption)
      | exact k_X7_passWay (by assumption)
      | refine KO.b1m ?_ ?_
      | refine KQ.b1m ?_ ?_
      | refine KO.b2 ?_ ?_
      | refine KQ.b2 ?_ ?_
      | refine KO.b1 (fun _ => ?_)
      | refine KQ.b1 (fun _ => ?_)
      | refine KO.ite ?_ ?_
      | refine KQ.ite ?_ ?_
      | refine KO.nl ?_ (fun _ => ?_)
      | refine KQ.nl ?_ (fun _ => ?_)
      | intro _)
theorem k_X11_prove {M0 M : Mm} {o : Nat} {p1 : Int32} {p2 : Int32} (h : Kp M0 M) : KQ M0 (fX11_prove M o p1 p2) := by
  unfold fX11_prove
  repeat' (with_reducible first
    | exact KO.none
    | exact KQ.none
    | exact KO.some (by assumption)
    | exact KQ.some (by assumption) _
    | exact k_X11_beginTrial (by assumption)
    | exact k_X11_prove_L40 _ _ _ (by assumption)
    | refine KO.b1m ?_ ?_
    | refine KQ.b1m ?_ ?_
    | refine KO.b2 ?_ ?_
    | refine KQ.b2 ?_ ?_
    | refine KO.b1 (fun _ => ?_)
    | refine KQ.b1 (fun _ => ?_)
    | refine KO.ite ?_ ?_
    | refine KQ.ite ?_ ?_
    | refine KO.nl ?_ (fun _ => ?_)
    | refine KQ.nl ?_ (fun _ => ?_)
    | intro _)
theorem k_X11_alterRow {M0 M : Mm} {o : Nat} {p1 : Int32} {p2 : Int32} {p3 : Int32} (h : Kp M0 M) : KQ M0 (fX11_alterRow M o p1 p2 p3) := by
  unfold fX11_alterRow
  repeat' (with_reducible first
    | exact KO.none
    | exact KQ.none
    | exact KO.some (by assumption)
    | exact KQ.some (by assumption) _
    | exact k_asI (by assumption)
    | refine KO.b1m ?_ ?_
    | refine KQ.b1m ?_ ?_
    | refine KO.b2 ?_ ?_
    | refine KQ.b2 ?_ ?_
    | refine KO.b1 (fun _ => ?_)
    | refine KQ.b1 (fun _ => ?_)
    | refine KO.ite ?_ ?_
    | refine KQ.ite ?_ ?_
    | refine KO.nl ?_ (fun _ => ?_)
    | refine KQ.nl ?_ (fun _ => ?_)
    | intro _)
theorem k_X11_judge_L40 {M0 : Mm} {o : Nat} {v3 : Nat} {v4 : Nat} : ∀ (n : Nat) (w1 : Int32) (M : Mm), Kp M0 M → KQ M0 (fX11_judge_L40 o v3 v4 n w1 M) := by
  intro n
  induction n with
  | zero => exact fun _ _ _ => KQ.none
  | succ n ih =>
    intro w1 M h
    unfold fX11_judge_L40
    repeat' (with_reducible first
      | exact KO.none
      | exact KQ.none
      | exact KO.some (by assumption)
      | exact KQ.some (by assumption) _
      | exact ih _ _ (by assumption)
      | exact k_X7_passWay (by assumption)
      | refine KO.b1m ?_ ?_
      | refine KQ.b1m ?_ ?_
      | refine KO.b2 ?_ ?_
      | refine KQ.b2 ?_ ?_
      | refine KO.b1 (fun _ => ?_)
      | refine KQ.b1 (fun _ => ?_)
      | refine KO.ite ?_ ?_
      | refine KQ.ite ?_ ?_
      | refine KO.nl ?_ (fun _ => ?_)
      | refine KQ.nl ?_ (fun _ => ?_)
      | intro _)
theorem k_X11_judge {M0 M : Mm} {o : Nat} {p1 : Int32} {p2 : Int32} (h : Kp M0 M) : KQ M0 (fX11_judge M o p1 p2) := by
  unfold fX11_judge
  repeat' (with_reducible first
    | exact KO.none
    | exact KQ.none
    | exact KO.some (by assumption)
    | exact KQ.some (by assumption) _
    | exact k_X11_beginTrial (by assumption)
    | exact k_X11_judge_L40 _ _ _ (by assumption)
    | refine KO.b1m ?_ ?_
    | refine KQ.b1m ?_ ?_
    | refine KO.b2 ?_ ?_
    | refine KQ.b2 ?_ ?_
    | refine KO.b1 (fun _ => ?_)
    | refine KQ.b1 (fun _ => ?_)
    | refine KO.ite ?_ ?_
    | refine KQ.ite ?_ ?_
    | refine KO.nl ?_ (fun _ => ?_)
    | refine KQ.nl ?_ (fun _ => ?_)
    | intro _)
theorem k_X11_minds_L105 {M0 : Mm} {o : Nat} {v2 : Int32} {v3 : Int32} {v4 : Int32} {v5 : Nat} : ∀ (n : Nat) (w1 : Int32) (M : Mm), Kp M0 M → KQ M0 (fX11_minds_L105 o v2 v3 v4 v5 n w1 M) := by
  intro n
  induction n with
  | zero => exact fun _ _ _ => KQ.none
  | succ n ih =>
    intro w1 M h
    unfold fX11_minds_L105
    repeat' (with_reducible first
      | exact KO.none
      | exact KQ.none
      | exact KO.some (by assumption)
      | exact KQ.some (by assumption) _
      | exact ih _ _ (by assumption)
      | exact k_wrI (by assumption)
      | refine KO.b1m ?_ ?_
      | refine KQ.b1m ?_ ?_
      | refine KO.b2 ?_ ?_
      | refine KQ.b2 ?_ ?_
      | refine KO.b1 (fun _ => ?_)
      | refine KQ.b1 (fun _ => ?_)
      | refine KO.ite ?_ ?_
      | refine KQ.ite ?_ ?_
      | refine KO.nl ?_ (fun _ => ?_)
      | refine KQ.nl ?_ (fun _ => ?_)
      | intro _)
theorem k_X11_minds {M0 M : Mm} {o : Nat} {p1 : Int32} {p2 : Int32} {p3 : Int32} {p4 : Int32} (h : Kp M0 M) : KQ M0 (fX11_minds M o p1 p2 p3 p4) := by
  unfold fX11_minds
  repeat' (with_reducible first
    | exact KO.none
    | exact KQ.none
    | exact KO.some (by assumption)
    | exact KQ.some (by assumption) _
    | exact k_X11_minds_L105 _ _ _ (by assumption)
    | refine KO.b1m ?_ ?_
    | refine KQ.b1m ?_ ?_
    | refine KO.b2 ?_ ?_
    | refine KQ.b2 ?_ ?_
    | refine KO.b1 (fun _ => ?_)
    | refine KQ.b1 (fun _ => ?_)
    | refine KO.ite ?_ ?_
    | refine KQ.ite ?_ ?_
    | refine KO.nl ?_ (fun _ => ?_)
    | refine KQ.nl ?_ (fun _ => ?_)
    | intro _)
theorem k_X11_sheet {M0 M : Mm} {o : Nat} {p1 : Int32} {p2 : Int32} {p3 : Int32} (h : Kp M0 M) : KQ M0 (fX11_sheet M o p1 p2 p3) := by
  unfold fX11_sheet
  repeat' (with_reducible first
    | exact KO.none
    | exact KQ.none
    | exact KO.some (by assumption)
    | exact KQ.some (by assumption) _
    | exact k_asR (by assumption)
    | exact k_nwO (by assumption)
    | exact k_X6_init (by assumption)
    | refine KO.b1m ?_ ?_
    | refine KQ.b1m ?_ ?_
    | refine KO.b2 ?_ ?_
    | refine KQ.b2 ?_ ?_
    | refine KO.b1 (fun _ => ?_)
    | refine KQ.b1 (fun _ => ?_)
    | refine KO.ite ?_ ?_
    | refine KQ.ite ?_ ?_
    | refine KO.nl ?_ (fun _ => ?_)
    | refine KQ.nl ?_ (fun _ => ?_)
    | intro _)
theorem k_X11_put {M0 M : Mm} {o : Nat} {p1 : Int32} {p2 : Int32} {p3 : Int32} (h : Kp M0 M) : KQ M0 (fX11_put M o p1 p2 p3) := by
  unfold fX11_put
  repeat' (with_reducible first
    | exact KO.none
    | exact KQ.none
    | exact KO.some (by assumption)
    | exact KQ.some (by assumption) _
    | exact k_asL (by assumption)
    | refine KO.b1m ?_ ?_
    | refine KQ.b1m ?_ ?_
    | refine KO.b2 ?_ ?_
    | refine KQ.b2 ?_ ?_
    | refine KO.b1 (fun _ => ?_)
    | refine KQ.b1 (fun _ => ?_)
    | refine KO.ite ?_ ?_
    | refine KQ.ite ?_ ?_
    | refine KO.nl ?_ (fun _ => ?_)
    | refine KQ.nl ?_ (fun _ => ?_)
    | intro _)
theorem k_X11_shelf {M0 M : Mm} {o : Nat} {p1 : Int32} {p2 : Int32} {p3 : Int32} (h : Kp M0 M) : KQ M0 (fX11_shelf M o p1 p2 p3) := by
  unfold fX11_shelf
  repeat' (with_reducible first
    | exact KO.none
    | exact KQ.none
    | exact KO.some (by assumption)
    | exact KQ.some (by assumption) _
    | exact k_asI (by assumption)
    | exact k_asR (by assumption)
    | refine KO.b1m ?_ ?_
    | refine KQ.b1m ?_ ?_
    | refine KO.b2 ?_ ?_
    | refine KQ.b2 ?_ ?_
    | refine KO.b1 (fun _ => ?_)
    | refine KQ.b1 (fun _ => ?_)
    | refine KO.ite ?_ ?_
    | refine KQ.ite ?_ ?_
    | refine KO.nl ?_ (fun _ => ?_)
    | refine KQ.nl ?_ (fun _ => ?_)
    | intro _)
theorem k_Jx4a65c_clear_da8c8_L27 {M0 : Mm} {v1 : Nat} {v2 : Int32} : ∀ (n : Nat) (w1 : Int32) (M : Mm), Kp M0 M → KO M0 (fJx4a65c_clear_da8c8_L27 v1 v2 n w1 M) := by
  intro n
  induction n with
  | zero => exact fun _ _ _ => KO.none
  | succ n ih =>
    intro w1 M h
    unfold fJx4a65c_clear_da8c8_L27
    repeat' (with_reducible first
      | exact KO.none
      | exact KQ.none
      | exact KO.some (by assumption)
      | exact KQ.some (by assumption) _
      | exact ih _ _ (by assumption)
      | exact k_dsn (by assumption)
      | refine KO.b1m ?_ ?_
      | refine KQ.b1m ?_ ?_
      | refine KO.b2 ?_ ?_
      | refine KQ.b2 ?_ ?_
      | refine KO.b1 (fun _ => ?_)
      | refine KQ.b1 (fun _ => ?_)
      | refine KO.ite ?_ ?_
      | refine KQ.ite ?_ ?_
      | refine KO.nl ?_ (fun _ => ?_)
      | refine KQ.nl ?_ (fun _ => ?_)
      | intro _)
theorem k_Jx4a65c_clear_da8c8 {M0 M : Mm} {o : Nat} (h : Kp M0 M) : KO M0 (fJx4a65c_clear_da8c8 M o) := by
  unfold fJx4a65c_clear_da8c8
  repeat' (with_reducible first
    | exact KO.none
    | exact KQ.none
    | exact KO.some (by assumption)
    | exact KQ.some (by assumption) _
    | exact k_wrI (by assumption)
    | exact k_Jx4a65c_clear_da8c8_L27 _ _ _ (by assumption)
    | refine KO.b1m ?_ ?_
    | refine KQ.b1m ?_ ?_
    | refine KO.b2 ?_ ?_
    | refine KQ.b2 ?_ ?_
    | refine KO.b1 (fun _ => ?_)
    | refine KQ.b1 (fun _ => ?_)
    | refine KO.ite ?_ ?_
    | refine KQ.ite ?_ ?_
    | refine KO.nl ?_ (fun _ => ?_)
    | refine KQ.nl ?_ (fun _ => ?_)
    | intro _)
theorem k_X4_init_k8 {M0 M : Mm} {o : Nat} {p1 : Int32} {p2 : Int32} {p3 : Nat} (h : Kp M0 M) : KO M0 (fX4_init_k8 M o p1 p2 p3) := by
  unfold fX4_init_k8
  repeat' (with_reducible first
    | exact KO.none
    | exact KQ.none
    | exact KO.some (by assumption)
    | exact KQ.some (by assumption) _
    | exact k_wrI (by assumption)
    | exact k_wrZ (by assumption)
    | exact k_wrR (by assumption)
    | refine KO.b1m ?_ ?_
    | refine KQ.b1m ?_ ?_
    | refine KO.b2 ?_ ?_
    | refine KQ.b2 ?_ ?_
    | refine KO.b1 (fun _ => ?_)
    | refine KQ.b1 (fun _ => ?_)
    | refine KO.ite ?_ ?_
    | refine KQ.ite ?_ ?_
    | refine KO.nl ?_ (fun _ => ?_)
    | refine KQ.nl ?_ (fun _ => ?_)
    | intro _)
theorem k_X5_init_k8 {M0 M : Mm} {o : Nat} {p1 : Int32} {p2 : Int32} {p3 : Nat} (h : Kp M0 M) : KO M0 (fX5_init_k8 M o p1 p2 p3) := by
  unfold fX5_init_k8
  repeat' (with_reducible first
    | exact KO.none
    | exact KQ.none
    | exact KO.some (by assumption)
    | exact KQ.some (by assumption) _
    | exact k_X4_init_k8 (by assumption)
    | refine KO.b1m ?_ ?_
    | refine KQ.b1m ?_ ?_
    | refine KO.b2 ?_ ?_
    | refine KQ.b2 ?_ ?_
    | refine KO.b1 (fun _ => ?_)
    | refine KQ.b1 (fun _ => ?_)
    | refine KO.ite ?_ ?_
    | refine KQ.ite ?_ ?_
    | refine KO.nl ?_ (fun _ => ?_)
    | refine KQ.nl ?_ (fun _ => ?_)
    | intro _)
theorem k_X4_init_k12 {M0 M : Mm} {o : Nat} {p1 : Int32} {p2 : Int32} {p3 : Nat} (h : Kp M0 M) : KO M0 (fX4_init_k12 M o p1 p2 p3) := by
  unfold fX4_init_k12
  repeat' (with_reducible first
    | exact KO.none
    | exact KQ.none
    | exact KO.some (by assumption)
    | exact KQ.some (by assumption) _
    | exact k_wrI (by assumption)
    | exact k_wrZ (by assumption)
    | exact k_wrR (by assumption)
    | refine KO.b1m ?_ ?_
    | refine KQ.b1m ?_ ?_
    | refine KO.b2 ?_ ?_
    | refine KQ.b2 ?_ ?_
    | refine KO.b1 (fun _ => ?_)
    | refine KQ.b1 (fun _ => ?_)
    | refine KO.ite ?_ ?_
    | refine KQ.ite ?_ ?_
    | refine KO.nl ?_ (fun _ => ?_)
    | refine KQ.nl ?_ (fun _ => ?_)
    | intro _)
theorem k_X9_init_k12 {M0 M : Mm} {o : Nat} {p1 : Int32} {p2 : Int32} {p3 : Nat} (h : Kp M0 M) : KO M0 (fX9_init_k12 M o p1 p2 p3) := by
  unfold fX9_init_k12
  repeat' (with_reducible first
    | exact KO.none
    | exact KQ.none
    | exact KO.some (by assumption)
    | exact KQ.some (by assumption) _
    | exact k_X4_init_k12 (by assumption)
    | refine KO.b1m ?_ ?_
    | refine KQ.b1m ?_ ?_
    | refine KO.b2 ?_ ?_
    | refine KQ.b2 ?_ ?_
    | refine KO.b1 (fun _ => ?_)
    | refine KQ.b1 (fun _ => ?_)
    | refine KO.ite ?_ ?_
    | refine KQ.ite ?_ ?_
    | refine KO.nl ?_ (fun _ => ?_)
    | refine KQ.nl ?_ (fun _ => ?_)
    | intro _)
theorem k_X4_init_k5 {M0 M : Mm} {o : Nat} {p1 : Int32} {p2 : Int32} {p3 : Nat} (h : Kp M0 M) : KO M0 (fX4_init_k5 M o p1 p2 p3) := by
  unfold fX4_init_k5
  repeat' (with_reducible first
    | exact KO.none
    | exact KQ.none
    | exact KO.some (by assumption)
    | exact KQ.some (by assumption) _
    | exact k_wrI (by assumption)
    | exact k_wrZ (by assumption)
    | exact k_wrR (by assumption)
    | refine KO.b1m ?_ ?_
    | refine KQ.b1m ?_ ?_
    | refine KO.b2 ?_ ?_
    | refine KQ.b2 ?_ ?_
    | refine KO.b1 (fun _ => ?_)
    | refine KQ.b1 (fun _ => ?_)
    | refine KO.ite ?_ ?_
    | refine KQ.ite ?_ ?_
    | refine KO.nl ?_ (fun _ => ?_)
    | refine KQ.nl ?_ (fun _ => ?_)
    | intro _)
theorem k_X5_init_k5 {M0 M : Mm} {o : Nat} {p1 : Int32} {p2 : Int32} {p3 : Nat} (h : Kp M0 M) : KO M0 (fX5_init_k5 M o p1 p2 p3) := by
  unfold fX5_init_k5
  repeat' (with_reducible first
    | exact KO.none
    | exact KQ.none
    | exact KO.some (by assumption)
    | exact KQ.some (by assumption) _
    | exact k_X4_init_k5 (by assumption)
    | refine KO.b1m ?_ ?_
    | refine KQ.b1m ?_ ?_
    | refine KO.b2 ?_ ?_
    | refine KQ.b2 ?_ ?_
    | refine KO.b1 (fun _ => ?_)
    | refine KQ.b1 (fun _ => ?_)
    | refine KO.ite ?_ ?_
    | refine KQ.ite ?_ ?_
    | refine KO.nl ?_ (fun _ => ?_)
    | refine KQ.nl ?_ (fun _ => ?_)
    | intro _)
theorem k_X2_init_k5 {M0 M : Mm} {o : Nat} {p1 : Int32} {p2 : Int32} {p3 : Nat} (h : Kp M0 M) : KO M0 (fX2_init_k5 M o p1 p2 p3) := by
  unfold fX2_init_k5
  repeat' (with_reducible first
    | exact KO.none
    | exact KQ.none
    | exact KO.some (by assumption)
    | exact KQ.some (by assumption) _
    | exact k_X5_init_k5 (by assumption)
    | refine KO.b1m ?_ ?_
    | refine KQ.b1m ?_ ?_
    | refine KO.b2 ?_ ?_
    | refine KQ.b2 ?_ ?_
    | refine KO.b1 (fun _ => ?_)
    | refine KQ.b1 (fun _ => ?_)
    | refine KO.ite ?_ ?_
    | refine KQ.ite ?_ ?_
    | refine KO.nl ?_ (fun _ => ?_)
    | refine KQ.nl ?_ (fun _ => ?_)
    | intro _)
theorem k_X4_init_k4 {M0 M : Mm} {o : Nat} {p1 : Int32} {p2 : Int32} {p3 : Nat} (h : Kp M0 M) : KO M0 (fX4_init_k4 M o p1 p2 p3) := by
  unfold fX4_init_k4
  repeat' (with_reducible first
    | exact KO.none
    | exact KQ.none
    | exact KO.some (by assumption)
    | exact KQ.some (by assumption) _
    | exact k_wrI (by assumption)
    | exact k_wrZ (by assumption)
    | exact k_wrR (by assumption)
    | refine KO.b1m ?_ ?_
    | refine KQ.b1m ?_ ?_
    | refine KO.b2 ?_ ?_
    | refine KQ.b2 ?_ ?_
    | refine KO.b1 (fun _ => ?_)
    | refine KQ.b1 (fun _ => ?_)
    | refine KO.ite ?_ ?_
    | refine KQ.ite ?_ ?_
    | refine KO.nl ?_ (fun _ => ?_)
    | refine KQ.nl ?_ (fun _ => ?_)
    | intro _)
theorem k_X9_init_k4 {M0 M : Mm} {o : Nat} {p1 : Int32} {p2 : Int32} {p3 : Nat} (h : Kp M0 M) : KO M0 (fX9_init_k4 M o p1 p2 p3) := by
  unfold fX9_init_k4
  repeat' (with_reducible first
    | exact KO.none
    | exact KQ.none
    | exact KO.some (by assumption)
    | exact KQ.some (by assumption) _
    | exact k_X4_init_k4 (by assumption)
    | refine KO.b1m ?_ ?_
    | refine KQ.b1m ?_ ?_
    | refine KO.b2 ?_ ?_
    | refine KQ.b2 ?_ ?_
    | refine KO.b1 (fun _ => ?_)
    | refine KQ.b1 (fun _ => ?_)
    | refine KO.ite ?_ ?_
    | refine KQ.ite ?_ ?_
    | refine KO.nl ?_ (fun _ => ?_)
    | refine KQ.nl ?_ (fun _ => ?_)
    | intro _)
theorem k_X1_init_k4 {M0 M : Mm} {o : Nat} {p1 : Int32} {p2 : Int32} {p3 : Nat} (h : Kp M0 M) : KO M0 (fX1_init_k4 M o p1 p2 p3) := by
  unfold fX1_init_k4
  repeat' (with_reducible first
    | exact KO.none
    | exact KQ.none
    | exact KO.some (by assumption)
    | exact KQ.some (by assumption) _
    | exact k_X9_init_k4 (by assumption)
    | refine KO.b1m ?_ ?_
    | refine KQ.b1m ?_ ?_
    | refine KO.b2 ?_ ?_
    | refine KQ.b2 ?_ ?_
    | refine KO.b1 (fun _ => ?_)
    | refine KQ.b1 (fun _ => ?_)
    | refine KO.ite ?_ ?_
    | refine KQ.ite ?_ ?_
    | refine KO.nl ?_ (fun _ => ?_)
    | refine KQ.nl ?_ (fun _ => ?_)
    | intro _)
theorem k_X4_init_k6 {M0 M : Mm} {o : Nat} {p1 : Int32} {p2 : Int32} {p3 : Nat} (h : Kp M0 M) : KO M0 (fX4_init_k6 M o p1 p2 p3) := by
  unfold fX4_init_k6
  repeat' (with_reducible first
    | exact KO.none
    | exact KQ.none
    | exact KO.some (by assumption)
    | exact KQ.some (by assumption) _
    | exact k_wrI (by assumption)
    | exact k_wrZ (by assumption)
    | exact k_wrR (by assumption)
    | refine KO.b1m ?_ ?_
    | refine KQ.b1m ?_ ?_
    | refine KO.b2 ?_ ?_
    | refine KQ.b2 ?_ ?_
    | refine KO.b1 (fun _ => ?_)
    | refine KQ.b1 (fun _ => ?_)
    | refine KO.ite ?_ ?_
    | refine KQ.ite ?_ ?_
    | refine KO.nl ?_ (fun _ => ?_)
    | refine KQ.nl ?_ (fun _ => ?_)
    | intro _)
theorem k_X3_init_k6 {M0 M : Mm} {o : Nat} {p1 : Int32} {p2 : Int32} {p3 : Nat} (h : Kp M0 M) : KO M0 (fX3_init_k6 M o p1 p2 p3) := by
  unfold fX3_init_k6
  repeat' (with_reducible first
    | exact KO.none
    | exact KQ.none
    | exact KO.some (by assumption)
    | exact KQ.some (by assumption) _
    | exact k_X4_init_k6 (by assumption)
    | refine KO.b1m ?_ ?_
    | refine KQ.b1m ?_ ?_
    | refine KO.b2 ?_ ?_
    | refine KQ.b2 ?_ ?_
    | refine KO.b1 (fun _ => ?_)
    | refine KQ.b1 (fun _ => ?_)
    | refine KO.ite ?_ ?_
    | refine KQ.ite ?_ ?_
    | refine KO.nl ?_ (fun _ => ?_)
    | refine KQ.nl ?_ (fun _ => ?_)
    | intro _)
theorem k_X4_init_k7 {M0 M : Mm} {o : Nat} {p1 : Int32} {p2 : Int32} {p3 : Nat} (h : Kp M0 M) : KO M0 (fX4_init_k7 M o p1 p2 p3) := by
  unfold fX4_init_k7
  repeat' (with_reducible first
    | exact KO.none
    | exact KQ.none
    | exact KO.some (by assumption)
    | exact KQ.some (by assumption) _
    | exact k_wrI (by assumption)
    | exact k_wrZ (by assumption)
    | exact k_wrR (by assumption)
    | refine KO.b1m ?_ ?_
    | refine KQ.b1m ?_ ?_
    | refine KO.b2 ?_ ?_
    | refine KQ.b2 ?_ ?_
    | refine KO.b1 (fun _ => ?_)
    | refine KQ.b1 (fun _ => ?_)
    | refine KO.ite ?_ ?_
    | refine KQ.ite ?_ ?_
    | refine KO.nl ?_ (fun _ => ?_)
    | refine KQ.nl ?_ (fun _ => ?_)
    | intro _)
theorem k_X11_thingOf {M0 M : Mm} {o : Nat} {p1 : Int32} {p2 : Int32} {p3 : Int32} (h : Kp M0 M) : KQ M0 (fX11_thingOf M o p1 p2 p3) := by
  unfold fX11_thingOf
  repeat' (with_reducible first
    | exact KO.none
    | exact KQ.none
    | exact KO.some (by assumption)
    | exact KQ.some (by assumption) _
    | exact k_nwO (by assumption)
    | exact k_X5_init_k8 (by assumption)
    | exact k_X9_init_k12 (by assumption)
    | exact k_X2_init_k5 (by assumption)
    | exact k_X1_init_k4 (by assumption)
    | exact k_X3_init_k6 (by assumption)
    | exact k_X4_init_k7 (by assumption)
    | refine KO.b1m ?_ ?_
    | refine KQ.b1m ?_ ?_
    | refine KO.b2 ?_ ?_
    | refine KQ.b2 ?_ ?_
    | refine KO.b1 (fun _ => ?_)
    | refine KQ.b1 (fun _ => ?_)
    | refine KO.ite ?_ ?_
    | refine KQ.ite ?_ ?_
    | refine KO.nl ?_ (fun _ => ?_)
    | refine KQ.nl ?_ (fun _ => ?_)
    | intro _)
theorem k_J7_copyOf_6403c {M0 M : Mm} {p1 : Nat} {p2 : Int32} (h : Kp M0 M) : KQ M0 (fJ7_copyOf_6403c M p1 p2) := by
  unfold fJ7_copyOf_6403c
  repeat' (with_reducible first
    | exact KO.none
    | exact KQ.none
    | exact KO.some (by assumption)
    | exact KQ.some (by assumption) _
    | exact k_dac (by assumption)
    | exact k_dnw (by assumption)
    | refine KO.b1m ?_ ?_
    | refine KQ.b1m ?_ ?_
    | refine KO.b2 ?_ ?_
    | refine KQ.b2 ?_ ?_
    | refine KO.b1 (fun _ => ?_)
    | refine KQ.b1 (fun _ => ?_)
    | refine KO.ite ?_ ?_
    | refine KQ.ite ?_ ?_
    | refine KO.nl ?_ (fun _ => ?_)
    | refine KQ.nl ?_ (fun _ => ?_)
    | intro _)
theorem k_J7_copyOf_1904c {M0 M : Mm} {p1 : Nat} {p2 : Int32} (h : Kp M0 M) : KQ M0 (fJ7_copyOf_1904c M p1 p2) := by
  unfold fJ7_copyOf_1904c
  repeat' (with_reducible first
    | exact KO.none
    | exact KQ.none
    | exact KO.some (by assumption)
    | exact KQ.some (by assumption) _
    | exact k_J7_copyOf_6403c (by assumption)
    | refine KO.b1m ?_ ?_
    | refine KQ.b1m ?_ ?_
    | refine KO.b2 ?_ ?_
    | refine KQ.b2 ?_ ?_
    | refine KO.b1 (fun _ => ?_)
    | refine KQ.b1 (fun _ => ?_)
    | refine KO.ite ?_ ?_
    | refine KQ.ite ?_ ?_
    | refine KO.nl ?_ (fun _ => ?_)
    | refine KQ.nl ?_ (fun _ => ?_)
    | intro _)
theorem k_Jx4a65c_grow_92f84 {M0 M : Mm} {o : Nat} {p1 : Int32} (h : Kp M0 M) : KQ M0 (fJx4a65c_grow_92f84 M o p1) := by
  unfold fJx4a65c_grow_92f84
  repeat' (with_reducible first
    | exact KO.none
    | exact KQ.none
    | exact KO.some (by assumption)
    | exact KQ.some (by assumption) _
    | exact k_wrR (by assumption)
    | exact k_dnw (by assumption)
    | exact k_J7_copyOf_1904c (by assumption)
    | refine KO.b1m ?_ ?_
    | refine KQ.b1m ?_ ?_
    | refine KO.b2 ?_ ?_
    | refine KQ.b2 ?_ ?_
    | refine KO.b1 (fun _ => ?_)
    | refine KQ.b1 (fun _ => ?_)
    | refine KO.ite ?_ ?_
    | refine KQ.ite ?_ ?_
    | refine KO.nl ?_ (fun _ => ?_)
    | refine KQ.nl ?_ (fun _ => ?_)
    | intro _)
theorem k_Jx4a65c_grow_d5877 {M0 M : Mm} {o : Nat} (h : Kp M0 M) : KQ M0 (fJx4a65c_grow_d5877 M o) := by
  unfold fJx4a65c_grow_d5877
  repeat' (with_reducible first
    | exact KO.none
    | exact KQ.none
    | exact KO.some (by assumption)
    | exact KQ.some (by assumption) _
    | exact k_Jx4a65c_grow_92f84 (by assumption)
    | refine KO.b1m ?_ ?_
    | refine KQ.b1m ?_ ?_
    | refine KO.b2 ?_ ?_
    | refine KQ.b2 ?_ ?_
    | refine KO.b1 (fun _ => ?_)
    | refine KQ.b1 (fun _ => ?_)
    | refine KO.ite ?_ ?_
    | refine KQ.ite ?_ ?_
    | refine KO.nl ?_ (fun _ => ?_)
    | refine KQ.nl ?_ (fun _ => ?_)
    | intro _)
theorem k_Jx4a65c_add_72be8 {M0 M : Mm} {o : Nat} {p1 : Int32} {p2 : Nat} {p3 : Int32} (h : Kp M0 M) : KO M0 (fJx4a65c_add_72be8 M o p1 p2 p3) := by
  unfold fJx4a65c_add_72be8
  repeat' (with_reducible first
    | exact KO.none
    | exact KQ.none
    | exact KO.some (by assumption)
    | exact KQ.some (by assumption) _
    | exact k_wrI (by assumption)
    | exact k_dsb (by assumption)
    | exact k_Jx4a65c_grow_d5877 (by assumption)
    | refine KO.b1m ?_ ?_
    | refine KQ.b1m ?_ ?_
    | refine KO.b2 ?_ ?_
    | refine KQ.b2 ?_ ?_
    | refine KO.b1 (fun _ => ?_)
    | refine KQ.b1 (fun _ => ?_)
    | refine KO.ite ?_ ?_
    | refine KQ.ite ?_ ?_
    | refine KO.nl ?_ (fun _ => ?_)
    | refine KQ.nl ?_ (fun _ => ?_)
    | intro _)
theorem k_Jx4a65c_add_9ea2d {M0 M : Mm} {o : Nat} {p1 : Int32} (h : Kp M0 M) : KQ M0 (fJx4a65c_add_9ea2d M o p1) := by
  unfold fJx4a65c_add_9ea2d
  repeat' (with_reducible first
    | exact KO.none
    | exact KQ.none
    | exact KO.some (by assumption)
    | exact KQ.some (by assumption) _
    | exact k_wrI (by assumption)
    | exact k_Jx4a65c_add_72be8 (by assumption)
    | refine KO.b1m ?_ ?_
    | refine KQ.b1m ?_ ?_
    | refine KO.b2 ?_ ?_
    | refine KQ.b2 ?_ ?_
    | refine KO.b1 (fun _ => ?_)
    | refine KQ.b1 (fun _ => ?_)
    | refine KO.ite ?_ ?_
    | refine KQ.ite ?_ ?_
    | refine KO.nl ?_ (fun _ => ?_)
    | refine KQ.nl ?_ (fun _ => ?_)
    | intro _)
theorem k_X4_runs_k4 {M0 M : Mm} {o : Nat} {p1 : Int32} (h : Kp M0 M) : KQ M0 (fX4_runs_k4 M o p1) := by
  unfold fX4_runs_k4
  repeat' (with_reducible first
    | exact KO.none
    | exact KQ.none
    | exact KO.some (by assumption)
    | exact KQ.some (by assumption) _
    | exact k_Jx4a65c_add_9ea2d (by assumption)
    | refine KO.b1m ?_ ?_
    | refine KQ.b1m ?_ ?_
    | refine KO.b2 ?_ ?_
    | refine KQ.b2 ?_ ?_
    | refine KO.b1 (fun _ => ?_)
    | refine KQ.b1 (fun _ => ?_)
    | refine KO.ite ?_ ?_
    | refine KQ.ite ?_ ?_
    | refine KO.nl ?_ (fun _ => ?_)
    | refine KQ.nl ?_ (fun _ => ?_)
    | intro _)
theorem k_X9_runs_k4 {M0 M : Mm} {o : Nat} {p1 : Int32} (h : Kp M0 M) : KQ M0 (fX9_runs_k4 M o p1) := by
  unfold fX9_runs_k4
  repeat' (with_reducible first
    | exact KO.none
    | exact KQ.none
    | exact KO.some (by assumption)
    | exact KQ.some (by assumption) _
    | exact k_Jx4a65c_add_9ea2d (by assumption)
    | exact k_X4_runs_k4 (by assumption)
    | refine KO.b1m ?_ ?_
    | refine KQ.b1m ?_ ?_
    | refine KO.b2 ?_ ?_
    | refine KQ.b2 ?_ ?_
    | refine KO.b1 (fun _ => ?_)
    | refine KQ.b1 (fun _ => ?_)
    | refine KO.ite ?_ ?_
    | refine KQ.ite ?_ ?_
    | refine KO.nl ?_ (fun _ => ?_)
    | refine KQ.nl ?_ (fun _ => ?_)
    | intro _)
theorem k_X1_runs_k4 {M0 M : Mm} {o : Nat} {p1 : Int32} (h : Kp M0 M) : KQ M0 (fX1_runs_k4 M o p1) := by
  unfold fX1_runs_k4
  repeat' (with_reducible first
    | exact KO.none
    | exact KQ.none
    | exact KO.some (by assumption)
    | exact KQ.some (by assumption) _
    | exact k_Jx4a65c_add_9ea2d (by assumption)
    | exact k_X9_runs_k4 (by assumption)
    | refine KO.b1m ?_ ?_
    | refine KQ.b1m ?_ ?_
    | refine KO.b2 ?_ ?_
    | refine KQ.b2 ?_ ?_
    | refine KO.b1 (fun _ => ?_)
    | refine KQ.b1 (fun _ => ?_)
    | refine KO.ite ?_ ?_
    | refine KQ.ite ?_ ?_
    | refine KO.nl ?_ (fun _ => ?_)
    | refine KQ.nl ?_ (fun _ => ?_)
    | intro _)
theorem k_X4_runs_k5 {M0 M : Mm} {o : Nat} {p1 : Int32} (h : Kp M0 M) : KQ M0 (fX4_runs_k5 M o p1) := by
  unfold fX4_runs_k5
  repeat' (with_reducible first
    | exact KO.none
    | exact KQ.none
    | exact KO.some (by assumption)
    | exact KQ.some (by assumption) _
    | exact k_Jx4a65c_add_9ea2d (by assumption)
    | refine KO.b1m ?_ ?_
    | refine KQ.b1m ?_ ?_
    | refine KO.b2 ?_ ?_
    | refine KQ.b2 ?_ ?_
    | refine KO.b1 (fun _ => ?_)
    | refine KQ.b1 (fun _ => ?_)
    | refine KO.ite ?_ ?_
    | refine KQ.ite ?_ ?_
    | refine KO.nl ?_ (fun _ => ?_)
    | refine KQ.nl ?_ (fun _ => ?_)
    | intro _)
theorem k_X2_runs_k5 {M0 M : Mm} {o : Nat} {p1 : Int32} (h : Kp M0 M) : KQ M0 (fX2_runs_k5 M o p1) := by
  unfold fX2_runs_k5
  repeat' (with_reducible first
    | exact KO.none
    | exact KQ.none
    | exact KO.some (by assumption)
    | exact KQ.some (by assumption) _
    | exact k_Jx4a65c_add_9ea2d (by assumption)
    | exact k_X4_runs_k5 (by assumption)
    | refine KO.b1m ?_ ?_
    | refine KQ.b1m ?_ ?_
    | refine KO.b2 ?_ ?_
    | refine KQ.b2 ?_ ?_
    | refine KO.b1 (fun _ => ?_)
    | refine KQ.b1 (fun _ => ?_)
    | refine KO.ite ?_ ?_
    | refine KQ.ite ?_ ?_
    | refine KO.nl ?_ (fun _ => ?_)
    | refine KQ.nl ?_ (fun _ => ?_)
    | intro _)
theorem k_X4_runs_k6 {M0 M : Mm} {o : Nat} {p1 : Int32} (h : Kp M0 M) : KQ M0 (fX4_runs_k6 M o p1) := by
  unfold fX4_runs_k6
  repeat' (with_reducible first
    | exact KO.none
    | exact KQ.none
    | exact KO.some (by assumption)
    | exact KQ.some (by assumption) _
    | exact k_Jx4a65c_add_9ea2d (by assumption)
    | refine KO.b1m ?_ ?_
    | refine KQ.b1m ?_ ?_
    | refine KO.b2 ?_ ?_
    | refine KQ.b2 ?_ ?_
    | refine KO.b1 (fun _ => ?_)
    | refine KQ.b1 (fun _ => ?_)
    | refine KO.ite ?_ ?_
    | refine KQ.ite ?_ ?_
    | refine KO.nl ?_ (fun _ => ?_)
    | refine KQ.nl ?_ (fun _ => ?_)
    | intro _)
theorem k_X4_runs_k12 {M0 M : Mm} {o : Nat} {p1 : Int32} (h : Kp M0 M) : KQ M0 (fX4_runs_k12 M o p1) := by
  unfold fX4_runs_k12
  repeat' (with_reducible first
    | exact KO.none
    | exact KQ.none
    | exact KO.some (by assumption)
    | exact KQ.some (by assumption) _
    | exact k_Jx4a65c_add_9ea2d (by assumption)
    | refine KO.b1m ?_ ?_
    | refine KQ.b1m ?_ ?_
    | refine KO.b2 ?_ ?_
    | refine KQ.b2 ?_ ?_
    | refine KO.b1 (fun _ => ?_)
    | refine KQ.b1 (fun _ => ?_)
    | refine KO.ite ?_ ?_
    | refine KQ.ite ?_ ?_
    | refine KO.nl ?_ (fun _ => ?_)
    | refine KQ.nl ?_ (fun _ => ?_)
    | intro _)
theorem k_X9_runs_k12 {M0 M : Mm} {o : Nat} {p1 : Int32} (h : Kp M0 M) : KQ M0 (fX9_runs_k12 M o p1) := by
  unfold fX9_runs_k12
  repeat' (with_reducible first
    | exact KO.none
    | exact KQ.none
    | exact KO.some (by assumption)
    | exact KQ.some (by assumption) _
    | exact k_Jx4a65c_add_9ea2d (by assumption)
    | exact k_X4_runs_k12 (by assumption)
    | refine KO.b1m ?_ ?_
    | refine KQ.b1m ?_ ?_
    | refine KO.b2 ?_ ?_
    | refine KQ.b2 ?_ ?_
    | refine KO.b1 (fun _ => ?_)
    | refine KQ.b1 (fun _ => ?_)
    | refine KO.ite ?_ ?_
    | refine KQ.ite ?_ ?_
    | refine KO.nl ?_ (fun _ => ?_)
    | refine KQ.nl ?_ (fun _ => ?_)
    | intro _)
theorem k_X4_runs_k8 {M0 M : Mm} {o : Nat} {p1 : Int32} (h : Kp M0 M) : KQ M0 (fX4_runs_k8 M o p1) := by
  unfold fX4_runs_k8
  repeat' (with_reducible first
    | exact KO.none
    | exact KQ.none
    | exact KO.some (by assumption)
    | exact KQ.some (by assumption) _
    | exact k_Jx4a65c_add_9ea2d (by assumption)
    | refine KO.b1m ?_ ?_
    | refine KQ.b1m ?_ ?_
    | refine KO.b2 ?_ ?_
    | refine KQ.b2 ?_ ?_
    | refine KO.b1 (fun _ => ?_)
    | refine KQ.b1 (fun _ => ?_)
    | refine KO.ite ?_ ?_
    | refine KQ.ite ?_ ?_
    | refine KO.nl ?_ (fun _ => ?_)
    | refine KQ.nl ?_ (fun _ => ?_)
    | intro _)
theorem k_X4_runs_k7 {M0 M : Mm} {o : Nat} {p1 : Int32} (h : Kp M0 M) : KQ M0 (fX4_runs_k7 M o p1) := by
  unfold fX4_runs_k7
  repeat' (with_reducible first
    | exact KO.none
    | exact KQ.none
    | exact KO.some (by assumption)
    | exact KQ.some (by assumption) _
    | exact k_Jx4a65c_add_9ea2d (by assumption)
    | refine KO.b1m ?_ ?_
    | refine KQ.b1m ?_ ?_
    | refine KO.b2 ?_ ?_
    | refine KQ.b2 ?_ ?_
    | refine KO.b1 (fun _ => ?_)
    | refine KQ.b1 (fun _ => ?_)
    | refine KO.ite ?_ ?_
    | refine KQ.ite ?_ ?_
    | refine KO.nl ?_ (fun _ => ?_)
    | refine KQ.nl ?_ (fun _ => ?_)
    | intro _)
theorem k_X4_dries_k4 {M0 M : Mm} {o : Nat} {p1 : Int32} (h : Kp M0 M) : KQ M0 (fX4_dries_k4 M o p1) := by
  unfold fX4_dries_k4
  repeat' (with_reducible first
    | exact KO.none
    | exact KQ.none
    | exact KO.some (by assumption)
    | exact KQ.some (by assumption) _
    | exact k_Jx4a65c_add_9ea2d (by assumption)
    | exact k_X1_runs_k4 (by assumption)
    | refine KO.b1m ?_ ?_
    | refine KQ.b1m ?_ ?_
    | refine KO.b2 ?_ ?_
    | refine KQ.b2 ?_ ?_
    | refine KO.b1 (fun _ => ?_)
    | refine KQ.b1 (fun _ => ?_)
    | refine KO.ite ?_ ?_
    | refine KQ.ite ?_ ?_
    | refine KO.nl ?_ (fun _ => ?_)
    | refine KQ.nl ?_ (fun _ => ?_)
    | intro _)
theorem k_X1_dries_k4 {M0 M : Mm} {o : Nat} {p1 : Int32} (h : Kp M0 M) : KQ M0 (fX1_dries_k4 M o p1) := by
  unfold fX1_dries_k4
  repeat' (with_reducible first
    | exact KO.none
    | exact KQ.none
    | exact KO.some (by assumption)
    | exact KQ.some (by assumption) _
    | exact k_Jx4a65c_add_9ea2d (by assumption)
    | exact k_X4_dries_k4 (by assumption)
    | exact k_X1_runs_k4 (by assumption)
    | refine KO.b1m ?_ ?_
    | refine KQ.b1m ?_ ?_
    | refine KO.b2 ?_ ?_
    | refine KQ.b2 ?_ ?_
    | refine KO.b1 (fun _ => ?_)
    | refine KQ.b1 (fun _ => ?_)
    | refine KO.ite ?_ ?_
    | refine KQ.ite ?_ ?_
    | refine KO.nl ?_ (fun _ => ?_)
    | refine KQ.nl ?_ (fun _ => ?_)
    | intro _)
theorem k_X4_dries_k5 {M0 M : Mm} {o : Nat} {p1 : Int32} (h : Kp M0 M) : KQ M0 (fX4_dries_k5 M o p1) := by
  unfold fX4_dries_k5
  repeat' (with_reducible first
    | exact KO.none
    | exact KQ.none
    | exact KO.some (by assumption)
    | exact KQ.some (by assumption) _
    | exact k_Jx4a65c_add_9ea2d (by assumption)
    | exact k_X2_runs_k5 (by assumption)
    | refine KO.b1m ?_ ?_
    | refine KQ.b1m ?_ ?_
    | refine KO.b2 ?_ ?_
    | refine KQ.b2 ?_ ?_
    | refine KO.b1 (fun _ => ?_)
    | refine KQ.b1 (fun _ => ?_)
    | refine KO.ite ?_ ?_
    | refine KQ.ite ?_ ?_
    | refine KO.nl ?_ (fun _ => ?_)
    | refine KQ.nl ?_ (fun _ => ?_)
    | intro _)
theorem k_X5_dries_k5 {M0 M : Mm} {o : Nat} {p1 : Int32} (h : Kp M0 M) : KQ M0 (fX5_dries_k5 M o p1) := by
  unfold fX5_dries_k5
  repeat' (with_reducible first
    | exact KO.none
    | exact KQ.none
    | exact KO.some (by assumption)
    | exact KQ.some (by assumption) _
    | exact k_Jx4a65c_add_9ea2d (by assumption)
    | exact k_X4_dries_k5 (by assumption)
    | refine KO.b1m ?_ ?_
    | refine KQ.b1m ?_ ?_
    | refine KO.b2 ?_ ?_
    | refine KQ.b2 ?_ ?_
    | refine KO.b1 (fun _ => ?_)
    | refine KQ.b1 (fun _ => ?_)
    | refine KO.ite ?_ ?_
    | refine KQ.ite ?_ ?_
    | refine KO.nl ?_ (fun _ => ?_)
    | refine KQ.nl ?_ (fun _ => ?_)
    | intro _)
theorem k_X4_dries_k6 {M0 M : Mm} {o : Nat} {p1 : Int32} (h : Kp M0 M) : KQ M0 (fX4_dries_k6 M o p1) := by
  unfold fX4_dries_k6
  repeat' (with_reducible first
    | exact KO.none
    | exact KQ.none
    | exact KO.some (by assumption)
    | exact KQ.some (by assumption) _
    | exact k_Jx4a65c_add_9ea2d (by assumption)
    | exact k_X4_runs_k6 (by assumption)
    | refine KO.b1m ?_ ?_
    | refine KQ.b1m ?_ ?_
    | refine KO.b2 ?_ ?_
    | refine KQ.b2 ?_ ?_
    | refine KO.b1 (fun _ => ?_)
    | refine KQ.b1 (fun _ => ?_)
    | refine KO.ite ?_ ?_
    | refine KQ.ite ?_ ?_
    | refine KO.nl ?_ (fun _ => ?_)
    | refine KQ.nl ?_ (fun _ => ?_)
    | intro _)
theorem k_X4_dries_k12 {M0 M : Mm} {o : Nat} {p1 : Int32} (h : Kp M0 M) : KQ M0 (fX4_dries_k12 M o p1) := by
  unfold fX4_dries_k12
  repeat' (with_reducible first
    | exact KO.none
    | exact KQ.none
    | exact KO.some (by assumption)
    | exact KQ.some (by assumption) _
    | exact k_Jx4a65c_add_9ea2d (by assumption)
    | exact k_X9_runs_k12 (by assumption)
    | refine KO.b1m ?_ ?_
    | refine KQ.b1m ?_ ?_
    | refine KO.b2 ?_ ?_
    | refine KQ.b2 ?_ ?_
    | refine KO.b1 (fun _ => ?_)
    | refine KQ.b1 (fun _ => ?_)
    | refine KO.ite ?_ ?_
    | refine KQ.ite ?_ ?_
    | refine KO.nl ?_ (fun _ => ?_)
    | refine KQ.nl ?_ (fun _ => ?_)
    | intro _)
theorem k_X4_dries_k8 {M0 M : Mm} {o : Nat} {p1 : Int32} (h : Kp M0 M) : KQ M0 (fX4_dries_k8 M o p1) := by
  unfold fX4_dries_k8
  repeat' (with_reducible first
    | exact KO.none
    | exact KQ.none
    | exact KO.some (by assumption)
    | exact KQ.some (by assumption) _
    | exact k_Jx4a65c_add_9ea2d (by assumption)
    | exact k_X4_runs_k8 (by assumption)
    | refine KO.b1m ?_ ?_
    | refine KQ.b1m ?_ ?_
    | refine KO.b2 ?_ ?_
    | refine KQ.b2 ?_ ?_
    | refine KO.b1 (fun _ => ?_)
    | refine KQ.b1 (fun _ => ?_)
    | refine KO.ite ?_ ?_
    | refine KQ.ite ?_ ?_
    | refine KO.nl ?_ (fun _ => ?_)
    | refine KQ.nl ?_ (fun _ => ?_)
    | intro _)
theorem k_X5_dries_k8 {M0 M : Mm} {o : Nat} {p1 : Int32} (h : Kp M0 M) : KQ M0 (fX5_dries_k8 M o p1) := by
  unfold fX5_dries_k8
  repeat' (with_reducible first
    | exact KO.none
    | exact KQ.none
    | exact KO.some (by assumption)
    | exact KQ.some (by assumption) _
    | exact k_Jx4a65c_add_9ea2d (by assumption)
    | exact k_X4_dries_k8 (by assumption)
    | refine KO.b1m ?_ ?_
    | refine KQ.b1m ?_ ?_
    | refine KO.b2 ?_ ?_
    | refine KQ.b2 ?_ ?_
    | refine KO.b1 (fun _ => ?_)
    | refine KQ.b1 (fun _ => ?_)
    | refine KO.ite ?_ ?_
    | refine KQ.ite ?_ ?_
    | refine KO.nl ?_ (fun _ => ?_)
    | refine KQ.nl ?_ (fun _ => ?_)
    | intro _)
theorem k_X4_dries_k7 {M0 M : Mm} {o : Nat} {p1 : Int32} (h : Kp M0 M) : KQ M0 (fX4_dries_k7 M o p1) := by
  unfold fX4_dries_k7
  repeat' (with_reducible first
    | exact KO.none
    | exact KQ.none
    | exact KO.some (by assumption)
    | exact KQ.some (by assumption) _
    | exact k_Jx4a65c_add_9ea2d (by assumption)
    | exact k_X4_runs_k7 (by assumption)
    | refine KO.b1m ?_ ?_
    | refine KQ.b1m ?_ ?_
    | refine KO.b2 ?_ ?_
    | refine KQ.b2 ?_ ?_
    | refine KO.b1 (fun _ => ?_)
    | refine KQ.b1 (fun _ => ?_)
    | refine KO.ite ?_ ?_
    | refine KQ.ite ?_ ?_
    | refine KO.nl ?_ (fun _ => ?_)
    | refine KQ.nl ?_ (fun _ => ?_)
    | intro _)
theorem k_X4_holds_k4 {M0 M : Mm} {o : Nat} {p1 : Int32} (h : Kp M0 M) : KQ M0 (fX4_holds_k4 M o p1) := by
  unfold fX4_holds_k4
  repeat' (with_reducible first
    | exact KO.none
    | exact KQ.none
    | exact KO.some (by assumption)
    | exact KQ.some (by assumption) _
    | exact k_wrZ (by assumption)
    | exact k_Jx4a65c_add_9ea2d (by assumption)
    | refine KO.b1m ?_ ?_
    | refine KQ.b1m ?_ ?_
    | refine KO.b2 ?_ ?_
    | refine KQ.b2 ?_ ?_
    | refine KO.b1 (fun _ => ?_)
    | refine KQ.b1 (fun _ => ?_)
    | refine KO.ite ?_ ?_
    | refine KQ.ite ?_ ?_
    | refine KO.nl ?_ (fun _ => ?_)
    | refine KQ.nl ?_ (fun _ => ?_)
    | intro _)
theorem k_X4_holds_k5 {M0 M : Mm} {o : Nat} {p1 : Int32} (h : Kp M0 M) : KQ M0 (fX4_holds_k5 M o p1) := by
  unfold fX4_holds_k5
  repeat' (with_reducible first
    | exact KO.none
    | exact KQ.none
    | exact KO.some (by assumption)
    | exact KQ.some (by assumption) _
    | exact k_wrZ (by assumption)
    | exact k_Jx4a65c_add_9ea2d (by assumption)
    | refine KO.b1m ?_ ?_
    | refine KQ.b1m ?_ ?_
    | refine KO.b2 ?_ ?_
    | refine KQ.b2 ?_ ?_
    | refine KO.b1 (fun _ => ?_)
    | refine KQ.b1 (fun _ => ?_)
    | refine KO.ite ?_ ?_
    | refine KQ.ite ?_ ?_
    | refine KO.nl ?_ (fun _ => ?_)
    | refine KQ.nl ?_ (fun _ => ?_)
    | intro _)
theorem k_X2_holds_k5 {M0 M : Mm} {o : Nat} {p1 : Int32} (h : Kp M0 M) : KQ M0 (fX2_holds_k5 M o p1) := by
  unfold fX2_holds_k5
  repeat' (with_reducible first
    | exact KO.none
    | exact KQ.none
    | exact KO.some (by assumption)
    | exact KQ.some (by assumption) _
    | exact k_Jx4a65c_add_9ea2d (by assumption)
    | exact k_X4_holds_k5 (by assumption)
    | refine KO.b1m ?_ ?_
    | refine KQ.b1m ?_ ?_
    | refine KO.b2 ?_ ?_
    | refine KQ.b2 ?_ ?_
    | refine KO.b1 (fun _ => ?_)
    | refine KQ.b1 (fun _ => ?_)
    | refine KO.ite ?_ ?_
    | refine KQ.ite ?_ ?_
    | refine KO.nl ?_ (fun _ => ?_)
    | refine KQ.nl ?_ (fun _ => ?_)
    | intro _)
theorem k_X4_holds_k6 {M0 M : Mm} {o : Nat} {p1 : Int32} (h : Kp M0 M) : KQ M0 (fX4_holds_k6 M o p1) := by
  unfold fX4_holds_k6
  repeat' (with_reducible first
    | exact KO.none
    | exact KQ.none
    | exact KO.some (by assumption)
    | exact KQ.some (by assumption) _
    | exact k_wrZ (by assumption)
    | exact k_Jx4a65c_add_9ea2d (by assumption)
    | refine KO.b1m ?_ ?_
    | refine KQ.b1m ?_ ?_
    | refine KO.b2 ?_ ?_
    | refine KQ.b2 ?_ ?_
    | refine KO.b1 (fun _ => ?_)
    | refine KQ.b1 (fun _ => ?_)
    | refine KO.ite ?_ ?_
    | refine KQ.ite ?_ ?_
    | refine KO.nl ?_ (fun _ => ?_)
    | refine KQ.nl ?_ (fun _ => ?_)
    | intro _)
theorem k_X3_holds_k6 {M0 M : Mm} {o : Nat} {p1 : Int32} (h : Kp M0 M) : KQ M0 (fX3_holds_k6 M o p1) := by
  unfold fX3_holds_k6
  repeat' (with_reducible first
    | exact KO.none
    | exact KQ.none
    | exact KO.some (by assumption)
    | exact KQ.some (by assumption) _
    | exact k_Jx4a65c_add_9ea2d (by assumption)
    | exact k_X4_holds_k6 (by assumption)
    | exact k_X4_runs_k6 (by assumption)
    | refine KO.b1m ?_ ?_
    | refine KQ.b1m ?_ ?_
    | refine KO.b2 ?_ ?_
    | refine KQ.b2 ?_ ?_
    | refine KO.b1 (fun _ => ?_)
    | refine KQ.b1 (fun _ => ?_)
    | refine KO.ite ?_ ?_
    | refine KQ.ite ?_ ?_
    | refine KO.nl ?_ (fun _ => ?_)
    | refine KQ.nl ?_ (fun _ => ?_)
    | intro _)
theorem k_X4_holds_k12 {M0 M : Mm} {o : Nat} {p1 : Int32} (h : Kp M0 M) : KQ M0 (fX4_holds_k12 M o p1) := by
  unfold fX4_holds_k12
  repeat' (with_reducible first
    | exact KO.none
    | exact KQ.none
    | exact KO.some (by assumption)
    | exact KQ.some (by assumption) _
    | exact k_wrZ (by assumption)
    | exact k_Jx4a65c_add_9ea2d (by assumption)
    | refine KO.b1m ?_ ?_
    | refine KQ.b1m ?_ ?_
    | refine KO.b2 ?_ ?_
    | refine KQ.b2 ?_ ?_
    | refine KO.b1 (fun _ => ?_)
    | refine KQ.b1 (fun _ => ?_)
    | refine KO.ite ?_ ?_
    | refine KQ.ite ?_ ?_
    | refine KO.nl ?_ (fun _ => ?_)
    | refine KQ.nl ?_ (fun _ => ?_)
    | intro _)
theorem k_X4_holds_k8 {M0 M : Mm} {o : Nat} {p1 : Int32} (h : Kp M0 M) : KQ M0 (fX4_holds_k8 M o p1) := by
  unfold fX4_holds_k8
  repeat' (with_reducible first
    | exact KO.none
    | exact KQ.none
    | exact KO.some (by assumption)
    | exact KQ.some (by assumption) _
    | exact k_wrZ (by assumption)
    | exact k_Jx4a65c_add_9ea2d (by assumption)
    | refine KO.b1m ?_ ?_
    | refine KQ.b1m ?_ ?_
    | refine KO.b2 ?_ ?_
    | refine KQ.b2 ?_ ?_
    | refine KO.b1 (fun _ => ?_)
    | refine KQ.b1 (fun _ => ?_)
    | refine KO.ite ?_ ?_
    | refine KQ.ite ?_ ?_
    | refine KO.nl ?_ (fun _ => ?_)
    | refine KQ.nl ?_ (fun _ => ?_)
    | intro _)
theorem k_X4_holds_k7 {M0 M : Mm} {o : Nat} {p1 : Int32} (h : Kp M0 M) : KQ M0 (fX4_holds_k7 M o p1) := by
  unfold fX4_holds_k7
  repeat' (with_reducible first
    | exact KO.none
    | exact KQ.none
    | exact KO.some (by assumption)
    | exact KQ.some (by assumption) _
    | exact k_wrZ (by assumption)
    | exact k_Jx4a65c_add_9ea2d (by assumption)
    | refine KO.b1m ?_ ?_
    | refine KQ.b1m ?_ ?_
    | refine KO.b2 ?_ ?_
    | refine KQ.b2 ?_ ?_
    | refine KO.b1 (fun _ => ?_)
    | refine KQ.b1 (fun _ => ?_)
    | refine KO.ite ?_ ?_
    | refine KQ.ite ?_ ?_
    | refine KO.nl ?_ (fun _ => ?_)
    | refine KQ.nl ?_ (fun _ => ?_)
    | intro _)
theorem k_X4_tells_k4 {M0 M : Mm} {o : Nat} {p1 : Int32} (h : Kp M0 M) : KQ M0 (fX4_tells_k4 M o p1) := by
  unfold fX4_tells_k4
  repeat' (with_reducible first
    | exact KO.none
    | exact KQ.none
    | exact KO.some (by assumption)
    | exact KQ.some (by assumption) _
    | exact k_Jx4a65c_add_9ea2d (by assumption)
    | exact k_X1_dries_k4 (by assumption)
    | refine KO.b1m ?_ ?_
    | refine KQ.b1m ?_ ?_
    | refine KO.b2 ?_ ?_
    | refine KQ.b2 ?_ ?_
    | refine KO.b1 (fun _ => ?_)
    | refine KQ.b1 (fun _ => ?_)
    | refine KO.ite ?_ ?_
    | refine KQ.ite ?_ ?_
    | refine KO.nl ?_ (fun _ => ?_)
    | refine KQ.nl ?_ (fun _ => ?_)
    | intro _)
theorem k_X9_tells_k4 {M0 M : Mm} {o : Nat} {p1 : Int32} (h : Kp M0 M) : KQ M0 (fX9_tells_k4 M o p1) := by
  unfold fX9_tells_k4
  repeat' (with_reducible first
    | exact KO.none
    | exact KQ.none
    | exact KO.some (by assumption)
    | exact KQ.some (by assumption) _
    | exact k_Jx4a65c_add_9ea2d (by assumption)
    | exact k_X4_tells_k4 (by assumption)
    | exact k_X4_holds_k4 (by assumption)
    | refine KO.b1m ?_ ?_
    | refine KQ.b1m ?_ ?_
    | refine KO.b2 ?_ ?_
    | refine KQ.b2 ?_ ?_
    | refine KO.b1 (fun _ => ?_)
    | refine KQ.b1 (fun _ => ?_)
    | refine KO.ite ?_ ?_
    | refine KQ.ite ?_ ?_
    | refine KO.nl ?_ (fun _ => ?_)
    | refine KQ.nl ?_ (fun _ => ?_)
    | intro _)
theorem k_X4_tells_k5 {M0 M : Mm} {o : Nat} {p1 : Int32} (h : Kp M0 M) : KQ M0 (fX4_tells_k5 M o p1) := by
  unfold fX4_tells_k5
  repeat' (with_reducible first
    | exact KO.none
    | exact KQ.none
    | exact KO.some (by assumption)
    | exact KQ.some (by assumption) _
    | exact k_Jx4a65c_add_9ea2d (by assumption)
    | exact k_X5_dries_k5 (by assumption)
    | refine KO.b1m ?_ ?_
    | refine KQ.b1m ?_ ?_
    | refine KO.b2 ?_ ?_
    | refine KQ.b2 ?_ ?_
    | refine KO.b1 (fun _ => ?_)
    | refine KQ.b1 (fun _ => ?_)
    | refine KO.ite ?_ ?_
    | refine KQ.ite ?_ ?_
    | refine KO.nl ?_ (fun _ => ?_)
    | refine KQ.nl ?_ (fun _ => ?_)
    | intro _)
theorem k_X4_tells_k6 {M0 M : Mm} {o : Nat} {p1 : Int32} (h : Kp M0 M) : KQ M0 (fX4_tells_k6 M o p1) := by
  unfold fX4_tells_k6
  repeat' (with_reducible first
    | exact KO.none
    | exact KQ.none
    | exact KO.some (by assumption)
    | exact KQ.some (by assumption) _
    | exact k_Jx4a65c_add_9ea2d (by assumption)
    | exact k_X4_dries_k6 (by assumption)
    | refine KO.b1m ?_ ?_
    | refine KQ.b1m ?_ ?_
    | refine KO.b2 ?_ ?_
    | refine KQ.b2 ?_ ?_
    | refine KO.b1 (fun _ => ?_)
    | refine KQ.b1 (fun _ => ?_)
    | refine KO.ite ?_ ?_
    | refine KQ.ite ?_ ?_
    | refine KO.nl ?_ (fun _ => ?_)
    | refine KQ.nl ?_ (fun _ => ?_)
    | intro _)
theorem k_X3_tells_k6 {M0 M : Mm} {o : Nat} {p1 : Int32} (h : Kp M0 M) : KQ M0 (fX3_tells_k6 M o p1) := by
  unfold fX3_tells_k6
  repeat' (with_reducible first
    | exact KO.none
    | exact KQ.none
    | exact KO.some (by assumption)
    | exact KQ.some (by assumption) _
    | exact k_Jx4a65c_add_9ea2d (by assumption)
    | exact k_X4_tells_k6 (by assumption)
    | refine KO.b1m ?_ ?_
    | refine KQ.b1m ?_ ?_
    | refine KO.b2 ?_ ?_
    | refine KQ.b2 ?_ ?_
    | refine KO.b1 (fun _ => ?_)
    | refine KQ.b1 (fun _ => ?_)
    | refine KO.ite ?_ ?_
    | refine KQ.ite ?_ ?_
    | refine KO.nl ?_ (fun _ => ?_)
    | refine KQ.nl ?_ (fun _ => ?_)
    | intro _)
theorem k_X4_tells_k12 {M0 M : Mm} {o : Nat} {p1 : Int32} (h : Kp M0 M) : KQ M0 (fX4_tells_k12 M o p1) := by
  unfold fX4_tells_k12
  repeat' (with_reducible first
    | exact KO.none
    | exact KQ.none
    | exact KO.some (by assumption)
    | exact KQ.some (by assumption) _
    | exact k_Jx4a65c_add_9ea2d (by assumption)
    | exact k_X4_dries_k12 (by assumption)
    | refine KO.b1m ?_ ?_
    | refine KQ.b1m ?_ ?_
    | refine KO.b2 ?_ ?_
    | refine KQ.b2 ?_ ?_
    | refine KO.b1 (fun _ => ?_)
    | refine KQ.b1 (fun _ => ?_)
    | refine KO.ite ?_ ?_
    | refine KQ.ite ?_ ?_
    | refine KO.nl ?_ (fun _ => ?_)
    | refine KQ.nl ?_ (fun _ => ?_)
    | intro _)
theorem k_X9_tells_k12 {M0 M : Mm} {o : Nat} {p1 : Int32} (h : Kp M0 M) : KQ M0 (fX9_tells_k12 M o p1) := by
  unfold fX9_tells_k12
  repeat' (with_reducible first
    | exact KO.none
    | exact KQ.none
    | exact KO.some (by assumption)
    | exact KQ.some (by assumption) _
    | exact k_Jx4a65c_add_9ea2d (by assumption)
    | exact k_X4_tells_k12 (by assumption)
    | exact k_X4_holds_k12 (by assumption)
    | refine KO.b1m ?_ ?_
    | refine KQ.b1m ?_ ?_
    | refine KO.b2 ?_ ?_
    | refine KQ.b2 ?_ ?_
    | refine KO.b1 (fun _ => ?_)
    | refine KQ.b1 (fun _ => ?_)
    | refine KO.ite ?_ ?_
    | refine KQ.ite ?_ ?_
    | refine KO.nl ?_ (fun _ => ?_)
    | refine KQ.nl ?_ (fun _ => ?_)
    | intro _)
theorem k_X4_tells_k8 {M0 M : Mm} {o : Nat} {p1 : Int32} (h : Kp M0 M) : KQ M0 (fX4_tells_k8 M o p1) := by
  unfold fX4_tells_k8
  repeat' (with_reducible first
    | exact KO.none
    | exact KQ.none
    | exact KO.some (by assumption)
    | exact KQ.some (by assumption) _
    | exact k_Jx4a65c_add_9ea2d (by assumption)
    | exact k_X5_dries_k8 (by assumption)
    | refine KO.b1m ?_ ?_
    | refine KQ.b1m ?_ ?_
    | refine KO.b2 ?_ ?_
    | refine KQ.b2 ?_ ?_
    | refine KO.b1 (fun _ => ?_)
    | refine KQ.b1 (fun _ => ?_)
    | refine KO.ite ?_ ?_
    | refine KQ.ite ?_ ?_
    | refine KO.nl ?_ (fun _ => ?_)
    | refine KQ.nl ?_ (fun _ => ?_)
    | intro _)
theorem k_X4_tells_k7 {M0 M : Mm} {o : Nat} {p1 : Int32} (h : Kp M0 M) : KQ M0 (fX4_tells_k7 M o p1) := by
  unfold fX4_tells_k7
  repeat' (with_reducible first
    | exact KO.none
    | exact KQ.none
    | exact KO.some (by assumption)
    | exact KQ.some (by assumption) _
    | exact k_Jx4a65c_add_9ea2d (by assumption)
    | exact k_X4_dries_k7 (by assumption)
    | refine KO.b1m ?_ ?_
    | refine KQ.b1m ?_ ?_
    | refine KO.b2 ?_ ?_
    | refine KQ.b2 ?_ ?_
    | refine KO.b1 (fun _ => ?_)
    | refine KQ.b1 (fun _ => ?_)
    | refine KO.ite ?_ ?_
    | refine KQ.ite ?_ ?_
    | refine KO.nl ?_ (fun _ => ?_)
    | refine KQ.nl ?_ (fun _ => ?_)
    | intro _)
theorem k_X11_act {M0 M : Mm} {o : Nat} {p1 : Int32} {p2 : Int32} {p3 : Int32} (h : Kp M0 M) : KQ M0 (fX11_act M o p1 p2 p3) := by
  unfold fX11_act
  repeat' (with_reducible first
    | exact KO.none
    | exact KQ.none
    | exact KO.some (by assumption)
    | exact KQ.some (by assumption) _
    | exact k_Jx4a65c_clear_da8c8 (by assumption)
    | exact k_X11_thingOf (by assumption)
    | exact k_X1_runs_k4 (by assumption)
    | exact k_X2_runs_k5 (by assumption)
    | exact k_X4_runs_k6 (by assumption)
    | exact k_X4_runs_k7 (by assumption)
    | exact k_X4_runs_k8 (by assumption)
    | exact k_X9_runs_k12 (by assumption)
    | exact k_X1_dries_k4 (by assumption)
    | exact k_X5_dries_k5 (by assumption)
    | exact k_X4_dries_k6 (by assumption)
    | exact k_X4_dries_k7 (by assumption)
    | exact k_X5_dries_k8 (by assumption)
    | exact k_X4_dries_k12 (by assumption)
    | exact k_X4_holds_k4 (by assumption)
    | exact k_X2_holds_k5 (by assumption)
    | exact k_X3_holds_k6 (by assumption)
    | exact k_X4_holds_k7 (by assumption)
    | exact k_X4_holds_k8 (by assumption)
    | exact k_X4_holds_k12 (by assumption)
    | exact k_X9_tells_k4 (by assumption)
    | exact k_X4_tells_k5 (by assumption)
    | exact k_X3_tells_k6 (by assumption)
    | exact k_X4_tells_k7 (by assumption)
    | exact k_X4_tells_k8 (by assumption)
    | exact k_X9_tells_k12 (by assumption)
    | refine KO.b1m ?_ ?_
    | refine KQ.b1m ?_ ?_
    | refine KO.b2 ?_ ?_
    | refine KQ.b2 ?_ ?_
    | refine KO.b1 (fun _ => ?_)
    | refine KQ.b1 (fun _ => ?_)
    | refine KO.ite ?_ ?_
    | refine KQ.ite ?_ ?_
    | refine KO.nl ?_ (fun _ => ?_)
    | refine KQ.nl ?_ (fun _ => ?_)
    | intro _)
theorem k_X11_keep {M0 M : Mm} {o : Nat} (h : Kp M0 M) : KQ M0 (fX11_keep M o) := by
  unfold fX11_keep
  repeat' (with_reducible first
    | exact KO.none
    | exact KQ.none
    | exact KO.some (by assumption)
    | exact KQ.some (by assumption) _
    | exact k_wrZ (by assumption)
    | exact k_X0_become (by assumption)
    | refine KO.b1m ?_ ?_
    | refine KQ.b1m ?_ ?_
    | refine KO.b2 ?_ ?_
    | refine KQ.b2 ?_ ?_
    | refine KO.b1 (fun _ => ?_)
    | refine KQ.b1 (fun _ => ?_)
    | refine KO.ite ?_ ?_
    | refine KQ.ite ?_ ?_
    | refine KO.nl ?_ (fun _ => ?_)
    | refine KQ.nl ?_ (fun _ => ?_)
    | intro _)
theorem k_X11_again {M0 M : Mm} {o : Nat} (h : Kp M0 M) : KQ M0 (fX11_again M o) := by
  unfold fX11_again
  repeat' (with_reducible first
    | exact KO.none
    | exact KQ.none
    | exact KO.some (by assumption)
    | exact KQ.some (by assumption) _
    | exact k_X0_become (by assumption)
    | refine KO.b1m ?_ ?_
    | refine KQ.b1m ?_ ?_
    | refine KO.b2 ?_ ?_
    | refine KQ.b2 ?_ ?_
    | refine KO.b1 (fun _ => ?_)
    | refine KQ.b1 (fun _ => ?_)
    | refine KO.ite ?_ ?_
    | refine KQ.ite ?_ ?_
    | refine KO.nl ?_ (fun _ => ?_)
    | refine KQ.nl ?_ (fun _ => ?_)
    | intro _)
end KEEP
