section SNA
variable {M : Mm} {B : Nat} {A : Int → Int}
def dl (v : Int) : Int → Int := fun s => if s = v then 1 else 0
theorem snO_sum {A : Int → Int} (g : GA A) (m x f : Int) (hf : f = 0 ∨ f = 1) : snO A (bt m) x f = (if bt m 0 = 1 then snO A (dl 0) x f else 0) + (if bt m 1 = 1 then snO A (dl 1) x f else 0) + (if bt m 2 = 1 then snO A (dl 2) x f else 0) + (if bt m 3 = 1 then snO A (dl 3) x f else 0) := by
  unfold snO
  by_cases e : 0 ≤ x ∧ x < A 0
  · have sb := sdS_b (g.2.2.2.2.2.2.2 x e.1 e.2) hf
    generalize baS (lwA A) (stA A x) = b
    generalize sdS f (stA A x) = s at sb ⊢
    unfold dl
    rcases (by omega : s = 0 ∨ s = 1 ∨ s = 2 ∨ s = 3) with q | q | q | q <;> subst q <;> simp only [e, true_and, Int.reduceEq, if_true, if_false] <;> (repeat' split) <;> omega
  · have en : ∀ p : Prop, ¬ (0 ≤ x ∧ x < A 0 ∧ p) := fun p w => e ⟨w.1, w.2.1⟩
    simp only [en, if_false]
    (repeat' split) <;> rfl
theorem snB_sum {A : Int → Int} (g : GA A) (m : Int) : snB A (bt m) = (if bt m 0 = 1 then snB A (dl 0) else 0) + (if bt m 1 = 1 then snB A (dl 1) else 0) + (if bt m 2 = 1 then snB A (dl 2) else 0) + (if bt m 3 = 1 then snB A (dl 3) else 0) := by
  unfold snB
  rw [snO_sum g m _ 0 (Or.inl rfl), snO_sum g m _ 1 (Or.inr rfl)]
  (repeat' split) <;> omega
theorem FL5 : ∃ n, FL = n + 1 + 1 + 1 + 1 + 1 := ⟨4091, rfl⟩
theorem c_seenFromAll (h : LayD M B) (c : CR M B A) (g : GA A) {m : Int} (m0 : 0 ≤ m) (m9 : m < 16) : fX0_seenFromAll M B (i2 m) = some (i2 (snB A (bt m))) := by
  obtain ⟨N, hN⟩ := FL5
  have u : ∀ (K : Nat) (s v : Int32), fX0_seenFromAll_L4 M B (i2 m) (K + 1) s v = if 4 ≤ v then some s else if ((i2 m >>> (v &&& 31)) &&& 1) = 1 then B1 (gk M B 3) fun _ => B1 (fX0_seenFrom M B v) fun x => fX0_seenFromAll_L4 M B (i2 m) K (s + x) (v + 1) else fX0_seenFromAll_L4 M B (i2 m) K (s + 0) (v + 1) := fun _ _ _ => rfl
  have step : ∀ (K : Nat) (s v : Int), 0 ≤ v → v < 4 → fX0_seenFromAll_L4 M B (i2 m) (K + 1) (i2 s) (i2 v) = fX0_seenFromAll_L4 M B (i2 m) K (i2 (s + if bt m v = 1 then snB A (dl v) else 0)) (i2 (v + 1)) := fun K s v v0 v4 => by
    have hn : ¬ (4 : Int32) ≤ i2 v := by
      rw [L_4, i2_le (by decide) (by decide) (by omega) (by omega)]
      omega
    have hf1 : i2 v + 1 = i2 (v + 1) := by rw [show (1 : Int32) = i2 1 from L_1, i2_add]
    have hs := c_seenFrom h c g v0 v4
    rw [u, if_neg hn, bt_at m0 m9 v0 v4, hf1]
    rcases bt_01 m v with q | q
    · rw [q, if_neg (by decide +kernel), if_neg (by decide), show (0 : Int32) = i2 0 from L_0, i2_add]
    · rw [q, if_pos (by decide +kernel), if_pos rfl, d_gk h, B1_some, hs, B1_some, i2_add]
      rfl
  unfold fX0_seenFromAll
  rw [hN, show (0 : Int32) = i2 0 from L_0, step _ 0 0 (by decide) (by decide), show (0 : Int) + 1 = 1 from rfl, step _ _ 1 (by decide) (by decide), show (1 : Int) + 1 = 2 from rfl, step _ _ 2 (by decide) (by decide), show (2 : Int) + 1 = 3 from rfl, step _ _ 3 (by decide) (by decide), u, if_pos (by decide +kernel), snB_sum g m]
  congr 2
  omega
theorem bt_one : ∀ {sd : Int}, 0 ≤ sd → sd < 4 → i2 1 <<< (i2 sd &&& (31 : Int32)) = i2 (if sd = 0 then 1 else if sd = 1 then 2 else if sd = 2 then 4 else 8) ∧ ∀ s : Int, 0 ≤ s → s < 4 → bt (if sd = 0 then 1 else if sd = 1 then 2 else if sd = 2 then 4 else 8) s = dl sd s := by
  intro sd s0 s3
  rcases (by omega : sd = 0 ∨ sd = 1 ∨ sd = 2 ∨ sd = 3) with rfl | rfl | rfl | rfl
  all_goals
    refine ⟨by decide +kernel, fun s a b => ?_⟩
    rcases (by omega : s = 0 ∨ s = 1 ∨ s = 2 ∨ s = 3) with rfl | rfl | rfl | rfl <;> decide
theorem snB_cg {A b b' : Int → Int} (g : GA A) (h : ∀ s : Int, 0 ≤ s → s < 4 → b s = b' s) : snB A b = snB A b' := by
  have k : ∀ x f : Int, (f = 0 ∨ f = 1) → snO A b x f = snO A b' x f := fun x f hf => by
    unfold snO
    by_cases e : 0 ≤ x ∧ x < A 0
    · have sb := sdS_b (g.2.2.2.2.2.2.2 x e.1 e.2) hf
      rw [h _ sb.1 sb.2]
    · rw [if_neg (fun w => e ⟨w.1, w.2.1⟩), if_neg (fun w => e ⟨w.1, w.2.1⟩)]
  unfold snB
  rw [k _ 0 (Or.inl rfl), k _ 1 (Or.inr rfl)]
end SNA
