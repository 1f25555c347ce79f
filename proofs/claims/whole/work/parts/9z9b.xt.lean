section XTT
/-! WHAT THE STATEMENT GIVES OF THE START: the static rows, the small Integers, the texts, the classes -/
def flg : List Cond := flatC (Cond.and given_1 narrow_1)
def tmq (q : Nat) : Term := match txr.find? (fun r => r.2.2.2 == q) with
  | some r => Term.string r.1 r.2.1
  | none => Term.null
theorem fl_ex : ∀ q, q < 22 → Cond.exactly (tmq q) "java/lang/String" ∈ flg := by decide +kernel
theorem fl_co : ∀ q, q < 22 → Cond.eq (.field (tmq q) "java/lang/String" "coder" "B") (.int 0) ∈ flg := by decide +kernel
theorem fl_ar : ∀ q, q < 22 → Cond.arrayOf (.field (tmq q) "java/lang/String" "value" "[B") .byte ∈ flg := by decide +kernel
theorem fl_le : ∀ q, q < 22 → Cond.eq (.length (.field (tmq q) "java/lang/String" "value" "[B")) (.int (Int32.ofNat (txl.getD q 0))) ∈ flg := by decide +kernel
theorem fl_el : ∀ q, q < 22 → ∀ j, j < txl.getD q 0 → Cond.eq (.elem (.field (tmq q) "java/lang/String" "value" "[B") (.int (Int32.ofNat j))) (.int ((txb.getD q []).getD j 0)) ∈ flg := by decide +kernel
theorem fl_tx : ∀ r ∈ txr, Cond.stringRef r.1 r.2.1 r.2.2.1 ∈ lw_tbl ∧ r.2.2.2 < 22 ∧ (Term.string r.1 r.2.1 = tmq r.2.2.2 ∨ Cond.eq (tmq r.2.2.2) (Term.string r.1 r.2.1) ∈ flg) := by decide +kernel
theorem tx_sm : ∀ q, q < 22 → txl.getD q 0 < 2 ^ 31 := by decide +kernel
theorem tx_one : ∀ q, q < 22 → ∀ q', q' < 22 → txl.getD q 0 = txl.getD q' 0 → (∀ j, j < txl.getD q 0 → (txb.getD q []).getD j 0 = (txb.getD q' []).getD j 0) → q = q' := by decide +kernel
theorem fl_ra : ∀ i, i < 4 → Cond.arrayOf (.static "NylonLadder" (sNm (i + 1)) "[I") .int ∈ flg := by decide +kernel
theorem fl_rl : ∀ i, i < 4 → Cond.eq (.length (.static "NylonLadder" (sNm (i + 1)) "[I")) (.int (Int32.ofNat (sRow (i + 1)).length)) ∈ flg := by decide +kernel
theorem fl_re : ∀ i, i < 4 → ∀ j, j < (sRow (i + 1)).length → Cond.eq (.elem (.static "NylonLadder" (sNm (i + 1)) "[I") (.int (Int32.ofNat j))) (.int ((sRow (i + 1)).getD j 0)) ∈ flg := by decide +kernel
theorem fl_rs : ∀ i, i < 4 → Cond.laysStatic "NylonLadder" (sNm (i + 1)) "[I" ∈ lw_tbl := by decide +kernel
theorem OF_fn {o n d : String} {v v' : Value} {t : Nat} {A : Nat → Prop} {U : State} {H : Heap} (h : va_OF o n d v t A U H) (h' : va_OF o n d v' t A U H) : v = v' := by
  obtain ⟨cf, k, i, f, cell, h1, -, h3, -, h5, -⟩ := h
  obtain ⟨cf', k', i', f', cell', g1, -, g3, -, g5, -⟩ := h'
  rw [h1] at g1
  cases g1
  rw [h3] at g3
  cases g3
  rw [h5] at g5
  exact Option.some.inj g5
theorem T_fn {ty : FieldType} {t N N' : Nat} {f f' : Nat → Value} {A : Nat → Prop} {U : State} {H : Heap} (hN : N < 2 ^ 31) (hN' : N' < 2 ^ 31) (h : va_T ty t N f A U H) (h' : va_T ty t N' f' A U H) : N = N' ∧ ∀ j, j < N → f j = f' j := by
  obtain ⟨cell, h1, -, -, -, h5, h6, -⟩ := h
  obtain ⟨cell', g1, -, -, -, g5, g6, -⟩ := h'
  rw [h1] at g1
  cases g1
  have e : N = N' := by
    have q := h5.symm.trans g5
    have q2 := congrArg Int32.toInt q
    rw [Int32.toInt_ofNat_of_lt (by omega), Int32.toInt_ofNat_of_lt (by omega)] at q2
    omega
  exact ⟨e, fun j hj => Option.some.inj ((h6 j hj).symm.trans (g6 j (e ▸ hj)))⟩
section XTW
variable {s : State} {b : Nat} {A : Nat → Prop}
theorem xt_txt (fl : ∀ w ∈ flg, w.before #[Value.ref b] s = true) (hA : ∀ a : Nat, a < s.heap.size → ¬ A a) : ∃ adK adV : Nat → Nat, vk_S 22 txl txb adK adV A s s.heap ∧ ∀ q, q < 22 → (tmq q).eval #[Value.ref b] s none [] s = some (.ref (adK q)) := by
  have h0 : ∀ q : Nat, ∃ a : Nat × Nat, q < 22 → (tmq q).eval #[Value.ref b] s none [] s = some (.ref a.1) ∧ va_O "java/lang/String" a.1 A s s.heap ∧ va_OF "java/lang/String" "coder" "B" (.int 0) a.1 A s s.heap ∧ va_OF "java/lang/String" "value" "[B" (.ref a.2) a.1 A s s.heap ∧ va_T .byte a.2 (txl.getD q 0) (fun j => .int ((txb.getD q []).getD j 0)) A s s.heap := by
    intro q
    by_cases hq : q < 22
    · obtain ⟨adK, adV, ⟨h1, -⟩, h2⟩ := vk_Sof (N := 1) (tm := fun _ => tmq q) (len := [txl.getD q 0]) (byt := [txb.getD q []]) (A := A) (args := #[Value.ref b]) (s := s) (fun i hi => by
          obtain rfl : i = 0 := by omega
          exact tx_sm q hq) (fun i _ => fl _ (fl_ex q hq)) (fun i _ => fl _ (fl_co q hq)) (fun i _ => fl _ (fl_ar q hq)) (fun i hi => by
          obtain rfl : i = 0 := by omega
          exact fl _ (fl_le q hq)) (fun i hi j hj => by
          obtain rfl : i = 0 := by omega
          exact fl _ (fl_el q hq j hj)) (fun i j hi hj ne => absurd (by omega) ne) hA
      exact ⟨(adK 0, adV 0), fun _ => ⟨h2 0 (by decide), h1 0 (by decide)⟩⟩
    · exact ⟨(0, 0), fun h => absurd h hq⟩
  obtain ⟨ad, had⟩ := Classical.axiomOfChoice h0
  refine ⟨fun q => (ad q).1, fun q => (ad q).2, ⟨fun q hq => (had q hq).2, fun i j hi hj e => ?_⟩, fun q hq => (had q hq).1⟩
  obtain ⟨-, -, -, f1, t1⟩ := had i hi
  obtain ⟨-, -, -, f2, t2⟩ := had j hj
  have e : (ad i).1 = (ad j).1 := e
  rw [e] at f1
  have e2 := OF_fn f1 f2
  have e3 : (ad i).2 = (ad j).2 := by injection e2
  rw [e3] at t1
  obtain ⟨e4, e5⟩ := T_fn (tx_sm i hi) (tx_sm j hj) t1 t2
  exact tx_one i hi j hj e4 fun k hk => by
    have q := e5 k hk
    injection q
theorem xt_row (fl : ∀ w ∈ flg, w.before #[Value.ref b] s = true) (ts : ∀ w ∈ lw_tbl, w.before #[Value.ref b] s = true) (hA : ∀ a : Nat, a < s.heap.size → ¬ A a) : ∃ ad : Nat → Nat, ∀ i, 1 ≤ i → i ≤ 4 → va_Z "NylonLadder" (sNm i) "[I" (.ref (ad i)) A s s.heap ∧ va_T .int (ad i) (sRow i).length (fun j => .int ((sRow i).getD j 0)) A s s.heap := by
  have h0 : ∀ i : Nat, ∃ a : Nat, 1 ≤ i → i ≤ 4 → va_Z "NylonLadder" (sNm i) "[I" (.ref a) A s s.heap ∧ va_T .int a (sRow i).length (fun j => .int ((sRow i).getD j 0)) A s s.heap := by
    intro i
    by_cases hi : 1 ≤ i ∧ i ≤ 4
    · obtain ⟨k, rfl⟩ : ∃ k, i = k + 1 := ⟨i - 1, by omega⟩
      have k4 : k < 4 := by omega
      have sm : ∀ k, k < 4 → (sRow (k + 1)).length < 2 ^ 31 := by decide
      obtain ⟨t, h1, h2⟩ := va_Tof (tm := Term.static "NylonLadder" (sNm (k + 1)) "[I") (f := fun j => .int ((sRow (k + 1)).getD j 0)) (A := A) (args := #[Value.ref b]) (s := s) (sm k k4) (fl _ (fl_ra k k4)) (va_eqt (fl _ (fl_rl k k4))) (fun j hj => va_eqt (fl _ (fl_re k k4 j hj))) hA
      exact ⟨t, fun _ _ => ⟨va_Zref (ts _ (fl_rs k k4)) (ts _ (gT_sub _ T_1_1)) h1 hA, h2⟩⟩
    · exact ⟨0, fun h1 h2 => absurd ⟨h1, h2⟩ hi⟩
  exact Classical.axiomOfChoice h0
theorem ar_prim {ty : FieldType} (h : (Cond.arrayClass ty).before #[Value.ref b] s = true) : ∃ cA, ArrOfT s cA ty ∧ s.vm.findClass ("[" ++ ty.toString) = some cA := by
  obtain ⟨c, k, comp, h1, h2, h3⟩ := Cond.arrayClass_spec h
  exact ⟨c, fun n z => ⟨fun _ h => (by cases h), k, h2, comp, h3⟩, h1⟩
theorem ar_obj {C : String} (h : va_AO C s) : ∃ cA, ArrOfT s cA (.object C) ∧ va_RA s cA (.object C) := by
  obtain ⟨comp, c, k, h1, -, h3, h4, h5⟩ := Cond.arrayOver_spec h
  exact ⟨c, fun n z => ⟨fun _ h => (by cases h), k, h3, comp, h4⟩, k, comp, h3, h4, h1, h5⟩
theorem ar_arr (h : wAO s) : ∃ cA, ArrOfT s cA (.array .int) ∧ va_RA s cA (.array .int) := by
  obtain ⟨comp, c, k, h1, h3, h4, h5⟩ := Cond.arrayOver_specA h
  exact ⟨c, fun n z => ⟨fun _ h => (by cases h), k, h3, comp, h4⟩, h5⟩
end XTW
end XTT
