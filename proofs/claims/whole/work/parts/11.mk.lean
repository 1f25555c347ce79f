/-! new objects by name, references into arrays, rows of rows, texts -/
theorem rv_cat (b : Nat) (r : Option Nat) : (rv b r).category = 1 := by cases r <;> rfl
def nwO (M : Mm) (kd : Nat) : Option Mm := some (M.nw kd 0)
/-- new int[N][K]: the outer row, then the inner ones -/
def mnM (M : Mm) (N K : Nat) : Mm := (M.n + (1 + N), fun a => if a = M.n then 26 else if M.n < a ∧ a ≤ M.n + N then 21 else M.k a, fun a => if a = M.n then N else if M.n < a ∧ a ≤ M.n + N then K else M.len a, fun a i => if M.n ≤ a ∧ a ≤ M.n + N then 0 else M.g a i, M.l, fun a i => if a = M.n then (if i < N then some (M.n + 1 + i) else none) else M.r a i)
def mna (M : Mm) (N K : Nat) (n k : Int32) : Option Mm := if n.toInt = N ∧ k.toInt = K then some (mnM M N K) else none
/-- a text's number -/
def tq (q : Nat) : Option Unit := if q < 22 then some () else none
def tln (q : Nat) : Int32 := Int32.ofNat (txl.getD q 0)
def tby (q : Nat) (i : Int32) : Option Int32 := if q < 22 ∧ inB i (txl.getD q 0) = true then some ((txb.getD q []).getD i.toNatClampNeg 0) else none
/-- a char's bounds -/
def bc (v : Int32) : Option Int32 := if v.toUInt32.toUInt16.toUInt32.toInt32 = v then some v else none
theorem vr_outer (c : ClassId) (N h0 : Nat) : ∀ i : Nat, Jvm.Free.Multi.outerC c N h0 i = arrV c N (fun j => va_rf (if j < i then some (h0 + 1 + j) else none))
  | 0 => by
    show ({ cls := c, slots := Array.replicate N .null, vm := .none } : Cell) = _
    rw [arrV_new]
    refine congrArg (arrV c N) (funext fun j => ?_)
    simp [va_rf]
  | i + 1 => by
    show (Jvm.Free.Multi.outerC c N h0 i).setSlot i (.ref (h0 + 1 + i)) = _
    rw [vr_outer c N h0 i, arrV_store]
    refine congrArg (arrV c N) (funext fun j => ?_)
    by_cases e : j = i
    · subst e
      simp [updV, va_rf]
    · by_cases h : j < i
      · simp [updV, e, h, Nat.lt_succ_of_lt h]
      · simp [updV, e, h, show ¬ j < i + 1 by omega]
section MK
variable {E : Ev} {p : Program} {l : Launch} {e : Env} {R : Room} {s : State} {m : MethodId} {args : Array Value} {below : List Frame} {meth : Method} {c : Code} {H : Heap} {locs : List Loc} {cells slots : Nat} {Q : State → Prop} {cc : ByteArray} {own : String} {nL : Nat} {M M1 : Mm} {pc : Nat} {ls : Array Slot} {rest : List Value} {idx : Nat}
theorem x_newo (C : Cx E p s m args meth c cc own nL) (hW : Wx E s H locs M) {kd N : Nat} (hr : nwO M kd = some M1) (hN : NwO own idx kd N) (hdg : decode cc pc = .ok (.new idx, 3)) (hcs : cells + 1 ≤ R.cells ∧ slots + N ≤ R.slots)
    (kk : ∀ H1 : Heap, Wx E s H1 locs M1 → W p l e R s m args below meth c H1 locs (cells + 1) (slots + N) Q (F0 m (pc + 3) ls (.ref (E.b + M.n) :: rest))) : W p l e R s m args below meth c H locs cells slots Q (F0 m pc ls rest) := by
  cases hr
  exact x_new C hW hN hdg hcs kk
theorem x_aast (C : Cx E p s m args meth c cc own nL) (hW : Wx E s H locs M) {a kd ko : Nat} {i : Int32} {v : Option Nat} {q : vw_C} (hb : 23 ≤ kd ∧ kd ≤ 25 ∧ 3 ≤ ko ∧ ko ≤ 20) (hc : vwCl[ko - 1]? = some q) (hty : arTy kd = .object q.1) (hr : asR M a kd i ko v = some M1) (hdg : decode cc pc = .ok (.aastore, 1))
    (kk : ∀ (H1 : Heap) (locs1 : List Loc), Wx E s H1 locs1 M1 → W p l e R s m args below meth c H1 locs1 cells slots Q (F0 m (pc + 1) ls rest)) : W p l e R s m args below meth c H locs cells slots Q (F0 m pc ls (rv E.b v :: .int i :: .ref (E.b + a) :: rest)) := by
  unfold asR at hr
  split at hr
  · rename_i h
    cases hr
    have hk := h.1
    have hin := inB_vp h.2.1
    have hlt : i.toNatClampNeg < M.len a := Nat.not_le.mp fun q => hin (Or.inr q)
    have h0 : ¬ i < 0 := fun q => hin (Or.inl q)
    have hP := x_one hW (a := a) (by rw [hk]; omega)
    rw [cellE_q hk hb.1 (by omega)] at hP
    obtain ⟨t0, ht0⟩ : ∃ t0, (arTys E)[t0]? = some (E.cy kd, arTy kd) := by
      rcases (show kd = 23 ∨ kd = 24 ∨ kd = 25 by omega) with rfl | rfl | rfl
      · exact ⟨2, rfl⟩
      · exact ⟨3, rfl⟩
      · exact ⟨4, rfl⟩
    have hT := C.K.2 t0 _ ht0
    rw [hty] at hT
    have fin : ∀ H1 : Heap, H1[E.b + a]? = some ((vp_cell (E.cy kd) (M.len a, .inr (.inr (.inr (.inr fun j => (M.r a j).map fun o => E.b + o))))).setSlot i.toNatClampNeg (rv E.b v)) → H1.size = H.size → (∀ q, q ≠ E.b + a → H1[q]? = H[q]?) → Wx E s H1 (locs ++ [⟨E.b + a, i.toNatClampNeg⟩]) (M.sr a i.toNatClampNeg v) := fun H1 e1 z oq => by
      refine ⟨Wd.step hW.1 rfl rfl (fun b hb => cellE_r hb) z oq (fun _ => ?_), hW.2.put z oq (Nat.le_add_right _ _)⟩
      rw [cellE_q (show (M.sr a i.toNatClampNeg v).k a = kd from hk) hb.1 (by omega)]
      show H1[E.b + a]? = some (vp_cell _ _)
      rw [e1]
      show some _ = some (vp_cell (E.cy kd) (M.len a, .inr (.inr (.inr (.inr fun j => ((M.sr a i.toNatClampNeg v).r a j).map fun o => E.b + o)))))
      rw [vp_cell_q, vp_cell_q, arrV_store]
      congr 2
      funext q
      by_cases hq : q = i.toNatClampNeg
      · subst hq
        simp [updV, Mm.sr, Mm.r, up2, rv]
      · simp [updV, Mm.sr, Mm.r, up2, hq]
    cases v with
    | none =>
      exact va_WaastN (C := q.1) C.x C.b (hP 0 _ rfl) (hT.1 (M.len a) (fun j => va_rf ((M.r a j).map fun o => E.b + o))) (fun h => by cases h) (by show ¬ (i < 0 ∨ (arrV _ _ _).slots.size ≤ _); rw [arrV_size]; exact hin) rfl rfl hdg fun H1 e1 z oq => kk H1 _ (fin H1 e1 z oq)
    | some o =>
      have hko : M.k o = ko := h.2.2 o rfl
      have hV := (hW.1.2 o (by rw [hko]; omega)).2
      rw [cellE_o hko (by omega) (by omega)] at hV
      obtain ⟨r', hr', cellV, g1, g2, g3, -⟩ := hV
      have hcls := (C.K.1 (ko - 1) q hc).2
      obtain ⟨kA, comp, k1, k2, k3, -⟩ := hT.2
      have hcomp : comp = E.D.1 (ko - 1) := Option.some.inj (k3.symm.trans hcls.1)
      subst hcomp
      obtain ⟨kC, hkC, -⟩ := hcls.2
      exact W.aast C.x C.b (hP 0 _ rfl) (fun q h => by cases h) (fun h => by cases h) k1 k2 rfl hkC ⟨h0, by show _ < (arrV _ _ _).slots.size; rw [arrV_size]; exact hlt⟩ g1 (fun q h => by rw [g3] at h; cases h) (by rw [g2]; exact hkC) (by rw [g2]; exact va_assign hcls) rfl rfl hdg fun H1 e1 z oq => kk H1 _ (fin H1 e1 z oq)
  · cases hr
theorem x_mna (C : Cx E p s m args meth c cc own nL) (hW : Wx E s H locs M) {N K : Nat} {n k : Int32} (hr : mna M N K n k = some M1) (hcl : Cond.classLink own idx "[[I" ∈ gT) (harr : Cond.arrayClass .int ∈ gT) (hNK : N * 4 ≤ 536870912 ∧ K * 4 ≤ 536870912) (hcs : cells + (1 + N) ≤ R.cells ∧ slots + (N + N * K) ≤ R.slots) (hdg : decode cc pc = .ok (.multianewarray idx 2, 4))
    (kk : ∀ H1 : Heap, Wx E s H1 locs M1 → W p l e R s m args below meth c H1 locs (cells + 1 + N) (slots + N + N * K) Q (F0 m (pc + 4) ls (.ref (E.b + M.n) :: rest))) : W p l e R s m args below meth c H locs cells slots Q (F0 m pc ls (.int k :: .int n :: rest)) := by
  unfold mna at hr
  split at hr
  · rename_i h
    cases hr
    have hn : n.toNatClampNeg = N := by show n.toInt.toNat = N; omega
    have hk : k.toNatClampNeg = K := by show k.toInt.toNat = K; omega
    subst hn
    subst hk
    intro T hT Xs
    obtain ⟨vm₁, cA, comp, -, fA, fC, hO, -, X', step⟩ := Xs.multianewarray2F (ty := .int) C.x C.ow (C.ts _ hcl) C.T.1.2.2.2.2.2.2.1 (C.ts _ harr) (g := F0 m pc ls (.int k :: .int n :: rest)) rfl (by rw [C.b]; exact hdg) rfl (nn0 (by omega)) (nn0 (by omega)) hNK.1 hNK.2 (by omega) rfl rfl hcs.1 hcs.2
    have hcy : comp = E.cy 21 := Option.some.inj (fC.symm.trans (C.K.2 0 _ rfl).2)
    have hcA : cA = E.cy 26 := Option.some.inj (fA.symm.trans (C.K.2 5 _ rfl).2)
    subst hcy
    subst hcA
    generalize hF : Jvm.Free.Multi.fill (T.setVm vm₁) (E.cy 26) (E.cy 21) n.toNatClampNeg k.toNatClampNeg (defaultValue .int) n.toNatClampNeg = F at X' step
    have hTh : (T.setVm vm₁).heap = H := hT
    obtain ⟨f1, f2, -, -⟩ := Jvm.Free.Multi.fill_facts (T.setVm vm₁) (E.cy 26) (E.cy 21) n.toNatClampNeg k.toNatClampNeg (defaultValue .int) n.toNatClampNeg
    rw [hF, hTh] at f1 f2
    have hold : ∀ x : Nat, x < H.size → F.heap[x]? = H[x]? := fun x hx => by
      have := Jvm.Free.Multi.fill_old (T.setVm vm₁) (E.cy 26) (E.cy 21) n.toNatClampNeg k.toNatClampNeg (defaultValue .int) (a := x) (by rw [hTh]; exact hx) n.toNatClampNeg
      rw [hF, hTh] at this
      exact this
    have hrow : ∀ j : Nat, j < n.toNatClampNeg → F.heap[H.size + 1 + j]? = some (vp_cell (E.cy 21) (k.toNatClampNeg, .inl fun _ => 0)) := fun j hj => by
      have := Jvm.Free.Multi.fill_inner (T.setVm vm₁) (E.cy 26) (E.cy 21) n.toNatClampNeg k.toNatClampNeg (defaultValue .int) n.toNatClampNeg j hj
      rw [hF, hTh] at this
      rw [this]
      show some ({ cls := E.cy 21, slots := Array.replicate k.toNatClampNeg (.int 0), vm := .none } : Cell) = _
      rw [arrV_new, vp_cell_i]
    rw [vr_outer (E.cy 26) n.toNatClampNeg H.size n.toNatClampNeg] at f2
    have hz := hW.1.1
    have fz : F.heap.size = H.size + 1 + n.toNatClampNeg := by first | exact f1 | omega
    have hWn : Wx E s F.heap locs (mnM M n.toNatClampNeg k.toNatClampNeg) := by
      refine ⟨⟨by rw [fz, hz]; show _ = E.b + (M.n + (1 + n.toNatClampNeg)); omega, fun b hb => ?_⟩, ⟨by rw [fz]; have := hW.2.1; omega, fun x h1 h2 => (hold x (Nat.lt_of_lt_of_le h1 hW.2.1)).trans (hW.2.2.1 x h1 h2), hW.2.2.2⟩⟩
      have hkk : (mnM M n.toNatClampNeg k.toNatClampNeg).k b = if b = M.n then 26 else if M.n < b ∧ b ≤ M.n + n.toNatClampNeg then 21 else M.k b := rfl
      by_cases e1 : b = M.n
      · subst e1
        refine ⟨by show M.n < M.n + (1 + n.toNatClampNeg); omega, ?_⟩
        rw [if_pos rfl] at hkk
        rw [cellE_q hkk (by decide) (by decide)]
        show F.heap[E.b + M.n]? = some (vp_cell _ _)
        rw [← hz, f2, vp_cell_q]
        have el : (mnM M n.toNatClampNeg k.toNatClampNeg).len M.n = n.toNatClampNeg := if_pos rfl
        rw [el]
        congr 2
        funext j
        have er : (mnM M n.toNatClampNeg k.toNatClampNeg).r M.n j = if j < n.toNatClampNeg then some (M.n + 1 + j) else none := if_pos rfl
        rw [er]
        by_cases hj : j < n.toNatClampNeg
        · rw [if_pos hj, if_pos hj, Option.map_some, hz]
          congr 2
          omega
        · rw [if_neg hj, if_neg hj]
          rfl
      · rw [if_neg e1] at hkk
        by_cases e2 : M.n < b ∧ b ≤ M.n + n.toNatClampNeg
        · refine ⟨by show b < M.n + (1 + n.toNatClampNeg); omega, ?_⟩
          rw [if_pos e2] at hkk
          rw [cellE_i hkk]
          show F.heap[E.b + b]? = some (vp_cell _ _)
          have h9 := hrow (b - M.n - 1) (by omega)
          rw [show H.size + 1 + (b - M.n - 1) = E.b + b by omega] at h9
          rw [h9]
          have el : (mnM M n.toNatClampNeg k.toNatClampNeg).len b = k.toNatClampNeg := by show (if b = M.n then _ else if _ then _ else _) = _; rw [if_neg e1, if_pos e2]
          have eg : (mnM M n.toNatClampNeg k.toNatClampNeg).g b = fun _ => 0 := funext fun i => by show (if M.n ≤ b ∧ b ≤ M.n + n.toNatClampNeg then (0 : Int32) else _) = 0; rw [if_pos ⟨by omega, e2.2⟩]
          rw [el, eg]
        · rw [if_neg e2] at hkk
          rw [hkk] at hb
          have h1 := hW.1.2 b hb
          refine ⟨by show b < M.n + (1 + n.toNatClampNeg); have := h1.1; omega, ?_⟩
          have el : (mnM M n.toNatClampNeg k.toNatClampNeg).len b = M.len b := by show (if b = M.n then _ else if _ then _ else _) = _; rw [if_neg e1, if_neg e2]
          have hlt := h1.1
          have eg : (mnM M n.toNatClampNeg k.toNatClampNeg).g b = M.g b := funext fun i => by show (if M.n ≤ b ∧ b ≤ M.n + n.toNatClampNeg then (0 : Int32) else _) = _; rw [if_neg (by omega)]
          have er : (mnM M n.toNatClampNeg k.toNatClampNeg).r b = M.r b := funext fun i => by show (if b = M.n then _ else _) = _; rw [if_neg e1]
          have ec : cellE E (mnM M n.toNatClampNeg k.toNatClampNeg) b = cellE E M b := by
            simp only [cellE, oVals, fV, hkk, el, eg, er]
            rfl
          rw [ec]
          exact h1.2.kept (hold _ (by have := h1.1; rw [hz]; show E.b + b < _; omega))
    obtain ⟨t, a1, b1⟩ := kk F.heap hWn F rfl X'
    refine ⟨t, step t ?_, b1⟩
    have e : T.heap.size = E.b + M.n := by rw [hT, hz]
    rw [e]
    exact a1
  · cases hr
end MK
