/-! texts; the list of small boxed ints -/
def alA (E : Ev) (o : Nat) : Nat := if o = 0 then E.x 0 else E.b + o
/-- the box of a small int -/
def bxA (E : Ev) (v : Int32) : Nat := E.x (1128 + v.toNatClampNeg)
def dln (M : Mm) (o : Nat) : Option Int32 := if o = 0 then some 0 else if M.k o = 27 then some (Int32.ofNat (M.len o)) else none
/-- a box is stored -/
def dsb (M : Mm) (o : Nat) (i v : Int32) : Option Mm := if o ≠ 0 ∧ M.k o = 27 ∧ inB i (M.len o) = true ∧ inB v 128 = true then some ((M.sg o i.toNatClampNeg v).sr o i.toNatClampNeg (some 0)) else none
def dsn (M : Mm) (o : Nat) (i : Int32) : Option Mm := if o ≠ 0 ∧ M.k o = 27 ∧ inB i (M.len o) = true then some (M.sr o i.toNatClampNeg none) else none
def dlb (M : Mm) (o : Nat) (i : Int32) : Option Int32 := if o ≠ 0 ∧ M.k o = 27 ∧ inB i (M.len o) = true ∧ (M.r o i.toNatClampNeg).isSome = true then some (M.g o i.toNatClampNeg) else none
/-- a box's int, once more -/
def ibx (v : Int32) : Option Int32 := if inB v 128 = true then some v else none
/-- Arrays.copyOf of a row of boxes to n places: the new row is the last cell -/
def dcp (M : Mm) (o : Nat) (n : Int32) : Option Mm := if o ≠ 0 ∧ M.k o = 27 ∧ 0 ≤ n.toInt ∧ n.toNatClampNeg ≤ 15 ∧ o < M.n then some (M.n + 1, va_up M.k M.n 27, va_up M.len M.n n.toNatClampNeg, va_up M.g M.n (fun i => if i < M.len o ∧ i < n.toNatClampNeg then M.g o i else 0), va_up M.l M.n (fun _ => 0), va_up M.r M.n (fun i => if i < M.len o ∧ i < n.toNatClampNeg then M.r o i else none)) else none
section LIST
variable {E : Ev} {p : Program} {l : Launch} {e : Env} {R : Room} {s : State} {m : MethodId} {args : Array Value} {below : List Frame} {meth : Method} {c : Code} {H : Heap} {locs : List Loc} {cells slots : Nat} {Q : State → Prop} {cc : ByteArray} {own : String} {nL : Nat} {M M1 : Mm} {pc : Nat} {ls : Array Slot} {rest : List Value} {idx : Nat}
theorem tq_lt {q : Nat} {u : Unit} (h : tq q = some u) : q < 22 := by
  unfold tq at h
  split at h
  · assumption
  · cases h
theorem Cx.S (C : Cx E p s m args meth c cc own nL) : vk_S 22 txl txb (fun i => E.x (100 + i)) (fun i => E.x (200 + i)) E.A s s.heap := C.T.2.2.2.2.2.2.1
theorem Cx.B (C : Cx E p s m args meth c cc own nL) : vb_C (fun k => E.x (1000 + k)) E.A s s.heap := C.T.2.2.2.2.2.2.2
theorem x_tval (C : Cx E p s m args meth c cc own nL) (hW : Wx E s H locs M) {q : Nat} (hq : q < 22) (hlk : Cond.fieldLink own idx "java/lang/String" "value" "[B" ∈ gT) (hdg : decode cc pc = .ok (.getfield idx, 3)) (kk : W p l e R s m args below meth c H locs cells slots Q (F0 m (pc + 3) ls (.ref (E.x (200 + q)) :: rest))) : W p l e R s m args below meth c H locs cells slots Q (F0 m pc ls (.ref (E.x (100 + q)) :: rest)) :=
  vk_getf C.x C.b (C.S.1 q hq).2.2.1 hW.2 C.ow (C.ts _ hlk) (fun _ h => h) hdg kk
theorem x_tcod (C : Cx E p s m args meth c cc own nL) (hW : Wx E s H locs M) {q : Nat} (hq : q < 22) (hlk : Cond.fieldLink own idx "java/lang/String" "coder" "B" ∈ gT) (hdg : decode cc pc = .ok (.getfield idx, 3)) (kk : W p l e R s m args below meth c H locs cells slots Q (F0 m (pc + 3) ls (.int 0 :: rest))) : W p l e R s m args below meth c H locs cells slots Q (F0 m pc ls (.ref (E.x (100 + q)) :: rest)) :=
  vk_getf C.x C.b (C.S.1 q hq).2.1 hW.2 C.ow (C.ts _ hlk) (fun _ h => h) hdg kk
theorem x_tlen (C : Cx E p s m args meth c cc own nL) (hW : Wx E s H locs M) {q : Nat} (hq : q < 22) (hdg : decode cc pc = .ok (.arraylength, 1)) (kk : W p l e R s m args below meth c H locs cells slots Q (F0 m (pc + 1) ls (.int (tln q) :: rest))) : W p l e R s m args below meth c H locs cells slots Q (F0 m pc ls (.ref (E.x (200 + q)) :: rest)) :=
  va_tlen C.x C.b (C.S.1 q hq).2.2.2 hW.2 rfl hdg kk
theorem x_tbal (C : Cx E p s m args meth c cc own nL) (hW : Wx E s H locs M) {q : Nat} {i v : Int32} (hr : tby q i = some v) (hdg : decode cc pc = .ok (.baload, 1)) (kk : W p l e R s m args below meth c H locs cells slots Q (F0 m (pc + 1) ls (.int v :: rest))) : W p l e R s m args below meth c H locs cells slots Q (F0 m pc ls (.int i :: .ref (E.x (200 + q)) :: rest)) := by
  unfold tby at hr
  split at hr
  · rename_i h
    cases hr
    exact va_tb C.x C.b (C.S.1 q h.1).2.2.2 hW.2 (inB_vp h.2) rfl hdg kk
  · cases hr
theorem x_getcs (C : Cx E p s m args meth c cc own nL) (hW : Wx E s H locs M) (hlk : Cond.fieldLink own idx "java/lang/String" "COMPACT_STRINGS" "Z" ∈ gT) (hdg : decode cc pc = .ok (.getstatic idx, 3)) (kk : W p l e R s m args below meth c H locs cells slots Q (F0 m (pc + 3) ls (.int 1 :: rest))) : W p l e R s m args below meth c H locs cells slots Q (F0 m pc ls rest) :=
  va_gets C.x C.b C.T.2.2.2.2.1 hW.2 C.ow (C.ts _ hlk) (fun _ h => h) hdg kk
theorem x_gethi (C : Cx E p s m args meth c cc own nL) (hW : Wx E s H locs M) (hlk : Cond.fieldLink own idx "java/lang/Integer$IntegerCache" "high" "I" ∈ gT) (hdg : decode cc pc = .ok (.getstatic idx, 3)) (kk : W p l e R s m args below meth c H locs cells slots Q (F0 m (pc + 3) ls (.int 127 :: rest))) : W p l e R s m args below meth c H locs cells slots Q (F0 m pc ls rest) :=
  va_gets C.x C.b C.T.2.2.1.1 hW.2 C.ow (C.ts _ hlk) (fun _ h => h) hdg kk
theorem x_getca (C : Cx E p s m args meth c cc own nL) (hW : Wx E s H locs M) (hlk : Cond.fieldLink own idx "java/lang/Integer$IntegerCache" "cache" "[Ljava/lang/Integer;" ∈ gT) (hdg : decode cc pc = .ok (.getstatic idx, 3)) (kk : W p l e R s m args below meth c H locs cells slots Q (F0 m (pc + 3) ls (.ref (E.x 5) :: rest))) : W p l e R s m args below meth c H locs cells slots Q (F0 m pc ls rest) :=
  va_gets C.x C.b C.T.2.2.1.2.1 hW.2 C.ow (C.ts _ hlk) (fun _ h => h) hdg kk
theorem x_getem (C : Cx E p s m args meth c cc own nL) (hW : Wx E s H locs M) (hlk : Cond.fieldLink own idx "java/util/ArrayList" "DEFAULTCAPACITY_EMPTY_ELEMENTDATA" "[Ljava/lang/Object;" ∈ gT) (hdg : decode cc pc = .ok (.getstatic idx, 3)) (kk : W p l e R s m args below meth c H locs cells slots Q (F0 m (pc + 3) ls (.ref (alA E 0) :: rest))) : W p l e R s m args below meth c H locs cells slots Q (F0 m pc ls rest) :=
  va_gets C.x C.b C.T.2.2.2.1.1 hW.2 C.ow (C.ts _ hlk) (fun _ h => h) hdg kk
theorem x_getfm (C : Cx E p s m args meth c cc own nL) (hW : Wx E s H locs M) (hlk : Cond.fieldLink own idx "jdk/internal/util/Preconditions" "SIOOBE_FORMATTER" "Ljava/util/function/BiFunction;" ∈ gT) (hdg : decode cc pc = .ok (.getstatic idx, 3)) (kk : ∀ r : Option Nat, W p l e R s m args below meth c H locs cells slots Q (F0 m (pc + 3) ls (va_rf r :: rest))) : W p l e R s m args below meth c H locs cells slots Q (F0 m pc ls rest) := by
  rcases C.T.2.2.2.2.2.1 with h | ⟨t, h⟩
  · exact va_gets C.x C.b h hW.2 C.ow (C.ts _ hlk) (fun _ h => h) hdg (kk none)
  · exact va_gets C.x C.b h hW.2 C.ow (C.ts _ hlk) (fun _ h => h) hdg (kk (some t))
/-- Integer.valueOf's aaload -/
theorem x_icld (C : Cx E p s m args meth c cc own nL) (hW : Wx E s H locs M) {v : Int32} (hv : inB v 128 = true) (hdg : decode cc pc = .ok (.aaload, 1)) (kk : W p l e R s m args below meth c H locs cells slots Q (F0 m (pc + 1) ls (.ref (bxA E v) :: rest))) : W p l e R s m args below meth c H locs cells slots Q (F0 m pc ls (.int (v + 128) :: .ref (E.x 5) :: rest)) := by
  simp only [inB, Bool.and_eq_true, decide_eq_true_eq] at hv
  have e1 : (v + 128).toInt = v.toInt + 128 := by
    rw [Int32.toInt_add, show (128 : Int32).toInt = 128 from rfl]
    have := hv.2
    rw [Int.bmod_eq_of_le] <;> omega
  have e2 : (v + 128).toNatClampNeg = v.toNatClampNeg + 128 := by
    show (v + 128).toInt.toNat = v.toInt.toNat + 128
    rw [e1]
    omega
  refine vb_tq C.x C.b C.T.2.2.1.2.2 hW.2 (i := v + 128) (vp_in_iff.mpr ⟨by omega, by rw [e1]; omega⟩) (v := .ref (bxA E v)) ?_ hdg kk
  show Value.ref (E.x (1000 + (v + 128).toNatClampNeg)) = .ref (E.x (1128 + v.toNatClampNeg))
  rw [e2]
  congr 2
  omega
theorem bx_at (C : Cx E p s m args meth c cc own nL) (hW : Wx E s H locs M) {v : Int32} (hv : inB v 128 = true) : ∃ cell : Cell, H[bxA E v]? = some cell ∧ cell.vm.isStatics = false ∧ s.vm.findClass "java/lang/Integer" = some cell.cls := by
  simp only [inB, Bool.and_eq_true, decide_eq_true_eq] at hv
  have h1 : v.toNatClampNeg + 128 < 256 := by show v.toInt.toNat + 128 < 256; omega
  obtain ⟨cell, h1, h2, h3, -⟩ := (C.B.1 (v.toNatClampNeg + 128) h1).kept hW.2.2.1
  refine ⟨cell, ?_, h2, h3⟩
  rw [show bxA E v = E.x (1000 + (v.toNatClampNeg + 128)) by unfold bxA; congr 1; omega]
  exact h1
theorem x_bxv (C : Cx E p s m args meth c cc own nL) (hW : Wx E s H locs M) {v : Int32} (hv : inB v 128 = true) (hlk : Cond.fieldLink own idx "java/lang/Integer" "value" "I" ∈ gT) (hdg : decode cc pc = .ok (.getfield idx, 3)) (kk : W p l e R s m args below meth c H locs cells slots Q (F0 m (pc + 3) ls (.int v :: rest))) : W p l e R s m args below meth c H locs cells slots Q (F0 m pc ls (.ref (bxA E v) :: rest)) := by
  have hv' := hv
  simp only [inB, Bool.and_eq_true, decide_eq_true_eq] at hv
  have h1 : v.toNatClampNeg + 128 < 256 := by show v.toInt.toNat + 128 < 256; omega
  have e0 : bxA E v = E.x (1000 + (v.toNatClampNeg + 128)) := by unfold bxA; congr 1; omega
  rw [e0]
  have ev : vb_c (v.toNatClampNeg + 128) = v := by
    apply Int32.toInt_inj.mp
    unfold vb_c
    have h2 : (Int32.ofNat (v.toNatClampNeg + 128)).toInt = (v.toNatClampNeg + 128 : Nat) := nI_toInt (n := v.toNatClampNeg + 128) (by omega)
    rw [Int32.toInt_sub, h2, show (128 : Int32).toInt = 128 from rfl]
    have h3 : (v.toNatClampNeg : Int) = v.toInt := by show ((v.toInt.toNat : Nat) : Int) = v.toInt; omega
    rw [Int.bmod_eq_of_le] <;> omega
  rw [← ev] at kk
  exact va_getX (i := v.toNatClampNeg + 128) (v := fun k => .int (vb_c k)) (ad := fun k => E.x (1000 + k)) C.x C.b C.B.2 h1 hW.2 C.ow (C.ts _ hlk) (fun _ h => h) hdg kk
theorem cellE_2 {E : Ev} {M : Mm} {a : Nat} (h : M.k a = 2) : cellE E M a = .inr (1, [.int (M.g a 0), alV E (M.r a 1), .int (M.g a 2)]) := by simp [cellE, h]
theorem x_lget (C : Cx E p s m args meth c cc own nL) (hW : Wx E s H locs M) {a j : Nat} {v : Value} {ref : String} (hk : M.k a = 2) (hj : j < 3) (hlk : Cond.fieldLink own idx ref (TJx4a65c j).2.1 (TJx4a65c j).2.2.1 ∈ gT) (hsm : ref = (TJx4a65c j).1 ∨ Cond.sameField ref (TJx4a65c j).1 (TJx4a65c j).2.1 (TJx4a65c j).2.2.1 ∈ gT) (hv : ([.int (M.g a 0), alV E (M.r a 1), .int (M.g a 2)] : List Value)[j]? = some v) (hdg : decode cc pc = .ok (.getfield idx, 3)) (kk : W p l e R s m args below meth c H locs cells slots Q (F0 m (pc + 3) ls (v :: rest))) : W p l e R s m args below meth c H locs cells slots Q (F0 m pc ls (.ref (E.b + a) :: rest)) := by
  have hP := x_one hW (a := a) (by rw [hk]; decide)
  rw [cellE_2 hk] at hP
  refine va_get (D := E.D) (ci := 1) (C := RJx4a65c) (T := TJx4a65c) (N := 3) C.x C.b C.ts gxJx4a65c C.ow C.K hP 0 rfl rfl j hj (C.ts _ hlk) ?_ hv hdg kk
  rcases hsm with rfl | h
  · exact fun _ h9 => h9
  · exact fun x9 h9 => u_same (C.ts _ h) x9 h9
theorem x_lgeti (C : Cx E p s m args meth c cc own nL) (hW : Wx E s H locs M) {a j : Nat} {v : Int32} {ref : String} (hr : rdI M a 2 j = some v) (hj : j = 0 ∨ j = 2) (hlk : Cond.fieldLink own idx ref (TJx4a65c j).2.1 (TJx4a65c j).2.2.1 ∈ gT) (hsm : ref = (TJx4a65c j).1 ∨ Cond.sameField ref (TJx4a65c j).1 (TJx4a65c j).2.1 (TJx4a65c j).2.2.1 ∈ gT) (hdg : decode cc pc = .ok (.getfield idx, 3)) (kk : W p l e R s m args below meth c H locs cells slots Q (F0 m (pc + 3) ls (.int v :: rest))) : W p l e R s m args below meth c H locs cells slots Q (F0 m pc ls (.ref (E.b + a) :: rest)) := by
  unfold rdI at hr
  split at hr
  · rename_i h
    cases hr
    exact x_lget C hW h (by omega) hlk hsm (by rcases hj with rfl | rfl <;> rfl) hdg kk
  · cases hr
theorem x_lgetd (C : Cx E p s m args meth c cc own nL) (hW : Wx E s H locs M) {a o : Nat} (hr : rdN M a 2 1 = some o) (hlk : Cond.fieldLink own idx "java/util/ArrayList" "elementData" "[Ljava/lang/Object;" ∈ gT) (hdg : decode cc pc = .ok (.getfield idx, 3)) (kk : W p l e R s m args below meth c H locs cells slots Q (F0 m (pc + 3) ls (.ref (alA E o) :: rest))) : W p l e R s m args below meth c H locs cells slots Q (F0 m pc ls (.ref (E.b + a) :: rest)) := by
  unfold rdN at hr
  split at hr
  · rename_i h
    exact x_lget C hW h (j := 1) (by decide) hlk (Or.inl rfl) (v := .ref (alA E o)) (by rw [hr]; rfl) hdg kk
  · cases hr
theorem x_lput (C : Cx E p s m args meth c cc own nL) (hW : Wx E s H locs M) {a j : Nat} {v : Value} {ty : FieldType} {ref : String} (hk : M.k a = 2) (hj : j < 3) (hlk : Cond.fieldLink own idx ref (TJx4a65c j).2.1 (TJx4a65c j).2.2.1 ∈ gT) (hsm : ref = (TJx4a65c j).1 ∨ Cond.sameField ref (TJx4a65c j).1 (TJx4a65c j).2.1 (TJx4a65c j).2.2.1 ∈ gT) (hd : parseFieldDescriptor (TJx4a65c j).2.2.1 = some ty) (hn : narrow ty v = v) (hfit : fits ty v = true) (hk1 : M1.k = M.k) (hn1 : M1.n = M.n) (hcell : ∀ b, b ≠ a → cellE E M1 b = cellE E M b) (hset : ([.int (M.g a 0), alV E (M.r a 1), .int (M.g a 2)] : List Value).set j v = [.int (M1.g a 0), alV E (M1.r a 1), .int (M1.g a 2)]) (hdg : decode cc pc = .ok (.putfield idx, 3))
    (kk : ∀ (H1 : Heap) (locs1 : List Loc), Wx E s H1 locs1 M1 → W p l e R s m args below meth c H1 locs1 cells slots Q (F0 m (pc + 3) ls rest)) : W p l e R s m args below meth c H locs cells slots Q (F0 m pc ls (v :: .ref (E.b + a) :: rest)) := by
  have hts := C.ts
  have hK := C.K
  have hap := va_apart (own := own) hts gxJx4a65c tyJx4a65c tyJx4a65c_ok nmJx4a65c hK (cl := vwCl) (ci := 1) rfl
  have hV := (hW.1.2 a (by rw [hk]; decide)).2
  rw [cellE_2 hk] at hV
  obtain ⟨r, h1, cell, q1, q2, q3, q4⟩ := hV
  have hr : r = (RJx4a65c, TJx4a65c, 3) := Option.some.inj (h1.symm.trans rfl)
  subst hr
  obtain ⟨hS, hfc, kC, hkC, hkind⟩ := hK.1 1 (RJx4a65c, TJx4a65c, 3) rfl
  obtain ⟨cf, kf, fi, f, hi, hsl⟩ := hS j hj
  have hst := (u_facts hfc hkC (u_lays hts gxJx4a65c hj) hi).1
  have hsame : s.fieldFound? ref (TJx4a65c j).2.1 (TJx4a65c j).2.2.1 = some (cf, kf, fi, f) := by
    rcases hsm with rfl | h
    · exact hi
    · exact u_same (hts _ h) _ hi
  have hfin : (TJx4a65c j).2.2.2 = false := by
    rcases (show j = 0 ∨ j = 1 ∨ j = 2 by omega) with rfl | rfl | rfl <;> rfl
  have hlay := hts _ (gxJx4a65c _ (u_in_lay hj))
  unfold u_lay at hlay
  rw [if_neg (by rw [hfin]; decide)] at hlay
  have h6 := u_store hfc hkC hkind hlay hi hd hn hfit
  refine W.putK C.x C.b (f := f) ⟨C.ow, hts _ hlk, ⟨_, _, _, hsame⟩, hst⟩ (by rw [q2]; exact h6) q1 q3 (by rw [hsl]; exact k2_hasslot (q4 j hj)) rfl rfl hdg fun H' e1 e2 e3 => ?_
  rw [hsl] at e1 ⊢
  refine kk H' _ ⟨Wd.step hW.1 hn1 hk1 hcell e2 e3 (fun _ => ?_), hW.2.put e2 e3 (Nat.le_add_right _ _)⟩
  rw [cellE_2 (by rw [hk1]; exact hk), ← hset]
  exact ⟨_, rfl, t_OB.to (V := updV (vp_V [.int (M.g a 0), alV E (M.r a 1), .int (M.g a 2)]) j v) ⟨_, e1, q2, q3, t_set q4 hap hj v⟩ (fun i _ => vp_updV_set (by show j < 3; omega) v i)⟩
theorem x_lputi (C : Cx E p s m args meth c cc own nL) (hW : Wx E s H locs M) {a j : Nat} {v : Int32} {ref : String} (hr : wrI M a 2 j v = some M1) (hj : j = 0 ∨ j = 2) (hlk : Cond.fieldLink own idx ref (TJx4a65c j).2.1 (TJx4a65c j).2.2.1 ∈ gT) (hsm : ref = (TJx4a65c j).1 ∨ Cond.sameField ref (TJx4a65c j).1 (TJx4a65c j).2.1 (TJx4a65c j).2.2.1 ∈ gT) (hdg : decode cc pc = .ok (.putfield idx, 3))
    (kk : ∀ (H1 : Heap) (locs1 : List Loc), Wx E s H1 locs1 M1 → W p l e R s m args below meth c H1 locs1 cells slots Q (F0 m (pc + 3) ls rest)) : W p l e R s m args below meth c H locs cells slots Q (F0 m pc ls (.int v :: .ref (E.b + a) :: rest)) := by
  unfold wrI at hr
  split at hr
  · rename_i h
    cases hr
    refine x_lput (M1 := M.sg a j v) (ty := .int) C hW h (by omega) hlk hsm (by rcases hj with rfl | rfl <;> decide +kernel) rfl rfl rfl rfl (fun b hb => cellE_g hb) ?_ hdg kk
    rcases hj with rfl | rfl <;> simp [Mm.sg, Mm.wg, Mm.g, Mm.r, up2]
  · cases hr
theorem x_lputd (C : Cx E p s m args meth c cc own nL) (hW : Wx E s H locs M) {a o : Nat} (hr : wrR M a 2 1 (some o) = some M1) (hlk : Cond.fieldLink own idx "java/util/ArrayList" "elementData" "[Ljava/lang/Object;" ∈ gT) (hdg : decode cc pc = .ok (.putfield idx, 3))
    (kk : ∀ (H1 : Heap) (locs1 : List Loc), Wx E s H1 locs1 M1 → W p l e R s m args below meth c H1 locs1 cells slots Q (F0 m (pc + 3) ls rest)) : W p l e R s m args below meth c H locs cells slots Q (F0 m pc ls (.ref (alA E o) :: .ref (E.b + a) :: rest)) := by
  unfold wrR at hr
  split at hr
  · rename_i h
    cases hr
    refine x_lput (M1 := M.sr a 1 (some o)) (ty := .array (.object "java/lang/Object")) C hW h (j := 1) (by decide) hlk (Or.inl rfl) (by decide +kernel) rfl rfl rfl rfl (fun b hb => cellE_r hb) ?_ hdg kk
    simp [Mm.sr, Mm.g, Mm.r, up2, alV, alA]
  · cases hr
theorem x_dln (C : Cx E p s m args meth c cc own nL) (hW : Wx E s H locs M) {o : Nat} {v : Int32} (hr : dln M o = some v) (hdg : decode cc pc = .ok (.arraylength, 1)) (kk : W p l e R s m args below meth c H locs cells slots Q (F0 m (pc + 1) ls (.int v :: rest))) : W p l e R s m args below meth c H locs cells slots Q (F0 m pc ls (.ref (alA E o) :: rest)) := by
  unfold dln at hr
  split at hr
  · rename_i h
    cases hr
    subst h
    exact va_tlen C.x C.b C.T.2.2.2.1.2 hW.2 rfl hdg kk
  · split at hr
    · rename_i h0 h
      cases hr
      rw [show alA E o = E.b + o from if_neg h0]
      have hP := x_one hW (a := o) (by rw [h]; decide)
      rw [cellE_b h] at hP
      exact va_alen C.x C.b C.K hP 0 6 rfl rfl rfl hdg kk
    · cases hr
/-- what a store into a row of boxes leaves -/
theorem d_fin (hW : Wx E s H locs M) {o : Nat} {i : Int32} {v : Value} (hk : M.k o = 27) (hk1 : M1.k = M.k) (hn1 : M1.n = M.n) (hl1 : M1.len o = M.len o) (hcell : ∀ b, b ≠ o → cellE E M1 b = cellE E M b) (hv : ∀ j, updV (fun j => va_rf ((M.r o j).map fun _ => E.x (1128 + (M.g o j).toNatClampNeg))) i.toNatClampNeg v j = va_rf ((M1.r o j).map fun _ => E.x (1128 + (M1.g o j).toNatClampNeg))) (H1 : Heap) (e1 : H1[E.b + o]? = some ((vp_cell (E.cy 27) (M.len o, .inr (.inr (.inr (.inr fun j => (M.r o j).map fun _ => E.x (1128 + (M.g o j).toNatClampNeg)))))).setSlot i.toNatClampNeg v)) (z : H1.size = H.size) (oq : ∀ q, q ≠ E.b + o → H1[q]? = H[q]?) : Wx E s H1 (locs ++ [⟨E.b + o, i.toNatClampNeg⟩]) M1 := by
  refine ⟨Wd.step hW.1 hn1 hk1 hcell z oq (fun _ => ?_), hW.2.put z oq (Nat.le_add_right _ _)⟩
  rw [cellE_b (show M1.k o = 27 by rw [hk1]; exact hk)]
  show H1[E.b + o]? = some (vp_cell _ _)
  rw [e1, vp_cell_q, vp_cell_q, arrV_store, hl1]
  congr 2
  funext j
  exact hv j
theorem x_dsb (C : Cx E p s m args meth c cc own nL) (hW : Wx E s H locs M) {o : Nat} {i v : Int32} (hr : dsb M o i v = some M1) (hca : Cond.castable "java/lang/Integer" "java/lang/Object" ∈ lw_tbl) (hdg : decode cc pc = .ok (.aastore, 1))
    (kk : ∀ (H1 : Heap) (locs1 : List Loc), Wx E s H1 locs1 M1 → W p l e R s m args below meth c H1 locs1 cells slots Q (F0 m (pc + 1) ls rest)) : W p l e R s m args below meth c H locs cells slots Q (F0 m pc ls (.ref (bxA E v) :: .int i :: .ref (alA E o) :: rest)) := by
  unfold dsb at hr
  split at hr
  · rename_i h
    cases hr
    rw [show alA E o = E.b + o from if_neg h.1]
    have hk := h.2.1
    have hin := inB_vp h.2.2.1
    have hlt : i.toNatClampNeg < M.len o := Nat.not_le.mp fun q => hin (Or.inr q)
    have h0 : ¬ i < 0 := fun q => hin (Or.inl q)
    have hP := x_one hW (a := o) (by rw [hk]; decide)
    rw [cellE_b hk] at hP
    obtain ⟨cellV, g1, g3, g2⟩ := bx_at C hW h.2.2.2
    obtain ⟨kA, comp, k1, k2, k3, -⟩ := (C.K.2 6 _ rfl).2
    obtain ⟨kE, hkE, -⟩ := Vm.findClass_spec k3
    obtain ⟨kC, hkC, -⟩ := Vm.findClass_spec g2
    refine W.aast C.x C.b (hP 0 _ rfl) (fun q h => by cases h) (fun h => by cases h) k1 k2 rfl hkE ⟨h0, by show _ < (arrV _ _ _).slots.size; rw [arrV_size]; exact hlt⟩ g1 (fun q h => by rw [h] at g3; cases g3) hkC (vb_asgC (C.nt hca rfl) _ _ k3 g2) rfl rfl hdg fun H1 e1 z oq => ?_
    refine kk H1 _ (d_fin (M1 := (M.sg o i.toNatClampNeg v).sr o i.toNatClampNeg (some 0)) hW hk rfl rfl rfl (fun b hb => (cellE_r hb).trans (cellE_g hb)) (fun j => ?_) H1 e1 z oq)
    by_cases hq : j = i.toNatClampNeg
    · subst hq
      simp [updV, Mm.sr, Mm.sg, Mm.wg, Mm.g, Mm.r, up2, va_rf, bxA]
    · simp [updV, Mm.sr, Mm.sg, Mm.wg, Mm.g, Mm.r, up2, hq]
  · cases hr
theorem x_dsn (C : Cx E p s m args meth c cc own nL) (hW : Wx E s H locs M) {o : Nat} {i : Int32} (hr : dsn M o i = some M1) (hdg : decode cc pc = .ok (.aastore, 1))
    (kk : ∀ (H1 : Heap) (locs1 : List Loc), Wx E s H1 locs1 M1 → W p l e R s m args below meth c H1 locs1 cells slots Q (F0 m (pc + 1) ls rest)) : W p l e R s m args below meth c H locs cells slots Q (F0 m pc ls (.null :: .int i :: .ref (alA E o) :: rest)) := by
  unfold dsn at hr
  split at hr
  · rename_i h
    cases hr
    rw [show alA E o = E.b + o from if_neg h.1]
    have hk := h.2.1
    have hin := inB_vp h.2.2
    have hP := x_one hW (a := o) (by rw [hk]; decide)
    rw [cellE_b hk] at hP
    refine va_WaastN (C := "java/lang/Object") C.x C.b (hP 0 _ rfl) ((C.K.2 6 _ rfl).1 (M.len o) _) (fun h => by cases h) (by show ¬ (i < 0 ∨ (arrV _ _ _).slots.size ≤ _); rw [arrV_size]; exact hin) rfl rfl hdg fun H1 e1 z oq => ?_
    refine kk H1 _ (d_fin (M1 := M.sr o i.toNatClampNeg none) hW hk rfl rfl rfl (fun b hb => cellE_r hb) (fun j => ?_) H1 e1 z oq)
    by_cases hq : j = i.toNatClampNeg
    · subst hq
      simp [updV, Mm.sr, Mm.g, Mm.r, up2, va_rf]
    · simp [updV, Mm.sr, Mm.g, Mm.r, up2, hq]
  · cases hr
theorem x_dlb (C : Cx E p s m args meth c cc own nL) (hW : Wx E s H locs M) {o : Nat} {i v : Int32} (hr : dlb M o i = some v) (hdg : decode cc pc = .ok (.aaload, 1)) (kk : W p l e R s m args below meth c H locs cells slots Q (F0 m (pc + 1) ls (.ref (bxA E v) :: rest))) : W p l e R s m args below meth c H locs cells slots Q (F0 m pc ls (.int i :: .ref (alA E o) :: rest)) := by
  unfold dlb at hr
  split at hr
  · rename_i h
    cases hr
    rw [show alA E o = E.b + o from if_neg h.1]
    have hk := h.2.1
    have hin := inB_vp h.2.2.1
    have hlt : i.toNatClampNeg < M.len o := Nat.not_le.mp fun q => hin (Or.inr q)
    have hP := x_one hW (a := o) (by rw [hk]; decide)
    rw [cellE_b hk] at hP
    refine W.aald (v := .ref (bxA E (M.g o i.toNatClampNeg))) (ty := .object "java/lang/Object") C.x C.b (hP 0 _ rfl) ((C.K.2 6 _ rfl).1 (M.len o) _) rfl (fun q => by cases q) (by show ¬ (i < 0 ∨ (arrV _ _ _).slots.size ≤ _); rw [arrV_size]; exact hin) ?_ rfl rfl hdg kk
    show (arrV _ _ _).slots[_]? = _
    rw [arrV_read _ _ hlt]
    obtain ⟨x, hx⟩ := Option.isSome_iff_exists.mp h.2.2.2
    show some (va_rf ((M.r o i.toNatClampNeg).map _)) = _
    rw [hx]
    rfl
  · cases hr
end LIST
