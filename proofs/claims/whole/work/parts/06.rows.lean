/-! ROWS over the world: fields, arrays, new cells. Each takes what the program asks of the world (rdI .., part 04) as its premise. -/
def FdG (own : String) (idx kd j : Nat) (t : Bool) : Prop := ∃ (C : String) (T : u_T) (N : Nat) (ref : String), vwCl[kd - 1]? = some (C, T, N) ∧ kd ≠ 0 ∧ kd ≠ 2 ∧ kd ≤ 20 ∧ (∀ w ∈ u_ws C T N, w ∈ gT) ∧ j < N ∧ Cond.fieldLink own idx ref (T j).2.1 (T j).2.2.1 ∈ gT ∧ (ref = (T j).1 ∨ Cond.sameField ref (T j).1 (T j).2.1 (T j).2.2.1 ∈ gT) ∧ (oSig kd)[j]? = some t
def FdP (own : String) (idx kd j : Nat) (t : Bool) (ty : FieldType) (fin : Bool) : Prop := ∃ (C : String) (T : u_T) (N : Nat) (ref : String) (ty0 : Nat → FieldType), vwCl[kd - 1]? = some (C, T, N) ∧ kd ≠ 0 ∧ kd ≠ 2 ∧ kd ≤ 20 ∧ (∀ w ∈ u_ws C T N, w ∈ gT) ∧ j < N ∧ Cond.fieldLink own idx ref (T j).2.1 (T j).2.2.1 ∈ gT ∧ (ref = (T j).1 ∨ Cond.sameField ref (T j).1 (T j).2.1 (T j).2.2.1 ∈ gT) ∧ (oSig kd)[j]? = some t ∧ (∀ k, k < N → parseFieldDescriptor (T k).2.2.1 = some (ty0 k)) ∧ (∀ a, a < N → ∀ b, b < N → a ≠ b → (T a).2.1 ≠ (T b).2.1) ∧ parseFieldDescriptor (T j).2.2.1 = some ty ∧ (T j).2.2.2 = fin ∧ (fin = true → (T j).1 = own)
section ROWS
variable {E : Ev} {p : Program} {l : Launch} {e : Env} {R : Room} {s : State} {m : MethodId} {args : Array Value} {below : List Frame} {meth : Method} {c : Code} {H : Heap} {locs : List Loc} {cells slots : Nat} {Q : State → Prop} {cc : ByteArray} {own : String} {nL : Nat} {M M1 : Mm} {pc : Nat} {ls : Array Slot} {rest : List Value}
theorem x_one (hW : Wx E s H locs M) {a : Nat} (hk : M.k a ≠ 0) : va_P E.D vwCl [(E.b + a, cellE E M a)] H := fun k q hq => by
  cases k with
  | zero => cases hq; exact (hW.1.2 a hk).2
  | succ k => simp at hq
theorem x_getv (C : Cx E p s m args meth c cc own nL) (hW : Wx E s H locs M) {a kd j idx : Nat} {t : Bool} (hF : FdG own idx kd j t) (hk : M.k a = kd) (hdg : decode cc pc = .ok (.getfield idx, 3)) (kk : W p l e R s m args below meth c H locs cells slots Q (F0 m (pc + 3) ls (fV E.b M a j t :: rest))) : W p l e R s m args below meth c H locs cells slots Q (F0 m pc ls (.ref (E.b + a) :: rest)) := by
  obtain ⟨Cn, T, N, ref, hc, h0, h2, h20, hin, hj, hlk, hsm, hsig⟩ := hF
  have hP := x_one hW (a := a) (by rw [hk]; exact h0)
  rw [cellE_o hk h2 h20] at hP
  refine va_get (D := E.D) (ci := kd - 1) C.x C.b C.ts hin C.ow C.K hP 0 rfl hc j hj (C.ts _ hlk) ?_ (oVals_at hsig) hdg kk
  rcases hsm with rfl | h
  · exact fun _ h9 => h9
  · exact fun x9 h9 => u_same (C.ts _ h) x9 h9
theorem x_geti (C : Cx E p s m args meth c cc own nL) (hW : Wx E s H locs M) {a kd j idx : Nat} {v : Int32} (hF : FdG own idx kd j false) (hr : rdI M a kd j = some v) (hdg : decode cc pc = .ok (.getfield idx, 3)) (kk : W p l e R s m args below meth c H locs cells slots Q (F0 m (pc + 3) ls (.int v :: rest))) : W p l e R s m args below meth c H locs cells slots Q (F0 m pc ls (.ref (E.b + a) :: rest)) := by
  unfold rdI at hr
  split at hr
  · rename_i h
    cases hr
    exact x_getv C hW hF h hdg kk
  · cases hr
theorem x_getn (C : Cx E p s m args meth c cc own nL) (hW : Wx E s H locs M) {a kd j idx o : Nat} (hF : FdG own idx kd j true) (hr : rdN M a kd j = some o) (hdg : decode cc pc = .ok (.getfield idx, 3)) (kk : W p l e R s m args below meth c H locs cells slots Q (F0 m (pc + 3) ls (.ref (E.b + o) :: rest))) : W p l e R s m args below meth c H locs cells slots Q (F0 m pc ls (.ref (E.b + a) :: rest)) := by
  unfold rdN at hr
  split at hr
  · rename_i h
    refine x_getv C hW hF h hdg ?_
    simp only [fV, hr, if_true]
    exact kk
  · cases hr
theorem x_getq (C : Cx E p s m args meth c cc own nL) (hW : Wx E s H locs M) {a kd j idx : Nat} {o : Option Nat} (hF : FdG own idx kd j true) (hr : rdQ M a kd j = some o) (hdg : decode cc pc = .ok (.getfield idx, 3)) (kk : W p l e R s m args below meth c H locs cells slots Q (F0 m (pc + 3) ls (rv E.b o :: rest))) : W p l e R s m args below meth c H locs cells slots Q (F0 m pc ls (.ref (E.b + a) :: rest)) := by
  unfold rdQ at hr
  split at hr
  · rename_i h
    cases hr
    exact x_getv C hW hF h hdg kk
  · cases hr
theorem x_putv (C : Cx E p s m args meth c cc own nL) (hW : Wx E s H locs M) {a kd j idx : Nat} {t fin : Bool} {ty : FieldType} {v : Value} (hF : FdP own idx kd j t ty fin) (hk : M.k a = kd) (hin2 : fin = true → meth.name = "<init>") (hn : narrow ty v = v) (hfit : fits ty v = true) (hk1 : M1.k = M.k) (hn1 : M1.n = M.n) (hcell : ∀ b, b ≠ a → cellE E M1 b = cellE E M b) (hset : (oVals E.b M a kd).set j v = oVals E.b M1 a kd) (hdg : decode cc pc = .ok (.putfield idx, 3))
    (kk : ∀ (H1 : Heap) (locs1 : List Loc), Wx E s H1 locs1 M1 → W p l e R s m args below meth c H1 locs1 cells slots Q (F0 m (pc + 3) ls rest)) : W p l e R s m args below meth c H locs cells slots Q (F0 m pc ls (v :: .ref (E.b + a) :: rest)) := by
  obtain ⟨Cn, T, N, ref, ty0, hc, h0, h2, h20, hin, hj, hlk, hsm, hsig, hty, hnm, hd, hfin, hdecl⟩ := hF
  have hts := C.ts
  have hK := C.K
  have hl : j < (oVals E.b M a kd).length := by rw [oVals_len]; exact (List.getElem?_eq_some_iff.mp hsig).1
  have hap := va_apart (own := own) hts hin ty0 hty hnm hK hc
  have hV := (hW.1.2 a (by rw [hk]; exact h0)).2
  rw [cellE_o hk h2 h20] at hV
  obtain ⟨r, h1, cell, q1, q2, q3, q4⟩ := hV
  have hr : r = (Cn, T, N) := Option.some.inj (h1.symm.trans hc)
  subst hr
  obtain ⟨hS, hfc, kC, hkC, hkind⟩ := hK.1 (kd - 1) _ hc
  obtain ⟨cf, kf, fi, f, hi, hsl⟩ := hS j hj
  have hst := (u_facts hfc hkC (u_lays hts hin hj) hi).1
  have hsame : s.fieldFound? ref (T j).2.1 (T j).2.2.1 = some (cf, kf, fi, f) := by
    rcases hsm with rfl | h
    · exact hi
    · exact u_same (hts _ h) _ hi
  have fin' : ∀ H' : Heap, H'[E.b + a]? = some (cell.setSlot (E.D.2 (kd - 1) j) v) → H'.size = H.size → (∀ q, q ≠ E.b + a → H'[q]? = H[q]?) → ∀ k : Nat, Wx E s H' (locs ++ [⟨E.b + a, k⟩]) M1 := fun H' e1 e2 e3 k => by
    refine ⟨Wd.step hW.1 hn1 hk1 hcell e2 e3 (fun _ => ?_), hW.2.put e2 e3 (Nat.le_add_right _ _)⟩
    rw [cellE_o (by rw [hk1]; exact hk) h2 h20, ← hset]
    exact ⟨_, hc, t_OB.to (V := updV (vp_V (oVals E.b M a kd)) j v) ⟨_, e1, q2, q3, t_set q4 hap hj v⟩ (fun i _ => vp_updV_set hl v i)⟩
  have hlay := hts _ (hin _ (u_in_lay hj))
  cases fin with
  | false =>
    unfold u_lay at hlay
    rw [if_neg (by rw [hfin]; decide)] at hlay
    have h6 := u_store hfc hkC hkind hlay hi hd hn hfit
    refine W.putK C.x C.b (f := f) ⟨C.ow, hts _ hlk, ⟨_, _, _, hsame⟩, hst⟩ (by rw [q2]; exact h6) q1 q3 (by rw [hsl]; exact k2_hasslot (q4 j hj)) rfl rfl hdg fun H' e1 e2 e3 => ?_
    rw [hsl] at e1 ⊢
    exact kk H' _ (fin' H' e1 e2 e3 _)
  | true =>
    unfold u_lay at hlay
    rw [if_pos hfin] at hlay
    have hcf : m.cls = cf := by
      obtain ⟨_, _, c', _, _, _, -, -, hf', -, -, -, hown2, -⟩ := Cond.laysFinal_spec hlay
      have e1 : c' = cf := by have := hi.symm.trans hf'; simp at this; exact this.1.symm
      rw [hdecl rfl] at hown2
      rw [← e1]; exact Option.some.inj (C.ow.symm.trans hown2)
    have h6 := u_fits hfc hkC hkind (Or.inr hlay) hi hd hn hfit
    refine W.putFinK C.x C.b C.ow (hts _ hlk) hsame hst hcf (hin2 rfl) (by rw [q2]; exact h6) q1 q3 (by rw [hsl]; exact k2_hasslot (q4 j hj)) rfl rfl hdg fun H' e1 e2 e3 => ?_
    rw [hsl] at e1 ⊢
    exact kk H' _ (fin' H' e1 e2 e3 _)
theorem x_puti (C : Cx E p s m args meth c cc own nL) (hW : Wx E s H locs M) {a kd j idx : Nat} {fin : Bool} {v : Int32} (hF : FdP own idx kd j false .int fin) (hr : wrI M a kd j v = some M1) (hin2 : fin = true → meth.name = "<init>") (hdg : decode cc pc = .ok (.putfield idx, 3))
    (kk : ∀ (H1 : Heap) (locs1 : List Loc), Wx E s H1 locs1 M1 → W p l e R s m args below meth c H1 locs1 cells slots Q (F0 m (pc + 3) ls rest)) : W p l e R s m args below meth c H locs cells slots Q (F0 m pc ls (.int v :: .ref (E.b + a) :: rest)) := by
  unfold wrI at hr
  split at hr
  · rename_i h
    cases hr
    have hs : (oSig kd)[j]? = some false := by obtain ⟨_, _, _, _, _, _, _, _, _, _, _, _, _, hsig, _⟩ := hF; exact hsig
    exact x_putv (M1 := M.sg a j v) (v := .int v) C hW hF h hin2 rfl rfl rfl rfl (fun b hb => cellE_g hb) (oVals_sg hs) hdg kk
  · cases hr
theorem x_putz (C : Cx E p s m args meth c cc own nL) (hW : Wx E s H locs M) {a kd j idx : Nat} {fin : Bool} {v : Int32} (hF : FdP own idx kd j false .boolean fin) (hr : wrZ M a kd j v = some M1) (hin2 : fin = true → meth.name = "<init>") (hdg : decode cc pc = .ok (.putfield idx, 3))
    (kk : ∀ (H1 : Heap) (locs1 : List Loc), Wx E s H1 locs1 M1 → W p l e R s m args below meth c H1 locs1 cells slots Q (F0 m (pc + 3) ls rest)) : W p l e R s m args below meth c H locs cells slots Q (F0 m pc ls (.int v :: .ref (E.b + a) :: rest)) := by
  unfold wrZ at hr
  split at hr
  · rename_i h
    cases hr
    have hs : (oSig kd)[j]? = some false := by obtain ⟨_, _, _, _, _, _, _, _, _, _, _, _, _, hsig, _⟩ := hF; exact hsig
    exact x_putv (M1 := M.sg a j v) (v := .int v) C hW hF h.1 hin2 (by rcases h.2 with rfl | rfl <;> rfl) (by rcases h.2 with rfl | rfl <;> rfl) rfl rfl (fun b hb => cellE_g hb) (oVals_sg hs) hdg kk
  · cases hr
theorem x_putr (C : Cx E p s m args meth c cc own nL) (hW : Wx E s H locs M) {a kd j idx : Nat} {fin : Bool} {ty : FieldType} {v : Option Nat} (hF : FdP own idx kd j true ty fin) (hr : wrR M a kd j v = some M1) (hin2 : fin = true → meth.name = "<init>") (hn : narrow ty (rv E.b v) = rv E.b v) (hfit : fits ty (rv E.b v) = true) (hdg : decode cc pc = .ok (.putfield idx, 3))
    (kk : ∀ (H1 : Heap) (locs1 : List Loc), Wx E s H1 locs1 M1 → W p l e R s m args below meth c H1 locs1 cells slots Q (F0 m (pc + 3) ls rest)) : W p l e R s m args below meth c H locs cells slots Q (F0 m pc ls (rv E.b v :: .ref (E.b + a) :: rest)) := by
  unfold wrR at hr
  split at hr
  · rename_i h
    cases hr
    have hs : (oSig kd)[j]? = some true := by obtain ⟨_, _, _, _, _, _, _, _, _, _, _, _, _, hsig, _⟩ := hF; exact hsig
    exact x_putv (M1 := M.sr a j v) (v := rv E.b v) C hW hF h hin2 hn hfit rfl rfl (fun b hb => cellE_r hb) (oVals_sr hs) hdg kk
  · cases hr
theorem cellE_i {E : Ev} {M : Mm} {a : Nat} (h : M.k a = 21) : cellE E M a = .inl (E.cy 21, M.len a, .inl (M.g a)) := by simp [cellE, h]
theorem cellE_j {E : Ev} {M : Mm} {a : Nat} (h : M.k a = 22) : cellE E M a = .inl (E.cy 22, M.len a, .inr (.inl (M.l a))) := by simp [cellE, h]
theorem cellE_q {E : Ev} {M : Mm} {a kd : Nat} (h : M.k a = kd) (h1 : 23 ≤ kd) (h2 : kd ≤ 26) : cellE E M a = .inl (E.cy kd, M.len a, .inr (.inr (.inr (.inr fun j => (M.r a j).map fun o => E.b + o)))) := by
  subst h
  simp only [cellE]
  rw [if_neg (by omega), if_neg (by omega), if_neg (by omega), if_neg (by omega), if_neg (by omega)]
theorem cellE_b {E : Ev} {M : Mm} {a : Nat} (h : M.k a = 27) : cellE E M a = .inl (E.cy 27, M.len a, .inr (.inr (.inr (.inr fun j => (M.r a j).map fun _ => E.x (1128 + (M.g a j).toNatClampNeg))))) := by simp [cellE, h]
theorem x_iald (C : Cx E p s m args meth c cc own nL) (hW : Wx E s H locs M) {a : Nat} {i v : Int32} (hr : alI M a i = some v) (hdg : decode cc pc = .ok (.iaload, 1)) (kk : W p l e R s m args below meth c H locs cells slots Q (F0 m (pc + 1) ls (.int v :: rest))) : W p l e R s m args below meth c H locs cells slots Q (F0 m pc ls (.int i :: .ref (E.b + a) :: rest)) := by
  unfold alI at hr
  split at hr
  · rename_i h
    cases hr
    have hP := x_one hW (a := a) (by rw [h.1]; decide)
    rw [cellE_i h.1] at hP
    exact va_iald C.x C.b C.K hP 0 0 rfl rfl (inB_vp h.2) hdg kk
  · cases hr
theorem x_lald (C : Cx E p s m args meth c cc own nL) (hW : Wx E s H locs M) {a : Nat} {i : Int32} {v : Int64} (hr : alL M a i = some v) (hdg : decode cc pc = .ok (.laload, 1)) (kk : W p l e R s m args below meth c H locs cells slots Q (F0 m (pc + 1) ls (.long v :: rest))) : W p l e R s m args below meth c H locs cells slots Q (F0 m pc ls (.int i :: .ref (E.b + a) :: rest)) := by
  unfold alL at hr
  split at hr
  · rename_i h
    cases hr
    have hP := x_one hW (a := a) (by rw [h.1]; decide)
    rw [cellE_j h.1] at hP
    exact va_lald C.x C.b C.K hP 0 1 rfl rfl (inB_vp h.2) hdg kk
  · cases hr
theorem x_iast (C : Cx E p s m args meth c cc own nL) (hW : Wx E s H locs M) {a : Nat} {i x : Int32} (hr : asI M a i x = some M1) (hdg : decode cc pc = .ok (.iastore, 1))
    (kk : ∀ (H1 : Heap) (locs1 : List Loc), Wx E s H1 locs1 M1 → W p l e R s m args below meth c H1 locs1 cells slots Q (F0 m (pc + 1) ls rest)) : W p l e R s m args below meth c H locs cells slots Q (F0 m pc ls (.int x :: .int i :: .ref (E.b + a) :: rest)) := by
  unfold asI at hr
  split at hr
  · rename_i h
    cases hr
    have hP := x_one hW (a := a) (by rw [h.1]; decide)
    rw [cellE_i h.1] at hP
    refine W.iast C.x C.b (hP 0 _ rfl) ((C.K.2 0 _ rfl).1 (M.len a) (fun j => .int (M.g a j))) (fun q => by cases q) (by show ¬ (i < 0 ∨ (arrV _ _ _).slots.size ≤ _); rw [arrV_size]; exact inB_vp h.2) rfl rfl hdg fun H1 e1 z oq => ?_
    refine kk H1 _ ⟨Wd.step hW.1 rfl rfl (fun b hb => cellE_g hb) z oq (fun _ => ?_), hW.2.put z oq (Nat.le_add_right _ _)⟩
    rw [cellE_i (show (M.sg a i.toNatClampNeg x).k a = 21 from h.1)]
    show H1[E.b + a]? = some (vp_cell _ _)
    rw [e1]
    show some ((vp_cell (E.cy 21) (M.len a, .inl (M.g a))).setSlot _ _) = some (vp_cell (E.cy 21) (M.len a, .inl ((M.sg a i.toNatClampNeg x).g a)))
    rw [vp_cell_i, vp_cell_i, arrV_store]
    congr 2
    funext q
    by_cases hq : q = i.toNatClampNeg
    · subst hq
      simp [updV, Mm.sg, Mm.wg, Mm.g, up2]
    · simp [updV, Mm.sg, Mm.wg, Mm.g, up2, hq]
  · cases hr
theorem x_last (C : Cx E p s m args meth c cc own nL) (hW : Wx E s H locs M) {a : Nat} {i : Int32} {x : Int64} (hr : asL M a i x = some M1) (hdg : decode cc pc = .ok (.lastore, 1))
    (kk : ∀ (H1 : Heap) (locs1 : List Loc), Wx E s H1 locs1 M1 → W p l e R s m args below meth c H1 locs1 cells slots Q (F0 m (pc + 1) ls rest)) : W p l e R s m args below meth c H locs cells slots Q (F0 m pc ls (.long x :: .int i :: .ref (E.b + a) :: rest)) := by
  unfold asL at hr
  split at hr
  · rename_i h
    cases hr
    have hP := x_one hW (a := a) (by rw [h.1]; decide)
    rw [cellE_j h.1] at hP
    refine W.last C.x C.b (hP 0 _ rfl) ((C.K.2 1 _ rfl).1 (M.len a) (fun j => .long (M.l a j))) (fun q => by cases q) (by show ¬ (i < 0 ∨ (arrV _ _ _).slots.size ≤ _); rw [arrV_size]; exact inB_vp h.2) rfl rfl hdg fun H1 e1 z oq => ?_
    refine kk H1 _ ⟨Wd.step hW.1 rfl rfl (fun b hb => cellE_l hb) z oq (fun _ => ?_), hW.2.put z oq (Nat.le_add_right _ _)⟩
    rw [cellE_j (show (M.sl a i.toNatClampNeg x).k a = 22 from h.1)]
    show H1[E.b + a]? = some (vp_cell _ _)
    rw [e1]
    show some ((vp_cell (E.cy 22) (M.len a, .inr (.inl (M.l a)))).setSlot _ _) = some (vp_cell (E.cy 22) (M.len a, .inr (.inl ((M.sl a i.toNatClampNeg x).l a))))
    rw [vp_cell_l, vp_cell_l, arrV_store]
    congr 2
    funext q
    by_cases hq : q = i.toNatClampNeg
    · subst hq
      simp [updV, Mm.sl, Mm.l, up2]
    · simp [updV, Mm.sl, Mm.l, up2, hq]
  · cases hr
theorem x_aldv (C : Cx E p s m args meth c cc own nL) (hW : Wx E s H locs M) {a kd : Nat} {i : Int32} (h1 : 23 ≤ kd) (h2 : kd ≤ 26) (hk : M.k a = kd) (hin : inB i (M.len a) = true) (hdg : decode cc pc = .ok (.aaload, 1)) (kk : W p l e R s m args below meth c H locs cells slots Q (F0 m (pc + 1) ls (rv E.b (M.r a i.toNatClampNeg) :: rest))) : W p l e R s m args below meth c H locs cells slots Q (F0 m pc ls (.int i :: .ref (E.b + a) :: rest)) := by
  have hP := x_one hW (a := a) (by rw [hk]; omega)
  rw [cellE_q hk h1 h2] at hP
  have hin2 := inB_vp hin
  have hlt : i.toNatClampNeg < M.len a := Nat.not_le.mp fun q => hin2 (Or.inr q)
  obtain ⟨t0, ht0⟩ : ∃ t0, (arTys E)[t0]? = some (E.cy kd, arTy kd) := by
    rcases (show kd = 23 ∨ kd = 24 ∨ kd = 25 ∨ kd = 26 by omega) with rfl | rfl | rfl | rfl
    · exact ⟨2, rfl⟩
    · exact ⟨3, rfl⟩
    · exact ⟨4, rfl⟩
    · exact ⟨5, rfl⟩
  refine W.aald (v := rv E.b (M.r a i.toNatClampNeg)) (ty := arTy kd) C.x C.b (hP 0 _ rfl) ((C.K.2 t0 _ ht0).1 (M.len a) (fun j => va_rf ((M.r a j).map fun o => E.b + o))) ?_ (fun q => by cases q) (by show ¬ (i < 0 ∨ (arrV _ _ _).slots.size ≤ _); rw [arrV_size]; exact hin2) (by show (arrV _ _ _).slots[_]? = _; rw [arrV_read _ _ hlt]; rfl) rfl rfl hdg kk
  rcases (show kd = 23 ∨ kd = 24 ∨ kd = 25 ∨ kd = 26 by omega) with rfl | rfl | rfl | rfl <;> rfl
theorem x_aldn (C : Cx E p s m args meth c cc own nL) (hW : Wx E s H locs M) {a kd o : Nat} {i : Int32} (h1 : 23 ≤ kd) (h2 : kd ≤ 26) (hr : alN M a kd i = some o) (hdg : decode cc pc = .ok (.aaload, 1)) (kk : W p l e R s m args below meth c H locs cells slots Q (F0 m (pc + 1) ls (.ref (E.b + o) :: rest))) : W p l e R s m args below meth c H locs cells slots Q (F0 m pc ls (.int i :: .ref (E.b + a) :: rest)) := by
  unfold alN at hr
  split at hr
  · rename_i h
    refine x_aldv C hW h1 h2 h.1 h.2 hdg ?_
    rw [hr]
    exact kk
  · cases hr
theorem x_aldq (C : Cx E p s m args meth c cc own nL) (hW : Wx E s H locs M) {a kd : Nat} {o : Option Nat} {i : Int32} (h1 : 23 ≤ kd) (h2 : kd ≤ 26) (hr : alQ M a kd i = some o) (hdg : decode cc pc = .ok (.aaload, 1)) (kk : W p l e R s m args below meth c H locs cells slots Q (F0 m (pc + 1) ls (rv E.b o :: rest))) : W p l e R s m args below meth c H locs cells slots Q (F0 m pc ls (.int i :: .ref (E.b + a) :: rest)) := by
  unfold alQ at hr
  split at hr
  · rename_i h
    cases hr
    exact x_aldv C hW h1 h2 h.1 h.2 hdg kk
  · cases hr
theorem x_alen (C : Cx E p s m args meth c cc own nL) (hW : Wx E s H locs M) {a : Nat} {v : Int32} (hr : alN_ M a = some v) (hdg : decode cc pc = .ok (.arraylength, 1)) (kk : W p l e R s m args below meth c H locs cells slots Q (F0 m (pc + 1) ls (.int v :: rest))) : W p l e R s m args below meth c H locs cells slots Q (F0 m pc ls (.ref (E.b + a) :: rest)) := by
  unfold alN_ at hr
  split at hr
  · rename_i h
    cases hr
    have hP := x_one hW (a := a) (by omega)
    rcases (show M.k a = 21 ∨ M.k a = 22 ∨ M.k a = 23 ∨ M.k a = 24 ∨ M.k a = 25 ∨ M.k a = 26 ∨ M.k a = 27 by omega) with hk | hk | hk | hk | hk | hk | hk
    · rw [cellE_i hk] at hP
      exact va_alen C.x C.b C.K hP 0 0 rfl rfl rfl hdg kk
    · rw [cellE_j hk] at hP
      exact va_alen C.x C.b C.K hP 0 1 rfl rfl rfl hdg kk
    · rw [cellE_q hk (by omega) (by omega)] at hP
      exact va_alen C.x C.b C.K hP 0 2 rfl rfl rfl hdg kk
    · rw [cellE_q hk (by omega) (by omega)] at hP
      exact va_alen C.x C.b C.K hP 0 3 rfl rfl rfl hdg kk
    · rw [cellE_q hk (by omega) (by omega)] at hP
      exact va_alen C.x C.b C.K hP 0 4 rfl rfl rfl hdg kk
    · rw [cellE_q hk (by omega) (by omega)] at hP
      exact va_alen C.x C.b C.K hP 0 5 rfl rfl rfl hdg kk
    · rw [cellE_b hk] at hP
      exact va_alen C.x C.b C.K hP 0 6 rfl rfl rfl hdg kk
  · cases hr
end ROWS
