section IV
/-! EVERY OPERATION FROM THE INVARIANT (written by wip/gen/ivgen.py) -/
def OpK (M : Mm) (f f' : Mm → Option (Int32 × Mm)) : Prop := ∃ r M1 M2, f M = some (r, M1) ∧ f' M1 = some (r, M2) ∧ M1.k 164 = 15 ∧ Inv M2
theorem Inv.k0 {M : Mm} (hi : Inv M) : M.k 0 = 14 := by
  obtain ⟨⟨A, h, -⟩, -⟩ := hi
  exact h.1.1
theorem Inv.k164 {M : Mm} (hi : Inv M) : M.k 164 = 15 := by
  obtain ⟨⟨A, -, h, -⟩, -⟩ := hi
  exact h.1.1
theorem Op.k {M : Mm} {f f' : Mm → Option (Int32 × Mm)} (hi : Inv M) (hk : KQ M (f M)) (q : Op M f f') : OpK M f f' := by
  obtain ⟨r, M1, M2, h1, h2, h3⟩ := q
  refine ⟨r, M1, M2, h1, h2, ?_, h3⟩
  rw [(hk r M1 h1).2 164 (by
    obtain ⟨⟨A, -, -, h, -⟩, -⟩ := hi
    omega)]
  exact hi.k164
theorem iv_good {M : Mm} (hi : Inv M) : OpP (fX11_good M 0) (fX12_good M 164) := by
  obtain ⟨A, h, hm, -, ha, g, c⟩ := hi.1
  have e := row_of ha
  have q := op_good h hm c g e
  exact q
theorem iv_lawOf {M : Mm} (hi : Inv M) (wx : Int32) : OpP (fX11_lawOf M 0 wx) (fX12_lawOf M 164 wx) := by
  obtain ⟨A, h, hm, -, ha, g, c⟩ := hi.1
  have e := row_of ha
  have q := op_lawOf h hm (by rw [← e]; exact c) g (x := wx.toInt) (i2_range wx).1 (i2_range wx).2
  rw [← e] at q
  simp only [i2_self] at q
  exact q
theorem iv_mate {M : Mm} (hi : Inv M) (wx : Int32) : OpP (fX11_mate M 0 wx) (fX12_mate M 164 wx) := by
  obtain ⟨A, h, hm, -, ha, g, c⟩ := hi.1
  have e := row_of ha
  have q := op_mate h hm (by rw [← e]; exact c) g (x := wx.toInt) (i2_range wx).1 (i2_range wx).2
  rw [← e] at q
  simp only [i2_self] at q
  exact q
theorem iv_minutes {M : Mm} (hi : Inv M) (wx : Int32) : OpP (fX11_minutes M 0 wx) (fX12_minutes M 164 wx) := by
  obtain ⟨A, h, hm, -, ha, g, c⟩ := hi.1
  have e := row_of ha
  have q := op_minutes h hm (by rw [← e]; exact c) g (x := wx.toInt) (i2_range wx).1 (i2_range wx).2
  rw [← e] at q
  simp only [i2_self] at q
  exact q
theorem iv_dabOf {M : Mm} (hi : Inv M) (wx wy : Int32) : OpP (fX11_dabOf M 0 wx wy) (fX12_dabOf M 164 wx wy) := by
  obtain ⟨A, h, hm, -, ha, g, c⟩ := hi.1
  have e := row_of ha
  have q := op_dabOf h hm (by rw [← e]; exact c) g (x := wx.toInt) (y := wy.toInt) (i2_range wx).1 (i2_range wx).2 (i2_range wy).1 (i2_range wy).2
  rw [← e] at q
  simp only [i2_self] at q
  exact q
theorem iv_seed {M : Mm} (hi : Inv M) (wv : Int32) : OpK M (fun M => fX11_seed M 0 wv) (fun M => fX12_seed M 164 wv) := by
  obtain ⟨A, h, hm, -, ha, g, c⟩ := hi.1
  have q := op_seed h hm c g ha (v := wv.toInt) (i2_range wv).1 (i2_range wv).2
  simp only [i2_self] at q
  exact Op.k hi (k_X11_seed (Kp.rf M)) (OpR.op (A := A) hi q)
theorem iv_turn {M : Mm} (hi : Inv M) (wx wy : Int32) : OpK M (fun M => fX11_turn M 0 wx wy) (fun M => fX12_turn M 164 wx wy) := by
  obtain ⟨A, h, hm, -, ha, g, c⟩ := hi.1
  have q := op_turn h hm c g ha (x := wx.toInt) (y := wy.toInt) (i2_range wx).1 (i2_range wx).2 (i2_range wy).1 (i2_range wy).2
  simp only [i2_self] at q
  exact Op.k hi (k_X11_turn (Kp.rf M)) (OpR.op (A := A) hi q)
theorem iv_snag {M : Mm} (hi : Inv M) (wx wy : Int32) : OpK M (fun M => fX11_snag M 0 wx wy) (fun M => fX12_snag M 164 wx wy) := by
  obtain ⟨A, h, hm, -, ha, g, c⟩ := hi.1
  have q := op_snag h hm c g ha (x := wx.toInt) (y := wy.toInt) (i2_range wx).1 (i2_range wx).2 (i2_range wy).1 (i2_range wy).2
  simp only [i2_self] at q
  exact Op.k hi (k_X11_snag (Kp.rf M)) (OpR.op (A := A) hi q)
theorem iv_wash {M : Mm} (hi : Inv M) (wx : Int32) : OpK M (fun M => fX11_wash M 0 wx) (fun M => fX12_wash M 164 wx) := by
  obtain ⟨A, h, hm, -, ha, g, c⟩ := hi.1
  have q := op_wash h hm c g ha (x := wx.toInt) (i2_range wx).1 (i2_range wx).2
  simp only [i2_self] at q
  exact Op.k hi (k_X11_wash (Kp.rf M)) (OpR.op (A := A) hi q)
theorem iv_dab {M : Mm} (hi : Inv M) (wx wy : Int32) : OpK M (fun M => fX11_dab M 0 wx wy) (fun M => fX12_dab M 164 wx wy) := by
  obtain ⟨A, h, hm, -, ha, g, c⟩ := hi.1
  have q := op_dab h hm c g ha (x := wx.toInt) (y := wy.toInt) (i2_range wx).1 (i2_range wx).2 (i2_range wy).1 (i2_range wy).2
  simp only [i2_self] at q
  exact Op.k hi (k_X11_dab (Kp.rf M)) (OpR.op (A := A) hi q)
theorem iv_mind {M : Mm} (hi : Inv M) (wx wy wz : Int32) : OpK M (fun M => fX11_mind M 0 wx wy wz) (fun M => fX12_mind M 164 wx wy wz) := by
  obtain ⟨A, h, hm, -, ha, g, c⟩ := hi.1
  have q := op_mind h hm c g ha (x := wx.toInt) (y := wy.toInt) (z := wz.toInt) (i2_range wx).1 (i2_range wx).2 (i2_range wy).1 (i2_range wy).2 (i2_range wz).1 (i2_range wz).2
  simp only [i2_self] at q
  exact Op.k hi (k_X11_mind (Kp.rf M)) (OpR.op (A := A) hi q)
theorem iv_mend {M : Mm} (hi : Inv M) (wx : Int32) : OpK M (fun M => fX11_mend M 0 wx) (fun M => fX12_mend M 164 wx) := by
  obtain ⟨A, h, hm, -, ha, g, c⟩ := hi.1
  have q := op_mend h hm c g ha (x := wx.toInt) (i2_range wx).1 (i2_range wx).2
  simp only [i2_self] at q
  exact Op.k hi (k_X11_mend (Kp.rf M)) (OpR.op (A := A) hi q)
theorem iv_of {M : Mm} (hi : Inv M) (wx wy : Int32) : OpP (fX11_of M 0 wx wy) (fX12_of M 164 wx wy) := by
  obtain ⟨A, h, hm, -, ha, g, c⟩ := hi.1
  have q := op_of h hm c g ha (x := wx.toInt) (y := wy.toInt) (i2_range wx).1 (i2_range wx).2 (i2_range wy).1 (i2_range wy).2
  simp only [i2_self] at q
  exact q
theorem iv_set {M : Mm} (hi : Inv M) (wx wy : Int32) : OpK M (fun M => fX11_set M 0 wx wy) (fun M => fX12_set M 164 wx wy) := by
  obtain ⟨A, h, hm, -, ha, g, c⟩ := hi.1
  have q := op_set h hm c g ha (x := wx.toInt) (y := wy.toInt) (i2_range wx).1 (i2_range wx).2 (i2_range wy).1 (i2_range wy).2
  simp only [i2_self] at q
  exact Op.k hi (k_X11_set (Kp.rf M)) (OpR.op (A := A) hi q)
theorem iv_clear {M : Mm} (hi : Inv M) (wx : Int32) : OpK M (fun M => fX11_clear M 0 wx) (fun M => fX12_clear M 164 wx) := by
  obtain ⟨A, h, hm, -, ha, g, c⟩ := hi.1
  have q := op_clear h hm c g ha (x := wx.toInt) (i2_range wx).1 (i2_range wx).2
  simp only [i2_self] at q
  exact Op.k hi (k_X11_clear (Kp.rf M)) (OpR.op (A := A) hi q)
theorem iv_leg {M : Mm} (hi : Inv M) (wx wy wz : Int32) : OpK M (fun M => fX11_leg M 0 wx wy wz) (fun M => fX12_leg M 164 wx wy wz) := by
  obtain ⟨A, h, hm, -, ha, g, c⟩ := hi.1
  have q := op_leg h hm c g ha (x := wx.toInt) (y := wy.toInt) (z := wz.toInt) (i2_range wx).1 (i2_range wx).2 (i2_range wy).1 (i2_range wy).2 (i2_range wz).1 (i2_range wz).2
  simp only [i2_self] at q
  exact Op.k hi (k_X11_leg (Kp.rf M)) (OpR.op (A := A) hi q)
theorem iv_legOf {M : Mm} (hi : Inv M) (wx wy wz : Int32) : OpP (fX11_legOf M 0 wx wy wz) (fX12_legOf M 164 wx wy wz) := by
  obtain ⟨A, h, hm, -, ha, g, c⟩ := hi.1
  have q := op_legOf h hm c g ha (x := wx.toInt) (y := wy.toInt) (z := wz.toInt) (i2_range wx).1 (i2_range wx).2 (i2_range wy).1 (i2_range wy).2 (i2_range wz).1 (i2_range wz).2
  simp only [i2_self] at q
  exact q
theorem iv_stocking {M : Mm} (hi : Inv M) (wx wy wz wu : Int32) : OpK M (fun M => fX11_stocking M 0 wx wy wz wu) (fun M => fX12_stocking M 164 wx wy wz wu) := by
  obtain ⟨A, h, hm, -, ha, g, c⟩ := hi.1
  have q := op_stocking h hm c g ha (x := wx.toInt) (y := wy.toInt) (z := wz.toInt) (u := wu.toInt) (i2_range wx).1 (i2_range wx).2 (i2_range wy).1 (i2_range wy).2 (i2_range wz).1 (i2_range wz).2 (i2_range wu).1 (i2_range wu).2
  simp only [i2_self] at q
  exact Op.k hi (k_X11_stocking (Kp.rf M)) (OpR.op (A := A) hi q)
theorem iv_wear {M : Mm} (hi : Inv M) (wx wy : Int32) : OpK M (fun M => fX11_wear M 0 wx wy) (fun M => fX12_wear M 164 wx wy) := by
  obtain ⟨A, h, hm, -, ha, g, c⟩ := hi.1
  have q := op_wear h hm c g ha (x := wx.toInt) (y := wy.toInt) (i2_range wx).1 (i2_range wx).2 (i2_range wy).1 (i2_range wy).2
  simp only [i2_self] at q
  exact Op.k hi (k_X11_wear (Kp.rf M)) (OpR.op (A := A) hi q)
theorem iv_move {M : Mm} (hi : Inv M) (wx : Int32) : OpK M (fun M => fX11_move M 0 wx) (fun M => fX12_move M 164 wx) := by
  obtain ⟨A, h, hm, -, ha, g, c⟩ := hi.1
  have q := op_move h hm c g ha (x := wx.toInt) (i2_range wx).1 (i2_range wx).2
  simp only [i2_self] at q
  exact Op.k hi (k_X11_move (Kp.rf M)) (OpR.op (A := A) hi q)
theorem iv_go {M : Mm} (hi : Inv M) (wx : Int32) : OpK M (fun M => fX11_go M 0 wx) (fun M => fX12_go M 164 wx) := by
  obtain ⟨A, h, hm, -, ha, g, c⟩ := hi.1
  have q := op_go h hm c g ha (x := wx.toInt) (i2_range wx).1 (i2_range wx).2
  simp only [i2_self] at q
  exact Op.k hi (k_X11_go (Kp.rf M)) (OpR.op (A := A) hi q)
theorem iv_open {M : Mm} (hi : Inv M) (wx wy wz : Int32) : OpK M (fun M => fX11_open M 0 wx wy wz) (fun M => fX12_open M 164 wx wy wz) := by
  obtain ⟨A, h, hm, -, ha, g, c⟩ := hi.1
  have q := op_open h hm c g ha (x := wx.toInt) (y := wy.toInt) (z := wz.toInt) (i2_range wx).1 (i2_range wx).2 (i2_range wy).1 (i2_range wy).2 (i2_range wz).1 (i2_range wz).2 hi
  simp only [i2_self] at q
  exact Op.k hi (k_X11_open (Kp.rf M)) (q)
theorem iv_seen {M : Mm} (hi : Inv M) (wx wy wz : Int32) : OpK M (fun M => fX11_seen M 0 wx wy wz) (fun M => fX12_seen M 164 wx wy wz) := by
  obtain ⟨A, h, hm, -, ha, g, c⟩ := hi.1
  have q := op_seen h hm c g ha (x := wx.toInt) (y := wy.toInt) (z := wz.toInt) (i2_range wx).1 (i2_range wx).2 (i2_range wy).1 (i2_range wy).2 (i2_range wz).1 (i2_range wz).2 hi
  simp only [i2_self] at q
  exact Op.k hi (k_X11_seen (Kp.rf M)) (q)
theorem iv_better {M : Mm} (hi : Inv M) : OpK M (fun M => fX11_better M 0) (fun M => fX12_better M 164) := by
  obtain ⟨A, h, hm, -, ha, g, c⟩ := hi.1
  have q := op_better h hm c g ha hi
  exact Op.k hi (k_X11_better (Kp.rf M)) (q)
theorem iv_turned {M : Mm} (hi : Inv M) (wx wy wz : Int32) : OpK M (fun M => fX11_turned M 0 wx wy wz) (fun M => fX12_turned M 164 wx wy wz) := by
  obtain ⟨A, h, hm, -, ha, g, c⟩ := hi.1
  have q := op_turned h hm c g ha (x := wx.toInt) (y := wy.toInt) (z := wz.toInt) (i2_range wx).1 (i2_range wx).2 (i2_range wy).1 (i2_range wy).2 (i2_range wz).1 (i2_range wz).2 hi
  simp only [i2_self] at q
  exact Op.k hi (k_X11_turned (Kp.rf M)) (q)
theorem iv_when {M : Mm} (hi : Inv M) (wx wy wz : Int32) : OpK M (fun M => fX11_when M 0 wx wy wz) (fun M => fX12_when M 164 wx wy wz) := by
  obtain ⟨A, h, hm, -, ha, g, c⟩ := hi.1
  have q := op_when h hm c g ha (x := wx.toInt) (y := wy.toInt) (z := wz.toInt) (i2_range wx).1 (i2_range wx).2 (i2_range wy).1 (i2_range wy).2 (i2_range wz).1 (i2_range wz).2 hi
  simp only [i2_self] at q
  exact Op.k hi (k_X11_when (Kp.rf M)) (q)
theorem iv_dabbed {M : Mm} (hi : Inv M) (wx wy wz : Int32) : OpK M (fun M => fX11_dabbed M 0 wx wy wz) (fun M => fX12_dabbed M 164 wx wy wz) := by
  obtain ⟨A, h, hm, -, ha, g, c⟩ := hi.1
  have q := op_dabbed h hm c g ha (x := wx.toInt) (y := wy.toInt) (z := wz.toInt) (i2_range wx).1 (i2_range wx).2 (i2_range wy).1 (i2_range wy).2 (i2_range wz).1 (i2_range wz).2 hi
  simp only [i2_self] at q
  exact Op.k hi (k_X11_dabbed (Kp.rf M)) (q)
theorem iv_bestLeg {M : Mm} (hi : Inv M) (wx wy wz : Int32) : OpK M (fun M => fX11_bestLeg M 0 wx wy wz) (fun M => fX12_bestLeg M 164 wx wy wz) := by
  obtain ⟨A, h, hm, -, ha, g, c⟩ := hi.1
  have q := op_bestLeg h hm c g ha (x := wx.toInt) (y := wy.toInt) (z := wz.toInt) (i2_range wx).1 (i2_range wx).2 (i2_range wy).1 (i2_range wy).2 (i2_range wz).1 (i2_range wz).2 hi
  simp only [i2_self] at q
  exact Op.k hi (k_X11_bestLeg (Kp.rf M)) (q)
theorem iv_prove {M : Mm} (hi : Inv M) (wx wy : Int32) : OpK M (fun M => fX11_prove M 0 wx wy) (fun M => fX12_prove M 164 wx wy) := by
  obtain ⟨A, h, hm, -, ha, g, c⟩ := hi.1
  have q := op_prove h hm c g ha (x := wx.toInt) (y := wy.toInt) (i2_range wx).1 (i2_range wx).2 (i2_range wy).1 (i2_range wy).2 hi
  simp only [i2_self] at q
  exact Op.k hi (k_X11_prove (Kp.rf M)) (q)
theorem iv_judge {M : Mm} (hi : Inv M) (wx wy : Int32) : OpK M (fun M => fX11_judge M 0 wx wy) (fun M => fX12_judge M 164 wx wy) := by
  obtain ⟨A, h, hm, -, ha, g, c⟩ := hi.1
  have q := op_judge h hm c g ha (x := wx.toInt) (y := wy.toInt) (i2_range wx).1 (i2_range wx).2 (i2_range wy).1 (i2_range wy).2 hi
  simp only [i2_self] at q
  exact Op.k hi (k_X11_judge (Kp.rf M)) (q)
theorem iv_since {M : Mm} (hi : Inv M) (wx wy wz : Int32) : OpK M (fun M => fX11_since M 0 wx wy wz) (fun M => fX12_since M 164 wx wy wz) := by
  obtain ⟨A, h, hm, -, ha, g, c⟩ := hi.1
  have q := op_since h hm c g ha (x := wx.toInt) (y := wy.toInt) (z := wz.toInt) (i2_range wx).1 (i2_range wx).2 (i2_range wy).1 (i2_range wy).2 (i2_range wz).1 (i2_range wz).2 hi
  simp only [i2_self] at q
  exact Op.k hi (k_X11_since (Kp.rf M)) (q)
theorem iv_from {M : Mm} (hi : Inv M) (wx wy wz : Int32) : OpK M (fun M => fX11_from M 0 wx wy wz) (fun M => fX12_from M 164 wx wy wz) := by
  obtain ⟨A, h, hm, -, ha, g, c⟩ := hi.1
  have q := op_from h hm c g ha (x := wx.toInt) (y := wy.toInt) (z := wz.toInt) (i2_range wx).1 (i2_range wx).2 (i2_range wy).1 (i2_range wy).2 (i2_range wz).1 (i2_range wz).2 hi
  simp only [i2_self] at q
  exact Op.k hi (k_X11_from (Kp.rf M)) (q)
theorem iv_worth {M : Mm} (hi : Inv M) (wx : Int32) : OpP (fX11_worth M 0 wx) (fX12_worth M 164 wx) := by
  obtain ⟨A, h, hm, -, ha, g, c⟩ := hi.1
  have q := op_worth h hm c g ha (x := wx.toInt) (i2_range wx).1 (i2_range wx).2
  simp only [i2_self] at q
  exact q
theorem iv_costs {M : Mm} (hi : Inv M) (wx wy wz : Int32) : OpL (fX11_costs M 0 wx wy wz) (fX12_costs M 164 wx wy wz) := by
  obtain ⟨A, h, hm, -, ha, g, c⟩ := hi.1
  have q := op_costs h hm c g ha (x := wx.toInt) (y := wy.toInt) (z := wz.toInt) (i2_range wx).1 (i2_range wx).2 (i2_range wy).1 (i2_range wy).2 (i2_range wz).1 (i2_range wz).2
  simp only [i2_self] at q
  exact q
theorem iv_pairs {M : Mm} (hi : Inv M) : OpP (fX11_pairs M 0) (fX12_pairs M 164) := by
  obtain ⟨A, h, hm, -, ha, g, c⟩ := hi.1
  have q := op_pairs h hm c g ha
  exact q
theorem iv_day {M : Mm} (hi : Inv M) : OpK M (fun M => fX11_day M 0) (fun M => fX12_day M 164) := by
  obtain ⟨A, h, hm, -, ha, g, c⟩ := hi.1
  have q := op_day h hm c g ha
  exact Op.k hi (k_X11_day (Kp.rf M)) (OpR.op (A := A) hi q)
theorem iv_month {M : Mm} (hi : Inv M) (wx : Int32) : OpK M (fun M => fX11_month M 0 wx) (fun M => fX12_month M 164 wx) := by
  obtain ⟨A, h, hm, -, ha, g, c⟩ := hi.1
  have q := op_month h hm c g ha (x := wx.toInt) (i2_range wx).1 (i2_range wx).2 hi
  simp only [i2_self] at q
  exact Op.k hi (k_X11_month (Kp.rf M)) (q)
theorem iv_many {M : Mm} (hi : Inv M) (wx : Int32) : OpP (fX11_many M 0 wx) (fX12_many M 164 wx) := by
  obtain ⟨A, h, hm, -, ha, g, c⟩ := hi.1
  have q := op_many h hm c g ha (x := wx.toInt) (i2_range wx).1 (i2_range wx).2 hi
  simp only [i2_self] at q
  exact q
theorem iv_row {M : Mm} (hi : Inv M) (wx wy : Int32) : OpP (fX11_row M 0 wx wy) (fX12_row M 164 wx wy) := by
  obtain ⟨A, h, hm, -, ha, g, c⟩ := hi.1
  have q := op_row h hm c g ha (x := wx.toInt) (y := wy.toInt) (i2_range wx).1 (i2_range wx).2 (i2_range wy).1 (i2_range wy).2 hi
  simp only [i2_self] at q
  exact q
theorem iv_alterRow {M : Mm} (hi : Inv M) (wx wy wz : Int32) : OpK M (fun M => fX11_alterRow M 0 wx wy wz) (fun M => fX12_alterRow M 164 wx wy wz) := by
  obtain ⟨A, h, hm, -, ha, g, c⟩ := hi.1
  have q := op_alterRow h hm c g ha (x := wx.toInt) (y := wy.toInt) (z := wz.toInt) (i2_range wx).1 (i2_range wx).2 (i2_range wy).1 (i2_range wy).2 (i2_range wz).1 (i2_range wz).2 hi
  simp only [i2_self] at q
  exact Op.k hi (k_X11_alterRow (Kp.rf M)) (q)
theorem iv_again {M : Mm} (hi : Inv M) : OpK M (fun M => fX11_again M 0) (fun M => fX12_again M 164) := by
  obtain ⟨A, h, hm, -, ha, g, c⟩ := hi.1
  have q := op_again h hm c g ha hi
  exact Op.k hi (k_X11_again (Kp.rf M)) (q)
theorem iv_keep {M : Mm} (hi : Inv M) : OpK M (fun M => fX11_keep M 0) (fun M => fX12_keep M 164) := by
  obtain ⟨A, h, hm, -, ha, g, c⟩ := hi.1
  have q := op_keep h hm c g ha hi
  exact Op.k hi (k_X11_keep (Kp.rf M)) (q)
theorem iv_feed {M : Mm} (hi : Inv M) (wv : Int64) (wy : Int32) : OpK M (fun M => fX11_feed M 0 wv wy) (fun M => fX12_feed M 164 wv wy) := by
  obtain ⟨A, h, hm, -, ha, g, c⟩ := hi.1
  have q := op_feed h hm c g ha (v := wv) (y := wy.toInt) (i2_range wy).1 (i2_range wy).2 hi
  simp only [i2_self] at q
  exact Op.k hi (k_X11_feed (Kp.rf M)) (q)
theorem iv_item {M : Mm} (hi : Inv M) (wx wy wz : Int32) : OpP (fX11_item M 0 wx wy wz) (fX12_item_ M 164 wx wy wz) := by
  obtain ⟨A, h, hm, -, ha, g, c⟩ := hi.1
  have q := op_item h hm c g ha (x := wx.toInt) (y := wy.toInt) (z := wz.toInt) (i2_range wx).1 (i2_range wx).2 (i2_range wy).1 (i2_range wy).2 (i2_range wz).1 (i2_range wz).2 hi
  simp only [i2_self] at q
  exact q
theorem iv_put {M : Mm} (hi : Inv M) (wx wy wz : Int32) : OpK M (fun M => fX11_put M 0 wx wy wz) (fun M => fX12_put M 164 wx wy wz) := by
  obtain ⟨A, h, hm, -, ha, g, c⟩ := hi.1
  have q := op_put h hm c g ha (x := wx.toInt) (y := wy.toInt) (z := wz.toInt) (i2_range wx).1 (i2_range wx).2 (i2_range wy).1 (i2_range wy).2 (i2_range wz).1 (i2_range wz).2 hi
  simp only [i2_self] at q
  exact Op.k hi (k_X11_put (Kp.rf M)) (q)
theorem iv_shelf {M : Mm} (hi : Inv M) (wx wy wz : Int32) : OpK M (fun M => fX11_shelf M 0 wx wy wz) (fun M => fX12_shelf M 164 wx wy wz) := by
  obtain ⟨A, h, hm, -, ha, g, c⟩ := hi.1
  have q := op_shelf h hm c g ha (x := wx.toInt) (y := wy.toInt) (z := wz.toInt) (i2_range wx).1 (i2_range wx).2 (i2_range wy).1 (i2_range wy).2 (i2_range wz).1 (i2_range wz).2 hi
  simp only [i2_self] at q
  exact Op.k hi (k_X11_shelf (Kp.rf M)) (q)
theorem iv_taken {M : Mm} (hi : Inv M) (wx wy : Int32) : OpP (fX11_taken M 0 wx wy) (fX12_taken M 164 wx wy) := by
  obtain ⟨A, h, hm, -, ha, g, c⟩ := hi.1
  have q := op_taken h hm c g ha (x := wx.toInt) (y := wy.toInt) (i2_range wx).1 (i2_range wx).2 (i2_range wy).1 (i2_range wy).2 hi
  simp only [i2_self] at q
  exact q
theorem iv_minds {M : Mm} (hi : Inv M) (wx wy wz wu : Int32) : OpK M (fun M => fX11_minds M 0 wx wy wz wu) (fun M => fX12_minds M 164 wx wy wz wu) := by
  obtain ⟨A, h, hm, -, ha, g, c⟩ := hi.1
  have q := op_minds h hm c g ha (x := wx.toInt) (y := wy.toInt) (z := wz.toInt) (u := wu.toInt) (i2_range wx).1 (i2_range wx).2 (i2_range wy).1 (i2_range wy).2 (i2_range wz).1 (i2_range wz).2 (i2_range wu).1 (i2_range wu).2 hi
  simp only [i2_self] at q
  exact Op.k hi (k_X11_minds (Kp.rf M)) (q)
theorem iv_sheet {M : Mm} (hi : Inv M) (wx wy wz : Int32) : OpK M (fun M => fX11_sheet M 0 wx wy wz) (fun M => fX12_sheet M 164 wx wy wz) := by
  obtain ⟨A, h, hm, -, ha, g, c⟩ := hi.1
  have q := op_sheet h hm c g ha (x := wx.toInt) (y := wy.toInt) (z := wz.toInt) (i2_range wx).1 (i2_range wx).2 (i2_range wy).1 (i2_range wy).2 (i2_range wz).1 (i2_range wz).2 hi
  simp only [i2_self] at q
  exact Op.k hi (k_X11_sheet (Kp.rf M)) (q)
theorem iv_trace {M : Mm} (hi : Inv M) (wx : Int32) : OpP (fX11_trace M 0 wx) (fX12_trace M 164 wx) := by
  obtain ⟨A, h, hm, -, ha, g, c⟩ := hi.1
  have q := op_trace h hm c g ha (x := wx.toInt) (i2_range wx).1 (i2_range wx).2 hi
  simp only [i2_self] at q
  exact q
theorem iv_act {M : Mm} (hi : Inv M) (wx wt wy : Int32) : OpK M (fun M => fX11_act M 0 wx wt wy) (fun M => fX12_act M 164 wx wt wy) := by
  obtain ⟨A, h, hm, -, ha, g, c⟩ := hi.1
  have q := op_act h hm c g ha (x := wx.toInt) (t := wt.toInt) (y := wy.toInt) (i2_range wx).1 (i2_range wx).2 (i2_range wt).1 (i2_range wt).2 (i2_range wy).1 (i2_range wy).2 hi
  simp only [i2_self] at q
  exact Op.k hi (k_X11_act (Kp.rf M)) (q)
theorem iv_drawer {M : Mm} (hi : Inv M) : OpK M (fun M => fX11_drawer M 0) (fun M => fX12_drawer M 164) := by
  obtain ⟨A, h, hm, -, ha, g, c⟩ := hi.1
  have q := op_drawer h hm c g ha hi
  exact Op.k hi (k_X11_drawer (Kp.rf M)) (q)
end IV
