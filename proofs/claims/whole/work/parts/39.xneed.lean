/-! ===== who throws ===== -/
def nmE : List String := ["java/lang/RuntimeException", "java/lang/Exception"]
def nI0 : String := "java/lang/IndexOutOfBoundsException"
def nA0 : String := "java/lang/IllegalArgumentException"
def nS0 : String := "java/lang/IllegalStateException"
theorem fitE : ∀ n ∈ nmE, Bundle.fit n = true := by decide +kernel
theorem goI : ∀ w ∈ Cond.classLink "MudSweepers" 42 nI0 :: Cond.initialized nI0 :: vx_atS "MudSweepers" 46 nI0 nmE, vx_ot w = true := by decide +kernel
theorem clI : Cond.classLink "MudSweepers" 42 nI0 ∈ kxl := by decide +kernel
theorem iniI : Cond.initialized nI0 ∈ kxl := by decide +kernel
theorem goA : ∀ w ∈ Cond.classLink "MudSweepers" 27 nA0 :: Cond.initialized nA0 :: vx_atS "MudSweepers" 31 nA0 nmE, vx_ot w = true := by decide +kernel
theorem clA : Cond.classLink "MudSweepers" 27 nA0 ∈ kxl := by decide +kernel
theorem iniA : Cond.initialized nA0 ∈ kxl := by decide +kernel
theorem goS : ∀ w ∈ Cond.classLink "MudSweepers" 67 nS0 :: Cond.initialized nS0 :: vx_atS "MudSweepers" 71 nS0 nmE, vx_ot w = true := by decide +kernel
theorem clS : Cond.classLink "MudSweepers" 67 nS0 ∈ kxl := by decide +kernel
theorem iniS : Cond.initialized nS0 ∈ kxl := by decide +kernel
theorem atI : ∀ w ∈ vx_atS "MudSweepers" 46 nI0 nmE, w ∈ kxl := by decide +kernel
theorem atA : ∀ w ∈ vx_atS "MudSweepers" 31 nA0 nmE, w ∈ kxl := by decide +kernel
theorem atS : ∀ w ∈ vx_atS "MudSweepers" 71 nS0 nmE, w ∈ kxl := by decide +kernel
set_option maxHeartbeats 2000000 in
theorem kX1_needCrossing_x (c : Int32) (hc : sCr c = 0) : AMetX yX1_needCrossing cX1_needCrossing 1 none { frames := 6, cells := 1, slots := 6, locals := 82 } [.int c] ([]) nI0 := by
  refine AMetX.of (by decide) rfl ?_
  intro G hR hE
  refine AW.blk (amX1_needCrossing _) 0 1 (h' := []) (pc' := 1) (lv' := [(0, .int c)]) (st' := [.int c]) (L := []) rfl trivial ?_
  refine AW.callSp (amX1_needCrossing _) 1 (kX1_isCrossing c) [] [] ykX1_isCrossing ysX1_isCrossing mlX1_137 rfl rfl rfl rfl hR ⟨Nat.le_of_ble_eq_true rfl, Nat.le_of_ble_eq_true rfl, Nat.le_of_ble_eq_true rfl, Nat.le_of_ble_eq_true rfl⟩ rfl rfl rfl rfl rfl (fun _ => rfl) (h1 := []) rfl (st' := [.int (sCr c)]) rfl ?_
  refine AW.br (amX1_needCrossing _) 2 (tgt := 17) (C := ¬ (sCr c) = 0) (C' := (sCr c) = 0) (st' := []) rfl rfl rfl (fun c1 => absurd hc c1) (fun c1 => ?_)
  exact AW.throwS (names := nmE) (amX1_needCrossing _) 3 hE rfl rfl (by decide +kernel) fitE clI iniI atI goI (text := "a crossing is 0 to 8") (is := 141) (by decide) rfl rfl rfl rfl rfl hR ⟨by decide, by decide, by decide, by decide⟩ ⟨by decide, by decide⟩
