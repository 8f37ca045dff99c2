/-! ===== who throws ===== -/
def nmE : List String := ["java/lang/RuntimeException", "java/lang/Exception"]
def nI0 : String := "java/lang/IndexOutOfBoundsException"
def nA0 : String := "java/lang/IllegalArgumentException"
def nS0 : String := "java/lang/IllegalStateException"
theorem fitE : ∀ n ∈ nmE, Bundle.fit n = true := by decide +kernel
theorem atI : ∀ w ∈ vx_atS "MudSweepers" 46 nI0 nmE, w ∈ kxl := by decide +kernel
theorem goI : ∀ w ∈ Cond.classLink "MudSweepers" 42 nI0 :: Cond.initialized nI0 :: vx_atS "MudSweepers" 46 nI0 nmE, vx_ot w = true := by decide +kernel
theorem clI : Cond.classLink "MudSweepers" 42 nI0 ∈ kxl := by decide +kernel
theorem iniI : Cond.initialized nI0 ∈ kxl := by decide +kernel
theorem fiI : Bundle.fit nI0 = true := by decide +kernel
theorem atA : ∀ w ∈ vx_atS "MudSweepers" 31 nA0 nmE, w ∈ kxl := by decide +kernel
theorem goA : ∀ w ∈ Cond.classLink "MudSweepers" 27 nA0 :: Cond.initialized nA0 :: vx_atS "MudSweepers" 31 nA0 nmE, vx_ot w = true := by decide +kernel
theorem clA : Cond.classLink "MudSweepers" 27 nA0 ∈ kxl := by decide +kernel
theorem iniA : Cond.initialized nA0 ∈ kxl := by decide +kernel
theorem fiA : Bundle.fit nA0 = true := by decide +kernel
theorem atS : ∀ w ∈ vx_atS "MudSweepers" 71 nS0 nmE, w ∈ kxl := by decide +kernel
theorem goS : ∀ w ∈ Cond.classLink "MudSweepers" 67 nS0 :: Cond.initialized nS0 :: vx_atS "MudSweepers" 71 nS0 nmE, vx_ot w = true := by decide +kernel
theorem clS : Cond.classLink "MudSweepers" 67 nS0 ∈ kxl := by decide +kernel
theorem iniS : Cond.initialized nS0 ∈ kxl := by decide +kernel
theorem fiS : Bundle.fit nS0 = true := by decide +kernel
theorem xl_23 : Cond.methodLink RX1 23 yX1_needCrossing ∈ kwl := by decide +kernel
theorem xl_76 : Cond.methodLink RX1 76 yX1_needSweeper ∈ kwl := by decide +kernel
theorem xl_93 : Cond.methodLink RX1 93 yX1_needFact ∈ kwl := by decide +kernel
theorem xl_106 : Cond.methodLink RX1 106 yX1_needQuarters ∈ kwl := by decide +kernel
theorem xt_141 : (141, "a crossing is 0 to 8") ∈ xst := by decide
theorem xt_146 : (146, "there is no such sweeper") ∈ xst := by decide
theorem xt_148 : (148, "nothing is told under this number") ∈ xst := by decide
theorem xt_150 : (150, "quarters are 1 to 96") ∈ xst := by decide
theorem xt_29 : (29, "carriages are 0 to 9") ∈ xst := by decide
theorem xt_34 : (34, "walkers are 0 to 30") ∈ xst := by decide
theorem xt_44 : (44, "a quarter of the table is 0 to 7") ∈ xst := by decide
theorem xt_47 : (47, "rain is 0 to 9") ∈ xst := by decide
theorem xt_52 : (52, "mud to be thrown is 1 to 50") ∈ xst := by decide
theorem xt_61 : (61, "strength is 1 to 9") ∈ xst := by decide
theorem xt_69 : (69, "there are 8 sweepers") ∈ xst := by decide
theorem xt_88 : (88, "a broom costs 5 pence") ∈ xst := by decide
set_option maxHeartbeats 2000000 in
theorem kX1_needCrossing_x (c : Int32) (hc : sCr c = 0) : AMetX yX1_needCrossing cX1_needCrossing 1 none { frames := 6, cells := 1, slots := 6, locals := 82 } [.int c] ([]) nI0 := by
  refine AMetX.of (by decide) rfl ?_
  intro G hR hE
  refine AW.blk (amX1_needCrossing _) 0 1 (h' := []) (pc' := 1) (lv' := [(0, .int c)]) (st' := [.int c]) (L := []) rfl trivial ?_
  refine AW.callSp (amX1_needCrossing _) 1 (kX1_isCrossing c) [] [] ykX1_isCrossing ysX1_isCrossing mlX1_137 rfl rfl rfl rfl hR ⟨Nat.le_of_ble_eq_true rfl, Nat.le_of_ble_eq_true rfl, Nat.le_of_ble_eq_true rfl, Nat.le_of_ble_eq_true rfl⟩ rfl rfl rfl rfl rfl (fun _ => rfl) (h1 := []) rfl (st' := [.int (sCr c)]) rfl ?_
  refine AW.br (amX1_needCrossing _) 2 (tgt := 17) (C := ¬ (sCr c) = 0) (C' := (sCr c) = 0) (st' := []) rfl rfl rfl (fun c2 => absurd hc c2) (fun c2 => ?_)
  exact (AW.throwS (names := nmE) (amX1_needCrossing _) 3 hE rfl rfl fiI fitE clI iniI atI goI xt_141 rfl rfl rfl rfl rfl hR ⟨by decide, by decide, by decide, by decide⟩ ⟨by decide, by decide⟩)
set_option maxHeartbeats 2000000 in
theorem kX1_needSweeper_x (C T : CS) (L : Nat → Int32) (s : Int32) (hs : sSw s C.2.2.2.2.2.2.2.2.2.2.2.2.1 = 0) : AMetX yX1_needSweeper cX1_needSweeper 2 none { frames := 6, cells := 1, slots := 6, locals := 82 } [.ref 0, .int s] (hM C T L) nI0 := by
  refine AMetX.of (by decide) rfl ?_
  intro G hR hE
  refine AW.blk (amX1_needSweeper _) 0 3 (h' := hM C T L) (pc' := 5) (lv' := [(0, .ref 0), (1, .int s)]) (st' := [.int s, .ref 1]) (L := []) rfl trivial ?_
  refine AW.callVp (amX1_needSweeper _) 3 (kX0_isSweeper C.1 C.2.1 C.2.2.1 C.2.2.2.1 C.2.2.2.2.1 C.2.2.2.2.2.1 C.2.2.2.2.2.2.1 C.2.2.2.2.2.2.2.1 C.2.2.2.2.2.2.2.2.1 C.2.2.2.2.2.2.2.2.2.1 C.2.2.2.2.2.2.2.2.2.2.1 C.2.2.2.2.2.2.2.2.2.2.2.1 C.2.2.2.2.2.2.2.2.2.2.2.2.1 C.2.2.2.2.2.2.2.2.2.2.2.2.2 s) rfl rfl [1, 2, 3, 4, 5, 6, 7, 8, 9, 10, 11, 12, 13] [] ykX0_isSweeper yiX0_isSweeper yvX0_isSweeper mlX1_143 rfl rfl rfl rfl hR ⟨Nat.le_of_ble_eq_true rfl, Nat.le_of_ble_eq_true rfl, Nat.le_of_ble_eq_true rfl, Nat.le_of_ble_eq_true rfl⟩ rfl rfl rfl rfl rfl (fun _ => rfl) (h1 := hM C T L) rfl (st' := [.int (sSw s C.2.2.2.2.2.2.2.2.2.2.2.2.1)]) rfl ?_
  refine AW.br (amX1_needSweeper _) 4 (tgt := 21) (C := ¬ (sSw s C.2.2.2.2.2.2.2.2.2.2.2.2.1) = 0) (C' := (sSw s C.2.2.2.2.2.2.2.2.2.2.2.2.1) = 0) (st' := []) rfl rfl rfl (fun c4 => absurd hs c4) (fun c4 => ?_)
  exact (AW.throwS (names := nmE) (amX1_needSweeper _) 5 hE rfl rfl fiI fitE clI iniI atI goI xt_146 rfl rfl rfl rfl rfl hR ⟨by decide, by decide, by decide, by decide⟩ ⟨by decide, by decide⟩)
set_option maxHeartbeats 2000000 in
theorem kX1_needFact_x (w k : Int32) (h : w < 0 ∨ ¬ w < k) : AMetX yX1_needFact cX1_needFact 2 none { frames := 6, cells := 1, slots := 6, locals := 82 } [.int w, .int k] ([]) nI0 := by
  refine AMetX.of (by decide) rfl ?_
  intro G hR hE
  refine AW.blk (amX1_needFact _) 0 1 (h' := []) (pc' := 1) (lv' := [(0, .int w), (1, .int k)]) (st' := [.int w]) (L := []) rfl trivial ?_
  refine AW.br (amX1_needFact _) 1 (tgt := 9) (C := w < 0) (C' := ¬ w < 0) (st' := []) rfl rfl rfl (fun c1 => (AW.throwS (names := nmE) (amX1_needFact _) 5 hE rfl rfl fiI fitE clI iniI atI goI xt_148 rfl rfl rfl rfl rfl hR ⟨by decide, by decide, by decide, by decide⟩ ⟨by decide, by decide⟩)) (fun c1 => ?_)
  refine AW.blk (amX1_needFact _) 2 2 (h' := []) (pc' := 6) (lv' := [(0, .int w), (1, .int k)]) (st' := [.int k, .int w]) (L := []) rfl trivial ?_
  refine AW.br (amX1_needFact _) 4 (tgt := 19) (C := w < k) (C' := ¬ w < k) (st' := []) rfl rfl rfl (fun c4 => absurd c4 (h.resolve_left c1)) (fun c4 => ?_)
  exact (AW.throwS (names := nmE) (amX1_needFact _) 5 hE rfl rfl fiI fitE clI iniI atI goI xt_148 rfl rfl rfl rfl rfl hR ⟨by decide, by decide, by decide, by decide⟩ ⟨by decide, by decide⟩)
set_option maxHeartbeats 2000000 in
theorem kX1_needQuarters_x (t : Int32) (h : t < 1 ∨ ¬ t ≤ 96) : AMetX yX1_needQuarters cX1_needQuarters 1 none { frames := 6, cells := 1, slots := 6, locals := 82 } [.int t] ([]) nA0 := by
  refine AMetX.of (by decide) rfl ?_
  intro G hR hE
  refine AW.blk (amX1_needQuarters _) 0 2 (h' := []) (pc' := 2) (lv' := [(0, .int t)]) (st' := [.int 1, .int t]) (L := []) rfl trivial ?_
  refine AW.br (amX1_needQuarters _) 2 (tgt := 11) (C := t < 1) (C' := ¬ t < 1) (st' := []) rfl rfl rfl (fun c2 => (AW.throwS (names := nmE) (amX1_needQuarters _) 6 hE rfl rfl fiA fitE clA iniA atA goA xt_150 rfl rfl rfl rfl rfl hR ⟨by decide, by decide, by decide, by decide⟩ ⟨by decide, by decide⟩)) (fun c2 => ?_)
  refine AW.blk (amX1_needQuarters _) 3 2 (h' := []) (pc' := 8) (lv' := [(0, .int t)]) (st' := [.int 96, .int t]) (L := []) rfl trivial ?_
  refine AW.br (amX1_needQuarters _) 5 (tgt := 21) (C := t ≤ 96) (C' := ¬ t ≤ 96) (st' := []) rfl rfl rfl (fun c5 => absurd c5 (h.resolve_left c2)) (fun c5 => ?_)
  exact (AW.throwS (names := nmE) (amX1_needQuarters _) 6 hE rfl rfl fiA fitE clA iniA atA goA xt_150 rfl rfl rfl rfl rfl hR ⟨by decide, by decide, by decide, by decide⟩ ⟨by decide, by decide⟩)
set_option maxHeartbeats 2000000 in
theorem kX1_set_x1 (C T : CS) (L : Nat → Int32) (c a b : Int32) (hc : sCr c = 0) : AMetX yX1_set cX1_set 5 (some .int) { frames := 7, cells := 1, slots := 6, locals := 106 } [.ref 0, .int c, .int a, .int b] (hM C T L) nI0 := by
  refine AMetX.of (by decide) rfl ?_
  intro G hR hE
  refine AW.blk (amX1_set _) 0 1 (h' := hM C T L) (pc' := 1) (lv' := [(0, .ref 0), (1, .int c), (2, .int a), (3, .int b)]) (st' := [.int c]) (L := []) rfl trivial ?_
  exact AW.callSX (amX1_set _) 1 (kX1_needCrossing_x c hc) [] [] hE rfl ykX1_needCrossing ysX1_needCrossing xl_23 rfl rfl rfl rfl hR ⟨Nat.le_of_ble_eq_true rfl, Nat.le_of_ble_eq_true rfl, Nat.le_of_ble_eq_true rfl, Nat.le_of_ble_eq_true rfl⟩ ⟨by decide, by decide⟩ rfl rfl rfl rfl
set_option maxHeartbeats 2000000 in
theorem kX1_set_x2 (C T : CS) (L : Nat → Int32) (c a b : Int32) (hc : ¬ sCr c = 0) (h : a < 0 ∨ ¬ a ≤ 9) : AMetX yX1_set cX1_set 5 (some .int) { frames := 7, cells := 1, slots := 6, locals := 106 } [.ref 0, .int c, .int a, .int b] (hM C T L) nA0 := by
  refine AMetX.of (by decide) rfl ?_
  intro G hR hE
  refine AW.blk (amX1_set _) 0 1 (h' := hM C T L) (pc' := 1) (lv' := [(0, .ref 0), (1, .int c), (2, .int a), (3, .int b)]) (st' := [.int c]) (L := []) rfl trivial ?_
  refine AW.callSp (amX1_set _) 1 (kX1_needCrossing c hc) [] [] ykX1_needCrossing ysX1_needCrossing mlX1_23 rfl rfl rfl rfl hR ⟨Nat.le_of_ble_eq_true rfl, Nat.le_of_ble_eq_true rfl, Nat.le_of_ble_eq_true rfl, Nat.le_of_ble_eq_true rfl⟩ rfl rfl rfl rfl rfl (fun _ => rfl) (h1 := hM C T L) rfl (st' := []) rfl ?_
  refine AW.blk (amX1_set _) 2 1 (h' := hM C T L) (pc' := 5) (lv' := [(0, .ref 0), (1, .int c), (2, .int a), (3, .int b)]) (st' := [.int a]) (L := []) rfl trivial ?_
  refine AW.br (amX1_set _) 3 (tgt := 14) (C := a < 0) (C' := ¬ a < 0) (st' := []) rfl rfl rfl (fun c3 => (AW.throwS (names := nmE) (amX1_set _) 7 hE rfl rfl fiA fitE clA iniA atA goA xt_29 rfl rfl rfl rfl rfl hR ⟨by decide, by decide, by decide, by decide⟩ ⟨by decide, by decide⟩)) (fun c3 => ?_)
  refine AW.blk (amX1_set _) 4 2 (h' := hM C T L) (pc' := 11) (lv' := [(0, .ref 0), (1, .int c), (2, .int a), (3, .int b)]) (st' := [.int 9, .int a]) (L := []) rfl trivial ?_
  refine AW.br (amX1_set _) 6 (tgt := 24) (C := a ≤ 9) (C' := ¬ a ≤ 9) (st' := []) rfl rfl rfl (fun c6 => absurd c6 (h.resolve_left c3)) (fun c6 => ?_)
  exact (AW.throwS (names := nmE) (amX1_set _) 7 hE rfl rfl fiA fitE clA iniA atA goA xt_29 rfl rfl rfl rfl rfl hR ⟨by decide, by decide, by decide, by decide⟩ ⟨by decide, by decide⟩)
set_option maxHeartbeats 2000000 in
theorem kX1_set_x3 (C T : CS) (L : Nat → Int32) (c a b : Int32) (hc : ¬ sCr c = 0) (h1 : ¬ a < 0) (h2 : a ≤ 9) (h : b < 0 ∨ ¬ b ≤ 30) : AMetX yX1_set cX1_set 5 (some .int) { frames := 7, cells := 1, slots := 6, locals := 106 } [.ref 0, .int c, .int a, .int b] (hM C T L) nA0 := by
  refine AMetX.of (by decide) rfl ?_
  intro G hR hE
  refine AW.blk (amX1_set _) 0 1 (h' := hM C T L) (pc' := 1) (lv' := [(0, .ref 0), (1, .int c), (2, .int a), (3, .int b)]) (st' := [.int c]) (L := []) rfl trivial ?_
  refine AW.callSp (amX1_set _) 1 (kX1_needCrossing c hc) [] [] ykX1_needCrossing ysX1_needCrossing mlX1_23 rfl rfl rfl rfl hR ⟨Nat.le_of_ble_eq_true rfl, Nat.le_of_ble_eq_true rfl, Nat.le_of_ble_eq_true rfl, Nat.le_of_ble_eq_true rfl⟩ rfl rfl rfl rfl rfl (fun _ => rfl) (h1 := hM C T L) rfl (st' := []) rfl ?_
  refine AW.blk (amX1_set _) 2 1 (h' := hM C T L) (pc' := 5) (lv' := [(0, .ref 0), (1, .int c), (2, .int a), (3, .int b)]) (st' := [.int a]) (L := []) rfl trivial ?_
  refine AW.br (amX1_set _) 3 (tgt := 14) (C := a < 0) (C' := ¬ a < 0) (st' := []) rfl rfl rfl (fun c3 => absurd c3 h1) (fun c3 => ?_)
  refine AW.blk (amX1_set _) 4 2 (h' := hM C T L) (pc' := 11) (lv' := [(0, .ref 0), (1, .int c), (2, .int a), (3, .int b)]) (st' := [.int 9, .int a]) (L := []) rfl trivial ?_
  refine AW.br (amX1_set _) 6 (tgt := 24) (C := a ≤ 9) (C' := ¬ a ≤ 9) (st' := []) rfl rfl rfl (fun c6 => ?_) (fun c6 => absurd h2 c6)
  refine AW.blk (amX1_set _) 12 1 (h' := hM C T L) (pc' := 25) (lv' := [(0, .ref 0), (1, .int c), (2, .int a), (3, .int b)]) (st' := [.int b]) (L := []) rfl trivial ?_
  refine AW.br (amX1_set _) 13 (tgt := 34) (C := b < 0) (C' := ¬ b < 0) (st' := []) rfl rfl rfl (fun c13 => (AW.throwS (names := nmE) (amX1_set _) 17 hE rfl rfl fiA fitE clA iniA atA goA xt_34 rfl rfl rfl rfl rfl hR ⟨by decide, by decide, by decide, by decide⟩ ⟨by decide, by decide⟩)) (fun c13 => ?_)
  refine AW.blk (amX1_set _) 14 2 (h' := hM C T L) (pc' := 31) (lv' := [(0, .ref 0), (1, .int c), (2, .int a), (3, .int b)]) (st' := [.int 30, .int b]) (L := []) rfl trivial ?_
  refine AW.br (amX1_set _) 16 (tgt := 44) (C := b ≤ 30) (C' := ¬ b ≤ 30) (st' := []) rfl rfl rfl (fun c16 => absurd c16 (h.resolve_left c13)) (fun c16 => ?_)
  exact (AW.throwS (names := nmE) (amX1_set _) 17 hE rfl rfl fiA fitE clA iniA atA goA xt_34 rfl rfl rfl rfl rfl hR ⟨by decide, by decide, by decide, by decide⟩ ⟨by decide, by decide⟩)
set_option maxHeartbeats 2000000 in
theorem kX1_setRain_x1 (C T : CS) (L : Nat → Int32) (k v : Int32) (h : k < 0 ∨ ¬ k < 8) : AMetX yX1_setRain cX1_setRain 4 (some .int) { frames := 6, cells := 1, slots := 6, locals := 82 } [.ref 0, .int k, .int v] (hM C T L) nI0 := by
  refine AMetX.of (by decide) rfl ?_
  intro G hR hE
  refine AW.blk (amX1_setRain _) 0 1 (h' := hM C T L) (pc' := 1) (lv' := [(0, .ref 0), (1, .int k), (2, .int v)]) (st' := [.int k]) (L := []) rfl trivial ?_
  refine AW.br (amX1_setRain _) 1 (tgt := 10) (C := k < 0) (C' := ¬ k < 0) (st' := []) rfl rfl rfl (fun c1 => (AW.throwS (names := nmE) (amX1_setRain _) 5 hE rfl rfl fiI fitE clI iniI atI goI xt_44 rfl rfl rfl rfl rfl hR ⟨by decide, by decide, by decide, by decide⟩ ⟨by decide, by decide⟩)) (fun c1 => ?_)
  refine AW.blk (amX1_setRain _) 2 2 (h' := hM C T L) (pc' := 7) (lv' := [(0, .ref 0), (1, .int k), (2, .int v)]) (st' := [.int 8, .int k]) (L := []) rfl trivial ?_
  refine AW.br (amX1_setRain _) 4 (tgt := 20) (C := k < 8) (C' := ¬ k < 8) (st' := []) rfl rfl rfl (fun c4 => absurd c4 (h.resolve_left c1)) (fun c4 => ?_)
  exact (AW.throwS (names := nmE) (amX1_setRain _) 5 hE rfl rfl fiI fitE clI iniI atI goI xt_44 rfl rfl rfl rfl rfl hR ⟨by decide, by decide, by decide, by decide⟩ ⟨by decide, by decide⟩)
set_option maxHeartbeats 2000000 in
theorem kX1_setRain_x2 (C T : CS) (L : Nat → Int32) (k v : Int32) (h1 : ¬ k < 0) (h2 : k < 8) (h : v < 0 ∨ ¬ v ≤ 9) : AMetX yX1_setRain cX1_setRain 4 (some .int) { frames := 6, cells := 1, slots := 6, locals := 82 } [.ref 0, .int k, .int v] (hM C T L) nA0 := by
  refine AMetX.of (by decide) rfl ?_
  intro G hR hE
  refine AW.blk (amX1_setRain _) 0 1 (h' := hM C T L) (pc' := 1) (lv' := [(0, .ref 0), (1, .int k), (2, .int v)]) (st' := [.int k]) (L := []) rfl trivial ?_
  refine AW.br (amX1_setRain _) 1 (tgt := 10) (C := k < 0) (C' := ¬ k < 0) (st' := []) rfl rfl rfl (fun c1 => absurd c1 h1) (fun c1 => ?_)
  refine AW.blk (amX1_setRain _) 2 2 (h' := hM C T L) (pc' := 7) (lv' := [(0, .ref 0), (1, .int k), (2, .int v)]) (st' := [.int 8, .int k]) (L := []) rfl trivial ?_
  refine AW.br (amX1_setRain _) 4 (tgt := 20) (C := k < 8) (C' := ¬ k < 8) (st' := []) rfl rfl rfl (fun c4 => ?_) (fun c4 => absurd h2 c4)
  refine AW.blk (amX1_setRain _) 10 1 (h' := hM C T L) (pc' := 21) (lv' := [(0, .ref 0), (1, .int k), (2, .int v)]) (st' := [.int v]) (L := []) rfl trivial ?_
  refine AW.br (amX1_setRain _) 11 (tgt := 30) (C := v < 0) (C' := ¬ v < 0) (st' := []) rfl rfl rfl (fun c11 => (AW.throwS (names := nmE) (amX1_setRain _) 15 hE rfl rfl fiA fitE clA iniA atA goA xt_47 rfl rfl rfl rfl rfl hR ⟨by decide, by decide, by decide, by decide⟩ ⟨by decide, by decide⟩)) (fun c11 => ?_)
  refine AW.blk (amX1_setRain _) 12 2 (h' := hM C T L) (pc' := 27) (lv' := [(0, .ref 0), (1, .int k), (2, .int v)]) (st' := [.int 9, .int v]) (L := []) rfl trivial ?_
  refine AW.br (amX1_setRain _) 14 (tgt := 40) (C := v ≤ 9) (C' := ¬ v ≤ 9) (st' := []) rfl rfl rfl (fun c14 => absurd c14 (h.resolve_left c11)) (fun c14 => ?_)
  exact (AW.throwS (names := nmE) (amX1_setRain _) 15 hE rfl rfl fiA fitE clA iniA atA goA xt_47 rfl rfl rfl rfl rfl hR ⟨by decide, by decide, by decide, by decide⟩ ⟨by decide, by decide⟩)
set_option maxHeartbeats 2000000 in
theorem kX1_spill_x1 (C T : CS) (L : Nat → Int32) (c m : Int32) (hc : sCr c = 0) : AMetX yX1_spill cX1_spill 3 (some .int) { frames := 7, cells := 1, slots := 6, locals := 104 } [.ref 0, .int c, .int m] (hM C T L) nI0 := by
  refine AMetX.of (by decide) rfl ?_
  intro G hR hE
  refine AW.blk (amX1_spill _) 0 1 (h' := hM C T L) (pc' := 1) (lv' := [(0, .ref 0), (1, .int c), (2, .int m)]) (st' := [.int c]) (L := []) rfl trivial ?_
  exact AW.callSX (amX1_spill _) 1 (kX1_needCrossing_x c hc) [] [] hE rfl ykX1_needCrossing ysX1_needCrossing xl_23 rfl rfl rfl rfl hR ⟨Nat.le_of_ble_eq_true rfl, Nat.le_of_ble_eq_true rfl, Nat.le_of_ble_eq_true rfl, Nat.le_of_ble_eq_true rfl⟩ ⟨by decide, by decide⟩ rfl rfl rfl rfl
set_option maxHeartbeats 2000000 in
theorem kX1_spill_x2 (C T : CS) (L : Nat → Int32) (c m : Int32) (hc : ¬ sCr c = 0) (h : m < 1 ∨ ¬ m ≤ 50) : AMetX yX1_spill cX1_spill 3 (some .int) { frames := 7, cells := 1, slots := 6, locals := 104 } [.ref 0, .int c, .int m] (hM C T L) nA0 := by
  refine AMetX.of (by decide) rfl ?_
  intro G hR hE
  refine AW.blk (amX1_spill _) 0 1 (h' := hM C T L) (pc' := 1) (lv' := [(0, .ref 0), (1, .int c), (2, .int m)]) (st' := [.int c]) (L := []) rfl trivial ?_
  refine AW.callSp (amX1_spill _) 1 (kX1_needCrossing c hc) [] [] ykX1_needCrossing ysX1_needCrossing mlX1_23 rfl rfl rfl rfl hR ⟨Nat.le_of_ble_eq_true rfl, Nat.le_of_ble_eq_true rfl, Nat.le_of_ble_eq_true rfl, Nat.le_of_ble_eq_true rfl⟩ rfl rfl rfl rfl rfl (fun _ => rfl) (h1 := hM C T L) rfl (st' := []) rfl ?_
  refine AW.blk (amX1_spill _) 2 2 (h' := hM C T L) (pc' := 6) (lv' := [(0, .ref 0), (1, .int c), (2, .int m)]) (st' := [.int 1, .int m]) (L := []) rfl trivial ?_
  refine AW.br (amX1_spill _) 4 (tgt := 15) (C := m < 1) (C' := ¬ m < 1) (st' := []) rfl rfl rfl (fun c4 => (AW.throwS (names := nmE) (amX1_spill _) 8 hE rfl rfl fiA fitE clA iniA atA goA xt_52 rfl rfl rfl rfl rfl hR ⟨by decide, by decide, by decide, by decide⟩ ⟨by decide, by decide⟩)) (fun c4 => ?_)
  refine AW.blk (amX1_spill _) 5 2 (h' := hM C T L) (pc' := 12) (lv' := [(0, .ref 0), (1, .int c), (2, .int m)]) (st' := [.int 50, .int m]) (L := []) rfl trivial ?_
  refine AW.br (amX1_spill _) 7 (tgt := 25) (C := m ≤ 50) (C' := ¬ m ≤ 50) (st' := []) rfl rfl rfl (fun c7 => absurd c7 (h.resolve_left c4)) (fun c7 => ?_)
  exact (AW.throwS (names := nmE) (amX1_spill _) 8 hE rfl rfl fiA fitE clA iniA atA goA xt_52 rfl rfl rfl rfl rfl hR ⟨by decide, by decide, by decide, by decide⟩ ⟨by decide, by decide⟩)
set_option maxHeartbeats 2000000 in
theorem kX1_come_x1 (C T : CS) (L : Nat → Int32) (c s : Int32) (hc : sCr c = 0) : AMetX yX1_come cX1_come 3 (some .int) { frames := 7, cells := 1, slots := 6, locals := 104 } [.ref 0, .int c, .int s] (hM C T L) nI0 := by
  refine AMetX.of (by decide) rfl ?_
  intro G hR hE
  refine AW.blk (amX1_come _) 0 1 (h' := hM C T L) (pc' := 1) (lv' := [(0, .ref 0), (1, .int c), (2, .int s)]) (st' := [.int c]) (L := []) rfl trivial ?_
  exact AW.callSX (amX1_come _) 1 (kX1_needCrossing_x c hc) [] [] hE rfl ykX1_needCrossing ysX1_needCrossing xl_23 rfl rfl rfl rfl hR ⟨Nat.le_of_ble_eq_true rfl, Nat.le_of_ble_eq_true rfl, Nat.le_of_ble_eq_true rfl, Nat.le_of_ble_eq_true rfl⟩ ⟨by decide, by decide⟩ rfl rfl rfl rfl
set_option maxHeartbeats 2000000 in
theorem kX1_come_x2 (C T : CS) (L : Nat → Int32) (c s : Int32) (hc : ¬ sCr c = 0) (h : s < 1 ∨ ¬ s ≤ 9) : AMetX yX1_come cX1_come 3 (some .int) { frames := 7, cells := 1, slots := 6, locals := 104 } [.ref 0, .int c, .int s] (hM C T L) nA0 := by
  refine AMetX.of (by decide) rfl ?_
  intro G hR hE
  refine AW.blk (amX1_come _) 0 1 (h' := hM C T L) (pc' := 1) (lv' := [(0, .ref 0), (1, .int c), (2, .int s)]) (st' := [.int c]) (L := []) rfl trivial ?_
  refine AW.callSp (amX1_come _) 1 (kX1_needCrossing c hc) [] [] ykX1_needCrossing ysX1_needCrossing mlX1_23 rfl rfl rfl rfl hR ⟨Nat.le_of_ble_eq_true rfl, Nat.le_of_ble_eq_true rfl, Nat.le_of_ble_eq_true rfl, Nat.le_of_ble_eq_true rfl⟩ rfl rfl rfl rfl rfl (fun _ => rfl) (h1 := hM C T L) rfl (st' := []) rfl ?_
  refine AW.blk (amX1_come _) 2 2 (h' := hM C T L) (pc' := 6) (lv' := [(0, .ref 0), (1, .int c), (2, .int s)]) (st' := [.int 1, .int s]) (L := []) rfl trivial ?_
  refine AW.br (amX1_come _) 4 (tgt := 15) (C := s < 1) (C' := ¬ s < 1) (st' := []) rfl rfl rfl (fun c4 => (AW.throwS (names := nmE) (amX1_come _) 8 hE rfl rfl fiA fitE clA iniA atA goA xt_61 rfl rfl rfl rfl rfl hR ⟨by decide, by decide, by decide, by decide⟩ ⟨by decide, by decide⟩)) (fun c4 => ?_)
  refine AW.blk (amX1_come _) 5 2 (h' := hM C T L) (pc' := 12) (lv' := [(0, .ref 0), (1, .int c), (2, .int s)]) (st' := [.int 9, .int s]) (L := []) rfl trivial ?_
  refine AW.br (amX1_come _) 7 (tgt := 25) (C := s ≤ 9) (C' := ¬ s ≤ 9) (st' := []) rfl rfl rfl (fun c7 => absurd c7 (h.resolve_left c4)) (fun c7 => ?_)
  exact (AW.throwS (names := nmE) (amX1_come _) 8 hE rfl rfl fiA fitE clA iniA atA goA xt_61 rfl rfl rfl rfl rfl hR ⟨by decide, by decide, by decide, by decide⟩ ⟨by decide, by decide⟩)
set_option maxHeartbeats 2000000 in
theorem kX1_come_x3 (C T : CS) (L : Nat → Int32) (c s : Int32) (hc : ¬ sCr c = 0) (h1 : ¬ s < 1) (h2 : s ≤ 9) (h : C.2.2.2.2.2.2.2.2.2.2.2.2.1 < 0 ∨ ¬ C.2.2.2.2.2.2.2.2.2.2.2.2.1 < 8) : AMetX yX1_come cX1_come 3 (some .int) { frames := 7, cells := 1, slots := 6, locals := 104 } [.ref 0, .int c, .int s] (hM C T L) nS0 := by
  refine AMetX.of (by decide) rfl ?_
  intro G hR hE
  refine AW.blk (amX1_come _) 0 1 (h' := hM C T L) (pc' := 1) (lv' := [(0, .ref 0), (1, .int c), (2, .int s)]) (st' := [.int c]) (L := []) rfl trivial ?_
  refine AW.callSp (amX1_come _) 1 (kX1_needCrossing c hc) [] [] ykX1_needCrossing ysX1_needCrossing mlX1_23 rfl rfl rfl rfl hR ⟨Nat.le_of_ble_eq_true rfl, Nat.le_of_ble_eq_true rfl, Nat.le_of_ble_eq_true rfl, Nat.le_of_ble_eq_true rfl⟩ rfl rfl rfl rfl rfl (fun _ => rfl) (h1 := hM C T L) rfl (st' := []) rfl ?_
  refine AW.blk (amX1_come _) 2 2 (h' := hM C T L) (pc' := 6) (lv' := [(0, .ref 0), (1, .int c), (2, .int s)]) (st' := [.int 1, .int s]) (L := []) rfl trivial ?_
  refine AW.br (amX1_come _) 4 (tgt := 15) (C := s < 1) (C' := ¬ s < 1) (st' := []) rfl rfl rfl (fun c4 => absurd c4 h1) (fun c4 => ?_)
  refine AW.blk (amX1_come _) 5 2 (h' := hM C T L) (pc' := 12) (lv' := [(0, .ref 0), (1, .int c), (2, .int s)]) (st' := [.int 9, .int s]) (L := []) rfl trivial ?_
  refine AW.br (amX1_come _) 7 (tgt := 25) (C := s ≤ 9) (C' := ¬ s ≤ 9) (st' := []) rfl rfl rfl (fun c7 => ?_) (fun c7 => absurd h2 c7)
  refine AW.blk (amX1_come _) 13 3 (h' := hM C T L) (pc' := 32) (lv' := [(0, .ref 0), (1, .int c), (2, .int s)]) (st' := [.int C.2.2.2.2.2.2.2.2.2.2.2.2.1]) (L := []) rfl trivial ?_
  refine AW.br (amX1_come _) 16 (tgt := 47) (C := C.2.2.2.2.2.2.2.2.2.2.2.2.1 < 0) (C' := ¬ C.2.2.2.2.2.2.2.2.2.2.2.2.1 < 0) (st' := []) rfl rfl rfl (fun c16 => (AW.throwS (names := nmE) (amX1_come _) 22 hE rfl rfl fiS fitE clS iniS atS goS xt_69 rfl rfl rfl rfl rfl hR ⟨by decide, by decide, by decide, by decide⟩ ⟨by decide, by decide⟩)) (fun c16 => ?_)
  refine AW.blk (amX1_come _) 17 4 (h' := hM C T L) (pc' := 44) (lv' := [(0, .ref 0), (1, .int c), (2, .int s)]) (st' := [.int 8, .int C.2.2.2.2.2.2.2.2.2.2.2.2.1]) (L := []) rfl trivial ?_
  refine AW.br (amX1_come _) 21 (tgt := 57) (C := C.2.2.2.2.2.2.2.2.2.2.2.2.1 < 8) (C' := ¬ C.2.2.2.2.2.2.2.2.2.2.2.2.1 < 8) (st' := []) rfl rfl rfl (fun c21 => absurd c21 (h.resolve_left c16)) (fun c21 => ?_)
  exact (AW.throwS (names := nmE) (amX1_come _) 22 hE rfl rfl fiS fitE clS iniS atS goS xt_69 rfl rfl rfl rfl rfl hR ⟨by decide, by decide, by decide, by decide⟩ ⟨by decide, by decide⟩)
set_option maxHeartbeats 2000000 in
theorem kX1_send_x1 (C T : CS) (L : Nat → Int32) (s c : Int32) (hs : sSw s C.2.2.2.2.2.2.2.2.2.2.2.2.1 = 0) : AMetX yX1_send cX1_send 4 (some .int) { frames := 7, cells := 1, slots := 6, locals := 105 } [.ref 0, .int s, .int c] (hM C T L) nI0 := by
  refine AMetX.of (by decide) rfl ?_
  intro G hR hE
  refine AW.blk (amX1_send _) 0 2 (h' := hM C T L) (pc' := 2) (lv' := [(0, .ref 0), (1, .int s), (2, .int c)]) (st' := [.int s, .ref 0]) (L := []) rfl trivial ?_
  exact AW.callVX (amX1_send _) 2 (kX1_needSweeper_x C T L s hs) rfl rfl [0, 1, 2, 3, 4, 5, 6, 7, 8, 9, 10, 11, 12, 13, 14, 15, 16, 17, 18, 19, 20, 21, 22, 23, 24, 25, 26, 27] [] hE rfl ykX1_needSweeper yiX1_needSweeper yvX1_needSweeper xl_76 rfl rfl rfl rfl hR ⟨Nat.le_of_ble_eq_true rfl, Nat.le_of_ble_eq_true rfl, Nat.le_of_ble_eq_true rfl, Nat.le_of_ble_eq_true rfl⟩ ⟨by decide, by decide⟩ rfl rfl rfl rfl
set_option maxHeartbeats 2000000 in
theorem kX1_send_x2 (C T : CS) (L : Nat → Int32) (s c : Int32) (hs : ¬ sSw s C.2.2.2.2.2.2.2.2.2.2.2.2.1 = 0) (hc : sCr c = 0) : AMetX yX1_send cX1_send 4 (some .int) { frames := 7, cells := 1, slots := 6, locals := 105 } [.ref 0, .int s, .int c] (hM C T L) nI0 := by
  refine AMetX.of (by decide) rfl ?_
  intro G hR hE
  refine AW.blk (amX1_send _) 0 2 (h' := hM C T L) (pc' := 2) (lv' := [(0, .ref 0), (1, .int s), (2, .int c)]) (st' := [.int s, .ref 0]) (L := []) rfl trivial ?_
  refine AW.callVp (amX1_send _) 2 (kX1_needSweeper C T L s hs) rfl rfl [0, 1, 2, 3, 4, 5, 6, 7, 8, 9, 10, 11, 12, 13, 14, 15, 16, 17, 18, 19, 20, 21, 22, 23, 24, 25, 26, 27] [] ykX1_needSweeper yiX1_needSweeper yvX1_needSweeper mlX1_76 rfl rfl rfl rfl hR ⟨Nat.le_of_ble_eq_true rfl, Nat.le_of_ble_eq_true rfl, Nat.le_of_ble_eq_true rfl, Nat.le_of_ble_eq_true rfl⟩ rfl rfl rfl rfl rfl (fun _ => rfl) (h1 := hM C T L) rfl (st' := []) rfl ?_
  refine AW.blk (amX1_send _) 3 1 (h' := hM C T L) (pc' := 6) (lv' := [(0, .ref 0), (1, .int s), (2, .int c)]) (st' := [.int c]) (L := []) rfl trivial ?_
  exact AW.callSX (amX1_send _) 4 (kX1_needCrossing_x c hc) [] [] hE rfl ykX1_needCrossing ysX1_needCrossing xl_23 rfl rfl rfl rfl hR ⟨Nat.le_of_ble_eq_true rfl, Nat.le_of_ble_eq_true rfl, Nat.le_of_ble_eq_true rfl, Nat.le_of_ble_eq_true rfl⟩ ⟨by decide, by decide⟩ rfl rfl rfl rfl
set_option maxHeartbeats 2000000 in
theorem kX1_buy_x1 (C T : CS) (L : Nat → Int32) (s : Int32) (hs : sSw s C.2.2.2.2.2.2.2.2.2.2.2.2.1 = 0) : AMetX yX1_buy cX1_buy 2 (some .int) { frames := 7, cells := 1, slots := 6, locals := 103 } [.ref 0, .int s] (hM C T L) nI0 := by
  refine AMetX.of (by decide) rfl ?_
  intro G hR hE
  refine AW.blk (amX1_buy _) 0 2 (h' := hM C T L) (pc' := 2) (lv' := [(0, .ref 0), (1, .int s)]) (st' := [.int s, .ref 0]) (L := []) rfl trivial ?_
  exact AW.callVX (amX1_buy _) 2 (kX1_needSweeper_x C T L s hs) rfl rfl [0, 1, 2, 3, 4, 5, 6, 7, 8, 9, 10, 11, 12, 13, 14, 15, 16, 17, 18, 19, 20, 21, 22, 23, 24, 25, 26, 27] [] hE rfl ykX1_needSweeper yiX1_needSweeper yvX1_needSweeper xl_76 rfl rfl rfl rfl hR ⟨Nat.le_of_ble_eq_true rfl, Nat.le_of_ble_eq_true rfl, Nat.le_of_ble_eq_true rfl, Nat.le_of_ble_eq_true rfl⟩ ⟨by decide, by decide⟩ rfl rfl rfl rfl
set_option maxHeartbeats 2000000 in
theorem kX1_buy_x2 (C T : CS) (L : Nat → Int32) (s : Int32) (hs : ¬ sSw s C.2.2.2.2.2.2.2.2.2.2.2.2.1 = 0) (h : ¬ 5 ≤ C.2.2.2.2.2.2.2.2.2.1 s.toNatClampNeg) : AMetX yX1_buy cX1_buy 2 (some .int) { frames := 7, cells := 1, slots := 6, locals := 103 } [.ref 0, .int s] (hM C T L) nS0 := by
  refine AMetX.of (by decide) rfl ?_
  intro G hR hE
  refine AW.blk (amX1_buy _) 0 2 (h' := hM C T L) (pc' := 2) (lv' := [(0, .ref 0), (1, .int s)]) (st' := [.int s, .ref 0]) (L := []) rfl trivial ?_
  refine AW.callVp (amX1_buy _) 2 (kX1_needSweeper C T L s hs) rfl rfl [0, 1, 2, 3, 4, 5, 6, 7, 8, 9, 10, 11, 12, 13, 14, 15, 16, 17, 18, 19, 20, 21, 22, 23, 24, 25, 26, 27] [] ykX1_needSweeper yiX1_needSweeper yvX1_needSweeper mlX1_76 rfl rfl rfl rfl hR ⟨Nat.le_of_ble_eq_true rfl, Nat.le_of_ble_eq_true rfl, Nat.le_of_ble_eq_true rfl, Nat.le_of_ble_eq_true rfl⟩ rfl rfl rfl rfl rfl (fun _ => rfl) (h1 := hM C T L) rfl (st' := []) rfl ?_
  refine AW.blk (amX1_buy _) 3 6 (h' := hM C T L) (pc' := 15) (lv' := [(0, .ref 0), (1, .int s)]) (st' := [.int 5, .int (C.2.2.2.2.2.2.2.2.2.1 s.toNatClampNeg)]) (L := [vp_in s 8]) rfl (sSw_in hs) ?_
  refine AW.br (amX1_buy _) 9 (tgt := 28) (C := 5 ≤ (C.2.2.2.2.2.2.2.2.2.1 s.toNatClampNeg)) (C' := ¬ 5 ≤ (C.2.2.2.2.2.2.2.2.2.1 s.toNatClampNeg)) (st' := []) rfl rfl rfl (fun c9 => absurd c9 h) (fun c9 => ?_)
  exact (AW.throwS (names := nmE) (amX1_buy _) 10 hE rfl rfl fiS fitE clS iniS atS goS xt_88 rfl rfl rfl rfl rfl hR ⟨by decide, by decide, by decide, by decide⟩ ⟨by decide, by decide⟩)
set_option maxHeartbeats 2000000 in
theorem kX1_sweeper_x1 (C T : CS) (L : Nat → Int32) (s w : Int32) (hs : sSw s C.2.2.2.2.2.2.2.2.2.2.2.2.1 = 0) : AMetX yX1_sweeper cX1_sweeper 3 (some .int) { frames := 7, cells := 1, slots := 6, locals := 104 } [.ref 0, .int s, .int w] (hM C T L) nI0 := by
  refine AMetX.of (by decide) rfl ?_
  intro G hR hE
  refine AW.blk (amX1_sweeper _) 0 2 (h' := hM C T L) (pc' := 2) (lv' := [(0, .ref 0), (1, .int s), (2, .int w)]) (st' := [.int s, .ref 0]) (L := []) rfl trivial ?_
  exact AW.callVX (amX1_sweeper _) 2 (kX1_needSweeper_x C T L s hs) rfl rfl [0, 1, 2, 3, 4, 5, 6, 7, 8, 9, 10, 11, 12, 13, 14, 15, 16, 17, 18, 19, 20, 21, 22, 23, 24, 25, 26, 27] [] hE rfl ykX1_needSweeper yiX1_needSweeper yvX1_needSweeper xl_76 rfl rfl rfl rfl hR ⟨Nat.le_of_ble_eq_true rfl, Nat.le_of_ble_eq_true rfl, Nat.le_of_ble_eq_true rfl, Nat.le_of_ble_eq_true rfl⟩ ⟨by decide, by decide⟩ rfl rfl rfl rfl
set_option maxHeartbeats 2000000 in
theorem kX1_sweeper_x2 (C T : CS) (L : Nat → Int32) (s w : Int32) (hs : ¬ sSw s C.2.2.2.2.2.2.2.2.2.2.2.2.1 = 0) (h : w < 0 ∨ ¬ w < 8) : AMetX yX1_sweeper cX1_sweeper 3 (some .int) { frames := 7, cells := 1, slots := 6, locals := 104 } [.ref 0, .int s, .int w] (hM C T L) nI0 := by
  refine AMetX.of (by decide) rfl ?_
  intro G hR hE
  refine AW.blk (amX1_sweeper _) 0 2 (h' := hM C T L) (pc' := 2) (lv' := [(0, .ref 0), (1, .int s), (2, .int w)]) (st' := [.int s, .ref 0]) (L := []) rfl trivial ?_
  refine AW.callVp (amX1_sweeper _) 2 (kX1_needSweeper C T L s hs) rfl rfl [0, 1, 2, 3, 4, 5, 6, 7, 8, 9, 10, 11, 12, 13, 14, 15, 16, 17, 18, 19, 20, 21, 22, 23, 24, 25, 26, 27] [] ykX1_needSweeper yiX1_needSweeper yvX1_needSweeper mlX1_76 rfl rfl rfl rfl hR ⟨Nat.le_of_ble_eq_true rfl, Nat.le_of_ble_eq_true rfl, Nat.le_of_ble_eq_true rfl, Nat.le_of_ble_eq_true rfl⟩ rfl rfl rfl rfl rfl (fun _ => rfl) (h1 := hM C T L) rfl (st' := []) rfl ?_
  refine AW.blk (amX1_sweeper _) 3 2 (h' := hM C T L) (pc' := 8) (lv' := [(0, .ref 0), (1, .int s), (2, .int w)]) (st' := [.int 8, .int w]) (L := []) rfl trivial ?_
  exact AW.callSX (amX1_sweeper _) 5 (kX1_needFact_x w 8 h) [] [] hE rfl ykX1_needFact ysX1_needFact xl_93 rfl rfl rfl rfl hR ⟨Nat.le_of_ble_eq_true rfl, Nat.le_of_ble_eq_true rfl, Nat.le_of_ble_eq_true rfl, Nat.le_of_ble_eq_true rfl⟩ ⟨by decide, by decide⟩ rfl rfl rfl rfl
set_option maxHeartbeats 2000000 in
theorem kX1_crossing_x1 (C T : CS) (L : Nat → Int32) (c w : Int32) (hc : sCr c = 0) : AMetX yX1_crossing cX1_crossing 3 (some .int) { frames := 7, cells := 1, slots := 6, locals := 104 } [.ref 0, .int c, .int w] (hM C T L) nI0 := by
  refine AMetX.of (by decide) rfl ?_
  intro G hR hE
  refine AW.blk (amX1_crossing _) 0 1 (h' := hM C T L) (pc' := 1) (lv' := [(0, .ref 0), (1, .int c), (2, .int w)]) (st' := [.int c]) (L := []) rfl trivial ?_
  exact AW.callSX (amX1_crossing _) 1 (kX1_needCrossing_x c hc) [] [] hE rfl ykX1_needCrossing ysX1_needCrossing xl_23 rfl rfl rfl rfl hR ⟨Nat.le_of_ble_eq_true rfl, Nat.le_of_ble_eq_true rfl, Nat.le_of_ble_eq_true rfl, Nat.le_of_ble_eq_true rfl⟩ ⟨by decide, by decide⟩ rfl rfl rfl rfl
set_option maxHeartbeats 2000000 in
theorem kX1_crossing_x2 (C T : CS) (L : Nat → Int32) (c w : Int32) (hc : ¬ sCr c = 0) (h : w < 0 ∨ ¬ w < 6) : AMetX yX1_crossing cX1_crossing 3 (some .int) { frames := 7, cells := 1, slots := 6, locals := 104 } [.ref 0, .int c, .int w] (hM C T L) nI0 := by
  refine AMetX.of (by decide) rfl ?_
  intro G hR hE
  refine AW.blk (amX1_crossing _) 0 1 (h' := hM C T L) (pc' := 1) (lv' := [(0, .ref 0), (1, .int c), (2, .int w)]) (st' := [.int c]) (L := []) rfl trivial ?_
  refine AW.callSp (amX1_crossing _) 1 (kX1_needCrossing c hc) [] [] ykX1_needCrossing ysX1_needCrossing mlX1_23 rfl rfl rfl rfl hR ⟨Nat.le_of_ble_eq_true rfl, Nat.le_of_ble_eq_true rfl, Nat.le_of_ble_eq_true rfl, Nat.le_of_ble_eq_true rfl⟩ rfl rfl rfl rfl rfl (fun _ => rfl) (h1 := hM C T L) rfl (st' := []) rfl ?_
  refine AW.blk (amX1_crossing _) 2 2 (h' := hM C T L) (pc' := 7) (lv' := [(0, .ref 0), (1, .int c), (2, .int w)]) (st' := [.int 6, .int w]) (L := []) rfl trivial ?_
  exact AW.callSX (amX1_crossing _) 4 (kX1_needFact_x w 6 h) [] [] hE rfl ykX1_needFact ysX1_needFact xl_93 rfl rfl rfl rfl hR ⟨Nat.le_of_ble_eq_true rfl, Nat.le_of_ble_eq_true rfl, Nat.le_of_ble_eq_true rfl, Nat.le_of_ble_eq_true rfl⟩ ⟨by decide, by decide⟩ rfl rfl rfl rfl
set_option maxHeartbeats 2000000 in
theorem kX1_count_x1 (C T : CS) (L : Nat → Int32) (w : Int32) (h : w < 0 ∨ ¬ w < 8) : AMetX yX1_count cX1_count 2 (some .int) { frames := 7, cells := 1, slots := 6, locals := 103 } [.ref 0, .int w] (hM C T L) nI0 := by
  refine AMetX.of (by decide) rfl ?_
  intro G hR hE
  refine AW.blk (amX1_count _) 0 2 (h' := hM C T L) (pc' := 3) (lv' := [(0, .ref 0), (1, .int w)]) (st' := [.int 8, .int w]) (L := []) rfl trivial ?_
  exact AW.callSX (amX1_count _) 2 (kX1_needFact_x w 8 h) [] [] hE rfl ykX1_needFact ysX1_needFact xl_93 rfl rfl rfl rfl hR ⟨Nat.le_of_ble_eq_true rfl, Nat.le_of_ble_eq_true rfl, Nat.le_of_ble_eq_true rfl, Nat.le_of_ble_eq_true rfl⟩ ⟨by decide, by decide⟩ rfl rfl rfl rfl
set_option maxHeartbeats 2000000 in
theorem kX1_pass_x1 (C T : CS) (L : Nat → Int32) (t : Int32) (h : t < 1 ∨ ¬ t ≤ 96) : AMetX yX1_pass cX1_pass 2 (some .int) { frames := 7, cells := 1, slots := 6, locals := 103 } [.ref 0, .int t] (hM C T L) nA0 := by
  refine AMetX.of (by decide) rfl ?_
  intro G hR hE
  refine AW.blk (amX1_pass _) 0 1 (h' := hM C T L) (pc' := 1) (lv' := [(0, .ref 0), (1, .int t)]) (st' := [.int t]) (L := []) rfl trivial ?_
  exact AW.callSX (amX1_pass _) 1 (kX1_needQuarters_x t h) [] [] hE rfl ykX1_needQuarters ysX1_needQuarters xl_106 rfl rfl rfl rfl hR ⟨Nat.le_of_ble_eq_true rfl, Nat.le_of_ble_eq_true rfl, Nat.le_of_ble_eq_true rfl, Nat.le_of_ble_eq_true rfl⟩ ⟨by decide, by decide⟩ rfl rfl rfl rfl
set_option maxHeartbeats 2000000 in
theorem kX1_way_x1 (C T : CS) (L : Nat → Int32) (a b : Int32) (ha : sCr a = 0) : AMetX yX1_way cX1_way 4 (some .int) { frames := 7, cells := 1, slots := 6, locals := 105 } [.ref 0, .int a, .int b] (hM C T L) nI0 := by
  refine AMetX.of (by decide) rfl ?_
  intro G hR hE
  refine AW.blk (amX1_way _) 0 1 (h' := hM C T L) (pc' := 1) (lv' := [(0, .ref 0), (1, .int a), (2, .int b)]) (st' := [.int a]) (L := []) rfl trivial ?_
  exact AW.callSX (amX1_way _) 1 (kX1_needCrossing_x a ha) [] [] hE rfl ykX1_needCrossing ysX1_needCrossing xl_23 rfl rfl rfl rfl hR ⟨Nat.le_of_ble_eq_true rfl, Nat.le_of_ble_eq_true rfl, Nat.le_of_ble_eq_true rfl, Nat.le_of_ble_eq_true rfl⟩ ⟨by decide, by decide⟩ rfl rfl rfl rfl
set_option maxHeartbeats 2000000 in
theorem kX1_way_x2 (C T : CS) (L : Nat → Int32) (a b : Int32) (ha : ¬ sCr a = 0) (hb : sCr b = 0) : AMetX yX1_way cX1_way 4 (some .int) { frames := 7, cells := 1, slots := 6, locals := 105 } [.ref 0, .int a, .int b] (hM C T L) nI0 := by
  refine AMetX.of (by decide) rfl ?_
  intro G hR hE
  refine AW.blk (amX1_way _) 0 1 (h' := hM C T L) (pc' := 1) (lv' := [(0, .ref 0), (1, .int a), (2, .int b)]) (st' := [.int a]) (L := []) rfl trivial ?_
  refine AW.callSp (amX1_way _) 1 (kX1_needCrossing a ha) [] [] ykX1_needCrossing ysX1_needCrossing mlX1_23 rfl rfl rfl rfl hR ⟨Nat.le_of_ble_eq_true rfl, Nat.le_of_ble_eq_true rfl, Nat.le_of_ble_eq_true rfl, Nat.le_of_ble_eq_true rfl⟩ rfl rfl rfl rfl rfl (fun _ => rfl) (h1 := hM C T L) rfl (st' := []) rfl ?_
  refine AW.blk (amX1_way _) 2 1 (h' := hM C T L) (pc' := 5) (lv' := [(0, .ref 0), (1, .int a), (2, .int b)]) (st' := [.int b]) (L := []) rfl trivial ?_
  exact AW.callSX (amX1_way _) 3 (kX1_needCrossing_x b hb) [] [] hE rfl ykX1_needCrossing ysX1_needCrossing xl_23 rfl rfl rfl rfl hR ⟨Nat.le_of_ble_eq_true rfl, Nat.le_of_ble_eq_true rfl, Nat.le_of_ble_eq_true rfl, Nat.le_of_ble_eq_true rfl⟩ ⟨by decide, by decide⟩ rfl rfl rfl rfl
set_option maxHeartbeats 2000000 in
theorem kX1_earns_x1 (C T : CS) (L : Nat → Int32) (s t : Int32) (hs : sSw s C.2.2.2.2.2.2.2.2.2.2.2.2.1 = 0) : AMetX yX1_earns cX1_earns 3 (some .int) { frames := 7, cells := 1, slots := 6, locals := 108 } [.ref 0, .int s, .int t] (hM C T L) nI0 := by
  refine AMetX.of (by decide) rfl ?_
  intro G hR hE
  refine AW.blk (amX1_earns _) 0 2 (h' := hM C T L) (pc' := 2) (lv' := [(0, .ref 0), (1, .int s), (2, .int t)]) (st' := [.int s, .ref 0]) (L := []) rfl trivial ?_
  exact AW.callVX (amX1_earns _) 2 (kX1_needSweeper_x C T L s hs) rfl rfl [0, 1, 2, 3, 4, 5, 6, 7, 8, 9, 10, 11, 12, 13, 14, 15, 16, 17, 18, 19, 20, 21, 22, 23, 24, 25, 26, 27] [] hE rfl ykX1_needSweeper yiX1_needSweeper yvX1_needSweeper xl_76 rfl rfl rfl rfl hR ⟨Nat.le_of_ble_eq_true rfl, Nat.le_of_ble_eq_true rfl, Nat.le_of_ble_eq_true rfl, Nat.le_of_ble_eq_true rfl⟩ ⟨by decide, by decide⟩ rfl rfl rfl rfl
set_option maxHeartbeats 2000000 in
theorem kX1_earns_x2 (C T : CS) (L : Nat → Int32) (s t : Int32) (hs : ¬ sSw s C.2.2.2.2.2.2.2.2.2.2.2.2.1 = 0) (h : t < 1 ∨ ¬ t ≤ 96) : AMetX yX1_earns cX1_earns 3 (some .int) { frames := 7, cells := 1, slots := 6, locals := 108 } [.ref 0, .int s, .int t] (hM C T L) nA0 := by
  refine AMetX.of (by decide) rfl ?_
  intro G hR hE
  refine AW.blk (amX1_earns _) 0 2 (h' := hM C T L) (pc' := 2) (lv' := [(0, .ref 0), (1, .int s), (2, .int t)]) (st' := [.int s, .ref 0]) (L := []) rfl trivial ?_
  refine AW.callVp (amX1_earns _) 2 (kX1_needSweeper C T L s hs) rfl rfl [0, 1, 2, 3, 4, 5, 6, 7, 8, 9, 10, 11, 12, 13, 14, 15, 16, 17, 18, 19, 20, 21, 22, 23, 24, 25, 26, 27] [] ykX1_needSweeper yiX1_needSweeper yvX1_needSweeper mlX1_76 rfl rfl rfl rfl hR ⟨Nat.le_of_ble_eq_true rfl, Nat.le_of_ble_eq_true rfl, Nat.le_of_ble_eq_true rfl, Nat.le_of_ble_eq_true rfl⟩ rfl rfl rfl rfl rfl (fun _ => rfl) (h1 := hM C T L) rfl (st' := []) rfl ?_
  refine AW.blk (amX1_earns _) 3 1 (h' := hM C T L) (pc' := 6) (lv' := [(0, .ref 0), (1, .int s), (2, .int t)]) (st' := [.int t]) (L := []) rfl trivial ?_
  exact AW.callSX (amX1_earns _) 4 (kX1_needQuarters_x t h) [] [] hE rfl ykX1_needQuarters ysX1_needQuarters xl_106 rfl rfl rfl rfl hR ⟨Nat.le_of_ble_eq_true rfl, Nat.le_of_ble_eq_true rfl, Nat.le_of_ble_eq_true rfl, Nat.le_of_ble_eq_true rfl⟩ ⟨by decide, by decide⟩ rfl rfl rfl rfl
set_option maxHeartbeats 2000000 in
theorem kX1_advise_x1 (C T : CS) (L : Nat → Int32) (s t : Int32) (hs : sSw s C.2.2.2.2.2.2.2.2.2.2.2.2.1 = 0) : AMetX yX1_advise cX1_advise 7 (some .int) { frames := 7, cells := 1, slots := 6, locals := 108 } [.ref 0, .int s, .int t] (hM C T L) nI0 := by
  refine AMetX.of (by decide) rfl ?_
  intro G hR hE
  refine AW.blk (amX1_advise _) 0 2 (h' := hM C T L) (pc' := 2) (lv' := [(0, .ref 0), (1, .int s), (2, .int t)]) (st' := [.int s, .ref 0]) (L := []) rfl trivial ?_
  exact AW.callVX (amX1_advise _) 2 (kX1_needSweeper_x C T L s hs) rfl rfl [0, 1, 2, 3, 4, 5, 6, 7, 8, 9, 10, 11, 12, 13, 14, 15, 16, 17, 18, 19, 20, 21, 22, 23, 24, 25, 26, 27] [] hE rfl ykX1_needSweeper yiX1_needSweeper yvX1_needSweeper xl_76 rfl rfl rfl rfl hR ⟨Nat.le_of_ble_eq_true rfl, Nat.le_of_ble_eq_true rfl, Nat.le_of_ble_eq_true rfl, Nat.le_of_ble_eq_true rfl⟩ ⟨by decide, by decide⟩ rfl rfl rfl rfl
set_option maxHeartbeats 2000000 in
theorem kX1_advise_x2 (C T : CS) (L : Nat → Int32) (s t : Int32) (hs : ¬ sSw s C.2.2.2.2.2.2.2.2.2.2.2.2.1 = 0) (h : t < 1 ∨ ¬ t ≤ 96) : AMetX yX1_advise cX1_advise 7 (some .int) { frames := 7, cells := 1, slots := 6, locals := 108 } [.ref 0, .int s, .int t] (hM C T L) nA0 := by
  refine AMetX.of (by decide) rfl ?_
  intro G hR hE
  refine AW.blk (amX1_advise _) 0 2 (h' := hM C T L) (pc' := 2) (lv' := [(0, .ref 0), (1, .int s), (2, .int t)]) (st' := [.int s, .ref 0]) (L := []) rfl trivial ?_
  refine AW.callVp (amX1_advise _) 2 (kX1_needSweeper C T L s hs) rfl rfl [0, 1, 2, 3, 4, 5, 6, 7, 8, 9, 10, 11, 12, 13, 14, 15, 16, 17, 18, 19, 20, 21, 22, 23, 24, 25, 26, 27] [] ykX1_needSweeper yiX1_needSweeper yvX1_needSweeper mlX1_76 rfl rfl rfl rfl hR ⟨Nat.le_of_ble_eq_true rfl, Nat.le_of_ble_eq_true rfl, Nat.le_of_ble_eq_true rfl, Nat.le_of_ble_eq_true rfl⟩ rfl rfl rfl rfl rfl (fun _ => rfl) (h1 := hM C T L) rfl (st' := []) rfl ?_
  refine AW.blk (amX1_advise _) 3 1 (h' := hM C T L) (pc' := 6) (lv' := [(0, .ref 0), (1, .int s), (2, .int t)]) (st' := [.int t]) (L := []) rfl trivial ?_
  exact AW.callSX (amX1_advise _) 4 (kX1_needQuarters_x t h) [] [] hE rfl ykX1_needQuarters ysX1_needQuarters xl_106 rfl rfl rfl rfl hR ⟨Nat.le_of_ble_eq_true rfl, Nat.le_of_ble_eq_true rfl, Nat.le_of_ble_eq_true rfl, Nat.le_of_ble_eq_true rfl⟩ ⟨by decide, by decide⟩ rfl rfl rfl rfl
set_option maxHeartbeats 2000000 in
theorem kX1_foresee_x1 (C T : CS) (L : Nat → Int32) (t w : Int32) (h : t < 1 ∨ ¬ t ≤ 96) : AMetX yX1_foresee cX1_foresee 4 (some .int) { frames := 7, cells := 1, slots := 6, locals := 105 } [.ref 0, .int t, .int w] (hM C T L) nA0 := by
  refine AMetX.of (by decide) rfl ?_
  intro G hR hE
  refine AW.blk (amX1_foresee _) 0 1 (h' := hM C T L) (pc' := 1) (lv' := [(0, .ref 0), (1, .int t), (2, .int w)]) (st' := [.int t]) (L := []) rfl trivial ?_
  exact AW.callSX (amX1_foresee _) 1 (kX1_needQuarters_x t h) [] [] hE rfl ykX1_needQuarters ysX1_needQuarters xl_106 rfl rfl rfl rfl hR ⟨Nat.le_of_ble_eq_true rfl, Nat.le_of_ble_eq_true rfl, Nat.le_of_ble_eq_true rfl, Nat.le_of_ble_eq_true rfl⟩ ⟨by decide, by decide⟩ rfl rfl rfl rfl
set_option maxHeartbeats 2000000 in
theorem kX1_foresee_x2 (C T : CS) (L : Nat → Int32) (t w : Int32) (h1 : ¬ t < 1) (h2 : t ≤ 96) (h : w < 0 ∨ ¬ w < 3) : AMetX yX1_foresee cX1_foresee 4 (some .int) { frames := 7, cells := 1, slots := 6, locals := 105 } [.ref 0, .int t, .int w] (hM C T L) nI0 := by
  refine AMetX.of (by decide) rfl ?_
  intro G hR hE
  refine AW.blk (amX1_foresee _) 0 1 (h' := hM C T L) (pc' := 1) (lv' := [(0, .ref 0), (1, .int t), (2, .int w)]) (st' := [.int t]) (L := []) rfl trivial ?_
  refine AW.callSp (amX1_foresee _) 1 (kX1_needQuarters t h1 h2) [] [] ykX1_needQuarters ysX1_needQuarters mlX1_106 rfl rfl rfl rfl hR ⟨Nat.le_of_ble_eq_true rfl, Nat.le_of_ble_eq_true rfl, Nat.le_of_ble_eq_true rfl, Nat.le_of_ble_eq_true rfl⟩ rfl rfl rfl rfl rfl (fun _ => rfl) (h1 := hM C T L) rfl (st' := []) rfl ?_
  refine AW.blk (amX1_foresee _) 2 2 (h' := hM C T L) (pc' := 6) (lv' := [(0, .ref 0), (1, .int t), (2, .int w)]) (st' := [.int 3, .int w]) (L := []) rfl trivial ?_
  exact AW.callSX (amX1_foresee _) 4 (kX1_needFact_x w 3 h) [] [] hE rfl ykX1_needFact ysX1_needFact xl_93 rfl rfl rfl rfl hR ⟨Nat.le_of_ble_eq_true rfl, Nat.le_of_ble_eq_true rfl, Nat.le_of_ble_eq_true rfl, Nat.le_of_ble_eq_true rfl⟩ ⟨by decide, by decide⟩ rfl rfl rfl rfl
