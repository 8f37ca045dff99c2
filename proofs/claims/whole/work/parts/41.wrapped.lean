/-! ===== the law's wrappers ===== -/
theorem cL_I : Cond.classLink RL 13 nI0 ∈ kxl := by decide +kernel
theorem cL_A : Cond.classLink RL 15 nA0 ∈ kxl := by decide +kernel
theorem cL_S : Cond.classLink RL 27 nS0 ∈ kxl := by decide +kernel
theorem ca_I : Cond.castable nI0 nI0 ∈ kxl := by decide +kernel
theorem ca_A : Cond.castable nA0 nA0 ∈ kxl := by decide +kernel
theorem ca_S : Cond.castable nS0 nS0 ∈ kxl := by decide +kernel
theorem vo_0 : vp_in (0 : Int32) 1 := vpi (i := 0) (by decide) rfl
theorem xE_I : nI0 ∈ xE := by decide
theorem xE_A : nA0 ∈ xE := by decide
theorem xE_S : nS0 ∈ xE := by decide
theorem xlL_7 : Cond.methodLink RL 7 yX1_set ∈ kwl := by decide +kernel
def hh_set : List (Nat × Nat × Nat × Nat) := [(0, 12, 15, 13), (0, 12, 19, 15)]
set_option maxHeartbeats 2000000 in
theorem kL_set (C T : CS) (L : Nat → Int32) (c a b : Int32) (hc : ¬ sCr c = 0) (h1 : ¬ a < 0) (h2 : a ≤ 9) (h3 : ¬ b < 0) (h4 : b ≤ 30) (O : Nat → Int64) : AMetW yL_set cL_set 6 (some .int) hh_set { frames := 8, cells := 1, slots := 6, locals := 130 } [.ref 0, .int c, .int a, .int b, .ref 28] (hM C T L ++ [aL 1 O]) (some (.int 0)) (hM (C.1, upd C.2.1 c.toNatClampNeg a, upd C.2.2.1 c.toNatClampNeg b, C.2.2.2.1, C.2.2.2.2.1, C.2.2.2.2.2.1, C.2.2.2.2.2.2.1, C.2.2.2.2.2.2.2.1, C.2.2.2.2.2.2.2.2.1, C.2.2.2.2.2.2.2.2.2.1, C.2.2.2.2.2.2.2.2.2.2.1, C.2.2.2.2.2.2.2.2.2.2.2.1, C.2.2.2.2.2.2.2.2.2.2.2.2.1, C.2.2.2.2.2.2.2.2.2.2.2.2.2) T L ++ [aL 1 (vp_updL O (0 : Int32).toNatClampNeg ((100 * C.2.1 c.toNatClampNeg + C.2.2.1 c.toNatClampNeg)).toInt64)]) := by
  refine AMetW.of (by decide) rfl ?_
  intro G hR hE hX
  refine AW.blk (amL_set _) 0 6 (h' := hM C T L ++ [aL 1 O]) (pc' := 7) (lv' := [(0, .ref 0), (1, .int c), (2, .int a), (3, .int b), (4, .ref 28)]) (st' := [.int b, .int a, .int c, .ref 0, .int 0, .ref 28]) (L := []) rfl trivial ?_
  refine AW.callVp (amL_set _) 6 (kX1_set C T L c a b hc h1 h2 h3 h4) rfl rfl [0, 1, 2, 3, 4, 5, 6, 7, 8, 9, 10, 11, 12, 13, 14, 15, 16, 17, 18, 19, 20, 21, 22, 23, 24, 25, 26, 27] [] ykX1_set yiX1_set yvX1_set mlL_7 rfl rfl rfl rfl hR ⟨Nat.le_of_ble_eq_true rfl, Nat.le_of_ble_eq_true rfl, Nat.le_of_ble_eq_true rfl, Nat.le_of_ble_eq_true rfl⟩ rfl rfl rfl rfl rfl (fun _ => rfl) (h1 := hM (C.1, upd C.2.1 c.toNatClampNeg a, upd C.2.2.1 c.toNatClampNeg b, C.2.2.2.1, C.2.2.2.2.1, C.2.2.2.2.2.1, C.2.2.2.2.2.2.1, C.2.2.2.2.2.2.2.1, C.2.2.2.2.2.2.2.2.1, C.2.2.2.2.2.2.2.2.2.1, C.2.2.2.2.2.2.2.2.2.2.1, C.2.2.2.2.2.2.2.2.2.2.2.1, C.2.2.2.2.2.2.2.2.2.2.2.2.1, C.2.2.2.2.2.2.2.2.2.2.2.2.2) T L ++ [aL 1 O]) rfl (st' := [.int ((100 * C.2.1 c.toNatClampNeg + C.2.2.1 c.toNatClampNeg)), .int 0, .ref 28]) rfl ?_
  refine AW.blk (amL_set _) 7 3 (h' := hM (C.1, upd C.2.1 c.toNatClampNeg a, upd C.2.2.1 c.toNatClampNeg b, C.2.2.2.1, C.2.2.2.2.1, C.2.2.2.2.2.1, C.2.2.2.2.2.2.1, C.2.2.2.2.2.2.2.1, C.2.2.2.2.2.2.2.2.1, C.2.2.2.2.2.2.2.2.2.1, C.2.2.2.2.2.2.2.2.2.2.1, C.2.2.2.2.2.2.2.2.2.2.2.1, C.2.2.2.2.2.2.2.2.2.2.2.2.1, C.2.2.2.2.2.2.2.2.2.2.2.2.2) T L ++ [aL 1 (vp_updL O (0 : Int32).toNatClampNeg ((100 * C.2.1 c.toNatClampNeg + C.2.2.1 c.toNatClampNeg)).toInt64)]) (pc' := 23) (lv' := [(0, .ref 0), (1, .int c), (2, .int a), (3, .int b), (4, .ref 28)]) (st' := []) (L := [vp_in 0 1]) rfl vo_0 ?_
  refine AW.blk (amL_set _) 16 1 (h' := hM (C.1, upd C.2.1 c.toNatClampNeg a, upd C.2.2.1 c.toNatClampNeg b, C.2.2.2.1, C.2.2.2.2.1, C.2.2.2.2.2.1, C.2.2.2.2.2.2.1, C.2.2.2.2.2.2.2.1, C.2.2.2.2.2.2.2.2.1, C.2.2.2.2.2.2.2.2.2.1, C.2.2.2.2.2.2.2.2.2.2.1, C.2.2.2.2.2.2.2.2.2.2.2.1, C.2.2.2.2.2.2.2.2.2.2.2.2.1, C.2.2.2.2.2.2.2.2.2.2.2.2.2) T L ++ [aL 1 (vp_updL O (0 : Int32).toNatClampNeg ((100 * C.2.1 c.toNatClampNeg + C.2.2.1 c.toNatClampNeg)).toInt64)]) (pc' := 24) (lv' := [(0, .ref 0), (1, .int c), (2, .int a), (3, .int b), (4, .ref 28)]) (st' := [.int 0]) (L := []) rfl trivial ?_
  exact AW.iretE (amL_set _) 17 hE rfl rfl rfl rfl rfl rfl rfl
set_option maxHeartbeats 2000000 in
theorem kL_set_x1 (C T : CS) (L : Nat → Int32) (c a b : Int32) (hc : sCr c = 0) (O : Nat → Int64) : AMetW yL_set cL_set 6 (some .int) hh_set { frames := 8, cells := 1, slots := 6, locals := 130 } [.ref 0, .int c, .int a, .int b, .ref 28] (hM C T L ++ [aL 1 O]) (some (.int 1)) (hM C T L ++ [aL 1 O]) := by
  refine AMetW.of (by decide) rfl ?_
  intro G hR hE hX
  refine AW.blk (amL_set _) 0 6 (h' := hM C T L ++ [aL 1 O]) (pc' := 7) (lv' := [(0, .ref 0), (1, .int c), (2, .int a), (3, .int b), (4, .ref 28)]) (st' := [.int b, .int a, .int c, .ref 0, .int 0, .ref 28]) (L := []) rfl trivial ?_
  refine AW.callVE (amL_set _) 6 (lv' := [(0, .ref 0), (1, .int c), (2, .int a), (3, .int b), (4, .ref 28)]) (jl := 17) (il := 5) (j := 10) [] (kX1_set_x1 C T L c a b hc) rfl rfl [0, 1, 2, 3, 4, 5, 6, 7, 8, 9, 10, 11, 12, 13, 14, 15, 16, 17, 18, 19, 20, 21, 22, 23, 24, 25, 26, 27] [] hX ykX1_set yiX1_set yvX1_set xlL_7 rfl rfl rfl rfl hR ⟨Nat.le_of_ble_eq_true rfl, Nat.le_of_ble_eq_true rfl, Nat.le_of_ble_eq_true rfl, Nat.le_of_ble_eq_true rfl⟩ rfl rfl rfl rfl rfl xE_I (show ∀ z ∈ ([] : List ((Nat × Nat × Nat × Nat) × String)), z.1.2.2.2 ≠ 0 ∧ Cond.classLink RL z.1.2.2.2 z.2 ∈ kxl ∧ z.2 ∈ xE ∧ nI0 ≠ z.2 from by decide +kernel) ⟨by decide, by decide⟩ (by decide) cL_I ca_I rfl rfl rfl rfl rfl ?_
  refine AW.blk (amL_set _) 11 1 (h' := hM C T L ++ [aL 1 O]) (pc' := 18) (lv' := [(0, .ref 0), (1, .int c), (2, .int a), (3, .int b), (4, .ref 28)]) (st' := [.int 1]) (L := []) rfl trivial ?_
  exact AW.iretE (amL_set _) 12 hE rfl rfl rfl rfl rfl rfl rfl
set_option maxHeartbeats 2000000 in
theorem kL_set_x2 (C T : CS) (L : Nat → Int32) (c a b : Int32) (hc : ¬ sCr c = 0) (h : a < 0 ∨ ¬ a ≤ 9) (O : Nat → Int64) : AMetW yL_set cL_set 6 (some .int) hh_set { frames := 8, cells := 1, slots := 6, locals := 130 } [.ref 0, .int c, .int a, .int b, .ref 28] (hM C T L ++ [aL 1 O]) (some (.int 2)) (hM C T L ++ [aL 1 O]) := by
  refine AMetW.of (by decide) rfl ?_
  intro G hR hE hX
  refine AW.blk (amL_set _) 0 6 (h' := hM C T L ++ [aL 1 O]) (pc' := 7) (lv' := [(0, .ref 0), (1, .int c), (2, .int a), (3, .int b), (4, .ref 28)]) (st' := [.int b, .int a, .int c, .ref 0, .int 0, .ref 28]) (L := []) rfl trivial ?_
  refine AW.callVE (amL_set _) 6 (lv' := [(0, .ref 0), (1, .int c), (2, .int a), (3, .int b), (4, .ref 28)]) (jl := 21) (il := 5) (j := 13) [((0, 12, 15, 13), nI0)] (kX1_set_x2 C T L c a b hc h) rfl rfl [0, 1, 2, 3, 4, 5, 6, 7, 8, 9, 10, 11, 12, 13, 14, 15, 16, 17, 18, 19, 20, 21, 22, 23, 24, 25, 26, 27] [] hX ykX1_set yiX1_set yvX1_set xlL_7 rfl rfl rfl rfl hR ⟨Nat.le_of_ble_eq_true rfl, Nat.le_of_ble_eq_true rfl, Nat.le_of_ble_eq_true rfl, Nat.le_of_ble_eq_true rfl⟩ rfl rfl rfl rfl rfl xE_A (show ∀ z ∈ ([((0, 12, 15, 13), nI0)] : List ((Nat × Nat × Nat × Nat) × String)), z.1.2.2.2 ≠ 0 ∧ Cond.classLink RL z.1.2.2.2 z.2 ∈ kxl ∧ z.2 ∈ xE ∧ nA0 ≠ z.2 from by decide +kernel) ⟨by decide, by decide⟩ (by decide) cL_A ca_A rfl rfl rfl rfl rfl ?_
  refine AW.blk (amL_set _) 14 1 (h' := hM C T L ++ [aL 1 O]) (pc' := 22) (lv' := [(0, .ref 0), (1, .int c), (2, .int a), (3, .int b), (4, .ref 28)]) (st' := [.int 2]) (L := []) rfl trivial ?_
  exact AW.iretE (amL_set _) 15 hE rfl rfl rfl rfl rfl rfl rfl
set_option maxHeartbeats 2000000 in
theorem kL_set_x3 (C T : CS) (L : Nat → Int32) (c a b : Int32) (hc : ¬ sCr c = 0) (h1 : ¬ a < 0) (h2 : a ≤ 9) (h : b < 0 ∨ ¬ b ≤ 30) (O : Nat → Int64) : AMetW yL_set cL_set 6 (some .int) hh_set { frames := 8, cells := 1, slots := 6, locals := 130 } [.ref 0, .int c, .int a, .int b, .ref 28] (hM C T L ++ [aL 1 O]) (some (.int 2)) (hM C T L ++ [aL 1 O]) := by
  refine AMetW.of (by decide) rfl ?_
  intro G hR hE hX
  refine AW.blk (amL_set _) 0 6 (h' := hM C T L ++ [aL 1 O]) (pc' := 7) (lv' := [(0, .ref 0), (1, .int c), (2, .int a), (3, .int b), (4, .ref 28)]) (st' := [.int b, .int a, .int c, .ref 0, .int 0, .ref 28]) (L := []) rfl trivial ?_
  refine AW.callVE (amL_set _) 6 (lv' := [(0, .ref 0), (1, .int c), (2, .int a), (3, .int b), (4, .ref 28)]) (jl := 21) (il := 5) (j := 13) [((0, 12, 15, 13), nI0)] (kX1_set_x3 C T L c a b hc h1 h2 h) rfl rfl [0, 1, 2, 3, 4, 5, 6, 7, 8, 9, 10, 11, 12, 13, 14, 15, 16, 17, 18, 19, 20, 21, 22, 23, 24, 25, 26, 27] [] hX ykX1_set yiX1_set yvX1_set xlL_7 rfl rfl rfl rfl hR ⟨Nat.le_of_ble_eq_true rfl, Nat.le_of_ble_eq_true rfl, Nat.le_of_ble_eq_true rfl, Nat.le_of_ble_eq_true rfl⟩ rfl rfl rfl rfl rfl xE_A (show ∀ z ∈ ([((0, 12, 15, 13), nI0)] : List ((Nat × Nat × Nat × Nat) × String)), z.1.2.2.2 ≠ 0 ∧ Cond.classLink RL z.1.2.2.2 z.2 ∈ kxl ∧ z.2 ∈ xE ∧ nA0 ≠ z.2 from by decide +kernel) ⟨by decide, by decide⟩ (by decide) cL_A ca_A rfl rfl rfl rfl rfl ?_
  refine AW.blk (amL_set _) 14 1 (h' := hM C T L ++ [aL 1 O]) (pc' := 22) (lv' := [(0, .ref 0), (1, .int c), (2, .int a), (3, .int b), (4, .ref 28)]) (st' := [.int 2]) (L := []) rfl trivial ?_
  exact AW.iretE (amL_set _) 15 hE rfl rfl rfl rfl rfl rfl rfl
