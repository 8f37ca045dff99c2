/-! ===== new MudSweepers() ===== -/
theorem kclX1_7 : Cond.classLink RX1 7 RX0 ∈ kwl := by decide +kernel
theorem kclX3_25 : Cond.classLink RX3 25 RX2 ∈ kwl := by decide +kernel
theorem kins0 : Cond.instantiable RX0 14 ∈ kwl := by decide +kernel
theorem kini0 : Cond.initialized RX0 ∈ kwl := by decide +kernel
theorem dfX0 : ∀ j, j < 14 → defaultValue (tyX0 j) = vp_V [.null, .null, .null, .null, .null, .null, .null, .null, .null, .null, .null, .null, .int 0, .int 0] j := by decide +kernel
theorem kins1 : Cond.instantiable RX1 3 ∈ kwl := by decide +kernel
theorem kini1 : Cond.initialized RX1 ∈ kwl := by decide +kernel
theorem dfX1 : ∀ j, j < 3 → defaultValue (tyX1 j) = vp_V [.null, .null, .null] j := by decide +kernel
theorem kins2 : Cond.instantiable RX2 10 ∈ kwl := by decide +kernel
theorem kini2 : Cond.initialized RX2 ∈ kwl := by decide +kernel
theorem dfX2 : ∀ j, j < 10 → defaultValue (tyX2 j) = vp_V [.int 0, .null, .null, .null, .null, .null, .null, .null, .null, .null] j := by decide +kernel
theorem kins3 : Cond.instantiable RX3 9 ∈ kwl := by decide +kernel
theorem kini3 : Cond.initialized RX3 ∈ kwl := by decide +kernel
theorem dfX3 : ∀ j, j < 9 → defaultValue (tyX3 j) = vp_V [.int 0, .null, .null, .null, .int 0, .null, .null, .null, .null] j := by decide +kernel
theorem kX0_initS : AMet yX0_init cX0_init 2 none { frames := 1, cells := 12, slots := 101, locals := 40 } [.ref 0] [aO 0 [.null, .null, .null, .null, .null, .null, .null, .null, .null, .null, .null, .null, .int 0, .int 0]] none ([aO 0 [.ref 1, .ref 2, .ref 3, .ref 4, .ref 5, .ref 6, .ref 7, .ref 8, .ref 9, .ref 10, .ref 11, .ref 12, .int sC0.2.2.2.2.2.2.2.2.2.2.2.2.1, .int sC0.2.2.2.2.2.2.2.2.2.2.2.2.2]] ++ [aI 9 sC0.1, aI 9 sC0.2.1, aI 9 sC0.2.2.1, aI 9 sC0.2.2.2.1, aI 9 sC0.2.2.2.2.1, aI 8 sC0.2.2.2.2.2.1, aI 8 sC0.2.2.2.2.2.2.1, aI 8 sC0.2.2.2.2.2.2.2.1, aI 8 sC0.2.2.2.2.2.2.2.2.1, aI 8 sC0.2.2.2.2.2.2.2.2.2.1, aI 8 sC0.2.2.2.2.2.2.2.2.2.2.1, aI 8 sC0.2.2.2.2.2.2.2.2.2.2.2.1]) := kX0_init
set_option maxHeartbeats 2000000 in
theorem kX1_init  : AMet yX1_init cX1_init 1 none { frames := 2, cells := 27, slots := 239, locals := 61 } [.ref 0] ([aO 1 [.null, .null, .null]]) none (hM sC0 sC0 (fun _ => 0)) := by
  refine AMet.of (by decide) rfl ?_
  intro G hR hE hI
  refine AW.blk (amX1_init _) 0 1 (h' := [aO 1 [.null, .null, .null]]) (pc' := 1) (lv' := [(0, .ref 0)]) (st' := [.ref 0]) (L := []) rfl trivial ?_
  refine AW.objInit (amX1_init _) 1 rfl kobX1_1 rfl hR ⟨(Nat.le_of_ble_eq_true rfl), (Nat.le_of_ble_eq_true rfl)⟩ ?_
  refine AW.blk (amX1_init _) 2 1 (h' := [aO 1 [.null, .null, .null]]) (pc' := 5) (lv' := [(0, .ref 0)]) (st' := [.ref 0]) (L := []) rfl trivial ?_
  refine AW.newobj (fs := [.null, .null, .null, .null, .null, .null, .null, .null, .null, .null, .null, .null, .int 0, .int 0]) (tb_at (amX1_init _).1 3 rfl) (ci := 0) rfl tyX0_ok kclX1_7 kins0 kini0 (fun _ => rfl) dfX0 hR (Nat.le_of_ble_eq_true rfl) (Nat.le_of_ble_eq_true rfl) rfl rfl rfl (h1 := [aO 1 [.null, .null, .null], aO 0 [.null, .null, .null, .null, .null, .null, .null, .null, .null, .null, .null, .null, .int 0, .int 0]]) rfl (st' := [.ref 1, .ref 0]) rfl ?_
  refine AW.blk (amX1_init _) 4 1 (h' := [aO 1 [.null, .null, .null], aO 0 [.null, .null, .null, .null, .null, .null, .null, .null, .null, .null, .null, .null, .int 0, .int 0]]) (pc' := 9) (lv' := [(0, .ref 0)]) (st' := [.ref 1, .ref 1, .ref 0]) (L := []) rfl trivial ?_
  refine AW.callI (amX1_init _) 5 kX0_initS [1] [] ykX0_init yiX0_init rfl mlX1_9 rfl rfl rfl rfl hR ⟨Nat.le_of_ble_eq_true rfl, Nat.le_of_ble_eq_true rfl, Nat.le_of_ble_eq_true rfl, Nat.le_of_ble_eq_true rfl⟩ rfl rfl rfl rfl rfl rfl rfl rfl rfl rfl (fun _ => rfl) (h1 := [aO 1 [.null, .null, .null]] ++ hCb 1 sC0) rfl (st' := [.ref 1, .ref 0]) rfl ?_
  refine AW.putF (amX1_init _) 6 (ci := 1) (N := 3) (j := 0) (C := RX1) (T := TX1) rfl (hI rfl) rfl (by decide) kpfX1_10 rfl rfl kpd1_0 (fun _ => ⟨rfl, rfl⟩) rfl rfl (h1 := [aO 1 [.ref 1, .null, .null]] ++ hCb 1 sC0) rfl ?_
  refine AW.blk (amX1_init _) 7 1 (h' := [aO 1 [.ref 1, .null, .null]] ++ hCb 1 sC0) (pc' := 16) (lv' := [(0, .ref 0)]) (st' := [.ref 0]) (L := []) rfl trivial ?_
  refine AW.newobj (fs := [.null, .null, .null, .null, .null, .null, .null, .null, .null, .null, .null, .null, .int 0, .int 0]) (tb_at (amX1_init _).1 8 rfl) (ci := 0) rfl tyX0_ok kclX1_7 kins0 kini0 (fun _ => rfl) dfX0 hR (Nat.le_of_ble_eq_true rfl) (Nat.le_of_ble_eq_true rfl) rfl rfl rfl (h1 := [aO 1 [.ref 1, .null, .null]] ++ hCb 1 sC0 ++ [aO 0 [.null, .null, .null, .null, .null, .null, .null, .null, .null, .null, .null, .null, .int 0, .int 0]]) rfl (st' := [.ref 14, .ref 0]) rfl ?_
  refine AW.blk (amX1_init _) 9 1 (h' := [aO 1 [.ref 1, .null, .null]] ++ hCb 1 sC0 ++ [aO 0 [.null, .null, .null, .null, .null, .null, .null, .null, .null, .null, .null, .null, .int 0, .int 0]]) (pc' := 20) (lv' := [(0, .ref 0)]) (st' := [.ref 14, .ref 14, .ref 0]) (L := []) rfl trivial ?_
  refine AW.callI (amX1_init _) 10 kX0_initS [14] [] ykX0_init yiX0_init rfl mlX1_9 rfl rfl rfl rfl hR ⟨Nat.le_of_ble_eq_true rfl, Nat.le_of_ble_eq_true rfl, Nat.le_of_ble_eq_true rfl, Nat.le_of_ble_eq_true rfl⟩ rfl rfl rfl rfl rfl rfl rfl rfl rfl rfl (fun _ => rfl) (h1 := [aO 1 [.ref 1, .null, .null]] ++ hCb 1 sC0 ++ hCb 14 sC0) rfl (st' := [.ref 14, .ref 0]) rfl ?_
  refine AW.putF (amX1_init _) 11 (ci := 1) (N := 3) (j := 1) (C := RX1) (T := TX1) rfl (hI rfl) rfl (by decide) kpfX1_16 rfl rfl kpd1_1 (fun _ => ⟨rfl, rfl⟩) rfl rfl (h1 := [aO 1 [.ref 1, .ref 14, .null]] ++ hCb 1 sC0 ++ hCb 14 sC0) rfl ?_
  refine AW.blk (amX1_init _) 12 2 (h' := [aO 1 [.ref 1, .ref 14, .null]] ++ hCb 1 sC0 ++ hCb 14 sC0) (pc' := 29) (lv' := [(0, .ref 0)]) (st' := [.int 9, .ref 0]) (L := []) rfl trivial ?_
  refine AW.newarr (amX1_init _) 14 9 rfl (by decide) (by decide) rfl hR (Nat.le_of_ble_eq_true rfl) (Nat.le_of_ble_eq_true rfl) rfl rfl rfl (h1 := [aO 1 [.ref 1, .ref 14, .null]] ++ hCb 1 sC0 ++ hCb 14 sC0 ++ [aI 9 (fun _ => 0)]) rfl (st' := [.ref 27, .ref 0]) rfl ?_
  refine AW.putF (amX1_init _) 15 (ci := 1) (N := 3) (j := 2) (C := RX1) (T := TX1) rfl (hI rfl) rfl (by decide) kpfX1_19 rfl rfl kpd1_2 (fun _ => ⟨rfl, rfl⟩) rfl rfl (h1 := hM sC0 sC0 (fun _ => 0)) rfl ?_
  exact AW.vretE (amX1_init _) 16 hE rfl rfl rfl rfl rfl
