/-! ===== the reference: new, checksum, thrown ===== -/
theorem kX2_initS : AMet yX2_init cX2_init 2 none { frames := 1, cells := 8, slots := 67, locals := 40 } [.ref 0, .ref 100] [aO 2 [.int 0, .null, .null, .null, .null, .null, .null, .null, .null, .null]] none ([aO 2 [.int 0, .ref 1, .ref 2, .ref 3, .ref 4, .ref 5, .ref 6, .ref 7, .ref 8, .ref 100]] ++ [aI 9 (fun _ => 0), aI 9 (fun _ => 0), aI 9 (fun _ => 0), aI 8 (fun _ => 0), aI 8 (fun _ => 0), aI 8 (fun _ => 0), aI 8 (fun _ => 0), aI 8 (fun _ => 0)]) := kX2_init
def sCz : CS := (fun _ => 0, fun _ => 0, fun _ => 0, fun _ => 0, fun _ => 0, fun _ => 0, fun _ => 0, fun _ => 0, fun _ => 0, fun _ => 0, fun _ => 0, fun _ => 0, 0, 0)
set_option maxHeartbeats 2000000 in
theorem kX3_init  : AMet yX3_init cX3_init 2 none { frames := 2, cells := 23, slots := 197, locals := 61 } [.ref 0] ([aO 3 [.int 0, .null, .null, .null, .int 0, .null, .null, .null, .null]]) none (hX 0 sC0 sCz (fun _ => 0)) := by
  refine AMet.of (by decide) rfl ?_
  intro G hR hE hI
  have E : ∀ (a b c : Nat → Int32), (a, b, c) = sIn → AW G (yX3_init.cls, cX3_init, 2, 1) (hX 0 (fun _ => 0, a, b, c, fun _ => 0, fun _ => 0, fun _ => 0, fun _ => 0, fun _ => 0, fun _ => 0, fun _ => 0, fun _ => 0, 0, 0) (fun _ => 0, a, b, fun _ => 0, fun _ => 0, fun _ => 0, fun _ => 0, fun _ => 0, fun _ => 0, fun _ => 0, fun _ => 0, fun _ => 0, 0, 0) (fun _ => 0)) 23 197 107 [(0, .ref 0)] [] := by
    intro a b c hf
    exact AW.vretE (amX3_init _) 57 hE rfl rfl rfl rfl (by rw [sC0, ← hf]; rfl)
  have K : ∀ (k i : Nat) (a : Nat → Int32) (b : Nat → Int32) (c : Nat → Int32), i + k = 9 → lpN sIn1 k i (a, b, c) = sIn → AW G (yX3_init.cls, cX3_init, 2, 1) (hX 0 (fun _ => 0, a, b, c, fun _ => 0, fun _ => 0, fun _ => 0, fun _ => 0, fun _ => 0, fun _ => 0, fun _ => 0, fun _ => 0, 0, 0) (fun _ => 0, a, b, fun _ => 0, fun _ => 0, fun _ => 0, fun _ => 0, fun _ => 0, fun _ => 0, fun _ => 0, fun _ => 0, fun _ => 0, 0, 0) (fun _ => 0)) 23 197 70 [(1, .int (nI i)), (0, .ref 0)] [] := by
    intro k
    induction k with
    | zero =>
      intro i a b c hi hf
      refine AW.blk (amX3_init _) 36 2 (h' := hX 0 (fun _ => 0, a, b, c, fun _ => 0, fun _ => 0, fun _ => 0, fun _ => 0, fun _ => 0, fun _ => 0, fun _ => 0, fun _ => 0, 0, 0) (fun _ => 0, a, b, fun _ => 0, fun _ => 0, fun _ => 0, fun _ => 0, fun _ => 0, fun _ => 0, fun _ => 0, fun _ => 0, fun _ => 0, 0, 0) (fun _ => 0)) (pc' := 73) (lv' := [(1, .int (nI i)), (0, .ref 0)]) (st' := [.int 9, .int (nI i)]) (L := []) rfl trivial ?_
      refine AW.br (amX3_init _) 38 (tgt := 107) (C := 9 ≤ (nI i)) (C' := ¬ 9 ≤ (nI i)) (st' := []) rfl rfl rfl (fun c1 => ?_) (fun c1 => absurd (nI_le (a := 9) (b := i) (by omega) (by omega)) c1)
      refine AW.pick [1] (lv' := [(0, .ref 0)]) rfl ?_
      exact E _ _ _ hf
    | succ k ih =>
      intro i a b c hi hf
      refine AW.blk (amX3_init _) 36 2 (h' := hX 0 (fun _ => 0, a, b, c, fun _ => 0, fun _ => 0, fun _ => 0, fun _ => 0, fun _ => 0, fun _ => 0, fun _ => 0, fun _ => 0, 0, 0) (fun _ => 0, a, b, fun _ => 0, fun _ => 0, fun _ => 0, fun _ => 0, fun _ => 0, fun _ => 0, fun _ => 0, fun _ => 0, fun _ => 0, 0, 0) (fun _ => 0)) (pc' := 73) (lv' := [(1, .int (nI i)), (0, .ref 0)]) (st' := [.int 9, .int (nI i)]) (L := []) rfl trivial ?_
      refine AW.br (amX3_init _) 38 (tgt := 107) (C := 9 ≤ (nI i)) (C' := ¬ 9 ≤ (nI i)) (st' := []) rfl rfl rfl (fun c1 => absurd c1 (nI_ge (a := i) (b := 9) (by omega) (by omega))) (fun c1 => ?_)
      refine AW.blk (amX3_init _) 39 18 (h' := hX 0 (fun _ => 0, upd a (nI i).toNatClampNeg 2, upd b (nI i).toNatClampNeg 10, upd c (nI i).toNatClampNeg (-1), fun _ => 0, fun _ => 0, fun _ => 0, fun _ => 0, fun _ => 0, fun _ => 0, fun _ => 0, fun _ => 0, 0, 0) (fun _ => 0, upd a (nI i).toNatClampNeg 2, upd b (nI i).toNatClampNeg 10, fun _ => 0, fun _ => 0, fun _ => 0, fun _ => 0, fun _ => 0, fun _ => 0, fun _ => 0, fun _ => 0, fun _ => 0, 0, 0) (fun _ => 0)) (pc' := 70) (lv' := [(1, .int ((nI i) + 1)), (0, .ref 0)]) (st' := []) (L := [vp_in (nI i) 9, vp_in (nI i) 9, vp_in (nI i) 9]) rfl ⟨(vpi (by omega) rfl), (vpi (by omega) rfl), (vpi (by omega) rfl)⟩ ?_
      rw [nI_1 i]
      exact ih (i + 1) _ _ _ (by omega) (by rw [← hf]; simp only [lpN, sIn1, if_neg c1])
  refine AW.blk (amX3_init _) 0 1 (h' := [aO 3 [.int 0, .null, .null, .null, .int 0, .null, .null, .null, .null]]) (pc' := 1) (lv' := [(0, .ref 0)]) (st' := [.ref 0]) (L := []) rfl trivial ?_
  refine AW.objInit (amX3_init _) 1 rfl kobX3_1 rfl hR ⟨(Nat.le_of_ble_eq_true rfl), (Nat.le_of_ble_eq_true rfl)⟩ ?_
  refine AW.blk (amX3_init _) 2 2 (h' := [aO 3 [.int 0, .null, .null, .null, .int 0, .null, .null, .null, .null]]) (pc' := 7) (lv' := [(0, .ref 0)]) (st' := [.int 9, .ref 0]) (L := []) rfl trivial ?_
  refine AW.newarr (amX3_init _) 4 9 rfl (by decide) (by decide) rfl hR (Nat.le_of_ble_eq_true rfl) (Nat.le_of_ble_eq_true rfl) rfl rfl rfl (h1 := [aO 3 [.int 0, .null, .null, .null, .int 0, .null, .null, .null, .null], aI 9 (fun _ => 0)]) rfl (st' := [.ref 1, .ref 0]) rfl ?_
  refine AW.putF (amX3_init _) 5 (ci := 3) (N := 9) (j := 1) (C := RX3) (T := TX3) rfl (hI rfl) rfl (by decide) kpfX3_9 rfl rfl kpd3_1 (fun _ => ⟨rfl, rfl⟩) rfl rfl (h1 := [aO 3 [.int 0, .ref 1, .null, .null, .int 0, .null, .null, .null, .null], aI 9 (fun _ => 0)]) rfl ?_
  refine AW.blk (amX3_init _) 6 2 (h' := [aO 3 [.int 0, .ref 1, .null, .null, .int 0, .null, .null, .null, .null], aI 9 (fun _ => 0)]) (pc' := 15) (lv' := [(0, .ref 0)]) (st' := [.int 9, .ref 0]) (L := []) rfl trivial ?_
  refine AW.newarr (amX3_init _) 8 9 rfl (by decide) (by decide) rfl hR (Nat.le_of_ble_eq_true rfl) (Nat.le_of_ble_eq_true rfl) rfl rfl rfl (h1 := [aO 3 [.int 0, .ref 1, .null, .null, .int 0, .null, .null, .null, .null], aI 9 (fun _ => 0), aI 9 (fun _ => 0)]) rfl (st' := [.ref 2, .ref 0]) rfl ?_
  refine AW.putF (amX3_init _) 9 (ci := 3) (N := 9) (j := 2) (C := RX3) (T := TX3) rfl (hI rfl) rfl (by decide) kpfX3_13 rfl rfl kpd3_2 (fun _ => ⟨rfl, rfl⟩) rfl rfl (h1 := [aO 3 [.int 0, .ref 1, .ref 2, .null, .int 0, .null, .null, .null, .null], aI 9 (fun _ => 0), aI 9 (fun _ => 0)]) rfl ?_
  refine AW.blk (amX3_init _) 10 2 (h' := [aO 3 [.int 0, .ref 1, .ref 2, .null, .int 0, .null, .null, .null, .null], aI 9 (fun _ => 0), aI 9 (fun _ => 0)]) (pc' := 23) (lv' := [(0, .ref 0)]) (st' := [.int 8, .ref 0]) (L := []) rfl trivial ?_
  refine AW.newarr (amX3_init _) 12 8 rfl (by decide) (by decide) rfl hR (Nat.le_of_ble_eq_true rfl) (Nat.le_of_ble_eq_true rfl) rfl rfl rfl (h1 := [aO 3 [.int 0, .ref 1, .ref 2, .null, .int 0, .null, .null, .null, .null], aI 9 (fun _ => 0), aI 9 (fun _ => 0), aI 8 (fun _ => 0)]) rfl (st' := [.ref 3, .ref 0]) rfl ?_
  refine AW.putF (amX3_init _) 13 (ci := 3) (N := 9) (j := 3) (C := RX3) (T := TX3) rfl (hI rfl) rfl (by decide) kpfX3_16 rfl rfl kpd3_3 (fun _ => ⟨rfl, rfl⟩) rfl rfl (h1 := [aO 3 [.int 0, .ref 1, .ref 2, .ref 3, .int 0, .null, .null, .null, .null], aI 9 (fun _ => 0), aI 9 (fun _ => 0), aI 8 (fun _ => 0)]) rfl ?_
  refine AW.blk (amX3_init _) 14 2 (h' := [aO 3 [.int 0, .ref 1, .ref 2, .ref 3, .int 0, .null, .null, .null, .null], aI 9 (fun _ => 0), aI 9 (fun _ => 0), aI 8 (fun _ => 0)]) (pc' := 31) (lv' := [(0, .ref 0)]) (st' := [.int 8, .ref 0]) (L := []) rfl trivial ?_
  refine AW.newarr (amX3_init _) 16 8 rfl (by decide) (by decide) rfl hR (Nat.le_of_ble_eq_true rfl) (Nat.le_of_ble_eq_true rfl) rfl rfl rfl (h1 := [aO 3 [.int 0, .ref 1, .ref 2, .ref 3, .int 0, .null, .null, .null, .null], aI 9 (fun _ => 0), aI 9 (fun _ => 0), aI 8 (fun _ => 0), aI 8 (fun _ => 0)]) rfl (st' := [.ref 4, .ref 0]) rfl ?_
  refine AW.putF (amX3_init _) 17 (ci := 3) (N := 9) (j := 5) (C := RX3) (T := TX3) rfl (hI rfl) rfl (by decide) kpfX3_19 rfl rfl kpd3_5 (fun _ => ⟨rfl, rfl⟩) rfl rfl (h1 := [aO 3 [.int 0, .ref 1, .ref 2, .ref 3, .int 0, .ref 4, .null, .null, .null], aI 9 (fun _ => 0), aI 9 (fun _ => 0), aI 8 (fun _ => 0), aI 8 (fun _ => 0)]) rfl ?_
  refine AW.blk (amX3_init _) 18 2 (h' := [aO 3 [.int 0, .ref 1, .ref 2, .ref 3, .int 0, .ref 4, .null, .null, .null], aI 9 (fun _ => 0), aI 9 (fun _ => 0), aI 8 (fun _ => 0), aI 8 (fun _ => 0)]) (pc' := 39) (lv' := [(0, .ref 0)]) (st' := [.int 9, .ref 0]) (L := []) rfl trivial ?_
  refine AW.newarr (amX3_init _) 20 9 rfl (by decide) (by decide) rfl hR (Nat.le_of_ble_eq_true rfl) (Nat.le_of_ble_eq_true rfl) rfl rfl rfl (h1 := [aO 3 [.int 0, .ref 1, .ref 2, .ref 3, .int 0, .ref 4, .null, .null, .null], aI 9 (fun _ => 0), aI 9 (fun _ => 0), aI 8 (fun _ => 0), aI 8 (fun _ => 0), aI 9 (fun _ => 0)]) rfl (st' := [.ref 5, .ref 0]) rfl ?_
  refine AW.putF (amX3_init _) 21 (ci := 3) (N := 9) (j := 6) (C := RX3) (T := TX3) rfl (hI rfl) rfl (by decide) kpfX3_22 rfl rfl kpd3_6 (fun _ => ⟨rfl, rfl⟩) rfl rfl (h1 := [aO 3 [.int 0, .ref 1, .ref 2, .ref 3, .int 0, .ref 4, .ref 5, .null, .null], aI 9 (fun _ => 0), aI 9 (fun _ => 0), aI 8 (fun _ => 0), aI 8 (fun _ => 0), aI 9 (fun _ => 0)]) rfl ?_
  refine AW.blk (amX3_init _) 22 1 (h' := [aO 3 [.int 0, .ref 1, .ref 2, .ref 3, .int 0, .ref 4, .ref 5, .null, .null], aI 9 (fun _ => 0), aI 9 (fun _ => 0), aI 8 (fun _ => 0), aI 8 (fun _ => 0), aI 9 (fun _ => 0)]) (pc' := 45) (lv' := [(0, .ref 0)]) (st' := [.ref 0]) (L := []) rfl trivial ?_
  refine AW.newobj (fs := [.int 0, .null, .null, .null, .null, .null, .null, .null, .null, .null]) (tb_at (amX3_init _).1 23 rfl) (ci := 2) rfl tyX2_ok kclX3_25 kins2 kini2 (fun _ => rfl) dfX2 hR (Nat.le_of_ble_eq_true rfl) (Nat.le_of_ble_eq_true rfl) rfl rfl rfl (h1 := [aO 3 [.int 0, .ref 1, .ref 2, .ref 3, .int 0, .ref 4, .ref 5, .null, .null], aI 9 (fun _ => 0), aI 9 (fun _ => 0), aI 8 (fun _ => 0), aI 8 (fun _ => 0), aI 9 (fun _ => 0), aO 2 [.int 0, .null, .null, .null, .null, .null, .null, .null, .null, .null]]) rfl (st' := [.ref 6, .ref 0]) rfl ?_
  refine AW.blk (amX3_init _) 24 2 (h' := [aO 3 [.int 0, .ref 1, .ref 2, .ref 3, .int 0, .ref 4, .ref 5, .null, .null], aI 9 (fun _ => 0), aI 9 (fun _ => 0), aI 8 (fun _ => 0), aI 8 (fun _ => 0), aI 9 (fun _ => 0), aO 2 [.int 0, .null, .null, .null, .null, .null, .null, .null, .null, .null]]) (pc' := 50) (lv' := [(0, .ref 0)]) (st' := [.ref 0, .ref 6, .ref 6, .ref 0]) (L := []) rfl trivial ?_
  refine AW.callI (amX3_init _) 26 kX2_initS [6] [0] ykX2_init yiX2_init rfl mlX3_27 rfl rfl rfl rfl hR ⟨Nat.le_of_ble_eq_true rfl, Nat.le_of_ble_eq_true rfl, Nat.le_of_ble_eq_true rfl, Nat.le_of_ble_eq_true rfl⟩ rfl rfl rfl rfl rfl rfl rfl rfl rfl rfl (fun _ => rfl) (h1 := [aO 3 [.int 0, .ref 1, .ref 2, .ref 3, .int 0, .ref 4, .ref 5, .null, .null], aI 9 (fun _ => 0), aI 9 (fun _ => 0), aI 8 (fun _ => 0), aI 8 (fun _ => 0), aI 9 (fun _ => 0), aO 2 [.int 0, .ref 7, .ref 8, .ref 9, .ref 10, .ref 11, .ref 12, .ref 13, .ref 14, .ref 0], aI 9 (fun _ => 0), aI 9 (fun _ => 0), aI 9 (fun _ => 0), aI 8 (fun _ => 0), aI 8 (fun _ => 0), aI 8 (fun _ => 0), aI 8 (fun _ => 0), aI 8 (fun _ => 0)]) rfl (st' := [.ref 6, .ref 0]) rfl ?_
  refine AW.putF (amX3_init _) 27 (ci := 3) (N := 9) (j := 7) (C := RX3) (T := TX3) rfl (hI rfl) rfl (by decide) kpfX3_30 rfl rfl kpd3_7 (fun _ => ⟨rfl, rfl⟩) rfl rfl (h1 := [aO 3 [.int 0, .ref 1, .ref 2, .ref 3, .int 0, .ref 4, .ref 5, .ref 6, .null], aI 9 (fun _ => 0), aI 9 (fun _ => 0), aI 8 (fun _ => 0), aI 8 (fun _ => 0), aI 9 (fun _ => 0), aO 2 [.int 0, .ref 7, .ref 8, .ref 9, .ref 10, .ref 11, .ref 12, .ref 13, .ref 14, .ref 0], aI 9 (fun _ => 0), aI 9 (fun _ => 0), aI 9 (fun _ => 0), aI 8 (fun _ => 0), aI 8 (fun _ => 0), aI 8 (fun _ => 0), aI 8 (fun _ => 0), aI 8 (fun _ => 0)]) rfl ?_
  refine AW.blk (amX3_init _) 28 1 (h' := [aO 3 [.int 0, .ref 1, .ref 2, .ref 3, .int 0, .ref 4, .ref 5, .ref 6, .null], aI 9 (fun _ => 0), aI 9 (fun _ => 0), aI 8 (fun _ => 0), aI 8 (fun _ => 0), aI 9 (fun _ => 0), aO 2 [.int 0, .ref 7, .ref 8, .ref 9, .ref 10, .ref 11, .ref 12, .ref 13, .ref 14, .ref 0], aI 9 (fun _ => 0), aI 9 (fun _ => 0), aI 9 (fun _ => 0), aI 8 (fun _ => 0), aI 8 (fun _ => 0), aI 8 (fun _ => 0), aI 8 (fun _ => 0), aI 8 (fun _ => 0)]) (pc' := 57) (lv' := [(0, .ref 0)]) (st' := [.ref 0]) (L := []) rfl trivial ?_
  refine AW.newobj (fs := [.int 0, .null, .null, .null, .null, .null, .null, .null, .null, .null]) (tb_at (amX3_init _).1 29 rfl) (ci := 2) rfl tyX2_ok kclX3_25 kins2 kini2 (fun _ => rfl) dfX2 hR (Nat.le_of_ble_eq_true rfl) (Nat.le_of_ble_eq_true rfl) rfl rfl rfl (h1 := [aO 3 [.int 0, .ref 1, .ref 2, .ref 3, .int 0, .ref 4, .ref 5, .ref 6, .null], aI 9 (fun _ => 0), aI 9 (fun _ => 0), aI 8 (fun _ => 0), aI 8 (fun _ => 0), aI 9 (fun _ => 0), aO 2 [.int 0, .ref 7, .ref 8, .ref 9, .ref 10, .ref 11, .ref 12, .ref 13, .ref 14, .ref 0], aI 9 (fun _ => 0), aI 9 (fun _ => 0), aI 9 (fun _ => 0), aI 8 (fun _ => 0), aI 8 (fun _ => 0), aI 8 (fun _ => 0), aI 8 (fun _ => 0), aI 8 (fun _ => 0), aO 2 [.int 0, .null, .null, .null, .null, .null, .null, .null, .null, .null]]) rfl (st' := [.ref 15, .ref 0]) rfl ?_
  refine AW.blk (amX3_init _) 30 2 (h' := [aO 3 [.int 0, .ref 1, .ref 2, .ref 3, .int 0, .ref 4, .ref 5, .ref 6, .null], aI 9 (fun _ => 0), aI 9 (fun _ => 0), aI 8 (fun _ => 0), aI 8 (fun _ => 0), aI 9 (fun _ => 0), aO 2 [.int 0, .ref 7, .ref 8, .ref 9, .ref 10, .ref 11, .ref 12, .ref 13, .ref 14, .ref 0], aI 9 (fun _ => 0), aI 9 (fun _ => 0), aI 9 (fun _ => 0), aI 8 (fun _ => 0), aI 8 (fun _ => 0), aI 8 (fun _ => 0), aI 8 (fun _ => 0), aI 8 (fun _ => 0), aO 2 [.int 0, .null, .null, .null, .null, .null, .null, .null, .null, .null]]) (pc' := 62) (lv' := [(0, .ref 0)]) (st' := [.ref 0, .ref 15, .ref 15, .ref 0]) (L := []) rfl trivial ?_
  refine AW.callI (amX3_init _) 32 kX2_initS [15] [0] ykX2_init yiX2_init rfl mlX3_27 rfl rfl rfl rfl hR ⟨Nat.le_of_ble_eq_true rfl, Nat.le_of_ble_eq_true rfl, Nat.le_of_ble_eq_true rfl, Nat.le_of_ble_eq_true rfl⟩ rfl rfl rfl rfl rfl rfl rfl rfl rfl rfl (fun _ => rfl) (h1 := [aO 3 [.int 0, .ref 1, .ref 2, .ref 3, .int 0, .ref 4, .ref 5, .ref 6, .null], aI 9 (fun _ => 0), aI 9 (fun _ => 0), aI 8 (fun _ => 0), aI 8 (fun _ => 0), aI 9 (fun _ => 0), aO 2 [.int 0, .ref 7, .ref 8, .ref 9, .ref 10, .ref 11, .ref 12, .ref 13, .ref 14, .ref 0], aI 9 (fun _ => 0), aI 9 (fun _ => 0), aI 9 (fun _ => 0), aI 8 (fun _ => 0), aI 8 (fun _ => 0), aI 8 (fun _ => 0), aI 8 (fun _ => 0), aI 8 (fun _ => 0), aO 2 [.int 0, .ref 16, .ref 17, .ref 18, .ref 19, .ref 20, .ref 21, .ref 22, .ref 23, .ref 0], aI 9 (fun _ => 0), aI 9 (fun _ => 0), aI 9 (fun _ => 0), aI 8 (fun _ => 0), aI 8 (fun _ => 0), aI 8 (fun _ => 0), aI 8 (fun _ => 0), aI 8 (fun _ => 0)]) rfl (st' := [.ref 15, .ref 0]) rfl ?_
  refine AW.putF (amX3_init _) 33 (ci := 3) (N := 9) (j := 8) (C := RX3) (T := TX3) rfl (hI rfl) rfl (by decide) kpfX3_34 rfl rfl kpd3_8 (fun _ => ⟨rfl, rfl⟩) rfl rfl (h1 := hX 0 (fun _ => 0, fun _ => 0, fun _ => 0, fun _ => 0, fun _ => 0, fun _ => 0, fun _ => 0, fun _ => 0, fun _ => 0, fun _ => 0, fun _ => 0, fun _ => 0, 0, 0) (fun _ => 0, fun _ => 0, fun _ => 0, fun _ => 0, fun _ => 0, fun _ => 0, fun _ => 0, fun _ => 0, fun _ => 0, fun _ => 0, fun _ => 0, fun _ => 0, 0, 0) (fun _ => 0)) rfl ?_
  refine AW.blk (amX3_init _) 34 2 (h' := hX 0 (fun _ => 0, fun _ => 0, fun _ => 0, fun _ => 0, fun _ => 0, fun _ => 0, fun _ => 0, fun _ => 0, fun _ => 0, fun _ => 0, fun _ => 0, fun _ => 0, 0, 0) (fun _ => 0, fun _ => 0, fun _ => 0, fun _ => 0, fun _ => 0, fun _ => 0, fun _ => 0, fun _ => 0, fun _ => 0, fun _ => 0, fun _ => 0, fun _ => 0, 0, 0) (fun _ => 0)) (pc' := 70) (lv' := [(1, .int 0), (0, .ref 0)]) (st' := []) (L := []) rfl trivial ?_
  exact K 9 0 _ _ _ rfl rfl
set_option maxRecDepth 4000 in
set_option maxHeartbeats 2000000 in
theorem kX3_digest {B : Nat} (th : Int32) (C A : CS) (L : Nat → Int32) (hV : VC B C) : AMet yX3_digest cX3_digest 5 (some .long) { frames := 3, cells := 126, slots := 900, locals := 72 } [.ref 0] (hX th C A L) (some (.long (sDig C))) (hX 0 C A L) := by
  refine AMet.of (by decide) rfl ?_
  intro G hR hE hI
  obtain ⟨N, Q, hN, hQ, e1, -⟩ := id hV
  obtain ⟨FA, hFA⟩ : ∃ z, z = sDig C := ⟨_, rfl⟩
  rw [← hFA] at hE
  have E4 : ∀ (d : Int64), d = FA → AW G (yX3_digest.cls, cX3_digest, 5, 24) (hX 0 C A L) 126 900 156 [(1, .long d), (0, .ref 0)] [] := by
    intro d hf
    refine AW.blk (amX3_digest _) 87 1 (h' := hX 0 C A L) (pc' := 157) (lv' := [(1, .long d), (0, .ref 0)]) (st' := [.long d]) (L := []) rfl trivial ?_
    exact AW.lretE (amX3_digest _) 88 hE rfl rfl rfl rfl hf.symm rfl
  obtain ⟨F4, hF4⟩ : ∃ z, z = FA := ⟨_, rfl⟩
  rw [← hF4] at E4
  have K4I : ∀ (c : Nat) (F1 : Int64), c < N → ¬ sSw (nI c) C.2.2.2.2.2.2.2.2.2.2.2.2.1 = 0 → (AW G (yX3_digest.cls, cX3_digest, 5, 24) (hX 0 C A L) (62 + 8 * c + 8) (388 + 64 * c + 8 * 8) 150 [(3, .int (nI c)), (1, .long F1), (0, .ref 0)] []) → ∀ (d0 : Int64), dg4 C c d0 = F1 → AW G (yX3_digest.cls, cX3_digest, 5, 24) (hX 0 C A L) (62 + 8 * c + 0) (388 + 64 * c + 8 * 0) 119 [(3, .int (nI c)), (1, .long d0), (0, .ref 0)] [] := by
    intro c F1 hc9 hs E81 d0 hb0
    have EI : ∀ (d : Int64), d = F1 → AW G (yX3_digest.cls, cX3_digest, 5, 24) (hX 0 C A L) (62 + 8 * c + 8) (388 + 64 * c + 8 * 8) 150 [(3, .int (nI c)), (1, .long d), (0, .ref 0)] [] := fun d hb => by rw [hb]; exact E81
    have K : ∀ (k i : Nat) (d : Int64), i + k = 8 → lpN (dg1 (dgS C c)) k i d = F1 → AW G (yX3_digest.cls, cX3_digest, 5, 24) (hX 0 C A L) (62 + 8 * c + i) (388 + 64 * c + 8 * i) 122 [(4, .int (nI i)), (3, .int (nI c)), (1, .long d), (0, .ref 0)] [] := by
      intro k
      induction k with
      | zero =>
        intro i d hi hf
        refine AW.blk (amX3_digest _) 70 2 (h' := hX 0 C A L) (pc' := 126) (lv' := [(4, .int (nI i)), (3, .int (nI c)), (1, .long d), (0, .ref 0)]) (st' := [.int 8, .int (nI i)]) (L := []) rfl trivial ?_
        refine AW.br (amX3_digest _) 72 (tgt := 150) (C := 8 ≤ (nI i)) (C' := ¬ 8 ≤ (nI i)) (st' := []) rfl rfl rfl (fun c1 => ?_) (fun c1 => absurd (nI_le (a := 8) (b := i) (by omega) (by omega)) c1)
        refine AW.widen (kc' := (62 + 8 * c + 8)) (ks' := (388 + 64 * c + 8 * 8)) (by omega) (by omega) ?_
        refine AW.pick [1, 2, 3] (lv' := [(3, .int (nI c)), (1, .long d), (0, .ref 0)]) rfl ?_
        exact EI _ hf
      | succ k ih =>
        intro i d hi hf
        refine AW.blk (amX3_digest _) 70 2 (h' := hX 0 C A L) (pc' := 126) (lv' := [(4, .int (nI i)), (3, .int (nI c)), (1, .long d), (0, .ref 0)]) (st' := [.int 8, .int (nI i)]) (L := []) rfl trivial ?_
        refine AW.br (amX3_digest _) 72 (tgt := 150) (C := 8 ≤ (nI i)) (C' := ¬ 8 ≤ (nI i)) (st' := []) rfl rfl rfl (fun c1 => absurd c1 (nI_ge (a := i) (b := 8) (by omega) (by omega))) (fun c1 => ?_)
        refine AW.blk (amX3_digest _) 73 1 (h' := hX 0 C A L) (pc' := 130) (lv' := [(4, .int (nI i)), (3, .int (nI c)), (1, .long d), (0, .ref 0)]) (st' := [.long d]) (L := []) rfl trivial ?_
        refine AW.ldcL (amX3_digest _) 74 31 rfl kcX3_148 ?_
        refine AW.blk (amX3_digest _) 75 4 (h' := hX 0 C A L) (pc' := 138) (lv' := [(4, .int (nI i)), (3, .int (nI c)), (1, .long d), (0, .ref 0)]) (st' := [.int (nI i), .int (nI c), .ref 0, .long (d * 31)]) (L := []) rfl trivial ?_
        refine AW.callVp (amX3_digest _) 79 (kX3_sweeperTold 0 C A L hV (nI c) hs i (by omega)) rfl rfl [0, 1, 2, 3, 4, 5, 6, 7, 8, 9, 10, 11, 12, 13, 14, 15, 16, 17, 18, 19, 20, 21, 22, 23] [] ykX3_sweeperTold yiX3_sweeperTold yvX3_sweeperTold mlX3_98 rfl rfl rfl rfl hR ⟨Nat.le_of_ble_eq_true rfl, Nat.le_of_ble_eq_true rfl, (show (62 + 8 * c + i) + 1 ≤ 126 by omega), (show (388 + 64 * c + 8 * i) + 8 ≤ 900 by omega)⟩ rfl rfl rfl rfl rfl (fun _ => rfl) (h1 := hX 0 C A L) rfl (st' := [.int (sSF (nI c) C.2.2.2.2.2.2.2.2.2.2.2.2.1 C.2.2.2.1 C.2.2.2.2.2.2.1 C.2.2.2.2.2.2.2.1 C.2.2.2.2.2.2.2.2.1 C.2.2.2.2.2.2.2.2.2.1 C.2.2.2.2.2.2.2.2.2.2.1 C.2.2.2.2.2.2.2.2.2.2.2.1 i), .long (d * 31)]) rfl ?_
        refine AW.blk (amX3_digest _) 80 5 (h' := hX 0 C A L) (pc' := 122) (lv' := [(4, .int ((nI i) + 1)), (1, .long ((d * 31) + ((sSF (nI c) C.2.2.2.2.2.2.2.2.2.2.2.2.1 C.2.2.2.1 C.2.2.2.2.2.2.1 C.2.2.2.2.2.2.2.1 C.2.2.2.2.2.2.2.2.1 C.2.2.2.2.2.2.2.2.2.1 C.2.2.2.2.2.2.2.2.2.2.1 C.2.2.2.2.2.2.2.2.2.2.2.1 i).toInt64))), (3, .int (nI c)), (0, .ref 0)]) (st' := []) (L := []) rfl trivial ?_
        refine AW.widen (kc' := (62 + 8 * c + (i + 1))) (ks' := (388 + 64 * c + 8 * (i + 1))) (show (62 + 8 * c + i) + 1 ≤ (62 + 8 * c + (i + 1)) by omega) (show (388 + 64 * c + 8 * i) + 8 ≤ (388 + 64 * c + 8 * (i + 1)) by omega) ?_
        refine AW.pick [0, 2, 1, 3] (lv' := [(4, .int ((nI i) + 1)), (3, .int (nI c)), (1, .long ((d * 31) + ((sSF (nI c) C.2.2.2.2.2.2.2.2.2.2.2.2.1 C.2.2.2.1 C.2.2.2.2.2.2.1 C.2.2.2.2.2.2.2.1 C.2.2.2.2.2.2.2.2.1 C.2.2.2.2.2.2.2.2.2.1 C.2.2.2.2.2.2.2.2.2.2.1 C.2.2.2.2.2.2.2.2.2.2.2.1 i).toInt64))), (0, .ref 0)]) rfl ?_
        rw [nI_1 i]
        exact ih (i + 1) _ (by omega) (by rw [← hf]; simp only [lpN, dg1, dgS, if_neg c1])
    refine AW.blk (amX3_digest _) 68 2 (h' := hX 0 C A L) (pc' := 122) (lv' := [(4, .int 0), (3, .int (nI c)), (1, .long d0), (0, .ref 0)]) (st' := []) (L := []) rfl trivial ?_
    exact K 8 0 d0 rfl hb0
  have K4O : ∀ (k i : Nat) (d : Int64), i + k = N → lpN (dg4 C) k i d = F4 → AW G (yX3_digest.cls, cX3_digest, 5, 24) (hX 0 C A L) (62 + 8 * i + 0) (388 + 64 * i + 8 * 0) 111 [(3, .int (nI i)), (1, .long d), (0, .ref 0)] [] := by
    intro k
    induction k with
    | zero =>
      intro i d hi hf
      refine AW.blk (amX3_digest _) 64 3 (h' := hX 0 C A L) (pc' := 116) (lv' := [(3, .int (nI i)), (1, .long d), (0, .ref 0)]) (st' := [.int C.2.2.2.2.2.2.2.2.2.2.2.2.1, .int (nI i)]) (L := []) rfl trivial ?_
      refine AW.br (amX3_digest _) 67 (tgt := 156) (C := C.2.2.2.2.2.2.2.2.2.2.2.2.1 ≤ (nI i)) (C' := ¬ C.2.2.2.2.2.2.2.2.2.2.2.2.1 ≤ (nI i)) (st' := []) rfl rfl rfl (fun c1 => ?_) (fun c1 => absurd (show C.2.2.2.2.2.2.2.2.2.2.2.2.1 ≤ nI i by rw [e1]; exact nI_le (by omega) (by omega)) c1)
      refine AW.widen (kc' := 126) (ks' := 900) (by omega) (by omega) ?_
      refine AW.pick [1, 2] (lv' := [(1, .long d), (0, .ref 0)]) rfl ?_
      exact E4 _ hf
    | succ k ih =>
      intro i d hi hf
      refine AW.blk (amX3_digest _) 64 3 (h' := hX 0 C A L) (pc' := 116) (lv' := [(3, .int (nI i)), (1, .long d), (0, .ref 0)]) (st' := [.int C.2.2.2.2.2.2.2.2.2.2.2.2.1, .int (nI i)]) (L := []) rfl trivial ?_
      refine AW.br (amX3_digest _) 67 (tgt := 156) (C := C.2.2.2.2.2.2.2.2.2.2.2.2.1 ≤ (nI i)) (C' := ¬ C.2.2.2.2.2.2.2.2.2.2.2.2.1 ≤ (nI i)) (st' := []) rfl rfl rfl (fun c1 => absurd (e1 ▸ c1) (nI_ge (a := i) (b := N) (by omega) (by omega))) (fun c1 => ?_)
      refine K4I i _ (by omega) (sSw_one (by omega) c1) ?_ d rfl
      refine AW.blk (amX3_digest _) 85 2 (h' := hX 0 C A L) (pc' := 111) (lv' := [(3, .int ((nI i) + 1)), (1, .long (dg4 C i d)), (0, .ref 0)]) (st' := []) (L := []) rfl trivial ?_
      refine AW.widen (kc' := (62 + 8 * (i + 1) + 0)) (ks' := (388 + 64 * (i + 1) + 8 * 0)) (by omega) (by omega) ?_
      rw [nI_1 i]
      exact ih (i + 1) _ (by omega) (by rw [← hf]; simp only [lpN])
  obtain ⟨F3, hF3⟩ : ∃ z, z = lpN (dg1 (dgR C)) 8 0 (lpN (dg2 C) 9 0 (lpN (dg1 (dgG C)) 8 0 1033)) := ⟨_, rfl⟩
  have E3 : ∀ (d : Int64), d = F3 → AW G (yX3_digest.cls, cX3_digest, 5, 24) (hX 0 C A L) 62 388 109 [(1, .long d), (0, .ref 0)] [] := by
    intro d hf
    refine AW.blk (amX3_digest _) 62 2 (h' := hX 0 C A L) (pc' := 111) (lv' := [(3, .int 0), (1, .long d), (0, .ref 0)]) (st' := []) (L := []) rfl trivial ?_
    exact K4O N 0 d (by omega) (by rw [hF4, hFA, hf, hF3, sDig, e1, lpS_N _ _ hN (by decide)])
  have K3 : ∀ (k i : Nat) (d : Int64), i + k = 8 → lpN (dg1 (dgR C)) k i d = F3 → AW G (yX3_digest.cls, cX3_digest, 5, 24) (hX 0 C A L) 62 388 83 [(3, .int (nI i)), (1, .long d), (0, .ref 0)] [] := by
    intro k
    induction k with
    | zero =>
      intro i d hi hf
      refine AW.blk (amX3_digest _) 47 2 (h' := hX 0 C A L) (pc' := 86) (lv' := [(3, .int (nI i)), (1, .long d), (0, .ref 0)]) (st' := [.int 8, .int (nI i)]) (L := []) rfl trivial ?_
      refine AW.br (amX3_digest _) 49 (tgt := 109) (C := 8 ≤ (nI i)) (C' := ¬ 8 ≤ (nI i)) (st' := []) rfl rfl rfl (fun c1 => ?_) (fun c1 => absurd (nI_le (a := 8) (b := i) (by omega) (by omega)) c1)
      refine AW.pick [1, 2] (lv' := [(1, .long d), (0, .ref 0)]) rfl ?_
      exact E3 _ hf
    | succ k ih =>
      intro i d hi hf
      refine AW.blk (amX3_digest _) 47 2 (h' := hX 0 C A L) (pc' := 86) (lv' := [(3, .int (nI i)), (1, .long d), (0, .ref 0)]) (st' := [.int 8, .int (nI i)]) (L := []) rfl trivial ?_
      refine AW.br (amX3_digest _) 49 (tgt := 109) (C := 8 ≤ (nI i)) (C' := ¬ 8 ≤ (nI i)) (st' := []) rfl rfl rfl (fun c1 => absurd c1 (nI_ge (a := i) (b := 8) (by omega) (by omega))) (fun c1 => ?_)
      refine AW.blk (amX3_digest _) 50 1 (h' := hX 0 C A L) (pc' := 90) (lv' := [(3, .int (nI i)), (1, .long d), (0, .ref 0)]) (st' := [.long d]) (L := []) rfl trivial ?_
      refine AW.ldcL (amX3_digest _) 51 31 rfl kcX3_148 ?_
      refine AW.blk (amX3_digest _) 52 10 (h' := hX 0 C A L) (pc' := 83) (lv' := [(3, .int ((nI i) + 1)), (1, .long ((d * 31) + ((C.2.2.2.2.2.1 (nI i).toNatClampNeg).toInt64))), (0, .ref 0)]) (st' := []) (L := [vp_in (nI i) 8]) rfl (vpi (by omega) rfl) ?_
      rw [nI_1 i]
      exact ih (i + 1) _ (by omega) (by rw [← hf]; simp only [lpN, dg1, dgR, if_neg c1])
  obtain ⟨F2, hF2⟩ : ∃ z, z = lpN (dg2 C) 9 0 (lpN (dg1 (dgG C)) 8 0 1033) := ⟨_, rfl⟩
  have E2 : ∀ (d : Int64), d = F2 → AW G (yX3_digest.cls, cX3_digest, 5, 24) (hX 0 C A L) 62 388 81 [(1, .long d), (0, .ref 0)] [] := by
    intro d hf
    refine AW.blk (amX3_digest _) 45 2 (h' := hX 0 C A L) (pc' := 83) (lv' := [(3, .int 0), (1, .long d), (0, .ref 0)]) (st' := []) (L := []) rfl trivial ?_
    exact K3 8 0 d rfl (by rw [hF3, hf, hF2])
  have K2I : ∀ (c : Nat) (F1 : Int64), c < 9 → (AW G (yX3_digest.cls, cX3_digest, 5, 24) (hX 0 C A L) (8 + 6 * c + 6) (64 + 36 * c + 6 * 6) 75 [(3, .int (nI c)), (1, .long F1), (0, .ref 0)] []) → ∀ (d0 : Int64), dg2 C c d0 = F1 → AW G (yX3_digest.cls, cX3_digest, 5, 24) (hX 0 C A L) (8 + 6 * c + 0) (64 + 36 * c + 6 * 0) 44 [(3, .int (nI c)), (1, .long d0), (0, .ref 0)] [] := by
    intro c F1 hc9 E81 d0 hb0
    have EI : ∀ (d : Int64), d = F1 → AW G (yX3_digest.cls, cX3_digest, 5, 24) (hX 0 C A L) (8 + 6 * c + 6) (64 + 36 * c + 6 * 6) 75 [(3, .int (nI c)), (1, .long d), (0, .ref 0)] [] := fun d hb => by rw [hb]; exact E81
    have K : ∀ (k i : Nat) (d : Int64), i + k = 6 → lpN (dg1 (dgC C c)) k i d = F1 → AW G (yX3_digest.cls, cX3_digest, 5, 24) (hX 0 C A L) (8 + 6 * c + i) (64 + 36 * c + 6 * i) 47 [(4, .int (nI i)), (3, .int (nI c)), (1, .long d), (0, .ref 0)] [] := by
      intro k
      induction k with
      | zero =>
        intro i d hi hf
        refine AW.blk (amX3_digest _) 28 2 (h' := hX 0 C A L) (pc' := 51) (lv' := [(4, .int (nI i)), (3, .int (nI c)), (1, .long d), (0, .ref 0)]) (st' := [.int 6, .int (nI i)]) (L := []) rfl trivial ?_
        refine AW.br (amX3_digest _) 30 (tgt := 75) (C := 6 ≤ (nI i)) (C' := ¬ 6 ≤ (nI i)) (st' := []) rfl rfl rfl (fun c1 => ?_) (fun c1 => absurd (nI_le (a := 6) (b := i) (by omega) (by omega)) c1)
        refine AW.widen (kc' := (8 + 6 * c + 6)) (ks' := (64 + 36 * c + 6 * 6)) (by omega) (by omega) ?_
        refine AW.pick [1, 2, 3] (lv' := [(3, .int (nI c)), (1, .long d), (0, .ref 0)]) rfl ?_
        exact EI _ hf
      | succ k ih =>
        intro i d hi hf
        refine AW.blk (amX3_digest _) 28 2 (h' := hX 0 C A L) (pc' := 51) (lv' := [(4, .int (nI i)), (3, .int (nI c)), (1, .long d), (0, .ref 0)]) (st' := [.int 6, .int (nI i)]) (L := []) rfl trivial ?_
        refine AW.br (amX3_digest _) 30 (tgt := 75) (C := 6 ≤ (nI i)) (C' := ¬ 6 ≤ (nI i)) (st' := []) rfl rfl rfl (fun c1 => absurd c1 (nI_ge (a := i) (b := 6) (by omega) (by omega))) (fun c1 => ?_)
        refine AW.blk (amX3_digest _) 31 1 (h' := hX 0 C A L) (pc' := 55) (lv' := [(4, .int (nI i)), (3, .int (nI c)), (1, .long d), (0, .ref 0)]) (st' := [.long d]) (L := []) rfl trivial ?_
        refine AW.ldcL (amX3_digest _) 32 31 rfl kcX3_148 ?_
        refine AW.blk (amX3_digest _) 33 4 (h' := hX 0 C A L) (pc' := 63) (lv' := [(4, .int (nI i)), (3, .int (nI c)), (1, .long d), (0, .ref 0)]) (st' := [.int (nI i), .int (nI c), .ref 0, .long (d * 31)]) (L := []) rfl trivial ?_
        refine AW.callVp (amX3_digest _) 37 (kX3_crossingTold 0 C A L hV (nI c) (sCr_one hc9) i (by omega)) rfl rfl [0, 1, 2, 3, 4, 5, 6, 7, 8, 9, 10, 11, 12, 13, 14, 15, 16, 17, 18, 19, 20, 21, 22, 23] [] ykX3_crossingTold yiX3_crossingTold yvX3_crossingTold mlX3_104 rfl rfl rfl rfl hR ⟨Nat.le_of_ble_eq_true rfl, Nat.le_of_ble_eq_true rfl, (show (8 + 6 * c + i) + 1 ≤ 126 by omega), (show (64 + 36 * c + 6 * i) + 6 ≤ 900 by omega)⟩ rfl rfl rfl rfl rfl (fun _ => rfl) (h1 := hX 0 C A L) rfl (st' := [.int (sCF (nI c) C.2.2.2.2.2.2.2.2.2.2.2.2.1 C.1 C.2.1 C.2.2.1 C.2.2.2.1 C.2.2.2.2.1 C.2.2.2.2.2.2.1 i), .long (d * 31)]) rfl ?_
        refine AW.blk (amX3_digest _) 38 5 (h' := hX 0 C A L) (pc' := 47) (lv' := [(4, .int ((nI i) + 1)), (1, .long ((d * 31) + ((sCF (nI c) C.2.2.2.2.2.2.2.2.2.2.2.2.1 C.1 C.2.1 C.2.2.1 C.2.2.2.1 C.2.2.2.2.1 C.2.2.2.2.2.2.1 i).toInt64))), (3, .int (nI c)), (0, .ref 0)]) (st' := []) (L := []) rfl trivial ?_
        refine AW.widen (kc' := (8 + 6 * c + (i + 1))) (ks' := (64 + 36 * c + 6 * (i + 1))) (show (8 + 6 * c + i) + 1 ≤ (8 + 6 * c + (i + 1)) by omega) (show (64 + 36 * c + 6 * i) + 6 ≤ (64 + 36 * c + 6 * (i + 1)) by omega) ?_
        refine AW.pick [0, 2, 1, 3] (lv' := [(4, .int ((nI i) + 1)), (3, .int (nI c)), (1, .long ((d * 31) + ((sCF (nI c) C.2.2.2.2.2.2.2.2.2.2.2.2.1 C.1 C.2.1 C.2.2.1 C.2.2.2.1 C.2.2.2.2.1 C.2.2.2.2.2.2.1 i).toInt64))), (0, .ref 0)]) rfl ?_
        rw [nI_1 i]
        exact ih (i + 1) _ (by omega) (by rw [← hf]; simp only [lpN, dg1, dgC, if_neg c1])
    refine AW.blk (amX3_digest _) 26 2 (h' := hX 0 C A L) (pc' := 47) (lv' := [(4, .int 0), (3, .int (nI c)), (1, .long d0), (0, .ref 0)]) (st' := []) (L := []) rfl trivial ?_
    exact K 6 0 d0 rfl hb0
  have K2O : ∀ (k i : Nat) (d : Int64), i + k = 9 → lpN (dg2 C) k i d = F2 → AW G (yX3_digest.cls, cX3_digest, 5, 24) (hX 0 C A L) (8 + 6 * i + 0) (64 + 36 * i + 6 * 0) 38 [(3, .int (nI i)), (1, .long d), (0, .ref 0)] [] := by
    intro k
    induction k with
    | zero =>
      intro i d hi hf
      refine AW.blk (amX3_digest _) 23 2 (h' := hX 0 C A L) (pc' := 41) (lv' := [(3, .int (nI i)), (1, .long d), (0, .ref 0)]) (st' := [.int 9, .int (nI i)]) (L := []) rfl trivial ?_
      refine AW.br (amX3_digest _) 25 (tgt := 81) (C := 9 ≤ (nI i)) (C' := ¬ 9 ≤ (nI i)) (st' := []) rfl rfl rfl (fun c1 => ?_) (fun c1 => absurd (nI_le (a := 9) (b := i) (by omega) (by omega)) c1)
      refine AW.widen (kc' := 62) (ks' := 388) (by omega) (by omega) ?_
      refine AW.pick [1, 2] (lv' := [(1, .long d), (0, .ref 0)]) rfl ?_
      exact E2 _ hf
    | succ k ih =>
      intro i d hi hf
      refine AW.blk (amX3_digest _) 23 2 (h' := hX 0 C A L) (pc' := 41) (lv' := [(3, .int (nI i)), (1, .long d), (0, .ref 0)]) (st' := [.int 9, .int (nI i)]) (L := []) rfl trivial ?_
      refine AW.br (amX3_digest _) 25 (tgt := 81) (C := 9 ≤ (nI i)) (C' := ¬ 9 ≤ (nI i)) (st' := []) rfl rfl rfl (fun c1 => absurd c1 (nI_ge (a := i) (b := 9) (by omega) (by omega))) (fun c1 => ?_)
      refine K2I i _ (by omega) ?_ d rfl
      refine AW.blk (amX3_digest _) 43 2 (h' := hX 0 C A L) (pc' := 38) (lv' := [(3, .int ((nI i) + 1)), (1, .long (dg2 C i d)), (0, .ref 0)]) (st' := []) (L := []) rfl trivial ?_
      refine AW.widen (kc' := (8 + 6 * (i + 1) + 0)) (ks' := (64 + 36 * (i + 1) + 6 * 0)) (by omega) (by omega) ?_
      rw [nI_1 i]
      exact ih (i + 1) _ (by omega) (by rw [← hf]; simp only [lpN])
  obtain ⟨F1, hF1⟩ : ∃ z, z = lpN (dg1 (dgG C)) 8 0 1033 := ⟨_, rfl⟩
  have E1 : ∀ (d : Int64), d = F1 → AW G (yX3_digest.cls, cX3_digest, 5, 24) (hX 0 C A L) 8 64 36 [(1, .long d), (0, .ref 0)] [] := by
    intro d hf
    refine AW.blk (amX3_digest _) 21 2 (h' := hX 0 C A L) (pc' := 38) (lv' := [(3, .int 0), (1, .long d), (0, .ref 0)]) (st' := []) (L := []) rfl trivial ?_
    exact K2O 9 0 d rfl (by rw [hF2, hf, hF1])
  have K1 : ∀ (k i : Nat) (d : Int64), i + k = 8 → lpN (dg1 (dgG C)) k i d = F1 → AW G (yX3_digest.cls, cX3_digest, 5, 24) (hX 0 C A L) i (8 * i) 11 [(3, .int (nI i)), (1, .long d), (0, .ref 0)] [] := by
    intro k
    induction k with
    | zero =>
      intro i d hi hf
      refine AW.blk (amX3_digest _) 7 2 (h' := hX 0 C A L) (pc' := 14) (lv' := [(3, .int (nI i)), (1, .long d), (0, .ref 0)]) (st' := [.int 8, .int (nI i)]) (L := []) rfl trivial ?_
      refine AW.br (amX3_digest _) 9 (tgt := 36) (C := 8 ≤ (nI i)) (C' := ¬ 8 ≤ (nI i)) (st' := []) rfl rfl rfl (fun c1 => ?_) (fun c1 => absurd (nI_le (a := 8) (b := i) (by omega) (by omega)) c1)
      refine AW.widen (kc' := 8) (ks' := 64) (by omega) (by omega) ?_
      refine AW.pick [1, 2] (lv' := [(1, .long d), (0, .ref 0)]) rfl ?_
      exact E1 _ hf
    | succ k ih =>
      intro i d hi hf
      refine AW.blk (amX3_digest _) 7 2 (h' := hX 0 C A L) (pc' := 14) (lv' := [(3, .int (nI i)), (1, .long d), (0, .ref 0)]) (st' := [.int 8, .int (nI i)]) (L := []) rfl trivial ?_
      refine AW.br (amX3_digest _) 9 (tgt := 36) (C := 8 ≤ (nI i)) (C' := ¬ 8 ≤ (nI i)) (st' := []) rfl rfl rfl (fun c1 => absurd c1 (nI_ge (a := i) (b := 8) (by omega) (by omega))) (fun c1 => ?_)
      refine AW.blk (amX3_digest _) 10 1 (h' := hX 0 C A L) (pc' := 18) (lv' := [(3, .int (nI i)), (1, .long d), (0, .ref 0)]) (st' := [.long d]) (L := []) rfl trivial ?_
      refine AW.ldcL (amX3_digest _) 11 31 rfl kcX3_148 ?_
      refine AW.blk (amX3_digest _) 12 3 (h' := hX 0 C A L) (pc' := 24) (lv' := [(3, .int (nI i)), (1, .long d), (0, .ref 0)]) (st' := [.int (nI i), .ref 0, .long (d * 31)]) (L := []) rfl trivial ?_
      refine AW.callVp (amX3_digest _) 15 (kX3_counted 0 C A L hV i (by omega)) rfl rfl [0, 1, 2, 3, 4, 5, 6, 7, 8, 9, 10, 11, 12, 13, 14, 15, 16, 17, 18, 19, 20, 21, 22, 23] [] ykX3_counted yiX3_counted yvX3_counted mlX3_121 rfl rfl rfl rfl hR ⟨Nat.le_of_ble_eq_true rfl, Nat.le_of_ble_eq_true rfl, (show i + 1 ≤ 126 by omega), (show 8 * i + 8 ≤ 900 by omega)⟩ rfl rfl rfl rfl rfl (fun _ => rfl) (h1 := hX 0 C A L) rfl (st' := [.int (sGF C.2.2.2.2.2.2.2.2.2.2.2.2.1 C.2.2.2.2.2.2.2.2.2.2.2.2.2 C.1 C.2.2.2.1 C.2.2.2.2.2.2.2.2.2.1 C.2.2.2.2.2.2.2.2.2.2.1 C.2.2.2.2.2.2.2.2.2.2.2.1 i), .long (d * 31)]) rfl ?_
      refine AW.blk (amX3_digest _) 16 5 (h' := hX 0 C A L) (pc' := 11) (lv' := [(3, .int ((nI i) + 1)), (1, .long ((d * 31) + ((sGF C.2.2.2.2.2.2.2.2.2.2.2.2.1 C.2.2.2.2.2.2.2.2.2.2.2.2.2 C.1 C.2.2.2.1 C.2.2.2.2.2.2.2.2.2.1 C.2.2.2.2.2.2.2.2.2.2.1 C.2.2.2.2.2.2.2.2.2.2.2.1 i).toInt64))), (0, .ref 0)]) (st' := []) (L := []) rfl trivial ?_
      refine AW.widen (kc' := i + 1) (ks' := 8 * (i + 1)) (show i + 1 ≤ i + 1 by omega) (show 8 * i + 8 ≤ 8 * (i + 1) by omega) ?_
      rw [nI_1 i]
      exact ih (i + 1) _ (by omega) (by rw [← hf]; simp only [lpN, dg1, dgG, if_neg c1])
  refine AW.blk (amX3_digest _) 0 3 (h' := hX 0 C A L) (pc' := 5) (lv' := [(0, .ref 0)]) (st' := []) (L := []) rfl trivial ?_
  refine AW.ldcL (amX3_digest _) 3 1033 rfl kcX3_146 ?_
  refine AW.blk (amX3_digest _) 4 3 (h' := hX 0 C A L) (pc' := 11) (lv' := [(3, .int 0), (1, .long 1033), (0, .ref 0)]) (st' := []) (L := []) rfl trivial ?_
  exact K1 8 0 1033 rfl hF1.symm
