/-! ===== the reference: told, what would be ===== -/
theorem in3_w {w K : Nat} (h : w ≤ K) (hK : K < 2 ^ 31) : ¬ sIn3 (nI w) 0 (nI K) = 0 := in3_ok (nI_pos (by omega)) (nI_le h hK)
set_option maxHeartbeats 2000000 in
theorem kX3_sweeper {B : Nat} (th : Int32) (C A : CS) (L : Nat → Int32) (hV : VC B C) (s : Int32) (hs : ¬ sSw s C.2.2.2.2.2.2.2.2.2.2.2.2.1 = 0) (w : Nat) (hw : w < 8) : AMet yX3_sweeper cX3_sweeper 3 (some .int) { frames := 2, cells := 1, slots := 8, locals := 44 } [.ref 0, .int s, .int (nI w)] (hX th C A L) (some (.int (sSF s C.2.2.2.2.2.2.2.2.2.2.2.2.1 C.2.2.2.1 C.2.2.2.2.2.2.1 C.2.2.2.2.2.2.2.1 C.2.2.2.2.2.2.2.2.1 C.2.2.2.2.2.2.2.2.2.1 C.2.2.2.2.2.2.2.2.2.2.1 C.2.2.2.2.2.2.2.2.2.2.2.1 w))) (hX 0 C A L) := by
  refine AMet.of (by decide) rfl ?_
  intro G hR hE hI
  refine AW.blk (amX3_sweeper _) 0 5 (h' := hX 0 C A L) (pc' := 7) (lv' := [(0, .ref 0), (1, .int s), (2, .int (nI w))]) (st' := [.int s, .ref 0]) (L := []) rfl trivial ?_
  refine AW.callVp (amX3_sweeper _) 5 (kIsS 0 C hV s) rfl rfl [0] [0, 1, 2, 3, 4, 5, 6, 7, 8, 9, 10, 11, 12, 13, 14, 15] ykX3_isSweeper yiX3_isSweeper yvX3_isSweeper mlX3_77 rfl rfl rfl rfl hR ⟨Nat.le_of_ble_eq_true rfl, Nat.le_of_ble_eq_true rfl, Nat.le_of_ble_eq_true rfl, Nat.le_of_ble_eq_true rfl⟩ rfl rfl rfl rfl rfl (fun _ => rfl) (h1 := hX 0 C A L) rfl (st' := [.int (sSw s C.2.2.2.2.2.2.2.2.2.2.2.2.1)]) rfl ?_
  refine AW.br (amX3_sweeper _) 6 (tgt := 32) (C := (sSw s C.2.2.2.2.2.2.2.2.2.2.2.2.1) = 0) (C' := ¬ (sSw s C.2.2.2.2.2.2.2.2.2.2.2.2.1) = 0) (st' := []) rfl rfl rfl (fun c1 => absurd c1 hs) (fun c1 => ?_)
  refine AW.blk (amX3_sweeper _) 7 3 (h' := hX 0 C A L) (pc' := 17) (lv' := [(0, .ref 0), (1, .int s), (2, .int (nI w))]) (st' := [.int 7, .int 0, .int (nI w)]) (L := []) rfl trivial ?_
  refine AW.callSp (amX3_sweeper _) 10 (kX3_isIn (nI w) 0 7) [] [] ykX3_isIn ysX3_isIn mlX3_44 rfl rfl rfl rfl hR ⟨Nat.le_of_ble_eq_true rfl, Nat.le_of_ble_eq_true rfl, Nat.le_of_ble_eq_true rfl, Nat.le_of_ble_eq_true rfl⟩ rfl rfl rfl rfl rfl (fun _ => rfl) (h1 := hX 0 C A L) rfl (st' := [.int (sIn3 (nI w) 0 7)]) rfl ?_
  refine AW.br (amX3_sweeper _) 11 (tgt := 32) (C := (sIn3 (nI w) 0 7) = 0) (C' := ¬ (sIn3 (nI w) 0 7) = 0) (st' := []) rfl rfl rfl (fun c2 => absurd c2 (in3_w (w := w) (K := 7) (by omega) (by decide))) (fun c2 => ?_)
  refine AW.blk (amX3_sweeper _) 12 3 (h' := hX 0 C A L) (pc' := 26) (lv' := [(0, .ref 0), (1, .int s), (2, .int (nI w))]) (st' := [.int (nI w), .int s, .ref 0]) (L := []) rfl trivial ?_
  refine AW.callVp (amX3_sweeper _) 15 (kX3_sweeperTold 0 C A L hV s hs w hw) rfl rfl [0, 1, 2, 3, 4, 5, 6, 7, 8, 9, 10, 11, 12, 13, 14, 15, 16, 17, 18, 19, 20, 21, 22, 23] [] ykX3_sweeperTold yiX3_sweeperTold yvX3_sweeperTold mlX3_98 rfl rfl rfl rfl hR ⟨Nat.le_of_ble_eq_true rfl, Nat.le_of_ble_eq_true rfl, Nat.le_of_ble_eq_true rfl, Nat.le_of_ble_eq_true rfl⟩ rfl rfl rfl rfl rfl (fun _ => rfl) (h1 := hX 0 C A L) rfl (st' := [.int (sSF s C.2.2.2.2.2.2.2.2.2.2.2.2.1 C.2.2.2.1 C.2.2.2.2.2.2.1 C.2.2.2.2.2.2.2.1 C.2.2.2.2.2.2.2.2.1 C.2.2.2.2.2.2.2.2.2.1 C.2.2.2.2.2.2.2.2.2.2.1 C.2.2.2.2.2.2.2.2.2.2.2.1 w)]) rfl ?_
  refine AW.blk (amX3_sweeper _) 16 1 (h' := hX 0 C A L) (pc' := 37) (lv' := [(0, .ref 0), (1, .int s), (2, .int (nI w))]) (st' := [.int (sSF s C.2.2.2.2.2.2.2.2.2.2.2.2.1 C.2.2.2.1 C.2.2.2.2.2.2.1 C.2.2.2.2.2.2.2.1 C.2.2.2.2.2.2.2.2.1 C.2.2.2.2.2.2.2.2.2.1 C.2.2.2.2.2.2.2.2.2.2.1 C.2.2.2.2.2.2.2.2.2.2.2.1 w)]) (L := []) rfl trivial ?_
  exact AW.iretE (amX3_sweeper _) 20 hE rfl rfl rfl rfl rfl rfl rfl
set_option maxHeartbeats 2000000 in
theorem kX3_sweeper_b1 {B : Nat} (th : Int32) (C A : CS) (L : Nat → Int32) (hV : VC B C) (s w : Int32) (hs : sSw s C.2.2.2.2.2.2.2.2.2.2.2.2.1 = 0) : AMet yX3_sweeper cX3_sweeper 3 (some .int) { frames := 2, cells := 1, slots := 8, locals := 44 } [.ref 0, .int s, .int w] (hX th C A L) (some (.int 0)) (hX 1 C A L) := by
  refine AMet.of (by decide) rfl ?_
  intro G hR hE hI
  refine AW.blk (amX3_sweeper _) 0 5 (h' := hX 0 C A L) (pc' := 7) (lv' := [(0, .ref 0), (1, .int s), (2, .int w)]) (st' := [.int s, .ref 0]) (L := []) rfl trivial ?_
  refine AW.callVp (amX3_sweeper _) 5 (kIsS 0 C hV s) rfl rfl [0] [0, 1, 2, 3, 4, 5, 6, 7, 8, 9, 10, 11, 12, 13, 14, 15] ykX3_isSweeper yiX3_isSweeper yvX3_isSweeper mlX3_77 rfl rfl rfl rfl hR ⟨Nat.le_of_ble_eq_true rfl, Nat.le_of_ble_eq_true rfl, Nat.le_of_ble_eq_true rfl, Nat.le_of_ble_eq_true rfl⟩ rfl rfl rfl rfl rfl (fun _ => rfl) (h1 := hX 0 C A L) rfl (st' := [.int (sSw s C.2.2.2.2.2.2.2.2.2.2.2.2.1)]) rfl ?_
  refine AW.br (amX3_sweeper _) 6 (tgt := 32) (C := (sSw s C.2.2.2.2.2.2.2.2.2.2.2.2.1) = 0) (C' := ¬ (sSw s C.2.2.2.2.2.2.2.2.2.2.2.2.1) = 0) (st' := []) rfl rfl rfl (fun c1 => ?_) (fun c1 => absurd hs c1)
  refine AW.blk (amX3_sweeper _) 17 2 (h' := hX 0 C A L) (pc' := 34) (lv' := [(0, .ref 0), (1, .int s), (2, .int w)]) (st' := [.int 1, .ref 0]) (L := []) rfl trivial ?_
  refine AW.callVp (amX3_sweeper _) 19 (kX3_no 0 C.2.2.2.2.2.2.2.2.2.2.2.2.1 1) rfl rfl [0] [0, 1, 2, 3, 4, 5, 6, 7, 8, 9, 10, 11, 12, 13, 14, 15] ykX3_no yiX3_no yvX3_no mlX3_59 rfl rfl rfl rfl hR ⟨Nat.le_of_ble_eq_true rfl, Nat.le_of_ble_eq_true rfl, Nat.le_of_ble_eq_true rfl, Nat.le_of_ble_eq_true rfl⟩ rfl rfl rfl rfl rfl (fun _ => rfl) (h1 := hX 1 C A L) rfl (st' := [.int 0]) rfl ?_
  exact AW.iretE (amX3_sweeper _) 20 hE rfl rfl rfl rfl rfl rfl rfl
set_option maxHeartbeats 2000000 in
theorem kX3_sweeper_b2 {B : Nat} (th : Int32) (C A : CS) (L : Nat → Int32) (hV : VC B C) (s w : Int32) (hs : ¬ sSw s C.2.2.2.2.2.2.2.2.2.2.2.2.1 = 0) (hw : sIn3 w 0 7 = 0) : AMet yX3_sweeper cX3_sweeper 3 (some .int) { frames := 2, cells := 1, slots := 8, locals := 44 } [.ref 0, .int s, .int w] (hX th C A L) (some (.int 0)) (hX 1 C A L) := by
  refine AMet.of (by decide) rfl ?_
  intro G hR hE hI
  refine AW.blk (amX3_sweeper _) 0 5 (h' := hX 0 C A L) (pc' := 7) (lv' := [(0, .ref 0), (1, .int s), (2, .int w)]) (st' := [.int s, .ref 0]) (L := []) rfl trivial ?_
  refine AW.callVp (amX3_sweeper _) 5 (kIsS 0 C hV s) rfl rfl [0] [0, 1, 2, 3, 4, 5, 6, 7, 8, 9, 10, 11, 12, 13, 14, 15] ykX3_isSweeper yiX3_isSweeper yvX3_isSweeper mlX3_77 rfl rfl rfl rfl hR ⟨Nat.le_of_ble_eq_true rfl, Nat.le_of_ble_eq_true rfl, Nat.le_of_ble_eq_true rfl, Nat.le_of_ble_eq_true rfl⟩ rfl rfl rfl rfl rfl (fun _ => rfl) (h1 := hX 0 C A L) rfl (st' := [.int (sSw s C.2.2.2.2.2.2.2.2.2.2.2.2.1)]) rfl ?_
  refine AW.br (amX3_sweeper _) 6 (tgt := 32) (C := (sSw s C.2.2.2.2.2.2.2.2.2.2.2.2.1) = 0) (C' := ¬ (sSw s C.2.2.2.2.2.2.2.2.2.2.2.2.1) = 0) (st' := []) rfl rfl rfl (fun c1 => absurd c1 hs) (fun c1 => ?_)
  refine AW.blk (amX3_sweeper _) 7 3 (h' := hX 0 C A L) (pc' := 17) (lv' := [(0, .ref 0), (1, .int s), (2, .int w)]) (st' := [.int 7, .int 0, .int w]) (L := []) rfl trivial ?_
  refine AW.callSp (amX3_sweeper _) 10 (kX3_isIn w 0 7) [] [] ykX3_isIn ysX3_isIn mlX3_44 rfl rfl rfl rfl hR ⟨Nat.le_of_ble_eq_true rfl, Nat.le_of_ble_eq_true rfl, Nat.le_of_ble_eq_true rfl, Nat.le_of_ble_eq_true rfl⟩ rfl rfl rfl rfl rfl (fun _ => rfl) (h1 := hX 0 C A L) rfl (st' := [.int (sIn3 w 0 7)]) rfl ?_
  refine AW.br (amX3_sweeper _) 11 (tgt := 32) (C := (sIn3 w 0 7) = 0) (C' := ¬ (sIn3 w 0 7) = 0) (st' := []) rfl rfl rfl (fun c2 => ?_) (fun c2 => absurd hw c2)
  refine AW.blk (amX3_sweeper _) 17 2 (h' := hX 0 C A L) (pc' := 34) (lv' := [(0, .ref 0), (1, .int s), (2, .int w)]) (st' := [.int 1, .ref 0]) (L := []) rfl trivial ?_
  refine AW.callVp (amX3_sweeper _) 19 (kX3_no 0 C.2.2.2.2.2.2.2.2.2.2.2.2.1 1) rfl rfl [0] [0, 1, 2, 3, 4, 5, 6, 7, 8, 9, 10, 11, 12, 13, 14, 15] ykX3_no yiX3_no yvX3_no mlX3_59 rfl rfl rfl rfl hR ⟨Nat.le_of_ble_eq_true rfl, Nat.le_of_ble_eq_true rfl, Nat.le_of_ble_eq_true rfl, Nat.le_of_ble_eq_true rfl⟩ rfl rfl rfl rfl rfl (fun _ => rfl) (h1 := hX 1 C A L) rfl (st' := [.int 0]) rfl ?_
  exact AW.iretE (amX3_sweeper _) 20 hE rfl rfl rfl rfl rfl rfl rfl
set_option maxHeartbeats 2000000 in
theorem kX3_crossing {B : Nat} (th : Int32) (C A : CS) (L : Nat → Int32) (hV : VC B C) (c : Int32) (hc : ¬ sCr c = 0) (w : Nat) (hw : w < 6) : AMet yX3_crossing cX3_crossing 3 (some .int) { frames := 2, cells := 1, slots := 6, locals := 42 } [.ref 0, .int c, .int (nI w)] (hX th C A L) (some (.int (sCF c C.2.2.2.2.2.2.2.2.2.2.2.2.1 C.1 C.2.1 C.2.2.1 C.2.2.2.1 C.2.2.2.2.1 C.2.2.2.2.2.2.1 w))) (hX 0 C A L) := by
  refine AMet.of (by decide) rfl ?_
  intro G hR hE hI
  refine AW.blk (amX3_crossing _) 0 4 (h' := hX 0 C A L) (pc' := 6) (lv' := [(0, .ref 0), (1, .int c), (2, .int (nI w))]) (st' := [.int c]) (L := []) rfl trivial ?_
  refine AW.callSp (amX3_crossing _) 4 (kX3_isCrossing c) [] [] ykX3_isCrossing ysX3_isCrossing mlX3_55 rfl rfl rfl rfl hR ⟨Nat.le_of_ble_eq_true rfl, Nat.le_of_ble_eq_true rfl, Nat.le_of_ble_eq_true rfl, Nat.le_of_ble_eq_true rfl⟩ rfl rfl rfl rfl rfl (fun _ => rfl) (h1 := hX 0 C A L) rfl (st' := [.int (sCr c)]) rfl ?_
  refine AW.br (amX3_crossing _) 5 (tgt := 30) (C := (sCr c) = 0) (C' := ¬ (sCr c) = 0) (st' := []) rfl rfl rfl (fun c1 => absurd c1 hc) (fun c1 => ?_)
  refine AW.blk (amX3_crossing _) 6 3 (h' := hX 0 C A L) (pc' := 15) (lv' := [(0, .ref 0), (1, .int c), (2, .int (nI w))]) (st' := [.int 5, .int 0, .int (nI w)]) (L := []) rfl trivial ?_
  refine AW.callSp (amX3_crossing _) 9 (kX3_isIn (nI w) 0 5) [] [] ykX3_isIn ysX3_isIn mlX3_44 rfl rfl rfl rfl hR ⟨Nat.le_of_ble_eq_true rfl, Nat.le_of_ble_eq_true rfl, Nat.le_of_ble_eq_true rfl, Nat.le_of_ble_eq_true rfl⟩ rfl rfl rfl rfl rfl (fun _ => rfl) (h1 := hX 0 C A L) rfl (st' := [.int (sIn3 (nI w) 0 5)]) rfl ?_
  refine AW.br (amX3_crossing _) 10 (tgt := 30) (C := (sIn3 (nI w) 0 5) = 0) (C' := ¬ (sIn3 (nI w) 0 5) = 0) (st' := []) rfl rfl rfl (fun c2 => absurd c2 (in3_w (w := w) (K := 5) (by omega) (by decide))) (fun c2 => ?_)
  refine AW.blk (amX3_crossing _) 11 3 (h' := hX 0 C A L) (pc' := 24) (lv' := [(0, .ref 0), (1, .int c), (2, .int (nI w))]) (st' := [.int (nI w), .int c, .ref 0]) (L := []) rfl trivial ?_
  refine AW.callVp (amX3_crossing _) 14 (kX3_crossingTold 0 C A L hV c hc w hw) rfl rfl [0, 1, 2, 3, 4, 5, 6, 7, 8, 9, 10, 11, 12, 13, 14, 15, 16, 17, 18, 19, 20, 21, 22, 23] [] ykX3_crossingTold yiX3_crossingTold yvX3_crossingTold mlX3_104 rfl rfl rfl rfl hR ⟨Nat.le_of_ble_eq_true rfl, Nat.le_of_ble_eq_true rfl, Nat.le_of_ble_eq_true rfl, Nat.le_of_ble_eq_true rfl⟩ rfl rfl rfl rfl rfl (fun _ => rfl) (h1 := hX 0 C A L) rfl (st' := [.int (sCF c C.2.2.2.2.2.2.2.2.2.2.2.2.1 C.1 C.2.1 C.2.2.1 C.2.2.2.1 C.2.2.2.2.1 C.2.2.2.2.2.2.1 w)]) rfl ?_
  refine AW.blk (amX3_crossing _) 15 1 (h' := hX 0 C A L) (pc' := 35) (lv' := [(0, .ref 0), (1, .int c), (2, .int (nI w))]) (st' := [.int (sCF c C.2.2.2.2.2.2.2.2.2.2.2.2.1 C.1 C.2.1 C.2.2.1 C.2.2.2.1 C.2.2.2.2.1 C.2.2.2.2.2.2.1 w)]) (L := []) rfl trivial ?_
  exact AW.iretE (amX3_crossing _) 19 hE rfl rfl rfl rfl rfl rfl rfl
set_option maxHeartbeats 2000000 in
theorem kX3_crossing_b1 {B : Nat} (th : Int32) (C A : CS) (L : Nat → Int32) (hV : VC B C) (c w : Int32) (hc : sCr c = 0) : AMet yX3_crossing cX3_crossing 3 (some .int) { frames := 2, cells := 1, slots := 6, locals := 42 } [.ref 0, .int c, .int w] (hX th C A L) (some (.int 0)) (hX 1 C A L) := by
  refine AMet.of (by decide) rfl ?_
  intro G hR hE hI
  refine AW.blk (amX3_crossing _) 0 4 (h' := hX 0 C A L) (pc' := 6) (lv' := [(0, .ref 0), (1, .int c), (2, .int w)]) (st' := [.int c]) (L := []) rfl trivial ?_
  refine AW.callSp (amX3_crossing _) 4 (kX3_isCrossing c) [] [] ykX3_isCrossing ysX3_isCrossing mlX3_55 rfl rfl rfl rfl hR ⟨Nat.le_of_ble_eq_true rfl, Nat.le_of_ble_eq_true rfl, Nat.le_of_ble_eq_true rfl, Nat.le_of_ble_eq_true rfl⟩ rfl rfl rfl rfl rfl (fun _ => rfl) (h1 := hX 0 C A L) rfl (st' := [.int (sCr c)]) rfl ?_
  refine AW.br (amX3_crossing _) 5 (tgt := 30) (C := (sCr c) = 0) (C' := ¬ (sCr c) = 0) (st' := []) rfl rfl rfl (fun c1 => ?_) (fun c1 => absurd hc c1)
  refine AW.blk (amX3_crossing _) 16 2 (h' := hX 0 C A L) (pc' := 32) (lv' := [(0, .ref 0), (1, .int c), (2, .int w)]) (st' := [.int 1, .ref 0]) (L := []) rfl trivial ?_
  refine AW.callVp (amX3_crossing _) 18 (kX3_no 0 C.2.2.2.2.2.2.2.2.2.2.2.2.1 1) rfl rfl [0] [0, 1, 2, 3, 4, 5, 6, 7, 8, 9, 10, 11, 12, 13, 14, 15] ykX3_no yiX3_no yvX3_no mlX3_59 rfl rfl rfl rfl hR ⟨Nat.le_of_ble_eq_true rfl, Nat.le_of_ble_eq_true rfl, Nat.le_of_ble_eq_true rfl, Nat.le_of_ble_eq_true rfl⟩ rfl rfl rfl rfl rfl (fun _ => rfl) (h1 := hX 1 C A L) rfl (st' := [.int 0]) rfl ?_
  exact AW.iretE (amX3_crossing _) 19 hE rfl rfl rfl rfl rfl rfl rfl
set_option maxHeartbeats 2000000 in
theorem kX3_crossing_b2 {B : Nat} (th : Int32) (C A : CS) (L : Nat → Int32) (hV : VC B C) (c w : Int32) (hc : ¬ sCr c = 0) (hw : sIn3 w 0 5 = 0) : AMet yX3_crossing cX3_crossing 3 (some .int) { frames := 2, cells := 1, slots := 6, locals := 42 } [.ref 0, .int c, .int w] (hX th C A L) (some (.int 0)) (hX 1 C A L) := by
  refine AMet.of (by decide) rfl ?_
  intro G hR hE hI
  refine AW.blk (amX3_crossing _) 0 4 (h' := hX 0 C A L) (pc' := 6) (lv' := [(0, .ref 0), (1, .int c), (2, .int w)]) (st' := [.int c]) (L := []) rfl trivial ?_
  refine AW.callSp (amX3_crossing _) 4 (kX3_isCrossing c) [] [] ykX3_isCrossing ysX3_isCrossing mlX3_55 rfl rfl rfl rfl hR ⟨Nat.le_of_ble_eq_true rfl, Nat.le_of_ble_eq_true rfl, Nat.le_of_ble_eq_true rfl, Nat.le_of_ble_eq_true rfl⟩ rfl rfl rfl rfl rfl (fun _ => rfl) (h1 := hX 0 C A L) rfl (st' := [.int (sCr c)]) rfl ?_
  refine AW.br (amX3_crossing _) 5 (tgt := 30) (C := (sCr c) = 0) (C' := ¬ (sCr c) = 0) (st' := []) rfl rfl rfl (fun c1 => absurd c1 hc) (fun c1 => ?_)
  refine AW.blk (amX3_crossing _) 6 3 (h' := hX 0 C A L) (pc' := 15) (lv' := [(0, .ref 0), (1, .int c), (2, .int w)]) (st' := [.int 5, .int 0, .int w]) (L := []) rfl trivial ?_
  refine AW.callSp (amX3_crossing _) 9 (kX3_isIn w 0 5) [] [] ykX3_isIn ysX3_isIn mlX3_44 rfl rfl rfl rfl hR ⟨Nat.le_of_ble_eq_true rfl, Nat.le_of_ble_eq_true rfl, Nat.le_of_ble_eq_true rfl, Nat.le_of_ble_eq_true rfl⟩ rfl rfl rfl rfl rfl (fun _ => rfl) (h1 := hX 0 C A L) rfl (st' := [.int (sIn3 w 0 5)]) rfl ?_
  refine AW.br (amX3_crossing _) 10 (tgt := 30) (C := (sIn3 w 0 5) = 0) (C' := ¬ (sIn3 w 0 5) = 0) (st' := []) rfl rfl rfl (fun c2 => ?_) (fun c2 => absurd hw c2)
  refine AW.blk (amX3_crossing _) 16 2 (h' := hX 0 C A L) (pc' := 32) (lv' := [(0, .ref 0), (1, .int c), (2, .int w)]) (st' := [.int 1, .ref 0]) (L := []) rfl trivial ?_
  refine AW.callVp (amX3_crossing _) 18 (kX3_no 0 C.2.2.2.2.2.2.2.2.2.2.2.2.1 1) rfl rfl [0] [0, 1, 2, 3, 4, 5, 6, 7, 8, 9, 10, 11, 12, 13, 14, 15] ykX3_no yiX3_no yvX3_no mlX3_59 rfl rfl rfl rfl hR ⟨Nat.le_of_ble_eq_true rfl, Nat.le_of_ble_eq_true rfl, Nat.le_of_ble_eq_true rfl, Nat.le_of_ble_eq_true rfl⟩ rfl rfl rfl rfl rfl (fun _ => rfl) (h1 := hX 1 C A L) rfl (st' := [.int 0]) rfl ?_
  exact AW.iretE (amX3_crossing _) 19 hE rfl rfl rfl rfl rfl rfl rfl
set_option maxHeartbeats 2000000 in
theorem kX3_count {B : Nat} (th : Int32) (C A : CS) (L : Nat → Int32) (hV : VC B C) (w : Nat) (hw : w < 8) : AMet yX3_count cX3_count 2 (some .int) { frames := 3, cells := 1, slots := 8, locals := 72 } [.ref 0, .int (nI w)] (hX th C A L) (some (.int (sGF C.2.2.2.2.2.2.2.2.2.2.2.2.1 C.2.2.2.2.2.2.2.2.2.2.2.2.2 C.1 C.2.2.2.1 C.2.2.2.2.2.2.2.2.2.1 C.2.2.2.2.2.2.2.2.2.2.1 C.2.2.2.2.2.2.2.2.2.2.2.1 w))) (hX 0 C A L) := by
  refine AMet.of (by decide) rfl ?_
  intro G hR hE hI
  refine AW.blk (amX3_count _) 0 6 (h' := hX 0 C A L) (pc' := 9) (lv' := [(0, .ref 0), (1, .int (nI w))]) (st' := [.int 7, .int 0, .int (nI w)]) (L := []) rfl trivial ?_
  refine AW.callSp (amX3_count _) 6 (kX3_isIn (nI w) 0 7) [] [] ykX3_isIn ysX3_isIn mlX3_44 rfl rfl rfl rfl hR ⟨Nat.le_of_ble_eq_true rfl, Nat.le_of_ble_eq_true rfl, Nat.le_of_ble_eq_true rfl, Nat.le_of_ble_eq_true rfl⟩ rfl rfl rfl rfl rfl (fun _ => rfl) (h1 := hX 0 C A L) rfl (st' := [.int (sIn3 (nI w) 0 7)]) rfl ?_
  refine AW.br (amX3_count _) 7 (tgt := 23) (C := (sIn3 (nI w) 0 7) = 0) (C' := ¬ (sIn3 (nI w) 0 7) = 0) (st' := []) rfl rfl rfl (fun c1 => absurd c1 (in3_w (w := w) (K := 7) (by omega) (by decide))) (fun c1 => ?_)
  refine AW.blk (amX3_count _) 8 2 (h' := hX 0 C A L) (pc' := 17) (lv' := [(0, .ref 0), (1, .int (nI w))]) (st' := [.int (nI w), .ref 0]) (L := []) rfl trivial ?_
  refine AW.callVp (amX3_count _) 10 (kX3_counted 0 C A L hV w hw) rfl rfl [0, 1, 2, 3, 4, 5, 6, 7, 8, 9, 10, 11, 12, 13, 14, 15, 16, 17, 18, 19, 20, 21, 22, 23] [] ykX3_counted yiX3_counted yvX3_counted mlX3_121 rfl rfl rfl rfl hR ⟨Nat.le_of_ble_eq_true rfl, Nat.le_of_ble_eq_true rfl, Nat.le_of_ble_eq_true rfl, Nat.le_of_ble_eq_true rfl⟩ rfl rfl rfl rfl rfl (fun _ => rfl) (h1 := hX 0 C A L) rfl (st' := [.int (sGF C.2.2.2.2.2.2.2.2.2.2.2.2.1 C.2.2.2.2.2.2.2.2.2.2.2.2.2 C.1 C.2.2.2.1 C.2.2.2.2.2.2.2.2.2.1 C.2.2.2.2.2.2.2.2.2.2.1 C.2.2.2.2.2.2.2.2.2.2.2.1 w)]) rfl ?_
  refine AW.blk (amX3_count _) 11 1 (h' := hX 0 C A L) (pc' := 28) (lv' := [(0, .ref 0), (1, .int (nI w))]) (st' := [.int (sGF C.2.2.2.2.2.2.2.2.2.2.2.2.1 C.2.2.2.2.2.2.2.2.2.2.2.2.2 C.1 C.2.2.2.1 C.2.2.2.2.2.2.2.2.2.1 C.2.2.2.2.2.2.2.2.2.2.1 C.2.2.2.2.2.2.2.2.2.2.2.1 w)]) (L := []) rfl trivial ?_
  exact AW.iretE (amX3_count _) 15 hE rfl rfl rfl rfl rfl rfl rfl
set_option maxHeartbeats 2000000 in
theorem kX3_count_b1 {B : Nat} (th : Int32) (C A : CS) (L : Nat → Int32) (hV : VC B C) (w : Int32) (hw : sIn3 w 0 7 = 0) : AMet yX3_count cX3_count 2 (some .int) { frames := 3, cells := 1, slots := 8, locals := 72 } [.ref 0, .int w] (hX th C A L) (some (.int 0)) (hX 1 C A L) := by
  refine AMet.of (by decide) rfl ?_
  intro G hR hE hI
  refine AW.blk (amX3_count _) 0 6 (h' := hX 0 C A L) (pc' := 9) (lv' := [(0, .ref 0), (1, .int w)]) (st' := [.int 7, .int 0, .int w]) (L := []) rfl trivial ?_
  refine AW.callSp (amX3_count _) 6 (kX3_isIn w 0 7) [] [] ykX3_isIn ysX3_isIn mlX3_44 rfl rfl rfl rfl hR ⟨Nat.le_of_ble_eq_true rfl, Nat.le_of_ble_eq_true rfl, Nat.le_of_ble_eq_true rfl, Nat.le_of_ble_eq_true rfl⟩ rfl rfl rfl rfl rfl (fun _ => rfl) (h1 := hX 0 C A L) rfl (st' := [.int (sIn3 w 0 7)]) rfl ?_
  refine AW.br (amX3_count _) 7 (tgt := 23) (C := (sIn3 w 0 7) = 0) (C' := ¬ (sIn3 w 0 7) = 0) (st' := []) rfl rfl rfl (fun c1 => ?_) (fun c1 => absurd hw c1)
  refine AW.blk (amX3_count _) 12 2 (h' := hX 0 C A L) (pc' := 25) (lv' := [(0, .ref 0), (1, .int w)]) (st' := [.int 1, .ref 0]) (L := []) rfl trivial ?_
  refine AW.callVp (amX3_count _) 14 (kX3_no 0 C.2.2.2.2.2.2.2.2.2.2.2.2.1 1) rfl rfl [0] [0, 1, 2, 3, 4, 5, 6, 7, 8, 9, 10, 11, 12, 13, 14, 15] ykX3_no yiX3_no yvX3_no mlX3_59 rfl rfl rfl rfl hR ⟨Nat.le_of_ble_eq_true rfl, Nat.le_of_ble_eq_true rfl, Nat.le_of_ble_eq_true rfl, Nat.le_of_ble_eq_true rfl⟩ rfl rfl rfl rfl rfl (fun _ => rfl) (h1 := hX 1 C A L) rfl (st' := [.int 0]) rfl ?_
  exact AW.iretE (amX3_count _) 15 hE rfl rfl rfl rfl rfl rfl rfl
theorem fx_m {th : Int32} {C D X : CS} (h : fx C D) : hSm th D X = hSm th C X := by
  obtain ⟨h1, h2, h3, h4, h5⟩ := h
  unfold hSm
  rw [h1, h2, h3, h4, h5]
theorem kLvF (th : Int32) {B : Nat} {C D : CS} (hf : fx C D) (hD : VC B D) (hB : B + 96 < 2 ^ 31) (t : Int32) (h1 : ¬ t < 1) (h2 : t ≤ 96) : AMet yX2_pass_ cX2_pass_ 4 (some .int) { frames := 4, cells := 0, slots := 0, locals := 91 } [.ref 0, .int t] (hSm th C D) (some (.int (sLive t D).1)) (hSm th C (sLive t D).2) := by
  have k := kLv th D hD hB t h1 h2
  rw [fx_S hf, fx_m hf] at k
  exact k
theorem kHeldL (th : Int32) {B : Nat} {C D : CS} (hf : fx C D) (hD : VC B D) : AMet yX2_held cX2_held 6 (some .int) { frames := 0, cells := 0, slots := 0, locals := 0 } [.ref 0] (hSm th C D) (some (.int (sHeld D.2.2.2.2.2.2.2.2.2.2.2.2.1 D.2.2.2.1))) (hSm th C D) := by
  have k := kHeld th D hD
  rw [fx_S hf] at k
  exact k
theorem kAllML (th : Int32) {B : Nat} {C D : CS} (hf : fx C D) (hD : VC B D) : AMet yX2_allMud cX2_allMud 1 (some .int) { frames := 1, cells := 0, slots := 0, locals := 26 } [.ref 0] (hSm th C D) (some (.int (sSum D.1 9))) (hSm th C D) := by
  have k := kAllM th D hD
  rw [fx_S hf] at k
  exact k
set_option maxHeartbeats 2000000 in
theorem kX3_earnsAhead {B : Nat} (th : Int32) (C D : CS) (L : Nat → Int32) (hV : VC B C) (hf : fx C D) (hD : VC B D) (hB : B + 96 < 2 ^ 31) (s t : Int32) (hs : ¬ sSw s C.2.2.2.2.2.2.2.2.2.2.2.2.1 = 0) (h1 : ¬ sIn3 t 1 96 = 0) : AMet yX3_earnsAhead cX3_earnsAhead 3 (some .int) { frames := 5, cells := 0, slots := 0, locals := 114 } [.ref 0, .int s, .int t] (hX th C D L) (some (.int ((sLive t D).2.2.2.2.2.2.2.2.2.2.1 s.toNatClampNeg - C.2.2.2.2.2.2.2.2.2.1 s.toNatClampNeg))) (hX th C (sLive t D).2 L) := by
  refine AMet.of (by decide) rfl ?_
  intro G hR hE hI
  refine AW.blk (amX3_earnsAhead _) 0 3 (h' := hX th C D L) (pc' := 5) (lv' := [(0, .ref 0), (1, .int s), (2, .int t)]) (st' := [.int t, .ref 15]) (L := []) rfl trivial ?_
  refine AW.callVp (amX3_earnsAhead _) 3 (kLvF th (C := C) (D := D) hf hD hB t (in3_ge h1) (in3_le h1)) rfl rfl [15, 16, 17, 18, 19, 20, 21, 22, 23, 0, 1, 2, 3, 4] [5, 6, 15] ykX2_pass_ yiX2_pass_ yvX2_pass_ mlX3_127 rfl rfl rfl rfl hR ⟨Nat.le_of_ble_eq_true rfl, Nat.le_of_ble_eq_true rfl, Nat.le_of_ble_eq_true rfl, Nat.le_of_ble_eq_true rfl⟩ rfl rfl rfl rfl rfl (fun _ => rfl) (h1 := hX th C ((sLive t D).2) L) rfl (st' := [.int ((sLive t D).1)]) rfl ?_
  refine AW.blk (amX3_earnsAhead _) 4 12 (h' := hX th C ((sLive t D).2) L) (pc' := 28) (lv' := [(0, .ref 0), (1, .int s), (2, .int t)]) (st' := [.int ((((sLive t D).2.2.2.2.2.2.2.2.2.2.1) s.toNatClampNeg) - (C.2.2.2.2.2.2.2.2.2.1 s.toNatClampNeg))]) (L := [vp_in s 8, vp_in s 8]) rfl ⟨(sSw_in hs), (sSw_in hs)⟩ ?_
  exact AW.iretE (amX3_earnsAhead _) 16 hE rfl rfl rfl rfl rfl rfl rfl
theorem sEaC_no (s : Int32) (C : CS) : sEaC s (-1) C = C := by rw [sEaC, if_pos (by decide)]
theorem sEa_no (s t : Int32) (C : CS) : sEa s (-1) t C = ((sLive t C).2.2.2.2.2.2.2.2.2.2.1 s.toNatClampNeg - C.2.2.2.2.2.2.2.2.2.1 s.toNatClampNeg, (sLive t C).2) := by rw [sEa, sEaC_no]
set_option maxHeartbeats 2000000 in
theorem kX3_earns {B : Nat} (th : Int32) (C A : CS) (L : Nat → Int32) (hV : VC B C) (hB : B + 96 < 2 ^ 31) (s t : Int32) (hs : ¬ sSw s C.2.2.2.2.2.2.2.2.2.2.2.2.1 = 0) (h1 : ¬ sIn3 t 1 96 = 0) : AMet yX3_earns cX3_earns 3 (some .int) { frames := 6, cells := 0, slots := 0, locals := 136 } [.ref 0, .int s, .int t] (hX th C A L) (some (.int (sEa s (-1) t C).1)) (hX 0 C (sEa s (-1) t C).2 L) := by
  refine AMet.of (by decide) rfl ?_
  intro G hR hE hI
  rw [sEa_no] at hE
  refine AW.blk (amX3_earns _) 0 5 (h' := hX 0 C A L) (pc' := 7) (lv' := [(0, .ref 0), (1, .int s), (2, .int t)]) (st' := [.int s, .ref 0]) (L := []) rfl trivial ?_
  refine AW.callVp (amX3_earns _) 5 (kIsS 0 C hV s) rfl rfl [0] [0, 1, 2, 3, 4, 5, 6, 7, 8, 9, 10, 11, 12, 13, 14, 15] ykX3_isSweeper yiX3_isSweeper yvX3_isSweeper mlX3_77 rfl rfl rfl rfl hR ⟨Nat.le_of_ble_eq_true rfl, Nat.le_of_ble_eq_true rfl, Nat.le_of_ble_eq_true rfl, Nat.le_of_ble_eq_true rfl⟩ rfl rfl rfl rfl rfl (fun _ => rfl) (h1 := hX 0 C A L) rfl (st' := [.int (sSw s C.2.2.2.2.2.2.2.2.2.2.2.2.1)]) rfl ?_
  refine AW.br (amX3_earns _) 6 (tgt := 19) (C := ¬ (sSw s C.2.2.2.2.2.2.2.2.2.2.2.2.1) = 0) (C' := (sSw s C.2.2.2.2.2.2.2.2.2.2.2.2.1) = 0) (st' := []) rfl rfl rfl (fun c1 => ?_) (fun c1 => absurd c1 hs)
  refine AW.blk (amX3_earns _) 11 1 (h' := hX 0 C A L) (pc' := 20) (lv' := [(0, .ref 0), (1, .int s), (2, .int t)]) (st' := [.int t]) (L := []) rfl trivial ?_
  refine AW.callSp (amX3_earns _) 12 (kX3_isTime t) [] [] ykX3_isTime ysX3_isTime mlX3_124 rfl rfl rfl rfl hR ⟨Nat.le_of_ble_eq_true rfl, Nat.le_of_ble_eq_true rfl, Nat.le_of_ble_eq_true rfl, Nat.le_of_ble_eq_true rfl⟩ rfl rfl rfl rfl rfl (fun _ => rfl) (h1 := hX 0 C A L) rfl (st' := [.int (sIn3 t 1 96)]) rfl ?_
  refine AW.br (amX3_earns _) 13 (tgt := 32) (C := ¬ (sIn3 t 1 96) = 0) (C' := (sIn3 t 1 96) = 0) (st' := []) rfl rfl rfl (fun c2 => ?_) (fun c2 => absurd c2 h1)
  refine AW.blk (amX3_earns _) 18 4 (h' := hX 0 C A L) (pc' := 40) (lv' := [(0, .ref 0), (1, .int s), (2, .int t)]) (st' := [.ref 6, .ref 15]) (L := []) rfl trivial ?_
  refine AW.callVp (amX3_earns _) 22 (kX2_become A.2.2.2.2.2.2.2.2.2.2.2.2.2 C.2.2.2.2.2.2.2.2.2.2.2.2.2 A.1 A.2.2.2.1 A.2.2.2.2.1 A.2.2.2.2.2.2.1 A.2.2.2.2.2.2.2.2.1 A.2.2.2.2.2.2.2.2.2.1 A.2.2.2.2.2.2.2.2.2.2.1 A.2.2.2.2.2.2.2.2.2.2.2.1 C.1 C.2.2.2.1 C.2.2.2.2.1 C.2.2.2.2.2.2.1 C.2.2.2.2.2.2.2.2.1 C.2.2.2.2.2.2.2.2.2.1 C.2.2.2.2.2.2.2.2.2.2.1 C.2.2.2.2.2.2.2.2.2.2.2.1) rfl rfl [15, 16, 17, 18, 19, 20, 21, 22, 23, 6, 7, 8, 9, 10, 11, 12, 13, 14] [0] ykX2_become yiX2_become yvX2_become mlX3_137 rfl rfl rfl rfl hR ⟨Nat.le_of_ble_eq_true rfl, Nat.le_of_ble_eq_true rfl, Nat.le_of_ble_eq_true rfl, Nat.le_of_ble_eq_true rfl⟩ rfl rfl rfl rfl rfl (fun _ => rfl) (h1 := hX 0 C C L) rfl (st' := []) rfl ?_
  refine AW.blk (amX3_earns _) 23 3 (h' := hX 0 C C L) (pc' := 46) (lv' := [(0, .ref 0), (1, .int s), (2, .int t)]) (st' := [.int t, .int s, .ref 0]) (L := []) rfl trivial ?_
  refine AW.callVp (amX3_earns _) 26 (kX3_earnsAhead 0 C C L hV ⟨rfl, rfl, rfl, rfl, rfl⟩ hV hB s t hs h1) rfl rfl [0, 1, 2, 3, 4, 5, 6, 7, 8, 9, 10, 11, 12, 13, 14, 15, 16, 17, 18, 19, 20, 21, 22, 23] [] ykX3_earnsAhead yiX3_earnsAhead yvX3_earnsAhead mlX3_141 rfl rfl rfl rfl hR ⟨Nat.le_of_ble_eq_true rfl, Nat.le_of_ble_eq_true rfl, Nat.le_of_ble_eq_true rfl, Nat.le_of_ble_eq_true rfl⟩ rfl rfl rfl rfl rfl (fun _ => rfl) (h1 := hX 0 C ((sLive t C).2) L) rfl (st' := [.int ((sLive t C).2.2.2.2.2.2.2.2.2.2.1 s.toNatClampNeg - C.2.2.2.2.2.2.2.2.2.1 s.toNatClampNeg)]) rfl ?_
  exact AW.iretE (amX3_earns _) 27 hE rfl rfl rfl rfl rfl rfl rfl
set_option maxHeartbeats 2000000 in
theorem kX3_earns_b1 {B : Nat} (th : Int32) (C A : CS) (L : Nat → Int32) (hV : VC B C) (s t : Int32) (hs : sSw s C.2.2.2.2.2.2.2.2.2.2.2.2.1 = 0) : AMet yX3_earns cX3_earns 3 (some .int) { frames := 6, cells := 0, slots := 0, locals := 136 } [.ref 0, .int s, .int t] (hX th C A L) (some (.int 0)) (hX 1 C A L) := by
  refine AMet.of (by decide) rfl ?_
  intro G hR hE hI
  refine AW.blk (amX3_earns _) 0 5 (h' := hX 0 C A L) (pc' := 7) (lv' := [(0, .ref 0), (1, .int s), (2, .int t)]) (st' := [.int s, .ref 0]) (L := []) rfl trivial ?_
  refine AW.callVp (amX3_earns _) 5 (kIsS 0 C hV s) rfl rfl [0] [0, 1, 2, 3, 4, 5, 6, 7, 8, 9, 10, 11, 12, 13, 14, 15] ykX3_isSweeper yiX3_isSweeper yvX3_isSweeper mlX3_77 rfl rfl rfl rfl hR ⟨Nat.le_of_ble_eq_true rfl, Nat.le_of_ble_eq_true rfl, Nat.le_of_ble_eq_true rfl, Nat.le_of_ble_eq_true rfl⟩ rfl rfl rfl rfl rfl (fun _ => rfl) (h1 := hX 0 C A L) rfl (st' := [.int (sSw s C.2.2.2.2.2.2.2.2.2.2.2.2.1)]) rfl ?_
  refine AW.br (amX3_earns _) 6 (tgt := 19) (C := ¬ (sSw s C.2.2.2.2.2.2.2.2.2.2.2.2.1) = 0) (C' := (sSw s C.2.2.2.2.2.2.2.2.2.2.2.2.1) = 0) (st' := []) rfl rfl rfl (fun c1 => absurd hs c1) (fun c1 => ?_)
  refine AW.blk (amX3_earns _) 7 2 (h' := hX 0 C A L) (pc' := 15) (lv' := [(0, .ref 0), (1, .int s), (2, .int t)]) (st' := [.int 1, .ref 0]) (L := []) rfl trivial ?_
  refine AW.callVp (amX3_earns _) 9 (kX3_no 0 C.2.2.2.2.2.2.2.2.2.2.2.2.1 1) rfl rfl [0] [0, 1, 2, 3, 4, 5, 6, 7, 8, 9, 10, 11, 12, 13, 14, 15] ykX3_no yiX3_no yvX3_no mlX3_59 rfl rfl rfl rfl hR ⟨Nat.le_of_ble_eq_true rfl, Nat.le_of_ble_eq_true rfl, Nat.le_of_ble_eq_true rfl, Nat.le_of_ble_eq_true rfl⟩ rfl rfl rfl rfl rfl (fun _ => rfl) (h1 := hX 1 C A L) rfl (st' := [.int 0]) rfl ?_
  exact AW.iretE (amX3_earns _) 10 hE rfl rfl rfl rfl rfl rfl rfl
set_option maxHeartbeats 2000000 in
theorem kX3_earns_b2 {B : Nat} (th : Int32) (C A : CS) (L : Nat → Int32) (hV : VC B C) (s t : Int32) (hs : ¬ sSw s C.2.2.2.2.2.2.2.2.2.2.2.2.1 = 0) (h1 : sIn3 t 1 96 = 0) : AMet yX3_earns cX3_earns 3 (some .int) { frames := 6, cells := 0, slots := 0, locals := 136 } [.ref 0, .int s, .int t] (hX th C A L) (some (.int 0)) (hX 2 C A L) := by
  refine AMet.of (by decide) rfl ?_
  intro G hR hE hI
  refine AW.blk (amX3_earns _) 0 5 (h' := hX 0 C A L) (pc' := 7) (lv' := [(0, .ref 0), (1, .int s), (2, .int t)]) (st' := [.int s, .ref 0]) (L := []) rfl trivial ?_
  refine AW.callVp (amX3_earns _) 5 (kIsS 0 C hV s) rfl rfl [0] [0, 1, 2, 3, 4, 5, 6, 7, 8, 9, 10, 11, 12, 13, 14, 15] ykX3_isSweeper yiX3_isSweeper yvX3_isSweeper mlX3_77 rfl rfl rfl rfl hR ⟨Nat.le_of_ble_eq_true rfl, Nat.le_of_ble_eq_true rfl, Nat.le_of_ble_eq_true rfl, Nat.le_of_ble_eq_true rfl⟩ rfl rfl rfl rfl rfl (fun _ => rfl) (h1 := hX 0 C A L) rfl (st' := [.int (sSw s C.2.2.2.2.2.2.2.2.2.2.2.2.1)]) rfl ?_
  refine AW.br (amX3_earns _) 6 (tgt := 19) (C := ¬ (sSw s C.2.2.2.2.2.2.2.2.2.2.2.2.1) = 0) (C' := (sSw s C.2.2.2.2.2.2.2.2.2.2.2.2.1) = 0) (st' := []) rfl rfl rfl (fun c1 => ?_) (fun c1 => absurd c1 hs)
  refine AW.blk (amX3_earns _) 11 1 (h' := hX 0 C A L) (pc' := 20) (lv' := [(0, .ref 0), (1, .int s), (2, .int t)]) (st' := [.int t]) (L := []) rfl trivial ?_
  refine AW.callSp (amX3_earns _) 12 (kX3_isTime t) [] [] ykX3_isTime ysX3_isTime mlX3_124 rfl rfl rfl rfl hR ⟨Nat.le_of_ble_eq_true rfl, Nat.le_of_ble_eq_true rfl, Nat.le_of_ble_eq_true rfl, Nat.le_of_ble_eq_true rfl⟩ rfl rfl rfl rfl rfl (fun _ => rfl) (h1 := hX 0 C A L) rfl (st' := [.int (sIn3 t 1 96)]) rfl ?_
  refine AW.br (amX3_earns _) 13 (tgt := 32) (C := ¬ (sIn3 t 1 96) = 0) (C' := (sIn3 t 1 96) = 0) (st' := []) rfl rfl rfl (fun c2 => absurd h1 c2) (fun c2 => ?_)
  refine AW.blk (amX3_earns _) 14 2 (h' := hX 0 C A L) (pc' := 28) (lv' := [(0, .ref 0), (1, .int s), (2, .int t)]) (st' := [.int 2, .ref 0]) (L := []) rfl trivial ?_
  refine AW.callVp (amX3_earns _) 16 (kX3_no 0 C.2.2.2.2.2.2.2.2.2.2.2.2.1 2) rfl rfl [0] [0, 1, 2, 3, 4, 5, 6, 7, 8, 9, 10, 11, 12, 13, 14, 15] ykX3_no yiX3_no yvX3_no mlX3_59 rfl rfl rfl rfl hR ⟨Nat.le_of_ble_eq_true rfl, Nat.le_of_ble_eq_true rfl, Nat.le_of_ble_eq_true rfl, Nat.le_of_ble_eq_true rfl⟩ rfl rfl rfl rfl rfl (fun _ => rfl) (h1 := hX 2 C A L) rfl (st' := [.int 0]) rfl ?_
  exact AW.iretE (amX3_earns _) 17 hE rfl rfl rfl rfl rfl rfl rfl
theorem sAd1_m {s t : Int32} {C : CS} {i : Nat} {a : Int32 × Int32 × CS} (hi : i < 9) : sAd1 s t C i a = if a.2.1 < (sLive t (cMove s (nI i) C)).2.2.2.2.2.2.2.2.2.2.1 s.toNatClampNeg - C.2.2.2.2.2.2.2.2.2.1 s.toNatClampNeg then (nI i, (sLive t (cMove s (nI i) C)).2.2.2.2.2.2.2.2.2.2.1 s.toNatClampNeg - C.2.2.2.2.2.2.2.2.2.1 s.toNatClampNeg, (sLive t (cMove s (nI i) C)).2) else (a.1, a.2.1, (sLive t (cMove s (nI i) C)).2) := by
  have e : sEaC s (nI i) C = cMove s (nI i) C := by rw [sEaC, if_neg (sCr_one hi)]
  unfold sAd1 sEa
  rw [e]
  show (if (sLive t (cMove s (nI i) C)).2.2.2.2.2.2.2.2.2.2.1 s.toNatClampNeg - C.2.2.2.2.2.2.2.2.2.1 s.toNatClampNeg ≤ a.2.1 then (a.1, a.2.1, (sLive t (cMove s (nI i) C)).2) else (nI i, (sLive t (cMove s (nI i) C)).2.2.2.2.2.2.2.2.2.2.1 s.toNatClampNeg - C.2.2.2.2.2.2.2.2.2.1 s.toNatClampNeg, (sLive t (cMove s (nI i) C)).2)) = _
  by_cases h : a.2.1 < (sLive t (cMove s (nI i) C)).2.2.2.2.2.2.2.2.2.2.1 s.toNatClampNeg - C.2.2.2.2.2.2.2.2.2.1 s.toNatClampNeg
  · rw [if_pos h, if_neg (Int32.not_le.mpr h)]
  · rw [if_neg h, if_pos (Int32.not_lt.mp h)]
set_option maxHeartbeats 2000000 in
theorem kX3_advise {B : Nat} (th : Int32) (C A : CS) (L : Nat → Int32) (hV : VC B C) (hB : B + 96 < 2 ^ 31) (s t : Int32) (hs : ¬ sSw s C.2.2.2.2.2.2.2.2.2.2.2.2.1 = 0) (h1 : ¬ sIn3 t 1 96 = 0) : AMet yX3_advise cX3_advise 7 (some .int) { frames := 6, cells := 0, slots := 0, locals := 136 } [.ref 0, .int s, .int t] (hX th C A L) (some (.int (sAdv s t C).1)) (hX 0 C (sAdv s t C).2.2 L) := by
  refine AMet.of (by decide) rfl ?_
  intro G hR hE hI
  have E : ∀ (b m : Int32) (D : CS), (b, m, D) = sAdv s t C → AW G (yX3_advise.cls, cX3_advise, 7, 24) (hX 0 C D L) 0 0 115 [(4, .int b), (0, .ref 0)] [] := by
    intro b m D hf
    refine AW.blk (amX3_advise _) 61 1 (h' := hX 0 C D L) (pc' := 117) (lv' := [(4, .int b), (0, .ref 0)]) (st' := [.int b]) (L := []) rfl trivial ?_
    exact AW.iretE (amX3_advise _) 62 hE rfl rfl rfl rfl rfl (by rw [← hf]) (by rw [← hf])
  have K : ∀ (k i : Nat) (b : Int32) (m : Int32) (D : CS), i + k = 9 → lpN (sAd1 s t C) k i (b, m, D) = sAdv s t C → AW G (yX3_advise.cls, cX3_advise, 7, 24) (hX 0 C D L) 0 0 56 [(5, .int (nI i)), (4, .int b), (3, .int m), (1, .int s), (2, .int t), (0, .ref 0)] [] := by
    intro k
    induction k with
    | zero =>
      intro i b m D hi hf
      refine AW.blk (amX3_advise _) 32 2 (h' := hX 0 C D L) (pc' := 60) (lv' := [(5, .int (nI i)), (4, .int b), (3, .int m), (1, .int s), (2, .int t), (0, .ref 0)]) (st' := [.int 9, .int (nI i)]) (L := []) rfl trivial ?_
      refine AW.br (amX3_advise _) 34 (tgt := 115) (C := 9 ≤ (nI i)) (C' := ¬ 9 ≤ (nI i)) (st' := []) rfl rfl rfl (fun c1 => ?_) (fun c1 => absurd (nI_le (a := 9) (b := i) (by omega) (by omega)) c1)
      refine AW.pick [1, 5] (lv' := [(4, .int b), (0, .ref 0)]) rfl ?_
      exact E _ _ _ hf
    | succ k ih =>
      intro i b m D hi hf
      refine AW.blk (amX3_advise _) 32 2 (h' := hX 0 C D L) (pc' := 60) (lv' := [(5, .int (nI i)), (4, .int b), (3, .int m), (1, .int s), (2, .int t), (0, .ref 0)]) (st' := [.int 9, .int (nI i)]) (L := []) rfl trivial ?_
      refine AW.br (amX3_advise _) 34 (tgt := 115) (C := 9 ≤ (nI i)) (C' := ¬ 9 ≤ (nI i)) (st' := []) rfl rfl rfl (fun c1 => absurd c1 (nI_ge (a := i) (b := 9) (by omega) (by omega))) (fun c1 => ?_)
      refine AW.blk (amX3_advise _) 35 4 (h' := hX 0 C D L) (pc' := 71) (lv' := [(5, .int (nI i)), (4, .int b), (3, .int m), (1, .int s), (2, .int t), (0, .ref 0)]) (st' := [.ref 6, .ref 15]) (L := []) rfl trivial ?_
      refine AW.callVp (amX3_advise _) 39 (kX2_become D.2.2.2.2.2.2.2.2.2.2.2.2.2 C.2.2.2.2.2.2.2.2.2.2.2.2.2 D.1 D.2.2.2.1 D.2.2.2.2.1 D.2.2.2.2.2.2.1 D.2.2.2.2.2.2.2.2.1 D.2.2.2.2.2.2.2.2.2.1 D.2.2.2.2.2.2.2.2.2.2.1 D.2.2.2.2.2.2.2.2.2.2.2.1 C.1 C.2.2.2.1 C.2.2.2.2.1 C.2.2.2.2.2.2.1 C.2.2.2.2.2.2.2.2.1 C.2.2.2.2.2.2.2.2.2.1 C.2.2.2.2.2.2.2.2.2.2.1 C.2.2.2.2.2.2.2.2.2.2.2.1) rfl rfl [15, 16, 17, 18, 19, 20, 21, 22, 23, 6, 7, 8, 9, 10, 11, 12, 13, 14] [0] ykX2_become yiX2_become yvX2_become mlX3_137 rfl rfl rfl rfl hR ⟨Nat.le_of_ble_eq_true rfl, Nat.le_of_ble_eq_true rfl, Nat.le_of_ble_eq_true rfl, Nat.le_of_ble_eq_true rfl⟩ rfl rfl rfl rfl rfl (fun _ => rfl) (h1 := hX 0 C C L) rfl (st' := []) rfl ?_
      refine AW.blk (amX3_advise _) 40 4 (h' := hX 0 C C L) (pc' := 81) (lv' := [(5, .int (nI i)), (4, .int b), (3, .int m), (1, .int s), (2, .int t), (0, .ref 0)]) (st' := [.int (nI i), .int s, .ref 15]) (L := []) rfl trivial ?_
      refine AW.callVp (amX3_advise _) 44 (kSend 0 C hV s (nI i) hs) rfl rfl [15, 16, 17, 18, 19, 20, 21, 22, 23, 0, 1, 2, 3, 4] [5, 6, 15] ykX2_send yiX2_send yvX2_send mlX3_80 rfl rfl rfl rfl hR ⟨Nat.le_of_ble_eq_true rfl, Nat.le_of_ble_eq_true rfl, Nat.le_of_ble_eq_true rfl, Nat.le_of_ble_eq_true rfl⟩ rfl rfl rfl rfl rfl (fun _ => rfl) (h1 := hX 0 C (C.1, C.2.1, C.2.2.1, sMoH s C.2.2.2.2.2.2.2.2.2.2.2.2.1 C.2.2.2.2.2.2.1 C.2.2.2.1, C.2.2.2.2.1, C.2.2.2.2.2.1, sMoP s (nI i) C.2.2.2.2.2.2.2.2.2.2.2.2.1 C.2.2.2.2.2.2.1, C.2.2.2.2.2.2.2.1, C.2.2.2.2.2.2.2.2.1, C.2.2.2.2.2.2.2.2.2.1, C.2.2.2.2.2.2.2.2.2.2.1, C.2.2.2.2.2.2.2.2.2.2.2.1, C.2.2.2.2.2.2.2.2.2.2.2.2.1, C.2.2.2.2.2.2.2.2.2.2.2.2.2) L) rfl (st' := [.int (C.2.2.2.2.2.2.1 s.toNatClampNeg)]) rfl ?_
      refine AW.blk (amX3_advise _) 45 4 (h' := hX 0 C (C.1, C.2.1, C.2.2.1, sMoH s C.2.2.2.2.2.2.2.2.2.2.2.2.1 C.2.2.2.2.2.2.1 C.2.2.2.1, C.2.2.2.2.1, C.2.2.2.2.2.1, sMoP s (nI i) C.2.2.2.2.2.2.2.2.2.2.2.2.1 C.2.2.2.2.2.2.1, C.2.2.2.2.2.2.2.1, C.2.2.2.2.2.2.2.2.1, C.2.2.2.2.2.2.2.2.2.1, C.2.2.2.2.2.2.2.2.2.2.1, C.2.2.2.2.2.2.2.2.2.2.2.1, C.2.2.2.2.2.2.2.2.2.2.2.2.1, C.2.2.2.2.2.2.2.2.2.2.2.2.2) L) (pc' := 88) (lv' := [(5, .int (nI i)), (4, .int b), (3, .int m), (1, .int s), (2, .int t), (0, .ref 0)]) (st' := [.int t, .int s, .ref 0]) (L := []) rfl trivial ?_
      refine AW.callVp (amX3_advise _) 49 (kX3_earnsAhead 0 C (cMove s (nI i) C) L hV ⟨rfl, rfl, rfl, rfl, rfl⟩ (VC_move hV (sCr_one (show i < 9 by omega))) hB s t hs h1) rfl rfl [0, 1, 2, 3, 4, 5, 6, 7, 8, 9, 10, 11, 12, 13, 14, 15, 16, 17, 18, 19, 20, 21, 22, 23] [] ykX3_earnsAhead yiX3_earnsAhead yvX3_earnsAhead mlX3_141 rfl rfl rfl rfl hR ⟨Nat.le_of_ble_eq_true rfl, Nat.le_of_ble_eq_true rfl, Nat.le_of_ble_eq_true rfl, Nat.le_of_ble_eq_true rfl⟩ rfl rfl rfl rfl rfl (fun _ => rfl) (h1 := hX 0 C ((sLive t (cMove s (nI i) C)).2) L) rfl (st' := [.int ((sLive t (cMove s (nI i) C)).2.2.2.2.2.2.2.2.2.2.1 s.toNatClampNeg - C.2.2.2.2.2.2.2.2.2.1 s.toNatClampNeg)]) rfl ?_
      refine AW.blk (amX3_advise _) 50 3 (h' := hX 0 C ((sLive t (cMove s (nI i) C)).2) L) (pc' := 96) (lv' := [(6, .int ((sLive t (cMove s (nI i) C)).2.2.2.2.2.2.2.2.2.2.1 s.toNatClampNeg - C.2.2.2.2.2.2.2.2.2.1 s.toNatClampNeg)), (5, .int (nI i)), (4, .int b), (3, .int m), (1, .int s), (2, .int t), (0, .ref 0)]) (st' := [.int m, .int ((sLive t (cMove s (nI i) C)).2.2.2.2.2.2.2.2.2.2.1 s.toNatClampNeg - C.2.2.2.2.2.2.2.2.2.1 s.toNatClampNeg)]) (L := []) rfl trivial ?_
      refine AW.br (amX3_advise _) 53 (tgt := 102) (C := m < ((sLive t (cMove s (nI i) C)).2.2.2.2.2.2.2.2.2.2.1 s.toNatClampNeg - C.2.2.2.2.2.2.2.2.2.1 s.toNatClampNeg)) (C' := ¬ m < ((sLive t (cMove s (nI i) C)).2.2.2.2.2.2.2.2.2.2.1 s.toNatClampNeg - C.2.2.2.2.2.2.2.2.2.1 s.toNatClampNeg)) (st' := []) rfl rfl rfl (fun c2 => ?_) (fun c2 => ?_)
      · refine AW.blk (amX3_advise _) 55 6 (h' := hX 0 C ((sLive t (cMove s (nI i) C)).2) L) (pc' := 56) (lv' := [(5, .int ((nI i) + 1)), (4, .int (nI i)), (3, .int ((sLive t (cMove s (nI i) C)).2.2.2.2.2.2.2.2.2.2.1 s.toNatClampNeg - C.2.2.2.2.2.2.2.2.2.1 s.toNatClampNeg)), (6, .int ((sLive t (cMove s (nI i) C)).2.2.2.2.2.2.2.2.2.2.1 s.toNatClampNeg - C.2.2.2.2.2.2.2.2.2.1 s.toNatClampNeg)), (1, .int s), (2, .int t), (0, .ref 0)]) (st' := []) (L := []) rfl trivial ?_
        refine AW.pick [0, 1, 2, 4, 5, 6] (lv' := [(5, .int ((nI i) + 1)), (4, .int (nI i)), (3, .int ((sLive t (cMove s (nI i) C)).2.2.2.2.2.2.2.2.2.2.1 s.toNatClampNeg - C.2.2.2.2.2.2.2.2.2.1 s.toNatClampNeg)), (1, .int s), (2, .int t), (0, .ref 0)]) rfl ?_
        rw [nI_1 i]
        exact ih (i + 1) _ _ _ (by omega) (by rw [← hf]; simp only [lpN, sAd1_m (show i < 9 by omega), if_neg c1, if_pos c2])
      · refine AW.blk (amX3_advise _) 54 1 (h' := hX 0 C ((sLive t (cMove s (nI i) C)).2) L) (pc' := 109) (lv' := [(6, .int ((sLive t (cMove s (nI i) C)).2.2.2.2.2.2.2.2.2.2.1 s.toNatClampNeg - C.2.2.2.2.2.2.2.2.2.1 s.toNatClampNeg)), (5, .int (nI i)), (4, .int b), (3, .int m), (1, .int s), (2, .int t), (0, .ref 0)]) (st' := []) (L := []) rfl trivial ?_
        refine AW.blk (amX3_advise _) 59 2 (h' := hX 0 C ((sLive t (cMove s (nI i) C)).2) L) (pc' := 56) (lv' := [(5, .int ((nI i) + 1)), (6, .int ((sLive t (cMove s (nI i) C)).2.2.2.2.2.2.2.2.2.2.1 s.toNatClampNeg - C.2.2.2.2.2.2.2.2.2.1 s.toNatClampNeg)), (4, .int b), (3, .int m), (1, .int s), (2, .int t), (0, .ref 0)]) (st' := []) (L := []) rfl trivial ?_
        refine AW.pick [0, 2, 3, 4, 5, 6] (lv' := [(5, .int ((nI i) + 1)), (4, .int b), (3, .int m), (1, .int s), (2, .int t), (0, .ref 0)]) rfl ?_
        rw [nI_1 i]
        exact ih (i + 1) _ _ _ (by omega) (by rw [← hf]; simp only [lpN, sAd1_m (show i < 9 by omega), if_neg c1, if_neg c2])
  refine AW.blk (amX3_advise _) 0 5 (h' := hX 0 C A L) (pc' := 7) (lv' := [(0, .ref 0), (1, .int s), (2, .int t)]) (st' := [.int s, .ref 0]) (L := []) rfl trivial ?_
  refine AW.callVp (amX3_advise _) 5 (kIsS 0 C hV s) rfl rfl [0] [0, 1, 2, 3, 4, 5, 6, 7, 8, 9, 10, 11, 12, 13, 14, 15] ykX3_isSweeper yiX3_isSweeper yvX3_isSweeper mlX3_77 rfl rfl rfl rfl hR ⟨Nat.le_of_ble_eq_true rfl, Nat.le_of_ble_eq_true rfl, Nat.le_of_ble_eq_true rfl, Nat.le_of_ble_eq_true rfl⟩ rfl rfl rfl rfl rfl (fun _ => rfl) (h1 := hX 0 C A L) rfl (st' := [.int (sSw s C.2.2.2.2.2.2.2.2.2.2.2.2.1)]) rfl ?_
  refine AW.br (amX3_advise _) 6 (tgt := 19) (C := ¬ (sSw s C.2.2.2.2.2.2.2.2.2.2.2.2.1) = 0) (C' := (sSw s C.2.2.2.2.2.2.2.2.2.2.2.2.1) = 0) (st' := []) rfl rfl rfl (fun c1 => ?_) (fun c1 => absurd c1 hs)
  refine AW.blk (amX3_advise _) 11 1 (h' := hX 0 C A L) (pc' := 20) (lv' := [(0, .ref 0), (1, .int s), (2, .int t)]) (st' := [.int t]) (L := []) rfl trivial ?_
  refine AW.callSp (amX3_advise _) 12 (kX3_isTime t) [] [] ykX3_isTime ysX3_isTime mlX3_124 rfl rfl rfl rfl hR ⟨Nat.le_of_ble_eq_true rfl, Nat.le_of_ble_eq_true rfl, Nat.le_of_ble_eq_true rfl, Nat.le_of_ble_eq_true rfl⟩ rfl rfl rfl rfl rfl (fun _ => rfl) (h1 := hX 0 C A L) rfl (st' := [.int (sIn3 t 1 96)]) rfl ?_
  refine AW.br (amX3_advise _) 13 (tgt := 32) (C := ¬ (sIn3 t 1 96) = 0) (C' := (sIn3 t 1 96) = 0) (st' := []) rfl rfl rfl (fun c2 => ?_) (fun c2 => absurd c2 h1)
  refine AW.blk (amX3_advise _) 18 4 (h' := hX 0 C A L) (pc' := 40) (lv' := [(0, .ref 0), (1, .int s), (2, .int t)]) (st' := [.ref 6, .ref 15]) (L := []) rfl trivial ?_
  refine AW.callVp (amX3_advise _) 22 (kX2_become A.2.2.2.2.2.2.2.2.2.2.2.2.2 C.2.2.2.2.2.2.2.2.2.2.2.2.2 A.1 A.2.2.2.1 A.2.2.2.2.1 A.2.2.2.2.2.2.1 A.2.2.2.2.2.2.2.2.1 A.2.2.2.2.2.2.2.2.2.1 A.2.2.2.2.2.2.2.2.2.2.1 A.2.2.2.2.2.2.2.2.2.2.2.1 C.1 C.2.2.2.1 C.2.2.2.2.1 C.2.2.2.2.2.2.1 C.2.2.2.2.2.2.2.2.1 C.2.2.2.2.2.2.2.2.2.1 C.2.2.2.2.2.2.2.2.2.2.1 C.2.2.2.2.2.2.2.2.2.2.2.1) rfl rfl [15, 16, 17, 18, 19, 20, 21, 22, 23, 6, 7, 8, 9, 10, 11, 12, 13, 14] [0] ykX2_become yiX2_become yvX2_become mlX3_137 rfl rfl rfl rfl hR ⟨Nat.le_of_ble_eq_true rfl, Nat.le_of_ble_eq_true rfl, Nat.le_of_ble_eq_true rfl, Nat.le_of_ble_eq_true rfl⟩ rfl rfl rfl rfl rfl (fun _ => rfl) (h1 := hX 0 C C L) rfl (st' := []) rfl ?_
  refine AW.blk (amX3_advise _) 23 3 (h' := hX 0 C C L) (pc' := 46) (lv' := [(0, .ref 0), (1, .int s), (2, .int t)]) (st' := [.int t, .int s, .ref 0]) (L := []) rfl trivial ?_
  refine AW.callVp (amX3_advise _) 26 (kX3_earnsAhead 0 C C L hV ⟨rfl, rfl, rfl, rfl, rfl⟩ hV hB s t hs h1) rfl rfl [0, 1, 2, 3, 4, 5, 6, 7, 8, 9, 10, 11, 12, 13, 14, 15, 16, 17, 18, 19, 20, 21, 22, 23] [] ykX3_earnsAhead yiX3_earnsAhead yvX3_earnsAhead mlX3_141 rfl rfl rfl rfl hR ⟨Nat.le_of_ble_eq_true rfl, Nat.le_of_ble_eq_true rfl, Nat.le_of_ble_eq_true rfl, Nat.le_of_ble_eq_true rfl⟩ rfl rfl rfl rfl rfl (fun _ => rfl) (h1 := hX 0 C ((sLive t C).2) L) rfl (st' := [.int ((sLive t C).2.2.2.2.2.2.2.2.2.2.1 s.toNatClampNeg - C.2.2.2.2.2.2.2.2.2.1 s.toNatClampNeg)]) rfl ?_
  refine AW.blk (amX3_advise _) 27 5 (h' := hX 0 C ((sLive t C).2) L) (pc' := 56) (lv' := [(5, .int 0), (4, .int ((-1))), (3, .int ((sLive t C).2.2.2.2.2.2.2.2.2.2.1 s.toNatClampNeg - C.2.2.2.2.2.2.2.2.2.1 s.toNatClampNeg)), (0, .ref 0), (1, .int s), (2, .int t)]) (st' := []) (L := []) rfl trivial ?_
  refine AW.pick [0, 1, 2, 4, 5, 3] (lv' := [(5, .int 0), (4, .int ((-1))), (3, .int ((sLive t C).2.2.2.2.2.2.2.2.2.2.1 s.toNatClampNeg - C.2.2.2.2.2.2.2.2.2.1 s.toNatClampNeg)), (1, .int s), (2, .int t), (0, .ref 0)]) rfl ?_
  exact K 9 0 (-1) _ _ rfl (by rw [sAdv, sEa_no])
set_option maxHeartbeats 2000000 in
theorem kX3_advise_b1 {B : Nat} (th : Int32) (C A : CS) (L : Nat → Int32) (hV : VC B C) (s t : Int32) (hs : sSw s C.2.2.2.2.2.2.2.2.2.2.2.2.1 = 0) : AMet yX3_advise cX3_advise 7 (some .int) { frames := 6, cells := 0, slots := 0, locals := 136 } [.ref 0, .int s, .int t] (hX th C A L) (some (.int 0)) (hX 1 C A L) := by
  refine AMet.of (by decide) rfl ?_
  intro G hR hE hI
  refine AW.blk (amX3_advise _) 0 5 (h' := hX 0 C A L) (pc' := 7) (lv' := [(0, .ref 0), (1, .int s), (2, .int t)]) (st' := [.int s, .ref 0]) (L := []) rfl trivial ?_
  refine AW.callVp (amX3_advise _) 5 (kIsS 0 C hV s) rfl rfl [0] [0, 1, 2, 3, 4, 5, 6, 7, 8, 9, 10, 11, 12, 13, 14, 15] ykX3_isSweeper yiX3_isSweeper yvX3_isSweeper mlX3_77 rfl rfl rfl rfl hR ⟨Nat.le_of_ble_eq_true rfl, Nat.le_of_ble_eq_true rfl, Nat.le_of_ble_eq_true rfl, Nat.le_of_ble_eq_true rfl⟩ rfl rfl rfl rfl rfl (fun _ => rfl) (h1 := hX 0 C A L) rfl (st' := [.int (sSw s C.2.2.2.2.2.2.2.2.2.2.2.2.1)]) rfl ?_
  refine AW.br (amX3_advise _) 6 (tgt := 19) (C := ¬ (sSw s C.2.2.2.2.2.2.2.2.2.2.2.2.1) = 0) (C' := (sSw s C.2.2.2.2.2.2.2.2.2.2.2.2.1) = 0) (st' := []) rfl rfl rfl (fun c1 => absurd hs c1) (fun c1 => ?_)
  refine AW.blk (amX3_advise _) 7 2 (h' := hX 0 C A L) (pc' := 15) (lv' := [(0, .ref 0), (1, .int s), (2, .int t)]) (st' := [.int 1, .ref 0]) (L := []) rfl trivial ?_
  refine AW.callVp (amX3_advise _) 9 (kX3_no 0 C.2.2.2.2.2.2.2.2.2.2.2.2.1 1) rfl rfl [0] [0, 1, 2, 3, 4, 5, 6, 7, 8, 9, 10, 11, 12, 13, 14, 15] ykX3_no yiX3_no yvX3_no mlX3_59 rfl rfl rfl rfl hR ⟨Nat.le_of_ble_eq_true rfl, Nat.le_of_ble_eq_true rfl, Nat.le_of_ble_eq_true rfl, Nat.le_of_ble_eq_true rfl⟩ rfl rfl rfl rfl rfl (fun _ => rfl) (h1 := hX 1 C A L) rfl (st' := [.int 0]) rfl ?_
  exact AW.iretE (amX3_advise _) 10 hE rfl rfl rfl rfl rfl rfl rfl
set_option maxHeartbeats 2000000 in
theorem kX3_advise_b2 {B : Nat} (th : Int32) (C A : CS) (L : Nat → Int32) (hV : VC B C) (s t : Int32) (hs : ¬ sSw s C.2.2.2.2.2.2.2.2.2.2.2.2.1 = 0) (h1 : sIn3 t 1 96 = 0) : AMet yX3_advise cX3_advise 7 (some .int) { frames := 6, cells := 0, slots := 0, locals := 136 } [.ref 0, .int s, .int t] (hX th C A L) (some (.int 0)) (hX 2 C A L) := by
  refine AMet.of (by decide) rfl ?_
  intro G hR hE hI
  refine AW.blk (amX3_advise _) 0 5 (h' := hX 0 C A L) (pc' := 7) (lv' := [(0, .ref 0), (1, .int s), (2, .int t)]) (st' := [.int s, .ref 0]) (L := []) rfl trivial ?_
  refine AW.callVp (amX3_advise _) 5 (kIsS 0 C hV s) rfl rfl [0] [0, 1, 2, 3, 4, 5, 6, 7, 8, 9, 10, 11, 12, 13, 14, 15] ykX3_isSweeper yiX3_isSweeper yvX3_isSweeper mlX3_77 rfl rfl rfl rfl hR ⟨Nat.le_of_ble_eq_true rfl, Nat.le_of_ble_eq_true rfl, Nat.le_of_ble_eq_true rfl, Nat.le_of_ble_eq_true rfl⟩ rfl rfl rfl rfl rfl (fun _ => rfl) (h1 := hX 0 C A L) rfl (st' := [.int (sSw s C.2.2.2.2.2.2.2.2.2.2.2.2.1)]) rfl ?_
  refine AW.br (amX3_advise _) 6 (tgt := 19) (C := ¬ (sSw s C.2.2.2.2.2.2.2.2.2.2.2.2.1) = 0) (C' := (sSw s C.2.2.2.2.2.2.2.2.2.2.2.2.1) = 0) (st' := []) rfl rfl rfl (fun c1 => ?_) (fun c1 => absurd c1 hs)
  refine AW.blk (amX3_advise _) 11 1 (h' := hX 0 C A L) (pc' := 20) (lv' := [(0, .ref 0), (1, .int s), (2, .int t)]) (st' := [.int t]) (L := []) rfl trivial ?_
  refine AW.callSp (amX3_advise _) 12 (kX3_isTime t) [] [] ykX3_isTime ysX3_isTime mlX3_124 rfl rfl rfl rfl hR ⟨Nat.le_of_ble_eq_true rfl, Nat.le_of_ble_eq_true rfl, Nat.le_of_ble_eq_true rfl, Nat.le_of_ble_eq_true rfl⟩ rfl rfl rfl rfl rfl (fun _ => rfl) (h1 := hX 0 C A L) rfl (st' := [.int (sIn3 t 1 96)]) rfl ?_
  refine AW.br (amX3_advise _) 13 (tgt := 32) (C := ¬ (sIn3 t 1 96) = 0) (C' := (sIn3 t 1 96) = 0) (st' := []) rfl rfl rfl (fun c2 => absurd h1 c2) (fun c2 => ?_)
  refine AW.blk (amX3_advise _) 14 2 (h' := hX 0 C A L) (pc' := 28) (lv' := [(0, .ref 0), (1, .int s), (2, .int t)]) (st' := [.int 2, .ref 0]) (L := []) rfl trivial ?_
  refine AW.callVp (amX3_advise _) 16 (kX3_no 0 C.2.2.2.2.2.2.2.2.2.2.2.2.1 2) rfl rfl [0] [0, 1, 2, 3, 4, 5, 6, 7, 8, 9, 10, 11, 12, 13, 14, 15] ykX3_no yiX3_no yvX3_no mlX3_59 rfl rfl rfl rfl hR ⟨Nat.le_of_ble_eq_true rfl, Nat.le_of_ble_eq_true rfl, Nat.le_of_ble_eq_true rfl, Nat.le_of_ble_eq_true rfl⟩ rfl rfl rfl rfl rfl (fun _ => rfl) (h1 := hX 2 C A L) rfl (st' := [.int 0]) rfl ?_
  exact AW.iretE (amX3_advise _) 17 hE rfl rfl rfl rfl rfl rfl rfl
set_option maxHeartbeats 2000000 in
theorem kX3_foresee_0 {B : Nat} (th : Int32) (C A : CS) (L : Nat → Int32) (hV : VC B C) (hB : B + 96 < 2 ^ 31) (t : Int32) (h1 : ¬ sIn3 t 1 96 = 0) : AMet yX3_foresee cX3_foresee 4 (some .int) { frames := 5, cells := 0, slots := 0, locals := 114 } [.ref 0, .int t, .int (nI 0)] (hX th C A L) (some (.int (sFo t C 0))) (hX 0 C (sLive t C).2 L) := by
  refine AMet.of (by decide) rfl ?_
  intro G hR hE hI
  refine AW.blk (amX3_foresee _) 0 4 (h' := hX 0 C A L) (pc' := 6) (lv' := [(0, .ref 0), (1, .int t), (2, .int (nI 0))]) (st' := [.int t]) (L := []) rfl trivial ?_
  refine AW.callSp (amX3_foresee _) 4 (kX3_isTime t) [] [] ykX3_isTime ysX3_isTime mlX3_124 rfl rfl rfl rfl hR ⟨Nat.le_of_ble_eq_true rfl, Nat.le_of_ble_eq_true rfl, Nat.le_of_ble_eq_true rfl, Nat.le_of_ble_eq_true rfl⟩ rfl rfl rfl rfl rfl (fun _ => rfl) (h1 := hX 0 C A L) rfl (st' := [.int (sIn3 t 1 96)]) rfl ?_
  refine AW.br (amX3_foresee _) 5 (tgt := 18) (C := ¬ (sIn3 t 1 96) = 0) (C' := (sIn3 t 1 96) = 0) (st' := []) rfl rfl rfl (fun c1 => ?_) (fun c1 => absurd c1 h1)
  refine AW.blk (amX3_foresee _) 10 3 (h' := hX 0 C A L) (pc' := 21) (lv' := [(0, .ref 0), (1, .int t), (2, .int (nI 0))]) (st' := [.int 2, .int 0, .int (nI 0)]) (L := []) rfl trivial ?_
  refine AW.callSp (amX3_foresee _) 13 (kX3_isIn (nI 0) 0 2) [] [] ykX3_isIn ysX3_isIn mlX3_44 rfl rfl rfl rfl hR ⟨Nat.le_of_ble_eq_true rfl, Nat.le_of_ble_eq_true rfl, Nat.le_of_ble_eq_true rfl, Nat.le_of_ble_eq_true rfl⟩ rfl rfl rfl rfl rfl (fun _ => rfl) (h1 := hX 0 C A L) rfl (st' := [.int (sIn3 (nI 0) 0 2)]) rfl ?_
  refine AW.br (amX3_foresee _) 14 (tgt := 33) (C := ¬ (sIn3 (nI 0) 0 2) = 0) (C' := (sIn3 (nI 0) 0 2) = 0) (st' := []) rfl rfl rfl (fun c2 => ?_) (fun c2 => absurd c2 (in3_w (w := 0) (K := 2) (by decide) (by decide)))
  refine AW.blk (amX3_foresee _) 19 4 (h' := hX 0 C A L) (pc' := 41) (lv' := [(0, .ref 0), (1, .int t), (2, .int (nI 0))]) (st' := [.ref 6, .ref 15]) (L := []) rfl trivial ?_
  refine AW.callVp (amX3_foresee _) 23 (kX2_become A.2.2.2.2.2.2.2.2.2.2.2.2.2 C.2.2.2.2.2.2.2.2.2.2.2.2.2 A.1 A.2.2.2.1 A.2.2.2.2.1 A.2.2.2.2.2.2.1 A.2.2.2.2.2.2.2.2.1 A.2.2.2.2.2.2.2.2.2.1 A.2.2.2.2.2.2.2.2.2.2.1 A.2.2.2.2.2.2.2.2.2.2.2.1 C.1 C.2.2.2.1 C.2.2.2.2.1 C.2.2.2.2.2.2.1 C.2.2.2.2.2.2.2.2.1 C.2.2.2.2.2.2.2.2.2.1 C.2.2.2.2.2.2.2.2.2.2.1 C.2.2.2.2.2.2.2.2.2.2.2.1) rfl rfl [15, 16, 17, 18, 19, 20, 21, 22, 23, 6, 7, 8, 9, 10, 11, 12, 13, 14] [0] ykX2_become yiX2_become yvX2_become mlX3_137 rfl rfl rfl rfl hR ⟨Nat.le_of_ble_eq_true rfl, Nat.le_of_ble_eq_true rfl, Nat.le_of_ble_eq_true rfl, Nat.le_of_ble_eq_true rfl⟩ rfl rfl rfl rfl rfl (fun _ => rfl) (h1 := hX 0 C C L) rfl (st' := []) rfl ?_
  refine AW.blk (amX3_foresee _) 24 3 (h' := hX 0 C C L) (pc' := 49) (lv' := [(0, .ref 0), (1, .int t), (2, .int (nI 0))]) (st' := [.int t, .ref 15]) (L := []) rfl trivial ?_
  refine AW.callVp (amX3_foresee _) 27 (kLvF 0 (C := C) (D := C) ⟨rfl, rfl, rfl, rfl, rfl⟩ hV hB t (in3_ge h1) (in3_le h1)) rfl rfl [15, 16, 17, 18, 19, 20, 21, 22, 23, 0, 1, 2, 3, 4] [5, 6, 15] ykX2_pass_ yiX2_pass_ yvX2_pass_ mlX3_127 rfl rfl rfl rfl hR ⟨Nat.le_of_ble_eq_true rfl, Nat.le_of_ble_eq_true rfl, Nat.le_of_ble_eq_true rfl, Nat.le_of_ble_eq_true rfl⟩ rfl rfl rfl rfl rfl (fun _ => rfl) (h1 := hX 0 C ((sLive t C).2) L) rfl (st' := [.int ((sLive t C).1)]) rfl ?_
  refine AW.blk (amX3_foresee _) 28 2 (h' := hX 0 C ((sLive t C).2) L) (pc' := 54) (lv' := [(3, .int ((sLive t C).1)), (0, .ref 0), (1, .int t), (2, .int (nI 0))]) (st' := [.int (nI 0)]) (L := []) rfl trivial ?_
  refine AW.br (amX3_foresee _) 30 (tgt := 61) (C := ¬ (nI 0) = 0) (C' := (nI 0) = 0) (st' := []) rfl rfl rfl (fun c3 => absurd (show (nI 0 : Int32) = 0 by decide) c3) (fun c3 => ?_)
  refine AW.blk (amX3_foresee _) 31 2 (h' := hX 0 C ((sLive t C).2) L) (pc' := 83) (lv' := [(3, .int ((sLive t C).1)), (0, .ref 0), (1, .int t), (2, .int (nI 0))]) (st' := [.int ((sLive t C).1)]) (L := []) rfl trivial ?_
  exact AW.iretE (amX3_foresee _) 43 hE rfl rfl rfl rfl rfl rfl rfl
set_option maxHeartbeats 2000000 in
theorem kX3_foresee_1 {B : Nat} (th : Int32) (C A : CS) (L : Nat → Int32) (hV : VC B C) (hB : B + 96 < 2 ^ 31) (t : Int32) (h1 : ¬ sIn3 t 1 96 = 0) : AMet yX3_foresee cX3_foresee 4 (some .int) { frames := 5, cells := 0, slots := 0, locals := 114 } [.ref 0, .int t, .int (nI 1)] (hX th C A L) (some (.int (sFo t C 1))) (hX 0 C (sLive t C).2 L) := by
  refine AMet.of (by decide) rfl ?_
  intro G hR hE hI
  refine AW.blk (amX3_foresee _) 0 4 (h' := hX 0 C A L) (pc' := 6) (lv' := [(0, .ref 0), (1, .int t), (2, .int (nI 1))]) (st' := [.int t]) (L := []) rfl trivial ?_
  refine AW.callSp (amX3_foresee _) 4 (kX3_isTime t) [] [] ykX3_isTime ysX3_isTime mlX3_124 rfl rfl rfl rfl hR ⟨Nat.le_of_ble_eq_true rfl, Nat.le_of_ble_eq_true rfl, Nat.le_of_ble_eq_true rfl, Nat.le_of_ble_eq_true rfl⟩ rfl rfl rfl rfl rfl (fun _ => rfl) (h1 := hX 0 C A L) rfl (st' := [.int (sIn3 t 1 96)]) rfl ?_
  refine AW.br (amX3_foresee _) 5 (tgt := 18) (C := ¬ (sIn3 t 1 96) = 0) (C' := (sIn3 t 1 96) = 0) (st' := []) rfl rfl rfl (fun c1 => ?_) (fun c1 => absurd c1 h1)
  refine AW.blk (amX3_foresee _) 10 3 (h' := hX 0 C A L) (pc' := 21) (lv' := [(0, .ref 0), (1, .int t), (2, .int (nI 1))]) (st' := [.int 2, .int 0, .int (nI 1)]) (L := []) rfl trivial ?_
  refine AW.callSp (amX3_foresee _) 13 (kX3_isIn (nI 1) 0 2) [] [] ykX3_isIn ysX3_isIn mlX3_44 rfl rfl rfl rfl hR ⟨Nat.le_of_ble_eq_true rfl, Nat.le_of_ble_eq_true rfl, Nat.le_of_ble_eq_true rfl, Nat.le_of_ble_eq_true rfl⟩ rfl rfl rfl rfl rfl (fun _ => rfl) (h1 := hX 0 C A L) rfl (st' := [.int (sIn3 (nI 1) 0 2)]) rfl ?_
  refine AW.br (amX3_foresee _) 14 (tgt := 33) (C := ¬ (sIn3 (nI 1) 0 2) = 0) (C' := (sIn3 (nI 1) 0 2) = 0) (st' := []) rfl rfl rfl (fun c2 => ?_) (fun c2 => absurd c2 (in3_w (w := 1) (K := 2) (by decide) (by decide)))
  refine AW.blk (amX3_foresee _) 19 4 (h' := hX 0 C A L) (pc' := 41) (lv' := [(0, .ref 0), (1, .int t), (2, .int (nI 1))]) (st' := [.ref 6, .ref 15]) (L := []) rfl trivial ?_
  refine AW.callVp (amX3_foresee _) 23 (kX2_become A.2.2.2.2.2.2.2.2.2.2.2.2.2 C.2.2.2.2.2.2.2.2.2.2.2.2.2 A.1 A.2.2.2.1 A.2.2.2.2.1 A.2.2.2.2.2.2.1 A.2.2.2.2.2.2.2.2.1 A.2.2.2.2.2.2.2.2.2.1 A.2.2.2.2.2.2.2.2.2.2.1 A.2.2.2.2.2.2.2.2.2.2.2.1 C.1 C.2.2.2.1 C.2.2.2.2.1 C.2.2.2.2.2.2.1 C.2.2.2.2.2.2.2.2.1 C.2.2.2.2.2.2.2.2.2.1 C.2.2.2.2.2.2.2.2.2.2.1 C.2.2.2.2.2.2.2.2.2.2.2.1) rfl rfl [15, 16, 17, 18, 19, 20, 21, 22, 23, 6, 7, 8, 9, 10, 11, 12, 13, 14] [0] ykX2_become yiX2_become yvX2_become mlX3_137 rfl rfl rfl rfl hR ⟨Nat.le_of_ble_eq_true rfl, Nat.le_of_ble_eq_true rfl, Nat.le_of_ble_eq_true rfl, Nat.le_of_ble_eq_true rfl⟩ rfl rfl rfl rfl rfl (fun _ => rfl) (h1 := hX 0 C C L) rfl (st' := []) rfl ?_
  refine AW.blk (amX3_foresee _) 24 3 (h' := hX 0 C C L) (pc' := 49) (lv' := [(0, .ref 0), (1, .int t), (2, .int (nI 1))]) (st' := [.int t, .ref 15]) (L := []) rfl trivial ?_
  refine AW.callVp (amX3_foresee _) 27 (kLvF 0 (C := C) (D := C) ⟨rfl, rfl, rfl, rfl, rfl⟩ hV hB t (in3_ge h1) (in3_le h1)) rfl rfl [15, 16, 17, 18, 19, 20, 21, 22, 23, 0, 1, 2, 3, 4] [5, 6, 15] ykX2_pass_ yiX2_pass_ yvX2_pass_ mlX3_127 rfl rfl rfl rfl hR ⟨Nat.le_of_ble_eq_true rfl, Nat.le_of_ble_eq_true rfl, Nat.le_of_ble_eq_true rfl, Nat.le_of_ble_eq_true rfl⟩ rfl rfl rfl rfl rfl (fun _ => rfl) (h1 := hX 0 C ((sLive t C).2) L) rfl (st' := [.int ((sLive t C).1)]) rfl ?_
  refine AW.blk (amX3_foresee _) 28 2 (h' := hX 0 C ((sLive t C).2) L) (pc' := 54) (lv' := [(3, .int ((sLive t C).1)), (0, .ref 0), (1, .int t), (2, .int (nI 1))]) (st' := [.int (nI 1)]) (L := []) rfl trivial ?_
  refine AW.br (amX3_foresee _) 30 (tgt := 61) (C := ¬ (nI 1) = 0) (C' := (nI 1) = 0) (st' := []) rfl rfl rfl (fun c3 => ?_) (fun c3 => absurd c3 (show ¬ (nI 1 : Int32) = 0 by decide))
  refine AW.blk (amX3_foresee _) 33 2 (h' := hX 0 C ((sLive t C).2) L) (pc' := 63) (lv' := [(3, .int ((sLive t C).1)), (0, .ref 0), (1, .int t), (2, .int (nI 1))]) (st' := [.int 1, .int (nI 1)]) (L := []) rfl trivial ?_
  refine AW.br (amX3_foresee _) 35 (tgt := 76) (C := ¬ (nI 1) = 1) (C' := (nI 1) = 1) (st' := []) rfl rfl rfl (fun c4 => absurd (show (nI 1 : Int32) = 1 by decide) c4) (fun c4 => ?_)
  refine AW.blk (amX3_foresee _) 36 2 (h' := hX 0 C ((sLive t C).2) L) (pc' := 70) (lv' := [(3, .int ((sLive t C).1)), (0, .ref 0), (1, .int t), (2, .int (nI 1))]) (st' := [.ref 15]) (L := []) rfl trivial ?_
  refine AW.callVp (amX3_foresee _) 38 (kAllML 0 (C := C) (D := (sLive t C).2) (fx_L t C) (VC_L hV)) rfl rfl [15, 16, 17, 18, 19, 20, 21, 22, 23, 0, 1, 2, 3, 4] [5, 6, 15] ykX2_allMud yiX2_allMud yvX2_allMud mlX3_114 rfl rfl rfl rfl hR ⟨Nat.le_of_ble_eq_true rfl, Nat.le_of_ble_eq_true rfl, Nat.le_of_ble_eq_true rfl, Nat.le_of_ble_eq_true rfl⟩ rfl rfl rfl rfl rfl (fun _ => rfl) (h1 := hX 0 C ((sLive t C).2) L) rfl (st' := [.int (sSum (sLive t C).2.1 9)]) rfl ?_
  refine AW.blk (amX3_foresee _) 39 1 (h' := hX 0 C ((sLive t C).2) L) (pc' := 83) (lv' := [(3, .int ((sLive t C).1)), (0, .ref 0), (1, .int t), (2, .int (nI 1))]) (st' := [.int (sSum (sLive t C).2.1 9)]) (L := []) rfl trivial ?_
  exact AW.iretE (amX3_foresee _) 43 hE rfl rfl rfl rfl rfl rfl rfl
set_option maxHeartbeats 2000000 in
theorem kX3_foresee_2 {B : Nat} (th : Int32) (C A : CS) (L : Nat → Int32) (hV : VC B C) (hB : B + 96 < 2 ^ 31) (t : Int32) (h1 : ¬ sIn3 t 1 96 = 0) : AMet yX3_foresee cX3_foresee 4 (some .int) { frames := 5, cells := 0, slots := 0, locals := 114 } [.ref 0, .int t, .int (nI 2)] (hX th C A L) (some (.int (sFo t C 2))) (hX 0 C (sLive t C).2 L) := by
  refine AMet.of (by decide) rfl ?_
  intro G hR hE hI
  refine AW.blk (amX3_foresee _) 0 4 (h' := hX 0 C A L) (pc' := 6) (lv' := [(0, .ref 0), (1, .int t), (2, .int (nI 2))]) (st' := [.int t]) (L := []) rfl trivial ?_
  refine AW.callSp (amX3_foresee _) 4 (kX3_isTime t) [] [] ykX3_isTime ysX3_isTime mlX3_124 rfl rfl rfl rfl hR ⟨Nat.le_of_ble_eq_true rfl, Nat.le_of_ble_eq_true rfl, Nat.le_of_ble_eq_true rfl, Nat.le_of_ble_eq_true rfl⟩ rfl rfl rfl rfl rfl (fun _ => rfl) (h1 := hX 0 C A L) rfl (st' := [.int (sIn3 t 1 96)]) rfl ?_
  refine AW.br (amX3_foresee _) 5 (tgt := 18) (C := ¬ (sIn3 t 1 96) = 0) (C' := (sIn3 t 1 96) = 0) (st' := []) rfl rfl rfl (fun c1 => ?_) (fun c1 => absurd c1 h1)
  refine AW.blk (amX3_foresee _) 10 3 (h' := hX 0 C A L) (pc' := 21) (lv' := [(0, .ref 0), (1, .int t), (2, .int (nI 2))]) (st' := [.int 2, .int 0, .int (nI 2)]) (L := []) rfl trivial ?_
  refine AW.callSp (amX3_foresee _) 13 (kX3_isIn (nI 2) 0 2) [] [] ykX3_isIn ysX3_isIn mlX3_44 rfl rfl rfl rfl hR ⟨Nat.le_of_ble_eq_true rfl, Nat.le_of_ble_eq_true rfl, Nat.le_of_ble_eq_true rfl, Nat.le_of_ble_eq_true rfl⟩ rfl rfl rfl rfl rfl (fun _ => rfl) (h1 := hX 0 C A L) rfl (st' := [.int (sIn3 (nI 2) 0 2)]) rfl ?_
  refine AW.br (amX3_foresee _) 14 (tgt := 33) (C := ¬ (sIn3 (nI 2) 0 2) = 0) (C' := (sIn3 (nI 2) 0 2) = 0) (st' := []) rfl rfl rfl (fun c2 => ?_) (fun c2 => absurd c2 (in3_w (w := 2) (K := 2) (by decide) (by decide)))
  refine AW.blk (amX3_foresee _) 19 4 (h' := hX 0 C A L) (pc' := 41) (lv' := [(0, .ref 0), (1, .int t), (2, .int (nI 2))]) (st' := [.ref 6, .ref 15]) (L := []) rfl trivial ?_
  refine AW.callVp (amX3_foresee _) 23 (kX2_become A.2.2.2.2.2.2.2.2.2.2.2.2.2 C.2.2.2.2.2.2.2.2.2.2.2.2.2 A.1 A.2.2.2.1 A.2.2.2.2.1 A.2.2.2.2.2.2.1 A.2.2.2.2.2.2.2.2.1 A.2.2.2.2.2.2.2.2.2.1 A.2.2.2.2.2.2.2.2.2.2.1 A.2.2.2.2.2.2.2.2.2.2.2.1 C.1 C.2.2.2.1 C.2.2.2.2.1 C.2.2.2.2.2.2.1 C.2.2.2.2.2.2.2.2.1 C.2.2.2.2.2.2.2.2.2.1 C.2.2.2.2.2.2.2.2.2.2.1 C.2.2.2.2.2.2.2.2.2.2.2.1) rfl rfl [15, 16, 17, 18, 19, 20, 21, 22, 23, 6, 7, 8, 9, 10, 11, 12, 13, 14] [0] ykX2_become yiX2_become yvX2_become mlX3_137 rfl rfl rfl rfl hR ⟨Nat.le_of_ble_eq_true rfl, Nat.le_of_ble_eq_true rfl, Nat.le_of_ble_eq_true rfl, Nat.le_of_ble_eq_true rfl⟩ rfl rfl rfl rfl rfl (fun _ => rfl) (h1 := hX 0 C C L) rfl (st' := []) rfl ?_
  refine AW.blk (amX3_foresee _) 24 3 (h' := hX 0 C C L) (pc' := 49) (lv' := [(0, .ref 0), (1, .int t), (2, .int (nI 2))]) (st' := [.int t, .ref 15]) (L := []) rfl trivial ?_
  refine AW.callVp (amX3_foresee _) 27 (kLvF 0 (C := C) (D := C) ⟨rfl, rfl, rfl, rfl, rfl⟩ hV hB t (in3_ge h1) (in3_le h1)) rfl rfl [15, 16, 17, 18, 19, 20, 21, 22, 23, 0, 1, 2, 3, 4] [5, 6, 15] ykX2_pass_ yiX2_pass_ yvX2_pass_ mlX3_127 rfl rfl rfl rfl hR ⟨Nat.le_of_ble_eq_true rfl, Nat.le_of_ble_eq_true rfl, Nat.le_of_ble_eq_true rfl, Nat.le_of_ble_eq_true rfl⟩ rfl rfl rfl rfl rfl (fun _ => rfl) (h1 := hX 0 C ((sLive t C).2) L) rfl (st' := [.int ((sLive t C).1)]) rfl ?_
  refine AW.blk (amX3_foresee _) 28 2 (h' := hX 0 C ((sLive t C).2) L) (pc' := 54) (lv' := [(3, .int ((sLive t C).1)), (0, .ref 0), (1, .int t), (2, .int (nI 2))]) (st' := [.int (nI 2)]) (L := []) rfl trivial ?_
  refine AW.br (amX3_foresee _) 30 (tgt := 61) (C := ¬ (nI 2) = 0) (C' := (nI 2) = 0) (st' := []) rfl rfl rfl (fun c3 => ?_) (fun c3 => absurd c3 (show ¬ (nI 2 : Int32) = 0 by decide))
  refine AW.blk (amX3_foresee _) 33 2 (h' := hX 0 C ((sLive t C).2) L) (pc' := 63) (lv' := [(3, .int ((sLive t C).1)), (0, .ref 0), (1, .int t), (2, .int (nI 2))]) (st' := [.int 1, .int (nI 2)]) (L := []) rfl trivial ?_
  refine AW.br (amX3_foresee _) 35 (tgt := 76) (C := ¬ (nI 2) = 1) (C' := (nI 2) = 1) (st' := []) rfl rfl rfl (fun c4 => ?_) (fun c4 => absurd c4 (show ¬ (nI 2 : Int32) = 1 by decide))
  refine AW.blk (amX3_foresee _) 40 2 (h' := hX 0 C ((sLive t C).2) L) (pc' := 80) (lv' := [(3, .int ((sLive t C).1)), (0, .ref 0), (1, .int t), (2, .int (nI 2))]) (st' := [.ref 15]) (L := []) rfl trivial ?_
  refine AW.callVp (amX3_foresee _) 42 (kHeldL 0 (C := C) (D := (sLive t C).2) (fx_L t C) (VC_L hV)) rfl rfl [15, 16, 17, 18, 19, 20, 21, 22, 23, 0, 1, 2, 3, 4] [5, 6, 15] ykX2_held yiX2_held yvX2_held mlX3_110 rfl rfl rfl rfl hR ⟨Nat.le_of_ble_eq_true rfl, Nat.le_of_ble_eq_true rfl, Nat.le_of_ble_eq_true rfl, Nat.le_of_ble_eq_true rfl⟩ rfl rfl rfl rfl rfl (fun _ => rfl) (h1 := hX 0 C ((sLive t C).2) L) rfl (st' := [.int (sHeld (sLive t C).2.2.2.2.2.2.2.2.2.2.2.2.2.1 (sLive t C).2.2.2.2.1)]) rfl ?_
  exact AW.iretE (amX3_foresee _) 43 hE rfl rfl rfl rfl rfl rfl rfl
theorem kX3_foresee {B : Nat} (th : Int32) (C A : CS) (L : Nat → Int32) (hV : VC B C) (hB : B + 96 < 2 ^ 31) (t : Int32) (h1 : ¬ sIn3 t 1 96 = 0) : ∀ (w : Nat), w < 3 → AMet yX3_foresee cX3_foresee 4 (some .int) { frames := 5, cells := 0, slots := 0, locals := 114 } [.ref 0, .int t, .int (nI w)] (hX th C A L) (some (.int (sFo t C w))) (hX 0 C (sLive t C).2 L)
  | 0, _ => kX3_foresee_0 th C A L hV hB t h1
  | 1, _ => kX3_foresee_1 th C A L hV hB t h1
  | 2, _ => kX3_foresee_2 th C A L hV hB t h1
  | w + 3, h => absurd h (by omega)
set_option maxHeartbeats 2000000 in
theorem kX3_foresee_b1 {B : Nat} (th : Int32) (C A : CS) (L : Nat → Int32) (hV : VC B C) (t w : Int32) (h1 : sIn3 t 1 96 = 0) : AMet yX3_foresee cX3_foresee 4 (some .int) { frames := 5, cells := 0, slots := 0, locals := 114 } [.ref 0, .int t, .int w] (hX th C A L) (some (.int 0)) (hX 1 C A L) := by
  refine AMet.of (by decide) rfl ?_
  intro G hR hE hI
  refine AW.blk (amX3_foresee _) 0 4 (h' := hX 0 C A L) (pc' := 6) (lv' := [(0, .ref 0), (1, .int t), (2, .int w)]) (st' := [.int t]) (L := []) rfl trivial ?_
  refine AW.callSp (amX3_foresee _) 4 (kX3_isTime t) [] [] ykX3_isTime ysX3_isTime mlX3_124 rfl rfl rfl rfl hR ⟨Nat.le_of_ble_eq_true rfl, Nat.le_of_ble_eq_true rfl, Nat.le_of_ble_eq_true rfl, Nat.le_of_ble_eq_true rfl⟩ rfl rfl rfl rfl rfl (fun _ => rfl) (h1 := hX 0 C A L) rfl (st' := [.int (sIn3 t 1 96)]) rfl ?_
  refine AW.br (amX3_foresee _) 5 (tgt := 18) (C := ¬ (sIn3 t 1 96) = 0) (C' := (sIn3 t 1 96) = 0) (st' := []) rfl rfl rfl (fun c1 => absurd h1 c1) (fun c1 => ?_)
  refine AW.blk (amX3_foresee _) 6 2 (h' := hX 0 C A L) (pc' := 14) (lv' := [(0, .ref 0), (1, .int t), (2, .int w)]) (st' := [.int 1, .ref 0]) (L := []) rfl trivial ?_
  refine AW.callVp (amX3_foresee _) 8 (kX3_no 0 C.2.2.2.2.2.2.2.2.2.2.2.2.1 1) rfl rfl [0] [0, 1, 2, 3, 4, 5, 6, 7, 8, 9, 10, 11, 12, 13, 14, 15] ykX3_no yiX3_no yvX3_no mlX3_59 rfl rfl rfl rfl hR ⟨Nat.le_of_ble_eq_true rfl, Nat.le_of_ble_eq_true rfl, Nat.le_of_ble_eq_true rfl, Nat.le_of_ble_eq_true rfl⟩ rfl rfl rfl rfl rfl (fun _ => rfl) (h1 := hX 1 C A L) rfl (st' := [.int 0]) rfl ?_
  exact AW.iretE (amX3_foresee _) 9 hE rfl rfl rfl rfl rfl rfl rfl
set_option maxHeartbeats 2000000 in
theorem kX3_foresee_b2 {B : Nat} (th : Int32) (C A : CS) (L : Nat → Int32) (hV : VC B C) (t w : Int32) (h1 : ¬ sIn3 t 1 96 = 0) (hw : sIn3 w 0 2 = 0) : AMet yX3_foresee cX3_foresee 4 (some .int) { frames := 5, cells := 0, slots := 0, locals := 114 } [.ref 0, .int t, .int w] (hX th C A L) (some (.int 0)) (hX 2 C A L) := by
  refine AMet.of (by decide) rfl ?_
  intro G hR hE hI
  refine AW.blk (amX3_foresee _) 0 4 (h' := hX 0 C A L) (pc' := 6) (lv' := [(0, .ref 0), (1, .int t), (2, .int w)]) (st' := [.int t]) (L := []) rfl trivial ?_
  refine AW.callSp (amX3_foresee _) 4 (kX3_isTime t) [] [] ykX3_isTime ysX3_isTime mlX3_124 rfl rfl rfl rfl hR ⟨Nat.le_of_ble_eq_true rfl, Nat.le_of_ble_eq_true rfl, Nat.le_of_ble_eq_true rfl, Nat.le_of_ble_eq_true rfl⟩ rfl rfl rfl rfl rfl (fun _ => rfl) (h1 := hX 0 C A L) rfl (st' := [.int (sIn3 t 1 96)]) rfl ?_
  refine AW.br (amX3_foresee _) 5 (tgt := 18) (C := ¬ (sIn3 t 1 96) = 0) (C' := (sIn3 t 1 96) = 0) (st' := []) rfl rfl rfl (fun c1 => ?_) (fun c1 => absurd c1 h1)
  refine AW.blk (amX3_foresee _) 10 3 (h' := hX 0 C A L) (pc' := 21) (lv' := [(0, .ref 0), (1, .int t), (2, .int w)]) (st' := [.int 2, .int 0, .int w]) (L := []) rfl trivial ?_
  refine AW.callSp (amX3_foresee _) 13 (kX3_isIn w 0 2) [] [] ykX3_isIn ysX3_isIn mlX3_44 rfl rfl rfl rfl hR ⟨Nat.le_of_ble_eq_true rfl, Nat.le_of_ble_eq_true rfl, Nat.le_of_ble_eq_true rfl, Nat.le_of_ble_eq_true rfl⟩ rfl rfl rfl rfl rfl (fun _ => rfl) (h1 := hX 0 C A L) rfl (st' := [.int (sIn3 w 0 2)]) rfl ?_
  refine AW.br (amX3_foresee _) 14 (tgt := 33) (C := ¬ (sIn3 w 0 2) = 0) (C' := (sIn3 w 0 2) = 0) (st' := []) rfl rfl rfl (fun c2 => absurd hw c2) (fun c2 => ?_)
  refine AW.blk (amX3_foresee _) 15 2 (h' := hX 0 C A L) (pc' := 29) (lv' := [(0, .ref 0), (1, .int t), (2, .int w)]) (st' := [.int 2, .ref 0]) (L := []) rfl trivial ?_
  refine AW.callVp (amX3_foresee _) 17 (kX3_no 0 C.2.2.2.2.2.2.2.2.2.2.2.2.1 2) rfl rfl [0] [0, 1, 2, 3, 4, 5, 6, 7, 8, 9, 10, 11, 12, 13, 14, 15] ykX3_no yiX3_no yvX3_no mlX3_59 rfl rfl rfl rfl hR ⟨Nat.le_of_ble_eq_true rfl, Nat.le_of_ble_eq_true rfl, Nat.le_of_ble_eq_true rfl, Nat.le_of_ble_eq_true rfl⟩ rfl rfl rfl rfl rfl (fun _ => rfl) (h1 := hX 2 C A L) rfl (st' := [.int 0]) rfl ?_
  exact AW.iretE (amX3_foresee _) 18 hE rfl rfl rfl rfl rfl rfl rfl
set_option maxHeartbeats 2000000 in
theorem kX3_mean {B : Nat} (th : Int32) (C A : CS) (L : Nat → Int32) (hV : VC B C) (hn : vf_n64 (FP.ddiv (FP.i2d (sSum C.1 9)) 4621256167635550208)) : AMet yX3_mean cX3_mean 1 (some .double) { frames := 2, cells := 0, slots := 0, locals := 46 } [.ref 0] (hX th C A L) (some (.double (FP.ddiv (FP.i2d (sSum C.1 9)) 4621256167635550208))) (hX 0 C A L) := by
  refine AMet.of (by decide) rfl ?_
  intro G hR hE hI
  refine AW.blk (amX3_mean _) 0 5 (h' := hX 0 C A L) (pc' := 9) (lv' := [(0, .ref 0)]) (st' := [.ref 6]) (L := []) rfl trivial ?_
  refine AW.callVp (amX3_mean _) 5 (kAllM 0 C hV) rfl rfl [6, 7, 8, 9, 10, 11, 12, 13, 14, 0, 1, 2, 3, 4] [5, 6, 15] ykX2_allMud yiX2_allMud yvX2_allMud mlX3_114 rfl rfl rfl rfl hR ⟨Nat.le_of_ble_eq_true rfl, Nat.le_of_ble_eq_true rfl, Nat.le_of_ble_eq_true rfl, Nat.le_of_ble_eq_true rfl⟩ rfl rfl rfl rfl rfl (fun _ => rfl) (h1 := hX 0 C A L) rfl (st' := [.int (sSum C.1 9)]) rfl ?_
  refine AW.blk (amX3_mean _) 6 1 (h' := hX 0 C A L) (pc' := 13) (lv' := [(0, .ref 0)]) (st' := [.double (FP.i2d (sSum C.1 9))]) (L := []) rfl trivial ?_
  refine AW.ldcD (amX3_mean _) 7 4621256167635550208 rfl kcX3_144 ?_
  refine AW.ddiv (amX3_mean _) 8 rfl hn ?_
  exact AW.dretE (amX3_mean _) 9 hE rfl rfl rfl rfl rfl rfl
