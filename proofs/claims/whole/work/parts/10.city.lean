set_option maxHeartbeats 1000000 in
theorem kX0_isSweeper (mud car wal hol paid rain place str bro pen swe dri : Nat → Int32) (n q : Int32) (s : Int32) : AMet yX0_isSweeper cX0_isSweeper 2 (some .boolean) { frames := 0, cells := 0, slots := 0, locals := 0 } [.ref 0, .int s] (hC mud car wal hol paid rain place str bro pen swe dri n q) (some (.int (sSw s n))) (hC mud car wal hol paid rain place str bro pen swe dri n q) := by
  refine AMet.of (by decide) rfl ?_
  intro G hR hE hI
  refine AW.blk (amX0_isSweeper _) 0 1 (h' := hC mud car wal hol paid rain place str bro pen swe dri n q) (pc' := 1) (lv' := [(0, .ref 0), (1, .int s)]) (st' := [.int s]) (L := []) rfl trivial ?_
  refine AW.br (amX0_isSweeper _) 1 (tgt := 22) (C := s < 0) (C' := ¬ s < 0) (st' := []) rfl rfl rfl (fun c1 => ?_) (fun c1 => ?_)
  · refine AW.blk (amX0_isSweeper _) 11 1 (h' := hC mud car wal hol paid rain place str bro pen swe dri n q) (pc' := 23) (lv' := [(0, .ref 0), (1, .int s)]) (st' := [.int 0]) (L := []) rfl trivial ?_
    exact AW.iretE (amX0_isSweeper _) 12 hE rfl rfl (by first | rfl | exact narrow_b _ (by decide)) rfl rfl (by simp only [sSw, if_pos c1]) rfl
  · refine AW.blk (amX0_isSweeper _) 2 2 (h' := hC mud car wal hol paid rain place str bro pen swe dri n q) (pc' := 7) (lv' := [(0, .ref 0), (1, .int s)]) (st' := [.int 8, .int s]) (L := []) rfl trivial ?_
    refine AW.br (amX0_isSweeper _) 4 (tgt := 22) (C := 8 ≤ s) (C' := ¬ 8 ≤ s) (st' := []) rfl rfl rfl (fun c2 => ?_) (fun c2 => ?_)
    · refine AW.blk (amX0_isSweeper _) 11 1 (h' := hC mud car wal hol paid rain place str bro pen swe dri n q) (pc' := 23) (lv' := [(0, .ref 0), (1, .int s)]) (st' := [.int 0]) (L := []) rfl trivial ?_
      exact AW.iretE (amX0_isSweeper _) 12 hE rfl rfl (by first | rfl | exact narrow_b _ (by decide)) rfl rfl (by simp only [sSw, if_neg c1, if_pos c2]) rfl
    · refine AW.blk (amX0_isSweeper _) 5 3 (h' := hC mud car wal hol paid rain place str bro pen swe dri n q) (pc' := 15) (lv' := [(0, .ref 0), (1, .int s)]) (st' := [.int n, .int s]) (L := []) rfl trivial ?_
      refine AW.br (amX0_isSweeper _) 8 (tgt := 22) (C := n ≤ s) (C' := ¬ n ≤ s) (st' := []) rfl rfl rfl (fun c3 => ?_) (fun c3 => ?_)
      · refine AW.blk (amX0_isSweeper _) 11 1 (h' := hC mud car wal hol paid rain place str bro pen swe dri n q) (pc' := 23) (lv' := [(0, .ref 0), (1, .int s)]) (st' := [.int 0]) (L := []) rfl trivial ?_
        exact AW.iretE (amX0_isSweeper _) 12 hE rfl rfl (by first | rfl | exact narrow_b _ (by decide)) rfl rfl (by simp only [sSw, if_neg c1, if_neg c2, if_pos c3]) rfl
      · refine AW.blk (amX0_isSweeper _) 9 2 (h' := hC mud car wal hol paid rain place str bro pen swe dri n q) (pc' := 23) (lv' := [(0, .ref 0), (1, .int s)]) (st' := [.int 1]) (L := []) rfl trivial ?_
        exact AW.iretE (amX0_isSweeper _) 12 hE rfl rfl (by first | rfl | exact narrow_b _ (by decide)) rfl rfl (by simp only [sSw, if_neg c1, if_neg c2, if_neg c3]) rfl
set_option maxHeartbeats 1000000 in
theorem kX1_isCrossing (c : Int32) : AMet yX1_isCrossing cX1_isCrossing 1 (some .boolean) { frames := 0, cells := 0, slots := 0, locals := 0 } [.int c] ([]) (some (.int (sCr c))) ([]) := by
  refine AMet.of (by decide) rfl ?_
  intro G hR hE hI
  refine AW.blk (amX1_isCrossing _) 0 1 (h' := []) (pc' := 1) (lv' := [(0, .int c)]) (st' := [.int c]) (L := []) rfl trivial ?_
  refine AW.br (amX1_isCrossing _) 1 (tgt := 14) (C := c < 0) (C' := ¬ c < 0) (st' := []) rfl rfl rfl (fun c1 => ?_) (fun c1 => ?_)
  · refine AW.blk (amX1_isCrossing _) 7 1 (h' := []) (pc' := 15) (lv' := [(0, .int c)]) (st' := [.int 0]) (L := []) rfl trivial ?_
    exact AW.iretE (amX1_isCrossing _) 8 hE rfl rfl (by first | rfl | exact narrow_b _ (by decide)) rfl rfl (by simp only [sCr, if_pos c1]) rfl
  · refine AW.blk (amX1_isCrossing _) 2 2 (h' := []) (pc' := 7) (lv' := [(0, .int c)]) (st' := [.int 9, .int c]) (L := []) rfl trivial ?_
    refine AW.br (amX1_isCrossing _) 4 (tgt := 14) (C := 9 ≤ c) (C' := ¬ 9 ≤ c) (st' := []) rfl rfl rfl (fun c2 => ?_) (fun c2 => ?_)
    · refine AW.blk (amX1_isCrossing _) 7 1 (h' := []) (pc' := 15) (lv' := [(0, .int c)]) (st' := [.int 0]) (L := []) rfl trivial ?_
      exact AW.iretE (amX1_isCrossing _) 8 hE rfl rfl (by first | rfl | exact narrow_b _ (by decide)) rfl rfl (by simp only [sCr, if_neg c1, if_pos c2]) rfl
    · refine AW.blk (amX1_isCrossing _) 5 2 (h' := []) (pc' := 15) (lv' := [(0, .int c)]) (st' := [.int 1]) (L := []) rfl trivial ?_
      exact AW.iretE (amX1_isCrossing _) 8 hE rfl rfl (by first | rfl | exact narrow_b _ (by decide)) rfl rfl (by simp only [sCr, if_neg c1, if_neg c2]) rfl
/-- holdsPitch -/
def sHP (s n : Int32) (place hol : Nat → Int32) : Int32 := if sSw s n = 0 then 0 else if sCr (place s.toNatClampNeg) = 0 then 0 else if hol (place s.toNatClampNeg).toNatClampNeg = s then 1 else 0
set_option maxHeartbeats 1000000 in
theorem kX0_holdsPitch (mud car wal hol paid rain place str bro pen swe dri : Nat → Int32) (n q : Int32) (s : Int32) : AMet yX0_holdsPitch cX0_holdsPitch 2 (some .boolean) { frames := 1, cells := 0, slots := 0, locals := 21 } [.ref 0, .int s] (hC mud car wal hol paid rain place str bro pen swe dri n q) (some (.int (sHP s n place hol))) (hC mud car wal hol paid rain place str bro pen swe dri n q) := by
  refine AMet.of (by decide) rfl ?_
  intro G hR hE hI
  refine AW.blk (amX0_holdsPitch _) 0 2 (h' := hC mud car wal hol paid rain place str bro pen swe dri n q) (pc' := 2) (lv' := [(0, .ref 0), (1, .int s)]) (st' := [.int s, .ref 0]) (L := []) rfl trivial ?_
  refine AW.callV (amX0_holdsPitch _) 2 (kX0_isSweeper mud car wal hol paid rain place str bro pen swe dri n q s) rfl rfl [0, 1, 2, 3, 4, 5, 6, 7, 8, 9, 10, 11, 12] [] ykX0_isSweeper yiX0_isSweeper yvX0_isSweeper mlX0_61 rfl rfl rfl rfl hR ⟨Nat.le_of_ble_eq_true rfl, Nat.le_of_ble_eq_true rfl, Nat.le_of_ble_eq_true rfl, Nat.le_of_ble_eq_true rfl⟩ rfl rfl rfl rfl rfl (fun _ => rfl) (h1 := hC mud car wal hol paid rain place str bro pen swe dri n q) rfl (st' := [.int (sSw s n)]) rfl ?_
  refine AW.br (amX0_holdsPitch _) 3 (tgt := 39) (C := (sSw s n) = 0) (C' := ¬ (sSw s n) = 0) (st' := []) rfl rfl rfl (fun c1 => ?_) (fun c1 => ?_)
  · refine AW.blk (amX0_holdsPitch _) 21 1 (h' := hC mud car wal hol paid rain place str bro pen swe dri n q) (pc' := 40) (lv' := [(0, .ref 0), (1, .int s)]) (st' := [.int 0]) (L := []) rfl trivial ?_
    exact AW.iretE (amX0_holdsPitch _) 22 hE rfl rfl (by first | rfl | exact narrow_b _ (by decide)) rfl rfl (by simp only [sHP, if_pos c1]) rfl
  · refine AW.blk (amX0_holdsPitch _) 4 4 (h' := hC mud car wal hol paid rain place str bro pen swe dri n q) (pc' := 14) (lv' := [(0, .ref 0), (1, .int s)]) (st' := [.int (place s.toNatClampNeg)]) (L := [vp_in s 8]) rfl (sSw_in c1) ?_
    refine AW.callS (amX0_holdsPitch _) 8 (kX1_isCrossing (place s.toNatClampNeg)) [] [] ykX1_isCrossing ysX1_isCrossing mlX0_65 rfl rfl rfl rfl hR ⟨Nat.le_of_ble_eq_true rfl, Nat.le_of_ble_eq_true rfl, Nat.le_of_ble_eq_true rfl, Nat.le_of_ble_eq_true rfl⟩ rfl rfl rfl rfl rfl (fun _ => rfl) (h1 := hC mud car wal hol paid rain place str bro pen swe dri n q) rfl (st' := [.int (sCr (place s.toNatClampNeg))]) rfl ?_
    refine AW.br (amX0_holdsPitch _) 9 (tgt := 39) (C := (sCr (place s.toNatClampNeg)) = 0) (C' := ¬ (sCr (place s.toNatClampNeg)) = 0) (st' := []) rfl rfl rfl (fun c2 => ?_) (fun c2 => ?_)
    · refine AW.blk (amX0_holdsPitch _) 21 1 (h' := hC mud car wal hol paid rain place str bro pen swe dri n q) (pc' := 40) (lv' := [(0, .ref 0), (1, .int s)]) (st' := [.int 0]) (L := []) rfl trivial ?_
      exact AW.iretE (amX0_holdsPitch _) 22 hE rfl rfl (by first | rfl | exact narrow_b _ (by decide)) rfl rfl (by simp only [sHP, if_neg c1, if_pos c2]) rfl
    · refine AW.blk (amX0_holdsPitch _) 10 8 (h' := hC mud car wal hol paid rain place str bro pen swe dri n q) (pc' := 32) (lv' := [(0, .ref 0), (1, .int s)]) (st' := [.int s, .int (hol (place s.toNatClampNeg).toNatClampNeg)]) (L := [vp_in s 8, vp_in (place s.toNatClampNeg) 9]) rfl ⟨(sSw_in c1), (sCr_in c2)⟩ ?_
      refine AW.br (amX0_holdsPitch _) 18 (tgt := 39) (C := ¬ (hol (place s.toNatClampNeg).toNatClampNeg) = s) (C' := (hol (place s.toNatClampNeg).toNatClampNeg) = s) (st' := []) rfl rfl rfl (fun c3 => ?_) (fun c3 => ?_)
      · refine AW.blk (amX0_holdsPitch _) 21 1 (h' := hC mud car wal hol paid rain place str bro pen swe dri n q) (pc' := 40) (lv' := [(0, .ref 0), (1, .int s)]) (st' := [.int 0]) (L := []) rfl trivial ?_
        exact AW.iretE (amX0_holdsPitch _) 22 hE rfl rfl (by first | rfl | exact narrow_b _ (by decide)) rfl rfl (by simp only [sHP, if_neg c1, if_neg c2, if_neg c3]) rfl
      · refine AW.blk (amX0_holdsPitch _) 19 2 (h' := hC mud car wal hol paid rain place str bro pen swe dri n q) (pc' := 40) (lv' := [(0, .ref 0), (1, .int s)]) (st' := [.int 1]) (L := []) rfl trivial ?_
        exact AW.iretE (amX0_holdsPitch _) 22 hE rfl rfl (by first | rfl | exact narrow_b _ (by decide)) rfl rfl (by simp only [sHP, if_neg c1, if_neg c2, if_pos c3]) rfl
/-- reach -/
def sRe (s n : Int32) (str bro : Nat → Int32) : Int32 := if sSw s n = 0 then 0 else str s.toNatClampNeg + bro s.toNatClampNeg / 8
set_option maxHeartbeats 1000000 in
theorem kX0_reach (mud car wal hol paid rain place str bro pen swe dri : Nat → Int32) (n q : Int32) (s : Int32) : AMet yX0_reach cX0_reach 2 (some .int) { frames := 1, cells := 0, slots := 0, locals := 21 } [.ref 0, .int s] (hC mud car wal hol paid rain place str bro pen swe dri n q) (some (.int (sRe s n str bro))) (hC mud car wal hol paid rain place str bro pen swe dri n q) := by
  refine AMet.of (by decide) rfl ?_
  intro G hR hE hI
  refine AW.blk (amX0_reach _) 0 2 (h' := hC mud car wal hol paid rain place str bro pen swe dri n q) (pc' := 2) (lv' := [(0, .ref 0), (1, .int s)]) (st' := [.int s, .ref 0]) (L := []) rfl trivial ?_
  refine AW.callV (amX0_reach _) 2 (kX0_isSweeper mud car wal hol paid rain place str bro pen swe dri n q s) rfl rfl [0, 1, 2, 3, 4, 5, 6, 7, 8, 9, 10, 11, 12] [] ykX0_isSweeper yiX0_isSweeper yvX0_isSweeper mlX0_61 rfl rfl rfl rfl hR ⟨Nat.le_of_ble_eq_true rfl, Nat.le_of_ble_eq_true rfl, Nat.le_of_ble_eq_true rfl, Nat.le_of_ble_eq_true rfl⟩ rfl rfl rfl rfl rfl (fun _ => rfl) (h1 := hC mud car wal hol paid rain place str bro pen swe dri n q) rfl (st' := [.int (sSw s n)]) rfl ?_
  refine AW.br (amX0_reach _) 3 (tgt := 27) (C := (sSw s n) = 0) (C' := ¬ (sSw s n) = 0) (st' := []) rfl rfl rfl (fun c1 => ?_) (fun c1 => ?_)
  · refine AW.blk (amX0_reach _) 16 1 (h' := hC mud car wal hol paid rain place str bro pen swe dri n q) (pc' := 28) (lv' := [(0, .ref 0), (1, .int s)]) (st' := [.int 0]) (L := []) rfl trivial ?_
    exact AW.iretE (amX0_reach _) 17 hE rfl rfl (by first | rfl | exact narrow_b _ (by decide)) rfl rfl (by simp only [sRe, if_pos c1]) rfl
  · refine AW.blk (amX0_reach _) 4 12 (h' := hC mud car wal hol paid rain place str bro pen swe dri n q) (pc' := 28) (lv' := [(0, .ref 0), (1, .int s)]) (st' := [.int ((str s.toNatClampNeg) + ((bro s.toNatClampNeg) / 8))]) (L := [vp_in s 8, vp_in s 8, ¬ 8 = 0]) rfl ⟨(sSw_in c1), (sSw_in c1), (show ¬ (8 : Int32) = 0 by decide)⟩ ?_
    exact AW.iretE (amX0_reach _) 17 hE rfl rfl (by first | rfl | exact narrow_b _ (by decide)) rfl rfl (by simp only [sRe, if_neg c1]) rfl
/-- addMud -/
def sAM (c m : Int32) (mud : Nat → Int32) : Nat → Int32 := if sCr c = 0 then mud else upd mud c.toNatClampNeg (imin 50 (mud c.toNatClampNeg + m))
set_option maxHeartbeats 1000000 in
theorem kX0_addMud (mud car wal hol paid rain place str bro pen swe dri : Nat → Int32) (n q : Int32) (c m : Int32) : AMet yX0_addMud cX0_addMud 3 none { frames := 1, cells := 0, slots := 0, locals := 40 } [.ref 0, .int c, .int m] (hC mud car wal hol paid rain place str bro pen swe dri n q) none (hC (sAM c m mud) car wal hol paid rain place str bro pen swe dri n q) := by
  refine AMet.of (by decide) rfl ?_
  intro G hR hE hI
  refine AW.blk (amX0_addMud _) 0 1 (h' := hC mud car wal hol paid rain place str bro pen swe dri n q) (pc' := 1) (lv' := [(0, .ref 0), (1, .int c), (2, .int m)]) (st' := [.int c]) (L := []) rfl trivial ?_
  refine AW.callS (amX0_addMud _) 1 (kX1_isCrossing c) [] [] ykX1_isCrossing ysX1_isCrossing mlX0_65 rfl rfl rfl rfl hR ⟨Nat.le_of_ble_eq_true rfl, Nat.le_of_ble_eq_true rfl, Nat.le_of_ble_eq_true rfl, Nat.le_of_ble_eq_true rfl⟩ rfl rfl rfl rfl rfl (fun _ => rfl) (h1 := hC mud car wal hol paid rain place str bro pen swe dri n q) rfl (st' := [.int (sCr c)]) rfl ?_
  refine AW.br (amX0_addMud _) 2 (tgt := 26) (C := (sCr c) = 0) (C' := ¬ (sCr c) = 0) (st' := []) rfl rfl rfl (fun c1 => ?_) (fun c1 => ?_)
  · exact AW.vretE (amX0_addMud _) 15 hE rfl rfl rfl rfl (by simp only [sAM, if_pos c1])
  · refine AW.blk (amX0_addMud _) 3 10 (h' := hC mud car wal hol paid rain place str bro pen swe dri n q) (pc' := 22) (lv' := [(0, .ref 0), (1, .int c), (2, .int m)]) (st' := [.int ((mud c.toNatClampNeg) + m), .int 50, .int c, .ref 1]) (L := [vp_in c 9]) rfl (sCr_in c1) ?_
    refine AW.mmin (amX0_addMud _) 13 rfl kmmX0_68 hR rfl ⟨Nat.le_of_ble_eq_true rfl, Nat.le_of_ble_eq_true rfl, Nat.le_of_ble_eq_true rfl, Nat.le_of_ble_eq_true rfl⟩ ?_
    refine AW.blk (amX0_addMud _) 14 1 (h' := hC (upd mud c.toNatClampNeg (imin 50 ((mud c.toNatClampNeg) + m))) car wal hol paid rain place str bro pen swe dri n q) (pc' := 26) (lv' := [(0, .ref 0), (1, .int c), (2, .int m)]) (st' := []) (L := [vp_in c 9]) rfl (sCr_in c1) ?_
    exact AW.vretE (amX0_addMud _) 15 hE rfl rfl rfl rfl (by simp only [sAM, if_neg c1])
/-- wage -/
def sWa (c : Int32) (mud wal : Nat → Int32) : Int32 := if sCr c = 0 then 0 else if mud c.toNatClampNeg ≤ 15 then if 5 < mud c.toNatClampNeg then wal c.toNatClampNeg / 5 else wal c.toNatClampNeg / 2 else 0
set_option maxHeartbeats 1000000 in
theorem kX0_wage (mud car wal hol paid rain place str bro pen swe dri : Nat → Int32) (n q : Int32) (c : Int32) : AMet yX0_wage cX0_wage 2 (some .int) { frames := 1, cells := 0, slots := 0, locals := 20 } [.ref 0, .int c] (hC mud car wal hol paid rain place str bro pen swe dri n q) (some (.int (sWa c mud wal))) (hC mud car wal hol paid rain place str bro pen swe dri n q) := by
  refine AMet.of (by decide) rfl ?_
  intro G hR hE hI
  refine AW.blk (amX0_wage _) 0 1 (h' := hC mud car wal hol paid rain place str bro pen swe dri n q) (pc' := 1) (lv' := [(0, .ref 0), (1, .int c)]) (st' := [.int c]) (L := []) rfl trivial ?_
  refine AW.callS (amX0_wage _) 1 (kX1_isCrossing c) [] [] ykX1_isCrossing ysX1_isCrossing mlX0_65 rfl rfl rfl rfl hR ⟨Nat.le_of_ble_eq_true rfl, Nat.le_of_ble_eq_true rfl, Nat.le_of_ble_eq_true rfl, Nat.le_of_ble_eq_true rfl⟩ rfl rfl rfl rfl rfl (fun _ => rfl) (h1 := hC mud car wal hol paid rain place str bro pen swe dri n q) rfl (st' := [.int (sCr c)]) rfl ?_
  refine AW.br (amX0_wage _) 2 (tgt := 18) (C := (sCr c) = 0) (C' := ¬ (sCr c) = 0) (st' := []) rfl rfl rfl (fun c1 => ?_) (fun c1 => ?_)
  · refine AW.blk (amX0_wage _) 9 1 (h' := hC mud car wal hol paid rain place str bro pen swe dri n q) (pc' := 19) (lv' := [(0, .ref 0), (1, .int c)]) (st' := [.int 0]) (L := []) rfl trivial ?_
    exact AW.iretE (amX0_wage _) 10 hE rfl rfl (by first | rfl | exact narrow_b _ (by decide)) rfl rfl (by simp only [sWa, if_pos c1]) rfl
  · refine AW.blk (amX0_wage _) 3 5 (h' := hC mud car wal hol paid rain place str bro pen swe dri n q) (pc' := 15) (lv' := [(0, .ref 0), (1, .int c)]) (st' := [.int 15, .int (mud c.toNatClampNeg)]) (L := [vp_in c 9]) rfl (sCr_in c1) ?_
    refine AW.br (amX0_wage _) 8 (tgt := 20) (C := (mud c.toNatClampNeg) ≤ 15) (C' := ¬ (mud c.toNatClampNeg) ≤ 15) (st' := []) rfl rfl rfl (fun c2 => ?_) (fun c2 => ?_)
    · refine AW.blk (amX0_wage _) 11 5 (h' := hC mud car wal hol paid rain place str bro pen swe dri n q) (pc' := 27) (lv' := [(0, .ref 0), (1, .int c)]) (st' := [.int 5, .int (mud c.toNatClampNeg)]) (L := [vp_in c 9]) rfl (sCr_in c1) ?_
      refine AW.br (amX0_wage _) 16 (tgt := 41) (C := 5 < (mud c.toNatClampNeg)) (C' := ¬ 5 < (mud c.toNatClampNeg)) (st' := []) rfl rfl rfl (fun c3 => ?_) (fun c3 => ?_)
      · refine AW.blk (amX0_wage _) 24 6 (h' := hC mud car wal hol paid rain place str bro pen swe dri n q) (pc' := 49) (lv' := [(0, .ref 0), (1, .int c)]) (st' := [.int ((wal c.toNatClampNeg) / 5)]) (L := [vp_in c 9, ¬ 5 = 0]) rfl ⟨(sCr_in c1), (show ¬ (5 : Int32) = 0 by decide)⟩ ?_
        exact AW.iretE (amX0_wage _) 30 hE rfl rfl (by first | rfl | exact narrow_b _ (by decide)) rfl rfl (by simp only [sWa, if_neg c1, if_pos c2, if_pos c3]) rfl
      · refine AW.blk (amX0_wage _) 17 7 (h' := hC mud car wal hol paid rain place str bro pen swe dri n q) (pc' := 49) (lv' := [(0, .ref 0), (1, .int c)]) (st' := [.int ((wal c.toNatClampNeg) / 2)]) (L := [vp_in c 9, ¬ 2 = 0]) rfl ⟨(sCr_in c1), (show ¬ (2 : Int32) = 0 by decide)⟩ ?_
        exact AW.iretE (amX0_wage _) 30 hE rfl rfl (by first | rfl | exact narrow_b _ (by decide)) rfl rfl (by simp only [sWa, if_neg c1, if_pos c2, if_neg c3]) rfl
    · refine AW.blk (amX0_wage _) 9 1 (h' := hC mud car wal hol paid rain place str bro pen swe dri n q) (pc' := 19) (lv' := [(0, .ref 0), (1, .int c)]) (st' := [.int 0]) (L := []) rfl trivial ?_
      exact AW.iretE (amX0_wage _) 10 hE rfl rfl (by first | rfl | exact narrow_b _ (by decide)) rfl rfl (by simp only [sWa, if_neg c1, if_neg c2]) rfl
/-- a new sweeper -/
def sAd (n : Int32) : Int32 := if n < 0 then -1 else if n < 8 then n else -1
set_option maxHeartbeats 1000000 in
theorem kX0_admit (mud car wal hol paid rain place str bro pen swe dri : Nat → Int32) (n q : Int32) (c s : Int32) (h1 : ¬ n < 0) (h2 : n < 8) : AMet yX0_admit cX0_admit 4 (some .int) { frames := 0, cells := 0, slots := 0, locals := 0 } [.ref 0, .int c, .int s] (hC mud car wal hol paid rain place str bro pen swe dri n q) (some (.int n)) (hC mud car wal hol paid rain (upd place n.toNatClampNeg c) (upd str n.toNatClampNeg s) (upd bro n.toNatClampNeg 40) pen swe dri (n + 1) q) := by
  refine AMet.of (by decide) rfl ?_
  intro G hR hE hI
  refine AW.blk (amX0_admit _) 0 4 (h' := hC mud car wal hol paid rain place str bro pen swe dri n q) (pc' := 6) (lv' := [(3, .int n), (0, .ref 0), (1, .int c), (2, .int s)]) (st' := [.int n]) (L := []) rfl trivial ?_
  refine AW.br (amX0_admit _) 4 (tgt := 15) (C := n < 0) (C' := ¬ n < 0) (st' := []) rfl rfl rfl (fun c1 => absurd c1 h1) (fun c1 => ?_)
  refine AW.blk (amX0_admit _) 5 2 (h' := hC mud car wal hol paid rain place str bro pen swe dri n q) (pc' := 12) (lv' := [(3, .int n), (0, .ref 0), (1, .int c), (2, .int s)]) (st' := [.int 8, .int n]) (L := []) rfl trivial ?_
  refine AW.br (amX0_admit _) 7 (tgt := 17) (C := n < 8) (C' := ¬ n < 8) (st' := []) rfl rfl rfl (fun c2 => ?_) (fun c2 => absurd h2 c2)
  refine AW.blk (amX0_admit _) 10 21 (h' := hC mud car wal hol paid rain (upd place n.toNatClampNeg c) (upd str n.toNatClampNeg s) (upd bro n.toNatClampNeg 40) pen swe dri (n + 1) q) (pc' := 47) (lv' := [(3, .int n), (0, .ref 0), (1, .int c), (2, .int s)]) (st' := [.int n]) (L := [vp_in n 8, vp_in n 8, vp_in n 8]) rfl ⟨(vp_in_of_lt (M := 8) (by decide) h1 (by intro z; exact absurd h2 (Int32.not_lt.mpr z))), (vp_in_of_lt (M := 8) (by decide) h1 (by intro z; exact absurd h2 (Int32.not_lt.mpr z))), (vp_in_of_lt (M := 8) (by decide) h1 (by intro z; exact absurd h2 (Int32.not_lt.mpr z)))⟩ ?_
  exact AW.iretE (amX0_admit _) 31 hE rfl rfl (by first | rfl | exact narrow_b _ (by decide)) rfl rfl (rfl) rfl
/-- moveTo -/
def sMoP (s c n : Int32) (place : Nat → Int32) : Nat → Int32 := if sSw s n = 0 then place else upd place s.toNatClampNeg c
def sMoH (s n : Int32) (place hol : Nat → Int32) : Nat → Int32 := if sSw s n = 0 then hol else if sCr (place s.toNatClampNeg) = 0 then hol else if hol (place s.toNatClampNeg).toNatClampNeg = s then upd hol (place s.toNatClampNeg).toNatClampNeg (-1) else hol
set_option maxHeartbeats 1000000 in
theorem kX0_moveTo (mud car wal hol paid rain place str bro pen swe dri : Nat → Int32) (n q : Int32) (s c : Int32) : AMet yX0_moveTo cX0_moveTo 4 none { frames := 1, cells := 0, slots := 0, locals := 21 } [.ref 0, .int s, .int c] (hC mud car wal hol paid rain place str bro pen swe dri n q) none (hC mud car wal (sMoH s n place hol) paid rain (sMoP s c n place) str bro pen swe dri n q) := by
  refine AMet.of (by decide) rfl ?_
  intro G hR hE hI
  refine AW.blk (amX0_moveTo _) 0 2 (h' := hC mud car wal hol paid rain place str bro pen swe dri n q) (pc' := 2) (lv' := [(0, .ref 0), (1, .int s), (2, .int c)]) (st' := [.int s, .ref 0]) (L := []) rfl trivial ?_
  refine AW.callV (amX0_moveTo _) 2 (kX0_isSweeper mud car wal hol paid rain place str bro pen swe dri n q s) rfl rfl [0, 1, 2, 3, 4, 5, 6, 7, 8, 9, 10, 11, 12] [] ykX0_isSweeper yiX0_isSweeper yvX0_isSweeper mlX0_61 rfl rfl rfl rfl hR ⟨Nat.le_of_ble_eq_true rfl, Nat.le_of_ble_eq_true rfl, Nat.le_of_ble_eq_true rfl, Nat.le_of_ble_eq_true rfl⟩ rfl rfl rfl rfl rfl (fun _ => rfl) (h1 := hC mud car wal hol paid rain place str bro pen swe dri n q) rfl (st' := [.int (sSw s n)]) rfl ?_
  refine AW.br (amX0_moveTo _) 3 (tgt := 9) (C := ¬ (sSw s n) = 0) (C' := (sSw s n) = 0) (st' := []) rfl rfl rfl (fun c1 => ?_) (fun c1 => ?_)
  · refine AW.blk (amX0_moveTo _) 5 6 (h' := hC mud car wal hol paid rain place str bro pen swe dri n q) (pc' := 17) (lv' := [(3, .int (place s.toNatClampNeg)), (0, .ref 0), (1, .int s), (2, .int c)]) (st' := [.int (place s.toNatClampNeg)]) (L := [vp_in s 8]) rfl (sSw_in c1) ?_
    refine AW.callS (amX0_moveTo _) 11 (kX1_isCrossing (place s.toNatClampNeg)) [] [] ykX1_isCrossing ysX1_isCrossing mlX0_65 rfl rfl rfl rfl hR ⟨Nat.le_of_ble_eq_true rfl, Nat.le_of_ble_eq_true rfl, Nat.le_of_ble_eq_true rfl, Nat.le_of_ble_eq_true rfl⟩ rfl rfl rfl rfl rfl (fun _ => rfl) (h1 := hC mud car wal hol paid rain place str bro pen swe dri n q) rfl (st' := [.int (sCr (place s.toNatClampNeg))]) rfl ?_
    refine AW.br (amX0_moveTo _) 12 (tgt := 40) (C := (sCr (place s.toNatClampNeg)) = 0) (C' := ¬ (sCr (place s.toNatClampNeg)) = 0) (st' := []) rfl rfl rfl (fun c2 => ?_) (fun c2 => ?_)
    · refine AW.blk (amX0_moveTo _) 24 5 (h' := hC mud car wal hol paid rain (upd place s.toNatClampNeg c) str bro pen swe dri n q) (pc' := 47) (lv' := [(3, .int (place s.toNatClampNeg)), (0, .ref 0), (1, .int s), (2, .int c)]) (st' := []) (L := [vp_in s 8]) rfl (sSw_in c1) ?_
      exact AW.vretE (amX0_moveTo _) 29 hE rfl rfl rfl rfl (by simp only [sMoP, sMoH, if_neg c1, if_pos c2])
    · refine AW.blk (amX0_moveTo _) 13 5 (h' := hC mud car wal hol paid rain place str bro pen swe dri n q) (pc' := 30) (lv' := [(3, .int (place s.toNatClampNeg)), (0, .ref 0), (1, .int s), (2, .int c)]) (st' := [.int s, .int (hol (place s.toNatClampNeg).toNatClampNeg)]) (L := [vp_in (place s.toNatClampNeg) 9]) rfl (sCr_in c2) ?_
      refine AW.br (amX0_moveTo _) 18 (tgt := 40) (C := ¬ (hol (place s.toNatClampNeg).toNatClampNeg) = s) (C' := (hol (place s.toNatClampNeg).toNatClampNeg) = s) (st' := []) rfl rfl rfl (fun c3 => ?_) (fun c3 => ?_)
      · refine AW.blk (amX0_moveTo _) 24 5 (h' := hC mud car wal hol paid rain (upd place s.toNatClampNeg c) str bro pen swe dri n q) (pc' := 47) (lv' := [(3, .int (place s.toNatClampNeg)), (0, .ref 0), (1, .int s), (2, .int c)]) (st' := []) (L := [vp_in s 8]) rfl (sSw_in c1) ?_
        exact AW.vretE (amX0_moveTo _) 29 hE rfl rfl rfl rfl (by simp only [sMoP, sMoH, if_neg c1, if_neg c2, if_neg c3])
      · refine AW.blk (amX0_moveTo _) 19 10 (h' := hC mud car wal (upd hol (place s.toNatClampNeg).toNatClampNeg (-1)) paid rain (upd place s.toNatClampNeg c) str bro pen swe dri n q) (pc' := 47) (lv' := [(3, .int (place s.toNatClampNeg)), (0, .ref 0), (1, .int s), (2, .int c)]) (st' := []) (L := [vp_in (place s.toNatClampNeg) 9, vp_in s 8]) rfl ⟨(sCr_in c2), (sSw_in c1)⟩ ?_
        exact AW.vretE (amX0_moveTo _) 29 hE rfl rfl rfl rfl (by simp only [sMoP, sMoH, if_neg c1, if_neg c2, if_pos c3])
  · exact AW.vretE (amX0_moveTo _) 4 hE rfl rfl rfl rfl (by simp only [sMoP, sMoH, if_pos c1])
