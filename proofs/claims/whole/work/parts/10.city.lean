/-- isSweeper -/
def sSw (s n : Int32) : Int32 := if s < 0 then 0 else if 8 ≤ s then 0 else if n ≤ s then 0 else 1
set_option maxHeartbeats 1000000 in
theorem kX0_isSweeper (mud car wal hol paid rain place str bro pen swe dri : Nat → Int32) (n q : Int32) (s : Int32) : AMet yX0_isSweeper cX0_isSweeper 2 (some .boolean) { frames := 0, cells := 0, slots := 0, locals := 0 } [.ref 0, .int s] (hC mud car wal hol paid rain place str bro pen swe dri n q) (some (.int (sSw s n))) (hC mud car wal hol paid rain place str bro pen swe dri n q) := by
  refine AMet.of (by decide) rfl ?_
  intro G hR hE hI
  refine AW.blk (amX0_isSweeper _) 0 1 (h' := hC mud car wal hol paid rain place str bro pen swe dri n q) (pc' := 1) (lv' := [(0, .ref 0), (1, .int s)]) (st' := [.int s]) (L := []) rfl trivial ?_
  refine AW.br (amX0_isSweeper _) 1 (tgt := 22) (C := s < 0) (C' := ¬ s < 0) (st' := []) rfl rfl rfl (fun c1 => ?_) (fun c1 => ?_)
  · refine AW.blk (amX0_isSweeper _) 11 1 (h' := hC mud car wal hol paid rain place str bro pen swe dri n q) (pc' := 23) (lv' := [(0, .ref 0), (1, .int s)]) (st' := [.int 0]) (L := []) rfl trivial ?_
    exact AW.iretE (amX0_isSweeper _) 12 hE rfl rfl (by first | rfl | exact narrow_b _ (by decide)) rfl rfl (by simp only [sSw, if_pos c1]) rfl
  · refine AW.blk (amX0_isSweeper _) 2 2 (h' := hC mud car wal hol paid rain place str bro pen swe dri n q) (pc' := 7) (lv' := [(0, .ref 0), (1, .int s)]) (st' := [.int 8, .int s]) (L := []) rfl trivial ?_
    refine AW.br (amX0_isSweeper _) 4 (tgt := 22) (C := 8 ≤ s) (C' := ¬ 8 ≤ s) (st' := []) rfl rfl rfl (fun c2 => ?_) (fun c2 => ?_)
    · refine AW.blk (amX0_isSweeper _) 11 1 (h' := hC mud car wal hol paid rain place str bro pen swe dri n q) (pc' := 23) (lv' := [(0, .ref 0), (1, .int s)]) (st' := [.int 0]) (L := []) rfl trivial ?_
      exact AW.iretE (amX0_isSweeper _) 12 hE rfl rfl (by first | rfl | exact narrow_b _ (by decide)) rfl rfl (by simp only [sSw, if_neg c1, if_pos c2]) rfl
    · refine AW.blk (amX0_isSweeper _) 5 3 (h' := hC mud car wal hol paid rain place str bro pen swe dri n q) (pc' := 15) (lv' := [(0, .ref 0), (1, .int s)]) (st' := [.int n, .int s]) (L := []) rfl trivial ?_
      refine AW.br (amX0_isSweeper _) 8 (tgt := 22) (C := n ≤ s) (C' := ¬ n ≤ s) (st' := []) rfl rfl rfl (fun c3 => ?_) (fun c3 => ?_)
      · refine AW.blk (amX0_isSweeper _) 11 1 (h' := hC mud car wal hol paid rain place str bro pen swe dri n q) (pc' := 23) (lv' := [(0, .ref 0), (1, .int s)]) (st' := [.int 0]) (L := []) rfl trivial ?_
        exact AW.iretE (amX0_isSweeper _) 12 hE rfl rfl (by first | rfl | exact narrow_b _ (by decide)) rfl rfl (by simp only [sSw, if_neg c1, if_neg c2, if_pos c3]) rfl
      · refine AW.blk (amX0_isSweeper _) 9 2 (h' := hC mud car wal hol paid rain place str bro pen swe dri n q) (pc' := 23) (lv' := [(0, .ref 0), (1, .int s)]) (st' := [.int 1]) (L := []) rfl trivial ?_
        exact AW.iretE (amX0_isSweeper _) 12 hE rfl rfl (by first | rfl | exact narrow_b _ (by decide)) rfl rfl (by simp only [sSw, if_neg c1, if_neg c2, if_neg c3]) rfl
/-- isCrossing -/
def sCr (c : Int32) : Int32 := if c < 0 then 0 else if 9 ≤ c then 0 else 1
set_option maxHeartbeats 1000000 in
theorem kX1_isCrossing (c : Int32) : AMet yX1_isCrossing cX1_isCrossing 1 (some .boolean) { frames := 0, cells := 0, slots := 0, locals := 0 } [.int c] ([]) (some (.int (sCr c))) ([]) := by
  refine AMet.of (by decide) rfl ?_
  intro G hR hE hI
  refine AW.blk (amX1_isCrossing _) 0 1 (h' := []) (pc' := 1) (lv' := [(0, .int c)]) (st' := [.int c]) (L := []) rfl trivial ?_
  refine AW.br (amX1_isCrossing _) 1 (tgt := 14) (C := c < 0) (C' := ¬ c < 0) (st' := []) rfl rfl rfl (fun c1 => ?_) (fun c1 => ?_)
  · refine AW.blk (amX1_isCrossing _) 7 1 (h' := []) (pc' := 15) (lv' := [(0, .int c)]) (st' := [.int 0]) (L := []) rfl trivial ?_
    exact AW.iretE (amX1_isCrossing _) 8 hE rfl rfl (by first | rfl | exact narrow_b _ (by decide)) rfl rfl (by simp only [sCr, if_pos c1]) rfl
  · refine AW.blk (amX1_isCrossing _) 2 2 (h' := []) (pc' := 7) (lv' := [(0, .int c)]) (st' := [.int 9, .int c]) (L := []) rfl trivial ?_
    refine AW.br (amX1_isCrossing _) 4 (tgt := 14) (C := 9 ≤ c) (C' := ¬ 9 ≤ c) (st' := []) rfl rfl rfl (fun c2 => ?_) (fun c2 => ?_)
    · refine AW.blk (amX1_isCrossing _) 7 1 (h' := []) (pc' := 15) (lv' := [(0, .int c)]) (st' := [.int 0]) (L := []) rfl trivial ?_
      exact AW.iretE (amX1_isCrossing _) 8 hE rfl rfl (by first | rfl | exact narrow_b _ (by decide)) rfl rfl (by simp only [sCr, if_neg c1, if_pos c2]) rfl
    · refine AW.blk (amX1_isCrossing _) 5 2 (h' := []) (pc' := 15) (lv' := [(0, .int c)]) (st' := [.int 1]) (L := []) rfl trivial ?_
      exact AW.iretE (amX1_isCrossing _) 8 hE rfl rfl (by first | rfl | exact narrow_b _ (by decide)) rfl rfl (by simp only [sCr, if_neg c1, if_neg c2]) rfl
