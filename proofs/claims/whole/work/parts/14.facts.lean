/-- sums -/
def sSu1 (f : Nat → Int32) (i : Nat) (a : Int32) : Int32 := a + f (nI i).toNatClampNeg
def sSum (f : Nat → Int32) (N : Nat) : Int32 := lpN (sSu1 f) N 0 0
def sHe1 (n : Int32) (hol : Nat → Int32) (i : Nat) (a : Int32) : Int32 := if sSw (hol (nI i).toNatClampNeg) n = 0 then a else a + 1
def sHeld (n : Int32) (hol : Nat → Int32) : Int32 := lpN (sHe1 n hol) 9 0 0
def sAt1 (c : Int32) (place : Nat → Int32) (i : Nat) (a : Int32) : Int32 := if place (nI i).toNatClampNeg = c then a + 1 else a
def sAt (c n : Int32) (place : Nat → Int32) : Int32 := lpS n (sAt1 c place) 8 0 0
def sCl1 (mud : Nat → Int32) (i : Nat) (a : Int32) : Int32 := if 5 < mud (nI i).toNatClampNeg then a else a + 1
def sClean (mud : Nat → Int32) : Int32 := lpN (sCl1 mud) 9 0 0
set_option maxHeartbeats 1000000 in
theorem kX0_sum_8 (f : Nat → Int32) : AMet yX0_sum cX0_sum 3 (some .int) { frames := 0, cells := 0, slots := 0, locals := 0 } [.ref 0] ([aI 8 f]) (some (.int (sSum f 8))) ([aI 8 f]) := by
  refine AMet.of (by decide) rfl ?_
  intro G hR hE hI
  have E : ∀ (a : Int32), a = sSum f 8 → AW G (yX0_sum.cls, cX0_sum, 3, 1) ([aI 8 f]) 0 0 26 [(1, .int a), (0, .ref 0)] [] := by
    intro a hf
    refine AW.blk (amX0_sum _) 18 1 (h' := [aI 8 f]) (pc' := 27) (lv' := [(1, .int a), (0, .ref 0)]) (st' := [.int a]) (L := []) rfl trivial ?_
    exact AW.iretE (amX0_sum _) 19 hE rfl rfl (by first | rfl | exact narrow_b _ (by decide)) rfl rfl (by rw [← hf]) (by first | rfl | (rw [← hf]))
  have K : ∀ (k i : Nat) (a : Int32), i + k = 8 → lpN (sSu1 f) k i a = sSum f 8 → AW G (yX0_sum.cls, cX0_sum, 3, 1) ([aI 8 f]) 0 0 8 [(2, .int (nI i)), (1, .int a), (0, .ref 0)] [] := by
    intro k
    induction k with
    | zero =>
      intro i a hi hf
      refine AW.blk (amX0_sum _) 6 3 (h' := [aI 8 f]) (pc' := 11) (lv' := [(2, .int (nI i)), (1, .int a), (0, .ref 0)]) (st' := [.int (Int32.ofNat 8), .int (nI i)]) (L := []) rfl trivial ?_
      refine AW.br (amX0_sum _) 9 (tgt := 26) (C := (Int32.ofNat 8) ≤ (nI i)) (C' := ¬ (Int32.ofNat 8) ≤ (nI i)) (st' := []) rfl rfl rfl (fun c1 => ?_) (fun c1 => absurd (nI_le (a := 8) (b := i) (by omega) (by omega)) c1)
      refine AW.pick [1, 2] (lv' := [(1, .int a), (0, .ref 0)]) rfl ?_
      exact E _ hf
    | succ k ih =>
      intro i a hi hf
      refine AW.blk (amX0_sum _) 6 3 (h' := [aI 8 f]) (pc' := 11) (lv' := [(2, .int (nI i)), (1, .int a), (0, .ref 0)]) (st' := [.int (Int32.ofNat 8), .int (nI i)]) (L := []) rfl trivial ?_
      refine AW.br (amX0_sum _) 9 (tgt := 26) (C := (Int32.ofNat 8) ≤ (nI i)) (C' := ¬ (Int32.ofNat 8) ≤ (nI i)) (st' := []) rfl rfl rfl (fun c1 => absurd c1 (nI_ge (a := i) (b := 8) (by omega) (by decide))) (fun c1 => ?_)
      refine AW.blk (amX0_sum _) 10 8 (h' := [aI 8 f]) (pc' := 8) (lv' := [(2, .int ((nI i) + 1)), (1, .int (a + (f (nI i).toNatClampNeg))), (0, .ref 0)]) (st' := []) (L := [vp_in (nI i) 8]) rfl (vpi (by omega) rfl) ?_
      rw [nI_1 i]
      exact ih (i + 1) _ (by omega) (by rw [← hf]; simp only [lpN, sSu1, if_neg c1])
  refine AW.blk (amX0_sum _) 0 3 (h' := [aI 8 f]) (pc' := 3) (lv' := [(1, .int 0), (0, .ref 0)]) (st' := [.ref 0]) (L := []) rfl trivial ?_
  refine AW.ifnull (amX0_sum _) 3 rfl ?_
  refine AW.blk (amX0_sum _) 4 2 (h' := [aI 8 f]) (pc' := 8) (lv' := [(2, .int 0), (1, .int 0), (0, .ref 0)]) (st' := []) (L := []) rfl trivial ?_
  exact K 8 0 0 rfl rfl
set_option maxHeartbeats 1000000 in
theorem kX0_sum_9 (f : Nat → Int32) : AMet yX0_sum cX0_sum 3 (some .int) { frames := 0, cells := 0, slots := 0, locals := 0 } [.ref 0] ([aI 9 f]) (some (.int (sSum f 9))) ([aI 9 f]) := by
  refine AMet.of (by decide) rfl ?_
  intro G hR hE hI
  have E : ∀ (a : Int32), a = sSum f 9 → AW G (yX0_sum.cls, cX0_sum, 3, 1) ([aI 9 f]) 0 0 26 [(1, .int a), (0, .ref 0)] [] := by
    intro a hf
    refine AW.blk (amX0_sum _) 18 1 (h' := [aI 9 f]) (pc' := 27) (lv' := [(1, .int a), (0, .ref 0)]) (st' := [.int a]) (L := []) rfl trivial ?_
    exact AW.iretE (amX0_sum _) 19 hE rfl rfl (by first | rfl | exact narrow_b _ (by decide)) rfl rfl (by rw [← hf]) (by first | rfl | (rw [← hf]))
  have K : ∀ (k i : Nat) (a : Int32), i + k = 9 → lpN (sSu1 f) k i a = sSum f 9 → AW G (yX0_sum.cls, cX0_sum, 3, 1) ([aI 9 f]) 0 0 8 [(2, .int (nI i)), (1, .int a), (0, .ref 0)] [] := by
    intro k
    induction k with
    | zero =>
      intro i a hi hf
      refine AW.blk (amX0_sum _) 6 3 (h' := [aI 9 f]) (pc' := 11) (lv' := [(2, .int (nI i)), (1, .int a), (0, .ref 0)]) (st' := [.int (Int32.ofNat 9), .int (nI i)]) (L := []) rfl trivial ?_
      refine AW.br (amX0_sum _) 9 (tgt := 26) (C := (Int32.ofNat 9) ≤ (nI i)) (C' := ¬ (Int32.ofNat 9) ≤ (nI i)) (st' := []) rfl rfl rfl (fun c1 => ?_) (fun c1 => absurd (nI_le (a := 9) (b := i) (by omega) (by omega)) c1)
      refine AW.pick [1, 2] (lv' := [(1, .int a), (0, .ref 0)]) rfl ?_
      exact E _ hf
    | succ k ih =>
      intro i a hi hf
      refine AW.blk (amX0_sum _) 6 3 (h' := [aI 9 f]) (pc' := 11) (lv' := [(2, .int (nI i)), (1, .int a), (0, .ref 0)]) (st' := [.int (Int32.ofNat 9), .int (nI i)]) (L := []) rfl trivial ?_
      refine AW.br (amX0_sum _) 9 (tgt := 26) (C := (Int32.ofNat 9) ≤ (nI i)) (C' := ¬ (Int32.ofNat 9) ≤ (nI i)) (st' := []) rfl rfl rfl (fun c1 => absurd c1 (nI_ge (a := i) (b := 9) (by omega) (by decide))) (fun c1 => ?_)
      refine AW.blk (amX0_sum _) 10 8 (h' := [aI 9 f]) (pc' := 8) (lv' := [(2, .int ((nI i) + 1)), (1, .int (a + (f (nI i).toNatClampNeg))), (0, .ref 0)]) (st' := []) (L := [vp_in (nI i) 9]) rfl (vpi (by omega) rfl) ?_
      rw [nI_1 i]
      exact ih (i + 1) _ (by omega) (by rw [← hf]; simp only [lpN, sSu1, if_neg c1])
  refine AW.blk (amX0_sum _) 0 3 (h' := [aI 9 f]) (pc' := 3) (lv' := [(1, .int 0), (0, .ref 0)]) (st' := [.ref 0]) (L := []) rfl trivial ?_
  refine AW.ifnull (amX0_sum _) 3 rfl ?_
  refine AW.blk (amX0_sum _) 4 2 (h' := [aI 9 f]) (pc' := 8) (lv' := [(2, .int 0), (1, .int 0), (0, .ref 0)]) (st' := []) (L := []) rfl trivial ?_
  exact K 9 0 0 rfl rfl
set_option maxHeartbeats 1000000 in
theorem kX0_heldPitches (mud car wal hol paid rain place str bro pen swe dri : Nat → Int32) (n q : Int32) : AMet yX0_heldPitches cX0_heldPitches 3 (some .int) { frames := 1, cells := 0, slots := 0, locals := 21 } [.ref 0] (hC mud car wal hol paid rain place str bro pen swe dri n q) (some (.int (sHeld n hol))) (hC mud car wal hol paid rain place str bro pen swe dri n q) := by
  refine AMet.of (by decide) rfl ?_
  intro G hR hE hI
  have E : ∀ (a : Int32), a = sHeld n hol → AW G (yX0_heldPitches.cls, cX0_heldPitches, 3, 13) (hC mud car wal hol paid rain place str bro pen swe dri n q) 0 0 32 [(1, .int a), (0, .ref 0)] [] := by
    intro a hf
    refine AW.blk (amX0_heldPitches _) 17 1 (h' := hC mud car wal hol paid rain place str bro pen swe dri n q) (pc' := 33) (lv' := [(1, .int a), (0, .ref 0)]) (st' := [.int a]) (L := []) rfl trivial ?_
    exact AW.iretE (amX0_heldPitches _) 18 hE rfl rfl (by first | rfl | exact narrow_b _ (by decide)) rfl rfl (by rw [← hf]) (by first | rfl | (rw [← hf]))
  have K : ∀ (k i : Nat) (a : Int32), i + k = 9 → lpN (sHe1 n hol) k i a = sHeld n hol → AW G (yX0_heldPitches.cls, cX0_heldPitches, 3, 13) (hC mud car wal hol paid rain place str bro pen swe dri n q) 0 0 4 [(2, .int (nI i)), (1, .int a), (0, .ref 0)] [] := by
    intro k
    induction k with
    | zero =>
      intro i a hi hf
      refine AW.blk (amX0_heldPitches _) 4 2 (h' := hC mud car wal hol paid rain place str bro pen swe dri n q) (pc' := 7) (lv' := [(2, .int (nI i)), (1, .int a), (0, .ref 0)]) (st' := [.int 9, .int (nI i)]) (L := []) rfl trivial ?_
      refine AW.br (amX0_heldPitches _) 6 (tgt := 32) (C := 9 ≤ (nI i)) (C' := ¬ 9 ≤ (nI i)) (st' := []) rfl rfl rfl (fun c1 => ?_) (fun c1 => absurd (nI_le (a := 9) (b := i) (by omega) (by omega)) c1)
      refine AW.pick [1, 2] (lv' := [(1, .int a), (0, .ref 0)]) rfl ?_
      exact E _ hf
    | succ k ih =>
      intro i a hi hf
      refine AW.blk (amX0_heldPitches _) 4 2 (h' := hC mud car wal hol paid rain place str bro pen swe dri n q) (pc' := 7) (lv' := [(2, .int (nI i)), (1, .int a), (0, .ref 0)]) (st' := [.int 9, .int (nI i)]) (L := []) rfl trivial ?_
      refine AW.br (amX0_heldPitches _) 6 (tgt := 32) (C := 9 ≤ (nI i)) (C' := ¬ 9 ≤ (nI i)) (st' := []) rfl rfl rfl (fun c1 => absurd c1 (nI_ge (a := i) (b := 9) (by omega) (by decide))) (fun c1 => ?_)
      refine AW.blk (amX0_heldPitches _) 7 5 (h' := hC mud car wal hol paid rain place str bro pen swe dri n q) (pc' := 17) (lv' := [(2, .int (nI i)), (1, .int a), (0, .ref 0)]) (st' := [.int (hol (nI i).toNatClampNeg), .ref 0]) (L := [vp_in (nI i) 9]) rfl (vpi (by omega) rfl) ?_
      refine AW.callV (amX0_heldPitches _) 12 (kX0_isSweeper mud car wal hol paid rain place str bro pen swe dri n q (hol (nI i).toNatClampNeg)) rfl rfl [0, 1, 2, 3, 4, 5, 6, 7, 8, 9, 10, 11, 12] [] ykX0_isSweeper yiX0_isSweeper yvX0_isSweeper mlX0_61 rfl rfl rfl rfl hR ⟨Nat.le_of_ble_eq_true rfl, Nat.le_of_ble_eq_true rfl, Nat.le_of_ble_eq_true rfl, Nat.le_of_ble_eq_true rfl⟩ rfl rfl rfl rfl rfl (fun _ => rfl) (h1 := hC mud car wal hol paid rain place str bro pen swe dri n q) rfl (st' := [.int (sSw (hol (nI i).toNatClampNeg) n)]) rfl ?_
      refine AW.br (amX0_heldPitches _) 13 (tgt := 26) (C := (sSw (hol (nI i).toNatClampNeg) n) = 0) (C' := ¬ (sSw (hol (nI i).toNatClampNeg) n) = 0) (st' := []) rfl rfl rfl (fun c2 => ?_) (fun c2 => ?_)
      · refine AW.blk (amX0_heldPitches _) 15 2 (h' := hC mud car wal hol paid rain place str bro pen swe dri n q) (pc' := 4) (lv' := [(2, .int ((nI i) + 1)), (1, .int a), (0, .ref 0)]) (st' := []) (L := []) rfl trivial ?_
        rw [nI_1 i]
        exact ih (i + 1) _ (by omega) (by rw [← hf]; simp only [lpN, sHe1, if_neg c1, if_pos c2])
      · refine AW.blk (amX0_heldPitches _) 14 3 (h' := hC mud car wal hol paid rain place str bro pen swe dri n q) (pc' := 4) (lv' := [(2, .int ((nI i) + 1)), (1, .int (a + 1)), (0, .ref 0)]) (st' := []) (L := []) rfl trivial ?_
        rw [nI_1 i]
        exact ih (i + 1) _ (by omega) (by rw [← hf]; simp only [lpN, sHe1, if_neg c1, if_neg c2])
  refine AW.blk (amX0_heldPitches _) 0 4 (h' := hC mud car wal hol paid rain place str bro pen swe dri n q) (pc' := 4) (lv' := [(2, .int 0), (1, .int 0), (0, .ref 0)]) (st' := []) (L := []) rfl trivial ?_
  exact K 9 0 0 rfl rfl
set_option maxHeartbeats 1000000 in
theorem kX0_sweepersAt (mud car wal hol paid rain place str bro pen swe dri : Nat → Int32) (n q : Int32) (c : Int32) : AMet yX0_sweepersAt cX0_sweepersAt 4 (some .int) { frames := 0, cells := 0, slots := 0, locals := 0 } [.ref 0, .int c] (hC mud car wal hol paid rain place str bro pen swe dri n q) (some (.int (sAt c n place))) (hC mud car wal hol paid rain place str bro pen swe dri n q) := by
  refine AMet.of (by decide) rfl ?_
  intro G hR hE hI
  have E : ∀ (a : Int32), a = sAt c n place → AW G (yX0_sweepersAt.cls, cX0_sweepersAt, 4, 13) (hC mud car wal hol paid rain place str bro pen swe dri n q) 0 0 37 [(2, .int a), (1, .int c), (0, .ref 0)] [] := by
    intro a hf
    refine AW.blk (amX0_sweepersAt _) 20 1 (h' := hC mud car wal hol paid rain place str bro pen swe dri n q) (pc' := 38) (lv' := [(2, .int a), (1, .int c), (0, .ref 0)]) (st' := [.int a]) (L := []) rfl trivial ?_
    exact AW.iretE (amX0_sweepersAt _) 21 hE rfl rfl (by first | rfl | exact narrow_b _ (by decide)) rfl rfl (by rw [← hf]) (by first | rfl | (rw [← hf]))
  have K : ∀ (k i : Nat) (a : Int32), i + k = 8 → lpS n (sAt1 c place) k i a = sAt c n place → AW G (yX0_sweepersAt.cls, cX0_sweepersAt, 4, 13) (hC mud car wal hol paid rain place str bro pen swe dri n q) 0 0 4 [(3, .int (nI i)), (2, .int a), (1, .int c), (0, .ref 0)] [] := by
    intro k
    induction k with
    | zero =>
      intro i a hi hf
      refine AW.blk (amX0_sweepersAt _) 4 2 (h' := hC mud car wal hol paid rain place str bro pen swe dri n q) (pc' := 7) (lv' := [(3, .int (nI i)), (2, .int a), (1, .int c), (0, .ref 0)]) (st' := [.int 8, .int (nI i)]) (L := []) rfl trivial ?_
      refine AW.br (amX0_sweepersAt _) 6 (tgt := 37) (C := 8 ≤ (nI i)) (C' := ¬ 8 ≤ (nI i)) (st' := []) rfl rfl rfl (fun c1 => ?_) (fun c1 => absurd (nI_le (a := 8) (b := i) (by omega) (by omega)) c1)
      refine AW.pick [1, 2, 3] (lv' := [(2, .int a), (1, .int c), (0, .ref 0)]) rfl ?_
      exact E _ hf
    | succ k ih =>
      intro i a hi hf
      refine AW.blk (amX0_sweepersAt _) 4 2 (h' := hC mud car wal hol paid rain place str bro pen swe dri n q) (pc' := 7) (lv' := [(3, .int (nI i)), (2, .int a), (1, .int c), (0, .ref 0)]) (st' := [.int 8, .int (nI i)]) (L := []) rfl trivial ?_
      refine AW.br (amX0_sweepersAt _) 6 (tgt := 37) (C := 8 ≤ (nI i)) (C' := ¬ 8 ≤ (nI i)) (st' := []) rfl rfl rfl (fun c1 => absurd c1 (nI_ge (a := i) (b := 8) (by omega) (by decide))) (fun c1 => ?_)
      refine AW.blk (amX0_sweepersAt _) 7 3 (h' := hC mud car wal hol paid rain place str bro pen swe dri n q) (pc' := 15) (lv' := [(3, .int (nI i)), (2, .int a), (1, .int c), (0, .ref 0)]) (st' := [.int n, .int (nI i)]) (L := []) rfl trivial ?_
      refine AW.br (amX0_sweepersAt _) 10 (tgt := 37) (C := n ≤ (nI i)) (C' := ¬ n ≤ (nI i)) (st' := []) rfl rfl rfl (fun c2 => ?_) (fun c2 => ?_)
      · refine AW.pick [1, 2, 3] (lv' := [(2, .int a), (1, .int c), (0, .ref 0)]) rfl ?_
        exact E _ (by rw [← hf]; simp only [lpS, if_neg c1, if_pos c2])
      · refine AW.blk (amX0_sweepersAt _) 11 5 (h' := hC mud car wal hol paid rain place str bro pen swe dri n q) (pc' := 25) (lv' := [(3, .int (nI i)), (2, .int a), (1, .int c), (0, .ref 0)]) (st' := [.int c, .int (place (nI i).toNatClampNeg)]) (L := [vp_in (nI i) 8]) rfl (vpi (by omega) rfl) ?_
        refine AW.br (amX0_sweepersAt _) 16 (tgt := 31) (C := ¬ (place (nI i).toNatClampNeg) = c) (C' := (place (nI i).toNatClampNeg) = c) (st' := []) rfl rfl rfl (fun c3 => ?_) (fun c3 => ?_)
        · refine AW.blk (amX0_sweepersAt _) 18 2 (h' := hC mud car wal hol paid rain place str bro pen swe dri n q) (pc' := 4) (lv' := [(3, .int ((nI i) + 1)), (2, .int a), (1, .int c), (0, .ref 0)]) (st' := []) (L := []) rfl trivial ?_
          rw [nI_1 i]
          exact ih (i + 1) _ (by omega) (by rw [← hf]; simp only [lpS, sAt1, if_neg c1, if_neg c2, if_neg c3])
        · refine AW.blk (amX0_sweepersAt _) 17 3 (h' := hC mud car wal hol paid rain place str bro pen swe dri n q) (pc' := 4) (lv' := [(3, .int ((nI i) + 1)), (2, .int (a + 1)), (1, .int c), (0, .ref 0)]) (st' := []) (L := []) rfl trivial ?_
          rw [nI_1 i]
          exact ih (i + 1) _ (by omega) (by rw [← hf]; simp only [lpS, sAt1, if_neg c1, if_neg c2, if_pos c3])
  refine AW.blk (amX0_sweepersAt _) 0 4 (h' := hC mud car wal hol paid rain place str bro pen swe dri n q) (pc' := 4) (lv' := [(3, .int 0), (2, .int 0), (0, .ref 0), (1, .int c)]) (st' := []) (L := []) rfl trivial ?_
  refine AW.pick [0, 1, 3, 2] (lv' := [(3, .int 0), (2, .int 0), (1, .int c), (0, .ref 0)]) rfl ?_
  exact K 8 0 0 rfl rfl
set_option maxHeartbeats 1000000 in
theorem kX0_cleanCrossings (mud car wal hol paid rain place str bro pen swe dri : Nat → Int32) (n q : Int32) : AMet yX0_cleanCrossings cX0_cleanCrossings 3 (some .int) { frames := 0, cells := 0, slots := 0, locals := 0 } [.ref 0] (hC mud car wal hol paid rain place str bro pen swe dri n q) (some (.int (sClean mud))) (hC mud car wal hol paid rain place str bro pen swe dri n q) := by
  refine AMet.of (by decide) rfl ?_
  intro G hR hE hI
  have E : ∀ (a : Int32), a = sClean mud → AW G (yX0_cleanCrossings.cls, cX0_cleanCrossings, 3, 13) (hC mud car wal hol paid rain place str bro pen swe dri n q) 0 0 29 [(1, .int a), (0, .ref 0)] [] := by
    intro a hf
    refine AW.blk (amX0_cleanCrossings _) 16 1 (h' := hC mud car wal hol paid rain place str bro pen swe dri n q) (pc' := 30) (lv' := [(1, .int a), (0, .ref 0)]) (st' := [.int a]) (L := []) rfl trivial ?_
    exact AW.iretE (amX0_cleanCrossings _) 17 hE rfl rfl (by first | rfl | exact narrow_b _ (by decide)) rfl rfl (by rw [← hf]) (by first | rfl | (rw [← hf]))
  have K : ∀ (k i : Nat) (a : Int32), i + k = 9 → lpN (sCl1 mud) k i a = sClean mud → AW G (yX0_cleanCrossings.cls, cX0_cleanCrossings, 3, 13) (hC mud car wal hol paid rain place str bro pen swe dri n q) 0 0 4 [(2, .int (nI i)), (1, .int a), (0, .ref 0)] [] := by
    intro k
    induction k with
    | zero =>
      intro i a hi hf
      refine AW.blk (amX0_cleanCrossings _) 4 2 (h' := hC mud car wal hol paid rain place str bro pen swe dri n q) (pc' := 7) (lv' := [(2, .int (nI i)), (1, .int a), (0, .ref 0)]) (st' := [.int 9, .int (nI i)]) (L := []) rfl trivial ?_
      refine AW.br (amX0_cleanCrossings _) 6 (tgt := 29) (C := 9 ≤ (nI i)) (C' := ¬ 9 ≤ (nI i)) (st' := []) rfl rfl rfl (fun c1 => ?_) (fun c1 => absurd (nI_le (a := 9) (b := i) (by omega) (by omega)) c1)
      refine AW.pick [1, 2] (lv' := [(1, .int a), (0, .ref 0)]) rfl ?_
      exact E _ hf
    | succ k ih =>
      intro i a hi hf
      refine AW.blk (amX0_cleanCrossings _) 4 2 (h' := hC mud car wal hol paid rain place str bro pen swe dri n q) (pc' := 7) (lv' := [(2, .int (nI i)), (1, .int a), (0, .ref 0)]) (st' := [.int 9, .int (nI i)]) (L := []) rfl trivial ?_
      refine AW.br (amX0_cleanCrossings _) 6 (tgt := 29) (C := 9 ≤ (nI i)) (C' := ¬ 9 ≤ (nI i)) (st' := []) rfl rfl rfl (fun c1 => absurd c1 (nI_ge (a := i) (b := 9) (by omega) (by decide))) (fun c1 => ?_)
      refine AW.blk (amX0_cleanCrossings _) 7 5 (h' := hC mud car wal hol paid rain place str bro pen swe dri n q) (pc' := 17) (lv' := [(2, .int (nI i)), (1, .int a), (0, .ref 0)]) (st' := [.int 5, .int (mud (nI i).toNatClampNeg)]) (L := [vp_in (nI i) 9]) rfl (vpi (by omega) rfl) ?_
      refine AW.br (amX0_cleanCrossings _) 12 (tgt := 23) (C := 5 < (mud (nI i).toNatClampNeg)) (C' := ¬ 5 < (mud (nI i).toNatClampNeg)) (st' := []) rfl rfl rfl (fun c2 => ?_) (fun c2 => ?_)
      · refine AW.blk (amX0_cleanCrossings _) 14 2 (h' := hC mud car wal hol paid rain place str bro pen swe dri n q) (pc' := 4) (lv' := [(2, .int ((nI i) + 1)), (1, .int a), (0, .ref 0)]) (st' := []) (L := []) rfl trivial ?_
        rw [nI_1 i]
        exact ih (i + 1) _ (by omega) (by rw [← hf]; simp only [lpN, sCl1, if_neg c1, if_pos c2])
      · refine AW.blk (amX0_cleanCrossings _) 13 3 (h' := hC mud car wal hol paid rain place str bro pen swe dri n q) (pc' := 4) (lv' := [(2, .int ((nI i) + 1)), (1, .int (a + 1)), (0, .ref 0)]) (st' := []) (L := []) rfl trivial ?_
        rw [nI_1 i]
        exact ih (i + 1) _ (by omega) (by rw [← hf]; simp only [lpN, sCl1, if_neg c1, if_neg c2])
  refine AW.blk (amX0_cleanCrossings _) 0 4 (h' := hC mud car wal hol paid rain place str bro pen swe dri n q) (pc' := 4) (lv' := [(2, .int 0), (1, .int 0), (0, .ref 0)]) (st' := []) (L := []) rfl trivial ?_
  exact K 9 0 0 rfl rfl
set_option maxHeartbeats 1000000 in
theorem kX0_allMud (mud car wal hol paid rain place str bro pen swe dri : Nat → Int32) (n q : Int32) : AMet yX0_allMud cX0_allMud 1 (some .int) { frames := 1, cells := 0, slots := 0, locals := 22 } [.ref 0] (hC mud car wal hol paid rain place str bro pen swe dri n q) (some (.int (sSum mud 9))) (hC mud car wal hol paid rain place str bro pen swe dri n q) := by
  refine AMet.of (by decide) rfl ?_
  intro G hR hE hI
  refine AW.blk (amX0_allMud _) 0 2 (h' := hC mud car wal hol paid rain place str bro pen swe dri n q) (pc' := 4) (lv' := [(0, .ref 0)]) (st' := [.ref 1]) (L := []) rfl trivial ?_
  refine AW.callS (amX0_allMud _) 2 (kX0_sum_9 mud) [1] [] ykX0_sum ysX0_sum mlX0_120 rfl rfl rfl rfl hR ⟨Nat.le_of_ble_eq_true rfl, Nat.le_of_ble_eq_true rfl, Nat.le_of_ble_eq_true rfl, Nat.le_of_ble_eq_true rfl⟩ rfl rfl rfl rfl rfl (fun _ => rfl) (h1 := hC mud car wal hol paid rain place str bro pen swe dri n q) rfl (st' := [.int (sSum mud 9)]) rfl ?_
  exact AW.iretE (amX0_allMud _) 3 hE rfl rfl (by first | rfl | exact narrow_b _ (by decide)) rfl rfl (rfl) rfl
/-- facts of a sweeper, of a crossing, of the city -/
def sSF (s n : Int32) (hol place str bro pen swe dri : Nat → Int32) : Nat → Int32
  | 0 => place s.toNatClampNeg
  | 1 => str s.toNatClampNeg
  | 2 => bro s.toNatClampNeg
  | 3 => pen s.toNatClampNeg
  | 4 => if sHP s n place hol = 0 then 0 else 1
  | 5 => swe s.toNatClampNeg
  | 6 => dri s.toNatClampNeg
  | _ => sRe s n str bro
def sCF (c n : Int32) (mud car wal hol paid place : Nat → Int32) : Nat → Int32
  | 0 => mud c.toNatClampNeg
  | 1 => car c.toNatClampNeg
  | 2 => wal c.toNatClampNeg
  | 3 => hol c.toNatClampNeg
  | 4 => sAt c n place
  | _ => paid c.toNatClampNeg
def sGF (n q : Int32) (mud hol pen swe dri : Nat → Int32) : Nat → Int32
  | 0 => q
  | 1 => n
  | 2 => sHeld n hol
  | 3 => sSum mud 9
  | 4 => sSum pen 8
  | 5 => sClean mud
  | 6 => sSum swe 8
  | _ => sSum dri 8
set_option maxHeartbeats 1000000 in
theorem kX0_sweeperFact_0 (mud car wal hol paid rain place str bro pen swe dri : Nat → Int32) (n q : Int32) (s : Int32) (hs : ¬ sSw s n = 0) : AMet yX0_sweeperFact cX0_sweeperFact 3 (some .int) { frames := 2, cells := 0, slots := 0, locals := 42 } [.ref 0, .int s, .int (nI 0)] (hC mud car wal hol paid rain place str bro pen swe dri n q) (some (.int (sSF s n hol place str bro pen swe dri 0))) (hC mud car wal hol paid rain place str bro pen swe dri n q) := by
  refine AMet.of (by decide) rfl ?_
  intro G hR hE hI
  refine AW.blk (amX0_sweeperFact _) 0 2 (h' := hC mud car wal hol paid rain place str bro pen swe dri n q) (pc' := 2) (lv' := [(0, .ref 0), (1, .int s), (2, .int (nI 0))]) (st' := [.int s, .ref 0]) (L := []) rfl trivial ?_
  refine AW.callV (amX0_sweeperFact _) 2 (kX0_isSweeper mud car wal hol paid rain place str bro pen swe dri n q s) rfl rfl [0, 1, 2, 3, 4, 5, 6, 7, 8, 9, 10, 11, 12] [] ykX0_isSweeper yiX0_isSweeper yvX0_isSweeper mlX0_61 rfl rfl rfl rfl hR ⟨Nat.le_of_ble_eq_true rfl, Nat.le_of_ble_eq_true rfl, Nat.le_of_ble_eq_true rfl, Nat.le_of_ble_eq_true rfl⟩ rfl rfl rfl rfl rfl (fun _ => rfl) (h1 := hC mud car wal hol paid rain place str bro pen swe dri n q) rfl (st' := [.int (sSw s n)]) rfl ?_
  refine AW.br (amX0_sweeperFact _) 3 (tgt := 10) (C := ¬ (sSw s n) = 0) (C' := (sSw s n) = 0) (st' := []) rfl rfl rfl (fun c1 => ?_) (fun c1 => absurd c1 hs)
  refine AW.blk (amX0_sweeperFact _) 6 1 (h' := hC mud car wal hol paid rain place str bro pen swe dri n q) (pc' := 11) (lv' := [(0, .ref 0), (1, .int s), (2, .int (nI 0))]) (st' := [.int (nI 0)]) (L := []) rfl trivial ?_
  refine AW.swIn (tgt := 52) (off := 41) swX0_sweeperFact_11 (by decide) (by decide) rfl rfl ?_
  refine AW.blk (amX0_sweeperFact _) 7 4 (h' := hC mud car wal hol paid rain place str bro pen swe dri n q) (pc' := 58) (lv' := [(0, .ref 0), (1, .int s), (2, .int (nI 0))]) (st' := [.int (place s.toNatClampNeg)]) (L := [vp_in s 8]) rfl (sSw_in c1) ?_
  exact AW.iretE (amX0_sweeperFact _) 11 hE rfl rfl (by first | rfl | exact narrow_b _ (by decide)) rfl rfl (by simp only [sSF, if_neg c1]) rfl
set_option maxHeartbeats 1000000 in
theorem kX0_sweeperFact_1 (mud car wal hol paid rain place str bro pen swe dri : Nat → Int32) (n q : Int32) (s : Int32) (hs : ¬ sSw s n = 0) : AMet yX0_sweeperFact cX0_sweeperFact 3 (some .int) { frames := 2, cells := 0, slots := 0, locals := 42 } [.ref 0, .int s, .int (nI 1)] (hC mud car wal hol paid rain place str bro pen swe dri n q) (some (.int (sSF s n hol place str bro pen swe dri 1))) (hC mud car wal hol paid rain place str bro pen swe dri n q) := by
  refine AMet.of (by decide) rfl ?_
  intro G hR hE hI
  refine AW.blk (amX0_sweeperFact _) 0 2 (h' := hC mud car wal hol paid rain place str bro pen swe dri n q) (pc' := 2) (lv' := [(0, .ref 0), (1, .int s), (2, .int (nI 1))]) (st' := [.int s, .ref 0]) (L := []) rfl trivial ?_
  refine AW.callV (amX0_sweeperFact _) 2 (kX0_isSweeper mud car wal hol paid rain place str bro pen swe dri n q s) rfl rfl [0, 1, 2, 3, 4, 5, 6, 7, 8, 9, 10, 11, 12] [] ykX0_isSweeper yiX0_isSweeper yvX0_isSweeper mlX0_61 rfl rfl rfl rfl hR ⟨Nat.le_of_ble_eq_true rfl, Nat.le_of_ble_eq_true rfl, Nat.le_of_ble_eq_true rfl, Nat.le_of_ble_eq_true rfl⟩ rfl rfl rfl rfl rfl (fun _ => rfl) (h1 := hC mud car wal hol paid rain place str bro pen swe dri n q) rfl (st' := [.int (sSw s n)]) rfl ?_
  refine AW.br (amX0_sweeperFact _) 3 (tgt := 10) (C := ¬ (sSw s n) = 0) (C' := (sSw s n) = 0) (st' := []) rfl rfl rfl (fun c1 => ?_) (fun c1 => absurd c1 hs)
  refine AW.blk (amX0_sweeperFact _) 6 1 (h' := hC mud car wal hol paid rain place str bro pen swe dri n q) (pc' := 11) (lv' := [(0, .ref 0), (1, .int s), (2, .int (nI 1))]) (st' := [.int (nI 1)]) (L := []) rfl trivial ?_
  refine AW.swIn (tgt := 59) (off := 48) swX0_sweeperFact_11 (by decide) (by decide) rfl rfl ?_
  refine AW.blk (amX0_sweeperFact _) 12 4 (h' := hC mud car wal hol paid rain place str bro pen swe dri n q) (pc' := 65) (lv' := [(0, .ref 0), (1, .int s), (2, .int (nI 1))]) (st' := [.int (str s.toNatClampNeg)]) (L := [vp_in s 8]) rfl (sSw_in c1) ?_
  exact AW.iretE (amX0_sweeperFact _) 16 hE rfl rfl (by first | rfl | exact narrow_b _ (by decide)) rfl rfl (by simp only [sSF, if_neg c1]) rfl
set_option maxHeartbeats 1000000 in
theorem kX0_sweeperFact_2 (mud car wal hol paid rain place str bro pen swe dri : Nat → Int32) (n q : Int32) (s : Int32) (hs : ¬ sSw s n = 0) : AMet yX0_sweeperFact cX0_sweeperFact 3 (some .int) { frames := 2, cells := 0, slots := 0, locals := 42 } [.ref 0, .int s, .int (nI 2)] (hC mud car wal hol paid rain place str bro pen swe dri n q) (some (.int (sSF s n hol place str bro pen swe dri 2))) (hC mud car wal hol paid rain place str bro pen swe dri n q) := by
  refine AMet.of (by decide) rfl ?_
  intro G hR hE hI
  refine AW.blk (amX0_sweeperFact _) 0 2 (h' := hC mud car wal hol paid rain place str bro pen swe dri n q) (pc' := 2) (lv' := [(0, .ref 0), (1, .int s), (2, .int (nI 2))]) (st' := [.int s, .ref 0]) (L := []) rfl trivial ?_
  refine AW.callV (amX0_sweeperFact _) 2 (kX0_isSweeper mud car wal hol paid rain place str bro pen swe dri n q s) rfl rfl [0, 1, 2, 3, 4, 5, 6, 7, 8, 9, 10, 11, 12] [] ykX0_isSweeper yiX0_isSweeper yvX0_isSweeper mlX0_61 rfl rfl rfl rfl hR ⟨Nat.le_of_ble_eq_true rfl, Nat.le_of_ble_eq_true rfl, Nat.le_of_ble_eq_true rfl, Nat.le_of_ble_eq_true rfl⟩ rfl rfl rfl rfl rfl (fun _ => rfl) (h1 := hC mud car wal hol paid rain place str bro pen swe dri n q) rfl (st' := [.int (sSw s n)]) rfl ?_
  refine AW.br (amX0_sweeperFact _) 3 (tgt := 10) (C := ¬ (sSw s n) = 0) (C' := (sSw s n) = 0) (st' := []) rfl rfl rfl (fun c1 => ?_) (fun c1 => absurd c1 hs)
  refine AW.blk (amX0_sweeperFact _) 6 1 (h' := hC mud car wal hol paid rain place str bro pen swe dri n q) (pc' := 11) (lv' := [(0, .ref 0), (1, .int s), (2, .int (nI 2))]) (st' := [.int (nI 2)]) (L := []) rfl trivial ?_
  refine AW.swIn (tgt := 66) (off := 55) swX0_sweeperFact_11 (by decide) (by decide) rfl rfl ?_
  refine AW.blk (amX0_sweeperFact _) 17 4 (h' := hC mud car wal hol paid rain place str bro pen swe dri n q) (pc' := 72) (lv' := [(0, .ref 0), (1, .int s), (2, .int (nI 2))]) (st' := [.int (bro s.toNatClampNeg)]) (L := [vp_in s 8]) rfl (sSw_in c1) ?_
  exact AW.iretE (amX0_sweeperFact _) 21 hE rfl rfl (by first | rfl | exact narrow_b _ (by decide)) rfl rfl (by simp only [sSF, if_neg c1]) rfl
set_option maxHeartbeats 1000000 in
theorem kX0_sweeperFact_3 (mud car wal hol paid rain place str bro pen swe dri : Nat → Int32) (n q : Int32) (s : Int32) (hs : ¬ sSw s n = 0) : AMet yX0_sweeperFact cX0_sweeperFact 3 (some .int) { frames := 2, cells := 0, slots := 0, locals := 42 } [.ref 0, .int s, .int (nI 3)] (hC mud car wal hol paid rain place str bro pen swe dri n q) (some (.int (sSF s n hol place str bro pen swe dri 3))) (hC mud car wal hol paid rain place str bro pen swe dri n q) := by
  refine AMet.of (by decide) rfl ?_
  intro G hR hE hI
  refine AW.blk (amX0_sweeperFact _) 0 2 (h' := hC mud car wal hol paid rain place str bro pen swe dri n q) (pc' := 2) (lv' := [(0, .ref 0), (1, .int s), (2, .int (nI 3))]) (st' := [.int s, .ref 0]) (L := []) rfl trivial ?_
  refine AW.callV (amX0_sweeperFact _) 2 (kX0_isSweeper mud car wal hol paid rain place str bro pen swe dri n q s) rfl rfl [0, 1, 2, 3, 4, 5, 6, 7, 8, 9, 10, 11, 12] [] ykX0_isSweeper yiX0_isSweeper yvX0_isSweeper mlX0_61 rfl rfl rfl rfl hR ⟨Nat.le_of_ble_eq_true rfl, Nat.le_of_ble_eq_true rfl, Nat.le_of_ble_eq_true rfl, Nat.le_of_ble_eq_true rfl⟩ rfl rfl rfl rfl rfl (fun _ => rfl) (h1 := hC mud car wal hol paid rain place str bro pen swe dri n q) rfl (st' := [.int (sSw s n)]) rfl ?_
  refine AW.br (amX0_sweeperFact _) 3 (tgt := 10) (C := ¬ (sSw s n) = 0) (C' := (sSw s n) = 0) (st' := []) rfl rfl rfl (fun c1 => ?_) (fun c1 => absurd c1 hs)
  refine AW.blk (amX0_sweeperFact _) 6 1 (h' := hC mud car wal hol paid rain place str bro pen swe dri n q) (pc' := 11) (lv' := [(0, .ref 0), (1, .int s), (2, .int (nI 3))]) (st' := [.int (nI 3)]) (L := []) rfl trivial ?_
  refine AW.swIn (tgt := 73) (off := 62) swX0_sweeperFact_11 (by decide) (by decide) rfl rfl ?_
  refine AW.blk (amX0_sweeperFact _) 22 4 (h' := hC mud car wal hol paid rain place str bro pen swe dri n q) (pc' := 79) (lv' := [(0, .ref 0), (1, .int s), (2, .int (nI 3))]) (st' := [.int (pen s.toNatClampNeg)]) (L := [vp_in s 8]) rfl (sSw_in c1) ?_
  exact AW.iretE (amX0_sweeperFact _) 26 hE rfl rfl (by first | rfl | exact narrow_b _ (by decide)) rfl rfl (by simp only [sSF, if_neg c1]) rfl
set_option maxHeartbeats 1000000 in
theorem kX0_sweeperFact_4 (mud car wal hol paid rain place str bro pen swe dri : Nat → Int32) (n q : Int32) (s : Int32) (hs : ¬ sSw s n = 0) : AMet yX0_sweeperFact cX0_sweeperFact 3 (some .int) { frames := 2, cells := 0, slots := 0, locals := 42 } [.ref 0, .int s, .int (nI 4)] (hC mud car wal hol paid rain place str bro pen swe dri n q) (some (.int (sSF s n hol place str bro pen swe dri 4))) (hC mud car wal hol paid rain place str bro pen swe dri n q) := by
  refine AMet.of (by decide) rfl ?_
  intro G hR hE hI
  refine AW.blk (amX0_sweeperFact _) 0 2 (h' := hC mud car wal hol paid rain place str bro pen swe dri n q) (pc' := 2) (lv' := [(0, .ref 0), (1, .int s), (2, .int (nI 4))]) (st' := [.int s, .ref 0]) (L := []) rfl trivial ?_
  refine AW.callV (amX0_sweeperFact _) 2 (kX0_isSweeper mud car wal hol paid rain place str bro pen swe dri n q s) rfl rfl [0, 1, 2, 3, 4, 5, 6, 7, 8, 9, 10, 11, 12] [] ykX0_isSweeper yiX0_isSweeper yvX0_isSweeper mlX0_61 rfl rfl rfl rfl hR ⟨Nat.le_of_ble_eq_true rfl, Nat.le_of_ble_eq_true rfl, Nat.le_of_ble_eq_true rfl, Nat.le_of_ble_eq_true rfl⟩ rfl rfl rfl rfl rfl (fun _ => rfl) (h1 := hC mud car wal hol paid rain place str bro pen swe dri n q) rfl (st' := [.int (sSw s n)]) rfl ?_
  refine AW.br (amX0_sweeperFact _) 3 (tgt := 10) (C := ¬ (sSw s n) = 0) (C' := (sSw s n) = 0) (st' := []) rfl rfl rfl (fun c1 => ?_) (fun c1 => absurd c1 hs)
  refine AW.blk (amX0_sweeperFact _) 6 1 (h' := hC mud car wal hol paid rain place str bro pen swe dri n q) (pc' := 11) (lv' := [(0, .ref 0), (1, .int s), (2, .int (nI 4))]) (st' := [.int (nI 4)]) (L := []) rfl trivial ?_
  refine AW.swIn (tgt := 80) (off := 69) swX0_sweeperFact_11 (by decide) (by decide) rfl rfl ?_
  refine AW.blk (amX0_sweeperFact _) 27 2 (h' := hC mud car wal hol paid rain place str bro pen swe dri n q) (pc' := 82) (lv' := [(0, .ref 0), (1, .int s), (2, .int (nI 4))]) (st' := [.int s, .ref 0]) (L := []) rfl trivial ?_
  refine AW.callV (amX0_sweeperFact _) 29 (kX0_holdsPitch mud car wal hol paid rain place str bro pen swe dri n q s) rfl rfl [0, 1, 2, 3, 4, 5, 6, 7, 8, 9, 10, 11, 12] [] ykX0_holdsPitch yiX0_holdsPitch yvX0_holdsPitch mlX0_88 rfl rfl rfl rfl hR ⟨Nat.le_of_ble_eq_true rfl, Nat.le_of_ble_eq_true rfl, Nat.le_of_ble_eq_true rfl, Nat.le_of_ble_eq_true rfl⟩ rfl rfl rfl rfl rfl (fun _ => rfl) (h1 := hC mud car wal hol paid rain place str bro pen swe dri n q) rfl (st' := [.int (sHP s n place hol)]) rfl ?_
  refine AW.br (amX0_sweeperFact _) 30 (tgt := 92) (C := (sHP s n place hol) = 0) (C' := ¬ (sHP s n place hol) = 0) (st' := []) rfl rfl rfl (fun c2 => ?_) (fun c2 => ?_)
  · refine AW.blk (amX0_sweeperFact _) 33 1 (h' := hC mud car wal hol paid rain place str bro pen swe dri n q) (pc' := 93) (lv' := [(0, .ref 0), (1, .int s), (2, .int (nI 4))]) (st' := [.int 0]) (L := []) rfl trivial ?_
    exact AW.iretE (amX0_sweeperFact _) 34 hE rfl rfl (by first | rfl | exact narrow_b _ (by decide)) rfl rfl (by simp only [sSF, if_neg c1, if_pos c2]) rfl
  · refine AW.blk (amX0_sweeperFact _) 31 2 (h' := hC mud car wal hol paid rain place str bro pen swe dri n q) (pc' := 93) (lv' := [(0, .ref 0), (1, .int s), (2, .int (nI 4))]) (st' := [.int 1]) (L := []) rfl trivial ?_
    exact AW.iretE (amX0_sweeperFact _) 34 hE rfl rfl (by first | rfl | exact narrow_b _ (by decide)) rfl rfl (by simp only [sSF, if_neg c1, if_neg c2]) rfl
set_option maxHeartbeats 1000000 in
theorem kX0_sweeperFact_5 (mud car wal hol paid rain place str bro pen swe dri : Nat → Int32) (n q : Int32) (s : Int32) (hs : ¬ sSw s n = 0) : AMet yX0_sweeperFact cX0_sweeperFact 3 (some .int) { frames := 2, cells := 0, slots := 0, locals := 42 } [.ref 0, .int s, .int (nI 5)] (hC mud car wal hol paid rain place str bro pen swe dri n q) (some (.int (sSF s n hol place str bro pen swe dri 5))) (hC mud car wal hol paid rain place str bro pen swe dri n q) := by
  refine AMet.of (by decide) rfl ?_
  intro G hR hE hI
  refine AW.blk (amX0_sweeperFact _) 0 2 (h' := hC mud car wal hol paid rain place str bro pen swe dri n q) (pc' := 2) (lv' := [(0, .ref 0), (1, .int s), (2, .int (nI 5))]) (st' := [.int s, .ref 0]) (L := []) rfl trivial ?_
  refine AW.callV (amX0_sweeperFact _) 2 (kX0_isSweeper mud car wal hol paid rain place str bro pen swe dri n q s) rfl rfl [0, 1, 2, 3, 4, 5, 6, 7, 8, 9, 10, 11, 12] [] ykX0_isSweeper yiX0_isSweeper yvX0_isSweeper mlX0_61 rfl rfl rfl rfl hR ⟨Nat.le_of_ble_eq_true rfl, Nat.le_of_ble_eq_true rfl, Nat.le_of_ble_eq_true rfl, Nat.le_of_ble_eq_true rfl⟩ rfl rfl rfl rfl rfl (fun _ => rfl) (h1 := hC mud car wal hol paid rain place str bro pen swe dri n q) rfl (st' := [.int (sSw s n)]) rfl ?_
  refine AW.br (amX0_sweeperFact _) 3 (tgt := 10) (C := ¬ (sSw s n) = 0) (C' := (sSw s n) = 0) (st' := []) rfl rfl rfl (fun c1 => ?_) (fun c1 => absurd c1 hs)
  refine AW.blk (amX0_sweeperFact _) 6 1 (h' := hC mud car wal hol paid rain place str bro pen swe dri n q) (pc' := 11) (lv' := [(0, .ref 0), (1, .int s), (2, .int (nI 5))]) (st' := [.int (nI 5)]) (L := []) rfl trivial ?_
  refine AW.swIn (tgt := 94) (off := 83) swX0_sweeperFact_11 (by decide) (by decide) rfl rfl ?_
  refine AW.blk (amX0_sweeperFact _) 35 4 (h' := hC mud car wal hol paid rain place str bro pen swe dri n q) (pc' := 100) (lv' := [(0, .ref 0), (1, .int s), (2, .int (nI 5))]) (st' := [.int (swe s.toNatClampNeg)]) (L := [vp_in s 8]) rfl (sSw_in c1) ?_
  exact AW.iretE (amX0_sweeperFact _) 39 hE rfl rfl (by first | rfl | exact narrow_b _ (by decide)) rfl rfl (by simp only [sSF, if_neg c1]) rfl
set_option maxHeartbeats 1000000 in
theorem kX0_sweeperFact_6 (mud car wal hol paid rain place str bro pen swe dri : Nat → Int32) (n q : Int32) (s : Int32) (hs : ¬ sSw s n = 0) : AMet yX0_sweeperFact cX0_sweeperFact 3 (some .int) { frames := 2, cells := 0, slots := 0, locals := 42 } [.ref 0, .int s, .int (nI 6)] (hC mud car wal hol paid rain place str bro pen swe dri n q) (some (.int (sSF s n hol place str bro pen swe dri 6))) (hC mud car wal hol paid rain place str bro pen swe dri n q) := by
  refine AMet.of (by decide) rfl ?_
  intro G hR hE hI
  refine AW.blk (amX0_sweeperFact _) 0 2 (h' := hC mud car wal hol paid rain place str bro pen swe dri n q) (pc' := 2) (lv' := [(0, .ref 0), (1, .int s), (2, .int (nI 6))]) (st' := [.int s, .ref 0]) (L := []) rfl trivial ?_
  refine AW.callV (amX0_sweeperFact _) 2 (kX0_isSweeper mud car wal hol paid rain place str bro pen swe dri n q s) rfl rfl [0, 1, 2, 3, 4, 5, 6, 7, 8, 9, 10, 11, 12] [] ykX0_isSweeper yiX0_isSweeper yvX0_isSweeper mlX0_61 rfl rfl rfl rfl hR ⟨Nat.le_of_ble_eq_true rfl, Nat.le_of_ble_eq_true rfl, Nat.le_of_ble_eq_true rfl, Nat.le_of_ble_eq_true rfl⟩ rfl rfl rfl rfl rfl (fun _ => rfl) (h1 := hC mud car wal hol paid rain place str bro pen swe dri n q) rfl (st' := [.int (sSw s n)]) rfl ?_
  refine AW.br (amX0_sweeperFact _) 3 (tgt := 10) (C := ¬ (sSw s n) = 0) (C' := (sSw s n) = 0) (st' := []) rfl rfl rfl (fun c1 => ?_) (fun c1 => absurd c1 hs)
  refine AW.blk (amX0_sweeperFact _) 6 1 (h' := hC mud car wal hol paid rain place str bro pen swe dri n q) (pc' := 11) (lv' := [(0, .ref 0), (1, .int s), (2, .int (nI 6))]) (st' := [.int (nI 6)]) (L := []) rfl trivial ?_
  refine AW.swIn (tgt := 101) (off := 90) swX0_sweeperFact_11 (by decide) (by decide) rfl rfl ?_
  refine AW.blk (amX0_sweeperFact _) 40 4 (h' := hC mud car wal hol paid rain place str bro pen swe dri n q) (pc' := 107) (lv' := [(0, .ref 0), (1, .int s), (2, .int (nI 6))]) (st' := [.int (dri s.toNatClampNeg)]) (L := [vp_in s 8]) rfl (sSw_in c1) ?_
  exact AW.iretE (amX0_sweeperFact _) 44 hE rfl rfl (by first | rfl | exact narrow_b _ (by decide)) rfl rfl (by simp only [sSF, if_neg c1]) rfl
set_option maxHeartbeats 1000000 in
theorem kX0_sweeperFact_7 (mud car wal hol paid rain place str bro pen swe dri : Nat → Int32) (n q : Int32) (s : Int32) (hs : ¬ sSw s n = 0) : AMet yX0_sweeperFact cX0_sweeperFact 3 (some .int) { frames := 2, cells := 0, slots := 0, locals := 42 } [.ref 0, .int s, .int (nI 7)] (hC mud car wal hol paid rain place str bro pen swe dri n q) (some (.int (sSF s n hol place str bro pen swe dri 7))) (hC mud car wal hol paid rain place str bro pen swe dri n q) := by
  refine AMet.of (by decide) rfl ?_
  intro G hR hE hI
  refine AW.blk (amX0_sweeperFact _) 0 2 (h' := hC mud car wal hol paid rain place str bro pen swe dri n q) (pc' := 2) (lv' := [(0, .ref 0), (1, .int s), (2, .int (nI 7))]) (st' := [.int s, .ref 0]) (L := []) rfl trivial ?_
  refine AW.callV (amX0_sweeperFact _) 2 (kX0_isSweeper mud car wal hol paid rain place str bro pen swe dri n q s) rfl rfl [0, 1, 2, 3, 4, 5, 6, 7, 8, 9, 10, 11, 12] [] ykX0_isSweeper yiX0_isSweeper yvX0_isSweeper mlX0_61 rfl rfl rfl rfl hR ⟨Nat.le_of_ble_eq_true rfl, Nat.le_of_ble_eq_true rfl, Nat.le_of_ble_eq_true rfl, Nat.le_of_ble_eq_true rfl⟩ rfl rfl rfl rfl rfl (fun _ => rfl) (h1 := hC mud car wal hol paid rain place str bro pen swe dri n q) rfl (st' := [.int (sSw s n)]) rfl ?_
  refine AW.br (amX0_sweeperFact _) 3 (tgt := 10) (C := ¬ (sSw s n) = 0) (C' := (sSw s n) = 0) (st' := []) rfl rfl rfl (fun c1 => ?_) (fun c1 => absurd c1 hs)
  refine AW.blk (amX0_sweeperFact _) 6 1 (h' := hC mud car wal hol paid rain place str bro pen swe dri n q) (pc' := 11) (lv' := [(0, .ref 0), (1, .int s), (2, .int (nI 7))]) (st' := [.int (nI 7)]) (L := []) rfl trivial ?_
  refine AW.swOut (tgt := 108) swX0_sweeperFact_11 (by decide) rfl ?_
  refine AW.blk (amX0_sweeperFact _) 45 2 (h' := hC mud car wal hol paid rain place str bro pen swe dri n q) (pc' := 110) (lv' := [(0, .ref 0), (1, .int s), (2, .int (nI 7))]) (st' := [.int s, .ref 0]) (L := []) rfl trivial ?_
  refine AW.callV (amX0_sweeperFact _) 47 (kX0_reach mud car wal hol paid rain place str bro pen swe dri n q s) rfl rfl [0, 1, 2, 3, 4, 5, 6, 7, 8, 9, 10, 11, 12] [] ykX0_reach yiX0_reach yvX0_reach mlX0_95 rfl rfl rfl rfl hR ⟨Nat.le_of_ble_eq_true rfl, Nat.le_of_ble_eq_true rfl, Nat.le_of_ble_eq_true rfl, Nat.le_of_ble_eq_true rfl⟩ rfl rfl rfl rfl rfl (fun _ => rfl) (h1 := hC mud car wal hol paid rain place str bro pen swe dri n q) rfl (st' := [.int (sRe s n str bro)]) rfl ?_
  exact AW.iretE (amX0_sweeperFact _) 48 hE rfl rfl (by first | rfl | exact narrow_b _ (by decide)) rfl rfl (by simp only [sSF, if_neg c1]) rfl
theorem kX0_sweeperFact (mud car wal hol paid rain place str bro pen swe dri : Nat → Int32) (n q : Int32) (s : Int32) (hs : ¬ sSw s n = 0) : ∀ (w : Nat), w < 8 → AMet yX0_sweeperFact cX0_sweeperFact 3 (some .int) { frames := 2, cells := 0, slots := 0, locals := 42 } [.ref 0, .int s, .int (nI w)] (hC mud car wal hol paid rain place str bro pen swe dri n q) (some (.int (sSF s n hol place str bro pen swe dri w))) (hC mud car wal hol paid rain place str bro pen swe dri n q)
  | 0, _ => kX0_sweeperFact_0 mud car wal hol paid rain place str bro pen swe dri n q s hs
  | 1, _ => kX0_sweeperFact_1 mud car wal hol paid rain place str bro pen swe dri n q s hs
  | 2, _ => kX0_sweeperFact_2 mud car wal hol paid rain place str bro pen swe dri n q s hs
  | 3, _ => kX0_sweeperFact_3 mud car wal hol paid rain place str bro pen swe dri n q s hs
  | 4, _ => kX0_sweeperFact_4 mud car wal hol paid rain place str bro pen swe dri n q s hs
  | 5, _ => kX0_sweeperFact_5 mud car wal hol paid rain place str bro pen swe dri n q s hs
  | 6, _ => kX0_sweeperFact_6 mud car wal hol paid rain place str bro pen swe dri n q s hs
  | 7, _ => kX0_sweeperFact_7 mud car wal hol paid rain place str bro pen swe dri n q s hs
  | w + 8, h => absurd h (by omega)
set_option maxHeartbeats 1000000 in
theorem kX0_crossingFact_0 (mud car wal hol paid rain place str bro pen swe dri : Nat → Int32) (n q : Int32) (c : Int32) (hs : ¬ sCr c = 0) : AMet yX0_crossingFact cX0_crossingFact 3 (some .int) { frames := 1, cells := 0, slots := 0, locals := 23 } [.ref 0, .int c, .int (nI 0)] (hC mud car wal hol paid rain place str bro pen swe dri n q) (some (.int (sCF c n mud car wal hol paid place 0))) (hC mud car wal hol paid rain place str bro pen swe dri n q) := by
  refine AMet.of (by decide) rfl ?_
  intro G hR hE hI
  refine AW.blk (amX0_crossingFact _) 0 1 (h' := hC mud car wal hol paid rain place str bro pen swe dri n q) (pc' := 1) (lv' := [(0, .ref 0), (1, .int c), (2, .int (nI 0))]) (st' := [.int c]) (L := []) rfl trivial ?_
  refine AW.callS (amX0_crossingFact _) 1 (kX1_isCrossing c) [] [] ykX1_isCrossing ysX1_isCrossing mlX0_65 rfl rfl rfl rfl hR ⟨Nat.le_of_ble_eq_true rfl, Nat.le_of_ble_eq_true rfl, Nat.le_of_ble_eq_true rfl, Nat.le_of_ble_eq_true rfl⟩ rfl rfl rfl rfl rfl (fun _ => rfl) (h1 := hC mud car wal hol paid rain place str bro pen swe dri n q) rfl (st' := [.int (sCr c)]) rfl ?_
  refine AW.br (amX0_crossingFact _) 2 (tgt := 9) (C := ¬ (sCr c) = 0) (C' := (sCr c) = 0) (st' := []) rfl rfl rfl (fun c1 => ?_) (fun c1 => absurd c1 hs)
  refine AW.blk (amX0_crossingFact _) 5 1 (h' := hC mud car wal hol paid rain place str bro pen swe dri n q) (pc' := 10) (lv' := [(0, .ref 0), (1, .int c), (2, .int (nI 0))]) (st' := [.int (nI 0)]) (L := []) rfl trivial ?_
  refine AW.swIn (tgt := 44) (off := 34) swX0_crossingFact_10 (by decide) (by decide) rfl rfl ?_
  refine AW.blk (amX0_crossingFact _) 6 4 (h' := hC mud car wal hol paid rain place str bro pen swe dri n q) (pc' := 50) (lv' := [(0, .ref 0), (1, .int c), (2, .int (nI 0))]) (st' := [.int (mud c.toNatClampNeg)]) (L := [vp_in c 9]) rfl (sCr_in c1) ?_
  exact AW.iretE (amX0_crossingFact _) 10 hE rfl rfl (by first | rfl | exact narrow_b _ (by decide)) rfl rfl (by simp only [sCF, if_neg c1]) rfl
set_option maxHeartbeats 1000000 in
theorem kX0_crossingFact_1 (mud car wal hol paid rain place str bro pen swe dri : Nat → Int32) (n q : Int32) (c : Int32) (hs : ¬ sCr c = 0) : AMet yX0_crossingFact cX0_crossingFact 3 (some .int) { frames := 1, cells := 0, slots := 0, locals := 23 } [.ref 0, .int c, .int (nI 1)] (hC mud car wal hol paid rain place str bro pen swe dri n q) (some (.int (sCF c n mud car wal hol paid place 1))) (hC mud car wal hol paid rain place str bro pen swe dri n q) := by
  refine AMet.of (by decide) rfl ?_
  intro G hR hE hI
  refine AW.blk (amX0_crossingFact _) 0 1 (h' := hC mud car wal hol paid rain place str bro pen swe dri n q) (pc' := 1) (lv' := [(0, .ref 0), (1, .int c), (2, .int (nI 1))]) (st' := [.int c]) (L := []) rfl trivial ?_
  refine AW.callS (amX0_crossingFact _) 1 (kX1_isCrossing c) [] [] ykX1_isCrossing ysX1_isCrossing mlX0_65 rfl rfl rfl rfl hR ⟨Nat.le_of_ble_eq_true rfl, Nat.le_of_ble_eq_true rfl, Nat.le_of_ble_eq_true rfl, Nat.le_of_ble_eq_true rfl⟩ rfl rfl rfl rfl rfl (fun _ => rfl) (h1 := hC mud car wal hol paid rain place str bro pen swe dri n q) rfl (st' := [.int (sCr c)]) rfl ?_
  refine AW.br (amX0_crossingFact _) 2 (tgt := 9) (C := ¬ (sCr c) = 0) (C' := (sCr c) = 0) (st' := []) rfl rfl rfl (fun c1 => ?_) (fun c1 => absurd c1 hs)
  refine AW.blk (amX0_crossingFact _) 5 1 (h' := hC mud car wal hol paid rain place str bro pen swe dri n q) (pc' := 10) (lv' := [(0, .ref 0), (1, .int c), (2, .int (nI 1))]) (st' := [.int (nI 1)]) (L := []) rfl trivial ?_
  refine AW.swIn (tgt := 51) (off := 41) swX0_crossingFact_10 (by decide) (by decide) rfl rfl ?_
  refine AW.blk (amX0_crossingFact _) 11 4 (h' := hC mud car wal hol paid rain place str bro pen swe dri n q) (pc' := 57) (lv' := [(0, .ref 0), (1, .int c), (2, .int (nI 1))]) (st' := [.int (car c.toNatClampNeg)]) (L := [vp_in c 9]) rfl (sCr_in c1) ?_
  exact AW.iretE (amX0_crossingFact _) 15 hE rfl rfl (by first | rfl | exact narrow_b _ (by decide)) rfl rfl (by simp only [sCF, if_neg c1]) rfl
set_option maxHeartbeats 1000000 in
theorem kX0_crossingFact_2 (mud car wal hol paid rain place str bro pen swe dri : Nat → Int32) (n q : Int32) (c : Int32) (hs : ¬ sCr c = 0) : AMet yX0_crossingFact cX0_crossingFact 3 (some .int) { frames := 1, cells := 0, slots := 0, locals := 23 } [.ref 0, .int c, .int (nI 2)] (hC mud car wal hol paid rain place str bro pen swe dri n q) (some (.int (sCF c n mud car wal hol paid place 2))) (hC mud car wal hol paid rain place str bro pen swe dri n q) := by
  refine AMet.of (by decide) rfl ?_
  intro G hR hE hI
  refine AW.blk (amX0_crossingFact _) 0 1 (h' := hC mud car wal hol paid rain place str bro pen swe dri n q) (pc' := 1) (lv' := [(0, .ref 0), (1, .int c), (2, .int (nI 2))]) (st' := [.int c]) (L := []) rfl trivial ?_
  refine AW.callS (amX0_crossingFact _) 1 (kX1_isCrossing c) [] [] ykX1_isCrossing ysX1_isCrossing mlX0_65 rfl rfl rfl rfl hR ⟨Nat.le_of_ble_eq_true rfl, Nat.le_of_ble_eq_true rfl, Nat.le_of_ble_eq_true rfl, Nat.le_of_ble_eq_true rfl⟩ rfl rfl rfl rfl rfl (fun _ => rfl) (h1 := hC mud car wal hol paid rain place str bro pen swe dri n q) rfl (st' := [.int (sCr c)]) rfl ?_
  refine AW.br (amX0_crossingFact _) 2 (tgt := 9) (C := ¬ (sCr c) = 0) (C' := (sCr c) = 0) (st' := []) rfl rfl rfl (fun c1 => ?_) (fun c1 => absurd c1 hs)
  refine AW.blk (amX0_crossingFact _) 5 1 (h' := hC mud car wal hol paid rain place str bro pen swe dri n q) (pc' := 10) (lv' := [(0, .ref 0), (1, .int c), (2, .int (nI 2))]) (st' := [.int (nI 2)]) (L := []) rfl trivial ?_
  refine AW.swIn (tgt := 58) (off := 48) swX0_crossingFact_10 (by decide) (by decide) rfl rfl ?_
  refine AW.blk (amX0_crossingFact _) 16 4 (h' := hC mud car wal hol paid rain place str bro pen swe dri n q) (pc' := 64) (lv' := [(0, .ref 0), (1, .int c), (2, .int (nI 2))]) (st' := [.int (wal c.toNatClampNeg)]) (L := [vp_in c 9]) rfl (sCr_in c1) ?_
  exact AW.iretE (amX0_crossingFact _) 20 hE rfl rfl (by first | rfl | exact narrow_b _ (by decide)) rfl rfl (by simp only [sCF, if_neg c1]) rfl
set_option maxHeartbeats 1000000 in
theorem kX0_crossingFact_3 (mud car wal hol paid rain place str bro pen swe dri : Nat → Int32) (n q : Int32) (c : Int32) (hs : ¬ sCr c = 0) : AMet yX0_crossingFact cX0_crossingFact 3 (some .int) { frames := 1, cells := 0, slots := 0, locals := 23 } [.ref 0, .int c, .int (nI 3)] (hC mud car wal hol paid rain place str bro pen swe dri n q) (some (.int (sCF c n mud car wal hol paid place 3))) (hC mud car wal hol paid rain place str bro pen swe dri n q) := by
  refine AMet.of (by decide) rfl ?_
  intro G hR hE hI
  refine AW.blk (amX0_crossingFact _) 0 1 (h' := hC mud car wal hol paid rain place str bro pen swe dri n q) (pc' := 1) (lv' := [(0, .ref 0), (1, .int c), (2, .int (nI 3))]) (st' := [.int c]) (L := []) rfl trivial ?_
  refine AW.callS (amX0_crossingFact _) 1 (kX1_isCrossing c) [] [] ykX1_isCrossing ysX1_isCrossing mlX0_65 rfl rfl rfl rfl hR ⟨Nat.le_of_ble_eq_true rfl, Nat.le_of_ble_eq_true rfl, Nat.le_of_ble_eq_true rfl, Nat.le_of_ble_eq_true rfl⟩ rfl rfl rfl rfl rfl (fun _ => rfl) (h1 := hC mud car wal hol paid rain place str bro pen swe dri n q) rfl (st' := [.int (sCr c)]) rfl ?_
  refine AW.br (amX0_crossingFact _) 2 (tgt := 9) (C := ¬ (sCr c) = 0) (C' := (sCr c) = 0) (st' := []) rfl rfl rfl (fun c1 => ?_) (fun c1 => absurd c1 hs)
  refine AW.blk (amX0_crossingFact _) 5 1 (h' := hC mud car wal hol paid rain place str bro pen swe dri n q) (pc' := 10) (lv' := [(0, .ref 0), (1, .int c), (2, .int (nI 3))]) (st' := [.int (nI 3)]) (L := []) rfl trivial ?_
  refine AW.swIn (tgt := 65) (off := 55) swX0_crossingFact_10 (by decide) (by decide) rfl rfl ?_
  refine AW.blk (amX0_crossingFact _) 21 4 (h' := hC mud car wal hol paid rain place str bro pen swe dri n q) (pc' := 71) (lv' := [(0, .ref 0), (1, .int c), (2, .int (nI 3))]) (st' := [.int (hol c.toNatClampNeg)]) (L := [vp_in c 9]) rfl (sCr_in c1) ?_
  exact AW.iretE (amX0_crossingFact _) 25 hE rfl rfl (by first | rfl | exact narrow_b _ (by decide)) rfl rfl (by simp only [sCF, if_neg c1]) rfl
set_option maxHeartbeats 1000000 in
theorem kX0_crossingFact_4 (mud car wal hol paid rain place str bro pen swe dri : Nat → Int32) (n q : Int32) (c : Int32) (hs : ¬ sCr c = 0) : AMet yX0_crossingFact cX0_crossingFact 3 (some .int) { frames := 1, cells := 0, slots := 0, locals := 23 } [.ref 0, .int c, .int (nI 4)] (hC mud car wal hol paid rain place str bro pen swe dri n q) (some (.int (sCF c n mud car wal hol paid place 4))) (hC mud car wal hol paid rain place str bro pen swe dri n q) := by
  refine AMet.of (by decide) rfl ?_
  intro G hR hE hI
  refine AW.blk (amX0_crossingFact _) 0 1 (h' := hC mud car wal hol paid rain place str bro pen swe dri n q) (pc' := 1) (lv' := [(0, .ref 0), (1, .int c), (2, .int (nI 4))]) (st' := [.int c]) (L := []) rfl trivial ?_
  refine AW.callS (amX0_crossingFact _) 1 (kX1_isCrossing c) [] [] ykX1_isCrossing ysX1_isCrossing mlX0_65 rfl rfl rfl rfl hR ⟨Nat.le_of_ble_eq_true rfl, Nat.le_of_ble_eq_true rfl, Nat.le_of_ble_eq_true rfl, Nat.le_of_ble_eq_true rfl⟩ rfl rfl rfl rfl rfl (fun _ => rfl) (h1 := hC mud car wal hol paid rain place str bro pen swe dri n q) rfl (st' := [.int (sCr c)]) rfl ?_
  refine AW.br (amX0_crossingFact _) 2 (tgt := 9) (C := ¬ (sCr c) = 0) (C' := (sCr c) = 0) (st' := []) rfl rfl rfl (fun c1 => ?_) (fun c1 => absurd c1 hs)
  refine AW.blk (amX0_crossingFact _) 5 1 (h' := hC mud car wal hol paid rain place str bro pen swe dri n q) (pc' := 10) (lv' := [(0, .ref 0), (1, .int c), (2, .int (nI 4))]) (st' := [.int (nI 4)]) (L := []) rfl trivial ?_
  refine AW.swIn (tgt := 72) (off := 62) swX0_crossingFact_10 (by decide) (by decide) rfl rfl ?_
  refine AW.blk (amX0_crossingFact _) 26 2 (h' := hC mud car wal hol paid rain place str bro pen swe dri n q) (pc' := 74) (lv' := [(0, .ref 0), (1, .int c), (2, .int (nI 4))]) (st' := [.int c, .ref 0]) (L := []) rfl trivial ?_
  refine AW.callV (amX0_crossingFact _) 28 (kX0_sweepersAt mud car wal hol paid rain place str bro pen swe dri n q c) rfl rfl [0, 1, 2, 3, 4, 5, 6, 7, 8, 9, 10, 11, 12] [] ykX0_sweepersAt yiX0_sweepersAt yvX0_sweepersAt mlX0_111 rfl rfl rfl rfl hR ⟨Nat.le_of_ble_eq_true rfl, Nat.le_of_ble_eq_true rfl, Nat.le_of_ble_eq_true rfl, Nat.le_of_ble_eq_true rfl⟩ rfl rfl rfl rfl rfl (fun _ => rfl) (h1 := hC mud car wal hol paid rain place str bro pen swe dri n q) rfl (st' := [.int (sAt c n place)]) rfl ?_
  exact AW.iretE (amX0_crossingFact _) 29 hE rfl rfl (by first | rfl | exact narrow_b _ (by decide)) rfl rfl (by simp only [sCF, if_neg c1]) rfl
set_option maxHeartbeats 1000000 in
theorem kX0_crossingFact_5 (mud car wal hol paid rain place str bro pen swe dri : Nat → Int32) (n q : Int32) (c : Int32) (hs : ¬ sCr c = 0) : AMet yX0_crossingFact cX0_crossingFact 3 (some .int) { frames := 1, cells := 0, slots := 0, locals := 23 } [.ref 0, .int c, .int (nI 5)] (hC mud car wal hol paid rain place str bro pen swe dri n q) (some (.int (sCF c n mud car wal hol paid place 5))) (hC mud car wal hol paid rain place str bro pen swe dri n q) := by
  refine AMet.of (by decide) rfl ?_
  intro G hR hE hI
  refine AW.blk (amX0_crossingFact _) 0 1 (h' := hC mud car wal hol paid rain place str bro pen swe dri n q) (pc' := 1) (lv' := [(0, .ref 0), (1, .int c), (2, .int (nI 5))]) (st' := [.int c]) (L := []) rfl trivial ?_
  refine AW.callS (amX0_crossingFact _) 1 (kX1_isCrossing c) [] [] ykX1_isCrossing ysX1_isCrossing mlX0_65 rfl rfl rfl rfl hR ⟨Nat.le_of_ble_eq_true rfl, Nat.le_of_ble_eq_true rfl, Nat.le_of_ble_eq_true rfl, Nat.le_of_ble_eq_true rfl⟩ rfl rfl rfl rfl rfl (fun _ => rfl) (h1 := hC mud car wal hol paid rain place str bro pen swe dri n q) rfl (st' := [.int (sCr c)]) rfl ?_
  refine AW.br (amX0_crossingFact _) 2 (tgt := 9) (C := ¬ (sCr c) = 0) (C' := (sCr c) = 0) (st' := []) rfl rfl rfl (fun c1 => ?_) (fun c1 => absurd c1 hs)
  refine AW.blk (amX0_crossingFact _) 5 1 (h' := hC mud car wal hol paid rain place str bro pen swe dri n q) (pc' := 10) (lv' := [(0, .ref 0), (1, .int c), (2, .int (nI 5))]) (st' := [.int (nI 5)]) (L := []) rfl trivial ?_
  refine AW.swOut (tgt := 78) swX0_crossingFact_10 (by decide) rfl ?_
  refine AW.blk (amX0_crossingFact _) 30 4 (h' := hC mud car wal hol paid rain place str bro pen swe dri n q) (pc' := 84) (lv' := [(0, .ref 0), (1, .int c), (2, .int (nI 5))]) (st' := [.int (paid c.toNatClampNeg)]) (L := [vp_in c 9]) rfl (sCr_in c1) ?_
  exact AW.iretE (amX0_crossingFact _) 34 hE rfl rfl (by first | rfl | exact narrow_b _ (by decide)) rfl rfl (by simp only [sCF, if_neg c1]) rfl
theorem kX0_crossingFact (mud car wal hol paid rain place str bro pen swe dri : Nat → Int32) (n q : Int32) (c : Int32) (hs : ¬ sCr c = 0) : ∀ (w : Nat), w < 6 → AMet yX0_crossingFact cX0_crossingFact 3 (some .int) { frames := 1, cells := 0, slots := 0, locals := 23 } [.ref 0, .int c, .int (nI w)] (hC mud car wal hol paid rain place str bro pen swe dri n q) (some (.int (sCF c n mud car wal hol paid place w))) (hC mud car wal hol paid rain place str bro pen swe dri n q)
  | 0, _ => kX0_crossingFact_0 mud car wal hol paid rain place str bro pen swe dri n q c hs
  | 1, _ => kX0_crossingFact_1 mud car wal hol paid rain place str bro pen swe dri n q c hs
  | 2, _ => kX0_crossingFact_2 mud car wal hol paid rain place str bro pen swe dri n q c hs
  | 3, _ => kX0_crossingFact_3 mud car wal hol paid rain place str bro pen swe dri n q c hs
  | 4, _ => kX0_crossingFact_4 mud car wal hol paid rain place str bro pen swe dri n q c hs
  | 5, _ => kX0_crossingFact_5 mud car wal hol paid rain place str bro pen swe dri n q c hs
  | w + 6, h => absurd h (by omega)
set_option maxHeartbeats 1000000 in
theorem kX0_cityFact_0 (mud car wal hol paid rain place str bro pen swe dri : Nat → Int32) (n q : Int32)  : AMet yX0_cityFact cX0_cityFact 2 (some .int) { frames := 2, cells := 0, slots := 0, locals := 43 } [.ref 0, .int (nI 0)] (hC mud car wal hol paid rain place str bro pen swe dri n q) (some (.int (sGF n q mud hol pen swe dri 0))) (hC mud car wal hol paid rain place str bro pen swe dri n q) := by
  refine AMet.of (by decide) rfl ?_
  intro G hR hE hI
  refine AW.blk (amX0_cityFact _) 0 1 (h' := hC mud car wal hol paid rain place str bro pen swe dri n q) (pc' := 1) (lv' := [(0, .ref 0), (1, .int (nI 0))]) (st' := [.int (nI 0)]) (L := []) rfl trivial ?_
  refine AW.swIn (tgt := 44) (off := 43) swX0_cityFact_1 (by decide) (by decide) rfl rfl ?_
  refine AW.blk (amX0_cityFact _) 1 2 (h' := hC mud car wal hol paid rain place str bro pen swe dri n q) (pc' := 48) (lv' := [(0, .ref 0), (1, .int (nI 0))]) (st' := [.int q]) (L := []) rfl trivial ?_
  exact AW.iretE (amX0_cityFact _) 3 hE rfl rfl (by first | rfl | exact narrow_b _ (by decide)) rfl rfl (by simp only [sGF]) rfl
set_option maxHeartbeats 1000000 in
theorem kX0_cityFact_1 (mud car wal hol paid rain place str bro pen swe dri : Nat → Int32) (n q : Int32)  : AMet yX0_cityFact cX0_cityFact 2 (some .int) { frames := 2, cells := 0, slots := 0, locals := 43 } [.ref 0, .int (nI 1)] (hC mud car wal hol paid rain place str bro pen swe dri n q) (some (.int (sGF n q mud hol pen swe dri 1))) (hC mud car wal hol paid rain place str bro pen swe dri n q) := by
  refine AMet.of (by decide) rfl ?_
  intro G hR hE hI
  refine AW.blk (amX0_cityFact _) 0 1 (h' := hC mud car wal hol paid rain place str bro pen swe dri n q) (pc' := 1) (lv' := [(0, .ref 0), (1, .int (nI 1))]) (st' := [.int (nI 1)]) (L := []) rfl trivial ?_
  refine AW.swIn (tgt := 49) (off := 48) swX0_cityFact_1 (by decide) (by decide) rfl rfl ?_
  refine AW.blk (amX0_cityFact _) 4 2 (h' := hC mud car wal hol paid rain place str bro pen swe dri n q) (pc' := 53) (lv' := [(0, .ref 0), (1, .int (nI 1))]) (st' := [.int n]) (L := []) rfl trivial ?_
  exact AW.iretE (amX0_cityFact _) 6 hE rfl rfl (by first | rfl | exact narrow_b _ (by decide)) rfl rfl (by simp only [sGF]) rfl
set_option maxHeartbeats 1000000 in
theorem kX0_cityFact_2 (mud car wal hol paid rain place str bro pen swe dri : Nat → Int32) (n q : Int32)  : AMet yX0_cityFact cX0_cityFact 2 (some .int) { frames := 2, cells := 0, slots := 0, locals := 43 } [.ref 0, .int (nI 2)] (hC mud car wal hol paid rain place str bro pen swe dri n q) (some (.int (sGF n q mud hol pen swe dri 2))) (hC mud car wal hol paid rain place str bro pen swe dri n q) := by
  refine AMet.of (by decide) rfl ?_
  intro G hR hE hI
  refine AW.blk (amX0_cityFact _) 0 1 (h' := hC mud car wal hol paid rain place str bro pen swe dri n q) (pc' := 1) (lv' := [(0, .ref 0), (1, .int (nI 2))]) (st' := [.int (nI 2)]) (L := []) rfl trivial ?_
  refine AW.swIn (tgt := 54) (off := 53) swX0_cityFact_1 (by decide) (by decide) rfl rfl ?_
  refine AW.blk (amX0_cityFact _) 7 1 (h' := hC mud car wal hol paid rain place str bro pen swe dri n q) (pc' := 55) (lv' := [(0, .ref 0), (1, .int (nI 2))]) (st' := [.ref 0]) (L := []) rfl trivial ?_
  refine AW.callV (amX0_cityFact _) 8 (kX0_heldPitches mud car wal hol paid rain place str bro pen swe dri n q) rfl rfl [0, 1, 2, 3, 4, 5, 6, 7, 8, 9, 10, 11, 12] [] ykX0_heldPitches yiX0_heldPitches yvX0_heldPitches mlX0_114 rfl rfl rfl rfl hR ⟨Nat.le_of_ble_eq_true rfl, Nat.le_of_ble_eq_true rfl, Nat.le_of_ble_eq_true rfl, Nat.le_of_ble_eq_true rfl⟩ rfl rfl rfl rfl rfl (fun _ => rfl) (h1 := hC mud car wal hol paid rain place str bro pen swe dri n q) rfl (st' := [.int (sHeld n hol)]) rfl ?_
  exact AW.iretE (amX0_cityFact _) 9 hE rfl rfl (by first | rfl | exact narrow_b _ (by decide)) rfl rfl (by simp only [sGF]) rfl
set_option maxHeartbeats 1000000 in
theorem kX0_cityFact_3 (mud car wal hol paid rain place str bro pen swe dri : Nat → Int32) (n q : Int32)  : AMet yX0_cityFact cX0_cityFact 2 (some .int) { frames := 2, cells := 0, slots := 0, locals := 43 } [.ref 0, .int (nI 3)] (hC mud car wal hol paid rain place str bro pen swe dri n q) (some (.int (sGF n q mud hol pen swe dri 3))) (hC mud car wal hol paid rain place str bro pen swe dri n q) := by
  refine AMet.of (by decide) rfl ?_
  intro G hR hE hI
  refine AW.blk (amX0_cityFact _) 0 1 (h' := hC mud car wal hol paid rain place str bro pen swe dri n q) (pc' := 1) (lv' := [(0, .ref 0), (1, .int (nI 3))]) (st' := [.int (nI 3)]) (L := []) rfl trivial ?_
  refine AW.swIn (tgt := 59) (off := 58) swX0_cityFact_1 (by decide) (by decide) rfl rfl ?_
  refine AW.blk (amX0_cityFact _) 10 1 (h' := hC mud car wal hol paid rain place str bro pen swe dri n q) (pc' := 60) (lv' := [(0, .ref 0), (1, .int (nI 3))]) (st' := [.ref 0]) (L := []) rfl trivial ?_
  refine AW.callV (amX0_cityFact _) 11 (kX0_allMud mud car wal hol paid rain place str bro pen swe dri n q) rfl rfl [0, 1, 2, 3, 4, 5, 6, 7, 8, 9, 10, 11, 12] [] ykX0_allMud yiX0_allMud yvX0_allMud mlX0_117 rfl rfl rfl rfl hR ⟨Nat.le_of_ble_eq_true rfl, Nat.le_of_ble_eq_true rfl, Nat.le_of_ble_eq_true rfl, Nat.le_of_ble_eq_true rfl⟩ rfl rfl rfl rfl rfl (fun _ => rfl) (h1 := hC mud car wal hol paid rain place str bro pen swe dri n q) rfl (st' := [.int (sSum mud 9)]) rfl ?_
  exact AW.iretE (amX0_cityFact _) 12 hE rfl rfl (by first | rfl | exact narrow_b _ (by decide)) rfl rfl (by simp only [sGF]) rfl
set_option maxHeartbeats 1000000 in
theorem kX0_cityFact_4 (mud car wal hol paid rain place str bro pen swe dri : Nat → Int32) (n q : Int32)  : AMet yX0_cityFact cX0_cityFact 2 (some .int) { frames := 2, cells := 0, slots := 0, locals := 43 } [.ref 0, .int (nI 4)] (hC mud car wal hol paid rain place str bro pen swe dri n q) (some (.int (sGF n q mud hol pen swe dri 4))) (hC mud car wal hol paid rain place str bro pen swe dri n q) := by
  refine AMet.of (by decide) rfl ?_
  intro G hR hE hI
  refine AW.blk (amX0_cityFact _) 0 1 (h' := hC mud car wal hol paid rain place str bro pen swe dri n q) (pc' := 1) (lv' := [(0, .ref 0), (1, .int (nI 4))]) (st' := [.int (nI 4)]) (L := []) rfl trivial ?_
  refine AW.swIn (tgt := 64) (off := 63) swX0_cityFact_1 (by decide) (by decide) rfl rfl ?_
  refine AW.blk (amX0_cityFact _) 13 2 (h' := hC mud car wal hol paid rain place str bro pen swe dri n q) (pc' := 68) (lv' := [(0, .ref 0), (1, .int (nI 4))]) (st' := [.ref 10]) (L := []) rfl trivial ?_
  refine AW.callS (amX0_cityFact _) 15 (kX0_sum_8 pen) [10] [] ykX0_sum ysX0_sum mlX0_120 rfl rfl rfl rfl hR ⟨Nat.le_of_ble_eq_true rfl, Nat.le_of_ble_eq_true rfl, Nat.le_of_ble_eq_true rfl, Nat.le_of_ble_eq_true rfl⟩ rfl rfl rfl rfl rfl (fun _ => rfl) (h1 := hC mud car wal hol paid rain place str bro pen swe dri n q) rfl (st' := [.int (sSum pen 8)]) rfl ?_
  exact AW.iretE (amX0_cityFact _) 16 hE rfl rfl (by first | rfl | exact narrow_b _ (by decide)) rfl rfl (by simp only [sGF]) rfl
set_option maxHeartbeats 1000000 in
theorem kX0_cityFact_5 (mud car wal hol paid rain place str bro pen swe dri : Nat → Int32) (n q : Int32)  : AMet yX0_cityFact cX0_cityFact 2 (some .int) { frames := 2, cells := 0, slots := 0, locals := 43 } [.ref 0, .int (nI 5)] (hC mud car wal hol paid rain place str bro pen swe dri n q) (some (.int (sGF n q mud hol pen swe dri 5))) (hC mud car wal hol paid rain place str bro pen swe dri n q) := by
  refine AMet.of (by decide) rfl ?_
  intro G hR hE hI
  refine AW.blk (amX0_cityFact _) 0 1 (h' := hC mud car wal hol paid rain place str bro pen swe dri n q) (pc' := 1) (lv' := [(0, .ref 0), (1, .int (nI 5))]) (st' := [.int (nI 5)]) (L := []) rfl trivial ?_
  refine AW.swIn (tgt := 72) (off := 71) swX0_cityFact_1 (by decide) (by decide) rfl rfl ?_
  refine AW.blk (amX0_cityFact _) 17 1 (h' := hC mud car wal hol paid rain place str bro pen swe dri n q) (pc' := 73) (lv' := [(0, .ref 0), (1, .int (nI 5))]) (st' := [.ref 0]) (L := []) rfl trivial ?_
  refine AW.callV (amX0_cityFact _) 18 (kX0_cleanCrossings mud car wal hol paid rain place str bro pen swe dri n q) rfl rfl [0, 1, 2, 3, 4, 5, 6, 7, 8, 9, 10, 11, 12] [] ykX0_cleanCrossings yiX0_cleanCrossings yvX0_cleanCrossings mlX0_124 rfl rfl rfl rfl hR ⟨Nat.le_of_ble_eq_true rfl, Nat.le_of_ble_eq_true rfl, Nat.le_of_ble_eq_true rfl, Nat.le_of_ble_eq_true rfl⟩ rfl rfl rfl rfl rfl (fun _ => rfl) (h1 := hC mud car wal hol paid rain place str bro pen swe dri n q) rfl (st' := [.int (sClean mud)]) rfl ?_
  exact AW.iretE (amX0_cityFact _) 19 hE rfl rfl (by first | rfl | exact narrow_b _ (by decide)) rfl rfl (by simp only [sGF]) rfl
set_option maxHeartbeats 1000000 in
theorem kX0_cityFact_6 (mud car wal hol paid rain place str bro pen swe dri : Nat → Int32) (n q : Int32)  : AMet yX0_cityFact cX0_cityFact 2 (some .int) { frames := 2, cells := 0, slots := 0, locals := 43 } [.ref 0, .int (nI 6)] (hC mud car wal hol paid rain place str bro pen swe dri n q) (some (.int (sGF n q mud hol pen swe dri 6))) (hC mud car wal hol paid rain place str bro pen swe dri n q) := by
  refine AMet.of (by decide) rfl ?_
  intro G hR hE hI
  refine AW.blk (amX0_cityFact _) 0 1 (h' := hC mud car wal hol paid rain place str bro pen swe dri n q) (pc' := 1) (lv' := [(0, .ref 0), (1, .int (nI 6))]) (st' := [.int (nI 6)]) (L := []) rfl trivial ?_
  refine AW.swIn (tgt := 77) (off := 76) swX0_cityFact_1 (by decide) (by decide) rfl rfl ?_
  refine AW.blk (amX0_cityFact _) 20 2 (h' := hC mud car wal hol paid rain place str bro pen swe dri n q) (pc' := 81) (lv' := [(0, .ref 0), (1, .int (nI 6))]) (st' := [.ref 11]) (L := []) rfl trivial ?_
  refine AW.callS (amX0_cityFact _) 22 (kX0_sum_8 swe) [11] [] ykX0_sum ysX0_sum mlX0_120 rfl rfl rfl rfl hR ⟨Nat.le_of_ble_eq_true rfl, Nat.le_of_ble_eq_true rfl, Nat.le_of_ble_eq_true rfl, Nat.le_of_ble_eq_true rfl⟩ rfl rfl rfl rfl rfl (fun _ => rfl) (h1 := hC mud car wal hol paid rain place str bro pen swe dri n q) rfl (st' := [.int (sSum swe 8)]) rfl ?_
  exact AW.iretE (amX0_cityFact _) 23 hE rfl rfl (by first | rfl | exact narrow_b _ (by decide)) rfl rfl (by simp only [sGF]) rfl
set_option maxHeartbeats 1000000 in
theorem kX0_cityFact_7 (mud car wal hol paid rain place str bro pen swe dri : Nat → Int32) (n q : Int32)  : AMet yX0_cityFact cX0_cityFact 2 (some .int) { frames := 2, cells := 0, slots := 0, locals := 43 } [.ref 0, .int (nI 7)] (hC mud car wal hol paid rain place str bro pen swe dri n q) (some (.int (sGF n q mud hol pen swe dri 7))) (hC mud car wal hol paid rain place str bro pen swe dri n q) := by
  refine AMet.of (by decide) rfl ?_
  intro G hR hE hI
  refine AW.blk (amX0_cityFact _) 0 1 (h' := hC mud car wal hol paid rain place str bro pen swe dri n q) (pc' := 1) (lv' := [(0, .ref 0), (1, .int (nI 7))]) (st' := [.int (nI 7)]) (L := []) rfl trivial ?_
  refine AW.swOut (tgt := 85) swX0_cityFact_1 (by decide) rfl ?_
  refine AW.blk (amX0_cityFact _) 24 2 (h' := hC mud car wal hol paid rain place str bro pen swe dri n q) (pc' := 89) (lv' := [(0, .ref 0), (1, .int (nI 7))]) (st' := [.ref 12]) (L := []) rfl trivial ?_
  refine AW.callS (amX0_cityFact _) 26 (kX0_sum_8 dri) [12] [] ykX0_sum ysX0_sum mlX0_120 rfl rfl rfl rfl hR ⟨Nat.le_of_ble_eq_true rfl, Nat.le_of_ble_eq_true rfl, Nat.le_of_ble_eq_true rfl, Nat.le_of_ble_eq_true rfl⟩ rfl rfl rfl rfl rfl (fun _ => rfl) (h1 := hC mud car wal hol paid rain place str bro pen swe dri n q) rfl (st' := [.int (sSum dri 8)]) rfl ?_
  exact AW.iretE (amX0_cityFact _) 27 hE rfl rfl (by first | rfl | exact narrow_b _ (by decide)) rfl rfl (by simp only [sGF]) rfl
theorem kX0_cityFact (mud car wal hol paid rain place str bro pen swe dri : Nat → Int32) (n q : Int32)  : ∀ (w : Nat), w < 8 → AMet yX0_cityFact cX0_cityFact 2 (some .int) { frames := 2, cells := 0, slots := 0, locals := 43 } [.ref 0, .int (nI w)] (hC mud car wal hol paid rain place str bro pen swe dri n q) (some (.int (sGF n q mud hol pen swe dri w))) (hC mud car wal hol paid rain place str bro pen swe dri n q)
  | 0, _ => kX0_cityFact_0 mud car wal hol paid rain place str bro pen swe dri n q 
  | 1, _ => kX0_cityFact_1 mud car wal hol paid rain place str bro pen swe dri n q 
  | 2, _ => kX0_cityFact_2 mud car wal hol paid rain place str bro pen swe dri n q 
  | 3, _ => kX0_cityFact_3 mud car wal hol paid rain place str bro pen swe dri n q 
  | 4, _ => kX0_cityFact_4 mud car wal hol paid rain place str bro pen swe dri n q 
  | 5, _ => kX0_cityFact_5 mud car wal hol paid rain place str bro pen swe dri n q 
  | 6, _ => kX0_cityFact_6 mud car wal hol paid rain place str bro pen swe dri n q 
  | 7, _ => kX0_cityFact_7 mud car wal hol paid rain place str bro pen swe dri n q 
  | w + 8, h => absurd h (by omega)
