/-- neighbour -/
def sNb (c : Int32) : Nat → Int32
  | 0 => if c - c / 3 * 3 ≤ 0 then -1 else c - 1
  | 1 => if 2 ≤ c - c / 3 * 3 then -1 else c + 1
  | 2 => if c < 3 then -1 else c - 3
  | _ => if 6 ≤ c then -1 else c + 3
set_option maxHeartbeats 1000000 in
theorem kX1_neighbour_0 (c : Int32) : AMet yX1_neighbour cX1_neighbour 2 (some .int) { frames := 0, cells := 0, slots := 0, locals := 0 } [.int c, .int (nI 0)] ([]) (some (.int (sNb c 0))) ([]) := by
  refine AMet.of (by decide) rfl ?_
  intro G hR hE hI
  refine AW.blk (amX1_neighbour _) 0 1 (h' := []) (pc' := 1) (lv' := [(0, .int c), (1, .int (nI 0))]) (st' := [.int (nI 0)]) (L := []) rfl trivial ?_
  refine AW.swIn (tgt := 28) (off := 27) swX1_neighbour_1 (by decide) (by decide) rfl rfl ?_
  refine AW.blk (amX1_neighbour _) 1 3 (h' := []) (pc' := 31) (lv' := [(0, .int c), (1, .int (nI 0))]) (st' := [.int (c - c / 3 * 3)]) (L := [¬ 3 = 0]) rfl (show ¬ (3 : Int32) = 0 by decide) ?_
  refine AW.br (amX1_neighbour _) 4 (tgt := 40) (C := (c - c / 3 * 3) ≤ 0) (C' := ¬ (c - c / 3 * 3) ≤ 0) (st' := []) rfl rfl rfl (fun c1 => ?_) (fun c1 => ?_)
  · refine AW.blk (amX1_neighbour _) 9 1 (h' := []) (pc' := 41) (lv' := [(0, .int c), (1, .int (nI 0))]) (st' := [.int ((-1))]) (L := []) rfl trivial ?_
    exact AW.iretE (amX1_neighbour _) 10 hE rfl rfl (by first | rfl | exact narrow_b _ (by decide)) rfl rfl (by simp only [sNb, if_pos c1]) rfl
  · refine AW.blk (amX1_neighbour _) 5 4 (h' := []) (pc' := 41) (lv' := [(0, .int c), (1, .int (nI 0))]) (st' := [.int (c - 1)]) (L := []) rfl trivial ?_
    exact AW.iretE (amX1_neighbour _) 10 hE rfl rfl (by first | rfl | exact narrow_b _ (by decide)) rfl rfl (by simp only [sNb, if_neg c1]) rfl
set_option maxHeartbeats 1000000 in
theorem kX1_neighbour_1 (c : Int32) : AMet yX1_neighbour cX1_neighbour 2 (some .int) { frames := 0, cells := 0, slots := 0, locals := 0 } [.int c, .int (nI 1)] ([]) (some (.int (sNb c 1))) ([]) := by
  refine AMet.of (by decide) rfl ?_
  intro G hR hE hI
  refine AW.blk (amX1_neighbour _) 0 1 (h' := []) (pc' := 1) (lv' := [(0, .int c), (1, .int (nI 1))]) (st' := [.int (nI 1)]) (L := []) rfl trivial ?_
  refine AW.swIn (tgt := 42) (off := 41) swX1_neighbour_1 (by decide) (by decide) rfl rfl ?_
  refine AW.blk (amX1_neighbour _) 11 4 (h' := []) (pc' := 46) (lv' := [(0, .int c), (1, .int (nI 1))]) (st' := [.int 2, .int (c - c / 3 * 3)]) (L := [¬ 3 = 0]) rfl (show ¬ (3 : Int32) = 0 by decide) ?_
  refine AW.br (amX1_neighbour _) 15 (tgt := 55) (C := 2 ≤ (c - c / 3 * 3)) (C' := ¬ 2 ≤ (c - c / 3 * 3)) (st' := []) rfl rfl rfl (fun c1 => ?_) (fun c1 => ?_)
  · refine AW.blk (amX1_neighbour _) 20 1 (h' := []) (pc' := 56) (lv' := [(0, .int c), (1, .int (nI 1))]) (st' := [.int ((-1))]) (L := []) rfl trivial ?_
    exact AW.iretE (amX1_neighbour _) 21 hE rfl rfl (by first | rfl | exact narrow_b _ (by decide)) rfl rfl (by simp only [sNb, if_pos c1]) rfl
  · refine AW.blk (amX1_neighbour _) 16 4 (h' := []) (pc' := 56) (lv' := [(0, .int c), (1, .int (nI 1))]) (st' := [.int (c + 1)]) (L := []) rfl trivial ?_
    exact AW.iretE (amX1_neighbour _) 21 hE rfl rfl (by first | rfl | exact narrow_b _ (by decide)) rfl rfl (by simp only [sNb, if_neg c1]) rfl
set_option maxHeartbeats 1000000 in
theorem kX1_neighbour_2 (c : Int32) : AMet yX1_neighbour cX1_neighbour 2 (some .int) { frames := 0, cells := 0, slots := 0, locals := 0 } [.int c, .int (nI 2)] ([]) (some (.int (sNb c 2))) ([]) := by
  refine AMet.of (by decide) rfl ?_
  intro G hR hE hI
  refine AW.blk (amX1_neighbour _) 0 1 (h' := []) (pc' := 1) (lv' := [(0, .int c), (1, .int (nI 2))]) (st' := [.int (nI 2)]) (L := []) rfl trivial ?_
  refine AW.swIn (tgt := 57) (off := 56) swX1_neighbour_1 (by decide) (by decide) rfl rfl ?_
  refine AW.blk (amX1_neighbour _) 22 2 (h' := []) (pc' := 59) (lv' := [(0, .int c), (1, .int (nI 2))]) (st' := [.int 3, .int c]) (L := []) rfl trivial ?_
  refine AW.br (amX1_neighbour _) 24 (tgt := 68) (C := c < 3) (C' := ¬ c < 3) (st' := []) rfl rfl rfl (fun c1 => ?_) (fun c1 => ?_)
  · refine AW.blk (amX1_neighbour _) 29 1 (h' := []) (pc' := 69) (lv' := [(0, .int c), (1, .int (nI 2))]) (st' := [.int ((-1))]) (L := []) rfl trivial ?_
    exact AW.iretE (amX1_neighbour _) 30 hE rfl rfl (by first | rfl | exact narrow_b _ (by decide)) rfl rfl (by simp only [sNb, if_pos c1]) rfl
  · refine AW.blk (amX1_neighbour _) 25 4 (h' := []) (pc' := 69) (lv' := [(0, .int c), (1, .int (nI 2))]) (st' := [.int (c - 3)]) (L := []) rfl trivial ?_
    exact AW.iretE (amX1_neighbour _) 30 hE rfl rfl (by first | rfl | exact narrow_b _ (by decide)) rfl rfl (by simp only [sNb, if_neg c1]) rfl
set_option maxHeartbeats 1000000 in
theorem kX1_neighbour_3 (c : Int32) : AMet yX1_neighbour cX1_neighbour 2 (some .int) { frames := 0, cells := 0, slots := 0, locals := 0 } [.int c, .int (nI 3)] ([]) (some (.int (sNb c 3))) ([]) := by
  refine AMet.of (by decide) rfl ?_
  intro G hR hE hI
  refine AW.blk (amX1_neighbour _) 0 1 (h' := []) (pc' := 1) (lv' := [(0, .int c), (1, .int (nI 3))]) (st' := [.int (nI 3)]) (L := []) rfl trivial ?_
  refine AW.swOut (tgt := 70) swX1_neighbour_1 (by decide) rfl ?_
  refine AW.blk (amX1_neighbour _) 31 2 (h' := []) (pc' := 73) (lv' := [(0, .int c), (1, .int (nI 3))]) (st' := [.int 6, .int c]) (L := []) rfl trivial ?_
  refine AW.br (amX1_neighbour _) 33 (tgt := 82) (C := 6 ≤ c) (C' := ¬ 6 ≤ c) (st' := []) rfl rfl rfl (fun c1 => ?_) (fun c1 => ?_)
  · refine AW.blk (amX1_neighbour _) 38 1 (h' := []) (pc' := 83) (lv' := [(0, .int c), (1, .int (nI 3))]) (st' := [.int ((-1))]) (L := []) rfl trivial ?_
    exact AW.iretE (amX1_neighbour _) 39 hE rfl rfl (by first | rfl | exact narrow_b _ (by decide)) rfl rfl (by simp only [sNb, if_pos c1]) rfl
  · refine AW.blk (amX1_neighbour _) 34 4 (h' := []) (pc' := 83) (lv' := [(0, .int c), (1, .int (nI 3))]) (st' := [.int (c + 3)]) (L := []) rfl trivial ?_
    exact AW.iretE (amX1_neighbour _) 39 hE rfl rfl (by first | rfl | exact narrow_b _ (by decide)) rfl rfl (by simp only [sNb, if_neg c1]) rfl
theorem kX1_neighbour (c : Int32) : ∀ (d : Nat), d < 4 → AMet yX1_neighbour cX1_neighbour 2 (some .int) { frames := 0, cells := 0, slots := 0, locals := 0 } [.int c, .int (nI d)] [] (some (.int (sNb c d))) []
  | 0, _ => kX1_neighbour_0 c
  | 1, _ => kX1_neighbour_1 c
  | 2, _ => kX1_neighbour_2 c
  | 3, _ => kX1_neighbour_3 c
  | n + 4, h => absurd h (by omega)
/-- busiestNeighbour -/
def sBN1 (c : Int32) (wal : Nat → Int32) (d : Nat) (a : Int32 × Int32) : Int32 × Int32 := if sCr (sNb c d) = 0 then a else if wal (sNb c d).toNatClampNeg ≤ a.2 then a else (sNb c d, wal (sNb c d).toNatClampNeg)
def sBN (c : Int32) (wal : Nat → Int32) : Int32 := (lpN (sBN1 c wal) 4 0 (c, -1)).1
set_option maxHeartbeats 1000000 in
theorem kX0_busiestNeighbour (mud car wal hol paid rain place str bro pen swe dri : Nat → Int32) (n q : Int32) (c : Int32) : AMet yX0_busiestNeighbour cX0_busiestNeighbour 6 (some .int) { frames := 1, cells := 0, slots := 0, locals := 21 } [.ref 0, .int c] (hC mud car wal hol paid rain place str bro pen swe dri n q) (some (.int (sBN c wal))) (hC mud car wal hol paid rain place str bro pen swe dri n q) := by
  refine AMet.of (by decide) rfl ?_
  intro G hR hE hI
  have E : ∀ (b m : Int32), (b, m) = lpN (sBN1 c wal) 4 0 (c, -1) → AW G (yX0_busiestNeighbour.cls, cX0_busiestNeighbour, 6, 13) (hC mud car wal hol paid rain place str bro pen swe dri n q) 0 0 57 [(1, .int c), (2, .int b), (3, .int m), (0, .ref 0)] [] := by
    intro b m hf
    refine AW.blk (amX0_busiestNeighbour _) 31 1 (h' := hC mud car wal hol paid rain place str bro pen swe dri n q) (pc' := 58) (lv' := [(1, .int c), (2, .int b), (3, .int m), (0, .ref 0)]) (st' := [.int b]) (L := []) rfl trivial ?_
    exact AW.iretE (amX0_busiestNeighbour _) 32 hE rfl rfl (by first | rfl | exact narrow_b _ (by decide)) rfl rfl (by rw [sBN, ← hf]) (by first | rfl | (rw [sBN, ← hf]))
  have K : ∀ (k i : Nat) (b : Int32) (m : Int32), i + k = 4 → lpN (sBN1 c wal) k i (b, m) = lpN (sBN1 c wal) 4 0 (c, -1) → AW G (yX0_busiestNeighbour.cls, cX0_busiestNeighbour, 6, 13) (hC mud car wal hol paid rain place str bro pen swe dri n q) 0 0 7 [(4, .int (nI i)), (1, .int c), (2, .int b), (3, .int m), (0, .ref 0)] [] := by
    intro k
    induction k with
    | zero =>
      intro i b m hi hf
      refine AW.blk (amX0_busiestNeighbour _) 6 2 (h' := hC mud car wal hol paid rain place str bro pen swe dri n q) (pc' := 10) (lv' := [(4, .int (nI i)), (1, .int c), (2, .int b), (3, .int m), (0, .ref 0)]) (st' := [.int 4, .int (nI i)]) (L := []) rfl trivial ?_
      refine AW.br (amX0_busiestNeighbour _) 8 (tgt := 57) (C := 4 ≤ (nI i)) (C' := ¬ 4 ≤ (nI i)) (st' := []) rfl rfl rfl (fun c1 => ?_) (fun c1 => absurd (nI_le (a := 4) (b := i) (by omega) (by omega)) c1)
      refine AW.pick [1, 2, 3, 4] (lv' := [(1, .int c), (2, .int b), (3, .int m), (0, .ref 0)]) rfl ?_
      exact E _ _ hf
    | succ k ih =>
      intro i b m hi hf
      refine AW.blk (amX0_busiestNeighbour _) 6 2 (h' := hC mud car wal hol paid rain place str bro pen swe dri n q) (pc' := 10) (lv' := [(4, .int (nI i)), (1, .int c), (2, .int b), (3, .int m), (0, .ref 0)]) (st' := [.int 4, .int (nI i)]) (L := []) rfl trivial ?_
      refine AW.br (amX0_busiestNeighbour _) 8 (tgt := 57) (C := 4 ≤ (nI i)) (C' := ¬ 4 ≤ (nI i)) (st' := []) rfl rfl rfl (fun c1 => absurd c1 (nI_ge (a := i) (b := 4) (by omega) (by decide))) (fun c1 => ?_)
      refine AW.blk (amX0_busiestNeighbour _) 9 2 (h' := hC mud car wal hol paid rain place str bro pen swe dri n q) (pc' := 16) (lv' := [(4, .int (nI i)), (1, .int c), (2, .int b), (3, .int m), (0, .ref 0)]) (st' := [.int (nI i), .int c]) (L := []) rfl trivial ?_
      refine AW.callS (amX0_busiestNeighbour _) 11 (kX1_neighbour c i (by omega)) [] [] ykX1_neighbour ysX1_neighbour mlX0_108 rfl rfl rfl rfl hR ⟨Nat.le_of_ble_eq_true rfl, Nat.le_of_ble_eq_true rfl, Nat.le_of_ble_eq_true rfl, Nat.le_of_ble_eq_true rfl⟩ rfl rfl rfl rfl rfl (fun _ => rfl) (h1 := hC mud car wal hol paid rain place str bro pen swe dri n q) rfl (st' := [.int (sNb c i)]) rfl ?_
      refine AW.blk (amX0_busiestNeighbour _) 12 2 (h' := hC mud car wal hol paid rain place str bro pen swe dri n q) (pc' := 23) (lv' := [(5, .int (sNb c i)), (4, .int (nI i)), (1, .int c), (2, .int b), (3, .int m), (0, .ref 0)]) (st' := [.int (sNb c i)]) (L := []) rfl trivial ?_
      refine AW.callS (amX0_busiestNeighbour _) 14 (kX1_isCrossing (sNb c i)) [] [] ykX1_isCrossing ysX1_isCrossing mlX0_65 rfl rfl rfl rfl hR ⟨Nat.le_of_ble_eq_true rfl, Nat.le_of_ble_eq_true rfl, Nat.le_of_ble_eq_true rfl, Nat.le_of_ble_eq_true rfl⟩ rfl rfl rfl rfl rfl (fun _ => rfl) (h1 := hC mud car wal hol paid rain place str bro pen swe dri n q) rfl (st' := [.int (sCr (sNb c i))]) rfl ?_
      refine AW.br (amX0_busiestNeighbour _) 15 (tgt := 51) (C := (sCr (sNb c i)) = 0) (C' := ¬ (sCr (sNb c i)) = 0) (st' := []) rfl rfl rfl (fun c2 => ?_) (fun c2 => ?_)
      · refine AW.blk (amX0_busiestNeighbour _) 29 2 (h' := hC mud car wal hol paid rain place str bro pen swe dri n q) (pc' := 7) (lv' := [(4, .int ((nI i) + 1)), (5, .int (sNb c i)), (1, .int c), (2, .int b), (3, .int m), (0, .ref 0)]) (st' := []) (L := []) rfl trivial ?_
        refine AW.pick [0, 2, 3, 4, 5] (lv' := [(4, .int ((nI i) + 1)), (1, .int c), (2, .int b), (3, .int m), (0, .ref 0)]) rfl ?_
        rw [nI_1 i]
        exact ih (i + 1) _ _ (by omega) (by rw [← hf]; simp only [lpN, sBN1, if_neg c1, if_pos c2])
      · refine AW.blk (amX0_busiestNeighbour _) 16 5 (h' := hC mud car wal hol paid rain place str bro pen swe dri n q) (pc' := 37) (lv' := [(5, .int (sNb c i)), (4, .int (nI i)), (1, .int c), (2, .int b), (3, .int m), (0, .ref 0)]) (st' := [.int m, .int (wal (sNb c i).toNatClampNeg)]) (L := [vp_in (sNb c i) 9]) rfl (sCr_in c2) ?_
        refine AW.br (amX0_busiestNeighbour _) 21 (tgt := 51) (C := (wal (sNb c i).toNatClampNeg) ≤ m) (C' := ¬ (wal (sNb c i).toNatClampNeg) ≤ m) (st' := []) rfl rfl rfl (fun c3 => ?_) (fun c3 => ?_)
        · refine AW.blk (amX0_busiestNeighbour _) 29 2 (h' := hC mud car wal hol paid rain place str bro pen swe dri n q) (pc' := 7) (lv' := [(4, .int ((nI i) + 1)), (5, .int (sNb c i)), (1, .int c), (2, .int b), (3, .int m), (0, .ref 0)]) (st' := []) (L := []) rfl trivial ?_
          refine AW.pick [0, 2, 3, 4, 5] (lv' := [(4, .int ((nI i) + 1)), (1, .int c), (2, .int b), (3, .int m), (0, .ref 0)]) rfl ?_
          rw [nI_1 i]
          exact ih (i + 1) _ _ (by omega) (by rw [← hf]; simp only [lpN, sBN1, if_neg c1, if_neg c2, if_pos c3])
        · refine AW.blk (amX0_busiestNeighbour _) 22 9 (h' := hC mud car wal hol paid rain place str bro pen swe dri n q) (pc' := 7) (lv' := [(4, .int ((nI i) + 1)), (2, .int (sNb c i)), (3, .int (wal (sNb c i).toNatClampNeg)), (5, .int (sNb c i)), (1, .int c), (0, .ref 0)]) (st' := []) (L := [vp_in (sNb c i) 9]) rfl (sCr_in c2) ?_
          refine AW.pick [0, 4, 1, 2, 5] (lv' := [(4, .int ((nI i) + 1)), (1, .int c), (2, .int (sNb c i)), (3, .int (wal (sNb c i).toNatClampNeg)), (0, .ref 0)]) rfl ?_
          rw [nI_1 i]
          exact ih (i + 1) _ _ (by omega) (by rw [← hf]; simp only [lpN, sBN1, if_neg c1, if_neg c2, if_neg c3])
  refine AW.blk (amX0_busiestNeighbour _) 0 6 (h' := hC mud car wal hol paid rain place str bro pen swe dri n q) (pc' := 7) (lv' := [(4, .int 0), (3, .int ((-1))), (2, .int c), (0, .ref 0), (1, .int c)]) (st' := []) (L := []) rfl trivial ?_
  refine AW.pick [0, 4, 2, 1, 3] (lv' := [(4, .int 0), (1, .int c), (2, .int c), (3, .int ((-1))), (0, .ref 0)]) rfl ?_
  exact K 4 0 c (-1) rfl rfl
