/-! ===== the reference: quarters, held, sums, copies, its checks ===== -/
theorem sHe1_m {N i : Nat} {hol : Nat → Int32} {a : Int32} (hN : N ≤ 8) (hi : i < 9) (hH : vH N hol) : sHe1 (nI N) hol i a = if hol (nI i).toNatClampNeg = -1 then a + 0 else a + 1 := by
  unfold sHe1
  by_cases h : hol (nI i).toNatClampNeg = -1
  · rw [if_pos h, if_pos (by rw [h]; exact swM _), Int32.add_zero]
  · rw [if_neg h, if_neg (vHsw hN hH (vpi hi rfl) h)]
theorem sLive_N {T : Nat} (hT : T ≤ 96) (C : CS) : sLive (nI T) C = lpN sLv1 T 0 (0, C) := lpS_N _ _ hT (by decide)
theorem VC_lv {B : Nat} (i : Nat) {a : Int32 × CS} (h : VC (B + i) a.2) : VC (B + (i + 1)) (sLv1 i a).2 := VC_Q h
set_option maxHeartbeats 2000000 in
theorem kX2_pass_ (th : Int32) (B T : Nat) (C : CS) (hV : VC B C) (hT : T ≤ 96) (hB : B + 96 < 2 ^ 31) : AMet yX2_pass_ cX2_pass_ 4 (some .int) { frames := 4, cells := 0, slots := 0, locals := 91 } [.ref 0, .int (nI T)] (hSt th C) (some (.int (sLive (nI T) C).1)) (hSt th (sLive (nI T) C).2) := by
  refine AMet.of (by decide) rfl ?_
  intro G hR hE hI
  have E : ∀ (all : Int32) (D : CS), (all, D) = sLive (nI T) C → AW G (yX2_pass_.cls, cX2_pass_, 4, 14) (hSt th D) 0 0 22 [(2, .int all), (0, .ref 0)] [] := by
    intro all D hf
    refine AW.blk (amX2_pass_ _) 14 1 (h' := hSt th D) (pc' := 23) (lv' := [(2, .int all), (0, .ref 0)]) (st' := [.int all]) (L := []) rfl trivial ?_
    exact AW.iretE (amX2_pass_ _) 15 hE rfl rfl rfl rfl rfl (by rw [← hf]) (by rw [← hf])
  have K : ∀ (k i : Nat) (all : Int32) (D : CS), VC (B + i) D → i + k = T → lpN sLv1 k i (all, D) = sLive (nI T) C → AW G (yX2_pass_.cls, cX2_pass_, 4, 14) (hSt th D) 0 0 4 [(3, .int (nI i)), (2, .int all), (1, .int (nI T)), (0, .ref 0)] [] := by
    intro k
    induction k with
    | zero =>
      intro i all D hD hi hf
      refine AW.blk (amX2_pass_ _) 4 2 (h' := hSt th D) (pc' := 6) (lv' := [(3, .int (nI i)), (2, .int all), (1, .int (nI T)), (0, .ref 0)]) (st' := [.int (nI T), .int (nI i)]) (L := []) rfl trivial ?_
      refine AW.br (amX2_pass_ _) 6 (tgt := 22) (C := (nI T) ≤ (nI i)) (C' := ¬ (nI T) ≤ (nI i)) (st' := []) rfl rfl rfl (fun c1 => ?_) (fun c1 => absurd (nI_le (a := T) (b := i) (by omega) (by omega)) c1)
      refine AW.pick [1, 3] (lv' := [(2, .int all), (0, .ref 0)]) rfl ?_
      exact E _ _ hf
    | succ k ih =>
      intro i all D hD hi hf
      refine AW.blk (amX2_pass_ _) 4 2 (h' := hSt th D) (pc' := 6) (lv' := [(3, .int (nI i)), (2, .int all), (1, .int (nI T)), (0, .ref 0)]) (st' := [.int (nI T), .int (nI i)]) (L := []) rfl trivial ?_
      refine AW.br (amX2_pass_ _) 6 (tgt := 22) (C := (nI T) ≤ (nI i)) (C' := ¬ (nI T) ≤ (nI i)) (st' := []) rfl rfl rfl (fun c1 => absurd c1 (nI_ge (a := i) (b := T) (by omega) (by omega))) (fun c1 => ?_)
      refine AW.blk (amX2_pass_ _) 7 2 (h' := hSt th D) (pc' := 11) (lv' := [(3, .int (nI i)), (2, .int all), (1, .int (nI T)), (0, .ref 0)]) (st' := [.ref 0, .int all]) (L := []) rfl trivial ?_
      refine AW.callV (amX2_pass_ _) 9 (kQm th D hD (by omega)) rfl rfl [0, 1, 2, 3, 4, 5, 6, 7, 8, 9, 10, 11, 12, 13] [100, 101, 102] ykX2_pass yiX2_pass yvX2_pass mlX2_99 rfl rfl rfl rfl hR ⟨Nat.le_of_ble_eq_true rfl, Nat.le_of_ble_eq_true rfl, Nat.le_of_ble_eq_true rfl, Nat.le_of_ble_eq_true rfl⟩ rfl rfl rfl rfl rfl (fun _ => rfl) (h1 := hSt th ((sQ D).2)) rfl (st' := [.int ((sQ D).1), .int all]) rfl ?_
      refine AW.blk (amX2_pass_ _) 10 4 (h' := hSt th ((sQ D).2)) (pc' := 4) (lv' := [(3, .int ((nI i) + 1)), (2, .int (all + ((sQ D).1))), (1, .int (nI T)), (0, .ref 0)]) (st' := []) (L := []) rfl trivial ?_
      rw [nI_1 i]
      exact ih (i + 1) _ _ (VC_Q hD) (by omega) (by rw [← hf]; simp only [lpN, sLv1, if_neg c1])
  refine AW.blk (amX2_pass_ _) 0 4 (h' := hSt th C) (pc' := 4) (lv' := [(3, .int 0), (2, .int 0), (0, .ref 0), (1, .int (nI T))]) (st' := []) (L := []) rfl trivial ?_
  refine AW.pick [0, 1, 3, 2] (lv' := [(3, .int 0), (2, .int 0), (1, .int (nI T)), (0, .ref 0)]) rfl ?_
  exact K T 0 0 C hV (by omega) (by rw [sLive_N hT])
set_option maxHeartbeats 2000000 in
theorem kX2_held (th : Int32) (mud car wal hol paid rain place str bro pen swe dri : Nat → Int32) (N : Nat) (q : Int32) (hN : N ≤ 8) (hH : vH N hol) : AMet yX2_held cX2_held 6 (some .int) { frames := 0, cells := 0, slots := 0, locals := 0 } [.ref 0] (hS th mud car wal hol paid rain place str bro pen swe dri (nI N) q) (some (.int (sHeld (nI N) hol))) (hS th mud car wal hol paid rain place str bro pen swe dri (nI N) q) := by
  refine AMet.of (by decide) rfl ?_
  intro G hR hE hI
  have E : ∀ (a : Int32), a = sHeld (nI N) hol → AW G (yX2_held.cls, cX2_held, 6, 14) (hS th mud car wal hol paid rain place str bro pen swe dri (nI N) q) 0 0 45 [(1, .int a)] [] := by
    intro a hf
    refine AW.blk (amX2_held _) 28 1 (h' := hS th mud car wal hol paid rain place str bro pen swe dri (nI N) q) (pc' := 46) (lv' := [(1, .int a)]) (st' := [.int a]) (L := []) rfl trivial ?_
    exact AW.iretE (amX2_held _) 29 hE rfl rfl rfl rfl rfl hf.symm rfl
  have K : ∀ (k i : Nat) (a : Int32), i + k = 9 → lpN (sHe1 (nI N) hol) k i a = sHeld (nI N) hol → AW G (yX2_held.cls, cX2_held, 6, 14) (hS th mud car wal hol paid rain place str bro pen swe dri (nI N) q) 0 0 13 [(4, .int (nI i)), (3, .int (Int32.ofNat 9)), (2, .ref 2), (1, .int a)] [] := by
    intro k
    induction k with
    | zero =>
      intro i a hi hf
      refine AW.blk (amX2_held _) 10 2 (h' := hS th mud car wal hol paid rain place str bro pen swe dri (nI N) q) (pc' := 16) (lv' := [(4, .int (nI i)), (3, .int (Int32.ofNat 9)), (2, .ref 2), (1, .int a)]) (st' := [.int (Int32.ofNat 9), .int (nI i)]) (L := []) rfl trivial ?_
      refine AW.br (amX2_held _) 12 (tgt := 45) (C := (Int32.ofNat 9) ≤ (nI i)) (C' := ¬ (Int32.ofNat 9) ≤ (nI i)) (st' := []) rfl rfl rfl (fun c1 => ?_) (fun c1 => absurd (nI_le (a := 9) (b := i) (by omega) (by omega)) c1)
      refine AW.pick [3] (lv' := [(1, .int a)]) rfl ?_
      exact E _ hf
    | succ k ih =>
      intro i a hi hf
      refine AW.blk (amX2_held _) 10 2 (h' := hS th mud car wal hol paid rain place str bro pen swe dri (nI N) q) (pc' := 16) (lv' := [(4, .int (nI i)), (3, .int (Int32.ofNat 9)), (2, .ref 2), (1, .int a)]) (st' := [.int (Int32.ofNat 9), .int (nI i)]) (L := []) rfl trivial ?_
      refine AW.br (amX2_held _) 12 (tgt := 45) (C := (Int32.ofNat 9) ≤ (nI i)) (C' := ¬ (Int32.ofNat 9) ≤ (nI i)) (st' := []) rfl rfl rfl (fun c1 => absurd c1 (nI_ge (a := i) (b := 9) (by omega) (by omega))) (fun c1 => ?_)
      refine AW.blk (amX2_held _) 13 7 (h' := hS th mud car wal hol paid rain place str bro pen swe dri (nI N) q) (pc' := 29) (lv' := [(5, .int (hol (nI i).toNatClampNeg)), (4, .int (nI i)), (3, .int (Int32.ofNat 9)), (2, .ref 2), (1, .int a)]) (st' := [.int ((-1)), .int (hol (nI i).toNatClampNeg), .int a]) (L := [vp_in (nI i) 9]) rfl (vpi (by omega) rfl) ?_
      refine AW.br (amX2_held _) 20 (tgt := 36) (C := ¬ (hol (nI i).toNatClampNeg) = (-1)) (C' := (hol (nI i).toNatClampNeg) = (-1)) (st' := [.int a]) rfl rfl rfl (fun c2 => ?_) (fun c2 => ?_)
      · refine AW.blk (amX2_held _) 23 5 (h' := hS th mud car wal hol paid rain place str bro pen swe dri (nI N) q) (pc' := 13) (lv' := [(4, .int ((nI i) + 1)), (1, .int (a + 1)), (5, .int (hol (nI i).toNatClampNeg)), (3, .int (Int32.ofNat 9)), (2, .ref 2)]) (st' := []) (L := []) rfl trivial ?_
        refine AW.pick [0, 3, 4, 1] (lv' := [(4, .int ((nI i) + 1)), (3, .int (Int32.ofNat 9)), (2, .ref 2), (1, .int (a + 1))]) rfl ?_
        rw [nI_1 i]
        exact ih (i + 1) _ (by omega) (by rw [← hf]; simp only [lpN, sHe1_m hN (show i < 9 by omega) hH, if_neg c1, if_neg c2])
      · refine AW.blk (amX2_held _) 21 2 (h' := hS th mud car wal hol paid rain place str bro pen swe dri (nI N) q) (pc' := 37) (lv' := [(5, .int (hol (nI i).toNatClampNeg)), (4, .int (nI i)), (3, .int (Int32.ofNat 9)), (2, .ref 2), (1, .int a)]) (st' := [.int 0, .int a]) (L := []) rfl trivial ?_
        refine AW.blk (amX2_held _) 24 4 (h' := hS th mud car wal hol paid rain place str bro pen swe dri (nI N) q) (pc' := 13) (lv' := [(4, .int ((nI i) + 1)), (1, .int (a + 0)), (5, .int (hol (nI i).toNatClampNeg)), (3, .int (Int32.ofNat 9)), (2, .ref 2)]) (st' := []) (L := []) rfl trivial ?_
        refine AW.pick [0, 3, 4, 1] (lv' := [(4, .int ((nI i) + 1)), (3, .int (Int32.ofNat 9)), (2, .ref 2), (1, .int (a + 0))]) rfl ?_
        rw [nI_1 i]
        exact ih (i + 1) _ (by omega) (by rw [← hf]; simp only [lpN, sHe1_m hN (show i < 9 by omega) hH, if_neg c1, if_pos c2])
  refine AW.blk (amX2_held _) 0 10 (h' := hS th mud car wal hol paid rain place str bro pen swe dri (nI N) q) (pc' := 13) (lv' := [(4, .int 0), (3, .int (Int32.ofNat 9)), (2, .ref 2), (1, .int 0), (0, .ref 0)]) (st' := []) (L := []) rfl trivial ?_
  refine AW.pick [0, 1, 2, 3] (lv' := [(4, .int 0), (3, .int (Int32.ofNat 9)), (2, .ref 2), (1, .int 0)]) rfl ?_
  exact K 9 0 0 rfl rfl
set_option maxHeartbeats 2000000 in
theorem kX2_sum_1 (th : Int32) (mud car wal hol paid rain place str bro pen swe dri : Nat → Int32) (N : Nat) (q : Int32) : AMet yX2_sum cX2_sum 7 (some .int) { frames := 0, cells := 0, slots := 0, locals := 0 } [.ref 0, .ref 1] (hS th mud car wal hol paid rain place str bro pen swe dri (nI N) q) (some (.int (sSum mud 9))) (hS th mud car wal hol paid rain place str bro pen swe dri (nI N) q) := by
  refine AMet.of (by decide) rfl ?_
  intro G hR hE hI
  have E : ∀ (a : Int32), a = sSum mud 9 → AW G (yX2_sum.cls, cX2_sum, 7, 14) (hS th mud car wal hol paid rain place str bro pen swe dri (nI N) q) 0 0 35 [(2, .int a)] [] := by
    intro a hf
    refine AW.blk (amX2_sum _) 22 1 (h' := hS th mud car wal hol paid rain place str bro pen swe dri (nI N) q) (pc' := 36) (lv' := [(2, .int a)]) (st' := [.int a]) (L := []) rfl trivial ?_
    exact AW.iretE (amX2_sum _) 23 hE rfl rfl rfl rfl rfl hf.symm rfl
  have K : ∀ (k i : Nat) (a : Int32), i + k = 9 → lpN (sSu1 mud) k i a = sSum mud 9 → AW G (yX2_sum.cls, cX2_sum, 7, 14) (hS th mud car wal hol paid rain place str bro pen swe dri (nI N) q) 0 0 11 [(5, .int (nI i)), (4, .int (Int32.ofNat 9)), (3, .ref 1), (2, .int a)] [] := by
    intro k
    induction k with
    | zero =>
      intro i a hi hf
      refine AW.blk (amX2_sum _) 9 2 (h' := hS th mud car wal hol paid rain place str bro pen swe dri (nI N) q) (pc' := 15) (lv' := [(5, .int (nI i)), (4, .int (Int32.ofNat 9)), (3, .ref 1), (2, .int a)]) (st' := [.int (Int32.ofNat 9), .int (nI i)]) (L := []) rfl trivial ?_
      refine AW.br (amX2_sum _) 11 (tgt := 35) (C := (Int32.ofNat 9) ≤ (nI i)) (C' := ¬ (Int32.ofNat 9) ≤ (nI i)) (st' := []) rfl rfl rfl (fun c1 => ?_) (fun c1 => absurd (nI_le (a := 9) (b := i) (by omega) (by omega)) c1)
      refine AW.pick [3] (lv' := [(2, .int a)]) rfl ?_
      exact E _ hf
    | succ k ih =>
      intro i a hi hf
      refine AW.blk (amX2_sum _) 9 2 (h' := hS th mud car wal hol paid rain place str bro pen swe dri (nI N) q) (pc' := 15) (lv' := [(5, .int (nI i)), (4, .int (Int32.ofNat 9)), (3, .ref 1), (2, .int a)]) (st' := [.int (Int32.ofNat 9), .int (nI i)]) (L := []) rfl trivial ?_
      refine AW.br (amX2_sum _) 11 (tgt := 35) (C := (Int32.ofNat 9) ≤ (nI i)) (C' := ¬ (Int32.ofNat 9) ≤ (nI i)) (st' := []) rfl rfl rfl (fun c1 => absurd c1 (nI_ge (a := i) (b := 9) (by omega) (by omega))) (fun c1 => ?_)
      refine AW.blk (amX2_sum _) 12 10 (h' := hS th mud car wal hol paid rain place str bro pen swe dri (nI N) q) (pc' := 11) (lv' := [(5, .int ((nI i) + 1)), (2, .int (a + (mud (nI i).toNatClampNeg))), (6, .int (mud (nI i).toNatClampNeg)), (4, .int (Int32.ofNat 9)), (3, .ref 1)]) (st' := []) (L := [vp_in (nI i) 9]) rfl (vpi (by omega) rfl) ?_
      refine AW.pick [0, 3, 4, 1] (lv' := [(5, .int ((nI i) + 1)), (4, .int (Int32.ofNat 9)), (3, .ref 1), (2, .int (a + (mud (nI i).toNatClampNeg)))]) rfl ?_
      rw [nI_1 i]
      exact ih (i + 1) _ (by omega) (by rw [← hf]; simp only [lpN, sSu1, if_neg c1])
  refine AW.blk (amX2_sum _) 0 9 (h' := hS th mud car wal hol paid rain place str bro pen swe dri (nI N) q) (pc' := 11) (lv' := [(5, .int 0), (4, .int (Int32.ofNat 9)), (3, .ref 1), (2, .int 0), (0, .ref 0), (1, .ref 1)]) (st' := []) (L := []) rfl trivial ?_
  refine AW.pick [0, 1, 2, 3] (lv' := [(5, .int 0), (4, .int (Int32.ofNat 9)), (3, .ref 1), (2, .int 0)]) rfl ?_
  exact K 9 0 0 rfl rfl
set_option maxHeartbeats 2000000 in
theorem kX2_sum_6 (th : Int32) (mud car wal hol paid rain place str bro pen swe dri : Nat → Int32) (N : Nat) (q : Int32) : AMet yX2_sum cX2_sum 7 (some .int) { frames := 0, cells := 0, slots := 0, locals := 0 } [.ref 0, .ref 6] (hS th mud car wal hol paid rain place str bro pen swe dri (nI N) q) (some (.int (sSum pen 8))) (hS th mud car wal hol paid rain place str bro pen swe dri (nI N) q) := by
  refine AMet.of (by decide) rfl ?_
  intro G hR hE hI
  have E : ∀ (a : Int32), a = sSum pen 8 → AW G (yX2_sum.cls, cX2_sum, 7, 14) (hS th mud car wal hol paid rain place str bro pen swe dri (nI N) q) 0 0 35 [(2, .int a)] [] := by
    intro a hf
    refine AW.blk (amX2_sum _) 22 1 (h' := hS th mud car wal hol paid rain place str bro pen swe dri (nI N) q) (pc' := 36) (lv' := [(2, .int a)]) (st' := [.int a]) (L := []) rfl trivial ?_
    exact AW.iretE (amX2_sum _) 23 hE rfl rfl rfl rfl rfl hf.symm rfl
  have K : ∀ (k i : Nat) (a : Int32), i + k = 8 → lpN (sSu1 pen) k i a = sSum pen 8 → AW G (yX2_sum.cls, cX2_sum, 7, 14) (hS th mud car wal hol paid rain place str bro pen swe dri (nI N) q) 0 0 11 [(5, .int (nI i)), (4, .int (Int32.ofNat 8)), (3, .ref 6), (2, .int a)] [] := by
    intro k
    induction k with
    | zero =>
      intro i a hi hf
      refine AW.blk (amX2_sum _) 9 2 (h' := hS th mud car wal hol paid rain place str bro pen swe dri (nI N) q) (pc' := 15) (lv' := [(5, .int (nI i)), (4, .int (Int32.ofNat 8)), (3, .ref 6), (2, .int a)]) (st' := [.int (Int32.ofNat 8), .int (nI i)]) (L := []) rfl trivial ?_
      refine AW.br (amX2_sum _) 11 (tgt := 35) (C := (Int32.ofNat 8) ≤ (nI i)) (C' := ¬ (Int32.ofNat 8) ≤ (nI i)) (st' := []) rfl rfl rfl (fun c1 => ?_) (fun c1 => absurd (nI_le (a := 8) (b := i) (by omega) (by omega)) c1)
      refine AW.pick [3] (lv' := [(2, .int a)]) rfl ?_
      exact E _ hf
    | succ k ih =>
      intro i a hi hf
      refine AW.blk (amX2_sum _) 9 2 (h' := hS th mud car wal hol paid rain place str bro pen swe dri (nI N) q) (pc' := 15) (lv' := [(5, .int (nI i)), (4, .int (Int32.ofNat 8)), (3, .ref 6), (2, .int a)]) (st' := [.int (Int32.ofNat 8), .int (nI i)]) (L := []) rfl trivial ?_
      refine AW.br (amX2_sum _) 11 (tgt := 35) (C := (Int32.ofNat 8) ≤ (nI i)) (C' := ¬ (Int32.ofNat 8) ≤ (nI i)) (st' := []) rfl rfl rfl (fun c1 => absurd c1 (nI_ge (a := i) (b := 8) (by omega) (by omega))) (fun c1 => ?_)
      refine AW.blk (amX2_sum _) 12 10 (h' := hS th mud car wal hol paid rain place str bro pen swe dri (nI N) q) (pc' := 11) (lv' := [(5, .int ((nI i) + 1)), (2, .int (a + (pen (nI i).toNatClampNeg))), (6, .int (pen (nI i).toNatClampNeg)), (4, .int (Int32.ofNat 8)), (3, .ref 6)]) (st' := []) (L := [vp_in (nI i) 8]) rfl (vpi (by omega) rfl) ?_
      refine AW.pick [0, 3, 4, 1] (lv' := [(5, .int ((nI i) + 1)), (4, .int (Int32.ofNat 8)), (3, .ref 6), (2, .int (a + (pen (nI i).toNatClampNeg)))]) rfl ?_
      rw [nI_1 i]
      exact ih (i + 1) _ (by omega) (by rw [← hf]; simp only [lpN, sSu1, if_neg c1])
  refine AW.blk (amX2_sum _) 0 9 (h' := hS th mud car wal hol paid rain place str bro pen swe dri (nI N) q) (pc' := 11) (lv' := [(5, .int 0), (4, .int (Int32.ofNat 8)), (3, .ref 6), (2, .int 0), (0, .ref 0), (1, .ref 6)]) (st' := []) (L := []) rfl trivial ?_
  refine AW.pick [0, 1, 2, 3] (lv' := [(5, .int 0), (4, .int (Int32.ofNat 8)), (3, .ref 6), (2, .int 0)]) rfl ?_
  exact K 8 0 0 rfl rfl
set_option maxHeartbeats 2000000 in
theorem kX2_sum_7 (th : Int32) (mud car wal hol paid rain place str bro pen swe dri : Nat → Int32) (N : Nat) (q : Int32) : AMet yX2_sum cX2_sum 7 (some .int) { frames := 0, cells := 0, slots := 0, locals := 0 } [.ref 0, .ref 7] (hS th mud car wal hol paid rain place str bro pen swe dri (nI N) q) (some (.int (sSum swe 8))) (hS th mud car wal hol paid rain place str bro pen swe dri (nI N) q) := by
  refine AMet.of (by decide) rfl ?_
  intro G hR hE hI
  have E : ∀ (a : Int32), a = sSum swe 8 → AW G (yX2_sum.cls, cX2_sum, 7, 14) (hS th mud car wal hol paid rain place str bro pen swe dri (nI N) q) 0 0 35 [(2, .int a)] [] := by
    intro a hf
    refine AW.blk (amX2_sum _) 22 1 (h' := hS th mud car wal hol paid rain place str bro pen swe dri (nI N) q) (pc' := 36) (lv' := [(2, .int a)]) (st' := [.int a]) (L := []) rfl trivial ?_
    exact AW.iretE (amX2_sum _) 23 hE rfl rfl rfl rfl rfl hf.symm rfl
  have K : ∀ (k i : Nat) (a : Int32), i + k = 8 → lpN (sSu1 swe) k i a = sSum swe 8 → AW G (yX2_sum.cls, cX2_sum, 7, 14) (hS th mud car wal hol paid rain place str bro pen swe dri (nI N) q) 0 0 11 [(5, .int (nI i)), (4, .int (Int32.ofNat 8)), (3, .ref 7), (2, .int a)] [] := by
    intro k
    induction k with
    | zero =>
      intro i a hi hf
      refine AW.blk (amX2_sum _) 9 2 (h' := hS th mud car wal hol paid rain place str bro pen swe dri (nI N) q) (pc' := 15) (lv' := [(5, .int (nI i)), (4, .int (Int32.ofNat 8)), (3, .ref 7), (2, .int a)]) (st' := [.int (Int32.ofNat 8), .int (nI i)]) (L := []) rfl trivial ?_
      refine AW.br (amX2_sum _) 11 (tgt := 35) (C := (Int32.ofNat 8) ≤ (nI i)) (C' := ¬ (Int32.ofNat 8) ≤ (nI i)) (st' := []) rfl rfl rfl (fun c1 => ?_) (fun c1 => absurd (nI_le (a := 8) (b := i) (by omega) (by omega)) c1)
      refine AW.pick [3] (lv' := [(2, .int a)]) rfl ?_
      exact E _ hf
    | succ k ih =>
      intro i a hi hf
      refine AW.blk (amX2_sum _) 9 2 (h' := hS th mud car wal hol paid rain place str bro pen swe dri (nI N) q) (pc' := 15) (lv' := [(5, .int (nI i)), (4, .int (Int32.ofNat 8)), (3, .ref 7), (2, .int a)]) (st' := [.int (Int32.ofNat 8), .int (nI i)]) (L := []) rfl trivial ?_
      refine AW.br (amX2_sum _) 11 (tgt := 35) (C := (Int32.ofNat 8) ≤ (nI i)) (C' := ¬ (Int32.ofNat 8) ≤ (nI i)) (st' := []) rfl rfl rfl (fun c1 => absurd c1 (nI_ge (a := i) (b := 8) (by omega) (by omega))) (fun c1 => ?_)
      refine AW.blk (amX2_sum _) 12 10 (h' := hS th mud car wal hol paid rain place str bro pen swe dri (nI N) q) (pc' := 11) (lv' := [(5, .int ((nI i) + 1)), (2, .int (a + (swe (nI i).toNatClampNeg))), (6, .int (swe (nI i).toNatClampNeg)), (4, .int (Int32.ofNat 8)), (3, .ref 7)]) (st' := []) (L := [vp_in (nI i) 8]) rfl (vpi (by omega) rfl) ?_
      refine AW.pick [0, 3, 4, 1] (lv' := [(5, .int ((nI i) + 1)), (4, .int (Int32.ofNat 8)), (3, .ref 7), (2, .int (a + (swe (nI i).toNatClampNeg)))]) rfl ?_
      rw [nI_1 i]
      exact ih (i + 1) _ (by omega) (by rw [← hf]; simp only [lpN, sSu1, if_neg c1])
  refine AW.blk (amX2_sum _) 0 9 (h' := hS th mud car wal hol paid rain place str bro pen swe dri (nI N) q) (pc' := 11) (lv' := [(5, .int 0), (4, .int (Int32.ofNat 8)), (3, .ref 7), (2, .int 0), (0, .ref 0), (1, .ref 7)]) (st' := []) (L := []) rfl trivial ?_
  refine AW.pick [0, 1, 2, 3] (lv' := [(5, .int 0), (4, .int (Int32.ofNat 8)), (3, .ref 7), (2, .int 0)]) rfl ?_
  exact K 8 0 0 rfl rfl
set_option maxHeartbeats 2000000 in
theorem kX2_sum_8 (th : Int32) (mud car wal hol paid rain place str bro pen swe dri : Nat → Int32) (N : Nat) (q : Int32) : AMet yX2_sum cX2_sum 7 (some .int) { frames := 0, cells := 0, slots := 0, locals := 0 } [.ref 0, .ref 8] (hS th mud car wal hol paid rain place str bro pen swe dri (nI N) q) (some (.int (sSum dri 8))) (hS th mud car wal hol paid rain place str bro pen swe dri (nI N) q) := by
  refine AMet.of (by decide) rfl ?_
  intro G hR hE hI
  have E : ∀ (a : Int32), a = sSum dri 8 → AW G (yX2_sum.cls, cX2_sum, 7, 14) (hS th mud car wal hol paid rain place str bro pen swe dri (nI N) q) 0 0 35 [(2, .int a)] [] := by
    intro a hf
    refine AW.blk (amX2_sum _) 22 1 (h' := hS th mud car wal hol paid rain place str bro pen swe dri (nI N) q) (pc' := 36) (lv' := [(2, .int a)]) (st' := [.int a]) (L := []) rfl trivial ?_
    exact AW.iretE (amX2_sum _) 23 hE rfl rfl rfl rfl rfl hf.symm rfl
  have K : ∀ (k i : Nat) (a : Int32), i + k = 8 → lpN (sSu1 dri) k i a = sSum dri 8 → AW G (yX2_sum.cls, cX2_sum, 7, 14) (hS th mud car wal hol paid rain place str bro pen swe dri (nI N) q) 0 0 11 [(5, .int (nI i)), (4, .int (Int32.ofNat 8)), (3, .ref 8), (2, .int a)] [] := by
    intro k
    induction k with
    | zero =>
      intro i a hi hf
      refine AW.blk (amX2_sum _) 9 2 (h' := hS th mud car wal hol paid rain place str bro pen swe dri (nI N) q) (pc' := 15) (lv' := [(5, .int (nI i)), (4, .int (Int32.ofNat 8)), (3, .ref 8), (2, .int a)]) (st' := [.int (Int32.ofNat 8), .int (nI i)]) (L := []) rfl trivial ?_
      refine AW.br (amX2_sum _) 11 (tgt := 35) (C := (Int32.ofNat 8) ≤ (nI i)) (C' := ¬ (Int32.ofNat 8) ≤ (nI i)) (st' := []) rfl rfl rfl (fun c1 => ?_) (fun c1 => absurd (nI_le (a := 8) (b := i) (by omega) (by omega)) c1)
      refine AW.pick [3] (lv' := [(2, .int a)]) rfl ?_
      exact E _ hf
    | succ k ih =>
      intro i a hi hf
      refine AW.blk (amX2_sum _) 9 2 (h' := hS th mud car wal hol paid rain place str bro pen swe dri (nI N) q) (pc' := 15) (lv' := [(5, .int (nI i)), (4, .int (Int32.ofNat 8)), (3, .ref 8), (2, .int a)]) (st' := [.int (Int32.ofNat 8), .int (nI i)]) (L := []) rfl trivial ?_
      refine AW.br (amX2_sum _) 11 (tgt := 35) (C := (Int32.ofNat 8) ≤ (nI i)) (C' := ¬ (Int32.ofNat 8) ≤ (nI i)) (st' := []) rfl rfl rfl (fun c1 => absurd c1 (nI_ge (a := i) (b := 8) (by omega) (by omega))) (fun c1 => ?_)
      refine AW.blk (amX2_sum _) 12 10 (h' := hS th mud car wal hol paid rain place str bro pen swe dri (nI N) q) (pc' := 11) (lv' := [(5, .int ((nI i) + 1)), (2, .int (a + (dri (nI i).toNatClampNeg))), (6, .int (dri (nI i).toNatClampNeg)), (4, .int (Int32.ofNat 8)), (3, .ref 8)]) (st' := []) (L := [vp_in (nI i) 8]) rfl (vpi (by omega) rfl) ?_
      refine AW.pick [0, 3, 4, 1] (lv' := [(5, .int ((nI i) + 1)), (4, .int (Int32.ofNat 8)), (3, .ref 8), (2, .int (a + (dri (nI i).toNatClampNeg)))]) rfl ?_
      rw [nI_1 i]
      exact ih (i + 1) _ (by omega) (by rw [← hf]; simp only [lpN, sSu1, if_neg c1])
  refine AW.blk (amX2_sum _) 0 9 (h' := hS th mud car wal hol paid rain place str bro pen swe dri (nI N) q) (pc' := 11) (lv' := [(5, .int 0), (4, .int (Int32.ofNat 8)), (3, .ref 8), (2, .int 0), (0, .ref 0), (1, .ref 8)]) (st' := []) (L := []) rfl trivial ?_
  refine AW.pick [0, 1, 2, 3] (lv' := [(5, .int 0), (4, .int (Int32.ofNat 8)), (3, .ref 8), (2, .int 0)]) rfl ?_
  exact K 8 0 0 rfl rfl
set_option maxHeartbeats 2000000 in
theorem kX2_allMud (th : Int32) (mud car wal hol paid rain place str bro pen swe dri : Nat → Int32) (N : Nat) (q : Int32) : AMet yX2_allMud cX2_allMud 1 (some .int) { frames := 1, cells := 0, slots := 0, locals := 26 } [.ref 0] (hS th mud car wal hol paid rain place str bro pen swe dri (nI N) q) (some (.int (sSum mud 9))) (hS th mud car wal hol paid rain place str bro pen swe dri (nI N) q) := by
  refine AMet.of (by decide) rfl ?_
  intro G hR hE hI
  refine AW.blk (amX2_allMud _) 0 3 (h' := hS th mud car wal hol paid rain place str bro pen swe dri (nI N) q) (pc' := 5) (lv' := [(0, .ref 0)]) (st' := [.ref 1, .ref 0]) (L := []) rfl trivial ?_
  refine AW.callV (amX2_allMud _) 3 (kX2_sum_1 th mud car wal hol paid rain place str bro pen swe dri N q) rfl rfl [0, 1, 2, 3, 4, 5, 6, 7, 8, 9, 10, 11, 12, 13] [100, 101, 102] ykX2_sum yiX2_sum yvX2_sum mlX2_103 rfl rfl rfl rfl hR ⟨Nat.le_of_ble_eq_true rfl, Nat.le_of_ble_eq_true rfl, Nat.le_of_ble_eq_true rfl, Nat.le_of_ble_eq_true rfl⟩ rfl rfl rfl rfl rfl (fun _ => rfl) (h1 := hS th mud car wal hol paid rain place str bro pen swe dri (nI N) q) rfl (st' := [.int (sSum mud 9)]) rfl ?_
  exact AW.iretE (amX2_allMud _) 4 hE rfl rfl (by first | rfl | exact narrow_b _ (by decide)) rfl rfl rfl rfl
set_option maxHeartbeats 2000000 in
theorem kX2_copy_8 (q : Int32) (f g : Nat → Int32) : AMet yX2_copy cX2_copy 3 none { frames := 1, cells := 0, slots := 0, locals := 40 } [.ref 0, .ref 1, .ref 2] ([aO 2 [.int q, .ref 100, .ref 101, .ref 102, .ref 103, .ref 104, .ref 105, .ref 106, .ref 107, .ref 108], aI 8 f, aI 8 g]) none ([aO 2 [.int q, .ref 100, .ref 101, .ref 102, .ref 103, .ref 104, .ref 105, .ref 106, .ref 107, .ref 108], aI 8 f, aI 8 f]) := by
  refine AMet.of (by decide) rfl ?_
  intro G hR hE hI
  refine AW.blk (amX2_copy _) 0 6 (h' := [aO 2 [.int q, .ref 100, .ref 101, .ref 102, .ref 103, .ref 104, .ref 105, .ref 106, .ref 107, .ref 108], aI 8 f, aI 8 g]) (pc' := 6) (lv' := [(0, .ref 0), (1, .ref 1), (2, .ref 2)]) (st' := [.int (Int32.ofNat 8), .int 0, .ref 2, .int 0, .ref 1]) (L := []) rfl trivial ?_
  refine AW.acopy (amX2_copy _) 6 8 (f := f) (g := g) rfl kcpX2_40 rfl hR ⟨(Nat.le_of_ble_eq_true rfl), (Nat.le_of_ble_eq_true rfl)⟩ (by decide) (by decide) rfl rfl (h1 := [aO 2 [.int q, .ref 100, .ref 101, .ref 102, .ref 103, .ref 104, .ref 105, .ref 106, .ref 107, .ref 108], aI 8 f, aI 8 f]) rfl ?_
  exact AW.vretE (amX2_copy _) 7 hE rfl rfl rfl rfl rfl
set_option maxHeartbeats 2000000 in
theorem kX2_copy_9 (q : Int32) (f g : Nat → Int32) : AMet yX2_copy cX2_copy 3 none { frames := 1, cells := 0, slots := 0, locals := 40 } [.ref 0, .ref 1, .ref 2] ([aO 2 [.int q, .ref 100, .ref 101, .ref 102, .ref 103, .ref 104, .ref 105, .ref 106, .ref 107, .ref 108], aI 9 f, aI 9 g]) none ([aO 2 [.int q, .ref 100, .ref 101, .ref 102, .ref 103, .ref 104, .ref 105, .ref 106, .ref 107, .ref 108], aI 9 f, aI 9 f]) := by
  refine AMet.of (by decide) rfl ?_
  intro G hR hE hI
  refine AW.blk (amX2_copy _) 0 6 (h' := [aO 2 [.int q, .ref 100, .ref 101, .ref 102, .ref 103, .ref 104, .ref 105, .ref 106, .ref 107, .ref 108], aI 9 f, aI 9 g]) (pc' := 6) (lv' := [(0, .ref 0), (1, .ref 1), (2, .ref 2)]) (st' := [.int (Int32.ofNat 9), .int 0, .ref 2, .int 0, .ref 1]) (L := []) rfl trivial ?_
  refine AW.acopy (amX2_copy _) 6 9 (f := f) (g := g) rfl kcpX2_40 rfl hR ⟨(Nat.le_of_ble_eq_true rfl), (Nat.le_of_ble_eq_true rfl)⟩ (by decide) (by decide) rfl rfl (h1 := [aO 2 [.int q, .ref 100, .ref 101, .ref 102, .ref 103, .ref 104, .ref 105, .ref 106, .ref 107, .ref 108], aI 9 f, aI 9 f]) rfl ?_
  exact AW.vretE (amX2_copy _) 7 hE rfl rfl rfl rfl rfl
def hRr (q : Int32) (mud hol paid place bro pen swe dri : Nat → Int32) : aH := [aO 2 [.int q, .ref 1, .ref 2, .ref 3, .ref 4, .ref 5, .ref 6, .ref 7, .ref 8, .ref 100], aI 9 mud, aI 9 hol, aI 9 paid, aI 8 place, aI 8 bro, aI 8 pen, aI 8 swe, aI 8 dri]
def hRr9 (q : Int32) (mud hol paid place bro pen swe dri : Nat → Int32) : aH := [aO 2 [.int q, .ref 10, .ref 11, .ref 12, .ref 13, .ref 14, .ref 15, .ref 16, .ref 17, .ref 100], aI 9 mud, aI 9 hol, aI 9 paid, aI 8 place, aI 8 bro, aI 8 pen, aI 8 swe, aI 8 dri]
set_option maxHeartbeats 2000000 in
theorem kX2_become (q1 q2 : Int32) (mud1 hol1 paid1 place1 bro1 pen1 swe1 dri1 mud2 hol2 paid2 place2 bro2 pen2 swe2 dri2 : Nat → Int32) : AMet yX2_become cX2_become 2 none { frames := 2, cells := 0, slots := 0, locals := 62 } [.ref 0, .ref 9] (hRr q1 mud1 hol1 paid1 place1 bro1 pen1 swe1 dri1 ++ hRr9 q2 mud2 hol2 paid2 place2 bro2 pen2 swe2 dri2) none (hRr q2 mud2 hol2 paid2 place2 bro2 pen2 swe2 dri2 ++ hRr9 q2 mud2 hol2 paid2 place2 bro2 pen2 swe2 dri2) := by
  refine AMet.of (by decide) rfl ?_
  intro G hR hE hI
  refine AW.blk (amX2_become _) 0 9 (h' := hRr q2 mud1 hol1 paid1 place1 bro1 pen1 swe1 dri1 ++ hRr9 q2 mud2 hol2 paid2 place2 bro2 pen2 swe2 dri2) (pc' := 17) (lv' := [(0, .ref 0), (1, .ref 9)]) (st' := [.ref 1, .ref 10, .ref 0]) (L := []) rfl trivial ?_
  refine AW.callV (amX2_become _) 9 (kX2_copy_9 q2 mud2 mud1) rfl rfl [0, 10, 1] [1, 2, 3, 4, 5, 6, 7, 8, 100] ykX2_copy yiX2_copy yvX2_copy mlX2_50 rfl rfl rfl rfl hR ⟨Nat.le_of_ble_eq_true rfl, Nat.le_of_ble_eq_true rfl, Nat.le_of_ble_eq_true rfl, Nat.le_of_ble_eq_true rfl⟩ rfl rfl rfl rfl rfl (fun _ => rfl) (h1 := hRr q2 mud2 hol1 paid1 place1 bro1 pen1 swe1 dri1 ++ hRr9 q2 mud2 hol2 paid2 place2 bro2 pen2 swe2 dri2) rfl (st' := []) rfl ?_
  refine AW.blk (amX2_become _) 10 5 (h' := hRr q2 mud2 hol1 paid1 place1 bro1 pen1 swe1 dri1 ++ hRr9 q2 mud2 hol2 paid2 place2 bro2 pen2 swe2 dri2) (pc' := 29) (lv' := [(0, .ref 0), (1, .ref 9)]) (st' := [.ref 2, .ref 11, .ref 0]) (L := []) rfl trivial ?_
  refine AW.callV (amX2_become _) 15 (kX2_copy_9 q2 hol2 hol1) rfl rfl [0, 11, 2] [1, 2, 3, 4, 5, 6, 7, 8, 100] ykX2_copy yiX2_copy yvX2_copy mlX2_50 rfl rfl rfl rfl hR ⟨Nat.le_of_ble_eq_true rfl, Nat.le_of_ble_eq_true rfl, Nat.le_of_ble_eq_true rfl, Nat.le_of_ble_eq_true rfl⟩ rfl rfl rfl rfl rfl (fun _ => rfl) (h1 := hRr q2 mud2 hol2 paid1 place1 bro1 pen1 swe1 dri1 ++ hRr9 q2 mud2 hol2 paid2 place2 bro2 pen2 swe2 dri2) rfl (st' := []) rfl ?_
  refine AW.blk (amX2_become _) 16 5 (h' := hRr q2 mud2 hol2 paid1 place1 bro1 pen1 swe1 dri1 ++ hRr9 q2 mud2 hol2 paid2 place2 bro2 pen2 swe2 dri2) (pc' := 41) (lv' := [(0, .ref 0), (1, .ref 9)]) (st' := [.ref 3, .ref 12, .ref 0]) (L := []) rfl trivial ?_
  refine AW.callV (amX2_become _) 21 (kX2_copy_9 q2 paid2 paid1) rfl rfl [0, 12, 3] [1, 2, 3, 4, 5, 6, 7, 8, 100] ykX2_copy yiX2_copy yvX2_copy mlX2_50 rfl rfl rfl rfl hR ⟨Nat.le_of_ble_eq_true rfl, Nat.le_of_ble_eq_true rfl, Nat.le_of_ble_eq_true rfl, Nat.le_of_ble_eq_true rfl⟩ rfl rfl rfl rfl rfl (fun _ => rfl) (h1 := hRr q2 mud2 hol2 paid2 place1 bro1 pen1 swe1 dri1 ++ hRr9 q2 mud2 hol2 paid2 place2 bro2 pen2 swe2 dri2) rfl (st' := []) rfl ?_
  refine AW.blk (amX2_become _) 22 5 (h' := hRr q2 mud2 hol2 paid2 place1 bro1 pen1 swe1 dri1 ++ hRr9 q2 mud2 hol2 paid2 place2 bro2 pen2 swe2 dri2) (pc' := 53) (lv' := [(0, .ref 0), (1, .ref 9)]) (st' := [.ref 4, .ref 13, .ref 0]) (L := []) rfl trivial ?_
  refine AW.callV (amX2_become _) 27 (kX2_copy_8 q2 place2 place1) rfl rfl [0, 13, 4] [1, 2, 3, 4, 5, 6, 7, 8, 100] ykX2_copy yiX2_copy yvX2_copy mlX2_50 rfl rfl rfl rfl hR ⟨Nat.le_of_ble_eq_true rfl, Nat.le_of_ble_eq_true rfl, Nat.le_of_ble_eq_true rfl, Nat.le_of_ble_eq_true rfl⟩ rfl rfl rfl rfl rfl (fun _ => rfl) (h1 := hRr q2 mud2 hol2 paid2 place2 bro1 pen1 swe1 dri1 ++ hRr9 q2 mud2 hol2 paid2 place2 bro2 pen2 swe2 dri2) rfl (st' := []) rfl ?_
  refine AW.blk (amX2_become _) 28 5 (h' := hRr q2 mud2 hol2 paid2 place2 bro1 pen1 swe1 dri1 ++ hRr9 q2 mud2 hol2 paid2 place2 bro2 pen2 swe2 dri2) (pc' := 65) (lv' := [(0, .ref 0), (1, .ref 9)]) (st' := [.ref 5, .ref 14, .ref 0]) (L := []) rfl trivial ?_
  refine AW.callV (amX2_become _) 33 (kX2_copy_8 q2 bro2 bro1) rfl rfl [0, 14, 5] [1, 2, 3, 4, 5, 6, 7, 8, 100] ykX2_copy yiX2_copy yvX2_copy mlX2_50 rfl rfl rfl rfl hR ⟨Nat.le_of_ble_eq_true rfl, Nat.le_of_ble_eq_true rfl, Nat.le_of_ble_eq_true rfl, Nat.le_of_ble_eq_true rfl⟩ rfl rfl rfl rfl rfl (fun _ => rfl) (h1 := hRr q2 mud2 hol2 paid2 place2 bro2 pen1 swe1 dri1 ++ hRr9 q2 mud2 hol2 paid2 place2 bro2 pen2 swe2 dri2) rfl (st' := []) rfl ?_
  refine AW.blk (amX2_become _) 34 5 (h' := hRr q2 mud2 hol2 paid2 place2 bro2 pen1 swe1 dri1 ++ hRr9 q2 mud2 hol2 paid2 place2 bro2 pen2 swe2 dri2) (pc' := 77) (lv' := [(0, .ref 0), (1, .ref 9)]) (st' := [.ref 6, .ref 15, .ref 0]) (L := []) rfl trivial ?_
  refine AW.callV (amX2_become _) 39 (kX2_copy_8 q2 pen2 pen1) rfl rfl [0, 15, 6] [1, 2, 3, 4, 5, 6, 7, 8, 100] ykX2_copy yiX2_copy yvX2_copy mlX2_50 rfl rfl rfl rfl hR ⟨Nat.le_of_ble_eq_true rfl, Nat.le_of_ble_eq_true rfl, Nat.le_of_ble_eq_true rfl, Nat.le_of_ble_eq_true rfl⟩ rfl rfl rfl rfl rfl (fun _ => rfl) (h1 := hRr q2 mud2 hol2 paid2 place2 bro2 pen2 swe1 dri1 ++ hRr9 q2 mud2 hol2 paid2 place2 bro2 pen2 swe2 dri2) rfl (st' := []) rfl ?_
  refine AW.blk (amX2_become _) 40 5 (h' := hRr q2 mud2 hol2 paid2 place2 bro2 pen2 swe1 dri1 ++ hRr9 q2 mud2 hol2 paid2 place2 bro2 pen2 swe2 dri2) (pc' := 89) (lv' := [(0, .ref 0), (1, .ref 9)]) (st' := [.ref 7, .ref 16, .ref 0]) (L := []) rfl trivial ?_
  refine AW.callV (amX2_become _) 45 (kX2_copy_8 q2 swe2 swe1) rfl rfl [0, 16, 7] [1, 2, 3, 4, 5, 6, 7, 8, 100] ykX2_copy yiX2_copy yvX2_copy mlX2_50 rfl rfl rfl rfl hR ⟨Nat.le_of_ble_eq_true rfl, Nat.le_of_ble_eq_true rfl, Nat.le_of_ble_eq_true rfl, Nat.le_of_ble_eq_true rfl⟩ rfl rfl rfl rfl rfl (fun _ => rfl) (h1 := hRr q2 mud2 hol2 paid2 place2 bro2 pen2 swe2 dri1 ++ hRr9 q2 mud2 hol2 paid2 place2 bro2 pen2 swe2 dri2) rfl (st' := []) rfl ?_
  refine AW.blk (amX2_become _) 46 5 (h' := hRr q2 mud2 hol2 paid2 place2 bro2 pen2 swe2 dri1 ++ hRr9 q2 mud2 hol2 paid2 place2 bro2 pen2 swe2 dri2) (pc' := 101) (lv' := [(0, .ref 0), (1, .ref 9)]) (st' := [.ref 8, .ref 17, .ref 0]) (L := []) rfl trivial ?_
  refine AW.callV (amX2_become _) 51 (kX2_copy_8 q2 dri2 dri1) rfl rfl [0, 17, 8] [1, 2, 3, 4, 5, 6, 7, 8, 100] ykX2_copy yiX2_copy yvX2_copy mlX2_50 rfl rfl rfl rfl hR ⟨Nat.le_of_ble_eq_true rfl, Nat.le_of_ble_eq_true rfl, Nat.le_of_ble_eq_true rfl, Nat.le_of_ble_eq_true rfl⟩ rfl rfl rfl rfl rfl (fun _ => rfl) (h1 := hRr q2 mud2 hol2 paid2 place2 bro2 pen2 swe2 dri2 ++ hRr9 q2 mud2 hol2 paid2 place2 bro2 pen2 swe2 dri2) rfl (st' := []) rfl ?_
  exact AW.vretE (amX2_become _) 52 hE rfl rfl rfl rfl rfl
set_option maxHeartbeats 2000000 in
theorem kX2_init  : AMet yX2_init cX2_init 2 none { frames := 1, cells := 8, slots := 67, locals := 40 } [.ref 0, .ref 100] ([aO 2 [.int 0, .null, .null, .null, .null, .null, .null, .null, .null, .null]]) none (hRr 0 (fun _ => 0) (fun _ => 0) (fun _ => 0) (fun _ => 0) (fun _ => 0) (fun _ => 0) (fun _ => 0) (fun _ => 0)) := by
  refine AMet.of (by decide) rfl ?_
  intro G hR hE hI
  refine AW.blk (amX2_init _) 0 2 (h' := [aO 2 [.int 0, .null, .null, .null, .null, .null, .null, .null, .null, .null]]) (pc' := 2) (lv' := [(0, .ref 0), (1, .ref 100)]) (st' := [.ref 100, .ref 0]) (L := []) rfl trivial ?_
  refine AW.putF (amX2_init _) 2 (ci := 2) (N := 10) (j := 9) (C := RX2) (T := TX2) rfl (hI rfl) rfl (by decide) kpfX2_3 rfl rfl kpd2_9 (fun _ => ⟨rfl, rfl⟩) rfl rfl (h1 := [aO 2 [.int 0, .null, .null, .null, .null, .null, .null, .null, .null, .ref 100]]) rfl ?_
  refine AW.blk (amX2_init _) 3 1 (h' := [aO 2 [.int 0, .null, .null, .null, .null, .null, .null, .null, .null, .ref 100]]) (pc' := 6) (lv' := [(0, .ref 0), (1, .ref 100)]) (st' := [.ref 0]) (L := []) rfl trivial ?_
  refine AW.objInit (amX2_init _) 4 rfl kobX2_9 rfl hR ⟨(Nat.le_of_ble_eq_true rfl), (Nat.le_of_ble_eq_true rfl)⟩ ?_
  refine AW.blk (amX2_init _) 5 2 (h' := [aO 2 [.int 0, .null, .null, .null, .null, .null, .null, .null, .null, .ref 100]]) (pc' := 12) (lv' := [(0, .ref 0), (1, .ref 100)]) (st' := [.int 9, .ref 0]) (L := []) rfl trivial ?_
  refine AW.newarr (amX2_init _) 7 9 rfl (by decide) (by decide) rfl hR (Nat.le_of_ble_eq_true rfl) (Nat.le_of_ble_eq_true rfl) rfl rfl rfl (h1 := [aO 2 [.int 0, .null, .null, .null, .null, .null, .null, .null, .null, .ref 100], aI 9 (fun _ => 0)]) rfl (st' := [.ref 1, .ref 0]) rfl ?_
  refine AW.putF (amX2_init _) 8 (ci := 2) (N := 10) (j := 1) (C := RX2) (T := TX2) rfl (hI rfl) rfl (by decide) kpfX2_15 rfl rfl kpd2_1 (fun _ => ⟨rfl, rfl⟩) rfl rfl (h1 := [aO 2 [.int 0, .ref 1, .null, .null, .null, .null, .null, .null, .null, .ref 100], aI 9 (fun _ => 0)]) rfl ?_
  refine AW.blk (amX2_init _) 9 2 (h' := [aO 2 [.int 0, .ref 1, .null, .null, .null, .null, .null, .null, .null, .ref 100], aI 9 (fun _ => 0)]) (pc' := 20) (lv' := [(0, .ref 0), (1, .ref 100)]) (st' := [.int 9, .ref 0]) (L := []) rfl trivial ?_
  refine AW.newarr (amX2_init _) 11 9 rfl (by decide) (by decide) rfl hR (Nat.le_of_ble_eq_true rfl) (Nat.le_of_ble_eq_true rfl) rfl rfl rfl (h1 := [aO 2 [.int 0, .ref 1, .null, .null, .null, .null, .null, .null, .null, .ref 100], aI 9 (fun _ => 0), aI 9 (fun _ => 0)]) rfl (st' := [.ref 2, .ref 0]) rfl ?_
  refine AW.putF (amX2_init _) 12 (ci := 2) (N := 10) (j := 2) (C := RX2) (T := TX2) rfl (hI rfl) rfl (by decide) kpfX2_19 rfl rfl kpd2_2 (fun _ => ⟨rfl, rfl⟩) rfl rfl (h1 := [aO 2 [.int 0, .ref 1, .ref 2, .null, .null, .null, .null, .null, .null, .ref 100], aI 9 (fun _ => 0), aI 9 (fun _ => 0)]) rfl ?_
  refine AW.blk (amX2_init _) 13 2 (h' := [aO 2 [.int 0, .ref 1, .ref 2, .null, .null, .null, .null, .null, .null, .ref 100], aI 9 (fun _ => 0), aI 9 (fun _ => 0)]) (pc' := 28) (lv' := [(0, .ref 0), (1, .ref 100)]) (st' := [.int 9, .ref 0]) (L := []) rfl trivial ?_
  refine AW.newarr (amX2_init _) 15 9 rfl (by decide) (by decide) rfl hR (Nat.le_of_ble_eq_true rfl) (Nat.le_of_ble_eq_true rfl) rfl rfl rfl (h1 := [aO 2 [.int 0, .ref 1, .ref 2, .null, .null, .null, .null, .null, .null, .ref 100], aI 9 (fun _ => 0), aI 9 (fun _ => 0), aI 9 (fun _ => 0)]) rfl (st' := [.ref 3, .ref 0]) rfl ?_
  refine AW.putF (amX2_init _) 16 (ci := 2) (N := 10) (j := 3) (C := RX2) (T := TX2) rfl (hI rfl) rfl (by decide) kpfX2_22 rfl rfl kpd2_3 (fun _ => ⟨rfl, rfl⟩) rfl rfl (h1 := [aO 2 [.int 0, .ref 1, .ref 2, .ref 3, .null, .null, .null, .null, .null, .ref 100], aI 9 (fun _ => 0), aI 9 (fun _ => 0), aI 9 (fun _ => 0)]) rfl ?_
  refine AW.blk (amX2_init _) 17 2 (h' := [aO 2 [.int 0, .ref 1, .ref 2, .ref 3, .null, .null, .null, .null, .null, .ref 100], aI 9 (fun _ => 0), aI 9 (fun _ => 0), aI 9 (fun _ => 0)]) (pc' := 36) (lv' := [(0, .ref 0), (1, .ref 100)]) (st' := [.int 8, .ref 0]) (L := []) rfl trivial ?_
  refine AW.newarr (amX2_init _) 19 8 rfl (by decide) (by decide) rfl hR (Nat.le_of_ble_eq_true rfl) (Nat.le_of_ble_eq_true rfl) rfl rfl rfl (h1 := [aO 2 [.int 0, .ref 1, .ref 2, .ref 3, .null, .null, .null, .null, .null, .ref 100], aI 9 (fun _ => 0), aI 9 (fun _ => 0), aI 9 (fun _ => 0), aI 8 (fun _ => 0)]) rfl (st' := [.ref 4, .ref 0]) rfl ?_
  refine AW.putF (amX2_init _) 20 (ci := 2) (N := 10) (j := 4) (C := RX2) (T := TX2) rfl (hI rfl) rfl (by decide) kpfX2_25 rfl rfl kpd2_4 (fun _ => ⟨rfl, rfl⟩) rfl rfl (h1 := [aO 2 [.int 0, .ref 1, .ref 2, .ref 3, .ref 4, .null, .null, .null, .null, .ref 100], aI 9 (fun _ => 0), aI 9 (fun _ => 0), aI 9 (fun _ => 0), aI 8 (fun _ => 0)]) rfl ?_
  refine AW.blk (amX2_init _) 21 2 (h' := [aO 2 [.int 0, .ref 1, .ref 2, .ref 3, .ref 4, .null, .null, .null, .null, .ref 100], aI 9 (fun _ => 0), aI 9 (fun _ => 0), aI 9 (fun _ => 0), aI 8 (fun _ => 0)]) (pc' := 44) (lv' := [(0, .ref 0), (1, .ref 100)]) (st' := [.int 8, .ref 0]) (L := []) rfl trivial ?_
  refine AW.newarr (amX2_init _) 23 8 rfl (by decide) (by decide) rfl hR (Nat.le_of_ble_eq_true rfl) (Nat.le_of_ble_eq_true rfl) rfl rfl rfl (h1 := [aO 2 [.int 0, .ref 1, .ref 2, .ref 3, .ref 4, .null, .null, .null, .null, .ref 100], aI 9 (fun _ => 0), aI 9 (fun _ => 0), aI 9 (fun _ => 0), aI 8 (fun _ => 0), aI 8 (fun _ => 0)]) rfl (st' := [.ref 5, .ref 0]) rfl ?_
  refine AW.putF (amX2_init _) 24 (ci := 2) (N := 10) (j := 5) (C := RX2) (T := TX2) rfl (hI rfl) rfl (by decide) kpfX2_28 rfl rfl kpd2_5 (fun _ => ⟨rfl, rfl⟩) rfl rfl (h1 := [aO 2 [.int 0, .ref 1, .ref 2, .ref 3, .ref 4, .ref 5, .null, .null, .null, .ref 100], aI 9 (fun _ => 0), aI 9 (fun _ => 0), aI 9 (fun _ => 0), aI 8 (fun _ => 0), aI 8 (fun _ => 0)]) rfl ?_
  refine AW.blk (amX2_init _) 25 2 (h' := [aO 2 [.int 0, .ref 1, .ref 2, .ref 3, .ref 4, .ref 5, .null, .null, .null, .ref 100], aI 9 (fun _ => 0), aI 9 (fun _ => 0), aI 9 (fun _ => 0), aI 8 (fun _ => 0), aI 8 (fun _ => 0)]) (pc' := 52) (lv' := [(0, .ref 0), (1, .ref 100)]) (st' := [.int 8, .ref 0]) (L := []) rfl trivial ?_
  refine AW.newarr (amX2_init _) 27 8 rfl (by decide) (by decide) rfl hR (Nat.le_of_ble_eq_true rfl) (Nat.le_of_ble_eq_true rfl) rfl rfl rfl (h1 := [aO 2 [.int 0, .ref 1, .ref 2, .ref 3, .ref 4, .ref 5, .null, .null, .null, .ref 100], aI 9 (fun _ => 0), aI 9 (fun _ => 0), aI 9 (fun _ => 0), aI 8 (fun _ => 0), aI 8 (fun _ => 0), aI 8 (fun _ => 0)]) rfl (st' := [.ref 6, .ref 0]) rfl ?_
  refine AW.putF (amX2_init _) 28 (ci := 2) (N := 10) (j := 6) (C := RX2) (T := TX2) rfl (hI rfl) rfl (by decide) kpfX2_31 rfl rfl kpd2_6 (fun _ => ⟨rfl, rfl⟩) rfl rfl (h1 := [aO 2 [.int 0, .ref 1, .ref 2, .ref 3, .ref 4, .ref 5, .ref 6, .null, .null, .ref 100], aI 9 (fun _ => 0), aI 9 (fun _ => 0), aI 9 (fun _ => 0), aI 8 (fun _ => 0), aI 8 (fun _ => 0), aI 8 (fun _ => 0)]) rfl ?_
  refine AW.blk (amX2_init _) 29 2 (h' := [aO 2 [.int 0, .ref 1, .ref 2, .ref 3, .ref 4, .ref 5, .ref 6, .null, .null, .ref 100], aI 9 (fun _ => 0), aI 9 (fun _ => 0), aI 9 (fun _ => 0), aI 8 (fun _ => 0), aI 8 (fun _ => 0), aI 8 (fun _ => 0)]) (pc' := 60) (lv' := [(0, .ref 0), (1, .ref 100)]) (st' := [.int 8, .ref 0]) (L := []) rfl trivial ?_
  refine AW.newarr (amX2_init _) 31 8 rfl (by decide) (by decide) rfl hR (Nat.le_of_ble_eq_true rfl) (Nat.le_of_ble_eq_true rfl) rfl rfl rfl (h1 := [aO 2 [.int 0, .ref 1, .ref 2, .ref 3, .ref 4, .ref 5, .ref 6, .null, .null, .ref 100], aI 9 (fun _ => 0), aI 9 (fun _ => 0), aI 9 (fun _ => 0), aI 8 (fun _ => 0), aI 8 (fun _ => 0), aI 8 (fun _ => 0), aI 8 (fun _ => 0)]) rfl (st' := [.ref 7, .ref 0]) rfl ?_
  refine AW.putF (amX2_init _) 32 (ci := 2) (N := 10) (j := 7) (C := RX2) (T := TX2) rfl (hI rfl) rfl (by decide) kpfX2_34 rfl rfl kpd2_7 (fun _ => ⟨rfl, rfl⟩) rfl rfl (h1 := [aO 2 [.int 0, .ref 1, .ref 2, .ref 3, .ref 4, .ref 5, .ref 6, .ref 7, .null, .ref 100], aI 9 (fun _ => 0), aI 9 (fun _ => 0), aI 9 (fun _ => 0), aI 8 (fun _ => 0), aI 8 (fun _ => 0), aI 8 (fun _ => 0), aI 8 (fun _ => 0)]) rfl ?_
  refine AW.blk (amX2_init _) 33 2 (h' := [aO 2 [.int 0, .ref 1, .ref 2, .ref 3, .ref 4, .ref 5, .ref 6, .ref 7, .null, .ref 100], aI 9 (fun _ => 0), aI 9 (fun _ => 0), aI 9 (fun _ => 0), aI 8 (fun _ => 0), aI 8 (fun _ => 0), aI 8 (fun _ => 0), aI 8 (fun _ => 0)]) (pc' := 68) (lv' := [(0, .ref 0), (1, .ref 100)]) (st' := [.int 8, .ref 0]) (L := []) rfl trivial ?_
  refine AW.newarr (amX2_init _) 35 8 rfl (by decide) (by decide) rfl hR (Nat.le_of_ble_eq_true rfl) (Nat.le_of_ble_eq_true rfl) rfl rfl rfl (h1 := [aO 2 [.int 0, .ref 1, .ref 2, .ref 3, .ref 4, .ref 5, .ref 6, .ref 7, .null, .ref 100], aI 9 (fun _ => 0), aI 9 (fun _ => 0), aI 9 (fun _ => 0), aI 8 (fun _ => 0), aI 8 (fun _ => 0), aI 8 (fun _ => 0), aI 8 (fun _ => 0), aI 8 (fun _ => 0)]) rfl (st' := [.ref 8, .ref 0]) rfl ?_
  refine AW.putF (amX2_init _) 36 (ci := 2) (N := 10) (j := 8) (C := RX2) (T := TX2) rfl (hI rfl) rfl (by decide) kpfX2_37 rfl rfl kpd2_8 (fun _ => ⟨rfl, rfl⟩) rfl rfl (h1 := hRr 0 (fun _ => 0) (fun _ => 0) (fun _ => 0) (fun _ => 0) (fun _ => 0) (fun _ => 0) (fun _ => 0) (fun _ => 0)) rfl ?_
  exact AW.vretE (amX2_init _) 37 hE rfl rfl rfl rfl rfl
def sIn3 (v a b : Int32) : Int32 := if v < a then 0 else if b < v then 0 else 1
theorem sIn3_cr (c : Int32) : sIn3 c 0 8 = sCr c := by
  unfold sIn3 sCr
  have h : (8 < c) = (9 ≤ c) := by
    rw [Int32.lt_iff_toInt_lt, Int32.le_iff_toInt_le]
    have e1 : (8 : Int32).toInt = 8 := by decide
    have e2 : (9 : Int32).toInt = 9 := by decide
    rw [e1, e2]
    exact propext ⟨fun h => by omega, fun h => by omega⟩
  simp only [h]
theorem sIn3_sw {N : Nat} (hN : N ≤ 8) (s : Int32) : sIn3 s 0 (nI N - 1) = sSw s (nI N) := by
  unfold sIn3 sSw
  by_cases h0 : s < 0
  · rw [if_pos h0, if_pos h0]
  · rw [if_neg h0, if_neg h0]
    cases N with
    | zero =>
      have h1 : nI 0 - 1 < s := by
        rw [Int32.lt_iff_toInt_lt] at h0 ⊢
        have e1 : (nI 0 - 1).toInt = -1 := by decide
        have e2 : (0 : Int32).toInt = 0 := by decide
        omega
      have h2 : nI 0 ≤ s := Int32.not_lt.mp h0
      rw [if_pos h1, if_pos h2]
      split <;> rfl
    | succ N =>
      rw [nI_pred]
      by_cases h1 : nI N < s
      · rw [if_pos h1]
        have h2 : nI (N + 1) ≤ s := by
          rw [Int32.lt_iff_toInt_lt, nI_toInt (by omega)] at h1
          rw [Int32.le_iff_toInt_le, nI_toInt (by omega)]
          omega
        rw [if_pos h2]
        split <;> rfl
      · rw [if_neg h1]
        rw [Int32.lt_iff_toInt_lt, nI_toInt (by omega)] at h1
        rw [if_neg, if_neg]
        · rw [Int32.le_iff_toInt_le, nI_toInt (by omega)]; omega
        · rw [Int32.le_iff_toInt_le]
          have e1 : (8 : Int32).toInt = 8 := by decide
          omega
set_option maxHeartbeats 2000000 in
theorem kX3_isIn (v a b : Int32) : AMet yX3_isIn cX3_isIn 3 (some .boolean) { frames := 0, cells := 0, slots := 0, locals := 0 } [.int v, .int a, .int b] ([]) (some (.int (sIn3 v a b))) ([]) := by
  refine AMet.of (by decide) rfl ?_
  intro G hR hE hI
  refine AW.blk (amX3_isIn _) 0 2 (h' := []) (pc' := 2) (lv' := [(0, .int v), (1, .int a), (2, .int b)]) (st' := [.int a, .int v]) (L := []) rfl trivial ?_
  refine AW.br (amX3_isIn _) 2 (tgt := 14) (C := v < a) (C' := ¬ v < a) (st' := []) rfl rfl rfl (fun c1 => ?_) (fun c1 => ?_)
  · refine AW.blk (amX3_isIn _) 8 1 (h' := []) (pc' := 15) (lv' := [(0, .int v), (1, .int a), (2, .int b)]) (st' := [.int 0]) (L := []) rfl trivial ?_
    exact AW.iretE (amX3_isIn _) 9 hE rfl rfl (by first | rfl | exact narrow_b _ (by decide)) rfl rfl (by simp only [sIn3, if_pos c1]) rfl
  · refine AW.blk (amX3_isIn _) 3 2 (h' := []) (pc' := 7) (lv' := [(0, .int v), (1, .int a), (2, .int b)]) (st' := [.int b, .int v]) (L := []) rfl trivial ?_
    refine AW.br (amX3_isIn _) 5 (tgt := 14) (C := b < v) (C' := ¬ b < v) (st' := []) rfl rfl rfl (fun c2 => ?_) (fun c2 => ?_)
    · refine AW.blk (amX3_isIn _) 8 1 (h' := []) (pc' := 15) (lv' := [(0, .int v), (1, .int a), (2, .int b)]) (st' := [.int 0]) (L := []) rfl trivial ?_
      exact AW.iretE (amX3_isIn _) 9 hE rfl rfl (by first | rfl | exact narrow_b _ (by decide)) rfl rfl (by simp only [sIn3, if_neg c1, if_pos c2]) rfl
    · refine AW.blk (amX3_isIn _) 6 2 (h' := []) (pc' := 15) (lv' := [(0, .int v), (1, .int a), (2, .int b)]) (st' := [.int 1]) (L := []) rfl trivial ?_
      exact AW.iretE (amX3_isIn _) 9 hE rfl rfl (by first | rfl | exact narrow_b _ (by decide)) rfl rfl (by simp only [sIn3, if_neg c1, if_neg c2]) rfl
theorem sIn3_b (v a b : Int32) : narrow .boolean (.int (sIn3 v a b)) = .int (sIn3 v a b) := by
  unfold sIn3
  split
  · rfl
  · split <;> rfl
set_option maxHeartbeats 2000000 in
theorem kX3_isCrossing (c : Int32) : AMet yX3_isCrossing cX3_isCrossing 1 (some .boolean) { frames := 1, cells := 0, slots := 0, locals := 22 } [.int c] ([]) (some (.int (sCr c))) ([]) := by
  refine AMet.of (by decide) rfl ?_
  intro G hR hE hI
  rw [← sIn3_cr] at hE
  refine AW.blk (amX3_isCrossing _) 0 3 (h' := []) (pc' := 4) (lv' := [(0, .int c)]) (st' := [.int 8, .int 0, .int c]) (L := []) rfl trivial ?_
  refine AW.callS (amX3_isCrossing _) 3 (kX3_isIn c 0 8) [] [] ykX3_isIn ysX3_isIn mlX3_44 rfl rfl rfl rfl hR ⟨Nat.le_of_ble_eq_true rfl, Nat.le_of_ble_eq_true rfl, Nat.le_of_ble_eq_true rfl, Nat.le_of_ble_eq_true rfl⟩ rfl rfl rfl rfl rfl (fun _ => rfl) (h1 := []) rfl (st' := [.int (sIn3 c 0 8)]) rfl ?_
  exact AW.iretE (amX3_isCrossing _) 4 hE rfl rfl (sIn3_b _ _ _) rfl rfl rfl rfl
set_option maxHeartbeats 2000000 in
theorem kX3_isTime (t : Int32) : AMet yX3_isTime cX3_isTime 1 (some .boolean) { frames := 1, cells := 0, slots := 0, locals := 22 } [.int t] ([]) (some (.int (sIn3 t 1 96))) ([]) := by
  refine AMet.of (by decide) rfl ?_
  intro G hR hE hI
  refine AW.blk (amX3_isTime _) 0 3 (h' := []) (pc' := 4) (lv' := [(0, .int t)]) (st' := [.int 96, .int 1, .int t]) (L := []) rfl trivial ?_
  refine AW.callS (amX3_isTime _) 3 (kX3_isIn t 1 96) [] [] ykX3_isIn ysX3_isIn mlX3_44 rfl rfl rfl rfl hR ⟨Nat.le_of_ble_eq_true rfl, Nat.le_of_ble_eq_true rfl, Nat.le_of_ble_eq_true rfl, Nat.le_of_ble_eq_true rfl⟩ rfl rfl rfl rfl rfl (fun _ => rfl) (h1 := []) rfl (st' := [.int (sIn3 t 1 96)]) rfl ?_
  exact AW.iretE (amX3_isTime _) 4 hE rfl rfl (sIn3_b _ _ _) rfl rfl rfl rfl
def hO (th n : Int32) : aH := [aO 3 [.int th, .ref 101, .ref 102, .ref 103, .int n, .ref 104, .ref 105, .ref 106, .ref 115]]
set_option maxHeartbeats 2000000 in
theorem kX3_isSweeper (th : Int32) (N : Nat) (hN : N ≤ 8) (s : Int32) : AMet yX3_isSweeper cX3_isSweeper 2 (some .boolean) { frames := 1, cells := 0, slots := 0, locals := 22 } [.ref 0, .int s] (hO th (nI N)) (some (.int (sSw s (nI N)))) (hO th (nI N)) := by
  refine AMet.of (by decide) rfl ?_
  intro G hR hE hI
  rw [← sIn3_sw hN] at hE
  refine AW.blk (amX3_isSweeper _) 0 6 (h' := [aO 3 [.int th, .ref 101, .ref 102, .ref 103, .int (nI N), .ref 104, .ref 105, .ref 106, .ref 115]]) (pc' := 8) (lv' := [(0, .ref 0), (1, .int s)]) (st' := [.int ((nI N) - 1), .int 0, .int s]) (L := []) rfl trivial ?_
  refine AW.callS (amX3_isSweeper _) 6 (kX3_isIn s 0 ((nI N) - 1)) [] [] ykX3_isIn ysX3_isIn mlX3_44 rfl rfl rfl rfl hR ⟨Nat.le_of_ble_eq_true rfl, Nat.le_of_ble_eq_true rfl, Nat.le_of_ble_eq_true rfl, Nat.le_of_ble_eq_true rfl⟩ rfl rfl rfl rfl rfl (fun _ => rfl) (h1 := [aO 3 [.int th, .ref 101, .ref 102, .ref 103, .int (nI N), .ref 104, .ref 105, .ref 106, .ref 115]]) rfl (st' := [.int (sIn3 s 0 ((nI N) - 1))]) rfl ?_
  exact AW.iretE (amX3_isSweeper _) 7 hE rfl rfl (sIn3_b _ _ _) rfl rfl rfl rfl
set_option maxHeartbeats 2000000 in
theorem kX3_no (th n x : Int32) : AMet yX3_no cX3_no 2 (some .int) { frames := 0, cells := 0, slots := 0, locals := 0 } [.ref 0, .int x] (hO th n) (some (.int 0)) (hO x n) := by
  refine AMet.of (by decide) rfl ?_
  intro G hR hE hI
  refine AW.blk (amX3_no _) 0 4 (h' := [aO 3 [.int x, .ref 101, .ref 102, .ref 103, .int n, .ref 104, .ref 105, .ref 106, .ref 115]]) (pc' := 6) (lv' := [(0, .ref 0), (1, .int x)]) (st' := [.int 0]) (L := []) rfl trivial ?_
  exact AW.iretE (amX3_no _) 4 hE rfl rfl (by first | rfl | exact narrow_b _ (by decide)) rfl rfl rfl rfl
set_option maxHeartbeats 2000000 in
theorem kX3_thrown (th n : Int32) : AMet yX3_thrown cX3_thrown 1 (some .int) { frames := 0, cells := 0, slots := 0, locals := 0 } [.ref 0] (hO th n) (some (.int th)) (hO th n) := by
  refine AMet.of (by decide) rfl ?_
  intro G hR hE hI
  refine AW.blk (amX3_thrown _) 0 2 (h' := [aO 3 [.int th, .ref 101, .ref 102, .ref 103, .int n, .ref 104, .ref 105, .ref 106, .ref 115]]) (pc' := 4) (lv' := [(0, .ref 0)]) (st' := [.int th]) (L := []) rfl trivial ?_
  exact AW.iretE (amX3_thrown _) 2 hE rfl rfl (by first | rfl | exact narrow_b _ (by decide)) rfl rfl rfl rfl
